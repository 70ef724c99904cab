variable {sT : pd_S}
/-! sums, and what the document reckons, over rows of numbers -/
def sm (f : Int → Int) : Nat → Int
  | 0 => 0
  | k + 1 => sm f k + f k
def Sm (f : Int → Int) (n : Int) : Int := sm f n.toNat
theorem Sm_0 {f : Int → Int} : Sm f 0 = 0 := rfl
theorem Sm_s {f : Int → Int} {n : Int} (h : 0 ≤ n) : Sm f (n + 1) = Sm f n + f n := by
  obtain ⟨k, rfl⟩ := Int.eq_ofNat_of_zero_le h
  have e : ((k : Int) + 1).toNat = k + 1 := by omega
  unfold Sm
  rw [e]; rfl
theorem Sm_ind {f : Int → Int} {P : Int → Int → Prop} (h0 : P 0 0) (hs : ∀ i x, 0 ≤ i → P i x → P (i + 1) (x + f i)) {n : Int} (h : 0 ≤ n) : P n (Sm f n) := by
  obtain ⟨k, rfl⟩ := Int.eq_ofNat_of_zero_le h
  induction k with
  | zero => exact h0
  | succ k ih =>
    have e : ((k + 1 : Nat) : Int) = (k : Int) + 1 := by omega
    rw [e, Sm_s (by omega)]
    exact hs _ _ (by omega) (ih (by omega))
theorem Sm_congr {f g : Int → Int} {n : Int} (h : ∀ i, 0 ≤ i → i < n → f i = g i) : Sm f n = Sm g n := by
  rcases Int.lt_or_le n 0 with h0 | h0
  · have e : n.toNat = 0 := by omega
    unfold Sm; rw [e]; rfl
  · obtain ⟨k, rfl⟩ := Int.eq_ofNat_of_zero_le h0
    clear h0
    induction k with
    | zero => rfl
    | succ k ih =>
      have e : ((k + 1 : Nat) : Int) = (k : Int) + 1 := by omega
      rw [e, Sm_s (by omega), Sm_s (by omega), ih (fun i a b => h i a (by omega)), h k (by omega) (by omega)]
theorem Sm_zero {f : Int → Int} {n : Int} (h : ∀ i, 0 ≤ i → i < n → f i = 0) : Sm f n = 0 := by
  rw [Sm_congr (g := fun _ => 0) h]
  rcases Int.lt_or_le n 0 with h0 | h0
  · have e : n.toNat = 0 := by omega
    unfold Sm; rw [e]; rfl
  · exact Sm_ind (f := fun _ => 0) (P := fun _ x => x = 0) rfl (fun i x _ hx => by simp [hx]) h0
theorem Sm_bd {f : Int → Int} {lo hi n : Int} (h0 : 0 ≤ n) (h : ∀ i, 0 ≤ i → i < n → lo ≤ f i ∧ f i ≤ hi) : lo * n ≤ Sm f n ∧ Sm f n ≤ hi * n := by
  obtain ⟨k, rfl⟩ := Int.eq_ofNat_of_zero_le h0
  clear h0
  induction k with
  | zero => simp [Sm_0]
  | succ k ih =>
    have e : ((k + 1 : Nat) : Int) = (k : Int) + 1 := by omega
    have a := ih (fun i a b => h i a (by omega))
    have b := h k (by omega) (by omega)
    rw [e, Sm_s (by omega), Int.mul_add, Int.mul_add, Int.mul_one, Int.mul_one]
    omega
theorem Sm_add {f g : Int → Int} {n : Int} (h0 : 0 ≤ n) : Sm (fun i => f i + g i) n = Sm f n + Sm g n := by
  obtain ⟨k, rfl⟩ := Int.eq_ofNat_of_zero_le h0
  clear h0
  induction k with
  | zero => rfl
  | succ k ih =>
    have e : ((k + 1 : Nat) : Int) = (k : Int) + 1 := by omega
    rw [e, Sm_s (by omega), Sm_s (by omega), Sm_s (by omega), ih]
    omega
theorem Sm_le {f g : Int → Int} {n : Int} (h0 : 0 ≤ n) (h : ∀ i, 0 ≤ i → i < n → f i ≤ g i) : Sm f n ≤ Sm g n := by
  obtain ⟨k, rfl⟩ := Int.eq_ofNat_of_zero_le h0
  clear h0
  induction k with
  | zero => exact Int.le_refl _
  | succ k ih =>
    have e : ((k + 1 : Nat) : Int) = (k : Int) + 1 := by omega
    have a := ih (fun i a b => h i a (by omega))
    have b := h k (by omega) (by omega)
    rw [e, Sm_s (by omega), Sm_s (by omega)]
    omega
/-- a sum with one term more at j -/
theorem Sm_up {f : Int → Int} {n j v : Int} (h0 : 0 ≤ j) (h1 : j < n) : Sm (fun i => if i = j then f i + v else f i) n = Sm f n + v := by
  obtain ⟨k, rfl⟩ := Int.eq_ofNat_of_zero_le (show 0 ≤ n by omega)
  induction k with
  | zero => omega
  | succ k ih =>
    have e : ((k + 1 : Nat) : Int) = (k : Int) + 1 := by omega
    rw [e, Sm_s (by omega), Sm_s (by omega)]
    by_cases hj : (k : Int) = j
    · rw [if_pos hj, Sm_congr (g := f) (fun i a b => by rw [if_neg (by omega)])]
      omega
    · rw [if_neg hj, ih (by omega)]
      omega
/-- a choice by any statement -/
noncomputable def ci {α : Type} (p : Prop) (x y : α) : α := @ite α p (Classical.propDecidable p) x y
theorem ci_t {α : Type} {p : Prop} {x y : α} (h : p) : ci p x y = x := by unfold ci; rw [if_pos h]
theorem ci_f {α : Type} {p : Prop} {x y : α} (h : ¬ p) : ci p x y = y := by unfold ci; rw [if_neg h]
theorem ci_c {α : Type} {p q : Prop} {x y : α} (h : p ↔ q) : ci p x y = ci q x y := by rw [propext h]
theorem ci_o {α : Type} (p : Prop) (x y : α) : (p ∧ ci p x y = x) ∨ (¬ p ∧ ci p x y = y) := by
  rcases Classical.em p with h | h
  · exact Or.inl ⟨h, ci_t h⟩
  · exact Or.inr ⟨h, ci_f h⟩

/-! lists of parts: pm how many, pt to whom (16 and on: a trust), pw weights; list l: 5 l and on -/
def lW (pw : Int → Int) (l j : Int) : Int := Sm (fun i => pw (5 * l + i)) j
def lFl (pm pt pw : Int → Int) : Nat → Int → Prop
  | 0, _ => False
  | k + 1, l => lW pw l (pm l) = 0 ∨ ∃ i, 0 ≤ i ∧ i < pm l ∧ 16 ≤ pt (5 * l + i) ∧ lFl pm pt pw k (pt (5 * l + i) - 16)
def mx (f : Int → Int) : Nat → Int
  | 0 => 1
  | k + 1 => max (mx f k) (f k)
def Mx (f : Int → Int) (n : Int) : Int := mx f n.toNat
theorem Mx_s {f : Int → Int} {n : Int} (h : 0 ≤ n) : Mx f (n + 1) = max (Mx f n) (f n) := by
  obtain ⟨k, rfl⟩ := Int.eq_ofNat_of_zero_le h
  have e : ((k : Int) + 1).toNat = k + 1 := by omega
  unfold Mx
  rw [e]; rfl
def lDp (pm pt : Int → Int) : Nat → Int → Int
  | 0, _ => 1
  | k + 1, l => Mx (fun i => if pt (5 * l + i) < 16 then 1 else 1 + lDp pm pt k (pt (5 * l + i) - 16)) (pm l)
def lWy (pm pt : Int → Int) : Nat → Int → Int → Int
  | 0, _, _ => 0
  | k + 1, l, p => Sm (fun i => if pt (5 * l + i) = p then 1 else if 16 ≤ pt (5 * l + i) then lWy pm pt k (pt (5 * l + i) - 16) p else 0) (pm l)
def lUp (pw : Int → Int) (l w a j : Int) : Int := Int.tdiv (a * lW pw l j) w
def lGv (pm pt pw : Int → Int) : Nat → Int → Int → Int → Int
  | 0, _, _, _ => 0
  | k + 1, l, a, p => Sm (fun i => if 16 ≤ pt (5 * l + i) then lGv pm pt pw k (pt (5 * l + i) - 16) (lUp pw l (lW pw l (pm l)) a (i + 1) - lUp pw l (lW pw l (pm l)) a i) p
      else if pt (5 * l + i) = p then lUp pw l (lW pw l (pm l)) a (i + 1) - lUp pw l (lW pw l (pm l)) a i else 0) (pm l)
/-- a list whose parts are persons below np and trusts below nt -/
def lOk (np : Int) (pm pt pw : Int → Int) (l nt : Int) : Prop :=
  0 ≤ pm l ∧ pm l ≤ 5 ∧ ∀ i, 0 ≤ i → i < pm l → ((0 ≤ pt (5 * l + i) ∧ pt (5 * l + i) < np) ∨ (16 ≤ pt (5 * l + i) ∧ pt (5 * l + i) < 16 + nt)) ∧ 0 ≤ pw (5 * l + i) ∧ pw (5 * l + i) ≤ 99
/-- all lists of a book -/
def lWf (np nt na : Int) (pm pt pw : Int → Int) : Prop :=
  0 ≤ np ∧ np ≤ 12 ∧ 0 ≤ nt ∧ nt ≤ 5 ∧ 0 ≤ na ∧ na ≤ 10 ∧ (∀ t, 0 ≤ t → t < nt → lOk np pm pt pw t t) ∧ ∀ a, 0 ≤ a → a < na → lOk np pm pt pw (5 + a) nt
theorem lW_bd {np nt : Int} {pm pt pw : Int → Int} {l : Int} (h : lOk np pm pt pw l nt) {j : Int} (h0 : 0 ≤ j) (h1 : j ≤ pm l) : 0 ≤ lW pw l j ∧ lW pw l j ≤ 99 * j := by
  have := Sm_bd (f := fun i => pw (5 * l + i)) (lo := 0) (hi := 99) h0 (fun i a b => (h.2.2 i a (by omega)).2)
  unfold lW
  omega
theorem lW_mono {np nt : Int} {pm pt pw : Int → Int} {l : Int} (h : lOk np pm pt pw l nt) {i j : Int} (h0 : 0 ≤ i) (hij : i ≤ j) (h1 : j ≤ pm l) : lW pw l i ≤ lW pw l j := by
  obtain ⟨d, rfl⟩ : ∃ d : Nat, j = i + d := ⟨(j - i).toNat, by omega⟩
  clear hij
  induction d with
  | zero => simp
  | succ d ih =>
    have e : i + ((d + 1 : Nat) : Int) = (i + d) + 1 := by omega
    have a := ih (by omega)
    have b := h.2.2 (i + d) (by omega) (by omega)
    rw [e]
    unfold lW at a ⊢
    rw [Sm_s (by omega)]
    omega
/-- with W > 0: up to j there is something between 0 and a, growing with j -/
theorem lUp_bd {np nt : Int} {pm pt pw : Int → Int} {l a : Int} (h : lOk np pm pt pw l nt) (ha : 0 ≤ a) (hw : lW pw l (pm l) ≠ 0) {j : Int} (h0 : 0 ≤ j) (h1 : j ≤ pm l) :
    0 ≤ lUp pw l (lW pw l (pm l)) a j ∧ lUp pw l (lW pw l (pm l)) a j ≤ a := by
  have hb := lW_bd h h0 h1
  have hm := lW_mono h h0 h1 (Int.le_refl _)
  have hW : 0 < lW pw l (pm l) := by omega
  unfold lUp
  rw [Int.tdiv_eq_ediv_of_nonneg (Int.mul_nonneg ha hb.1)]
  refine ⟨Int.ediv_nonneg (Int.mul_nonneg ha hb.1) (by omega), ?_⟩
  have := Int.ediv_le_ediv hW (Int.mul_le_mul_of_nonneg_left hm ha)
  rw [Int.mul_ediv_cancel _ (by omega)] at this
  exact this
theorem lUp_mono {np nt : Int} {pm pt pw : Int → Int} {l a : Int} (h : lOk np pm pt pw l nt) (ha : 0 ≤ a) (hw : lW pw l (pm l) ≠ 0) {i j : Int} (h0 : 0 ≤ i) (hij : i ≤ j) (h1 : j ≤ pm l) :
    lUp pw l (lW pw l (pm l)) a i ≤ lUp pw l (lW pw l (pm l)) a j := by
  have hb := lW_bd h h0 (Int.le_trans hij h1)
  have hb2 := lW_bd h (Int.le_trans h0 hij) h1
  have hm := lW_mono h h0 hij h1
  have hm2 := lW_mono h (Int.le_trans h0 hij) h1 (Int.le_refl _)
  unfold lUp
  rw [Int.tdiv_eq_ediv_of_nonneg (Int.mul_nonneg ha hb.1), Int.tdiv_eq_ediv_of_nonneg (Int.mul_nonneg ha hb2.1)]
  exact Int.ediv_le_ediv (by omega) (Int.mul_le_mul_of_nonneg_left hm ha)
theorem lUp_0 {pw : Int → Int} {l w a : Int} : lUp pw l w a 0 = 0 := by unfold lUp lW; rw [Sm_0]; simp
/-- what the part i of a list gives to p -/
def lGt (pm pt pw : Int → Int) (k : Nat) (l a p i : Int) : Int := if 16 ≤ pt (5 * l + i) then lGv pm pt pw k (pt (5 * l + i) - 16) (lUp pw l (lW pw l (pm l)) a (i + 1) - lUp pw l (lW pw l (pm l)) a i) p
  else if pt (5 * l + i) = p then lUp pw l (lW pw l (pm l)) a (i + 1) - lUp pw l (lW pw l (pm l)) a i else 0
theorem lGv_s {pm pt pw : Int → Int} {k : Nat} {l a p : Int} : lGv pm pt pw (k + 1) l a p = Sm (lGt pm pt pw k l a p) (pm l) := rfl
/-- what the first n parts give lies between nothing and what there is up to them, for any list that doesn't fail -/
theorem lGs_bd {np : Int} {pm pt pw : Int → Int} (hnp : np ≤ 12) : ∀ (k : Nat) (l nt a p : Int), lOk np pm pt pw l nt → (∀ t, 0 ≤ t → t < nt → lOk np pm pt pw t t) → nt < (k : Int) + 1 → ¬ lFl pm pt pw (k + 1) l → 0 ≤ a →
    ∀ n : Nat, (n : Int) ≤ pm l → 0 ≤ Sm (lGt pm pt pw k l a p) n ∧ Sm (lGt pm pt pw k l a p) n ≤ lUp pw l (lW pw l (pm l)) a n
  | k, l, nt, a, p, h, ht, hk, hf, ha => by
    have hw : lW pw l (pm l) ≠ 0 := fun e => hf (Or.inl e)
    intro n
    induction n with
    | zero => intro _; rw [show ((0 : Nat) : Int) = 0 from rfl, lUp_0]; exact ⟨Int.le_refl _, Int.le_refl _⟩
    | succ n ih =>
      intro hn
      have b := ih (by omega)
      have e : ((n + 1 : Nat) : Int) = (n : Int) + 1 := by omega
      have m := lUp_mono h ha hw (i := n) (j := n + 1) (by omega) (by omega) (by omega)
      rw [e, Sm_s (by omega)]
      have hp := (h.2.2 n (by omega) (by omega)).1
      unfold lGt at b ⊢
      split
      · rename_i h16
        have hfk : ¬ lFl pm pt pw k (pt (5 * l + n) - 16) := fun e => hf (Or.inr ⟨n, by omega, by omega, h16, e⟩)
        match k, hk, hfk, b with
        | 0, hk, hfk, b =>
          show 0 ≤ _ + (0 : Int) ∧ _ + (0 : Int) ≤ _
          omega
        | k + 1, hk, hfk, b =>
          have ho := ht (pt (5 * l + n) - 16) (by omega) (by omega)
          have hw2 : lW pw (pt (5 * l + n) - 16) (pm (pt (5 * l + n) - 16)) ≠ 0 := fun e => hfk (Or.inl e)
          have h0 := ho.1
          have c := lGs_bd hnp k (pt (5 * l + n) - 16) (pt (5 * l + n) - 16) (lUp pw l (lW pw l (pm l)) a (n + 1) - lUp pw l (lW pw l (pm l)) a n) p ho (fun t a b => ht t a (by omega)) (by omega) hfk (by omega) (pm (pt (5 * l + n) - 16)).toNat (by omega)
          have d := lUp_bd (a := lUp pw l (lW pw l (pm l)) a (n + 1) - lUp pw l (lW pw l (pm l)) a n) ho (by omega) hw2 h0 (Int.le_refl _)
          rw [show (((pm (pt (5 * l + n) - 16)).toNat : Nat) : Int) = pm (pt (5 * l + n) - 16) by omega, ← lGv_s] at c
          omega
      · split <;> omega
  termination_by k => k
theorem lGv_bd {np : Int} {pm pt pw : Int → Int} (hnp : np ≤ 12) {k : Nat} {l nt a p : Int} (h : lOk np pm pt pw l nt) (ht : ∀ t, 0 ≤ t → t < nt → lOk np pm pt pw t t) (hk : nt < (k : Int) + 1) (hf : ¬ lFl pm pt pw (k + 1) l) (ha : 0 ≤ a) :
    0 ≤ lGv pm pt pw (k + 1) l a p ∧ lGv pm pt pw (k + 1) l a p ≤ a := by
  have h0 := h.1
  have hw : lW pw l (pm l) ≠ 0 := fun e => hf (Or.inl e)
  have c := lGs_bd hnp k l nt a p h ht hk hf ha (pm l).toNat (by omega)
  have d := lUp_bd h ha hw h0 (Int.le_refl _)
  rw [show (((pm l).toNat : Nat) : Int) = pm l by omega, ← lGv_s] at c
  omega

