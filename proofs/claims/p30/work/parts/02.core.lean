
/-! The core layer: a flat memory of whole numbers, its relation to the heap, and one rule an instruction. -/
theorem pd_aoA {t : FieldType} {A A' : Array Value} {u U : State} (hvm : u.vm.Alike U.vm) (h : (Cond.arrayOver (.array t)).before A u = true) : (Cond.arrayOver (.array t)).before A' U = true := by
  have h : (Cond.arrayOver (.array t)).holds A u none u [] = true := h
  simp only [Cond.holds, Cond.value, beq_iff_eq] at h
  cases hc : u.vm.findClass (FieldType.array t).toString with
  | none => simp [hc] at h
  | some comp =>
    simp only [hc, Option.bind_some, Option.bind_eq_some_iff, Option.map_eq_some_iff] at h
    obtain ⟨c, hi, k, hk, hb⟩ := h
    obtain ⟨k', hk', he⟩ := hvm.2.2 _ _ hk
    have hkk : k'.kind = k.kind := by rw [he]
    have e1 : U.vm.findClass (FieldType.array t).toString = some comp := by rw [hvm.findClass]; exact hc
    have e2 : U.vm.findClass ("[" ++ (FieldType.array t).toString) = u.vm.findClass ("[" ++ (FieldType.array t).toString) := by rw [hvm.findClass]
    show (Cond.arrayOver (.array t)).holds A' U none U [] = true
    simp only [Cond.holds, Cond.value, e1, Option.bind_some, beq_iff_eq]
    rw [Option.bind_eq_some_iff]
    refine ⟨c, (hvm.findIdx?_eqK _ (fun _ => rfl)).trans hi, ?_⟩
    rw [hk', Option.map_some, hkk, e2]
    exact congrArg some hb
def pd_gw : Cond → Bool
  | .fieldLinkNest .. => true
  | .methodLinkNest .. => true
  | .arrayOver (.object _) => true
  | .arrayOver (.array _) => true
  | .castable .. => true
  | .declares .. => true
  | w => goodWord w
/-- private members of the builder's class, asked of a builder -/
def pd_asb : List Cond := [.selects "java/lang/StringBuilder" ⟨"java/lang/AbstractStringBuilder", "ensureCapacityInternal", "(I)V"⟩ ⟨"java/lang/AbstractStringBuilder", "ensureCapacityInternal", "(I)V"⟩, .selects "java/lang/StringBuilder" ⟨"java/lang/AbstractStringBuilder", "newCapacity", "(I)I"⟩ ⟨"java/lang/AbstractStringBuilder", "newCapacity", "(I)I"⟩, .selects "java/lang/StringBuilder" ⟨"java/lang/AbstractStringBuilder", "putStringAt", "(ILjava/lang/String;)V"⟩ ⟨"java/lang/AbstractStringBuilder", "putStringAt", "(ILjava/lang/String;)V"⟩, .selects "java/lang/StringBuilder" ⟨"java/lang/AbstractStringBuilder", "inflateIfNeededFor", "(Ljava/lang/String;)V"⟩ ⟨"java/lang/AbstractStringBuilder", "inflateIfNeededFor", "(Ljava/lang/String;)V"⟩]
def pd_tb : List Cond := lw_tbl ++ pd_asb
def pd_gt : List Cond := pd_tb.filter pd_gw
theorem pd_in {w : Cond} (i : Nat) (h : pd_tb[i]? = some w) (hg : pd_gw w = true) : w ∈ pd_gt := List.mem_filter.mpr ⟨List.mem_of_getElem? h, hg⟩
theorem pd_warm1 {args a' : Array Value} {s U : State} (hW : s.WarmedH U.vm) {w : Cond} (hg : pd_gw w = true) (h : w.before args s = true) : w.before a' U = true := by
  unfold pd_gw at hg
  split at hg
  · exact va_Nw.use rfl (va_Nw.warmF hW (va_Nw.of rfl h))
  · exact va_Nw.use rfl (va_Nw.warmM hW (va_Nw.of rfl h))
  · exact va_AO.use (va_AO.moved hW.alike (va_AO.of h))
  · exact pd_aoA hW.alike h
  · exact va_Nw.use rfl (va_Nw.warmC hW (va_Nw.of rfl h))
  · exact va_Nw.use rfl (va_Nw.warmD hW (va_Nw.of rfl h))
  · exact word_at hW (good_of_word hg) h
theorem pd_warm {args : Array Value} {s : State} (h : ∀ w ∈ pd_gt, w.before args s = true) : ∀ w ∈ pd_gt, ∀ (a' : Array Value) (U : State), s.WarmedH U.vm → w.before a' U = true :=
  fun w hw _ _ hW => pd_warm1 hW (List.mem_filter.mp hw).2 (h w hw)

/-- 32 and 64 bits, of whole numbers -/
def pd_w (x : Int) : Int := (x + 2147483648) % 4294967296 - 2147483648
def pd_W (x : Int) : Int := (x + 9223372036854775808) % 18446744073709551616 - 9223372036854775808
def pd_b (x : Int) : Int := (x + 128) % 256 - 128
theorem pd_w_eq (x : Int) : Int.bmod x (2 ^ 32) = pd_w x := by
  unfold pd_w
  rw [Int.bmod_def]
  simp only [show ((2 ^ 32 : Nat) : Int) = 4294967296 from rfl]
  split <;> omega
theorem pd_W_eq (x : Int) : Int.bmod x (2 ^ 64) = pd_W x := by
  unfold pd_W
  rw [Int.bmod_def]
  simp only [show ((2 ^ 64 : Nat) : Int) = 18446744073709551616 from rfl]
  split <;> omega
theorem pd_b_eq (x : Int) : Int.bmod x (2 ^ 8) = pd_b x := by
  unfold pd_b
  rw [Int.bmod_def]
  simp only [show ((2 ^ 8 : Nat) : Int) = 256 from rfl]
  split <;> omega
theorem pd_w_id {x : Int} (h1 : -2147483648 ≤ x) (h2 : x < 2147483648) : pd_w x = x := by unfold pd_w; omega
theorem pd_W_id {x : Int} (h1 : -9223372036854775808 ≤ x) (h2 : x < 9223372036854775808) : pd_W x = x := by unfold pd_W; omega
def pd_and (x y : Int) : Int := (Int32.ofInt x &&& Int32.ofInt y).toInt
def pd_or (x y : Int) : Int := (Int32.ofInt x ||| Int32.ofInt y).toInt
def pd_xor (x y : Int) : Int := (Int32.ofInt x ^^^ Int32.ofInt y).toInt
def pd_shl (x y : Int) : Int := (Int32.ofInt x <<< (Int32.ofInt y &&& 31)).toInt
def pd_shr (x y : Int) : Int := (Int32.ofInt x >>> (Int32.ofInt y &&& 31)).toInt
def pd_ushr (x y : Int) : Int := ((Int32.ofInt x).toUInt32 >>> ((Int32.ofInt y).toUInt32 &&& Int32.toUInt32 31)).toInt32.toInt
def pd_And (x y : Int) : Int := (Int64.ofInt x &&& Int64.ofInt y).toInt
def pd_Or (x y : Int) : Int := (Int64.ofInt x ||| Int64.ofInt y).toInt
def pd_Xor (x y : Int) : Int := (Int64.ofInt x ^^^ Int64.ofInt y).toInt
def pd_Shl (x y : Int) : Int := (Int64.ofInt x <<< ((Int32.ofInt y).toInt64 &&& 63)).toInt
def pd_Shr (x y : Int) : Int := (Int64.ofInt x >>> ((Int32.ofInt y).toInt64 &&& 63)).toInt
def pd_Ushr (x y : Int) : Int := ((Int64.ofInt x).toUInt64 >>> ((Int32.ofInt y).toInt64.toUInt64 &&& Int64.toUInt64 63)).toInt64.toInt
def pd_cmp (x y : Int) : Int := if y < x then 1 else if x = y then 0 else -1
theorem pd_cmp_eq (x y : Int64) : (lg_cmp x y).toInt = pd_cmp x.toInt y.toInt := by
  unfold lg_cmp pd_cmp
  simp only [gt_iff_lt, Int64.lt_iff_toInt_lt, ← Int64.toInt_inj]
  split
  · rfl
  · split <;> rfl

/-- a value of the flat machine: an int, a long, a cell (0: null; below 0: a place of the table of strings), or nothing -/
abbrev pd_v : Type := Int ⊕ (Int ⊕ (Int ⊕ Unit))
abbrev pd_I (x : Int) : pd_v := .inl x
abbrev pd_J (x : Int) : pd_v := .inr (.inl x)
abbrev pd_R (x : Int) : pd_v := .inr (.inr (.inl x))
abbrev pd_N : pd_v := .inr (.inr (.inr ()))
abbrev pd_E : Type := va_G × Nat × (Nat → Nat) × (Nat → Nat)
def pd_A (E : pd_E) : Nat → Prop := fun q => E.2.1 < q
def pd_rf (E : pd_E) (a : Int) : Value := if a = 0 then .null else if a < 0 then .ref (E.2.2.1 (-a - 1).toNat) else .ref (E.2.1 + a.toNat)
def pd_rv (E : pd_E) (v : Value) (x : pd_v) : Prop := match x with
  | .inl n => ∃ y : Int32, v = .int y ∧ y.toInt = n
  | .inr (.inl n) => ∃ y : Int64, v = .long y ∧ y.toInt = n
  | .inr (.inr (.inl a)) => v = pd_rf E a
  | .inr (.inr (.inr _)) => False
def pd_sv (E : pd_E) : List Value → List pd_v → Prop
  | [], [] => True
  | v :: st, x :: S => pd_rv E v x ∧ pd_sv E st S
  | _, _ => False
theorem pd_sv_cons {E : pd_E} {st : List Value} {x : pd_v} {S : List pd_v} (h : pd_sv E st (x :: S)) : ∃ v st', st = v :: st' ∧ pd_rv E v x ∧ pd_sv E st' S := by
  cases st with
  | nil => exact absurd h (by simp [pd_sv])
  | cons v st' => exact ⟨v, st', rfl, h.1, h.2⟩
theorem pd_sv_nil {E : pd_E} {st : List Value} (h : pd_sv E st []) : st = [] := by
  cases st with
  | nil => rfl
  | cons v st' => exact absurd h (by simp [pd_sv])
theorem pd_sv_len {E : pd_E} : ∀ {st : List Value} {S : List pd_v}, pd_sv E st S → st.length = S.length
  | [], [], _ => rfl
  | _ :: _, _ :: _, h => by simp [pd_sv_len h.2]
  | [], _ :: _, h => absurd h (by simp [pd_sv])
  | _ :: _, [], h => absurd h (by simp [pd_sv])
theorem pd_sv_split {E : pd_E} : ∀ {st : List Value} (S1 : List pd_v) {S2 : List pd_v}, pd_sv E st (S1 ++ S2) → ∃ st1 st2, st = st1 ++ st2 ∧ pd_sv E st1 S1 ∧ pd_sv E st2 S2
  | st, [], _, h => ⟨[], st, rfl, trivial, h⟩
  | [], _ :: _, _, h => absurd h (by simp [pd_sv])
  | v :: st, x :: S1, S2, h => by
    obtain ⟨st1, st2, e, h1, h2⟩ := pd_sv_split S1 h.2
    exact ⟨v :: st1, st2, by rw [e]; rfl, ⟨h.1, h1⟩, h2⟩
theorem pd_sv_app {E : pd_E} : ∀ {st1 st2 : List Value} {S1 S2 : List pd_v}, pd_sv E st1 S1 → pd_sv E st2 S2 → pd_sv E (st1 ++ st2) (S1 ++ S2)
  | [], _, [], _, _, h => h
  | _ :: _, _, _ :: _, _, h1, h => ⟨h1.1, pd_sv_app h1.2 h⟩
  | [], _, _ :: _, _, h, _ => absurd h (by simp [pd_sv])
  | _ :: _, _, [], _, h, _ => absurd h (by simp [pd_sv])
theorem pd_sv_rev {E : pd_E} : ∀ {st : List Value} {S : List pd_v}, pd_sv E st S → pd_sv E st.reverse S.reverse
  | [], [], _ => trivial
  | v :: st, x :: S, h => by
    rw [List.reverse_cons, List.reverse_cons]
    exact pd_sv_app (pd_sv_rev h.2) ⟨h.1, trivial⟩
  | [], _ :: _, h => absurd h (by simp [pd_sv])
  | _ :: _, [], h => absurd h (by simp [pd_sv])
def pd_c1 : pd_v → Nat
  | .inr (.inl _) => 2
  | _ => 1
def pd_cat : List pd_v → Nat
  | [] => 0
  | x :: S => pd_c1 x + pd_cat S
theorem pd_rf_cat (E : pd_E) (a : Int) : (pd_rf E a).category = 1 := by
  unfold pd_rf
  split
  · rfl
  · split <;> rfl
theorem pd_rv_cat {E : pd_E} {v : Value} {x : pd_v} (h : pd_rv E v x) : v.category = pd_c1 x := by
  match x, h with
  | .inl n, ⟨y, h1, _⟩ => rw [h1]; rfl
  | .inr (.inl n), ⟨y, h1, _⟩ => rw [h1]; rfl
  | .inr (.inr (.inl a)), h => rw [show v = pd_rf E a from h, pd_rf_cat]; rfl
theorem pd_sv_cat {E : pd_E} : ∀ {st : List Value} {S : List pd_v}, pd_sv E st S → (st.map fun v => v.category).sum = pd_cat S
  | [], [], _ => rfl
  | v :: st, x :: S, h => by
    show (v.category :: st.map fun v => v.category).sum = pd_c1 x + pd_cat S
    rw [List.sum_cons, pd_rv_cat h.1, pd_sv_cat h.2]
  | [], _ :: _, h => absurd h (by simp [pd_sv])
  | _ :: _, [], h => absurd h (by simp [pd_sv])
/-- locals -/
def pd_lv (E : pd_E) (ls : Array Slot) (nL : Nat) (L : List pd_v) : Prop := ∃ lv : List (Nat × Value), lv_has ls nL lv ∧ ∀ (i : Nat) (x : pd_v), L[i]? = some x → x = pd_N ∨ ∃ v, (i, v) ∈ lv ∧ pd_rv E v x
theorem pd_lv_at {E : pd_E} {ls : Array Slot} {nL : Nat} {L : List pd_v} (h : pd_lv E ls nL L) {i : Nat} {x : pd_v} (hi : L[i]? = some x) (hx : x ≠ pd_N) : ∃ v, ls[i]? = some (.val v) ∧ pd_rv E v x := by
  obtain ⟨lv, h1, h2⟩ := h
  rcases h2 i x hi with h3 | ⟨v, h3, h4⟩
  · exact absurd h3 hx
  · exact ⟨v, h1.2.2 _ h3, h4⟩
def pd_kl : pd_v → pd_v
  | .inr (.inl _) => pd_N
  | x => x
/-- storing a value of one slot; of two -/
def pd_st1 : List pd_v → Nat → pd_v → List pd_v
  | [], _, _ => []
  | _ :: l, 0, x => x :: l
  | y :: l, 1, x => pd_kl y :: pd_st1 l 0 x
  | y :: l, n + 2, x => y :: pd_st1 l (n + 1) x
def pd_hd : List pd_v → List pd_v
  | [] => []
  | _ :: l => pd_N :: l
def pd_st2 : List pd_v → Nat → pd_v → List pd_v
  | [], _, _ => []
  | _ :: l, 0, x => x :: pd_hd l
  | y :: l, 1, x => pd_kl y :: pd_st2 l 0 x
  | y :: l, n + 2, x => y :: pd_st2 l (n + 1) x
theorem pd_kl_get {y z : pd_v} (h : pd_kl y = z) : z = pd_N ∨ (y = z ∧ ∀ n, z ≠ pd_J n) := by
  match y, h with
  | .inl n, h => exact Or.inr ⟨h, fun k e => by rw [← h] at e; cases e⟩
  | .inr (.inl n), h => exact Or.inl h.symm
  | .inr (.inr n), h => exact Or.inr ⟨h, fun k e => by rw [← h] at e; cases e⟩
theorem pd_st1_get : ∀ (L : List pd_v) (i : Nat) (x : pd_v) (j : Nat) (z : pd_v), (pd_st1 L i x)[j]? = some z → z = pd_N ∨ (j = i ∧ z = x) ∨ (j ≠ i ∧ L[j]? = some z ∧ (j + 1 = i → ∀ n, z ≠ pd_J n))
  | [], i, x, j, z, h => by simp [pd_st1] at h
  | y :: l, 0, x, j, z, h => by
    cases j with
    | zero => simp [pd_st1] at h; exact Or.inr (Or.inl ⟨rfl, h.symm⟩)
    | succ j => simp [pd_st1] at h; exact Or.inr (Or.inr ⟨by omega, by simpa using h, fun e => by omega⟩)
  | y :: l, 1, x, j, z, h => by
    cases j with
    | zero =>
      simp [pd_st1] at h
      rcases pd_kl_get h with h1 | ⟨h1, h2⟩
      · exact Or.inl h1
      · exact Or.inr (Or.inr ⟨by omega, by simp [h1], fun _ => h2⟩)
    | succ j =>
      simp [pd_st1] at h
      rcases pd_st1_get l 0 x j z h with h1 | ⟨h1, h2⟩ | ⟨h1, h2, h3⟩
      · exact Or.inl h1
      · exact Or.inr (Or.inl ⟨by omega, h2⟩)
      · exact Or.inr (Or.inr ⟨by omega, by simpa using h2, fun e => by omega⟩)
  | y :: l, n + 2, x, j, z, h => by
    cases j with
    | zero => simp [pd_st1] at h; exact Or.inr (Or.inr ⟨by omega, by simp [h], fun e => by omega⟩)
    | succ j =>
      simp [pd_st1] at h
      rcases pd_st1_get l (n + 1) x j z h with h1 | ⟨h1, h2⟩ | ⟨h1, h2, h3⟩
      · exact Or.inl h1
      · exact Or.inr (Or.inl ⟨by omega, h2⟩)
      · exact Or.inr (Or.inr ⟨by omega, by simpa using h2, fun e => h3 (by omega)⟩)
theorem pd_st2_get : ∀ (L : List pd_v) (i : Nat) (x : pd_v) (j : Nat) (z : pd_v), (pd_st2 L i x)[j]? = some z → z = pd_N ∨ (j = i ∧ z = x) ∨ (j ≠ i ∧ j ≠ i + 1 ∧ L[j]? = some z ∧ (j + 1 = i → ∀ n, z ≠ pd_J n))
  | [], i, x, j, z, h => by simp [pd_st2] at h
  | y :: l, 0, x, j, z, h => by
    match j with
    | 0 => simp [pd_st2] at h; exact Or.inr (Or.inl ⟨rfl, h.symm⟩)
    | 1 =>
      cases l with
      | nil => simp [pd_st2, pd_hd] at h
      | cons y2 l => simp [pd_st2, pd_hd] at h; exact Or.inl h.symm
    | j + 2 =>
      cases l with
      | nil => simp [pd_st2, pd_hd] at h
      | cons y2 l => simp [pd_st2, pd_hd] at h; exact Or.inr (Or.inr ⟨by omega, by omega, by simpa using h, fun e => by omega⟩)
  | y :: l, 1, x, j, z, h => by
    cases j with
    | zero =>
      simp [pd_st2] at h
      rcases pd_kl_get h with h1 | ⟨h1, h2⟩
      · exact Or.inl h1
      · exact Or.inr (Or.inr ⟨by omega, by omega, by simp [h1], fun _ => h2⟩)
    | succ j =>
      simp [pd_st2] at h
      rcases pd_st2_get l 0 x j z h with h1 | ⟨h1, h2⟩ | ⟨h1, h1', h2, h3⟩
      · exact Or.inl h1
      · exact Or.inr (Or.inl ⟨by omega, h2⟩)
      · exact Or.inr (Or.inr ⟨by omega, by omega, by simpa using h2, fun e => by omega⟩)
  | y :: l, n + 2, x, j, z, h => by
    cases j with
    | zero => simp [pd_st2] at h; exact Or.inr (Or.inr ⟨by omega, by omega, by simp [h], fun e => by omega⟩)
    | succ j =>
      simp [pd_st2] at h
      rcases pd_st2_get l (n + 1) x j z h with h1 | ⟨h1, h2⟩ | ⟨h1, h1', h2, h3⟩
      · exact Or.inl h1
      · exact Or.inr (Or.inl ⟨by omega, h2⟩)
      · exact Or.inr (Or.inr ⟨by omega, by omega, by simpa using h2, fun e => h3 (by omega)⟩)
theorem pd_lv_s1 {E : pd_E} {lv : List (Nat × Value)} {L : List pd_v} (h : ∀ (i : Nat) (x : pd_v), L[i]? = some x → x = pd_N ∨ ∃ v, (i, v) ∈ lv ∧ pd_rv E v x) {i : Nat} {v : Value} {x : pd_v} (hv : pd_rv E v x) :
    ∀ (j : Nat) (z : pd_v), (pd_st1 L i x)[j]? = some z → z = pd_N ∨ ∃ w, (j, w) ∈ ((i, v) :: lv.filter (fun q => !(q.1 == i) && !(q.1 + 1 == i && q.2.category == 2))) ∧ pd_rv E w z := by
  intro j z hz
  rcases pd_st1_get L i x j z hz with h1 | ⟨h1, h2⟩ | ⟨h1, h2, h3⟩
  · exact Or.inl h1
  · subst h1; subst h2
    exact Or.inr ⟨v, List.mem_cons_self, hv⟩
  · rcases h j z h2 with h4 | ⟨w, h4, h5⟩
    · exact Or.inl h4
    · refine Or.inr ⟨w, List.mem_cons_of_mem _ (List.mem_filter.mpr ⟨h4, ?_⟩), h5⟩
      by_cases hj : j + 1 = i
      · have h6 := h3 hj
        have hc : w.category = 1 := by
          rw [pd_rv_cat h5]
          match z, h6 with
          | .inl n, _ => rfl
          | .inr (.inl n), h6 => exact absurd rfl (h6 n)
          | .inr (.inr n), _ => rfl
        simp [h1, hc]
      · simp [h1, hj]
theorem pd_lv_s2 {E : pd_E} {lv : List (Nat × Value)} {L : List pd_v} (h : ∀ (i : Nat) (x : pd_v), L[i]? = some x → x = pd_N ∨ ∃ v, (i, v) ∈ lv ∧ pd_rv E v x) {i : Nat} {v : Value} {x : pd_v} (hv : pd_rv E v x) :
    ∀ (j : Nat) (z : pd_v), (pd_st2 L i x)[j]? = some z → z = pd_N ∨ ∃ w, (j, w) ∈ ((i, v) :: lv.filter (fun q => !(q.1 == i) && (!(q.1 == i + 1) && !(q.1 + 1 == i && q.2.category == 2)))) ∧ pd_rv E w z := by
  intro j z hz
  rcases pd_st2_get L i x j z hz with h1 | ⟨h1, h2⟩ | ⟨h1, h1', h2, h3⟩
  · exact Or.inl h1
  · subst h1; subst h2
    exact Or.inr ⟨v, List.mem_cons_self, hv⟩
  · rcases h j z h2 with h4 | ⟨w, h4, h5⟩
    · exact Or.inl h4
    · refine Or.inr ⟨w, List.mem_cons_of_mem _ (List.mem_filter.mpr ⟨h4, ?_⟩), h5⟩
      by_cases hj : j + 1 = i
      · have h6 := h3 hj
        have hc : w.category = 1 := by
          rw [pd_rv_cat h5]
          match z, h6 with
          | .inl n, _ => rfl
          | .inr (.inl n), h6 => exact absurd rfl (h6 n)
          | .inr (.inr n), _ => rfl
        simp [h1, h1', hc]
      · simp [h1, h1', hj]
