
/-! the world: the cells as the flat memory has them -/
def pd_ty : Nat → Nat → FieldType := fun ci => match ci with
  | 0 => tyX0 | 1 => tyX1 | 2 => tyX2 | 3 => tyX3 | 4 => tyX4 | 5 => tyX5 | 6 => tyX6 | 7 => tyX7 | 8 => tyX8 | 9 => tyX9 | 10 => tyX10 | 11 => tyX11 | 12 => tyJ0 | _ => tyJ4
def pd_tag : FieldType → Int → pd_v
  | .long, n => pd_J n
  | .object _, n => pd_R n
  | .array _, n => pd_R n
  | _, n => pd_I n
def pd_pt : Nat → FieldType
  | 0 => .int
  | 1 => .byte
  | _ => .boolean
abbrev pd_S : Type := List (Nat × Nat × Nat)
abbrev pd_F : Type := Int → Int → Int
def pd_up (F : pd_F) (a i v : Int) : pd_F := fun b j => if b = a ∧ j = i then v else F b j
theorem pd_up_eq {F : pd_F} {a i v : Int} : pd_up F a i v a i = v := by simp [pd_up]
theorem pd_up_a {F : pd_F} {a i v b j : Int} (h : b ≠ a) : pd_up F a i v b j = F b j := by simp [pd_up, h]
theorem pd_up_i {F : pd_F} {a i v b j : Int} (h : j ≠ i) : pd_up F a i v b j = F b j := by simp [pd_up, h]
/-- what a cell of a shape holds: 0 a row of ints (k 0), bytes (1), booleans (2); 1 longs; 2 references to class k; 3 references to rows of ints; 4 an object of class k -/
def pd_wr (E : pd_E) (tys : List (ClassId × FieldType)) (F : pd_F) (a : Int) (c k n : Nat) (e : va_E) : Prop := match c with
  | 0 => ∃ (cA : ClassId) (f : Nat → Int32) (t0 : Nat), e = .inl (cA, n, .inl f) ∧ tys[t0]? = some (cA, pd_pt k) ∧ n < 2147483648 ∧ ∀ j, j < n → (f j).toInt = F a j
  | 1 => ∃ (cA : ClassId) (f : Nat → Int64) (t0 : Nat), e = .inl (cA, n, .inr (.inl f)) ∧ tys[t0]? = some (cA, FieldType.long) ∧ n < 2147483648 ∧ ∀ j, j < n → (f j).toInt = F a j
  | 2 => ∃ (cA : ClassId) (f : Nat → Option Nat) (t0 : Nat) (r : vw_C), vwCl[k]? = some r ∧ e = .inl (cA, n, .inr (.inr (.inr (.inr f)))) ∧ tys[t0]? = some (cA, FieldType.object r.1) ∧ n < 2147483648 ∧ ∀ j, j < n → va_rf (f j) = pd_rf E (F a j)
  | 3 => ∃ (cA : ClassId) (f : Nat → Option Nat) (t0 : Nat), e = .inl (cA, n, .inr (.inr (.inr (.inr f)))) ∧ tys[t0]? = some (cA, FieldType.array FieldType.int) ∧ n < 2147483648 ∧ ∀ j, j < n → va_rf (f j) = pd_rf E (F a j)
  | _ => ∃ (fs : List Value) (r : vw_C), e = .inr (k, fs) ∧ vwCl[k]? = some r ∧ fs.length = r.2.2 ∧ ∀ j, j < r.2.2 → ∃ v, fs[j]? = some v ∧ pd_rv E v (pd_tag (pd_ty k j) (F a j))
def pd_Wd (E : pd_E) (sh : pd_S) (F : pd_F) (s : State) (H : Heap) : Prop := ∃ ws tys, va_K E.1 vwCl tys s ∧ va_P E.1 vwCl ws H ∧ va_D (pd_A E) ws ∧ ws.length = sh.length ∧
  ∀ a c k n, sh[a]? = some (c, k, n) → ∃ e, ws[a]? = some (E.2.1 + (a + 1), e) ∧ pd_wr E tys F ((a + 1 : Nat) : Int) c k n e
def pd_sh (sh : pd_S) (a : Int) : Option (Nat × Nat × Nat) := if a < 1 then none else sh[(a - 1).toNat]?
def pd_ib (sh : pd_S) (c k : Nat) (a i : Int) : Bool := match pd_sh sh a with
  | some (c', k', n) => c' == c && (k' == k && (decide (0 ≤ i) && decide (i < n)))
  | none => false
def pd_ob (sh : pd_S) (k : Nat) (a : Int) : Bool := match pd_sh sh a with
  | some (c', k', _) => c' == 4 && k' == k
  | none => false
def pd_ln (sh : pd_S) (c k : Nat) (a : Int) : Int := match pd_sh sh a with
  | some (c', k', n) => if c' = c ∧ k' = k then (n : Int) else -1
  | none => -1
theorem pd_sh_at {E : pd_E} {sh : pd_S} {F : pd_F} {a : Int} {c k n : Nat} {ws : va_W} {tys : List (ClassId × FieldType)} (hs : pd_sh sh a = some (c, k, n))
    (hW : ∀ a c k n, sh[a]? = some (c, k, n) → ∃ e, ws[a]? = some (E.2.1 + (a + 1), e) ∧ pd_wr E tys F ((a + 1 : Nat) : Int) c k n e) :
    1 ≤ a ∧ sh[(a - 1).toNat]? = some (c, k, n) ∧ ∃ e, ws[(a - 1).toNat]? = some (E.2.1 + a.toNat, e) ∧ pd_rf E a = .ref (E.2.1 + a.toNat) ∧ pd_wr E tys F a c k n e := by
  unfold pd_sh at hs
  split at hs
  · cases hs
  · rename_i h1
    obtain ⟨e, h2, h3⟩ := hW _ _ _ _ hs
    have h4 : (a - 1).toNat + 1 = a.toNat := by omega
    have h5 : ((a.toNat : Nat) : Int) = a := by omega
    rw [h4] at h2 h3
    rw [h5] at h3
    refine ⟨by omega, hs, e, h2, ?_, h3⟩
    unfold pd_rf
    rw [if_neg (by omega), if_neg (by omega)]
theorem pd_ib_spec {sh : pd_S} {c k : Nat} {a i : Int} (h : pd_ib sh c k a i = true) : ∃ n : Nat, pd_sh sh a = some (c, k, n) ∧ 0 ≤ i ∧ i < n := by
  unfold pd_ib at h
  split at h
  · rename_i c' k' n hs
    simp only [Bool.and_eq_true, beq_iff_eq, decide_eq_true_eq] at h
    obtain ⟨rfl, rfl, h1, h2⟩ := h
    exact ⟨n, hs, h1, h2⟩
  · cases h
theorem pd_ob_spec {sh : pd_S} {k : Nat} {a : Int} (h : pd_ob sh k a = true) : ∃ n : Nat, pd_sh sh a = some (4, k, n) := by
  unfold pd_ob at h
  split at h
  · rename_i c' k' n hs
    simp only [Bool.and_eq_true, beq_iff_eq] at h
    obtain ⟨rfl, rfl⟩ := h
    exact ⟨n, hs⟩
  · cases h
theorem pd_ln_spec {sh : pd_S} {c k : Nat} {a : Int} (h : 0 ≤ pd_ln sh c k a) : ∃ n : Nat, pd_sh sh a = some (c, k, n) ∧ pd_ln sh c k a = n := by
  unfold pd_ln at h ⊢
  split at h
  · rename_i c' k' n hs
    split at h
    · rename_i h1
      obtain ⟨rfl, rfl⟩ := h1
      exact ⟨n, by simp [hs], by simp [hs]⟩
    · exact absurd h (by decide)
  · exact absurd h (by decide)

/-! the judgement -/
abbrev pd_M : Type := String × ByteArray × Nat × Option FieldType × String
def pd_strT : List (String × Nat × String × List Int32) := [("PayoutDesk", 162, "no such account or person", [110, 111, 32, 115, 117, 99, 104, 32, 97, 99, 99, 111, 117, 110, 116, 32, 111, 114, 32, 112, 101, 114, 115, 111, 110]), ("PayoutDeskLaw", 68, "cover ", [99, 111, 118, 101, 114, 32]), ("PayoutDeskLaw", 70, ";closed ", [59, 99, 108, 111, 115, 101, 100, 32]), ("PayoutDeskLaw", 72, ";raise ", [59, 114, 97, 105, 115, 101, 32]), ("PayoutDeskLaw", 74, ";", [59]), ("PayoutDeskLaw", 76, "person ", [112, 101, 114, 115, 111, 110, 32]), ("PayoutDeskLaw", 57, "p", [112]), ("PayoutDeskLaw", 55, " ", [32]), ("PayoutDeskLaw", 78, " 9", [32, 57]), ("PayoutDeskLaw", 49, "", []), ("PayoutDeskLaw", 80, " insider", [32, 105, 110, 115, 105, 100, 101, 114]), ("PayoutDeskLaw", 82, "trust ", [116, 114, 117, 115, 116, 32]), ("PayoutDeskLaw", 66, "t", [116]), ("PayoutDeskLaw", 88, "account ", [97, 99, 99, 111, 117, 110, 116, 32]), ("PayoutDeskLaw", 90, "a", [97]), ("PayoutDeskLaw", 92, " balance ", [32, 98, 97, 108, 97, 110, 99, 101, 32]), ("PayoutDeskLaw", 94, "high ", [104, 105, 103, 104, 32]), ("PayoutDeskLaw", 96, " from ", [32, 102, 114, 111, 109, 32]), ("PayoutDeskLaw", 98, " to ", [32, 116, 111, 32]), ("PayoutDeskLaw", 100, ";loan ", [59, 108, 111, 97, 110, 32]), ("PayoutDeskLaw", 102, " due ", [32, 100, 117, 101, 32])]
def pd_len : List Nat := pd_strT.map fun q => q.2.2.2.length
def pd_byt : List (List Int32) := pd_strT.map fun q => q.2.2.2
/-- two rows of digits that the JDK keeps: the ones, the tens of a number below 100 -/
def pd_Dg (E : pd_E) (s : State) (H : Heap) : Prop := (va_Z "java/lang/Integer" "DigitOnes" "[B" (.ref (E.2.2.1 50)) (pd_A E) s H ∧ va_T .byte (E.2.2.1 50) 100 (fun j => .int (Int32.ofNat (48 + j % 10))) (pd_A E) s H) ∧ va_Z "java/lang/Integer" "DigitTens" "[B" (.ref (E.2.2.1 51)) (pd_A E) s H ∧ va_T .byte (E.2.2.1 51) 100 (fun j => .int (Int32.ofNat (48 + j / 10))) (pd_A E) s H
theorem pd_Dg_moved {E : pd_E} {s t : State} {H H1 : Heap} (h : s.vm.Alike t.vm) (hq : ∀ q : Nat, q < H.size → ¬ pd_A E q → H1[q]? = H[q]?) (hk : pd_Dg E s H) : pd_Dg E t H1 :=
  ⟨⟨va_Z.moved h (hk.1.1.kept hq), va_T.moved h (hk.1.2.kept hq)⟩, va_Z.moved h (hk.2.1.kept hq), va_T.moved h (hk.2.2.kept hq)⟩
/-- the script: its cell, its length and its numbers lie behind the texts' places; the digits -/
def pd_Sc (E : pd_E) (s : State) (H : Heap) : Prop := (va_X (E.2.2.1 59) (E.2.2.2 21) (fun j => Int32.ofNat (E.2.2.2 (22 + j))) s H ∧ ¬ pd_A E (E.2.2.1 59)) ∧ pd_Dg E s H
theorem pd_Sc_moved {E : pd_E} {s t : State} {H H1 : Heap} (h : s.vm.Alike t.vm) (hq : ∀ q : Nat, q < H.size → ¬ pd_A E q → H1[q]? = H[q]?) (hk : pd_Sc E s H) : pd_Sc E t H1 := by
  obtain ⟨⟨h1, h2⟩, h5⟩ := hk
  refine ⟨⟨va_X.moved h (h1.kept (hq _ ?_ h2)), h2⟩, pd_Dg_moved h hq h5⟩
  obtain ⟨scr, h3, -⟩ := h1
  exact (Array.getElem?_eq_some_iff.mp h3).1
def pd_Sk (E : pd_E) (s : State) (H : Heap) : Prop := vk_S 21 pd_len pd_byt E.2.2.1 E.2.2.2 (pd_A E) s H ∧ (∀ i q, pd_strT[i]? = some q → vk_R q.1 q.2.1 q.2.2.1 (E.2.2.1 i) s) ∧ va_Z "java/lang/String" "COMPACT_STRINGS" "Z" (.int 1) (pd_A E) s H ∧ (va_Z "jdk/internal/util/Preconditions" "SIOOBE_FORMATTER" "Ljava/util/function/BiFunction;" .null (pd_A E) s H ∨ va_Z "jdk/internal/util/Preconditions" "SIOOBE_FORMATTER" "Ljava/util/function/BiFunction;" (.ref (E.2.2.1 45)) (pd_A E) s H) ∧ vx_Zq Bundle.tN "UNASSIGNED_STACK" Bundle.steD (pd_A E) s H ∧ (vx_Zq Bundle.tN "SUPPRESSED_SENTINEL" Bundle.listD (pd_A E) s H ∧ pd_Sc E s H) ∧ ∀ i, i < 21 → E.2.2.1 (21 + i) = E.2.2.2 i
/-- a text's length and signs, by its place -/
def pd_slen (w : Int) : Int := if w < 0 then (match pd_strT[(-w - 1).toNat]? with | some q => (q.2.2.2.length : Int) | none => -1) else -1
def pd_sch (w k : Int) : Int := if w < 0 then (match pd_strT[(-w - 1).toNat]? with | some q => (q.2.2.2.getD k.toNat 0).toInt | none => 0) else 0
/-- the handlers of a method, by its class and name -/
def pd_hh (_ _ : String) : List (Nat × Nat × Nat × Nat) := []
def pd_Cx (E : pd_E) (mm : pd_M) (p : Program) (s : State) (m : MethodId) (args : Array Value) (meth : Method) (c : Code) : Prop :=
  p.tables.exec = Jvm.exec ∧ c.code = mm.2.1 ∧ c.maxLocals = mm.2.2.1 ∧ s.vm.findClass mm.1 = some m.cls ∧ (∀ w ∈ pd_gt, w.before args s = true) ∧ meth.sig.returnType = mm.2.2.2.1 ∧ (meth.locks = false ∧ c.exceptionTable.toList = tableOf (pd_hh mm.1 mm.2.2.2.2)) ∧ meth.name = mm.2.2.2.2 ∧ E.2.1 < s.heap.size ∧ pd_Sk E s s.heap
def pd_V (E : pd_E) (l : Launch) (R : Room) (mm : pd_M) (Qf : State → Array Value → List Frame → State → Prop) (al : Bool) (cells slots : Nat) (sh : pd_S) (F : pd_F) (pc : Nat) (L S : List pd_v) : Prop :=
  ∀ (p : Program) (e : Env) (s : State) (m : MethodId) (args : Array Value) (below : List Frame) (meth : Method) (c : Code) (H : Heap) (locs : List Loc) (ls : Array Slot) (st : List Value),
    pd_Cx E mm p s m args meth c → pd_Wd E sh F s H → (al = true → H.size = E.2.1 + sh.length + 1) → va_S (pd_A E) s.heap H locs → pd_lv E ls mm.2.2.1 L → pd_sv E st S →
    W p l e R s m args below meth c H locs cells slots (Qf s args below) (F0 m pc ls st)
theorem pd_rv_I {E : pd_E} {v : Value} {n : Int} (h : pd_rv E v (pd_I n)) : ∃ y : Int32, v = .int y ∧ y.toInt = n := h
theorem pd_rv_J {E : pd_E} {v : Value} {n : Int} (h : pd_rv E v (pd_J n)) : ∃ y : Int64, v = .long y ∧ y.toInt = n := h
section PDV
variable {E : pd_E} {l : Launch} {R : Room} {own : String} {cc : ByteArray} {nL : Nat} {ret : Option FieldType} {nm : String} {Qf : State → Array Value → List Frame → State → Prop} {al : Bool} {cells slots : Nat} {sh : pd_S} {F : pd_F} {pc : Nat} {L S : List pd_v}

theorem pd_iadd {x y : Int} (hd : decode cc pc = .ok (.iadd, 1)) (k : pd_V E l R (own, cc, nL, ret, nm) Qf al cells slots sh F (pc + 1) L (pd_I (pd_w (x + y)) :: S)) : pd_V E l R (own, cc, nL, ret, nm) Qf al cells slots sh F pc L (pd_I y :: pd_I x :: S) := by
  intro p e s m args below meth c H locs ls st C hW hz hS hl hs
  obtain ⟨_, st1, rfl, ⟨y', rfl, rfl⟩, hs1⟩ := pd_sv_cons hs
  obtain ⟨_, st2, rfl, ⟨x', rfl, rfl⟩, hs2⟩ := pd_sv_cons hs1
  exact lv_iadd C.1 C.2.1 hd (k _ _ _ _ _ _ _ _ _ _ _ _ C hW hz hS hl ⟨⟨_, rfl, by rw [Int32.toInt_add, pd_w_eq]⟩, hs2⟩)

theorem pd_isub {x y : Int} (hd : decode cc pc = .ok (.isub, 1)) (k : pd_V E l R (own, cc, nL, ret, nm) Qf al cells slots sh F (pc + 1) L (pd_I (pd_w (x - y)) :: S)) : pd_V E l R (own, cc, nL, ret, nm) Qf al cells slots sh F pc L (pd_I y :: pd_I x :: S) := by
  intro p e s m args below meth c H locs ls st C hW hz hS hl hs
  obtain ⟨_, st1, rfl, ⟨y', rfl, rfl⟩, hs1⟩ := pd_sv_cons hs
  obtain ⟨_, st2, rfl, ⟨x', rfl, rfl⟩, hs2⟩ := pd_sv_cons hs1
  exact lv_isub C.1 C.2.1 hd (k _ _ _ _ _ _ _ _ _ _ _ _ C hW hz hS hl ⟨⟨_, rfl, by rw [Int32.toInt_sub, pd_w_eq]⟩, hs2⟩)

theorem pd_imul {x y : Int} (hd : decode cc pc = .ok (.imul, 1)) (k : pd_V E l R (own, cc, nL, ret, nm) Qf al cells slots sh F (pc + 1) L (pd_I (pd_w (x * y)) :: S)) : pd_V E l R (own, cc, nL, ret, nm) Qf al cells slots sh F pc L (pd_I y :: pd_I x :: S) := by
  intro p e s m args below meth c H locs ls st C hW hz hS hl hs
  obtain ⟨_, st1, rfl, ⟨y', rfl, rfl⟩, hs1⟩ := pd_sv_cons hs
  obtain ⟨_, st2, rfl, ⟨x', rfl, rfl⟩, hs2⟩ := pd_sv_cons hs1
  exact lv_imul C.1 C.2.1 hd (k _ _ _ _ _ _ _ _ _ _ _ _ C hW hz hS hl ⟨⟨_, rfl, by rw [Int32.toInt_mul, pd_w_eq]⟩, hs2⟩)

theorem pd_iand {x y : Int} (hd : decode cc pc = .ok (.iand, 1)) (k : pd_V E l R (own, cc, nL, ret, nm) Qf al cells slots sh F (pc + 1) L (pd_I (pd_and x y) :: S)) : pd_V E l R (own, cc, nL, ret, nm) Qf al cells slots sh F pc L (pd_I y :: pd_I x :: S) := by
  intro p e s m args below meth c H locs ls st C hW hz hS hl hs
  obtain ⟨_, st1, rfl, ⟨y', rfl, rfl⟩, hs1⟩ := pd_sv_cons hs
  obtain ⟨_, st2, rfl, ⟨x', rfl, rfl⟩, hs2⟩ := pd_sv_cons hs1
  exact lv_iand C.1 C.2.1 hd (k _ _ _ _ _ _ _ _ _ _ _ _ C hW hz hS hl ⟨⟨_, rfl, by simp [pd_and]⟩, hs2⟩)

theorem pd_ior {x y : Int} (hd : decode cc pc = .ok (.ior, 1)) (k : pd_V E l R (own, cc, nL, ret, nm) Qf al cells slots sh F (pc + 1) L (pd_I (pd_or x y) :: S)) : pd_V E l R (own, cc, nL, ret, nm) Qf al cells slots sh F pc L (pd_I y :: pd_I x :: S) := by
  intro p e s m args below meth c H locs ls st C hW hz hS hl hs
  obtain ⟨_, st1, rfl, ⟨y', rfl, rfl⟩, hs1⟩ := pd_sv_cons hs
  obtain ⟨_, st2, rfl, ⟨x', rfl, rfl⟩, hs2⟩ := pd_sv_cons hs1
  exact lv_ior C.1 C.2.1 hd (k _ _ _ _ _ _ _ _ _ _ _ _ C hW hz hS hl ⟨⟨_, rfl, by simp [pd_or]⟩, hs2⟩)

theorem pd_ixor {x y : Int} (hd : decode cc pc = .ok (.ixor, 1)) (k : pd_V E l R (own, cc, nL, ret, nm) Qf al cells slots sh F (pc + 1) L (pd_I (pd_xor x y) :: S)) : pd_V E l R (own, cc, nL, ret, nm) Qf al cells slots sh F pc L (pd_I y :: pd_I x :: S) := by
  intro p e s m args below meth c H locs ls st C hW hz hS hl hs
  obtain ⟨_, st1, rfl, ⟨y', rfl, rfl⟩, hs1⟩ := pd_sv_cons hs
  obtain ⟨_, st2, rfl, ⟨x', rfl, rfl⟩, hs2⟩ := pd_sv_cons hs1
  exact lv_ixor C.1 C.2.1 hd (k _ _ _ _ _ _ _ _ _ _ _ _ C hW hz hS hl ⟨⟨_, rfl, by simp [pd_xor]⟩, hs2⟩)

theorem pd_ishl {x y : Int} (hd : decode cc pc = .ok (.ishl, 1)) (k : pd_V E l R (own, cc, nL, ret, nm) Qf al cells slots sh F (pc + 1) L (pd_I (pd_shl x y) :: S)) : pd_V E l R (own, cc, nL, ret, nm) Qf al cells slots sh F pc L (pd_I y :: pd_I x :: S) := by
  intro p e s m args below meth c H locs ls st C hW hz hS hl hs
  obtain ⟨_, st1, rfl, ⟨y', rfl, rfl⟩, hs1⟩ := pd_sv_cons hs
  obtain ⟨_, st2, rfl, ⟨x', rfl, rfl⟩, hs2⟩ := pd_sv_cons hs1
  exact lv_ishl C.1 C.2.1 hd (k _ _ _ _ _ _ _ _ _ _ _ _ C hW hz hS hl ⟨⟨_, rfl, by simp [pd_shl]⟩, hs2⟩)

theorem pd_ishr {x y : Int} (hd : decode cc pc = .ok (.ishr, 1)) (k : pd_V E l R (own, cc, nL, ret, nm) Qf al cells slots sh F (pc + 1) L (pd_I (pd_shr x y) :: S)) : pd_V E l R (own, cc, nL, ret, nm) Qf al cells slots sh F pc L (pd_I y :: pd_I x :: S) := by
  intro p e s m args below meth c H locs ls st C hW hz hS hl hs
  obtain ⟨_, st1, rfl, ⟨y', rfl, rfl⟩, hs1⟩ := pd_sv_cons hs
  obtain ⟨_, st2, rfl, ⟨x', rfl, rfl⟩, hs2⟩ := pd_sv_cons hs1
  exact lv_ishr C.1 C.2.1 hd (k _ _ _ _ _ _ _ _ _ _ _ _ C hW hz hS hl ⟨⟨_, rfl, by simp [pd_shr]⟩, hs2⟩)

theorem pd_ladd {x y : Int} (hd : decode cc pc = .ok (.ladd, 1)) (k : pd_V E l R (own, cc, nL, ret, nm) Qf al cells slots sh F (pc + 1) L (pd_J (pd_W (x + y)) :: S)) : pd_V E l R (own, cc, nL, ret, nm) Qf al cells slots sh F pc L (pd_J y :: pd_J x :: S) := by
  intro p e s m args below meth c H locs ls st C hW hz hS hl hs
  obtain ⟨_, st1, rfl, ⟨y', rfl, rfl⟩, hs1⟩ := pd_sv_cons hs
  obtain ⟨_, st2, rfl, ⟨x', rfl, rfl⟩, hs2⟩ := pd_sv_cons hs1
  exact lv_ladd C.1 C.2.1 hd (k _ _ _ _ _ _ _ _ _ _ _ _ C hW hz hS hl ⟨⟨_, rfl, by rw [Int64.toInt_add, pd_W_eq]⟩, hs2⟩)

theorem pd_lsub {x y : Int} (hd : decode cc pc = .ok (.lsub, 1)) (k : pd_V E l R (own, cc, nL, ret, nm) Qf al cells slots sh F (pc + 1) L (pd_J (pd_W (x - y)) :: S)) : pd_V E l R (own, cc, nL, ret, nm) Qf al cells slots sh F pc L (pd_J y :: pd_J x :: S) := by
  intro p e s m args below meth c H locs ls st C hW hz hS hl hs
  obtain ⟨_, st1, rfl, ⟨y', rfl, rfl⟩, hs1⟩ := pd_sv_cons hs
  obtain ⟨_, st2, rfl, ⟨x', rfl, rfl⟩, hs2⟩ := pd_sv_cons hs1
  exact lv_lsub C.1 C.2.1 hd (k _ _ _ _ _ _ _ _ _ _ _ _ C hW hz hS hl ⟨⟨_, rfl, by rw [Int64.toInt_sub, pd_W_eq]⟩, hs2⟩)

theorem pd_lmul {x y : Int} (hd : decode cc pc = .ok (.lmul, 1)) (k : pd_V E l R (own, cc, nL, ret, nm) Qf al cells slots sh F (pc + 1) L (pd_J (pd_W (x * y)) :: S)) : pd_V E l R (own, cc, nL, ret, nm) Qf al cells slots sh F pc L (pd_J y :: pd_J x :: S) := by
  intro p e s m args below meth c H locs ls st C hW hz hS hl hs
  obtain ⟨_, st1, rfl, ⟨y', rfl, rfl⟩, hs1⟩ := pd_sv_cons hs
  obtain ⟨_, st2, rfl, ⟨x', rfl, rfl⟩, hs2⟩ := pd_sv_cons hs1
  exact lv_lmul C.1 C.2.1 hd (k _ _ _ _ _ _ _ _ _ _ _ _ C hW hz hS hl ⟨⟨_, rfl, by rw [Int64.toInt_mul, pd_W_eq]⟩, hs2⟩)

theorem pd_land {x y : Int} (hd : decode cc pc = .ok (.land, 1)) (k : pd_V E l R (own, cc, nL, ret, nm) Qf al cells slots sh F (pc + 1) L (pd_J (pd_And x y) :: S)) : pd_V E l R (own, cc, nL, ret, nm) Qf al cells slots sh F pc L (pd_J y :: pd_J x :: S) := by
  intro p e s m args below meth c H locs ls st C hW hz hS hl hs
  obtain ⟨_, st1, rfl, ⟨y', rfl, rfl⟩, hs1⟩ := pd_sv_cons hs
  obtain ⟨_, st2, rfl, ⟨x', rfl, rfl⟩, hs2⟩ := pd_sv_cons hs1
  exact lv_land C.1 C.2.1 hd (k _ _ _ _ _ _ _ _ _ _ _ _ C hW hz hS hl ⟨⟨_, rfl, by simp [pd_And]⟩, hs2⟩)

theorem pd_lor {x y : Int} (hd : decode cc pc = .ok (.lor, 1)) (k : pd_V E l R (own, cc, nL, ret, nm) Qf al cells slots sh F (pc + 1) L (pd_J (pd_Or x y) :: S)) : pd_V E l R (own, cc, nL, ret, nm) Qf al cells slots sh F pc L (pd_J y :: pd_J x :: S) := by
  intro p e s m args below meth c H locs ls st C hW hz hS hl hs
  obtain ⟨_, st1, rfl, ⟨y', rfl, rfl⟩, hs1⟩ := pd_sv_cons hs
  obtain ⟨_, st2, rfl, ⟨x', rfl, rfl⟩, hs2⟩ := pd_sv_cons hs1
  exact lv_lor C.1 C.2.1 hd (k _ _ _ _ _ _ _ _ _ _ _ _ C hW hz hS hl ⟨⟨_, rfl, by simp [pd_Or]⟩, hs2⟩)

theorem pd_lxor {x y : Int} (hd : decode cc pc = .ok (.lxor, 1)) (k : pd_V E l R (own, cc, nL, ret, nm) Qf al cells slots sh F (pc + 1) L (pd_J (pd_Xor x y) :: S)) : pd_V E l R (own, cc, nL, ret, nm) Qf al cells slots sh F pc L (pd_J y :: pd_J x :: S) := by
  intro p e s m args below meth c H locs ls st C hW hz hS hl hs
  obtain ⟨_, st1, rfl, ⟨y', rfl, rfl⟩, hs1⟩ := pd_sv_cons hs
  obtain ⟨_, st2, rfl, ⟨x', rfl, rfl⟩, hs2⟩ := pd_sv_cons hs1
  exact lv_lxor C.1 C.2.1 hd (k _ _ _ _ _ _ _ _ _ _ _ _ C hW hz hS hl ⟨⟨_, rfl, by simp [pd_Xor]⟩, hs2⟩)

theorem pd_ldiv {x y : Int} (hd : decode cc pc = .ok (.ldiv, 1)) (hy : y ≠ 0) (k : pd_V E l R (own, cc, nL, ret, nm) Qf al cells slots sh F (pc + 1) L (pd_J (pd_W (x.tdiv y)) :: S)) : pd_V E l R (own, cc, nL, ret, nm) Qf al cells slots sh F pc L (pd_J y :: pd_J x :: S) := by
  intro p e s m args below meth c H locs ls st C hW hz hS hl hs
  obtain ⟨_, st1, rfl, ⟨y', rfl, rfl⟩, hs1⟩ := pd_sv_cons hs
  obtain ⟨_, st2, rfl, ⟨x', rfl, rfl⟩, hs2⟩ := pd_sv_cons hs1
  exact lv_ldiv C.1 C.2.1 hd (fun e => hy (by rw [e]; rfl)) (k _ _ _ _ _ _ _ _ _ _ _ _ C hW hz hS hl ⟨⟨_, rfl, by rw [Int64.toInt_div, pd_W_eq]⟩, hs2⟩)

theorem pd_lshl {x y : Int} (hd : decode cc pc = .ok (.lshl, 1)) (k : pd_V E l R (own, cc, nL, ret, nm) Qf al cells slots sh F (pc + 1) L (pd_J (pd_Shl x y) :: S)) : pd_V E l R (own, cc, nL, ret, nm) Qf al cells slots sh F pc L (pd_I y :: pd_J x :: S) := by
  intro p e s m args below meth c H locs ls st C hW hz hS hl hs
  obtain ⟨_, st1, rfl, ⟨y', rfl, rfl⟩, hs1⟩ := pd_sv_cons hs
  obtain ⟨_, st2, rfl, ⟨x', rfl, rfl⟩, hs2⟩ := pd_sv_cons hs1
  exact lv_lshl C.1 C.2.1 hd rfl (k _ _ _ _ _ _ _ _ _ _ _ _ C hW hz hS hl ⟨⟨_, rfl, by simp [pd_Shl]⟩, hs2⟩)

theorem pd_lshr {x y : Int} (hd : decode cc pc = .ok (.lshr, 1)) (k : pd_V E l R (own, cc, nL, ret, nm) Qf al cells slots sh F (pc + 1) L (pd_J (pd_Shr x y) :: S)) : pd_V E l R (own, cc, nL, ret, nm) Qf al cells slots sh F pc L (pd_I y :: pd_J x :: S) := by
  intro p e s m args below meth c H locs ls st C hW hz hS hl hs
  obtain ⟨_, st1, rfl, ⟨y', rfl, rfl⟩, hs1⟩ := pd_sv_cons hs
  obtain ⟨_, st2, rfl, ⟨x', rfl, rfl⟩, hs2⟩ := pd_sv_cons hs1
  exact lv_lshr C.1 C.2.1 hd rfl (k _ _ _ _ _ _ _ _ _ _ _ _ C hW hz hS hl ⟨⟨_, rfl, by simp [pd_Shr]⟩, hs2⟩)

theorem pd_lushr {x y : Int} (hd : decode cc pc = .ok (.lushr, 1)) (k : pd_V E l R (own, cc, nL, ret, nm) Qf al cells slots sh F (pc + 1) L (pd_J (pd_Ushr x y) :: S)) : pd_V E l R (own, cc, nL, ret, nm) Qf al cells slots sh F pc L (pd_I y :: pd_J x :: S) := by
  intro p e s m args below meth c H locs ls st C hW hz hS hl hs
  obtain ⟨_, st1, rfl, ⟨y', rfl, rfl⟩, hs1⟩ := pd_sv_cons hs
  obtain ⟨_, st2, rfl, ⟨x', rfl, rfl⟩, hs2⟩ := pd_sv_cons hs1
  exact lv_lushr C.1 C.2.1 hd rfl (k _ _ _ _ _ _ _ _ _ _ _ _ C hW hz hS hl ⟨⟨_, rfl, by simp [pd_Ushr]⟩, hs2⟩)

theorem pd_iushr {x y : Int} (hd : decode cc pc = .ok (.iushr, 1)) (k : pd_V E l R (own, cc, nL, ret, nm) Qf al cells slots sh F (pc + 1) L (pd_I (pd_ushr x y) :: S)) : pd_V E l R (own, cc, nL, ret, nm) Qf al cells slots sh F pc L (pd_I y :: pd_I x :: S) := by
  intro p e s m args below meth c H locs ls st C hW hz hS hl hs
  obtain ⟨_, st1, rfl, ⟨y', rfl, rfl⟩, hs1⟩ := pd_sv_cons hs
  obtain ⟨_, st2, rfl, ⟨x', rfl, rfl⟩, hs2⟩ := pd_sv_cons hs1
  exact lv_iushr C.1 C.2.1 hd rfl (k _ _ _ _ _ _ _ _ _ _ _ _ C hW hz hS hl ⟨⟨_, rfl, by simp [pd_ushr]⟩, hs2⟩)

theorem pd_ineg {x : Int} (hd : decode cc pc = .ok (.ineg, 1)) (k : pd_V E l R (own, cc, nL, ret, nm) Qf al cells slots sh F (pc + 1) L (pd_I (pd_w (-x)) :: S)) : pd_V E l R (own, cc, nL, ret, nm) Qf al cells slots sh F pc L (pd_I x :: S) := by
  intro p e s m args below meth c H locs ls st C hW hz hS hl hs
  obtain ⟨_, st1, rfl, ⟨x', rfl, rfl⟩, hs1⟩ := pd_sv_cons hs
  exact lv_ineg C.1 C.2.1 hd (k _ _ _ _ _ _ _ _ _ _ _ _ C hW hz hS hl ⟨⟨_, rfl, by rw [Int32.toInt_neg, pd_w_eq]⟩, hs1⟩)

theorem pd_lneg {x : Int} (hd : decode cc pc = .ok (.lneg, 1)) (k : pd_V E l R (own, cc, nL, ret, nm) Qf al cells slots sh F (pc + 1) L (pd_J (pd_W (-x)) :: S)) : pd_V E l R (own, cc, nL, ret, nm) Qf al cells slots sh F pc L (pd_J x :: S) := by
  intro p e s m args below meth c H locs ls st C hW hz hS hl hs
  obtain ⟨_, st1, rfl, ⟨x', rfl, rfl⟩, hs1⟩ := pd_sv_cons hs
  exact lv_lneg C.1 C.2.1 hd (k _ _ _ _ _ _ _ _ _ _ _ _ C hW hz hS hl ⟨⟨_, rfl, by rw [Int64.toInt_neg, pd_W_eq]⟩, hs1⟩)

theorem pd_i2l {x : Int} (hd : decode cc pc = .ok (.i2l, 1)) (k : pd_V E l R (own, cc, nL, ret, nm) Qf al cells slots sh F (pc + 1) L (pd_J (x) :: S)) : pd_V E l R (own, cc, nL, ret, nm) Qf al cells slots sh F pc L (pd_I x :: S) := by
  intro p e s m args below meth c H locs ls st C hW hz hS hl hs
  obtain ⟨_, st1, rfl, ⟨x', rfl, rfl⟩, hs1⟩ := pd_sv_cons hs
  exact lv_i2l C.1 C.2.1 hd rfl (k _ _ _ _ _ _ _ _ _ _ _ _ C hW hz hS hl ⟨⟨_, rfl, by simp⟩, hs1⟩)

theorem pd_l2i {x : Int} (hd : decode cc pc = .ok (.l2i, 1)) (k : pd_V E l R (own, cc, nL, ret, nm) Qf al cells slots sh F (pc + 1) L (pd_I (pd_w x) :: S)) : pd_V E l R (own, cc, nL, ret, nm) Qf al cells slots sh F pc L (pd_J x :: S) := by
  intro p e s m args below meth c H locs ls st C hW hz hS hl hs
  obtain ⟨_, st1, rfl, ⟨x', rfl, rfl⟩, hs1⟩ := pd_sv_cons hs
  exact lv_l2i C.1 C.2.1 hd rfl (k _ _ _ _ _ _ _ _ _ _ _ _ C hW hz hS hl ⟨⟨_, rfl, by rw [Int64.toInt_toInt32, pd_w_eq]⟩, hs1⟩)

theorem pd_i2b {x : Int} (hd : decode cc pc = .ok (.i2b, 1)) (k : pd_V E l R (own, cc, nL, ret, nm) Qf al cells slots sh F (pc + 1) L (pd_I (pd_b x) :: S)) : pd_V E l R (own, cc, nL, ret, nm) Qf al cells slots sh F pc L (pd_I x :: S) := by
  intro p e s m args below meth c H locs ls st C hW hz hS hl hs
  obtain ⟨_, st1, rfl, ⟨x', rfl, rfl⟩, hs1⟩ := pd_sv_cons hs
  exact lv_i2b C.1 C.2.1 hd rfl (k _ _ _ _ _ _ _ _ _ _ _ _ C hW hz hS hl ⟨⟨_, rfl, by rw [Int8.toInt_toInt32, Int32.toInt_toInt8, pd_b_eq]⟩, hs1⟩)

theorem pd_iconst {n : Int} (hd : decode cc pc = .ok (.iconst n, 1)) (hv : (Int32.ofInt n).toInt = n) (k : pd_V E l R (own, cc, nL, ret, nm) Qf al cells slots sh F (pc + 1) L (pd_I n :: S)) : pd_V E l R (own, cc, nL, ret, nm) Qf al cells slots sh F pc L S := by
  intro p e s m args below meth c H locs ls st C hW hz hS hl hs
  exact lv_iconst C.1 C.2.1 hd rfl (k _ _ _ _ _ _ _ _ _ _ _ _ C hW hz hS hl ⟨⟨_, rfl, hv⟩, hs⟩)

theorem pd_bipush {n : Int} (hd : decode cc pc = .ok (.bipush n, 2)) (hv : ((Int8.ofInt n).toInt32).toInt = n) (k : pd_V E l R (own, cc, nL, ret, nm) Qf al cells slots sh F (pc + 2) L (pd_I n :: S)) : pd_V E l R (own, cc, nL, ret, nm) Qf al cells slots sh F pc L S := by
  intro p e s m args below meth c H locs ls st C hW hz hS hl hs
  exact lv_bipush C.1 C.2.1 hd rfl (k _ _ _ _ _ _ _ _ _ _ _ _ C hW hz hS hl ⟨⟨_, rfl, hv⟩, hs⟩)

theorem pd_sipush {n : Int} (hd : decode cc pc = .ok (.sipush n, 3)) (hv : ((Int16.ofInt n).toInt32).toInt = n) (k : pd_V E l R (own, cc, nL, ret, nm) Qf al cells slots sh F (pc + 3) L (pd_I n :: S)) : pd_V E l R (own, cc, nL, ret, nm) Qf al cells slots sh F pc L S := by
  intro p e s m args below meth c H locs ls st C hW hz hS hl hs
  exact lv_sipush C.1 C.2.1 hd rfl (k _ _ _ _ _ _ _ _ _ _ _ _ C hW hz hS hl ⟨⟨_, rfl, hv⟩, hs⟩)

theorem pd_lconst {n : Fin 2} {x : Int} (hd : decode cc pc = .ok (.lconst n, 1)) (hv : (Int64.ofNat (n : Nat)).toInt = x) (k : pd_V E l R (own, cc, nL, ret, nm) Qf al cells slots sh F (pc + 1) L (pd_J x :: S)) : pd_V E l R (own, cc, nL, ret, nm) Qf al cells slots sh F pc L S := by
  intro p e s m args below meth c H locs ls st C hW hz hS hl hs
  exact lv_lconst C.1 C.2.1 hd rfl (k _ _ _ _ _ _ _ _ _ _ _ _ C hW hz hS hl ⟨⟨_, rfl, hv⟩, hs⟩)

theorem pd_ldc {i : Nat} {v : Int32} {x : Int} (hd : decode cc pc = .ok (.ldc i, 2)) (hw : Jvm.Cond.constant own i v ∈ pd_gt) (hv : v.toInt = x) (k : pd_V E l R (own, cc, nL, ret, nm) Qf al cells slots sh F (pc + 2) L (pd_I x :: S)) : pd_V E l R (own, cc, nL, ret, nm) Qf al cells slots sh F pc L S := by
  intro p e s m args below meth c H locs ls st C hW hz hS hl hs
  exact lv_ldc C.1 C.2.1 C.2.2.2.1 (C.2.2.2.2.1 _ hw) hd (k _ _ _ _ _ _ _ _ _ _ _ _ C hW hz hS hl ⟨⟨_, rfl, hv⟩, hs⟩)

theorem pd_ldcw {i : Nat} {v : Int32} {x : Int} (hd : decode cc pc = .ok (.ldc_w i, 3)) (hw : Jvm.Cond.constant own i v ∈ pd_gt) (hv : v.toInt = x) (k : pd_V E l R (own, cc, nL, ret, nm) Qf al cells slots sh F (pc + 3) L (pd_I x :: S)) : pd_V E l R (own, cc, nL, ret, nm) Qf al cells slots sh F pc L S := by
  intro p e s m args below meth c H locs ls st C hW hz hS hl hs
  exact lv_ldcw C.1 C.2.1 C.2.2.2.1 (C.2.2.2.2.1 _ hw) hd (k _ _ _ _ _ _ _ _ _ _ _ _ C hW hz hS hl ⟨⟨_, rfl, hv⟩, hs⟩)

theorem pd_ldc2 {i : Nat} {v : Int64} {x : Int} (hd : decode cc pc = .ok (.ldc2_w i, 3)) (hw : Jvm.Cond.constantLong own i v ∈ pd_gt) (hv : v.toInt = x) (k : pd_V E l R (own, cc, nL, ret, nm) Qf al cells slots sh F (pc + 3) L (pd_J x :: S)) : pd_V E l R (own, cc, nL, ret, nm) Qf al cells slots sh F pc L S := by
  intro p e s m args below meth c H locs ls st C hW hz hS hl hs
  exact lv_ldc2 C.1 C.2.1 C.2.2.2.1 (C.2.2.2.2.1 _ hw) hd (k _ _ _ _ _ _ _ _ _ _ _ _ C hW hz hS hl ⟨⟨_, rfl, hv⟩, hs⟩)

theorem pd_iload_n {f : Fin 4} {i : Nat} {x : Int} (hd : decode cc pc = .ok (.iload_n f, 1)) (hi : (f : Nat) = i) (hL : L[i]? = some (pd_I x)) (k : pd_V E l R (own, cc, nL, ret, nm) Qf al cells slots sh F (pc + 1) L (pd_I x :: S)) : pd_V E l R (own, cc, nL, ret, nm) Qf al cells slots sh F pc L S := by
  intro p e s m args below meth c H locs ls st C hW hz hS hl hs
  obtain ⟨_, h1, ⟨y, rfl, rfl⟩⟩ := pd_lv_at hl hL (fun h => by cases h)
  exact lv_iload_n C.1 C.2.1 hd hi h1 (k _ _ _ _ _ _ _ _ _ _ _ _ C hW hz hS hl ⟨⟨_, rfl, rfl⟩, hs⟩)

theorem pd_iload {i : Nat} {x : Int} (hd : decode cc pc = .ok (.iload i, 2)) (hL : L[i]? = some (pd_I x)) (k : pd_V E l R (own, cc, nL, ret, nm) Qf al cells slots sh F (pc + 2) L (pd_I x :: S)) : pd_V E l R (own, cc, nL, ret, nm) Qf al cells slots sh F pc L S := by
  intro p e s m args below meth c H locs ls st C hW hz hS hl hs
  obtain ⟨_, h1, ⟨y, rfl, rfl⟩⟩ := pd_lv_at hl hL (fun h => by cases h)
  exact lv_iload C.1 C.2.1 hd h1 (k _ _ _ _ _ _ _ _ _ _ _ _ C hW hz hS hl ⟨⟨_, rfl, rfl⟩, hs⟩)

theorem pd_lload_n {f : Fin 4} {i : Nat} {x : Int} (hd : decode cc pc = .ok (.lload_n f, 1)) (hi : (f : Nat) = i) (hL : L[i]? = some (pd_J x)) (k : pd_V E l R (own, cc, nL, ret, nm) Qf al cells slots sh F (pc + 1) L (pd_J x :: S)) : pd_V E l R (own, cc, nL, ret, nm) Qf al cells slots sh F pc L S := by
  intro p e s m args below meth c H locs ls st C hW hz hS hl hs
  obtain ⟨_, h1, ⟨y, rfl, rfl⟩⟩ := pd_lv_at hl hL (fun h => by cases h)
  exact lv_lload_n C.1 C.2.1 hd hi h1 (k _ _ _ _ _ _ _ _ _ _ _ _ C hW hz hS hl ⟨⟨_, rfl, rfl⟩, hs⟩)

theorem pd_lload {i : Nat} {x : Int} (hd : decode cc pc = .ok (.lload i, 2)) (hL : L[i]? = some (pd_J x)) (k : pd_V E l R (own, cc, nL, ret, nm) Qf al cells slots sh F (pc + 2) L (pd_J x :: S)) : pd_V E l R (own, cc, nL, ret, nm) Qf al cells slots sh F pc L S := by
  intro p e s m args below meth c H locs ls st C hW hz hS hl hs
  obtain ⟨_, h1, ⟨y, rfl, rfl⟩⟩ := pd_lv_at hl hL (fun h => by cases h)
  exact lv_lload C.1 C.2.1 hd h1 (k _ _ _ _ _ _ _ _ _ _ _ _ C hW hz hS hl ⟨⟨_, rfl, rfl⟩, hs⟩)

theorem pd_rf_ne {E : pd_E} {a : Int} (h : a ≠ 0) : ∃ q, pd_rf E a = .ref q := by
  unfold pd_rf
  rw [if_neg h]
  split
  · exact ⟨_, rfl⟩
  · exact ⟨_, rfl⟩
theorem pd_aload_n {f : Fin 4} {i : Nat} {x : Int} (hd : decode cc pc = .ok (.aload_n f, 1)) (hi : (f : Nat) = i) (hL : L[i]? = some (pd_R x)) (k : pd_V E l R (own, cc, nL, ret, nm) Qf al cells slots sh F (pc + 1) L (pd_R x :: S)) : pd_V E l R (own, cc, nL, ret, nm) Qf al cells slots sh F pc L S := by
  intro p e s m args below meth c H locs ls st C hW hz hS hl hs
  obtain ⟨v, h1, h2⟩ := pd_lv_at hl hL (fun h => by cases h)
  by_cases hx : x = 0
  · rw [show v = .null by rw [show v = pd_rf E x from h2]; simp [pd_rf, hx]] at h1 h2
    exact lv_aload_nN C.1 C.2.1 hd hi h1 (k _ _ _ _ _ _ _ _ _ _ _ _ C hW hz hS hl ⟨h2, hs⟩)
  · obtain ⟨q, hq⟩ := pd_rf_ne (E := E) hx
    rw [show v = .ref q by rw [show v = pd_rf E x from h2]; exact hq] at h1 h2
    exact lv_aload_n C.1 C.2.1 hd hi h1 (k _ _ _ _ _ _ _ _ _ _ _ _ C hW hz hS hl ⟨h2, hs⟩)
theorem pd_aload {i : Nat} {x : Int} (hd : decode cc pc = .ok (.aload i, 2)) (hL : L[i]? = some (pd_R x)) (k : pd_V E l R (own, cc, nL, ret, nm) Qf al cells slots sh F (pc + 2) L (pd_R x :: S)) : pd_V E l R (own, cc, nL, ret, nm) Qf al cells slots sh F pc L S := by
  intro p e s m args below meth c H locs ls st C hW hz hS hl hs
  obtain ⟨v, h1, h2⟩ := pd_lv_at hl hL (fun h => by cases h)
  by_cases hx : x = 0
  · rw [show v = .null by rw [show v = pd_rf E x from h2]; simp [pd_rf, hx]] at h1 h2
    exact lv_aloadN C.1 C.2.1 hd h1 (k _ _ _ _ _ _ _ _ _ _ _ _ C hW hz hS hl ⟨h2, hs⟩)
  · obtain ⟨q, hq⟩ := pd_rf_ne (E := E) hx
    rw [show v = .ref q by rw [show v = pd_rf E x from h2]; exact hq] at h1 h2
    exact lv_aload C.1 C.2.1 hd h1 (k _ _ _ _ _ _ _ _ _ _ _ _ C hW hz hS hl ⟨h2, hs⟩)

theorem pd_istore_n {f : Fin 4} {i : Nat} {x : Int} {L' : List pd_v} (hd : decode cc pc = .ok (.istore_n f, 1)) (hi : (f : Nat) = i) (hn : i < nL) (hL : pd_st1 L i (pd_I x) = L') (k : pd_V E l R (own, cc, nL, ret, nm) Qf al cells slots sh F (pc + 1) L' S) : pd_V E l R (own, cc, nL, ret, nm) Qf al cells slots sh F pc L (pd_I x :: S) := by
  intro p e s m args below meth c H locs ls st C hW hz hS hl hs
  obtain ⟨_, st1, rfl, ⟨y, rfl, rfl⟩, hs1⟩ := pd_sv_cons hs
  obtain ⟨lv, h1, h2⟩ := hl
  subst hL
  exact lv_istore_n C.1 C.2.1 hd hi h1 hn rfl (fun ls' hl' => k _ _ _ _ _ _ _ _ _ _ _ _ C hW hz hS ⟨_, hl', pd_lv_s1 h2 ⟨y, rfl, rfl⟩⟩ hs1)

theorem pd_istore {i : Nat} {x : Int} {L' : List pd_v} (hd : decode cc pc = .ok (.istore i, 2)) (hn : i < nL) (hL : pd_st1 L i (pd_I x) = L') (k : pd_V E l R (own, cc, nL, ret, nm) Qf al cells slots sh F (pc + 2) L' S) : pd_V E l R (own, cc, nL, ret, nm) Qf al cells slots sh F pc L (pd_I x :: S) := by
  intro p e s m args below meth c H locs ls st C hW hz hS hl hs
  obtain ⟨_, st1, rfl, ⟨y, rfl, rfl⟩, hs1⟩ := pd_sv_cons hs
  obtain ⟨lv, h1, h2⟩ := hl
  subst hL
  exact lv_istore C.1 C.2.1 hd h1 hn rfl (fun ls' hl' => k _ _ _ _ _ _ _ _ _ _ _ _ C hW hz hS ⟨_, hl', pd_lv_s1 h2 ⟨y, rfl, rfl⟩⟩ hs1)

theorem pd_lstore_n {f : Fin 4} {i : Nat} {x : Int} {L' : List pd_v} (hd : decode cc pc = .ok (.lstore_n f, 1)) (hi : (f : Nat) = i) (hn : i + 1 < nL) (hL : pd_st2 L i (pd_J x) = L') (k : pd_V E l R (own, cc, nL, ret, nm) Qf al cells slots sh F (pc + 1) L' S) : pd_V E l R (own, cc, nL, ret, nm) Qf al cells slots sh F pc L (pd_J x :: S) := by
  intro p e s m args below meth c H locs ls st C hW hz hS hl hs
  obtain ⟨_, st1, rfl, ⟨y, rfl, rfl⟩, hs1⟩ := pd_sv_cons hs
  obtain ⟨lv, h1, h2⟩ := hl
  subst hL
  exact lv_lstore_n C.1 C.2.1 hd hi h1 hn rfl (fun ls' hl' => k _ _ _ _ _ _ _ _ _ _ _ _ C hW hz hS ⟨_, hl', pd_lv_s2 h2 ⟨y, rfl, rfl⟩⟩ hs1)

theorem pd_lstore {i : Nat} {x : Int} {L' : List pd_v} (hd : decode cc pc = .ok (.lstore i, 2)) (hn : i + 1 < nL) (hL : pd_st2 L i (pd_J x) = L') (k : pd_V E l R (own, cc, nL, ret, nm) Qf al cells slots sh F (pc + 2) L' S) : pd_V E l R (own, cc, nL, ret, nm) Qf al cells slots sh F pc L (pd_J x :: S) := by
  intro p e s m args below meth c H locs ls st C hW hz hS hl hs
  obtain ⟨_, st1, rfl, ⟨y, rfl, rfl⟩, hs1⟩ := pd_sv_cons hs
  obtain ⟨lv, h1, h2⟩ := hl
  subst hL
  exact lv_lstore C.1 C.2.1 hd h1 hn rfl (fun ls' hl' => k _ _ _ _ _ _ _ _ _ _ _ _ C hW hz hS ⟨_, hl', pd_lv_s2 h2 ⟨y, rfl, rfl⟩⟩ hs1)

theorem pd_astore_n {f : Fin 4} {i : Nat} {x : Int} {L' : List pd_v} (hd : decode cc pc = .ok (.astore_n f, 1)) (hi : (f : Nat) = i) (hn : i < nL) (hx : x ≠ 0) (hL : pd_st1 L i (pd_R x) = L') (k : pd_V E l R (own, cc, nL, ret, nm) Qf al cells slots sh F (pc + 1) L' S) : pd_V E l R (own, cc, nL, ret, nm) Qf al cells slots sh F pc L (pd_R x :: S) := by
  intro p e s m args below meth c H locs ls st C hW hz hS hl hs
  obtain ⟨v, st1, rfl, h3, hs1⟩ := pd_sv_cons hs
  obtain ⟨q, hq⟩ := pd_rf_ne (E := E) hx
  obtain rfl : v = .ref q := by rw [show v = pd_rf E x from h3]; exact hq
  obtain ⟨lv, h1, h2⟩ := hl
  subst hL
  exact lv_astore_n C.1 C.2.1 hd hi h1 hn rfl (fun ls' hl' => k _ _ _ _ _ _ _ _ _ _ _ _ C hW hz hS ⟨_, hl', pd_lv_s1 h2 h3⟩ hs1)

theorem pd_astore {i : Nat} {x : Int} {L' : List pd_v} (hd : decode cc pc = .ok (.astore i, 2)) (hn : i < nL) (hx : x ≠ 0) (hL : pd_st1 L i (pd_R x) = L') (k : pd_V E l R (own, cc, nL, ret, nm) Qf al cells slots sh F (pc + 2) L' S) : pd_V E l R (own, cc, nL, ret, nm) Qf al cells slots sh F pc L (pd_R x :: S) := by
  intro p e s m args below meth c H locs ls st C hW hz hS hl hs
  obtain ⟨v, st1, rfl, h3, hs1⟩ := pd_sv_cons hs
  obtain ⟨q, hq⟩ := pd_rf_ne (E := E) hx
  obtain rfl : v = .ref q := by rw [show v = pd_rf E x from h3]; exact hq
  obtain ⟨lv, h1, h2⟩ := hl
  subst hL
  exact lv_astore C.1 C.2.1 hd h1 hn rfl (fun ls' hl' => k _ _ _ _ _ _ _ _ _ _ _ _ C hW hz hS ⟨_, hl', pd_lv_s1 h2 h3⟩ hs1)

theorem pd_iinc {i : Nat} {n x : Int} {L' : List pd_v} (hd : decode cc pc = .ok (.iinc i n, 3)) (hg : L[i]? = some (pd_I x)) (hn : i < nL) (hv : (Int32.ofInt n).toInt = n) (hL : pd_st1 L i (pd_I (pd_w (x + n))) = L') (k : pd_V E l R (own, cc, nL, ret, nm) Qf al cells slots sh F (pc + 3) L' S) : pd_V E l R (own, cc, nL, ret, nm) Qf al cells slots sh F pc L S := by
  intro p e s m args below meth c H locs ls st C hW hz hS hl hs
  obtain ⟨lv, h1, h2⟩ := hl
  rcases h2 _ _ hg with h3 | ⟨_, h3, y, rfl, rfl⟩
  · cases h3
  · obtain ⟨j, hj, hje⟩ := List.mem_iff_getElem.mp h3
    subst hL
    exact lv_iinc C.1 C.2.1 hd h1 (k := j) (by rw [List.getElem?_eq_getElem hj, hje]) rfl hn rfl (fun ls' hl' => k _ _ _ _ _ _ _ _ _ _ _ _ C hW hz hS ⟨_, hl', pd_lv_s1 h2 ⟨_, rfl, by rw [Int32.toInt_add, hv, pd_w_eq]⟩⟩ hs)

theorem pd_if_eq {x : Int} {off : Int} {tgt : Nat} (hd : decode cc pc = .ok (.ifCond .eq off, 3)) (ht : (pc : Int) + off = (tgt : Int)) (kt : x = 0 → pd_V E l R (own, cc, nL, ret, nm) Qf al cells slots sh F tgt L S) (kf : ¬ x = 0 → pd_V E l R (own, cc, nL, ret, nm) Qf al cells slots sh F (pc + 3) L S) : pd_V E l R (own, cc, nL, ret, nm) Qf al cells slots sh F pc L (pd_I x :: S) := by
  intro p e s m args below meth c H locs ls st C hW hz hS hl hs
  obtain ⟨_, st1, rfl, ⟨x, rfl, rfl⟩, hs1⟩ := pd_sv_cons hs
  have hq : (x = 0) ↔ (x.toInt = 0) := by rw [← Int32.toInt_inj]; rfl
  exact lv_if_eq C.1 C.2.1 hd ht (fun h => kt (hq.mp h) _ _ _ _ _ _ _ _ _ _ _ _ C hW hz hS hl hs1) (fun h => kf (fun h2 => h (hq.mpr h2)) _ _ _ _ _ _ _ _ _ _ _ _ C hW hz hS hl hs1)

theorem pd_if_ne {x : Int} {off : Int} {tgt : Nat} (hd : decode cc pc = .ok (.ifCond .ne off, 3)) (ht : (pc : Int) + off = (tgt : Int)) (kt : x ≠ 0 → pd_V E l R (own, cc, nL, ret, nm) Qf al cells slots sh F tgt L S) (kf : x = 0 → pd_V E l R (own, cc, nL, ret, nm) Qf al cells slots sh F (pc + 3) L S) : pd_V E l R (own, cc, nL, ret, nm) Qf al cells slots sh F pc L (pd_I x :: S) := by
  intro p e s m args below meth c H locs ls st C hW hz hS hl hs
  obtain ⟨_, st1, rfl, ⟨x, rfl, rfl⟩, hs1⟩ := pd_sv_cons hs
  have hq : (x ≠ 0) ↔ (x.toInt ≠ 0) := by rw [ne_eq, ← Int32.toInt_inj]; rfl
  exact lv_if_ne C.1 C.2.1 hd ht (fun h => kt (hq.mp h) _ _ _ _ _ _ _ _ _ _ _ _ C hW hz hS hl hs1) (fun h => kf (by rw [← Int32.toInt_inj] at h; exact h) _ _ _ _ _ _ _ _ _ _ _ _ C hW hz hS hl hs1)

theorem pd_if_lt {x : Int} {off : Int} {tgt : Nat} (hd : decode cc pc = .ok (.ifCond .lt off, 3)) (ht : (pc : Int) + off = (tgt : Int)) (kt : x < 0 → pd_V E l R (own, cc, nL, ret, nm) Qf al cells slots sh F tgt L S) (kf : ¬ x < 0 → pd_V E l R (own, cc, nL, ret, nm) Qf al cells slots sh F (pc + 3) L S) : pd_V E l R (own, cc, nL, ret, nm) Qf al cells slots sh F pc L (pd_I x :: S) := by
  intro p e s m args below meth c H locs ls st C hW hz hS hl hs
  obtain ⟨_, st1, rfl, ⟨x, rfl, rfl⟩, hs1⟩ := pd_sv_cons hs
  have hq : (x < 0) ↔ (x.toInt < 0) := by rw [Int32.lt_iff_toInt_lt]; rfl
  exact lv_if_lt C.1 C.2.1 hd ht (fun h => kt (hq.mp h) _ _ _ _ _ _ _ _ _ _ _ _ C hW hz hS hl hs1) (fun h => kf (fun h2 => h (hq.mpr h2)) _ _ _ _ _ _ _ _ _ _ _ _ C hW hz hS hl hs1)

theorem pd_if_ge {x : Int} {off : Int} {tgt : Nat} (hd : decode cc pc = .ok (.ifCond .ge off, 3)) (ht : (pc : Int) + off = (tgt : Int)) (kt : x ≥ 0 → pd_V E l R (own, cc, nL, ret, nm) Qf al cells slots sh F tgt L S) (kf : ¬ x ≥ 0 → pd_V E l R (own, cc, nL, ret, nm) Qf al cells slots sh F (pc + 3) L S) : pd_V E l R (own, cc, nL, ret, nm) Qf al cells slots sh F pc L (pd_I x :: S) := by
  intro p e s m args below meth c H locs ls st C hW hz hS hl hs
  obtain ⟨_, st1, rfl, ⟨x, rfl, rfl⟩, hs1⟩ := pd_sv_cons hs
  have hq : (x ≥ 0) ↔ (x.toInt ≥ 0) := by rw [ge_iff_le, Int32.le_iff_toInt_le]; rfl
  exact lv_if_ge C.1 C.2.1 hd ht (fun h => kt (hq.mp h) _ _ _ _ _ _ _ _ _ _ _ _ C hW hz hS hl hs1) (fun h => kf (fun h2 => h (hq.mpr h2)) _ _ _ _ _ _ _ _ _ _ _ _ C hW hz hS hl hs1)

theorem pd_if_gt {x : Int} {off : Int} {tgt : Nat} (hd : decode cc pc = .ok (.ifCond .gt off, 3)) (ht : (pc : Int) + off = (tgt : Int)) (kt : x > 0 → pd_V E l R (own, cc, nL, ret, nm) Qf al cells slots sh F tgt L S) (kf : ¬ x > 0 → pd_V E l R (own, cc, nL, ret, nm) Qf al cells slots sh F (pc + 3) L S) : pd_V E l R (own, cc, nL, ret, nm) Qf al cells slots sh F pc L (pd_I x :: S) := by
  intro p e s m args below meth c H locs ls st C hW hz hS hl hs
  obtain ⟨_, st1, rfl, ⟨x, rfl, rfl⟩, hs1⟩ := pd_sv_cons hs
  have hq : (x > 0) ↔ (x.toInt > 0) := by rw [gt_iff_lt, Int32.lt_iff_toInt_lt]; rfl
  exact lv_if_gt C.1 C.2.1 hd ht (fun h => kt (hq.mp h) _ _ _ _ _ _ _ _ _ _ _ _ C hW hz hS hl hs1) (fun h => kf (fun h2 => h (hq.mpr h2)) _ _ _ _ _ _ _ _ _ _ _ _ C hW hz hS hl hs1)

theorem pd_if_le {x : Int} {off : Int} {tgt : Nat} (hd : decode cc pc = .ok (.ifCond .le off, 3)) (ht : (pc : Int) + off = (tgt : Int)) (kt : x ≤ 0 → pd_V E l R (own, cc, nL, ret, nm) Qf al cells slots sh F tgt L S) (kf : ¬ x ≤ 0 → pd_V E l R (own, cc, nL, ret, nm) Qf al cells slots sh F (pc + 3) L S) : pd_V E l R (own, cc, nL, ret, nm) Qf al cells slots sh F pc L (pd_I x :: S) := by
  intro p e s m args below meth c H locs ls st C hW hz hS hl hs
  obtain ⟨_, st1, rfl, ⟨x, rfl, rfl⟩, hs1⟩ := pd_sv_cons hs
  have hq : (x ≤ 0) ↔ (x.toInt ≤ 0) := by rw [Int32.le_iff_toInt_le]; rfl
  exact lv_if_le C.1 C.2.1 hd ht (fun h => kt (hq.mp h) _ _ _ _ _ _ _ _ _ _ _ _ C hW hz hS hl hs1) (fun h => kf (fun h2 => h (hq.mpr h2)) _ _ _ _ _ _ _ _ _ _ _ _ C hW hz hS hl hs1)

theorem pd_icmp_eq {x y : Int} {off : Int} {tgt : Nat} (hd : decode cc pc = .ok (.if_icmp .eq off, 3)) (ht : (pc : Int) + off = (tgt : Int)) (kt : x = y → pd_V E l R (own, cc, nL, ret, nm) Qf al cells slots sh F tgt L S) (kf : ¬ x = y → pd_V E l R (own, cc, nL, ret, nm) Qf al cells slots sh F (pc + 3) L S) : pd_V E l R (own, cc, nL, ret, nm) Qf al cells slots sh F pc L (pd_I y :: pd_I x :: S) := by
  intro p e s m args below meth c H locs ls st C hW hz hS hl hs
  obtain ⟨_, st1, rfl, ⟨y, rfl, rfl⟩, hs1⟩ := pd_sv_cons hs
  obtain ⟨_, st2, rfl, ⟨x, rfl, rfl⟩, hs2⟩ := pd_sv_cons hs1
  have hq : (x = y) ↔ (x.toInt = y.toInt) := by rw [← Int32.toInt_inj]
  exact lv_icmp_eq C.1 C.2.1 hd ht (fun h => kt (hq.mp h) _ _ _ _ _ _ _ _ _ _ _ _ C hW hz hS hl hs2) (fun h => kf (fun h2 => h (hq.mpr h2)) _ _ _ _ _ _ _ _ _ _ _ _ C hW hz hS hl hs2)

theorem pd_icmp_ne {x y : Int} {off : Int} {tgt : Nat} (hd : decode cc pc = .ok (.if_icmp .ne off, 3)) (ht : (pc : Int) + off = (tgt : Int)) (kt : x ≠ y → pd_V E l R (own, cc, nL, ret, nm) Qf al cells slots sh F tgt L S) (kf : x = y → pd_V E l R (own, cc, nL, ret, nm) Qf al cells slots sh F (pc + 3) L S) : pd_V E l R (own, cc, nL, ret, nm) Qf al cells slots sh F pc L (pd_I y :: pd_I x :: S) := by
  intro p e s m args below meth c H locs ls st C hW hz hS hl hs
  obtain ⟨_, st1, rfl, ⟨y, rfl, rfl⟩, hs1⟩ := pd_sv_cons hs
  obtain ⟨_, st2, rfl, ⟨x, rfl, rfl⟩, hs2⟩ := pd_sv_cons hs1
  have hq : (x ≠ y) ↔ (x.toInt ≠ y.toInt) := by rw [ne_eq, ← Int32.toInt_inj]
  exact lv_icmp_ne C.1 C.2.1 hd ht (fun h => kt (hq.mp h) _ _ _ _ _ _ _ _ _ _ _ _ C hW hz hS hl hs2) (fun h => kf (by rw [← Int32.toInt_inj] at h; exact h) _ _ _ _ _ _ _ _ _ _ _ _ C hW hz hS hl hs2)

theorem pd_icmp_lt {x y : Int} {off : Int} {tgt : Nat} (hd : decode cc pc = .ok (.if_icmp .lt off, 3)) (ht : (pc : Int) + off = (tgt : Int)) (kt : x < y → pd_V E l R (own, cc, nL, ret, nm) Qf al cells slots sh F tgt L S) (kf : ¬ x < y → pd_V E l R (own, cc, nL, ret, nm) Qf al cells slots sh F (pc + 3) L S) : pd_V E l R (own, cc, nL, ret, nm) Qf al cells slots sh F pc L (pd_I y :: pd_I x :: S) := by
  intro p e s m args below meth c H locs ls st C hW hz hS hl hs
  obtain ⟨_, st1, rfl, ⟨y, rfl, rfl⟩, hs1⟩ := pd_sv_cons hs
  obtain ⟨_, st2, rfl, ⟨x, rfl, rfl⟩, hs2⟩ := pd_sv_cons hs1
  have hq : (x < y) ↔ (x.toInt < y.toInt) := by rw [Int32.lt_iff_toInt_lt]
  exact lv_icmp_lt C.1 C.2.1 hd ht (fun h => kt (hq.mp h) _ _ _ _ _ _ _ _ _ _ _ _ C hW hz hS hl hs2) (fun h => kf (fun h2 => h (hq.mpr h2)) _ _ _ _ _ _ _ _ _ _ _ _ C hW hz hS hl hs2)

theorem pd_icmp_ge {x y : Int} {off : Int} {tgt : Nat} (hd : decode cc pc = .ok (.if_icmp .ge off, 3)) (ht : (pc : Int) + off = (tgt : Int)) (kt : x ≥ y → pd_V E l R (own, cc, nL, ret, nm) Qf al cells slots sh F tgt L S) (kf : ¬ x ≥ y → pd_V E l R (own, cc, nL, ret, nm) Qf al cells slots sh F (pc + 3) L S) : pd_V E l R (own, cc, nL, ret, nm) Qf al cells slots sh F pc L (pd_I y :: pd_I x :: S) := by
  intro p e s m args below meth c H locs ls st C hW hz hS hl hs
  obtain ⟨_, st1, rfl, ⟨y, rfl, rfl⟩, hs1⟩ := pd_sv_cons hs
  obtain ⟨_, st2, rfl, ⟨x, rfl, rfl⟩, hs2⟩ := pd_sv_cons hs1
  have hq : (x ≥ y) ↔ (x.toInt ≥ y.toInt) := by rw [ge_iff_le, Int32.le_iff_toInt_le]
  exact lv_icmp_ge C.1 C.2.1 hd ht (fun h => kt (hq.mp h) _ _ _ _ _ _ _ _ _ _ _ _ C hW hz hS hl hs2) (fun h => kf (fun h2 => h (hq.mpr h2)) _ _ _ _ _ _ _ _ _ _ _ _ C hW hz hS hl hs2)

theorem pd_icmp_gt {x y : Int} {off : Int} {tgt : Nat} (hd : decode cc pc = .ok (.if_icmp .gt off, 3)) (ht : (pc : Int) + off = (tgt : Int)) (kt : x > y → pd_V E l R (own, cc, nL, ret, nm) Qf al cells slots sh F tgt L S) (kf : ¬ x > y → pd_V E l R (own, cc, nL, ret, nm) Qf al cells slots sh F (pc + 3) L S) : pd_V E l R (own, cc, nL, ret, nm) Qf al cells slots sh F pc L (pd_I y :: pd_I x :: S) := by
  intro p e s m args below meth c H locs ls st C hW hz hS hl hs
  obtain ⟨_, st1, rfl, ⟨y, rfl, rfl⟩, hs1⟩ := pd_sv_cons hs
  obtain ⟨_, st2, rfl, ⟨x, rfl, rfl⟩, hs2⟩ := pd_sv_cons hs1
  have hq : (x > y) ↔ (x.toInt > y.toInt) := by rw [gt_iff_lt, Int32.lt_iff_toInt_lt]
  exact lv_icmp_gt C.1 C.2.1 hd ht (fun h => kt (hq.mp h) _ _ _ _ _ _ _ _ _ _ _ _ C hW hz hS hl hs2) (fun h => kf (fun h2 => h (hq.mpr h2)) _ _ _ _ _ _ _ _ _ _ _ _ C hW hz hS hl hs2)

theorem pd_icmp_le {x y : Int} {off : Int} {tgt : Nat} (hd : decode cc pc = .ok (.if_icmp .le off, 3)) (ht : (pc : Int) + off = (tgt : Int)) (kt : x ≤ y → pd_V E l R (own, cc, nL, ret, nm) Qf al cells slots sh F tgt L S) (kf : ¬ x ≤ y → pd_V E l R (own, cc, nL, ret, nm) Qf al cells slots sh F (pc + 3) L S) : pd_V E l R (own, cc, nL, ret, nm) Qf al cells slots sh F pc L (pd_I y :: pd_I x :: S) := by
  intro p e s m args below meth c H locs ls st C hW hz hS hl hs
  obtain ⟨_, st1, rfl, ⟨y, rfl, rfl⟩, hs1⟩ := pd_sv_cons hs
  obtain ⟨_, st2, rfl, ⟨x, rfl, rfl⟩, hs2⟩ := pd_sv_cons hs1
  have hq : (x ≤ y) ↔ (x.toInt ≤ y.toInt) := by rw [Int32.le_iff_toInt_le]
  exact lv_icmp_le C.1 C.2.1 hd ht (fun h => kt (hq.mp h) _ _ _ _ _ _ _ _ _ _ _ _ C hW hz hS hl hs2) (fun h => kf (fun h2 => h (hq.mpr h2)) _ _ _ _ _ _ _ _ _ _ _ _ C hW hz hS hl hs2)

theorem pd_lcmp {x y : Int} (hd : decode cc pc = .ok (.lcmp, 1)) (k : pd_V E l R (own, cc, nL, ret, nm) Qf al cells slots sh F (pc + 1) L (pd_I (pd_cmp x y) :: S)) : pd_V E l R (own, cc, nL, ret, nm) Qf al cells slots sh F pc L (pd_J y :: pd_J x :: S) := by
  intro p e s m args below meth c H locs ls st C hW hz hS hl hs
  obtain ⟨_, st1, rfl, ⟨y', rfl, rfl⟩, hs1⟩ := pd_sv_cons hs
  obtain ⟨_, st2, rfl, ⟨x', rfl, rfl⟩, hs2⟩ := pd_sv_cons hs1
  exact W.lcmp C.1 C.2.1 hd (k _ _ _ _ _ _ _ _ _ _ _ _ C hW hz hS hl ⟨⟨_, rfl, pd_cmp_eq _ _⟩, hs2⟩)

theorem pd_lcmp_eq {x y : Int} {off : Int} {tgt : Nat} (hd0 : decode cc pc = .ok (.lcmp, 1)) (hd : decode cc (pc + 1) = .ok (.ifCond .eq off, 3)) (ht : ((pc + 1 : Nat) : Int) + off = (tgt : Int)) (kt : x = y → pd_V E l R (own, cc, nL, ret, nm) Qf al cells slots sh F tgt L S) (kf : ¬ x = y → pd_V E l R (own, cc, nL, ret, nm) Qf al cells slots sh F (pc + 1 + 3) L S) : pd_V E l R (own, cc, nL, ret, nm) Qf al cells slots sh F pc L (pd_J y :: pd_J x :: S) := by
  have hq : (pd_cmp x y = 0) ↔ (x = y) := by unfold pd_cmp; (repeat' split) <;> omega
  exact pd_lcmp hd0 (pd_if_eq hd ht (fun h => kt (hq.mp h)) (fun h => kf (fun h2 => h (hq.mpr h2))))

theorem pd_lcmp_ne {x y : Int} {off : Int} {tgt : Nat} (hd0 : decode cc pc = .ok (.lcmp, 1)) (hd : decode cc (pc + 1) = .ok (.ifCond .ne off, 3)) (ht : ((pc + 1 : Nat) : Int) + off = (tgt : Int)) (kt : x ≠ y → pd_V E l R (own, cc, nL, ret, nm) Qf al cells slots sh F tgt L S) (kf : x = y → pd_V E l R (own, cc, nL, ret, nm) Qf al cells slots sh F (pc + 1 + 3) L S) : pd_V E l R (own, cc, nL, ret, nm) Qf al cells slots sh F pc L (pd_J y :: pd_J x :: S) := by
  have hq : (pd_cmp x y ≠ 0) ↔ (x ≠ y) := by unfold pd_cmp; (repeat' split) <;> omega
  exact pd_lcmp hd0 (pd_if_ne hd ht (fun h => kt (hq.mp h)) (fun h => kf (by unfold pd_cmp at h; revert h; (repeat' split) <;> omega)))

theorem pd_lcmp_lt {x y : Int} {off : Int} {tgt : Nat} (hd0 : decode cc pc = .ok (.lcmp, 1)) (hd : decode cc (pc + 1) = .ok (.ifCond .lt off, 3)) (ht : ((pc + 1 : Nat) : Int) + off = (tgt : Int)) (kt : x < y → pd_V E l R (own, cc, nL, ret, nm) Qf al cells slots sh F tgt L S) (kf : ¬ x < y → pd_V E l R (own, cc, nL, ret, nm) Qf al cells slots sh F (pc + 1 + 3) L S) : pd_V E l R (own, cc, nL, ret, nm) Qf al cells slots sh F pc L (pd_J y :: pd_J x :: S) := by
  have hq : (pd_cmp x y < 0) ↔ (x < y) := by unfold pd_cmp; (repeat' split) <;> omega
  exact pd_lcmp hd0 (pd_if_lt hd ht (fun h => kt (hq.mp h)) (fun h => kf (fun h2 => h (hq.mpr h2))))

theorem pd_lcmp_ge {x y : Int} {off : Int} {tgt : Nat} (hd0 : decode cc pc = .ok (.lcmp, 1)) (hd : decode cc (pc + 1) = .ok (.ifCond .ge off, 3)) (ht : ((pc + 1 : Nat) : Int) + off = (tgt : Int)) (kt : x ≥ y → pd_V E l R (own, cc, nL, ret, nm) Qf al cells slots sh F tgt L S) (kf : ¬ x ≥ y → pd_V E l R (own, cc, nL, ret, nm) Qf al cells slots sh F (pc + 1 + 3) L S) : pd_V E l R (own, cc, nL, ret, nm) Qf al cells slots sh F pc L (pd_J y :: pd_J x :: S) := by
  have hq : (pd_cmp x y ≥ 0) ↔ (x ≥ y) := by unfold pd_cmp; (repeat' split) <;> omega
  exact pd_lcmp hd0 (pd_if_ge hd ht (fun h => kt (hq.mp h)) (fun h => kf (fun h2 => h (hq.mpr h2))))

theorem pd_lcmp_gt {x y : Int} {off : Int} {tgt : Nat} (hd0 : decode cc pc = .ok (.lcmp, 1)) (hd : decode cc (pc + 1) = .ok (.ifCond .gt off, 3)) (ht : ((pc + 1 : Nat) : Int) + off = (tgt : Int)) (kt : x > y → pd_V E l R (own, cc, nL, ret, nm) Qf al cells slots sh F tgt L S) (kf : ¬ x > y → pd_V E l R (own, cc, nL, ret, nm) Qf al cells slots sh F (pc + 1 + 3) L S) : pd_V E l R (own, cc, nL, ret, nm) Qf al cells slots sh F pc L (pd_J y :: pd_J x :: S) := by
  have hq : (pd_cmp x y > 0) ↔ (x > y) := by unfold pd_cmp; (repeat' split) <;> omega
  exact pd_lcmp hd0 (pd_if_gt hd ht (fun h => kt (hq.mp h)) (fun h => kf (fun h2 => h (hq.mpr h2))))

theorem pd_lcmp_le {x y : Int} {off : Int} {tgt : Nat} (hd0 : decode cc pc = .ok (.lcmp, 1)) (hd : decode cc (pc + 1) = .ok (.ifCond .le off, 3)) (ht : ((pc + 1 : Nat) : Int) + off = (tgt : Int)) (kt : x ≤ y → pd_V E l R (own, cc, nL, ret, nm) Qf al cells slots sh F tgt L S) (kf : ¬ x ≤ y → pd_V E l R (own, cc, nL, ret, nm) Qf al cells slots sh F (pc + 1 + 3) L S) : pd_V E l R (own, cc, nL, ret, nm) Qf al cells slots sh F pc L (pd_J y :: pd_J x :: S) := by
  have hq : (pd_cmp x y ≤ 0) ↔ (x ≤ y) := by unfold pd_cmp; (repeat' split) <;> omega
  exact pd_lcmp hd0 (pd_if_le hd ht (fun h => kt (hq.mp h)) (fun h => kf (fun h2 => h (hq.mpr h2))))

theorem pd_goto {off : Int} {tgt : Nat} (hd : decode cc pc = .ok (.goto off, 3)) (ht : (pc : Int) + off = (tgt : Int)) (k : pd_V E l R (own, cc, nL, ret, nm) Qf al cells slots sh F tgt L S) : pd_V E l R (own, cc, nL, ret, nm) Qf al cells slots sh F pc L S := by
  intro p e s m args below meth c H locs ls st C hW hz hS hl hs
  exact lv_goto C.1 C.2.1 hd ht (k _ _ _ _ _ _ _ _ _ _ _ _ C hW hz hS hl hs)

theorem pd_tab {dflt lo hi : Int} {offs : Array Int} {len : Nat} {x off : Int} {tgt : Nat} (hd : decode cc pc = .ok (.tableswitch dflt lo hi offs, len)) (h1 : ¬ x < lo) (h2 : ¬ hi < x) (ho : offs[(x - lo).toNat]? = some off) (ht : (pc : Int) + off = (tgt : Int)) (k : pd_V E l R (own, cc, nL, ret, nm) Qf al cells slots sh F tgt L S) : pd_V E l R (own, cc, nL, ret, nm) Qf al cells slots sh F pc L (pd_I x :: S) := by
  intro p e s m args below meth c H locs ls st C hW hz hS hl hs
  obtain ⟨_, st1, rfl, ⟨x', rfl, rfl⟩, hs1⟩ := pd_sv_cons hs
  exact lv_tableIn C.1 C.2.1 hd h1 h2 ho ht (k _ _ _ _ _ _ _ _ _ _ _ _ C hW hz hS hl hs1)

theorem pd_tabO {dflt lo hi : Int} {offs : Array Int} {len : Nat} {x : Int} {tgt : Nat} (hd : decode cc pc = .ok (.tableswitch dflt lo hi offs, len)) (h : x < lo ∨ hi < x) (ht : (pc : Int) + dflt = (tgt : Int)) (k : pd_V E l R (own, cc, nL, ret, nm) Qf al cells slots sh F tgt L S) : pd_V E l R (own, cc, nL, ret, nm) Qf al cells slots sh F pc L (pd_I x :: S) := by
  intro p e s m args below meth c H locs ls st C hW hz hS hl hs
  obtain ⟨_, st1, rfl, ⟨x', rfl, rfl⟩, hs1⟩ := pd_sv_cons hs
  exact lv_tableOut C.1 C.2.1 hd h ht (k _ _ _ _ _ _ _ _ _ _ _ _ C hW hz hS hl hs1)

theorem pd_dup {x : pd_v} (hd : decode cc pc = .ok (.dup, 1)) (hx : pd_c1 x = 1) (k : pd_V E l R (own, cc, nL, ret, nm) Qf al cells slots sh F (pc + 1) L (x :: x :: S)) : pd_V E l R (own, cc, nL, ret, nm) Qf al cells slots sh F pc L (x :: S) := by
  intro p e s m args below meth c H locs ls st C hW hz hS hl hs
  obtain ⟨v, st1, rfl, h1, hs1⟩ := pd_sv_cons hs
  exact lv_dup C.1 C.2.1 hd ((pd_rv_cat h1).trans hx) (k _ _ _ _ _ _ _ _ _ _ _ _ C hW hz hS hl ⟨h1, h1, hs1⟩)

theorem pd_pop {x : pd_v} (hd : decode cc pc = .ok (.pop, 1)) (hx : pd_c1 x = 1) (k : pd_V E l R (own, cc, nL, ret, nm) Qf al cells slots sh F (pc + 1) L S) : pd_V E l R (own, cc, nL, ret, nm) Qf al cells slots sh F pc L (x :: S) := by
  intro p e s m args below meth c H locs ls st C hW hz hS hl hs
  obtain ⟨v, st1, rfl, h1, hs1⟩ := pd_sv_cons hs
  exact lv_pop C.1 C.2.1 hd ((pd_rv_cat h1).trans hx) (k _ _ _ _ _ _ _ _ _ _ _ _ C hW hz hS hl hs1)

theorem pd_dup2 {x y : pd_v} (hd : decode cc pc = .ok (.dup2, 1)) (hx : pd_c1 x = 1) (hy : pd_c1 y = 1) (k : pd_V E l R (own, cc, nL, ret, nm) Qf al cells slots sh F (pc + 1) L (x :: y :: x :: y :: S)) : pd_V E l R (own, cc, nL, ret, nm) Qf al cells slots sh F pc L (x :: y :: S) := by
  intro p e s m args below meth c H locs ls st C hW hz hS hl hs
  obtain ⟨v, st1, rfl, h1, hs1⟩ := pd_sv_cons hs
  obtain ⟨w, st2, rfl, h2, hs2⟩ := pd_sv_cons hs1
  exact lv_dup2_11 C.1 C.2.1 hd ((pd_rv_cat h1).trans hx) ((pd_rv_cat h2).trans hy) (k _ _ _ _ _ _ _ _ _ _ _ _ C hW hz hS hl ⟨h1, h2, h1, h2, hs2⟩)

/-- fewer locals known -/
def pd_wk : List pd_v → List pd_v → Prop
  | _, [] => True
  | [], _ :: _ => False
  | x :: L, y :: M => (y = pd_N ∨ x = y) ∧ pd_wk L M
theorem pd_wk_get : ∀ {L M : List pd_v}, pd_wk L M → ∀ (i : Nat) (x : pd_v), M[i]? = some x → x = pd_N ∨ L[i]? = some x
  | _, [], _, i, x, h => by simp at h
  | [], _ :: _, h, _, _, _ => absurd h (by simp [pd_wk])
  | x :: L, y :: M, h, 0, z, hz => by
    simp at hz
    rcases h.1 with h1 | h1
    · exact Or.inl (hz ▸ h1)
    · exact Or.inr (by simp [h1, hz])
  | x :: L, y :: M, h, i + 1, z, hz => by
    rcases pd_wk_get h.2 i z (by simpa using hz) with h1 | h1
    · exact Or.inl h1
    · exact Or.inr (by simpa using h1)
theorem pd_weak {L' : List pd_v} (h : pd_wk L L') (k : pd_V E l R (own, cc, nL, ret, nm) Qf al cells slots sh F pc L' S) : pd_V E l R (own, cc, nL, ret, nm) Qf al cells slots sh F pc L S := by
  intro p e s m args below meth c H locs ls st C hW hz hS hl hs
  obtain ⟨lv, h1, h2⟩ := hl
  exact k _ _ _ _ _ _ _ _ _ _ _ _ C hW hz hS ⟨lv, h1, fun i x hx => (pd_wk_get h i x hx).elim Or.inl (h2 i x)⟩ hs

end PDV
