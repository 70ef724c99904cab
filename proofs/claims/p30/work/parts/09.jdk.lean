/-! texts and other things of the JDK -/
def pd_c (x : Int) : Int := ((Int32.ofInt x).toUInt32 % 65536).toInt32.toInt
section PDT
variable {E : pd_E} {l : Launch} {R : Room} {own : String} {cc : ByteArray} {nL : Nat} {ret : Option FieldType} {nm : String} {Qf : State → Array Value → List Frame → State → Prop} {al : Bool} {cells slots mc ms : Nat} {sh : pd_S} {F : pd_F} {pc : Nat} {L S : List pd_v}

theorem pd_callVT {y : MethodName} {bytes : ByteArray} {maxL d index : Nat} {ret' : Option FieldType} {xs S0 : List pd_v} {b : Int} {r : Option pd_v} {sh' : pd_S} {F' : pd_F} (hC : pd_C l y (Cond.code y bytes maxL ret' :: pd_gt) (pd_rm d mc ms) al mc ms sh F (pd_R b :: xs) r sh' F') (hd : decode cc pc = .ok (.invokevirtual index, 3)) (hlink : Cond.methodLink own index y ∈ pd_gt) (hinst : Cond.instanceMethod y ∈ pd_gt) (hsel : Cond.selects y.cls y y ∈ pd_gt) (hcl : y.cls = "java/lang/String") (hb0 : -21 ≤ b ∧ b < 0)
    (hok : pd_ok R d cells slots mc ms y bytes maxL ret' xs.length) (hcat : pd_cat S ≤ 8) (hS0 : xs.reverse ++ pd_R b :: S = S0) (k : pd_V E l R (own, cc, nL, ret, nm) Qf al (cells + mc) (slots + ms) sh' F' (pc + 3) L (r.toList ++ S)) : pd_V E l R (own, cc, nL, ret, nm) Qf al cells slots sh F pc L S0 := by
  intro p e s m args below meth c H locs ls st C hW hz hS hl hs
  subst hS0
  obtain ⟨⟨r1, r2, r3, r4⟩, hcode, hinit, hy, hpn⟩ := hok
  obtain ⟨st1, st2, rfl, hs1, hs2⟩ := pd_sv_split _ hs
  obtain ⟨_, st3, rfl, h0, hs3⟩ := pd_sv_cons hs2
  have hs4 := pd_sv_rev hs1
  rw [List.reverse_reverse] at hs4
  have g4 : pd_rf E b = .ref (E.2.2.1 (-b - 1).toNat) := by
    unfold pd_rf
    rw [if_neg (by omega), if_pos (by omega)]
  obtain rfl := (show _ = pd_rf E b from h0).trans g4
  have hrecv : ∃ cellB : Cell, H[E.2.2.1 (-b - 1).toNat]? = some cellB ∧ cellB.vm.isStatics = false ∧ s.vm.findClass y.cls = some cellB.cls := by
    rw [hcl]
    exact vk_recv C.2.2.2.2.2.2.2.2.2.1 (by omega) hS
  have hn : st1.reverse.length = xs.length := pd_sv_len hs4
  refine pd_after (va_runV (As := st1.reverse) (rest := st3) ⟨C.1, C.2.1, C.2.2.1, C.2.2.2.1, fun w hw => C.2.2.2.2.1 w hw⟩ (hC E (.ref (E.2.2.1 (-b - 1).toNat) :: st1.reverse) ⟨g4.symm, hs4⟩) ⟨(⟨rfl, rfl, r1, r2, pd_gtw C hcode, List.mem_cons_self, C.2.2.2.2.1 _ hcode, C.2.2.2.2.1 _ hinit, hy, pd_pn hpn, C.2.2.2.2.1 _ hlink⟩), C.2.2.2.2.1 _ hinst, C.2.2.2.2.1 _ hsel⟩ ⟨pd_blind, hrecv, pd_start C hW hz hS⟩ rfl hn hl.choose_spec.1.1 (by rw [List.reverse_reverse]) (pd_catL hs3 hcat) hd ⟨r3, r4⟩) hS (fun v H1 locs1 hro hW1 hz1 hS1 => ?_)
  refine k _ _ _ _ _ _ _ _ _ _ _ _ C hW1 hz1 hS1 hl ?_
  match v, r, hro with
  | none, none, _ => exact hs3
  | some v, some x, h => exact ⟨h, hs3⟩


theorem pd_i2c {x : Int} (hd : decode cc pc = .ok (.i2c, 1)) (k : pd_V E l R (own, cc, nL, ret, nm) Qf al cells slots sh F (pc + 1) L (pd_I (pd_c x) :: S)) : pd_V E l R (own, cc, nL, ret, nm) Qf al cells slots sh F pc L (pd_I x :: S) := by
  intro p e s m args below meth c H locs ls st C hW hz hS hl hs
  obtain ⟨_, st1, rfl, ⟨x', rfl, rfl⟩, hs1⟩ := pd_sv_cons hs
  exact lv_i2c C.1 C.2.1 hd rfl (k _ _ _ _ _ _ _ _ _ _ _ _ C hW hz hS hl ⟨⟨_, rfl, by simp [pd_c]⟩, hs1⟩)
theorem pd_gsC {index : Nat} (hd : decode cc pc = .ok (.getstatic index, 3)) (hlink : Cond.fieldLink own index "java/lang/String" "COMPACT_STRINGS" "Z" ∈ pd_gt) (k : pd_V E l R (own, cc, nL, ret, nm) Qf al cells slots sh F (pc + 3) L (pd_I 1 :: S)) : pd_V E l R (own, cc, nL, ret, nm) Qf al cells slots sh F pc L S := by
  intro p e s m args below meth c H locs ls st C hW hz hS hl hs
  exact va_gets C.1 C.2.1 C.2.2.2.2.2.2.2.2.2.2.2.1 hS C.2.2.2.1 (C.2.2.2.2.1 _ hlink) (fun _ h => h) hd (k _ _ _ _ _ _ _ _ _ _ _ _ C hW hz hS hl ⟨⟨1, rfl, rfl⟩, hs⟩)
theorem pd_gsQ {index : Nat} (hd : decode cc pc = .ok (.getstatic index, 3)) (hlink : Cond.fieldLink own index "jdk/internal/util/Preconditions" "SIOOBE_FORMATTER" "Ljava/util/function/BiFunction;" ∈ pd_gt) (k : ∀ a, pd_V E l R (own, cc, nL, ret, nm) Qf al cells slots sh F (pc + 3) L (pd_R a :: S)) : pd_V E l R (own, cc, nL, ret, nm) Qf al cells slots sh F pc L S := by
  intro p e s m args below meth c H locs ls st C hW hz hS hl hs
  rcases C.2.2.2.2.2.2.2.2.2.2.2.2.1 with h | h
  · exact va_gets C.1 C.2.1 h hS C.2.2.2.1 (C.2.2.2.2.1 _ hlink) (fun _ h => h) hd (k 0 _ _ _ _ _ _ _ _ _ _ _ _ C hW hz hS hl ⟨rfl, hs⟩)
  · exact va_gets C.1 C.2.1 h hS C.2.2.2.1 (C.2.2.2.2.1 _ hlink) (fun _ h => h) hd (k (-46) _ _ _ _ _ _ _ _ _ _ _ _ C hW hz hS hl ⟨by show _ = pd_rf E (-46); unfold pd_rf; rw [if_neg (by decide), if_pos (by decide)]; rfl, hs⟩)
theorem pd_sgC {index : Nat} {w : Int} (hd : decode cc pc = .ok (.getfield index, 3)) (hlink : Cond.fieldLink own index "java/lang/String" "coder" "B" ∈ pd_gt) (hb0 : -21 ≤ w ∧ w < 0) (k : pd_V E l R (own, cc, nL, ret, nm) Qf al cells slots sh F (pc + 3) L (pd_I 0 :: S)) : pd_V E l R (own, cc, nL, ret, nm) Qf al cells slots sh F pc L (pd_R w :: S) := by
  intro p e s m args below meth c H locs ls st C hW hz hS hl hs
  obtain ⟨_, st1, rfl, h0, hs1⟩ := pd_sv_cons hs
  have g4 : pd_rf E w = .ref (E.2.2.1 (-w - 1).toNat) := by
    unfold pd_rf
    rw [if_neg (by omega), if_pos (by omega)]
  obtain rfl := (show _ = pd_rf E w from h0).trans g4
  exact vk_getf C.1 C.2.1 (C.2.2.2.2.2.2.2.2.2.1.1 (-w - 1).toNat (by omega)).2.1 hS C.2.2.2.1 (C.2.2.2.2.1 _ hlink) (fun _ h => h) hd (k _ _ _ _ _ _ _ _ _ _ _ _ C hW hz hS hl ⟨⟨0, rfl, rfl⟩, hs1⟩)
theorem pd_sgV {index : Nat} {w : Int} (hd : decode cc pc = .ok (.getfield index, 3)) (hlink : Cond.fieldLink own index "java/lang/String" "value" "[B" ∈ pd_gt) (hb0 : -21 ≤ w ∧ w < 0) (k : pd_V E l R (own, cc, nL, ret, nm) Qf al cells slots sh F (pc + 3) L (pd_R (w - 21) :: S)) : pd_V E l R (own, cc, nL, ret, nm) Qf al cells slots sh F pc L (pd_R w :: S) := by
  intro p e s m args below meth c H locs ls st C hW hz hS hl hs
  obtain ⟨_, st1, rfl, h0, hs1⟩ := pd_sv_cons hs
  have g4 : pd_rf E w = .ref (E.2.2.1 (-w - 1).toNat) := by
    unfold pd_rf
    rw [if_neg (by omega), if_pos (by omega)]
  obtain rfl := (show _ = pd_rf E w from h0).trans g4
  refine vk_getf C.1 C.2.1 (C.2.2.2.2.2.2.2.2.2.1.1 (-w - 1).toNat (by omega)).2.2.1 hS C.2.2.2.1 (C.2.2.2.2.1 _ hlink) (fun _ h => h) hd (k _ _ _ _ _ _ _ _ _ _ _ _ C hW hz hS hl ⟨?_, hs1⟩)
  show _ = pd_rf E (w - 21)
  unfold pd_rf
  rw [if_neg (by omega), if_pos (by omega), show (-(w - 21) - 1).toNat = 21 + (-w - 1).toNat by omega, C.2.2.2.2.2.2.2.2.2.2.2.2.2.2.2 _ (by omega)]
theorem pd_len_at {w : Int} (hb0 : -21 ≤ w ∧ w < 0) : pd_slen w = (pd_len.getD (-w - 1).toNat 0 : Nat) ∧ ∀ k, pd_sch w k = ((pd_byt.getD (-w - 1).toNat []).getD k.toNat 0).toInt := by
  have h : ∃ i : Nat, i < 21 ∧ (-w - 1).toNat = i := ⟨_, by omega, rfl⟩
  obtain ⟨i, hi, he⟩ := h
  unfold pd_slen pd_sch
  rw [if_pos hb0.2, he]
  have hl : pd_strT.length = 21 := rfl
  obtain ⟨q, hq⟩ : ∃ q, pd_strT[i]? = some q := ⟨_, List.getElem?_eq_getElem (by omega)⟩
  rw [hq]
  unfold pd_len pd_byt
  refine ⟨?_, fun k => ?_⟩
  · rw [List.getD_eq_getElem?_getD, List.getElem?_map, hq]; rfl
  · have e : (List.map (fun q : String × Nat × String × List Int32 => q.2.2.2) pd_strT).getD i [] = q.2.2.2 := by rw [List.getD_eq_getElem?_getD, List.getElem?_map, hq]; rfl
    rw [if_pos hb0.2, e]
theorem pd_lens_small : ∀ i, i < 21 → pd_len.getD i 0 < 2147483648 := by decide +kernel
theorem pd_salen {w : Int} (hd : decode cc pc = .ok (.arraylength, 1)) (hb0 : -21 ≤ w ∧ w < 0) (k : pd_V E l R (own, cc, nL, ret, nm) Qf al cells slots sh F (pc + 1) L (pd_I (pd_slen w) :: S)) : pd_V E l R (own, cc, nL, ret, nm) Qf al cells slots sh F pc L (pd_R (w - 21) :: S) := by
  intro p e s m args below meth c H locs ls st C hW hz hS hl hs
  obtain ⟨_, st1, rfl, h0, hs1⟩ := pd_sv_cons hs
  have hi : (-w - 1).toNat < 21 := by omega
  have g4 : pd_rf E (w - 21) = .ref (E.2.2.2 (-w - 1).toNat) := by
    unfold pd_rf
    rw [if_neg (by omega), if_pos (by omega), show (-(w - 21) - 1).toNat = 21 + (-w - 1).toNat by omega, C.2.2.2.2.2.2.2.2.2.2.2.2.2.2.2 _ hi]
  obtain rfl := (show _ = pd_rf E _ from h0).trans g4
  refine va_tlen C.1 C.2.1 (C.2.2.2.2.2.2.2.2.2.1.1 _ hi).2.2.2 hS rfl hd (k _ _ _ _ _ _ _ _ _ _ _ _ C hW hz hS hl ⟨⟨_, rfl, ?_⟩, hs1⟩)
  rw [pd_ofNat (pd_lens_small _ hi), (pd_len_at hb0).1]
theorem pd_sbald {w i : Int} (hd : decode cc pc = .ok (.baload, 1)) (hb0 : -21 ≤ w ∧ w < 0) (hi0 : 0 ≤ i ∧ i < pd_slen w) (k : pd_V E l R (own, cc, nL, ret, nm) Qf al cells slots sh F (pc + 1) L (pd_I (pd_sch w i) :: S)) : pd_V E l R (own, cc, nL, ret, nm) Qf al cells slots sh F pc L (pd_I i :: pd_R (w - 21) :: S) := by
  intro p e s m args below meth c H locs ls st C hW hz hS hl hs
  obtain ⟨_, st1, rfl, ⟨i, rfl, rfl⟩, hs1⟩ := pd_sv_cons hs
  obtain ⟨_, st2, rfl, h0, hs2⟩ := pd_sv_cons hs1
  have hi : (-w - 1).toNat < 21 := by omega
  have g4 : pd_rf E (w - 21) = .ref (E.2.2.2 (-w - 1).toNat) := by
    unfold pd_rf
    rw [if_neg (by omega), if_pos (by omega), show (-(w - 21) - 1).toNat = 21 + (-w - 1).toNat by omega, C.2.2.2.2.2.2.2.2.2.2.2.2.2.2.2 _ hi]
  obtain rfl := (show _ = pd_rf E _ from h0).trans g4
  rw [(pd_len_at hb0).1] at hi0
  obtain ⟨j1, j2, j3⟩ := pd_idx hi0.1 hi0.2
  refine va_tb C.1 C.2.1 (C.2.2.2.2.2.2.2.2.2.1.1 _ hi).2.2.2 hS j1 rfl hd (k _ _ _ _ _ _ _ _ _ _ _ _ C hW hz hS hl ⟨⟨_, rfl, ?_⟩, hs2⟩)
  rw [(pd_len_at hb0).2]
  rfl
theorem pd_bret0 (hd : decode cc pc = .ok (.ireturn, 1)) (hr : ret = some .byte) (hc : cells ≤ mc) (hs0 : slots ≤ ms) : pd_V E l R (own, cc, nL, ret, nm) (pd_Qm E al (some (pd_I 0)) sh F mc ms) al cells slots sh F pc L [pd_I 0] := by
  intro p e s m args below meth c H locs ls st C hW hz hS hl hs
  obtain ⟨v, st1, rfl, ⟨x, rfl, hx⟩, hs1⟩ := pd_sv_cons hs
  obtain rfl := pd_sv_nil hs1
  have hx0 : x = 0 := Int32.toInt_inj.mp (by rw [hx]; rfl)
  subst hx0
  have hlocks : meth.locks = false := C.2.2.2.2.2.2.1.1
  have he := pd_end (args := args) (v := some (.int 0)) (r := some (pd_I 0)) ⟨0, rfl, rfl⟩ hW hz hS
  exact W.widen hc hs0 (W.zret C.1 C.2.1 (C.2.2.2.2.2.1.trans hr) (by first | rfl | decide) he hS.2.2 hd)
theorem pd_cret {x : Int} (hd : decode cc pc = .ok (.ireturn, 1)) (hr : ret = some .char) (hx : pd_c x = x) (hc : cells ≤ mc) (hs0 : slots ≤ ms) : pd_V E l R (own, cc, nL, ret, nm) (pd_Qm E al (some (pd_I x)) sh F mc ms) al cells slots sh F pc L [pd_I x] := by
  intro p e s m args below meth c H locs ls st C hW hz hS hl hs
  obtain ⟨v, st1, rfl, ⟨x, rfl, rfl⟩, hs1⟩ := pd_sv_cons hs
  obtain rfl := pd_sv_nil hs1
  have hlocks : meth.locks = false := C.2.2.2.2.2.2.1.1
  have he := pd_end (args := args) (v := some (.int x)) (r := some (pd_I x.toInt)) ⟨x, rfl, rfl⟩ hW hz hS
  have hn : narrow .char (.int x) = .int x := by
    have h1 : (x.toUInt32 % 65536).toInt32 = x := Int32.toInt_inj.mp (by simpa [pd_c] using hx)
    first | exact congrArg Value.int h1 | simp [narrow, h1]
  exact W.widen hc hs0 (W.zret C.1 C.2.1 (C.2.2.2.2.2.1.trans hr) hn he hS.2.2 hd)

theorem pd_idiv {x y : Int} (hd : decode cc pc = .ok (.idiv, 1)) (hy : y ≠ 0) (k : pd_V E l R (own, cc, nL, ret, nm) Qf al cells slots sh F (pc + 1) L (pd_I (pd_w (x.tdiv y)) :: S)) : pd_V E l R (own, cc, nL, ret, nm) Qf al cells slots sh F pc L (pd_I y :: pd_I x :: S) := by
  intro p e s m args below meth c H locs ls st C hW hz hS hl hs
  obtain ⟨_, st1, rfl, ⟨y', rfl, rfl⟩, hs1⟩ := pd_sv_cons hs
  obtain ⟨_, st2, rfl, ⟨x', rfl, rfl⟩, hs2⟩ := pd_sv_cons hs1
  exact lv_idiv C.1 C.2.1 hd (fun e => hy (by rw [e]; rfl)) (k _ _ _ _ _ _ _ _ _ _ _ _ C hW hz hS hl ⟨⟨_, rfl, by rw [Int32.toInt_div, pd_w_eq]⟩, hs2⟩)
theorem pd_rem_eq {x y : Int32} (hy : y.toInt ≠ 0) : (x - x / y * y).toInt = x.toInt.tmod y.toInt := by
  have h : x - x / y * y = x % y := by
    apply Int32.toInt_inj.mp
    rw [Int32.toInt_mod, Int32.toInt_sub, Int32.toInt_mul, Int32.toInt_div]
    have hx1 := Int32.le_toInt x
    have hx2 := Int32.toInt_lt x
    have h4 := Int.tmod_add_tdiv_mul x.toInt y.toInt
    have h6 : ((x.toInt.tdiv y.toInt).bmod (2 ^ 32) * y.toInt).bmod (2 ^ 32) = (x.toInt.tdiv y.toInt * y.toInt).bmod (2 ^ 32) := by simp [Int.mul_comm]
    have h8 : (x.toInt - (x.toInt.tdiv y.toInt * y.toInt).bmod (2 ^ 32)).bmod (2 ^ 32) = (x.toInt - x.toInt.tdiv y.toInt * y.toInt).bmod (2 ^ 32) := by simp
    rw [h6, h8, show x.toInt - x.toInt.tdiv y.toInt * y.toInt = x.toInt.tmod y.toInt by omega]
    have h10 : (x.toInt.tmod y.toInt).natAbs ≤ x.toInt.natAbs := by rw [Int.natAbs_tmod]; exact Nat.mod_le _ _
    rcases Int.le_total 0 x.toInt with g | g
    · have h11 := Int.tmod_nonneg y.toInt g
      rw [pd_w_eq, pd_w_id (by omega) (by omega)]
    · have h11 := Int.tmod_nonneg y.toInt (show 0 ≤ -x.toInt by omega)
      rw [Int.neg_tmod] at h11
      rw [pd_w_eq, pd_w_id (by omega) (by omega)]
  rw [h, Int32.toInt_mod]
theorem pd_irem {x y : Int} (hd : decode cc pc = .ok (.irem, 1)) (hy : y ≠ 0) (k : pd_V E l R (own, cc, nL, ret, nm) Qf al cells slots sh F (pc + 1) L (pd_I (x.tmod y) :: S)) : pd_V E l R (own, cc, nL, ret, nm) Qf al cells slots sh F pc L (pd_I y :: pd_I x :: S) := by
  intro p e s m args below meth c H locs ls st C hW hz hS hl hs
  obtain ⟨_, st1, rfl, ⟨y', rfl, rfl⟩, hs1⟩ := pd_sv_cons hs
  obtain ⟨_, st2, rfl, ⟨x', rfl, rfl⟩, hs2⟩ := pd_sv_cons hs1
  exact lv_irem C.1 C.2.1 hd (fun e => hy (by rw [e]; rfl)) (k _ _ _ _ _ _ _ _ _ _ _ _ C hW hz hS hl ⟨⟨_, rfl, pd_rem_eq hy⟩, hs2⟩)
theorem pd_dupx1 {x y : pd_v} (hd : decode cc pc = .ok (.dup_x1, 1)) (hx : pd_c1 x = 1) (hy : pd_c1 y = 1) (k : pd_V E l R (own, cc, nL, ret, nm) Qf al cells slots sh F (pc + 1) L (x :: y :: x :: S)) : pd_V E l R (own, cc, nL, ret, nm) Qf al cells slots sh F pc L (x :: y :: S) := by
  intro p e s m args below meth c H locs ls st C hW hz hS hl hs
  obtain ⟨v, st1, rfl, h1, hs1⟩ := pd_sv_cons hs
  obtain ⟨w, st2, rfl, h2, hs2⟩ := pd_sv_cons hs1
  exact lv_dup_x1 C.1 C.2.1 hd (by rw [pd_rv_cat h1]; exact hx) (by rw [pd_rv_cat h2]; exact hy) (k _ _ _ _ _ _ _ _ _ _ _ _ C hW hz hS hl ⟨h1, h2, h1, hs2⟩)
theorem pd_ifnn {a : Int} {off : Int} {tgt : Nat} (ha : a ≠ 0) (hd : decode cc pc = .ok (.ifnonnull off, 3)) (ht : (pc : Int) + off = (tgt : Int)) (k : pd_V E l R (own, cc, nL, ret, nm) Qf al cells slots sh F tgt L S) : pd_V E l R (own, cc, nL, ret, nm) Qf al cells slots sh F pc L (pd_R a :: S) := by
  intro p e s m args below meth c H locs ls st C hW hz hS hl hs
  obtain ⟨v, st1, rfl, h1, hs1⟩ := pd_sv_cons hs
  obtain ⟨q, hq⟩ := pd_rf_ne (E := E) ha
  obtain rfl := (show v = pd_rf E a from h1).trans hq
  exact lv_ifnonnull C.1 C.2.1 hd ht (k _ _ _ _ _ _ _ _ _ _ _ _ C hW hz hS hl hs1)
theorem pd_bret {x : Int} (hd : decode cc pc = .ok (.ireturn, 1)) (hr : ret = some .byte) (hx : pd_b x = x) (hc : cells ≤ mc) (hs0 : slots ≤ ms) : pd_V E l R (own, cc, nL, ret, nm) (pd_Qm E al (some (pd_I x)) sh F mc ms) al cells slots sh F pc L [pd_I x] := by
  intro p e s m args below meth c H locs ls st C hW hz hS hl hs
  obtain ⟨v, st1, rfl, ⟨x, rfl, rfl⟩, hs1⟩ := pd_sv_cons hs
  obtain rfl := pd_sv_nil hs1
  have hlocks : meth.locks = false := C.2.2.2.2.2.2.1.1
  have he := pd_end (args := args) (v := some (.int x)) (r := some (pd_I x.toInt)) ⟨x, rfl, rfl⟩ hW hz hS
  have hn : narrow .byte (.int x) = .int x := by
    have h1 : x.toInt8.toInt32 = x := Int32.toInt_inj.mp (by rw [Int8.toInt_toInt32, Int32.toInt_toInt8, pd_b_eq]; exact hx)
    first | exact congrArg Value.int h1 | simp [narrow, h1]
  exact W.widen hc hs0 (W.zret C.1 C.2.1 (C.2.2.2.2.2.1.trans hr) hn he hS.2.2 hd)
theorem pd_nrB {E : pd_E} {x : Int} (h : pd_b x = x) : ∀ v, pd_rv E v (pd_I x) → narrow .byte v = v := by
  rintro v ⟨y, rfl, rfl⟩
  have h1 : y.toInt8.toInt32 = y := Int32.toInt_inj.mp (by rw [Int8.toInt_toInt32, Int32.toInt_toInt8, pd_b_eq]; exact h)
  first | exact congrArg Value.int h1 | simp [narrow, h1]
theorem pd_ftB {E : pd_E} {x : Int} (h : pd_b x = x) : ∀ v, pd_rv E v (pd_I x) → fits .byte v = true := by
  rintro v ⟨y, rfl, rfl⟩
  have h0 : -128 ≤ pd_b y.toInt ∧ pd_b y.toInt ≤ 127 := by unfold pd_b; omega
  exact pd_fitB (by omega)
theorem pd_gsDO {index : Nat} (hd : decode cc pc = .ok (.getstatic index, 3)) (hlink : Cond.fieldLink own index "java/lang/Integer" "DigitOnes" "[B" ∈ pd_gt) (k : pd_V E l R (own, cc, nL, ret, nm) Qf al cells slots sh F (pc + 3) L (pd_R (-51) :: S)) : pd_V E l R (own, cc, nL, ret, nm) Qf al cells slots sh F pc L S := by
  intro p e s m args below meth c H locs ls st C hW hz hS hl hs
  exact va_gets C.1 C.2.1 C.2.2.2.2.2.2.2.2.2.2.2.2.2.2.1.2.2.1.1 hS C.2.2.2.1 (C.2.2.2.2.1 _ hlink) (fun _ h => h) hd (k _ _ _ _ _ _ _ _ _ _ _ _ C hW hz hS hl ⟨by show _ = pd_rf E (-51); unfold pd_rf; rw [if_neg (by decide), if_pos (by decide)]; rfl, hs⟩)
theorem pd_dldO {i : Int} (hd : decode cc pc = .ok (.baload, 1)) (hi : 0 ≤ i ∧ i < 100) (k : pd_V E l R (own, cc, nL, ret, nm) Qf al cells slots sh F (pc + 1) L (pd_I (48 + i % 10) :: S)) : pd_V E l R (own, cc, nL, ret, nm) Qf al cells slots sh F pc L (pd_I i :: pd_R (-51) :: S) := by
  intro p e s m args below meth c H locs ls st C hW hz hS hl hs
  obtain ⟨_, st1, rfl, ⟨i, rfl, rfl⟩, hs1⟩ := pd_sv_cons hs
  obtain ⟨_, st2, rfl, h0, hs2⟩ := pd_sv_cons hs1
  have g4 : pd_rf E (-51) = .ref (E.2.2.1 50) := by
    unfold pd_rf
    rw [if_neg (by decide), if_pos (by decide)]
    rfl
  obtain rfl := (show _ = pd_rf E _ from h0).trans g4
  obtain ⟨j1, j2, j3⟩ := pd_idx (n := 100) hi.1 hi.2
  refine va_tb C.1 C.2.1 C.2.2.2.2.2.2.2.2.2.2.2.2.2.2.1.2.2.1.2 hS j1 rfl hd (k _ _ _ _ _ _ _ _ _ _ _ _ C hW hz hS hl ⟨⟨_, rfl, ?_⟩, hs2⟩)
  rw [pd_ofNat (by omega)]
  omega
theorem pd_gsDT {index : Nat} (hd : decode cc pc = .ok (.getstatic index, 3)) (hlink : Cond.fieldLink own index "java/lang/Integer" "DigitTens" "[B" ∈ pd_gt) (k : pd_V E l R (own, cc, nL, ret, nm) Qf al cells slots sh F (pc + 3) L (pd_R (-52) :: S)) : pd_V E l R (own, cc, nL, ret, nm) Qf al cells slots sh F pc L S := by
  intro p e s m args below meth c H locs ls st C hW hz hS hl hs
  exact va_gets C.1 C.2.1 C.2.2.2.2.2.2.2.2.2.2.2.2.2.2.1.2.2.2.1 hS C.2.2.2.1 (C.2.2.2.2.1 _ hlink) (fun _ h => h) hd (k _ _ _ _ _ _ _ _ _ _ _ _ C hW hz hS hl ⟨by show _ = pd_rf E (-52); unfold pd_rf; rw [if_neg (by decide), if_pos (by decide)]; rfl, hs⟩)
theorem pd_dldT {i : Int} (hd : decode cc pc = .ok (.baload, 1)) (hi : 0 ≤ i ∧ i < 100) (k : pd_V E l R (own, cc, nL, ret, nm) Qf al cells slots sh F (pc + 1) L (pd_I (48 + i / 10) :: S)) : pd_V E l R (own, cc, nL, ret, nm) Qf al cells slots sh F pc L (pd_I i :: pd_R (-52) :: S) := by
  intro p e s m args below meth c H locs ls st C hW hz hS hl hs
  obtain ⟨_, st1, rfl, ⟨i, rfl, rfl⟩, hs1⟩ := pd_sv_cons hs
  obtain ⟨_, st2, rfl, h0, hs2⟩ := pd_sv_cons hs1
  have g4 : pd_rf E (-52) = .ref (E.2.2.1 51) := by
    unfold pd_rf
    rw [if_neg (by decide), if_pos (by decide)]
    rfl
  obtain rfl := (show _ = pd_rf E _ from h0).trans g4
  obtain ⟨j1, j2, j3⟩ := pd_idx (n := 100) hi.1 hi.2
  refine va_tb C.1 C.2.1 C.2.2.2.2.2.2.2.2.2.2.2.2.2.2.1.2.2.2.2 hS j1 rfl hd (k _ _ _ _ _ _ _ _ _ _ _ _ C hW hz hS hl ⟨⟨_, rfl, ?_⟩, hs2⟩)
  rw [pd_ofNat (by omega)]
  omega
theorem pd_callVC {Cn : String} {y : MethodName} {bytes : ByteArray} {maxL d index : Nat} {ret' : Option FieldType} {xs S0 : List pd_v} {b : Int} {r : Option pd_v} {sh' : pd_S} {F' : pd_F} (hC : pd_C l y (Cond.code y bytes maxL ret' :: pd_gt) (pd_rm d mc ms) al mc ms sh F (pd_R b :: xs) r sh' F') (hd : decode cc pc = .ok (.invokevirtual index, 3)) (hlink : Cond.methodLink own index y ∈ pd_gt) (hinst : Cond.instanceMethod y ∈ pd_gt) (hsel : Cond.selects Cn y y ∈ pd_gt) {ci : Nat} {T : u_T} {N : Nat} (hcl : vwCl[ci]? = some (Cn, T, N)) (hob : pd_ob sh ci b = true)
    (hok : pd_ok R d cells slots mc ms y bytes maxL ret' xs.length) (hcat : pd_cat S ≤ 8) (hS0 : xs.reverse ++ pd_R b :: S = S0) (k : pd_V E l R (own, cc, nL, ret, nm) Qf al (cells + mc) (slots + ms) sh' F' (pc + 3) L (r.toList ++ S)) : pd_V E l R (own, cc, nL, ret, nm) Qf al cells slots sh F pc L S0 := by
  intro p e s m args below meth c H locs ls st C hW hz hS hl hs
  subst hS0
  obtain ⟨⟨r1, r2, r3, r4⟩, hcode, hinit, hy, hpn⟩ := hok
  obtain ⟨st1, st2, rfl, hs1, hs2⟩ := pd_sv_split _ hs
  obtain ⟨_, st3, rfl, h0, hs3⟩ := pd_sv_cons hs2
  have hs4 := pd_sv_rev hs1
  rw [List.reverse_reverse] at hs4
  obtain ⟨ws, tys, hK, hP, hD, hlen, hw⟩ := id hW
  obtain ⟨nn, h5⟩ := pd_ob_spec hob
  obtain ⟨g1, g2, e1, g3, g4, fs, r', rfl, g5, g6, g7⟩ := pd_sh_at h5 hw
  cases hcl.symm.trans g5
  obtain rfl := (show _ = pd_rf E b from h0).trans g4
  have hrecv : ∃ cellB : Cell, H[E.2.1 + b.toNat]? = some cellB ∧ cellB.vm.isStatics = false ∧ s.vm.findClass Cn = some cellB.cls := by
    obtain ⟨r0, k1, cell, q1, q2, q3, -⟩ := hP _ _ g3
    cases hcl.symm.trans k1
    exact ⟨cell, q1, by rw [q3]; rfl, by rw [q2]; exact (hK.1 ci _ hcl).2.1⟩
  have hn : st1.reverse.length = xs.length := pd_sv_len hs4
  refine pd_after (va_runV (As := st1.reverse) (rest := st3) ⟨C.1, C.2.1, C.2.2.1, C.2.2.2.1, fun w hw => C.2.2.2.2.1 w hw⟩ (hC E (.ref (E.2.1 + b.toNat) :: st1.reverse) ⟨g4.symm, hs4⟩) ⟨(⟨rfl, rfl, r1, r2, pd_gtw C hcode, List.mem_cons_self, C.2.2.2.2.1 _ hcode, C.2.2.2.2.1 _ hinit, hy, pd_pn hpn, C.2.2.2.2.1 _ hlink⟩), C.2.2.2.2.1 _ hinst, C.2.2.2.2.1 _ hsel⟩ ⟨pd_blind, hrecv, pd_start C hW hz hS⟩ rfl hn hl.choose_spec.1.1 (by rw [List.reverse_reverse]) (pd_catL hs3 hcat) hd ⟨r3, r4⟩) hS (fun v H1 locs1 hro hW1 hz1 hS1 => ?_)
  refine k _ _ _ _ _ _ _ _ _ _ _ _ C hW1 hz1 hS1 hl ?_
  match v, r, hro with
  | none, none, _ => exact hs3
  | some v, some x, h => exact ⟨h, hs3⟩

theorem pd_callSU {Cn : String} {y : MethodName} {bytes : ByteArray} {maxL d index : Nat} {ret' : Option FieldType} {xs S0 : List pd_v} {b : Int} {r : Option pd_v} {sh' : pd_S} {F' : pd_F} (hC : pd_C l y (Cond.code y bytes maxL ret' :: pd_gt) (pd_rm d mc ms) al mc ms sh F (pd_R b :: xs) r sh' F') (hd : decode cc pc = .ok (.invokespecial index, 3)) (hlink : Cond.methodLink own index y ∈ pd_gt) (hinst : Cond.instanceMethod y ∈ pd_gt) (hsame : Cond.sameMethod y.cls y.cls y.name y.desc ∈ pd_gt) (hsup : Cond.superclass own y.cls ∈ pd_gt) (hno : y.name ≠ "<init>") {ci : Nat} {T : u_T} {N : Nat} (hcl : vwCl[ci]? = some (Cn, T, N)) (hob : pd_ob sh ci b = true)
    (hok : pd_ok R d cells slots mc ms y bytes maxL ret' xs.length) (hcat : pd_cat S ≤ 8) (hS0 : xs.reverse ++ pd_R b :: S = S0) (k : pd_V E l R (own, cc, nL, ret, nm) Qf al (cells + mc) (slots + ms) sh' F' (pc + 3) L (r.toList ++ S)) : pd_V E l R (own, cc, nL, ret, nm) Qf al cells slots sh F pc L S0 := by
  intro p e s m args below meth c H locs ls st C hW hz hS hl hs
  subst hS0
  obtain ⟨⟨r1, r2, r3, r4⟩, hcode, hinit, hy, hpn⟩ := hok
  obtain ⟨st1, st2, rfl, hs1, hs2⟩ := pd_sv_split _ hs
  obtain ⟨_, st3, rfl, h0, hs3⟩ := pd_sv_cons hs2
  have hs4 := pd_sv_rev hs1
  rw [List.reverse_reverse] at hs4
  obtain ⟨ws, tys, hK, hP, hD, hlen, hw⟩ := id hW
  obtain ⟨nn, h5⟩ := pd_ob_spec hob
  obtain ⟨g1, g2, e1, g3, g4, fs, r', rfl, g5, g6, g7⟩ := pd_sh_at h5 hw
  cases hcl.symm.trans g5
  obtain rfl := (show _ = pd_rf E b from h0).trans g4
  have hrecv : ∃ cellB : Cell, H[E.2.1 + b.toNat]? = some cellB ∧ cellB.vm.isStatics = false ∧ s.vm.findClass Cn = some cellB.cls := by
    obtain ⟨r0, k1, cell, q1, q2, q3, -⟩ := hP _ _ g3
    cases hcl.symm.trans k1
    exact ⟨cell, q1, by rw [q3]; rfl, by rw [q2]; exact (hK.1 ci _ hcl).2.1⟩
  have hn : st1.reverse.length = xs.length := pd_sv_len hs4
  refine pd_after (va_runSU (hK.1 ci _ hcl).2 (As := st1.reverse) (rest := st3) ⟨C.1, C.2.1, C.2.2.1, C.2.2.2.1, fun w hw => C.2.2.2.2.1 w hw⟩ (hC E (.ref (E.2.1 + b.toNat) :: st1.reverse) ⟨g4.symm, hs4⟩) ⟨⟨rfl, rfl, r1, r2, pd_gtw C hcode, List.mem_cons_self⟩, C.2.2.2.2.1 _ hlink, C.2.2.2.2.1 _ hsame, C.2.2.2.2.1 _ hsup, C.2.2.2.2.1 _ hinst, C.2.2.2.2.1 _ hinit, C.2.2.2.2.1 _ hcode, hno, pd_pn hpn⟩ ⟨pd_blind, hrecv, pd_start C hW hz hS⟩ rfl hn hl.choose_spec.1.1 (by rw [List.reverse_reverse]) (pd_catL hs3 hcat) hd ⟨r3, r4⟩) hS (fun v H1 locs1 hro hW1 hz1 hS1 => ?_)
  refine k _ _ _ _ _ _ _ _ _ _ _ _ C hW1 hz1 hS1 hl ?_
  match v, r, hro with
  | none, none, _ => exact hs3
  | some v, some x, h => exact ⟨h, hs3⟩

theorem pd_callVO {Cn : String} {x : MethodName} {b0 : ByteArray} {m0 : Nat} {r0 : Option FieldType} {y : MethodName} {bytes : ByteArray} {maxL d index : Nat} {ret' : Option FieldType} {xs S0 : List pd_v} {b : Int} {r : Option pd_v} {sh' : pd_S} {F' : pd_F} (hC : pd_C l y (Cond.code y bytes maxL ret' :: pd_gt) (pd_rm d mc ms) al mc ms sh F (pd_R b :: xs) r sh' F') (hd : decode cc pc = .ok (.invokevirtual index, 3)) (hlink : Cond.methodLink own index x ∈ pd_gt) (hsameX : Cond.sameMethod x.cls x.cls x.name x.desc ∈ pd_gt) (hinstX : Cond.instanceMethod x ∈ pd_gt) (hcodeX : Cond.code x b0 m0 r0 ∈ pd_gt) (hdX : x.cls ≠ "java/lang/invoke/MethodHandle" ∧ x.cls ≠ "java/lang/invoke/VarHandle") (hpX : x.desc = y.desc) (hinst : Cond.instanceMethod y ∈ pd_gt) (hsel : Cond.selects Cn x y ∈ pd_gt) {ci : Nat} {T : u_T} {N : Nat} (hcl : vwCl[ci]? = some (Cn, T, N)) (hob : pd_ob sh ci b = true)
    (hok : pd_ok R d cells slots mc ms y bytes maxL ret' xs.length) (hcat : pd_cat S ≤ 8) (hS0 : xs.reverse ++ pd_R b :: S = S0) (k : pd_V E l R (own, cc, nL, ret, nm) Qf al (cells + mc) (slots + ms) sh' F' (pc + 3) L (r.toList ++ S)) : pd_V E l R (own, cc, nL, ret, nm) Qf al cells slots sh F pc L S0 := by
  intro p e s m args below meth c H locs ls st C hW hz hS hl hs
  subst hS0
  obtain ⟨⟨r1, r2, r3, r4⟩, hcode, hinit, hy, hpn⟩ := hok
  obtain ⟨st1, st2, rfl, hs1, hs2⟩ := pd_sv_split _ hs
  obtain ⟨_, st3, rfl, h0, hs3⟩ := pd_sv_cons hs2
  have hs4 := pd_sv_rev hs1
  rw [List.reverse_reverse] at hs4
  obtain ⟨ws, tys, hK, hP, hD, hlen, hw⟩ := id hW
  obtain ⟨nn, h5⟩ := pd_ob_spec hob
  obtain ⟨g1, g2, e1, g3, g4, fs, r', rfl, g5, g6, g7⟩ := pd_sh_at h5 hw
  cases hcl.symm.trans g5
  obtain rfl := (show _ = pd_rf E b from h0).trans g4
  have hrecv : ∃ cellB : Cell, H[E.2.1 + b.toNat]? = some cellB ∧ cellB.vm.isStatics = false ∧ s.vm.findClass Cn = some cellB.cls := by
    obtain ⟨r0, k1, cell, q1, q2, q3, -⟩ := hP _ _ g3
    cases hcl.symm.trans k1
    exact ⟨cell, q1, by rw [q3]; rfl, by rw [q2]; exact (hK.1 ci _ hcl).2.1⟩
  have hn : st1.reverse.length = xs.length := pd_sv_len hs4
  refine pd_after (va_runU (x := x) (owner := x.cls) (C := Cn) (As := st1.reverse) (rest := st3) ⟨C.1, C.2.1, C.2.2.1, C.2.2.2.1, fun w hw => C.2.2.2.2.1 w hw⟩ (hC E (.ref (E.2.1 + b.toNat) :: st1.reverse) ⟨g4.symm, hs4⟩) ⟨⟨rfl, rfl, r1, r2, pd_gtw C hcode, List.mem_cons_self⟩, C.2.2.2.2.1 _ hcode, C.2.2.2.2.1 _ hinit, hdX, by rw [hpX]; exact pd_pn hpn, C.2.2.2.2.1 _ hlink, C.2.2.2.2.1 _ hsameX, va_Decl.of (C.2.2.2.2.1 _ hinstX) (C.2.2.2.2.1 _ hcodeX), C.2.2.2.2.1 _ hsel, C.2.2.2.2.1 _ hinst⟩ ⟨pd_blind, hrecv, pd_start C hW hz hS⟩ rfl hn hl.choose_spec.1.1 (by rw [List.reverse_reverse]) (pd_catL hs3 hcat) hd ⟨r3, r4⟩) hS (fun v H1 locs1 hro hW1 hz1 hS1 => ?_)
  refine k _ _ _ _ _ _ _ _ _ _ _ _ C hW1 hz1 hS1 hl ?_
  match v, r, hro with
  | none, none, _ => exact hs3
  | some v, some x, h => exact ⟨h, hs3⟩

end PDT
theorem jq_co : Cond.fieldLink "java/lang/String" 15 "java/lang/String" "coder" "B" ∈ pd_gt := pd_in 996 (by decide +kernel) (by decide +kernel)
theorem jq_va : Cond.fieldLink "java/lang/String" 9 "java/lang/String" "value" "[B" ∈ pd_gt := pd_in 995 (by decide +kernel) (by decide +kernel)
theorem jq_cs : Cond.fieldLink "java/lang/String" 38 "java/lang/String" "COMPACT_STRINGS" "Z" ∈ pd_gt := pd_in 883 (by decide +kernel) (by decide +kernel)
theorem jq_si : Cond.fieldLink "java/lang/String" 1053 "jdk/internal/util/Preconditions" "SIOOBE_FORMATTER" "Ljava/util/function/BiFunction;" ∈ pd_gt := pd_in 861 (by decide +kernel) (by decide +kernel)
theorem jq_iS : Cond.initialized "java/lang/String" ∈ pd_gt := pd_in 53 (by decide +kernel) (by decide +kernel)
theorem jq_iP : Cond.initialized "jdk/internal/util/Preconditions" ∈ pd_gt := pd_in 57 (by decide +kernel) (by decide +kernel)
theorem jq_ccoder : Cond.code yJ0_coder_7d493 cJ0_coder_7d493 1 (some .byte) ∈ pd_gt := pd_in 882 (by decide +kernel) (by decide +kernel)
theorem jq_mcoder : Cond.instanceMethod yJ0_coder_7d493 ∈ pd_gt := pd_in 880 (by decide +kernel) (by decide +kernel)
theorem jq_scoder : Cond.selects yJ0_coder_7d493.cls yJ0_coder_7d493 yJ0_coder_7d493 ∈ pd_gt := pd_in 881 (by decide +kernel) (by decide +kernel)
theorem jq_l335 : Cond.methodLink "java/lang/String" 335 yJ0_coder_7d493 ∈ pd_gt := pd_in 879 (by decide +kernel) (by decide +kernel)
theorem jq_cpcheck : Cond.code yJ3_checkIndex_8e157 cJ3_checkIndex_8e157 3 (some .int) ∈ pd_gt := pd_in 1032 (by decide +kernel) (by decide +kernel)
theorem jq_tpcheck : Cond.static yJ3_checkIndex_8e157 ∈ pd_gt := pd_in 1031 (by decide +kernel) (by decide +kernel)
theorem jq_l1059 : Cond.methodLink "java/lang/String" 1059 yJ3_checkIndex_8e157 ∈ pd_gt := pd_in 1030 (by decide +kernel) (by decide +kernel)
theorem dJ0_checkIndex_df160_0 : decode cJ0_checkIndex_df160 0 = .ok (.iload_n 0, 1) := by decide +kernel
theorem dJ0_checkIndex_df160_1 : decode cJ0_checkIndex_df160 1 = .ok (.iload_n 1, 1) := by decide +kernel
theorem dJ0_checkIndex_df160_2 : decode cJ0_checkIndex_df160 2 = .ok (.getstatic 1053, 3) := by decide +kernel
theorem dJ0_checkIndex_df160_5 : decode cJ0_checkIndex_df160 5 = .ok (.invokestatic 1059, 3) := by decide +kernel
theorem dJ0_checkIndex_df160_8 : decode cJ0_checkIndex_df160 8 = .ok (.pop, 1) := by decide +kernel
theorem dJ0_checkIndex_df160_9 : decode cJ0_checkIndex_df160 9 = .ok (.return_, 1) := by decide +kernel
theorem dJ3_checkIndex_8e157_0 : decode cJ3_checkIndex_8e157 0 = .ok (.iload_n 0, 1) := by decide +kernel
theorem dJ3_checkIndex_8e157_1 : decode cJ3_checkIndex_8e157 1 = .ok (.ifCond .lt 8, 3) := by decide +kernel
theorem dJ3_checkIndex_8e157_4 : decode cJ3_checkIndex_8e157 4 = .ok (.iload_n 0, 1) := by decide +kernel
theorem dJ3_checkIndex_8e157_5 : decode cJ3_checkIndex_8e157 5 = .ok (.iload_n 1, 1) := by decide +kernel
theorem dJ3_checkIndex_8e157_6 : decode cJ3_checkIndex_8e157 6 = .ok (.if_icmp .lt 10, 3) := by decide +kernel
theorem dJ3_checkIndex_8e157_9 : decode cJ3_checkIndex_8e157 9 = .ok (.aload_n 2, 1) := by decide +kernel
theorem dJ3_checkIndex_8e157_10 : decode cJ3_checkIndex_8e157 10 = .ok (.iload_n 0, 1) := by decide +kernel
theorem dJ3_checkIndex_8e157_11 : decode cJ3_checkIndex_8e157 11 = .ok (.iload_n 1, 1) := by decide +kernel
theorem dJ3_checkIndex_8e157_12 : decode cJ3_checkIndex_8e157 12 = .ok (.invokestatic 95, 3) := by decide +kernel
theorem dJ3_checkIndex_8e157_15 : decode cJ3_checkIndex_8e157 15 = .ok (.athrow, 1) := by decide +kernel
theorem dJ3_checkIndex_8e157_16 : decode cJ3_checkIndex_8e157 16 = .ok (.iload_n 0, 1) := by decide +kernel
theorem dJ3_checkIndex_8e157_17 : decode cJ3_checkIndex_8e157 17 = .ok (.ireturn, 1) := by decide +kernel
section PDU
variable {l : Launch} {al : Bool} {sh : pd_S} {F : pd_F} {w i n a : Int}
set_option maxHeartbeats 4000000 in
theorem jk_pcheck (hi : 0 ≤ i ∧ i < n) : pd_C l yJ3_checkIndex_8e157 (Cond.code yJ3_checkIndex_8e157 cJ3_checkIndex_8e157 3 (some .int) :: pd_gt) (pd_rm 1 0 0) al 0 0 sh F [pd_I i, pd_I n, pd_R a] (some (pd_I i)) sh F := by
  refine pd_body (L := [pd_I i, pd_I n, pd_R a]) (by decide +kernel) (Nat.le_of_ble_eq_true rfl) rfl (fun E => ?_)
  refine pd_iload_n (i := 0) dJ3_checkIndex_8e157_0 rfl rfl ?_
  refine pd_if_lt (tgt := 9) dJ3_checkIndex_8e157_1 (by decide) (fun h => absurd h (by omega)) (fun _ => ?_)
  refine pd_iload_n (i := 0) dJ3_checkIndex_8e157_4 rfl rfl ?_
  refine pd_iload_n (i := 1) dJ3_checkIndex_8e157_5 rfl rfl ?_
  refine pd_icmp_lt (tgt := 16) dJ3_checkIndex_8e157_6 (by decide) (fun _ => ?_) (fun h => absurd hi.2 h)
  refine pd_iload_n (i := 0) dJ3_checkIndex_8e157_16 rfl rfl ?_
  exact pd_iret dJ3_checkIndex_8e157_17 rfl (Nat.le_refl 0) (Nat.le_refl 0)
set_option maxHeartbeats 4000000 in
theorem jk_scheck (hi : 0 ≤ i ∧ i < n) : pd_C l yJ0_checkIndex_df160 (Cond.code yJ0_checkIndex_df160 cJ0_checkIndex_df160 2 none :: pd_gt) (pd_rm 2 0 0) al 0 0 sh F [pd_I i, pd_I n] none sh F := by
  refine pd_body (L := [pd_I i, pd_I n]) (by decide +kernel) (Nat.le_of_ble_eq_true rfl) rfl (fun E => ?_)
  refine pd_iload_n (i := 0) dJ0_checkIndex_df160_0 rfl rfl ?_
  refine pd_iload_n (i := 1) dJ0_checkIndex_df160_1 rfl rfl ?_
  refine pd_gsQ dJ0_checkIndex_df160_2 jq_si (fun a => ?_)
  refine pd_callS (xs := [pd_I i, pd_I n, pd_R a]) (jk_pcheck hi) dJ0_checkIndex_df160_5 jq_l1059 jq_tpcheck (pd_okm (by omega) (by decide) jq_cpcheck jq_iP (by decide) (show (parseMethodDescriptor yJ3_checkIndex_8e157.desc).map (fun d => d.parameters.length) = some 3 from by decide +kernel)) (Nat.le_of_ble_eq_true rfl) rfl ?_
  refine pd_pop dJ0_checkIndex_df160_8 rfl ?_
  exact pd_vret dJ0_checkIndex_df160_9 rfl (Nat.le_refl 0) (Nat.le_refl 0)
end PDU

theorem jq_ln : Cond.methodLink "java/util/Arrays" 310 ⟨"[B", "clone", "()Ljava/lang/Object;"⟩ ∈ pd_gt := pd_in 835 (by decide +kernel) (by decide +kernel)
theorem jq_sa : Cond.sameMethod "[B" "java/lang/Object" "clone" "()Ljava/lang/Object;" ∈ pd_gt := pd_in 836 (by decide +kernel) (by decide +kernel)
theorem jq_na : Cond.native ⟨"java/lang/Object", "clone", "()Ljava/lang/Object;"⟩ ∈ pd_gt := pd_in 837 (by decide +kernel) (by decide +kernel)
theorem jq_ma : Cond.instanceMethod ⟨"java/lang/Object", "clone", "()Ljava/lang/Object;"⟩ ∈ pd_gt := pd_in 838 (by decide +kernel) (by decide +kernel)
theorem jq_se : Cond.selects "[B" ⟨"[B", "clone", "()Ljava/lang/Object;"⟩ ⟨"java/lang/Object", "clone", "()Ljava/lang/Object;"⟩ ∈ pd_gt := pd_in 839 (by decide +kernel) (by decide +kernel)
theorem jq_ca : Cond.castable "[B" "java/lang/Cloneable" ∈ pd_gt := pd_in 840 (by decide +kernel) (by decide +kernel)
/-- a row of bytes a, told once more at b -/
def pd_cl (F : pd_F) (a b : Int) : pd_F := fun c j => if c = b then F a j else F c j
section PDK
variable {E : pd_E} {l : Launch} {R : Room} {own : String} {cc : ByteArray} {nL : Nat} {ret : Option FieldType} {nm : String} {Qf : State → Array Value → List Frame → State → Prop} {al : Bool} {cells slots mc ms : Nat} {sh : pd_S} {F : pd_F} {pc : Nat} {L S : List pd_v}
theorem pd_null (hd : decode cc pc = .ok (.aconst_null, 1)) (k : pd_V E l R (own, cc, nL, ret, nm) Qf al cells slots sh F (pc + 1) L (pd_R 0 :: S)) : pd_V E l R (own, cc, nL, ret, nm) Qf al cells slots sh F pc L S := by
  intro p e s m args below meth c H locs ls st C hW hz hS hl hs
  exact lv_null C.1 C.2.1 hd (k _ _ _ _ _ _ _ _ _ _ _ _ C hW hz hS hl ⟨rfl, hs⟩)

theorem pd_castB {a : Int} {index : Nat} (hd : decode cc pc = .ok (.checkcast index, 3)) (hlink : Cond.classLink own index "[B" ∈ pd_gt) (ha : 0 ≤ pd_ln sh 0 1 a) (k : pd_V E l R (own, cc, nL, ret, nm) Qf al cells slots sh F (pc + 3) L (pd_R a :: S)) : pd_V E l R (own, cc, nL, ret, nm) Qf al cells slots sh F pc L (pd_R a :: S) := by
  intro p e s m args below meth c H locs ls st C hW hz hS hl hs
  obtain ⟨_, st1, rfl, h0, hs1⟩ := pd_sv_cons hs
  obtain ⟨n, h1, h2⟩ := pd_ln_spec ha
  obtain ⟨ws, tys, hK, hP, hD, hlen, hw⟩ := id hW
  obtain ⟨h4, h5, e1, h6, h7, cA, f, t0, rfl, h8, h9, g1⟩ := pd_sh_at h1 hw
  obtain rfl := (show _ = pd_rf E a from h0).trans h7
  exact va_castA C.1 C.2.1 C.2.2.2.1 (C.2.2.2.2.1 _ hlink) hP _ h6 (va_nm_byte (hK.2 t0 _ h8).2) hd (k _ _ _ _ _ _ _ _ _ _ _ _ C hW hz hS hl ⟨h7.symm, hs1⟩)

theorem pd_cloneB {a : Int} (hd : decode cc pc = .ok (.invokevirtual 310, 3)) (ha : 0 ≤ pd_ln sh 0 1 a) (hb : pd_ln sh 0 1 a < 100000) (hby : pd_by F a 0 (pd_ln sh 0 1 a) = true) (hR : cells + 1 ≤ R.cells ∧ slots + Int.toNat (pd_ln sh 0 1 a) ≤ R.slots ∧ 1 ≤ R.frames ∧ 64 ≤ R.locals) (hcat : pd_cat S ≤ 8)
    (k : pd_V E l R ("java/util/Arrays", cc, nL, ret, nm) Qf true (cells + 1) (slots + Int.toNat (pd_ln sh 0 1 a)) (sh ++ [(0, 1, Int.toNat (pd_ln sh 0 1 a))]) (pd_cl F a (sh.length + 1)) (pc + 3) L (pd_R (sh.length + 1) :: S)) : pd_V E l R ("java/util/Arrays", cc, nL, ret, nm) Qf true cells slots sh F pc L (pd_R a :: S) := by
  intro p e s m args below meth c H locs ls st C hW hz hS hl hs
  obtain ⟨_, st1, rfl, h0, hs1⟩ := pd_sv_cons hs
  obtain ⟨n, h1, h2⟩ := pd_ln_spec ha
  obtain ⟨ws, tys, hK, hP, hD, hlen, hw⟩ := id hW
  obtain ⟨h4, h5, e1, h6, h7, cA, f, t0, rfl, h8, h9, g1⟩ := pd_sh_at h1 hw
  obtain rfl := (show _ = pd_rf E a from h0).trans h7
  have hz0 := hz rfl
  have hN : Int.toNat (pd_ln sh 0 1 a) = n := by rw [h2]; rfl
  rw [hN] at hR k
  have hml : c.maxLocals = ls.size := by rw [C.2.2.1]; exact hl.choose_spec.1.1.symm
  have hcl0 : va_Nw (.castable "[B" "java/lang/Cloneable") s := va_Nw.of rfl (C.2.2.2.2.1 _ jq_ca)
  have hcs := pd_sv_cat hs1
  intro T hT X
  have hcell : H[E.2.1 + a.toNat]? = some (arrV cA n (fun j => .int (f j))) := hP _ _ h6
  obtain ⟨c0, t0', f1, f2, f3⟩ := Cond.castable_spec (va_Nw.use (A := args) rfl hcl0)
  have hnm := va_nm_byte (hK.2 t0 _ h8).2
  cases hnm.symm.trans f1
  obtain ⟨-, kA, hkA, comp, hkind⟩ := State.isArrayOf_alike X.warmed.alike ((hK.2 t0 _ h8).1 0 (fun _ => .null))
  obtain ⟨-, kS, hkS, compS, hkindS⟩ := (hK.2 t0 _ h8).1 0 (fun _ => .null)
  obtain ⟨vm', X', st⟩ := X.cloneArray C.1 C.2.2.2.1 (C.2.2.2.2.1 _ jq_ln) (C.2.2.2.2.1 _ jq_sa) (C.2.2.2.2.1 _ jq_na) (C.2.2.2.2.1 _ jq_ma) (C.2.2.2.2.1 _ jq_se) (a := E.2.1 + a.toNat) (cell := arrV cA n (fun j => .int (f j))) (by rw [hT]; exact hcell) (fun q h => by cases h) (fun h => by cases h) hnm f2 f3
    (fun i v hv => by
      have hk' : T.vm.classes[cA]? = some kA := hkA
      have hvi : fits .byte v = true := by
        by_cases hi : i < n
        · rw [arrV_read _ _ hi] at hv
          cases hv
          have h9 := pd_by_spec hby i (by omega)
          rw [Int.zero_add, ← g1 i hi] at h9
          exact pd_fitB h9
        · rw [Array.getElem?_eq_none (by rw [arrV_size]; omega)] at hv
          cases hv
      rw [show (arrV cA n (fun j => Value.int (f j))).cls = cA from rfl]
      simpa [State.fitsSlot, State.slotType?, hk', hkind, pd_pt] using hvi)
    (g := F0 m pc ls (.ref (E.2.1 + a.toNat) :: st1)) rfl (by rw [hml]) rfl (by rw [C.2.1]; exact hd) hR.2.2.1 (by show 2 * 0 + _ + 14 ≤ _; rw [hcs]; omega) hR.1 (by rw [arrV_size]; exact hR.2.1) (hloader := Vm.clonesLoader_of_array hkS hkindS)
  rw [arrV_size] at X'
  generalize hH1 : H.push (arrV cA n (fun j => .int (f j))) = H1
  have z1 : H1.size = H.size + 1 := by rw [← hH1, Array.size_push]
  have e1 : H1[H.size]? = some (arrV cA n (fun j => .int (f j))) := by rw [← hH1, Array.getElem?_push_size]
  have o1 : ∀ q : Nat, q < H.size → H1[q]? = H[q]? := fun q hq => by rw [← hH1, Array.getElem?_push, if_neg (Nat.ne_of_lt hq)]
  have hk : ∀ (k : Nat) (y : Nat × va_E), ws[k]? = some y → H1[y.1]? = H[y.1]? := fun k y hy => o1 y.1 ((hP k y hy).lt)
  have hP1 : va_P E.1 vwCl (ws ++ [(H.size, .inl (cA, n, .inl f))]) H1 := (hP.kept hk).app (fun k y hy => by
      have hz : k < 1 := (List.getElem?_eq_some_iff.mp hy).1
      rw [show k = 0 by omega] at hy
      cases hy
      exact e1)
  have hD1 : va_D (pd_A E) (ws ++ [(H.size, .inl (cA, n, .inl f))]) := hD.push hP rfl (pd_hA C _ hS.1)
  have hWn : pd_Wd E (sh ++ [(0, 1, n)]) (pd_cl F a (sh.length + 1)) s H1 := by
    refine ⟨_, tys, hK, hP1, hD1, by rw [List.length_append, List.length_append, hlen]; rfl, fun b c' k' n' hb => ?_⟩
    by_cases hbl : b < sh.length
    · rw [List.getElem?_append_left hbl] at hb
      obtain ⟨e, q1, q2⟩ := hw b c' k' n' hb
      refine ⟨e, by rw [List.getElem?_append_left (by omega)]; exact q1, pd_wr_z (fun _ _ h => h) (fun j => ?_) q2⟩
      unfold pd_cl
      rw [if_neg (by omega)]
    · rw [List.getElem?_append_right (by omega)] at hb
      have hb0 : b - sh.length < 1 := (List.getElem?_eq_some_iff.mp hb).1
      have hbe : b = sh.length := by omega
      subst hbe
      rw [Nat.sub_self] at hb
      cases hb
      refine ⟨_, by rw [List.getElem?_append_right (by omega), hlen, Nat.sub_self]; show some _ = some _; rw [hz0]; rfl, cA, f, t0, rfl, h8, h9, fun j hj => ?_⟩
      unfold pd_cl
      rw [if_pos (by omega)]
      exact g1 j hj
  have hgo := k p e s m args below meth c H1 locs ls (.ref H.size :: st1) C hWn (fun _ => by rw [z1, hz0, List.length_append]; rfl) ⟨Nat.le_trans hS.1 (by omega), fun y h1 h2 => (o1 y (Nat.lt_of_lt_of_le h1 hS.1)).trans (hS.2.1 y h1 h2), hS.2.2⟩ hl ⟨by
    show _ = pd_rf E _
    unfold pd_rf
    rw [if_neg (by omega), if_neg (by omega), hz0]
    (congr 1) <;> omega, hs1⟩
  obtain ⟨t, b1, b2⟩ := hgo ((T.setVm vm').pushCell (arrV cA n (fun j => .int (f j)))) (by rw [← hH1, ← hT]; rfl) X'
  refine ⟨t, st t ?_, b2⟩
  rw [hT]
  exact b1
theorem pd_callVD {y : MethodName} {bytes : ByteArray} {maxL d index : Nat} {ret' : Option FieldType} {xs S0 : List pd_v} {b : Int} {r : Option pd_v} {sh' : pd_S} {F' : pd_F} (hC : pd_C l y (Cond.code y bytes maxL ret' :: pd_gt) (pd_rm d mc ms) al mc ms sh F (pd_R b :: xs) r sh' F') (hd : decode cc pc = .ok (.invokevirtual index, 3)) (hlink : Cond.methodLink own index y ∈ pd_gt) (hinst : Cond.instanceMethod y ∈ pd_gt) (hsel : Cond.selects y.cls y y ∈ pd_gt) (hcl : y.cls = "java/lang/String") (hb0 : pd_ob sh 12 b = true ∨ (-21 ≤ b ∧ b < 0))
    (hok : pd_ok R d cells slots mc ms y bytes maxL ret' xs.length) (hcat : pd_cat S ≤ 8) (hS0 : xs.reverse ++ pd_R b :: S = S0) (k : pd_V E l R (own, cc, nL, ret, nm) Qf al (cells + mc) (slots + ms) sh' F' (pc + 3) L (r.toList ++ S)) : pd_V E l R (own, cc, nL, ret, nm) Qf al cells slots sh F pc L S0 := by
  rcases hb0 with h | h
  · exact pd_callV hC hd hlink hinst hsel (show vwCl[12]? = some (y.cls, TX12, 4) from by rw [hcl]; rfl) h hok hcat hS0 k
  · exact pd_callVT hC hd hlink hinst hsel hcl h hok hcat hS0 k
end PDK

