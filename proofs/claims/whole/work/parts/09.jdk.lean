/-! texts and other things of the JDK -/
def pd_c (x : Int) : Int := ((Int32.ofInt x).toUInt32 % 65536).toInt32.toInt
section PDT
variable {E : pd_E} {l : Launch} {R : Room} {own : String} {cc : ByteArray} {nL : Nat} {ret : Option FieldType} {nm : String} {Qf : State → Array Value → List Frame → State → Prop} {al : Bool} {cells slots mc ms : Nat} {sh : pd_S} {F : pd_F} {pc : Nat} {L S : List pd_v}

theorem pd_callVT {y : MethodName} {bytes : ByteArray} {maxL d index : Nat} {ret' : Option FieldType} {xs S0 : List pd_v} {b : Int} {r : Option pd_v} {sh' : pd_S} {F' : pd_F} (hC : pd_C l y (Cond.code y bytes maxL ret' :: pd_gt) (pd_rm d mc ms) al mc ms sh F (pd_R b :: xs) r sh' F') (hd : decode cc pc = .ok (.invokevirtual index, 3)) (hlink : Cond.methodLink own index y ∈ pd_gt) (hinst : Cond.instanceMethod y ∈ pd_gt) (hsel : Cond.selects y.cls y y ∈ pd_gt) (hcl : y.cls = "java/lang/String") (hb0 : -16 ≤ b ∧ b < 0)
    (hok : pd_ok R d cells slots mc ms y bytes maxL ret' xs.length) (hcat : pd_cat S ≤ 8) (hS0 : xs.reverse ++ pd_R b :: S = S0) (k : pd_V E l R (own, cc, nL, ret, nm) Qf al (cells + mc) (slots + ms) sh' F' (pc + 3) L (r.toList ++ S)) : pd_V E l R (own, cc, nL, ret, nm) Qf al cells slots sh F pc L S0 := by
  intro p e s m args below meth c H locs ls st C hW hz hS hl hs
  subst hS0
  obtain ⟨⟨r1, r2, r3, r4⟩, hcode, hinit, hy, hpn⟩ := hok
  obtain ⟨st1, st2, rfl, hs1, hs2⟩ := pd_sv_split _ hs
  obtain ⟨_, st3, rfl, h0, hs3⟩ := pd_sv_cons hs2
  have hs4 := pd_sv_rev hs1
  rw [List.reverse_reverse] at hs4
  have g4 : pd_rf E b = .ref (E.2.2.1 (-b - 1).toNat) := by
    unfold pd_rf
    rw [if_neg (by omega), if_pos (by omega)]
  obtain rfl := (show _ = pd_rf E b from h0).trans g4
  have hrecv : ∃ cellB : Cell, H[E.2.2.1 (-b - 1).toNat]? = some cellB ∧ cellB.vm.isStatics = false ∧ s.vm.findClass y.cls = some cellB.cls := by
    rw [hcl]
    exact vk_recv C.2.2.2.2.2.2.2.2.2.1 (by omega) hS
  have hn : st1.reverse.length = xs.length := pd_sv_len hs4
  refine pd_after (va_runV (As := st1.reverse) (rest := st3) ⟨C.1, C.2.1, C.2.2.1, C.2.2.2.1, fun w hw => C.2.2.2.2.1 w hw⟩ (hC E (.ref (E.2.2.1 (-b - 1).toNat) :: st1.reverse) ⟨g4.symm, hs4⟩) ⟨(⟨rfl, rfl, r1, r2, pd_gtw C hcode, List.mem_cons_self, C.2.2.2.2.1 _ hcode, C.2.2.2.2.1 _ hinit, hy, pd_pn hpn, C.2.2.2.2.1 _ hlink⟩), C.2.2.2.2.1 _ hinst, C.2.2.2.2.1 _ hsel⟩ ⟨pd_blind, hrecv, pd_start C hW hz hS⟩ rfl hn hl.choose_spec.1.1 (by rw [List.reverse_reverse]) (pd_catL hs3 hcat) hd ⟨r3, r4⟩) hS (fun v H1 locs1 hro hW1 hz1 hS1 => ?_)
  refine k _ _ _ _ _ _ _ _ _ _ _ _ C hW1 hz1 hS1 hl ?_
  match v, r, hro with
  | none, none, _ => exact hs3
  | some v, some x, h => exact ⟨h, hs3⟩


theorem pd_i2c {x : Int} (hd : decode cc pc = .ok (.i2c, 1)) (k : pd_V E l R (own, cc, nL, ret, nm) Qf al cells slots sh F (pc + 1) L (pd_I (pd_c x) :: S)) : pd_V E l R (own, cc, nL, ret, nm) Qf al cells slots sh F pc L (pd_I x :: S) := by
  intro p e s m args below meth c H locs ls st C hW hz hS hl hs
  obtain ⟨_, st1, rfl, ⟨x', rfl, rfl⟩, hs1⟩ := pd_sv_cons hs
  exact lv_i2c C.1 C.2.1 hd rfl (k _ _ _ _ _ _ _ _ _ _ _ _ C hW hz hS hl ⟨⟨_, rfl, by simp [pd_c]⟩, hs1⟩)
theorem pd_gsC {index : Nat} (hd : decode cc pc = .ok (.getstatic index, 3)) (hlink : Cond.fieldLink own index "java/lang/String" "COMPACT_STRINGS" "Z" ∈ pd_gt) (k : pd_V E l R (own, cc, nL, ret, nm) Qf al cells slots sh F (pc + 3) L (pd_I 1 :: S)) : pd_V E l R (own, cc, nL, ret, nm) Qf al cells slots sh F pc L S := by
  intro p e s m args below meth c H locs ls st C hW hz hS hl hs
  exact va_gets C.1 C.2.1 C.2.2.2.2.2.2.2.2.2.2.2.1 hS C.2.2.2.1 (C.2.2.2.2.1 _ hlink) (fun _ h => h) hd (k _ _ _ _ _ _ _ _ _ _ _ _ C hW hz hS hl ⟨⟨1, rfl, rfl⟩, hs⟩)
theorem pd_gsQ {index : Nat} (hd : decode cc pc = .ok (.getstatic index, 3)) (hlink : Cond.fieldLink own index "jdk/internal/util/Preconditions" "SIOOBE_FORMATTER" "Ljava/util/function/BiFunction;" ∈ pd_gt) (k : ∀ a, pd_V E l R (own, cc, nL, ret, nm) Qf al cells slots sh F (pc + 3) L (pd_R a :: S)) : pd_V E l R (own, cc, nL, ret, nm) Qf al cells slots sh F pc L S := by
  intro p e s m args below meth c H locs ls st C hW hz hS hl hs
  rcases C.2.2.2.2.2.2.2.2.2.2.2.2.1 with h | h
  · exact va_gets C.1 C.2.1 h hS C.2.2.2.1 (C.2.2.2.2.1 _ hlink) (fun _ h => h) hd (k 0 _ _ _ _ _ _ _ _ _ _ _ _ C hW hz hS hl ⟨rfl, hs⟩)
  · exact va_gets C.1 C.2.1 h hS C.2.2.2.1 (C.2.2.2.2.1 _ hlink) (fun _ h => h) hd (k (-33) _ _ _ _ _ _ _ _ _ _ _ _ C hW hz hS hl ⟨by show _ = pd_rf E (-33); unfold pd_rf; rw [if_neg (by decide), if_pos (by decide)]; rfl, hs⟩)
theorem pd_sgC {index : Nat} {w : Int} (hd : decode cc pc = .ok (.getfield index, 3)) (hlink : Cond.fieldLink own index "java/lang/String" "coder" "B" ∈ pd_gt) (hb0 : -16 ≤ w ∧ w < 0) (k : pd_V E l R (own, cc, nL, ret, nm) Qf al cells slots sh F (pc + 3) L (pd_I 0 :: S)) : pd_V E l R (own, cc, nL, ret, nm) Qf al cells slots sh F pc L (pd_R w :: S) := by
  intro p e s m args below meth c H locs ls st C hW hz hS hl hs
  obtain ⟨_, st1, rfl, h0, hs1⟩ := pd_sv_cons hs
  have g4 : pd_rf E w = .ref (E.2.2.1 (-w - 1).toNat) := by
    unfold pd_rf
    rw [if_neg (by omega), if_pos (by omega)]
  obtain rfl := (show _ = pd_rf E w from h0).trans g4
  exact vk_getf C.1 C.2.1 (C.2.2.2.2.2.2.2.2.2.1.1 (-w - 1).toNat (by omega)).2.1 hS C.2.2.2.1 (C.2.2.2.2.1 _ hlink) (fun _ h => h) hd (k _ _ _ _ _ _ _ _ _ _ _ _ C hW hz hS hl ⟨⟨0, rfl, rfl⟩, hs1⟩)
theorem pd_sgV {index : Nat} {w : Int} (hd : decode cc pc = .ok (.getfield index, 3)) (hlink : Cond.fieldLink own index "java/lang/String" "value" "[B" ∈ pd_gt) (hb0 : -16 ≤ w ∧ w < 0) (k : pd_V E l R (own, cc, nL, ret, nm) Qf al cells slots sh F (pc + 3) L (pd_R (w - 16) :: S)) : pd_V E l R (own, cc, nL, ret, nm) Qf al cells slots sh F pc L (pd_R w :: S) := by
  intro p e s m args below meth c H locs ls st C hW hz hS hl hs
  obtain ⟨_, st1, rfl, h0, hs1⟩ := pd_sv_cons hs
  have g4 : pd_rf E w = .ref (E.2.2.1 (-w - 1).toNat) := by
    unfold pd_rf
    rw [if_neg (by omega), if_pos (by omega)]
  obtain rfl := (show _ = pd_rf E w from h0).trans g4
  refine vk_getf C.1 C.2.1 (C.2.2.2.2.2.2.2.2.2.1.1 (-w - 1).toNat (by omega)).2.2.1 hS C.2.2.2.1 (C.2.2.2.2.1 _ hlink) (fun _ h => h) hd (k _ _ _ _ _ _ _ _ _ _ _ _ C hW hz hS hl ⟨?_, hs1⟩)
  show _ = pd_rf E (w - 16)
  unfold pd_rf
  rw [if_neg (by omega), if_pos (by omega), show (-(w - 16) - 1).toNat = 16 + (-w - 1).toNat by omega, C.2.2.2.2.2.2.2.2.2.2.2.2.2.2.2 _ (by omega)]
theorem pd_len_at {w : Int} (hb0 : -16 ≤ w ∧ w < 0) : pd_slen w = (pd_len.getD (-w - 1).toNat 0 : Nat) ∧ ∀ k, pd_sch w k = ((pd_byt.getD (-w - 1).toNat []).getD k.toNat 0).toInt := by
  have h : ∃ i : Nat, i < 16 ∧ (-w - 1).toNat = i := ⟨_, by omega, rfl⟩
  obtain ⟨i, hi, he⟩ := h
  unfold pd_slen pd_sch
  rw [if_pos hb0.2, he]
  have hl : pd_strT.length = 16 := rfl
  obtain ⟨q, hq⟩ : ∃ q, pd_strT[i]? = some q := ⟨_, List.getElem?_eq_getElem (by omega)⟩
  rw [hq]
  unfold pd_len pd_byt
  refine ⟨?_, fun k => ?_⟩
  · rw [List.getD_eq_getElem?_getD, List.getElem?_map, hq]; rfl
  · have e : (List.map (fun q : String × Nat × String × List Int32 => q.2.2.2) pd_strT).getD i [] = q.2.2.2 := by rw [List.getD_eq_getElem?_getD, List.getElem?_map, hq]; rfl
    rw [if_pos hb0.2, e]
theorem pd_lens_small : ∀ i, i < 16 → pd_len.getD i 0 < 2147483648 := by decide +kernel
theorem pd_salen {w : Int} (hd : decode cc pc = .ok (.arraylength, 1)) (hb0 : -16 ≤ w ∧ w < 0) (k : pd_V E l R (own, cc, nL, ret, nm) Qf al cells slots sh F (pc + 1) L (pd_I (pd_slen w) :: S)) : pd_V E l R (own, cc, nL, ret, nm) Qf al cells slots sh F pc L (pd_R (w - 16) :: S) := by
  intro p e s m args below meth c H locs ls st C hW hz hS hl hs
  obtain ⟨_, st1, rfl, h0, hs1⟩ := pd_sv_cons hs
  have hi : (-w - 1).toNat < 16 := by omega
  have g4 : pd_rf E (w - 16) = .ref (E.2.2.2 (-w - 1).toNat) := by
    unfold pd_rf
    rw [if_neg (by omega), if_pos (by omega), show (-(w - 16) - 1).toNat = 16 + (-w - 1).toNat by omega, C.2.2.2.2.2.2.2.2.2.2.2.2.2.2.2 _ hi]
  obtain rfl := (show _ = pd_rf E _ from h0).trans g4
  refine va_tlen C.1 C.2.1 (C.2.2.2.2.2.2.2.2.2.1.1 _ hi).2.2.2 hS rfl hd (k _ _ _ _ _ _ _ _ _ _ _ _ C hW hz hS hl ⟨⟨_, rfl, ?_⟩, hs1⟩)
  rw [pd_ofNat (pd_lens_small _ hi), (pd_len_at hb0).1]
theorem pd_sbald {w i : Int} (hd : decode cc pc = .ok (.baload, 1)) (hb0 : -16 ≤ w ∧ w < 0) (hi0 : 0 ≤ i ∧ i < pd_slen w) (k : pd_V E l R (own, cc, nL, ret, nm) Qf al cells slots sh F (pc + 1) L (pd_I (pd_sch w i) :: S)) : pd_V E l R (own, cc, nL, ret, nm) Qf al cells slots sh F pc L (pd_I i :: pd_R (w - 16) :: S) := by
  intro p e s m args below meth c H locs ls st C hW hz hS hl hs
  obtain ⟨_, st1, rfl, ⟨i, rfl, rfl⟩, hs1⟩ := pd_sv_cons hs
  obtain ⟨_, st2, rfl, h0, hs2⟩ := pd_sv_cons hs1
  have hi : (-w - 1).toNat < 16 := by omega
  have g4 : pd_rf E (w - 16) = .ref (E.2.2.2 (-w - 1).toNat) := by
    unfold pd_rf
    rw [if_neg (by omega), if_pos (by omega), show (-(w - 16) - 1).toNat = 16 + (-w - 1).toNat by omega, C.2.2.2.2.2.2.2.2.2.2.2.2.2.2.2 _ hi]
  obtain rfl := (show _ = pd_rf E _ from h0).trans g4
  rw [(pd_len_at hb0).1] at hi0
  obtain ⟨j1, j2, j3⟩ := pd_idx hi0.1 hi0.2
  refine va_tb C.1 C.2.1 (C.2.2.2.2.2.2.2.2.2.1.1 _ hi).2.2.2 hS j1 rfl hd (k _ _ _ _ _ _ _ _ _ _ _ _ C hW hz hS hl ⟨⟨_, rfl, ?_⟩, hs2⟩)
  rw [(pd_len_at hb0).2]
  rfl
theorem pd_bret0 (hd : decode cc pc = .ok (.ireturn, 1)) (hr : ret = some .byte) (hc : cells ≤ mc) (hs0 : slots ≤ ms) : pd_V E l R (own, cc, nL, ret, nm) (pd_Qm E al (some (pd_I 0)) sh F mc ms) al cells slots sh F pc L [pd_I 0] := by
  intro p e s m args below meth c H locs ls st C hW hz hS hl hs
  obtain ⟨v, st1, rfl, ⟨x, rfl, hx⟩, hs1⟩ := pd_sv_cons hs
  obtain rfl := pd_sv_nil hs1
  have hx0 : x = 0 := Int32.toInt_inj.mp (by rw [hx]; rfl)
  subst hx0
  have hlocks : meth.locks = false := C.2.2.2.2.2.2.1.1
  have he := pd_end (args := args) (v := some (.int 0)) (r := some (pd_I 0)) ⟨0, rfl, rfl⟩ hW hz hS
  exact W.widen hc hs0 (W.zret C.1 C.2.1 (C.2.2.2.2.2.1.trans hr) (by first | rfl | decide) he hS.2.2 hd)
theorem pd_cret {x : Int} (hd : decode cc pc = .ok (.ireturn, 1)) (hr : ret = some .char) (hx : pd_c x = x) (hc : cells ≤ mc) (hs0 : slots ≤ ms) : pd_V E l R (own, cc, nL, ret, nm) (pd_Qm E al (some (pd_I x)) sh F mc ms) al cells slots sh F pc L [pd_I x] := by
  intro p e s m args below meth c H locs ls st C hW hz hS hl hs
  obtain ⟨v, st1, rfl, ⟨x, rfl, rfl⟩, hs1⟩ := pd_sv_cons hs
  obtain rfl := pd_sv_nil hs1
  have hlocks : meth.locks = false := C.2.2.2.2.2.2.1.1
  have he := pd_end (args := args) (v := some (.int x)) (r := some (pd_I x.toInt)) ⟨x, rfl, rfl⟩ hW hz hS
  have hn : narrow .char (.int x) = .int x := by
    have h1 : (x.toUInt32 % 65536).toInt32 = x := Int32.toInt_inj.mp (by simpa [pd_c] using hx)
    first | exact congrArg Value.int h1 | simp [narrow, h1]
  exact W.widen hc hs0 (W.zret C.1 C.2.1 (C.2.2.2.2.2.1.trans hr) hn he hS.2.2 hd)
end PDT

def yJ_coder : MethodName := ⟨"java/lang/String", "coder", "()B"⟩
abbrev cJ_coder : ByteArray := prog_22_method_152_code
theorem dJ_coder_0 : decode cJ_coder 0 = .ok (.getstatic 38, 3) := by decide +kernel
theorem dJ_coder_3 : decode cJ_coder 3 = .ok (.ifCond .eq 10, 3) := by decide +kernel
theorem dJ_coder_6 : decode cJ_coder 6 = .ok (.aload_n 0, 1) := by decide +kernel
theorem dJ_coder_7 : decode cJ_coder 7 = .ok (.getfield 15, 3) := by decide +kernel
theorem dJ_coder_10 : decode cJ_coder 10 = .ok (.goto 4, 3) := by decide +kernel
theorem dJ_coder_13 : decode cJ_coder 13 = .ok (.iconst 1, 1) := by decide +kernel
theorem dJ_coder_14 : decode cJ_coder 14 = .ok (.ireturn, 1) := by decide +kernel
abbrev wJ_coder : List Cond := Cond.code yJ_coder cJ_coder 1 (some .byte) :: pd_gt
def yJ_length : MethodName := ⟨"java/lang/String", "length", "()I"⟩
abbrev cJ_length : ByteArray := prog_22_method_54_code
theorem dJ_length_0 : decode cJ_length 0 = .ok (.aload_n 0, 1) := by decide +kernel
theorem dJ_length_1 : decode cJ_length 1 = .ok (.getfield 9, 3) := by decide +kernel
theorem dJ_length_4 : decode cJ_length 4 = .ok (.arraylength, 1) := by decide +kernel
theorem dJ_length_5 : decode cJ_length 5 = .ok (.aload_n 0, 1) := by decide +kernel
theorem dJ_length_6 : decode cJ_length 6 = .ok (.invokevirtual 335, 3) := by decide +kernel
theorem dJ_length_9 : decode cJ_length 9 = .ok (.ishr, 1) := by decide +kernel
theorem dJ_length_10 : decode cJ_length 10 = .ok (.ireturn, 1) := by decide +kernel
abbrev wJ_length : List Cond := Cond.code yJ_length cJ_length 1 (some .int) :: pd_gt
def yJ_isLatin1 : MethodName := ⟨"java/lang/String", "isLatin1", "()Z"⟩
abbrev cJ_isLatin1 : ByteArray := prog_22_method_154_code
theorem dJ_isLatin1_0 : decode cJ_isLatin1 0 = .ok (.getstatic 38, 3) := by decide +kernel
theorem dJ_isLatin1_3 : decode cJ_isLatin1 3 = .ok (.ifCond .eq 14, 3) := by decide +kernel
theorem dJ_isLatin1_6 : decode cJ_isLatin1 6 = .ok (.aload_n 0, 1) := by decide +kernel
theorem dJ_isLatin1_7 : decode cJ_isLatin1 7 = .ok (.getfield 15, 3) := by decide +kernel
theorem dJ_isLatin1_10 : decode cJ_isLatin1 10 = .ok (.ifCond .ne 7, 3) := by decide +kernel
theorem dJ_isLatin1_13 : decode cJ_isLatin1 13 = .ok (.iconst 1, 1) := by decide +kernel
theorem dJ_isLatin1_14 : decode cJ_isLatin1 14 = .ok (.goto 4, 3) := by decide +kernel
theorem dJ_isLatin1_17 : decode cJ_isLatin1 17 = .ok (.iconst 0, 1) := by decide +kernel
theorem dJ_isLatin1_18 : decode cJ_isLatin1 18 = .ok (.ireturn, 1) := by decide +kernel
abbrev wJ_isLatin1 : List Cond := Cond.code yJ_isLatin1 cJ_isLatin1 1 (some .boolean) :: pd_gt
def yJ_pcheck : MethodName := ⟨"jdk/internal/util/Preconditions", "checkIndex", "(IILjava/util/function/BiFunction;)I"⟩
abbrev cJ_pcheck : ByteArray := prog_30_method_11_code
theorem dJ_pcheck_0 : decode cJ_pcheck 0 = .ok (.iload_n 0, 1) := by decide +kernel
theorem dJ_pcheck_1 : decode cJ_pcheck 1 = .ok (.ifCond .lt 8, 3) := by decide +kernel
theorem dJ_pcheck_4 : decode cJ_pcheck 4 = .ok (.iload_n 0, 1) := by decide +kernel
theorem dJ_pcheck_5 : decode cJ_pcheck 5 = .ok (.iload_n 1, 1) := by decide +kernel
theorem dJ_pcheck_6 : decode cJ_pcheck 6 = .ok (.if_icmp .lt 10, 3) := by decide +kernel
theorem dJ_pcheck_16 : decode cJ_pcheck 16 = .ok (.iload_n 0, 1) := by decide +kernel
theorem dJ_pcheck_17 : decode cJ_pcheck 17 = .ok (.ireturn, 1) := by decide +kernel
abbrev wJ_pcheck : List Cond := Cond.code yJ_pcheck cJ_pcheck 3 (some .int) :: pd_gt
def yJ_scheck : MethodName := ⟨"java/lang/String", "checkIndex", "(II)V"⟩
abbrev cJ_scheck : ByteArray := prog_22_method_155_code
theorem dJ_scheck_0 : decode cJ_scheck 0 = .ok (.iload_n 0, 1) := by decide +kernel
theorem dJ_scheck_1 : decode cJ_scheck 1 = .ok (.iload_n 1, 1) := by decide +kernel
theorem dJ_scheck_2 : decode cJ_scheck 2 = .ok (.getstatic 1053, 3) := by decide +kernel
theorem dJ_scheck_5 : decode cJ_scheck 5 = .ok (.invokestatic 1059, 3) := by decide +kernel
theorem dJ_scheck_8 : decode cJ_scheck 8 = .ok (.pop, 1) := by decide +kernel
theorem dJ_scheck_9 : decode cJ_scheck 9 = .ok (.return_, 1) := by decide +kernel
abbrev wJ_scheck : List Cond := Cond.code yJ_scheck cJ_scheck 2 none :: pd_gt
def yJ_lchar : MethodName := ⟨"java/lang/StringLatin1", "charAt", "([BI)C"⟩
abbrev cJ_lchar : ByteArray := prog_23_method_2_code
theorem dJ_lchar_0 : decode cJ_lchar 0 = .ok (.iload_n 1, 1) := by decide +kernel
theorem dJ_lchar_1 : decode cJ_lchar 1 = .ok (.aload_n 0, 1) := by decide +kernel
theorem dJ_lchar_2 : decode cJ_lchar 2 = .ok (.arraylength, 1) := by decide +kernel
theorem dJ_lchar_3 : decode cJ_lchar 3 = .ok (.invokestatic 9, 3) := by decide +kernel
theorem dJ_lchar_6 : decode cJ_lchar 6 = .ok (.aload_n 0, 1) := by decide +kernel
theorem dJ_lchar_7 : decode cJ_lchar 7 = .ok (.iload_n 1, 1) := by decide +kernel
theorem dJ_lchar_8 : decode cJ_lchar 8 = .ok (.baload, 1) := by decide +kernel
theorem dJ_lchar_9 : decode cJ_lchar 9 = .ok (.sipush 255, 3) := by decide +kernel
theorem dJ_lchar_12 : decode cJ_lchar 12 = .ok (.iand, 1) := by decide +kernel
theorem dJ_lchar_13 : decode cJ_lchar 13 = .ok (.i2c, 1) := by decide +kernel
theorem dJ_lchar_14 : decode cJ_lchar 14 = .ok (.ireturn, 1) := by decide +kernel
abbrev wJ_lchar : List Cond := Cond.code yJ_lchar cJ_lchar 2 (some .char) :: pd_gt
def yJ_charAt : MethodName := ⟨"java/lang/String", "charAt", "(I)C"⟩
abbrev cJ_charAt : ByteArray := prog_22_method_56_code
theorem dJ_charAt_0 : decode cJ_charAt 0 = .ok (.aload_n 0, 1) := by decide +kernel
theorem dJ_charAt_1 : decode cJ_charAt 1 = .ok (.invokevirtual 492, 3) := by decide +kernel
theorem dJ_charAt_4 : decode cJ_charAt 4 = .ok (.ifCond .eq 12, 3) := by decide +kernel
theorem dJ_charAt_7 : decode cJ_charAt 7 = .ok (.aload_n 0, 1) := by decide +kernel
theorem dJ_charAt_8 : decode cJ_charAt 8 = .ok (.getfield 9, 3) := by decide +kernel
theorem dJ_charAt_11 : decode cJ_charAt 11 = .ok (.iload_n 1, 1) := by decide +kernel
theorem dJ_charAt_12 : decode cJ_charAt 12 = .ok (.invokestatic 495, 3) := by decide +kernel
theorem dJ_charAt_15 : decode cJ_charAt 15 = .ok (.ireturn, 1) := by decide +kernel
abbrev wJ_charAt : List Cond := Cond.code yJ_charAt cJ_charAt 2 (some .char) :: pd_gt
theorem jq_cs : Cond.fieldLink "java/lang/String" 38 "java/lang/String" "COMPACT_STRINGS" "Z" ∈ pd_gt := pd_in 1399 (by decide +kernel) (by decide +kernel)
theorem jq_co : Cond.fieldLink "java/lang/String" 15 "java/lang/String" "coder" "B" ∈ pd_gt := pd_in 1802 (by decide +kernel) (by decide +kernel)
theorem jq_va : Cond.fieldLink "java/lang/String" 9 "java/lang/String" "value" "[B" ∈ pd_gt := pd_in 1801 (by decide +kernel) (by decide +kernel)
theorem jq_si : Cond.fieldLink "java/lang/String" 1053 "jdk/internal/util/Preconditions" "SIOOBE_FORMATTER" "Ljava/util/function/BiFunction;" ∈ pd_gt := pd_in 1415 (by decide +kernel) (by decide +kernel)
theorem jq_iS : Cond.initialized "java/lang/String" ∈ pd_gt := pd_in 114 (by decide +kernel) (by decide +kernel)
theorem jq_iL : Cond.initialized "java/lang/StringLatin1" ∈ pd_gt := pd_in 115 (by decide +kernel) (by decide +kernel)
theorem jq_iP : Cond.initialized "jdk/internal/util/Preconditions" ∈ pd_gt := pd_in 116 (by decide +kernel) (by decide +kernel)
theorem jq_ccoder : Cond.code yJ_coder cJ_coder 1 (some .byte) ∈ pd_gt := pd_in 1398 (by decide +kernel) (by decide +kernel)
theorem jq_clength : Cond.code yJ_length cJ_length 1 (some .int) ∈ pd_gt := pd_in 1394 (by decide +kernel) (by decide +kernel)
theorem jq_cisLatin1 : Cond.code yJ_isLatin1 cJ_isLatin1 1 (some .boolean) ∈ pd_gt := pd_in 1408 (by decide +kernel) (by decide +kernel)
theorem jq_cpcheck : Cond.code yJ_pcheck cJ_pcheck 3 (some .int) ∈ pd_gt := pd_in 1419 (by decide +kernel) (by decide +kernel)
theorem jq_cscheck : Cond.code yJ_scheck cJ_scheck 2 none ∈ pd_gt := pd_in 1414 (by decide +kernel) (by decide +kernel)
theorem jq_clchar : Cond.code yJ_lchar cJ_lchar 2 (some .char) ∈ pd_gt := pd_in 1411 (by decide +kernel) (by decide +kernel)
theorem jq_ccharAt : Cond.code yJ_charAt cJ_charAt 2 (some .char) ∈ pd_gt := pd_in 1404 (by decide +kernel) (by decide +kernel)
theorem jq_mcoder : Cond.instanceMethod yJ_coder ∈ pd_gt := pd_in 1396 (by decide +kernel) (by decide +kernel)
theorem jq_scoder : Cond.selects yJ_coder.cls yJ_coder yJ_coder ∈ pd_gt := pd_in 1397 (by decide +kernel) (by decide +kernel)
theorem jq_mlength : Cond.instanceMethod yJ_length ∈ pd_gt := pd_in 1392 (by decide +kernel) (by decide +kernel)
theorem jq_slength : Cond.selects yJ_length.cls yJ_length yJ_length ∈ pd_gt := pd_in 1393 (by decide +kernel) (by decide +kernel)
theorem jq_misLatin1 : Cond.instanceMethod yJ_isLatin1 ∈ pd_gt := pd_in 1406 (by decide +kernel) (by decide +kernel)
theorem jq_sisLatin1 : Cond.selects yJ_isLatin1.cls yJ_isLatin1 yJ_isLatin1 ∈ pd_gt := pd_in 1407 (by decide +kernel) (by decide +kernel)
theorem jq_mcharAt : Cond.instanceMethod yJ_charAt ∈ pd_gt := pd_in 1402 (by decide +kernel) (by decide +kernel)
theorem jq_scharAt : Cond.selects yJ_charAt.cls yJ_charAt yJ_charAt ∈ pd_gt := pd_in 1403 (by decide +kernel) (by decide +kernel)
theorem jq_tpcheck : Cond.static yJ_pcheck ∈ pd_gt := pd_in 1418 (by decide +kernel) (by decide +kernel)
theorem jq_tscheck : Cond.static yJ_scheck ∈ pd_gt := pd_in 1413 (by decide +kernel) (by decide +kernel)
theorem jq_tlchar : Cond.static yJ_lchar ∈ pd_gt := pd_in 1410 (by decide +kernel) (by decide +kernel)
theorem jq_l335 : Cond.methodLink "java/lang/String" 335 yJ_coder ∈ pd_gt := pd_in 1395 (by decide +kernel) (by decide +kernel)
theorem jq_l492 : Cond.methodLink "java/lang/String" 492 yJ_isLatin1 ∈ pd_gt := pd_in 1405 (by decide +kernel) (by decide +kernel)
theorem jq_l495 : Cond.methodLink "java/lang/String" 495 yJ_lchar ∈ pd_gt := pd_in 1409 (by decide +kernel) (by decide +kernel)
theorem jq_l9 : Cond.methodLink "java/lang/StringLatin1" 9 yJ_scheck ∈ pd_gt := pd_in 1412 (by decide +kernel) (by decide +kernel)
theorem jq_l1059 : Cond.methodLink "java/lang/String" 1059 yJ_pcheck ∈ pd_gt := pd_in 1417 (by decide +kernel) (by decide +kernel)
theorem jq_lM177 : Cond.methodLink "PayoutDeskModel" 177 yJ_length ∈ pd_gt := pd_in 1391 (by decide +kernel) (by decide +kernel)
theorem jq_lM183 : Cond.methodLink "PayoutDeskModel" 183 yJ_charAt ∈ pd_gt := pd_in 1401 (by decide +kernel) (by decide +kernel)

section PDU
variable {l : Launch} {sh : pd_S} {F : pd_F} {w i n a : Int}
set_option maxHeartbeats 4000000 in
theorem jk_coder (hw : -16 ≤ w ∧ w < 0) : pd_C l yJ_coder wJ_coder (pd_rm 1 0 0) false 0 0 sh F [pd_R w] (some (pd_I 0)) sh F := by
  refine pd_body (L := [pd_R w]) (by decide +kernel) (Nat.le_of_ble_eq_true rfl) rfl (fun E => ?_)
  refine pd_gsC dJ_coder_0 jq_cs ?_
  refine pd_if_eq (tgt := 13) dJ_coder_3 (by decide) (fun h => absurd h (by decide)) (fun _ => ?_)
  refine pd_aload_n (i := 0) dJ_coder_6 rfl rfl ?_
  refine pd_sgC dJ_coder_7 jq_co hw ?_
  refine pd_goto (tgt := 14) dJ_coder_10 (by decide) ?_
  exact pd_bret0 dJ_coder_14 rfl (Nat.le_refl 0) (Nat.le_refl 0)
set_option maxHeartbeats 4000000 in
theorem jk_length (hw : -16 ≤ w ∧ w < 0) : pd_C l yJ_length wJ_length (pd_rm 2 0 0) false 0 0 sh F [pd_R w] (some (pd_I (pd_slen w))) sh F := by
  refine pd_body (L := [pd_R w]) (by decide +kernel) (Nat.le_of_ble_eq_true rfl) rfl (fun E => ?_)
  refine pd_aload_n (i := 0) dJ_length_0 rfl rfl ?_
  refine pd_sgV dJ_length_1 jq_va hw ?_
  refine pd_salen dJ_length_4 hw ?_
  refine pd_aload_n (i := 0) dJ_length_5 rfl rfl ?_
  refine pd_callVT (xs := []) (jk_coder hw) dJ_length_6 jq_l335 jq_mcoder jq_scoder rfl hw (pd_okm (by omega) (by decide) jq_ccoder jq_iS (by decide) (show (parseMethodDescriptor yJ_coder.desc).map (fun d => d.parameters.length) = some 0 from by decide +kernel)) (Nat.le_of_ble_eq_true rfl) rfl ?_
  refine pd_ishr dJ_length_9 ?_
  have e : pd_shr (pd_slen w) 0 = pd_slen w := by
    unfold pd_shr
    have h1 := (pd_len_at hw).1
    have h2 := pd_lens_small (-w - 1).toNat (by omega)
    have h3 : (Int32.ofInt 0 &&& 31 : Int32) = 0 := by decide
    rw [h3, Int32.shiftRight_zero, Int32.toInt_ofInt, h1]
    rw [pd_w_eq, pd_w_id (by omega) (by omega)]
  rw [e]
  exact pd_iret dJ_length_10 rfl (Nat.le_refl 0) (Nat.le_refl 0)
set_option maxHeartbeats 4000000 in
theorem jk_isLatin1 (hw : -16 ≤ w ∧ w < 0) : pd_C l yJ_isLatin1 wJ_isLatin1 (pd_rm 1 0 0) false 0 0 sh F [pd_R w] (some (pd_I 1)) sh F := by
  refine pd_body (L := [pd_R w]) (by decide +kernel) (Nat.le_of_ble_eq_true rfl) rfl (fun E => ?_)
  refine pd_gsC dJ_isLatin1_0 jq_cs ?_
  refine pd_if_eq (tgt := 17) dJ_isLatin1_3 (by decide) (fun h => absurd h (by decide)) (fun _ => ?_)
  refine pd_aload_n (i := 0) dJ_isLatin1_6 rfl rfl ?_
  refine pd_sgC dJ_isLatin1_7 jq_co hw ?_
  refine pd_if_ne (tgt := 17) dJ_isLatin1_10 (by decide) (fun h => absurd rfl h) (fun _ => ?_)
  refine pd_iconst dJ_isLatin1_13 (by decide) ?_
  refine pd_goto (tgt := 18) dJ_isLatin1_14 (by decide) ?_
  exact pd_zret dJ_isLatin1_18 rfl (by decide) (Nat.le_refl 0) (Nat.le_refl 0)
set_option maxHeartbeats 4000000 in
theorem jk_pcheck (hi : 0 ≤ i ∧ i < n) : pd_C l yJ_pcheck wJ_pcheck (pd_rm 1 0 0) false 0 0 sh F [pd_I i, pd_I n, pd_R a] (some (pd_I i)) sh F := by
  refine pd_body (L := [pd_I i, pd_I n, pd_R a]) (by decide +kernel) (Nat.le_of_ble_eq_true rfl) rfl (fun E => ?_)
  refine pd_iload_n (i := 0) dJ_pcheck_0 rfl rfl ?_
  refine pd_if_lt (tgt := 9) dJ_pcheck_1 (by decide) (fun h => absurd h (by omega)) (fun _ => ?_)
  refine pd_iload_n (i := 0) dJ_pcheck_4 rfl rfl ?_
  refine pd_iload_n (i := 1) dJ_pcheck_5 rfl rfl ?_
  refine pd_icmp_lt (tgt := 16) dJ_pcheck_6 (by decide) (fun _ => ?_) (fun h => absurd hi.2 h)
  refine pd_iload_n (i := 0) dJ_pcheck_16 rfl rfl ?_
  exact pd_iret dJ_pcheck_17 rfl (Nat.le_refl 0) (Nat.le_refl 0)
set_option maxHeartbeats 4000000 in
theorem jk_scheck (hi : 0 ≤ i ∧ i < n) : pd_C l yJ_scheck wJ_scheck (pd_rm 2 0 0) false 0 0 sh F [pd_I i, pd_I n] none sh F := by
  refine pd_body (L := [pd_I i, pd_I n]) (by decide +kernel) (Nat.le_of_ble_eq_true rfl) rfl (fun E => ?_)
  refine pd_iload_n (i := 0) dJ_scheck_0 rfl rfl ?_
  refine pd_iload_n (i := 1) dJ_scheck_1 rfl rfl ?_
  refine pd_gsQ dJ_scheck_2 jq_si (fun a => ?_)
  refine pd_callS (xs := [pd_I i, pd_I n, pd_R a]) (jk_pcheck hi) dJ_scheck_5 jq_l1059 jq_tpcheck (pd_okm (by omega) (by decide) jq_cpcheck jq_iP (by decide) (show (parseMethodDescriptor yJ_pcheck.desc).map (fun d => d.parameters.length) = some 3 from by decide +kernel)) (Nat.le_of_ble_eq_true rfl) rfl ?_
  refine pd_pop dJ_scheck_8 rfl ?_
  exact pd_vret dJ_scheck_9 rfl (Nat.le_refl 0) (Nat.le_refl 0)
theorem pd_chars : ∀ q ∈ pd_strT, ∀ b ∈ q.2.2.2, pd_c (pd_and b.toInt 255) = b.toInt ∧ pd_c b.toInt = b.toInt := by decide +kernel
theorem pd_char_at (hw : -16 ≤ w ∧ w < 0) (hi : 0 ≤ i ∧ i < pd_slen w) : pd_c (pd_and (pd_sch w i) 255) = pd_sch w i ∧ pd_c (pd_sch w i) = pd_sch w i := by
  unfold pd_slen at hi
  unfold pd_sch
  rw [if_pos hw.2] at hi ⊢
  split at hi
  · rename_i q hq
    have hm : q.2.2.2.getD i.toNat 0 ∈ q.2.2.2 := by
      rw [List.getD_eq_getElem?_getD, List.getElem?_eq_getElem (by omega)]
      exact List.getElem_mem _
    exact pd_chars q (List.mem_of_getElem? hq) _ hm
  · omega
set_option maxHeartbeats 4000000 in
theorem jk_lchar (hw : -16 ≤ w ∧ w < 0) (hi : 0 ≤ i ∧ i < pd_slen w) : pd_C l yJ_lchar wJ_lchar (pd_rm 3 0 0) false 0 0 sh F [pd_R (w - 16), pd_I i] (some (pd_I (pd_sch w i))) sh F := by
  refine pd_body (L := [pd_R (w - 16), pd_I i]) (by decide +kernel) (Nat.le_of_ble_eq_true rfl) rfl (fun E => ?_)
  refine pd_iload_n (i := 1) dJ_lchar_0 rfl rfl ?_
  refine pd_aload_n (i := 0) dJ_lchar_1 rfl rfl ?_
  refine pd_salen dJ_lchar_2 hw ?_
  refine pd_callS (xs := [pd_I i, pd_I (pd_slen w)]) (jk_scheck hi) dJ_lchar_3 jq_l9 jq_tscheck (pd_okm (by omega) (by decide) jq_cscheck jq_iS (by decide) (show (parseMethodDescriptor yJ_scheck.desc).map (fun d => d.parameters.length) = some 2 from by decide +kernel)) (Nat.le_of_ble_eq_true rfl) rfl ?_
  refine pd_aload_n (i := 0) dJ_lchar_6 rfl rfl ?_
  refine pd_iload_n (i := 1) dJ_lchar_7 rfl rfl ?_
  refine pd_sbald dJ_lchar_8 hw hi ?_
  refine pd_sipush dJ_lchar_9 (by decide) ?_
  refine pd_iand dJ_lchar_12 ?_
  refine pd_i2c dJ_lchar_13 ?_
  rw [(pd_char_at hw hi).1]
  exact pd_cret dJ_lchar_14 rfl (pd_char_at hw hi).2 (Nat.le_refl 0) (Nat.le_refl 0)
set_option maxHeartbeats 4000000 in
theorem jk_charAt (hw : -16 ≤ w ∧ w < 0) (hi : 0 ≤ i ∧ i < pd_slen w) : pd_C l yJ_charAt wJ_charAt (pd_rm 4 0 0) false 0 0 sh F [pd_R w, pd_I i] (some (pd_I (pd_sch w i))) sh F := by
  refine pd_body (L := [pd_R w, pd_I i]) (by decide +kernel) (Nat.le_of_ble_eq_true rfl) rfl (fun E => ?_)
  refine pd_aload_n (i := 0) dJ_charAt_0 rfl rfl ?_
  refine pd_callVT (xs := []) (jk_isLatin1 hw) dJ_charAt_1 jq_l492 jq_misLatin1 jq_sisLatin1 rfl hw (pd_okm (by omega) (by decide) jq_cisLatin1 jq_iS (by decide) (show (parseMethodDescriptor yJ_isLatin1.desc).map (fun d => d.parameters.length) = some 0 from by decide +kernel)) (Nat.le_of_ble_eq_true rfl) rfl ?_
  refine pd_if_eq (tgt := 16) dJ_charAt_4 (by decide) (fun h => absurd h (by decide)) (fun _ => ?_)
  refine pd_aload_n (i := 0) dJ_charAt_7 rfl rfl ?_
  refine pd_sgV dJ_charAt_8 jq_va hw ?_
  refine pd_iload_n (i := 1) dJ_charAt_11 rfl rfl ?_
  refine pd_callS (xs := [pd_R (w - 16), pd_I i]) (jk_lchar hw hi) dJ_charAt_12 jq_l495 jq_tlchar (pd_okm (by omega) (by decide) jq_clchar jq_iL (by decide) (show (parseMethodDescriptor yJ_lchar.desc).map (fun d => d.parameters.length) = some 2 from by decide +kernel)) (Nat.le_of_ble_eq_true rfl) rfl ?_
  exact pd_cret dJ_charAt_15 rfl (pd_char_at hw hi).2 (Nat.le_refl 0) (Nat.le_refl 0)
theorem pd_sl_in (h : 0 ≤ pd_slen w) : -16 ≤ w ∧ w < 0 := by
  unfold pd_slen at h
  split at h
  · rename_i hw
    split at h
    · rename_i q hq
      have h1 := (List.getElem?_eq_some_iff.mp hq).1
      have h2 : pd_strT.length = 16 := rfl
      omega
    · exact absurd h (by decide)
  · exact absurd h (by decide)
end PDU
section PDW
variable {E : pd_E} {l : Launch} {d : Nat} {cc : ByteArray} {nL : Nat} {ret : Option FieldType} {nm : String} {Qf : State → Array Value → List Frame → State → Prop} {sh : pd_S} {F : pd_F} {pc : Nat} {L S : List pd_v} {w i : Int}
theorem pd_rslen (hd : decode cc pc = .ok (.invokevirtual 177, 3)) (h : 0 ≤ pd_slen w) (h2 : 3 ≤ d) (hcat : pd_cat S ≤ 8) (k : pd_V E l (pd_rm d 0 0) ("PayoutDeskModel", cc, nL, ret, nm) Qf false 0 0 sh F (pc + 3) L (pd_I (pd_slen w) :: S)) : pd_V E l (pd_rm d 0 0) ("PayoutDeskModel", cc, nL, ret, nm) Qf false 0 0 sh F pc L (pd_R w :: S) :=
  pd_callVT (xs := []) (jk_length (pd_sl_in h)) hd jq_lM177 jq_mlength jq_slength rfl (pd_sl_in h) (pd_okm (by omega) (by decide) jq_clength jq_iS (by decide) (show (parseMethodDescriptor yJ_length.desc).map (fun d => d.parameters.length) = some 0 from by decide +kernel)) hcat rfl k
theorem pd_rsch (hd : decode cc pc = .ok (.invokevirtual 183, 3)) (h : 0 ≤ i ∧ i < pd_slen w) (h2 : 5 ≤ d) (hcat : pd_cat S ≤ 8) (k : pd_V E l (pd_rm d 0 0) ("PayoutDeskModel", cc, nL, ret, nm) Qf false 0 0 sh F (pc + 3) L (pd_I (pd_sch w i) :: S)) : pd_V E l (pd_rm d 0 0) ("PayoutDeskModel", cc, nL, ret, nm) Qf false 0 0 sh F pc L (pd_I i :: pd_R w :: S) :=
  pd_callVT (xs := [pd_I i]) (jk_charAt (pd_sl_in (by omega)) h) hd jq_lM183 jq_mcharAt jq_scharAt rfl (pd_sl_in (by omega)) (pd_okm (by omega) (by decide) jq_ccharAt jq_iS (by decide) (show (parseMethodDescriptor yJ_charAt.desc).map (fun d => d.parameters.length) = some 1 from by decide +kernel)) hcat rfl k
end PDW
