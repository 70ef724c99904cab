/-! the law from its entry -/
def pd_fl : List Cond := flatC (Jvm.Cond.and given_1 narrow_1)
abbrev pd_tm (q : String × Nat × String × List Int32) : Term := .string q.1 q.2.1
def pd_P : List Nat := [277, 306, 317, 331, 345, 354, 370, 381, 393, 407, 420, 442, 463, 480, 505, 524, 552, 577, 604, 630, 659]
def pd_Qs : List Nat := [555, 801, 943, 944, 945, 1006, 1007, 1033, 1034, 1035, 1036, 1037, 1038, 1042, 1043, 1044, 1045, 1046, 1047, 1048, 1049]
abbrev pd_t (i : Nat) : String × Nat × String × List Int32 := pd_strT.getD i ("", 0, "", [])
theorem pd_f1 : ∀ i, i < 21 → pd_fl[pd_P.getD i 0]? = some (.exactly (pd_tm (pd_t i)) "java/lang/String") ∧ pd_fl[pd_P.getD i 0 + 1]? = some (.eq (.field (pd_tm (pd_t i)) "java/lang/String" "coder" "B") (.int 0)) ∧ pd_fl[pd_P.getD i 0 + 2]? = some (.arrayOf (.field (pd_tm (pd_t i)) "java/lang/String" "value" "[B") .byte) ∧ pd_fl[pd_P.getD i 0 + 3]? = some (.eq (.length (.field (pd_tm (pd_t i)) "java/lang/String" "value" "[B")) (.int (Int32.ofNat (pd_len.getD i 0)))) := by decide +kernel
theorem pd_f2 : ∀ i, i < 21 → ∀ j, j < pd_len.getD i 0 → pd_fl[pd_P.getD i 0 + 4 + j]? = some (.eq (.elem (.field (pd_tm (pd_t i)) "java/lang/String" "value" "[B") (.int (Int32.ofNat j))) (.int ((pd_byt.getD i []).getD j 0))) := by decide +kernel
theorem pd_f3 : ∀ i, i < 21 → ∀ j, j < i → pd_fl[pd_P.getD i 0 + 4 + pd_len.getD i 0 + j]? = some (.not (.eq (pd_tm (pd_t j)) (pd_tm (pd_t i)))) := by decide +kernel
theorem pd_f4 : ∀ i, i < 21 → lw_tbl[pd_Qs.getD i 0]? = some (.stringRef (pd_t i).1 (pd_t i).2.1 (pd_t i).2.2.1) := by decide +kernel
theorem pd_f5_0 : pd_fl[6]? = some (.eq (.static "java/lang/String" "COMPACT_STRINGS" "Z") (.int 1)) := by decide +kernel
theorem pd_f5_1 : pd_fl[7]? = some (.isRef (.static "jdk/internal/util/Preconditions" "SIOOBE_FORMATTER" "Ljava/util/function/BiFunction;")) := by decide +kernel
theorem pd_f5_2 : pd_fl[4]? = some (.isRef (.static Bundle.tN "UNASSIGNED_STACK" Bundle.steD)) := by decide +kernel
theorem pd_f5_3 : pd_fl[5]? = some (.isRef (.static Bundle.tN "SUPPRESSED_SENTINEL" Bundle.listD)) := by decide +kernel
theorem pd_f6_0 : lw_tbl[780]? = some (.laysStatic "java/lang/String" "COMPACT_STRINGS" "Z") := by decide +kernel
theorem pd_f6_1 : lw_tbl[862]? = some (.laysStatic "jdk/internal/util/Preconditions" "SIOOBE_FORMATTER" "Ljava/util/function/BiFunction;") := by decide +kernel
theorem pd_f6_2 : lw_tbl[543]? = some (.laysStatic Bundle.tN "UNASSIGNED_STACK" Bundle.steD) := by decide +kernel
theorem pd_f6_3 : lw_tbl[545]? = some (.laysStatic Bundle.tN "SUPPRESSED_SENTINEL" Bundle.listD) := by decide +kernel
theorem pd_f6_4 : lw_tbl[53]? = some (.initialized "java/lang/String") := by decide +kernel
theorem pd_f6_5 : lw_tbl[57]? = some (.initialized "jdk/internal/util/Preconditions") := by decide +kernel
theorem pd_f6_6 : lw_tbl[62]? = some (.initialized Bundle.tN) := by decide +kernel
theorem pd_f6_7 : lw_tbl[932]? = some (.laysStatic "java/lang/Integer" "DigitOnes" "[B") := by decide +kernel
theorem pd_f6_8 : lw_tbl[934]? = some (.laysStatic "java/lang/Integer" "DigitTens" "[B") := by decide +kernel
theorem pd_f6_9 : lw_tbl[60]? = some (.initialized "java/lang/Integer") := by decide +kernel
theorem pd_do_0 : pd_fl[12]? = some (.arrayOf (.static "java/lang/Integer" "DigitOnes" "[B") .byte) := by decide +kernel
theorem pd_do_1 : pd_fl[13]? = some (.eq (.length (.static "java/lang/Integer" "DigitOnes" "[B")) (.int (Int32.ofNat 100))) := by decide +kernel
theorem pd_do_2 : ∀ j, j < 100 → pd_fl[14 + j]? = some (.eq (.elem (.static "java/lang/Integer" "DigitOnes" "[B") (.int (Int32.ofNat j))) (.int (Int32.ofNat (48 + j % 10)))) := by decide +kernel
theorem pd_dt_0 : pd_fl[115]? = some (.arrayOf (.static "java/lang/Integer" "DigitTens" "[B") .byte) := by decide +kernel
theorem pd_dt_1 : pd_fl[116]? = some (.eq (.length (.static "java/lang/Integer" "DigitTens" "[B")) (.int (Int32.ofNat 100))) := by decide +kernel
theorem pd_dt_2 : ∀ j, j < 100 → pd_fl[117 + j]? = some (.eq (.elem (.static "java/lang/Integer" "DigitTens" "[B") (.int (Int32.ofNat j))) (.int (Int32.ofNat (48 + j / 10)))) := by decide +kernel
theorem pd_as_s : lw_tbl[847]? = some (.selects "java/lang/StringBuilder" ⟨"java/lang/AbstractStringBuilder", "isLatin1", "()Z"⟩ ⟨"java/lang/AbstractStringBuilder", "isLatin1", "()Z"⟩) := by decide +kernel
theorem pd_as_p0 : lw_tbl[814]? = some (.privateMethod ⟨"java/lang/AbstractStringBuilder", "ensureCapacityInternal", "(I)V"⟩) := by decide +kernel
theorem pd_as_i0 : lw_tbl[815]? = some (.instanceMethod ⟨"java/lang/AbstractStringBuilder", "ensureCapacityInternal", "(I)V"⟩) := by decide +kernel
theorem pd_as_p1 : lw_tbl[818]? = some (.privateMethod ⟨"java/lang/AbstractStringBuilder", "newCapacity", "(I)I"⟩) := by decide +kernel
theorem pd_as_i1 : lw_tbl[819]? = some (.instanceMethod ⟨"java/lang/AbstractStringBuilder", "newCapacity", "(I)I"⟩) := by decide +kernel
theorem pd_as_p2 : lw_tbl[885]? = some (.privateMethod ⟨"java/lang/AbstractStringBuilder", "putStringAt", "(ILjava/lang/String;)V"⟩) := by decide +kernel
theorem pd_as_i2 : lw_tbl[886]? = some (.instanceMethod ⟨"java/lang/AbstractStringBuilder", "putStringAt", "(ILjava/lang/String;)V"⟩) := by decide +kernel
theorem pd_as_p3 : lw_tbl[889]? = some (.privateMethod ⟨"java/lang/AbstractStringBuilder", "inflateIfNeededFor", "(Ljava/lang/String;)V"⟩) := by decide +kernel
theorem pd_as_i3 : lw_tbl[890]? = some (.instanceMethod ⟨"java/lang/AbstractStringBuilder", "inflateIfNeededFor", "(Ljava/lang/String;)V"⟩) := by decide +kernel
theorem pd_i32 (x : Int32) : Int32.ofNat x.toUInt32.toNat = x := by
  apply Int32.toBitVec_inj.mp
  simp
theorem pd_asb1 {C : String} {y y0 : MethodName} {s : State} {args : Array Value} (hy : y.cls ≠ "java/lang/invoke/MethodHandle" ∧ y.cls ≠ "java/lang/invoke/VarHandle") (he : y0.cls = y.cls) (hs : (Cond.selects C y0 y0).before args s = true) (hpriv : (Cond.privateMethod y).before args s = true) (hinst : (Cond.instanceMethod y).before args s = true) : (Cond.selects C y y).before args s = true := by
  obtain ⟨c, r, m0, hc, -, hn0, -, k, hk, hni⟩ := Cond.selects_spec hs
  obtain ⟨mk, methM, hnamed, hmethM, -, -⟩ := Cond.instanceMethod_spec hinst
  have hfound : s.methodFound? y.cls y.name y.desc = some mk := State.methodFound?_of_named hnamed hy
  have hcls : mk.cls = m0.cls := Option.some.inj ((findClass_of_methodNamed hnamed).symm.trans (he ▸ findClass_of_methodNamed hn0))
  have hsel : selectMethod {} s.vm c mk = .method mk := selectMethod_private hmethM (Cond.privateMethod_at hpriv mk methM hnamed hmethM)
  simp only [Cond.before, Cond.holds, Cond.value, hc, hfound, hnamed, hsel, hcls, hk]
  simp; exact hni

/-- the pure part: the law's function answers 1 -/
theorem pd_pure (Ls : Int) (xs : Int → Int) (h : 0 ≤ Ls) : pfL_law Ls xs 5000 [] (fun _ _ => 0) = some 1 := law_one h

theorem pd_inst_0 : lw_tbl[122]? = some (.instantiable RX0 15) := by decide +kernel
theorem pd_inst_1 : lw_tbl[204]? = some (.instantiable RX1 4) := by decide +kernel
theorem pd_inst_2 : lw_tbl[164]? = some (.instantiable RX2 8) := by decide +kernel
theorem pd_inst_3 : lw_tbl[320]? = some (.instantiable RX3 5) := by decide +kernel
theorem pd_inst_4 : lw_tbl[401]? = some (.instantiable RX4 7) := by decide +kernel
theorem pd_inst_5 : lw_tbl[133]? = some (.instantiable RX5 5) := by decide +kernel
theorem pd_inst_6 : lw_tbl[75]? = some (.instantiable RX6 3) := by decide +kernel
theorem pd_inst_7 : lw_tbl[381]? = some (.instantiable RX7 2) := by decide +kernel
theorem pd_inst_8 : lw_tbl[327]? = some (.instantiable RX8 6) := by decide +kernel
theorem pd_inst_9 : lw_tbl[81]? = some (.instantiable RX9 9) := by decide +kernel
theorem pd_inst_10 : lw_tbl[407]? = some (.instantiable RX10 4) := by decide +kernel
theorem pd_inst_11 : lw_tbl[67]? = some (.instantiable RX11 10) := by decide +kernel
theorem pd_inst_12 : lw_tbl[951]? = some (.instantiable RX12 4) := by decide +kernel
theorem pd_inst_13 : lw_tbl[771]? = some (.instantiable RX13 4) := by decide +kernel
set_option maxHeartbeats 8000000 in
set_option maxRecDepth 100000 in
theorem whole_start {p : Program} {e : Env} {s : State} {m : MethodId} {below : List Frame} {meth : Method} {c : Code} (l : Launch) {b L : Nat} {xs : Nat → Int32} (hL : L ≤ 260) (C0 : lw_At p s m meth c b L xs) (hname : meth.name = "law") (htab : c.exceptionTable.toList = []) : W p l e room_1 s m #[Value.ref b] below meth c s.heap [] 0 0 (lw_Z below #[Value.ref b] s) (entryFrame m ([Value.ref b] : List Value).toArray 12) := by
  obtain ⟨hx, hb, hr, hml, hown, hts, hX, hbl, hlocks, hgv⟩ := id C0
  have hfl : ∀ {k : Nat} {w : Cond}, pd_fl[k]? = some w → w.before #[Value.ref b] s = true := fun hw => flat_of_before _ hgv _ (List.mem_of_getElem? hw)
  have htl : ∀ {k : Nat} {w : Cond}, lw_tbl[k]? = some w → w.before #[Value.ref b] s = true := fun hw => hts _ (List.mem_of_getElem? hw)
  have hasb : ∀ w ∈ pd_asb, w.before #[Value.ref b] s = true := by
    have a0 := pd_asb1 (y := ⟨"java/lang/AbstractStringBuilder", "ensureCapacityInternal", "(I)V"⟩) (y0 := ⟨"java/lang/AbstractStringBuilder", "isLatin1", "()Z"⟩) ⟨by decide, by decide⟩ rfl (htl pd_as_s) (htl pd_as_p0) (htl pd_as_i0)
    have a1 := pd_asb1 (y := ⟨"java/lang/AbstractStringBuilder", "newCapacity", "(I)I"⟩) (y0 := ⟨"java/lang/AbstractStringBuilder", "isLatin1", "()Z"⟩) ⟨by decide, by decide⟩ rfl (htl pd_as_s) (htl pd_as_p1) (htl pd_as_i1)
    have a2 := pd_asb1 (y := ⟨"java/lang/AbstractStringBuilder", "putStringAt", "(ILjava/lang/String;)V"⟩) (y0 := ⟨"java/lang/AbstractStringBuilder", "isLatin1", "()Z"⟩) ⟨by decide, by decide⟩ rfl (htl pd_as_s) (htl pd_as_p2) (htl pd_as_i2)
    have a3 := pd_asb1 (y := ⟨"java/lang/AbstractStringBuilder", "inflateIfNeededFor", "(Ljava/lang/String;)V"⟩) (y0 := ⟨"java/lang/AbstractStringBuilder", "isLatin1", "()Z"⟩) ⟨by decide, by decide⟩ rfl (htl pd_as_s) (htl pd_as_p3) (htl pd_as_i3)
    exact List.forall_mem_cons.mpr ⟨a0, List.forall_mem_cons.mpr ⟨a1, List.forall_mem_cons.mpr ⟨a2, List.forall_mem_cons.mpr ⟨a3, fun _ h => absurd h List.not_mem_nil⟩⟩⟩⟩
  have hgt : ∀ w ∈ pd_gt, w.before #[Value.ref b] s = true := fun w hw => by
    rcases List.mem_append.mp (List.mem_filter.mp hw).1 with h | h
    · exact hts w h
    · exact hasb w h
  obtain ⟨c0, i0, k0⟩ := u_known (C := RX0) (T := TX0) (N := 15) (n := 15) hgt pin_0 (hts (.instantiable RX0 15) (List.mem_of_getElem? pd_inst_0))
  obtain ⟨c1, i1, k1⟩ := u_known (C := RX1) (T := TX1) (N := 4) (n := 4) hgt pin_1 (hts (.instantiable RX1 4) (List.mem_of_getElem? pd_inst_1))
  obtain ⟨c2, i2, k2⟩ := u_known (C := RX2) (T := TX2) (N := 8) (n := 8) hgt pin_2 (hts (.instantiable RX2 8) (List.mem_of_getElem? pd_inst_2))
  obtain ⟨c3, i3, k3⟩ := u_known (C := RX3) (T := TX3) (N := 5) (n := 5) hgt pin_3 (hts (.instantiable RX3 5) (List.mem_of_getElem? pd_inst_3))
  obtain ⟨c4, i4, k4⟩ := u_known (C := RX4) (T := TX4) (N := 7) (n := 7) hgt pin_4 (hts (.instantiable RX4 7) (List.mem_of_getElem? pd_inst_4))
  obtain ⟨c5, i5, k5⟩ := u_known (C := RX5) (T := TX5) (N := 5) (n := 5) hgt pin_5 (hts (.instantiable RX5 5) (List.mem_of_getElem? pd_inst_5))
  obtain ⟨c6, i6, k6⟩ := u_known (C := RX6) (T := TX6) (N := 3) (n := 3) hgt pin_6 (hts (.instantiable RX6 3) (List.mem_of_getElem? pd_inst_6))
  obtain ⟨c7, i7, k7⟩ := u_known (C := RX7) (T := TX7) (N := 2) (n := 2) hgt pin_7 (hts (.instantiable RX7 2) (List.mem_of_getElem? pd_inst_7))
  obtain ⟨c8, i8, k8⟩ := u_known (C := RX8) (T := TX8) (N := 6) (n := 6) hgt pin_8 (hts (.instantiable RX8 6) (List.mem_of_getElem? pd_inst_8))
  obtain ⟨c9, i9, k9⟩ := u_known (C := RX9) (T := TX9) (N := 9) (n := 9) hgt pin_9 (hts (.instantiable RX9 9) (List.mem_of_getElem? pd_inst_9))
  obtain ⟨c10, i10, k10⟩ := u_known (C := RX10) (T := TX10) (N := 4) (n := 4) hgt pin_10 (hts (.instantiable RX10 4) (List.mem_of_getElem? pd_inst_10))
  obtain ⟨c11, i11, k11⟩ := u_known (C := RX11) (T := TX11) (N := 10) (n := 10) hgt pin_11 (hts (.instantiable RX11 10) (List.mem_of_getElem? pd_inst_11))
  obtain ⟨c12, i12, k12⟩ := u_known (C := RX12) (T := TX12) (N := 4) (n := 4) hgt pin_12 (hts (.instantiable RX12 4) (List.mem_of_getElem? pd_inst_12))
  obtain ⟨c13, i13, k13⟩ := u_known (C := RX13) (T := TX13) (N := 4) (n := 4) hgt pin_13 (hts (.instantiable RX13 4) (List.mem_of_getElem? pd_inst_13))
  have hK : va_K ((fun k => [c0, c1, c2, c3, c4, c5, c6, c7, c8, c9, c10, c11, c12, c13].getD k 0), (fun k => [i0, i1, i2, i3, i4, i5, i6, i7, i8, i9, i10, i11, i12, i13].getD k (fun _ => 0))) vwCl [] s := by
    refine ⟨fun k q hq => ?_, fun k q h => by simp at h⟩
    match k, hq with
    | 0, hq => cases hq; exact k0
    | 1, hq => cases hq; exact k1
    | 2, hq => cases hq; exact k2
    | 3, hq => cases hq; exact k3
    | 4, hq => cases hq; exact k4
    | 5, hq => cases hq; exact k5
    | 6, hq => cases hq; exact k6
    | 7, hq => cases hq; exact k7
    | 8, hq => cases hq; exact k8
    | 9, hq => cases hq; exact k9
    | 10, hq => cases hq; exact k10
    | 11, hq => cases hq; exact k11
    | 12, hq => cases hq; exact k12
    | 13, hq => cases hq; exact k13
    | k + 14, hq => simp [vwCl] at hq
  generalize hDD : (((fun k => [c0, c1, c2, c3, c4, c5, c6, c7, c8, c9, c10, c11, c12, c13].getD k 0), (fun k => [i0, i1, i2, i3, i4, i5, i6, i7, i8, i9, i10, i11, i12, i13].getD k (fun _ => 0))) : va_G) = DD at hK
  obtain ⟨B0, hB0⟩ : ∃ B0, s.heap.size = B0 + 1 := ⟨s.heap.size - 1, by omega⟩
  have hAll : ∀ a : Nat, a < s.heap.size → ¬ (B0 < a) := fun a ha h => by omega
  obtain ⟨aK, aV, hSS, hev⟩ := vk_Sof (args := #[Value.ref b]) (s := s) (N := 21) (tm := fun i => pd_tm (pd_t i)) (len := pd_len) (byt := pd_byt) (A := fun q => B0 < q) (fun i hi => pd_lens_small i hi)
    (fun i hi => hfl (pd_f1 i hi).1) (fun i hi => hfl (pd_f1 i hi).2.1) (fun i hi => hfl (pd_f1 i hi).2.2.1) (fun i hi => hfl (pd_f1 i hi).2.2.2) (fun i hi j hj => hfl (pd_f2 i hi j hj))
    (fun i j hi hj hij => by
      rcases Nat.lt_or_ge j i with h | h
      · exact Or.inr (hfl (pd_f3 i hi j h))
      · exact Or.inl (hfl (pd_f3 j hj i (by omega)))) hAll
  obtain ⟨d1, d1e, d1T⟩ := va_Tof (args := #[Value.ref b]) (s := s) (f := fun j => .int (Int32.ofNat (48 + j % 10))) (A := fun q => B0 < q) (N := 100) (by decide) (hfl pd_do_0) (va_eqt (hfl pd_do_1)) (fun j hj => va_eqt (hfl (pd_do_2 j hj))) hAll
  obtain ⟨d2, d2e, d2T⟩ := va_Tof (args := #[Value.ref b]) (s := s) (f := fun j => .int (Int32.ofNat (48 + j / 10))) (A := fun q => B0 < q) (N := 100) (by decide) (hfl pd_dt_0) (va_eqt (hfl pd_dt_1)) (fun j hj => va_eqt (hfl (pd_dt_2 j hj))) hAll
  have d1Z := va_Zof (A := fun q => B0 < q) (htl pd_f6_7) (htl pd_f6_9) d1e hAll
  have d2Z := va_Zof (A := fun q => B0 < q) (htl pd_f6_8) (htl pd_f6_9) d2e hAll
  have hZc := va_Zof (A := fun q => B0 < q) (htl pd_f6_0) (htl pd_f6_4) (va_eqi (hfl pd_f5_0)) hAll
  have hZs := va_Zqof (A := fun q => B0 < q) (htl pd_f6_1) (htl pd_f6_5) (hfl pd_f5_1) hAll
  have hZu := vx_Zqof (A := fun q => B0 < q) (htl pd_f6_2) (htl pd_f6_6) (hfl pd_f5_2) hAll
  have hZn := vx_Zqof (A := fun q => B0 < q) (htl pd_f6_3) (htl pd_f6_6) (hfl pd_f5_3) hAll
  obtain ⟨ts, hts0⟩ : ∃ ts : Nat, va_Z "jdk/internal/util/Preconditions" "SIOOBE_FORMATTER" "Ljava/util/function/BiFunction;" .null (fun q => B0 < q) s s.heap ∨ va_Z "jdk/internal/util/Preconditions" "SIOOBE_FORMATTER" "Ljava/util/function/BiFunction;" (.ref ts) (fun q => B0 < q) s s.heap := by
    rcases hZs with h | ⟨t, h⟩
    · exact ⟨0, Or.inl h⟩
    · exact ⟨t, Or.inr h⟩
  obtain ⟨fK, hfK⟩ : ∃ f : Nat → Nat, f = fun i => if i < 21 then aK i else if i < 42 then aV (i - 21) else if i = 45 then ts else if i = 50 then d1 else if i = 51 then d2 else b := ⟨_, rfl⟩
  obtain ⟨fV, hfV⟩ : ∃ f : Nat → Nat, f = fun i => if i < 21 then aV i else if i = 21 then L else (xs (i - 22)).toUInt32.toNat := ⟨_, rfl⟩
  have eK : ∀ i, i < 21 → fK i = aK i := fun i hi => by rw [hfK]; simp [hi]
  have eV : ∀ i, i < 21 → fV i = aV i := fun i hi => by rw [hfV]; simp [hi]
  have e59 : fK 59 = b := by rw [hfK]; rfl
  have e45 : fK 45 = ts := by rw [hfK]; rfl
  have e50 : fK 50 = d1 := by rw [hfK]; rfl
  have e51 : fK 51 = d2 := by rw [hfK]; rfl
  have e21 : fV 21 = L := by rw [hfV]; rfl
  have exs : ∀ j, fV (22 + j) = (xs j).toUInt32.toNat := fun j => by
    rw [hfV]
    show (if 22 + j < 21 then _ else if 22 + j = 21 then _ else _) = _
    rw [if_neg (by omega), if_neg (by omega), Nat.add_sub_cancel_left]
  have hSk : pd_Sk (DD, B0, fK, fV) s s.heap := by
    refine ⟨⟨fun i hi => ?_, fun i j hi hj h => ?_⟩, fun i q hi => ?_, hZc, ?_, hZu, ⟨hZn, ⟨?_, ?_⟩, ⟨?_, ?_⟩, ?_, ?_⟩, fun i hi => ?_⟩
    · show va_O _ (fK i) _ _ _ ∧ va_OF _ _ _ _ (fK i) _ _ _ ∧ va_OF _ _ _ (.ref (fV i)) (fK i) _ _ _ ∧ va_T _ (fV i) _ _ _ _ _
      rw [eK i hi, eV i hi]
      exact hSS.1 i hi
    · have h : fK i = fK j := h
      rw [eK i hi, eK j hj] at h
      exact hSS.2 i j hi hj h
    · have hi16 : i < 21 := (List.getElem?_eq_some_iff.mp hi).1
      have hqe : pd_t i = q := by unfold pd_t; rw [List.getD_eq_getElem?_getD, hi]; rfl
      show vk_R _ _ _ (fK i) s
      rw [eK i hi16]
      have h4 := htl (pd_f4 i hi16)
      have h5 := hev i hi16
      simp only [hqe] at h4 h5
      exact vk_R.of (A := #[Value.ref b]) h4 h5
    · show va_Z _ _ _ .null _ _ _ ∨ va_Z _ _ _ (.ref (fK 45)) _ _ _
      rw [e45]
      exact hts0
    · show va_X (fK 59) (fV 21) (fun j => Int32.ofNat (fV (22 + j))) s s.heap
      rw [e59, e21]
      have : (fun j => Int32.ofNat (fV (22 + j))) = xs := by
        funext j
        rw [exs, pd_i32]
      rw [this]
      exact hX
    · show ¬ (B0 < fK 59)
      rw [e59]
      exact hAll b hbl
    · show va_Z _ _ _ (.ref (fK 50)) _ _ _
      rw [e50]; exact d1Z
    · show va_T _ (fK 50) _ _ _ _ _
      rw [e50]; exact d1T
    · show va_Z _ _ _ (.ref (fK 51)) _ _ _
      rw [e51]; exact d2Z
    · show va_T _ (fK 51) _ _ _ _ _
      rw [e51]; exact d2T
    · show fK (21 + i) = fV i
      rw [eV i hi, hfK]
      show (if 21 + i < 21 then _ else if 21 + i < 42 then _ else _) = _
      rw [if_neg (by omega), if_pos (by omega), Nat.add_sub_cancel_left]
  have hW0 : pd_Wd (DD, B0, fK, fV) [] (fun _ _ => 0) s s.heap := ⟨[], [], hK, fun k q h => by simp at h, ⟨fun i j p q h => by simp at h, fun k q h => by simp at h⟩, rfl, fun a c k n h => by simp at h⟩
  have hl := lv_entry ([.ref b]) (n := 12) (Nat.le_of_ble_eq_true rfl)
  rw [lg_entry_eq]
  have hV := pkL_law (DD, B0, fK, fV) l (Ls := (L : Int)) (xs := fun j => (xs j.toNat).toInt) ⟨by show (L : Int) = (fV 21 : Nat); rw [e21], by omega⟩ (fun j _ _ => by show (xs j.toNat).toInt = (Int32.ofNat (fV (22 + j.toNat))).toInt; rw [exs, pd_i32]) (n := 5000) 0 0 (Nat.le_refl 0) (Nat.le_refl 0) (pd_pure _ _ (by omega))
  have hgo := hV p e s m #[Value.ref b] below meth c s.heap [] _ [] ⟨hx, hb, hml, hown, hgt, hr, ⟨hlocks, htab⟩, hname, by show B0 < _; omega, hSk⟩ hW0 (fun _ => by show _ = B0 + 0 + 1; omega) va_S.rf ⟨_, hl, fun i x hi => ?_⟩ trivial
  · intro T hT X
    obtain ⟨t, a1, b1⟩ := hgo T hT X
    exact ⟨t, a1, b1 hB0⟩
  · match i, hi with
    | 0, hi =>
      cases hi
      refine Or.inr ⟨.ref b, by simp [lv_args], ?_⟩
      show Value.ref b = pd_rf _ (-60)
      rw [pd_scr]
      show _ = Value.ref (fK 59)
      rw [e59]
    | i + 1, hi =>
      refine Or.inl ?_
      match i, hi with
      | 0, hi => exact (Option.some.inj hi).symm
      | 1, hi => exact (Option.some.inj hi).symm
      | 2, hi => exact (Option.some.inj hi).symm
      | 3, hi => exact (Option.some.inj hi).symm
      | 4, hi => exact (Option.some.inj hi).symm
      | 5, hi => exact (Option.some.inj hi).symm
      | 6, hi => exact (Option.some.inj hi).symm
      | 7, hi => exact (Option.some.inj hi).symm
      | 8, hi => exact (Option.some.inj hi).symm
      | 9, hi => exact (Option.some.inj hi).symm
      | 10, hi => exact (Option.some.inj hi).symm
      | i + 11, hi => exact absurd hi (by simp)

