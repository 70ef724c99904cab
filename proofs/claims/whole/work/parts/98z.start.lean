/-! the law from its entry -/
def pd_fl : List Cond := flatC (Jvm.Cond.and given_1 narrow_1)
abbrev pd_tm (q : String × Nat × String × List Int32) : Term := .string q.1 q.2.1
def pd_P : List Nat := [84, 113, 138, 158, 171, 184, 200, 214, 229, 247, 265, 284, 306, 329, 350, 370]
def pd_Qs : List Nat := [1135, 1168, 1181, 1383, 1439, 1440, 1441, 1442, 1443, 1444, 1445, 1470, 1471, 1472, 1473, 1474]
abbrev pd_t (i : Nat) : String × Nat × String × List Int32 := pd_strT.getD i ("", 0, "", [])
theorem pd_f1 : ∀ i, i < 16 → pd_fl[pd_P.getD i 0]? = some (.exactly (pd_tm (pd_t i)) "java/lang/String") ∧ pd_fl[pd_P.getD i 0 + 1]? = some (.eq (.field (pd_tm (pd_t i)) "java/lang/String" "coder" "B") (.int 0)) ∧ pd_fl[pd_P.getD i 0 + 2]? = some (.arrayOf (.field (pd_tm (pd_t i)) "java/lang/String" "value" "[B") .byte) ∧ pd_fl[pd_P.getD i 0 + 3]? = some (.eq (.length (.field (pd_tm (pd_t i)) "java/lang/String" "value" "[B")) (.int (Int32.ofNat (pd_len.getD i 0)))) := by decide +kernel
theorem pd_f2 : ∀ i, i < 16 → ∀ j, j < pd_len.getD i 0 → pd_fl[pd_P.getD i 0 + 4 + j]? = some (.eq (.elem (.field (pd_tm (pd_t i)) "java/lang/String" "value" "[B") (.int (Int32.ofNat j))) (.int ((pd_byt.getD i []).getD j 0))) := by decide +kernel
theorem pd_f3 : ∀ i, i < 16 → ∀ j, j < i → pd_fl[pd_P.getD i 0 + 4 + pd_len.getD i 0 + j]? = some (.not (.eq (pd_tm (pd_t j)) (pd_tm (pd_t i)))) := by decide +kernel
theorem pd_f4 : ∀ i, i < 16 → lw_tbl[pd_Qs.getD i 0]? = some (.stringRef (pd_t i).1 (pd_t i).2.1 (pd_t i).2.2.1) := by decide +kernel
theorem pd_f5_0 : pd_fl[6]? = some (.eq (.static "java/lang/String" "COMPACT_STRINGS" "Z") (.int 1)) := by decide +kernel
theorem pd_f5_1 : pd_fl[7]? = some (.isRef (.static "jdk/internal/util/Preconditions" "SIOOBE_FORMATTER" "Ljava/util/function/BiFunction;")) := by decide +kernel
theorem pd_f5_2 : pd_fl[4]? = some (.isRef (.static Bundle.tN "UNASSIGNED_STACK" Bundle.steD)) := by decide +kernel
theorem pd_f5_3 : pd_fl[5]? = some (.isRef (.static Bundle.tN "SUPPRESSED_SENTINEL" Bundle.listD)) := by decide +kernel
theorem pd_f6_0 : lw_tbl[1400]? = some (.laysStatic "java/lang/String" "COMPACT_STRINGS" "Z") := by decide +kernel
theorem pd_f6_1 : lw_tbl[1416]? = some (.laysStatic "jdk/internal/util/Preconditions" "SIOOBE_FORMATTER" "Ljava/util/function/BiFunction;") := by decide +kernel
theorem pd_f6_2 : lw_tbl[1123]? = some (.laysStatic Bundle.tN "UNASSIGNED_STACK" Bundle.steD) := by decide +kernel
theorem pd_f6_3 : lw_tbl[1125]? = some (.laysStatic Bundle.tN "SUPPRESSED_SENTINEL" Bundle.listD) := by decide +kernel
theorem pd_f6_4 : lw_tbl[114]? = some (.initialized "java/lang/String") := by decide +kernel
theorem pd_f6_5 : lw_tbl[116]? = some (.initialized "jdk/internal/util/Preconditions") := by decide +kernel
theorem pd_f6_6 : lw_tbl[118]? = some (.initialized Bundle.tN) := by decide +kernel
theorem pd_i32 (x : Int32) : Int32.ofNat x.toUInt32.toNat = x := by
  apply Int32.toBitVec_inj.mp
  simp

/-- the pure part: the law's function answers 1 -/
theorem pd_pure (Ls : Int) (xs : Int → Int) (h : 0 ≤ Ls ∧ Ls ≤ 3072) (hx : ∀ j, -2147483648 ≤ xs j ∧ xs j < 2147483648) : pfL_law Ls xs 5000 [] (fun _ _ => 0) = some 1 := pd_law1 Ls xs h

theorem pd_inst_0 : lw_tbl[179]? = some (.instantiable RX0 15) := by decide +kernel
theorem pd_inst_1 : lw_tbl[263]? = some (.instantiable RX1 4) := by decide +kernel
theorem pd_inst_2 : lw_tbl[221]? = some (.instantiable RX2 8) := by decide +kernel
theorem pd_inst_3 : lw_tbl[384]? = some (.instantiable RX3 5) := by decide +kernel
theorem pd_inst_4 : lw_tbl[465]? = some (.instantiable RX4 7) := by decide +kernel
theorem pd_inst_5 : lw_tbl[190]? = some (.instantiable RX5 5) := by decide +kernel
theorem pd_inst_6 : lw_tbl[132]? = some (.instantiable RX6 3) := by decide +kernel
theorem pd_inst_7 : lw_tbl[445]? = some (.instantiable RX7 2) := by decide +kernel
theorem pd_inst_8 : lw_tbl[391]? = some (.instantiable RX8 6) := by decide +kernel
theorem pd_inst_9 : lw_tbl[138]? = some (.instantiable RX9 9) := by decide +kernel
theorem pd_inst_10 : lw_tbl[471]? = some (.instantiable RX10 4) := by decide +kernel
theorem pd_inst_11 : lw_tbl[124]? = some (.instantiable RX11 10) := by decide +kernel
theorem pd_inst_12 : lw_tbl[1183]? = some (.instantiable RX12 52) := by decide +kernel
set_option maxHeartbeats 8000000 in
set_option maxRecDepth 100000 in
theorem whole_start {p : Program} {e : Env} {s : State} {m : MethodId} {below : List Frame} {meth : Method} {c : Code} (l : Launch) (hflags : l.flags = flags0) {b L : Nat} {xs : Nat → Int32} (hL : L ≤ 3072) (C0 : lw_At p s m meth c b L xs) (hname : meth.name = "law") (htab : c.exceptionTable.toList = []) : W p l e room_1 s m #[Value.ref b] below meth c s.heap [] 0 0 (lw_Z below #[Value.ref b] s) (entryFrame m ([Value.ref b] : List Value).toArray 8) := by
  obtain ⟨hx, hb, hr, hml, hown, hts, hX, hbl, hlocks, hgv⟩ := id C0
  have hgt : ∀ w ∈ pd_gt, w.before #[Value.ref b] s = true := fun w hw => hts w (List.mem_filter.mp hw).1
  have hfl : ∀ {k : Nat} {w : Cond}, pd_fl[k]? = some w → w.before #[Value.ref b] s = true := fun hw => flat_of_before _ hgv _ (List.mem_of_getElem? hw)
  have htl : ∀ {k : Nat} {w : Cond}, lw_tbl[k]? = some w → w.before #[Value.ref b] s = true := fun hw => hts _ (List.mem_of_getElem? hw)
  have hlt : l.stackTraces = false := by unfold Launch.stackTraces; rw [hflags]; decide +kernel
  obtain ⟨c0, i0, k0⟩ := u_known (C := RX0) (T := TX0) (N := 15) (n := 15) hgt pin_0 (hts (.instantiable RX0 15) (List.mem_of_getElem? pd_inst_0))
  obtain ⟨c1, i1, k1⟩ := u_known (C := RX1) (T := TX1) (N := 4) (n := 4) hgt pin_1 (hts (.instantiable RX1 4) (List.mem_of_getElem? pd_inst_1))
  obtain ⟨c2, i2, k2⟩ := u_known (C := RX2) (T := TX2) (N := 8) (n := 8) hgt pin_2 (hts (.instantiable RX2 8) (List.mem_of_getElem? pd_inst_2))
  obtain ⟨c3, i3, k3⟩ := u_known (C := RX3) (T := TX3) (N := 5) (n := 5) hgt pin_3 (hts (.instantiable RX3 5) (List.mem_of_getElem? pd_inst_3))
  obtain ⟨c4, i4, k4⟩ := u_known (C := RX4) (T := TX4) (N := 7) (n := 7) hgt pin_4 (hts (.instantiable RX4 7) (List.mem_of_getElem? pd_inst_4))
  obtain ⟨c5, i5, k5⟩ := u_known (C := RX5) (T := TX5) (N := 5) (n := 5) hgt pin_5 (hts (.instantiable RX5 5) (List.mem_of_getElem? pd_inst_5))
  obtain ⟨c6, i6, k6⟩ := u_known (C := RX6) (T := TX6) (N := 3) (n := 3) hgt pin_6 (hts (.instantiable RX6 3) (List.mem_of_getElem? pd_inst_6))
  obtain ⟨c7, i7, k7⟩ := u_known (C := RX7) (T := TX7) (N := 2) (n := 2) hgt pin_7 (hts (.instantiable RX7 2) (List.mem_of_getElem? pd_inst_7))
  obtain ⟨c8, i8, k8⟩ := u_known (C := RX8) (T := TX8) (N := 6) (n := 6) hgt pin_8 (hts (.instantiable RX8 6) (List.mem_of_getElem? pd_inst_8))
  obtain ⟨c9, i9, k9⟩ := u_known (C := RX9) (T := TX9) (N := 9) (n := 9) hgt pin_9 (hts (.instantiable RX9 9) (List.mem_of_getElem? pd_inst_9))
  obtain ⟨c10, i10, k10⟩ := u_known (C := RX10) (T := TX10) (N := 4) (n := 4) hgt pin_10 (hts (.instantiable RX10 4) (List.mem_of_getElem? pd_inst_10))
  obtain ⟨c11, i11, k11⟩ := u_known (C := RX11) (T := TX11) (N := 10) (n := 10) hgt pin_11 (hts (.instantiable RX11 10) (List.mem_of_getElem? pd_inst_11))
  obtain ⟨c12, i12, k12⟩ := u_known (C := RX12) (T := TX12) (N := 52) (n := 52) hgt pin_12 (hts (.instantiable RX12 52) (List.mem_of_getElem? pd_inst_12))
  have hK : va_K ((fun k => [c0, c1, c2, c3, c4, c5, c6, c7, c8, c9, c10, c11, c12].getD k 0), (fun k => [i0, i1, i2, i3, i4, i5, i6, i7, i8, i9, i10, i11, i12].getD k (fun _ => 0))) vwCl [] s := by
    refine ⟨fun k q hq => ?_, fun k q h => by simp at h⟩
    match k, hq with
    | 0, hq => cases hq; exact k0
    | 1, hq => cases hq; exact k1
    | 2, hq => cases hq; exact k2
    | 3, hq => cases hq; exact k3
    | 4, hq => cases hq; exact k4
    | 5, hq => cases hq; exact k5
    | 6, hq => cases hq; exact k6
    | 7, hq => cases hq; exact k7
    | 8, hq => cases hq; exact k8
    | 9, hq => cases hq; exact k9
    | 10, hq => cases hq; exact k10
    | 11, hq => cases hq; exact k11
    | 12, hq => cases hq; exact k12
    | k + 13, hq => simp [vwCl] at hq
  generalize hDD : (((fun k => [c0, c1, c2, c3, c4, c5, c6, c7, c8, c9, c10, c11, c12].getD k 0), (fun k => [i0, i1, i2, i3, i4, i5, i6, i7, i8, i9, i10, i11, i12].getD k (fun _ => 0))) : va_G) = DD at hK
  obtain ⟨B0, hB0⟩ : ∃ B0, s.heap.size = B0 + 1 := ⟨s.heap.size - 1, by omega⟩
  have hAll : ∀ a : Nat, a < s.heap.size → ¬ (B0 < a) := fun a ha h => by omega
  obtain ⟨aK, aV, hSS, hev⟩ := vk_Sof (args := #[Value.ref b]) (s := s) (N := 16) (tm := fun i => pd_tm (pd_t i)) (len := pd_len) (byt := pd_byt) (A := fun q => B0 < q) (fun i hi => pd_lens_small i hi)
    (fun i hi => hfl (pd_f1 i hi).1) (fun i hi => hfl (pd_f1 i hi).2.1) (fun i hi => hfl (pd_f1 i hi).2.2.1) (fun i hi => hfl (pd_f1 i hi).2.2.2) (fun i hi j hj => hfl (pd_f2 i hi j hj))
    (fun i j hi hj hij => by
      rcases Nat.lt_or_ge j i with h | h
      · exact Or.inr (hfl (pd_f3 i hi j h))
      · exact Or.inl (hfl (pd_f3 j hj i (by omega)))) hAll
  have hZc := va_Zof (A := fun q => B0 < q) (htl pd_f6_0) (htl pd_f6_4) (va_eqi (hfl pd_f5_0)) hAll
  have hZs := va_Zqof (A := fun q => B0 < q) (htl pd_f6_1) (htl pd_f6_5) (hfl pd_f5_1) hAll
  have hZu := vx_Zqof (A := fun q => B0 < q) (htl pd_f6_2) (htl pd_f6_6) (hfl pd_f5_2) hAll
  have hZn := vx_Zqof (A := fun q => B0 < q) (htl pd_f6_3) (htl pd_f6_6) (hfl pd_f5_3) hAll
  obtain ⟨ts, hts0⟩ : ∃ ts : Nat, va_Z "jdk/internal/util/Preconditions" "SIOOBE_FORMATTER" "Ljava/util/function/BiFunction;" .null (fun q => B0 < q) s s.heap ∨ va_Z "jdk/internal/util/Preconditions" "SIOOBE_FORMATTER" "Ljava/util/function/BiFunction;" (.ref ts) (fun q => B0 < q) s s.heap := by
    rcases hZs with h | ⟨t, h⟩
    · exact ⟨0, Or.inl h⟩
    · exact ⟨t, Or.inr h⟩
  obtain ⟨fK, hfK⟩ : ∃ f : Nat → Nat, f = fun i => if i < 16 then aK i else if i < 32 then aV (i - 16) else if i = 32 then ts else b := ⟨_, rfl⟩
  obtain ⟨fV, hfV⟩ : ∃ f : Nat → Nat, f = fun i => if i < 16 then aV i else if i = 16 then L else (xs (i - 17)).toUInt32.toNat := ⟨_, rfl⟩
  have eK : ∀ i, i < 16 → fK i = aK i := fun i hi => by rw [hfK]; simp [hi]
  have eV : ∀ i, i < 16 → fV i = aV i := fun i hi => by rw [hfV]; simp [hi]
  have e39 : fK 39 = b := by rw [hfK]; rfl
  have e32 : fK 32 = ts := by rw [hfK]; rfl
  have e16 : fV 16 = L := by rw [hfV]; rfl
  have exs : ∀ j, fV (17 + j) = (xs j).toUInt32.toNat := fun j => by
    rw [hfV]
    show (if 17 + j < 16 then _ else if 17 + j = 16 then _ else _) = _
    rw [if_neg (by omega), if_neg (by omega), Nat.add_sub_cancel_left]
  have hSk : pd_Sk (DD, B0, fK, fV) s s.heap := by
    refine ⟨⟨fun i hi => ?_, fun i j hi hj h => ?_⟩, fun i q hi => ?_, hZc, ?_, hZu, ⟨hZn, ?_, ?_⟩, fun i hi => ?_⟩
    · show va_O _ (fK i) _ _ _ ∧ va_OF _ _ _ _ (fK i) _ _ _ ∧ va_OF _ _ _ (.ref (fV i)) (fK i) _ _ _ ∧ va_T _ (fV i) _ _ _ _ _
      rw [eK i hi, eV i hi]
      exact hSS.1 i hi
    · have h : fK i = fK j := h
      rw [eK i hi, eK j hj] at h
      exact hSS.2 i j hi hj h
    · have hi16 : i < 16 := (List.getElem?_eq_some_iff.mp hi).1
      have hqe : pd_t i = q := by unfold pd_t; rw [List.getD_eq_getElem?_getD, hi]; rfl
      show vk_R _ _ _ (fK i) s
      rw [eK i hi16]
      have h4 := htl (pd_f4 i hi16)
      have h5 := hev i hi16
      simp only [hqe] at h4 h5
      exact vk_R.of (A := #[Value.ref b]) h4 h5
    · show va_Z _ _ _ .null _ _ _ ∨ va_Z _ _ _ (.ref (fK 32)) _ _ _
      rw [e32]
      exact hts0
    · show va_X (fK 39) (fV 16) (fun j => Int32.ofNat (fV (17 + j))) s s.heap
      rw [e39, e16]
      have : (fun j => Int32.ofNat (fV (17 + j))) = xs := by
        funext j
        rw [exs, pd_i32]
      rw [this]
      exact hX
    · show ¬ (B0 < fK 39)
      rw [e39]
      exact hAll b hbl
    · show fK (16 + i) = fV i
      rw [eV i hi, hfK]
      show (if 16 + i < 16 then _ else if 16 + i < 32 then _ else _) = _
      rw [if_neg (by omega), if_pos (by omega), Nat.add_sub_cancel_left]
  have hW0 : pd_Wd (DD, B0, fK, fV) [] (fun _ _ => 0) s s.heap := ⟨[], [], hK, fun k q h => by simp at h, ⟨fun i j p q h => by simp at h, fun k q h => by simp at h⟩, rfl, fun a c k n h => by simp at h⟩
  have hl := lv_entry ([.ref b]) (n := 8) (Nat.le_of_ble_eq_true rfl)
  rw [lg_entry_eq]
  have hV := pkL_law (DD, B0, fK, fV) l hlt (Ls := (L : Int)) (xs := fun j => (xs j.toNat).toInt) ⟨by show (L : Int) = (fV 16 : Nat); rw [e16], by omega⟩ (fun j _ _ => by show (xs j.toNat).toInt = (Int32.ofNat (fV (17 + j.toNat))).toInt; rw [exs, pd_i32]) (n := 5000) (by decide) 0 0 (Nat.le_refl 0) (Nat.le_refl 0) (pd_pure _ _ ⟨by omega, by omega⟩ (fun j => ⟨Int32.le_toInt _, Int32.toInt_lt _⟩))
  have hgo := hV p e s m #[Value.ref b] below meth c s.heap [] _ [] ⟨hx, hb, hml, hown, hgt, hr, ⟨hlocks, htab⟩, hname, by show B0 < _; omega, hSk⟩ hW0 (fun _ => by show _ = B0 + 0 + 1; omega) va_S.rf ⟨_, hl, fun i x hi => ?_⟩ trivial
  · intro T hT X
    obtain ⟨t, a1, b1⟩ := hgo T hT X
    exact ⟨t, a1, b1 hB0⟩
  · match i, hi with
    | 0, hi =>
      cases hi
      refine Or.inr ⟨.ref b, by simp [lv_args], ?_⟩
      show Value.ref b = pd_rf _ (-40)
      rw [pd_scr]
      show _ = Value.ref (fK 39)
      rw [e39]
    | i + 1, hi =>
      refine Or.inl ?_
      match i, hi with
      | 0, hi => exact (Option.some.inj hi).symm
      | 1, hi => exact (Option.some.inj hi).symm
      | 2, hi => exact (Option.some.inj hi).symm
      | 3, hi => exact (Option.some.inj hi).symm
      | 4, hi => exact (Option.some.inj hi).symm
      | 5, hi => exact (Option.some.inj hi).symm
      | 6, hi => exact (Option.some.inj hi).symm
      | i + 7, hi => exact absurd hi (by simp)

