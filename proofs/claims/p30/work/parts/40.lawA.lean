theorem dL_cell_0 : decode cL_cell 0 = .ok (.aload_n 0, 1) := by decide +kernel
theorem dL_cell_1 : decode cL_cell 1 = .ok (.arraylength, 1) := by decide +kernel
theorem dL_cell_2 : decode cL_cell 2 = .ok (.ifCond .ne 7, 3) := by decide +kernel
theorem dL_cell_5 : decode cL_cell 5 = .ok (.iconst 0, 1) := by decide +kernel
theorem dL_cell_6 : decode cL_cell 6 = .ok (.goto 17, 3) := by decide +kernel
theorem dL_cell_9 : decode cL_cell 9 = .ok (.aload_n 0, 1) := by decide +kernel
theorem dL_cell_10 : decode cL_cell 10 = .ok (.iload_n 1, 1) := by decide +kernel
theorem dL_cell_11 : decode cL_cell 11 = .ok (.aload_n 0, 1) := by decide +kernel
theorem dL_cell_12 : decode cL_cell 12 = .ok (.arraylength, 1) := by decide +kernel
theorem dL_cell_13 : decode cL_cell 13 = .ok (.irem, 1) := by decide +kernel
theorem dL_cell_14 : decode cL_cell 14 = .ok (.iaload, 1) := by decide +kernel
theorem dL_cell_15 : decode cL_cell 15 = .ok (.ldc 7, 2) := by decide +kernel
theorem dL_cell_17 : decode cL_cell 17 = .ok (.iload_n 1, 1) := by decide +kernel
theorem dL_cell_18 : decode cL_cell 18 = .ok (.aload_n 0, 1) := by decide +kernel
theorem dL_cell_19 : decode cL_cell 19 = .ok (.arraylength, 1) := by decide +kernel
theorem dL_cell_20 : decode cL_cell 20 = .ok (.idiv, 1) := by decide +kernel
theorem dL_cell_21 : decode cL_cell 21 = .ok (.imul, 1) := by decide +kernel
theorem dL_cell_22 : decode cL_cell 22 = .ok (.ixor, 1) := by decide +kernel
theorem dL_cell_23 : decode cL_cell 23 = .ok (.ireturn, 1) := by decide +kernel
theorem dL_some_0 : decode cL_some 0 = .ok (.aload_n 0, 1) := by decide +kernel
theorem dL_some_1 : decode cL_some 1 = .ok (.iload_n 1, 1) := by decide +kernel
theorem dL_some_2 : decode cL_some 2 = .ok (.invokestatic 8, 3) := by decide +kernel
theorem dL_some_5 : decode cL_some 5 = .ok (.ldc 14, 2) := by decide +kernel
theorem dL_some_7 : decode cL_some 7 = .ok (.iand, 1) := by decide +kernel
theorem dL_some_8 : decode cL_some 8 = .ok (.iload_n 2, 1) := by decide +kernel
theorem dL_some_9 : decode cL_some 9 = .ok (.irem, 1) := by decide +kernel
theorem dL_some_10 : decode cL_some 10 = .ok (.ireturn, 1) := by decide +kernel
theorem dL_name_0 : decode cL_name 0 = .ok (.new 35, 3) := by decide +kernel
theorem dL_name_3 : decode cL_name 3 = .ok (.dup, 1) := by decide +kernel
theorem dL_name_4 : decode cL_name 4 = .ok (.invokespecial 37, 3) := by decide +kernel
theorem dL_name_7 : decode cL_name 7 = .ok (.aload_n 0, 1) := by decide +kernel
theorem dL_name_8 : decode cL_name 8 = .ok (.invokevirtual 38, 3) := by decide +kernel
theorem dL_name_11 : decode cL_name 11 = .ok (.bipush 97, 2) := by decide +kernel
theorem dL_name_13 : decode cL_name 13 = .ok (.iload_n 1, 1) := by decide +kernel
theorem dL_name_14 : decode cL_name 14 = .ok (.iadd, 1) := by decide +kernel
theorem dL_name_15 : decode cL_name 15 = .ok (.i2c, 1) := by decide +kernel
theorem dL_name_16 : decode cL_name 16 = .ok (.invokevirtual 42, 3) := by decide +kernel
theorem dL_name_19 : decode cL_name 19 = .ok (.invokevirtual 45, 3) := by decide +kernel
theorem dL_name_22 : decode cL_name 22 = .ok (.areturn, 1) := by decide +kernel
theorem pq_897 : Cond.constant RL 7 (40503 : Int32) ∈ pd_gt := pd_in 768 (by decide +kernel) (by decide +kernel)
theorem pq_898 : Cond.methodLink RL 8 yL_cell ∈ pd_gt := pd_in 765 (by decide +kernel) (by decide +kernel)
theorem pq_899 : Cond.code yL_cell cL_cell 2 (some .int) ∈ pd_gt := pd_in 767 (by decide +kernel) (by decide +kernel)
theorem pq_900 : Cond.initialized yL_cell.cls ∈ pd_gt := pd_in 36 (by decide +kernel) (by decide +kernel)
theorem pq_901 : Cond.static yL_cell ∈ pd_gt := pd_in 766 (by decide +kernel) (by decide +kernel)
theorem pq_902 : Cond.constant RL 14 (65535 : Int32) ∈ pd_gt := pd_in 769 (by decide +kernel) (by decide +kernel)
theorem pq_903 : Cond.classLink RL 35 "java/lang/StringBuilder" ∈ pd_gt := pd_in 770 (by decide +kernel) (by decide +kernel)
theorem pq_904 : Cond.instantiable "java/lang/StringBuilder" 4 ∈ pd_gt := pd_in 771 (by decide +kernel) (by decide +kernel)
theorem pq_905 : Cond.initialized "java/lang/StringBuilder" ∈ pd_gt := pd_in 52 (by decide +kernel) (by decide +kernel)
theorem pq_906 : Cond.methodLink RL 37 yJ4_init_da8c8 ∈ pd_gt := pd_in 772 (by decide +kernel) (by decide +kernel)
theorem pq_907 : Cond.code yJ4_init_da8c8 cJ4_init_da8c8 1 none ∈ pd_gt := pd_in 774 (by decide +kernel) (by decide +kernel)
theorem pq_908 : Cond.initialized yJ4_init_da8c8.cls ∈ pd_gt := pd_in 52 (by decide +kernel) (by decide +kernel)
theorem pq_909 : Cond.instanceMethod yJ4_init_da8c8 ∈ pd_gt := pd_in 773 (by decide +kernel) (by decide +kernel)
theorem pq_910 : Cond.methodLink RL 38 yJ4_append_15ec4 ∈ pd_gt := pd_in 802 (by decide +kernel) (by decide +kernel)
theorem pq_911 : Cond.code yJ4_append_15ec4 cJ4_append_15ec4 2 (some (.object "java/lang/StringBuilder")) ∈ pd_gt := pd_in 805 (by decide +kernel) (by decide +kernel)
theorem pq_912 : Cond.initialized yJ4_append_15ec4.cls ∈ pd_gt := pd_in 52 (by decide +kernel) (by decide +kernel)
theorem pq_913 : Cond.instanceMethod yJ4_append_15ec4 ∈ pd_gt := pd_in 803 (by decide +kernel) (by decide +kernel)
theorem pq_914 : Cond.selects yJ4_append_15ec4.cls yJ4_append_15ec4 yJ4_append_15ec4 ∈ pd_gt := pd_in 804 (by decide +kernel) (by decide +kernel)
theorem pq_915 : Cond.methodLink RL 42 yJ4_append_cf468 ∈ pd_gt := pd_in 1011 (by decide +kernel) (by decide +kernel)
theorem pq_916 : Cond.code yJ4_append_cf468 cJ4_append_cf468 2 (some (.object "java/lang/StringBuilder")) ∈ pd_gt := pd_in 1014 (by decide +kernel) (by decide +kernel)
theorem pq_917 : Cond.initialized yJ4_append_cf468.cls ∈ pd_gt := pd_in 52 (by decide +kernel) (by decide +kernel)
theorem pq_918 : Cond.instanceMethod yJ4_append_cf468 ∈ pd_gt := pd_in 1012 (by decide +kernel) (by decide +kernel)
theorem pq_919 : Cond.selects yJ4_append_cf468.cls yJ4_append_cf468 yJ4_append_cf468 ∈ pd_gt := pd_in 1013 (by decide +kernel) (by decide +kernel)
theorem pq_920 : Cond.methodLink RL 45 yJ4_toString_0e30d ∈ pd_gt := pd_in 946 (by decide +kernel) (by decide +kernel)
theorem pq_921 : Cond.code yJ4_toString_0e30d cJ4_toString_0e30d 1 (some (.object "java/lang/String")) ∈ pd_gt := pd_in 949 (by decide +kernel) (by decide +kernel)
theorem pq_922 : Cond.initialized yJ4_toString_0e30d.cls ∈ pd_gt := pd_in 52 (by decide +kernel) (by decide +kernel)
theorem pq_923 : Cond.instanceMethod yJ4_toString_0e30d ∈ pd_gt := pd_in 947 (by decide +kernel) (by decide +kernel)
theorem pq_924 : Cond.selects yJ4_toString_0e30d.cls yJ4_toString_0e30d yJ4_toString_0e30d ∈ pd_gt := pd_in 948 (by decide +kernel) (by decide +kernel)
theorem pq_925 : Cond.methodLink RL 51 yL_some ∈ pd_gt := pd_in 762 (by decide +kernel) (by decide +kernel)
theorem pq_926 : Cond.code yL_some cL_some 3 (some .int) ∈ pd_gt := pd_in 764 (by decide +kernel) (by decide +kernel)
theorem pq_927 : Cond.initialized yL_some.cls ∈ pd_gt := pd_in 36 (by decide +kernel) (by decide +kernel)
theorem pq_928 : Cond.static yL_some ∈ pd_gt := pd_in 763 (by decide +kernel) (by decide +kernel)
def pfL_cell (Ls : Int) (xs : Int → Int) (sh : pd_S) (n : Nat) (F : pd_F) (x1 : Int) : Option (Int × pd_F) :=
  if Ls ≠ 0 then
    pd_i (Ls ≠ 0) <|
    pd_i (0 ≤ (Int.tmod x1 Ls) ∧ (Int.tmod x1 Ls) < Ls) <|
    some (pd_xor (xs (Int.tmod x1 Ls)) (pd_w (40503 * (pd_w (Int.tdiv x1 Ls)))), F)
  else
    some (0, F)
def pfL_some (Ls : Int) (xs : Int → Int) (sh : pd_S) (n : Nat) (F : pd_F) (x1 : Int) (x2 : Int) : Option (Int × pd_F) :=
  Option.bind (pfL_cell Ls xs sh n F x1) fun qr2 => pd_l qr2.1 fun r2 => pd_l qr2.2 fun F1 =>
  pd_i (x2 ≠ 0) <|
  some (Int.tmod (pd_and r2 65535) x2, F1)
def pfL_name (sh : pd_S) (n : Nat) (F : pd_F) (x0 : Int) (x1 : Int) : Option (Int × pd_S × pd_F) :=
  pd_l ((sh.length : Int) + 1) fun o3 => pd_l (pd_z F (sh.length + 1)) fun F2 => pd_l (sh ++ [(4, 13, 4)]) fun sh1 =>
  pd_i (1 ≤ o3) <|
  Option.bind (pfJ4_init_da8c8 sh1 n F2 o3) fun qsh6 => pd_l qsh6.1 fun sh6 => pd_l qsh6.2 fun F4 =>
  pd_i (pd_ob sh6 13 o3 = true) <|
  Option.bind (pfJ4_append_15ec4 sh6 n F4 o3 x0) fun qr10 => pd_l qr10.1 fun r10 => pd_l qr10.2.1 fun sh9 => pd_l qr10.2.2 fun F7 =>
  pd_i (pd_ob sh9 13 r10 = true) <|
  Option.bind (pfJ4_append_cf468 sh9 n F7 r10 (pd_c (pd_w (97 + x1)))) fun qr14 => pd_l qr14.1 fun r14 => pd_l qr14.2.1 fun sh13 => pd_l qr14.2.2 fun F11 =>
  pd_i (pd_ob sh13 13 r14 = true) <|
  Option.bind (pfJ4_toString_0e30d sh13 n F11 r14) fun qr18 => pd_l qr18.1 fun r18 => pd_l qr18.2.1 fun sh17 => pd_l qr18.2.2 fun F15 =>
  some (r18, sh17, F15)
set_option maxHeartbeats 4000000 in
set_option maxRecDepth 100000 in
theorem pkL_cell (E : pd_E) (l : Launch) {al : Bool} {Ls : Int} {xs : Int → Int} (hLs : Ls = (E.2.2.2 21 : Nat) ∧ Ls < 2147483648) (hxs : ∀ j : Int, 0 ≤ j → j < Ls → xs j = (Int32.ofNat (E.2.2.2 (22 + j.toNat))).toInt) {sh : pd_S} {n : Nat} {F : pd_F} {x1 : Int} {ρ : Int} {Fz : pd_F} (hf : pfL_cell Ls xs sh n F x1 = some (ρ, Fz)) : pd_CE E l yL_cell (Cond.code yL_cell cL_cell 2 (some .int) :: pd_gt) (pd_rm 1 0 0) al 0 0 sh F [pd_R (-60), pd_I x1] (some (pd_I ρ)) sh Fz := by
  unfold pfL_cell at hf
  refine pd_bodyE (L := [pd_R (-60), pd_I x1]) (by decide +kernel) (Nat.le_of_ble_eq_true rfl) rfl ?_
  refine pd_aload_n (i := 0) dL_cell_0 rfl rfl ?_
  refine pd_xlen dL_cell_1 hLs ?_
  refine pd_if_ne (tgt := 9) dL_cell_2 (by decide) (fun hc => ?_) (fun hc => ?_)
  · have hf := pd_ip hf hc
    refine pd_aload_n (i := 0) dL_cell_9 rfl rfl ?_
    refine pd_iload_n (i := 1) dL_cell_10 rfl rfl ?_
    refine pd_aload_n (i := 0) dL_cell_11 rfl rfl ?_
    refine pd_xlen dL_cell_12 hLs ?_
    obtain ⟨hg1, hf⟩ := pd_ig hf
    refine pd_irem dL_cell_13 hg1 ?_
    obtain ⟨hg2, hf⟩ := pd_ig hf
    refine pd_xld dL_cell_14 hLs hxs hg2 ?_
    refine pd_ldc (x := 40503) dL_cell_15 pq_897 (by decide +kernel) ?_
    refine pd_iload_n (i := 1) dL_cell_17 rfl rfl ?_
    refine pd_aload_n (i := 0) dL_cell_18 rfl rfl ?_
    refine pd_xlen dL_cell_19 hLs ?_
    refine pd_idiv dL_cell_20 hg1 ?_
    refine pd_imul dL_cell_21 ?_
    refine pd_ixor dL_cell_22 ?_
    obtain ⟨h1, h2⟩ := pd_inj hf
    subst h1 h2
    exact pd_iret dL_cell_23 rfl (Nat.le_refl 0) (Nat.le_refl 0)
  · have hf := pd_iq hf hc
    refine pd_iconst dL_cell_5 (by decide) ?_
    refine pd_goto (tgt := 23) dL_cell_6 (by decide) ?_
    obtain ⟨h1, h2⟩ := pd_inj hf
    subst h1 h2
    exact pd_iret dL_cell_23 rfl (Nat.le_refl 0) (Nat.le_refl 0)
set_option maxHeartbeats 4000000 in
set_option maxRecDepth 100000 in
theorem pkL_some (E : pd_E) (l : Launch) {al : Bool} {Ls : Int} {xs : Int → Int} (hLs : Ls = (E.2.2.2 21 : Nat) ∧ Ls < 2147483648) (hxs : ∀ j : Int, 0 ≤ j → j < Ls → xs j = (Int32.ofNat (E.2.2.2 (22 + j.toNat))).toInt) {sh : pd_S} {n : Nat} {F : pd_F} {x1 : Int} {x2 : Int} {ρ : Int} {Fz : pd_F} (hf : pfL_some Ls xs sh n F x1 x2 = some (ρ, Fz)) : pd_CE E l yL_some (Cond.code yL_some cL_some 3 (some .int) :: pd_gt) (pd_rm 2 0 0) al 0 0 sh F [pd_R (-60), pd_I x1, pd_I x2] (some (pd_I ρ)) sh Fz := by
  unfold pfL_some at hf
  refine pd_bodyE (L := [pd_R (-60), pd_I x1, pd_I x2]) (by decide +kernel) (Nat.le_of_ble_eq_true rfl) rfl ?_
  refine pd_aload_n (i := 0) dL_some_0 rfl rfl ?_
  refine pd_iload_n (i := 1) dL_some_1 rfl rfl ?_
  obtain ⟨r2, F1, hr, hf⟩ := pd_ob2 hf
  refine pd_callSE (pkL_cell E l hLs hxs hr) dL_some_2 pq_898 pq_901 (pd_okm (by omega) (by decide) pq_899 pq_900 (by decide) (show (parseMethodDescriptor yL_cell.desc).map (fun d => d.parameters.length) = some 2 from by decide +kernel)) (Nat.le_of_ble_eq_true rfl) rfl ?_
  refine pd_ldc (x := 65535) dL_some_5 pq_902 (by decide +kernel) ?_
  refine pd_iand dL_some_7 ?_
  refine pd_iload_n (i := 2) dL_some_8 rfl rfl ?_
  obtain ⟨hg3, hf⟩ := pd_ig hf
  refine pd_irem dL_some_9 hg3 ?_
  obtain ⟨h1, h2⟩ := pd_inj hf
  subst h1 h2
  exact pd_iret dL_some_10 rfl (Nat.le_refl 0) (Nat.le_refl 0)
set_option maxHeartbeats 8000000 in
set_option maxRecDepth 100000 in
theorem pkL_name (l : Launch) {sh : pd_S} {n : Nat} {F : pd_F} {x0 : Int} {x1 : Int} {ρ : Int} {shz : pd_S} {Fz : pd_F} (hf : pfL_name sh n F x0 x1 = some (ρ, shz, Fz)) : pd_C l yL_name (Cond.code yL_name cL_name 2 (some (.object "java/lang/String")) :: pd_gt) (pd_rm 7 6 4808) true 6 4808 sh F [pd_R x0, pd_I x1] (some (pd_R ρ)) shz Fz := by
  unfold pfL_name at hf
  refine pd_body (L := [pd_R x0, pd_I x1]) (by decide +kernel) (Nat.le_of_ble_eq_true rfl) rfl (fun E => ?_)
  refine pd_new dL_name_0 (show vwCl[13]? = some (RX13, TX13, 4) from rfl) pin_13 tyX13_ok pq_903 pq_904 pq_905 (by decide) ⟨by show _ ≤ 6; omega, by show _ ≤ 4808; omega⟩ ?_
  refine pd_topR (fun o3 eo3 => ?_)
  have hf := pd_lt hf eo3
  refine pd_topF (fun F2 eF2 => ?_)
  have hf := pd_lt hf eF2
  refine pd_topS (fun sh1 esh1 => ?_)
  have hf := pd_lt hf esh1
  clear esh1 eF2 eo3
  refine pd_dup dL_name_3 rfl ?_
  obtain ⟨hg5, hf⟩ := pd_ig hf
  obtain ⟨sh6, F4, hr, hf⟩ := pd_ob2 hf
  refine pd_callI (pkJ4_init_da8c8 l hr) dL_name_4 pq_906 pq_909 rfl hg5 (pd_okA (by omega) (by decide) (by omega) (by omega) pq_907 pq_908 (by decide) (show (parseMethodDescriptor yJ4_init_da8c8.desc).map (fun d => d.parameters.length) = some 0 from by decide +kernel)) (Nat.le_of_ble_eq_true rfl) rfl ?_
  refine pd_aload_n (i := 0) dL_name_7 rfl rfl ?_
  obtain ⟨hg8, hf⟩ := pd_ig hf
  obtain ⟨r10, sh9, F7, hr, hf⟩ := pd_ob3 hf
  refine pd_callV (pkJ4_append_15ec4 l hr) dL_name_8 pq_910 pq_913 pq_914 (show vwCl[13]? = some (yJ4_append_15ec4.cls, TX13, 4) from rfl) hg8 (pd_okA (by omega) (by decide) (by omega) (by omega) pq_911 pq_912 (by decide) (show (parseMethodDescriptor yJ4_append_15ec4.desc).map (fun d => d.parameters.length) = some 1 from by decide +kernel)) (Nat.le_of_ble_eq_true rfl) rfl ?_
  refine pd_bipush dL_name_11 (by decide) ?_
  refine pd_iload_n (i := 1) dL_name_13 rfl rfl ?_
  refine pd_iadd dL_name_14 ?_
  refine pd_i2c dL_name_15 ?_
  obtain ⟨hg12, hf⟩ := pd_ig hf
  obtain ⟨r14, sh13, F11, hr, hf⟩ := pd_ob3 hf
  refine pd_callV (pkJ4_append_cf468 l hr) dL_name_16 pq_915 pq_918 pq_919 (show vwCl[13]? = some (yJ4_append_cf468.cls, TX13, 4) from rfl) hg12 (pd_okA (by omega) (by decide) (by omega) (by omega) pq_916 pq_917 (by decide) (show (parseMethodDescriptor yJ4_append_cf468.desc).map (fun d => d.parameters.length) = some 1 from by decide +kernel)) (Nat.le_of_ble_eq_true rfl) rfl ?_
  obtain ⟨hg16, hf⟩ := pd_ig hf
  obtain ⟨r18, sh17, F15, hr, hf⟩ := pd_ob3 hf
  refine pd_callV (pkJ4_toString_0e30d l hr) dL_name_19 pq_920 pq_923 pq_924 (show vwCl[13]? = some (yJ4_toString_0e30d.cls, TX13, 4) from rfl) hg16 (pd_okA (by omega) (by decide) (by omega) (by omega) pq_921 pq_922 (by decide) (show (parseMethodDescriptor yJ4_toString_0e30d.desc).map (fun d => d.parameters.length) = some 0 from by decide +kernel)) (Nat.le_of_ble_eq_true rfl) rfl ?_
  obtain ⟨h1, h2, h3⟩ := pd_inj3 hf
  subst h1 h2 h3
  exact pd_aret dL_name_22 rfl (by first | exact Or.inl ⟨_, rfl⟩ | exact Or.inr ⟨_, rfl⟩) (by omega) (by omega)
