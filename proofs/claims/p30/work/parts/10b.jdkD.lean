theorem jqc_212 : Cond.methodLink "java/lang/String" 212 arraycopyName ∈ pd_gt := pd_in 916 (by decide +kernel) (by decide +kernel)
theorem jqc_n : Cond.native arraycopyName ∈ pd_gt := pd_in 683 (by decide +kernel) (by decide +kernel)
theorem jqc_s : Cond.static arraycopyName ∈ pd_gt := pd_in 682 (by decide +kernel) (by decide +kernel)
theorem jqc_i : Cond.initialized "java/lang/System" ∈ pd_gt := pd_in 50 (by decide +kernel) (by decide +kernel)
/-! String's members on a text from the start, or on one made later -/
section PDU2
variable {l : Launch} {al : Bool} {sh : pd_S} {F : pd_F} {w i n b : Int}
set_option maxHeartbeats 4000000 in
theorem jk_coder (hw : -21 ≤ w ∧ w < 0) : pd_C l yJ0_coder_7d493 (Cond.code yJ0_coder_7d493 cJ0_coder_7d493 1 (some .byte) :: pd_gt) (pd_rm 1 0 0) al 0 0 sh F [pd_R w] (some (pd_I 0)) sh F := by
  refine pd_body (L := [pd_R w]) (by decide +kernel) (Nat.le_of_ble_eq_true rfl) rfl (fun E => ?_)
  refine pd_gsC dJ0_coder_7d493_0 jq_cs ?_
  refine pd_if_eq (tgt := 13) dJ0_coder_7d493_3 (by decide) (fun h => absurd h (by decide)) (fun _ => ?_)
  refine pd_aload_n (i := 0) dJ0_coder_7d493_6 rfl rfl ?_
  refine pd_sgC dJ0_coder_7d493_7 jq_co hw ?_
  refine pd_goto (tgt := 14) dJ0_coder_7d493_10 (by decide) ?_
  exact pd_bret0 dJ0_coder_7d493_14 rfl (Nat.le_refl 0) (Nat.le_refl 0)
theorem pd_slen_in (hw : -21 ≤ w ∧ w < 0) : 0 ≤ pd_slen w ∧ pd_slen w < 2147483648 := by
  have h1 := (pd_len_at hw).1
  have h2 := pd_lens_small (-w - 1).toNat (by omega)
  omega
theorem pd_sch_t : ∀ i : Nat, i < 21 → ∀ j : Nat, j < 30 → -128 ≤ ((pd_byt.getD i []).getD j 0).toInt ∧ ((pd_byt.getD i []).getD j 0).toInt ≤ 127 := by decide +kernel
theorem pd_len_30 : ∀ i : Nat, i < 21 → (pd_byt.getD i []).length ≤ 30 := by decide +kernel
theorem pd_sch_b (hw : -21 ≤ w ∧ w < 0) (j : Int) : -128 ≤ pd_sch w j ∧ pd_sch w j ≤ 127 := by
  rw [(pd_len_at hw).2]
  have hi : (-w - 1).toNat < 21 := by omega
  by_cases h : j.toNat < 30
  · exact pd_sch_t _ hi _ h
  · have h1 := pd_len_30 _ hi
    rw [List.getD_eq_getElem?_getD, List.getElem?_eq_none (by omega)]
    decide
theorem pd_shr0 {x : Int} (h : 0 ≤ x ∧ x < 2147483648) : pd_shr x 0 = x := by
  unfold pd_shr
  have h3 : (Int32.ofInt 0 &&& 31 : Int32) = 0 := by decide
  rw [h3, Int32.shiftRight_zero, Int32.toInt_ofInt]
  rw [pd_w_eq, pd_w_id (by omega) (by omega)]
set_option maxHeartbeats 4000000 in
theorem jk_length (hw : -21 ≤ w ∧ w < 0) : pd_C l yJ0_length_8abf5 (Cond.code yJ0_length_8abf5 cJ0_length_8abf5 1 (some .int) :: pd_gt) (pd_rm 2 0 0) al 0 0 sh F [pd_R w] (some (pd_I (pd_slen w))) sh F := by
  refine pd_body (L := [pd_R w]) (by decide +kernel) (Nat.le_of_ble_eq_true rfl) rfl (fun E => ?_)
  refine pd_aload_n (i := 0) dJ0_length_8abf5_0 rfl rfl ?_
  refine pd_sgV dJ0_length_8abf5_1 jq_va hw ?_
  refine pd_salen dJ0_length_8abf5_4 hw ?_
  refine pd_aload_n (i := 0) dJ0_length_8abf5_5 rfl rfl ?_
  refine pd_callVT (xs := []) (jk_coder hw) dJ0_length_8abf5_6 jq_l335 jq_mcoder jq_scoder rfl hw (pd_okm (by omega) (by decide) jq_ccoder jq_iS (by decide) (show (parseMethodDescriptor yJ0_coder_7d493.desc).map (fun d => d.parameters.length) = some 0 from by decide +kernel)) (Nat.le_of_ble_eq_true rfl) rfl ?_
  refine pd_ishr dJ0_length_8abf5_9 ?_
  rw [pd_shr0 (pd_slen_in hw)]
  exact pd_iret dJ0_length_8abf5_10 rfl (Nat.le_refl 0) (Nat.le_refl 0)
set_option maxHeartbeats 4000000 in
theorem jk_getBytes (hw : -21 ≤ w ∧ w < 0) (hg : 0 ≤ pd_shl i 0 ∧ pd_shl i 0 + pd_slen w ≤ pd_ln sh 0 1 b) : pd_C l yJ0_getBytes_840e7 (Cond.code yJ0_getBytes_840e7 cJ0_getBytes_840e7 4 none :: pd_gt) (pd_rm 2 0 0) al 0 0 sh F [pd_R w, pd_R b, pd_I i, pd_I 0] none sh (pd_cS (pd_sch w) F 0 b (pd_shl i 0) (pd_slen w)) := by
  refine pd_body (L := [pd_R w, pd_R b, pd_I i, pd_I 0]) (by decide +kernel) (Nat.le_of_ble_eq_true rfl) rfl (fun E => ?_)
  refine pd_aload_n (i := 0) dJ0_getBytes_840e7_0 rfl rfl ?_
  refine pd_callVT (xs := []) (jk_coder hw) dJ0_getBytes_840e7_1 jq_l335 jq_mcoder jq_scoder rfl hw (pd_okm (by omega) (by decide) jq_ccoder jq_iS (by decide) (show (parseMethodDescriptor yJ0_coder_7d493.desc).map (fun d => d.parameters.length) = some 0 from by decide +kernel)) (Nat.le_of_ble_eq_true rfl) rfl ?_
  refine pd_iload_n (i := 3) dJ0_getBytes_840e7_4 rfl rfl ?_
  refine pd_icmp_ne (tgt := 28) dJ0_getBytes_840e7_5 (by decide) (fun h => absurd rfl h) (fun _ => ?_)
  refine pd_aload_n (i := 0) dJ0_getBytes_840e7_8 rfl rfl ?_
  refine pd_sgV dJ0_getBytes_840e7_9 jq_va hw ?_
  refine pd_iconst dJ0_getBytes_840e7_12 (by decide) ?_
  refine pd_aload_n (i := 1) dJ0_getBytes_840e7_13 rfl rfl ?_
  refine pd_iload_n (i := 2) dJ0_getBytes_840e7_14 rfl rfl ?_
  refine pd_iload_n (i := 3) dJ0_getBytes_840e7_15 rfl rfl ?_
  refine pd_ishl dJ0_getBytes_840e7_16 ?_
  refine pd_aload_n (i := 0) dJ0_getBytes_840e7_17 rfl rfl ?_
  refine pd_sgV dJ0_getBytes_840e7_18 jq_va hw ?_
  refine pd_salen dJ0_getBytes_840e7_21 hw ?_
  have hl := pd_len_at hw
  have h0 := pd_slen_in hw
  have hi : (-w - 1).toNat < 21 := by omega
  refine pd_copyS (q0 := E.2.2.1 (21 + (-w - 1).toNat)) (na := pd_len.getD (-w - 1).toNat 0) (f := pd_sch w) (g0 := fun j => (pd_byt.getD (-w - 1).toNat []).getD j 0) dJ0_getBytes_840e7_22 jqc_212 jqc_n jqc_s jqc_i pd_rmR2 (Nat.le_of_ble_eq_true rfl) ?_ (fun s hk => ?_) (fun j hj => ?_) (fun j hj => pd_sch_b hw j) ⟨by omega, hg.1, h0.1, by omega, hg.2⟩ ?_
  · unfold pd_rf
    rw [if_neg (by omega), if_pos (by omega), show (-(w - 21) - 1).toNat = 21 + (-w - 1).toNat by omega]
  · rw [hk.2.2.2.2.2.2 _ hi]
    exact (hk.1.1 _ hi).2.2.2
  · rw [hl.2]
    rfl
  · refine pd_goto (tgt := 43) dJ0_getBytes_840e7_25 (by decide) ?_
    exact pd_vret dJ0_getBytes_840e7_43 rfl (Nat.le_refl 0) (Nat.le_refl 0)
end PDU2
def pfJ0_coder_7d493_d (sh : pd_S) (n : Nat) (F : pd_F) (x0 : Int) : Option (Int × pd_F) := if x0 < 0 then pd_i (-21 ≤ x0) (some (0, F)) else pfJ0_coder_7d493 sh n F x0
def pfJ0_length_8abf5_d (sh : pd_S) (n : Nat) (F : pd_F) (x0 : Int) : Option (Int × pd_F) := if x0 < 0 then pd_i (-21 ≤ x0) (some (pd_slen x0, F)) else pfJ0_length_8abf5 sh n F x0
def pfJ0_getBytes_840e7_d (sh : pd_S) (n : Nat) (F : pd_F) (x0 x1 x2 x3 : Int) : Option pd_F := if x0 < 0 then pd_i (-21 ≤ x0 ∧ x3 = 0 ∧ 0 ≤ pd_shl x2 0 ∧ pd_shl x2 0 + pd_slen x0 ≤ pd_ln sh 0 1 x1) (some (pd_cS (pd_sch x0) F 0 x1 (pd_shl x2 0) (pd_slen x0))) else pfJ0_getBytes_840e7 sh n F x0 x1 x2 x3
theorem pkJ0_coder_7d493_d (l : Launch) {al : Bool} {sh : pd_S} {n : Nat} {F : pd_F} {x0 : Int} {ρ : Int} {Fz : pd_F} (hf : pfJ0_coder_7d493_d sh n F x0 = some (ρ, Fz)) : pd_C l yJ0_coder_7d493 (Cond.code yJ0_coder_7d493 cJ0_coder_7d493 1 (some .byte) :: pd_gt) (pd_rm 1 0 0) al 0 0 sh F [pd_R x0] (some (pd_I ρ)) sh Fz := by
  unfold pfJ0_coder_7d493_d at hf
  by_cases h : x0 < 0
  · rw [if_pos h] at hf
    obtain ⟨hg, hf⟩ := pd_ig hf
    obtain ⟨h1, h2⟩ := pd_inj hf
    subst h1 h2
    exact jk_coder ⟨hg, h⟩
  · rw [if_neg h] at hf
    exact pkJ0_coder_7d493 l hf
theorem pkJ0_length_8abf5_d (l : Launch) {al : Bool} {sh : pd_S} {n : Nat} {F : pd_F} {x0 : Int} {ρ : Int} {Fz : pd_F} (hf : pfJ0_length_8abf5_d sh n F x0 = some (ρ, Fz)) : pd_C l yJ0_length_8abf5 (Cond.code yJ0_length_8abf5 cJ0_length_8abf5 1 (some .int) :: pd_gt) (pd_rm 2 0 0) al 0 0 sh F [pd_R x0] (some (pd_I ρ)) sh Fz := by
  unfold pfJ0_length_8abf5_d at hf
  by_cases h : x0 < 0
  · rw [if_pos h] at hf
    obtain ⟨hg, hf⟩ := pd_ig hf
    obtain ⟨h1, h2⟩ := pd_inj hf
    subst h1 h2
    exact jk_length ⟨hg, h⟩
  · rw [if_neg h] at hf
    exact pkJ0_length_8abf5 l hf
theorem pkJ0_getBytes_840e7_d (l : Launch) {al : Bool} {sh : pd_S} {n : Nat} {F : pd_F} {x0 x1 x2 x3 : Int} {Fz : pd_F} (hf : pfJ0_getBytes_840e7_d sh n F x0 x1 x2 x3 = some Fz) : pd_C l yJ0_getBytes_840e7 (Cond.code yJ0_getBytes_840e7 cJ0_getBytes_840e7 4 none :: pd_gt) (pd_rm 2 0 0) al 0 0 sh F [pd_R x0, pd_R x1, pd_I x2, pd_I x3] none sh Fz := by
  unfold pfJ0_getBytes_840e7_d at hf
  by_cases h : x0 < 0
  · rw [if_pos h] at hf
    obtain ⟨hg, hf⟩ := pd_ig hf
    obtain h2 := pd_inj1 hf
    subst h2
    obtain ⟨g1, g2, g3⟩ := hg
    subst g2
    exact jk_getBytes ⟨g1, h⟩ g3
  · rw [if_neg h] at hf
    exact pkJ0_getBytes_840e7 l hf
