theorem dL_isRanked_0 : decode cL_isRanked 0 = .ok (.iconst 0, 1) := by decide +kernel
theorem dL_isRanked_1 : decode cL_isRanked 1 = .ok (.istore_n 2, 1) := by decide +kernel
theorem dL_isRanked_2 : decode cL_isRanked 2 = .ok (.iconst 0, 1) := by decide +kernel
theorem dL_isRanked_3 : decode cL_isRanked 3 = .ok (.istore_n 3, 1) := by decide +kernel
theorem dL_isRanked_4 : decode cL_isRanked 4 = .ok (.iload_n 3, 1) := by decide +kernel
theorem dL_isRanked_5 : decode cL_isRanked 5 = .ok (.iload_n 1, 1) := by decide +kernel
theorem dL_isRanked_6 : decode cL_isRanked 6 = .ok (.if_icmp .ge 105, 3) := by decide +kernel
theorem dL_isRanked_9 : decode cL_isRanked 9 = .ok (.aload_n 0, 1) := by decide +kernel
theorem dL_isRanked_10 : decode cL_isRanked 10 = .ok (.iload_n 3, 1) := by decide +kernel
theorem dL_isRanked_11 : decode cL_isRanked 11 = .ok (.invokevirtual 180, 3) := by decide +kernel
theorem dL_isRanked_14 : decode cL_isRanked 14 = .ok (.istore 4, 2) := by decide +kernel
theorem dL_isRanked_16 : decode cL_isRanked 16 = .ok (.iload 4, 2) := by decide +kernel
theorem dL_isRanked_18 : decode cL_isRanked 18 = .ok (.ifCond .lt 13, 3) := by decide +kernel
theorem dL_isRanked_21 : decode cL_isRanked 21 = .ok (.iload_n 2, 1) := by decide +kernel
theorem dL_isRanked_22 : decode cL_isRanked 22 = .ok (.iload 4, 2) := by decide +kernel
theorem dL_isRanked_24 : decode cL_isRanked 24 = .ok (.ishr, 1) := by decide +kernel
theorem dL_isRanked_25 : decode cL_isRanked 25 = .ok (.iconst 1, 1) := by decide +kernel
theorem dL_isRanked_26 : decode cL_isRanked 26 = .ok (.iand, 1) := by decide +kernel
theorem dL_isRanked_27 : decode cL_isRanked 27 = .ok (.iconst 1, 1) := by decide +kernel
theorem dL_isRanked_28 : decode cL_isRanked 28 = .ok (.if_icmp .ne 5, 3) := by decide +kernel
theorem dL_isRanked_31 : decode cL_isRanked 31 = .ok (.iconst 0, 1) := by decide +kernel
theorem dL_isRanked_32 : decode cL_isRanked 32 = .ok (.ireturn, 1) := by decide +kernel
theorem dL_isRanked_33 : decode cL_isRanked 33 = .ok (.iload_n 2, 1) := by decide +kernel
theorem dL_isRanked_34 : decode cL_isRanked 34 = .ok (.iconst 1, 1) := by decide +kernel
theorem dL_isRanked_35 : decode cL_isRanked 35 = .ok (.iload 4, 2) := by decide +kernel
theorem dL_isRanked_37 : decode cL_isRanked 37 = .ok (.ishl, 1) := by decide +kernel
theorem dL_isRanked_38 : decode cL_isRanked 38 = .ok (.ior, 1) := by decide +kernel
theorem dL_isRanked_39 : decode cL_isRanked 39 = .ok (.istore_n 2, 1) := by decide +kernel
theorem dL_isRanked_40 : decode cL_isRanked 40 = .ok (.iload_n 3, 1) := by decide +kernel
theorem dL_isRanked_41 : decode cL_isRanked 41 = .ok (.ifCond .ne 6, 3) := by decide +kernel
theorem dL_isRanked_44 : decode cL_isRanked 44 = .ok (.goto 61, 3) := by decide +kernel
theorem dL_isRanked_47 : decode cL_isRanked 47 = .ok (.aload_n 0, 1) := by decide +kernel
theorem dL_isRanked_48 : decode cL_isRanked 48 = .ok (.iload_n 3, 1) := by decide +kernel
theorem dL_isRanked_49 : decode cL_isRanked 49 = .ok (.iconst 1, 1) := by decide +kernel
theorem dL_isRanked_50 : decode cL_isRanked 50 = .ok (.isub, 1) := by decide +kernel
theorem dL_isRanked_51 : decode cL_isRanked 51 = .ok (.invokevirtual 180, 3) := by decide +kernel
theorem dL_isRanked_54 : decode cL_isRanked 54 = .ok (.istore 5, 2) := by decide +kernel
theorem dL_isRanked_56 : decode cL_isRanked 56 = .ok (.aload_n 0, 1) := by decide +kernel
theorem dL_isRanked_57 : decode cL_isRanked 57 = .ok (.iload 5, 2) := by decide +kernel
theorem dL_isRanked_59 : decode cL_isRanked 59 = .ok (.bipush 7, 2) := by decide +kernel
theorem dL_isRanked_61 : decode cL_isRanked 61 = .ok (.invokevirtual 146, 3) := by decide +kernel
theorem dL_isRanked_64 : decode cL_isRanked 64 = .ok (.aload_n 0, 1) := by decide +kernel
theorem dL_isRanked_65 : decode cL_isRanked 65 = .ok (.iload 4, 2) := by decide +kernel
theorem dL_isRanked_67 : decode cL_isRanked 67 = .ok (.bipush 7, 2) := by decide +kernel
theorem dL_isRanked_69 : decode cL_isRanked 69 = .ok (.invokevirtual 146, 3) := by decide +kernel
theorem dL_isRanked_72 : decode cL_isRanked 72 = .ok (.lcmp, 1) := by decide +kernel
theorem dL_isRanked_73 : decode cL_isRanked 73 = .ok (.ifCond .lt 30, 3) := by decide +kernel
theorem dL_isRanked_76 : decode cL_isRanked 76 = .ok (.aload_n 0, 1) := by decide +kernel
theorem dL_isRanked_77 : decode cL_isRanked 77 = .ok (.iload 5, 2) := by decide +kernel
theorem dL_isRanked_79 : decode cL_isRanked 79 = .ok (.bipush 7, 2) := by decide +kernel
theorem dL_isRanked_81 : decode cL_isRanked 81 = .ok (.invokevirtual 146, 3) := by decide +kernel
theorem dL_isRanked_84 : decode cL_isRanked 84 = .ok (.aload_n 0, 1) := by decide +kernel
theorem dL_isRanked_85 : decode cL_isRanked 85 = .ok (.iload 4, 2) := by decide +kernel
theorem dL_isRanked_87 : decode cL_isRanked 87 = .ok (.bipush 7, 2) := by decide +kernel
theorem dL_isRanked_89 : decode cL_isRanked 89 = .ok (.invokevirtual 146, 3) := by decide +kernel
theorem dL_isRanked_92 : decode cL_isRanked 92 = .ok (.lcmp, 1) := by decide +kernel
theorem dL_isRanked_93 : decode cL_isRanked 93 = .ok (.ifCond .ne 12, 3) := by decide +kernel
theorem dL_isRanked_96 : decode cL_isRanked 96 = .ok (.iload 5, 2) := by decide +kernel
theorem dL_isRanked_98 : decode cL_isRanked 98 = .ok (.iload 4, 2) := by decide +kernel
theorem dL_isRanked_100 : decode cL_isRanked 100 = .ok (.if_icmp .le 5, 3) := by decide +kernel
theorem dL_isRanked_103 : decode cL_isRanked 103 = .ok (.iconst 0, 1) := by decide +kernel
theorem dL_isRanked_104 : decode cL_isRanked 104 = .ok (.ireturn, 1) := by decide +kernel
theorem dL_isRanked_105 : decode cL_isRanked 105 = .ok (.iinc 3 1, 3) := by decide +kernel
theorem dL_isRanked_108 : decode cL_isRanked 108 = .ok (.goto (-104), 3) := by decide +kernel
theorem dL_isRanked_111 : decode cL_isRanked 111 = .ok (.aload_n 0, 1) := by decide +kernel
theorem dL_isRanked_112 : decode cL_isRanked 112 = .ok (.iload_n 1, 1) := by decide +kernel
theorem dL_isRanked_113 : decode cL_isRanked 113 = .ok (.invokevirtual 180, 3) := by decide +kernel
theorem dL_isRanked_116 : decode cL_isRanked 116 = .ok (.iconst (-1), 1) := by decide +kernel
theorem dL_isRanked_117 : decode cL_isRanked 117 = .ok (.if_icmp .ne 7, 3) := by decide +kernel
theorem dL_isRanked_120 : decode cL_isRanked 120 = .ok (.iconst 1, 1) := by decide +kernel
theorem dL_isRanked_121 : decode cL_isRanked 121 = .ok (.goto 4, 3) := by decide +kernel
theorem dL_isRanked_124 : decode cL_isRanked 124 = .ok (.iconst 0, 1) := by decide +kernel
theorem dL_isRanked_125 : decode cL_isRanked 125 = .ok (.ireturn, 1) := by decide +kernel
theorem pq_929 : Cond.methodLink RL 180 yX11_ranked ∈ pd_gt := pd_in 1318 (by decide +kernel) (by decide +kernel)
theorem pq_930 : Cond.code yX11_ranked cX11_ranked 3 (some .int) ∈ pd_gt := pd_in 1321 (by decide +kernel) (by decide +kernel)
theorem pq_931 : Cond.initialized yX11_ranked.cls ∈ pd_gt := pd_in 37 (by decide +kernel) (by decide +kernel)
theorem pq_932 : Cond.instanceMethod yX11_ranked ∈ pd_gt := pd_in 1319 (by decide +kernel) (by decide +kernel)
theorem pq_933 : Cond.selects yX11_ranked.cls yX11_ranked yX11_ranked ∈ pd_gt := pd_in 1320 (by decide +kernel) (by decide +kernel)
theorem pq_934 : Cond.methodLink RL 146 yX11_view ∈ pd_gt := pd_in 589 (by decide +kernel) (by decide +kernel)
theorem pq_935 : Cond.code yX11_view cX11_view 3 (some .long) ∈ pd_gt := pd_in 592 (by decide +kernel) (by decide +kernel)
theorem pq_936 : Cond.initialized yX11_view.cls ∈ pd_gt := pd_in 37 (by decide +kernel) (by decide +kernel)
theorem pq_937 : Cond.instanceMethod yX11_view ∈ pd_gt := pd_in 590 (by decide +kernel) (by decide +kernel)
theorem pq_938 : Cond.selects yX11_view.cls yX11_view yX11_view ∈ pd_gt := pd_in 591 (by decide +kernel) (by decide +kernel)
theorem pq_939 : Cond.methodLink RL 140 yX11_ways ∈ pd_gt := pd_in 661 (by decide +kernel) (by decide +kernel)
theorem pq_940 : Cond.code yX11_ways cX11_ways 3 (some .int) ∈ pd_gt := pd_in 664 (by decide +kernel) (by decide +kernel)
theorem pq_941 : Cond.initialized yX11_ways.cls ∈ pd_gt := pd_in 37 (by decide +kernel) (by decide +kernel)
theorem pq_942 : Cond.instanceMethod yX11_ways ∈ pd_gt := pd_in 662 (by decide +kernel) (by decide +kernel)
theorem pq_943 : Cond.selects yX11_ways.cls yX11_ways yX11_ways ∈ pd_gt := pd_in 663 (by decide +kernel) (by decide +kernel)
theorem pq_944 : Cond.methodLink RL 143 yX11_account ∈ pd_gt := pd_in 500 (by decide +kernel) (by decide +kernel)
theorem pq_945 : Cond.code yX11_account cX11_account 4 (some .int) ∈ pd_gt := pd_in 503 (by decide +kernel) (by decide +kernel)
theorem pq_946 : Cond.initialized yX11_account.cls ∈ pd_gt := pd_in 37 (by decide +kernel) (by decide +kernel)
theorem pq_947 : Cond.instanceMethod yX11_account ∈ pd_gt := pd_in 501 (by decide +kernel) (by decide +kernel)
theorem pq_948 : Cond.selects yX11_account.cls yX11_account yX11_account ∈ pd_gt := pd_in 502 (by decide +kernel) (by decide +kernel)
theorem pq_949 : Cond.methodLink RL 134 yX11_count ∈ pd_gt := pd_in 749 (by decide +kernel) (by decide +kernel)
theorem pq_950 : Cond.code yX11_count cX11_count 2 (some .int) ∈ pd_gt := pd_in 752 (by decide +kernel) (by decide +kernel)
theorem pq_951 : Cond.initialized yX11_count.cls ∈ pd_gt := pd_in 37 (by decide +kernel) (by decide +kernel)
theorem pq_952 : Cond.instanceMethod yX11_count ∈ pd_gt := pd_in 750 (by decide +kernel) (by decide +kernel)
theorem pq_953 : Cond.selects yX11_count.cls yX11_count yX11_count ∈ pd_gt := pd_in 751 (by decide +kernel) (by decide +kernel)
theorem pq_954 : Cond.methodLink RL 137 yX11_share ∈ pd_gt := pd_in 512 (by decide +kernel) (by decide +kernel)
theorem pq_955 : Cond.code yX11_share cX11_share 3 (some .int) ∈ pd_gt := pd_in 515 (by decide +kernel) (by decide +kernel)
theorem pq_956 : Cond.initialized yX11_share.cls ∈ pd_gt := pd_in 37 (by decide +kernel) (by decide +kernel)
theorem pq_957 : Cond.instanceMethod yX11_share ∈ pd_gt := pd_in 513 (by decide +kernel) (by decide +kernel)
theorem pq_958 : Cond.selects yX11_share.cls yX11_share yX11_share ∈ pd_gt := pd_in 514 (by decide +kernel) (by decide +kernel)
theorem pq_959 : Cond.methodLink RL 118 yX11_person ∈ pd_gt := pd_in 492 (by decide +kernel) (by decide +kernel)
theorem pq_960 : Cond.code yX11_person cX11_person 4 (some .int) ∈ pd_gt := pd_in 495 (by decide +kernel) (by decide +kernel)
theorem pq_961 : Cond.initialized yX11_person.cls ∈ pd_gt := pd_in 37 (by decide +kernel) (by decide +kernel)
theorem pq_962 : Cond.instanceMethod yX11_person ∈ pd_gt := pd_in 493 (by decide +kernel) (by decide +kernel)
theorem pq_963 : Cond.selects yX11_person.cls yX11_person yX11_person ∈ pd_gt := pd_in 494 (by decide +kernel) (by decide +kernel)
theorem pq_964 : Cond.methodLink RL 150 Lib.MathLoose.min_long.x ∈ pd_gt := pd_in 1312 (by decide +kernel) (by decide +kernel)
theorem pq_965 : Cond.methodLink RL 156 yX11_who ∈ pd_gt := pd_in 581 (by decide +kernel) (by decide +kernel)
theorem pq_966 : Cond.code yX11_who cX11_who 2 (some .int) ∈ pd_gt := pd_in 584 (by decide +kernel) (by decide +kernel)
theorem pq_967 : Cond.initialized yX11_who.cls ∈ pd_gt := pd_in 37 (by decide +kernel) (by decide +kernel)
theorem pq_968 : Cond.instanceMethod yX11_who ∈ pd_gt := pd_in 582 (by decide +kernel) (by decide +kernel)
theorem pq_969 : Cond.selects yX11_who.cls yX11_who yX11_who ∈ pd_gt := pd_in 583 (by decide +kernel) (by decide +kernel)
def pfL_isRanked_b105 (sh : pd_S) (n : Nat) (c4 : pd_F → Int → Int → Int → Int → Option (Int × pd_F)) (F : pd_F) (x0 : Int) (x1 : Int) (x2 : Int) (x3 : Int) : Option (Int × pd_F) :=
  pd_l (pd_w (x3 + 1)) fun x3_105 =>
  c4 F x0 x1 x2 x3_105
def pfL_isRanked_b111 (sh : pd_S) (n : Nat)  (F : pd_F) (x0 : Int) (x1 : Int) : Option (Int × pd_F) :=
  pd_i (pd_ob sh 11 x0 = true) <|
  Option.bind (pfX11_ranked sh n F x0 x1) fun qr3 => pd_l qr3.1 fun r3 => pd_l qr3.2 fun F1 =>
  if r3 ≠ (-1) then
    some (0, F1)
  else
    some (1, F1)
def pfL_isRanked_b4 (sh : pd_S) (n : Nat)  : Nat → pd_F → Int → Int → Int → Int → Option (Int × pd_F)
  | 0, _, _, _, _, _ => none
  | k + 1, F, x0, x1, x2, x3 =>
    if x3 ≥ x1 then
      pfL_isRanked_b111 sh n F x0 x1
    else
      pd_i (pd_ob sh 11 x0 = true) <|
      Option.bind (pfX11_ranked sh n F x0 x3) fun qr6 => pd_l qr6.1 fun r6 => pd_l qr6.2 fun F4 =>
      if r6 < 0 then
        some (0, F4)
      else
        if (pd_and (pd_shr x2 r6) 1) ≠ 1 then
          pd_l (pd_or x2 (pd_shl 1 r6)) fun x2_39 =>
          if x3 ≠ 0 then
            Option.bind (pfX11_ranked sh n F4 x0 (pd_w (x3 - 1))) fun qr8 => pd_l qr8.1 fun r8 => pd_l qr8.2 fun F7 =>
            Option.bind (pfX11_view sh n F7 x0 r8 7) fun qr10 => pd_l qr10.1 fun r10 => pd_l qr10.2 fun F9 =>
            Option.bind (pfX11_view sh n F9 x0 r6 7) fun qr12 => pd_l qr12.1 fun r12 => pd_l qr12.2 fun F11 =>
            if r10 < r12 then
              some (0, F11)
            else
              Option.bind (pfX11_view sh n F11 x0 r8 7) fun qr14 => pd_l qr14.1 fun r14 => pd_l qr14.2 fun F13 =>
              Option.bind (pfX11_view sh n F13 x0 r6 7) fun qr16 => pd_l qr16.1 fun r16 => pd_l qr16.2 fun F15 =>
              if r14 ≠ r16 then
                pfL_isRanked_b105 sh n (pfL_isRanked_b4 sh n k) F15 x0 x1 x2_39 x3
              else
                if r8 ≤ r6 then
                  pfL_isRanked_b105 sh n (pfL_isRanked_b4 sh n k) F15 x0 x1 x2_39 x3
                else
                  some (0, F15)
          else
            pfL_isRanked_b105 sh n (pfL_isRanked_b4 sh n k) F4 x0 x1 x2_39 x3
        else
          some (0, F4)
def pfL_isRanked (sh : pd_S) (n : Nat) (F : pd_F) (x0 : Int) (x1 : Int) : Option (Int × pd_F) :=
  pfL_isRanked_b4 sh n n F x0 x1 0 0
set_option maxHeartbeats 4000000 in
set_option maxRecDepth 100000 in
theorem pkL_isRanked_b105 (E : pd_E) (l : Launch) {al : Bool} {sh : pd_S} {n : Nat} {ρ : Int} {Fz : pd_F} {c4 : pd_F → Int → Int → Int → Int → Option (Int × pd_F)} (hL4 : ∀ (F : pd_F) (x0 : Int) (x1 : Int) (x2 : Int) (x3 : Int), c4 F x0 x1 x2 x3 = some (ρ, Fz) → pd_V E l (pd_rm 6 0 0) (RL, cL_isRanked, 6, (some .boolean), "isRanked") (pd_Qm E al (some (pd_I ρ)) sh Fz 0 0) al 0 0 sh F 4 [pd_R x0, pd_I x1, pd_I x2, pd_I x3, pd_N, pd_N] []) (F : pd_F) (x0 : Int) (x1 : Int) (x2 : Int) (x3 : Int) (hf : pfL_isRanked_b105 sh n c4 F x0 x1 x2 x3 = some (ρ, Fz)) : pd_V E l (pd_rm 6 0 0) (RL, cL_isRanked, 6, (some .boolean), "isRanked") (pd_Qm E al (some (pd_I ρ)) sh Fz 0 0) al 0 0 sh F 105 [pd_R x0, pd_I x1, pd_I x2, pd_I x3, pd_N, pd_N] [] := by
  unfold pfL_isRanked_b105 at hf
  refine pd_iincN (L' := fun y => [pd_R x0, pd_I x1, pd_I x2, pd_I y, pd_N, pd_N]) dL_isRanked_105 rfl (by decide) (by decide) (fun _ => rfl) (fun x3_105 ex3_105 => ?_)
  have hf := pd_lt hf ex3_105
  clear ex3_105
  refine pd_goto (tgt := 4) dL_isRanked_108 (by decide) ?_
  exact pd_weak (L' := [pd_R x0, pd_I x1, pd_I x2, pd_I x3_105, pd_N, pd_N]) ⟨Or.inr rfl, Or.inr rfl, Or.inr rfl, Or.inr rfl, Or.inr rfl, Or.inr rfl, trivial⟩ (hL4 _ _ _ _ _ hf)
set_option maxHeartbeats 4000000 in
set_option maxRecDepth 100000 in
theorem pkL_isRanked_b111 (E : pd_E) (l : Launch) {al : Bool} {sh : pd_S} {n : Nat} {ρ : Int} {Fz : pd_F}  (F : pd_F) (x0 : Int) (x1 : Int) (hf : pfL_isRanked_b111 sh n  F x0 x1 = some (ρ, Fz)) : pd_V E l (pd_rm 6 0 0) (RL, cL_isRanked, 6, (some .boolean), "isRanked") (pd_Qm E al (some (pd_I ρ)) sh Fz 0 0) al 0 0 sh F 111 [pd_R x0, pd_I x1, pd_N, pd_N, pd_N, pd_N] [] := by
  unfold pfL_isRanked_b111 at hf
  refine pd_aload_n (i := 0) dL_isRanked_111 rfl rfl ?_
  refine pd_iload_n (i := 1) dL_isRanked_112 rfl rfl ?_
  obtain ⟨hg2, hf⟩ := pd_ig hf
  obtain ⟨r3, F1, hr, hf⟩ := pd_ob2 hf
  refine pd_callV (pkX11_ranked l hr) dL_isRanked_113 pq_929 pq_932 pq_933 (show vwCl[11]? = some (yX11_ranked.cls, TX11, 10) from rfl) hg2 (pd_okm (by omega) (by decide) pq_930 pq_931 (by decide) (show (parseMethodDescriptor yX11_ranked.desc).map (fun d => d.parameters.length) = some 1 from by decide +kernel)) (Nat.le_of_ble_eq_true rfl) rfl ?_
  refine pd_iconst dL_isRanked_116 (by decide) ?_
  refine pd_icmp_ne (tgt := 124) dL_isRanked_117 (by decide) (fun hc => ?_) (fun hc => ?_)
  · have hf := pd_ip hf hc
    refine pd_iconst dL_isRanked_124 (by decide) ?_
    obtain ⟨h1, h2⟩ := pd_inj hf
    subst h1 h2
    exact pd_zret dL_isRanked_125 rfl (by decide) (Nat.le_refl 0) (Nat.le_refl 0)
  · have hf := pd_iq hf hc
    refine pd_iconst dL_isRanked_120 (by decide) ?_
    refine pd_goto (tgt := 125) dL_isRanked_121 (by decide) ?_
    obtain ⟨h1, h2⟩ := pd_inj hf
    subst h1 h2
    exact pd_zret dL_isRanked_125 rfl (by decide) (Nat.le_refl 0) (Nat.le_refl 0)
set_option maxHeartbeats 4000000 in
set_option maxRecDepth 100000 in
theorem pkL_isRanked_b4 (E : pd_E) (l : Launch) {al : Bool} {sh : pd_S} {n : Nat} {ρ : Int} {Fz : pd_F}  : ∀ (k : Nat) (F : pd_F) (x0 : Int) (x1 : Int) (x2 : Int) (x3 : Int), pfL_isRanked_b4 sh n  k F x0 x1 x2 x3 = some (ρ, Fz) → pd_V E l (pd_rm 6 0 0) (RL, cL_isRanked, 6, (some .boolean), "isRanked") (pd_Qm E al (some (pd_I ρ)) sh Fz 0 0) al 0 0 sh F 4 [pd_R x0, pd_I x1, pd_I x2, pd_I x3, pd_N, pd_N] [] := by
  intro k
  induction k with
  | zero => intro F x0 x1 x2 x3 hf; exact absurd hf (by unfold pfL_isRanked_b4; exact fun h => nomatch h)
  | succ k ih =>
    intro F x0 x1 x2 x3 hf
    unfold pfL_isRanked_b4 at hf
    refine pd_iload_n (i := 3) dL_isRanked_4 rfl rfl ?_
    refine pd_iload_n (i := 1) dL_isRanked_5 rfl rfl ?_
    refine pd_icmp_ge (tgt := 111) dL_isRanked_6 (by decide) (fun hc => ?_) (fun hc => ?_)
    · have hf := pd_ip hf hc
      exact pd_weak (L' := [pd_R x0, pd_I x1, pd_N, pd_N, pd_N, pd_N]) ⟨Or.inr rfl, Or.inr rfl, Or.inl rfl, Or.inl rfl, Or.inr rfl, Or.inr rfl, trivial⟩ (pkL_isRanked_b111 E l _ _ _ hf)
    · have hf := pd_in_ hf hc
      refine pd_aload_n (i := 0) dL_isRanked_9 rfl rfl ?_
      refine pd_iload_n (i := 3) dL_isRanked_10 rfl rfl ?_
      obtain ⟨hg5, hf⟩ := pd_ig hf
      obtain ⟨r6, F4, hr, hf⟩ := pd_ob2 hf
      refine pd_callV (pkX11_ranked l hr) dL_isRanked_11 pq_929 pq_932 pq_933 (show vwCl[11]? = some (yX11_ranked.cls, TX11, 10) from rfl) hg5 (pd_okm (by omega) (by decide) pq_930 pq_931 (by decide) (show (parseMethodDescriptor yX11_ranked.desc).map (fun d => d.parameters.length) = some 1 from by decide +kernel)) (Nat.le_of_ble_eq_true rfl) rfl ?_
      refine pd_istore (L' := [pd_R x0, pd_I x1, pd_I x2, pd_I x3, pd_I r6, pd_N]) dL_isRanked_14 (by decide) rfl ?_
      refine pd_iload (i := 4) dL_isRanked_16 rfl ?_
      refine pd_if_lt (tgt := 31) dL_isRanked_18 (by decide) (fun hc => ?_) (fun hc => ?_)
      · have hf := pd_ip hf hc
        refine pd_iconst dL_isRanked_31 (by decide) ?_
        obtain ⟨h1, h2⟩ := pd_inj hf
        subst h1 h2
        exact pd_zret dL_isRanked_32 rfl (by decide) (Nat.le_refl 0) (Nat.le_refl 0)
      · have hf := pd_in_ hf hc
        refine pd_iload_n (i := 2) dL_isRanked_21 rfl rfl ?_
        refine pd_iload (i := 4) dL_isRanked_22 rfl ?_
        refine pd_ishr dL_isRanked_24 ?_
        refine pd_iconst dL_isRanked_25 (by decide) ?_
        refine pd_iand dL_isRanked_26 ?_
        refine pd_iconst dL_isRanked_27 (by decide) ?_
        refine pd_icmp_ne (tgt := 33) dL_isRanked_28 (by decide) (fun hc => ?_) (fun hc => ?_)
        · have hf := pd_ip hf hc
          refine pd_iload_n (i := 2) dL_isRanked_33 rfl rfl ?_
          refine pd_iconst dL_isRanked_34 (by decide) ?_
          refine pd_iload (i := 4) dL_isRanked_35 rfl ?_
          refine pd_ishl dL_isRanked_37 ?_
          refine pd_ior dL_isRanked_38 ?_
          refine pd_topI (fun x2_39 ex2_39 => ?_)
          have hf := pd_lt hf ex2_39
          clear ex2_39
          refine pd_istore_n (L' := [pd_R x0, pd_I x1, pd_I x2_39, pd_I x3, pd_I r6, pd_N]) dL_isRanked_39 rfl (by decide) rfl ?_
          refine pd_iload_n (i := 3) dL_isRanked_40 rfl rfl ?_
          refine pd_if_ne (tgt := 47) dL_isRanked_41 (by decide) (fun hc => ?_) (fun hc => ?_)
          · have hf := pd_ip hf hc
            refine pd_aload_n (i := 0) dL_isRanked_47 rfl rfl ?_
            refine pd_iload_n (i := 3) dL_isRanked_48 rfl rfl ?_
            refine pd_iconst dL_isRanked_49 (by decide) ?_
            refine pd_isub dL_isRanked_50 ?_
            obtain ⟨r8, F7, hr, hf⟩ := pd_ob2 hf
            refine pd_callV (pkX11_ranked l hr) dL_isRanked_51 pq_929 pq_932 pq_933 (show vwCl[11]? = some (yX11_ranked.cls, TX11, 10) from rfl) hg5 (pd_okm (by omega) (by decide) pq_930 pq_931 (by decide) (show (parseMethodDescriptor yX11_ranked.desc).map (fun d => d.parameters.length) = some 1 from by decide +kernel)) (Nat.le_of_ble_eq_true rfl) rfl ?_
            refine pd_istore (L' := [pd_R x0, pd_I x1, pd_I x2_39, pd_I x3, pd_I r6, pd_I r8]) dL_isRanked_54 (by decide) rfl ?_
            refine pd_aload_n (i := 0) dL_isRanked_56 rfl rfl ?_
            refine pd_iload (i := 5) dL_isRanked_57 rfl ?_
            refine pd_bipush dL_isRanked_59 (by decide) ?_
            obtain ⟨r10, F9, hr, hf⟩ := pd_ob2 hf
            refine pd_callV (pkX11_view l hr) dL_isRanked_61 pq_934 pq_937 pq_938 (show vwCl[11]? = some (yX11_view.cls, TX11, 10) from rfl) hg5 (pd_okm (by omega) (by decide) pq_935 pq_936 (by decide) (show (parseMethodDescriptor yX11_view.desc).map (fun d => d.parameters.length) = some 2 from by decide +kernel)) (Nat.le_of_ble_eq_true rfl) rfl ?_
            refine pd_aload_n (i := 0) dL_isRanked_64 rfl rfl ?_
            refine pd_iload (i := 4) dL_isRanked_65 rfl ?_
            refine pd_bipush dL_isRanked_67 (by decide) ?_
            obtain ⟨r12, F11, hr, hf⟩ := pd_ob2 hf
            refine pd_callV (pkX11_view l hr) dL_isRanked_69 pq_934 pq_937 pq_938 (show vwCl[11]? = some (yX11_view.cls, TX11, 10) from rfl) hg5 (pd_okm (by omega) (by decide) pq_935 pq_936 (by decide) (show (parseMethodDescriptor yX11_view.desc).map (fun d => d.parameters.length) = some 2 from by decide +kernel)) (Nat.le_of_ble_eq_true rfl) rfl ?_
            refine pd_lcmp_lt (tgt := 103) dL_isRanked_72 dL_isRanked_73 (by decide) (fun hc => ?_) (fun hc => ?_)
            · have hf := pd_ip hf hc
              refine pd_iconst dL_isRanked_103 (by decide) ?_
              obtain ⟨h1, h2⟩ := pd_inj hf
              subst h1 h2
              exact pd_zret dL_isRanked_104 rfl (by decide) (Nat.le_refl 0) (Nat.le_refl 0)
            · have hf := pd_in_ hf hc
              refine pd_aload_n (i := 0) dL_isRanked_76 rfl rfl ?_
              refine pd_iload (i := 5) dL_isRanked_77 rfl ?_
              refine pd_bipush dL_isRanked_79 (by decide) ?_
              obtain ⟨r14, F13, hr, hf⟩ := pd_ob2 hf
              refine pd_callV (pkX11_view l hr) dL_isRanked_81 pq_934 pq_937 pq_938 (show vwCl[11]? = some (yX11_view.cls, TX11, 10) from rfl) hg5 (pd_okm (by omega) (by decide) pq_935 pq_936 (by decide) (show (parseMethodDescriptor yX11_view.desc).map (fun d => d.parameters.length) = some 2 from by decide +kernel)) (Nat.le_of_ble_eq_true rfl) rfl ?_
              refine pd_aload_n (i := 0) dL_isRanked_84 rfl rfl ?_
              refine pd_iload (i := 4) dL_isRanked_85 rfl ?_
              refine pd_bipush dL_isRanked_87 (by decide) ?_
              obtain ⟨r16, F15, hr, hf⟩ := pd_ob2 hf
              refine pd_callV (pkX11_view l hr) dL_isRanked_89 pq_934 pq_937 pq_938 (show vwCl[11]? = some (yX11_view.cls, TX11, 10) from rfl) hg5 (pd_okm (by omega) (by decide) pq_935 pq_936 (by decide) (show (parseMethodDescriptor yX11_view.desc).map (fun d => d.parameters.length) = some 2 from by decide +kernel)) (Nat.le_of_ble_eq_true rfl) rfl ?_
              refine pd_lcmp_ne (tgt := 105) dL_isRanked_92 dL_isRanked_93 (by decide) (fun hc => ?_) (fun hc => ?_)
              · have hf := pd_ip hf hc
                exact pd_weak (L' := [pd_R x0, pd_I x1, pd_I x2_39, pd_I x3, pd_N, pd_N]) ⟨Or.inr rfl, Or.inr rfl, Or.inr rfl, Or.inr rfl, Or.inl rfl, Or.inl rfl, trivial⟩ (pkL_isRanked_b105 E l ih _ _ _ _ _ hf)
              · have hf := pd_iq hf hc
                refine pd_iload (i := 5) dL_isRanked_96 rfl ?_
                refine pd_iload (i := 4) dL_isRanked_98 rfl ?_
                refine pd_icmp_le (tgt := 105) dL_isRanked_100 (by decide) (fun hc => ?_) (fun hc => ?_)
                · have hf := pd_ip hf hc
                  exact pd_weak (L' := [pd_R x0, pd_I x1, pd_I x2_39, pd_I x3, pd_N, pd_N]) ⟨Or.inr rfl, Or.inr rfl, Or.inr rfl, Or.inr rfl, Or.inl rfl, Or.inl rfl, trivial⟩ (pkL_isRanked_b105 E l ih _ _ _ _ _ hf)
                · have hf := pd_in_ hf hc
                  refine pd_iconst dL_isRanked_103 (by decide) ?_
                  obtain ⟨h1, h2⟩ := pd_inj hf
                  subst h1 h2
                  exact pd_zret dL_isRanked_104 rfl (by decide) (Nat.le_refl 0) (Nat.le_refl 0)
          · have hf := pd_iq hf hc
            refine pd_goto (tgt := 105) dL_isRanked_44 (by decide) ?_
            exact pd_weak (L' := [pd_R x0, pd_I x1, pd_I x2_39, pd_I x3, pd_N, pd_N]) ⟨Or.inr rfl, Or.inr rfl, Or.inr rfl, Or.inr rfl, Or.inl rfl, Or.inr rfl, trivial⟩ (pkL_isRanked_b105 E l ih _ _ _ _ _ hf)
        · have hf := pd_iq hf hc
          refine pd_iconst dL_isRanked_31 (by decide) ?_
          obtain ⟨h1, h2⟩ := pd_inj hf
          subst h1 h2
          exact pd_zret dL_isRanked_32 rfl (by decide) (Nat.le_refl 0) (Nat.le_refl 0)
set_option maxHeartbeats 4000000 in
set_option maxRecDepth 100000 in
theorem pkL_isRanked (l : Launch) {al : Bool} {sh : pd_S} {n : Nat} {F : pd_F} {x0 : Int} {x1 : Int} {ρ : Int} {Fz : pd_F} (hf : pfL_isRanked sh n F x0 x1 = some (ρ, Fz)) : pd_C l yL_isRanked (Cond.code yL_isRanked cL_isRanked 6 (some .boolean) :: pd_gt) (pd_rm 6 0 0) al 0 0 sh F [pd_R x0, pd_I x1] (some (pd_I ρ)) sh Fz := by
  unfold pfL_isRanked at hf
  refine pd_body (L := [pd_R x0, pd_I x1, pd_N, pd_N, pd_N, pd_N]) (by decide +kernel) (Nat.le_of_ble_eq_true rfl) rfl (fun E => ?_)
  refine pd_iconst dL_isRanked_0 (by decide) ?_
  refine pd_istore_n (L' := [pd_R x0, pd_I x1, pd_I 0, pd_N, pd_N, pd_N]) dL_isRanked_1 rfl (by decide) rfl ?_
  refine pd_iconst dL_isRanked_2 (by decide) ?_
  refine pd_istore_n (L' := [pd_R x0, pd_I x1, pd_I 0, pd_I 0, pd_N, pd_N]) dL_isRanked_3 rfl (by decide) rfl ?_
  exact pd_weak (L' := [pd_R x0, pd_I x1, pd_I 0, pd_I 0, pd_N, pd_N]) ⟨Or.inr rfl, Or.inr rfl, Or.inr rfl, Or.inr rfl, Or.inr rfl, Or.inr rfl, trivial⟩ (pkL_isRanked_b4 E l n _ _ _ _ _ hf)
