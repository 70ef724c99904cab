theorem dX11_share_0 : decode cX11_share 0 = .ok (.aload_n 0, 1) := by decide +kernel
theorem dX11_share_1 : decode cX11_share 1 = .ok (.iload_n 1, 1) := by decide +kernel
theorem dX11_share_2 : decode cX11_share 2 = .ok (.invokevirtual 147, 3) := by decide +kernel
theorem dX11_share_5 : decode cX11_share 5 = .ok (.ifCond .eq 11, 3) := by decide +kernel
theorem dX11_share_8 : decode cX11_share 8 = .ok (.aload_n 0, 1) := by decide +kernel
theorem dX11_share_9 : decode cX11_share 9 = .ok (.iload_n 2, 1) := by decide +kernel
theorem dX11_share_10 : decode cX11_share 10 = .ok (.invokevirtual 94, 3) := by decide +kernel
theorem dX11_share_13 : decode cX11_share 13 = .ok (.ifCond .ne 13, 3) := by decide +kernel
theorem dX11_share_16 : decode cX11_share 16 = .ok (.new 160, 3) := by decide +kernel
theorem dX11_share_19 : decode cX11_share 19 = .ok (.dup, 1) := by decide +kernel
theorem dX11_share_20 : decode cX11_share 20 = .ok (.ldc 162, 2) := by decide +kernel
theorem dX11_share_22 : decode cX11_share 22 = .ok (.invokespecial 164, 3) := by decide +kernel
theorem dX11_share_25 : decode cX11_share 25 = .ok (.athrow, 1) := by decide +kernel
theorem dX11_share_26 : decode cX11_share 26 = .ok (.aload_n 0, 1) := by decide +kernel
theorem dX11_share_27 : decode cX11_share 27 = .ok (.getfield 31, 3) := by decide +kernel
theorem dX11_share_30 : decode cX11_share 30 = .ok (.getfield 167, 3) := by decide +kernel
theorem dX11_share_33 : decode cX11_share 33 = .ok (.iload_n 1, 1) := by decide +kernel
theorem dX11_share_34 : decode cX11_share 34 = .ok (.aaload, 1) := by decide +kernel
theorem dX11_share_35 : decode cX11_share 35 = .ok (.iload_n 2, 1) := by decide +kernel
theorem dX11_share_36 : decode cX11_share 36 = .ok (.iaload, 1) := by decide +kernel
theorem dX11_share_37 : decode cX11_share 37 = .ok (.ireturn, 1) := by decide +kernel
theorem dX11_markless_0 : decode cX11_markless 0 = .ok (.aload_n 0, 1) := by decide +kernel
theorem dX11_markless_1 : decode cX11_markless 1 = .ok (.getfield 58, 3) := by decide +kernel
theorem dX11_markless_4 : decode cX11_markless 4 = .ok (.iload_n 1, 1) := by decide +kernel
theorem dX11_markless_5 : decode cX11_markless 5 = .ok (.invokevirtual 302, 3) := by decide +kernel
theorem dX11_markless_8 : decode cX11_markless 8 = .ok (.istore_n 2, 1) := by decide +kernel
theorem dX11_markless_9 : decode cX11_markless 9 = .ok (.iload_n 2, 1) := by decide +kernel
theorem dX11_markless_10 : decode cX11_markless 10 = .ok (.iconst (-1), 1) := by decide +kernel
theorem dX11_markless_11 : decode cX11_markless 11 = .ok (.if_icmp .ne 14, 3) := by decide +kernel
theorem dX11_markless_14 : decode cX11_markless 14 = .ok (.new 160, 3) := by decide +kernel
theorem dX11_markless_17 : decode cX11_markless 17 = .ok (.dup, 1) := by decide +kernel
theorem dX11_markless_18 : decode cX11_markless 18 = .ok (.ldc_w 305, 3) := by decide +kernel
theorem dX11_markless_21 : decode cX11_markless 21 = .ok (.invokespecial 164, 3) := by decide +kernel
theorem dX11_markless_24 : decode cX11_markless 24 = .ok (.athrow, 1) := by decide +kernel
theorem dX11_markless_25 : decode cX11_markless 25 = .ok (.aload_n 0, 1) := by decide +kernel
theorem dX11_markless_26 : decode cX11_markless 26 = .ok (.getfield 49, 3) := by decide +kernel
theorem dX11_markless_29 : decode cX11_markless 29 = .ok (.aload_n 0, 1) := by decide +kernel
theorem dX11_markless_30 : decode cX11_markless 30 = .ok (.getfield 38, 3) := by decide +kernel
theorem dX11_markless_33 : decode cX11_markless 33 = .ok (.invokevirtual 255, 3) := by decide +kernel
theorem dX11_markless_36 : decode cX11_markless 36 = .ok (.aload_n 0, 1) := by decide +kernel
theorem dX11_markless_37 : decode cX11_markless 37 = .ok (.getfield 49, 3) := by decide +kernel
theorem dX11_markless_40 : decode cX11_markless 40 = .ok (.iload_n 2, 1) := by decide +kernel
theorem dX11_markless_41 : decode cX11_markless 41 = .ok (.aload_n 0, 1) := by decide +kernel
theorem dX11_markless_42 : decode cX11_markless 42 = .ok (.getfield 38, 3) := by decide +kernel
theorem dX11_markless_45 : decode cX11_markless 45 = .ok (.iload_n 2, 1) := by decide +kernel
theorem dX11_markless_46 : decode cX11_markless 46 = .ok (.invokevirtual 307, 3) := by decide +kernel
theorem dX11_markless_49 : decode cX11_markless 49 = .ok (.ifCond .ne 7, 3) := by decide +kernel
theorem dX11_markless_52 : decode cX11_markless 52 = .ok (.iconst 1, 1) := by decide +kernel
theorem dX11_markless_53 : decode cX11_markless 53 = .ok (.goto 4, 3) := by decide +kernel
theorem dX11_markless_56 : decode cX11_markless 56 = .ok (.iconst 0, 1) := by decide +kernel
theorem dX11_markless_57 : decode cX11_markless 57 = .ok (.invokevirtual 310, 3) := by decide +kernel
theorem dX11_markless_60 : decode cX11_markless 60 = .ok (.aload_n 0, 1) := by decide +kernel
theorem dX11_markless_61 : decode cX11_markless 61 = .ok (.invokevirtual 314, 3) := by decide +kernel
theorem dX11_markless_64 : decode cX11_markless 64 = .ok (.lreturn, 1) := by decide +kernel
theorem dX11_joining_0 : decode cX11_joining 0 = .ok (.aload_n 0, 1) := by decide +kernel
theorem dX11_joining_1 : decode cX11_joining 1 = .ok (.iload_n 1, 1) := by decide +kernel
theorem dX11_joining_2 : decode cX11_joining 2 = .ok (.iload_n 2, 1) := by decide +kernel
theorem dX11_joining_3 : decode cX11_joining 3 = .ok (.invokevirtual 317, 3) := by decide +kernel
theorem dX11_joining_6 : decode cX11_joining 6 = .ok (.ifCond .ne 14, 3) := by decide +kernel
theorem dX11_joining_9 : decode cX11_joining 9 = .ok (.new 160, 3) := by decide +kernel
theorem dX11_joining_12 : decode cX11_joining 12 = .ok (.dup, 1) := by decide +kernel
theorem dX11_joining_13 : decode cX11_joining 13 = .ok (.ldc_w 321, 3) := by decide +kernel
theorem dX11_joining_16 : decode cX11_joining 16 = .ok (.invokespecial 164, 3) := by decide +kernel
theorem dX11_joining_19 : decode cX11_joining 19 = .ok (.athrow, 1) := by decide +kernel
theorem dX11_joining_20 : decode cX11_joining 20 = .ok (.aload_n 0, 1) := by decide +kernel
theorem dX11_joining_21 : decode cX11_joining 21 = .ok (.getfield 49, 3) := by decide +kernel
theorem dX11_joining_24 : decode cX11_joining 24 = .ok (.aload_n 0, 1) := by decide +kernel
theorem dX11_joining_25 : decode cX11_joining 25 = .ok (.getfield 38, 3) := by decide +kernel
theorem dX11_joining_28 : decode cX11_joining 28 = .ok (.invokevirtual 255, 3) := by decide +kernel
theorem dX11_joining_31 : decode cX11_joining 31 = .ok (.aload_n 0, 1) := by decide +kernel
theorem dX11_joining_32 : decode cX11_joining 32 = .ok (.getfield 49, 3) := by decide +kernel
theorem dX11_joining_35 : decode cX11_joining 35 = .ok (.iload_n 1, 1) := by decide +kernel
theorem dX11_joining_36 : decode cX11_joining 36 = .ok (.iload_n 2, 1) := by decide +kernel
theorem dX11_joining_37 : decode cX11_joining 37 = .ok (.invokevirtual 323, 3) := by decide +kernel
theorem dX11_joining_40 : decode cX11_joining 40 = .ok (.aload_n 0, 1) := by decide +kernel
theorem dX11_joining_41 : decode cX11_joining 41 = .ok (.invokevirtual 314, 3) := by decide +kernel
theorem dX11_joining_44 : decode cX11_joining 44 = .ok (.lreturn, 1) := by decide +kernel
theorem dL_share_0 : decode cL_share 0 = .ok (.aload_n 3, 1) := by decide +kernel
theorem dL_share_1 : decode cL_share 1 = .ok (.iconst 0, 1) := by decide +kernel
theorem dL_share_2 : decode cL_share 2 = .ok (.aload_n 0, 1) := by decide +kernel
theorem dL_share_3 : decode cL_share 3 = .ok (.iload_n 1, 1) := by decide +kernel
theorem dL_share_4 : decode cL_share 4 = .ok (.iload_n 2, 1) := by decide +kernel
theorem dL_share_5 : decode cL_share 5 = .ok (.invokevirtual 7, 3) := by decide +kernel
theorem dL_share_8 : decode cL_share 8 = .ok (.i2l, 1) := by decide +kernel
theorem dL_share_9 : decode cL_share 9 = .ok (.lastore, 1) := by decide +kernel
theorem dL_share_10 : decode cL_share 10 = .ok (.goto 7, 3) := by decide +kernel
theorem dL_share_13 : decode cL_share 13 = .ok (.astore 4, 2) := by decide +kernel
theorem dL_share_15 : decode cL_share 15 = .ok (.iconst 1, 1) := by decide +kernel
theorem dL_share_16 : decode cL_share 16 = .ok (.ireturn, 1) := by decide +kernel
theorem dL_share_17 : decode cL_share 17 = .ok (.iconst 0, 1) := by decide +kernel
theorem dL_share_18 : decode cL_share 18 = .ok (.ireturn, 1) := by decide +kernel
theorem dL_markless_0 : decode cL_markless 0 = .ok (.aload_n 2, 1) := by decide +kernel
theorem dL_markless_1 : decode cL_markless 1 = .ok (.iconst 0, 1) := by decide +kernel
theorem dL_markless_2 : decode cL_markless 2 = .ok (.aload_n 0, 1) := by decide +kernel
theorem dL_markless_3 : decode cL_markless 3 = .ok (.iload_n 1, 1) := by decide +kernel
theorem dL_markless_4 : decode cL_markless 4 = .ok (.invokevirtual 15, 3) := by decide +kernel
theorem dL_markless_7 : decode cL_markless 7 = .ok (.lastore, 1) := by decide +kernel
theorem dL_markless_8 : decode cL_markless 8 = .ok (.goto 6, 3) := by decide +kernel
theorem dL_markless_11 : decode cL_markless 11 = .ok (.astore_n 3, 1) := by decide +kernel
theorem dL_markless_12 : decode cL_markless 12 = .ok (.iconst 1, 1) := by decide +kernel
theorem dL_markless_13 : decode cL_markless 13 = .ok (.ireturn, 1) := by decide +kernel
theorem dL_markless_14 : decode cL_markless 14 = .ok (.iconst 0, 1) := by decide +kernel
theorem dL_markless_15 : decode cL_markless 15 = .ok (.ireturn, 1) := by decide +kernel
theorem dL_joining_0 : decode cL_joining 0 = .ok (.aload_n 3, 1) := by decide +kernel
theorem dL_joining_1 : decode cL_joining 1 = .ok (.iconst 0, 1) := by decide +kernel
theorem dL_joining_2 : decode cL_joining 2 = .ok (.aload_n 0, 1) := by decide +kernel
theorem dL_joining_3 : decode cL_joining 3 = .ok (.iload_n 1, 1) := by decide +kernel
theorem dL_joining_4 : decode cL_joining 4 = .ok (.iload_n 2, 1) := by decide +kernel
theorem dL_joining_5 : decode cL_joining 5 = .ok (.invokevirtual 19, 3) := by decide +kernel
theorem dL_joining_8 : decode cL_joining 8 = .ok (.lastore, 1) := by decide +kernel
theorem dL_joining_9 : decode cL_joining 9 = .ok (.goto 7, 3) := by decide +kernel
theorem dL_joining_12 : decode cL_joining 12 = .ok (.astore 4, 2) := by decide +kernel
theorem dL_joining_14 : decode cL_joining 14 = .ok (.iconst 1, 1) := by decide +kernel
theorem dL_joining_15 : decode cL_joining 15 = .ok (.ireturn, 1) := by decide +kernel
theorem dL_joining_16 : decode cL_joining 16 = .ok (.iconst 0, 1) := by decide +kernel
theorem dL_joining_17 : decode cL_joining 17 = .ok (.ireturn, 1) := by decide +kernel
theorem pq_1197 : Cond.classLink RX11 160 "java/util/NoSuchElementException" ∈ pd_gt := pd_in 1096 (by decide +kernel) (by decide +kernel)
theorem pq_1198 : Cond.initialized "java/util/NoSuchElementException" ∈ pd_gt := pd_in 121 (by decide +kernel) (by decide +kernel)
theorem pq_1199 : Cond.fieldLinkNest RX11 167 "PayoutDesk$Shares" "ofAccount" "[[I" "PayoutDesk" ∈ pd_gt := pd_in 454 (by decide +kernel) (by decide +kernel)
theorem pq_1200 : Cond.methodLink RX11 314 yX11_gainOfTrial ∈ pd_gt := pd_in 1170 (by decide +kernel) (by decide +kernel)
theorem pq_1201 : Cond.code yX11_gainOfTrial cX11_gainOfTrial 1 (some .long) ∈ pd_gt := pd_in 1173 (by decide +kernel) (by decide +kernel)
theorem pq_1202 : Cond.initialized yX11_gainOfTrial.cls ∈ pd_gt := pd_in 99 (by decide +kernel) (by decide +kernel)
theorem pq_1203 : Cond.instanceMethod yX11_gainOfTrial ∈ pd_gt := pd_in 1172 (by decide +kernel) (by decide +kernel)
theorem pq_1204 : Cond.selects yX11_gainOfTrial.cls yX11_gainOfTrial yX11_gainOfTrial ∈ pd_gt := pd_in 38 (by decide +kernel) (by decide +kernel)
theorem pq_1205 : Cond.methodLink RX11 307 yX8_isLeftOut ∈ pd_gt := pd_in 1169 (by decide +kernel) (by decide +kernel)
theorem pq_1206 : Cond.methodLink RL 7 yX11_share ∈ pd_gt := pd_in 1092 (by decide +kernel) (by decide +kernel)
theorem pq_1207 : Cond.instanceMethod yX11_share ∈ pd_gt := pd_in 1093 (by decide +kernel) (by decide +kernel)
theorem pq_1208 : Cond.selects yX11_share.cls yX11_share yX11_share ∈ pd_gt := pd_in 1094 (by decide +kernel) (by decide +kernel)
theorem pq_1209 : Cond.code yX11_share cX11_share 3 (some .int) ∈ pd_gt := pd_in 1095 (by decide +kernel) (by decide +kernel)
theorem pq_1210 : Cond.initialized yX11_share.cls ∈ pd_gt := pd_in 99 (by decide +kernel) (by decide +kernel)
theorem pq_1211 : Cond.classLink RL 13 "java/util/NoSuchElementException" ∈ pd_gt := pd_in 1091 (by decide +kernel) (by decide +kernel)
theorem pq_1212 : Cond.castable pd_nse pd_nse ∈ pd_gt := pd_in 1098 (by decide +kernel) (by decide +kernel)
theorem pq_1213 : Cond.methodLink RL 15 yX11_markless ∈ pd_gt := pd_in 1164 (by decide +kernel) (by decide +kernel)
theorem pq_1214 : Cond.instanceMethod yX11_markless ∈ pd_gt := pd_in 1165 (by decide +kernel) (by decide +kernel)
theorem pq_1215 : Cond.selects yX11_markless.cls yX11_markless yX11_markless ∈ pd_gt := pd_in 1166 (by decide +kernel) (by decide +kernel)
theorem pq_1216 : Cond.code yX11_markless cX11_markless 3 (some .long) ∈ pd_gt := pd_in 1167 (by decide +kernel) (by decide +kernel)
theorem pq_1217 : Cond.initialized yX11_markless.cls ∈ pd_gt := pd_in 99 (by decide +kernel) (by decide +kernel)
theorem pq_1218 : Cond.methodLink RL 19 yX11_joining ∈ pd_gt := pd_in 1177 (by decide +kernel) (by decide +kernel)
theorem pq_1219 : Cond.instanceMethod yX11_joining ∈ pd_gt := pd_in 1178 (by decide +kernel) (by decide +kernel)
theorem pq_1220 : Cond.selects yX11_joining.cls yX11_joining yX11_joining ∈ pd_gt := pd_in 1179 (by decide +kernel) (by decide +kernel)
theorem pq_1221 : Cond.code yX11_joining cX11_joining 3 (some .long) ∈ pd_gt := pd_in 1180 (by decide +kernel) (by decide +kernel)
theorem pq_1222 : Cond.initialized yX11_joining.cls ∈ pd_gt := pd_in 99 (by decide +kernel) (by decide +kernel)
def pd_rg : List Cond := (lw_tbl.drop 118).take 4 ++ (lw_tbl.drop 1091).take 70 ++ (lw_tbl.drop 1784).take 1 ++ (lw_tbl.drop 1798).take 2 ++ (lw_tbl.drop 37).take 1
theorem pd_rg_in : ∀ w ∈ pd_rg, w ∈ lw_tbl := by
  intro w hw
  unfold pd_rg at hw
  simp only [List.mem_append] at hw
  rcases hw with ((((hw | hw) | hw) | hw) | hw) <;> exact List.mem_of_mem_drop (List.mem_of_mem_take hw)

theorem pd_hat : ∀ w ∈ pd_xat "PayoutDesk" 164, w ∈ pd_gt := by
  have h : (pd_xat "PayoutDesk" 164).all (fun w => lw_tbl.contains w && pd_gw w) = true := by decide +kernel
  intro w hw
  have h1 := List.all_eq_true.mp h w hw
  rw [Bool.and_eq_true] at h1
  exact List.mem_filter.mpr ⟨List.contains_iff_mem.mp h1.1, h1.2⟩

theorem pd_hgd : ∀ w ∈ Cond.classLink RX11 160 pd_nse :: Cond.initialized pd_nse :: pd_xat RX11 164, vx_ot w = true := by decide +kernel
def pfX11_share_b16 (sh : pd_S) (n : Nat)  (F : pd_F) : Option (Option Int × pd_F) :=
  some (none, F)
def pfX11_share (sh : pd_S) (n : Nat) (F : pd_F) (x0 : Int) (x1 : Int) (x2 : Int) : Option (Option Int × pd_F) :=
  pd_i (pd_ob sh 11 x0 = true) <|
  Option.bind (pfX11_isAccount sh n F x0 x1) fun qr2 => pd_l qr2.1 fun r2 => pd_l qr2.2 fun F1 =>
  if r2 = 0 then
    pfX11_share_b16 sh n F1
  else
    Option.bind (pfX11_isPerson sh n F1 x0 x2) fun qr5 => pd_l qr5.1 fun r5 => pd_l qr5.2 fun F4 =>
    if r5 ≠ 0 then
      pd_i (pd_ob sh 7 (F4 x0 3) = true) <|
      pd_i (pd_ib sh 3 0 (F4 (F4 x0 3) 0) x1 = true) <|
      pd_i (pd_ib sh 0 0 (F4 (F4 (F4 x0 3) 0) x1) x2 = true) <|
      some (F4 (F4 (F4 (F4 x0 3) 0) x1) x2, F4)
    else
      pfX11_share_b16 sh n F4
def pfX11_markless_b57 (sh : pd_S) (n : Nat)  (F : pd_F) (x0 : Int) (t0 : Int) (t1 : Int) (t2 : Int) : Option (Option Int × pd_F) :=
  pd_i (pd_ob sh 8 t2 = true) <|
  Option.bind (pfX8_leaveOut sh n F t2 t1 t0) fun F1 =>
  pd_i (pd_ob sh 11 x0 = true) <|
  Option.bind (pfX11_gainOfTrial sh n F1 x0) fun qr4 => pd_l qr4.1 fun r4 => pd_l qr4.2 fun F3 =>
  some (some (r4), F3)
def pfX11_markless (sh : pd_S) (n : Nat) (F : pd_F) (x0 : Int) (x1 : Int) : Option (Option Int × pd_F) :=
  pd_i (pd_ob sh 11 x0 = true) <|
  pd_i (pd_ob sh 0 (F x0 8) = true) <|
  Option.bind (pfX0_indexOfMark sh n F (F x0 8) x1) fun qr8 => pd_l qr8.1 fun r8 => pd_l qr8.2 fun F7 =>
  if r8 ≠ (-1) then
    pd_i (pd_ob sh 8 (F7 x0 6) = true) <|
    Option.bind (pfX8_copyFrom sh n F7 (F7 x0 6) (F7 x0 4)) fun F10 =>
    pd_i (pd_ob sh 8 (F10 x0 4) = true) <|
    Option.bind (pfX8_isLeftOut sh n F10 (F10 x0 4) r8) fun qr13 => pd_l qr13.1 fun r13 => pd_l qr13.2 fun F12 =>
    if r13 ≠ 0 then
      pfX11_markless_b57 sh n F12 x0 0 r8 (F10 x0 6)
    else
      pfX11_markless_b57 sh n F12 x0 1 r8 (F10 x0 6)
  else
    some (none, F7)
def pfX11_joining (sh : pd_S) (n : Nat) (F : pd_F) (x0 : Int) (x1 : Int) (x2 : Int) : Option (Option Int × pd_F) :=
  pd_i (pd_ob sh 11 x0 = true) <|
  Option.bind (pfX11_areTwo sh n F x0 x1 x2) fun qr2 => pd_l qr2.1 fun r2 => pd_l qr2.2 fun F1 =>
  if r2 ≠ 0 then
    pd_i (pd_ob sh 8 (F1 x0 6) = true) <|
    Option.bind (pfX8_copyFrom sh n F1 (F1 x0 6) (F1 x0 4)) fun F4 =>
    pd_i (pd_ob sh 8 (F4 x0 6) = true) <|
    Option.bind (pfX8_addJoin sh n F4 (F4 x0 6) x1 x2) fun F6 =>
    Option.bind (pfX11_gainOfTrial sh n F6 x0) fun qr9 => pd_l qr9.1 fun r9 => pd_l qr9.2 fun F8 =>
    some (some (r9), F8)
  else
    some (none, F1)
def pfL_share (sh : pd_S) (n : Nat) (F : pd_F) (x0 x1 x2 x3 : Int) : Option (Int × pd_F) :=
  pd_i (pd_ob sh 11 x0 = true) <|
  Option.bind (pfX11_share sh n F x0 x1 x2) fun q =>
  match q.1 with
  | some r => pd_i (pd_ib sh 1 0 x3 0 = true) <| some (0, pd_up q.2 x3 0 r)
  | none => some (1, q.2)
def pfL_markless (sh : pd_S) (n : Nat) (F : pd_F) (x0 x1 x2 : Int) : Option (Int × pd_F) :=
  pd_i (pd_ob sh 11 x0 = true) <|
  Option.bind (pfX11_markless sh n F x0 x1) fun q =>
  match q.1 with
  | some r => pd_i (pd_ib sh 1 0 x2 0 = true) <| some (0, pd_up q.2 x2 0 r)
  | none => some (1, q.2)
def pfL_joining (sh : pd_S) (n : Nat) (F : pd_F) (x0 x1 x2 x3 : Int) : Option (Int × pd_F) :=
  pd_i (pd_ob sh 11 x0 = true) <|
  Option.bind (pfX11_joining sh n F x0 x1 x2) fun q =>
  match q.1 with
  | some r => pd_i (pd_ib sh 1 0 x3 0 = true) <| some (0, pd_up q.2 x3 0 r)
  | none => some (1, q.2)
set_option maxHeartbeats 4000000 in
set_option maxRecDepth 100000 in
theorem pkX11_share_b16 (E : pd_E) (l : Launch) (hlt : l.stackTraces = false) {sh : pd_S} {n : Nat} {ρ : Option Int} {Fz : pd_F}  (F : pd_F) (hf : pfX11_share_b16 sh n  F  = some (ρ, Fz)) : pd_V E l (pd_rm 8 1 6) (RX11, cX11_share, 3, (some .int), "share") (pd_Qx E (ρ.map pd_I) sh Fz 1 6) false 0 0 sh F 16 [pd_N, pd_N, pd_N] [] := by
  unfold pfX11_share_b16 at hf
  obtain ⟨h1, h2⟩ := pd_inj hf
  subst h1 h2
  exact pd_thrS (own := RX11) (k0 := 0) hlt pq_1197 pq_1198 rfl pd_hat pd_hgd dX11_share_16 dX11_share_19 dX11_share_20 dX11_share_22 dX11_share_25 (by decide +kernel) ⟨by show 6 ≤ 8; omega, by show 200 ≤ 64 * 8; omega, by show _ ≤ 1; omega, by show _ ≤ 6; omega⟩ (Nat.le_of_ble_eq_true rfl) (by omega) (by omega)
set_option maxHeartbeats 4000000 in
set_option maxRecDepth 100000 in
theorem pkX11_share (l : Launch) (hlt : l.stackTraces = false) {sh : pd_S} {n : Nat} {F : pd_F} {x0 : Int} {x1 : Int} {x2 : Int} {ρ : Option Int} {Fz : pd_F} (hf : pfX11_share sh n F x0 x1 x2 = some (ρ, Fz)) : pd_CX l yX11_share (Cond.code yX11_share cX11_share 3 (some .int) :: pd_gt) (pd_rm 8 1 6) 1 6 sh F [pd_R x0, pd_I x1, pd_I x2] (ρ.map pd_I) sh Fz := by
  unfold pfX11_share at hf
  refine pd_bodyX (L := [pd_R x0, pd_I x1, pd_I x2]) (by decide +kernel) (Nat.le_of_ble_eq_true rfl) rfl (fun E => ?_)
  refine pd_aload_n (i := 0) dX11_share_0 rfl rfl ?_
  refine pd_iload_n (i := 1) dX11_share_1 rfl rfl ?_
  obtain ⟨hg3, hf⟩ := pd_ig hf
  obtain ⟨r2, F1, hr, hf⟩ := pd_ob2 hf
  refine pd_callV (pkX11_isAccount l hr) dX11_share_2 pq_520 pq_523 pq_524 (show vwCl[11]? = some (yX11_isAccount.cls, TX11, 10) from rfl) hg3 (pd_okA (by omega) (by decide) (by omega) (by omega) pq_521 pq_522 (by decide) (show (parseMethodDescriptor yX11_isAccount.desc).map (fun d => d.parameters.length) = some 1 from by decide +kernel)) (Nat.le_of_ble_eq_true rfl) rfl ?_
  refine pd_if_eq (tgt := 16) dX11_share_5 (by decide) (fun hc => ?_) (fun hc => ?_)
  · have hf := pd_ip hf hc
    exact pd_weak (L' := [pd_N, pd_N, pd_N]) ⟨Or.inl rfl, Or.inl rfl, Or.inl rfl, trivial⟩ (pkX11_share_b16 E l hlt _ hf)
  · have hf := pd_in_ hf hc
    refine pd_aload_n (i := 0) dX11_share_8 rfl rfl ?_
    refine pd_iload_n (i := 2) dX11_share_9 rfl rfl ?_
    obtain ⟨r5, F4, hr, hf⟩ := pd_ob2 hf
    refine pd_callV (pkX11_isPerson l hr) dX11_share_10 pq_509 pq_512 pq_513 (show vwCl[11]? = some (yX11_isPerson.cls, TX11, 10) from rfl) hg3 (pd_okA (by omega) (by decide) (by omega) (by omega) pq_510 pq_511 (by decide) (show (parseMethodDescriptor yX11_isPerson.desc).map (fun d => d.parameters.length) = some 1 from by decide +kernel)) (Nat.le_of_ble_eq_true rfl) rfl ?_
    refine pd_if_ne (tgt := 26) dX11_share_13 (by decide) (fun hc => ?_) (fun hc => ?_)
    · have hf := pd_ip hf hc
      refine pd_aload_n (i := 0) dX11_share_26 rfl rfl ?_
      refine pd_get (x := pd_R (F4 x0 3)) 3 dX11_share_27 (show vwCl[11]? = some (RX11, TX11, 10) from rfl) pin_11 (by decide) pq_555 hg3 rfl ?_
      obtain ⟨hg6, hf⟩ := pd_ig hf
      refine pd_getN (x := pd_R (F4 (F4 x0 3) 0)) 0 dX11_share_30 (show vwCl[7]? = some (RX7, TX7, 2) from rfl) pin_7 (by decide) pq_1199 hg6 rfl ?_
      refine pd_iload_n (i := 1) dX11_share_33 rfl rfl ?_
      obtain ⟨hg7, hf⟩ := pd_ig hf
      refine pd_aalI dX11_share_34 hg7 ?_
      refine pd_iload_n (i := 2) dX11_share_35 rfl rfl ?_
      obtain ⟨hg8, hf⟩ := pd_ig hf
      refine pd_iald dX11_share_36 hg8 ?_
      obtain ⟨h1, h2⟩ := pd_inj hf
      subst h1 h2
      exact pd_toX (pd_iret dX11_share_37 rfl (by omega) (by omega))
    · have hf := pd_iq hf hc
      exact pd_weak (L' := [pd_N, pd_N, pd_N]) ⟨Or.inl rfl, Or.inl rfl, Or.inl rfl, trivial⟩ (pkX11_share_b16 E l hlt _ hf)
set_option maxHeartbeats 4000000 in
set_option maxRecDepth 100000 in
theorem pkX11_markless_b57 (E : pd_E) (l : Launch) (hlt : l.stackTraces = false) {sh : pd_S} {n : Nat} {ρ : Option Int} {Fz : pd_F}  (F : pd_F) (x0 : Int) (t0 : Int) (t1 : Int) (t2 : Int) (hf : pfX11_markless_b57 sh n  F x0 t0 t1 t2 = some (ρ, Fz)) : pd_V E l (pd_rm 8 1 6) (RX11, cX11_markless, 3, (some .long), "markless") (pd_Qx E (ρ.map pd_J) sh Fz 1 6) false 0 0 sh F 57 [pd_R x0, pd_N, pd_N] [pd_I t0, pd_I t1, pd_R t2] := by
  unfold pfX11_markless_b57 at hf
  obtain ⟨hg2, hf⟩ := pd_ig hf
  obtain ⟨F1, hr, hf⟩ := pd_ob1 hf
  refine pd_callV (pkX8_leaveOut l hr) dX11_markless_57 pq_684 pq_687 pq_688 (show vwCl[8]? = some (yX8_leaveOut.cls, TX8, 6) from rfl) hg2 (pd_okA (by omega) (by decide) (by omega) (by omega) pq_685 pq_686 (by decide) (show (parseMethodDescriptor yX8_leaveOut.desc).map (fun d => d.parameters.length) = some 2 from by decide +kernel)) (Nat.le_of_ble_eq_true rfl) rfl ?_
  refine pd_aload_n (i := 0) dX11_markless_60 rfl rfl ?_
  obtain ⟨hg5, hf⟩ := pd_ig hf
  obtain ⟨r4, F3, hr, hf⟩ := pd_ob2 hf
  refine pd_callV (pkX11_gainOfTrial l hr) dX11_markless_61 pq_1200 pq_1203 pq_1204 (show vwCl[11]? = some (yX11_gainOfTrial.cls, TX11, 10) from rfl) hg5 (pd_okA (by omega) (by decide) (by omega) (by omega) pq_1201 pq_1202 (by decide) (show (parseMethodDescriptor yX11_gainOfTrial.desc).map (fun d => d.parameters.length) = some 0 from by decide +kernel)) (Nat.le_of_ble_eq_true rfl) rfl ?_
  obtain ⟨h1, h2⟩ := pd_inj hf
  subst h1 h2
  exact pd_toX (pd_lret dX11_markless_64 rfl (by omega) (by omega))
set_option maxHeartbeats 4000000 in
set_option maxRecDepth 100000 in
theorem pkX11_markless (l : Launch) (hlt : l.stackTraces = false) {sh : pd_S} {n : Nat} {F : pd_F} {x0 : Int} {x1 : Int} {ρ : Option Int} {Fz : pd_F} (hf : pfX11_markless sh n F x0 x1 = some (ρ, Fz)) : pd_CX l yX11_markless (Cond.code yX11_markless cX11_markless 3 (some .long) :: pd_gt) (pd_rm 8 1 6) 1 6 sh F [pd_R x0, pd_I x1] (ρ.map pd_J) sh Fz := by
  unfold pfX11_markless at hf
  refine pd_bodyX (L := [pd_R x0, pd_I x1, pd_N]) (by decide +kernel) (Nat.le_of_ble_eq_true rfl) rfl (fun E => ?_)
  refine pd_aload_n (i := 0) dX11_markless_0 rfl rfl ?_
  obtain ⟨hg6, hf⟩ := pd_ig hf
  refine pd_get (x := pd_R (F x0 8)) 8 dX11_markless_1 (show vwCl[11]? = some (RX11, TX11, 10) from rfl) pin_11 (by decide) pq_476 hg6 rfl ?_
  refine pd_iload_n (i := 1) dX11_markless_4 rfl rfl ?_
  obtain ⟨hg9, hf⟩ := pd_ig hf
  obtain ⟨r8, F7, hr, hf⟩ := pd_ob2 hf
  refine pd_callV (pkX0_indexOfMark l hr) dX11_markless_5 pq_683 pq_74 pq_75 (show vwCl[0]? = some (yX0_indexOfMark.cls, TX0, 15) from rfl) hg9 (pd_okA (by omega) (by decide) (by omega) (by omega) pq_72 pq_73 (by decide) (show (parseMethodDescriptor yX0_indexOfMark.desc).map (fun d => d.parameters.length) = some 1 from by decide +kernel)) (Nat.le_of_ble_eq_true rfl) rfl ?_
  refine pd_istore_n (L' := [pd_R x0, pd_I x1, pd_I r8]) dX11_markless_8 rfl (by decide) rfl ?_
  refine pd_iload_n (i := 2) dX11_markless_9 rfl rfl ?_
  refine pd_iconst dX11_markless_10 (by decide) ?_
  refine pd_icmp_ne (tgt := 25) dX11_markless_11 (by decide) (fun hc => ?_) (fun hc => ?_)
  · have hf := pd_ip hf hc
    refine pd_aload_n (i := 0) dX11_markless_25 rfl rfl ?_
    refine pd_get (x := pd_R (F7 x0 6)) 6 dX11_markless_26 (show vwCl[11]? = some (RX11, TX11, 10) from rfl) pin_11 (by decide) pq_553 hg6 rfl ?_
    refine pd_aload_n (i := 0) dX11_markless_29 rfl rfl ?_
    refine pd_get (x := pd_R (F7 x0 4)) 4 dX11_markless_30 (show vwCl[11]? = some (RX11, TX11, 10) from rfl) pin_11 (by decide) pq_487 hg6 rfl ?_
    obtain ⟨hg11, hf⟩ := pd_ig hf
    obtain ⟨F10, hr, hf⟩ := pd_ob1 hf
    refine pd_callV (pkX8_copyFrom l hr) dX11_markless_33 pq_597 pq_104 pq_105 (show vwCl[8]? = some (yX8_copyFrom.cls, TX8, 6) from rfl) hg11 (pd_okA (by omega) (by decide) (by omega) (by omega) pq_102 pq_103 (by decide) (show (parseMethodDescriptor yX8_copyFrom.desc).map (fun d => d.parameters.length) = some 1 from by decide +kernel)) (Nat.le_of_ble_eq_true rfl) rfl ?_
    refine pd_aload_n (i := 0) dX11_markless_36 rfl rfl ?_
    refine pd_get (x := pd_R (F10 x0 6)) 6 dX11_markless_37 (show vwCl[11]? = some (RX11, TX11, 10) from rfl) pin_11 (by decide) pq_553 hg6 rfl ?_
    refine pd_iload_n (i := 2) dX11_markless_40 rfl rfl ?_
    refine pd_aload_n (i := 0) dX11_markless_41 rfl rfl ?_
    refine pd_get (x := pd_R (F10 x0 4)) 4 dX11_markless_42 (show vwCl[11]? = some (RX11, TX11, 10) from rfl) pin_11 (by decide) pq_487 hg6 rfl ?_
    refine pd_iload_n (i := 2) dX11_markless_45 rfl rfl ?_
    obtain ⟨hg14, hf⟩ := pd_ig hf
    obtain ⟨r13, F12, hr, hf⟩ := pd_ob2 hf
    refine pd_callV (pkX8_isLeftOut l hr) dX11_markless_46 pq_1205 pq_374 pq_375 (show vwCl[8]? = some (yX8_isLeftOut.cls, TX8, 6) from rfl) hg14 (pd_okA (by omega) (by decide) (by omega) (by omega) pq_372 pq_373 (by decide) (show (parseMethodDescriptor yX8_isLeftOut.desc).map (fun d => d.parameters.length) = some 1 from by decide +kernel)) (Nat.le_of_ble_eq_true rfl) rfl ?_
    refine pd_if_ne (tgt := 56) dX11_markless_49 (by decide) (fun hc => ?_) (fun hc => ?_)
    · have hf := pd_ip hf hc
      refine pd_iconst dX11_markless_56 (by decide) ?_
      exact pd_weak (L' := [pd_R x0, pd_N, pd_N]) ⟨Or.inr rfl, Or.inl rfl, Or.inl rfl, trivial⟩ (pkX11_markless_b57 E l hlt _ _ _ _ _ hf)
    · have hf := pd_iq hf hc
      refine pd_iconst dX11_markless_52 (by decide) ?_
      refine pd_goto (tgt := 57) dX11_markless_53 (by decide) ?_
      exact pd_weak (L' := [pd_R x0, pd_N, pd_N]) ⟨Or.inr rfl, Or.inl rfl, Or.inl rfl, trivial⟩ (pkX11_markless_b57 E l hlt _ _ _ _ _ hf)
  · have hf := pd_iq hf hc
    obtain ⟨h1, h2⟩ := pd_inj hf
    subst h1 h2
    exact pd_thrSW (own := RX11) (k0 := 1) hlt pq_1197 pq_1198 rfl pd_hat pd_hgd dX11_markless_14 dX11_markless_17 dX11_markless_18 dX11_markless_21 dX11_markless_24 (by decide +kernel) ⟨by show 6 ≤ 8; omega, by show 200 ≤ 64 * 8; omega, by show _ ≤ 1; omega, by show _ ≤ 6; omega⟩ (Nat.le_of_ble_eq_true rfl) (by omega) (by omega)
set_option maxHeartbeats 4000000 in
set_option maxRecDepth 100000 in
theorem pkX11_joining (l : Launch) (hlt : l.stackTraces = false) {sh : pd_S} {n : Nat} {F : pd_F} {x0 : Int} {x1 : Int} {x2 : Int} {ρ : Option Int} {Fz : pd_F} (hf : pfX11_joining sh n F x0 x1 x2 = some (ρ, Fz)) : pd_CX l yX11_joining (Cond.code yX11_joining cX11_joining 3 (some .long) :: pd_gt) (pd_rm 8 1 6) 1 6 sh F [pd_R x0, pd_I x1, pd_I x2] (ρ.map pd_J) sh Fz := by
  unfold pfX11_joining at hf
  refine pd_bodyX (L := [pd_R x0, pd_I x1, pd_I x2]) (by decide +kernel) (Nat.le_of_ble_eq_true rfl) rfl (fun E => ?_)
  refine pd_aload_n (i := 0) dX11_joining_0 rfl rfl ?_
  refine pd_iload_n (i := 1) dX11_joining_1 rfl rfl ?_
  refine pd_iload_n (i := 2) dX11_joining_2 rfl rfl ?_
  obtain ⟨hg3, hf⟩ := pd_ig hf
  obtain ⟨r2, F1, hr, hf⟩ := pd_ob2 hf
  refine pd_callV (pkX11_areTwo l hr) dX11_joining_3 pq_657 pq_660 pq_661 (show vwCl[11]? = some (yX11_areTwo.cls, TX11, 10) from rfl) hg3 (pd_okA (by omega) (by decide) (by omega) (by omega) pq_658 pq_659 (by decide) (show (parseMethodDescriptor yX11_areTwo.desc).map (fun d => d.parameters.length) = some 2 from by decide +kernel)) (Nat.le_of_ble_eq_true rfl) rfl ?_
  refine pd_if_ne (tgt := 20) dX11_joining_6 (by decide) (fun hc => ?_) (fun hc => ?_)
  · have hf := pd_ip hf hc
    refine pd_aload_n (i := 0) dX11_joining_20 rfl rfl ?_
    refine pd_get (x := pd_R (F1 x0 6)) 6 dX11_joining_21 (show vwCl[11]? = some (RX11, TX11, 10) from rfl) pin_11 (by decide) pq_553 hg3 rfl ?_
    refine pd_aload_n (i := 0) dX11_joining_24 rfl rfl ?_
    refine pd_get (x := pd_R (F1 x0 4)) 4 dX11_joining_25 (show vwCl[11]? = some (RX11, TX11, 10) from rfl) pin_11 (by decide) pq_487 hg3 rfl ?_
    obtain ⟨hg5, hf⟩ := pd_ig hf
    obtain ⟨F4, hr, hf⟩ := pd_ob1 hf
    refine pd_callV (pkX8_copyFrom l hr) dX11_joining_28 pq_597 pq_104 pq_105 (show vwCl[8]? = some (yX8_copyFrom.cls, TX8, 6) from rfl) hg5 (pd_okA (by omega) (by decide) (by omega) (by omega) pq_102 pq_103 (by decide) (show (parseMethodDescriptor yX8_copyFrom.desc).map (fun d => d.parameters.length) = some 1 from by decide +kernel)) (Nat.le_of_ble_eq_true rfl) rfl ?_
    refine pd_aload_n (i := 0) dX11_joining_31 rfl rfl ?_
    refine pd_get (x := pd_R (F4 x0 6)) 6 dX11_joining_32 (show vwCl[11]? = some (RX11, TX11, 10) from rfl) pin_11 (by decide) pq_553 hg3 rfl ?_
    refine pd_iload_n (i := 1) dX11_joining_35 rfl rfl ?_
    refine pd_iload_n (i := 2) dX11_joining_36 rfl rfl ?_
    obtain ⟨hg7, hf⟩ := pd_ig hf
    obtain ⟨F6, hr, hf⟩ := pd_ob1 hf
    refine pd_callV (pkX8_addJoin l hr) dX11_joining_37 pq_662 pq_665 pq_666 (show vwCl[8]? = some (yX8_addJoin.cls, TX8, 6) from rfl) hg7 (pd_okA (by omega) (by decide) (by omega) (by omega) pq_663 pq_664 (by decide) (show (parseMethodDescriptor yX8_addJoin.desc).map (fun d => d.parameters.length) = some 2 from by decide +kernel)) (Nat.le_of_ble_eq_true rfl) rfl ?_
    refine pd_aload_n (i := 0) dX11_joining_40 rfl rfl ?_
    obtain ⟨r9, F8, hr, hf⟩ := pd_ob2 hf
    refine pd_callV (pkX11_gainOfTrial l hr) dX11_joining_41 pq_1200 pq_1203 pq_1204 (show vwCl[11]? = some (yX11_gainOfTrial.cls, TX11, 10) from rfl) hg3 (pd_okA (by omega) (by decide) (by omega) (by omega) pq_1201 pq_1202 (by decide) (show (parseMethodDescriptor yX11_gainOfTrial.desc).map (fun d => d.parameters.length) = some 0 from by decide +kernel)) (Nat.le_of_ble_eq_true rfl) rfl ?_
    obtain ⟨h1, h2⟩ := pd_inj hf
    subst h1 h2
    exact pd_toX (pd_lret dX11_joining_44 rfl (by omega) (by omega))
  · have hf := pd_iq hf hc
    obtain ⟨h1, h2⟩ := pd_inj hf
    subst h1 h2
    exact pd_thrSW (own := RX11) (k0 := 2) hlt pq_1197 pq_1198 rfl pd_hat pd_hgd dX11_joining_9 dX11_joining_12 dX11_joining_13 dX11_joining_16 dX11_joining_19 (by decide +kernel) ⟨by show 6 ≤ 8; omega, by show 200 ≤ 64 * 8; omega, by show _ ≤ 1; omega, by show _ ≤ 6; omega⟩ (Nat.le_of_ble_eq_true rfl) (by omega) (by omega)
set_option maxHeartbeats 4000000 in
set_option maxRecDepth 100000 in
theorem pkL_share (l : Launch) (hlt : l.stackTraces = false) {sh : pd_S} {n : Nat} {F : pd_F} {x0 x1 x2 x3 : Int} {ρ : Int} {Fz : pd_F} (hf : pfL_share sh n F x0 x1 x2 x3 = some (ρ, Fz)) : pd_C l yL_share (Cond.codeWith yL_share cL_share 5 (some .int) [(0, 10, 13, 13)] :: pd_gt) (pd_rm 9 1 6) false 1 6 sh F [pd_R x0, pd_I x1, pd_I x2, pd_R x3] (some (pd_I ρ)) sh Fz := by
  unfold pfL_share at hf
  obtain ⟨hg, hf⟩ := pd_ig hf
  obtain ⟨⟨ρ1, F1⟩, hr, hf⟩ := pd_ob1 hf
  refine pd_bodyW (L := [pd_R x0, pd_I x1, pd_I x2, pd_R x3, pd_N]) (by decide +kernel) (Nat.le_of_ble_eq_true rfl) rfl (fun E => ?_)
  refine pd_aload_n (i := 3) dL_share_0 rfl rfl ?_
  refine pd_iconst dL_share_1 (by decide) ?_
  refine pd_aload_n (i := 0) dL_share_2 rfl rfl ?_
  refine pd_iload_n (i := 1) dL_share_3 rfl rfl ?_
  refine pd_iload_n (i := 2) dL_share_4 rfl rfl ?_
  refine pd_callVX (xs := [pd_I x1, pd_I x2]) (pkX11_share l hlt hr) dL_share_5 pq_1206 pq_1207 pq_1208 (show vwCl[11]? = some (yX11_share.cls, TX11, 10) from rfl) hg (pd_okA (by omega) (by decide) (by omega) (by omega) pq_1209 pq_1210 (by decide) (show (parseMethodDescriptor yX11_share.desc).map (fun d => d.parameters.length) = some 2 from by decide +kernel)) (Nat.le_of_ble_eq_true rfl) rfl (show pd_hh RL "share" = [(0, 10, 13, 13)] by decide +kernel) (by omega) (by decide) pq_1211 pq_1212 (Or.inl ⟨dL_share_13, rfl⟩) (by decide) (fun x hx => ?_) (fun hx => ?_)
  · cases ρ1 with
    | none => exact absurd hx (fun h => nomatch h)
    | some r =>
      cases hx
      obtain ⟨hg2, hf⟩ := pd_ig hf
      obtain ⟨h1, h2⟩ := pd_inj hf
      subst h1 h2
      refine pd_i2l dL_share_8 ?_
      refine pd_last dL_share_9 hg2 ?_
      refine pd_goto (tgt := 17) dL_share_10 (by decide) ?_
      refine pd_iconst dL_share_17 (by decide) ?_
      exact pd_iret dL_share_18 rfl (by omega) (by omega)
  · cases ρ1 with
    | some r => exact absurd hx (fun h => nomatch h)
    | none =>
      obtain ⟨h1, h2⟩ := pd_inj hf
      subst h1 h2
      refine pd_iconst dL_share_15 (by decide) ?_
      exact pd_iret dL_share_16 rfl (by omega) (by omega)
set_option maxHeartbeats 4000000 in
set_option maxRecDepth 100000 in
theorem pkL_markless (l : Launch) (hlt : l.stackTraces = false) {sh : pd_S} {n : Nat} {F : pd_F} {x0 x1 x2 : Int} {ρ : Int} {Fz : pd_F} (hf : pfL_markless sh n F x0 x1 x2 = some (ρ, Fz)) : pd_C l yL_markless (Cond.codeWith yL_markless cL_markless 4 (some .int) [(0, 8, 11, 13)] :: pd_gt) (pd_rm 9 1 6) false 1 6 sh F [pd_R x0, pd_I x1, pd_R x2] (some (pd_I ρ)) sh Fz := by
  unfold pfL_markless at hf
  obtain ⟨hg, hf⟩ := pd_ig hf
  obtain ⟨⟨ρ1, F1⟩, hr, hf⟩ := pd_ob1 hf
  refine pd_bodyW (L := [pd_R x0, pd_I x1, pd_R x2, pd_N]) (by decide +kernel) (Nat.le_of_ble_eq_true rfl) rfl (fun E => ?_)
  refine pd_aload_n (i := 2) dL_markless_0 rfl rfl ?_
  refine pd_iconst dL_markless_1 (by decide) ?_
  refine pd_aload_n (i := 0) dL_markless_2 rfl rfl ?_
  refine pd_iload_n (i := 1) dL_markless_3 rfl rfl ?_
  refine pd_callVX (xs := [pd_I x1]) (pkX11_markless l hlt hr) dL_markless_4 pq_1213 pq_1214 pq_1215 (show vwCl[11]? = some (yX11_markless.cls, TX11, 10) from rfl) hg (pd_okA (by omega) (by decide) (by omega) (by omega) pq_1216 pq_1217 (by decide) (show (parseMethodDescriptor yX11_markless.desc).map (fun d => d.parameters.length) = some 1 from by decide +kernel)) (Nat.le_of_ble_eq_true rfl) rfl (show pd_hh RL "markless" = [(0, 8, 11, 13)] by decide +kernel) (by omega) (by decide) pq_1211 pq_1212 (Or.inr ⟨_, dL_markless_11, rfl, rfl⟩) (by decide) (fun x hx => ?_) (fun hx => ?_)
  · cases ρ1 with
    | none => exact absurd hx (fun h => nomatch h)
    | some r =>
      cases hx
      obtain ⟨hg2, hf⟩ := pd_ig hf
      obtain ⟨h1, h2⟩ := pd_inj hf
      subst h1 h2
      refine pd_last dL_markless_7 hg2 ?_
      refine pd_goto (tgt := 14) dL_markless_8 (by decide) ?_
      refine pd_iconst dL_markless_14 (by decide) ?_
      exact pd_iret dL_markless_15 rfl (by omega) (by omega)
  · cases ρ1 with
    | some r => exact absurd hx (fun h => nomatch h)
    | none =>
      obtain ⟨h1, h2⟩ := pd_inj hf
      subst h1 h2
      refine pd_iconst dL_markless_12 (by decide) ?_
      exact pd_iret dL_markless_13 rfl (by omega) (by omega)
set_option maxHeartbeats 4000000 in
set_option maxRecDepth 100000 in
theorem pkL_joining (l : Launch) (hlt : l.stackTraces = false) {sh : pd_S} {n : Nat} {F : pd_F} {x0 x1 x2 x3 : Int} {ρ : Int} {Fz : pd_F} (hf : pfL_joining sh n F x0 x1 x2 x3 = some (ρ, Fz)) : pd_C l yL_joining (Cond.codeWith yL_joining cL_joining 5 (some .int) [(0, 9, 12, 13)] :: pd_gt) (pd_rm 9 1 6) false 1 6 sh F [pd_R x0, pd_I x1, pd_I x2, pd_R x3] (some (pd_I ρ)) sh Fz := by
  unfold pfL_joining at hf
  obtain ⟨hg, hf⟩ := pd_ig hf
  obtain ⟨⟨ρ1, F1⟩, hr, hf⟩ := pd_ob1 hf
  refine pd_bodyW (L := [pd_R x0, pd_I x1, pd_I x2, pd_R x3, pd_N]) (by decide +kernel) (Nat.le_of_ble_eq_true rfl) rfl (fun E => ?_)
  refine pd_aload_n (i := 3) dL_joining_0 rfl rfl ?_
  refine pd_iconst dL_joining_1 (by decide) ?_
  refine pd_aload_n (i := 0) dL_joining_2 rfl rfl ?_
  refine pd_iload_n (i := 1) dL_joining_3 rfl rfl ?_
  refine pd_iload_n (i := 2) dL_joining_4 rfl rfl ?_
  refine pd_callVX (xs := [pd_I x1, pd_I x2]) (pkX11_joining l hlt hr) dL_joining_5 pq_1218 pq_1219 pq_1220 (show vwCl[11]? = some (yX11_joining.cls, TX11, 10) from rfl) hg (pd_okA (by omega) (by decide) (by omega) (by omega) pq_1221 pq_1222 (by decide) (show (parseMethodDescriptor yX11_joining.desc).map (fun d => d.parameters.length) = some 2 from by decide +kernel)) (Nat.le_of_ble_eq_true rfl) rfl (show pd_hh RL "joining" = [(0, 9, 12, 13)] by decide +kernel) (by omega) (by decide) pq_1211 pq_1212 (Or.inl ⟨dL_joining_12, rfl⟩) (by decide) (fun x hx => ?_) (fun hx => ?_)
  · cases ρ1 with
    | none => exact absurd hx (fun h => nomatch h)
    | some r =>
      cases hx
      obtain ⟨hg2, hf⟩ := pd_ig hf
      obtain ⟨h1, h2⟩ := pd_inj hf
      subst h1 h2
      refine pd_last dL_joining_8 hg2 ?_
      refine pd_goto (tgt := 16) dL_joining_9 (by decide) ?_
      refine pd_iconst dL_joining_16 (by decide) ?_
      exact pd_iret dL_joining_17 rfl (by omega) (by omega)
  · cases ρ1 with
    | some r => exact absurd hx (fun h => nomatch h)
    | none =>
      obtain ⟨h1, h2⟩ := pd_inj hf
      subst h1 h2
      refine pd_iconst dL_joining_14 (by decide) ?_
      exact pd_iret dL_joining_15 rfl (by omega) (by omega)
