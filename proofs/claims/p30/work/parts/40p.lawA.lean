def pfL_cell (Ls : Int) (xs : Int → Int) (sh : pd_S) (n : Nat) (F : pd_F) (x1 : Int) : Option (Int × pd_F) :=
  if Ls ≠ 0 then
    pd_i (Ls ≠ 0) <|
    pd_i (0 ≤ (Int.tmod x1 Ls) ∧ (Int.tmod x1 Ls) < Ls) <|
    some (pd_xor (xs (Int.tmod x1 Ls)) (pd_w (40503 * (pd_w (Int.tdiv x1 Ls)))), F)
  else
    some (0, F)
def pfL_some (Ls : Int) (xs : Int → Int) (sh : pd_S) (n : Nat) (F : pd_F) (x1 : Int) (x2 : Int) : Option (Int × pd_F) :=
  Option.bind (pfL_cell Ls xs sh n F x1) fun qr2 => pd_l qr2.1 fun r2 => pd_l qr2.2 fun F1 =>
  pd_i (x2 ≠ 0) <|
  some (Int.tmod (pd_and r2 65535) x2, F1)
def pfL_name (sh : pd_S) (n : Nat) (F : pd_F) (x0 : Int) (x1 : Int) : Option (Int × pd_S × pd_F) :=
  pd_l ((sh.length : Int) + 1) fun o3 => pd_l (pd_z F (sh.length + 1)) fun F2 => pd_l (sh ++ [(4, 13, 4)]) fun sh1 =>
  pd_i (1 ≤ o3) <|
  Option.bind (pfJ4_init_da8c8 sh1 n F2 o3) fun qsh6 => pd_l qsh6.1 fun sh6 => pd_l qsh6.2 fun F4 =>
  pd_i (pd_ob sh6 13 o3 = true) <|
  Option.bind (pfJ4_append_15ec4 sh6 n F4 o3 x0) fun qr10 => pd_l qr10.1 fun r10 => pd_l qr10.2.1 fun sh9 => pd_l qr10.2.2 fun F7 =>
  pd_i (pd_ob sh9 13 r10 = true) <|
  Option.bind (pfJ4_append_cf468 sh9 n F7 r10 (pd_c (pd_w (97 + x1)))) fun qr14 => pd_l qr14.1 fun r14 => pd_l qr14.2.1 fun sh13 => pd_l qr14.2.2 fun F11 =>
  pd_i (pd_ob sh13 13 r14 = true) <|
  Option.bind (pfJ4_toString_0e30d sh13 n F11 r14) fun qr18 => pd_l qr18.1 fun r18 => pd_l qr18.2.1 fun sh17 => pd_l qr18.2.2 fun F15 =>
  some (r18, sh17, F15)
def pfL_parts_b103 (Ls : Int) (xs : Int → Int) (n : Nat)  (sh : pd_S) (F : pd_F) (x1 : Int) (x3 : Int) (x5 : Int) : Option (Int × pd_S × pd_F) :=
  if x3 ≤ 0 then
    some (x5, sh, F)
  else
    Option.bind (pfL_some Ls xs sh n F (pd_w (x1 + 6)) 2) fun qr2 => pd_l qr2.1 fun r2 => pd_l qr2.2 fun F1 =>
    if r2 ≠ 0 then
      some (x5, sh, F1)
    else
      pd_l ((sh.length : Int) + 1) fun o5 => pd_l (pd_z F1 (sh.length + 1)) fun F4 => pd_l (sh ++ [(4, 13, 4)]) fun sh3 =>
      pd_i (1 ≤ o5) <|
      Option.bind (pfJ4_init_da8c8 sh3 n F4 o5) fun qsh8 => pd_l qsh8.1 fun sh8 => pd_l qsh8.2 fun F6 =>
      pd_i (pd_ob sh8 13 o5 = true) <|
      Option.bind (pfJ4_append_15ec4 sh8 n F6 o5 x5) fun qr12 => pd_l qr12.1 fun r12 => pd_l qr12.2.1 fun sh11 => pd_l qr12.2.2 fun F9 =>
      pd_i (pd_ob sh11 13 r12 = true) <|
      Option.bind (pfJ4_append_15ec4 sh11 n F9 r12 (-8)) fun qr16 => pd_l qr16.1 fun r16 => pd_l qr16.2.1 fun sh15 => pd_l qr16.2.2 fun F13 =>
      Option.bind (pfL_some Ls xs sh15 n F13 (pd_w (x1 + 7)) x3) fun qr18 => pd_l qr18.1 fun r18 => pd_l qr18.2 fun F17 =>
      Option.bind (pfL_name sh15 n F17 (-13) r18) fun qr21 => pd_l qr21.1 fun r21 => pd_l qr21.2.1 fun sh20 => pd_l qr21.2.2 fun F19 =>
      pd_i (pd_ob sh20 13 r16 = true) <|
      Option.bind (pfJ4_append_15ec4 sh20 n F19 r16 r21) fun qr25 => pd_l qr25.1 fun r25 => pd_l qr25.2.1 fun sh24 => pd_l qr25.2.2 fun F22 =>
      pd_i (pd_ob sh24 13 r25 = true) <|
      Option.bind (pfJ4_append_15ec4 sh24 n F22 r25 (-8)) fun qr29 => pd_l qr29.1 fun r29 => pd_l qr29.2.1 fun sh28 => pd_l qr29.2.2 fun F26 =>
      Option.bind (pfL_some Ls xs sh28 n F26 (pd_w (x1 + 8)) 4) fun qr31 => pd_l qr31.1 fun r31 => pd_l qr31.2 fun F30 =>
      pd_i (pd_ob sh28 13 r29 = true) <|
      Option.bind (pfJ4_append_bf812 sh28 n F30 r29 r31) fun qr35 => pd_l qr35.1 fun r35 => pd_l qr35.2.1 fun sh34 => pd_l qr35.2.2 fun F32 =>
      pd_i (pd_ob sh34 13 r35 = true) <|
      Option.bind (pfJ4_toString_0e30d sh34 n F32 r35) fun qr39 => pd_l qr39.1 fun r39 => pd_l qr39.2.1 fun sh38 => pd_l qr39.2.2 fun F36 =>
      pd_i (r39 ≠ 0) <|
      some (r39, sh38, F36)
def pfL_parts_b28 (Ls : Int) (xs : Int → Int) (n : Nat)  : Nat → pd_S → pd_F → Int → Int → Int → Int → Int → Int → Int → Option (Int × pd_S × pd_F)
  | 0, _, _, _, _, _, _, _, _, _ => none
  | k + 1, sh, F, x1, x2, x3, x5, x6, x7, x8 =>
    if x8 ≥ x6 then
      pfL_parts_b103 Ls xs n sh F x1 x3 x5
    else
      if x8 ≥ x2 then
        pfL_parts_b103 Ls xs n sh F x1 x3 x5
      else
        pd_l ((sh.length : Int) + 1) fun o43 => pd_l (pd_z F (sh.length + 1)) fun F42 => pd_l (sh ++ [(4, 13, 4)]) fun sh41 =>
        pd_i (1 ≤ o43) <|
        Option.bind (pfJ4_init_da8c8 sh41 n F42 o43) fun qsh46 => pd_l qsh46.1 fun sh46 => pd_l qsh46.2 fun F44 =>
        pd_i (pd_ob sh46 13 o43 = true) <|
        Option.bind (pfJ4_append_15ec4 sh46 n F44 o43 x5) fun qr50 => pd_l qr50.1 fun r50 => pd_l qr50.2.1 fun sh49 => pd_l qr50.2.2 fun F47 =>
        pd_i (pd_ob sh49 13 r50 = true) <|
        Option.bind (pfJ4_append_15ec4 sh49 n F47 r50 (-8)) fun qr54 => pd_l qr54.1 fun r54 => pd_l qr54.2.1 fun sh53 => pd_l qr54.2.2 fun F51 =>
        pd_i (x2 ≠ 0) <|
        Option.bind (pfL_name sh53 n F51 (-7) (Int.tmod (pd_w (x7 + x8)) x2)) fun qr58 => pd_l qr58.1 fun r58 => pd_l qr58.2.1 fun sh57 => pd_l qr58.2.2 fun F56 =>
        pd_i (pd_ob sh57 13 r54 = true) <|
        Option.bind (pfJ4_append_15ec4 sh57 n F56 r54 r58) fun qr62 => pd_l qr62.1 fun r62 => pd_l qr62.2.1 fun sh61 => pd_l qr62.2.2 fun F59 =>
        pd_i (pd_ob sh61 13 r62 = true) <|
        Option.bind (pfJ4_append_15ec4 sh61 n F59 r62 (-8)) fun qr66 => pd_l qr66.1 fun r66 => pd_l qr66.2.1 fun sh65 => pd_l qr66.2.2 fun F63 =>
        Option.bind (pfL_some Ls xs sh65 n F63 (pd_w ((pd_w (x1 + 2)) + x8)) 5) fun qr68 => pd_l qr68.1 fun r68 => pd_l qr68.2 fun F67 =>
        pd_i (pd_ob sh65 13 r66 = true) <|
        Option.bind (pfJ4_append_bf812 sh65 n F67 r66 r68) fun qr72 => pd_l qr72.1 fun r72 => pd_l qr72.2.1 fun sh71 => pd_l qr72.2.2 fun F69 =>
        pd_i (pd_ob sh71 13 r72 = true) <|
        Option.bind (pfJ4_toString_0e30d sh71 n F69 r72) fun qr76 => pd_l qr76.1 fun r76 => pd_l qr76.2.1 fun sh75 => pd_l qr76.2.2 fun F73 =>
        pd_i (r76 ≠ 0) <|
        pd_l (pd_w (x8 + 1)) fun x8_97 =>
        pfL_parts_b28 Ls xs n k sh75 F73 x1 x2 x3 r76 x6 x7 x8_97
def pfL_parts (Ls : Int) (xs : Int → Int) (sh : pd_S) (n : Nat) (F : pd_F) (x1 : Int) (x2 : Int) (x3 : Int) (x4 : Int) : Option (Int × pd_S × pd_F) :=
  pd_i ((-10) ≠ 0) <|
  Option.bind (pfL_some Ls xs sh n F x1 3) fun qr80 => pd_l qr80.1 fun r80 => pd_l qr80.2 fun F79 =>
  pd_l (pd_w (x4 + r80)) fun x6_13 =>
  Option.bind (pfL_some Ls xs sh n F79 (pd_w (x1 + 1)) x2) fun qr82 => pd_l qr82.1 fun r82 => pd_l qr82.2 fun F81 =>
  pfL_parts_b28 Ls xs n 4 sh F81 x1 x2 x3 (-10) x6_13 r82 0
def pfL_feeds_b64 (n : Nat) (c7 : pd_S → pd_F → Int → Int → Int → Int → Option (Int × pd_S × pd_F)) (c20 : pd_S → pd_F → Int → Int → Int → Int → Int → Int → Option (Int × pd_S × pd_F)) (sh : pd_S) (F : pd_F) (x0 : Int) (x1 : Int) (x2 : Int) (x3 : Int) (x4 : Int) (x5 : Int) (t0 : Int) (t1 : Int) (t2 : Int) (t3 : Int) : Option (Int × pd_S × pd_F) :=
  pd_i (pd_ib sh 0 0 t3 t2 = true) <|
  pd_l (pd_up F t3 t2 (pd_or t1 t0)) fun F2 =>
  pd_l (pd_w (x5 + 1)) fun x5_66 =>
  c20 sh F2 x0 x1 x2 x3 x4 x5_66
def pfL_feeds_b72 (n : Nat) (c7 : pd_S → pd_F → Int → Int → Int → Int → Option (Int × pd_S × pd_F)) (sh : pd_S) (F : pd_F) (x0 : Int) (x1 : Int) (x2 : Int) (x3 : Int) (x4 : Int) : Option (Int × pd_S × pd_F) :=
  pd_i (pd_ib sh 0 0 x4 0 = true) <|
  pd_i (pd_ib sh 0 0 x4 1 = true) <|
  pd_i (pd_ib sh 0 0 x4 2 = true) <|
  pd_i (pd_ib sh 0 0 x4 3 = true) <|
  pd_i (pd_ib sh 0 0 x4 4 = true) <|
  pd_i (pd_ob sh 11 x0 = true) <|
  Option.bind (pfX11_feed sh n F x0 (F x4 0) (F x4 1) (F x4 2) (F x4 3) (F x4 4)) fun qr10 => pd_l qr10.1 fun r10 => pd_l qr10.2 fun F8 =>
  pd_l (pd_w (x3 + 20)) fun x3_97 =>
  c7 sh F8 x0 x1 x2 x3_97
def pfL_feeds_b20 (n : Nat) (c7 : pd_S → pd_F → Int → Int → Int → Int → Option (Int × pd_S × pd_F)) : Nat → pd_S → pd_F → Int → Int → Int → Int → Int → Int → Option (Int × pd_S × pd_F)
  | 0, _, _, _, _, _, _, _, _ => none
  | k + 1, sh, F, x0, x1, x2, x3, x4, x5 =>
    if x5 ≥ 20 then
      pfL_feeds_b72 n c7 sh F x0 x1 x2 x3 x4
    else
      pd_i (pd_ib sh 0 0 x4 (pd_w (Int.tdiv x5 4)) = true) <|
      if (pd_w (x3 + x5)) ≥ x2 then
        pfL_feeds_b64 n c7 (pfL_feeds_b20 n c7 k) sh F x0 x1 x2 x3 x4 x5 32 (pd_shl (F x4 (pd_w (Int.tdiv x5 4))) 8) (pd_w (Int.tdiv x5 4)) x4
      else
        pd_i (pd_ob sh 12 x1 = true) <|
        Option.bind (pfJ0_charAt_5068e sh n F x1 (pd_w (x3 + x5))) fun qr14 => pd_l qr14.1 fun r14 => pd_l qr14.2 fun F12 =>
        pfL_feeds_b64 n c7 (pfL_feeds_b20 n c7 k) sh F12 x0 x1 x2 x3 x4 x5 r14 (pd_shl (F x4 (pd_w (Int.tdiv x5 4))) 8) (pd_w (Int.tdiv x5 4)) x4
def pfL_feeds_b103 (n : Nat)  (sh : pd_S) (F : pd_F) (x0 : Int) (x2 : Int) : Option (Int × pd_S × pd_F) :=
  pd_i (pd_ob sh 11 x0 = true) <|
  Option.bind (pfX11_book sh n F x0 x2) fun qr17 => pd_l qr17.1 fun r17 => pd_l qr17.2 fun F15 =>
  some (r17, sh, F15)
def pfL_feeds_b7 (n : Nat)  : Nat → pd_S → pd_F → Int → Int → Int → Int → Option (Int × pd_S × pd_F)
  | 0, _, _, _, _, _, _ => none
  | k + 1, sh, F, x0, x1, x2, x3 =>
    if x3 ≥ x2 then
      pfL_feeds_b103 n sh F x0 x2
    else
      pd_l ((sh.length : Int) + 1) fun o20 => pd_l (pd_z F (sh.length + 1)) fun F19 => pd_l (sh ++ [(0, 0, 5)]) fun sh18 =>
      pd_i (o20 ≠ 0) <|
      pfL_feeds_b20 n (pfL_feeds_b7 n k) n sh18 F19 x0 x1 x2 x3 o20 0
def pfL_feeds (sh : pd_S) (n : Nat) (F : pd_F) (x0 : Int) (x1 : Int) : Option (Int × pd_S × pd_F) :=
  pd_i (pd_ob sh 12 x1 = true) <|
  Option.bind (pfJ0_length_8abf5 sh n F x1) fun qr24 => pd_l qr24.1 fun r24 => pd_l qr24.2 fun F22 =>
  pfL_feeds_b7 n 51 sh F22 x0 x1 r24 0
def pfL_begins_b192 (Ls : Int) (xs : Int → Int) (n : Nat) (c96 : pd_S → pd_F → Int → Int → Int → Int → Int → Int → Int → Option (Int × pd_S × pd_F)) (sh : pd_S) (F : pd_F) (x0 : Int) (x2 : Int) (x3 : Int) (x4 : Int) (x6 : Int) (x7 : Int) (t0 : Int) (t1 : Int) : Option (Int × pd_S × pd_F) :=
  pd_i (pd_ob sh 13 t1 = true) <|
  Option.bind (pfJ4_append_15ec4 sh n F t1 t0) fun qr4 => pd_l qr4.1 fun r4 => pd_l qr4.2.1 fun sh3 => pd_l qr4.2.2 fun F1 =>
  pd_i (pd_ob sh3 13 r4 = true) <|
  Option.bind (pfJ4_append_15ec4 sh3 n F1 r4 (-5)) fun qr8 => pd_l qr8.1 fun r8 => pd_l qr8.2.1 fun sh7 => pd_l qr8.2.2 fun F5 =>
  pd_i (pd_ob sh7 13 r8 = true) <|
  Option.bind (pfJ4_toString_0e30d sh7 n F5 r8) fun qr12 => pd_l qr12.1 fun r12 => pd_l qr12.2.1 fun sh11 => pd_l qr12.2.2 fun F9 =>
  pd_i (r12 ≠ 0) <|
  pd_l (pd_w (x6 + 1)) fun x6_205 =>
  pd_l (pd_w (x7 + 1)) fun x7_208 =>
  c96 sh11 F9 x0 x2 x3 x4 r12 x6_205 x7_208
def pfL_begins_b169 (Ls : Int) (xs : Int → Int) (n : Nat) (c96 : pd_S → pd_F → Int → Int → Int → Int → Int → Int → Int → Option (Int × pd_S × pd_F)) (sh : pd_S) (F : pd_F) (x0 : Int) (x2 : Int) (x3 : Int) (x4 : Int) (x6 : Int) (x7 : Int) (t0 : Int) (t1 : Int) : Option (Int × pd_S × pd_F) :=
  pd_i (pd_ob sh 13 t1 = true) <|
  Option.bind (pfJ4_append_15ec4 sh n F t1 t0) fun qr17 => pd_l qr17.1 fun r17 => pd_l qr17.2.1 fun sh16 => pd_l qr17.2.2 fun F14 =>
  Option.bind (pfL_some Ls xs sh16 n F14 (pd_w (30 + x7)) 4) fun qr19 => pd_l qr19.1 fun r19 => pd_l qr19.2 fun F18 =>
  if r19 ≠ 0 then
    pfL_begins_b192 Ls xs n c96 sh16 F18 x0 x2 x3 x4 x6 x7 (-10) r17
  else
    pfL_begins_b192 Ls xs n c96 sh16 F18 x0 x2 x3 x4 x6 x7 (-11) r17
def pfL_begins_b760 (Ls : Int) (xs : Int → Int) (n : Nat) (c596 : pd_S → pd_F → Int → Int → Int → Int → Option (Int × pd_S × pd_F)) (sh : pd_S) (F : pd_F) (x0 : Int) (x2 : Int) (x4 : Int) (x7 : Int) : Option (Int × pd_S × pd_F) :=
  pd_l (pd_w (x7 + 1)) fun x7_760 =>
  c596 sh F x0 x2 x4 x7_760
def pfL_begins_b752 (Ls : Int) (xs : Int → Int) (n : Nat) (c596 : pd_S → pd_F → Int → Int → Int → Int → Option (Int × pd_S × pd_F)) (sh : pd_S) (F : pd_F) (x0 : Int) (x2 : Int) (x4 : Int) (x7 : Int) (t0 : Int) (t1 : Int) (t2 : Int) : Option (Int × pd_S × pd_F) :=
  pd_i (pd_ob sh 11 t2 = true) <|
  Option.bind (pfX11_mark sh n F t2 t1 t0) fun qr22 => pd_l qr22.1 fun r22 => pd_l qr22.2 fun F20 =>
  if r22 ≠ 0 then
    pfL_begins_b760 Ls xs n c596 sh F20 x0 x2 x4 x7
  else
    some (0, sh, F20)
def pfL_begins_b721 (Ls : Int) (xs : Int → Int) (n : Nat) (c596 : pd_S → pd_F → Int → Int → Int → Int → Option (Int × pd_S × pd_F)) (sh : pd_S) (F : pd_F) (x0 : Int) (x2 : Int) (x4 : Int) (x7 : Int) (x8 : Int) (x9 : Int) : Option (Int × pd_S × pd_F) :=
  if (pd_and x8 3) ≠ 3 then
    pfL_begins_b760 Ls xs n c596 sh F x0 x2 x4 x7
  else
    pd_i (pd_ob sh 11 x0 = true) <|
    Option.bind (pfX11_person sh n F x0 x9 1) fun qr25 => pd_l qr25.1 fun r25 => pd_l qr25.2 fun F23 =>
    if (pd_and (pd_ushr x8 11) 1) ≠ 0 then
      pfL_begins_b752 Ls xs n c596 sh F23 x0 x2 x4 x7 0 r25 x0
    else
      pfL_begins_b752 Ls xs n c596 sh F23 x0 x2 x4 x7 1 r25 x0
def pfL_begins_b695 (Ls : Int) (xs : Int → Int) (n : Nat) (c596 : pd_S → pd_F → Int → Int → Int → Int → Option (Int × pd_S × pd_F)) (sh : pd_S) (F : pd_F) (x0 : Int) (x2 : Int) (x4 : Int) (x7 : Int) (x8 : Int) (x9 : Int) : Option (Int × pd_S × pd_F) :=
  if (pd_and x8 3) ≠ 2 then
    pfL_begins_b721 Ls xs n c596 sh F x0 x2 x4 x7 x8 x9
  else
    pd_i (pd_ob sh 11 x0 = true) <|
    Option.bind (pfX11_tell sh n F x0 0 (pd_and (pd_ushr x8 11) 63)) fun qr28 => pd_l qr28.1 fun r28 => pd_l qr28.2 fun F26 =>
    if r28 ≥ 0 then
      pfL_begins_b721 Ls xs n c596 sh F26 x0 x2 x4 x7 x8 x9
    else
      some (0, sh, F26)
def pfL_begins_b658 (Ls : Int) (xs : Int → Int) (n : Nat) (c596 : pd_S → pd_F → Int → Int → Int → Int → Option (Int × pd_S × pd_F)) (sh : pd_S) (F : pd_F) (x0 : Int) (x2 : Int) (x4 : Int) (x7 : Int) (x8 : Int) (x9 : Int) : Option (Int × pd_S × pd_F) :=
  if (pd_and x8 3) ≠ 1 then
    pfL_begins_b695 Ls xs n c596 sh F x0 x2 x4 x7 x8 x9
  else
    pd_i (x4 ≠ 0) <|
    pd_i (pd_ob sh 11 x0 = true) <|
    Option.bind (pfX11_balance sh n F x0 (Int.tmod (pd_and (pd_ushr x8 3) 255) x4) (pd_and (pd_ushr x8 11) 8191)) fun qr32 => pd_l qr32.1 fun r32 => pd_l qr32.2 fun F30 =>
    if r32 ≥ 0 then
      pfL_begins_b695 Ls xs n c596 sh F30 x0 x2 x4 x7 x8 x9
    else
      some (0, sh, F30)
def pfL_begins_b596 (Ls : Int) (xs : Int → Int) (n : Nat)  : Nat → pd_S → pd_F → Int → Int → Int → Int → Option (Int × pd_S × pd_F)
  | 0, _, _, _, _, _, _ => none
  | k + 1, sh, F, x0, x2, x4, x7 =>
    Option.bind (pfL_some Ls xs sh n F 170 4) fun qr34 => pd_l qr34.1 fun r34 => pd_l qr34.2 fun F33 =>
    if x7 ≥ r34 then
      some (1, sh, F33)
    else
      Option.bind (pfL_cell Ls xs sh n F33 (pd_w (171 + x7))) fun qr36 => pd_l qr36.1 fun r36 => pd_l qr36.2 fun F35 =>
      pd_i (x2 ≠ 0) <|
      pd_l (Int.tmod (pd_and (pd_ushr r36 3) 255) x2) fun x9_631 =>
      if (pd_and r36 3) ≠ 0 then
        pfL_begins_b658 Ls xs n (pfL_begins_b596 Ls xs n k) sh F35 x0 x2 x4 x7 r36 x9_631
      else
        pd_i (pd_ob sh 11 x0 = true) <|
        Option.bind (pfX11_join sh n F35 x0 x9_631 (Int.tmod (pd_w (x9_631 + 1)) x2)) fun qr40 => pd_l qr40.1 fun r40 => pd_l qr40.2 fun F38 =>
        if r40 ≥ 1 then
          pfL_begins_b658 Ls xs n (pfL_begins_b596 Ls xs n k) sh F38 x0 x2 x4 x7 r36 x9_631
        else
          some (0, sh, F38)
def pfL_begins_b580 (Ls : Int) (xs : Int → Int) (n : Nat)  (sh : pd_S) (F : pd_F) (x0 : Int) (x2 : Int) (x4 : Int) (x5 : Int) (x6 : Int) : Option (Int × pd_S × pd_F) :=
  Option.bind (pfL_feeds sh n F x0 x5) fun qr43 => pd_l qr43.1 fun r43 => pd_l qr43.2.1 fun sh42 => pd_l qr43.2.2 fun F41 =>
  if r43 = x6 then
    pfL_begins_b596 Ls xs n n sh42 F41 x0 x2 x4 0
  else
    some (0, sh42, F41)
def pfL_begins_b385 (Ls : Int) (xs : Int → Int) (n : Nat)  : Nat → pd_S → pd_F → Int → Int → Int → Int → Int → Int → Option (Int × pd_S × pd_F)
  | 0, _, _, _, _, _, _, _, _ => none
  | k + 1, sh, F, x0, x2, x4, x5, x6, x7 =>
    if x7 ≥ 2 then
      pfL_begins_b580 Ls xs n sh F x0 x2 x4 x5 x6
    else
      Option.bind (pfL_some Ls xs sh n F (pd_w (150 + x7)) 40) fun qr45 => pd_l qr45.1 fun r45 => pd_l qr45.2 fun F44 =>
      pd_l ((sh.length : Int) + 1) fun o48 => pd_l (pd_z F44 (sh.length + 1)) fun F47 => pd_l (sh ++ [(4, 13, 4)]) fun sh46 =>
      pd_i (1 ≤ o48) <|
      Option.bind (pfJ4_init_da8c8 sh46 n F47 o48) fun qsh51 => pd_l qsh51.1 fun sh51 => pd_l qsh51.2 fun F49 =>
      pd_i (pd_ob sh51 13 o48 = true) <|
      Option.bind (pfJ4_append_15ec4 sh51 n F49 o48 x5) fun qr55 => pd_l qr55.1 fun r55 => pd_l qr55.2.1 fun sh54 => pd_l qr55.2.2 fun F52 =>
      pd_i (pd_ob sh54 13 r55 = true) <|
      Option.bind (pfJ4_append_15ec4 sh54 n F52 r55 (-17)) fun qr59 => pd_l qr59.1 fun r59 => pd_l qr59.2.1 fun sh58 => pd_l qr59.2.2 fun F56 =>
      Option.bind (pfL_some Ls xs sh58 n F56 (pd_w (152 + x7)) x4) fun qr61 => pd_l qr61.1 fun r61 => pd_l qr61.2 fun F60 =>
      Option.bind (pfL_name sh58 n F60 (-15) r61) fun qr64 => pd_l qr64.1 fun r64 => pd_l qr64.2.1 fun sh63 => pd_l qr64.2.2 fun F62 =>
      pd_i (pd_ob sh63 13 r59 = true) <|
      Option.bind (pfJ4_append_15ec4 sh63 n F62 r59 r64) fun qr68 => pd_l qr68.1 fun r68 => pd_l qr68.2.1 fun sh67 => pd_l qr68.2.2 fun F65 =>
      pd_i (pd_ob sh67 13 r68 = true) <|
      Option.bind (pfJ4_append_15ec4 sh67 n F65 r68 (-8)) fun qr72 => pd_l qr72.1 fun r72 => pd_l qr72.2.1 fun sh71 => pd_l qr72.2.2 fun F69 =>
      Option.bind (pfL_some Ls xs sh71 n F69 (pd_w (154 + x7)) 4000) fun qr74 => pd_l qr74.1 fun r74 => pd_l qr74.2 fun F73 =>
      pd_i (pd_ob sh71 13 r72 = true) <|
      Option.bind (pfJ4_append_bf812 sh71 n F73 r72 r74) fun qr78 => pd_l qr78.1 fun r78 => pd_l qr78.2.1 fun sh77 => pd_l qr78.2.2 fun F75 =>
      pd_i (pd_ob sh77 13 r78 = true) <|
      Option.bind (pfJ4_append_15ec4 sh77 n F75 r78 (-18)) fun qr82 => pd_l qr82.1 fun r82 => pd_l qr82.2.1 fun sh81 => pd_l qr82.2.2 fun F79 =>
      pd_i (pd_ob sh81 13 r82 = true) <|
      Option.bind (pfJ4_append_bf812 sh81 n F79 r82 r45) fun qr86 => pd_l qr86.1 fun r86 => pd_l qr86.2.1 fun sh85 => pd_l qr86.2.2 fun F83 =>
      pd_i (pd_ob sh85 13 r86 = true) <|
      Option.bind (pfJ4_append_15ec4 sh85 n F83 r86 (-19)) fun qr90 => pd_l qr90.1 fun r90 => pd_l qr90.2.1 fun sh89 => pd_l qr90.2.2 fun F87 =>
      Option.bind (pfL_some Ls xs sh89 n F87 (pd_w (156 + x7)) 30) fun qr92 => pd_l qr92.1 fun r92 => pd_l qr92.2 fun F91 =>
      pd_i (pd_ob sh89 13 r90 = true) <|
      Option.bind (pfJ4_append_bf812 sh89 n F91 r90 (pd_w (r45 + r92))) fun qr96 => pd_l qr96.1 fun r96 => pd_l qr96.2.1 fun sh95 => pd_l qr96.2.2 fun F93 =>
      pd_i (pd_ob sh95 13 r96 = true) <|
      Option.bind (pfJ4_append_15ec4 sh95 n F93 r96 (-20)) fun qr100 => pd_l qr100.1 fun r100 => pd_l qr100.2.1 fun sh99 => pd_l qr100.2.2 fun F97 =>
      Option.bind (pfL_some Ls xs sh99 n F97 (pd_w (158 + x7)) x2) fun qr102 => pd_l qr102.1 fun r102 => pd_l qr102.2 fun F101 =>
      Option.bind (pfL_name sh99 n F101 (-7) r102) fun qr105 => pd_l qr105.1 fun r105 => pd_l qr105.2.1 fun sh104 => pd_l qr105.2.2 fun F103 =>
      pd_i (pd_ob sh104 13 r100 = true) <|
      Option.bind (pfJ4_append_15ec4 sh104 n F103 r100 r105) fun qr109 => pd_l qr109.1 fun r109 => pd_l qr109.2.1 fun sh108 => pd_l qr109.2.2 fun F106 =>
      pd_i (pd_ob sh108 13 r109 = true) <|
      Option.bind (pfJ4_append_15ec4 sh108 n F106 r109 (-8)) fun qr113 => pd_l qr113.1 fun r113 => pd_l qr113.2.1 fun sh112 => pd_l qr113.2.2 fun F110 =>
      Option.bind (pfL_some Ls xs sh112 n F110 (pd_w (160 + x7)) 2000) fun qr115 => pd_l qr115.1 fun r115 => pd_l qr115.2 fun F114 =>
      pd_i (pd_ob sh112 13 r113 = true) <|
      Option.bind (pfJ4_append_bf812 sh112 n F114 r113 r115) fun qr119 => pd_l qr119.1 fun r119 => pd_l qr119.2.1 fun sh118 => pd_l qr119.2.2 fun F116 =>
      pd_i (pd_ob sh118 13 r119 = true) <|
      Option.bind (pfJ4_append_15ec4 sh118 n F116 r119 (-21)) fun qr123 => pd_l qr123.1 fun r123 => pd_l qr123.2.1 fun sh122 => pd_l qr123.2.2 fun F120 =>
      Option.bind (pfL_some Ls xs sh122 n F120 (pd_w (162 + x7)) 60) fun qr125 => pd_l qr125.1 fun r125 => pd_l qr125.2 fun F124 =>
      pd_i (pd_ob sh122 13 r123 = true) <|
      Option.bind (pfJ4_append_bf812 sh122 n F124 r123 r125) fun qr129 => pd_l qr129.1 fun r129 => pd_l qr129.2.1 fun sh128 => pd_l qr129.2.2 fun F126 =>
      pd_i (pd_ob sh128 13 r129 = true) <|
      Option.bind (pfJ4_append_15ec4 sh128 n F126 r129 (-5)) fun qr133 => pd_l qr133.1 fun r133 => pd_l qr133.2.1 fun sh132 => pd_l qr133.2.2 fun F130 =>
      pd_i (pd_ob sh132 13 r133 = true) <|
      Option.bind (pfJ4_toString_0e30d sh132 n F130 r133) fun qr137 => pd_l qr137.1 fun r137 => pd_l qr137.2.1 fun sh136 => pd_l qr137.2.2 fun F134 =>
      pd_i (r137 ≠ 0) <|
      pd_l (pd_w (x6 + 2)) fun x6_571 =>
      pd_l (pd_w (x7 + 1)) fun x7_574 =>
      pfL_begins_b385 Ls xs n k sh136 F134 x0 x2 x4 r137 x6_571 x7_574
def pfL_begins_b382 (Ls : Int) (xs : Int → Int) (n : Nat)  (sh : pd_S) (F : pd_F) (x0 : Int) (x2 : Int) (x4 : Int) (x5 : Int) (x6 : Int) : Option (Int × pd_S × pd_F) :=
  pfL_begins_b385 Ls xs n 3 sh F x0 x2 x4 x5 x6 0
def pfL_begins_b291 (Ls : Int) (xs : Int → Int) (n : Nat)  : Nat → pd_S → pd_F → Int → Int → Int → Int → Int → Int → Int → Option (Int × pd_S × pd_F)
  | 0, _, _, _, _, _, _, _, _, _ => none
  | k + 1, sh, F, x0, x2, x3, x4, x5, x6, x7 =>
    if x7 ≥ x4 then
      pfL_begins_b382 Ls xs n sh F x0 x2 x4 x5 x6
    else
      pd_l ((sh.length : Int) + 1) fun o141 => pd_l (pd_z F (sh.length + 1)) fun F140 => pd_l (sh ++ [(4, 13, 4)]) fun sh139 =>
      pd_i (1 ≤ o141) <|
      Option.bind (pfJ4_init_da8c8 sh139 n F140 o141) fun qsh144 => pd_l qsh144.1 fun sh144 => pd_l qsh144.2 fun F142 =>
      pd_i (pd_ob sh144 13 o141 = true) <|
      Option.bind (pfJ4_append_15ec4 sh144 n F142 o141 x5) fun qr148 => pd_l qr148.1 fun r148 => pd_l qr148.2.1 fun sh147 => pd_l qr148.2.2 fun F145 =>
      pd_i (pd_ob sh147 13 r148 = true) <|
      Option.bind (pfJ4_append_15ec4 sh147 n F145 r148 (-14)) fun qr152 => pd_l qr152.1 fun r152 => pd_l qr152.2.1 fun sh151 => pd_l qr152.2.2 fun F149 =>
      Option.bind (pfL_name sh151 n F149 (-15) x7) fun qr155 => pd_l qr155.1 fun r155 => pd_l qr155.2.1 fun sh154 => pd_l qr155.2.2 fun F153 =>
      pd_i (pd_ob sh154 13 r152 = true) <|
      Option.bind (pfJ4_append_15ec4 sh154 n F153 r152 r155) fun qr159 => pd_l qr159.1 fun r159 => pd_l qr159.2.1 fun sh158 => pd_l qr159.2.2 fun F156 =>
      pd_i (pd_ob sh158 13 r159 = true) <|
      Option.bind (pfJ4_append_15ec4 sh158 n F156 r159 (-16)) fun qr163 => pd_l qr163.1 fun r163 => pd_l qr163.2.1 fun sh162 => pd_l qr163.2.2 fun F160 =>
      Option.bind (pfL_some Ls xs sh162 n F160 (pd_w (80 + x7)) 9000) fun qr165 => pd_l qr165.1 fun r165 => pd_l qr165.2 fun F164 =>
      pd_i (pd_ob sh162 13 r163 = true) <|
      Option.bind (pfJ4_append_bf812 sh162 n F164 r163 r165) fun qr169 => pd_l qr169.1 fun r169 => pd_l qr169.2.1 fun sh168 => pd_l qr169.2.2 fun F166 =>
      Option.bind (pfL_parts Ls xs sh168 n F166 (pd_w (90 + (pd_w (10 * x7)))) x2 x3 1) fun qr172 => pd_l qr172.1 fun r172 => pd_l qr172.2.1 fun sh171 => pd_l qr172.2.2 fun F170 =>
      pd_i (pd_ob sh171 13 r169 = true) <|
      Option.bind (pfJ4_append_15ec4 sh171 n F170 r169 r172) fun qr176 => pd_l qr176.1 fun r176 => pd_l qr176.2.1 fun sh175 => pd_l qr176.2.2 fun F173 =>
      pd_i (pd_ob sh175 13 r176 = true) <|
      Option.bind (pfJ4_append_15ec4 sh175 n F173 r176 (-5)) fun qr180 => pd_l qr180.1 fun r180 => pd_l qr180.2.1 fun sh179 => pd_l qr180.2.2 fun F177 =>
      pd_i (pd_ob sh179 13 r180 = true) <|
      Option.bind (pfJ4_toString_0e30d sh179 n F177 r180) fun qr184 => pd_l qr184.1 fun r184 => pd_l qr184.2.1 fun sh183 => pd_l qr184.2.2 fun F181 =>
      pd_i (r184 ≠ 0) <|
      pd_l (pd_w (x6 + 1)) fun x6_373 =>
      pd_l (pd_w (x7 + 1)) fun x7_376 =>
      pfL_begins_b291 Ls xs n k sh183 F181 x0 x2 x3 x4 r184 x6_373 x7_376
def pfL_begins_b288 (Ls : Int) (xs : Int → Int) (n : Nat)  (sh : pd_S) (F : pd_F) (x0 : Int) (x2 : Int) (x3 : Int) (x4 : Int) (x5 : Int) (x6 : Int) : Option (Int × pd_S × pd_F) :=
  pfL_begins_b291 Ls xs n 6 sh F x0 x2 x3 x4 x5 x6 0
def pfL_begins_b217 (Ls : Int) (xs : Int → Int) (n : Nat)  : Nat → pd_S → pd_F → Int → Int → Int → Int → Int → Int → Int → Option (Int × pd_S × pd_F)
  | 0, _, _, _, _, _, _, _, _, _ => none
  | k + 1, sh, F, x0, x2, x3, x4, x5, x6, x7 =>
    if x7 ≥ x3 then
      pfL_begins_b288 Ls xs n sh F x0 x2 x3 x4 x5 x6
    else
      pd_l ((sh.length : Int) + 1) fun o188 => pd_l (pd_z F (sh.length + 1)) fun F187 => pd_l (sh ++ [(4, 13, 4)]) fun sh186 =>
      pd_i (1 ≤ o188) <|
      Option.bind (pfJ4_init_da8c8 sh186 n F187 o188) fun qsh191 => pd_l qsh191.1 fun sh191 => pd_l qsh191.2 fun F189 =>
      pd_i (pd_ob sh191 13 o188 = true) <|
      Option.bind (pfJ4_append_15ec4 sh191 n F189 o188 x5) fun qr195 => pd_l qr195.1 fun r195 => pd_l qr195.2.1 fun sh194 => pd_l qr195.2.2 fun F192 =>
      pd_i (pd_ob sh194 13 r195 = true) <|
      Option.bind (pfJ4_append_15ec4 sh194 n F192 r195 (-12)) fun qr199 => pd_l qr199.1 fun r199 => pd_l qr199.2.1 fun sh198 => pd_l qr199.2.2 fun F196 =>
      Option.bind (pfL_name sh198 n F196 (-13) x7) fun qr202 => pd_l qr202.1 fun r202 => pd_l qr202.2.1 fun sh201 => pd_l qr202.2.2 fun F200 =>
      pd_i (pd_ob sh201 13 r199 = true) <|
      Option.bind (pfJ4_append_15ec4 sh201 n F200 r199 r202) fun qr206 => pd_l qr206.1 fun r206 => pd_l qr206.2.1 fun sh205 => pd_l qr206.2.2 fun F203 =>
      Option.bind (pfL_parts Ls xs sh205 n F203 (pd_w (40 + (pd_w (10 * x7)))) x2 x7 0) fun qr209 => pd_l qr209.1 fun r209 => pd_l qr209.2.1 fun sh208 => pd_l qr209.2.2 fun F207 =>
      pd_i (pd_ob sh208 13 r206 = true) <|
      Option.bind (pfJ4_append_15ec4 sh208 n F207 r206 r209) fun qr213 => pd_l qr213.1 fun r213 => pd_l qr213.2.1 fun sh212 => pd_l qr213.2.2 fun F210 =>
      pd_i (pd_ob sh212 13 r213 = true) <|
      Option.bind (pfJ4_append_15ec4 sh212 n F210 r213 (-5)) fun qr217 => pd_l qr217.1 fun r217 => pd_l qr217.2.1 fun sh216 => pd_l qr217.2.2 fun F214 =>
      pd_i (pd_ob sh216 13 r217 = true) <|
      Option.bind (pfJ4_toString_0e30d sh216 n F214 r217) fun qr221 => pd_l qr221.1 fun r221 => pd_l qr221.2.1 fun sh220 => pd_l qr221.2.2 fun F218 =>
      pd_i (r221 ≠ 0) <|
      pd_l (pd_w (x6 + 1)) fun x6_279 =>
      pd_l (pd_w (x7 + 1)) fun x7_282 =>
      pfL_begins_b217 Ls xs n k sh220 F218 x0 x2 x3 x4 r221 x6_279 x7_282
def pfL_begins_b214 (Ls : Int) (xs : Int → Int) (n : Nat)  (sh : pd_S) (F : pd_F) (x0 : Int) (x2 : Int) (x3 : Int) (x4 : Int) (x5 : Int) (x6 : Int) : Option (Int × pd_S × pd_F) :=
  pfL_begins_b217 Ls xs n 4 sh F x0 x2 x3 x4 x5 x6 0
def pfL_begins_b96 (Ls : Int) (xs : Int → Int) (n : Nat)  : Nat → pd_S → pd_F → Int → Int → Int → Int → Int → Int → Int → Option (Int × pd_S × pd_F)
  | 0, _, _, _, _, _, _, _, _, _ => none
  | k + 1, sh, F, x0, x2, x3, x4, x5, x6, x7 =>
    if x7 ≥ x2 then
      pfL_begins_b214 Ls xs n sh F x0 x2 x3 x4 x5 x6
    else
      pd_l ((sh.length : Int) + 1) fun o225 => pd_l (pd_z F (sh.length + 1)) fun F224 => pd_l (sh ++ [(4, 13, 4)]) fun sh223 =>
      pd_i (1 ≤ o225) <|
      Option.bind (pfJ4_init_da8c8 sh223 n F224 o225) fun qsh228 => pd_l qsh228.1 fun sh228 => pd_l qsh228.2 fun F226 =>
      pd_i (pd_ob sh228 13 o225 = true) <|
      Option.bind (pfJ4_append_15ec4 sh228 n F226 o225 x5) fun qr232 => pd_l qr232.1 fun r232 => pd_l qr232.2.1 fun sh231 => pd_l qr232.2.2 fun F229 =>
      pd_i (pd_ob sh231 13 r232 = true) <|
      Option.bind (pfJ4_append_15ec4 sh231 n F229 r232 (-6)) fun qr236 => pd_l qr236.1 fun r236 => pd_l qr236.2.1 fun sh235 => pd_l qr236.2.2 fun F233 =>
      Option.bind (pfL_name sh235 n F233 (-7) x7) fun qr239 => pd_l qr239.1 fun r239 => pd_l qr239.2.1 fun sh238 => pd_l qr239.2.2 fun F237 =>
      pd_i (pd_ob sh238 13 r236 = true) <|
      Option.bind (pfJ4_append_15ec4 sh238 n F237 r236 r239) fun qr243 => pd_l qr243.1 fun r243 => pd_l qr243.2.1 fun sh242 => pd_l qr243.2.2 fun F240 =>
      pd_i (pd_ob sh242 13 r243 = true) <|
      Option.bind (pfJ4_append_15ec4 sh242 n F240 r243 (-8)) fun qr247 => pd_l qr247.1 fun r247 => pd_l qr247.2.1 fun sh246 => pd_l qr247.2.2 fun F244 =>
      Option.bind (pfL_some Ls xs sh246 n F244 (pd_w (10 + x7)) 5) fun qr249 => pd_l qr249.1 fun r249 => pd_l qr249.2 fun F248 =>
      pd_i (pd_ob sh246 13 r247 = true) <|
      Option.bind (pfJ4_append_bf812 sh246 n F248 r247 (pd_w (1 + r249))) fun qr253 => pd_l qr253.1 fun r253 => pd_l qr253.2.1 fun sh252 => pd_l qr253.2.2 fun F250 =>
      Option.bind (pfL_some Ls xs sh252 n F250 (pd_w (20 + x7)) 3) fun qr255 => pd_l qr255.1 fun r255 => pd_l qr255.2 fun F254 =>
      if r255 ≠ 0 then
        pfL_begins_b169 Ls xs n (pfL_begins_b96 Ls xs n k) sh252 F254 x0 x2 x3 x4 x6 x7 (-10) r253
      else
        pfL_begins_b169 Ls xs n (pfL_begins_b96 Ls xs n k) sh252 F254 x0 x2 x3 x4 x6 x7 (-9) r253
def pfL_begins (Ls : Int) (xs : Int → Int) (sh : pd_S) (n : Nat) (F : pd_F) (x0 : Int) : Option (Int × pd_S × pd_F) :=
  Option.bind (pfL_some Ls xs sh n F 0 4) fun qr257 => pd_l qr257.1 fun r257 => pd_l qr257.2 fun F256 =>
  pd_l (pd_w (3 + r257)) fun x2_8 =>
  Option.bind (pfL_some Ls xs sh n F256 1 4) fun qr259 => pd_l qr259.1 fun r259 => pd_l qr259.2 fun F258 =>
  Option.bind (pfL_some Ls xs sh n F258 2 4) fun qr261 => pd_l qr261.1 fun r261 => pd_l qr261.2 fun F260 =>
  pd_l (pd_w (2 + r261)) fun x4_24 =>
  pd_l ((sh.length : Int) + 1) fun o264 => pd_l (pd_z F260 (sh.length + 1)) fun F263 => pd_l (sh ++ [(4, 13, 4)]) fun sh262 =>
  pd_i (1 ≤ o264) <|
  Option.bind (pfJ4_init_da8c8 sh262 n F263 o264) fun qsh267 => pd_l qsh267.1 fun sh267 => pd_l qsh267.2 fun F265 =>
  pd_i (pd_ob sh267 13 o264 = true) <|
  Option.bind (pfJ4_append_15ec4 sh267 n F265 o264 (-2)) fun qr271 => pd_l qr271.1 fun r271 => pd_l qr271.2.1 fun sh270 => pd_l qr271.2.2 fun F268 =>
  Option.bind (pfL_some Ls xs sh270 n F268 3 3000) fun qr273 => pd_l qr273.1 fun r273 => pd_l qr273.2 fun F272 =>
  pd_i (pd_ob sh270 13 r271 = true) <|
  Option.bind (pfJ4_append_bf812 sh270 n F272 r271 r273) fun qr277 => pd_l qr277.1 fun r277 => pd_l qr277.2.1 fun sh276 => pd_l qr277.2.2 fun F274 =>
  pd_i (pd_ob sh276 13 r277 = true) <|
  Option.bind (pfJ4_append_15ec4 sh276 n F274 r277 (-3)) fun qr281 => pd_l qr281.1 fun r281 => pd_l qr281.2.1 fun sh280 => pd_l qr281.2.2 fun F278 =>
  Option.bind (pfL_some Ls xs sh280 n F278 4 40) fun qr283 => pd_l qr283.1 fun r283 => pd_l qr283.2 fun F282 =>
  pd_i (pd_ob sh280 13 r281 = true) <|
  Option.bind (pfJ4_append_bf812 sh280 n F282 r281 r283) fun qr287 => pd_l qr287.1 fun r287 => pd_l qr287.2.1 fun sh286 => pd_l qr287.2.2 fun F284 =>
  pd_i (pd_ob sh286 13 r287 = true) <|
  Option.bind (pfJ4_append_15ec4 sh286 n F284 r287 (-4)) fun qr291 => pd_l qr291.1 fun r291 => pd_l qr291.2.1 fun sh290 => pd_l qr291.2.2 fun F288 =>
  Option.bind (pfL_some Ls xs sh290 n F288 5 2000) fun qr293 => pd_l qr293.1 fun r293 => pd_l qr293.2 fun F292 =>
  pd_i (pd_ob sh290 13 r291 = true) <|
  Option.bind (pfJ4_append_bf812 sh290 n F292 r291 r293) fun qr297 => pd_l qr297.1 fun r297 => pd_l qr297.2.1 fun sh296 => pd_l qr297.2.2 fun F294 =>
  pd_i (pd_ob sh296 13 r297 = true) <|
  Option.bind (pfJ4_append_15ec4 sh296 n F294 r297 (-5)) fun qr301 => pd_l qr301.1 fun r301 => pd_l qr301.2.1 fun sh300 => pd_l qr301.2.2 fun F298 =>
  pd_i (pd_ob sh300 13 r301 = true) <|
  Option.bind (pfJ4_toString_0e30d sh300 n F298 r301) fun qr305 => pd_l qr305.1 fun r305 => pd_l qr305.2.1 fun sh304 => pd_l qr305.2.2 fun F302 =>
  pd_i (r305 ≠ 0) <|
  pfL_begins_b96 Ls xs n 7 sh304 F302 x0 x2_8 r259 x4_24 r305 3 0
set_option maxHeartbeats 4000000 in
set_option maxRecDepth 100000 in
theorem pkL_cell (E : pd_E) (l : Launch) {al : Bool} {Ls : Int} {xs : Int → Int} (hLs : Ls = (E.2.2.2 21 : Nat) ∧ Ls < 2147483648) (hxs : ∀ j : Int, 0 ≤ j → j < Ls → xs j = (Int32.ofNat (E.2.2.2 (22 + j.toNat))).toInt) {sh : pd_S} {n : Nat} {F : pd_F} {x1 : Int} {ρ : Int} {Fz : pd_F} (hf : pfL_cell Ls xs sh n F x1 = some (ρ, Fz)) : pd_CE E l yL_cell (Cond.code yL_cell cL_cell 2 (some .int) :: pd_gt) (pd_rm 1 0 0) al 0 0 sh F [pd_R (-60), pd_I x1] (some (pd_I ρ)) sh Fz := by
  unfold pfL_cell at hf
  refine pd_bodyE (L := [pd_R (-60), pd_I x1]) (by decide +kernel) (Nat.le_of_ble_eq_true rfl) rfl ?_
  refine pd_aload_n (i := 0) dL_cell_0 rfl rfl ?_
  refine pd_xlen dL_cell_1 hLs ?_
  refine pd_if_ne (tgt := 9) dL_cell_2 (by decide) (fun hc => ?_) (fun hc => ?_)
  · have hf := pd_ip hf hc
    refine pd_aload_n (i := 0) dL_cell_9 rfl rfl ?_
    refine pd_iload_n (i := 1) dL_cell_10 rfl rfl ?_
    refine pd_aload_n (i := 0) dL_cell_11 rfl rfl ?_
    refine pd_xlen dL_cell_12 hLs ?_
    obtain ⟨hg1, hf⟩ := pd_ig hf
    refine pd_irem dL_cell_13 hg1 ?_
    obtain ⟨hg2, hf⟩ := pd_ig hf
    refine pd_xld dL_cell_14 hLs hxs hg2 ?_
    refine pd_ldc (x := 40503) dL_cell_15 pq_898 (by decide +kernel) ?_
    refine pd_iload_n (i := 1) dL_cell_17 rfl rfl ?_
    refine pd_aload_n (i := 0) dL_cell_18 rfl rfl ?_
    refine pd_xlen dL_cell_19 hLs ?_
    refine pd_idiv dL_cell_20 hg1 ?_
    refine pd_imul dL_cell_21 ?_
    refine pd_ixor dL_cell_22 ?_
    obtain ⟨h1, h2⟩ := pd_inj hf
    subst h1 h2
    exact pd_iret dL_cell_23 rfl (Nat.le_refl 0) (Nat.le_refl 0)
  · have hf := pd_iq hf hc
    refine pd_iconst dL_cell_5 (by decide) ?_
    refine pd_goto (tgt := 23) dL_cell_6 (by decide) ?_
    obtain ⟨h1, h2⟩ := pd_inj hf
    subst h1 h2
    exact pd_iret dL_cell_23 rfl (Nat.le_refl 0) (Nat.le_refl 0)
set_option maxHeartbeats 4000000 in
set_option maxRecDepth 100000 in
theorem pkL_some (E : pd_E) (l : Launch) {al : Bool} {Ls : Int} {xs : Int → Int} (hLs : Ls = (E.2.2.2 21 : Nat) ∧ Ls < 2147483648) (hxs : ∀ j : Int, 0 ≤ j → j < Ls → xs j = (Int32.ofNat (E.2.2.2 (22 + j.toNat))).toInt) {sh : pd_S} {n : Nat} {F : pd_F} {x1 : Int} {x2 : Int} {ρ : Int} {Fz : pd_F} (hf : pfL_some Ls xs sh n F x1 x2 = some (ρ, Fz)) : pd_CE E l yL_some (Cond.code yL_some cL_some 3 (some .int) :: pd_gt) (pd_rm 2 0 0) al 0 0 sh F [pd_R (-60), pd_I x1, pd_I x2] (some (pd_I ρ)) sh Fz := by
  unfold pfL_some at hf
  refine pd_bodyE (L := [pd_R (-60), pd_I x1, pd_I x2]) (by decide +kernel) (Nat.le_of_ble_eq_true rfl) rfl ?_
  refine pd_aload_n (i := 0) dL_some_0 rfl rfl ?_
  refine pd_iload_n (i := 1) dL_some_1 rfl rfl ?_
  obtain ⟨r2, F1, hr, hf⟩ := pd_ob2 hf
  refine pd_callSE (pkL_cell E l hLs hxs hr) dL_some_2 pq_899 pq_902 (pd_okm (by omega) (by decide) pq_900 pq_901 (by decide) (show (parseMethodDescriptor yL_cell.desc).map (fun d => d.parameters.length) = some 2 from by decide +kernel)) (Nat.le_of_ble_eq_true rfl) rfl ?_
  refine pd_ldc (x := 65535) dL_some_5 pq_903 (by decide +kernel) ?_
  refine pd_iand dL_some_7 ?_
  refine pd_iload_n (i := 2) dL_some_8 rfl rfl ?_
  obtain ⟨hg3, hf⟩ := pd_ig hf
  refine pd_irem dL_some_9 hg3 ?_
  obtain ⟨h1, h2⟩ := pd_inj hf
  subst h1 h2
  exact pd_iret dL_some_10 rfl (Nat.le_refl 0) (Nat.le_refl 0)
set_option maxHeartbeats 8000000 in
set_option maxRecDepth 100000 in
theorem pkL_name (l : Launch) {sh : pd_S} {n : Nat} {F : pd_F} {x0 : Int} {x1 : Int} {ρ : Int} {shz : pd_S} {Fz : pd_F} (hf : pfL_name sh n F x0 x1 = some (ρ, shz, Fz)) : pd_C l yL_name (Cond.code yL_name cL_name 2 (some (.object "java/lang/String")) :: pd_gt) (pd_rm 7 6 (pd_U * 6)) true 6 (pd_U * 6) sh F [pd_R x0, pd_I x1] (some (pd_R ρ)) shz Fz := by
  unfold pfL_name at hf
  have hU : 8 ≤ pd_U := by decide
  refine pd_body (L := [pd_R x0, pd_I x1]) (by decide +kernel) (Nat.le_of_ble_eq_true rfl) rfl (fun E => ?_)
  refine pd_new dL_name_0 (show vwCl[13]? = some (RX13, TX13, 4) from rfl) pin_13 tyX13_ok pq_904 pq_905 pq_906 (by decide) ⟨by show _ ≤ 6; omega, by show _ ≤ pd_U * 6; omega⟩ ?_
  refine pd_topR (fun o3 eo3 => ?_)
  have hf := pd_lt hf eo3
  refine pd_topF (fun F2 eF2 => ?_)
  have hf := pd_lt hf eF2
  refine pd_topS (fun sh1 esh1 => ?_)
  have hf := pd_lt hf esh1
  clear esh1 eF2 eo3
  refine pd_dup dL_name_3 rfl ?_
  obtain ⟨hg5, hf⟩ := pd_ig hf
  obtain ⟨sh6, F4, hr, hf⟩ := pd_ob2 hf
  refine pd_callI (pkJ4_init_da8c8 l hr) dL_name_4 pq_907 pq_910 rfl hg5 (pd_okA (by omega) (by decide) (by omega) (by omega) pq_908 pq_909 (by decide) (show (parseMethodDescriptor yJ4_init_da8c8.desc).map (fun d => d.parameters.length) = some 0 from by decide +kernel)) (Nat.le_of_ble_eq_true rfl) rfl ?_
  refine pd_aload_n (i := 0) dL_name_7 rfl rfl ?_
  obtain ⟨hg8, hf⟩ := pd_ig hf
  obtain ⟨r10, sh9, F7, hr, hf⟩ := pd_ob3 hf
  refine pd_callV (pkJ4_append_15ec4 l hr) dL_name_8 pq_911 pq_914 pq_915 (show vwCl[13]? = some (yJ4_append_15ec4.cls, TX13, 4) from rfl) hg8 (pd_okA (by omega) (by decide) (by omega) (by omega) pq_912 pq_913 (by decide) (show (parseMethodDescriptor yJ4_append_15ec4.desc).map (fun d => d.parameters.length) = some 1 from by decide +kernel)) (Nat.le_of_ble_eq_true rfl) rfl ?_
  refine pd_bipush dL_name_11 (by decide) ?_
  refine pd_iload_n (i := 1) dL_name_13 rfl rfl ?_
  refine pd_iadd dL_name_14 ?_
  refine pd_i2c dL_name_15 ?_
  obtain ⟨hg12, hf⟩ := pd_ig hf
  obtain ⟨r14, sh13, F11, hr, hf⟩ := pd_ob3 hf
  refine pd_callV (pkJ4_append_cf468 l hr) dL_name_16 pq_916 pq_919 pq_920 (show vwCl[13]? = some (yJ4_append_cf468.cls, TX13, 4) from rfl) hg12 (pd_okA (by omega) (by decide) (by omega) (by omega) pq_917 pq_918 (by decide) (show (parseMethodDescriptor yJ4_append_cf468.desc).map (fun d => d.parameters.length) = some 1 from by decide +kernel)) (Nat.le_of_ble_eq_true rfl) rfl ?_
  obtain ⟨hg16, hf⟩ := pd_ig hf
  obtain ⟨r18, sh17, F15, hr, hf⟩ := pd_ob3 hf
  refine pd_callV (pkJ4_toString_0e30d l hr) dL_name_19 pq_921 pq_924 pq_925 (show vwCl[13]? = some (yJ4_toString_0e30d.cls, TX13, 4) from rfl) hg16 (pd_okA (by omega) (by decide) (by omega) (by omega) pq_922 pq_923 (by decide) (show (parseMethodDescriptor yJ4_toString_0e30d.desc).map (fun d => d.parameters.length) = some 0 from by decide +kernel)) (Nat.le_of_ble_eq_true rfl) rfl ?_
  obtain ⟨h1, h2, h3⟩ := pd_inj3 hf
  subst h1 h2 h3
  exact pd_aret dL_name_22 rfl (by first | exact Or.inl ⟨_, rfl⟩ | exact Or.inr ⟨_, rfl⟩) (by omega) (by omega)
set_option maxHeartbeats 8000000 in
set_option maxRecDepth 100000 in
theorem pkL_parts_b103 (E : pd_E) (l : Launch) {Ls : Int} {xs : Int → Int} (hLs : Ls = (E.2.2.2 21 : Nat) ∧ Ls < 2147483648) (hxs : ∀ j : Int, 0 ≤ j → j < Ls → xs j = (Int32.ofNat (E.2.2.2 (22 + j.toNat))).toInt) {n : Nat} {shz : pd_S} {ρ : Int} {Fz : pd_F}  (cells slots : Nat) (hc0 : cells + 15 ≤ 75) (hs0 : slots + pd_U * 15 ≤ pd_U * 75) (sh : pd_S) (F : pd_F) (x1 : Int) (x3 : Int) (x5 : Int) (hf : pfL_parts_b103 Ls xs n  sh F x1 x3 x5 = some (ρ, shz, Fz)) : pd_V E l (pd_rm 8 75 (pd_U * 75)) (RL, cL_parts, 9, (some (.object "java/lang/String")), "parts") (pd_Qm E true (some (pd_R ρ)) shz Fz 75 (pd_U * 75)) true cells slots sh F 103 [pd_R (-60), pd_I x1, pd_N, pd_I x3, pd_N, pd_R x5, pd_N, pd_N, pd_N] [] := by
  unfold pfL_parts_b103 at hf
  have hU : 8 ≤ pd_U := by decide
  refine pd_iload_n (i := 3) dL_parts_103 rfl rfl ?_
  refine pd_if_le (tgt := 175) dL_parts_104 (by decide) (fun hc => ?_) (fun hc => ?_)
  · have hf := pd_ip hf hc
    refine pd_aload (i := 5) dL_parts_175 rfl ?_
    obtain ⟨h1, h2, h3⟩ := pd_inj3 hf
    subst h1 h2 h3
    exact pd_aret dL_parts_177 rfl (by first | exact Or.inl ⟨_, rfl⟩ | exact Or.inr ⟨_, rfl⟩) (by omega) (by omega)
  · have hf := pd_in_ hf hc
    refine pd_aload_n (i := 0) dL_parts_107 rfl rfl ?_
    refine pd_iload_n (i := 1) dL_parts_108 rfl rfl ?_
    refine pd_bipush dL_parts_109 (by decide) ?_
    refine pd_iadd dL_parts_111 ?_
    refine pd_iconst dL_parts_112 (by decide) ?_
    obtain ⟨r2, F1, hr, hf⟩ := pd_ob2 hf
    refine pd_callSE (pkL_some E l hLs hxs hr) dL_parts_113 pq_926 pq_929 (pd_okA (by omega) (by decide) (by omega) (by omega) pq_927 pq_928 (by decide) (show (parseMethodDescriptor yL_some.desc).map (fun d => d.parameters.length) = some 3 from by decide +kernel)) (Nat.le_of_ble_eq_true rfl) rfl ?_
    refine pd_if_ne (tgt := 175) dL_parts_116 (by decide) (fun hc => ?_) (fun hc => ?_)
    · have hf := pd_ip hf hc
      refine pd_aload (i := 5) dL_parts_175 rfl ?_
      obtain ⟨h1, h2, h3⟩ := pd_inj3 hf
      subst h1 h2 h3
      exact pd_aret dL_parts_177 rfl (by first | exact Or.inl ⟨_, rfl⟩ | exact Or.inr ⟨_, rfl⟩) (by omega) (by omega)
    · have hf := pd_iq hf hc
      refine pd_new dL_parts_119 (show vwCl[13]? = some (RX13, TX13, 4) from rfl) pin_13 tyX13_ok pq_904 pq_905 pq_906 (by decide) ⟨by show _ ≤ 75; omega, by show _ ≤ pd_U * 75; omega⟩ ?_
      refine pd_topR (fun o5 eo5 => ?_)
      have hf := pd_lt hf eo5
      refine pd_topF (fun F4 eF4 => ?_)
      have hf := pd_lt hf eF4
      refine pd_topS (fun sh3 esh3 => ?_)
      have hf := pd_lt hf esh3
      clear esh3 eF4 eo5
      refine pd_dup dL_parts_122 rfl ?_
      obtain ⟨hg7, hf⟩ := pd_ig hf
      obtain ⟨sh8, F6, hr, hf⟩ := pd_ob2 hf
      refine pd_callI (pkJ4_init_da8c8 l hr) dL_parts_123 pq_907 pq_910 rfl hg7 (pd_okA (by omega) (by decide) (by omega) (by omega) pq_908 pq_909 (by decide) (show (parseMethodDescriptor yJ4_init_da8c8.desc).map (fun d => d.parameters.length) = some 0 from by decide +kernel)) (Nat.le_of_ble_eq_true rfl) rfl ?_
      refine pd_aload (i := 5) dL_parts_126 rfl ?_
      obtain ⟨hg10, hf⟩ := pd_ig hf
      obtain ⟨r12, sh11, F9, hr, hf⟩ := pd_ob3 hf
      refine pd_callV (pkJ4_append_15ec4 l hr) dL_parts_128 pq_911 pq_914 pq_915 (show vwCl[13]? = some (yJ4_append_15ec4.cls, TX13, 4) from rfl) hg10 (pd_okA (by omega) (by decide) (by omega) (by omega) pq_912 pq_913 (by decide) (show (parseMethodDescriptor yJ4_append_15ec4.desc).map (fun d => d.parameters.length) = some 1 from by decide +kernel)) (Nat.le_of_ble_eq_true rfl) rfl ?_
      refine pd_ldcS (k0 := 7) dL_parts_131 rfl ?_
      obtain ⟨hg14, hf⟩ := pd_ig hf
      obtain ⟨r16, sh15, F13, hr, hf⟩ := pd_ob3 hf
      refine pd_callV (pkJ4_append_15ec4 l hr) dL_parts_133 pq_911 pq_914 pq_915 (show vwCl[13]? = some (yJ4_append_15ec4.cls, TX13, 4) from rfl) hg14 (pd_okA (by omega) (by decide) (by omega) (by omega) pq_912 pq_913 (by decide) (show (parseMethodDescriptor yJ4_append_15ec4.desc).map (fun d => d.parameters.length) = some 1 from by decide +kernel)) (Nat.le_of_ble_eq_true rfl) rfl ?_
      refine pd_ldcS (k0 := 12) dL_parts_136 rfl ?_
      refine pd_aload_n (i := 0) dL_parts_138 rfl rfl ?_
      refine pd_iload_n (i := 1) dL_parts_139 rfl rfl ?_
      refine pd_bipush dL_parts_140 (by decide) ?_
      refine pd_iadd dL_parts_142 ?_
      refine pd_iload_n (i := 3) dL_parts_143 rfl rfl ?_
      obtain ⟨r18, F17, hr, hf⟩ := pd_ob2 hf
      refine pd_callSE (pkL_some E l hLs hxs hr) dL_parts_144 pq_926 pq_929 (pd_okA (by omega) (by decide) (by omega) (by omega) pq_927 pq_928 (by decide) (show (parseMethodDescriptor yL_some.desc).map (fun d => d.parameters.length) = some 3 from by decide +kernel)) (Nat.le_of_ble_eq_true rfl) rfl ?_
      obtain ⟨r21, sh20, F19, hr, hf⟩ := pd_ob3 hf
      refine pd_callS (pkL_name l hr) dL_parts_147 pq_930 pq_933 (pd_okA (by omega) (by decide) (by omega) (by omega) pq_931 pq_932 (by decide) (show (parseMethodDescriptor yL_name.desc).map (fun d => d.parameters.length) = some 2 from by decide +kernel)) (Nat.le_of_ble_eq_true rfl) rfl ?_
      obtain ⟨hg23, hf⟩ := pd_ig hf
      obtain ⟨r25, sh24, F22, hr, hf⟩ := pd_ob3 hf
      refine pd_callV (pkJ4_append_15ec4 l hr) dL_parts_150 pq_911 pq_914 pq_915 (show vwCl[13]? = some (yJ4_append_15ec4.cls, TX13, 4) from rfl) hg23 (pd_okA (by omega) (by decide) (by omega) (by omega) pq_912 pq_913 (by decide) (show (parseMethodDescriptor yJ4_append_15ec4.desc).map (fun d => d.parameters.length) = some 1 from by decide +kernel)) (Nat.le_of_ble_eq_true rfl) rfl ?_
      refine pd_ldcS (k0 := 7) dL_parts_153 rfl ?_
      obtain ⟨hg27, hf⟩ := pd_ig hf
      obtain ⟨r29, sh28, F26, hr, hf⟩ := pd_ob3 hf
      refine pd_callV (pkJ4_append_15ec4 l hr) dL_parts_155 pq_911 pq_914 pq_915 (show vwCl[13]? = some (yJ4_append_15ec4.cls, TX13, 4) from rfl) hg27 (pd_okA (by omega) (by decide) (by omega) (by omega) pq_912 pq_913 (by decide) (show (parseMethodDescriptor yJ4_append_15ec4.desc).map (fun d => d.parameters.length) = some 1 from by decide +kernel)) (Nat.le_of_ble_eq_true rfl) rfl ?_
      refine pd_aload_n (i := 0) dL_parts_158 rfl rfl ?_
      refine pd_iload_n (i := 1) dL_parts_159 rfl rfl ?_
      refine pd_bipush dL_parts_160 (by decide) ?_
      refine pd_iadd dL_parts_162 ?_
      refine pd_iconst dL_parts_163 (by decide) ?_
      obtain ⟨r31, F30, hr, hf⟩ := pd_ob2 hf
      refine pd_callSE (pkL_some E l hLs hxs hr) dL_parts_164 pq_926 pq_929 (pd_okA (by omega) (by decide) (by omega) (by omega) pq_927 pq_928 (by decide) (show (parseMethodDescriptor yL_some.desc).map (fun d => d.parameters.length) = some 3 from by decide +kernel)) (Nat.le_of_ble_eq_true rfl) rfl ?_
      obtain ⟨hg33, hf⟩ := pd_ig hf
      obtain ⟨r35, sh34, F32, hr, hf⟩ := pd_ob3 hf
      refine pd_callV (pkJ4_append_bf812 l hr) dL_parts_167 pq_934 pq_937 pq_938 (show vwCl[13]? = some (yJ4_append_bf812.cls, TX13, 4) from rfl) hg33 (pd_okA (by omega) (by decide) (by omega) (by omega) pq_935 pq_936 (by decide) (show (parseMethodDescriptor yJ4_append_bf812.desc).map (fun d => d.parameters.length) = some 1 from by decide +kernel)) (Nat.le_of_ble_eq_true rfl) rfl ?_
      obtain ⟨hg37, hf⟩ := pd_ig hf
      obtain ⟨r39, sh38, F36, hr, hf⟩ := pd_ob3 hf
      refine pd_callV (pkJ4_toString_0e30d l hr) dL_parts_170 pq_921 pq_924 pq_925 (show vwCl[13]? = some (yJ4_toString_0e30d.cls, TX13, 4) from rfl) hg37 (pd_okA (by omega) (by decide) (by omega) (by omega) pq_922 pq_923 (by decide) (show (parseMethodDescriptor yJ4_toString_0e30d.desc).map (fun d => d.parameters.length) = some 0 from by decide +kernel)) (Nat.le_of_ble_eq_true rfl) rfl ?_
      obtain ⟨hg40, hf⟩ := pd_ig hf
      refine pd_astore (L' := [pd_R (-60), pd_I x1, pd_N, pd_I x3, pd_N, pd_R r39, pd_N, pd_N, pd_N]) dL_parts_173 (by decide) hg40 rfl ?_
      refine pd_aload (i := 5) dL_parts_175 rfl ?_
      obtain ⟨h1, h2, h3⟩ := pd_inj3 hf
      subst h1 h2 h3
      exact pd_aret dL_parts_177 rfl (by first | exact Or.inl ⟨_, rfl⟩ | exact Or.inr ⟨_, rfl⟩) (by omega) (by omega)
set_option maxHeartbeats 8000000 in
set_option maxRecDepth 100000 in
theorem pkL_parts_b28 (E : pd_E) (l : Launch) {Ls : Int} {xs : Int → Int} (hLs : Ls = (E.2.2.2 21 : Nat) ∧ Ls < 2147483648) (hxs : ∀ j : Int, 0 ≤ j → j < Ls → xs j = (Int32.ofNat (E.2.2.2 (22 + j.toNat))).toInt) {n : Nat} {shz : pd_S} {ρ : Int} {Fz : pd_F}  : ∀ (k cells slots : Nat) (hc0 : cells + (k * 15 + 15) ≤ 75) (hs0 : slots + (pd_U * k * 15 + pd_U * 15) ≤ pd_U * 75) (sh : pd_S) (F : pd_F) (x1 : Int) (x2 : Int) (x3 : Int) (x5 : Int) (x6 : Int) (x7 : Int) (x8 : Int), pfL_parts_b28 Ls xs n  k sh F x1 x2 x3 x5 x6 x7 x8 = some (ρ, shz, Fz) → pd_V E l (pd_rm 8 75 (pd_U * 75)) (RL, cL_parts, 9, (some (.object "java/lang/String")), "parts") (pd_Qm E true (some (pd_R ρ)) shz Fz 75 (pd_U * 75)) true cells slots sh F 28 [pd_R (-60), pd_I x1, pd_I x2, pd_I x3, pd_N, pd_R x5, pd_I x6, pd_I x7, pd_I x8] [] := by
  intro k
  induction k with
  | zero => intro cells slots _ _ sh F x1 x2 x3 x5 x6 x7 x8 hf; exact absurd hf (by unfold pfL_parts_b28; exact fun h => nomatch h)
  | succ k ih =>
    intro cells slots hc0 hs0 sh F x1 x2 x3 x5 x6 x7 x8 hf
    unfold pfL_parts_b28 at hf
    have hU : 8 ≤ pd_U := by decide
    have hUk := Nat.mul_succ pd_U k
    rw [hUk] at hs0
    clear hUk
    refine pd_iload (i := 8) dL_parts_28 rfl ?_
    refine pd_iload (i := 6) dL_parts_30 rfl ?_
    refine pd_icmp_ge (tgt := 103) dL_parts_32 (by decide) (fun hc => ?_) (fun hc => ?_)
    · have hf := pd_ip hf hc
      exact pd_weak (L' := [pd_R (-60), pd_I x1, pd_N, pd_I x3, pd_N, pd_R x5, pd_N, pd_N, pd_N]) ⟨Or.inr rfl, Or.inr rfl, Or.inl rfl, Or.inr rfl, Or.inr rfl, Or.inr rfl, Or.inl rfl, Or.inl rfl, Or.inl rfl, trivial⟩ (pkL_parts_b103 E l hLs hxs _ _ (by omega) (by omega) _ _ _ _ _ hf)
    · have hf := pd_in_ hf hc
      refine pd_iload (i := 8) dL_parts_35 rfl ?_
      refine pd_iload_n (i := 2) dL_parts_37 rfl rfl ?_
      refine pd_icmp_ge (tgt := 103) dL_parts_38 (by decide) (fun hc => ?_) (fun hc => ?_)
      · have hf := pd_ip hf hc
        exact pd_weak (L' := [pd_R (-60), pd_I x1, pd_N, pd_I x3, pd_N, pd_R x5, pd_N, pd_N, pd_N]) ⟨Or.inr rfl, Or.inr rfl, Or.inl rfl, Or.inr rfl, Or.inr rfl, Or.inr rfl, Or.inl rfl, Or.inl rfl, Or.inl rfl, trivial⟩ (pkL_parts_b103 E l hLs hxs _ _ (by omega) (by omega) _ _ _ _ _ hf)
      · have hf := pd_in_ hf hc
        refine pd_new dL_parts_41 (show vwCl[13]? = some (RX13, TX13, 4) from rfl) pin_13 tyX13_ok pq_904 pq_905 pq_906 (by decide) ⟨by show _ ≤ 75; omega, by show _ ≤ pd_U * 75; omega⟩ ?_
        refine pd_topR (fun o43 eo43 => ?_)
        have hf := pd_lt hf eo43
        refine pd_topF (fun F42 eF42 => ?_)
        have hf := pd_lt hf eF42
        refine pd_topS (fun sh41 esh41 => ?_)
        have hf := pd_lt hf esh41
        clear esh41 eF42 eo43
        refine pd_dup dL_parts_44 rfl ?_
        obtain ⟨hg45, hf⟩ := pd_ig hf
        obtain ⟨sh46, F44, hr, hf⟩ := pd_ob2 hf
        refine pd_callI (pkJ4_init_da8c8 l hr) dL_parts_45 pq_907 pq_910 rfl hg45 (pd_okA (by omega) (by decide) (by omega) (by omega) pq_908 pq_909 (by decide) (show (parseMethodDescriptor yJ4_init_da8c8.desc).map (fun d => d.parameters.length) = some 0 from by decide +kernel)) (Nat.le_of_ble_eq_true rfl) rfl ?_
        refine pd_aload (i := 5) dL_parts_48 rfl ?_
        obtain ⟨hg48, hf⟩ := pd_ig hf
        obtain ⟨r50, sh49, F47, hr, hf⟩ := pd_ob3 hf
        refine pd_callV (pkJ4_append_15ec4 l hr) dL_parts_50 pq_911 pq_914 pq_915 (show vwCl[13]? = some (yJ4_append_15ec4.cls, TX13, 4) from rfl) hg48 (pd_okA (by omega) (by decide) (by omega) (by omega) pq_912 pq_913 (by decide) (show (parseMethodDescriptor yJ4_append_15ec4.desc).map (fun d => d.parameters.length) = some 1 from by decide +kernel)) (Nat.le_of_ble_eq_true rfl) rfl ?_
        refine pd_ldcS (k0 := 7) dL_parts_53 rfl ?_
        obtain ⟨hg52, hf⟩ := pd_ig hf
        obtain ⟨r54, sh53, F51, hr, hf⟩ := pd_ob3 hf
        refine pd_callV (pkJ4_append_15ec4 l hr) dL_parts_55 pq_911 pq_914 pq_915 (show vwCl[13]? = some (yJ4_append_15ec4.cls, TX13, 4) from rfl) hg52 (pd_okA (by omega) (by decide) (by omega) (by omega) pq_912 pq_913 (by decide) (show (parseMethodDescriptor yJ4_append_15ec4.desc).map (fun d => d.parameters.length) = some 1 from by decide +kernel)) (Nat.le_of_ble_eq_true rfl) rfl ?_
        refine pd_ldcS (k0 := 6) dL_parts_58 rfl ?_
        refine pd_iload (i := 7) dL_parts_60 rfl ?_
        refine pd_iload (i := 8) dL_parts_62 rfl ?_
        refine pd_iadd dL_parts_64 ?_
        refine pd_iload_n (i := 2) dL_parts_65 rfl rfl ?_
        obtain ⟨hg55, hf⟩ := pd_ig hf
        refine pd_irem dL_parts_66 hg55 ?_
        obtain ⟨r58, sh57, F56, hr, hf⟩ := pd_ob3 hf
        refine pd_callS (pkL_name l hr) dL_parts_67 pq_930 pq_933 (pd_okA (by omega) (by decide) (by omega) (by omega) pq_931 pq_932 (by decide) (show (parseMethodDescriptor yL_name.desc).map (fun d => d.parameters.length) = some 2 from by decide +kernel)) (Nat.le_of_ble_eq_true rfl) rfl ?_
        obtain ⟨hg60, hf⟩ := pd_ig hf
        obtain ⟨r62, sh61, F59, hr, hf⟩ := pd_ob3 hf
        refine pd_callV (pkJ4_append_15ec4 l hr) dL_parts_70 pq_911 pq_914 pq_915 (show vwCl[13]? = some (yJ4_append_15ec4.cls, TX13, 4) from rfl) hg60 (pd_okA (by omega) (by decide) (by omega) (by omega) pq_912 pq_913 (by decide) (show (parseMethodDescriptor yJ4_append_15ec4.desc).map (fun d => d.parameters.length) = some 1 from by decide +kernel)) (Nat.le_of_ble_eq_true rfl) rfl ?_
        refine pd_ldcS (k0 := 7) dL_parts_73 rfl ?_
        obtain ⟨hg64, hf⟩ := pd_ig hf
        obtain ⟨r66, sh65, F63, hr, hf⟩ := pd_ob3 hf
        refine pd_callV (pkJ4_append_15ec4 l hr) dL_parts_75 pq_911 pq_914 pq_915 (show vwCl[13]? = some (yJ4_append_15ec4.cls, TX13, 4) from rfl) hg64 (pd_okA (by omega) (by decide) (by omega) (by omega) pq_912 pq_913 (by decide) (show (parseMethodDescriptor yJ4_append_15ec4.desc).map (fun d => d.parameters.length) = some 1 from by decide +kernel)) (Nat.le_of_ble_eq_true rfl) rfl ?_
        refine pd_aload_n (i := 0) dL_parts_78 rfl rfl ?_
        refine pd_iload_n (i := 1) dL_parts_79 rfl rfl ?_
        refine pd_iconst dL_parts_80 (by decide) ?_
        refine pd_iadd dL_parts_81 ?_
        refine pd_iload (i := 8) dL_parts_82 rfl ?_
        refine pd_iadd dL_parts_84 ?_
        refine pd_iconst dL_parts_85 (by decide) ?_
        obtain ⟨r68, F67, hr, hf⟩ := pd_ob2 hf
        refine pd_callSE (pkL_some E l hLs hxs hr) dL_parts_86 pq_926 pq_929 (pd_okA (by omega) (by decide) (by omega) (by omega) pq_927 pq_928 (by decide) (show (parseMethodDescriptor yL_some.desc).map (fun d => d.parameters.length) = some 3 from by decide +kernel)) (Nat.le_of_ble_eq_true rfl) rfl ?_
        obtain ⟨hg70, hf⟩ := pd_ig hf
        obtain ⟨r72, sh71, F69, hr, hf⟩ := pd_ob3 hf
        refine pd_callV (pkJ4_append_bf812 l hr) dL_parts_89 pq_934 pq_937 pq_938 (show vwCl[13]? = some (yJ4_append_bf812.cls, TX13, 4) from rfl) hg70 (pd_okA (by omega) (by decide) (by omega) (by omega) pq_935 pq_936 (by decide) (show (parseMethodDescriptor yJ4_append_bf812.desc).map (fun d => d.parameters.length) = some 1 from by decide +kernel)) (Nat.le_of_ble_eq_true rfl) rfl ?_
        obtain ⟨hg74, hf⟩ := pd_ig hf
        obtain ⟨r76, sh75, F73, hr, hf⟩ := pd_ob3 hf
        refine pd_callV (pkJ4_toString_0e30d l hr) dL_parts_92 pq_921 pq_924 pq_925 (show vwCl[13]? = some (yJ4_toString_0e30d.cls, TX13, 4) from rfl) hg74 (pd_okA (by omega) (by decide) (by omega) (by omega) pq_922 pq_923 (by decide) (show (parseMethodDescriptor yJ4_toString_0e30d.desc).map (fun d => d.parameters.length) = some 0 from by decide +kernel)) (Nat.le_of_ble_eq_true rfl) rfl ?_
        obtain ⟨hg77, hf⟩ := pd_ig hf
        refine pd_astore (L' := [pd_R (-60), pd_I x1, pd_I x2, pd_I x3, pd_N, pd_R r76, pd_I x6, pd_I x7, pd_I x8]) dL_parts_95 (by decide) hg77 rfl ?_
        refine pd_iincN (L' := fun y => [pd_R (-60), pd_I x1, pd_I x2, pd_I x3, pd_N, pd_R r76, pd_I x6, pd_I x7, pd_I y]) dL_parts_97 rfl (by decide) (by decide) (fun _ => rfl) (fun x8_97 ex8_97 => ?_)
        have hf := pd_lt hf ex8_97
        clear ex8_97
        refine pd_goto (tgt := 28) dL_parts_100 (by decide) ?_
        exact pd_weak (L' := [pd_R (-60), pd_I x1, pd_I x2, pd_I x3, pd_N, pd_R r76, pd_I x6, pd_I x7, pd_I x8_97]) ⟨Or.inr rfl, Or.inr rfl, Or.inr rfl, Or.inr rfl, Or.inr rfl, Or.inr rfl, Or.inr rfl, Or.inr rfl, Or.inr rfl, trivial⟩ (ih _ _ (by omega) (by omega) _ _ _ _ _ _ _ _ _ hf)
set_option maxHeartbeats 8000000 in
set_option maxRecDepth 100000 in
theorem pkL_parts (E : pd_E) (l : Launch) {Ls : Int} {xs : Int → Int} (hLs : Ls = (E.2.2.2 21 : Nat) ∧ Ls < 2147483648) (hxs : ∀ j : Int, 0 ≤ j → j < Ls → xs j = (Int32.ofNat (E.2.2.2 (22 + j.toNat))).toInt) {sh : pd_S} {n : Nat} {F : pd_F} {x1 : Int} {x2 : Int} {x3 : Int} {x4 : Int} {ρ : Int} {shz : pd_S} {Fz : pd_F} (hf : pfL_parts Ls xs sh n F x1 x2 x3 x4 = some (ρ, shz, Fz)) : pd_CE E l yL_parts (Cond.code yL_parts cL_parts 9 (some (.object "java/lang/String")) :: pd_gt) (pd_rm 8 75 (pd_U * 75)) true 75 (pd_U * 75) sh F [pd_R (-60), pd_I x1, pd_I x2, pd_I x3, pd_I x4] (some (pd_R ρ)) shz Fz := by
  unfold pfL_parts at hf
  have hU : 8 ≤ pd_U := by decide
  refine pd_bodyE (L := [pd_R (-60), pd_I x1, pd_I x2, pd_I x3, pd_I x4, pd_N, pd_N, pd_N, pd_N]) (by decide +kernel) (Nat.le_of_ble_eq_true rfl) rfl ?_
  refine pd_ldcS (k0 := 9) dL_parts_0 rfl ?_
  obtain ⟨hg78, hf⟩ := pd_ig hf
  refine pd_astore (L' := [pd_R (-60), pd_I x1, pd_I x2, pd_I x3, pd_I x4, pd_R (-10), pd_N, pd_N, pd_N]) dL_parts_2 (by decide) hg78 rfl ?_
  refine pd_iload (i := 4) dL_parts_4 rfl ?_
  refine pd_aload_n (i := 0) dL_parts_6 rfl rfl ?_
  refine pd_iload_n (i := 1) dL_parts_7 rfl rfl ?_
  refine pd_iconst dL_parts_8 (by decide) ?_
  obtain ⟨r80, F79, hr, hf⟩ := pd_ob2 hf
  refine pd_callSE (pkL_some E l hLs hxs hr) dL_parts_9 pq_926 pq_929 (pd_okA (by omega) (by decide) (by omega) (by omega) pq_927 pq_928 (by decide) (show (parseMethodDescriptor yL_some.desc).map (fun d => d.parameters.length) = some 3 from by decide +kernel)) (Nat.le_of_ble_eq_true rfl) rfl ?_
  refine pd_iadd dL_parts_12 ?_
  refine pd_topI (fun x6_13 ex6_13 => ?_)
  have hf := pd_lt hf ex6_13
  clear ex6_13
  refine pd_istore (L' := [pd_R (-60), pd_I x1, pd_I x2, pd_I x3, pd_I x4, pd_R (-10), pd_I x6_13, pd_N, pd_N]) dL_parts_13 (by decide) rfl ?_
  refine pd_aload_n (i := 0) dL_parts_15 rfl rfl ?_
  refine pd_iload_n (i := 1) dL_parts_16 rfl rfl ?_
  refine pd_iconst dL_parts_17 (by decide) ?_
  refine pd_iadd dL_parts_18 ?_
  refine pd_iload_n (i := 2) dL_parts_19 rfl rfl ?_
  obtain ⟨r82, F81, hr, hf⟩ := pd_ob2 hf
  refine pd_callSE (pkL_some E l hLs hxs hr) dL_parts_20 pq_926 pq_929 (pd_okA (by omega) (by decide) (by omega) (by omega) pq_927 pq_928 (by decide) (show (parseMethodDescriptor yL_some.desc).map (fun d => d.parameters.length) = some 3 from by decide +kernel)) (Nat.le_of_ble_eq_true rfl) rfl ?_
  refine pd_istore (L' := [pd_R (-60), pd_I x1, pd_I x2, pd_I x3, pd_I x4, pd_R (-10), pd_I x6_13, pd_I r82, pd_N]) dL_parts_23 (by decide) rfl ?_
  refine pd_iconst dL_parts_25 (by decide) ?_
  refine pd_istore (L' := [pd_R (-60), pd_I x1, pd_I x2, pd_I x3, pd_I x4, pd_R (-10), pd_I x6_13, pd_I r82, pd_I 0]) dL_parts_26 (by decide) rfl ?_
  exact pd_weak (L' := [pd_R (-60), pd_I x1, pd_I x2, pd_I x3, pd_N, pd_R (-10), pd_I x6_13, pd_I r82, pd_I 0]) ⟨Or.inr rfl, Or.inr rfl, Or.inr rfl, Or.inr rfl, Or.inl rfl, Or.inr rfl, Or.inr rfl, Or.inr rfl, Or.inr rfl, trivial⟩ (pkL_parts_b28 E l hLs hxs 4 _ _ (by omega) (by omega) _ _ _ _ _ _ _ _ _ hf)
set_option maxHeartbeats 8000000 in
set_option maxRecDepth 100000 in
theorem pkL_feeds_b64 (E : pd_E) (l : Launch) {n : Nat} {shz : pd_S} {ρ : Int} {Fz : pd_F} {c7 : pd_S → pd_F → Int → Int → Int → Int → Option (Int × pd_S × pd_F)} {B7 D7 : Nat} (hL7 : ∀ (cells slots : Nat) (hc0 : cells + B7 ≤ 51) (hs0 : slots + D7 ≤ pd_U * 51) (sh : pd_S) (F : pd_F) (x0 : Int) (x1 : Int) (x2 : Int) (x3 : Int), c7 sh F x0 x1 x2 x3 = some (ρ, shz, Fz) → pd_V E l (pd_rm 14 51 (pd_U * 51)) (RL, cL_feeds, 6, (some .int), "feeds") (pd_Qm E true (some (pd_I ρ)) shz Fz 51 (pd_U * 51)) true cells slots sh F 7 [pd_R x0, pd_R x1, pd_I x2, pd_I x3, pd_N, pd_N] []) {c20 : pd_S → pd_F → Int → Int → Int → Int → Int → Int → Option (Int × pd_S × pd_F)} {B20 D20 : Nat} (hL20 : ∀ (cells slots : Nat) (hc0 : cells + B20 ≤ 51) (hs0 : slots + D20 ≤ pd_U * 51) (sh : pd_S) (F : pd_F) (x0 : Int) (x1 : Int) (x2 : Int) (x3 : Int) (x4 : Int) (x5 : Int), c20 sh F x0 x1 x2 x3 x4 x5 = some (ρ, shz, Fz) → pd_V E l (pd_rm 14 51 (pd_U * 51)) (RL, cL_feeds, 6, (some .int), "feeds") (pd_Qm E true (some (pd_I ρ)) shz Fz 51 (pd_U * 51)) true cells slots sh F 20 [pd_R x0, pd_R x1, pd_I x2, pd_I x3, pd_R x4, pd_I x5] []) (hB20 : B7 ≤ B20) (hD20 : D7 ≤ D20) (cells slots : Nat) (hc0 : cells + 0 + B20 ≤ 51) (hs0 : slots + pd_U * 0 + D20 ≤ pd_U * 51) (sh : pd_S) (F : pd_F) (x0 : Int) (x1 : Int) (x2 : Int) (x3 : Int) (x4 : Int) (x5 : Int) (t0 : Int) (t1 : Int) (t2 : Int) (t3 : Int) (hf : pfL_feeds_b64 n c7 c20 sh F x0 x1 x2 x3 x4 x5 t0 t1 t2 t3 = some (ρ, shz, Fz)) : pd_V E l (pd_rm 14 51 (pd_U * 51)) (RL, cL_feeds, 6, (some .int), "feeds") (pd_Qm E true (some (pd_I ρ)) shz Fz 51 (pd_U * 51)) true cells slots sh F 64 [pd_R x0, pd_R x1, pd_I x2, pd_I x3, pd_R x4, pd_I x5] [pd_I t0, pd_I t1, pd_I t2, pd_R t3] := by
  unfold pfL_feeds_b64 at hf
  have hU : 8 ≤ pd_U := by decide
  refine pd_ior dL_feeds_64 ?_
  obtain ⟨hg1, hf⟩ := pd_ig hf
  refine pd_iast dL_feeds_65 hg1 ?_
  refine pd_topF (fun F2 eF2 => ?_)
  have hf := pd_lt hf eF2
  clear eF2
  refine pd_iincN (L' := fun y => [pd_R x0, pd_R x1, pd_I x2, pd_I x3, pd_R x4, pd_I y]) dL_feeds_66 rfl (by decide) (by decide) (fun _ => rfl) (fun x5_66 ex5_66 => ?_)
  have hf := pd_lt hf ex5_66
  clear ex5_66
  refine pd_goto (tgt := 20) dL_feeds_69 (by decide) ?_
  exact pd_weak (L' := [pd_R x0, pd_R x1, pd_I x2, pd_I x3, pd_R x4, pd_I x5_66]) ⟨Or.inr rfl, Or.inr rfl, Or.inr rfl, Or.inr rfl, Or.inr rfl, Or.inr rfl, trivial⟩ (hL20 _ _ (by omega) (by omega) _ _ _ _ _ _ _ _ hf)
set_option maxHeartbeats 8000000 in
set_option maxRecDepth 100000 in
theorem pkL_feeds_b72 (E : pd_E) (l : Launch) {n : Nat} {shz : pd_S} {ρ : Int} {Fz : pd_F} {c7 : pd_S → pd_F → Int → Int → Int → Int → Option (Int × pd_S × pd_F)} {B7 D7 : Nat} (hL7 : ∀ (cells slots : Nat) (hc0 : cells + B7 ≤ 51) (hs0 : slots + D7 ≤ pd_U * 51) (sh : pd_S) (F : pd_F) (x0 : Int) (x1 : Int) (x2 : Int) (x3 : Int), c7 sh F x0 x1 x2 x3 = some (ρ, shz, Fz) → pd_V E l (pd_rm 14 51 (pd_U * 51)) (RL, cL_feeds, 6, (some .int), "feeds") (pd_Qm E true (some (pd_I ρ)) shz Fz 51 (pd_U * 51)) true cells slots sh F 7 [pd_R x0, pd_R x1, pd_I x2, pd_I x3, pd_N, pd_N] []) (cells slots : Nat) (hc0 : cells + 0 + B7 ≤ 51) (hs0 : slots + pd_U * 0 + D7 ≤ pd_U * 51) (sh : pd_S) (F : pd_F) (x0 : Int) (x1 : Int) (x2 : Int) (x3 : Int) (x4 : Int) (hf : pfL_feeds_b72 n c7 sh F x0 x1 x2 x3 x4 = some (ρ, shz, Fz)) : pd_V E l (pd_rm 14 51 (pd_U * 51)) (RL, cL_feeds, 6, (some .int), "feeds") (pd_Qm E true (some (pd_I ρ)) shz Fz 51 (pd_U * 51)) true cells slots sh F 72 [pd_R x0, pd_R x1, pd_I x2, pd_I x3, pd_R x4, pd_N] [] := by
  unfold pfL_feeds_b72 at hf
  have hU : 8 ≤ pd_U := by decide
  refine pd_aload_n (i := 0) dL_feeds_72 rfl rfl ?_
  refine pd_aload (i := 4) dL_feeds_73 rfl ?_
  refine pd_iconst dL_feeds_75 (by decide) ?_
  obtain ⟨hg3, hf⟩ := pd_ig hf
  refine pd_iald dL_feeds_76 hg3 ?_
  refine pd_aload (i := 4) dL_feeds_77 rfl ?_
  refine pd_iconst dL_feeds_79 (by decide) ?_
  obtain ⟨hg4, hf⟩ := pd_ig hf
  refine pd_iald dL_feeds_80 hg4 ?_
  refine pd_aload (i := 4) dL_feeds_81 rfl ?_
  refine pd_iconst dL_feeds_83 (by decide) ?_
  obtain ⟨hg5, hf⟩ := pd_ig hf
  refine pd_iald dL_feeds_84 hg5 ?_
  refine pd_aload (i := 4) dL_feeds_85 rfl ?_
  refine pd_iconst dL_feeds_87 (by decide) ?_
  obtain ⟨hg6, hf⟩ := pd_ig hf
  refine pd_iald dL_feeds_88 hg6 ?_
  refine pd_aload (i := 4) dL_feeds_89 rfl ?_
  refine pd_iconst dL_feeds_91 (by decide) ?_
  obtain ⟨hg7, hf⟩ := pd_ig hf
  refine pd_iald dL_feeds_92 hg7 ?_
  obtain ⟨hg9, hf⟩ := pd_ig hf
  obtain ⟨r10, F8, hr, hf⟩ := pd_ob2 hf
  refine pd_callV (pkX11_feed l hr) dL_feeds_93 pq_939 pq_942 pq_943 (show vwCl[11]? = some (yX11_feed.cls, TX11, 10) from rfl) hg9 (pd_okA (by omega) (by decide) (by omega) (by omega) pq_940 pq_941 (by decide) (show (parseMethodDescriptor yX11_feed.desc).map (fun d => d.parameters.length) = some 5 from by decide +kernel)) (Nat.le_of_ble_eq_true rfl) rfl ?_
  refine pd_pop dL_feeds_96 rfl ?_
  refine pd_iincN (L' := fun y => [pd_R x0, pd_R x1, pd_I x2, pd_I y, pd_R x4, pd_N]) dL_feeds_97 rfl (by decide) (by decide) (fun _ => rfl) (fun x3_97 ex3_97 => ?_)
  have hf := pd_lt hf ex3_97
  clear ex3_97
  refine pd_goto (tgt := 7) dL_feeds_100 (by decide) ?_
  exact pd_weak (L' := [pd_R x0, pd_R x1, pd_I x2, pd_I x3_97, pd_N, pd_N]) ⟨Or.inr rfl, Or.inr rfl, Or.inr rfl, Or.inr rfl, Or.inl rfl, Or.inr rfl, trivial⟩ (hL7 _ _ (by omega) (by omega) _ _ _ _ _ _ hf)
set_option maxHeartbeats 8000000 in
set_option maxRecDepth 100000 in
theorem pkL_feeds_b20 (E : pd_E) (l : Launch) {n : Nat} {shz : pd_S} {ρ : Int} {Fz : pd_F} {c7 : pd_S → pd_F → Int → Int → Int → Int → Option (Int × pd_S × pd_F)} {B7 D7 : Nat} (hL7 : ∀ (cells slots : Nat) (hc0 : cells + B7 ≤ 51) (hs0 : slots + D7 ≤ pd_U * 51) (sh : pd_S) (F : pd_F) (x0 : Int) (x1 : Int) (x2 : Int) (x3 : Int), c7 sh F x0 x1 x2 x3 = some (ρ, shz, Fz) → pd_V E l (pd_rm 14 51 (pd_U * 51)) (RL, cL_feeds, 6, (some .int), "feeds") (pd_Qm E true (some (pd_I ρ)) shz Fz 51 (pd_U * 51)) true cells slots sh F 7 [pd_R x0, pd_R x1, pd_I x2, pd_I x3, pd_N, pd_N] []) : ∀ (k cells slots : Nat) (hc0 : cells + (k * 0 + 0) + B7 ≤ 51) (hs0 : slots + (pd_U * k * 0 + pd_U * 0) + D7 ≤ pd_U * 51) (sh : pd_S) (F : pd_F) (x0 : Int) (x1 : Int) (x2 : Int) (x3 : Int) (x4 : Int) (x5 : Int), pfL_feeds_b20 n c7 k sh F x0 x1 x2 x3 x4 x5 = some (ρ, shz, Fz) → pd_V E l (pd_rm 14 51 (pd_U * 51)) (RL, cL_feeds, 6, (some .int), "feeds") (pd_Qm E true (some (pd_I ρ)) shz Fz 51 (pd_U * 51)) true cells slots sh F 20 [pd_R x0, pd_R x1, pd_I x2, pd_I x3, pd_R x4, pd_I x5] [] := by
  intro k
  induction k with
  | zero => intro cells slots _ _ sh F x0 x1 x2 x3 x4 x5 hf; exact absurd hf (by unfold pfL_feeds_b20; exact fun h => nomatch h)
  | succ k ih =>
    intro cells slots hc0 hs0 sh F x0 x1 x2 x3 x4 x5 hf
    unfold pfL_feeds_b20 at hf
    have hU : 8 ≤ pd_U := by decide
    have hUk := Nat.mul_succ pd_U k
    rw [hUk] at hs0
    clear hUk
    refine pd_iload (i := 5) dL_feeds_20 rfl ?_
    refine pd_bipush dL_feeds_22 (by decide) ?_
    refine pd_icmp_ge (tgt := 72) dL_feeds_24 (by decide) (fun hc => ?_) (fun hc => ?_)
    · have hf := pd_ip hf hc
      exact pd_weak (L' := [pd_R x0, pd_R x1, pd_I x2, pd_I x3, pd_R x4, pd_N]) ⟨Or.inr rfl, Or.inr rfl, Or.inr rfl, Or.inr rfl, Or.inr rfl, Or.inl rfl, trivial⟩ (pkL_feeds_b72 E l hL7 _ _ (by omega) (by omega) _ _ _ _ _ _ _ hf)
    · have hf := pd_in_ hf hc
      refine pd_aload (i := 4) dL_feeds_27 rfl ?_
      refine pd_iload (i := 5) dL_feeds_29 rfl ?_
      refine pd_iconst dL_feeds_31 (by decide) ?_
      refine pd_idiv dL_feeds_32 (by decide) ?_
      refine pd_aload (i := 4) dL_feeds_33 rfl ?_
      refine pd_iload (i := 5) dL_feeds_35 rfl ?_
      refine pd_iconst dL_feeds_37 (by decide) ?_
      refine pd_idiv dL_feeds_38 (by decide) ?_
      obtain ⟨hg11, hf⟩ := pd_ig hf
      refine pd_iald dL_feeds_39 hg11 ?_
      refine pd_bipush dL_feeds_40 (by decide) ?_
      refine pd_ishl dL_feeds_42 ?_
      refine pd_iload_n (i := 3) dL_feeds_43 rfl rfl ?_
      refine pd_iload (i := 5) dL_feeds_44 rfl ?_
      refine pd_iadd dL_feeds_46 ?_
      refine pd_iload_n (i := 2) dL_feeds_47 rfl rfl ?_
      refine pd_icmp_ge (tgt := 62) dL_feeds_48 (by decide) (fun hc => ?_) (fun hc => ?_)
      · have hf := pd_ip hf hc
        refine pd_bipush dL_feeds_62 (by decide) ?_
        exact pd_weak (L' := [pd_R x0, pd_R x1, pd_I x2, pd_I x3, pd_R x4, pd_I x5]) ⟨Or.inr rfl, Or.inr rfl, Or.inr rfl, Or.inr rfl, Or.inr rfl, Or.inr rfl, trivial⟩ (pkL_feeds_b64 E l hL7 ih (by omega) (by omega) _ _ (by omega) (by omega) _ _ _ _ _ _ _ _ _ _ _ _ hf)
      · have hf := pd_in_ hf hc
        refine pd_aload_n (i := 1) dL_feeds_51 rfl rfl ?_
        refine pd_iload_n (i := 3) dL_feeds_52 rfl rfl ?_
        refine pd_iload (i := 5) dL_feeds_53 rfl ?_
        refine pd_iadd dL_feeds_55 ?_
        obtain ⟨hg13, hf⟩ := pd_ig hf
        obtain ⟨r14, F12, hr, hf⟩ := pd_ob2 hf
        refine pd_callV (pkJ0_charAt_5068e l hr) dL_feeds_56 pq_944 pq_947 pq_948 (show vwCl[12]? = some (yJ0_charAt_5068e.cls, TX12, 4) from rfl) hg13 (pd_okA (by omega) (by decide) (by omega) (by omega) pq_945 pq_946 (by decide) (show (parseMethodDescriptor yJ0_charAt_5068e.desc).map (fun d => d.parameters.length) = some 1 from by decide +kernel)) (Nat.le_of_ble_eq_true rfl) rfl ?_
        refine pd_goto (tgt := 64) dL_feeds_59 (by decide) ?_
        exact pd_weak (L' := [pd_R x0, pd_R x1, pd_I x2, pd_I x3, pd_R x4, pd_I x5]) ⟨Or.inr rfl, Or.inr rfl, Or.inr rfl, Or.inr rfl, Or.inr rfl, Or.inr rfl, trivial⟩ (pkL_feeds_b64 E l hL7 ih (by omega) (by omega) _ _ (by omega) (by omega) _ _ _ _ _ _ _ _ _ _ _ _ hf)
set_option maxHeartbeats 8000000 in
set_option maxRecDepth 100000 in
theorem pkL_feeds_b103 (E : pd_E) (l : Launch) {n : Nat} {shz : pd_S} {ρ : Int} {Fz : pd_F}  (cells slots : Nat) (hc0 : cells + 0 ≤ 51) (hs0 : slots + pd_U * 0 ≤ pd_U * 51) (sh : pd_S) (F : pd_F) (x0 : Int) (x2 : Int) (hf : pfL_feeds_b103 n  sh F x0 x2 = some (ρ, shz, Fz)) : pd_V E l (pd_rm 14 51 (pd_U * 51)) (RL, cL_feeds, 6, (some .int), "feeds") (pd_Qm E true (some (pd_I ρ)) shz Fz 51 (pd_U * 51)) true cells slots sh F 103 [pd_R x0, pd_N, pd_I x2, pd_N, pd_N, pd_N] [] := by
  unfold pfL_feeds_b103 at hf
  have hU : 8 ≤ pd_U := by decide
  refine pd_aload_n (i := 0) dL_feeds_103 rfl rfl ?_
  refine pd_iload_n (i := 2) dL_feeds_104 rfl rfl ?_
  obtain ⟨hg16, hf⟩ := pd_ig hf
  obtain ⟨r17, F15, hr, hf⟩ := pd_ob2 hf
  refine pd_callV (pkX11_book l hr) dL_feeds_105 pq_949 pq_952 pq_953 (show vwCl[11]? = some (yX11_book.cls, TX11, 10) from rfl) hg16 (pd_okA (by omega) (by decide) (by omega) (by omega) pq_950 pq_951 (by decide) (show (parseMethodDescriptor yX11_book.desc).map (fun d => d.parameters.length) = some 1 from by decide +kernel)) (Nat.le_of_ble_eq_true rfl) rfl ?_
  obtain ⟨h1, h2, h3⟩ := pd_inj3 hf
  subst h1 h2 h3
  exact pd_iret dL_feeds_108 rfl (by omega) (by omega)
set_option maxHeartbeats 8000000 in
set_option maxRecDepth 100000 in
theorem pkL_feeds_b7 (E : pd_E) (l : Launch) {n : Nat} {shz : pd_S} {ρ : Int} {Fz : pd_F}  : ∀ (k cells slots : Nat) (hc0 : cells + (k * 1 + 0) ≤ 51) (hs0 : slots + (pd_U * k * 1 + pd_U * 0) ≤ pd_U * 51) (sh : pd_S) (F : pd_F) (x0 : Int) (x1 : Int) (x2 : Int) (x3 : Int), pfL_feeds_b7 n  k sh F x0 x1 x2 x3 = some (ρ, shz, Fz) → pd_V E l (pd_rm 14 51 (pd_U * 51)) (RL, cL_feeds, 6, (some .int), "feeds") (pd_Qm E true (some (pd_I ρ)) shz Fz 51 (pd_U * 51)) true cells slots sh F 7 [pd_R x0, pd_R x1, pd_I x2, pd_I x3, pd_N, pd_N] [] := by
  intro k
  induction k with
  | zero => intro cells slots _ _ sh F x0 x1 x2 x3 hf; exact absurd hf (by unfold pfL_feeds_b7; exact fun h => nomatch h)
  | succ k ih =>
    intro cells slots hc0 hs0 sh F x0 x1 x2 x3 hf
    unfold pfL_feeds_b7 at hf
    have hU : 8 ≤ pd_U := by decide
    have hUk := Nat.mul_succ pd_U k
    rw [hUk] at hs0
    clear hUk
    refine pd_iload_n (i := 3) dL_feeds_7 rfl rfl ?_
    refine pd_iload_n (i := 2) dL_feeds_8 rfl rfl ?_
    refine pd_icmp_ge (tgt := 103) dL_feeds_9 (by decide) (fun hc => ?_) (fun hc => ?_)
    · have hf := pd_ip hf hc
      exact pd_weak (L' := [pd_R x0, pd_N, pd_I x2, pd_N, pd_N, pd_N]) ⟨Or.inr rfl, Or.inl rfl, Or.inr rfl, Or.inl rfl, Or.inr rfl, Or.inr rfl, trivial⟩ (pkL_feeds_b103 E l _ _ (by omega) (by omega) _ _ _ _ hf)
    · have hf := pd_in_ hf hc
      refine pd_iconst dL_feeds_12 (by decide) ?_
      refine pd_newI (N := 5) dL_feeds_13 pq_790 (by decide) (by decide) ⟨by show _ ≤ 51; omega, by show _ ≤ pd_U * 51; omega⟩ ?_
      refine pd_topR (fun o20 eo20 => ?_)
      have hf := pd_lt hf eo20
      refine pd_topF (fun F19 eF19 => ?_)
      have hf := pd_lt hf eF19
      refine pd_topS (fun sh18 esh18 => ?_)
      have hf := pd_lt hf esh18
      clear esh18 eF19 eo20
      obtain ⟨hg21, hf⟩ := pd_ig hf
      refine pd_astore (L' := [pd_R x0, pd_R x1, pd_I x2, pd_I x3, pd_R o20, pd_N]) dL_feeds_15 (by decide) hg21 rfl ?_
      refine pd_iconst dL_feeds_17 (by decide) ?_
      refine pd_istore (L' := [pd_R x0, pd_R x1, pd_I x2, pd_I x3, pd_R o20, pd_I 0]) dL_feeds_18 (by decide) rfl ?_
      exact pd_weak (L' := [pd_R x0, pd_R x1, pd_I x2, pd_I x3, pd_R o20, pd_I 0]) ⟨Or.inr rfl, Or.inr rfl, Or.inr rfl, Or.inr rfl, Or.inr rfl, Or.inr rfl, trivial⟩ (pkL_feeds_b20 E l ih n _ _ (by omega) (by omega) _ _ _ _ _ _ _ _ hf)
set_option maxHeartbeats 8000000 in
set_option maxRecDepth 100000 in
theorem pkL_feeds (l : Launch) {sh : pd_S} {n : Nat} {F : pd_F} {x0 : Int} {x1 : Int} {ρ : Int} {shz : pd_S} {Fz : pd_F} (hf : pfL_feeds sh n F x0 x1 = some (ρ, shz, Fz)) : pd_C l yL_feeds (Cond.code yL_feeds cL_feeds 6 (some .int) :: pd_gt) (pd_rm 14 51 (pd_U * 51)) true 51 (pd_U * 51) sh F [pd_R x0, pd_R x1] (some (pd_I ρ)) shz Fz := by
  unfold pfL_feeds at hf
  have hU : 8 ≤ pd_U := by decide
  refine pd_body (L := [pd_R x0, pd_R x1, pd_N, pd_N, pd_N, pd_N]) (by decide +kernel) (Nat.le_of_ble_eq_true rfl) rfl (fun E => ?_)
  refine pd_aload_n (i := 1) dL_feeds_0 rfl rfl ?_
  obtain ⟨hg23, hf⟩ := pd_ig hf
  obtain ⟨r24, F22, hr, hf⟩ := pd_ob2 hf
  refine pd_callV (pkJ0_length_8abf5 l hr) dL_feeds_1 pq_954 pq_85 pq_86 (show vwCl[12]? = some (yJ0_length_8abf5.cls, TX12, 4) from rfl) hg23 (pd_okA (by omega) (by decide) (by omega) (by omega) pq_83 pq_84 (by decide) (show (parseMethodDescriptor yJ0_length_8abf5.desc).map (fun d => d.parameters.length) = some 0 from by decide +kernel)) (Nat.le_of_ble_eq_true rfl) rfl ?_
  refine pd_istore_n (L' := [pd_R x0, pd_R x1, pd_I r24, pd_N, pd_N, pd_N]) dL_feeds_4 rfl (by decide) rfl ?_
  refine pd_iconst dL_feeds_5 (by decide) ?_
  refine pd_istore_n (L' := [pd_R x0, pd_R x1, pd_I r24, pd_I 0, pd_N, pd_N]) dL_feeds_6 rfl (by decide) rfl ?_
  exact pd_weak (L' := [pd_R x0, pd_R x1, pd_I r24, pd_I 0, pd_N, pd_N]) ⟨Or.inr rfl, Or.inr rfl, Or.inr rfl, Or.inr rfl, Or.inr rfl, Or.inr rfl, trivial⟩ (pkL_feeds_b7 E l 51 _ _ (by omega) (by omega) _ _ _ _ _ _ hf)
set_option maxHeartbeats 8000000 in
set_option maxRecDepth 100000 in
theorem pkL_begins_b192 (E : pd_E) (l : Launch) {Ls : Int} {xs : Int → Int} (hLs : Ls = (E.2.2.2 21 : Nat) ∧ Ls < 2147483648) (hxs : ∀ j : Int, 0 ≤ j → j < Ls → xs j = (Int32.ofNat (E.2.2.2 (22 + j.toNat))).toInt) {n : Nat} {shz : pd_S} {ρ : Int} {Fz : pd_F} {c96 : pd_S → pd_F → Int → Int → Int → Int → Int → Int → Int → Option (Int × pd_S × pd_F)} {B96 D96 : Nat} (hL96 : ∀ (cells slots : Nat) (hc0 : cells + B96 ≤ 1196) (hs0 : slots + D96 ≤ pd_U * 1196) (sh : pd_S) (F : pd_F) (x0 : Int) (x2 : Int) (x3 : Int) (x4 : Int) (x5 : Int) (x6 : Int) (x7 : Int), c96 sh F x0 x2 x3 x4 x5 x6 x7 = some (ρ, shz, Fz) → pd_V E l (pd_rm 15 1196 (pd_U * 1196)) (RL, cL_begins, 10, (some .boolean), "begins") (pd_Qm E true (some (pd_I ρ)) shz Fz 1196 (pd_U * 1196)) true cells slots sh F 96 [pd_R x0, pd_R (-60), pd_I x2, pd_I x3, pd_I x4, pd_R x5, pd_I x6, pd_I x7, pd_N, pd_N] []) (cells slots : Nat) (hc0 : cells + 4 + B96 ≤ 1196) (hs0 : slots + pd_U * 4 + D96 ≤ pd_U * 1196) (sh : pd_S) (F : pd_F) (x0 : Int) (x2 : Int) (x3 : Int) (x4 : Int) (x6 : Int) (x7 : Int) (t0 : Int) (t1 : Int) (hf : pfL_begins_b192 Ls xs n c96 sh F x0 x2 x3 x4 x6 x7 t0 t1 = some (ρ, shz, Fz)) : pd_V E l (pd_rm 15 1196 (pd_U * 1196)) (RL, cL_begins, 10, (some .boolean), "begins") (pd_Qm E true (some (pd_I ρ)) shz Fz 1196 (pd_U * 1196)) true cells slots sh F 192 [pd_R x0, pd_R (-60), pd_I x2, pd_I x3, pd_I x4, pd_N, pd_I x6, pd_I x7, pd_N, pd_N] [pd_R t0, pd_R t1] := by
  unfold pfL_begins_b192 at hf
  have hU : 8 ≤ pd_U := by decide
  obtain ⟨hg2, hf⟩ := pd_ig hf
  obtain ⟨r4, sh3, F1, hr, hf⟩ := pd_ob3 hf
  refine pd_callV (pkJ4_append_15ec4 l hr) dL_begins_192 pq_911 pq_914 pq_915 (show vwCl[13]? = some (yJ4_append_15ec4.cls, TX13, 4) from rfl) hg2 (pd_okA (by omega) (by decide) (by omega) (by omega) pq_912 pq_913 (by decide) (show (parseMethodDescriptor yJ4_append_15ec4.desc).map (fun d => d.parameters.length) = some 1 from by decide +kernel)) (Nat.le_of_ble_eq_true rfl) rfl ?_
  refine pd_ldcS (k0 := 4) dL_begins_195 rfl ?_
  obtain ⟨hg6, hf⟩ := pd_ig hf
  obtain ⟨r8, sh7, F5, hr, hf⟩ := pd_ob3 hf
  refine pd_callV (pkJ4_append_15ec4 l hr) dL_begins_197 pq_911 pq_914 pq_915 (show vwCl[13]? = some (yJ4_append_15ec4.cls, TX13, 4) from rfl) hg6 (pd_okA (by omega) (by decide) (by omega) (by omega) pq_912 pq_913 (by decide) (show (parseMethodDescriptor yJ4_append_15ec4.desc).map (fun d => d.parameters.length) = some 1 from by decide +kernel)) (Nat.le_of_ble_eq_true rfl) rfl ?_
  obtain ⟨hg10, hf⟩ := pd_ig hf
  obtain ⟨r12, sh11, F9, hr, hf⟩ := pd_ob3 hf
  refine pd_callV (pkJ4_toString_0e30d l hr) dL_begins_200 pq_921 pq_924 pq_925 (show vwCl[13]? = some (yJ4_toString_0e30d.cls, TX13, 4) from rfl) hg10 (pd_okA (by omega) (by decide) (by omega) (by omega) pq_922 pq_923 (by decide) (show (parseMethodDescriptor yJ4_toString_0e30d.desc).map (fun d => d.parameters.length) = some 0 from by decide +kernel)) (Nat.le_of_ble_eq_true rfl) rfl ?_
  obtain ⟨hg13, hf⟩ := pd_ig hf
  refine pd_astore (L' := [pd_R x0, pd_R (-60), pd_I x2, pd_I x3, pd_I x4, pd_R r12, pd_I x6, pd_I x7, pd_N, pd_N]) dL_begins_203 (by decide) hg13 rfl ?_
  refine pd_iincN (L' := fun y => [pd_R x0, pd_R (-60), pd_I x2, pd_I x3, pd_I x4, pd_R r12, pd_I y, pd_I x7, pd_N, pd_N]) dL_begins_205 rfl (by decide) (by decide) (fun _ => rfl) (fun x6_205 ex6_205 => ?_)
  have hf := pd_lt hf ex6_205
  clear ex6_205
  refine pd_iincN (L' := fun y => [pd_R x0, pd_R (-60), pd_I x2, pd_I x3, pd_I x4, pd_R r12, pd_I x6_205, pd_I y, pd_N, pd_N]) dL_begins_208 rfl (by decide) (by decide) (fun _ => rfl) (fun x7_208 ex7_208 => ?_)
  have hf := pd_lt hf ex7_208
  clear ex7_208
  refine pd_goto (tgt := 96) dL_begins_211 (by decide) ?_
  exact pd_weak (L' := [pd_R x0, pd_R (-60), pd_I x2, pd_I x3, pd_I x4, pd_R r12, pd_I x6_205, pd_I x7_208, pd_N, pd_N]) ⟨Or.inr rfl, Or.inr rfl, Or.inr rfl, Or.inr rfl, Or.inr rfl, Or.inr rfl, Or.inr rfl, Or.inr rfl, Or.inr rfl, Or.inr rfl, trivial⟩ (hL96 _ _ (by omega) (by omega) _ _ _ _ _ _ _ _ _ hf)
set_option maxHeartbeats 8000000 in
set_option maxRecDepth 100000 in
theorem pkL_begins_b169 (E : pd_E) (l : Launch) {Ls : Int} {xs : Int → Int} (hLs : Ls = (E.2.2.2 21 : Nat) ∧ Ls < 2147483648) (hxs : ∀ j : Int, 0 ≤ j → j < Ls → xs j = (Int32.ofNat (E.2.2.2 (22 + j.toNat))).toInt) {n : Nat} {shz : pd_S} {ρ : Int} {Fz : pd_F} {c96 : pd_S → pd_F → Int → Int → Int → Int → Int → Int → Int → Option (Int × pd_S × pd_F)} {B96 D96 : Nat} (hL96 : ∀ (cells slots : Nat) (hc0 : cells + B96 ≤ 1196) (hs0 : slots + D96 ≤ pd_U * 1196) (sh : pd_S) (F : pd_F) (x0 : Int) (x2 : Int) (x3 : Int) (x4 : Int) (x5 : Int) (x6 : Int) (x7 : Int), c96 sh F x0 x2 x3 x4 x5 x6 x7 = some (ρ, shz, Fz) → pd_V E l (pd_rm 15 1196 (pd_U * 1196)) (RL, cL_begins, 10, (some .boolean), "begins") (pd_Qm E true (some (pd_I ρ)) shz Fz 1196 (pd_U * 1196)) true cells slots sh F 96 [pd_R x0, pd_R (-60), pd_I x2, pd_I x3, pd_I x4, pd_R x5, pd_I x6, pd_I x7, pd_N, pd_N] []) (cells slots : Nat) (hc0 : cells + 5 + B96 ≤ 1196) (hs0 : slots + pd_U * 5 + D96 ≤ pd_U * 1196) (sh : pd_S) (F : pd_F) (x0 : Int) (x2 : Int) (x3 : Int) (x4 : Int) (x6 : Int) (x7 : Int) (t0 : Int) (t1 : Int) (hf : pfL_begins_b169 Ls xs n c96 sh F x0 x2 x3 x4 x6 x7 t0 t1 = some (ρ, shz, Fz)) : pd_V E l (pd_rm 15 1196 (pd_U * 1196)) (RL, cL_begins, 10, (some .boolean), "begins") (pd_Qm E true (some (pd_I ρ)) shz Fz 1196 (pd_U * 1196)) true cells slots sh F 169 [pd_R x0, pd_R (-60), pd_I x2, pd_I x3, pd_I x4, pd_N, pd_I x6, pd_I x7, pd_N, pd_N] [pd_R t0, pd_R t1] := by
  unfold pfL_begins_b169 at hf
  have hU : 8 ≤ pd_U := by decide
  obtain ⟨hg15, hf⟩ := pd_ig hf
  obtain ⟨r17, sh16, F14, hr, hf⟩ := pd_ob3 hf
  refine pd_callV (pkJ4_append_15ec4 l hr) dL_begins_169 pq_911 pq_914 pq_915 (show vwCl[13]? = some (yJ4_append_15ec4.cls, TX13, 4) from rfl) hg15 (pd_okA (by omega) (by decide) (by omega) (by omega) pq_912 pq_913 (by decide) (show (parseMethodDescriptor yJ4_append_15ec4.desc).map (fun d => d.parameters.length) = some 1 from by decide +kernel)) (Nat.le_of_ble_eq_true rfl) rfl ?_
  refine pd_aload_n (i := 1) dL_begins_172 rfl rfl ?_
  refine pd_bipush dL_begins_173 (by decide) ?_
  refine pd_iload (i := 7) dL_begins_175 rfl ?_
  refine pd_iadd dL_begins_177 ?_
  refine pd_iconst dL_begins_178 (by decide) ?_
  obtain ⟨r19, F18, hr, hf⟩ := pd_ob2 hf
  refine pd_callSE (pkL_some E l hLs hxs hr) dL_begins_179 pq_926 pq_929 (pd_okA (by omega) (by decide) (by omega) (by omega) pq_927 pq_928 (by decide) (show (parseMethodDescriptor yL_some.desc).map (fun d => d.parameters.length) = some 3 from by decide +kernel)) (Nat.le_of_ble_eq_true rfl) rfl ?_
  refine pd_if_ne (tgt := 190) dL_begins_182 (by decide) (fun hc => ?_) (fun hc => ?_)
  · have hf := pd_ip hf hc
    refine pd_ldcS (k0 := 9) dL_begins_190 rfl ?_
    exact pd_weak (L' := [pd_R x0, pd_R (-60), pd_I x2, pd_I x3, pd_I x4, pd_N, pd_I x6, pd_I x7, pd_N, pd_N]) ⟨Or.inr rfl, Or.inr rfl, Or.inr rfl, Or.inr rfl, Or.inr rfl, Or.inr rfl, Or.inr rfl, Or.inr rfl, Or.inr rfl, Or.inr rfl, trivial⟩ (pkL_begins_b192 E l hLs hxs hL96 _ _ (by omega) (by omega) _ _ _ _ _ _ _ _ _ _ hf)
  · have hf := pd_iq hf hc
    refine pd_ldcS (k0 := 10) dL_begins_185 rfl ?_
    refine pd_goto (tgt := 192) dL_begins_187 (by decide) ?_
    exact pd_weak (L' := [pd_R x0, pd_R (-60), pd_I x2, pd_I x3, pd_I x4, pd_N, pd_I x6, pd_I x7, pd_N, pd_N]) ⟨Or.inr rfl, Or.inr rfl, Or.inr rfl, Or.inr rfl, Or.inr rfl, Or.inr rfl, Or.inr rfl, Or.inr rfl, Or.inr rfl, Or.inr rfl, trivial⟩ (pkL_begins_b192 E l hLs hxs hL96 _ _ (by omega) (by omega) _ _ _ _ _ _ _ _ _ _ hf)
set_option maxHeartbeats 8000000 in
set_option maxRecDepth 100000 in
theorem pkL_begins_b760 (E : pd_E) (l : Launch) {Ls : Int} {xs : Int → Int} (hLs : Ls = (E.2.2.2 21 : Nat) ∧ Ls < 2147483648) (hxs : ∀ j : Int, 0 ≤ j → j < Ls → xs j = (Int32.ofNat (E.2.2.2 (22 + j.toNat))).toInt) {n : Nat} {shz : pd_S} {ρ : Int} {Fz : pd_F} {c596 : pd_S → pd_F → Int → Int → Int → Int → Option (Int × pd_S × pd_F)} {B596 D596 : Nat} (hL596 : ∀ (cells slots : Nat) (hc0 : cells + B596 ≤ 1196) (hs0 : slots + D596 ≤ pd_U * 1196) (sh : pd_S) (F : pd_F) (x0 : Int) (x2 : Int) (x4 : Int) (x7 : Int), c596 sh F x0 x2 x4 x7 = some (ρ, shz, Fz) → pd_V E l (pd_rm 15 1196 (pd_U * 1196)) (RL, cL_begins, 10, (some .boolean), "begins") (pd_Qm E true (some (pd_I ρ)) shz Fz 1196 (pd_U * 1196)) true cells slots sh F 596 [pd_R x0, pd_R (-60), pd_I x2, pd_N, pd_I x4, pd_N, pd_N, pd_I x7, pd_N, pd_N] []) (cells slots : Nat) (hc0 : cells + 0 + B596 ≤ 1196) (hs0 : slots + pd_U * 0 + D596 ≤ pd_U * 1196) (sh : pd_S) (F : pd_F) (x0 : Int) (x2 : Int) (x4 : Int) (x7 : Int) (hf : pfL_begins_b760 Ls xs n c596 sh F x0 x2 x4 x7 = some (ρ, shz, Fz)) : pd_V E l (pd_rm 15 1196 (pd_U * 1196)) (RL, cL_begins, 10, (some .boolean), "begins") (pd_Qm E true (some (pd_I ρ)) shz Fz 1196 (pd_U * 1196)) true cells slots sh F 760 [pd_R x0, pd_R (-60), pd_I x2, pd_N, pd_I x4, pd_N, pd_N, pd_I x7, pd_N, pd_N] [] := by
  unfold pfL_begins_b760 at hf
  have hU : 8 ≤ pd_U := by decide
  refine pd_iincN (L' := fun y => [pd_R x0, pd_R (-60), pd_I x2, pd_N, pd_I x4, pd_N, pd_N, pd_I y, pd_N, pd_N]) dL_begins_760 rfl (by decide) (by decide) (fun _ => rfl) (fun x7_760 ex7_760 => ?_)
  have hf := pd_lt hf ex7_760
  clear ex7_760
  refine pd_goto (tgt := 596) dL_begins_763 (by decide) ?_
  exact pd_weak (L' := [pd_R x0, pd_R (-60), pd_I x2, pd_N, pd_I x4, pd_N, pd_N, pd_I x7_760, pd_N, pd_N]) ⟨Or.inr rfl, Or.inr rfl, Or.inr rfl, Or.inr rfl, Or.inr rfl, Or.inr rfl, Or.inr rfl, Or.inr rfl, Or.inr rfl, Or.inr rfl, trivial⟩ (hL596 _ _ (by omega) (by omega) _ _ _ _ _ _ hf)
set_option maxHeartbeats 8000000 in
set_option maxRecDepth 100000 in
theorem pkL_begins_b752 (E : pd_E) (l : Launch) {Ls : Int} {xs : Int → Int} (hLs : Ls = (E.2.2.2 21 : Nat) ∧ Ls < 2147483648) (hxs : ∀ j : Int, 0 ≤ j → j < Ls → xs j = (Int32.ofNat (E.2.2.2 (22 + j.toNat))).toInt) {n : Nat} {shz : pd_S} {ρ : Int} {Fz : pd_F} {c596 : pd_S → pd_F → Int → Int → Int → Int → Option (Int × pd_S × pd_F)} {B596 D596 : Nat} (hL596 : ∀ (cells slots : Nat) (hc0 : cells + B596 ≤ 1196) (hs0 : slots + D596 ≤ pd_U * 1196) (sh : pd_S) (F : pd_F) (x0 : Int) (x2 : Int) (x4 : Int) (x7 : Int), c596 sh F x0 x2 x4 x7 = some (ρ, shz, Fz) → pd_V E l (pd_rm 15 1196 (pd_U * 1196)) (RL, cL_begins, 10, (some .boolean), "begins") (pd_Qm E true (some (pd_I ρ)) shz Fz 1196 (pd_U * 1196)) true cells slots sh F 596 [pd_R x0, pd_R (-60), pd_I x2, pd_N, pd_I x4, pd_N, pd_N, pd_I x7, pd_N, pd_N] []) (cells slots : Nat) (hc0 : cells + 0 + B596 ≤ 1196) (hs0 : slots + pd_U * 0 + D596 ≤ pd_U * 1196) (sh : pd_S) (F : pd_F) (x0 : Int) (x2 : Int) (x4 : Int) (x7 : Int) (t0 : Int) (t1 : Int) (t2 : Int) (hf : pfL_begins_b752 Ls xs n c596 sh F x0 x2 x4 x7 t0 t1 t2 = some (ρ, shz, Fz)) : pd_V E l (pd_rm 15 1196 (pd_U * 1196)) (RL, cL_begins, 10, (some .boolean), "begins") (pd_Qm E true (some (pd_I ρ)) shz Fz 1196 (pd_U * 1196)) true cells slots sh F 752 [pd_R x0, pd_R (-60), pd_I x2, pd_N, pd_I x4, pd_N, pd_N, pd_I x7, pd_N, pd_N] [pd_I t0, pd_I t1, pd_R t2] := by
  unfold pfL_begins_b752 at hf
  have hU : 8 ≤ pd_U := by decide
  obtain ⟨hg21, hf⟩ := pd_ig hf
  obtain ⟨r22, F20, hr, hf⟩ := pd_ob2 hf
  refine pd_callV (pkX11_mark l hr) dL_begins_752 pq_955 pq_958 pq_959 (show vwCl[11]? = some (yX11_mark.cls, TX11, 10) from rfl) hg21 (pd_okA (by omega) (by decide) (by omega) (by omega) pq_956 pq_957 (by decide) (show (parseMethodDescriptor yX11_mark.desc).map (fun d => d.parameters.length) = some 2 from by decide +kernel)) (Nat.le_of_ble_eq_true rfl) rfl ?_
  refine pd_if_ne (tgt := 760) dL_begins_755 (by decide) (fun hc => ?_) (fun hc => ?_)
  · have hf := pd_ip hf hc
    exact pd_weak (L' := [pd_R x0, pd_R (-60), pd_I x2, pd_N, pd_I x4, pd_N, pd_N, pd_I x7, pd_N, pd_N]) ⟨Or.inr rfl, Or.inr rfl, Or.inr rfl, Or.inr rfl, Or.inr rfl, Or.inr rfl, Or.inr rfl, Or.inr rfl, Or.inr rfl, Or.inr rfl, trivial⟩ (pkL_begins_b760 E l hLs hxs hL596 _ _ (by omega) (by omega) _ _ _ _ _ _ hf)
  · have hf := pd_iq hf hc
    refine pd_iconst dL_begins_758 (by decide) ?_
    obtain ⟨h1, h2, h3⟩ := pd_inj3 hf
    subst h1 h2 h3
    exact pd_zret dL_begins_759 rfl (by decide) (by omega) (by omega)
set_option maxHeartbeats 8000000 in
set_option maxRecDepth 100000 in
theorem pkL_begins_b721 (E : pd_E) (l : Launch) {Ls : Int} {xs : Int → Int} (hLs : Ls = (E.2.2.2 21 : Nat) ∧ Ls < 2147483648) (hxs : ∀ j : Int, 0 ≤ j → j < Ls → xs j = (Int32.ofNat (E.2.2.2 (22 + j.toNat))).toInt) {n : Nat} {shz : pd_S} {ρ : Int} {Fz : pd_F} {c596 : pd_S → pd_F → Int → Int → Int → Int → Option (Int × pd_S × pd_F)} {B596 D596 : Nat} (hL596 : ∀ (cells slots : Nat) (hc0 : cells + B596 ≤ 1196) (hs0 : slots + D596 ≤ pd_U * 1196) (sh : pd_S) (F : pd_F) (x0 : Int) (x2 : Int) (x4 : Int) (x7 : Int), c596 sh F x0 x2 x4 x7 = some (ρ, shz, Fz) → pd_V E l (pd_rm 15 1196 (pd_U * 1196)) (RL, cL_begins, 10, (some .boolean), "begins") (pd_Qm E true (some (pd_I ρ)) shz Fz 1196 (pd_U * 1196)) true cells slots sh F 596 [pd_R x0, pd_R (-60), pd_I x2, pd_N, pd_I x4, pd_N, pd_N, pd_I x7, pd_N, pd_N] []) (cells slots : Nat) (hc0 : cells + 0 + B596 ≤ 1196) (hs0 : slots + pd_U * 0 + D596 ≤ pd_U * 1196) (sh : pd_S) (F : pd_F) (x0 : Int) (x2 : Int) (x4 : Int) (x7 : Int) (x8 : Int) (x9 : Int) (hf : pfL_begins_b721 Ls xs n c596 sh F x0 x2 x4 x7 x8 x9 = some (ρ, shz, Fz)) : pd_V E l (pd_rm 15 1196 (pd_U * 1196)) (RL, cL_begins, 10, (some .boolean), "begins") (pd_Qm E true (some (pd_I ρ)) shz Fz 1196 (pd_U * 1196)) true cells slots sh F 721 [pd_R x0, pd_R (-60), pd_I x2, pd_N, pd_I x4, pd_N, pd_N, pd_I x7, pd_I x8, pd_I x9] [] := by
  unfold pfL_begins_b721 at hf
  have hU : 8 ≤ pd_U := by decide
  refine pd_iload (i := 8) dL_begins_721 rfl ?_
  refine pd_iconst dL_begins_723 (by decide) ?_
  refine pd_iand dL_begins_724 ?_
  refine pd_iconst dL_begins_725 (by decide) ?_
  refine pd_icmp_ne (tgt := 760) dL_begins_726 (by decide) (fun hc => ?_) (fun hc => ?_)
  · have hf := pd_ip hf hc
    exact pd_weak (L' := [pd_R x0, pd_R (-60), pd_I x2, pd_N, pd_I x4, pd_N, pd_N, pd_I x7, pd_N, pd_N]) ⟨Or.inr rfl, Or.inr rfl, Or.inr rfl, Or.inr rfl, Or.inr rfl, Or.inr rfl, Or.inr rfl, Or.inr rfl, Or.inl rfl, Or.inl rfl, trivial⟩ (pkL_begins_b760 E l hLs hxs hL596 _ _ (by omega) (by omega) _ _ _ _ _ _ hf)
  · have hf := pd_iq hf hc
    refine pd_aload_n (i := 0) dL_begins_729 rfl rfl ?_
    refine pd_aload_n (i := 0) dL_begins_730 rfl rfl ?_
    refine pd_iload (i := 9) dL_begins_731 rfl ?_
    refine pd_iconst dL_begins_733 (by decide) ?_
    obtain ⟨hg24, hf⟩ := pd_ig hf
    obtain ⟨r25, F23, hr, hf⟩ := pd_ob2 hf
    refine pd_callV (pkX11_person l hr) dL_begins_734 pq_960 pq_963 pq_964 (show vwCl[11]? = some (yX11_person.cls, TX11, 10) from rfl) hg24 (pd_okA (by omega) (by decide) (by omega) (by omega) pq_961 pq_962 (by decide) (show (parseMethodDescriptor yX11_person.desc).map (fun d => d.parameters.length) = some 2 from by decide +kernel)) (Nat.le_of_ble_eq_true rfl) rfl ?_
    refine pd_iload (i := 8) dL_begins_737 rfl ?_
    refine pd_bipush dL_begins_739 (by decide) ?_
    refine pd_iushr dL_begins_741 ?_
    refine pd_iconst dL_begins_742 (by decide) ?_
    refine pd_iand dL_begins_743 ?_
    refine pd_if_ne (tgt := 751) dL_begins_744 (by decide) (fun hc => ?_) (fun hc => ?_)
    · have hf := pd_ip hf hc
      refine pd_iconst dL_begins_751 (by decide) ?_
      exact pd_weak (L' := [pd_R x0, pd_R (-60), pd_I x2, pd_N, pd_I x4, pd_N, pd_N, pd_I x7, pd_N, pd_N]) ⟨Or.inr rfl, Or.inr rfl, Or.inr rfl, Or.inr rfl, Or.inr rfl, Or.inr rfl, Or.inr rfl, Or.inr rfl, Or.inl rfl, Or.inl rfl, trivial⟩ (pkL_begins_b752 E l hLs hxs hL596 _ _ (by omega) (by omega) _ _ _ _ _ _ _ _ _ hf)
    · have hf := pd_iq hf hc
      refine pd_iconst dL_begins_747 (by decide) ?_
      refine pd_goto (tgt := 752) dL_begins_748 (by decide) ?_
      exact pd_weak (L' := [pd_R x0, pd_R (-60), pd_I x2, pd_N, pd_I x4, pd_N, pd_N, pd_I x7, pd_N, pd_N]) ⟨Or.inr rfl, Or.inr rfl, Or.inr rfl, Or.inr rfl, Or.inr rfl, Or.inr rfl, Or.inr rfl, Or.inr rfl, Or.inl rfl, Or.inl rfl, trivial⟩ (pkL_begins_b752 E l hLs hxs hL596 _ _ (by omega) (by omega) _ _ _ _ _ _ _ _ _ hf)
set_option maxHeartbeats 8000000 in
set_option maxRecDepth 100000 in
theorem pkL_begins_b695 (E : pd_E) (l : Launch) {Ls : Int} {xs : Int → Int} (hLs : Ls = (E.2.2.2 21 : Nat) ∧ Ls < 2147483648) (hxs : ∀ j : Int, 0 ≤ j → j < Ls → xs j = (Int32.ofNat (E.2.2.2 (22 + j.toNat))).toInt) {n : Nat} {shz : pd_S} {ρ : Int} {Fz : pd_F} {c596 : pd_S → pd_F → Int → Int → Int → Int → Option (Int × pd_S × pd_F)} {B596 D596 : Nat} (hL596 : ∀ (cells slots : Nat) (hc0 : cells + B596 ≤ 1196) (hs0 : slots + D596 ≤ pd_U * 1196) (sh : pd_S) (F : pd_F) (x0 : Int) (x2 : Int) (x4 : Int) (x7 : Int), c596 sh F x0 x2 x4 x7 = some (ρ, shz, Fz) → pd_V E l (pd_rm 15 1196 (pd_U * 1196)) (RL, cL_begins, 10, (some .boolean), "begins") (pd_Qm E true (some (pd_I ρ)) shz Fz 1196 (pd_U * 1196)) true cells slots sh F 596 [pd_R x0, pd_R (-60), pd_I x2, pd_N, pd_I x4, pd_N, pd_N, pd_I x7, pd_N, pd_N] []) (cells slots : Nat) (hc0 : cells + 0 + B596 ≤ 1196) (hs0 : slots + pd_U * 0 + D596 ≤ pd_U * 1196) (sh : pd_S) (F : pd_F) (x0 : Int) (x2 : Int) (x4 : Int) (x7 : Int) (x8 : Int) (x9 : Int) (hf : pfL_begins_b695 Ls xs n c596 sh F x0 x2 x4 x7 x8 x9 = some (ρ, shz, Fz)) : pd_V E l (pd_rm 15 1196 (pd_U * 1196)) (RL, cL_begins, 10, (some .boolean), "begins") (pd_Qm E true (some (pd_I ρ)) shz Fz 1196 (pd_U * 1196)) true cells slots sh F 695 [pd_R x0, pd_R (-60), pd_I x2, pd_N, pd_I x4, pd_N, pd_N, pd_I x7, pd_I x8, pd_I x9] [] := by
  unfold pfL_begins_b695 at hf
  have hU : 8 ≤ pd_U := by decide
  refine pd_iload (i := 8) dL_begins_695 rfl ?_
  refine pd_iconst dL_begins_697 (by decide) ?_
  refine pd_iand dL_begins_698 ?_
  refine pd_iconst dL_begins_699 (by decide) ?_
  refine pd_icmp_ne (tgt := 721) dL_begins_700 (by decide) (fun hc => ?_) (fun hc => ?_)
  · have hf := pd_ip hf hc
    exact pd_weak (L' := [pd_R x0, pd_R (-60), pd_I x2, pd_N, pd_I x4, pd_N, pd_N, pd_I x7, pd_I x8, pd_I x9]) ⟨Or.inr rfl, Or.inr rfl, Or.inr rfl, Or.inr rfl, Or.inr rfl, Or.inr rfl, Or.inr rfl, Or.inr rfl, Or.inr rfl, Or.inr rfl, trivial⟩ (pkL_begins_b721 E l hLs hxs hL596 _ _ (by omega) (by omega) _ _ _ _ _ _ _ _ hf)
  · have hf := pd_iq hf hc
    refine pd_aload_n (i := 0) dL_begins_703 rfl rfl ?_
    refine pd_iconst dL_begins_704 (by decide) ?_
    refine pd_iload (i := 8) dL_begins_705 rfl ?_
    refine pd_bipush dL_begins_707 (by decide) ?_
    refine pd_iushr dL_begins_709 ?_
    refine pd_bipush dL_begins_710 (by decide) ?_
    refine pd_iand dL_begins_712 ?_
    obtain ⟨hg27, hf⟩ := pd_ig hf
    obtain ⟨r28, F26, hr, hf⟩ := pd_ob2 hf
    refine pd_callV (pkX11_tell l hr) dL_begins_713 pq_965 pq_968 pq_969 (show vwCl[11]? = some (yX11_tell.cls, TX11, 10) from rfl) hg27 (pd_okA (by omega) (by decide) (by omega) (by omega) pq_966 pq_967 (by decide) (show (parseMethodDescriptor yX11_tell.desc).map (fun d => d.parameters.length) = some 2 from by decide +kernel)) (Nat.le_of_ble_eq_true rfl) rfl ?_
    refine pd_if_ge (tgt := 721) dL_begins_716 (by decide) (fun hc => ?_) (fun hc => ?_)
    · have hf := pd_ip hf hc
      exact pd_weak (L' := [pd_R x0, pd_R (-60), pd_I x2, pd_N, pd_I x4, pd_N, pd_N, pd_I x7, pd_I x8, pd_I x9]) ⟨Or.inr rfl, Or.inr rfl, Or.inr rfl, Or.inr rfl, Or.inr rfl, Or.inr rfl, Or.inr rfl, Or.inr rfl, Or.inr rfl, Or.inr rfl, trivial⟩ (pkL_begins_b721 E l hLs hxs hL596 _ _ (by omega) (by omega) _ _ _ _ _ _ _ _ hf)
    · have hf := pd_in_ hf hc
      refine pd_iconst dL_begins_719 (by decide) ?_
      obtain ⟨h1, h2, h3⟩ := pd_inj3 hf
      subst h1 h2 h3
      exact pd_zret dL_begins_720 rfl (by decide) (by omega) (by omega)
set_option maxHeartbeats 8000000 in
set_option maxRecDepth 100000 in
theorem pkL_begins_b658 (E : pd_E) (l : Launch) {Ls : Int} {xs : Int → Int} (hLs : Ls = (E.2.2.2 21 : Nat) ∧ Ls < 2147483648) (hxs : ∀ j : Int, 0 ≤ j → j < Ls → xs j = (Int32.ofNat (E.2.2.2 (22 + j.toNat))).toInt) {n : Nat} {shz : pd_S} {ρ : Int} {Fz : pd_F} {c596 : pd_S → pd_F → Int → Int → Int → Int → Option (Int × pd_S × pd_F)} {B596 D596 : Nat} (hL596 : ∀ (cells slots : Nat) (hc0 : cells + B596 ≤ 1196) (hs0 : slots + D596 ≤ pd_U * 1196) (sh : pd_S) (F : pd_F) (x0 : Int) (x2 : Int) (x4 : Int) (x7 : Int), c596 sh F x0 x2 x4 x7 = some (ρ, shz, Fz) → pd_V E l (pd_rm 15 1196 (pd_U * 1196)) (RL, cL_begins, 10, (some .boolean), "begins") (pd_Qm E true (some (pd_I ρ)) shz Fz 1196 (pd_U * 1196)) true cells slots sh F 596 [pd_R x0, pd_R (-60), pd_I x2, pd_N, pd_I x4, pd_N, pd_N, pd_I x7, pd_N, pd_N] []) (cells slots : Nat) (hc0 : cells + 0 + B596 ≤ 1196) (hs0 : slots + pd_U * 0 + D596 ≤ pd_U * 1196) (sh : pd_S) (F : pd_F) (x0 : Int) (x2 : Int) (x4 : Int) (x7 : Int) (x8 : Int) (x9 : Int) (hf : pfL_begins_b658 Ls xs n c596 sh F x0 x2 x4 x7 x8 x9 = some (ρ, shz, Fz)) : pd_V E l (pd_rm 15 1196 (pd_U * 1196)) (RL, cL_begins, 10, (some .boolean), "begins") (pd_Qm E true (some (pd_I ρ)) shz Fz 1196 (pd_U * 1196)) true cells slots sh F 658 [pd_R x0, pd_R (-60), pd_I x2, pd_N, pd_I x4, pd_N, pd_N, pd_I x7, pd_I x8, pd_I x9] [] := by
  unfold pfL_begins_b658 at hf
  have hU : 8 ≤ pd_U := by decide
  refine pd_iload (i := 8) dL_begins_658 rfl ?_
  refine pd_iconst dL_begins_660 (by decide) ?_
  refine pd_iand dL_begins_661 ?_
  refine pd_iconst dL_begins_662 (by decide) ?_
  refine pd_icmp_ne (tgt := 695) dL_begins_663 (by decide) (fun hc => ?_) (fun hc => ?_)
  · have hf := pd_ip hf hc
    exact pd_weak (L' := [pd_R x0, pd_R (-60), pd_I x2, pd_N, pd_I x4, pd_N, pd_N, pd_I x7, pd_I x8, pd_I x9]) ⟨Or.inr rfl, Or.inr rfl, Or.inr rfl, Or.inr rfl, Or.inr rfl, Or.inr rfl, Or.inr rfl, Or.inr rfl, Or.inr rfl, Or.inr rfl, trivial⟩ (pkL_begins_b695 E l hLs hxs hL596 _ _ (by omega) (by omega) _ _ _ _ _ _ _ _ hf)
  · have hf := pd_iq hf hc
    refine pd_aload_n (i := 0) dL_begins_666 rfl rfl ?_
    refine pd_iload (i := 8) dL_begins_667 rfl ?_
    refine pd_iconst dL_begins_669 (by decide) ?_
    refine pd_iushr dL_begins_670 ?_
    refine pd_sipush dL_begins_671 (by decide) ?_
    refine pd_iand dL_begins_674 ?_
    refine pd_iload (i := 4) dL_begins_675 rfl ?_
    obtain ⟨hg29, hf⟩ := pd_ig hf
    refine pd_irem dL_begins_677 hg29 ?_
    refine pd_iload (i := 8) dL_begins_678 rfl ?_
    refine pd_bipush dL_begins_680 (by decide) ?_
    refine pd_iushr dL_begins_682 ?_
    refine pd_sipush dL_begins_683 (by decide) ?_
    refine pd_iand dL_begins_686 ?_
    obtain ⟨hg31, hf⟩ := pd_ig hf
    obtain ⟨r32, F30, hr, hf⟩ := pd_ob2 hf
    refine pd_callV (pkX11_balance l hr) dL_begins_687 pq_970 pq_973 pq_974 (show vwCl[11]? = some (yX11_balance.cls, TX11, 10) from rfl) hg31 (pd_okA (by omega) (by decide) (by omega) (by omega) pq_971 pq_972 (by decide) (show (parseMethodDescriptor yX11_balance.desc).map (fun d => d.parameters.length) = some 2 from by decide +kernel)) (Nat.le_of_ble_eq_true rfl) rfl ?_
    refine pd_if_ge (tgt := 695) dL_begins_690 (by decide) (fun hc => ?_) (fun hc => ?_)
    · have hf := pd_ip hf hc
      exact pd_weak (L' := [pd_R x0, pd_R (-60), pd_I x2, pd_N, pd_I x4, pd_N, pd_N, pd_I x7, pd_I x8, pd_I x9]) ⟨Or.inr rfl, Or.inr rfl, Or.inr rfl, Or.inr rfl, Or.inr rfl, Or.inr rfl, Or.inr rfl, Or.inr rfl, Or.inr rfl, Or.inr rfl, trivial⟩ (pkL_begins_b695 E l hLs hxs hL596 _ _ (by omega) (by omega) _ _ _ _ _ _ _ _ hf)
    · have hf := pd_in_ hf hc
      refine pd_iconst dL_begins_693 (by decide) ?_
      obtain ⟨h1, h2, h3⟩ := pd_inj3 hf
      subst h1 h2 h3
      exact pd_zret dL_begins_694 rfl (by decide) (by omega) (by omega)
set_option maxHeartbeats 8000000 in
set_option maxRecDepth 100000 in
theorem pkL_begins_b596 (E : pd_E) (l : Launch) {Ls : Int} {xs : Int → Int} (hLs : Ls = (E.2.2.2 21 : Nat) ∧ Ls < 2147483648) (hxs : ∀ j : Int, 0 ≤ j → j < Ls → xs j = (Int32.ofNat (E.2.2.2 (22 + j.toNat))).toInt) {n : Nat} {shz : pd_S} {ρ : Int} {Fz : pd_F}  : ∀ (k cells slots : Nat) (hc0 : cells + (k * 0 + 0) ≤ 1196) (hs0 : slots + (pd_U * k * 0 + pd_U * 0) ≤ pd_U * 1196) (sh : pd_S) (F : pd_F) (x0 : Int) (x2 : Int) (x4 : Int) (x7 : Int), pfL_begins_b596 Ls xs n  k sh F x0 x2 x4 x7 = some (ρ, shz, Fz) → pd_V E l (pd_rm 15 1196 (pd_U * 1196)) (RL, cL_begins, 10, (some .boolean), "begins") (pd_Qm E true (some (pd_I ρ)) shz Fz 1196 (pd_U * 1196)) true cells slots sh F 596 [pd_R x0, pd_R (-60), pd_I x2, pd_N, pd_I x4, pd_N, pd_N, pd_I x7, pd_N, pd_N] [] := by
  intro k
  induction k with
  | zero => intro cells slots _ _ sh F x0 x2 x4 x7 hf; exact absurd hf (by unfold pfL_begins_b596; exact fun h => nomatch h)
  | succ k ih =>
    intro cells slots hc0 hs0 sh F x0 x2 x4 x7 hf
    unfold pfL_begins_b596 at hf
    have hU : 8 ≤ pd_U := by decide
    have hUk := Nat.mul_succ pd_U k
    rw [hUk] at hs0
    clear hUk
    refine pd_iload (i := 7) dL_begins_596 rfl ?_
    refine pd_aload_n (i := 1) dL_begins_598 rfl rfl ?_
    refine pd_sipush dL_begins_599 (by decide) ?_
    refine pd_iconst dL_begins_602 (by decide) ?_
    obtain ⟨r34, F33, hr, hf⟩ := pd_ob2 hf
    refine pd_callSE (pkL_some E l hLs hxs hr) dL_begins_603 pq_926 pq_929 (pd_okA (by omega) (by decide) (by omega) (by omega) pq_927 pq_928 (by decide) (show (parseMethodDescriptor yL_some.desc).map (fun d => d.parameters.length) = some 3 from by decide +kernel)) (Nat.le_of_ble_eq_true rfl) rfl ?_
    refine pd_icmp_ge (tgt := 766) dL_begins_606 (by decide) (fun hc => ?_) (fun hc => ?_)
    · have hf := pd_ip hf hc
      refine pd_iconst dL_begins_766 (by decide) ?_
      obtain ⟨h1, h2, h3⟩ := pd_inj3 hf
      subst h1 h2 h3
      exact pd_zret dL_begins_767 rfl (by decide) (by omega) (by omega)
    · have hf := pd_in_ hf hc
      refine pd_aload_n (i := 1) dL_begins_609 rfl rfl ?_
      refine pd_sipush dL_begins_610 (by decide) ?_
      refine pd_iload (i := 7) dL_begins_613 rfl ?_
      refine pd_iadd dL_begins_615 ?_
      obtain ⟨r36, F35, hr, hf⟩ := pd_ob2 hf
      refine pd_callSE (pkL_cell E l hLs hxs hr) dL_begins_616 pq_899 pq_902 (pd_okA (by omega) (by decide) (by omega) (by omega) pq_900 pq_901 (by decide) (show (parseMethodDescriptor yL_cell.desc).map (fun d => d.parameters.length) = some 2 from by decide +kernel)) (Nat.le_of_ble_eq_true rfl) rfl ?_
      refine pd_istore (L' := [pd_R x0, pd_R (-60), pd_I x2, pd_N, pd_I x4, pd_N, pd_N, pd_I x7, pd_I r36, pd_N]) dL_begins_619 (by decide) rfl ?_
      refine pd_iload (i := 8) dL_begins_621 rfl ?_
      refine pd_iconst dL_begins_623 (by decide) ?_
      refine pd_iushr dL_begins_624 ?_
      refine pd_sipush dL_begins_625 (by decide) ?_
      refine pd_iand dL_begins_628 ?_
      refine pd_iload_n (i := 2) dL_begins_629 rfl rfl ?_
      obtain ⟨hg37, hf⟩ := pd_ig hf
      refine pd_irem dL_begins_630 hg37 ?_
      refine pd_topI (fun x9_631 ex9_631 => ?_)
      have hf := pd_lt hf ex9_631
      clear ex9_631
      refine pd_istore (L' := [pd_R x0, pd_R (-60), pd_I x2, pd_N, pd_I x4, pd_N, pd_N, pd_I x7, pd_I r36, pd_I x9_631]) dL_begins_631 (by decide) rfl ?_
      refine pd_iload (i := 8) dL_begins_633 rfl ?_
      refine pd_iconst dL_begins_635 (by decide) ?_
      refine pd_iand dL_begins_636 ?_
      refine pd_if_ne (tgt := 658) dL_begins_637 (by decide) (fun hc => ?_) (fun hc => ?_)
      · have hf := pd_ip hf hc
        exact pd_weak (L' := [pd_R x0, pd_R (-60), pd_I x2, pd_N, pd_I x4, pd_N, pd_N, pd_I x7, pd_I r36, pd_I x9_631]) ⟨Or.inr rfl, Or.inr rfl, Or.inr rfl, Or.inr rfl, Or.inr rfl, Or.inr rfl, Or.inr rfl, Or.inr rfl, Or.inr rfl, Or.inr rfl, trivial⟩ (pkL_begins_b658 E l hLs hxs ih _ _ (by omega) (by omega) _ _ _ _ _ _ _ _ hf)
      · have hf := pd_iq hf hc
        refine pd_aload_n (i := 0) dL_begins_640 rfl rfl ?_
        refine pd_iload (i := 9) dL_begins_641 rfl ?_
        refine pd_iload (i := 9) dL_begins_643 rfl ?_
        refine pd_iconst dL_begins_645 (by decide) ?_
        refine pd_iadd dL_begins_646 ?_
        refine pd_iload_n (i := 2) dL_begins_647 rfl rfl ?_
        refine pd_irem dL_begins_648 hg37 ?_
        obtain ⟨hg39, hf⟩ := pd_ig hf
        obtain ⟨r40, F38, hr, hf⟩ := pd_ob2 hf
        refine pd_callV (pkX11_join l hr) dL_begins_649 pq_975 pq_978 pq_979 (show vwCl[11]? = some (yX11_join.cls, TX11, 10) from rfl) hg39 (pd_okA (by omega) (by decide) (by omega) (by omega) pq_976 pq_977 (by decide) (show (parseMethodDescriptor yX11_join.desc).map (fun d => d.parameters.length) = some 2 from by decide +kernel)) (Nat.le_of_ble_eq_true rfl) rfl ?_
        refine pd_iconst dL_begins_652 (by decide) ?_
        refine pd_icmp_ge (tgt := 658) dL_begins_653 (by decide) (fun hc => ?_) (fun hc => ?_)
        · have hf := pd_ip hf hc
          exact pd_weak (L' := [pd_R x0, pd_R (-60), pd_I x2, pd_N, pd_I x4, pd_N, pd_N, pd_I x7, pd_I r36, pd_I x9_631]) ⟨Or.inr rfl, Or.inr rfl, Or.inr rfl, Or.inr rfl, Or.inr rfl, Or.inr rfl, Or.inr rfl, Or.inr rfl, Or.inr rfl, Or.inr rfl, trivial⟩ (pkL_begins_b658 E l hLs hxs ih _ _ (by omega) (by omega) _ _ _ _ _ _ _ _ hf)
        · have hf := pd_in_ hf hc
          refine pd_iconst dL_begins_656 (by decide) ?_
          obtain ⟨h1, h2, h3⟩ := pd_inj3 hf
          subst h1 h2 h3
          exact pd_zret dL_begins_657 rfl (by decide) (by omega) (by omega)
set_option maxHeartbeats 8000000 in
set_option maxRecDepth 100000 in
theorem pkL_begins_b580 (E : pd_E) (l : Launch) {Ls : Int} {xs : Int → Int} (hLs : Ls = (E.2.2.2 21 : Nat) ∧ Ls < 2147483648) (hxs : ∀ j : Int, 0 ≤ j → j < Ls → xs j = (Int32.ofNat (E.2.2.2 (22 + j.toNat))).toInt) {n : Nat} {shz : pd_S} {ρ : Int} {Fz : pd_F}  (cells slots : Nat) (hc0 : cells + 51 ≤ 1196) (hs0 : slots + pd_U * 51 ≤ pd_U * 1196) (sh : pd_S) (F : pd_F) (x0 : Int) (x2 : Int) (x4 : Int) (x5 : Int) (x6 : Int) (hf : pfL_begins_b580 Ls xs n  sh F x0 x2 x4 x5 x6 = some (ρ, shz, Fz)) : pd_V E l (pd_rm 15 1196 (pd_U * 1196)) (RL, cL_begins, 10, (some .boolean), "begins") (pd_Qm E true (some (pd_I ρ)) shz Fz 1196 (pd_U * 1196)) true cells slots sh F 580 [pd_R x0, pd_R (-60), pd_I x2, pd_N, pd_I x4, pd_R x5, pd_I x6, pd_N, pd_N, pd_N] [] := by
  unfold pfL_begins_b580 at hf
  have hU : 8 ≤ pd_U := by decide
  refine pd_aload_n (i := 0) dL_begins_580 rfl rfl ?_
  refine pd_aload (i := 5) dL_begins_581 rfl ?_
  obtain ⟨r43, sh42, F41, hr, hf⟩ := pd_ob3 hf
  refine pd_callS (pkL_feeds l hr) dL_begins_583 pq_980 pq_983 (pd_okA (by omega) (by decide) (by omega) (by omega) pq_981 pq_982 (by decide) (show (parseMethodDescriptor yL_feeds.desc).map (fun d => d.parameters.length) = some 2 from by decide +kernel)) (Nat.le_of_ble_eq_true rfl) rfl ?_
  refine pd_iload (i := 6) dL_begins_586 rfl ?_
  refine pd_icmp_eq (tgt := 593) dL_begins_588 (by decide) (fun hc => ?_) (fun hc => ?_)
  · have hf := pd_ip hf hc
    refine pd_iconst dL_begins_593 (by decide) ?_
    refine pd_istore (L' := [pd_R x0, pd_R (-60), pd_I x2, pd_N, pd_I x4, pd_R x5, pd_I x6, pd_I 0, pd_N, pd_N]) dL_begins_594 (by decide) rfl ?_
    exact pd_weak (L' := [pd_R x0, pd_R (-60), pd_I x2, pd_N, pd_I x4, pd_N, pd_N, pd_I 0, pd_N, pd_N]) ⟨Or.inr rfl, Or.inr rfl, Or.inr rfl, Or.inr rfl, Or.inr rfl, Or.inl rfl, Or.inl rfl, Or.inr rfl, Or.inr rfl, Or.inr rfl, trivial⟩ (pkL_begins_b596 E l hLs hxs n _ _ (by omega) (by omega) _ _ _ _ _ _ hf)
  · have hf := pd_in_ hf hc
    refine pd_iconst dL_begins_591 (by decide) ?_
    obtain ⟨h1, h2, h3⟩ := pd_inj3 hf
    subst h1 h2 h3
    exact pd_zret dL_begins_592 rfl (by decide) (by omega) (by omega)
set_option maxHeartbeats 8000000 in
set_option maxRecDepth 100000 in
theorem pkL_begins_b385 (E : pd_E) (l : Launch) {Ls : Int} {xs : Int → Int} (hLs : Ls = (E.2.2.2 21 : Nat) ∧ Ls < 2147483648) (hxs : ∀ j : Int, 0 ≤ j → j < Ls → xs j = (Int32.ofNat (E.2.2.2 (22 + j.toNat))).toInt) {n : Nat} {shz : pd_S} {ρ : Int} {Fz : pd_F}  : ∀ (k cells slots : Nat) (hc0 : cells + (k * 32 + 51) ≤ 1196) (hs0 : slots + (pd_U * k * 32 + pd_U * 51) ≤ pd_U * 1196) (sh : pd_S) (F : pd_F) (x0 : Int) (x2 : Int) (x4 : Int) (x5 : Int) (x6 : Int) (x7 : Int), pfL_begins_b385 Ls xs n  k sh F x0 x2 x4 x5 x6 x7 = some (ρ, shz, Fz) → pd_V E l (pd_rm 15 1196 (pd_U * 1196)) (RL, cL_begins, 10, (some .boolean), "begins") (pd_Qm E true (some (pd_I ρ)) shz Fz 1196 (pd_U * 1196)) true cells slots sh F 385 [pd_R x0, pd_R (-60), pd_I x2, pd_N, pd_I x4, pd_R x5, pd_I x6, pd_I x7, pd_N, pd_N] [] := by
  intro k
  induction k with
  | zero => intro cells slots _ _ sh F x0 x2 x4 x5 x6 x7 hf; exact absurd hf (by unfold pfL_begins_b385; exact fun h => nomatch h)
  | succ k ih =>
    intro cells slots hc0 hs0 sh F x0 x2 x4 x5 x6 x7 hf
    unfold pfL_begins_b385 at hf
    have hU : 8 ≤ pd_U := by decide
    have hUk := Nat.mul_succ pd_U k
    rw [hUk] at hs0
    clear hUk
    refine pd_iload (i := 7) dL_begins_385 rfl ?_
    refine pd_iconst dL_begins_387 (by decide) ?_
    refine pd_icmp_ge (tgt := 580) dL_begins_388 (by decide) (fun hc => ?_) (fun hc => ?_)
    · have hf := pd_ip hf hc
      exact pd_weak (L' := [pd_R x0, pd_R (-60), pd_I x2, pd_N, pd_I x4, pd_R x5, pd_I x6, pd_N, pd_N, pd_N]) ⟨Or.inr rfl, Or.inr rfl, Or.inr rfl, Or.inr rfl, Or.inr rfl, Or.inr rfl, Or.inr rfl, Or.inl rfl, Or.inr rfl, Or.inr rfl, trivial⟩ (pkL_begins_b580 E l hLs hxs _ _ (by omega) (by omega) _ _ _ _ _ _ _ hf)
    · have hf := pd_in_ hf hc
      refine pd_aload_n (i := 1) dL_begins_391 rfl rfl ?_
      refine pd_sipush dL_begins_392 (by decide) ?_
      refine pd_iload (i := 7) dL_begins_395 rfl ?_
      refine pd_iadd dL_begins_397 ?_
      refine pd_bipush dL_begins_398 (by decide) ?_
      obtain ⟨r45, F44, hr, hf⟩ := pd_ob2 hf
      refine pd_callSE (pkL_some E l hLs hxs hr) dL_begins_400 pq_926 pq_929 (pd_okA (by omega) (by decide) (by omega) (by omega) pq_927 pq_928 (by decide) (show (parseMethodDescriptor yL_some.desc).map (fun d => d.parameters.length) = some 3 from by decide +kernel)) (Nat.le_of_ble_eq_true rfl) rfl ?_
      refine pd_istore (L' := [pd_R x0, pd_R (-60), pd_I x2, pd_N, pd_I x4, pd_R x5, pd_I x6, pd_I x7, pd_I r45, pd_N]) dL_begins_403 (by decide) rfl ?_
      refine pd_new dL_begins_405 (show vwCl[13]? = some (RX13, TX13, 4) from rfl) pin_13 tyX13_ok pq_904 pq_905 pq_906 (by decide) ⟨by show _ ≤ 1196; omega, by show _ ≤ pd_U * 1196; omega⟩ ?_
      refine pd_topR (fun o48 eo48 => ?_)
      have hf := pd_lt hf eo48
      refine pd_topF (fun F47 eF47 => ?_)
      have hf := pd_lt hf eF47
      refine pd_topS (fun sh46 esh46 => ?_)
      have hf := pd_lt hf esh46
      clear esh46 eF47 eo48
      refine pd_dup dL_begins_408 rfl ?_
      obtain ⟨hg50, hf⟩ := pd_ig hf
      obtain ⟨sh51, F49, hr, hf⟩ := pd_ob2 hf
      refine pd_callI (pkJ4_init_da8c8 l hr) dL_begins_409 pq_907 pq_910 rfl hg50 (pd_okA (by omega) (by decide) (by omega) (by omega) pq_908 pq_909 (by decide) (show (parseMethodDescriptor yJ4_init_da8c8.desc).map (fun d => d.parameters.length) = some 0 from by decide +kernel)) (Nat.le_of_ble_eq_true rfl) rfl ?_
      refine pd_aload (i := 5) dL_begins_412 rfl ?_
      obtain ⟨hg53, hf⟩ := pd_ig hf
      obtain ⟨r55, sh54, F52, hr, hf⟩ := pd_ob3 hf
      refine pd_callV (pkJ4_append_15ec4 l hr) dL_begins_414 pq_911 pq_914 pq_915 (show vwCl[13]? = some (yJ4_append_15ec4.cls, TX13, 4) from rfl) hg53 (pd_okA (by omega) (by decide) (by omega) (by omega) pq_912 pq_913 (by decide) (show (parseMethodDescriptor yJ4_append_15ec4.desc).map (fun d => d.parameters.length) = some 1 from by decide +kernel)) (Nat.le_of_ble_eq_true rfl) rfl ?_
      refine pd_ldcS (k0 := 16) dL_begins_417 rfl ?_
      obtain ⟨hg57, hf⟩ := pd_ig hf
      obtain ⟨r59, sh58, F56, hr, hf⟩ := pd_ob3 hf
      refine pd_callV (pkJ4_append_15ec4 l hr) dL_begins_419 pq_911 pq_914 pq_915 (show vwCl[13]? = some (yJ4_append_15ec4.cls, TX13, 4) from rfl) hg57 (pd_okA (by omega) (by decide) (by omega) (by omega) pq_912 pq_913 (by decide) (show (parseMethodDescriptor yJ4_append_15ec4.desc).map (fun d => d.parameters.length) = some 1 from by decide +kernel)) (Nat.le_of_ble_eq_true rfl) rfl ?_
      refine pd_ldcS (k0 := 14) dL_begins_422 rfl ?_
      refine pd_aload_n (i := 1) dL_begins_424 rfl rfl ?_
      refine pd_sipush dL_begins_425 (by decide) ?_
      refine pd_iload (i := 7) dL_begins_428 rfl ?_
      refine pd_iadd dL_begins_430 ?_
      refine pd_iload (i := 4) dL_begins_431 rfl ?_
      obtain ⟨r61, F60, hr, hf⟩ := pd_ob2 hf
      refine pd_callSE (pkL_some E l hLs hxs hr) dL_begins_433 pq_926 pq_929 (pd_okA (by omega) (by decide) (by omega) (by omega) pq_927 pq_928 (by decide) (show (parseMethodDescriptor yL_some.desc).map (fun d => d.parameters.length) = some 3 from by decide +kernel)) (Nat.le_of_ble_eq_true rfl) rfl ?_
      obtain ⟨r64, sh63, F62, hr, hf⟩ := pd_ob3 hf
      refine pd_callS (pkL_name l hr) dL_begins_436 pq_930 pq_933 (pd_okA (by omega) (by decide) (by omega) (by omega) pq_931 pq_932 (by decide) (show (parseMethodDescriptor yL_name.desc).map (fun d => d.parameters.length) = some 2 from by decide +kernel)) (Nat.le_of_ble_eq_true rfl) rfl ?_
      obtain ⟨hg66, hf⟩ := pd_ig hf
      obtain ⟨r68, sh67, F65, hr, hf⟩ := pd_ob3 hf
      refine pd_callV (pkJ4_append_15ec4 l hr) dL_begins_439 pq_911 pq_914 pq_915 (show vwCl[13]? = some (yJ4_append_15ec4.cls, TX13, 4) from rfl) hg66 (pd_okA (by omega) (by decide) (by omega) (by omega) pq_912 pq_913 (by decide) (show (parseMethodDescriptor yJ4_append_15ec4.desc).map (fun d => d.parameters.length) = some 1 from by decide +kernel)) (Nat.le_of_ble_eq_true rfl) rfl ?_
      refine pd_ldcS (k0 := 7) dL_begins_442 rfl ?_
      obtain ⟨hg70, hf⟩ := pd_ig hf
      obtain ⟨r72, sh71, F69, hr, hf⟩ := pd_ob3 hf
      refine pd_callV (pkJ4_append_15ec4 l hr) dL_begins_444 pq_911 pq_914 pq_915 (show vwCl[13]? = some (yJ4_append_15ec4.cls, TX13, 4) from rfl) hg70 (pd_okA (by omega) (by decide) (by omega) (by omega) pq_912 pq_913 (by decide) (show (parseMethodDescriptor yJ4_append_15ec4.desc).map (fun d => d.parameters.length) = some 1 from by decide +kernel)) (Nat.le_of_ble_eq_true rfl) rfl ?_
      refine pd_aload_n (i := 1) dL_begins_447 rfl rfl ?_
      refine pd_sipush dL_begins_448 (by decide) ?_
      refine pd_iload (i := 7) dL_begins_451 rfl ?_
      refine pd_iadd dL_begins_453 ?_
      refine pd_sipush dL_begins_454 (by decide) ?_
      obtain ⟨r74, F73, hr, hf⟩ := pd_ob2 hf
      refine pd_callSE (pkL_some E l hLs hxs hr) dL_begins_457 pq_926 pq_929 (pd_okA (by omega) (by decide) (by omega) (by omega) pq_927 pq_928 (by decide) (show (parseMethodDescriptor yL_some.desc).map (fun d => d.parameters.length) = some 3 from by decide +kernel)) (Nat.le_of_ble_eq_true rfl) rfl ?_
      obtain ⟨hg76, hf⟩ := pd_ig hf
      obtain ⟨r78, sh77, F75, hr, hf⟩ := pd_ob3 hf
      refine pd_callV (pkJ4_append_bf812 l hr) dL_begins_460 pq_934 pq_937 pq_938 (show vwCl[13]? = some (yJ4_append_bf812.cls, TX13, 4) from rfl) hg76 (pd_okA (by omega) (by decide) (by omega) (by omega) pq_935 pq_936 (by decide) (show (parseMethodDescriptor yJ4_append_bf812.desc).map (fun d => d.parameters.length) = some 1 from by decide +kernel)) (Nat.le_of_ble_eq_true rfl) rfl ?_
      refine pd_ldcS (k0 := 17) dL_begins_463 rfl ?_
      obtain ⟨hg80, hf⟩ := pd_ig hf
      obtain ⟨r82, sh81, F79, hr, hf⟩ := pd_ob3 hf
      refine pd_callV (pkJ4_append_15ec4 l hr) dL_begins_465 pq_911 pq_914 pq_915 (show vwCl[13]? = some (yJ4_append_15ec4.cls, TX13, 4) from rfl) hg80 (pd_okA (by omega) (by decide) (by omega) (by omega) pq_912 pq_913 (by decide) (show (parseMethodDescriptor yJ4_append_15ec4.desc).map (fun d => d.parameters.length) = some 1 from by decide +kernel)) (Nat.le_of_ble_eq_true rfl) rfl ?_
      refine pd_iload (i := 8) dL_begins_468 rfl ?_
      obtain ⟨hg84, hf⟩ := pd_ig hf
      obtain ⟨r86, sh85, F83, hr, hf⟩ := pd_ob3 hf
      refine pd_callV (pkJ4_append_bf812 l hr) dL_begins_470 pq_934 pq_937 pq_938 (show vwCl[13]? = some (yJ4_append_bf812.cls, TX13, 4) from rfl) hg84 (pd_okA (by omega) (by decide) (by omega) (by omega) pq_935 pq_936 (by decide) (show (parseMethodDescriptor yJ4_append_bf812.desc).map (fun d => d.parameters.length) = some 1 from by decide +kernel)) (Nat.le_of_ble_eq_true rfl) rfl ?_
      refine pd_ldcS (k0 := 18) dL_begins_473 rfl ?_
      obtain ⟨hg88, hf⟩ := pd_ig hf
      obtain ⟨r90, sh89, F87, hr, hf⟩ := pd_ob3 hf
      refine pd_callV (pkJ4_append_15ec4 l hr) dL_begins_475 pq_911 pq_914 pq_915 (show vwCl[13]? = some (yJ4_append_15ec4.cls, TX13, 4) from rfl) hg88 (pd_okA (by omega) (by decide) (by omega) (by omega) pq_912 pq_913 (by decide) (show (parseMethodDescriptor yJ4_append_15ec4.desc).map (fun d => d.parameters.length) = some 1 from by decide +kernel)) (Nat.le_of_ble_eq_true rfl) rfl ?_
      refine pd_iload (i := 8) dL_begins_478 rfl ?_
      refine pd_aload_n (i := 1) dL_begins_480 rfl rfl ?_
      refine pd_sipush dL_begins_481 (by decide) ?_
      refine pd_iload (i := 7) dL_begins_484 rfl ?_
      refine pd_iadd dL_begins_486 ?_
      refine pd_bipush dL_begins_487 (by decide) ?_
      obtain ⟨r92, F91, hr, hf⟩ := pd_ob2 hf
      refine pd_callSE (pkL_some E l hLs hxs hr) dL_begins_489 pq_926 pq_929 (pd_okA (by omega) (by decide) (by omega) (by omega) pq_927 pq_928 (by decide) (show (parseMethodDescriptor yL_some.desc).map (fun d => d.parameters.length) = some 3 from by decide +kernel)) (Nat.le_of_ble_eq_true rfl) rfl ?_
      refine pd_iadd dL_begins_492 ?_
      obtain ⟨hg94, hf⟩ := pd_ig hf
      obtain ⟨r96, sh95, F93, hr, hf⟩ := pd_ob3 hf
      refine pd_callV (pkJ4_append_bf812 l hr) dL_begins_493 pq_934 pq_937 pq_938 (show vwCl[13]? = some (yJ4_append_bf812.cls, TX13, 4) from rfl) hg94 (pd_okA (by omega) (by decide) (by omega) (by omega) pq_935 pq_936 (by decide) (show (parseMethodDescriptor yJ4_append_bf812.desc).map (fun d => d.parameters.length) = some 1 from by decide +kernel)) (Nat.le_of_ble_eq_true rfl) rfl ?_
      refine pd_ldcS (k0 := 19) dL_begins_496 rfl ?_
      obtain ⟨hg98, hf⟩ := pd_ig hf
      obtain ⟨r100, sh99, F97, hr, hf⟩ := pd_ob3 hf
      refine pd_callV (pkJ4_append_15ec4 l hr) dL_begins_498 pq_911 pq_914 pq_915 (show vwCl[13]? = some (yJ4_append_15ec4.cls, TX13, 4) from rfl) hg98 (pd_okA (by omega) (by decide) (by omega) (by omega) pq_912 pq_913 (by decide) (show (parseMethodDescriptor yJ4_append_15ec4.desc).map (fun d => d.parameters.length) = some 1 from by decide +kernel)) (Nat.le_of_ble_eq_true rfl) rfl ?_
      refine pd_ldcS (k0 := 6) dL_begins_501 rfl ?_
      refine pd_aload_n (i := 1) dL_begins_503 rfl rfl ?_
      refine pd_sipush dL_begins_504 (by decide) ?_
      refine pd_iload (i := 7) dL_begins_507 rfl ?_
      refine pd_iadd dL_begins_509 ?_
      refine pd_iload_n (i := 2) dL_begins_510 rfl rfl ?_
      obtain ⟨r102, F101, hr, hf⟩ := pd_ob2 hf
      refine pd_callSE (pkL_some E l hLs hxs hr) dL_begins_511 pq_926 pq_929 (pd_okA (by omega) (by decide) (by omega) (by omega) pq_927 pq_928 (by decide) (show (parseMethodDescriptor yL_some.desc).map (fun d => d.parameters.length) = some 3 from by decide +kernel)) (Nat.le_of_ble_eq_true rfl) rfl ?_
      obtain ⟨r105, sh104, F103, hr, hf⟩ := pd_ob3 hf
      refine pd_callS (pkL_name l hr) dL_begins_514 pq_930 pq_933 (pd_okA (by omega) (by decide) (by omega) (by omega) pq_931 pq_932 (by decide) (show (parseMethodDescriptor yL_name.desc).map (fun d => d.parameters.length) = some 2 from by decide +kernel)) (Nat.le_of_ble_eq_true rfl) rfl ?_
      obtain ⟨hg107, hf⟩ := pd_ig hf
      obtain ⟨r109, sh108, F106, hr, hf⟩ := pd_ob3 hf
      refine pd_callV (pkJ4_append_15ec4 l hr) dL_begins_517 pq_911 pq_914 pq_915 (show vwCl[13]? = some (yJ4_append_15ec4.cls, TX13, 4) from rfl) hg107 (pd_okA (by omega) (by decide) (by omega) (by omega) pq_912 pq_913 (by decide) (show (parseMethodDescriptor yJ4_append_15ec4.desc).map (fun d => d.parameters.length) = some 1 from by decide +kernel)) (Nat.le_of_ble_eq_true rfl) rfl ?_
      refine pd_ldcS (k0 := 7) dL_begins_520 rfl ?_
      obtain ⟨hg111, hf⟩ := pd_ig hf
      obtain ⟨r113, sh112, F110, hr, hf⟩ := pd_ob3 hf
      refine pd_callV (pkJ4_append_15ec4 l hr) dL_begins_522 pq_911 pq_914 pq_915 (show vwCl[13]? = some (yJ4_append_15ec4.cls, TX13, 4) from rfl) hg111 (pd_okA (by omega) (by decide) (by omega) (by omega) pq_912 pq_913 (by decide) (show (parseMethodDescriptor yJ4_append_15ec4.desc).map (fun d => d.parameters.length) = some 1 from by decide +kernel)) (Nat.le_of_ble_eq_true rfl) rfl ?_
      refine pd_aload_n (i := 1) dL_begins_525 rfl rfl ?_
      refine pd_sipush dL_begins_526 (by decide) ?_
      refine pd_iload (i := 7) dL_begins_529 rfl ?_
      refine pd_iadd dL_begins_531 ?_
      refine pd_sipush dL_begins_532 (by decide) ?_
      obtain ⟨r115, F114, hr, hf⟩ := pd_ob2 hf
      refine pd_callSE (pkL_some E l hLs hxs hr) dL_begins_535 pq_926 pq_929 (pd_okA (by omega) (by decide) (by omega) (by omega) pq_927 pq_928 (by decide) (show (parseMethodDescriptor yL_some.desc).map (fun d => d.parameters.length) = some 3 from by decide +kernel)) (Nat.le_of_ble_eq_true rfl) rfl ?_
      obtain ⟨hg117, hf⟩ := pd_ig hf
      obtain ⟨r119, sh118, F116, hr, hf⟩ := pd_ob3 hf
      refine pd_callV (pkJ4_append_bf812 l hr) dL_begins_538 pq_934 pq_937 pq_938 (show vwCl[13]? = some (yJ4_append_bf812.cls, TX13, 4) from rfl) hg117 (pd_okA (by omega) (by decide) (by omega) (by omega) pq_935 pq_936 (by decide) (show (parseMethodDescriptor yJ4_append_bf812.desc).map (fun d => d.parameters.length) = some 1 from by decide +kernel)) (Nat.le_of_ble_eq_true rfl) rfl ?_
      refine pd_ldcS (k0 := 20) dL_begins_541 rfl ?_
      obtain ⟨hg121, hf⟩ := pd_ig hf
      obtain ⟨r123, sh122, F120, hr, hf⟩ := pd_ob3 hf
      refine pd_callV (pkJ4_append_15ec4 l hr) dL_begins_543 pq_911 pq_914 pq_915 (show vwCl[13]? = some (yJ4_append_15ec4.cls, TX13, 4) from rfl) hg121 (pd_okA (by omega) (by decide) (by omega) (by omega) pq_912 pq_913 (by decide) (show (parseMethodDescriptor yJ4_append_15ec4.desc).map (fun d => d.parameters.length) = some 1 from by decide +kernel)) (Nat.le_of_ble_eq_true rfl) rfl ?_
      refine pd_aload_n (i := 1) dL_begins_546 rfl rfl ?_
      refine pd_sipush dL_begins_547 (by decide) ?_
      refine pd_iload (i := 7) dL_begins_550 rfl ?_
      refine pd_iadd dL_begins_552 ?_
      refine pd_bipush dL_begins_553 (by decide) ?_
      obtain ⟨r125, F124, hr, hf⟩ := pd_ob2 hf
      refine pd_callSE (pkL_some E l hLs hxs hr) dL_begins_555 pq_926 pq_929 (pd_okA (by omega) (by decide) (by omega) (by omega) pq_927 pq_928 (by decide) (show (parseMethodDescriptor yL_some.desc).map (fun d => d.parameters.length) = some 3 from by decide +kernel)) (Nat.le_of_ble_eq_true rfl) rfl ?_
      obtain ⟨hg127, hf⟩ := pd_ig hf
      obtain ⟨r129, sh128, F126, hr, hf⟩ := pd_ob3 hf
      refine pd_callV (pkJ4_append_bf812 l hr) dL_begins_558 pq_934 pq_937 pq_938 (show vwCl[13]? = some (yJ4_append_bf812.cls, TX13, 4) from rfl) hg127 (pd_okA (by omega) (by decide) (by omega) (by omega) pq_935 pq_936 (by decide) (show (parseMethodDescriptor yJ4_append_bf812.desc).map (fun d => d.parameters.length) = some 1 from by decide +kernel)) (Nat.le_of_ble_eq_true rfl) rfl ?_
      refine pd_ldcS (k0 := 4) dL_begins_561 rfl ?_
      obtain ⟨hg131, hf⟩ := pd_ig hf
      obtain ⟨r133, sh132, F130, hr, hf⟩ := pd_ob3 hf
      refine pd_callV (pkJ4_append_15ec4 l hr) dL_begins_563 pq_911 pq_914 pq_915 (show vwCl[13]? = some (yJ4_append_15ec4.cls, TX13, 4) from rfl) hg131 (pd_okA (by omega) (by decide) (by omega) (by omega) pq_912 pq_913 (by decide) (show (parseMethodDescriptor yJ4_append_15ec4.desc).map (fun d => d.parameters.length) = some 1 from by decide +kernel)) (Nat.le_of_ble_eq_true rfl) rfl ?_
      obtain ⟨hg135, hf⟩ := pd_ig hf
      obtain ⟨r137, sh136, F134, hr, hf⟩ := pd_ob3 hf
      refine pd_callV (pkJ4_toString_0e30d l hr) dL_begins_566 pq_921 pq_924 pq_925 (show vwCl[13]? = some (yJ4_toString_0e30d.cls, TX13, 4) from rfl) hg135 (pd_okA (by omega) (by decide) (by omega) (by omega) pq_922 pq_923 (by decide) (show (parseMethodDescriptor yJ4_toString_0e30d.desc).map (fun d => d.parameters.length) = some 0 from by decide +kernel)) (Nat.le_of_ble_eq_true rfl) rfl ?_
      obtain ⟨hg138, hf⟩ := pd_ig hf
      refine pd_astore (L' := [pd_R x0, pd_R (-60), pd_I x2, pd_N, pd_I x4, pd_R r137, pd_I x6, pd_I x7, pd_I r45, pd_N]) dL_begins_569 (by decide) hg138 rfl ?_
      refine pd_iincN (L' := fun y => [pd_R x0, pd_R (-60), pd_I x2, pd_N, pd_I x4, pd_R r137, pd_I y, pd_I x7, pd_I r45, pd_N]) dL_begins_571 rfl (by decide) (by decide) (fun _ => rfl) (fun x6_571 ex6_571 => ?_)
      have hf := pd_lt hf ex6_571
      clear ex6_571
      refine pd_iincN (L' := fun y => [pd_R x0, pd_R (-60), pd_I x2, pd_N, pd_I x4, pd_R r137, pd_I x6_571, pd_I y, pd_I r45, pd_N]) dL_begins_574 rfl (by decide) (by decide) (fun _ => rfl) (fun x7_574 ex7_574 => ?_)
      have hf := pd_lt hf ex7_574
      clear ex7_574
      refine pd_goto (tgt := 385) dL_begins_577 (by decide) ?_
      exact pd_weak (L' := [pd_R x0, pd_R (-60), pd_I x2, pd_N, pd_I x4, pd_R r137, pd_I x6_571, pd_I x7_574, pd_N, pd_N]) ⟨Or.inr rfl, Or.inr rfl, Or.inr rfl, Or.inr rfl, Or.inr rfl, Or.inr rfl, Or.inr rfl, Or.inr rfl, Or.inl rfl, Or.inr rfl, trivial⟩ (ih _ _ (by omega) (by omega) _ _ _ _ _ _ _ _ hf)
set_option maxHeartbeats 8000000 in
set_option maxRecDepth 100000 in
theorem pkL_begins_b382 (E : pd_E) (l : Launch) {Ls : Int} {xs : Int → Int} (hLs : Ls = (E.2.2.2 21 : Nat) ∧ Ls < 2147483648) (hxs : ∀ j : Int, 0 ≤ j → j < Ls → xs j = (Int32.ofNat (E.2.2.2 (22 + j.toNat))).toInt) {n : Nat} {shz : pd_S} {ρ : Int} {Fz : pd_F}  (cells slots : Nat) (hc0 : cells + 147 ≤ 1196) (hs0 : slots + pd_U * 147 ≤ pd_U * 1196) (sh : pd_S) (F : pd_F) (x0 : Int) (x2 : Int) (x4 : Int) (x5 : Int) (x6 : Int) (hf : pfL_begins_b382 Ls xs n  sh F x0 x2 x4 x5 x6 = some (ρ, shz, Fz)) : pd_V E l (pd_rm 15 1196 (pd_U * 1196)) (RL, cL_begins, 10, (some .boolean), "begins") (pd_Qm E true (some (pd_I ρ)) shz Fz 1196 (pd_U * 1196)) true cells slots sh F 382 [pd_R x0, pd_R (-60), pd_I x2, pd_N, pd_I x4, pd_R x5, pd_I x6, pd_N, pd_N, pd_N] [] := by
  unfold pfL_begins_b382 at hf
  have hU : 8 ≤ pd_U := by decide
  refine pd_iconst dL_begins_382 (by decide) ?_
  refine pd_istore (L' := [pd_R x0, pd_R (-60), pd_I x2, pd_N, pd_I x4, pd_R x5, pd_I x6, pd_I 0, pd_N, pd_N]) dL_begins_383 (by decide) rfl ?_
  exact pd_weak (L' := [pd_R x0, pd_R (-60), pd_I x2, pd_N, pd_I x4, pd_R x5, pd_I x6, pd_I 0, pd_N, pd_N]) ⟨Or.inr rfl, Or.inr rfl, Or.inr rfl, Or.inr rfl, Or.inr rfl, Or.inr rfl, Or.inr rfl, Or.inr rfl, Or.inr rfl, Or.inr rfl, trivial⟩ (pkL_begins_b385 E l hLs hxs 3 _ _ (by omega) (by omega) _ _ _ _ _ _ _ _ hf)
set_option maxHeartbeats 8000000 in
set_option maxRecDepth 100000 in
theorem pkL_begins_b291 (E : pd_E) (l : Launch) {Ls : Int} {xs : Int → Int} (hLs : Ls = (E.2.2.2 21 : Nat) ∧ Ls < 2147483648) (hxs : ∀ j : Int, 0 ≤ j → j < Ls → xs j = (Int32.ofNat (E.2.2.2 (22 + j.toNat))).toInt) {n : Nat} {shz : pd_S} {ρ : Int} {Fz : pd_F}  : ∀ (k cells slots : Nat) (hc0 : cells + (k * 92 + 147) ≤ 1196) (hs0 : slots + (pd_U * k * 92 + pd_U * 147) ≤ pd_U * 1196) (sh : pd_S) (F : pd_F) (x0 : Int) (x2 : Int) (x3 : Int) (x4 : Int) (x5 : Int) (x6 : Int) (x7 : Int), pfL_begins_b291 Ls xs n  k sh F x0 x2 x3 x4 x5 x6 x7 = some (ρ, shz, Fz) → pd_V E l (pd_rm 15 1196 (pd_U * 1196)) (RL, cL_begins, 10, (some .boolean), "begins") (pd_Qm E true (some (pd_I ρ)) shz Fz 1196 (pd_U * 1196)) true cells slots sh F 291 [pd_R x0, pd_R (-60), pd_I x2, pd_I x3, pd_I x4, pd_R x5, pd_I x6, pd_I x7, pd_N, pd_N] [] := by
  intro k
  induction k with
  | zero => intro cells slots _ _ sh F x0 x2 x3 x4 x5 x6 x7 hf; exact absurd hf (by unfold pfL_begins_b291; exact fun h => nomatch h)
  | succ k ih =>
    intro cells slots hc0 hs0 sh F x0 x2 x3 x4 x5 x6 x7 hf
    unfold pfL_begins_b291 at hf
    have hU : 8 ≤ pd_U := by decide
    have hUk := Nat.mul_succ pd_U k
    rw [hUk] at hs0
    clear hUk
    refine pd_iload (i := 7) dL_begins_291 rfl ?_
    refine pd_iload (i := 4) dL_begins_293 rfl ?_
    refine pd_icmp_ge (tgt := 382) dL_begins_295 (by decide) (fun hc => ?_) (fun hc => ?_)
    · have hf := pd_ip hf hc
      exact pd_weak (L' := [pd_R x0, pd_R (-60), pd_I x2, pd_N, pd_I x4, pd_R x5, pd_I x6, pd_N, pd_N, pd_N]) ⟨Or.inr rfl, Or.inr rfl, Or.inr rfl, Or.inl rfl, Or.inr rfl, Or.inr rfl, Or.inr rfl, Or.inl rfl, Or.inr rfl, Or.inr rfl, trivial⟩ (pkL_begins_b382 E l hLs hxs _ _ (by omega) (by omega) _ _ _ _ _ _ _ hf)
    · have hf := pd_in_ hf hc
      refine pd_new dL_begins_298 (show vwCl[13]? = some (RX13, TX13, 4) from rfl) pin_13 tyX13_ok pq_904 pq_905 pq_906 (by decide) ⟨by show _ ≤ 1196; omega, by show _ ≤ pd_U * 1196; omega⟩ ?_
      refine pd_topR (fun o141 eo141 => ?_)
      have hf := pd_lt hf eo141
      refine pd_topF (fun F140 eF140 => ?_)
      have hf := pd_lt hf eF140
      refine pd_topS (fun sh139 esh139 => ?_)
      have hf := pd_lt hf esh139
      clear esh139 eF140 eo141
      refine pd_dup dL_begins_301 rfl ?_
      obtain ⟨hg143, hf⟩ := pd_ig hf
      obtain ⟨sh144, F142, hr, hf⟩ := pd_ob2 hf
      refine pd_callI (pkJ4_init_da8c8 l hr) dL_begins_302 pq_907 pq_910 rfl hg143 (pd_okA (by omega) (by decide) (by omega) (by omega) pq_908 pq_909 (by decide) (show (parseMethodDescriptor yJ4_init_da8c8.desc).map (fun d => d.parameters.length) = some 0 from by decide +kernel)) (Nat.le_of_ble_eq_true rfl) rfl ?_
      refine pd_aload (i := 5) dL_begins_305 rfl ?_
      obtain ⟨hg146, hf⟩ := pd_ig hf
      obtain ⟨r148, sh147, F145, hr, hf⟩ := pd_ob3 hf
      refine pd_callV (pkJ4_append_15ec4 l hr) dL_begins_307 pq_911 pq_914 pq_915 (show vwCl[13]? = some (yJ4_append_15ec4.cls, TX13, 4) from rfl) hg146 (pd_okA (by omega) (by decide) (by omega) (by omega) pq_912 pq_913 (by decide) (show (parseMethodDescriptor yJ4_append_15ec4.desc).map (fun d => d.parameters.length) = some 1 from by decide +kernel)) (Nat.le_of_ble_eq_true rfl) rfl ?_
      refine pd_ldcS (k0 := 13) dL_begins_310 rfl ?_
      obtain ⟨hg150, hf⟩ := pd_ig hf
      obtain ⟨r152, sh151, F149, hr, hf⟩ := pd_ob3 hf
      refine pd_callV (pkJ4_append_15ec4 l hr) dL_begins_312 pq_911 pq_914 pq_915 (show vwCl[13]? = some (yJ4_append_15ec4.cls, TX13, 4) from rfl) hg150 (pd_okA (by omega) (by decide) (by omega) (by omega) pq_912 pq_913 (by decide) (show (parseMethodDescriptor yJ4_append_15ec4.desc).map (fun d => d.parameters.length) = some 1 from by decide +kernel)) (Nat.le_of_ble_eq_true rfl) rfl ?_
      refine pd_ldcS (k0 := 14) dL_begins_315 rfl ?_
      refine pd_iload (i := 7) dL_begins_317 rfl ?_
      obtain ⟨r155, sh154, F153, hr, hf⟩ := pd_ob3 hf
      refine pd_callS (pkL_name l hr) dL_begins_319 pq_930 pq_933 (pd_okA (by omega) (by decide) (by omega) (by omega) pq_931 pq_932 (by decide) (show (parseMethodDescriptor yL_name.desc).map (fun d => d.parameters.length) = some 2 from by decide +kernel)) (Nat.le_of_ble_eq_true rfl) rfl ?_
      obtain ⟨hg157, hf⟩ := pd_ig hf
      obtain ⟨r159, sh158, F156, hr, hf⟩ := pd_ob3 hf
      refine pd_callV (pkJ4_append_15ec4 l hr) dL_begins_322 pq_911 pq_914 pq_915 (show vwCl[13]? = some (yJ4_append_15ec4.cls, TX13, 4) from rfl) hg157 (pd_okA (by omega) (by decide) (by omega) (by omega) pq_912 pq_913 (by decide) (show (parseMethodDescriptor yJ4_append_15ec4.desc).map (fun d => d.parameters.length) = some 1 from by decide +kernel)) (Nat.le_of_ble_eq_true rfl) rfl ?_
      refine pd_ldcS (k0 := 15) dL_begins_325 rfl ?_
      obtain ⟨hg161, hf⟩ := pd_ig hf
      obtain ⟨r163, sh162, F160, hr, hf⟩ := pd_ob3 hf
      refine pd_callV (pkJ4_append_15ec4 l hr) dL_begins_327 pq_911 pq_914 pq_915 (show vwCl[13]? = some (yJ4_append_15ec4.cls, TX13, 4) from rfl) hg161 (pd_okA (by omega) (by decide) (by omega) (by omega) pq_912 pq_913 (by decide) (show (parseMethodDescriptor yJ4_append_15ec4.desc).map (fun d => d.parameters.length) = some 1 from by decide +kernel)) (Nat.le_of_ble_eq_true rfl) rfl ?_
      refine pd_aload_n (i := 1) dL_begins_330 rfl rfl ?_
      refine pd_bipush dL_begins_331 (by decide) ?_
      refine pd_iload (i := 7) dL_begins_333 rfl ?_
      refine pd_iadd dL_begins_335 ?_
      refine pd_sipush dL_begins_336 (by decide) ?_
      obtain ⟨r165, F164, hr, hf⟩ := pd_ob2 hf
      refine pd_callSE (pkL_some E l hLs hxs hr) dL_begins_339 pq_926 pq_929 (pd_okA (by omega) (by decide) (by omega) (by omega) pq_927 pq_928 (by decide) (show (parseMethodDescriptor yL_some.desc).map (fun d => d.parameters.length) = some 3 from by decide +kernel)) (Nat.le_of_ble_eq_true rfl) rfl ?_
      obtain ⟨hg167, hf⟩ := pd_ig hf
      obtain ⟨r169, sh168, F166, hr, hf⟩ := pd_ob3 hf
      refine pd_callV (pkJ4_append_bf812 l hr) dL_begins_342 pq_934 pq_937 pq_938 (show vwCl[13]? = some (yJ4_append_bf812.cls, TX13, 4) from rfl) hg167 (pd_okA (by omega) (by decide) (by omega) (by omega) pq_935 pq_936 (by decide) (show (parseMethodDescriptor yJ4_append_bf812.desc).map (fun d => d.parameters.length) = some 1 from by decide +kernel)) (Nat.le_of_ble_eq_true rfl) rfl ?_
      refine pd_aload_n (i := 1) dL_begins_345 rfl rfl ?_
      refine pd_bipush dL_begins_346 (by decide) ?_
      refine pd_bipush dL_begins_348 (by decide) ?_
      refine pd_iload (i := 7) dL_begins_350 rfl ?_
      refine pd_imul dL_begins_352 ?_
      refine pd_iadd dL_begins_353 ?_
      refine pd_iload_n (i := 2) dL_begins_354 rfl rfl ?_
      refine pd_iload_n (i := 3) dL_begins_355 rfl rfl ?_
      refine pd_iconst dL_begins_356 (by decide) ?_
      obtain ⟨r172, sh171, F170, hr, hf⟩ := pd_ob3 hf
      refine pd_callSE (pkL_parts E l hLs hxs hr) dL_begins_357 pq_984 pq_987 (pd_okA (by omega) (by decide) (by omega) (by omega) pq_985 pq_986 (by decide) (show (parseMethodDescriptor yL_parts.desc).map (fun d => d.parameters.length) = some 5 from by decide +kernel)) (Nat.le_of_ble_eq_true rfl) rfl ?_
      obtain ⟨hg174, hf⟩ := pd_ig hf
      obtain ⟨r176, sh175, F173, hr, hf⟩ := pd_ob3 hf
      refine pd_callV (pkJ4_append_15ec4 l hr) dL_begins_360 pq_911 pq_914 pq_915 (show vwCl[13]? = some (yJ4_append_15ec4.cls, TX13, 4) from rfl) hg174 (pd_okA (by omega) (by decide) (by omega) (by omega) pq_912 pq_913 (by decide) (show (parseMethodDescriptor yJ4_append_15ec4.desc).map (fun d => d.parameters.length) = some 1 from by decide +kernel)) (Nat.le_of_ble_eq_true rfl) rfl ?_
      refine pd_ldcS (k0 := 4) dL_begins_363 rfl ?_
      obtain ⟨hg178, hf⟩ := pd_ig hf
      obtain ⟨r180, sh179, F177, hr, hf⟩ := pd_ob3 hf
      refine pd_callV (pkJ4_append_15ec4 l hr) dL_begins_365 pq_911 pq_914 pq_915 (show vwCl[13]? = some (yJ4_append_15ec4.cls, TX13, 4) from rfl) hg178 (pd_okA (by omega) (by decide) (by omega) (by omega) pq_912 pq_913 (by decide) (show (parseMethodDescriptor yJ4_append_15ec4.desc).map (fun d => d.parameters.length) = some 1 from by decide +kernel)) (Nat.le_of_ble_eq_true rfl) rfl ?_
      obtain ⟨hg182, hf⟩ := pd_ig hf
      obtain ⟨r184, sh183, F181, hr, hf⟩ := pd_ob3 hf
      refine pd_callV (pkJ4_toString_0e30d l hr) dL_begins_368 pq_921 pq_924 pq_925 (show vwCl[13]? = some (yJ4_toString_0e30d.cls, TX13, 4) from rfl) hg182 (pd_okA (by omega) (by decide) (by omega) (by omega) pq_922 pq_923 (by decide) (show (parseMethodDescriptor yJ4_toString_0e30d.desc).map (fun d => d.parameters.length) = some 0 from by decide +kernel)) (Nat.le_of_ble_eq_true rfl) rfl ?_
      obtain ⟨hg185, hf⟩ := pd_ig hf
      refine pd_astore (L' := [pd_R x0, pd_R (-60), pd_I x2, pd_I x3, pd_I x4, pd_R r184, pd_I x6, pd_I x7, pd_N, pd_N]) dL_begins_371 (by decide) hg185 rfl ?_
      refine pd_iincN (L' := fun y => [pd_R x0, pd_R (-60), pd_I x2, pd_I x3, pd_I x4, pd_R r184, pd_I y, pd_I x7, pd_N, pd_N]) dL_begins_373 rfl (by decide) (by decide) (fun _ => rfl) (fun x6_373 ex6_373 => ?_)
      have hf := pd_lt hf ex6_373
      clear ex6_373
      refine pd_iincN (L' := fun y => [pd_R x0, pd_R (-60), pd_I x2, pd_I x3, pd_I x4, pd_R r184, pd_I x6_373, pd_I y, pd_N, pd_N]) dL_begins_376 rfl (by decide) (by decide) (fun _ => rfl) (fun x7_376 ex7_376 => ?_)
      have hf := pd_lt hf ex7_376
      clear ex7_376
      refine pd_goto (tgt := 291) dL_begins_379 (by decide) ?_
      exact pd_weak (L' := [pd_R x0, pd_R (-60), pd_I x2, pd_I x3, pd_I x4, pd_R r184, pd_I x6_373, pd_I x7_376, pd_N, pd_N]) ⟨Or.inr rfl, Or.inr rfl, Or.inr rfl, Or.inr rfl, Or.inr rfl, Or.inr rfl, Or.inr rfl, Or.inr rfl, Or.inr rfl, Or.inr rfl, trivial⟩ (ih _ _ (by omega) (by omega) _ _ _ _ _ _ _ _ _ hf)
set_option maxHeartbeats 8000000 in
set_option maxRecDepth 100000 in
theorem pkL_begins_b288 (E : pd_E) (l : Launch) {Ls : Int} {xs : Int → Int} (hLs : Ls = (E.2.2.2 21 : Nat) ∧ Ls < 2147483648) (hxs : ∀ j : Int, 0 ≤ j → j < Ls → xs j = (Int32.ofNat (E.2.2.2 (22 + j.toNat))).toInt) {n : Nat} {shz : pd_S} {ρ : Int} {Fz : pd_F}  (cells slots : Nat) (hc0 : cells + 699 ≤ 1196) (hs0 : slots + pd_U * 699 ≤ pd_U * 1196) (sh : pd_S) (F : pd_F) (x0 : Int) (x2 : Int) (x3 : Int) (x4 : Int) (x5 : Int) (x6 : Int) (hf : pfL_begins_b288 Ls xs n  sh F x0 x2 x3 x4 x5 x6 = some (ρ, shz, Fz)) : pd_V E l (pd_rm 15 1196 (pd_U * 1196)) (RL, cL_begins, 10, (some .boolean), "begins") (pd_Qm E true (some (pd_I ρ)) shz Fz 1196 (pd_U * 1196)) true cells slots sh F 288 [pd_R x0, pd_R (-60), pd_I x2, pd_I x3, pd_I x4, pd_R x5, pd_I x6, pd_N, pd_N, pd_N] [] := by
  unfold pfL_begins_b288 at hf
  have hU : 8 ≤ pd_U := by decide
  refine pd_iconst dL_begins_288 (by decide) ?_
  refine pd_istore (L' := [pd_R x0, pd_R (-60), pd_I x2, pd_I x3, pd_I x4, pd_R x5, pd_I x6, pd_I 0, pd_N, pd_N]) dL_begins_289 (by decide) rfl ?_
  exact pd_weak (L' := [pd_R x0, pd_R (-60), pd_I x2, pd_I x3, pd_I x4, pd_R x5, pd_I x6, pd_I 0, pd_N, pd_N]) ⟨Or.inr rfl, Or.inr rfl, Or.inr rfl, Or.inr rfl, Or.inr rfl, Or.inr rfl, Or.inr rfl, Or.inr rfl, Or.inr rfl, Or.inr rfl, trivial⟩ (pkL_begins_b291 E l hLs hxs 6 _ _ (by omega) (by omega) _ _ _ _ _ _ _ _ _ hf)
set_option maxHeartbeats 8000000 in
set_option maxRecDepth 100000 in
theorem pkL_begins_b217 (E : pd_E) (l : Launch) {Ls : Int} {xs : Int → Int} (hLs : Ls = (E.2.2.2 21 : Nat) ∧ Ls < 2147483648) (hxs : ∀ j : Int, 0 ≤ j → j < Ls → xs j = (Int32.ofNat (E.2.2.2 (22 + j.toNat))).toInt) {n : Nat} {shz : pd_S} {ρ : Int} {Fz : pd_F}  : ∀ (k cells slots : Nat) (hc0 : cells + (k * 90 + 699) ≤ 1196) (hs0 : slots + (pd_U * k * 90 + pd_U * 699) ≤ pd_U * 1196) (sh : pd_S) (F : pd_F) (x0 : Int) (x2 : Int) (x3 : Int) (x4 : Int) (x5 : Int) (x6 : Int) (x7 : Int), pfL_begins_b217 Ls xs n  k sh F x0 x2 x3 x4 x5 x6 x7 = some (ρ, shz, Fz) → pd_V E l (pd_rm 15 1196 (pd_U * 1196)) (RL, cL_begins, 10, (some .boolean), "begins") (pd_Qm E true (some (pd_I ρ)) shz Fz 1196 (pd_U * 1196)) true cells slots sh F 217 [pd_R x0, pd_R (-60), pd_I x2, pd_I x3, pd_I x4, pd_R x5, pd_I x6, pd_I x7, pd_N, pd_N] [] := by
  intro k
  induction k with
  | zero => intro cells slots _ _ sh F x0 x2 x3 x4 x5 x6 x7 hf; exact absurd hf (by unfold pfL_begins_b217; exact fun h => nomatch h)
  | succ k ih =>
    intro cells slots hc0 hs0 sh F x0 x2 x3 x4 x5 x6 x7 hf
    unfold pfL_begins_b217 at hf
    have hU : 8 ≤ pd_U := by decide
    have hUk := Nat.mul_succ pd_U k
    rw [hUk] at hs0
    clear hUk
    refine pd_iload (i := 7) dL_begins_217 rfl ?_
    refine pd_iload_n (i := 3) dL_begins_219 rfl rfl ?_
    refine pd_icmp_ge (tgt := 288) dL_begins_220 (by decide) (fun hc => ?_) (fun hc => ?_)
    · have hf := pd_ip hf hc
      exact pd_weak (L' := [pd_R x0, pd_R (-60), pd_I x2, pd_I x3, pd_I x4, pd_R x5, pd_I x6, pd_N, pd_N, pd_N]) ⟨Or.inr rfl, Or.inr rfl, Or.inr rfl, Or.inr rfl, Or.inr rfl, Or.inr rfl, Or.inr rfl, Or.inl rfl, Or.inr rfl, Or.inr rfl, trivial⟩ (pkL_begins_b288 E l hLs hxs _ _ (by omega) (by omega) _ _ _ _ _ _ _ _ hf)
    · have hf := pd_in_ hf hc
      refine pd_new dL_begins_223 (show vwCl[13]? = some (RX13, TX13, 4) from rfl) pin_13 tyX13_ok pq_904 pq_905 pq_906 (by decide) ⟨by show _ ≤ 1196; omega, by show _ ≤ pd_U * 1196; omega⟩ ?_
      refine pd_topR (fun o188 eo188 => ?_)
      have hf := pd_lt hf eo188
      refine pd_topF (fun F187 eF187 => ?_)
      have hf := pd_lt hf eF187
      refine pd_topS (fun sh186 esh186 => ?_)
      have hf := pd_lt hf esh186
      clear esh186 eF187 eo188
      refine pd_dup dL_begins_226 rfl ?_
      obtain ⟨hg190, hf⟩ := pd_ig hf
      obtain ⟨sh191, F189, hr, hf⟩ := pd_ob2 hf
      refine pd_callI (pkJ4_init_da8c8 l hr) dL_begins_227 pq_907 pq_910 rfl hg190 (pd_okA (by omega) (by decide) (by omega) (by omega) pq_908 pq_909 (by decide) (show (parseMethodDescriptor yJ4_init_da8c8.desc).map (fun d => d.parameters.length) = some 0 from by decide +kernel)) (Nat.le_of_ble_eq_true rfl) rfl ?_
      refine pd_aload (i := 5) dL_begins_230 rfl ?_
      obtain ⟨hg193, hf⟩ := pd_ig hf
      obtain ⟨r195, sh194, F192, hr, hf⟩ := pd_ob3 hf
      refine pd_callV (pkJ4_append_15ec4 l hr) dL_begins_232 pq_911 pq_914 pq_915 (show vwCl[13]? = some (yJ4_append_15ec4.cls, TX13, 4) from rfl) hg193 (pd_okA (by omega) (by decide) (by omega) (by omega) pq_912 pq_913 (by decide) (show (parseMethodDescriptor yJ4_append_15ec4.desc).map (fun d => d.parameters.length) = some 1 from by decide +kernel)) (Nat.le_of_ble_eq_true rfl) rfl ?_
      refine pd_ldcS (k0 := 11) dL_begins_235 rfl ?_
      obtain ⟨hg197, hf⟩ := pd_ig hf
      obtain ⟨r199, sh198, F196, hr, hf⟩ := pd_ob3 hf
      refine pd_callV (pkJ4_append_15ec4 l hr) dL_begins_237 pq_911 pq_914 pq_915 (show vwCl[13]? = some (yJ4_append_15ec4.cls, TX13, 4) from rfl) hg197 (pd_okA (by omega) (by decide) (by omega) (by omega) pq_912 pq_913 (by decide) (show (parseMethodDescriptor yJ4_append_15ec4.desc).map (fun d => d.parameters.length) = some 1 from by decide +kernel)) (Nat.le_of_ble_eq_true rfl) rfl ?_
      refine pd_ldcS (k0 := 12) dL_begins_240 rfl ?_
      refine pd_iload (i := 7) dL_begins_242 rfl ?_
      obtain ⟨r202, sh201, F200, hr, hf⟩ := pd_ob3 hf
      refine pd_callS (pkL_name l hr) dL_begins_244 pq_930 pq_933 (pd_okA (by omega) (by decide) (by omega) (by omega) pq_931 pq_932 (by decide) (show (parseMethodDescriptor yL_name.desc).map (fun d => d.parameters.length) = some 2 from by decide +kernel)) (Nat.le_of_ble_eq_true rfl) rfl ?_
      obtain ⟨hg204, hf⟩ := pd_ig hf
      obtain ⟨r206, sh205, F203, hr, hf⟩ := pd_ob3 hf
      refine pd_callV (pkJ4_append_15ec4 l hr) dL_begins_247 pq_911 pq_914 pq_915 (show vwCl[13]? = some (yJ4_append_15ec4.cls, TX13, 4) from rfl) hg204 (pd_okA (by omega) (by decide) (by omega) (by omega) pq_912 pq_913 (by decide) (show (parseMethodDescriptor yJ4_append_15ec4.desc).map (fun d => d.parameters.length) = some 1 from by decide +kernel)) (Nat.le_of_ble_eq_true rfl) rfl ?_
      refine pd_aload_n (i := 1) dL_begins_250 rfl rfl ?_
      refine pd_bipush dL_begins_251 (by decide) ?_
      refine pd_bipush dL_begins_253 (by decide) ?_
      refine pd_iload (i := 7) dL_begins_255 rfl ?_
      refine pd_imul dL_begins_257 ?_
      refine pd_iadd dL_begins_258 ?_
      refine pd_iload_n (i := 2) dL_begins_259 rfl rfl ?_
      refine pd_iload (i := 7) dL_begins_260 rfl ?_
      refine pd_iconst dL_begins_262 (by decide) ?_
      obtain ⟨r209, sh208, F207, hr, hf⟩ := pd_ob3 hf
      refine pd_callSE (pkL_parts E l hLs hxs hr) dL_begins_263 pq_984 pq_987 (pd_okA (by omega) (by decide) (by omega) (by omega) pq_985 pq_986 (by decide) (show (parseMethodDescriptor yL_parts.desc).map (fun d => d.parameters.length) = some 5 from by decide +kernel)) (Nat.le_of_ble_eq_true rfl) rfl ?_
      obtain ⟨hg211, hf⟩ := pd_ig hf
      obtain ⟨r213, sh212, F210, hr, hf⟩ := pd_ob3 hf
      refine pd_callV (pkJ4_append_15ec4 l hr) dL_begins_266 pq_911 pq_914 pq_915 (show vwCl[13]? = some (yJ4_append_15ec4.cls, TX13, 4) from rfl) hg211 (pd_okA (by omega) (by decide) (by omega) (by omega) pq_912 pq_913 (by decide) (show (parseMethodDescriptor yJ4_append_15ec4.desc).map (fun d => d.parameters.length) = some 1 from by decide +kernel)) (Nat.le_of_ble_eq_true rfl) rfl ?_
      refine pd_ldcS (k0 := 4) dL_begins_269 rfl ?_
      obtain ⟨hg215, hf⟩ := pd_ig hf
      obtain ⟨r217, sh216, F214, hr, hf⟩ := pd_ob3 hf
      refine pd_callV (pkJ4_append_15ec4 l hr) dL_begins_271 pq_911 pq_914 pq_915 (show vwCl[13]? = some (yJ4_append_15ec4.cls, TX13, 4) from rfl) hg215 (pd_okA (by omega) (by decide) (by omega) (by omega) pq_912 pq_913 (by decide) (show (parseMethodDescriptor yJ4_append_15ec4.desc).map (fun d => d.parameters.length) = some 1 from by decide +kernel)) (Nat.le_of_ble_eq_true rfl) rfl ?_
      obtain ⟨hg219, hf⟩ := pd_ig hf
      obtain ⟨r221, sh220, F218, hr, hf⟩ := pd_ob3 hf
      refine pd_callV (pkJ4_toString_0e30d l hr) dL_begins_274 pq_921 pq_924 pq_925 (show vwCl[13]? = some (yJ4_toString_0e30d.cls, TX13, 4) from rfl) hg219 (pd_okA (by omega) (by decide) (by omega) (by omega) pq_922 pq_923 (by decide) (show (parseMethodDescriptor yJ4_toString_0e30d.desc).map (fun d => d.parameters.length) = some 0 from by decide +kernel)) (Nat.le_of_ble_eq_true rfl) rfl ?_
      obtain ⟨hg222, hf⟩ := pd_ig hf
      refine pd_astore (L' := [pd_R x0, pd_R (-60), pd_I x2, pd_I x3, pd_I x4, pd_R r221, pd_I x6, pd_I x7, pd_N, pd_N]) dL_begins_277 (by decide) hg222 rfl ?_
      refine pd_iincN (L' := fun y => [pd_R x0, pd_R (-60), pd_I x2, pd_I x3, pd_I x4, pd_R r221, pd_I y, pd_I x7, pd_N, pd_N]) dL_begins_279 rfl (by decide) (by decide) (fun _ => rfl) (fun x6_279 ex6_279 => ?_)
      have hf := pd_lt hf ex6_279
      clear ex6_279
      refine pd_iincN (L' := fun y => [pd_R x0, pd_R (-60), pd_I x2, pd_I x3, pd_I x4, pd_R r221, pd_I x6_279, pd_I y, pd_N, pd_N]) dL_begins_282 rfl (by decide) (by decide) (fun _ => rfl) (fun x7_282 ex7_282 => ?_)
      have hf := pd_lt hf ex7_282
      clear ex7_282
      refine pd_goto (tgt := 217) dL_begins_285 (by decide) ?_
      exact pd_weak (L' := [pd_R x0, pd_R (-60), pd_I x2, pd_I x3, pd_I x4, pd_R r221, pd_I x6_279, pd_I x7_282, pd_N, pd_N]) ⟨Or.inr rfl, Or.inr rfl, Or.inr rfl, Or.inr rfl, Or.inr rfl, Or.inr rfl, Or.inr rfl, Or.inr rfl, Or.inr rfl, Or.inr rfl, trivial⟩ (ih _ _ (by omega) (by omega) _ _ _ _ _ _ _ _ _ hf)
set_option maxHeartbeats 8000000 in
set_option maxRecDepth 100000 in
theorem pkL_begins_b214 (E : pd_E) (l : Launch) {Ls : Int} {xs : Int → Int} (hLs : Ls = (E.2.2.2 21 : Nat) ∧ Ls < 2147483648) (hxs : ∀ j : Int, 0 ≤ j → j < Ls → xs j = (Int32.ofNat (E.2.2.2 (22 + j.toNat))).toInt) {n : Nat} {shz : pd_S} {ρ : Int} {Fz : pd_F}  (cells slots : Nat) (hc0 : cells + 1059 ≤ 1196) (hs0 : slots + pd_U * 1059 ≤ pd_U * 1196) (sh : pd_S) (F : pd_F) (x0 : Int) (x2 : Int) (x3 : Int) (x4 : Int) (x5 : Int) (x6 : Int) (hf : pfL_begins_b214 Ls xs n  sh F x0 x2 x3 x4 x5 x6 = some (ρ, shz, Fz)) : pd_V E l (pd_rm 15 1196 (pd_U * 1196)) (RL, cL_begins, 10, (some .boolean), "begins") (pd_Qm E true (some (pd_I ρ)) shz Fz 1196 (pd_U * 1196)) true cells slots sh F 214 [pd_R x0, pd_R (-60), pd_I x2, pd_I x3, pd_I x4, pd_R x5, pd_I x6, pd_N, pd_N, pd_N] [] := by
  unfold pfL_begins_b214 at hf
  have hU : 8 ≤ pd_U := by decide
  refine pd_iconst dL_begins_214 (by decide) ?_
  refine pd_istore (L' := [pd_R x0, pd_R (-60), pd_I x2, pd_I x3, pd_I x4, pd_R x5, pd_I x6, pd_I 0, pd_N, pd_N]) dL_begins_215 (by decide) rfl ?_
  exact pd_weak (L' := [pd_R x0, pd_R (-60), pd_I x2, pd_I x3, pd_I x4, pd_R x5, pd_I x6, pd_I 0, pd_N, pd_N]) ⟨Or.inr rfl, Or.inr rfl, Or.inr rfl, Or.inr rfl, Or.inr rfl, Or.inr rfl, Or.inr rfl, Or.inr rfl, Or.inr rfl, Or.inr rfl, trivial⟩ (pkL_begins_b217 E l hLs hxs 4 _ _ (by omega) (by omega) _ _ _ _ _ _ _ _ _ hf)
set_option maxHeartbeats 8000000 in
set_option maxRecDepth 100000 in
theorem pkL_begins_b96 (E : pd_E) (l : Launch) {Ls : Int} {xs : Int → Int} (hLs : Ls = (E.2.2.2 21 : Nat) ∧ Ls < 2147483648) (hxs : ∀ j : Int, 0 ≤ j → j < Ls → xs j = (Int32.ofNat (E.2.2.2 (22 + j.toNat))).toInt) {n : Nat} {shz : pd_S} {ρ : Int} {Fz : pd_F}  : ∀ (k cells slots : Nat) (hc0 : cells + (k * 18 + 1059) ≤ 1196) (hs0 : slots + (pd_U * k * 18 + pd_U * 1059) ≤ pd_U * 1196) (sh : pd_S) (F : pd_F) (x0 : Int) (x2 : Int) (x3 : Int) (x4 : Int) (x5 : Int) (x6 : Int) (x7 : Int), pfL_begins_b96 Ls xs n  k sh F x0 x2 x3 x4 x5 x6 x7 = some (ρ, shz, Fz) → pd_V E l (pd_rm 15 1196 (pd_U * 1196)) (RL, cL_begins, 10, (some .boolean), "begins") (pd_Qm E true (some (pd_I ρ)) shz Fz 1196 (pd_U * 1196)) true cells slots sh F 96 [pd_R x0, pd_R (-60), pd_I x2, pd_I x3, pd_I x4, pd_R x5, pd_I x6, pd_I x7, pd_N, pd_N] [] := by
  intro k
  induction k with
  | zero => intro cells slots _ _ sh F x0 x2 x3 x4 x5 x6 x7 hf; exact absurd hf (by unfold pfL_begins_b96; exact fun h => nomatch h)
  | succ k ih =>
    intro cells slots hc0 hs0 sh F x0 x2 x3 x4 x5 x6 x7 hf
    unfold pfL_begins_b96 at hf
    have hU : 8 ≤ pd_U := by decide
    have hUk := Nat.mul_succ pd_U k
    rw [hUk] at hs0
    clear hUk
    refine pd_iload (i := 7) dL_begins_96 rfl ?_
    refine pd_iload_n (i := 2) dL_begins_98 rfl rfl ?_
    refine pd_icmp_ge (tgt := 214) dL_begins_99 (by decide) (fun hc => ?_) (fun hc => ?_)
    · have hf := pd_ip hf hc
      exact pd_weak (L' := [pd_R x0, pd_R (-60), pd_I x2, pd_I x3, pd_I x4, pd_R x5, pd_I x6, pd_N, pd_N, pd_N]) ⟨Or.inr rfl, Or.inr rfl, Or.inr rfl, Or.inr rfl, Or.inr rfl, Or.inr rfl, Or.inr rfl, Or.inl rfl, Or.inr rfl, Or.inr rfl, trivial⟩ (pkL_begins_b214 E l hLs hxs _ _ (by omega) (by omega) _ _ _ _ _ _ _ _ hf)
    · have hf := pd_in_ hf hc
      refine pd_new dL_begins_102 (show vwCl[13]? = some (RX13, TX13, 4) from rfl) pin_13 tyX13_ok pq_904 pq_905 pq_906 (by decide) ⟨by show _ ≤ 1196; omega, by show _ ≤ pd_U * 1196; omega⟩ ?_
      refine pd_topR (fun o225 eo225 => ?_)
      have hf := pd_lt hf eo225
      refine pd_topF (fun F224 eF224 => ?_)
      have hf := pd_lt hf eF224
      refine pd_topS (fun sh223 esh223 => ?_)
      have hf := pd_lt hf esh223
      clear esh223 eF224 eo225
      refine pd_dup dL_begins_105 rfl ?_
      obtain ⟨hg227, hf⟩ := pd_ig hf
      obtain ⟨sh228, F226, hr, hf⟩ := pd_ob2 hf
      refine pd_callI (pkJ4_init_da8c8 l hr) dL_begins_106 pq_907 pq_910 rfl hg227 (pd_okA (by omega) (by decide) (by omega) (by omega) pq_908 pq_909 (by decide) (show (parseMethodDescriptor yJ4_init_da8c8.desc).map (fun d => d.parameters.length) = some 0 from by decide +kernel)) (Nat.le_of_ble_eq_true rfl) rfl ?_
      refine pd_aload (i := 5) dL_begins_109 rfl ?_
      obtain ⟨hg230, hf⟩ := pd_ig hf
      obtain ⟨r232, sh231, F229, hr, hf⟩ := pd_ob3 hf
      refine pd_callV (pkJ4_append_15ec4 l hr) dL_begins_111 pq_911 pq_914 pq_915 (show vwCl[13]? = some (yJ4_append_15ec4.cls, TX13, 4) from rfl) hg230 (pd_okA (by omega) (by decide) (by omega) (by omega) pq_912 pq_913 (by decide) (show (parseMethodDescriptor yJ4_append_15ec4.desc).map (fun d => d.parameters.length) = some 1 from by decide +kernel)) (Nat.le_of_ble_eq_true rfl) rfl ?_
      refine pd_ldcS (k0 := 5) dL_begins_114 rfl ?_
      obtain ⟨hg234, hf⟩ := pd_ig hf
      obtain ⟨r236, sh235, F233, hr, hf⟩ := pd_ob3 hf
      refine pd_callV (pkJ4_append_15ec4 l hr) dL_begins_116 pq_911 pq_914 pq_915 (show vwCl[13]? = some (yJ4_append_15ec4.cls, TX13, 4) from rfl) hg234 (pd_okA (by omega) (by decide) (by omega) (by omega) pq_912 pq_913 (by decide) (show (parseMethodDescriptor yJ4_append_15ec4.desc).map (fun d => d.parameters.length) = some 1 from by decide +kernel)) (Nat.le_of_ble_eq_true rfl) rfl ?_
      refine pd_ldcS (k0 := 6) dL_begins_119 rfl ?_
      refine pd_iload (i := 7) dL_begins_121 rfl ?_
      obtain ⟨r239, sh238, F237, hr, hf⟩ := pd_ob3 hf
      refine pd_callS (pkL_name l hr) dL_begins_123 pq_930 pq_933 (pd_okA (by omega) (by decide) (by omega) (by omega) pq_931 pq_932 (by decide) (show (parseMethodDescriptor yL_name.desc).map (fun d => d.parameters.length) = some 2 from by decide +kernel)) (Nat.le_of_ble_eq_true rfl) rfl ?_
      obtain ⟨hg241, hf⟩ := pd_ig hf
      obtain ⟨r243, sh242, F240, hr, hf⟩ := pd_ob3 hf
      refine pd_callV (pkJ4_append_15ec4 l hr) dL_begins_126 pq_911 pq_914 pq_915 (show vwCl[13]? = some (yJ4_append_15ec4.cls, TX13, 4) from rfl) hg241 (pd_okA (by omega) (by decide) (by omega) (by omega) pq_912 pq_913 (by decide) (show (parseMethodDescriptor yJ4_append_15ec4.desc).map (fun d => d.parameters.length) = some 1 from by decide +kernel)) (Nat.le_of_ble_eq_true rfl) rfl ?_
      refine pd_ldcS (k0 := 7) dL_begins_129 rfl ?_
      obtain ⟨hg245, hf⟩ := pd_ig hf
      obtain ⟨r247, sh246, F244, hr, hf⟩ := pd_ob3 hf
      refine pd_callV (pkJ4_append_15ec4 l hr) dL_begins_131 pq_911 pq_914 pq_915 (show vwCl[13]? = some (yJ4_append_15ec4.cls, TX13, 4) from rfl) hg245 (pd_okA (by omega) (by decide) (by omega) (by omega) pq_912 pq_913 (by decide) (show (parseMethodDescriptor yJ4_append_15ec4.desc).map (fun d => d.parameters.length) = some 1 from by decide +kernel)) (Nat.le_of_ble_eq_true rfl) rfl ?_
      refine pd_iconst dL_begins_134 (by decide) ?_
      refine pd_aload_n (i := 1) dL_begins_135 rfl rfl ?_
      refine pd_bipush dL_begins_136 (by decide) ?_
      refine pd_iload (i := 7) dL_begins_138 rfl ?_
      refine pd_iadd dL_begins_140 ?_
      refine pd_iconst dL_begins_141 (by decide) ?_
      obtain ⟨r249, F248, hr, hf⟩ := pd_ob2 hf
      refine pd_callSE (pkL_some E l hLs hxs hr) dL_begins_142 pq_926 pq_929 (pd_okA (by omega) (by decide) (by omega) (by omega) pq_927 pq_928 (by decide) (show (parseMethodDescriptor yL_some.desc).map (fun d => d.parameters.length) = some 3 from by decide +kernel)) (Nat.le_of_ble_eq_true rfl) rfl ?_
      refine pd_iadd dL_begins_145 ?_
      obtain ⟨hg251, hf⟩ := pd_ig hf
      obtain ⟨r253, sh252, F250, hr, hf⟩ := pd_ob3 hf
      refine pd_callV (pkJ4_append_bf812 l hr) dL_begins_146 pq_934 pq_937 pq_938 (show vwCl[13]? = some (yJ4_append_bf812.cls, TX13, 4) from rfl) hg251 (pd_okA (by omega) (by decide) (by omega) (by omega) pq_935 pq_936 (by decide) (show (parseMethodDescriptor yJ4_append_bf812.desc).map (fun d => d.parameters.length) = some 1 from by decide +kernel)) (Nat.le_of_ble_eq_true rfl) rfl ?_
      refine pd_aload_n (i := 1) dL_begins_149 rfl rfl ?_
      refine pd_bipush dL_begins_150 (by decide) ?_
      refine pd_iload (i := 7) dL_begins_152 rfl ?_
      refine pd_iadd dL_begins_154 ?_
      refine pd_iconst dL_begins_155 (by decide) ?_
      obtain ⟨r255, F254, hr, hf⟩ := pd_ob2 hf
      refine pd_callSE (pkL_some E l hLs hxs hr) dL_begins_156 pq_926 pq_929 (pd_okA (by omega) (by decide) (by omega) (by omega) pq_927 pq_928 (by decide) (show (parseMethodDescriptor yL_some.desc).map (fun d => d.parameters.length) = some 3 from by decide +kernel)) (Nat.le_of_ble_eq_true rfl) rfl ?_
      refine pd_if_ne (tgt := 167) dL_begins_159 (by decide) (fun hc => ?_) (fun hc => ?_)
      · have hf := pd_ip hf hc
        refine pd_ldcS (k0 := 9) dL_begins_167 rfl ?_
        exact pd_weak (L' := [pd_R x0, pd_R (-60), pd_I x2, pd_I x3, pd_I x4, pd_N, pd_I x6, pd_I x7, pd_N, pd_N]) ⟨Or.inr rfl, Or.inr rfl, Or.inr rfl, Or.inr rfl, Or.inr rfl, Or.inl rfl, Or.inr rfl, Or.inr rfl, Or.inr rfl, Or.inr rfl, trivial⟩ (pkL_begins_b169 E l hLs hxs ih _ _ (by omega) (by omega) _ _ _ _ _ _ _ _ _ _ hf)
      · have hf := pd_iq hf hc
        refine pd_ldcS (k0 := 8) dL_begins_162 rfl ?_
        refine pd_goto (tgt := 169) dL_begins_164 (by decide) ?_
        exact pd_weak (L' := [pd_R x0, pd_R (-60), pd_I x2, pd_I x3, pd_I x4, pd_N, pd_I x6, pd_I x7, pd_N, pd_N]) ⟨Or.inr rfl, Or.inr rfl, Or.inr rfl, Or.inr rfl, Or.inr rfl, Or.inl rfl, Or.inr rfl, Or.inr rfl, Or.inr rfl, Or.inr rfl, trivial⟩ (pkL_begins_b169 E l hLs hxs ih _ _ (by omega) (by omega) _ _ _ _ _ _ _ _ _ _ hf)
set_option maxHeartbeats 8000000 in
set_option maxRecDepth 100000 in
theorem pkL_begins (E : pd_E) (l : Launch) {Ls : Int} {xs : Int → Int} (hLs : Ls = (E.2.2.2 21 : Nat) ∧ Ls < 2147483648) (hxs : ∀ j : Int, 0 ≤ j → j < Ls → xs j = (Int32.ofNat (E.2.2.2 (22 + j.toNat))).toInt) {sh : pd_S} {n : Nat} {F : pd_F} {x0 : Int} {ρ : Int} {shz : pd_S} {Fz : pd_F} (hf : pfL_begins Ls xs sh n F x0 = some (ρ, shz, Fz)) : pd_CE E l yL_begins (Cond.code yL_begins cL_begins 10 (some .boolean) :: pd_gt) (pd_rm 15 1196 (pd_U * 1196)) true 1196 (pd_U * 1196) sh F [pd_R x0, pd_R (-60)] (some (pd_I ρ)) shz Fz := by
  unfold pfL_begins at hf
  have hU : 8 ≤ pd_U := by decide
  refine pd_bodyE (L := [pd_R x0, pd_R (-60), pd_N, pd_N, pd_N, pd_N, pd_N, pd_N, pd_N, pd_N]) (by decide +kernel) (Nat.le_of_ble_eq_true rfl) rfl ?_
  refine pd_iconst dL_begins_0 (by decide) ?_
  refine pd_aload_n (i := 1) dL_begins_1 rfl rfl ?_
  refine pd_iconst dL_begins_2 (by decide) ?_
  refine pd_iconst dL_begins_3 (by decide) ?_
  obtain ⟨r257, F256, hr, hf⟩ := pd_ob2 hf
  refine pd_callSE (pkL_some E l hLs hxs hr) dL_begins_4 pq_926 pq_929 (pd_okA (by omega) (by decide) (by omega) (by omega) pq_927 pq_928 (by decide) (show (parseMethodDescriptor yL_some.desc).map (fun d => d.parameters.length) = some 3 from by decide +kernel)) (Nat.le_of_ble_eq_true rfl) rfl ?_
  refine pd_iadd dL_begins_7 ?_
  refine pd_topI (fun x2_8 ex2_8 => ?_)
  have hf := pd_lt hf ex2_8
  clear ex2_8
  refine pd_istore_n (L' := [pd_R x0, pd_R (-60), pd_I x2_8, pd_N, pd_N, pd_N, pd_N, pd_N, pd_N, pd_N]) dL_begins_8 rfl (by decide) rfl ?_
  refine pd_aload_n (i := 1) dL_begins_9 rfl rfl ?_
  refine pd_iconst dL_begins_10 (by decide) ?_
  refine pd_iconst dL_begins_11 (by decide) ?_
  obtain ⟨r259, F258, hr, hf⟩ := pd_ob2 hf
  refine pd_callSE (pkL_some E l hLs hxs hr) dL_begins_12 pq_926 pq_929 (pd_okA (by omega) (by decide) (by omega) (by omega) pq_927 pq_928 (by decide) (show (parseMethodDescriptor yL_some.desc).map (fun d => d.parameters.length) = some 3 from by decide +kernel)) (Nat.le_of_ble_eq_true rfl) rfl ?_
  refine pd_istore_n (L' := [pd_R x0, pd_R (-60), pd_I x2_8, pd_I r259, pd_N, pd_N, pd_N, pd_N, pd_N, pd_N]) dL_begins_15 rfl (by decide) rfl ?_
  refine pd_iconst dL_begins_16 (by decide) ?_
  refine pd_aload_n (i := 1) dL_begins_17 rfl rfl ?_
  refine pd_iconst dL_begins_18 (by decide) ?_
  refine pd_iconst dL_begins_19 (by decide) ?_
  obtain ⟨r261, F260, hr, hf⟩ := pd_ob2 hf
  refine pd_callSE (pkL_some E l hLs hxs hr) dL_begins_20 pq_926 pq_929 (pd_okA (by omega) (by decide) (by omega) (by omega) pq_927 pq_928 (by decide) (show (parseMethodDescriptor yL_some.desc).map (fun d => d.parameters.length) = some 3 from by decide +kernel)) (Nat.le_of_ble_eq_true rfl) rfl ?_
  refine pd_iadd dL_begins_23 ?_
  refine pd_topI (fun x4_24 ex4_24 => ?_)
  have hf := pd_lt hf ex4_24
  clear ex4_24
  refine pd_istore (L' := [pd_R x0, pd_R (-60), pd_I x2_8, pd_I r259, pd_I x4_24, pd_N, pd_N, pd_N, pd_N, pd_N]) dL_begins_24 (by decide) rfl ?_
  refine pd_new dL_begins_26 (show vwCl[13]? = some (RX13, TX13, 4) from rfl) pin_13 tyX13_ok pq_904 pq_905 pq_906 (by decide) ⟨by show _ ≤ 1196; omega, by show _ ≤ pd_U * 1196; omega⟩ ?_
  refine pd_topR (fun o264 eo264 => ?_)
  have hf := pd_lt hf eo264
  refine pd_topF (fun F263 eF263 => ?_)
  have hf := pd_lt hf eF263
  refine pd_topS (fun sh262 esh262 => ?_)
  have hf := pd_lt hf esh262
  clear esh262 eF263 eo264
  refine pd_dup dL_begins_29 rfl ?_
  obtain ⟨hg266, hf⟩ := pd_ig hf
  obtain ⟨sh267, F265, hr, hf⟩ := pd_ob2 hf
  refine pd_callI (pkJ4_init_da8c8 l hr) dL_begins_30 pq_907 pq_910 rfl hg266 (pd_okA (by omega) (by decide) (by omega) (by omega) pq_908 pq_909 (by decide) (show (parseMethodDescriptor yJ4_init_da8c8.desc).map (fun d => d.parameters.length) = some 0 from by decide +kernel)) (Nat.le_of_ble_eq_true rfl) rfl ?_
  refine pd_ldcS (k0 := 1) dL_begins_33 rfl ?_
  obtain ⟨hg269, hf⟩ := pd_ig hf
  obtain ⟨r271, sh270, F268, hr, hf⟩ := pd_ob3 hf
  refine pd_callV (pkJ4_append_15ec4 l hr) dL_begins_35 pq_911 pq_914 pq_915 (show vwCl[13]? = some (yJ4_append_15ec4.cls, TX13, 4) from rfl) hg269 (pd_okA (by omega) (by decide) (by omega) (by omega) pq_912 pq_913 (by decide) (show (parseMethodDescriptor yJ4_append_15ec4.desc).map (fun d => d.parameters.length) = some 1 from by decide +kernel)) (Nat.le_of_ble_eq_true rfl) rfl ?_
  refine pd_aload_n (i := 1) dL_begins_38 rfl rfl ?_
  refine pd_iconst dL_begins_39 (by decide) ?_
  refine pd_sipush dL_begins_40 (by decide) ?_
  obtain ⟨r273, F272, hr, hf⟩ := pd_ob2 hf
  refine pd_callSE (pkL_some E l hLs hxs hr) dL_begins_43 pq_926 pq_929 (pd_okA (by omega) (by decide) (by omega) (by omega) pq_927 pq_928 (by decide) (show (parseMethodDescriptor yL_some.desc).map (fun d => d.parameters.length) = some 3 from by decide +kernel)) (Nat.le_of_ble_eq_true rfl) rfl ?_
  obtain ⟨hg275, hf⟩ := pd_ig hf
  obtain ⟨r277, sh276, F274, hr, hf⟩ := pd_ob3 hf
  refine pd_callV (pkJ4_append_bf812 l hr) dL_begins_46 pq_934 pq_937 pq_938 (show vwCl[13]? = some (yJ4_append_bf812.cls, TX13, 4) from rfl) hg275 (pd_okA (by omega) (by decide) (by omega) (by omega) pq_935 pq_936 (by decide) (show (parseMethodDescriptor yJ4_append_bf812.desc).map (fun d => d.parameters.length) = some 1 from by decide +kernel)) (Nat.le_of_ble_eq_true rfl) rfl ?_
  refine pd_ldcS (k0 := 2) dL_begins_49 rfl ?_
  obtain ⟨hg279, hf⟩ := pd_ig hf
  obtain ⟨r281, sh280, F278, hr, hf⟩ := pd_ob3 hf
  refine pd_callV (pkJ4_append_15ec4 l hr) dL_begins_51 pq_911 pq_914 pq_915 (show vwCl[13]? = some (yJ4_append_15ec4.cls, TX13, 4) from rfl) hg279 (pd_okA (by omega) (by decide) (by omega) (by omega) pq_912 pq_913 (by decide) (show (parseMethodDescriptor yJ4_append_15ec4.desc).map (fun d => d.parameters.length) = some 1 from by decide +kernel)) (Nat.le_of_ble_eq_true rfl) rfl ?_
  refine pd_aload_n (i := 1) dL_begins_54 rfl rfl ?_
  refine pd_iconst dL_begins_55 (by decide) ?_
  refine pd_bipush dL_begins_56 (by decide) ?_
  obtain ⟨r283, F282, hr, hf⟩ := pd_ob2 hf
  refine pd_callSE (pkL_some E l hLs hxs hr) dL_begins_58 pq_926 pq_929 (pd_okA (by omega) (by decide) (by omega) (by omega) pq_927 pq_928 (by decide) (show (parseMethodDescriptor yL_some.desc).map (fun d => d.parameters.length) = some 3 from by decide +kernel)) (Nat.le_of_ble_eq_true rfl) rfl ?_
  obtain ⟨hg285, hf⟩ := pd_ig hf
  obtain ⟨r287, sh286, F284, hr, hf⟩ := pd_ob3 hf
  refine pd_callV (pkJ4_append_bf812 l hr) dL_begins_61 pq_934 pq_937 pq_938 (show vwCl[13]? = some (yJ4_append_bf812.cls, TX13, 4) from rfl) hg285 (pd_okA (by omega) (by decide) (by omega) (by omega) pq_935 pq_936 (by decide) (show (parseMethodDescriptor yJ4_append_bf812.desc).map (fun d => d.parameters.length) = some 1 from by decide +kernel)) (Nat.le_of_ble_eq_true rfl) rfl ?_
  refine pd_ldcS (k0 := 3) dL_begins_64 rfl ?_
  obtain ⟨hg289, hf⟩ := pd_ig hf
  obtain ⟨r291, sh290, F288, hr, hf⟩ := pd_ob3 hf
  refine pd_callV (pkJ4_append_15ec4 l hr) dL_begins_66 pq_911 pq_914 pq_915 (show vwCl[13]? = some (yJ4_append_15ec4.cls, TX13, 4) from rfl) hg289 (pd_okA (by omega) (by decide) (by omega) (by omega) pq_912 pq_913 (by decide) (show (parseMethodDescriptor yJ4_append_15ec4.desc).map (fun d => d.parameters.length) = some 1 from by decide +kernel)) (Nat.le_of_ble_eq_true rfl) rfl ?_
  refine pd_aload_n (i := 1) dL_begins_69 rfl rfl ?_
  refine pd_iconst dL_begins_70 (by decide) ?_
  refine pd_sipush dL_begins_71 (by decide) ?_
  obtain ⟨r293, F292, hr, hf⟩ := pd_ob2 hf
  refine pd_callSE (pkL_some E l hLs hxs hr) dL_begins_74 pq_926 pq_929 (pd_okA (by omega) (by decide) (by omega) (by omega) pq_927 pq_928 (by decide) (show (parseMethodDescriptor yL_some.desc).map (fun d => d.parameters.length) = some 3 from by decide +kernel)) (Nat.le_of_ble_eq_true rfl) rfl ?_
  obtain ⟨hg295, hf⟩ := pd_ig hf
  obtain ⟨r297, sh296, F294, hr, hf⟩ := pd_ob3 hf
  refine pd_callV (pkJ4_append_bf812 l hr) dL_begins_77 pq_934 pq_937 pq_938 (show vwCl[13]? = some (yJ4_append_bf812.cls, TX13, 4) from rfl) hg295 (pd_okA (by omega) (by decide) (by omega) (by omega) pq_935 pq_936 (by decide) (show (parseMethodDescriptor yJ4_append_bf812.desc).map (fun d => d.parameters.length) = some 1 from by decide +kernel)) (Nat.le_of_ble_eq_true rfl) rfl ?_
  refine pd_ldcS (k0 := 4) dL_begins_80 rfl ?_
  obtain ⟨hg299, hf⟩ := pd_ig hf
  obtain ⟨r301, sh300, F298, hr, hf⟩ := pd_ob3 hf
  refine pd_callV (pkJ4_append_15ec4 l hr) dL_begins_82 pq_911 pq_914 pq_915 (show vwCl[13]? = some (yJ4_append_15ec4.cls, TX13, 4) from rfl) hg299 (pd_okA (by omega) (by decide) (by omega) (by omega) pq_912 pq_913 (by decide) (show (parseMethodDescriptor yJ4_append_15ec4.desc).map (fun d => d.parameters.length) = some 1 from by decide +kernel)) (Nat.le_of_ble_eq_true rfl) rfl ?_
  obtain ⟨hg303, hf⟩ := pd_ig hf
  obtain ⟨r305, sh304, F302, hr, hf⟩ := pd_ob3 hf
  refine pd_callV (pkJ4_toString_0e30d l hr) dL_begins_85 pq_921 pq_924 pq_925 (show vwCl[13]? = some (yJ4_toString_0e30d.cls, TX13, 4) from rfl) hg303 (pd_okA (by omega) (by decide) (by omega) (by omega) pq_922 pq_923 (by decide) (show (parseMethodDescriptor yJ4_toString_0e30d.desc).map (fun d => d.parameters.length) = some 0 from by decide +kernel)) (Nat.le_of_ble_eq_true rfl) rfl ?_
  obtain ⟨hg306, hf⟩ := pd_ig hf
  refine pd_astore (L' := [pd_R x0, pd_R (-60), pd_I x2_8, pd_I r259, pd_I x4_24, pd_R r305, pd_N, pd_N, pd_N, pd_N]) dL_begins_88 (by decide) hg306 rfl ?_
  refine pd_iconst dL_begins_90 (by decide) ?_
  refine pd_istore (L' := [pd_R x0, pd_R (-60), pd_I x2_8, pd_I r259, pd_I x4_24, pd_R r305, pd_I 3, pd_N, pd_N, pd_N]) dL_begins_91 (by decide) rfl ?_
  refine pd_iconst dL_begins_93 (by decide) ?_
  refine pd_istore (L' := [pd_R x0, pd_R (-60), pd_I x2_8, pd_I r259, pd_I x4_24, pd_R r305, pd_I 3, pd_I 0, pd_N, pd_N]) dL_begins_94 (by decide) rfl ?_
  exact pd_weak (L' := [pd_R x0, pd_R (-60), pd_I x2_8, pd_I r259, pd_I x4_24, pd_R r305, pd_I 3, pd_I 0, pd_N, pd_N]) ⟨Or.inr rfl, Or.inr rfl, Or.inr rfl, Or.inr rfl, Or.inr rfl, Or.inr rfl, Or.inr rfl, Or.inr rfl, Or.inr rfl, Or.inr rfl, trivial⟩ (pkL_begins_b96 E l hLs hxs 7 _ _ (by omega) (by omega) _ _ _ _ _ _ _ _ _ hf)
