def pfL_law_b123 (Ls : Int) (xs : Int → Int) (n : Nat) (c43 : pd_S → pd_F → Int → Int → Int → Option Int) (c62 : pd_S → pd_F → Int → Int → Int → Int → Int → Int → Option Int) (sh : pd_S) (F : pd_F) (x1 : Int) (x2 : Int) (x4 : Int) (x5 : Int) (x8 : Int) (x9 : Int) (t0 : Int) (t1 : Int) : Option Int :=
  pd_l (pd_w (t1 + t0)) fun x7_124 =>
  pd_l (pd_W (x5 + x9)) fun x5_132 =>
  pd_l (pd_w (x8 + 1)) fun x8_134 =>
  c62 sh F x1 x2 x4 x5_132 x7_124 x8_134
def pfL_law_b105 (Ls : Int) (xs : Int → Int) (n : Nat) (c43 : pd_S → pd_F → Int → Int → Int → Option Int) (c62 : pd_S → pd_F → Int → Int → Int → Int → Int → Int → Option Int) (sh : pd_S) (F : pd_F) (x1 : Int) (x2 : Int) (x4 : Int) (x5 : Int) (x7 : Int) (x8 : Int) (x9 : Int) : Option Int :=
  pd_i (pd_ob sh 11 x1 = true) <|
  Option.bind (pfX11_ways sh n F x1 x4 x8) fun qr3 => pd_l qr3.1 fun r3 => pd_l qr3.2 fun F1 =>
  if r3 ≤ 0 then
    pfL_law_b123 Ls xs n c43 c62 sh F1 x1 x2 x4 x5 x8 x9 0 x7
  else
    pfL_law_b123 Ls xs n c43 c62 sh F1 x1 x2 x4 x5 x8 x9 1 x7
def pfL_law_b164 (Ls : Int) (xs : Int → Int) (n : Nat) (c43 : pd_S → pd_F → Int → Int → Int → Option Int) (sh : pd_S) (F : pd_F) (x1 : Int) (x2 : Int) (x4 : Int) (x7 : Int) (t0 : Int) (t1 : Int) : Option Int :=
  if t1 ≠ t0 then
    some 0
  else
    pd_i (pd_ob sh 11 x1 = true) <|
    Option.bind (pfX11_account sh n F x1 x4 3) fun qr6 => pd_l qr6.1 fun r6 => pd_l qr6.2 fun F4 =>
    if r6 = x7 then
      Option.bind (pfX11_account sh n F4 x1 x4 0) fun qr8 => pd_l qr8.1 fun r8 => pd_l qr8.2 fun F7 =>
      pd_l (pd_W (x2 + r8)) fun x2_193 =>
      pd_l (pd_w (x4 + 1)) fun x4_194 =>
      c43 sh F7 x1 x2_193 x4_194
    else
      some 0
def pfL_law_b140 (Ls : Int) (xs : Int → Int) (n : Nat) (c43 : pd_S → pd_F → Int → Int → Int → Option Int) (sh : pd_S) (F : pd_F) (x1 : Int) (x2 : Int) (x4 : Int) (x5 : Int) (x7 : Int) : Option Int :=
  pd_i (pd_ob sh 11 x1 = true) <|
  Option.bind (pfX11_account sh n F x1 x4 2) fun qr11 => pd_l qr11.1 fun r11 => pd_l qr11.2 fun F9 =>
  if r11 ≠ 1 then
    Option.bind (pfX11_account sh n F9 x1 x4 0) fun qr13 => pd_l qr13.1 fun r13 => pd_l qr13.2 fun F12 =>
    pfL_law_b164 Ls xs n c43 sh F12 x1 x2 x4 x7 r13 x5
  else
    pfL_law_b164 Ls xs n c43 sh F9 x1 x2 x4 x7 0 x5
def pfL_law_b62 (Ls : Int) (xs : Int → Int) (n : Nat) (c43 : pd_S → pd_F → Int → Int → Int → Option Int) : Nat → pd_S → pd_F → Int → Int → Int → Int → Int → Int → Option Int
  | 0, _, _, _, _, _, _, _, _ => none
  | k + 1, sh, F, x1, x2, x4, x5, x7, x8 =>
    pd_i (pd_ob sh 11 x1 = true) <|
    Option.bind (pfX11_count sh n F x1 0) fun qr16 => pd_l qr16.1 fun r16 => pd_l qr16.2 fun F14 =>
    if x8 ≥ r16 then
      pfL_law_b140 Ls xs n c43 sh F14 x1 x2 x4 x5 x7
    else
      Option.bind (pfX11_share sh n F14 x1 x4 x8) fun qr18 => pd_l qr18.1 fun r18 => pd_l qr18.2 fun F17 =>
      if r18 < 0 then
        some 0
      else
        if r18 ≤ 0 then
          pfL_law_b105 Ls xs n c43 (pfL_law_b62 Ls xs n c43 k) sh F17 x1 x2 x4 x5 x7 x8 r18
        else
          Option.bind (pfX11_ways sh n F17 x1 x4 x8) fun qr20 => pd_l qr20.1 fun r20 => pd_l qr20.2 fun F19 =>
          if r20 ≠ 0 then
            pfL_law_b105 Ls xs n c43 (pfL_law_b62 Ls xs n c43 k) sh F19 x1 x2 x4 x5 x7 x8 r18
          else
            some 0
def pfL_law_b299 (Ls : Int) (xs : Int → Int) (n : Nat) (c237 : pd_S → pd_F → Int → Int → Int → Int → Int → Option Int) (c250 : pd_S → pd_F → Int → Int → Int → Int → Int → Int → Int → Option Int) (c263 : pd_S → pd_F → Int → Int → Int → Int → Int → Int → Int → Int → Option Int) (sh : pd_S) (F : pd_F) (x1 : Int) (x4 : Int) (x5 : Int) (x6 : Int) (x7 : Int) (x8 : Int) (x10 : Int) (x11 : Int) : Option Int :=
  pd_l (pd_w (x11 + 1)) fun x11_299 =>
  c263 sh F x1 x4 x5 x6 x7 x8 x10 x11_299
def pfL_law_b305 (Ls : Int) (xs : Int → Int) (n : Nat) (c237 : pd_S → pd_F → Int → Int → Int → Int → Int → Option Int) (c250 : pd_S → pd_F → Int → Int → Int → Int → Int → Int → Int → Option Int) (sh : pd_S) (F : pd_F) (x1 : Int) (x4 : Int) (x5 : Int) (x6 : Int) (x7 : Int) (x8 : Int) (x10 : Int) : Option Int :=
  pd_l (pd_w (x10 + 1)) fun x10_305 =>
  c250 sh F x1 x4 x5 x6 x7 x8 x10_305
def pfL_law_b263 (Ls : Int) (xs : Int → Int) (n : Nat) (c237 : pd_S → pd_F → Int → Int → Int → Int → Int → Option Int) (c250 : pd_S → pd_F → Int → Int → Int → Int → Int → Int → Int → Option Int) : Nat → pd_S → pd_F → Int → Int → Int → Int → Int → Int → Int → Int → Option Int
  | 0, _, _, _, _, _, _, _, _, _, _ => none
  | k + 1, sh, F, x1, x4, x5, x6, x7, x8, x10, x11 =>
    pd_i (pd_ob sh 11 x1 = true) <|
    Option.bind (pfX11_count sh n F x1 2) fun qr23 => pd_l qr23.1 fun r23 => pd_l qr23.2 fun F21 =>
    if x11 ≥ r23 then
      pfL_law_b305 Ls xs n c237 c250 sh F21 x1 x4 x5 x6 x7 x8 x10
    else
      Option.bind (pfX11_person sh n F21 x1 x10 5) fun qr25 => pd_l qr25.1 fun r25 => pd_l qr25.2 fun F24 =>
      if r25 ≠ x7 then
        pfL_law_b299 Ls xs n c237 c250 (pfL_law_b263 Ls xs n c237 c250 k) sh F24 x1 x4 x5 x6 x7 x8 x10 x11
      else
        Option.bind (pfX11_share sh n F24 x1 x11 x10) fun qr27 => pd_l qr27.1 fun r27 => pd_l qr27.2 fun F26 =>
        pd_l (pd_W (x8 + r27)) fun x8_297 =>
        pfL_law_b299 Ls xs n c237 c250 (pfL_law_b263 Ls xs n c237 c250 k) sh F26 x1 x4 x5 x6 x7 x8_297 x10 x11
def pfL_law_b311 (Ls : Int) (xs : Int → Int) (n : Nat) (c237 : pd_S → pd_F → Int → Int → Int → Int → Int → Option Int) (sh : pd_S) (F : pd_F) (x1 : Int) (x4 : Int) (x5 : Int) (x6 : Int) (x7 : Int) (x8 : Int) : Option Int :=
  pd_i (pd_ob sh 11 x1 = true) <|
  Option.bind (pfX11_view sh n F x1 x7 0) fun qr30 => pd_l qr30.1 fun r30 => pd_l qr30.2 fun F28 =>
  if r30 ≠ x8 then
    some 0
  else
    Option.bind (pfX11_view sh n F28 x1 x7 2) fun qr32 => pd_l qr32.1 fun r32 => pd_l qr32.2 fun F31 =>
    Option.bind (pfX11_view sh n F31 x1 x7 1) fun qr34 => pd_l qr34.1 fun r34 => pd_l qr34.2 fun F33 =>
    if r32 ≠ (min x8 r34) then
      some 0
    else
      Option.bind (pfX11_view sh n F33 x1 x7 3) fun qr36 => pd_l qr36.1 fun r36 => pd_l qr36.2 fun F35 =>
      Option.bind (pfX11_view sh n F35 x1 x7 2) fun qr38 => pd_l qr38.1 fun r38 => pd_l qr38.2 fun F37 =>
      if r36 = (pd_W (x8 - r38)) then
        Option.bind (pfX11_view sh n F37 x1 x7 5) fun qr40 => pd_l qr40.1 fun r40 => pd_l qr40.2 fun F39 =>
        Option.bind (pfX11_count sh n F39 x1 6) fun qr42 => pd_l qr42.1 fun r42 => pd_l qr42.2 fun F41 =>
        Option.bind (pfX11_view sh n F41 x1 x7 4) fun qr44 => pd_l qr44.1 fun r44 => pd_l qr44.2 fun F43 =>
        Option.bind (pfX11_count sh n F43 x1 7) fun qr46 => pd_l qr46.1 fun r46 => pd_l qr46.2 fun F45 =>
        if r40 ≠ (pd_W (r42 + (min r44 r46))) then
          some 0
        else
          Option.bind (pfX11_view sh n F45 x1 x7 6) fun qr48 => pd_l qr48.1 fun r48 => pd_l qr48.2 fun F47 =>
          Option.bind (pfX11_view sh n F47 x1 x7 3) fun qr50 => pd_l qr50.1 fun r50 => pd_l qr50.2 fun F49 =>
          Option.bind (pfX11_view sh n F49 x1 x7 5) fun qr52 => pd_l qr52.1 fun r52 => pd_l qr52.2 fun F51 =>
          if r48 ≠ (min r50 r52) then
            some 0
          else
            Option.bind (pfX11_view sh n F51 x1 x7 7) fun qr54 => pd_l qr54.1 fun r54 => pd_l qr54.2 fun F53 =>
            Option.bind (pfX11_view sh n F53 x1 x7 3) fun qr56 => pd_l qr56.1 fun r56 => pd_l qr56.2 fun F55 =>
            Option.bind (pfX11_view sh n F55 x1 x7 6) fun qr58 => pd_l qr58.1 fun r58 => pd_l qr58.2 fun F57 =>
            if r54 = (pd_W (r56 - r58)) then
              pd_i (pd_ib sh 1 0 x5 0 = true) <|
              pd_l (pd_up F57 x5 0 (pd_W ((F57 x5 0) + x8))) fun F60 =>
              pd_i (pd_ib sh 1 0 x5 1 = true) <|
              Option.bind (pfX11_view sh n F60 x1 x7 2) fun qr63 => pd_l qr63.1 fun r63 => pd_l qr63.2 fun F62 =>
              pd_l (pd_up F62 x5 1 (pd_W ((F60 x5 1) + r63))) fun F64 =>
              pd_i (pd_ib sh 1 0 x5 2 = true) <|
              Option.bind (pfX11_view sh n F64 x1 x7 6) fun qr67 => pd_l qr67.1 fun r67 => pd_l qr67.2 fun F66 =>
              pd_l (pd_up F66 x5 2 (pd_W ((F64 x5 2) + r67))) fun F68 =>
              pd_i (pd_ib sh 1 0 x5 3 = true) <|
              Option.bind (pfX11_view sh n F68 x1 x7 7) fun qr71 => pd_l qr71.1 fun r71 => pd_l qr71.2 fun F70 =>
              pd_l (pd_up F70 x5 3 (pd_W ((F68 x5 3) + r71))) fun F72 =>
              Option.bind (pfX11_who sh n F72 x1 x7) fun qr74 => pd_l qr74.1 fun r74 => pd_l qr74.2 fun F73 =>
              pd_l (pd_or x6 r74) fun x6_527 =>
              pd_l (pd_w (x7 + 1)) fun x7_529 =>
              c237 sh F73 x1 x4 x5 x6_527 x7_529
            else
              some 0
      else
        some 0
def pfL_law_b250 (Ls : Int) (xs : Int → Int) (n : Nat) (c237 : pd_S → pd_F → Int → Int → Int → Int → Int → Option Int) : Nat → pd_S → pd_F → Int → Int → Int → Int → Int → Int → Int → Option Int
  | 0, _, _, _, _, _, _, _, _, _ => none
  | k + 1, sh, F, x1, x4, x5, x6, x7, x8, x10 =>
    pd_i (pd_ob sh 11 x1 = true) <|
    Option.bind (pfX11_count sh n F x1 0) fun qr77 => pd_l qr77.1 fun r77 => pd_l qr77.2 fun F75 =>
    if x10 ≥ r77 then
      pfL_law_b311 Ls xs n c237 sh F75 x1 x4 x5 x6 x7 x8
    else
      pfL_law_b263 Ls xs n c237 (pfL_law_b250 Ls xs n c237 k) n sh F75 x1 x4 x5 x6 x7 x8 x10 0
def pfL_law_b567 (Ls : Int) (xs : Int → Int) (n : Nat)  (sh : pd_S) (F : pd_F) (x1 : Int) (x4 : Int) (x5 : Int) (x6 : Int) : Option Int :=
  pd_i (pd_ob sh 11 x1 = true) <|
  Option.bind (pfX11_count sh n F x1 0) fun qr80 => pd_l qr80.1 fun r80 => pd_l qr80.2 fun F78 =>
  if x6 ≠ (pd_w ((pd_shl 1 r80) - 1)) then
    some 0
  else
    Option.bind (pfX11_view sh n F78 x1 x4 0) fun qr82 => pd_l qr82.1 fun r82 => pd_l qr82.2 fun F81 =>
    if r82 ≠ (-1) then
      some 0
    else
      Option.bind (pfX11_who sh n F81 x1 (-1)) fun qr84 => pd_l qr84.1 fun r84 => pd_l qr84.2 fun F83 =>
      if r84 = (-1) then
        pd_i (pd_ib sh 1 0 x5 2 = true) <|
        pd_i (pd_ib sh 1 0 x5 3 = true) <|
        Option.bind (pfL_isPaid Ls xs sh n F83 x1 x4 (F83 x5 2) (F83 x5 3)) fun qr89 => pd_l qr89.1 fun r89 => pd_l qr89.2.1 fun sh88 => pd_l qr89.2.2 fun F87 =>
        if r89 = 0 then
          some 0
        else
          Option.bind (pfL_isRanked sh88 n F87 x1 x4) fun qr91 => pd_l qr91.1 fun r91 => pd_l qr91.2 fun F90 =>
          if r91 = 0 then
            some 0
          else
            some 1
      else
        some 0
def pfL_law_b538 (Ls : Int) (xs : Int → Int) (n : Nat)  : Nat → pd_S → pd_F → Int → Int → Int → Int → Int → Option Int
  | 0, _, _, _, _, _, _, _ => none
  | k + 1, sh, F, x1, x4, x5, x6, x7 =>
    if x7 ≥ 4 then
      pfL_law_b567 Ls xs n sh F x1 x4 x5 x6
    else
      pd_i (pd_ob sh 11 x1 = true) <|
      Option.bind (pfX11_all sh n F x1 x7) fun qr94 => pd_l qr94.1 fun r94 => pd_l qr94.2 fun F92 =>
      pd_i (pd_ib sh 1 0 x5 x7 = true) <|
      if r94 = (F92 x5 x7) then
        pd_l (pd_w (x7 + 1)) fun x7_561 =>
        pfL_law_b538 Ls xs n k sh F92 x1 x4 x5 x6 x7_561
      else
        some 0
def pfL_law_b535 (Ls : Int) (xs : Int → Int) (n : Nat)  (sh : pd_S) (F : pd_F) (x1 : Int) (x4 : Int) (x5 : Int) (x6 : Int) : Option Int :=
  pfL_law_b538 Ls xs n n sh F x1 x4 x5 x6 0
def pfL_law_b237 (Ls : Int) (xs : Int → Int) (n : Nat)  : Nat → pd_S → pd_F → Int → Int → Int → Int → Int → Option Int
  | 0, _, _, _, _, _, _, _ => none
  | k + 1, sh, F, x1, x4, x5, x6, x7 =>
    if x7 ≥ x4 then
      pfL_law_b535 Ls xs n sh F x1 x4 x5 x6
    else
      pfL_law_b250 Ls xs n (pfL_law_b237 Ls xs n k) n sh F x1 x4 x5 x6 x7 0 0
def pfL_law_b200 (Ls : Int) (xs : Int → Int) (n : Nat)  (sh : pd_S) (F : pd_F) (x1 : Int) (x2 : Int) : Option Int :=
  pd_i (pd_ob sh 11 x1 = true) <|
  Option.bind (pfX11_all sh n F x1 0) fun qr98 => pd_l qr98.1 fun r98 => pd_l qr98.2 fun F96 =>
  Option.bind (pfX11_all sh n F96 x1 4) fun qr100 => pd_l qr100.1 fun r100 => pd_l qr100.2 fun F99 =>
  if (pd_W (r98 + r100)) = x2 then
    Option.bind (pfX11_all sh n F99 x1 5) fun qr102 => pd_l qr102.1 fun r102 => pd_l qr102.2 fun F101 =>
    pd_l (pd_w r102) fun x4_224 =>
    pd_l ((sh.length : Int) + 1) fun o105 => pd_l (pd_z F101 (sh.length + 1)) fun F104 => pd_l (sh ++ [(1, 0, 4)]) fun sh103 =>
    pd_i (o105 ≠ 0) <|
    pfL_law_b237 Ls xs n n sh103 F104 x1 x4_224 o105 0 0
  else
    some 0
def pfL_law_b43 (Ls : Int) (xs : Int → Int) (n : Nat)  : Nat → pd_S → pd_F → Int → Int → Int → Option Int
  | 0, _, _, _, _, _ => none
  | k + 1, sh, F, x1, x2, x4 =>
    pd_i (pd_ob sh 11 x1 = true) <|
    Option.bind (pfX11_count sh n F x1 2) fun qr109 => pd_l qr109.1 fun r109 => pd_l qr109.2 fun F107 =>
    if x4 ≥ r109 then
      pfL_law_b200 Ls xs n sh F107 x1 x2
    else
      pfL_law_b62 Ls xs n (pfL_law_b43 Ls xs n k) n sh F107 x1 x2 x4 0 0 0
def pfL_law (Ls : Int) (xs : Int → Int) (n : Nat) (sh : pd_S) (F : pd_F) : Option Int :=
  pd_l ((sh.length : Int) + 1) fun o112 => pd_l (pd_z F (sh.length + 1)) fun F111 => pd_l (sh ++ [(4, 11, 10)]) fun sh110 =>
  pd_i (1 ≤ o112) <|
  Option.bind (pfX11_init sh110 F111 o112) fun qsh115 => pd_l qsh115.1 fun sh115 => pd_l qsh115.2 fun F113 =>
  pd_i (o112 ≠ 0) <|
  pd_i (pd_ob sh115 11 o112 = true) <|
  Option.bind (pfX11_all sh115 n F113 o112 0) fun qr119 => pd_l qr119.1 fun r119 => pd_l qr119.2 fun F117 =>
  if r119 ≠ 0 then
    some 0
  else
    Option.bind (pfX11_tell sh115 n F117 o112 0 1) fun qr121 => pd_l qr121.1 fun r121 => pd_l qr121.2 fun F120 =>
    if r121 ≠ (-1) then
      some 0
    else
      Option.bind (pfL_begins Ls xs sh115 n F120 o112) fun qr124 => pd_l qr124.1 fun r124 => pd_l qr124.2.1 fun sh123 => pd_l qr124.2.2 fun F122 =>
      if r124 ≠ 0 then
        pfL_law_b43 Ls xs n n sh123 F122 o112 0 0
      else
        some 0
set_option maxHeartbeats 8000000 in
set_option maxRecDepth 100000 in
theorem pkL_law_b123 (E : pd_E) (l : Launch) {Ls : Int} {xs : Int → Int} (hLs : Ls = (E.2.2.2 21 : Nat) ∧ Ls < 2147483648) (hxs : ∀ j : Int, 0 ≤ j → j < Ls → xs j = (Int32.ofNat (E.2.2.2 (22 + j.toNat))).toInt) {n : Nat} {c43 : pd_S → pd_F → Int → Int → Int → Option Int} {B43 D43 : Nat} (hL43 : ∀ (cells slots : Nat) (hc0 : cells + B43 ≤ 600086) (hs0 : slots + D43 ≤ 7301442) (sh : pd_S) (F : pd_F) (x1 : Int) (x2 : Int) (x4 : Int), c43 sh F x1 x2 x4 = some 1 → pd_V E l room_1 (RL, cL_law, 12, ret, "law") (pd_Ql E) true cells slots sh F 43 [pd_R (-60), pd_R x1, pd_J x2, pd_N, pd_I x4, pd_N, pd_N, pd_N, pd_N, pd_N, pd_N, pd_N] []) {c62 : pd_S → pd_F → Int → Int → Int → Int → Int → Int → Option Int} {B62 D62 : Nat} (hL62 : ∀ (cells slots : Nat) (hc0 : cells + B62 ≤ 600086) (hs0 : slots + D62 ≤ 7301442) (sh : pd_S) (F : pd_F) (x1 : Int) (x2 : Int) (x4 : Int) (x5 : Int) (x7 : Int) (x8 : Int), c62 sh F x1 x2 x4 x5 x7 x8 = some 1 → pd_V E l room_1 (RL, cL_law, 12, ret, "law") (pd_Ql E) true cells slots sh F 62 [pd_R (-60), pd_R x1, pd_J x2, pd_N, pd_I x4, pd_J x5, pd_N, pd_I x7, pd_I x8, pd_N, pd_N, pd_N] []) (hB62 : B43 ≤ B62) (hD62 : D43 ≤ D62) (cells slots : Nat) (hc0 : cells + 0 + B62 ≤ 600086) (hs0 : slots + pd_U * 0 + D62 ≤ 7301442) (sh : pd_S) (F : pd_F) (x1 : Int) (x2 : Int) (x4 : Int) (x5 : Int) (x8 : Int) (x9 : Int) (t0 : Int) (t1 : Int) (hf : pfL_law_b123 Ls xs n c43 c62 sh F x1 x2 x4 x5 x8 x9 t0 t1 = some 1) : pd_V E l room_1 (RL, cL_law, 12, ret, "law") (pd_Ql E) true cells slots sh F 123 [pd_R (-60), pd_R x1, pd_J x2, pd_N, pd_I x4, pd_J x5, pd_N, pd_N, pd_I x8, pd_I x9, pd_N, pd_N] [pd_I t0, pd_I t1] := by
  unfold pfL_law_b123 at hf
  have hU : 8 ≤ pd_U := by decide
  refine pd_iadd dL_law_123 ?_
  refine pd_topI (fun x7_124 ex7_124 => ?_)
  have hf := pd_lt hf ex7_124
  clear ex7_124
  refine pd_istore (L' := [pd_R (-60), pd_R x1, pd_J x2, pd_N, pd_I x4, pd_J x5, pd_N, pd_I x7_124, pd_I x8, pd_I x9, pd_N, pd_N]) dL_law_124 (by decide) rfl ?_
  refine pd_lload (i := 5) dL_law_126 rfl ?_
  refine pd_iload (i := 9) dL_law_128 rfl ?_
  refine pd_i2l dL_law_130 ?_
  refine pd_ladd dL_law_131 ?_
  refine pd_topJ (fun x5_132 ex5_132 => ?_)
  have hf := pd_lt hf ex5_132
  clear ex5_132
  refine pd_lstore (L' := [pd_R (-60), pd_R x1, pd_J x2, pd_N, pd_I x4, pd_J x5_132, pd_N, pd_I x7_124, pd_I x8, pd_I x9, pd_N, pd_N]) dL_law_132 (by decide) rfl ?_
  refine pd_iincN (L' := fun y => [pd_R (-60), pd_R x1, pd_J x2, pd_N, pd_I x4, pd_J x5_132, pd_N, pd_I x7_124, pd_I y, pd_I x9, pd_N, pd_N]) dL_law_134 rfl (by decide) (by decide) (fun _ => rfl) (fun x8_134 ex8_134 => ?_)
  have hf := pd_lt hf ex8_134
  clear ex8_134
  refine pd_goto (tgt := 62) dL_law_137 (by decide) ?_
  exact pd_weak (L' := [pd_R (-60), pd_R x1, pd_J x2, pd_N, pd_I x4, pd_J x5_132, pd_N, pd_I x7_124, pd_I x8_134, pd_N, pd_N, pd_N]) ⟨Or.inr rfl, Or.inr rfl, Or.inr rfl, Or.inr rfl, Or.inr rfl, Or.inr rfl, Or.inr rfl, Or.inr rfl, Or.inr rfl, Or.inl rfl, Or.inr rfl, Or.inr rfl, trivial⟩ (hL62 _ _ (by omega) (by omega) _ _ _ _ _ _ _ _ hf)
set_option maxHeartbeats 8000000 in
set_option maxRecDepth 100000 in
theorem pkL_law_b105 (E : pd_E) (l : Launch) {Ls : Int} {xs : Int → Int} (hLs : Ls = (E.2.2.2 21 : Nat) ∧ Ls < 2147483648) (hxs : ∀ j : Int, 0 ≤ j → j < Ls → xs j = (Int32.ofNat (E.2.2.2 (22 + j.toNat))).toInt) {n : Nat} {c43 : pd_S → pd_F → Int → Int → Int → Option Int} {B43 D43 : Nat} (hL43 : ∀ (cells slots : Nat) (hc0 : cells + B43 ≤ 600086) (hs0 : slots + D43 ≤ 7301442) (sh : pd_S) (F : pd_F) (x1 : Int) (x2 : Int) (x4 : Int), c43 sh F x1 x2 x4 = some 1 → pd_V E l room_1 (RL, cL_law, 12, ret, "law") (pd_Ql E) true cells slots sh F 43 [pd_R (-60), pd_R x1, pd_J x2, pd_N, pd_I x4, pd_N, pd_N, pd_N, pd_N, pd_N, pd_N, pd_N] []) {c62 : pd_S → pd_F → Int → Int → Int → Int → Int → Int → Option Int} {B62 D62 : Nat} (hL62 : ∀ (cells slots : Nat) (hc0 : cells + B62 ≤ 600086) (hs0 : slots + D62 ≤ 7301442) (sh : pd_S) (F : pd_F) (x1 : Int) (x2 : Int) (x4 : Int) (x5 : Int) (x7 : Int) (x8 : Int), c62 sh F x1 x2 x4 x5 x7 x8 = some 1 → pd_V E l room_1 (RL, cL_law, 12, ret, "law") (pd_Ql E) true cells slots sh F 62 [pd_R (-60), pd_R x1, pd_J x2, pd_N, pd_I x4, pd_J x5, pd_N, pd_I x7, pd_I x8, pd_N, pd_N, pd_N] []) (hB62 : B43 ≤ B62) (hD62 : D43 ≤ D62) (cells slots : Nat) (hc0 : cells + 0 + B62 ≤ 600086) (hs0 : slots + pd_U * 0 + D62 ≤ 7301442) (sh : pd_S) (F : pd_F) (x1 : Int) (x2 : Int) (x4 : Int) (x5 : Int) (x7 : Int) (x8 : Int) (x9 : Int) (hf : pfL_law_b105 Ls xs n c43 c62 sh F x1 x2 x4 x5 x7 x8 x9 = some 1) : pd_V E l room_1 (RL, cL_law, 12, ret, "law") (pd_Ql E) true cells slots sh F 105 [pd_R (-60), pd_R x1, pd_J x2, pd_N, pd_I x4, pd_J x5, pd_N, pd_I x7, pd_I x8, pd_I x9, pd_N, pd_N] [] := by
  unfold pfL_law_b105 at hf
  have hU : 8 ≤ pd_U := by decide
  refine pd_iload (i := 7) dL_law_105 rfl ?_
  refine pd_aload_n (i := 1) dL_law_107 rfl rfl ?_
  refine pd_iload (i := 4) dL_law_108 rfl ?_
  refine pd_iload (i := 8) dL_law_110 rfl ?_
  obtain ⟨hg2, hf⟩ := pd_ig hf
  obtain ⟨r3, F1, hr, hf⟩ := pd_ob2 hf
  refine pd_callV (pkX11_ways l hr) dL_law_112 pq_1013 pq_1016 pq_1017 (show vwCl[11]? = some (yX11_ways.cls, TX11, 10) from rfl) hg2 (pd_okL (by decide) (by decide) (by omega) (by omega) pq_1014 pq_1015 (by decide) (show (parseMethodDescriptor yX11_ways.desc).map (fun d => d.parameters.length) = some 2 from by decide +kernel)) (Nat.le_of_ble_eq_true rfl) rfl ?_
  refine pd_if_le (tgt := 122) dL_law_115 (by decide) (fun hc => ?_) (fun hc => ?_)
  · have hf := pd_ip hf hc
    refine pd_iconst dL_law_122 (by decide) ?_
    exact pd_weak (L' := [pd_R (-60), pd_R x1, pd_J x2, pd_N, pd_I x4, pd_J x5, pd_N, pd_N, pd_I x8, pd_I x9, pd_N, pd_N]) ⟨Or.inr rfl, Or.inr rfl, Or.inr rfl, Or.inr rfl, Or.inr rfl, Or.inr rfl, Or.inr rfl, Or.inl rfl, Or.inr rfl, Or.inr rfl, Or.inr rfl, Or.inr rfl, trivial⟩ (pkL_law_b123 E l hLs hxs hL43 hL62 (by omega) (by omega) _ _ (by omega) (by omega) _ _ _ _ _ _ _ _ _ _ hf)
  · have hf := pd_in_ hf hc
    refine pd_iconst dL_law_118 (by decide) ?_
    refine pd_goto (tgt := 123) dL_law_119 (by decide) ?_
    exact pd_weak (L' := [pd_R (-60), pd_R x1, pd_J x2, pd_N, pd_I x4, pd_J x5, pd_N, pd_N, pd_I x8, pd_I x9, pd_N, pd_N]) ⟨Or.inr rfl, Or.inr rfl, Or.inr rfl, Or.inr rfl, Or.inr rfl, Or.inr rfl, Or.inr rfl, Or.inl rfl, Or.inr rfl, Or.inr rfl, Or.inr rfl, Or.inr rfl, trivial⟩ (pkL_law_b123 E l hLs hxs hL43 hL62 (by omega) (by omega) _ _ (by omega) (by omega) _ _ _ _ _ _ _ _ _ _ hf)
set_option maxHeartbeats 8000000 in
set_option maxRecDepth 100000 in
theorem pkL_law_b164 (E : pd_E) (l : Launch) {Ls : Int} {xs : Int → Int} (hLs : Ls = (E.2.2.2 21 : Nat) ∧ Ls < 2147483648) (hxs : ∀ j : Int, 0 ≤ j → j < Ls → xs j = (Int32.ofNat (E.2.2.2 (22 + j.toNat))).toInt) {n : Nat} {c43 : pd_S → pd_F → Int → Int → Int → Option Int} {B43 D43 : Nat} (hL43 : ∀ (cells slots : Nat) (hc0 : cells + B43 ≤ 600086) (hs0 : slots + D43 ≤ 7301442) (sh : pd_S) (F : pd_F) (x1 : Int) (x2 : Int) (x4 : Int), c43 sh F x1 x2 x4 = some 1 → pd_V E l room_1 (RL, cL_law, 12, ret, "law") (pd_Ql E) true cells slots sh F 43 [pd_R (-60), pd_R x1, pd_J x2, pd_N, pd_I x4, pd_N, pd_N, pd_N, pd_N, pd_N, pd_N, pd_N] []) (cells slots : Nat) (hc0 : cells + 0 + B43 ≤ 600086) (hs0 : slots + pd_U * 0 + D43 ≤ 7301442) (sh : pd_S) (F : pd_F) (x1 : Int) (x2 : Int) (x4 : Int) (x7 : Int) (t0 : Int) (t1 : Int) (hf : pfL_law_b164 Ls xs n c43 sh F x1 x2 x4 x7 t0 t1 = some 1) : pd_V E l room_1 (RL, cL_law, 12, ret, "law") (pd_Ql E) true cells slots sh F 164 [pd_R (-60), pd_R x1, pd_J x2, pd_N, pd_I x4, pd_N, pd_N, pd_I x7, pd_N, pd_N, pd_N, pd_N] [pd_I t0, pd_J t1] := by
  unfold pfL_law_b164 at hf
  have hU : 8 ≤ pd_U := by decide
  refine pd_i2l dL_law_164 ?_
  refine pd_lcmp_ne (tgt := 181) dL_law_165 dL_law_166 (by decide) (fun hc => ?_) (fun hc => ?_)
  · have hf := pd_ip hf hc
    refine pd_iconst dL_law_181 (by decide) ?_
    exact absurd (pd_inj1 hf) (by decide)
  · have hf := pd_iq hf hc
    refine pd_aload_n (i := 1) dL_law_169 rfl rfl ?_
    refine pd_iload (i := 4) dL_law_170 rfl ?_
    refine pd_iconst dL_law_172 (by decide) ?_
    obtain ⟨hg5, hf⟩ := pd_ig hf
    obtain ⟨r6, F4, hr, hf⟩ := pd_ob2 hf
    refine pd_callV (pkX11_account l hr) dL_law_173 pq_1018 pq_1021 pq_1022 (show vwCl[11]? = some (yX11_account.cls, TX11, 10) from rfl) hg5 (pd_okL (by decide) (by decide) (by omega) (by omega) pq_1019 pq_1020 (by decide) (show (parseMethodDescriptor yX11_account.desc).map (fun d => d.parameters.length) = some 2 from by decide +kernel)) (Nat.le_of_ble_eq_true rfl) rfl ?_
    refine pd_iload (i := 7) dL_law_176 rfl ?_
    refine pd_icmp_eq (tgt := 183) dL_law_178 (by decide) (fun hc => ?_) (fun hc => ?_)
    · have hf := pd_ip hf hc
      refine pd_lload_n (i := 2) dL_law_183 rfl rfl ?_
      refine pd_aload_n (i := 1) dL_law_184 rfl rfl ?_
      refine pd_iload (i := 4) dL_law_185 rfl ?_
      refine pd_iconst dL_law_187 (by decide) ?_
      obtain ⟨r8, F7, hr, hf⟩ := pd_ob2 hf
      refine pd_callV (pkX11_account l hr) dL_law_188 pq_1018 pq_1021 pq_1022 (show vwCl[11]? = some (yX11_account.cls, TX11, 10) from rfl) hg5 (pd_okL (by decide) (by decide) (by omega) (by omega) pq_1019 pq_1020 (by decide) (show (parseMethodDescriptor yX11_account.desc).map (fun d => d.parameters.length) = some 2 from by decide +kernel)) (Nat.le_of_ble_eq_true rfl) rfl ?_
      refine pd_i2l dL_law_191 ?_
      refine pd_ladd dL_law_192 ?_
      refine pd_topJ (fun x2_193 ex2_193 => ?_)
      have hf := pd_lt hf ex2_193
      clear ex2_193
      refine pd_lstore_n (L' := [pd_R (-60), pd_R x1, pd_J x2_193, pd_N, pd_I x4, pd_N, pd_N, pd_I x7, pd_N, pd_N, pd_N, pd_N]) dL_law_193 rfl (by decide) rfl ?_
      refine pd_iincN (L' := fun y => [pd_R (-60), pd_R x1, pd_J x2_193, pd_N, pd_I y, pd_N, pd_N, pd_I x7, pd_N, pd_N, pd_N, pd_N]) dL_law_194 rfl (by decide) (by decide) (fun _ => rfl) (fun x4_194 ex4_194 => ?_)
      have hf := pd_lt hf ex4_194
      clear ex4_194
      refine pd_goto (tgt := 43) dL_law_197 (by decide) ?_
      exact pd_weak (L' := [pd_R (-60), pd_R x1, pd_J x2_193, pd_N, pd_I x4_194, pd_N, pd_N, pd_N, pd_N, pd_N, pd_N, pd_N]) ⟨Or.inr rfl, Or.inr rfl, Or.inr rfl, Or.inr rfl, Or.inr rfl, Or.inr rfl, Or.inr rfl, Or.inl rfl, Or.inr rfl, Or.inr rfl, Or.inr rfl, Or.inr rfl, trivial⟩ (hL43 _ _ (by omega) (by omega) _ _ _ _ _ hf)
    · have hf := pd_in_ hf hc
      refine pd_iconst dL_law_181 (by decide) ?_
      exact absurd (pd_inj1 hf) (by decide)
set_option maxHeartbeats 8000000 in
set_option maxRecDepth 100000 in
theorem pkL_law_b140 (E : pd_E) (l : Launch) {Ls : Int} {xs : Int → Int} (hLs : Ls = (E.2.2.2 21 : Nat) ∧ Ls < 2147483648) (hxs : ∀ j : Int, 0 ≤ j → j < Ls → xs j = (Int32.ofNat (E.2.2.2 (22 + j.toNat))).toInt) {n : Nat} {c43 : pd_S → pd_F → Int → Int → Int → Option Int} {B43 D43 : Nat} (hL43 : ∀ (cells slots : Nat) (hc0 : cells + B43 ≤ 600086) (hs0 : slots + D43 ≤ 7301442) (sh : pd_S) (F : pd_F) (x1 : Int) (x2 : Int) (x4 : Int), c43 sh F x1 x2 x4 = some 1 → pd_V E l room_1 (RL, cL_law, 12, ret, "law") (pd_Ql E) true cells slots sh F 43 [pd_R (-60), pd_R x1, pd_J x2, pd_N, pd_I x4, pd_N, pd_N, pd_N, pd_N, pd_N, pd_N, pd_N] []) (cells slots : Nat) (hc0 : cells + 0 + B43 ≤ 600086) (hs0 : slots + pd_U * 0 + D43 ≤ 7301442) (sh : pd_S) (F : pd_F) (x1 : Int) (x2 : Int) (x4 : Int) (x5 : Int) (x7 : Int) (hf : pfL_law_b140 Ls xs n c43 sh F x1 x2 x4 x5 x7 = some 1) : pd_V E l room_1 (RL, cL_law, 12, ret, "law") (pd_Ql E) true cells slots sh F 140 [pd_R (-60), pd_R x1, pd_J x2, pd_N, pd_I x4, pd_J x5, pd_N, pd_I x7, pd_N, pd_N, pd_N, pd_N] [] := by
  unfold pfL_law_b140 at hf
  have hU : 8 ≤ pd_U := by decide
  refine pd_lload (i := 5) dL_law_140 rfl ?_
  refine pd_aload_n (i := 1) dL_law_142 rfl rfl ?_
  refine pd_iload (i := 4) dL_law_143 rfl ?_
  refine pd_iconst dL_law_145 (by decide) ?_
  obtain ⟨hg10, hf⟩ := pd_ig hf
  obtain ⟨r11, F9, hr, hf⟩ := pd_ob2 hf
  refine pd_callV (pkX11_account l hr) dL_law_146 pq_1018 pq_1021 pq_1022 (show vwCl[11]? = some (yX11_account.cls, TX11, 10) from rfl) hg10 (pd_okL (by decide) (by decide) (by omega) (by omega) pq_1019 pq_1020 (by decide) (show (parseMethodDescriptor yX11_account.desc).map (fun d => d.parameters.length) = some 2 from by decide +kernel)) (Nat.le_of_ble_eq_true rfl) rfl ?_
  refine pd_iconst dL_law_149 (by decide) ?_
  refine pd_icmp_ne (tgt := 157) dL_law_150 (by decide) (fun hc => ?_) (fun hc => ?_)
  · have hf := pd_ip hf hc
    refine pd_aload_n (i := 1) dL_law_157 rfl rfl ?_
    refine pd_iload (i := 4) dL_law_158 rfl ?_
    refine pd_iconst dL_law_160 (by decide) ?_
    obtain ⟨r13, F12, hr, hf⟩ := pd_ob2 hf
    refine pd_callV (pkX11_account l hr) dL_law_161 pq_1018 pq_1021 pq_1022 (show vwCl[11]? = some (yX11_account.cls, TX11, 10) from rfl) hg10 (pd_okL (by decide) (by decide) (by omega) (by omega) pq_1019 pq_1020 (by decide) (show (parseMethodDescriptor yX11_account.desc).map (fun d => d.parameters.length) = some 2 from by decide +kernel)) (Nat.le_of_ble_eq_true rfl) rfl ?_
    exact pd_weak (L' := [pd_R (-60), pd_R x1, pd_J x2, pd_N, pd_I x4, pd_N, pd_N, pd_I x7, pd_N, pd_N, pd_N, pd_N]) ⟨Or.inr rfl, Or.inr rfl, Or.inr rfl, Or.inr rfl, Or.inr rfl, Or.inl rfl, Or.inr rfl, Or.inr rfl, Or.inr rfl, Or.inr rfl, Or.inr rfl, Or.inr rfl, trivial⟩ (pkL_law_b164 E l hLs hxs hL43 _ _ (by omega) (by omega) _ _ _ _ _ _ _ _ hf)
  · have hf := pd_iq hf hc
    refine pd_iconst dL_law_153 (by decide) ?_
    refine pd_goto (tgt := 164) dL_law_154 (by decide) ?_
    exact pd_weak (L' := [pd_R (-60), pd_R x1, pd_J x2, pd_N, pd_I x4, pd_N, pd_N, pd_I x7, pd_N, pd_N, pd_N, pd_N]) ⟨Or.inr rfl, Or.inr rfl, Or.inr rfl, Or.inr rfl, Or.inr rfl, Or.inl rfl, Or.inr rfl, Or.inr rfl, Or.inr rfl, Or.inr rfl, Or.inr rfl, Or.inr rfl, trivial⟩ (pkL_law_b164 E l hLs hxs hL43 _ _ (by omega) (by omega) _ _ _ _ _ _ _ _ hf)
set_option maxHeartbeats 8000000 in
set_option maxRecDepth 100000 in
theorem pkL_law_b62 (E : pd_E) (l : Launch) {Ls : Int} {xs : Int → Int} (hLs : Ls = (E.2.2.2 21 : Nat) ∧ Ls < 2147483648) (hxs : ∀ j : Int, 0 ≤ j → j < Ls → xs j = (Int32.ofNat (E.2.2.2 (22 + j.toNat))).toInt) {n : Nat} {c43 : pd_S → pd_F → Int → Int → Int → Option Int} {B43 D43 : Nat} (hL43 : ∀ (cells slots : Nat) (hc0 : cells + B43 ≤ 600086) (hs0 : slots + D43 ≤ 7301442) (sh : pd_S) (F : pd_F) (x1 : Int) (x2 : Int) (x4 : Int), c43 sh F x1 x2 x4 = some 1 → pd_V E l room_1 (RL, cL_law, 12, ret, "law") (pd_Ql E) true cells slots sh F 43 [pd_R (-60), pd_R x1, pd_J x2, pd_N, pd_I x4, pd_N, pd_N, pd_N, pd_N, pd_N, pd_N, pd_N] []) : ∀ (k cells slots : Nat) (hc0 : cells + (k * 0 + 0) + B43 ≤ 600086) (hs0 : slots + (pd_U * k * 0 + pd_U * 0) + D43 ≤ 7301442) (sh : pd_S) (F : pd_F) (x1 : Int) (x2 : Int) (x4 : Int) (x5 : Int) (x7 : Int) (x8 : Int), pfL_law_b62 Ls xs n c43 k sh F x1 x2 x4 x5 x7 x8 = some 1 → pd_V E l room_1 (RL, cL_law, 12, ret, "law") (pd_Ql E) true cells slots sh F 62 [pd_R (-60), pd_R x1, pd_J x2, pd_N, pd_I x4, pd_J x5, pd_N, pd_I x7, pd_I x8, pd_N, pd_N, pd_N] [] := by
  intro k
  induction k with
  | zero => intro cells slots _ _ sh F x1 x2 x4 x5 x7 x8 hf; exact absurd hf (by unfold pfL_law_b62; exact fun h => nomatch h)
  | succ k ih =>
    intro cells slots hc0 hs0 sh F x1 x2 x4 x5 x7 x8 hf
    unfold pfL_law_b62 at hf
    have hU : 8 ≤ pd_U := by decide
    have hUk := Nat.mul_succ pd_U k
    rw [hUk] at hs0
    clear hUk
    refine pd_iload (i := 8) dL_law_62 rfl ?_
    refine pd_aload_n (i := 1) dL_law_64 rfl rfl ?_
    refine pd_iconst dL_law_65 (by decide) ?_
    obtain ⟨hg15, hf⟩ := pd_ig hf
    obtain ⟨r16, F14, hr, hf⟩ := pd_ob2 hf
    refine pd_callV (pkX11_count l hr) dL_law_66 pq_1023 pq_1026 pq_1027 (show vwCl[11]? = some (yX11_count.cls, TX11, 10) from rfl) hg15 (pd_okL (by decide) (by decide) (by omega) (by omega) pq_1024 pq_1025 (by decide) (show (parseMethodDescriptor yX11_count.desc).map (fun d => d.parameters.length) = some 1 from by decide +kernel)) (Nat.le_of_ble_eq_true rfl) rfl ?_
    refine pd_icmp_ge (tgt := 140) dL_law_69 (by decide) (fun hc => ?_) (fun hc => ?_)
    · have hf := pd_ip hf hc
      exact pd_weak (L' := [pd_R (-60), pd_R x1, pd_J x2, pd_N, pd_I x4, pd_J x5, pd_N, pd_I x7, pd_N, pd_N, pd_N, pd_N]) ⟨Or.inr rfl, Or.inr rfl, Or.inr rfl, Or.inr rfl, Or.inr rfl, Or.inr rfl, Or.inr rfl, Or.inr rfl, Or.inl rfl, Or.inr rfl, Or.inr rfl, Or.inr rfl, trivial⟩ (pkL_law_b140 E l hLs hxs hL43 _ _ (by omega) (by omega) _ _ _ _ _ _ _ hf)
    · have hf := pd_in_ hf hc
      refine pd_aload_n (i := 1) dL_law_72 rfl rfl ?_
      refine pd_iload (i := 4) dL_law_73 rfl ?_
      refine pd_iload (i := 8) dL_law_75 rfl ?_
      obtain ⟨r18, F17, hr, hf⟩ := pd_ob2 hf
      refine pd_callV (pkX11_share l hr) dL_law_77 pq_1028 pq_1031 pq_1032 (show vwCl[11]? = some (yX11_share.cls, TX11, 10) from rfl) hg15 (pd_okL (by decide) (by decide) (by omega) (by omega) pq_1029 pq_1030 (by decide) (show (parseMethodDescriptor yX11_share.desc).map (fun d => d.parameters.length) = some 2 from by decide +kernel)) (Nat.le_of_ble_eq_true rfl) rfl ?_
      refine pd_istore (L' := [pd_R (-60), pd_R x1, pd_J x2, pd_N, pd_I x4, pd_J x5, pd_N, pd_I x7, pd_I x8, pd_I r18, pd_N, pd_N]) dL_law_80 (by decide) rfl ?_
      refine pd_iload (i := 9) dL_law_82 rfl ?_
      refine pd_if_lt (tgt := 103) dL_law_84 (by decide) (fun hc => ?_) (fun hc => ?_)
      · have hf := pd_ip hf hc
        refine pd_iconst dL_law_103 (by decide) ?_
        exact absurd (pd_inj1 hf) (by decide)
      · have hf := pd_in_ hf hc
        refine pd_iload (i := 9) dL_law_87 rfl ?_
        refine pd_if_le (tgt := 105) dL_law_89 (by decide) (fun hc => ?_) (fun hc => ?_)
        · have hf := pd_ip hf hc
          exact pd_weak (L' := [pd_R (-60), pd_R x1, pd_J x2, pd_N, pd_I x4, pd_J x5, pd_N, pd_I x7, pd_I x8, pd_I r18, pd_N, pd_N]) ⟨Or.inr rfl, Or.inr rfl, Or.inr rfl, Or.inr rfl, Or.inr rfl, Or.inr rfl, Or.inr rfl, Or.inr rfl, Or.inr rfl, Or.inr rfl, Or.inr rfl, Or.inr rfl, trivial⟩ (pkL_law_b105 E l hLs hxs hL43 ih (by omega) (by omega) _ _ (by omega) (by omega) _ _ _ _ _ _ _ _ _ hf)
        · have hf := pd_in_ hf hc
          refine pd_aload_n (i := 1) dL_law_92 rfl rfl ?_
          refine pd_iload (i := 4) dL_law_93 rfl ?_
          refine pd_iload (i := 8) dL_law_95 rfl ?_
          obtain ⟨r20, F19, hr, hf⟩ := pd_ob2 hf
          refine pd_callV (pkX11_ways l hr) dL_law_97 pq_1013 pq_1016 pq_1017 (show vwCl[11]? = some (yX11_ways.cls, TX11, 10) from rfl) hg15 (pd_okL (by decide) (by decide) (by omega) (by omega) pq_1014 pq_1015 (by decide) (show (parseMethodDescriptor yX11_ways.desc).map (fun d => d.parameters.length) = some 2 from by decide +kernel)) (Nat.le_of_ble_eq_true rfl) rfl ?_
          refine pd_if_ne (tgt := 105) dL_law_100 (by decide) (fun hc => ?_) (fun hc => ?_)
          · have hf := pd_ip hf hc
            exact pd_weak (L' := [pd_R (-60), pd_R x1, pd_J x2, pd_N, pd_I x4, pd_J x5, pd_N, pd_I x7, pd_I x8, pd_I r18, pd_N, pd_N]) ⟨Or.inr rfl, Or.inr rfl, Or.inr rfl, Or.inr rfl, Or.inr rfl, Or.inr rfl, Or.inr rfl, Or.inr rfl, Or.inr rfl, Or.inr rfl, Or.inr rfl, Or.inr rfl, trivial⟩ (pkL_law_b105 E l hLs hxs hL43 ih (by omega) (by omega) _ _ (by omega) (by omega) _ _ _ _ _ _ _ _ _ hf)
          · have hf := pd_iq hf hc
            refine pd_iconst dL_law_103 (by decide) ?_
            exact absurd (pd_inj1 hf) (by decide)
set_option maxHeartbeats 8000000 in
set_option maxRecDepth 100000 in
theorem pkL_law_b299 (E : pd_E) (l : Launch) {Ls : Int} {xs : Int → Int} (hLs : Ls = (E.2.2.2 21 : Nat) ∧ Ls < 2147483648) (hxs : ∀ j : Int, 0 ≤ j → j < Ls → xs j = (Int32.ofNat (E.2.2.2 (22 + j.toNat))).toInt) {n : Nat} {c237 : pd_S → pd_F → Int → Int → Int → Int → Int → Option Int} {B237 D237 : Nat} (hL237 : ∀ (cells slots : Nat) (hc0 : cells + B237 ≤ 600086) (hs0 : slots + D237 ≤ 7301442) (sh : pd_S) (F : pd_F) (x1 : Int) (x4 : Int) (x5 : Int) (x6 : Int) (x7 : Int), c237 sh F x1 x4 x5 x6 x7 = some 1 → pd_V E l room_1 (RL, cL_law, 12, ret, "law") (pd_Ql E) true cells slots sh F 237 [pd_R (-60), pd_R x1, pd_N, pd_N, pd_I x4, pd_R x5, pd_I x6, pd_I x7, pd_N, pd_N, pd_N, pd_N] []) {c250 : pd_S → pd_F → Int → Int → Int → Int → Int → Int → Int → Option Int} {B250 D250 : Nat} (hL250 : ∀ (cells slots : Nat) (hc0 : cells + B250 ≤ 600086) (hs0 : slots + D250 ≤ 7301442) (sh : pd_S) (F : pd_F) (x1 : Int) (x4 : Int) (x5 : Int) (x6 : Int) (x7 : Int) (x8 : Int) (x10 : Int), c250 sh F x1 x4 x5 x6 x7 x8 x10 = some 1 → pd_V E l room_1 (RL, cL_law, 12, ret, "law") (pd_Ql E) true cells slots sh F 250 [pd_R (-60), pd_R x1, pd_N, pd_N, pd_I x4, pd_R x5, pd_I x6, pd_I x7, pd_J x8, pd_N, pd_I x10, pd_N] []) {c263 : pd_S → pd_F → Int → Int → Int → Int → Int → Int → Int → Int → Option Int} {B263 D263 : Nat} (hL263 : ∀ (cells slots : Nat) (hc0 : cells + B263 ≤ 600086) (hs0 : slots + D263 ≤ 7301442) (sh : pd_S) (F : pd_F) (x1 : Int) (x4 : Int) (x5 : Int) (x6 : Int) (x7 : Int) (x8 : Int) (x10 : Int) (x11 : Int), c263 sh F x1 x4 x5 x6 x7 x8 x10 x11 = some 1 → pd_V E l room_1 (RL, cL_law, 12, ret, "law") (pd_Ql E) true cells slots sh F 263 [pd_R (-60), pd_R x1, pd_N, pd_N, pd_I x4, pd_R x5, pd_I x6, pd_I x7, pd_J x8, pd_N, pd_I x10, pd_I x11] []) (hB250 : B237 ≤ B250) (hD250 : D237 ≤ D250) (hB263 : B250 ≤ B263) (hD263 : D250 ≤ D263) (cells slots : Nat) (hc0 : cells + 0 + B263 ≤ 600086) (hs0 : slots + pd_U * 0 + D263 ≤ 7301442) (sh : pd_S) (F : pd_F) (x1 : Int) (x4 : Int) (x5 : Int) (x6 : Int) (x7 : Int) (x8 : Int) (x10 : Int) (x11 : Int) (hf : pfL_law_b299 Ls xs n c237 c250 c263 sh F x1 x4 x5 x6 x7 x8 x10 x11 = some 1) : pd_V E l room_1 (RL, cL_law, 12, ret, "law") (pd_Ql E) true cells slots sh F 299 [pd_R (-60), pd_R x1, pd_N, pd_N, pd_I x4, pd_R x5, pd_I x6, pd_I x7, pd_J x8, pd_N, pd_I x10, pd_I x11] [] := by
  unfold pfL_law_b299 at hf
  have hU : 8 ≤ pd_U := by decide
  refine pd_iincN (L' := fun y => [pd_R (-60), pd_R x1, pd_N, pd_N, pd_I x4, pd_R x5, pd_I x6, pd_I x7, pd_J x8, pd_N, pd_I x10, pd_I y]) dL_law_299 rfl (by decide) (by decide) (fun _ => rfl) (fun x11_299 ex11_299 => ?_)
  have hf := pd_lt hf ex11_299
  clear ex11_299
  refine pd_goto (tgt := 263) dL_law_302 (by decide) ?_
  exact pd_weak (L' := [pd_R (-60), pd_R x1, pd_N, pd_N, pd_I x4, pd_R x5, pd_I x6, pd_I x7, pd_J x8, pd_N, pd_I x10, pd_I x11_299]) ⟨Or.inr rfl, Or.inr rfl, Or.inr rfl, Or.inr rfl, Or.inr rfl, Or.inr rfl, Or.inr rfl, Or.inr rfl, Or.inr rfl, Or.inr rfl, Or.inr rfl, Or.inr rfl, trivial⟩ (hL263 _ _ (by omega) (by omega) _ _ _ _ _ _ _ _ _ _ hf)
set_option maxHeartbeats 8000000 in
set_option maxRecDepth 100000 in
theorem pkL_law_b305 (E : pd_E) (l : Launch) {Ls : Int} {xs : Int → Int} (hLs : Ls = (E.2.2.2 21 : Nat) ∧ Ls < 2147483648) (hxs : ∀ j : Int, 0 ≤ j → j < Ls → xs j = (Int32.ofNat (E.2.2.2 (22 + j.toNat))).toInt) {n : Nat} {c237 : pd_S → pd_F → Int → Int → Int → Int → Int → Option Int} {B237 D237 : Nat} (hL237 : ∀ (cells slots : Nat) (hc0 : cells + B237 ≤ 600086) (hs0 : slots + D237 ≤ 7301442) (sh : pd_S) (F : pd_F) (x1 : Int) (x4 : Int) (x5 : Int) (x6 : Int) (x7 : Int), c237 sh F x1 x4 x5 x6 x7 = some 1 → pd_V E l room_1 (RL, cL_law, 12, ret, "law") (pd_Ql E) true cells slots sh F 237 [pd_R (-60), pd_R x1, pd_N, pd_N, pd_I x4, pd_R x5, pd_I x6, pd_I x7, pd_N, pd_N, pd_N, pd_N] []) {c250 : pd_S → pd_F → Int → Int → Int → Int → Int → Int → Int → Option Int} {B250 D250 : Nat} (hL250 : ∀ (cells slots : Nat) (hc0 : cells + B250 ≤ 600086) (hs0 : slots + D250 ≤ 7301442) (sh : pd_S) (F : pd_F) (x1 : Int) (x4 : Int) (x5 : Int) (x6 : Int) (x7 : Int) (x8 : Int) (x10 : Int), c250 sh F x1 x4 x5 x6 x7 x8 x10 = some 1 → pd_V E l room_1 (RL, cL_law, 12, ret, "law") (pd_Ql E) true cells slots sh F 250 [pd_R (-60), pd_R x1, pd_N, pd_N, pd_I x4, pd_R x5, pd_I x6, pd_I x7, pd_J x8, pd_N, pd_I x10, pd_N] []) (hB250 : B237 ≤ B250) (hD250 : D237 ≤ D250) (cells slots : Nat) (hc0 : cells + 0 + B250 ≤ 600086) (hs0 : slots + pd_U * 0 + D250 ≤ 7301442) (sh : pd_S) (F : pd_F) (x1 : Int) (x4 : Int) (x5 : Int) (x6 : Int) (x7 : Int) (x8 : Int) (x10 : Int) (hf : pfL_law_b305 Ls xs n c237 c250 sh F x1 x4 x5 x6 x7 x8 x10 = some 1) : pd_V E l room_1 (RL, cL_law, 12, ret, "law") (pd_Ql E) true cells slots sh F 305 [pd_R (-60), pd_R x1, pd_N, pd_N, pd_I x4, pd_R x5, pd_I x6, pd_I x7, pd_J x8, pd_N, pd_I x10, pd_N] [] := by
  unfold pfL_law_b305 at hf
  have hU : 8 ≤ pd_U := by decide
  refine pd_iincN (L' := fun y => [pd_R (-60), pd_R x1, pd_N, pd_N, pd_I x4, pd_R x5, pd_I x6, pd_I x7, pd_J x8, pd_N, pd_I y, pd_N]) dL_law_305 rfl (by decide) (by decide) (fun _ => rfl) (fun x10_305 ex10_305 => ?_)
  have hf := pd_lt hf ex10_305
  clear ex10_305
  refine pd_goto (tgt := 250) dL_law_308 (by decide) ?_
  exact pd_weak (L' := [pd_R (-60), pd_R x1, pd_N, pd_N, pd_I x4, pd_R x5, pd_I x6, pd_I x7, pd_J x8, pd_N, pd_I x10_305, pd_N]) ⟨Or.inr rfl, Or.inr rfl, Or.inr rfl, Or.inr rfl, Or.inr rfl, Or.inr rfl, Or.inr rfl, Or.inr rfl, Or.inr rfl, Or.inr rfl, Or.inr rfl, Or.inr rfl, trivial⟩ (hL250 _ _ (by omega) (by omega) _ _ _ _ _ _ _ _ _ hf)
set_option maxHeartbeats 8000000 in
set_option maxRecDepth 100000 in
theorem pkL_law_b263 (E : pd_E) (l : Launch) {Ls : Int} {xs : Int → Int} (hLs : Ls = (E.2.2.2 21 : Nat) ∧ Ls < 2147483648) (hxs : ∀ j : Int, 0 ≤ j → j < Ls → xs j = (Int32.ofNat (E.2.2.2 (22 + j.toNat))).toInt) {n : Nat} {c237 : pd_S → pd_F → Int → Int → Int → Int → Int → Option Int} {B237 D237 : Nat} (hL237 : ∀ (cells slots : Nat) (hc0 : cells + B237 ≤ 600086) (hs0 : slots + D237 ≤ 7301442) (sh : pd_S) (F : pd_F) (x1 : Int) (x4 : Int) (x5 : Int) (x6 : Int) (x7 : Int), c237 sh F x1 x4 x5 x6 x7 = some 1 → pd_V E l room_1 (RL, cL_law, 12, ret, "law") (pd_Ql E) true cells slots sh F 237 [pd_R (-60), pd_R x1, pd_N, pd_N, pd_I x4, pd_R x5, pd_I x6, pd_I x7, pd_N, pd_N, pd_N, pd_N] []) {c250 : pd_S → pd_F → Int → Int → Int → Int → Int → Int → Int → Option Int} {B250 D250 : Nat} (hL250 : ∀ (cells slots : Nat) (hc0 : cells + B250 ≤ 600086) (hs0 : slots + D250 ≤ 7301442) (sh : pd_S) (F : pd_F) (x1 : Int) (x4 : Int) (x5 : Int) (x6 : Int) (x7 : Int) (x8 : Int) (x10 : Int), c250 sh F x1 x4 x5 x6 x7 x8 x10 = some 1 → pd_V E l room_1 (RL, cL_law, 12, ret, "law") (pd_Ql E) true cells slots sh F 250 [pd_R (-60), pd_R x1, pd_N, pd_N, pd_I x4, pd_R x5, pd_I x6, pd_I x7, pd_J x8, pd_N, pd_I x10, pd_N] []) (hB250 : B237 ≤ B250) (hD250 : D237 ≤ D250) : ∀ (k cells slots : Nat) (hc0 : cells + (k * 0 + 0) + B250 ≤ 600086) (hs0 : slots + (pd_U * k * 0 + pd_U * 0) + D250 ≤ 7301442) (sh : pd_S) (F : pd_F) (x1 : Int) (x4 : Int) (x5 : Int) (x6 : Int) (x7 : Int) (x8 : Int) (x10 : Int) (x11 : Int), pfL_law_b263 Ls xs n c237 c250 k sh F x1 x4 x5 x6 x7 x8 x10 x11 = some 1 → pd_V E l room_1 (RL, cL_law, 12, ret, "law") (pd_Ql E) true cells slots sh F 263 [pd_R (-60), pd_R x1, pd_N, pd_N, pd_I x4, pd_R x5, pd_I x6, pd_I x7, pd_J x8, pd_N, pd_I x10, pd_I x11] [] := by
  intro k
  induction k with
  | zero => intro cells slots _ _ sh F x1 x4 x5 x6 x7 x8 x10 x11 hf; exact absurd hf (by unfold pfL_law_b263; exact fun h => nomatch h)
  | succ k ih =>
    intro cells slots hc0 hs0 sh F x1 x4 x5 x6 x7 x8 x10 x11 hf
    unfold pfL_law_b263 at hf
    have hU : 8 ≤ pd_U := by decide
    have hUk := Nat.mul_succ pd_U k
    rw [hUk] at hs0
    clear hUk
    refine pd_iload (i := 11) dL_law_263 rfl ?_
    refine pd_aload_n (i := 1) dL_law_265 rfl rfl ?_
    refine pd_iconst dL_law_266 (by decide) ?_
    obtain ⟨hg22, hf⟩ := pd_ig hf
    obtain ⟨r23, F21, hr, hf⟩ := pd_ob2 hf
    refine pd_callV (pkX11_count l hr) dL_law_267 pq_1023 pq_1026 pq_1027 (show vwCl[11]? = some (yX11_count.cls, TX11, 10) from rfl) hg22 (pd_okL (by decide) (by decide) (by omega) (by omega) pq_1024 pq_1025 (by decide) (show (parseMethodDescriptor yX11_count.desc).map (fun d => d.parameters.length) = some 1 from by decide +kernel)) (Nat.le_of_ble_eq_true rfl) rfl ?_
    refine pd_icmp_ge (tgt := 305) dL_law_270 (by decide) (fun hc => ?_) (fun hc => ?_)
    · have hf := pd_ip hf hc
      exact pd_weak (L' := [pd_R (-60), pd_R x1, pd_N, pd_N, pd_I x4, pd_R x5, pd_I x6, pd_I x7, pd_J x8, pd_N, pd_I x10, pd_N]) ⟨Or.inr rfl, Or.inr rfl, Or.inr rfl, Or.inr rfl, Or.inr rfl, Or.inr rfl, Or.inr rfl, Or.inr rfl, Or.inr rfl, Or.inr rfl, Or.inr rfl, Or.inl rfl, trivial⟩ (pkL_law_b305 E l hLs hxs hL237 hL250 (by omega) (by omega) _ _ (by omega) (by omega) _ _ _ _ _ _ _ _ _ hf)
    · have hf := pd_in_ hf hc
      refine pd_aload_n (i := 1) dL_law_273 rfl rfl ?_
      refine pd_iload (i := 10) dL_law_274 rfl ?_
      refine pd_iconst dL_law_276 (by decide) ?_
      obtain ⟨r25, F24, hr, hf⟩ := pd_ob2 hf
      refine pd_callV (pkX11_person l hr) dL_law_277 pq_960 pq_963 pq_964 (show vwCl[11]? = some (yX11_person.cls, TX11, 10) from rfl) hg22 (pd_okL (by decide) (by decide) (by omega) (by omega) pq_961 pq_962 (by decide) (show (parseMethodDescriptor yX11_person.desc).map (fun d => d.parameters.length) = some 2 from by decide +kernel)) (Nat.le_of_ble_eq_true rfl) rfl ?_
      refine pd_iload (i := 7) dL_law_280 rfl ?_
      refine pd_icmp_ne (tgt := 299) dL_law_282 (by decide) (fun hc => ?_) (fun hc => ?_)
      · have hf := pd_ip hf hc
        exact pd_weak (L' := [pd_R (-60), pd_R x1, pd_N, pd_N, pd_I x4, pd_R x5, pd_I x6, pd_I x7, pd_J x8, pd_N, pd_I x10, pd_I x11]) ⟨Or.inr rfl, Or.inr rfl, Or.inr rfl, Or.inr rfl, Or.inr rfl, Or.inr rfl, Or.inr rfl, Or.inr rfl, Or.inr rfl, Or.inr rfl, Or.inr rfl, Or.inr rfl, trivial⟩ (pkL_law_b299 E l hLs hxs hL237 hL250 ih (by omega) (by omega) (by omega) (by omega) _ _ (by omega) (by omega) _ _ _ _ _ _ _ _ _ _ hf)
      · have hf := pd_iq hf hc
        refine pd_lload (i := 8) dL_law_285 rfl ?_
        refine pd_aload_n (i := 1) dL_law_287 rfl rfl ?_
        refine pd_iload (i := 11) dL_law_288 rfl ?_
        refine pd_iload (i := 10) dL_law_290 rfl ?_
        obtain ⟨r27, F26, hr, hf⟩ := pd_ob2 hf
        refine pd_callV (pkX11_share l hr) dL_law_292 pq_1028 pq_1031 pq_1032 (show vwCl[11]? = some (yX11_share.cls, TX11, 10) from rfl) hg22 (pd_okL (by decide) (by decide) (by omega) (by omega) pq_1029 pq_1030 (by decide) (show (parseMethodDescriptor yX11_share.desc).map (fun d => d.parameters.length) = some 2 from by decide +kernel)) (Nat.le_of_ble_eq_true rfl) rfl ?_
        refine pd_i2l dL_law_295 ?_
        refine pd_ladd dL_law_296 ?_
        refine pd_topJ (fun x8_297 ex8_297 => ?_)
        have hf := pd_lt hf ex8_297
        clear ex8_297
        refine pd_lstore (L' := [pd_R (-60), pd_R x1, pd_N, pd_N, pd_I x4, pd_R x5, pd_I x6, pd_I x7, pd_J x8_297, pd_N, pd_I x10, pd_I x11]) dL_law_297 (by decide) rfl ?_
        exact pd_weak (L' := [pd_R (-60), pd_R x1, pd_N, pd_N, pd_I x4, pd_R x5, pd_I x6, pd_I x7, pd_J x8_297, pd_N, pd_I x10, pd_I x11]) ⟨Or.inr rfl, Or.inr rfl, Or.inr rfl, Or.inr rfl, Or.inr rfl, Or.inr rfl, Or.inr rfl, Or.inr rfl, Or.inr rfl, Or.inr rfl, Or.inr rfl, Or.inr rfl, trivial⟩ (pkL_law_b299 E l hLs hxs hL237 hL250 ih (by omega) (by omega) (by omega) (by omega) _ _ (by omega) (by omega) _ _ _ _ _ _ _ _ _ _ hf)
set_option maxHeartbeats 8000000 in
set_option maxRecDepth 100000 in
theorem pkL_law_b311 (E : pd_E) (l : Launch) {Ls : Int} {xs : Int → Int} (hLs : Ls = (E.2.2.2 21 : Nat) ∧ Ls < 2147483648) (hxs : ∀ j : Int, 0 ≤ j → j < Ls → xs j = (Int32.ofNat (E.2.2.2 (22 + j.toNat))).toInt) {n : Nat} {c237 : pd_S → pd_F → Int → Int → Int → Int → Int → Option Int} {B237 D237 : Nat} (hL237 : ∀ (cells slots : Nat) (hc0 : cells + B237 ≤ 600086) (hs0 : slots + D237 ≤ 7301442) (sh : pd_S) (F : pd_F) (x1 : Int) (x4 : Int) (x5 : Int) (x6 : Int) (x7 : Int), c237 sh F x1 x4 x5 x6 x7 = some 1 → pd_V E l room_1 (RL, cL_law, 12, ret, "law") (pd_Ql E) true cells slots sh F 237 [pd_R (-60), pd_R x1, pd_N, pd_N, pd_I x4, pd_R x5, pd_I x6, pd_I x7, pd_N, pd_N, pd_N, pd_N] []) (cells slots : Nat) (hc0 : cells + 0 + B237 ≤ 600086) (hs0 : slots + pd_U * 0 + D237 ≤ 7301442) (sh : pd_S) (F : pd_F) (x1 : Int) (x4 : Int) (x5 : Int) (x6 : Int) (x7 : Int) (x8 : Int) (hf : pfL_law_b311 Ls xs n c237 sh F x1 x4 x5 x6 x7 x8 = some 1) : pd_V E l room_1 (RL, cL_law, 12, ret, "law") (pd_Ql E) true cells slots sh F 311 [pd_R (-60), pd_R x1, pd_N, pd_N, pd_I x4, pd_R x5, pd_I x6, pd_I x7, pd_J x8, pd_N, pd_N, pd_N] [] := by
  unfold pfL_law_b311 at hf
  have hU : 8 ≤ pd_U := by decide
  refine pd_aload_n (i := 1) dL_law_311 rfl rfl ?_
  refine pd_iload (i := 7) dL_law_312 rfl ?_
  refine pd_iconst dL_law_314 (by decide) ?_
  obtain ⟨hg29, hf⟩ := pd_ig hf
  obtain ⟨r30, F28, hr, hf⟩ := pd_ob2 hf
  refine pd_callV (pkX11_view l hr) dL_law_315 pq_988 pq_991 pq_992 (show vwCl[11]? = some (yX11_view.cls, TX11, 10) from rfl) hg29 (pd_okL (by decide) (by decide) (by omega) (by omega) pq_989 pq_990 (by decide) (show (parseMethodDescriptor yX11_view.desc).map (fun d => d.parameters.length) = some 2 from by decide +kernel)) (Nat.le_of_ble_eq_true rfl) rfl ?_
  refine pd_lload (i := 8) dL_law_318 rfl ?_
  refine pd_lcmp_ne (tgt := 368) dL_law_320 dL_law_321 (by decide) (fun hc => ?_) (fun hc => ?_)
  · have hf := pd_ip hf hc
    refine pd_iconst dL_law_368 (by decide) ?_
    exact absurd (pd_inj1 hf) (by decide)
  · have hf := pd_iq hf hc
    refine pd_aload_n (i := 1) dL_law_324 rfl rfl ?_
    refine pd_iload (i := 7) dL_law_325 rfl ?_
    refine pd_iconst dL_law_327 (by decide) ?_
    obtain ⟨r32, F31, hr, hf⟩ := pd_ob2 hf
    refine pd_callV (pkX11_view l hr) dL_law_328 pq_988 pq_991 pq_992 (show vwCl[11]? = some (yX11_view.cls, TX11, 10) from rfl) hg29 (pd_okL (by decide) (by decide) (by omega) (by omega) pq_989 pq_990 (by decide) (show (parseMethodDescriptor yX11_view.desc).map (fun d => d.parameters.length) = some 2 from by decide +kernel)) (Nat.le_of_ble_eq_true rfl) rfl ?_
    refine pd_lload (i := 8) dL_law_331 rfl ?_
    refine pd_aload_n (i := 1) dL_law_333 rfl rfl ?_
    refine pd_iload (i := 7) dL_law_334 rfl ?_
    refine pd_iconst dL_law_336 (by decide) ?_
    obtain ⟨r34, F33, hr, hf⟩ := pd_ob2 hf
    refine pd_callV (pkX11_view l hr) dL_law_337 pq_988 pq_991 pq_992 (show vwCl[11]? = some (yX11_view.cls, TX11, 10) from rfl) hg29 (pd_okL (by decide) (by decide) (by omega) (by omega) pq_989 pq_990 (by decide) (show (parseMethodDescriptor yX11_view.desc).map (fun d => d.parameters.length) = some 2 from by decide +kernel)) (Nat.le_of_ble_eq_true rfl) rfl ?_
    refine pd_mminJ dL_law_340 pq_993 pq_537 pq_40 pq_538 ⟨by show 1 ≤ 2048; omega, by show 64 ≤ 84000; omega, by show _ ≤ 600086; omega, by show _ ≤ 7301442; omega⟩ (Nat.le_of_ble_eq_true rfl) ?_
    refine pd_lcmp_ne (tgt := 368) dL_law_343 dL_law_344 (by decide) (fun hc => ?_) (fun hc => ?_)
    · have hf := pd_ip hf hc
      refine pd_iconst dL_law_368 (by decide) ?_
      exact absurd (pd_inj1 hf) (by decide)
    · have hf := pd_iq hf hc
      refine pd_aload_n (i := 1) dL_law_347 rfl rfl ?_
      refine pd_iload (i := 7) dL_law_348 rfl ?_
      refine pd_iconst dL_law_350 (by decide) ?_
      obtain ⟨r36, F35, hr, hf⟩ := pd_ob2 hf
      refine pd_callV (pkX11_view l hr) dL_law_351 pq_988 pq_991 pq_992 (show vwCl[11]? = some (yX11_view.cls, TX11, 10) from rfl) hg29 (pd_okL (by decide) (by decide) (by omega) (by omega) pq_989 pq_990 (by decide) (show (parseMethodDescriptor yX11_view.desc).map (fun d => d.parameters.length) = some 2 from by decide +kernel)) (Nat.le_of_ble_eq_true rfl) rfl ?_
      refine pd_lload (i := 8) dL_law_354 rfl ?_
      refine pd_aload_n (i := 1) dL_law_356 rfl rfl ?_
      refine pd_iload (i := 7) dL_law_357 rfl ?_
      refine pd_iconst dL_law_359 (by decide) ?_
      obtain ⟨r38, F37, hr, hf⟩ := pd_ob2 hf
      refine pd_callV (pkX11_view l hr) dL_law_360 pq_988 pq_991 pq_992 (show vwCl[11]? = some (yX11_view.cls, TX11, 10) from rfl) hg29 (pd_okL (by decide) (by decide) (by omega) (by omega) pq_989 pq_990 (by decide) (show (parseMethodDescriptor yX11_view.desc).map (fun d => d.parameters.length) = some 2 from by decide +kernel)) (Nat.le_of_ble_eq_true rfl) rfl ?_
      refine pd_lsub dL_law_363 ?_
      refine pd_lcmp_eq (tgt := 370) dL_law_364 dL_law_365 (by decide) (fun hc => ?_) (fun hc => ?_)
      · have hf := pd_ip hf hc
        refine pd_aload_n (i := 1) dL_law_370 rfl rfl ?_
        refine pd_iload (i := 7) dL_law_371 rfl ?_
        refine pd_iconst dL_law_373 (by decide) ?_
        obtain ⟨r40, F39, hr, hf⟩ := pd_ob2 hf
        refine pd_callV (pkX11_view l hr) dL_law_374 pq_988 pq_991 pq_992 (show vwCl[11]? = some (yX11_view.cls, TX11, 10) from rfl) hg29 (pd_okL (by decide) (by decide) (by omega) (by omega) pq_989 pq_990 (by decide) (show (parseMethodDescriptor yX11_view.desc).map (fun d => d.parameters.length) = some 2 from by decide +kernel)) (Nat.le_of_ble_eq_true rfl) rfl ?_
        refine pd_aload_n (i := 1) dL_law_377 rfl rfl ?_
        refine pd_bipush dL_law_378 (by decide) ?_
        obtain ⟨r42, F41, hr, hf⟩ := pd_ob2 hf
        refine pd_callV (pkX11_count l hr) dL_law_380 pq_1023 pq_1026 pq_1027 (show vwCl[11]? = some (yX11_count.cls, TX11, 10) from rfl) hg29 (pd_okL (by decide) (by decide) (by omega) (by omega) pq_1024 pq_1025 (by decide) (show (parseMethodDescriptor yX11_count.desc).map (fun d => d.parameters.length) = some 1 from by decide +kernel)) (Nat.le_of_ble_eq_true rfl) rfl ?_
        refine pd_i2l dL_law_383 ?_
        refine pd_aload_n (i := 1) dL_law_384 rfl rfl ?_
        refine pd_iload (i := 7) dL_law_385 rfl ?_
        refine pd_iconst dL_law_387 (by decide) ?_
        obtain ⟨r44, F43, hr, hf⟩ := pd_ob2 hf
        refine pd_callV (pkX11_view l hr) dL_law_388 pq_988 pq_991 pq_992 (show vwCl[11]? = some (yX11_view.cls, TX11, 10) from rfl) hg29 (pd_okL (by decide) (by decide) (by omega) (by omega) pq_989 pq_990 (by decide) (show (parseMethodDescriptor yX11_view.desc).map (fun d => d.parameters.length) = some 2 from by decide +kernel)) (Nat.le_of_ble_eq_true rfl) rfl ?_
        refine pd_aload_n (i := 1) dL_law_391 rfl rfl ?_
        refine pd_bipush dL_law_392 (by decide) ?_
        obtain ⟨r46, F45, hr, hf⟩ := pd_ob2 hf
        refine pd_callV (pkX11_count l hr) dL_law_394 pq_1023 pq_1026 pq_1027 (show vwCl[11]? = some (yX11_count.cls, TX11, 10) from rfl) hg29 (pd_okL (by decide) (by decide) (by omega) (by omega) pq_1024 pq_1025 (by decide) (show (parseMethodDescriptor yX11_count.desc).map (fun d => d.parameters.length) = some 1 from by decide +kernel)) (Nat.le_of_ble_eq_true rfl) rfl ?_
        refine pd_i2l dL_law_397 ?_
        refine pd_mminJ dL_law_398 pq_993 pq_537 pq_40 pq_538 ⟨by show 1 ≤ 2048; omega, by show 64 ≤ 84000; omega, by show _ ≤ 600086; omega, by show _ ≤ 7301442; omega⟩ (Nat.le_of_ble_eq_true rfl) ?_
        refine pd_ladd dL_law_401 ?_
        refine pd_lcmp_ne (tgt := 463) dL_law_402 dL_law_403 (by decide) (fun hc => ?_) (fun hc => ?_)
        · have hf := pd_ip hf hc
          refine pd_iconst dL_law_463 (by decide) ?_
          exact absurd (pd_inj1 hf) (by decide)
        · have hf := pd_iq hf hc
          refine pd_aload_n (i := 1) dL_law_406 rfl rfl ?_
          refine pd_iload (i := 7) dL_law_407 rfl ?_
          refine pd_bipush dL_law_409 (by decide) ?_
          obtain ⟨r48, F47, hr, hf⟩ := pd_ob2 hf
          refine pd_callV (pkX11_view l hr) dL_law_411 pq_988 pq_991 pq_992 (show vwCl[11]? = some (yX11_view.cls, TX11, 10) from rfl) hg29 (pd_okL (by decide) (by decide) (by omega) (by omega) pq_989 pq_990 (by decide) (show (parseMethodDescriptor yX11_view.desc).map (fun d => d.parameters.length) = some 2 from by decide +kernel)) (Nat.le_of_ble_eq_true rfl) rfl ?_
          refine pd_aload_n (i := 1) dL_law_414 rfl rfl ?_
          refine pd_iload (i := 7) dL_law_415 rfl ?_
          refine pd_iconst dL_law_417 (by decide) ?_
          obtain ⟨r50, F49, hr, hf⟩ := pd_ob2 hf
          refine pd_callV (pkX11_view l hr) dL_law_418 pq_988 pq_991 pq_992 (show vwCl[11]? = some (yX11_view.cls, TX11, 10) from rfl) hg29 (pd_okL (by decide) (by decide) (by omega) (by omega) pq_989 pq_990 (by decide) (show (parseMethodDescriptor yX11_view.desc).map (fun d => d.parameters.length) = some 2 from by decide +kernel)) (Nat.le_of_ble_eq_true rfl) rfl ?_
          refine pd_aload_n (i := 1) dL_law_421 rfl rfl ?_
          refine pd_iload (i := 7) dL_law_422 rfl ?_
          refine pd_iconst dL_law_424 (by decide) ?_
          obtain ⟨r52, F51, hr, hf⟩ := pd_ob2 hf
          refine pd_callV (pkX11_view l hr) dL_law_425 pq_988 pq_991 pq_992 (show vwCl[11]? = some (yX11_view.cls, TX11, 10) from rfl) hg29 (pd_okL (by decide) (by decide) (by omega) (by omega) pq_989 pq_990 (by decide) (show (parseMethodDescriptor yX11_view.desc).map (fun d => d.parameters.length) = some 2 from by decide +kernel)) (Nat.le_of_ble_eq_true rfl) rfl ?_
          refine pd_mminJ dL_law_428 pq_993 pq_537 pq_40 pq_538 ⟨by show 1 ≤ 2048; omega, by show 64 ≤ 84000; omega, by show _ ≤ 600086; omega, by show _ ≤ 7301442; omega⟩ (Nat.le_of_ble_eq_true rfl) ?_
          refine pd_lcmp_ne (tgt := 463) dL_law_431 dL_law_432 (by decide) (fun hc => ?_) (fun hc => ?_)
          · have hf := pd_ip hf hc
            refine pd_iconst dL_law_463 (by decide) ?_
            exact absurd (pd_inj1 hf) (by decide)
          · have hf := pd_iq hf hc
            refine pd_aload_n (i := 1) dL_law_435 rfl rfl ?_
            refine pd_iload (i := 7) dL_law_436 rfl ?_
            refine pd_bipush dL_law_438 (by decide) ?_
            obtain ⟨r54, F53, hr, hf⟩ := pd_ob2 hf
            refine pd_callV (pkX11_view l hr) dL_law_440 pq_988 pq_991 pq_992 (show vwCl[11]? = some (yX11_view.cls, TX11, 10) from rfl) hg29 (pd_okL (by decide) (by decide) (by omega) (by omega) pq_989 pq_990 (by decide) (show (parseMethodDescriptor yX11_view.desc).map (fun d => d.parameters.length) = some 2 from by decide +kernel)) (Nat.le_of_ble_eq_true rfl) rfl ?_
            refine pd_aload_n (i := 1) dL_law_443 rfl rfl ?_
            refine pd_iload (i := 7) dL_law_444 rfl ?_
            refine pd_iconst dL_law_446 (by decide) ?_
            obtain ⟨r56, F55, hr, hf⟩ := pd_ob2 hf
            refine pd_callV (pkX11_view l hr) dL_law_447 pq_988 pq_991 pq_992 (show vwCl[11]? = some (yX11_view.cls, TX11, 10) from rfl) hg29 (pd_okL (by decide) (by decide) (by omega) (by omega) pq_989 pq_990 (by decide) (show (parseMethodDescriptor yX11_view.desc).map (fun d => d.parameters.length) = some 2 from by decide +kernel)) (Nat.le_of_ble_eq_true rfl) rfl ?_
            refine pd_aload_n (i := 1) dL_law_450 rfl rfl ?_
            refine pd_iload (i := 7) dL_law_451 rfl ?_
            refine pd_bipush dL_law_453 (by decide) ?_
            obtain ⟨r58, F57, hr, hf⟩ := pd_ob2 hf
            refine pd_callV (pkX11_view l hr) dL_law_455 pq_988 pq_991 pq_992 (show vwCl[11]? = some (yX11_view.cls, TX11, 10) from rfl) hg29 (pd_okL (by decide) (by decide) (by omega) (by omega) pq_989 pq_990 (by decide) (show (parseMethodDescriptor yX11_view.desc).map (fun d => d.parameters.length) = some 2 from by decide +kernel)) (Nat.le_of_ble_eq_true rfl) rfl ?_
            refine pd_lsub dL_law_458 ?_
            refine pd_lcmp_eq (tgt := 465) dL_law_459 dL_law_460 (by decide) (fun hc => ?_) (fun hc => ?_)
            · have hf := pd_ip hf hc
              refine pd_aload (i := 5) dL_law_465 rfl ?_
              refine pd_iconst dL_law_467 (by decide) ?_
              refine pd_dup2 dL_law_468 rfl rfl ?_
              obtain ⟨hg59, hf⟩ := pd_ig hf
              refine pd_lald dL_law_469 hg59 ?_
              refine pd_lload (i := 8) dL_law_470 rfl ?_
              refine pd_ladd dL_law_472 ?_
              refine pd_last dL_law_473 hg59 ?_
              refine pd_topF (fun F60 eF60 => ?_)
              have hf := pd_lt hf eF60
              clear eF60
              refine pd_aload (i := 5) dL_law_474 rfl ?_
              refine pd_iconst dL_law_476 (by decide) ?_
              refine pd_dup2 dL_law_477 rfl rfl ?_
              obtain ⟨hg61, hf⟩ := pd_ig hf
              refine pd_lald dL_law_478 hg61 ?_
              refine pd_aload_n (i := 1) dL_law_479 rfl rfl ?_
              refine pd_iload (i := 7) dL_law_480 rfl ?_
              refine pd_iconst dL_law_482 (by decide) ?_
              obtain ⟨r63, F62, hr, hf⟩ := pd_ob2 hf
              refine pd_callV (pkX11_view l hr) dL_law_483 pq_988 pq_991 pq_992 (show vwCl[11]? = some (yX11_view.cls, TX11, 10) from rfl) hg29 (pd_okL (by decide) (by decide) (by omega) (by omega) pq_989 pq_990 (by decide) (show (parseMethodDescriptor yX11_view.desc).map (fun d => d.parameters.length) = some 2 from by decide +kernel)) (Nat.le_of_ble_eq_true rfl) rfl ?_
              refine pd_ladd dL_law_486 ?_
              refine pd_last dL_law_487 hg61 ?_
              refine pd_topF (fun F64 eF64 => ?_)
              have hf := pd_lt hf eF64
              clear eF64
              refine pd_aload (i := 5) dL_law_488 rfl ?_
              refine pd_iconst dL_law_490 (by decide) ?_
              refine pd_dup2 dL_law_491 rfl rfl ?_
              obtain ⟨hg65, hf⟩ := pd_ig hf
              refine pd_lald dL_law_492 hg65 ?_
              refine pd_aload_n (i := 1) dL_law_493 rfl rfl ?_
              refine pd_iload (i := 7) dL_law_494 rfl ?_
              refine pd_bipush dL_law_496 (by decide) ?_
              obtain ⟨r67, F66, hr, hf⟩ := pd_ob2 hf
              refine pd_callV (pkX11_view l hr) dL_law_498 pq_988 pq_991 pq_992 (show vwCl[11]? = some (yX11_view.cls, TX11, 10) from rfl) hg29 (pd_okL (by decide) (by decide) (by omega) (by omega) pq_989 pq_990 (by decide) (show (parseMethodDescriptor yX11_view.desc).map (fun d => d.parameters.length) = some 2 from by decide +kernel)) (Nat.le_of_ble_eq_true rfl) rfl ?_
              refine pd_ladd dL_law_501 ?_
              refine pd_last dL_law_502 hg65 ?_
              refine pd_topF (fun F68 eF68 => ?_)
              have hf := pd_lt hf eF68
              clear eF68
              refine pd_aload (i := 5) dL_law_503 rfl ?_
              refine pd_iconst dL_law_505 (by decide) ?_
              refine pd_dup2 dL_law_506 rfl rfl ?_
              obtain ⟨hg69, hf⟩ := pd_ig hf
              refine pd_lald dL_law_507 hg69 ?_
              refine pd_aload_n (i := 1) dL_law_508 rfl rfl ?_
              refine pd_iload (i := 7) dL_law_509 rfl ?_
              refine pd_bipush dL_law_511 (by decide) ?_
              obtain ⟨r71, F70, hr, hf⟩ := pd_ob2 hf
              refine pd_callV (pkX11_view l hr) dL_law_513 pq_988 pq_991 pq_992 (show vwCl[11]? = some (yX11_view.cls, TX11, 10) from rfl) hg29 (pd_okL (by decide) (by decide) (by omega) (by omega) pq_989 pq_990 (by decide) (show (parseMethodDescriptor yX11_view.desc).map (fun d => d.parameters.length) = some 2 from by decide +kernel)) (Nat.le_of_ble_eq_true rfl) rfl ?_
              refine pd_ladd dL_law_516 ?_
              refine pd_last dL_law_517 hg69 ?_
              refine pd_topF (fun F72 eF72 => ?_)
              have hf := pd_lt hf eF72
              clear eF72
              refine pd_iload (i := 6) dL_law_518 rfl ?_
              refine pd_aload_n (i := 1) dL_law_520 rfl rfl ?_
              refine pd_iload (i := 7) dL_law_521 rfl ?_
              obtain ⟨r74, F73, hr, hf⟩ := pd_ob2 hf
              refine pd_callV (pkX11_who l hr) dL_law_523 pq_1033 pq_1036 pq_1037 (show vwCl[11]? = some (yX11_who.cls, TX11, 10) from rfl) hg29 (pd_okL (by decide) (by decide) (by omega) (by omega) pq_1034 pq_1035 (by decide) (show (parseMethodDescriptor yX11_who.desc).map (fun d => d.parameters.length) = some 1 from by decide +kernel)) (Nat.le_of_ble_eq_true rfl) rfl ?_
              refine pd_ior dL_law_526 ?_
              refine pd_topI (fun x6_527 ex6_527 => ?_)
              have hf := pd_lt hf ex6_527
              clear ex6_527
              refine pd_istore (L' := [pd_R (-60), pd_R x1, pd_N, pd_N, pd_I x4, pd_R x5, pd_I x6_527, pd_I x7, pd_J x8, pd_N, pd_N, pd_N]) dL_law_527 (by decide) rfl ?_
              refine pd_iincN (L' := fun y => [pd_R (-60), pd_R x1, pd_N, pd_N, pd_I x4, pd_R x5, pd_I x6_527, pd_I y, pd_J x8, pd_N, pd_N, pd_N]) dL_law_529 rfl (by decide) (by decide) (fun _ => rfl) (fun x7_529 ex7_529 => ?_)
              have hf := pd_lt hf ex7_529
              clear ex7_529
              refine pd_goto (tgt := 237) dL_law_532 (by decide) ?_
              exact pd_weak (L' := [pd_R (-60), pd_R x1, pd_N, pd_N, pd_I x4, pd_R x5, pd_I x6_527, pd_I x7_529, pd_N, pd_N, pd_N, pd_N]) ⟨Or.inr rfl, Or.inr rfl, Or.inr rfl, Or.inr rfl, Or.inr rfl, Or.inr rfl, Or.inr rfl, Or.inr rfl, Or.inl rfl, Or.inr rfl, Or.inr rfl, Or.inr rfl, trivial⟩ (hL237 _ _ (by omega) (by omega) _ _ _ _ _ _ _ hf)
            · have hf := pd_in_ hf hc
              refine pd_iconst dL_law_463 (by decide) ?_
              exact absurd (pd_inj1 hf) (by decide)
      · have hf := pd_in_ hf hc
        refine pd_iconst dL_law_368 (by decide) ?_
        exact absurd (pd_inj1 hf) (by decide)
set_option maxHeartbeats 8000000 in
set_option maxRecDepth 100000 in
theorem pkL_law_b250 (E : pd_E) (l : Launch) {Ls : Int} {xs : Int → Int} (hLs : Ls = (E.2.2.2 21 : Nat) ∧ Ls < 2147483648) (hxs : ∀ j : Int, 0 ≤ j → j < Ls → xs j = (Int32.ofNat (E.2.2.2 (22 + j.toNat))).toInt) {n : Nat} {c237 : pd_S → pd_F → Int → Int → Int → Int → Int → Option Int} {B237 D237 : Nat} (hL237 : ∀ (cells slots : Nat) (hc0 : cells + B237 ≤ 600086) (hs0 : slots + D237 ≤ 7301442) (sh : pd_S) (F : pd_F) (x1 : Int) (x4 : Int) (x5 : Int) (x6 : Int) (x7 : Int), c237 sh F x1 x4 x5 x6 x7 = some 1 → pd_V E l room_1 (RL, cL_law, 12, ret, "law") (pd_Ql E) true cells slots sh F 237 [pd_R (-60), pd_R x1, pd_N, pd_N, pd_I x4, pd_R x5, pd_I x6, pd_I x7, pd_N, pd_N, pd_N, pd_N] []) : ∀ (k cells slots : Nat) (hc0 : cells + (k * 0 + 0) + B237 ≤ 600086) (hs0 : slots + (pd_U * k * 0 + pd_U * 0) + D237 ≤ 7301442) (sh : pd_S) (F : pd_F) (x1 : Int) (x4 : Int) (x5 : Int) (x6 : Int) (x7 : Int) (x8 : Int) (x10 : Int), pfL_law_b250 Ls xs n c237 k sh F x1 x4 x5 x6 x7 x8 x10 = some 1 → pd_V E l room_1 (RL, cL_law, 12, ret, "law") (pd_Ql E) true cells slots sh F 250 [pd_R (-60), pd_R x1, pd_N, pd_N, pd_I x4, pd_R x5, pd_I x6, pd_I x7, pd_J x8, pd_N, pd_I x10, pd_N] [] := by
  intro k
  induction k with
  | zero => intro cells slots _ _ sh F x1 x4 x5 x6 x7 x8 x10 hf; exact absurd hf (by unfold pfL_law_b250; exact fun h => nomatch h)
  | succ k ih =>
    intro cells slots hc0 hs0 sh F x1 x4 x5 x6 x7 x8 x10 hf
    unfold pfL_law_b250 at hf
    have hU : 8 ≤ pd_U := by decide
    have hUk := Nat.mul_succ pd_U k
    rw [hUk] at hs0
    clear hUk
    refine pd_iload (i := 10) dL_law_250 rfl ?_
    refine pd_aload_n (i := 1) dL_law_252 rfl rfl ?_
    refine pd_iconst dL_law_253 (by decide) ?_
    obtain ⟨hg76, hf⟩ := pd_ig hf
    obtain ⟨r77, F75, hr, hf⟩ := pd_ob2 hf
    refine pd_callV (pkX11_count l hr) dL_law_254 pq_1023 pq_1026 pq_1027 (show vwCl[11]? = some (yX11_count.cls, TX11, 10) from rfl) hg76 (pd_okL (by decide) (by decide) (by omega) (by omega) pq_1024 pq_1025 (by decide) (show (parseMethodDescriptor yX11_count.desc).map (fun d => d.parameters.length) = some 1 from by decide +kernel)) (Nat.le_of_ble_eq_true rfl) rfl ?_
    refine pd_icmp_ge (tgt := 311) dL_law_257 (by decide) (fun hc => ?_) (fun hc => ?_)
    · have hf := pd_ip hf hc
      exact pd_weak (L' := [pd_R (-60), pd_R x1, pd_N, pd_N, pd_I x4, pd_R x5, pd_I x6, pd_I x7, pd_J x8, pd_N, pd_N, pd_N]) ⟨Or.inr rfl, Or.inr rfl, Or.inr rfl, Or.inr rfl, Or.inr rfl, Or.inr rfl, Or.inr rfl, Or.inr rfl, Or.inr rfl, Or.inr rfl, Or.inl rfl, Or.inr rfl, trivial⟩ (pkL_law_b311 E l hLs hxs hL237 _ _ (by omega) (by omega) _ _ _ _ _ _ _ _ hf)
    · have hf := pd_in_ hf hc
      refine pd_iconst dL_law_260 (by decide) ?_
      refine pd_istore (L' := [pd_R (-60), pd_R x1, pd_N, pd_N, pd_I x4, pd_R x5, pd_I x6, pd_I x7, pd_J x8, pd_N, pd_I x10, pd_I 0]) dL_law_261 (by decide) rfl ?_
      exact pd_weak (L' := [pd_R (-60), pd_R x1, pd_N, pd_N, pd_I x4, pd_R x5, pd_I x6, pd_I x7, pd_J x8, pd_N, pd_I x10, pd_I 0]) ⟨Or.inr rfl, Or.inr rfl, Or.inr rfl, Or.inr rfl, Or.inr rfl, Or.inr rfl, Or.inr rfl, Or.inr rfl, Or.inr rfl, Or.inr rfl, Or.inr rfl, Or.inr rfl, trivial⟩ (pkL_law_b263 E l hLs hxs hL237 ih (by omega) (by omega) n _ _ (by omega) (by omega) _ _ _ _ _ _ _ _ _ _ hf)
set_option maxHeartbeats 8000000 in
set_option maxRecDepth 100000 in
theorem pkL_law_b567 (E : pd_E) (l : Launch) {Ls : Int} {xs : Int → Int} (hLs : Ls = (E.2.2.2 21 : Nat) ∧ Ls < 2147483648) (hxs : ∀ j : Int, 0 ≤ j → j < Ls → xs j = (Int32.ofNat (E.2.2.2 (22 + j.toNat))).toInt) {n : Nat}  (cells slots : Nat) (hc0 : cells + 9 ≤ 600086) (hs0 : slots + pd_U * 9 ≤ 7301442) (sh : pd_S) (F : pd_F) (x1 : Int) (x4 : Int) (x5 : Int) (x6 : Int) (hf : pfL_law_b567 Ls xs n  sh F x1 x4 x5 x6 = some 1) : pd_V E l room_1 (RL, cL_law, 12, ret, "law") (pd_Ql E) true cells slots sh F 567 [pd_R (-60), pd_R x1, pd_N, pd_N, pd_I x4, pd_R x5, pd_I x6, pd_N, pd_N, pd_N, pd_N, pd_N] [] := by
  unfold pfL_law_b567 at hf
  have hU : 8 ≤ pd_U := by decide
  refine pd_iload (i := 6) dL_law_567 rfl ?_
  refine pd_iconst dL_law_569 (by decide) ?_
  refine pd_aload_n (i := 1) dL_law_570 rfl rfl ?_
  refine pd_iconst dL_law_571 (by decide) ?_
  obtain ⟨hg79, hf⟩ := pd_ig hf
  obtain ⟨r80, F78, hr, hf⟩ := pd_ob2 hf
  refine pd_callV (pkX11_count l hr) dL_law_572 pq_1023 pq_1026 pq_1027 (show vwCl[11]? = some (yX11_count.cls, TX11, 10) from rfl) hg79 (pd_okL (by decide) (by decide) (by omega) (by omega) pq_1024 pq_1025 (by decide) (show (parseMethodDescriptor yX11_count.desc).map (fun d => d.parameters.length) = some 1 from by decide +kernel)) (Nat.le_of_ble_eq_true rfl) rfl ?_
  refine pd_ishl dL_law_575 ?_
  refine pd_iconst dL_law_576 (by decide) ?_
  refine pd_isub dL_law_577 ?_
  refine pd_icmp_ne (tgt := 604) dL_law_578 (by decide) (fun hc => ?_) (fun hc => ?_)
  · have hf := pd_ip hf hc
    refine pd_iconst dL_law_604 (by decide) ?_
    exact absurd (pd_inj1 hf) (by decide)
  · have hf := pd_iq hf hc
    refine pd_aload_n (i := 1) dL_law_581 rfl rfl ?_
    refine pd_iload (i := 4) dL_law_582 rfl ?_
    refine pd_iconst dL_law_584 (by decide) ?_
    obtain ⟨r82, F81, hr, hf⟩ := pd_ob2 hf
    refine pd_callV (pkX11_view l hr) dL_law_585 pq_988 pq_991 pq_992 (show vwCl[11]? = some (yX11_view.cls, TX11, 10) from rfl) hg79 (pd_okL (by decide) (by decide) (by omega) (by omega) pq_989 pq_990 (by decide) (show (parseMethodDescriptor yX11_view.desc).map (fun d => d.parameters.length) = some 2 from by decide +kernel)) (Nat.le_of_ble_eq_true rfl) rfl ?_
    refine pd_ldc2 (x := (-1)) dL_law_588 pq_1005 (by decide +kernel) ?_
    refine pd_lcmp_ne (tgt := 604) dL_law_591 dL_law_592 (by decide) (fun hc => ?_) (fun hc => ?_)
    · have hf := pd_ip hf hc
      refine pd_iconst dL_law_604 (by decide) ?_
      exact absurd (pd_inj1 hf) (by decide)
    · have hf := pd_iq hf hc
      refine pd_aload_n (i := 1) dL_law_595 rfl rfl ?_
      refine pd_iconst dL_law_596 (by decide) ?_
      obtain ⟨r84, F83, hr, hf⟩ := pd_ob2 hf
      refine pd_callV (pkX11_who l hr) dL_law_597 pq_1033 pq_1036 pq_1037 (show vwCl[11]? = some (yX11_who.cls, TX11, 10) from rfl) hg79 (pd_okL (by decide) (by decide) (by omega) (by omega) pq_1034 pq_1035 (by decide) (show (parseMethodDescriptor yX11_who.desc).map (fun d => d.parameters.length) = some 1 from by decide +kernel)) (Nat.le_of_ble_eq_true rfl) rfl ?_
      refine pd_iconst dL_law_600 (by decide) ?_
      refine pd_icmp_eq (tgt := 606) dL_law_601 (by decide) (fun hc => ?_) (fun hc => ?_)
      · have hf := pd_ip hf hc
        refine pd_aload_n (i := 1) dL_law_606 rfl rfl ?_
        refine pd_iload (i := 4) dL_law_607 rfl ?_
        refine pd_aload (i := 5) dL_law_609 rfl ?_
        refine pd_iconst dL_law_611 (by decide) ?_
        obtain ⟨hg85, hf⟩ := pd_ig hf
        refine pd_lald dL_law_612 hg85 ?_
        refine pd_aload (i := 5) dL_law_613 rfl ?_
        refine pd_iconst dL_law_615 (by decide) ?_
        obtain ⟨hg86, hf⟩ := pd_ig hf
        refine pd_lald dL_law_616 hg86 ?_
        refine pd_aload_n (i := 0) dL_law_617 rfl rfl ?_
        obtain ⟨r89, sh88, F87, hr, hf⟩ := pd_ob3 hf
        refine pd_callSE (pkL_isPaid E l hLs hxs hr) dL_law_618 pq_1038 pq_1041 (pd_okL (by decide) (by decide) (by omega) (by omega) pq_1039 pq_1040 (by decide) (show (parseMethodDescriptor yL_isPaid.desc).map (fun d => d.parameters.length) = some 5 from by decide +kernel)) (Nat.le_of_ble_eq_true rfl) rfl ?_
        refine pd_if_eq (tgt := 637) dL_law_621 (by decide) (fun hc => ?_) (fun hc => ?_)
        · have hf := pd_ip hf hc
          refine pd_iconst dL_law_637 (by decide) ?_
          exact absurd (pd_inj1 hf) (by decide)
        · have hf := pd_in_ hf hc
          refine pd_aload_n (i := 1) dL_law_624 rfl rfl ?_
          refine pd_iload (i := 4) dL_law_625 rfl ?_
          obtain ⟨r91, F90, hr, hf⟩ := pd_ob2 hf
          refine pd_callS (pkL_isRanked l hr) dL_law_627 pq_1042 pq_1045 (pd_okL (by decide) (by decide) (by omega) (by omega) pq_1043 pq_1044 (by decide) (show (parseMethodDescriptor yL_isRanked.desc).map (fun d => d.parameters.length) = some 2 from by decide +kernel)) (Nat.le_of_ble_eq_true rfl) rfl ?_
          refine pd_if_eq (tgt := 637) dL_law_630 (by decide) (fun hc => ?_) (fun hc => ?_)
          · have hf := pd_ip hf hc
            refine pd_iconst dL_law_637 (by decide) ?_
            exact absurd (pd_inj1 hf) (by decide)
          · have hf := pd_in_ hf hc
            refine pd_iconst dL_law_633 (by decide) ?_
            refine pd_goto (tgt := 638) dL_law_634 (by decide) ?_
            obtain h2 := pd_inj1 hf
            clear h2
            exact pd_lret1 dL_law_638 (by omega) (by omega)
      · have hf := pd_in_ hf hc
        refine pd_iconst dL_law_604 (by decide) ?_
        exact absurd (pd_inj1 hf) (by decide)
set_option maxHeartbeats 8000000 in
set_option maxRecDepth 100000 in
theorem pkL_law_b538 (E : pd_E) (l : Launch) {Ls : Int} {xs : Int → Int} (hLs : Ls = (E.2.2.2 21 : Nat) ∧ Ls < 2147483648) (hxs : ∀ j : Int, 0 ≤ j → j < Ls → xs j = (Int32.ofNat (E.2.2.2 (22 + j.toNat))).toInt) {n : Nat}  : ∀ (k cells slots : Nat) (hc0 : cells + (k * 0 + 9) ≤ 600086) (hs0 : slots + (pd_U * k * 0 + pd_U * 9) ≤ 7301442) (sh : pd_S) (F : pd_F) (x1 : Int) (x4 : Int) (x5 : Int) (x6 : Int) (x7 : Int), pfL_law_b538 Ls xs n  k sh F x1 x4 x5 x6 x7 = some 1 → pd_V E l room_1 (RL, cL_law, 12, ret, "law") (pd_Ql E) true cells slots sh F 538 [pd_R (-60), pd_R x1, pd_N, pd_N, pd_I x4, pd_R x5, pd_I x6, pd_I x7, pd_N, pd_N, pd_N, pd_N] [] := by
  intro k
  induction k with
  | zero => intro cells slots _ _ sh F x1 x4 x5 x6 x7 hf; exact absurd hf (by unfold pfL_law_b538; exact fun h => nomatch h)
  | succ k ih =>
    intro cells slots hc0 hs0 sh F x1 x4 x5 x6 x7 hf
    unfold pfL_law_b538 at hf
    have hU : 8 ≤ pd_U := by decide
    have hUk := Nat.mul_succ pd_U k
    rw [hUk] at hs0
    clear hUk
    refine pd_iload (i := 7) dL_law_538 rfl ?_
    refine pd_iconst dL_law_540 (by decide) ?_
    refine pd_icmp_ge (tgt := 567) dL_law_541 (by decide) (fun hc => ?_) (fun hc => ?_)
    · have hf := pd_ip hf hc
      exact pd_weak (L' := [pd_R (-60), pd_R x1, pd_N, pd_N, pd_I x4, pd_R x5, pd_I x6, pd_N, pd_N, pd_N, pd_N, pd_N]) ⟨Or.inr rfl, Or.inr rfl, Or.inr rfl, Or.inr rfl, Or.inr rfl, Or.inr rfl, Or.inr rfl, Or.inl rfl, Or.inr rfl, Or.inr rfl, Or.inr rfl, Or.inr rfl, trivial⟩ (pkL_law_b567 E l hLs hxs _ _ (by omega) (by omega) _ _ _ _ _ _ hf)
    · have hf := pd_in_ hf hc
      refine pd_aload_n (i := 1) dL_law_544 rfl rfl ?_
      refine pd_iload (i := 7) dL_law_545 rfl ?_
      obtain ⟨hg93, hf⟩ := pd_ig hf
      obtain ⟨r94, F92, hr, hf⟩ := pd_ob2 hf
      refine pd_callV (pkX11_all l hr) dL_law_547 pq_1046 pq_1049 pq_1050 (show vwCl[11]? = some (yX11_all.cls, TX11, 10) from rfl) hg93 (pd_okL (by decide) (by decide) (by omega) (by omega) pq_1047 pq_1048 (by decide) (show (parseMethodDescriptor yX11_all.desc).map (fun d => d.parameters.length) = some 1 from by decide +kernel)) (Nat.le_of_ble_eq_true rfl) rfl ?_
      refine pd_aload (i := 5) dL_law_550 rfl ?_
      refine pd_iload (i := 7) dL_law_552 rfl ?_
      obtain ⟨hg95, hf⟩ := pd_ig hf
      refine pd_lald dL_law_554 hg95 ?_
      refine pd_lcmp_eq (tgt := 561) dL_law_555 dL_law_556 (by decide) (fun hc => ?_) (fun hc => ?_)
      · have hf := pd_ip hf hc
        refine pd_iincN (L' := fun y => [pd_R (-60), pd_R x1, pd_N, pd_N, pd_I x4, pd_R x5, pd_I x6, pd_I y, pd_N, pd_N, pd_N, pd_N]) dL_law_561 rfl (by decide) (by decide) (fun _ => rfl) (fun x7_561 ex7_561 => ?_)
        have hf := pd_lt hf ex7_561
        clear ex7_561
        refine pd_goto (tgt := 538) dL_law_564 (by decide) ?_
        exact pd_weak (L' := [pd_R (-60), pd_R x1, pd_N, pd_N, pd_I x4, pd_R x5, pd_I x6, pd_I x7_561, pd_N, pd_N, pd_N, pd_N]) ⟨Or.inr rfl, Or.inr rfl, Or.inr rfl, Or.inr rfl, Or.inr rfl, Or.inr rfl, Or.inr rfl, Or.inr rfl, Or.inr rfl, Or.inr rfl, Or.inr rfl, Or.inr rfl, trivial⟩ (ih _ _ (by omega) (by omega) _ _ _ _ _ _ _ hf)
      · have hf := pd_in_ hf hc
        refine pd_iconst dL_law_559 (by decide) ?_
        exact absurd (pd_inj1 hf) (by decide)
set_option maxHeartbeats 8000000 in
set_option maxRecDepth 100000 in
theorem pkL_law_b535 (E : pd_E) (l : Launch) {Ls : Int} {xs : Int → Int} (hLs : Ls = (E.2.2.2 21 : Nat) ∧ Ls < 2147483648) (hxs : ∀ j : Int, 0 ≤ j → j < Ls → xs j = (Int32.ofNat (E.2.2.2 (22 + j.toNat))).toInt) {n : Nat}  (cells slots : Nat) (hc0 : cells + 9 ≤ 600086) (hs0 : slots + pd_U * 9 ≤ 7301442) (sh : pd_S) (F : pd_F) (x1 : Int) (x4 : Int) (x5 : Int) (x6 : Int) (hf : pfL_law_b535 Ls xs n  sh F x1 x4 x5 x6 = some 1) : pd_V E l room_1 (RL, cL_law, 12, ret, "law") (pd_Ql E) true cells slots sh F 535 [pd_R (-60), pd_R x1, pd_N, pd_N, pd_I x4, pd_R x5, pd_I x6, pd_N, pd_N, pd_N, pd_N, pd_N] [] := by
  unfold pfL_law_b535 at hf
  have hU : 8 ≤ pd_U := by decide
  refine pd_iconst dL_law_535 (by decide) ?_
  refine pd_istore (L' := [pd_R (-60), pd_R x1, pd_N, pd_N, pd_I x4, pd_R x5, pd_I x6, pd_I 0, pd_N, pd_N, pd_N, pd_N]) dL_law_536 (by decide) rfl ?_
  exact pd_weak (L' := [pd_R (-60), pd_R x1, pd_N, pd_N, pd_I x4, pd_R x5, pd_I x6, pd_I 0, pd_N, pd_N, pd_N, pd_N]) ⟨Or.inr rfl, Or.inr rfl, Or.inr rfl, Or.inr rfl, Or.inr rfl, Or.inr rfl, Or.inr rfl, Or.inr rfl, Or.inr rfl, Or.inr rfl, Or.inr rfl, Or.inr rfl, trivial⟩ (pkL_law_b538 E l hLs hxs n _ _ (by omega) (by omega) _ _ _ _ _ _ _ hf)
set_option maxHeartbeats 8000000 in
set_option maxRecDepth 100000 in
theorem pkL_law_b237 (E : pd_E) (l : Launch) {Ls : Int} {xs : Int → Int} (hLs : Ls = (E.2.2.2 21 : Nat) ∧ Ls < 2147483648) (hxs : ∀ j : Int, 0 ≤ j → j < Ls → xs j = (Int32.ofNat (E.2.2.2 (22 + j.toNat))).toInt) {n : Nat}  : ∀ (k cells slots : Nat) (hc0 : cells + (k * 0 + 9) ≤ 600086) (hs0 : slots + (pd_U * k * 0 + pd_U * 9) ≤ 7301442) (sh : pd_S) (F : pd_F) (x1 : Int) (x4 : Int) (x5 : Int) (x6 : Int) (x7 : Int), pfL_law_b237 Ls xs n  k sh F x1 x4 x5 x6 x7 = some 1 → pd_V E l room_1 (RL, cL_law, 12, ret, "law") (pd_Ql E) true cells slots sh F 237 [pd_R (-60), pd_R x1, pd_N, pd_N, pd_I x4, pd_R x5, pd_I x6, pd_I x7, pd_N, pd_N, pd_N, pd_N] [] := by
  intro k
  induction k with
  | zero => intro cells slots _ _ sh F x1 x4 x5 x6 x7 hf; exact absurd hf (by unfold pfL_law_b237; exact fun h => nomatch h)
  | succ k ih =>
    intro cells slots hc0 hs0 sh F x1 x4 x5 x6 x7 hf
    unfold pfL_law_b237 at hf
    have hU : 8 ≤ pd_U := by decide
    have hUk := Nat.mul_succ pd_U k
    rw [hUk] at hs0
    clear hUk
    refine pd_iload (i := 7) dL_law_237 rfl ?_
    refine pd_iload (i := 4) dL_law_239 rfl ?_
    refine pd_icmp_ge (tgt := 535) dL_law_241 (by decide) (fun hc => ?_) (fun hc => ?_)
    · have hf := pd_ip hf hc
      exact pd_weak (L' := [pd_R (-60), pd_R x1, pd_N, pd_N, pd_I x4, pd_R x5, pd_I x6, pd_N, pd_N, pd_N, pd_N, pd_N]) ⟨Or.inr rfl, Or.inr rfl, Or.inr rfl, Or.inr rfl, Or.inr rfl, Or.inr rfl, Or.inr rfl, Or.inl rfl, Or.inr rfl, Or.inr rfl, Or.inr rfl, Or.inr rfl, trivial⟩ (pkL_law_b535 E l hLs hxs _ _ (by omega) (by omega) _ _ _ _ _ _ hf)
    · have hf := pd_in_ hf hc
      refine pd_lconst (x := 0) dL_law_244 (by decide) ?_
      refine pd_lstore (L' := [pd_R (-60), pd_R x1, pd_N, pd_N, pd_I x4, pd_R x5, pd_I x6, pd_I x7, pd_J 0, pd_N, pd_N, pd_N]) dL_law_245 (by decide) rfl ?_
      refine pd_iconst dL_law_247 (by decide) ?_
      refine pd_istore (L' := [pd_R (-60), pd_R x1, pd_N, pd_N, pd_I x4, pd_R x5, pd_I x6, pd_I x7, pd_J 0, pd_N, pd_I 0, pd_N]) dL_law_248 (by decide) rfl ?_
      exact pd_weak (L' := [pd_R (-60), pd_R x1, pd_N, pd_N, pd_I x4, pd_R x5, pd_I x6, pd_I x7, pd_J 0, pd_N, pd_I 0, pd_N]) ⟨Or.inr rfl, Or.inr rfl, Or.inr rfl, Or.inr rfl, Or.inr rfl, Or.inr rfl, Or.inr rfl, Or.inr rfl, Or.inr rfl, Or.inr rfl, Or.inr rfl, Or.inr rfl, trivial⟩ (pkL_law_b250 E l hLs hxs ih n _ _ (by omega) (by omega) _ _ _ _ _ _ _ _ _ hf)
set_option maxHeartbeats 8000000 in
set_option maxRecDepth 100000 in
theorem pkL_law_b200 (E : pd_E) (l : Launch) {Ls : Int} {xs : Int → Int} (hLs : Ls = (E.2.2.2 21 : Nat) ∧ Ls < 2147483648) (hxs : ∀ j : Int, 0 ≤ j → j < Ls → xs j = (Int32.ofNat (E.2.2.2 (22 + j.toNat))).toInt) {n : Nat}  (cells slots : Nat) (hc0 : cells + 10 ≤ 600086) (hs0 : slots + pd_U * 10 ≤ 7301442) (sh : pd_S) (F : pd_F) (x1 : Int) (x2 : Int) (hf : pfL_law_b200 Ls xs n  sh F x1 x2 = some 1) : pd_V E l room_1 (RL, cL_law, 12, ret, "law") (pd_Ql E) true cells slots sh F 200 [pd_R (-60), pd_R x1, pd_J x2, pd_N, pd_N, pd_N, pd_N, pd_N, pd_N, pd_N, pd_N, pd_N] [] := by
  unfold pfL_law_b200 at hf
  have hU : 8 ≤ pd_U := by decide
  refine pd_aload_n (i := 1) dL_law_200 rfl rfl ?_
  refine pd_iconst dL_law_201 (by decide) ?_
  obtain ⟨hg97, hf⟩ := pd_ig hf
  obtain ⟨r98, F96, hr, hf⟩ := pd_ob2 hf
  refine pd_callV (pkX11_all l hr) dL_law_202 pq_1046 pq_1049 pq_1050 (show vwCl[11]? = some (yX11_all.cls, TX11, 10) from rfl) hg97 (pd_okL (by decide) (by decide) (by omega) (by omega) pq_1047 pq_1048 (by decide) (show (parseMethodDescriptor yX11_all.desc).map (fun d => d.parameters.length) = some 1 from by decide +kernel)) (Nat.le_of_ble_eq_true rfl) rfl ?_
  refine pd_aload_n (i := 1) dL_law_205 rfl rfl ?_
  refine pd_iconst dL_law_206 (by decide) ?_
  obtain ⟨r100, F99, hr, hf⟩ := pd_ob2 hf
  refine pd_callV (pkX11_all l hr) dL_law_207 pq_1046 pq_1049 pq_1050 (show vwCl[11]? = some (yX11_all.cls, TX11, 10) from rfl) hg97 (pd_okL (by decide) (by decide) (by omega) (by omega) pq_1047 pq_1048 (by decide) (show (parseMethodDescriptor yX11_all.desc).map (fun d => d.parameters.length) = some 1 from by decide +kernel)) (Nat.le_of_ble_eq_true rfl) rfl ?_
  refine pd_ladd dL_law_210 ?_
  refine pd_lload_n (i := 2) dL_law_211 rfl rfl ?_
  refine pd_lcmp_eq (tgt := 218) dL_law_212 dL_law_213 (by decide) (fun hc => ?_) (fun hc => ?_)
  · have hf := pd_ip hf hc
    refine pd_aload_n (i := 1) dL_law_218 rfl rfl ?_
    refine pd_iconst dL_law_219 (by decide) ?_
    obtain ⟨r102, F101, hr, hf⟩ := pd_ob2 hf
    refine pd_callV (pkX11_all l hr) dL_law_220 pq_1046 pq_1049 pq_1050 (show vwCl[11]? = some (yX11_all.cls, TX11, 10) from rfl) hg97 (pd_okL (by decide) (by decide) (by omega) (by omega) pq_1047 pq_1048 (by decide) (show (parseMethodDescriptor yX11_all.desc).map (fun d => d.parameters.length) = some 1 from by decide +kernel)) (Nat.le_of_ble_eq_true rfl) rfl ?_
    refine pd_l2i dL_law_223 ?_
    refine pd_topI (fun x4_224 ex4_224 => ?_)
    have hf := pd_lt hf ex4_224
    clear ex4_224
    refine pd_istore (L' := [pd_R (-60), pd_R x1, pd_J x2, pd_N, pd_I x4_224, pd_N, pd_N, pd_N, pd_N, pd_N, pd_N, pd_N]) dL_law_224 (by decide) rfl ?_
    refine pd_iconst dL_law_226 (by decide) ?_
    refine pd_newJ (N := 4) dL_law_227 pq_861 (by decide) (by decide) ⟨by show _ ≤ 600086; omega, by show _ ≤ 7301442; omega⟩ ?_
    refine pd_topR (fun o105 eo105 => ?_)
    have hf := pd_lt hf eo105
    refine pd_topF (fun F104 eF104 => ?_)
    have hf := pd_lt hf eF104
    refine pd_topS (fun sh103 esh103 => ?_)
    have hf := pd_lt hf esh103
    clear esh103 eF104 eo105
    obtain ⟨hg106, hf⟩ := pd_ig hf
    refine pd_astore (L' := [pd_R (-60), pd_R x1, pd_J x2, pd_N, pd_I x4_224, pd_R o105, pd_N, pd_N, pd_N, pd_N, pd_N, pd_N]) dL_law_229 (by decide) hg106 rfl ?_
    refine pd_iconst dL_law_231 (by decide) ?_
    refine pd_istore (L' := [pd_R (-60), pd_R x1, pd_J x2, pd_N, pd_I x4_224, pd_R o105, pd_I 0, pd_N, pd_N, pd_N, pd_N, pd_N]) dL_law_232 (by decide) rfl ?_
    refine pd_iconst dL_law_234 (by decide) ?_
    refine pd_istore (L' := [pd_R (-60), pd_R x1, pd_J x2, pd_N, pd_I x4_224, pd_R o105, pd_I 0, pd_I 0, pd_N, pd_N, pd_N, pd_N]) dL_law_235 (by decide) rfl ?_
    exact pd_weak (L' := [pd_R (-60), pd_R x1, pd_N, pd_N, pd_I x4_224, pd_R o105, pd_I 0, pd_I 0, pd_N, pd_N, pd_N, pd_N]) ⟨Or.inr rfl, Or.inr rfl, Or.inl rfl, Or.inr rfl, Or.inr rfl, Or.inr rfl, Or.inr rfl, Or.inr rfl, Or.inr rfl, Or.inr rfl, Or.inr rfl, Or.inr rfl, trivial⟩ (pkL_law_b237 E l hLs hxs n _ _ (by omega) (by omega) _ _ _ _ _ _ _ hf)
  · have hf := pd_in_ hf hc
    refine pd_iconst dL_law_216 (by decide) ?_
    exact absurd (pd_inj1 hf) (by decide)
set_option maxHeartbeats 8000000 in
set_option maxRecDepth 100000 in
theorem pkL_law_b43 (E : pd_E) (l : Launch) {Ls : Int} {xs : Int → Int} (hLs : Ls = (E.2.2.2 21 : Nat) ∧ Ls < 2147483648) (hxs : ∀ j : Int, 0 ≤ j → j < Ls → xs j = (Int32.ofNat (E.2.2.2 (22 + j.toNat))).toInt) {n : Nat}  : ∀ (k cells slots : Nat) (hc0 : cells + (k * 0 + 10) ≤ 600086) (hs0 : slots + (pd_U * k * 0 + pd_U * 10) ≤ 7301442) (sh : pd_S) (F : pd_F) (x1 : Int) (x2 : Int) (x4 : Int), pfL_law_b43 Ls xs n  k sh F x1 x2 x4 = some 1 → pd_V E l room_1 (RL, cL_law, 12, ret, "law") (pd_Ql E) true cells slots sh F 43 [pd_R (-60), pd_R x1, pd_J x2, pd_N, pd_I x4, pd_N, pd_N, pd_N, pd_N, pd_N, pd_N, pd_N] [] := by
  intro k
  induction k with
  | zero => intro cells slots _ _ sh F x1 x2 x4 hf; exact absurd hf (by unfold pfL_law_b43; exact fun h => nomatch h)
  | succ k ih =>
    intro cells slots hc0 hs0 sh F x1 x2 x4 hf
    unfold pfL_law_b43 at hf
    have hU : 8 ≤ pd_U := by decide
    have hUk := Nat.mul_succ pd_U k
    rw [hUk] at hs0
    clear hUk
    refine pd_iload (i := 4) dL_law_43 rfl ?_
    refine pd_aload_n (i := 1) dL_law_45 rfl rfl ?_
    refine pd_iconst dL_law_46 (by decide) ?_
    obtain ⟨hg108, hf⟩ := pd_ig hf
    obtain ⟨r109, F107, hr, hf⟩ := pd_ob2 hf
    refine pd_callV (pkX11_count l hr) dL_law_47 pq_1023 pq_1026 pq_1027 (show vwCl[11]? = some (yX11_count.cls, TX11, 10) from rfl) hg108 (pd_okL (by decide) (by decide) (by omega) (by omega) pq_1024 pq_1025 (by decide) (show (parseMethodDescriptor yX11_count.desc).map (fun d => d.parameters.length) = some 1 from by decide +kernel)) (Nat.le_of_ble_eq_true rfl) rfl ?_
    refine pd_icmp_ge (tgt := 200) dL_law_50 (by decide) (fun hc => ?_) (fun hc => ?_)
    · have hf := pd_ip hf hc
      exact pd_weak (L' := [pd_R (-60), pd_R x1, pd_J x2, pd_N, pd_N, pd_N, pd_N, pd_N, pd_N, pd_N, pd_N, pd_N]) ⟨Or.inr rfl, Or.inr rfl, Or.inr rfl, Or.inr rfl, Or.inl rfl, Or.inr rfl, Or.inr rfl, Or.inr rfl, Or.inr rfl, Or.inr rfl, Or.inr rfl, Or.inr rfl, trivial⟩ (pkL_law_b200 E l hLs hxs _ _ (by omega) (by omega) _ _ _ _ hf)
    · have hf := pd_in_ hf hc
      refine pd_lconst (x := 0) dL_law_53 (by decide) ?_
      refine pd_lstore (L' := [pd_R (-60), pd_R x1, pd_J x2, pd_N, pd_I x4, pd_J 0, pd_N, pd_N, pd_N, pd_N, pd_N, pd_N]) dL_law_54 (by decide) rfl ?_
      refine pd_iconst dL_law_56 (by decide) ?_
      refine pd_istore (L' := [pd_R (-60), pd_R x1, pd_J x2, pd_N, pd_I x4, pd_J 0, pd_N, pd_I 0, pd_N, pd_N, pd_N, pd_N]) dL_law_57 (by decide) rfl ?_
      refine pd_iconst dL_law_59 (by decide) ?_
      refine pd_istore (L' := [pd_R (-60), pd_R x1, pd_J x2, pd_N, pd_I x4, pd_J 0, pd_N, pd_I 0, pd_I 0, pd_N, pd_N, pd_N]) dL_law_60 (by decide) rfl ?_
      exact pd_weak (L' := [pd_R (-60), pd_R x1, pd_J x2, pd_N, pd_I x4, pd_J 0, pd_N, pd_I 0, pd_I 0, pd_N, pd_N, pd_N]) ⟨Or.inr rfl, Or.inr rfl, Or.inr rfl, Or.inr rfl, Or.inr rfl, Or.inr rfl, Or.inr rfl, Or.inr rfl, Or.inr rfl, Or.inr rfl, Or.inr rfl, Or.inr rfl, trivial⟩ (pkL_law_b62 E l hLs hxs ih n _ _ (by omega) (by omega) _ _ _ _ _ _ _ _ hf)
set_option maxHeartbeats 8000000 in
set_option maxRecDepth 100000 in
theorem pkL_law (E : pd_E) (l : Launch) {Ls : Int} {xs : Int → Int} (hLs : Ls = (E.2.2.2 21 : Nat) ∧ Ls < 2147483648) (hxs : ∀ j : Int, 0 ≤ j → j < Ls → xs j = (Int32.ofNat (E.2.2.2 (22 + j.toNat))).toInt) {n : Nat} {sh : pd_S} {F : pd_F} (cells slots : Nat) (hc0 : cells ≤ 0) (hs0 : slots ≤ 0) (hf : pfL_law Ls xs n sh F = some 1) : pd_V E l room_1 (RL, cL_law, 12, ret, "law") (pd_Ql E) true cells slots sh F 0 [pd_R (-60), pd_N, pd_N, pd_N, pd_N, pd_N, pd_N, pd_N, pd_N, pd_N, pd_N, pd_N] [] := by
  unfold pfL_law at hf
  have hU : 8 ≤ pd_U := by decide
  have hUb : pd_U * 6000 ≤ 7301442 := by decide
  have hUc : 8163 ≤ pd_U * 754 := by decide
  refine pd_new dL_law_0 (show vwCl[11]? = some (RX11, TX11, 10) from rfl) pin_11 tyX11_ok pq_1051 pq_1052 pq_1053 (by decide) ⟨by show _ ≤ 600086; omega, by show _ ≤ 7301442; omega⟩ ?_
  refine pd_topR (fun o112 eo112 => ?_)
  have hf := pd_lt hf eo112
  refine pd_topF (fun F111 eF111 => ?_)
  have hf := pd_lt hf eF111
  refine pd_topS (fun sh110 esh110 => ?_)
  have hf := pd_lt hf esh110
  clear esh110 eF111 eo112
  refine pd_dup dL_law_3 rfl ?_
  obtain ⟨hg114, hf⟩ := pd_ig hf
  obtain ⟨sh115, F113, hr, hf⟩ := pd_ob2 hf
  refine pd_callI (pkX11_init l hr) dL_law_4 pq_1054 pq_1057 rfl hg114 (pd_okL (by decide) (by decide) (by omega) (by omega) pq_1055 pq_1056 (by decide) (show (parseMethodDescriptor yX11_init.desc).map (fun d => d.parameters.length) = some 0 from by decide +kernel)) (Nat.le_of_ble_eq_true rfl) rfl ?_
  obtain ⟨hg116, hf⟩ := pd_ig hf
  refine pd_astore_n (L' := [pd_R (-60), pd_R o112, pd_N, pd_N, pd_N, pd_N, pd_N, pd_N, pd_N, pd_N, pd_N, pd_N]) dL_law_7 rfl (by decide) hg116 rfl ?_
  refine pd_aload_n (i := 1) dL_law_8 rfl rfl ?_
  refine pd_iconst dL_law_9 (by decide) ?_
  obtain ⟨hg118, hf⟩ := pd_ig hf
  obtain ⟨r119, F117, hr, hf⟩ := pd_ob2 hf
  refine pd_callV (pkX11_all l hr) dL_law_10 pq_1046 pq_1049 pq_1050 (show vwCl[11]? = some (yX11_all.cls, TX11, 10) from rfl) hg118 (pd_okL (by decide) (by decide) (by omega) (by omega) pq_1047 pq_1048 (by decide) (show (parseMethodDescriptor yX11_all.desc).map (fun d => d.parameters.length) = some 1 from by decide +kernel)) (Nat.le_of_ble_eq_true rfl) rfl ?_
  refine pd_lconst (x := 0) dL_law_13 (by decide) ?_
  refine pd_lcmp_ne (tgt := 36) dL_law_14 dL_law_15 (by decide) (fun hc => ?_) (fun hc => ?_)
  · have hf := pd_ip hf hc
    refine pd_iconst dL_law_36 (by decide) ?_
    exact absurd (pd_inj1 hf) (by decide)
  · have hf := pd_iq hf hc
    refine pd_aload_n (i := 1) dL_law_18 rfl rfl ?_
    refine pd_iconst dL_law_19 (by decide) ?_
    refine pd_iconst dL_law_20 (by decide) ?_
    obtain ⟨r121, F120, hr, hf⟩ := pd_ob2 hf
    refine pd_callV (pkX11_tell l hr) dL_law_21 pq_965 pq_968 pq_969 (show vwCl[11]? = some (yX11_tell.cls, TX11, 10) from rfl) hg118 (pd_okL (by decide) (by decide) (by omega) (by omega) pq_966 pq_967 (by decide) (show (parseMethodDescriptor yX11_tell.desc).map (fun d => d.parameters.length) = some 2 from by decide +kernel)) (Nat.le_of_ble_eq_true rfl) rfl ?_
    refine pd_iconst dL_law_24 (by decide) ?_
    refine pd_icmp_ne (tgt := 36) dL_law_25 (by decide) (fun hc => ?_) (fun hc => ?_)
    · have hf := pd_ip hf hc
      refine pd_iconst dL_law_36 (by decide) ?_
      exact absurd (pd_inj1 hf) (by decide)
    · have hf := pd_iq hf hc
      refine pd_aload_n (i := 1) dL_law_28 rfl rfl ?_
      refine pd_aload_n (i := 0) dL_law_29 rfl rfl ?_
      obtain ⟨r124, sh123, F122, hr, hf⟩ := pd_ob3 hf
      refine pd_callSE (pkL_begins E l hLs hxs hr) dL_law_30 pq_1058 pq_1061 (pd_okL (by decide) (by decide) (by omega) (by omega) pq_1059 pq_1060 (by decide) (show (parseMethodDescriptor yL_begins.desc).map (fun d => d.parameters.length) = some 2 from by decide +kernel)) (Nat.le_of_ble_eq_true rfl) rfl ?_
      refine pd_if_ne (tgt := 38) dL_law_33 (by decide) (fun hc => ?_) (fun hc => ?_)
      · have hf := pd_ip hf hc
        refine pd_lconst (x := 0) dL_law_38 (by decide) ?_
        refine pd_lstore_n (L' := [pd_R (-60), pd_R o112, pd_J 0, pd_N, pd_N, pd_N, pd_N, pd_N, pd_N, pd_N, pd_N, pd_N]) dL_law_39 rfl (by decide) rfl ?_
        refine pd_iconst dL_law_40 (by decide) ?_
        refine pd_istore (L' := [pd_R (-60), pd_R o112, pd_J 0, pd_N, pd_I 0, pd_N, pd_N, pd_N, pd_N, pd_N, pd_N, pd_N]) dL_law_41 (by decide) rfl ?_
        exact pd_weak (L' := [pd_R (-60), pd_R o112, pd_J 0, pd_N, pd_I 0, pd_N, pd_N, pd_N, pd_N, pd_N, pd_N, pd_N]) ⟨Or.inr rfl, Or.inr rfl, Or.inr rfl, Or.inr rfl, Or.inr rfl, Or.inr rfl, Or.inr rfl, Or.inr rfl, Or.inr rfl, Or.inr rfl, Or.inr rfl, Or.inr rfl, trivial⟩ (pkL_law_b43 E l hLs hxs n _ _ (by omega) (by omega) _ _ _ _ _ hf)
      · have hf := pd_iq hf hc
        refine pd_iconst dL_law_36 (by decide) ?_
        exact absurd (pd_inj1 hf) (by decide)
