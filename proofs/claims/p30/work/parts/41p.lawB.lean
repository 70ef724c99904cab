def pfL_isPaid_b46 (Ls : Int) (xs : Int → Int) (n : Nat) (c20 : pd_S → pd_F → Int → Int → Int → Int → Int → Int → Option (Int × pd_S × pd_F)) (sh : pd_S) (F : pd_F) (x0 : Int) (x1 : Int) (x2 : Int) (x4 : Int) (x7 : Int) (x8 : Int) (t0 : Int) (t1 : Int) : Option (Int × pd_S × pd_F) :=
  pd_i (pd_ib sh 1 0 t1 t0 = true) <|
  pd_i (pd_ob sh 11 x0 = true) <|
  Option.bind (pfX11_view sh n F x0 x8 7) fun qr4 => pd_l qr4.1 fun r4 => pd_l qr4.2 fun F2 =>
  pd_l (pd_up F2 t1 t0 (pd_W ((F t1 t0) + r4))) fun F5 =>
  pd_l (pd_w (x8 + 1)) fun x8_58 =>
  c20 sh F5 x0 x1 x2 x4 x7 x8_58
def pfL_isPaid_b126 (Ls : Int) (xs : Int → Int) (n : Nat) (c67 : pd_S → pd_F → Int → Int → Int → Int → Int → Int → Option (Int × pd_S × pd_F)) (sh : pd_S) (F : pd_F) (x0 : Int) (x1 : Int) (x2 : Int) (x4 : Int) (x7 : Int) (x8 : Int) (t0 : Int) (t1 : Int) : Option (Int × pd_S × pd_F) :=
  if t1 = t0 then
    pd_l (pd_w (x8 + 1)) fun x8_132 =>
    c67 sh F x0 x1 x2 x4 x7 x8_132
  else
    some (0, sh, F)
def pfL_isPaid_b125 (Ls : Int) (xs : Int → Int) (n : Nat) (c67 : pd_S → pd_F → Int → Int → Int → Int → Int → Int → Option (Int × pd_S × pd_F)) (sh : pd_S) (F : pd_F) (x0 : Int) (x1 : Int) (x2 : Int) (x4 : Int) (x7 : Int) (x8 : Int) (t0 : Int) (t1 : Int) (t2 : Int) : Option (Int × pd_S × pd_F) :=
  pfL_isPaid_b126 Ls xs n c67 sh F x0 x1 x2 x4 x7 x8 (pd_W (t1 + t0)) t2
def pfL_isPaid_b110 (Ls : Int) (xs : Int → Int) (n : Nat) (c67 : pd_S → pd_F → Int → Int → Int → Int → Int → Int → Option (Int × pd_S × pd_F)) (sh : pd_S) (F : pd_F) (x0 : Int) (x1 : Int) (x2 : Int) (x4 : Int) (x7 : Int) (x8 : Int) (t0 : Int) (t1 : Int) (t2 : Int) : Option (Int × pd_S × pd_F) :=
  if x8 ≤ 1 then
    pfL_isPaid_b125 Ls xs n c67 sh F x0 x1 x2 x4 x7 x8 0 (pd_W (t1 + t0)) t2
  else
    pd_i (pd_ib sh 1 0 x7 2 = true) <|
    pfL_isPaid_b125 Ls xs n c67 sh F x0 x1 x2 x4 x7 x8 (F x7 2) (pd_W (t1 + t0)) t2
def pfL_isPaid_b268 (Ls : Int) (xs : Int → Int) (n : Nat) (c141 : pd_S → pd_F → Int → Int → Int → Int → Int → Int → Option (Int × pd_S × pd_F)) (c209 : pd_S → pd_F → Int → Int → Int → Int → Int → Int → Int → Int → Int → Option (Int × pd_S × pd_F)) (sh : pd_S) (F : pd_F) (x0 : Int) (x1 : Int) (x2 : Int) (x4 : Int) (x7 : Int) (x8 : Int) (x9 : Int) (x10 : Int) (x11 : Int) (x12 : Int) (t0 : Int) (t1 : Int) : Option (Int × pd_S × pd_F) :=
  pd_i (pd_ib sh 1 0 t1 t0 = true) <|
  pd_l (pd_up F t1 t0 (pd_W ((F t1 t0) + x12))) fun F8 =>
  pd_l (pd_w (x11 + 1)) fun x11_274 =>
  c209 sh F8 x0 x1 x2 x4 x7 x8 x9 x10 x11_274
def pfL_isPaid_b342 (Ls : Int) (xs : Int → Int) (n : Nat) (c141 : pd_S → pd_F → Int → Int → Int → Int → Int → Int → Option (Int × pd_S × pd_F)) (c288 : pd_S → pd_F → Int → Int → Int → Int → Int → Int → Int → Int → Int → Option (Int × pd_S × pd_F)) (sh : pd_S) (F : pd_F) (x0 : Int) (x1 : Int) (x2 : Int) (x4 : Int) (x7 : Int) (x8 : Int) (x10 : Int) (x11 : Int) (x13 : Int) : Option (Int × pd_S × pd_F) :=
  pd_l (pd_w (x13 + 1)) fun x13_342 =>
  c288 sh F x0 x1 x2 x4 x7 x8 x10 x11 x13_342
def pfL_isPaid_b348 (Ls : Int) (xs : Int → Int) (n : Nat) (c141 : pd_S → pd_F → Int → Int → Int → Int → Int → Int → Option (Int × pd_S × pd_F)) (sh : pd_S) (F : pd_F) (x0 : Int) (x1 : Int) (x2 : Int) (x4 : Int) (x7 : Int) (x8 : Int) : Option (Int × pd_S × pd_F) :=
  pd_l (pd_w (x8 + 1)) fun x8_348 =>
  c141 sh F x0 x1 x2 x4 x7 x8_348
def pfL_isPaid_b288 (Ls : Int) (xs : Int → Int) (n : Nat) (c141 : pd_S → pd_F → Int → Int → Int → Int → Int → Int → Option (Int × pd_S × pd_F)) : Nat → pd_S → pd_F → Int → Int → Int → Int → Int → Int → Int → Int → Int → Option (Int × pd_S × pd_F)
  | 0, _, _, _, _, _, _, _, _, _, _, _ => none
  | k + 1, sh, F, x0, x1, x2, x4, x7, x8, x10, x11, x13 =>
    if x13 ≥ 3 then
      pfL_isPaid_b348 Ls xs n c141 sh F x0 x1 x2 x4 x7 x8
    else
      pd_i (pd_ib sh 1 0 x10 x13 = true) <|
      pd_i (pd_ib sh 1 0 x7 x13 = true) <|
      if (F x10 x13) = (min x11 (F x7 x13)) then
        pd_l (pd_W (x11 - (F x10 x13))) fun x11_323 =>
        if (F x10 x13) ≥ (F x7 x13) then
          pfL_isPaid_b342 Ls xs n c141 (pfL_isPaid_b288 Ls xs n c141 k) sh F x0 x1 x2 x4 x7 x8 x10 x11_323 x13
        else
          pfL_isPaid_b342 Ls xs n c141 (pfL_isPaid_b288 Ls xs n c141 k) sh F x0 x1 x2 x4 x7 x8 x10 0 x13
      else
        some (0, sh, F)
def pfL_isPaid_b280 (Ls : Int) (xs : Int → Int) (n : Nat) (c141 : pd_S → pd_F → Int → Int → Int → Int → Int → Int → Option (Int × pd_S × pd_F)) (sh : pd_S) (F : pd_F) (x0 : Int) (x1 : Int) (x2 : Int) (x4 : Int) (x7 : Int) (x8 : Int) (x9 : Int) (x10 : Int) : Option (Int × pd_S × pd_F) :=
  pfL_isPaid_b288 Ls xs n c141 n sh F x0 x1 x2 x4 x7 x8 x10 x9 0
def pfL_isPaid_b209 (Ls : Int) (xs : Int → Int) (n : Nat) (c141 : pd_S → pd_F → Int → Int → Int → Int → Int → Int → Option (Int × pd_S × pd_F)) : Nat → pd_S → pd_F → Int → Int → Int → Int → Int → Int → Int → Int → Int → Option (Int × pd_S × pd_F)
  | 0, _, _, _, _, _, _, _, _, _, _, _ => none
  | k + 1, sh, F, x0, x1, x2, x4, x7, x8, x9, x10, x11 =>
    if x11 ≥ x1 then
      pfL_isPaid_b280 Ls xs n c141 sh F x0 x1 x2 x4 x7 x8 x9 x10
    else
      pd_i (pd_ob sh 11 x0 = true) <|
      Option.bind (pfX11_estate sh n F x0 x9 x11) fun qr13 => pd_l qr13.1 fun r13 => pd_l qr13.2 fun F11 =>
      if r13 < 0 then
        some (0, sh, F11)
      else
        Option.bind (pfX11_view sh n F11 x0 x11 7) fun qr15 => pd_l qr15.1 fun r15 => pd_l qr15.2 fun F14 =>
        if r13 ≤ r15 then
          Option.bind (pfX11_view sh n F14 x0 x11 8) fun qr17 => pd_l qr17.1 fun r17 => pd_l qr17.2 fun F16 =>
          if r17 ≠ 1 then
            pfL_isPaid_b268 Ls xs n c141 (pfL_isPaid_b209 Ls xs n c141 k) sh F16 x0 x1 x2 x4 x7 x8 x9 x10 x11 r13 1 x10
          else
            pfL_isPaid_b268 Ls xs n c141 (pfL_isPaid_b209 Ls xs n c141 k) sh F16 x0 x1 x2 x4 x7 x8 x9 x10 x11 r13 2 x10
        else
          some (0, sh, F14)
def pfL_isPaid_b181 (Ls : Int) (xs : Int → Int) (n : Nat) (c141 : pd_S → pd_F → Int → Int → Int → Int → Int → Int → Option (Int × pd_S × pd_F)) (sh : pd_S) (F : pd_F) (x0 : Int) (x1 : Int) (x2 : Int) (x4 : Int) (x7 : Int) (x8 : Int) (t0 : Int) : Option (Int × pd_S × pd_F) :=
  pd_l ((sh.length : Int) + 1) fun o20 => pd_l (pd_z F (sh.length + 1)) fun F19 => pd_l (sh ++ [(1, 0, 3)]) fun sh18 =>
  pd_i (pd_ob sh18 11 x0 = true) <|
  Option.bind (pfX11_estate sh18 n F19 x0 t0 (-1)) fun qr23 => pd_l qr23.1 fun r23 => pd_l qr23.2 fun F21 =>
  pd_i (pd_ib sh18 1 0 o20 0 = true) <|
  pd_l (pd_up F21 o20 0 r23) fun F25 =>
  pd_i (pd_ib sh18 1 0 o20 1 = true) <|
  pd_l (pd_up F25 o20 1 0) fun F27 =>
  pd_i (pd_ib sh18 1 0 o20 2 = true) <|
  pd_l (pd_up F27 o20 2 0) fun F29 =>
  pd_i (o20 ≠ 0) <|
  pfL_isPaid_b209 Ls xs n c141 n sh18 F29 x0 x1 x2 x4 x7 x8 t0 o20 0
def pfL_isPaid_b354 (Ls : Int) (xs : Int → Int) (n : Nat)  (sh : pd_S) (F : pd_F) (x0 : Int) (x1 : Int) : Option (Int × pd_S × pd_F) :=
  pd_i (pd_ob sh 11 x0 = true) <|
  Option.bind (pfX11_estate sh n F x0 (-1) 0) fun qr33 => pd_l qr33.1 fun r33 => pd_l qr33.2 fun F31 =>
  if r33 ≠ (-2) then
    some (0, sh, F31)
  else
    Option.bind (pfX11_estate sh n F31 x0 0 x1) fun qr35 => pd_l qr35.1 fun r35 => pd_l qr35.2 fun F34 =>
    if r35 ≠ (-2) then
      some (0, sh, F34)
    else
      Option.bind (pfX11_enough sh n F34 x0 3) fun qr37 => pd_l qr37.1 fun r37 => pd_l qr37.2 fun F36 =>
      if r37 ≠ (-1) then
        some (0, sh, F36)
      else
        some (1, sh, F36)
def pfL_isPaid_b141 (Ls : Int) (xs : Int → Int) (n : Nat)  : Nat → pd_S → pd_F → Int → Int → Int → Int → Int → Int → Option (Int × pd_S × pd_F)
  | 0, _, _, _, _, _, _, _, _ => none
  | k + 1, sh, F, x0, x1, x2, x4, x7, x8 =>
    if x8 ≥ 6 then
      pfL_isPaid_b354 Ls xs n sh F x0 x1
    else
      if x8 ≠ 0 then
        Option.bind (pfL_cell Ls xs sh n F (pd_w (180 + x8))) fun qr39 => pd_l qr39.1 fun r39 => pd_l qr39.2 fun F38 =>
        pd_i ((pd_w (pd_W ((pd_W (x2 + x4)) + 100))) ≠ 0) <|
        pfL_isPaid_b181 Ls xs n (pfL_isPaid_b141 Ls xs n k) sh F38 x0 x1 x2 x4 x7 x8 (Int.tmod (pd_and r39 1048575) (pd_w (pd_W ((pd_W (x2 + x4)) + 100))))
      else
        pfL_isPaid_b181 Ls xs n (pfL_isPaid_b141 Ls xs n k) sh F x0 x1 x2 x4 x7 x8 0
def pfL_isPaid_b138 (Ls : Int) (xs : Int → Int) (n : Nat)  (sh : pd_S) (F : pd_F) (x0 : Int) (x1 : Int) (x2 : Int) (x4 : Int) (x7 : Int) : Option (Int × pd_S × pd_F) :=
  pfL_isPaid_b141 Ls xs n 7 sh F x0 x1 x2 x4 x7 0
def pfL_isPaid_b67 (Ls : Int) (xs : Int → Int) (n : Nat)  : Nat → pd_S → pd_F → Int → Int → Int → Int → Int → Int → Option (Int × pd_S × pd_F)
  | 0, _, _, _, _, _, _, _, _ => none
  | k + 1, sh, F, x0, x1, x2, x4, x7, x8 =>
    if x8 ≥ 3 then
      pfL_isPaid_b138 Ls xs n sh F x0 x1 x2 x4 x7
    else
      pd_i (pd_ob sh 11 x0 = true) <|
      Option.bind (pfX11_enough sh n F x0 x8) fun qr43 => pd_l qr43.1 fun r43 => pd_l qr43.2 fun F41 =>
      pd_i (pd_ib sh 1 0 x7 x8 = true) <|
      if (F41 x7 x8) ≠ 0 then
        pd_i (pd_ib sh 1 0 x7 0 = true) <|
        if x8 ≤ 0 then
          pfL_isPaid_b110 Ls xs n (pfL_isPaid_b67 Ls xs n k) sh F41 x0 x1 x2 x4 x7 x8 0 (F41 x7 0) r43
        else
          pd_i (pd_ib sh 1 0 x7 1 = true) <|
          pfL_isPaid_b110 Ls xs n (pfL_isPaid_b67 Ls xs n k) sh F41 x0 x1 x2 x4 x7 x8 (F41 x7 1) (F41 x7 0) r43
      else
        pfL_isPaid_b126 Ls xs n (pfL_isPaid_b67 Ls xs n k) sh F41 x0 x1 x2 x4 x7 x8 0 r43
def pfL_isPaid_b64 (Ls : Int) (xs : Int → Int) (n : Nat)  (sh : pd_S) (F : pd_F) (x0 : Int) (x1 : Int) (x2 : Int) (x4 : Int) (x7 : Int) : Option (Int × pd_S × pd_F) :=
  pfL_isPaid_b67 Ls xs n n sh F x0 x1 x2 x4 x7 0
def pfL_isPaid_b20 (Ls : Int) (xs : Int → Int) (n : Nat)  : Nat → pd_S → pd_F → Int → Int → Int → Int → Int → Int → Option (Int × pd_S × pd_F)
  | 0, _, _, _, _, _, _, _, _ => none
  | k + 1, sh, F, x0, x1, x2, x4, x7, x8 =>
    if x8 ≥ x1 then
      pfL_isPaid_b64 Ls xs n sh F x0 x1 x2 x4 x7
    else
      pd_i (pd_ob sh 11 x0 = true) <|
      Option.bind (pfX11_view sh n F x0 x8 8) fun qr49 => pd_l qr49.1 fun r49 => pd_l qr49.2 fun F47 =>
      if r49 ≠ 1 then
        pfL_isPaid_b46 Ls xs n (pfL_isPaid_b20 Ls xs n k) sh F47 x0 x1 x2 x4 x7 x8 1 x7
      else
        pfL_isPaid_b46 Ls xs n (pfL_isPaid_b20 Ls xs n k) sh F47 x0 x1 x2 x4 x7 x8 2 x7
def pfL_isPaid (Ls : Int) (xs : Int → Int) (sh : pd_S) (n : Nat) (F : pd_F) (x0 : Int) (x1 : Int) (x2 : Int) (x4 : Int) : Option (Int × pd_S × pd_F) :=
  pd_l ((sh.length : Int) + 1) fun o52 => pd_l (pd_z F (sh.length + 1)) fun F51 => pd_l (sh ++ [(1, 0, 3)]) fun sh50 =>
  pd_i (pd_ib sh50 1 0 o52 0 = true) <|
  pd_l (pd_up F51 o52 0 x2) fun F54 =>
  pd_i (pd_ib sh50 1 0 o52 1 = true) <|
  pd_l (pd_up F54 o52 1 0) fun F56 =>
  pd_i (pd_ib sh50 1 0 o52 2 = true) <|
  pd_l (pd_up F56 o52 2 0) fun F58 =>
  pd_i (o52 ≠ 0) <|
  pfL_isPaid_b20 Ls xs n n sh50 F58 x0 x1 x2 x4 o52 0
def pfL_isRanked_b105 (sh : pd_S) (n : Nat) (c4 : pd_F → Int → Int → Int → Int → Option (Int × pd_F)) (F : pd_F) (x0 : Int) (x1 : Int) (x2 : Int) (x3 : Int) : Option (Int × pd_F) :=
  pd_l (pd_w (x3 + 1)) fun x3_105 =>
  c4 F x0 x1 x2 x3_105
def pfL_isRanked_b111 (sh : pd_S) (n : Nat)  (F : pd_F) (x0 : Int) (x1 : Int) : Option (Int × pd_F) :=
  pd_i (pd_ob sh 11 x0 = true) <|
  Option.bind (pfX11_ranked sh n F x0 x1) fun qr3 => pd_l qr3.1 fun r3 => pd_l qr3.2 fun F1 =>
  if r3 ≠ (-1) then
    some (0, F1)
  else
    some (1, F1)
def pfL_isRanked_b4 (sh : pd_S) (n : Nat)  : Nat → pd_F → Int → Int → Int → Int → Option (Int × pd_F)
  | 0, _, _, _, _, _ => none
  | k + 1, F, x0, x1, x2, x3 =>
    if x3 ≥ x1 then
      pfL_isRanked_b111 sh n F x0 x1
    else
      pd_i (pd_ob sh 11 x0 = true) <|
      Option.bind (pfX11_ranked sh n F x0 x3) fun qr6 => pd_l qr6.1 fun r6 => pd_l qr6.2 fun F4 =>
      if r6 < 0 then
        some (0, F4)
      else
        if (pd_and (pd_shr x2 r6) 1) ≠ 1 then
          pd_l (pd_or x2 (pd_shl 1 r6)) fun x2_39 =>
          if x3 ≠ 0 then
            Option.bind (pfX11_ranked sh n F4 x0 (pd_w (x3 - 1))) fun qr8 => pd_l qr8.1 fun r8 => pd_l qr8.2 fun F7 =>
            Option.bind (pfX11_view sh n F7 x0 r8 7) fun qr10 => pd_l qr10.1 fun r10 => pd_l qr10.2 fun F9 =>
            Option.bind (pfX11_view sh n F9 x0 r6 7) fun qr12 => pd_l qr12.1 fun r12 => pd_l qr12.2 fun F11 =>
            if r10 < r12 then
              some (0, F11)
            else
              Option.bind (pfX11_view sh n F11 x0 r8 7) fun qr14 => pd_l qr14.1 fun r14 => pd_l qr14.2 fun F13 =>
              Option.bind (pfX11_view sh n F13 x0 r6 7) fun qr16 => pd_l qr16.1 fun r16 => pd_l qr16.2 fun F15 =>
              if r14 ≠ r16 then
                pfL_isRanked_b105 sh n (pfL_isRanked_b4 sh n k) F15 x0 x1 x2_39 x3
              else
                if r8 ≤ r6 then
                  pfL_isRanked_b105 sh n (pfL_isRanked_b4 sh n k) F15 x0 x1 x2_39 x3
                else
                  some (0, F15)
          else
            pfL_isRanked_b105 sh n (pfL_isRanked_b4 sh n k) F4 x0 x1 x2_39 x3
        else
          some (0, F4)
def pfL_isRanked (sh : pd_S) (n : Nat) (F : pd_F) (x0 : Int) (x1 : Int) : Option (Int × pd_F) :=
  pfL_isRanked_b4 sh n n F x0 x1 0 0
set_option maxHeartbeats 8000000 in
set_option maxRecDepth 100000 in
theorem pkL_isPaid_b46 (E : pd_E) (l : Launch) {Ls : Int} {xs : Int → Int} (hLs : Ls = (E.2.2.2 21 : Nat) ∧ Ls < 2147483648) (hxs : ∀ j : Int, 0 ≤ j → j < Ls → xs j = (Int32.ofNat (E.2.2.2 (22 + j.toNat))).toInt) {n : Nat} {shz : pd_S} {ρ : Int} {Fz : pd_F} {c20 : pd_S → pd_F → Int → Int → Int → Int → Int → Int → Option (Int × pd_S × pd_F)} {B20 D20 : Nat} (hL20 : ∀ (cells slots : Nat) (hc0 : cells + B20 ≤ 9) (hs0 : slots + D20 ≤ pd_U * 9) (sh : pd_S) (F : pd_F) (x0 : Int) (x1 : Int) (x2 : Int) (x4 : Int) (x7 : Int) (x8 : Int), c20 sh F x0 x1 x2 x4 x7 x8 = some (ρ, shz, Fz) → pd_V E l (pd_rm 8 9 (pd_U * 9)) (RL, cL_isPaid, 14, (some .boolean), "isPaid") (pd_Qm E true (some (pd_I ρ)) shz Fz 9 (pd_U * 9)) true cells slots sh F 20 [pd_R x0, pd_I x1, pd_J x2, pd_N, pd_J x4, pd_N, pd_R (-60), pd_R x7, pd_I x8, pd_N, pd_N, pd_N, pd_N, pd_N] []) (cells slots : Nat) (hc0 : cells + 0 + B20 ≤ 9) (hs0 : slots + pd_U * 0 + D20 ≤ pd_U * 9) (sh : pd_S) (F : pd_F) (x0 : Int) (x1 : Int) (x2 : Int) (x4 : Int) (x7 : Int) (x8 : Int) (t0 : Int) (t1 : Int) (hf : pfL_isPaid_b46 Ls xs n c20 sh F x0 x1 x2 x4 x7 x8 t0 t1 = some (ρ, shz, Fz)) : pd_V E l (pd_rm 8 9 (pd_U * 9)) (RL, cL_isPaid, 14, (some .boolean), "isPaid") (pd_Qm E true (some (pd_I ρ)) shz Fz 9 (pd_U * 9)) true cells slots sh F 46 [pd_R x0, pd_I x1, pd_J x2, pd_N, pd_J x4, pd_N, pd_R (-60), pd_R x7, pd_I x8, pd_N, pd_N, pd_N, pd_N, pd_N] [pd_I t0, pd_R t1] := by
  unfold pfL_isPaid_b46 at hf
  have hU : 8 ≤ pd_U := by decide
  refine pd_dup2 dL_isPaid_46 rfl rfl ?_
  obtain ⟨hg1, hf⟩ := pd_ig hf
  refine pd_lald dL_isPaid_47 hg1 ?_
  refine pd_aload_n (i := 0) dL_isPaid_48 rfl rfl ?_
  refine pd_iload (i := 8) dL_isPaid_49 rfl ?_
  refine pd_bipush dL_isPaid_51 (by decide) ?_
  obtain ⟨hg3, hf⟩ := pd_ig hf
  obtain ⟨r4, F2, hr, hf⟩ := pd_ob2 hf
  refine pd_callV (pkX11_view l hr) dL_isPaid_53 pq_988 pq_991 pq_992 (show vwCl[11]? = some (yX11_view.cls, TX11, 10) from rfl) hg3 (pd_okA (by omega) (by decide) (by omega) (by omega) pq_989 pq_990 (by decide) (show (parseMethodDescriptor yX11_view.desc).map (fun d => d.parameters.length) = some 2 from by decide +kernel)) (Nat.le_of_ble_eq_true rfl) rfl ?_
  refine pd_ladd dL_isPaid_56 ?_
  refine pd_last dL_isPaid_57 hg1 ?_
  refine pd_topF (fun F5 eF5 => ?_)
  have hf := pd_lt hf eF5
  clear eF5
  refine pd_iincN (L' := fun y => [pd_R x0, pd_I x1, pd_J x2, pd_N, pd_J x4, pd_N, pd_R (-60), pd_R x7, pd_I y, pd_N, pd_N, pd_N, pd_N, pd_N]) dL_isPaid_58 rfl (by decide) (by decide) (fun _ => rfl) (fun x8_58 ex8_58 => ?_)
  have hf := pd_lt hf ex8_58
  clear ex8_58
  refine pd_goto (tgt := 20) dL_isPaid_61 (by decide) ?_
  exact pd_weak (L' := [pd_R x0, pd_I x1, pd_J x2, pd_N, pd_J x4, pd_N, pd_R (-60), pd_R x7, pd_I x8_58, pd_N, pd_N, pd_N, pd_N, pd_N]) ⟨Or.inr rfl, Or.inr rfl, Or.inr rfl, Or.inr rfl, Or.inr rfl, Or.inr rfl, Or.inr rfl, Or.inr rfl, Or.inr rfl, Or.inr rfl, Or.inr rfl, Or.inr rfl, Or.inr rfl, Or.inr rfl, trivial⟩ (hL20 _ _ (by omega) (by omega) _ _ _ _ _ _ _ _ hf)
set_option maxHeartbeats 8000000 in
set_option maxRecDepth 100000 in
theorem pkL_isPaid_b126 (E : pd_E) (l : Launch) {Ls : Int} {xs : Int → Int} (hLs : Ls = (E.2.2.2 21 : Nat) ∧ Ls < 2147483648) (hxs : ∀ j : Int, 0 ≤ j → j < Ls → xs j = (Int32.ofNat (E.2.2.2 (22 + j.toNat))).toInt) {n : Nat} {shz : pd_S} {ρ : Int} {Fz : pd_F} {c67 : pd_S → pd_F → Int → Int → Int → Int → Int → Int → Option (Int × pd_S × pd_F)} {B67 D67 : Nat} (hL67 : ∀ (cells slots : Nat) (hc0 : cells + B67 ≤ 9) (hs0 : slots + D67 ≤ pd_U * 9) (sh : pd_S) (F : pd_F) (x0 : Int) (x1 : Int) (x2 : Int) (x4 : Int) (x7 : Int) (x8 : Int), c67 sh F x0 x1 x2 x4 x7 x8 = some (ρ, shz, Fz) → pd_V E l (pd_rm 8 9 (pd_U * 9)) (RL, cL_isPaid, 14, (some .boolean), "isPaid") (pd_Qm E true (some (pd_I ρ)) shz Fz 9 (pd_U * 9)) true cells slots sh F 67 [pd_R x0, pd_I x1, pd_J x2, pd_N, pd_J x4, pd_N, pd_R (-60), pd_R x7, pd_I x8, pd_N, pd_N, pd_N, pd_N, pd_N] []) (cells slots : Nat) (hc0 : cells + 0 + B67 ≤ 9) (hs0 : slots + pd_U * 0 + D67 ≤ pd_U * 9) (sh : pd_S) (F : pd_F) (x0 : Int) (x1 : Int) (x2 : Int) (x4 : Int) (x7 : Int) (x8 : Int) (t0 : Int) (t1 : Int) (hf : pfL_isPaid_b126 Ls xs n c67 sh F x0 x1 x2 x4 x7 x8 t0 t1 = some (ρ, shz, Fz)) : pd_V E l (pd_rm 8 9 (pd_U * 9)) (RL, cL_isPaid, 14, (some .boolean), "isPaid") (pd_Qm E true (some (pd_I ρ)) shz Fz 9 (pd_U * 9)) true cells slots sh F 126 [pd_R x0, pd_I x1, pd_J x2, pd_N, pd_J x4, pd_N, pd_R (-60), pd_R x7, pd_I x8, pd_N, pd_N, pd_N, pd_N, pd_N] [pd_J t0, pd_J t1] := by
  unfold pfL_isPaid_b126 at hf
  have hU : 8 ≤ pd_U := by decide
  refine pd_lcmp_eq (tgt := 132) dL_isPaid_126 dL_isPaid_127 (by decide) (fun hc => ?_) (fun hc => ?_)
  · have hf := pd_ip hf hc
    refine pd_iincN (L' := fun y => [pd_R x0, pd_I x1, pd_J x2, pd_N, pd_J x4, pd_N, pd_R (-60), pd_R x7, pd_I y, pd_N, pd_N, pd_N, pd_N, pd_N]) dL_isPaid_132 rfl (by decide) (by decide) (fun _ => rfl) (fun x8_132 ex8_132 => ?_)
    have hf := pd_lt hf ex8_132
    clear ex8_132
    refine pd_goto (tgt := 67) dL_isPaid_135 (by decide) ?_
    exact pd_weak (L' := [pd_R x0, pd_I x1, pd_J x2, pd_N, pd_J x4, pd_N, pd_R (-60), pd_R x7, pd_I x8_132, pd_N, pd_N, pd_N, pd_N, pd_N]) ⟨Or.inr rfl, Or.inr rfl, Or.inr rfl, Or.inr rfl, Or.inr rfl, Or.inr rfl, Or.inr rfl, Or.inr rfl, Or.inr rfl, Or.inr rfl, Or.inr rfl, Or.inr rfl, Or.inr rfl, Or.inr rfl, trivial⟩ (hL67 _ _ (by omega) (by omega) _ _ _ _ _ _ _ _ hf)
  · have hf := pd_in_ hf hc
    refine pd_iconst dL_isPaid_130 (by decide) ?_
    obtain ⟨h1, h2, h3⟩ := pd_inj3 hf
    subst h1 h2 h3
    exact pd_zret dL_isPaid_131 rfl (by decide) (by omega) (by omega)
set_option maxHeartbeats 8000000 in
set_option maxRecDepth 100000 in
theorem pkL_isPaid_b125 (E : pd_E) (l : Launch) {Ls : Int} {xs : Int → Int} (hLs : Ls = (E.2.2.2 21 : Nat) ∧ Ls < 2147483648) (hxs : ∀ j : Int, 0 ≤ j → j < Ls → xs j = (Int32.ofNat (E.2.2.2 (22 + j.toNat))).toInt) {n : Nat} {shz : pd_S} {ρ : Int} {Fz : pd_F} {c67 : pd_S → pd_F → Int → Int → Int → Int → Int → Int → Option (Int × pd_S × pd_F)} {B67 D67 : Nat} (hL67 : ∀ (cells slots : Nat) (hc0 : cells + B67 ≤ 9) (hs0 : slots + D67 ≤ pd_U * 9) (sh : pd_S) (F : pd_F) (x0 : Int) (x1 : Int) (x2 : Int) (x4 : Int) (x7 : Int) (x8 : Int), c67 sh F x0 x1 x2 x4 x7 x8 = some (ρ, shz, Fz) → pd_V E l (pd_rm 8 9 (pd_U * 9)) (RL, cL_isPaid, 14, (some .boolean), "isPaid") (pd_Qm E true (some (pd_I ρ)) shz Fz 9 (pd_U * 9)) true cells slots sh F 67 [pd_R x0, pd_I x1, pd_J x2, pd_N, pd_J x4, pd_N, pd_R (-60), pd_R x7, pd_I x8, pd_N, pd_N, pd_N, pd_N, pd_N] []) (cells slots : Nat) (hc0 : cells + 0 + B67 ≤ 9) (hs0 : slots + pd_U * 0 + D67 ≤ pd_U * 9) (sh : pd_S) (F : pd_F) (x0 : Int) (x1 : Int) (x2 : Int) (x4 : Int) (x7 : Int) (x8 : Int) (t0 : Int) (t1 : Int) (t2 : Int) (hf : pfL_isPaid_b125 Ls xs n c67 sh F x0 x1 x2 x4 x7 x8 t0 t1 t2 = some (ρ, shz, Fz)) : pd_V E l (pd_rm 8 9 (pd_U * 9)) (RL, cL_isPaid, 14, (some .boolean), "isPaid") (pd_Qm E true (some (pd_I ρ)) shz Fz 9 (pd_U * 9)) true cells slots sh F 125 [pd_R x0, pd_I x1, pd_J x2, pd_N, pd_J x4, pd_N, pd_R (-60), pd_R x7, pd_I x8, pd_N, pd_N, pd_N, pd_N, pd_N] [pd_J t0, pd_J t1, pd_J t2] := by
  unfold pfL_isPaid_b125 at hf
  have hU : 8 ≤ pd_U := by decide
  refine pd_ladd dL_isPaid_125 ?_
  exact pd_weak (L' := [pd_R x0, pd_I x1, pd_J x2, pd_N, pd_J x4, pd_N, pd_R (-60), pd_R x7, pd_I x8, pd_N, pd_N, pd_N, pd_N, pd_N]) ⟨Or.inr rfl, Or.inr rfl, Or.inr rfl, Or.inr rfl, Or.inr rfl, Or.inr rfl, Or.inr rfl, Or.inr rfl, Or.inr rfl, Or.inr rfl, Or.inr rfl, Or.inr rfl, Or.inr rfl, Or.inr rfl, trivial⟩ (pkL_isPaid_b126 E l hLs hxs hL67 _ _ (by omega) (by omega) _ _ _ _ _ _ _ _ _ _ hf)
set_option maxHeartbeats 8000000 in
set_option maxRecDepth 100000 in
theorem pkL_isPaid_b110 (E : pd_E) (l : Launch) {Ls : Int} {xs : Int → Int} (hLs : Ls = (E.2.2.2 21 : Nat) ∧ Ls < 2147483648) (hxs : ∀ j : Int, 0 ≤ j → j < Ls → xs j = (Int32.ofNat (E.2.2.2 (22 + j.toNat))).toInt) {n : Nat} {shz : pd_S} {ρ : Int} {Fz : pd_F} {c67 : pd_S → pd_F → Int → Int → Int → Int → Int → Int → Option (Int × pd_S × pd_F)} {B67 D67 : Nat} (hL67 : ∀ (cells slots : Nat) (hc0 : cells + B67 ≤ 9) (hs0 : slots + D67 ≤ pd_U * 9) (sh : pd_S) (F : pd_F) (x0 : Int) (x1 : Int) (x2 : Int) (x4 : Int) (x7 : Int) (x8 : Int), c67 sh F x0 x1 x2 x4 x7 x8 = some (ρ, shz, Fz) → pd_V E l (pd_rm 8 9 (pd_U * 9)) (RL, cL_isPaid, 14, (some .boolean), "isPaid") (pd_Qm E true (some (pd_I ρ)) shz Fz 9 (pd_U * 9)) true cells slots sh F 67 [pd_R x0, pd_I x1, pd_J x2, pd_N, pd_J x4, pd_N, pd_R (-60), pd_R x7, pd_I x8, pd_N, pd_N, pd_N, pd_N, pd_N] []) (cells slots : Nat) (hc0 : cells + 0 + B67 ≤ 9) (hs0 : slots + pd_U * 0 + D67 ≤ pd_U * 9) (sh : pd_S) (F : pd_F) (x0 : Int) (x1 : Int) (x2 : Int) (x4 : Int) (x7 : Int) (x8 : Int) (t0 : Int) (t1 : Int) (t2 : Int) (hf : pfL_isPaid_b110 Ls xs n c67 sh F x0 x1 x2 x4 x7 x8 t0 t1 t2 = some (ρ, shz, Fz)) : pd_V E l (pd_rm 8 9 (pd_U * 9)) (RL, cL_isPaid, 14, (some .boolean), "isPaid") (pd_Qm E true (some (pd_I ρ)) shz Fz 9 (pd_U * 9)) true cells slots sh F 110 [pd_R x0, pd_I x1, pd_J x2, pd_N, pd_J x4, pd_N, pd_R (-60), pd_R x7, pd_I x8, pd_N, pd_N, pd_N, pd_N, pd_N] [pd_J t0, pd_J t1, pd_J t2] := by
  unfold pfL_isPaid_b110 at hf
  have hU : 8 ≤ pd_U := by decide
  refine pd_ladd dL_isPaid_110 ?_
  refine pd_iload (i := 8) dL_isPaid_111 rfl ?_
  refine pd_iconst dL_isPaid_113 (by decide) ?_
  refine pd_icmp_le (tgt := 124) dL_isPaid_114 (by decide) (fun hc => ?_) (fun hc => ?_)
  · have hf := pd_ip hf hc
    refine pd_lconst (x := 0) dL_isPaid_124 (by decide) ?_
    exact pd_weak (L' := [pd_R x0, pd_I x1, pd_J x2, pd_N, pd_J x4, pd_N, pd_R (-60), pd_R x7, pd_I x8, pd_N, pd_N, pd_N, pd_N, pd_N]) ⟨Or.inr rfl, Or.inr rfl, Or.inr rfl, Or.inr rfl, Or.inr rfl, Or.inr rfl, Or.inr rfl, Or.inr rfl, Or.inr rfl, Or.inr rfl, Or.inr rfl, Or.inr rfl, Or.inr rfl, Or.inr rfl, trivial⟩ (pkL_isPaid_b125 E l hLs hxs hL67 _ _ (by omega) (by omega) _ _ _ _ _ _ _ _ _ _ _ hf)
  · have hf := pd_in_ hf hc
    refine pd_aload (i := 7) dL_isPaid_117 rfl ?_
    refine pd_iconst dL_isPaid_119 (by decide) ?_
    obtain ⟨hg6, hf⟩ := pd_ig hf
    refine pd_lald dL_isPaid_120 hg6 ?_
    refine pd_goto (tgt := 125) dL_isPaid_121 (by decide) ?_
    exact pd_weak (L' := [pd_R x0, pd_I x1, pd_J x2, pd_N, pd_J x4, pd_N, pd_R (-60), pd_R x7, pd_I x8, pd_N, pd_N, pd_N, pd_N, pd_N]) ⟨Or.inr rfl, Or.inr rfl, Or.inr rfl, Or.inr rfl, Or.inr rfl, Or.inr rfl, Or.inr rfl, Or.inr rfl, Or.inr rfl, Or.inr rfl, Or.inr rfl, Or.inr rfl, Or.inr rfl, Or.inr rfl, trivial⟩ (pkL_isPaid_b125 E l hLs hxs hL67 _ _ (by omega) (by omega) _ _ _ _ _ _ _ _ _ _ _ hf)
set_option maxHeartbeats 8000000 in
set_option maxRecDepth 100000 in
theorem pkL_isPaid_b268 (E : pd_E) (l : Launch) {Ls : Int} {xs : Int → Int} (hLs : Ls = (E.2.2.2 21 : Nat) ∧ Ls < 2147483648) (hxs : ∀ j : Int, 0 ≤ j → j < Ls → xs j = (Int32.ofNat (E.2.2.2 (22 + j.toNat))).toInt) {n : Nat} {shz : pd_S} {ρ : Int} {Fz : pd_F} {c141 : pd_S → pd_F → Int → Int → Int → Int → Int → Int → Option (Int × pd_S × pd_F)} {B141 D141 : Nat} (hL141 : ∀ (cells slots : Nat) (hc0 : cells + B141 ≤ 9) (hs0 : slots + D141 ≤ pd_U * 9) (sh : pd_S) (F : pd_F) (x0 : Int) (x1 : Int) (x2 : Int) (x4 : Int) (x7 : Int) (x8 : Int), c141 sh F x0 x1 x2 x4 x7 x8 = some (ρ, shz, Fz) → pd_V E l (pd_rm 8 9 (pd_U * 9)) (RL, cL_isPaid, 14, (some .boolean), "isPaid") (pd_Qm E true (some (pd_I ρ)) shz Fz 9 (pd_U * 9)) true cells slots sh F 141 [pd_R x0, pd_I x1, pd_J x2, pd_N, pd_J x4, pd_N, pd_R (-60), pd_R x7, pd_I x8, pd_N, pd_N, pd_N, pd_N, pd_N] []) {c209 : pd_S → pd_F → Int → Int → Int → Int → Int → Int → Int → Int → Int → Option (Int × pd_S × pd_F)} {B209 D209 : Nat} (hL209 : ∀ (cells slots : Nat) (hc0 : cells + B209 ≤ 9) (hs0 : slots + D209 ≤ pd_U * 9) (sh : pd_S) (F : pd_F) (x0 : Int) (x1 : Int) (x2 : Int) (x4 : Int) (x7 : Int) (x8 : Int) (x9 : Int) (x10 : Int) (x11 : Int), c209 sh F x0 x1 x2 x4 x7 x8 x9 x10 x11 = some (ρ, shz, Fz) → pd_V E l (pd_rm 8 9 (pd_U * 9)) (RL, cL_isPaid, 14, (some .boolean), "isPaid") (pd_Qm E true (some (pd_I ρ)) shz Fz 9 (pd_U * 9)) true cells slots sh F 209 [pd_R x0, pd_I x1, pd_J x2, pd_N, pd_J x4, pd_N, pd_R (-60), pd_R x7, pd_I x8, pd_I x9, pd_R x10, pd_I x11, pd_N, pd_N] []) (hB209 : B141 ≤ B209) (hD209 : D141 ≤ D209) (cells slots : Nat) (hc0 : cells + 0 + B209 ≤ 9) (hs0 : slots + pd_U * 0 + D209 ≤ pd_U * 9) (sh : pd_S) (F : pd_F) (x0 : Int) (x1 : Int) (x2 : Int) (x4 : Int) (x7 : Int) (x8 : Int) (x9 : Int) (x10 : Int) (x11 : Int) (x12 : Int) (t0 : Int) (t1 : Int) (hf : pfL_isPaid_b268 Ls xs n c141 c209 sh F x0 x1 x2 x4 x7 x8 x9 x10 x11 x12 t0 t1 = some (ρ, shz, Fz)) : pd_V E l (pd_rm 8 9 (pd_U * 9)) (RL, cL_isPaid, 14, (some .boolean), "isPaid") (pd_Qm E true (some (pd_I ρ)) shz Fz 9 (pd_U * 9)) true cells slots sh F 268 [pd_R x0, pd_I x1, pd_J x2, pd_N, pd_J x4, pd_N, pd_R (-60), pd_R x7, pd_I x8, pd_I x9, pd_R x10, pd_I x11, pd_J x12, pd_N] [pd_I t0, pd_R t1] := by
  unfold pfL_isPaid_b268 at hf
  have hU : 8 ≤ pd_U := by decide
  refine pd_dup2 dL_isPaid_268 rfl rfl ?_
  obtain ⟨hg7, hf⟩ := pd_ig hf
  refine pd_lald dL_isPaid_269 hg7 ?_
  refine pd_lload (i := 12) dL_isPaid_270 rfl ?_
  refine pd_ladd dL_isPaid_272 ?_
  refine pd_last dL_isPaid_273 hg7 ?_
  refine pd_topF (fun F8 eF8 => ?_)
  have hf := pd_lt hf eF8
  clear eF8
  refine pd_iincN (L' := fun y => [pd_R x0, pd_I x1, pd_J x2, pd_N, pd_J x4, pd_N, pd_R (-60), pd_R x7, pd_I x8, pd_I x9, pd_R x10, pd_I y, pd_J x12, pd_N]) dL_isPaid_274 rfl (by decide) (by decide) (fun _ => rfl) (fun x11_274 ex11_274 => ?_)
  have hf := pd_lt hf ex11_274
  clear ex11_274
  refine pd_goto (tgt := 209) dL_isPaid_277 (by decide) ?_
  exact pd_weak (L' := [pd_R x0, pd_I x1, pd_J x2, pd_N, pd_J x4, pd_N, pd_R (-60), pd_R x7, pd_I x8, pd_I x9, pd_R x10, pd_I x11_274, pd_N, pd_N]) ⟨Or.inr rfl, Or.inr rfl, Or.inr rfl, Or.inr rfl, Or.inr rfl, Or.inr rfl, Or.inr rfl, Or.inr rfl, Or.inr rfl, Or.inr rfl, Or.inr rfl, Or.inr rfl, Or.inl rfl, Or.inr rfl, trivial⟩ (hL209 _ _ (by omega) (by omega) _ _ _ _ _ _ _ _ _ _ _ hf)
set_option maxHeartbeats 8000000 in
set_option maxRecDepth 100000 in
theorem pkL_isPaid_b342 (E : pd_E) (l : Launch) {Ls : Int} {xs : Int → Int} (hLs : Ls = (E.2.2.2 21 : Nat) ∧ Ls < 2147483648) (hxs : ∀ j : Int, 0 ≤ j → j < Ls → xs j = (Int32.ofNat (E.2.2.2 (22 + j.toNat))).toInt) {n : Nat} {shz : pd_S} {ρ : Int} {Fz : pd_F} {c141 : pd_S → pd_F → Int → Int → Int → Int → Int → Int → Option (Int × pd_S × pd_F)} {B141 D141 : Nat} (hL141 : ∀ (cells slots : Nat) (hc0 : cells + B141 ≤ 9) (hs0 : slots + D141 ≤ pd_U * 9) (sh : pd_S) (F : pd_F) (x0 : Int) (x1 : Int) (x2 : Int) (x4 : Int) (x7 : Int) (x8 : Int), c141 sh F x0 x1 x2 x4 x7 x8 = some (ρ, shz, Fz) → pd_V E l (pd_rm 8 9 (pd_U * 9)) (RL, cL_isPaid, 14, (some .boolean), "isPaid") (pd_Qm E true (some (pd_I ρ)) shz Fz 9 (pd_U * 9)) true cells slots sh F 141 [pd_R x0, pd_I x1, pd_J x2, pd_N, pd_J x4, pd_N, pd_R (-60), pd_R x7, pd_I x8, pd_N, pd_N, pd_N, pd_N, pd_N] []) {c288 : pd_S → pd_F → Int → Int → Int → Int → Int → Int → Int → Int → Int → Option (Int × pd_S × pd_F)} {B288 D288 : Nat} (hL288 : ∀ (cells slots : Nat) (hc0 : cells + B288 ≤ 9) (hs0 : slots + D288 ≤ pd_U * 9) (sh : pd_S) (F : pd_F) (x0 : Int) (x1 : Int) (x2 : Int) (x4 : Int) (x7 : Int) (x8 : Int) (x10 : Int) (x11 : Int) (x13 : Int), c288 sh F x0 x1 x2 x4 x7 x8 x10 x11 x13 = some (ρ, shz, Fz) → pd_V E l (pd_rm 8 9 (pd_U * 9)) (RL, cL_isPaid, 14, (some .boolean), "isPaid") (pd_Qm E true (some (pd_I ρ)) shz Fz 9 (pd_U * 9)) true cells slots sh F 288 [pd_R x0, pd_I x1, pd_J x2, pd_N, pd_J x4, pd_N, pd_R (-60), pd_R x7, pd_I x8, pd_N, pd_R x10, pd_J x11, pd_N, pd_I x13] []) (hB288 : B141 ≤ B288) (hD288 : D141 ≤ D288) (cells slots : Nat) (hc0 : cells + 0 + B288 ≤ 9) (hs0 : slots + pd_U * 0 + D288 ≤ pd_U * 9) (sh : pd_S) (F : pd_F) (x0 : Int) (x1 : Int) (x2 : Int) (x4 : Int) (x7 : Int) (x8 : Int) (x10 : Int) (x11 : Int) (x13 : Int) (hf : pfL_isPaid_b342 Ls xs n c141 c288 sh F x0 x1 x2 x4 x7 x8 x10 x11 x13 = some (ρ, shz, Fz)) : pd_V E l (pd_rm 8 9 (pd_U * 9)) (RL, cL_isPaid, 14, (some .boolean), "isPaid") (pd_Qm E true (some (pd_I ρ)) shz Fz 9 (pd_U * 9)) true cells slots sh F 342 [pd_R x0, pd_I x1, pd_J x2, pd_N, pd_J x4, pd_N, pd_R (-60), pd_R x7, pd_I x8, pd_N, pd_R x10, pd_J x11, pd_N, pd_I x13] [] := by
  unfold pfL_isPaid_b342 at hf
  have hU : 8 ≤ pd_U := by decide
  refine pd_iincN (L' := fun y => [pd_R x0, pd_I x1, pd_J x2, pd_N, pd_J x4, pd_N, pd_R (-60), pd_R x7, pd_I x8, pd_N, pd_R x10, pd_J x11, pd_N, pd_I y]) dL_isPaid_342 rfl (by decide) (by decide) (fun _ => rfl) (fun x13_342 ex13_342 => ?_)
  have hf := pd_lt hf ex13_342
  clear ex13_342
  refine pd_goto (tgt := 288) dL_isPaid_345 (by decide) ?_
  exact pd_weak (L' := [pd_R x0, pd_I x1, pd_J x2, pd_N, pd_J x4, pd_N, pd_R (-60), pd_R x7, pd_I x8, pd_N, pd_R x10, pd_J x11, pd_N, pd_I x13_342]) ⟨Or.inr rfl, Or.inr rfl, Or.inr rfl, Or.inr rfl, Or.inr rfl, Or.inr rfl, Or.inr rfl, Or.inr rfl, Or.inr rfl, Or.inr rfl, Or.inr rfl, Or.inr rfl, Or.inr rfl, Or.inr rfl, trivial⟩ (hL288 _ _ (by omega) (by omega) _ _ _ _ _ _ _ _ _ _ _ hf)
set_option maxHeartbeats 8000000 in
set_option maxRecDepth 100000 in
theorem pkL_isPaid_b348 (E : pd_E) (l : Launch) {Ls : Int} {xs : Int → Int} (hLs : Ls = (E.2.2.2 21 : Nat) ∧ Ls < 2147483648) (hxs : ∀ j : Int, 0 ≤ j → j < Ls → xs j = (Int32.ofNat (E.2.2.2 (22 + j.toNat))).toInt) {n : Nat} {shz : pd_S} {ρ : Int} {Fz : pd_F} {c141 : pd_S → pd_F → Int → Int → Int → Int → Int → Int → Option (Int × pd_S × pd_F)} {B141 D141 : Nat} (hL141 : ∀ (cells slots : Nat) (hc0 : cells + B141 ≤ 9) (hs0 : slots + D141 ≤ pd_U * 9) (sh : pd_S) (F : pd_F) (x0 : Int) (x1 : Int) (x2 : Int) (x4 : Int) (x7 : Int) (x8 : Int), c141 sh F x0 x1 x2 x4 x7 x8 = some (ρ, shz, Fz) → pd_V E l (pd_rm 8 9 (pd_U * 9)) (RL, cL_isPaid, 14, (some .boolean), "isPaid") (pd_Qm E true (some (pd_I ρ)) shz Fz 9 (pd_U * 9)) true cells slots sh F 141 [pd_R x0, pd_I x1, pd_J x2, pd_N, pd_J x4, pd_N, pd_R (-60), pd_R x7, pd_I x8, pd_N, pd_N, pd_N, pd_N, pd_N] []) (cells slots : Nat) (hc0 : cells + 0 + B141 ≤ 9) (hs0 : slots + pd_U * 0 + D141 ≤ pd_U * 9) (sh : pd_S) (F : pd_F) (x0 : Int) (x1 : Int) (x2 : Int) (x4 : Int) (x7 : Int) (x8 : Int) (hf : pfL_isPaid_b348 Ls xs n c141 sh F x0 x1 x2 x4 x7 x8 = some (ρ, shz, Fz)) : pd_V E l (pd_rm 8 9 (pd_U * 9)) (RL, cL_isPaid, 14, (some .boolean), "isPaid") (pd_Qm E true (some (pd_I ρ)) shz Fz 9 (pd_U * 9)) true cells slots sh F 348 [pd_R x0, pd_I x1, pd_J x2, pd_N, pd_J x4, pd_N, pd_R (-60), pd_R x7, pd_I x8, pd_N, pd_N, pd_N, pd_N, pd_N] [] := by
  unfold pfL_isPaid_b348 at hf
  have hU : 8 ≤ pd_U := by decide
  refine pd_iincN (L' := fun y => [pd_R x0, pd_I x1, pd_J x2, pd_N, pd_J x4, pd_N, pd_R (-60), pd_R x7, pd_I y, pd_N, pd_N, pd_N, pd_N, pd_N]) dL_isPaid_348 rfl (by decide) (by decide) (fun _ => rfl) (fun x8_348 ex8_348 => ?_)
  have hf := pd_lt hf ex8_348
  clear ex8_348
  refine pd_goto (tgt := 141) dL_isPaid_351 (by decide) ?_
  exact pd_weak (L' := [pd_R x0, pd_I x1, pd_J x2, pd_N, pd_J x4, pd_N, pd_R (-60), pd_R x7, pd_I x8_348, pd_N, pd_N, pd_N, pd_N, pd_N]) ⟨Or.inr rfl, Or.inr rfl, Or.inr rfl, Or.inr rfl, Or.inr rfl, Or.inr rfl, Or.inr rfl, Or.inr rfl, Or.inr rfl, Or.inr rfl, Or.inr rfl, Or.inr rfl, Or.inr rfl, Or.inr rfl, trivial⟩ (hL141 _ _ (by omega) (by omega) _ _ _ _ _ _ _ _ hf)
set_option maxHeartbeats 8000000 in
set_option maxRecDepth 100000 in
theorem pkL_isPaid_b288 (E : pd_E) (l : Launch) {Ls : Int} {xs : Int → Int} (hLs : Ls = (E.2.2.2 21 : Nat) ∧ Ls < 2147483648) (hxs : ∀ j : Int, 0 ≤ j → j < Ls → xs j = (Int32.ofNat (E.2.2.2 (22 + j.toNat))).toInt) {n : Nat} {shz : pd_S} {ρ : Int} {Fz : pd_F} {c141 : pd_S → pd_F → Int → Int → Int → Int → Int → Int → Option (Int × pd_S × pd_F)} {B141 D141 : Nat} (hL141 : ∀ (cells slots : Nat) (hc0 : cells + B141 ≤ 9) (hs0 : slots + D141 ≤ pd_U * 9) (sh : pd_S) (F : pd_F) (x0 : Int) (x1 : Int) (x2 : Int) (x4 : Int) (x7 : Int) (x8 : Int), c141 sh F x0 x1 x2 x4 x7 x8 = some (ρ, shz, Fz) → pd_V E l (pd_rm 8 9 (pd_U * 9)) (RL, cL_isPaid, 14, (some .boolean), "isPaid") (pd_Qm E true (some (pd_I ρ)) shz Fz 9 (pd_U * 9)) true cells slots sh F 141 [pd_R x0, pd_I x1, pd_J x2, pd_N, pd_J x4, pd_N, pd_R (-60), pd_R x7, pd_I x8, pd_N, pd_N, pd_N, pd_N, pd_N] []) : ∀ (k cells slots : Nat) (hc0 : cells + (k * 0 + 0) + B141 ≤ 9) (hs0 : slots + (pd_U * k * 0 + pd_U * 0) + D141 ≤ pd_U * 9) (sh : pd_S) (F : pd_F) (x0 : Int) (x1 : Int) (x2 : Int) (x4 : Int) (x7 : Int) (x8 : Int) (x10 : Int) (x11 : Int) (x13 : Int), pfL_isPaid_b288 Ls xs n c141 k sh F x0 x1 x2 x4 x7 x8 x10 x11 x13 = some (ρ, shz, Fz) → pd_V E l (pd_rm 8 9 (pd_U * 9)) (RL, cL_isPaid, 14, (some .boolean), "isPaid") (pd_Qm E true (some (pd_I ρ)) shz Fz 9 (pd_U * 9)) true cells slots sh F 288 [pd_R x0, pd_I x1, pd_J x2, pd_N, pd_J x4, pd_N, pd_R (-60), pd_R x7, pd_I x8, pd_N, pd_R x10, pd_J x11, pd_N, pd_I x13] [] := by
  intro k
  induction k with
  | zero => intro cells slots _ _ sh F x0 x1 x2 x4 x7 x8 x10 x11 x13 hf; exact absurd hf (by unfold pfL_isPaid_b288; exact fun h => nomatch h)
  | succ k ih =>
    intro cells slots hc0 hs0 sh F x0 x1 x2 x4 x7 x8 x10 x11 x13 hf
    unfold pfL_isPaid_b288 at hf
    have hU : 8 ≤ pd_U := by decide
    have hUk := Nat.mul_succ pd_U k
    rw [hUk] at hs0
    clear hUk
    refine pd_iload (i := 13) dL_isPaid_288 rfl ?_
    refine pd_iconst dL_isPaid_290 (by decide) ?_
    refine pd_icmp_ge (tgt := 348) dL_isPaid_291 (by decide) (fun hc => ?_) (fun hc => ?_)
    · have hf := pd_ip hf hc
      exact pd_weak (L' := [pd_R x0, pd_I x1, pd_J x2, pd_N, pd_J x4, pd_N, pd_R (-60), pd_R x7, pd_I x8, pd_N, pd_N, pd_N, pd_N, pd_N]) ⟨Or.inr rfl, Or.inr rfl, Or.inr rfl, Or.inr rfl, Or.inr rfl, Or.inr rfl, Or.inr rfl, Or.inr rfl, Or.inr rfl, Or.inr rfl, Or.inl rfl, Or.inl rfl, Or.inr rfl, Or.inl rfl, trivial⟩ (pkL_isPaid_b348 E l hLs hxs hL141 _ _ (by omega) (by omega) _ _ _ _ _ _ _ _ hf)
    · have hf := pd_in_ hf hc
      refine pd_aload (i := 10) dL_isPaid_294 rfl ?_
      refine pd_iload (i := 13) dL_isPaid_296 rfl ?_
      obtain ⟨hg9, hf⟩ := pd_ig hf
      refine pd_lald dL_isPaid_298 hg9 ?_
      refine pd_lload (i := 11) dL_isPaid_299 rfl ?_
      refine pd_aload (i := 7) dL_isPaid_301 rfl ?_
      refine pd_iload (i := 13) dL_isPaid_303 rfl ?_
      obtain ⟨hg10, hf⟩ := pd_ig hf
      refine pd_lald dL_isPaid_305 hg10 ?_
      refine pd_mminJ dL_isPaid_306 pq_993 pq_537 pq_40 pq_538 ⟨by show 1 ≤ 8; omega, by show 64 ≤ 64 * 8; omega, by show _ ≤ 9; omega, by show _ ≤ pd_U * 9; omega⟩ (Nat.le_of_ble_eq_true rfl) ?_
      refine pd_lcmp_eq (tgt := 315) dL_isPaid_309 dL_isPaid_310 (by decide) (fun hc => ?_) (fun hc => ?_)
      · have hf := pd_ip hf hc
        refine pd_lload (i := 11) dL_isPaid_315 rfl ?_
        refine pd_aload (i := 10) dL_isPaid_317 rfl ?_
        refine pd_iload (i := 13) dL_isPaid_319 rfl ?_
        refine pd_lald dL_isPaid_321 hg9 ?_
        refine pd_lsub dL_isPaid_322 ?_
        refine pd_topJ (fun x11_323 ex11_323 => ?_)
        have hf := pd_lt hf ex11_323
        clear ex11_323
        refine pd_lstore (L' := [pd_R x0, pd_I x1, pd_J x2, pd_N, pd_J x4, pd_N, pd_R (-60), pd_R x7, pd_I x8, pd_N, pd_R x10, pd_J x11_323, pd_N, pd_I x13]) dL_isPaid_323 (by decide) rfl ?_
        refine pd_aload (i := 10) dL_isPaid_325 rfl ?_
        refine pd_iload (i := 13) dL_isPaid_327 rfl ?_
        refine pd_lald dL_isPaid_329 hg9 ?_
        refine pd_aload (i := 7) dL_isPaid_330 rfl ?_
        refine pd_iload (i := 13) dL_isPaid_332 rfl ?_
        refine pd_lald dL_isPaid_334 hg10 ?_
        refine pd_lcmp_ge (tgt := 342) dL_isPaid_335 dL_isPaid_336 (by decide) (fun hc => ?_) (fun hc => ?_)
        · have hf := pd_ip hf hc
          exact pd_weak (L' := [pd_R x0, pd_I x1, pd_J x2, pd_N, pd_J x4, pd_N, pd_R (-60), pd_R x7, pd_I x8, pd_N, pd_R x10, pd_J x11_323, pd_N, pd_I x13]) ⟨Or.inr rfl, Or.inr rfl, Or.inr rfl, Or.inr rfl, Or.inr rfl, Or.inr rfl, Or.inr rfl, Or.inr rfl, Or.inr rfl, Or.inr rfl, Or.inr rfl, Or.inr rfl, Or.inr rfl, Or.inr rfl, trivial⟩ (pkL_isPaid_b342 E l hLs hxs hL141 ih (by omega) (by omega) _ _ (by omega) (by omega) _ _ _ _ _ _ _ _ _ _ _ hf)
        · have hf := pd_in_ hf hc
          refine pd_lconst (x := 0) dL_isPaid_339 (by decide) ?_
          refine pd_lstore (L' := [pd_R x0, pd_I x1, pd_J x2, pd_N, pd_J x4, pd_N, pd_R (-60), pd_R x7, pd_I x8, pd_N, pd_R x10, pd_J 0, pd_N, pd_I x13]) dL_isPaid_340 (by decide) rfl ?_
          exact pd_weak (L' := [pd_R x0, pd_I x1, pd_J x2, pd_N, pd_J x4, pd_N, pd_R (-60), pd_R x7, pd_I x8, pd_N, pd_R x10, pd_J 0, pd_N, pd_I x13]) ⟨Or.inr rfl, Or.inr rfl, Or.inr rfl, Or.inr rfl, Or.inr rfl, Or.inr rfl, Or.inr rfl, Or.inr rfl, Or.inr rfl, Or.inr rfl, Or.inr rfl, Or.inr rfl, Or.inr rfl, Or.inr rfl, trivial⟩ (pkL_isPaid_b342 E l hLs hxs hL141 ih (by omega) (by omega) _ _ (by omega) (by omega) _ _ _ _ _ _ _ _ _ _ _ hf)
      · have hf := pd_in_ hf hc
        refine pd_iconst dL_isPaid_313 (by decide) ?_
        obtain ⟨h1, h2, h3⟩ := pd_inj3 hf
        subst h1 h2 h3
        exact pd_zret dL_isPaid_314 rfl (by decide) (by omega) (by omega)
set_option maxHeartbeats 8000000 in
set_option maxRecDepth 100000 in
theorem pkL_isPaid_b280 (E : pd_E) (l : Launch) {Ls : Int} {xs : Int → Int} (hLs : Ls = (E.2.2.2 21 : Nat) ∧ Ls < 2147483648) (hxs : ∀ j : Int, 0 ≤ j → j < Ls → xs j = (Int32.ofNat (E.2.2.2 (22 + j.toNat))).toInt) {n : Nat} {shz : pd_S} {ρ : Int} {Fz : pd_F} {c141 : pd_S → pd_F → Int → Int → Int → Int → Int → Int → Option (Int × pd_S × pd_F)} {B141 D141 : Nat} (hL141 : ∀ (cells slots : Nat) (hc0 : cells + B141 ≤ 9) (hs0 : slots + D141 ≤ pd_U * 9) (sh : pd_S) (F : pd_F) (x0 : Int) (x1 : Int) (x2 : Int) (x4 : Int) (x7 : Int) (x8 : Int), c141 sh F x0 x1 x2 x4 x7 x8 = some (ρ, shz, Fz) → pd_V E l (pd_rm 8 9 (pd_U * 9)) (RL, cL_isPaid, 14, (some .boolean), "isPaid") (pd_Qm E true (some (pd_I ρ)) shz Fz 9 (pd_U * 9)) true cells slots sh F 141 [pd_R x0, pd_I x1, pd_J x2, pd_N, pd_J x4, pd_N, pd_R (-60), pd_R x7, pd_I x8, pd_N, pd_N, pd_N, pd_N, pd_N] []) (cells slots : Nat) (hc0 : cells + 0 + B141 ≤ 9) (hs0 : slots + pd_U * 0 + D141 ≤ pd_U * 9) (sh : pd_S) (F : pd_F) (x0 : Int) (x1 : Int) (x2 : Int) (x4 : Int) (x7 : Int) (x8 : Int) (x9 : Int) (x10 : Int) (hf : pfL_isPaid_b280 Ls xs n c141 sh F x0 x1 x2 x4 x7 x8 x9 x10 = some (ρ, shz, Fz)) : pd_V E l (pd_rm 8 9 (pd_U * 9)) (RL, cL_isPaid, 14, (some .boolean), "isPaid") (pd_Qm E true (some (pd_I ρ)) shz Fz 9 (pd_U * 9)) true cells slots sh F 280 [pd_R x0, pd_I x1, pd_J x2, pd_N, pd_J x4, pd_N, pd_R (-60), pd_R x7, pd_I x8, pd_I x9, pd_R x10, pd_N, pd_N, pd_N] [] := by
  unfold pfL_isPaid_b280 at hf
  have hU : 8 ≤ pd_U := by decide
  refine pd_iload (i := 9) dL_isPaid_280 rfl ?_
  refine pd_i2l dL_isPaid_282 ?_
  refine pd_lstore (L' := [pd_R x0, pd_I x1, pd_J x2, pd_N, pd_J x4, pd_N, pd_R (-60), pd_R x7, pd_I x8, pd_I x9, pd_R x10, pd_J x9, pd_N, pd_N]) dL_isPaid_283 (by decide) rfl ?_
  refine pd_iconst dL_isPaid_285 (by decide) ?_
  refine pd_istore (L' := [pd_R x0, pd_I x1, pd_J x2, pd_N, pd_J x4, pd_N, pd_R (-60), pd_R x7, pd_I x8, pd_I x9, pd_R x10, pd_J x9, pd_N, pd_I 0]) dL_isPaid_286 (by decide) rfl ?_
  exact pd_weak (L' := [pd_R x0, pd_I x1, pd_J x2, pd_N, pd_J x4, pd_N, pd_R (-60), pd_R x7, pd_I x8, pd_N, pd_R x10, pd_J x9, pd_N, pd_I 0]) ⟨Or.inr rfl, Or.inr rfl, Or.inr rfl, Or.inr rfl, Or.inr rfl, Or.inr rfl, Or.inr rfl, Or.inr rfl, Or.inr rfl, Or.inl rfl, Or.inr rfl, Or.inr rfl, Or.inr rfl, Or.inr rfl, trivial⟩ (pkL_isPaid_b288 E l hLs hxs hL141 n _ _ (by omega) (by omega) _ _ _ _ _ _ _ _ _ _ _ hf)
set_option maxHeartbeats 8000000 in
set_option maxRecDepth 100000 in
theorem pkL_isPaid_b209 (E : pd_E) (l : Launch) {Ls : Int} {xs : Int → Int} (hLs : Ls = (E.2.2.2 21 : Nat) ∧ Ls < 2147483648) (hxs : ∀ j : Int, 0 ≤ j → j < Ls → xs j = (Int32.ofNat (E.2.2.2 (22 + j.toNat))).toInt) {n : Nat} {shz : pd_S} {ρ : Int} {Fz : pd_F} {c141 : pd_S → pd_F → Int → Int → Int → Int → Int → Int → Option (Int × pd_S × pd_F)} {B141 D141 : Nat} (hL141 : ∀ (cells slots : Nat) (hc0 : cells + B141 ≤ 9) (hs0 : slots + D141 ≤ pd_U * 9) (sh : pd_S) (F : pd_F) (x0 : Int) (x1 : Int) (x2 : Int) (x4 : Int) (x7 : Int) (x8 : Int), c141 sh F x0 x1 x2 x4 x7 x8 = some (ρ, shz, Fz) → pd_V E l (pd_rm 8 9 (pd_U * 9)) (RL, cL_isPaid, 14, (some .boolean), "isPaid") (pd_Qm E true (some (pd_I ρ)) shz Fz 9 (pd_U * 9)) true cells slots sh F 141 [pd_R x0, pd_I x1, pd_J x2, pd_N, pd_J x4, pd_N, pd_R (-60), pd_R x7, pd_I x8, pd_N, pd_N, pd_N, pd_N, pd_N] []) : ∀ (k cells slots : Nat) (hc0 : cells + (k * 0 + 0) + B141 ≤ 9) (hs0 : slots + (pd_U * k * 0 + pd_U * 0) + D141 ≤ pd_U * 9) (sh : pd_S) (F : pd_F) (x0 : Int) (x1 : Int) (x2 : Int) (x4 : Int) (x7 : Int) (x8 : Int) (x9 : Int) (x10 : Int) (x11 : Int), pfL_isPaid_b209 Ls xs n c141 k sh F x0 x1 x2 x4 x7 x8 x9 x10 x11 = some (ρ, shz, Fz) → pd_V E l (pd_rm 8 9 (pd_U * 9)) (RL, cL_isPaid, 14, (some .boolean), "isPaid") (pd_Qm E true (some (pd_I ρ)) shz Fz 9 (pd_U * 9)) true cells slots sh F 209 [pd_R x0, pd_I x1, pd_J x2, pd_N, pd_J x4, pd_N, pd_R (-60), pd_R x7, pd_I x8, pd_I x9, pd_R x10, pd_I x11, pd_N, pd_N] [] := by
  intro k
  induction k with
  | zero => intro cells slots _ _ sh F x0 x1 x2 x4 x7 x8 x9 x10 x11 hf; exact absurd hf (by unfold pfL_isPaid_b209; exact fun h => nomatch h)
  | succ k ih =>
    intro cells slots hc0 hs0 sh F x0 x1 x2 x4 x7 x8 x9 x10 x11 hf
    unfold pfL_isPaid_b209 at hf
    have hU : 8 ≤ pd_U := by decide
    have hUk := Nat.mul_succ pd_U k
    rw [hUk] at hs0
    clear hUk
    refine pd_iload (i := 11) dL_isPaid_209 rfl ?_
    refine pd_iload_n (i := 1) dL_isPaid_211 rfl rfl ?_
    refine pd_icmp_ge (tgt := 280) dL_isPaid_212 (by decide) (fun hc => ?_) (fun hc => ?_)
    · have hf := pd_ip hf hc
      exact pd_weak (L' := [pd_R x0, pd_I x1, pd_J x2, pd_N, pd_J x4, pd_N, pd_R (-60), pd_R x7, pd_I x8, pd_I x9, pd_R x10, pd_N, pd_N, pd_N]) ⟨Or.inr rfl, Or.inr rfl, Or.inr rfl, Or.inr rfl, Or.inr rfl, Or.inr rfl, Or.inr rfl, Or.inr rfl, Or.inr rfl, Or.inr rfl, Or.inr rfl, Or.inl rfl, Or.inr rfl, Or.inr rfl, trivial⟩ (pkL_isPaid_b280 E l hLs hxs hL141 _ _ (by omega) (by omega) _ _ _ _ _ _ _ _ _ _ hf)
    · have hf := pd_in_ hf hc
      refine pd_aload_n (i := 0) dL_isPaid_215 rfl rfl ?_
      refine pd_iload (i := 9) dL_isPaid_216 rfl ?_
      refine pd_iload (i := 11) dL_isPaid_218 rfl ?_
      obtain ⟨hg12, hf⟩ := pd_ig hf
      obtain ⟨r13, F11, hr, hf⟩ := pd_ob2 hf
      refine pd_callV (pkX11_estate l hr) dL_isPaid_220 pq_994 pq_997 pq_998 (show vwCl[11]? = some (yX11_estate.cls, TX11, 10) from rfl) hg12 (pd_okA (by omega) (by decide) (by omega) (by omega) pq_995 pq_996 (by decide) (show (parseMethodDescriptor yX11_estate.desc).map (fun d => d.parameters.length) = some 2 from by decide +kernel)) (Nat.le_of_ble_eq_true rfl) rfl ?_
      refine pd_lstore (L' := [pd_R x0, pd_I x1, pd_J x2, pd_N, pd_J x4, pd_N, pd_R (-60), pd_R x7, pd_I x8, pd_I x9, pd_R x10, pd_I x11, pd_J r13, pd_N]) dL_isPaid_223 (by decide) rfl ?_
      refine pd_lload (i := 12) dL_isPaid_225 rfl ?_
      refine pd_lconst (x := 0) dL_isPaid_227 (by decide) ?_
      refine pd_lcmp_lt (tgt := 246) dL_isPaid_228 dL_isPaid_229 (by decide) (fun hc => ?_) (fun hc => ?_)
      · have hf := pd_ip hf hc
        refine pd_iconst dL_isPaid_246 (by decide) ?_
        obtain ⟨h1, h2, h3⟩ := pd_inj3 hf
        subst h1 h2 h3
        exact pd_zret dL_isPaid_247 rfl (by decide) (by omega) (by omega)
      · have hf := pd_in_ hf hc
        refine pd_lload (i := 12) dL_isPaid_232 rfl ?_
        refine pd_aload_n (i := 0) dL_isPaid_234 rfl rfl ?_
        refine pd_iload (i := 11) dL_isPaid_235 rfl ?_
        refine pd_bipush dL_isPaid_237 (by decide) ?_
        obtain ⟨r15, F14, hr, hf⟩ := pd_ob2 hf
        refine pd_callV (pkX11_view l hr) dL_isPaid_239 pq_988 pq_991 pq_992 (show vwCl[11]? = some (yX11_view.cls, TX11, 10) from rfl) hg12 (pd_okA (by omega) (by decide) (by omega) (by omega) pq_989 pq_990 (by decide) (show (parseMethodDescriptor yX11_view.desc).map (fun d => d.parameters.length) = some 2 from by decide +kernel)) (Nat.le_of_ble_eq_true rfl) rfl ?_
        refine pd_lcmp_le (tgt := 248) dL_isPaid_242 dL_isPaid_243 (by decide) (fun hc => ?_) (fun hc => ?_)
        · have hf := pd_ip hf hc
          refine pd_aload (i := 10) dL_isPaid_248 rfl ?_
          refine pd_aload_n (i := 0) dL_isPaid_250 rfl rfl ?_
          refine pd_iload (i := 11) dL_isPaid_251 rfl ?_
          refine pd_bipush dL_isPaid_253 (by decide) ?_
          obtain ⟨r17, F16, hr, hf⟩ := pd_ob2 hf
          refine pd_callV (pkX11_view l hr) dL_isPaid_255 pq_988 pq_991 pq_992 (show vwCl[11]? = some (yX11_view.cls, TX11, 10) from rfl) hg12 (pd_okA (by omega) (by decide) (by omega) (by omega) pq_989 pq_990 (by decide) (show (parseMethodDescriptor yX11_view.desc).map (fun d => d.parameters.length) = some 2 from by decide +kernel)) (Nat.le_of_ble_eq_true rfl) rfl ?_
          refine pd_lconst (x := 1) dL_isPaid_258 (by decide) ?_
          refine pd_lcmp_ne (tgt := 267) dL_isPaid_259 dL_isPaid_260 (by decide) (fun hc => ?_) (fun hc => ?_)
          · have hf := pd_ip hf hc
            refine pd_iconst dL_isPaid_267 (by decide) ?_
            exact pd_weak (L' := [pd_R x0, pd_I x1, pd_J x2, pd_N, pd_J x4, pd_N, pd_R (-60), pd_R x7, pd_I x8, pd_I x9, pd_R x10, pd_I x11, pd_J r13, pd_N]) ⟨Or.inr rfl, Or.inr rfl, Or.inr rfl, Or.inr rfl, Or.inr rfl, Or.inr rfl, Or.inr rfl, Or.inr rfl, Or.inr rfl, Or.inr rfl, Or.inr rfl, Or.inr rfl, Or.inr rfl, Or.inr rfl, trivial⟩ (pkL_isPaid_b268 E l hLs hxs hL141 ih (by omega) (by omega) _ _ (by omega) (by omega) _ _ _ _ _ _ _ _ _ _ _ _ _ _ hf)
          · have hf := pd_iq hf hc
            refine pd_iconst dL_isPaid_263 (by decide) ?_
            refine pd_goto (tgt := 268) dL_isPaid_264 (by decide) ?_
            exact pd_weak (L' := [pd_R x0, pd_I x1, pd_J x2, pd_N, pd_J x4, pd_N, pd_R (-60), pd_R x7, pd_I x8, pd_I x9, pd_R x10, pd_I x11, pd_J r13, pd_N]) ⟨Or.inr rfl, Or.inr rfl, Or.inr rfl, Or.inr rfl, Or.inr rfl, Or.inr rfl, Or.inr rfl, Or.inr rfl, Or.inr rfl, Or.inr rfl, Or.inr rfl, Or.inr rfl, Or.inr rfl, Or.inr rfl, trivial⟩ (pkL_isPaid_b268 E l hLs hxs hL141 ih (by omega) (by omega) _ _ (by omega) (by omega) _ _ _ _ _ _ _ _ _ _ _ _ _ _ hf)
        · have hf := pd_in_ hf hc
          refine pd_iconst dL_isPaid_246 (by decide) ?_
          obtain ⟨h1, h2, h3⟩ := pd_inj3 hf
          subst h1 h2 h3
          exact pd_zret dL_isPaid_247 rfl (by decide) (by omega) (by omega)
set_option maxHeartbeats 8000000 in
set_option maxRecDepth 100000 in
theorem pkL_isPaid_b181 (E : pd_E) (l : Launch) {Ls : Int} {xs : Int → Int} (hLs : Ls = (E.2.2.2 21 : Nat) ∧ Ls < 2147483648) (hxs : ∀ j : Int, 0 ≤ j → j < Ls → xs j = (Int32.ofNat (E.2.2.2 (22 + j.toNat))).toInt) {n : Nat} {shz : pd_S} {ρ : Int} {Fz : pd_F} {c141 : pd_S → pd_F → Int → Int → Int → Int → Int → Int → Option (Int × pd_S × pd_F)} {B141 D141 : Nat} (hL141 : ∀ (cells slots : Nat) (hc0 : cells + B141 ≤ 9) (hs0 : slots + D141 ≤ pd_U * 9) (sh : pd_S) (F : pd_F) (x0 : Int) (x1 : Int) (x2 : Int) (x4 : Int) (x7 : Int) (x8 : Int), c141 sh F x0 x1 x2 x4 x7 x8 = some (ρ, shz, Fz) → pd_V E l (pd_rm 8 9 (pd_U * 9)) (RL, cL_isPaid, 14, (some .boolean), "isPaid") (pd_Qm E true (some (pd_I ρ)) shz Fz 9 (pd_U * 9)) true cells slots sh F 141 [pd_R x0, pd_I x1, pd_J x2, pd_N, pd_J x4, pd_N, pd_R (-60), pd_R x7, pd_I x8, pd_N, pd_N, pd_N, pd_N, pd_N] []) (cells slots : Nat) (hc0 : cells + 1 + B141 ≤ 9) (hs0 : slots + pd_U * 1 + D141 ≤ pd_U * 9) (sh : pd_S) (F : pd_F) (x0 : Int) (x1 : Int) (x2 : Int) (x4 : Int) (x7 : Int) (x8 : Int) (t0 : Int) (hf : pfL_isPaid_b181 Ls xs n c141 sh F x0 x1 x2 x4 x7 x8 t0 = some (ρ, shz, Fz)) : pd_V E l (pd_rm 8 9 (pd_U * 9)) (RL, cL_isPaid, 14, (some .boolean), "isPaid") (pd_Qm E true (some (pd_I ρ)) shz Fz 9 (pd_U * 9)) true cells slots sh F 181 [pd_R x0, pd_I x1, pd_J x2, pd_N, pd_J x4, pd_N, pd_R (-60), pd_R x7, pd_I x8, pd_N, pd_N, pd_N, pd_N, pd_N] [pd_I t0] := by
  unfold pfL_isPaid_b181 at hf
  have hU : 8 ≤ pd_U := by decide
  refine pd_istore (L' := [pd_R x0, pd_I x1, pd_J x2, pd_N, pd_J x4, pd_N, pd_R (-60), pd_R x7, pd_I x8, pd_I t0, pd_N, pd_N, pd_N, pd_N]) dL_isPaid_181 (by decide) rfl ?_
  refine pd_iconst dL_isPaid_183 (by decide) ?_
  refine pd_newJ (N := 3) dL_isPaid_184 pq_861 (by decide) (by decide) ⟨by show _ ≤ 9; omega, by show _ ≤ pd_U * 9; omega⟩ ?_
  refine pd_topR (fun o20 eo20 => ?_)
  have hf := pd_lt hf eo20
  refine pd_topF (fun F19 eF19 => ?_)
  have hf := pd_lt hf eF19
  refine pd_topS (fun sh18 esh18 => ?_)
  have hf := pd_lt hf esh18
  clear esh18 eF19 eo20
  refine pd_dup dL_isPaid_186 rfl ?_
  refine pd_iconst dL_isPaid_187 (by decide) ?_
  refine pd_aload_n (i := 0) dL_isPaid_188 rfl rfl ?_
  refine pd_iload (i := 9) dL_isPaid_189 rfl ?_
  refine pd_iconst dL_isPaid_191 (by decide) ?_
  obtain ⟨hg22, hf⟩ := pd_ig hf
  obtain ⟨r23, F21, hr, hf⟩ := pd_ob2 hf
  refine pd_callV (pkX11_estate l hr) dL_isPaid_192 pq_994 pq_997 pq_998 (show vwCl[11]? = some (yX11_estate.cls, TX11, 10) from rfl) hg22 (pd_okA (by omega) (by decide) (by omega) (by omega) pq_995 pq_996 (by decide) (show (parseMethodDescriptor yX11_estate.desc).map (fun d => d.parameters.length) = some 2 from by decide +kernel)) (Nat.le_of_ble_eq_true rfl) rfl ?_
  obtain ⟨hg24, hf⟩ := pd_ig hf
  refine pd_last dL_isPaid_195 hg24 ?_
  refine pd_topF (fun F25 eF25 => ?_)
  have hf := pd_lt hf eF25
  clear eF25
  refine pd_dup dL_isPaid_196 rfl ?_
  refine pd_iconst dL_isPaid_197 (by decide) ?_
  refine pd_lconst (x := 0) dL_isPaid_198 (by decide) ?_
  obtain ⟨hg26, hf⟩ := pd_ig hf
  refine pd_last dL_isPaid_199 hg26 ?_
  refine pd_topF (fun F27 eF27 => ?_)
  have hf := pd_lt hf eF27
  clear eF27
  refine pd_dup dL_isPaid_200 rfl ?_
  refine pd_iconst dL_isPaid_201 (by decide) ?_
  refine pd_lconst (x := 0) dL_isPaid_202 (by decide) ?_
  obtain ⟨hg28, hf⟩ := pd_ig hf
  refine pd_last dL_isPaid_203 hg28 ?_
  refine pd_topF (fun F29 eF29 => ?_)
  have hf := pd_lt hf eF29
  clear eF29
  obtain ⟨hg30, hf⟩ := pd_ig hf
  refine pd_astore (L' := [pd_R x0, pd_I x1, pd_J x2, pd_N, pd_J x4, pd_N, pd_R (-60), pd_R x7, pd_I x8, pd_I t0, pd_R o20, pd_N, pd_N, pd_N]) dL_isPaid_204 (by decide) hg30 rfl ?_
  refine pd_iconst dL_isPaid_206 (by decide) ?_
  refine pd_istore (L' := [pd_R x0, pd_I x1, pd_J x2, pd_N, pd_J x4, pd_N, pd_R (-60), pd_R x7, pd_I x8, pd_I t0, pd_R o20, pd_I 0, pd_N, pd_N]) dL_isPaid_207 (by decide) rfl ?_
  exact pd_weak (L' := [pd_R x0, pd_I x1, pd_J x2, pd_N, pd_J x4, pd_N, pd_R (-60), pd_R x7, pd_I x8, pd_I t0, pd_R o20, pd_I 0, pd_N, pd_N]) ⟨Or.inr rfl, Or.inr rfl, Or.inr rfl, Or.inr rfl, Or.inr rfl, Or.inr rfl, Or.inr rfl, Or.inr rfl, Or.inr rfl, Or.inr rfl, Or.inr rfl, Or.inr rfl, Or.inr rfl, Or.inr rfl, trivial⟩ (pkL_isPaid_b209 E l hLs hxs hL141 n _ _ (by omega) (by omega) _ _ _ _ _ _ _ _ _ _ _ hf)
set_option maxHeartbeats 8000000 in
set_option maxRecDepth 100000 in
theorem pkL_isPaid_b354 (E : pd_E) (l : Launch) {Ls : Int} {xs : Int → Int} (hLs : Ls = (E.2.2.2 21 : Nat) ∧ Ls < 2147483648) (hxs : ∀ j : Int, 0 ≤ j → j < Ls → xs j = (Int32.ofNat (E.2.2.2 (22 + j.toNat))).toInt) {n : Nat} {shz : pd_S} {ρ : Int} {Fz : pd_F}  (cells slots : Nat) (hc0 : cells + 0 ≤ 9) (hs0 : slots + pd_U * 0 ≤ pd_U * 9) (sh : pd_S) (F : pd_F) (x0 : Int) (x1 : Int) (hf : pfL_isPaid_b354 Ls xs n  sh F x0 x1 = some (ρ, shz, Fz)) : pd_V E l (pd_rm 8 9 (pd_U * 9)) (RL, cL_isPaid, 14, (some .boolean), "isPaid") (pd_Qm E true (some (pd_I ρ)) shz Fz 9 (pd_U * 9)) true cells slots sh F 354 [pd_R x0, pd_I x1, pd_N, pd_N, pd_N, pd_N, pd_N, pd_N, pd_N, pd_N, pd_N, pd_N, pd_N, pd_N] [] := by
  unfold pfL_isPaid_b354 at hf
  have hU : 8 ≤ pd_U := by decide
  refine pd_aload_n (i := 0) dL_isPaid_354 rfl rfl ?_
  refine pd_iconst dL_isPaid_355 (by decide) ?_
  refine pd_iconst dL_isPaid_356 (by decide) ?_
  obtain ⟨hg32, hf⟩ := pd_ig hf
  obtain ⟨r33, F31, hr, hf⟩ := pd_ob2 hf
  refine pd_callV (pkX11_estate l hr) dL_isPaid_357 pq_994 pq_997 pq_998 (show vwCl[11]? = some (yX11_estate.cls, TX11, 10) from rfl) hg32 (pd_okA (by omega) (by decide) (by omega) (by omega) pq_995 pq_996 (by decide) (show (parseMethodDescriptor yX11_estate.desc).map (fun d => d.parameters.length) = some 2 from by decide +kernel)) (Nat.le_of_ble_eq_true rfl) rfl ?_
  refine pd_ldc2 (x := (-2)) dL_isPaid_360 pq_999 (by decide +kernel) ?_
  refine pd_lcmp_ne (tgt := 396) dL_isPaid_363 dL_isPaid_364 (by decide) (fun hc => ?_) (fun hc => ?_)
  · have hf := pd_ip hf hc
    refine pd_iconst dL_isPaid_396 (by decide) ?_
    obtain ⟨h1, h2, h3⟩ := pd_inj3 hf
    subst h1 h2 h3
    exact pd_zret dL_isPaid_397 rfl (by decide) (by omega) (by omega)
  · have hf := pd_iq hf hc
    refine pd_aload_n (i := 0) dL_isPaid_367 rfl rfl ?_
    refine pd_iconst dL_isPaid_368 (by decide) ?_
    refine pd_iload_n (i := 1) dL_isPaid_369 rfl rfl ?_
    obtain ⟨r35, F34, hr, hf⟩ := pd_ob2 hf
    refine pd_callV (pkX11_estate l hr) dL_isPaid_370 pq_994 pq_997 pq_998 (show vwCl[11]? = some (yX11_estate.cls, TX11, 10) from rfl) hg32 (pd_okA (by omega) (by decide) (by omega) (by omega) pq_995 pq_996 (by decide) (show (parseMethodDescriptor yX11_estate.desc).map (fun d => d.parameters.length) = some 2 from by decide +kernel)) (Nat.le_of_ble_eq_true rfl) rfl ?_
    refine pd_ldc2 (x := (-2)) dL_isPaid_373 pq_999 (by decide +kernel) ?_
    refine pd_lcmp_ne (tgt := 396) dL_isPaid_376 dL_isPaid_377 (by decide) (fun hc => ?_) (fun hc => ?_)
    · have hf := pd_ip hf hc
      refine pd_iconst dL_isPaid_396 (by decide) ?_
      obtain ⟨h1, h2, h3⟩ := pd_inj3 hf
      subst h1 h2 h3
      exact pd_zret dL_isPaid_397 rfl (by decide) (by omega) (by omega)
    · have hf := pd_iq hf hc
      refine pd_aload_n (i := 0) dL_isPaid_380 rfl rfl ?_
      refine pd_iconst dL_isPaid_381 (by decide) ?_
      obtain ⟨r37, F36, hr, hf⟩ := pd_ob2 hf
      refine pd_callV (pkX11_enough l hr) dL_isPaid_382 pq_1000 pq_1003 pq_1004 (show vwCl[11]? = some (yX11_enough.cls, TX11, 10) from rfl) hg32 (pd_okA (by omega) (by decide) (by omega) (by omega) pq_1001 pq_1002 (by decide) (show (parseMethodDescriptor yX11_enough.desc).map (fun d => d.parameters.length) = some 1 from by decide +kernel)) (Nat.le_of_ble_eq_true rfl) rfl ?_
      refine pd_ldc2 (x := (-1)) dL_isPaid_385 pq_1005 (by decide +kernel) ?_
      refine pd_lcmp_ne (tgt := 396) dL_isPaid_388 dL_isPaid_389 (by decide) (fun hc => ?_) (fun hc => ?_)
      · have hf := pd_ip hf hc
        refine pd_iconst dL_isPaid_396 (by decide) ?_
        obtain ⟨h1, h2, h3⟩ := pd_inj3 hf
        subst h1 h2 h3
        exact pd_zret dL_isPaid_397 rfl (by decide) (by omega) (by omega)
      · have hf := pd_iq hf hc
        refine pd_iconst dL_isPaid_392 (by decide) ?_
        refine pd_goto (tgt := 397) dL_isPaid_393 (by decide) ?_
        obtain ⟨h1, h2, h3⟩ := pd_inj3 hf
        subst h1 h2 h3
        exact pd_zret dL_isPaid_397 rfl (by decide) (by omega) (by omega)
set_option maxHeartbeats 8000000 in
set_option maxRecDepth 100000 in
theorem pkL_isPaid_b141 (E : pd_E) (l : Launch) {Ls : Int} {xs : Int → Int} (hLs : Ls = (E.2.2.2 21 : Nat) ∧ Ls < 2147483648) (hxs : ∀ j : Int, 0 ≤ j → j < Ls → xs j = (Int32.ofNat (E.2.2.2 (22 + j.toNat))).toInt) {n : Nat} {shz : pd_S} {ρ : Int} {Fz : pd_F}  : ∀ (k cells slots : Nat) (hc0 : cells + (k * 1 + 1) ≤ 9) (hs0 : slots + (pd_U * k * 1 + pd_U * 1) ≤ pd_U * 9) (sh : pd_S) (F : pd_F) (x0 : Int) (x1 : Int) (x2 : Int) (x4 : Int) (x7 : Int) (x8 : Int), pfL_isPaid_b141 Ls xs n  k sh F x0 x1 x2 x4 x7 x8 = some (ρ, shz, Fz) → pd_V E l (pd_rm 8 9 (pd_U * 9)) (RL, cL_isPaid, 14, (some .boolean), "isPaid") (pd_Qm E true (some (pd_I ρ)) shz Fz 9 (pd_U * 9)) true cells slots sh F 141 [pd_R x0, pd_I x1, pd_J x2, pd_N, pd_J x4, pd_N, pd_R (-60), pd_R x7, pd_I x8, pd_N, pd_N, pd_N, pd_N, pd_N] [] := by
  intro k
  induction k with
  | zero => intro cells slots _ _ sh F x0 x1 x2 x4 x7 x8 hf; exact absurd hf (by unfold pfL_isPaid_b141; exact fun h => nomatch h)
  | succ k ih =>
    intro cells slots hc0 hs0 sh F x0 x1 x2 x4 x7 x8 hf
    unfold pfL_isPaid_b141 at hf
    have hU : 8 ≤ pd_U := by decide
    have hUk := Nat.mul_succ pd_U k
    rw [hUk] at hs0
    clear hUk
    refine pd_iload (i := 8) dL_isPaid_141 rfl ?_
    refine pd_bipush dL_isPaid_143 (by decide) ?_
    refine pd_icmp_ge (tgt := 354) dL_isPaid_145 (by decide) (fun hc => ?_) (fun hc => ?_)
    · have hf := pd_ip hf hc
      exact pd_weak (L' := [pd_R x0, pd_I x1, pd_N, pd_N, pd_N, pd_N, pd_N, pd_N, pd_N, pd_N, pd_N, pd_N, pd_N, pd_N]) ⟨Or.inr rfl, Or.inr rfl, Or.inl rfl, Or.inr rfl, Or.inl rfl, Or.inr rfl, Or.inl rfl, Or.inl rfl, Or.inl rfl, Or.inr rfl, Or.inr rfl, Or.inr rfl, Or.inr rfl, Or.inr rfl, trivial⟩ (pkL_isPaid_b354 E l hLs hxs _ _ (by omega) (by omega) _ _ _ _ hf)
    · have hf := pd_in_ hf hc
      refine pd_iload (i := 8) dL_isPaid_148 rfl ?_
      refine pd_if_ne (tgt := 157) dL_isPaid_150 (by decide) (fun hc => ?_) (fun hc => ?_)
      · have hf := pd_ip hf hc
        refine pd_aload (i := 6) dL_isPaid_157 rfl ?_
        refine pd_sipush dL_isPaid_159 (by decide) ?_
        refine pd_iload (i := 8) dL_isPaid_162 rfl ?_
        refine pd_iadd dL_isPaid_164 ?_
        obtain ⟨r39, F38, hr, hf⟩ := pd_ob2 hf
        refine pd_callSE (pkL_cell E l hLs hxs hr) dL_isPaid_165 pq_899 pq_902 (pd_okA (by omega) (by decide) (by omega) (by omega) pq_900 pq_901 (by decide) (show (parseMethodDescriptor yL_cell.desc).map (fun d => d.parameters.length) = some 2 from by decide +kernel)) (Nat.le_of_ble_eq_true rfl) rfl ?_
        refine pd_ldc (x := 1048575) dL_isPaid_168 pq_1006 (by decide +kernel) ?_
        refine pd_iand dL_isPaid_170 ?_
        refine pd_lload_n (i := 2) dL_isPaid_171 rfl rfl ?_
        refine pd_lload (i := 4) dL_isPaid_172 rfl ?_
        refine pd_ladd dL_isPaid_174 ?_
        refine pd_ldc2 (x := 100) dL_isPaid_175 pq_1007 (by decide +kernel) ?_
        refine pd_ladd dL_isPaid_178 ?_
        refine pd_l2i dL_isPaid_179 ?_
        obtain ⟨hg40, hf⟩ := pd_ig hf
        refine pd_irem dL_isPaid_180 hg40 ?_
        exact pd_weak (L' := [pd_R x0, pd_I x1, pd_J x2, pd_N, pd_J x4, pd_N, pd_R (-60), pd_R x7, pd_I x8, pd_N, pd_N, pd_N, pd_N, pd_N]) ⟨Or.inr rfl, Or.inr rfl, Or.inr rfl, Or.inr rfl, Or.inr rfl, Or.inr rfl, Or.inr rfl, Or.inr rfl, Or.inr rfl, Or.inr rfl, Or.inr rfl, Or.inr rfl, Or.inr rfl, Or.inr rfl, trivial⟩ (pkL_isPaid_b181 E l hLs hxs ih _ _ (by omega) (by omega) _ _ _ _ _ _ _ _ _ hf)
      · have hf := pd_iq hf hc
        refine pd_iconst dL_isPaid_153 (by decide) ?_
        refine pd_goto (tgt := 181) dL_isPaid_154 (by decide) ?_
        exact pd_weak (L' := [pd_R x0, pd_I x1, pd_J x2, pd_N, pd_J x4, pd_N, pd_R (-60), pd_R x7, pd_I x8, pd_N, pd_N, pd_N, pd_N, pd_N]) ⟨Or.inr rfl, Or.inr rfl, Or.inr rfl, Or.inr rfl, Or.inr rfl, Or.inr rfl, Or.inr rfl, Or.inr rfl, Or.inr rfl, Or.inr rfl, Or.inr rfl, Or.inr rfl, Or.inr rfl, Or.inr rfl, trivial⟩ (pkL_isPaid_b181 E l hLs hxs ih _ _ (by omega) (by omega) _ _ _ _ _ _ _ _ _ hf)
set_option maxHeartbeats 8000000 in
set_option maxRecDepth 100000 in
theorem pkL_isPaid_b138 (E : pd_E) (l : Launch) {Ls : Int} {xs : Int → Int} (hLs : Ls = (E.2.2.2 21 : Nat) ∧ Ls < 2147483648) (hxs : ∀ j : Int, 0 ≤ j → j < Ls → xs j = (Int32.ofNat (E.2.2.2 (22 + j.toNat))).toInt) {n : Nat} {shz : pd_S} {ρ : Int} {Fz : pd_F}  (cells slots : Nat) (hc0 : cells + 8 ≤ 9) (hs0 : slots + pd_U * 8 ≤ pd_U * 9) (sh : pd_S) (F : pd_F) (x0 : Int) (x1 : Int) (x2 : Int) (x4 : Int) (x7 : Int) (hf : pfL_isPaid_b138 Ls xs n  sh F x0 x1 x2 x4 x7 = some (ρ, shz, Fz)) : pd_V E l (pd_rm 8 9 (pd_U * 9)) (RL, cL_isPaid, 14, (some .boolean), "isPaid") (pd_Qm E true (some (pd_I ρ)) shz Fz 9 (pd_U * 9)) true cells slots sh F 138 [pd_R x0, pd_I x1, pd_J x2, pd_N, pd_J x4, pd_N, pd_R (-60), pd_R x7, pd_N, pd_N, pd_N, pd_N, pd_N, pd_N] [] := by
  unfold pfL_isPaid_b138 at hf
  have hU : 8 ≤ pd_U := by decide
  refine pd_iconst dL_isPaid_138 (by decide) ?_
  refine pd_istore (L' := [pd_R x0, pd_I x1, pd_J x2, pd_N, pd_J x4, pd_N, pd_R (-60), pd_R x7, pd_I 0, pd_N, pd_N, pd_N, pd_N, pd_N]) dL_isPaid_139 (by decide) rfl ?_
  exact pd_weak (L' := [pd_R x0, pd_I x1, pd_J x2, pd_N, pd_J x4, pd_N, pd_R (-60), pd_R x7, pd_I 0, pd_N, pd_N, pd_N, pd_N, pd_N]) ⟨Or.inr rfl, Or.inr rfl, Or.inr rfl, Or.inr rfl, Or.inr rfl, Or.inr rfl, Or.inr rfl, Or.inr rfl, Or.inr rfl, Or.inr rfl, Or.inr rfl, Or.inr rfl, Or.inr rfl, Or.inr rfl, trivial⟩ (pkL_isPaid_b141 E l hLs hxs 7 _ _ (by omega) (by omega) _ _ _ _ _ _ _ _ hf)
set_option maxHeartbeats 8000000 in
set_option maxRecDepth 100000 in
theorem pkL_isPaid_b67 (E : pd_E) (l : Launch) {Ls : Int} {xs : Int → Int} (hLs : Ls = (E.2.2.2 21 : Nat) ∧ Ls < 2147483648) (hxs : ∀ j : Int, 0 ≤ j → j < Ls → xs j = (Int32.ofNat (E.2.2.2 (22 + j.toNat))).toInt) {n : Nat} {shz : pd_S} {ρ : Int} {Fz : pd_F}  : ∀ (k cells slots : Nat) (hc0 : cells + (k * 0 + 8) ≤ 9) (hs0 : slots + (pd_U * k * 0 + pd_U * 8) ≤ pd_U * 9) (sh : pd_S) (F : pd_F) (x0 : Int) (x1 : Int) (x2 : Int) (x4 : Int) (x7 : Int) (x8 : Int), pfL_isPaid_b67 Ls xs n  k sh F x0 x1 x2 x4 x7 x8 = some (ρ, shz, Fz) → pd_V E l (pd_rm 8 9 (pd_U * 9)) (RL, cL_isPaid, 14, (some .boolean), "isPaid") (pd_Qm E true (some (pd_I ρ)) shz Fz 9 (pd_U * 9)) true cells slots sh F 67 [pd_R x0, pd_I x1, pd_J x2, pd_N, pd_J x4, pd_N, pd_R (-60), pd_R x7, pd_I x8, pd_N, pd_N, pd_N, pd_N, pd_N] [] := by
  intro k
  induction k with
  | zero => intro cells slots _ _ sh F x0 x1 x2 x4 x7 x8 hf; exact absurd hf (by unfold pfL_isPaid_b67; exact fun h => nomatch h)
  | succ k ih =>
    intro cells slots hc0 hs0 sh F x0 x1 x2 x4 x7 x8 hf
    unfold pfL_isPaid_b67 at hf
    have hU : 8 ≤ pd_U := by decide
    have hUk := Nat.mul_succ pd_U k
    rw [hUk] at hs0
    clear hUk
    refine pd_iload (i := 8) dL_isPaid_67 rfl ?_
    refine pd_iconst dL_isPaid_69 (by decide) ?_
    refine pd_icmp_ge (tgt := 138) dL_isPaid_70 (by decide) (fun hc => ?_) (fun hc => ?_)
    · have hf := pd_ip hf hc
      exact pd_weak (L' := [pd_R x0, pd_I x1, pd_J x2, pd_N, pd_J x4, pd_N, pd_R (-60), pd_R x7, pd_N, pd_N, pd_N, pd_N, pd_N, pd_N]) ⟨Or.inr rfl, Or.inr rfl, Or.inr rfl, Or.inr rfl, Or.inr rfl, Or.inr rfl, Or.inr rfl, Or.inr rfl, Or.inl rfl, Or.inr rfl, Or.inr rfl, Or.inr rfl, Or.inr rfl, Or.inr rfl, trivial⟩ (pkL_isPaid_b138 E l hLs hxs _ _ (by omega) (by omega) _ _ _ _ _ _ _ hf)
    · have hf := pd_in_ hf hc
      refine pd_aload_n (i := 0) dL_isPaid_73 rfl rfl ?_
      refine pd_iload (i := 8) dL_isPaid_74 rfl ?_
      obtain ⟨hg42, hf⟩ := pd_ig hf
      obtain ⟨r43, F41, hr, hf⟩ := pd_ob2 hf
      refine pd_callV (pkX11_enough l hr) dL_isPaid_76 pq_1000 pq_1003 pq_1004 (show vwCl[11]? = some (yX11_enough.cls, TX11, 10) from rfl) hg42 (pd_okA (by omega) (by decide) (by omega) (by omega) pq_1001 pq_1002 (by decide) (show (parseMethodDescriptor yX11_enough.desc).map (fun d => d.parameters.length) = some 1 from by decide +kernel)) (Nat.le_of_ble_eq_true rfl) rfl ?_
      refine pd_aload (i := 7) dL_isPaid_79 rfl ?_
      refine pd_iload (i := 8) dL_isPaid_81 rfl ?_
      obtain ⟨hg44, hf⟩ := pd_ig hf
      refine pd_lald dL_isPaid_83 hg44 ?_
      refine pd_lconst (x := 0) dL_isPaid_84 (by decide) ?_
      refine pd_lcmp_ne (tgt := 93) dL_isPaid_85 dL_isPaid_86 (by decide) (fun hc => ?_) (fun hc => ?_)
      · have hf := pd_ip hf hc
        refine pd_aload (i := 7) dL_isPaid_93 rfl ?_
        refine pd_iconst dL_isPaid_95 (by decide) ?_
        obtain ⟨hg45, hf⟩ := pd_ig hf
        refine pd_lald dL_isPaid_96 hg45 ?_
        refine pd_iload (i := 8) dL_isPaid_97 rfl ?_
        refine pd_if_le (tgt := 109) dL_isPaid_99 (by decide) (fun hc => ?_) (fun hc => ?_)
        · have hf := pd_ip hf hc
          refine pd_lconst (x := 0) dL_isPaid_109 (by decide) ?_
          exact pd_weak (L' := [pd_R x0, pd_I x1, pd_J x2, pd_N, pd_J x4, pd_N, pd_R (-60), pd_R x7, pd_I x8, pd_N, pd_N, pd_N, pd_N, pd_N]) ⟨Or.inr rfl, Or.inr rfl, Or.inr rfl, Or.inr rfl, Or.inr rfl, Or.inr rfl, Or.inr rfl, Or.inr rfl, Or.inr rfl, Or.inr rfl, Or.inr rfl, Or.inr rfl, Or.inr rfl, Or.inr rfl, trivial⟩ (pkL_isPaid_b110 E l hLs hxs ih _ _ (by omega) (by omega) _ _ _ _ _ _ _ _ _ _ _ hf)
        · have hf := pd_in_ hf hc
          refine pd_aload (i := 7) dL_isPaid_102 rfl ?_
          refine pd_iconst dL_isPaid_104 (by decide) ?_
          obtain ⟨hg46, hf⟩ := pd_ig hf
          refine pd_lald dL_isPaid_105 hg46 ?_
          refine pd_goto (tgt := 110) dL_isPaid_106 (by decide) ?_
          exact pd_weak (L' := [pd_R x0, pd_I x1, pd_J x2, pd_N, pd_J x4, pd_N, pd_R (-60), pd_R x7, pd_I x8, pd_N, pd_N, pd_N, pd_N, pd_N]) ⟨Or.inr rfl, Or.inr rfl, Or.inr rfl, Or.inr rfl, Or.inr rfl, Or.inr rfl, Or.inr rfl, Or.inr rfl, Or.inr rfl, Or.inr rfl, Or.inr rfl, Or.inr rfl, Or.inr rfl, Or.inr rfl, trivial⟩ (pkL_isPaid_b110 E l hLs hxs ih _ _ (by omega) (by omega) _ _ _ _ _ _ _ _ _ _ _ hf)
      · have hf := pd_iq hf hc
        refine pd_lconst (x := 0) dL_isPaid_89 (by decide) ?_
        refine pd_goto (tgt := 126) dL_isPaid_90 (by decide) ?_
        exact pd_weak (L' := [pd_R x0, pd_I x1, pd_J x2, pd_N, pd_J x4, pd_N, pd_R (-60), pd_R x7, pd_I x8, pd_N, pd_N, pd_N, pd_N, pd_N]) ⟨Or.inr rfl, Or.inr rfl, Or.inr rfl, Or.inr rfl, Or.inr rfl, Or.inr rfl, Or.inr rfl, Or.inr rfl, Or.inr rfl, Or.inr rfl, Or.inr rfl, Or.inr rfl, Or.inr rfl, Or.inr rfl, trivial⟩ (pkL_isPaid_b126 E l hLs hxs ih _ _ (by omega) (by omega) _ _ _ _ _ _ _ _ _ _ hf)
set_option maxHeartbeats 8000000 in
set_option maxRecDepth 100000 in
theorem pkL_isPaid_b64 (E : pd_E) (l : Launch) {Ls : Int} {xs : Int → Int} (hLs : Ls = (E.2.2.2 21 : Nat) ∧ Ls < 2147483648) (hxs : ∀ j : Int, 0 ≤ j → j < Ls → xs j = (Int32.ofNat (E.2.2.2 (22 + j.toNat))).toInt) {n : Nat} {shz : pd_S} {ρ : Int} {Fz : pd_F}  (cells slots : Nat) (hc0 : cells + 8 ≤ 9) (hs0 : slots + pd_U * 8 ≤ pd_U * 9) (sh : pd_S) (F : pd_F) (x0 : Int) (x1 : Int) (x2 : Int) (x4 : Int) (x7 : Int) (hf : pfL_isPaid_b64 Ls xs n  sh F x0 x1 x2 x4 x7 = some (ρ, shz, Fz)) : pd_V E l (pd_rm 8 9 (pd_U * 9)) (RL, cL_isPaid, 14, (some .boolean), "isPaid") (pd_Qm E true (some (pd_I ρ)) shz Fz 9 (pd_U * 9)) true cells slots sh F 64 [pd_R x0, pd_I x1, pd_J x2, pd_N, pd_J x4, pd_N, pd_R (-60), pd_R x7, pd_N, pd_N, pd_N, pd_N, pd_N, pd_N] [] := by
  unfold pfL_isPaid_b64 at hf
  have hU : 8 ≤ pd_U := by decide
  refine pd_iconst dL_isPaid_64 (by decide) ?_
  refine pd_istore (L' := [pd_R x0, pd_I x1, pd_J x2, pd_N, pd_J x4, pd_N, pd_R (-60), pd_R x7, pd_I 0, pd_N, pd_N, pd_N, pd_N, pd_N]) dL_isPaid_65 (by decide) rfl ?_
  exact pd_weak (L' := [pd_R x0, pd_I x1, pd_J x2, pd_N, pd_J x4, pd_N, pd_R (-60), pd_R x7, pd_I 0, pd_N, pd_N, pd_N, pd_N, pd_N]) ⟨Or.inr rfl, Or.inr rfl, Or.inr rfl, Or.inr rfl, Or.inr rfl, Or.inr rfl, Or.inr rfl, Or.inr rfl, Or.inr rfl, Or.inr rfl, Or.inr rfl, Or.inr rfl, Or.inr rfl, Or.inr rfl, trivial⟩ (pkL_isPaid_b67 E l hLs hxs n _ _ (by omega) (by omega) _ _ _ _ _ _ _ _ hf)
set_option maxHeartbeats 8000000 in
set_option maxRecDepth 100000 in
theorem pkL_isPaid_b20 (E : pd_E) (l : Launch) {Ls : Int} {xs : Int → Int} (hLs : Ls = (E.2.2.2 21 : Nat) ∧ Ls < 2147483648) (hxs : ∀ j : Int, 0 ≤ j → j < Ls → xs j = (Int32.ofNat (E.2.2.2 (22 + j.toNat))).toInt) {n : Nat} {shz : pd_S} {ρ : Int} {Fz : pd_F}  : ∀ (k cells slots : Nat) (hc0 : cells + (k * 0 + 8) ≤ 9) (hs0 : slots + (pd_U * k * 0 + pd_U * 8) ≤ pd_U * 9) (sh : pd_S) (F : pd_F) (x0 : Int) (x1 : Int) (x2 : Int) (x4 : Int) (x7 : Int) (x8 : Int), pfL_isPaid_b20 Ls xs n  k sh F x0 x1 x2 x4 x7 x8 = some (ρ, shz, Fz) → pd_V E l (pd_rm 8 9 (pd_U * 9)) (RL, cL_isPaid, 14, (some .boolean), "isPaid") (pd_Qm E true (some (pd_I ρ)) shz Fz 9 (pd_U * 9)) true cells slots sh F 20 [pd_R x0, pd_I x1, pd_J x2, pd_N, pd_J x4, pd_N, pd_R (-60), pd_R x7, pd_I x8, pd_N, pd_N, pd_N, pd_N, pd_N] [] := by
  intro k
  induction k with
  | zero => intro cells slots _ _ sh F x0 x1 x2 x4 x7 x8 hf; exact absurd hf (by unfold pfL_isPaid_b20; exact fun h => nomatch h)
  | succ k ih =>
    intro cells slots hc0 hs0 sh F x0 x1 x2 x4 x7 x8 hf
    unfold pfL_isPaid_b20 at hf
    have hU : 8 ≤ pd_U := by decide
    have hUk := Nat.mul_succ pd_U k
    rw [hUk] at hs0
    clear hUk
    refine pd_iload (i := 8) dL_isPaid_20 rfl ?_
    refine pd_iload_n (i := 1) dL_isPaid_22 rfl rfl ?_
    refine pd_icmp_ge (tgt := 64) dL_isPaid_23 (by decide) (fun hc => ?_) (fun hc => ?_)
    · have hf := pd_ip hf hc
      exact pd_weak (L' := [pd_R x0, pd_I x1, pd_J x2, pd_N, pd_J x4, pd_N, pd_R (-60), pd_R x7, pd_N, pd_N, pd_N, pd_N, pd_N, pd_N]) ⟨Or.inr rfl, Or.inr rfl, Or.inr rfl, Or.inr rfl, Or.inr rfl, Or.inr rfl, Or.inr rfl, Or.inr rfl, Or.inl rfl, Or.inr rfl, Or.inr rfl, Or.inr rfl, Or.inr rfl, Or.inr rfl, trivial⟩ (pkL_isPaid_b64 E l hLs hxs _ _ (by omega) (by omega) _ _ _ _ _ _ _ hf)
    · have hf := pd_in_ hf hc
      refine pd_aload (i := 7) dL_isPaid_26 rfl ?_
      refine pd_aload_n (i := 0) dL_isPaid_28 rfl rfl ?_
      refine pd_iload (i := 8) dL_isPaid_29 rfl ?_
      refine pd_bipush dL_isPaid_31 (by decide) ?_
      obtain ⟨hg48, hf⟩ := pd_ig hf
      obtain ⟨r49, F47, hr, hf⟩ := pd_ob2 hf
      refine pd_callV (pkX11_view l hr) dL_isPaid_33 pq_988 pq_991 pq_992 (show vwCl[11]? = some (yX11_view.cls, TX11, 10) from rfl) hg48 (pd_okA (by omega) (by decide) (by omega) (by omega) pq_989 pq_990 (by decide) (show (parseMethodDescriptor yX11_view.desc).map (fun d => d.parameters.length) = some 2 from by decide +kernel)) (Nat.le_of_ble_eq_true rfl) rfl ?_
      refine pd_lconst (x := 1) dL_isPaid_36 (by decide) ?_
      refine pd_lcmp_ne (tgt := 45) dL_isPaid_37 dL_isPaid_38 (by decide) (fun hc => ?_) (fun hc => ?_)
      · have hf := pd_ip hf hc
        refine pd_iconst dL_isPaid_45 (by decide) ?_
        exact pd_weak (L' := [pd_R x0, pd_I x1, pd_J x2, pd_N, pd_J x4, pd_N, pd_R (-60), pd_R x7, pd_I x8, pd_N, pd_N, pd_N, pd_N, pd_N]) ⟨Or.inr rfl, Or.inr rfl, Or.inr rfl, Or.inr rfl, Or.inr rfl, Or.inr rfl, Or.inr rfl, Or.inr rfl, Or.inr rfl, Or.inr rfl, Or.inr rfl, Or.inr rfl, Or.inr rfl, Or.inr rfl, trivial⟩ (pkL_isPaid_b46 E l hLs hxs ih _ _ (by omega) (by omega) _ _ _ _ _ _ _ _ _ _ hf)
      · have hf := pd_iq hf hc
        refine pd_iconst dL_isPaid_41 (by decide) ?_
        refine pd_goto (tgt := 46) dL_isPaid_42 (by decide) ?_
        exact pd_weak (L' := [pd_R x0, pd_I x1, pd_J x2, pd_N, pd_J x4, pd_N, pd_R (-60), pd_R x7, pd_I x8, pd_N, pd_N, pd_N, pd_N, pd_N]) ⟨Or.inr rfl, Or.inr rfl, Or.inr rfl, Or.inr rfl, Or.inr rfl, Or.inr rfl, Or.inr rfl, Or.inr rfl, Or.inr rfl, Or.inr rfl, Or.inr rfl, Or.inr rfl, Or.inr rfl, Or.inr rfl, trivial⟩ (pkL_isPaid_b46 E l hLs hxs ih _ _ (by omega) (by omega) _ _ _ _ _ _ _ _ _ _ hf)
set_option maxHeartbeats 8000000 in
set_option maxRecDepth 100000 in
theorem pkL_isPaid (E : pd_E) (l : Launch) {Ls : Int} {xs : Int → Int} (hLs : Ls = (E.2.2.2 21 : Nat) ∧ Ls < 2147483648) (hxs : ∀ j : Int, 0 ≤ j → j < Ls → xs j = (Int32.ofNat (E.2.2.2 (22 + j.toNat))).toInt) {sh : pd_S} {n : Nat} {F : pd_F} {x0 : Int} {x1 : Int} {x2 : Int} {x4 : Int} {ρ : Int} {shz : pd_S} {Fz : pd_F} (hf : pfL_isPaid Ls xs sh n F x0 x1 x2 x4 = some (ρ, shz, Fz)) : pd_CE E l yL_isPaid (Cond.code yL_isPaid cL_isPaid 14 (some .boolean) :: pd_gt) (pd_rm 8 9 (pd_U * 9)) true 9 (pd_U * 9) sh F [pd_R x0, pd_I x1, pd_J x2, pd_J x4, pd_R (-60)] (some (pd_I ρ)) shz Fz := by
  unfold pfL_isPaid at hf
  have hU : 8 ≤ pd_U := by decide
  refine pd_bodyE (L := [pd_R x0, pd_I x1, pd_J x2, pd_N, pd_J x4, pd_N, pd_R (-60), pd_N, pd_N, pd_N, pd_N, pd_N, pd_N, pd_N]) (by decide +kernel) (Nat.le_of_ble_eq_true rfl) rfl ?_
  refine pd_iconst dL_isPaid_0 (by decide) ?_
  refine pd_newJ (N := 3) dL_isPaid_1 pq_861 (by decide) (by decide) ⟨by show _ ≤ 9; omega, by show _ ≤ pd_U * 9; omega⟩ ?_
  refine pd_topR (fun o52 eo52 => ?_)
  have hf := pd_lt hf eo52
  refine pd_topF (fun F51 eF51 => ?_)
  have hf := pd_lt hf eF51
  refine pd_topS (fun sh50 esh50 => ?_)
  have hf := pd_lt hf esh50
  clear esh50 eF51 eo52
  refine pd_dup dL_isPaid_3 rfl ?_
  refine pd_iconst dL_isPaid_4 (by decide) ?_
  refine pd_lload_n (i := 2) dL_isPaid_5 rfl rfl ?_
  obtain ⟨hg53, hf⟩ := pd_ig hf
  refine pd_last dL_isPaid_6 hg53 ?_
  refine pd_topF (fun F54 eF54 => ?_)
  have hf := pd_lt hf eF54
  clear eF54
  refine pd_dup dL_isPaid_7 rfl ?_
  refine pd_iconst dL_isPaid_8 (by decide) ?_
  refine pd_lconst (x := 0) dL_isPaid_9 (by decide) ?_
  obtain ⟨hg55, hf⟩ := pd_ig hf
  refine pd_last dL_isPaid_10 hg55 ?_
  refine pd_topF (fun F56 eF56 => ?_)
  have hf := pd_lt hf eF56
  clear eF56
  refine pd_dup dL_isPaid_11 rfl ?_
  refine pd_iconst dL_isPaid_12 (by decide) ?_
  refine pd_lconst (x := 0) dL_isPaid_13 (by decide) ?_
  obtain ⟨hg57, hf⟩ := pd_ig hf
  refine pd_last dL_isPaid_14 hg57 ?_
  refine pd_topF (fun F58 eF58 => ?_)
  have hf := pd_lt hf eF58
  clear eF58
  obtain ⟨hg59, hf⟩ := pd_ig hf
  refine pd_astore (L' := [pd_R x0, pd_I x1, pd_J x2, pd_N, pd_J x4, pd_N, pd_R (-60), pd_R o52, pd_N, pd_N, pd_N, pd_N, pd_N, pd_N]) dL_isPaid_15 (by decide) hg59 rfl ?_
  refine pd_iconst dL_isPaid_17 (by decide) ?_
  refine pd_istore (L' := [pd_R x0, pd_I x1, pd_J x2, pd_N, pd_J x4, pd_N, pd_R (-60), pd_R o52, pd_I 0, pd_N, pd_N, pd_N, pd_N, pd_N]) dL_isPaid_18 (by decide) rfl ?_
  exact pd_weak (L' := [pd_R x0, pd_I x1, pd_J x2, pd_N, pd_J x4, pd_N, pd_R (-60), pd_R o52, pd_I 0, pd_N, pd_N, pd_N, pd_N, pd_N]) ⟨Or.inr rfl, Or.inr rfl, Or.inr rfl, Or.inr rfl, Or.inr rfl, Or.inr rfl, Or.inr rfl, Or.inr rfl, Or.inr rfl, Or.inr rfl, Or.inr rfl, Or.inr rfl, Or.inr rfl, Or.inr rfl, trivial⟩ (pkL_isPaid_b20 E l hLs hxs n _ _ (by omega) (by omega) _ _ _ _ _ _ _ _ hf)
set_option maxHeartbeats 4000000 in
set_option maxRecDepth 100000 in
theorem pkL_isRanked_b105 (E : pd_E) (l : Launch) {al : Bool} {sh : pd_S} {n : Nat} {ρ : Int} {Fz : pd_F} {c4 : pd_F → Int → Int → Int → Int → Option (Int × pd_F)} (hL4 : ∀ (F : pd_F) (x0 : Int) (x1 : Int) (x2 : Int) (x3 : Int), c4 F x0 x1 x2 x3 = some (ρ, Fz) → pd_V E l (pd_rm 6 0 0) (RL, cL_isRanked, 6, (some .boolean), "isRanked") (pd_Qm E al (some (pd_I ρ)) sh Fz 0 0) al 0 0 sh F 4 [pd_R x0, pd_I x1, pd_I x2, pd_I x3, pd_N, pd_N] []) (F : pd_F) (x0 : Int) (x1 : Int) (x2 : Int) (x3 : Int) (hf : pfL_isRanked_b105 sh n c4 F x0 x1 x2 x3 = some (ρ, Fz)) : pd_V E l (pd_rm 6 0 0) (RL, cL_isRanked, 6, (some .boolean), "isRanked") (pd_Qm E al (some (pd_I ρ)) sh Fz 0 0) al 0 0 sh F 105 [pd_R x0, pd_I x1, pd_I x2, pd_I x3, pd_N, pd_N] [] := by
  unfold pfL_isRanked_b105 at hf
  refine pd_iincN (L' := fun y => [pd_R x0, pd_I x1, pd_I x2, pd_I y, pd_N, pd_N]) dL_isRanked_105 rfl (by decide) (by decide) (fun _ => rfl) (fun x3_105 ex3_105 => ?_)
  have hf := pd_lt hf ex3_105
  clear ex3_105
  refine pd_goto (tgt := 4) dL_isRanked_108 (by decide) ?_
  exact pd_weak (L' := [pd_R x0, pd_I x1, pd_I x2, pd_I x3_105, pd_N, pd_N]) ⟨Or.inr rfl, Or.inr rfl, Or.inr rfl, Or.inr rfl, Or.inr rfl, Or.inr rfl, trivial⟩ (hL4 _ _ _ _ _ hf)
set_option maxHeartbeats 4000000 in
set_option maxRecDepth 100000 in
theorem pkL_isRanked_b111 (E : pd_E) (l : Launch) {al : Bool} {sh : pd_S} {n : Nat} {ρ : Int} {Fz : pd_F}  (F : pd_F) (x0 : Int) (x1 : Int) (hf : pfL_isRanked_b111 sh n  F x0 x1 = some (ρ, Fz)) : pd_V E l (pd_rm 6 0 0) (RL, cL_isRanked, 6, (some .boolean), "isRanked") (pd_Qm E al (some (pd_I ρ)) sh Fz 0 0) al 0 0 sh F 111 [pd_R x0, pd_I x1, pd_N, pd_N, pd_N, pd_N] [] := by
  unfold pfL_isRanked_b111 at hf
  refine pd_aload_n (i := 0) dL_isRanked_111 rfl rfl ?_
  refine pd_iload_n (i := 1) dL_isRanked_112 rfl rfl ?_
  obtain ⟨hg2, hf⟩ := pd_ig hf
  obtain ⟨r3, F1, hr, hf⟩ := pd_ob2 hf
  refine pd_callV (pkX11_ranked l hr) dL_isRanked_113 pq_1008 pq_1011 pq_1012 (show vwCl[11]? = some (yX11_ranked.cls, TX11, 10) from rfl) hg2 (pd_okm (by omega) (by decide) pq_1009 pq_1010 (by decide) (show (parseMethodDescriptor yX11_ranked.desc).map (fun d => d.parameters.length) = some 1 from by decide +kernel)) (Nat.le_of_ble_eq_true rfl) rfl ?_
  refine pd_iconst dL_isRanked_116 (by decide) ?_
  refine pd_icmp_ne (tgt := 124) dL_isRanked_117 (by decide) (fun hc => ?_) (fun hc => ?_)
  · have hf := pd_ip hf hc
    refine pd_iconst dL_isRanked_124 (by decide) ?_
    obtain ⟨h1, h2⟩ := pd_inj hf
    subst h1 h2
    exact pd_zret dL_isRanked_125 rfl (by decide) (Nat.le_refl 0) (Nat.le_refl 0)
  · have hf := pd_iq hf hc
    refine pd_iconst dL_isRanked_120 (by decide) ?_
    refine pd_goto (tgt := 125) dL_isRanked_121 (by decide) ?_
    obtain ⟨h1, h2⟩ := pd_inj hf
    subst h1 h2
    exact pd_zret dL_isRanked_125 rfl (by decide) (Nat.le_refl 0) (Nat.le_refl 0)
set_option maxHeartbeats 4000000 in
set_option maxRecDepth 100000 in
theorem pkL_isRanked_b4 (E : pd_E) (l : Launch) {al : Bool} {sh : pd_S} {n : Nat} {ρ : Int} {Fz : pd_F}  : ∀ (k : Nat) (F : pd_F) (x0 : Int) (x1 : Int) (x2 : Int) (x3 : Int), pfL_isRanked_b4 sh n  k F x0 x1 x2 x3 = some (ρ, Fz) → pd_V E l (pd_rm 6 0 0) (RL, cL_isRanked, 6, (some .boolean), "isRanked") (pd_Qm E al (some (pd_I ρ)) sh Fz 0 0) al 0 0 sh F 4 [pd_R x0, pd_I x1, pd_I x2, pd_I x3, pd_N, pd_N] [] := by
  intro k
  induction k with
  | zero => intro F x0 x1 x2 x3 hf; exact absurd hf (by unfold pfL_isRanked_b4; exact fun h => nomatch h)
  | succ k ih =>
    intro F x0 x1 x2 x3 hf
    unfold pfL_isRanked_b4 at hf
    refine pd_iload_n (i := 3) dL_isRanked_4 rfl rfl ?_
    refine pd_iload_n (i := 1) dL_isRanked_5 rfl rfl ?_
    refine pd_icmp_ge (tgt := 111) dL_isRanked_6 (by decide) (fun hc => ?_) (fun hc => ?_)
    · have hf := pd_ip hf hc
      exact pd_weak (L' := [pd_R x0, pd_I x1, pd_N, pd_N, pd_N, pd_N]) ⟨Or.inr rfl, Or.inr rfl, Or.inl rfl, Or.inl rfl, Or.inr rfl, Or.inr rfl, trivial⟩ (pkL_isRanked_b111 E l _ _ _ hf)
    · have hf := pd_in_ hf hc
      refine pd_aload_n (i := 0) dL_isRanked_9 rfl rfl ?_
      refine pd_iload_n (i := 3) dL_isRanked_10 rfl rfl ?_
      obtain ⟨hg5, hf⟩ := pd_ig hf
      obtain ⟨r6, F4, hr, hf⟩ := pd_ob2 hf
      refine pd_callV (pkX11_ranked l hr) dL_isRanked_11 pq_1008 pq_1011 pq_1012 (show vwCl[11]? = some (yX11_ranked.cls, TX11, 10) from rfl) hg5 (pd_okm (by omega) (by decide) pq_1009 pq_1010 (by decide) (show (parseMethodDescriptor yX11_ranked.desc).map (fun d => d.parameters.length) = some 1 from by decide +kernel)) (Nat.le_of_ble_eq_true rfl) rfl ?_
      refine pd_istore (L' := [pd_R x0, pd_I x1, pd_I x2, pd_I x3, pd_I r6, pd_N]) dL_isRanked_14 (by decide) rfl ?_
      refine pd_iload (i := 4) dL_isRanked_16 rfl ?_
      refine pd_if_lt (tgt := 31) dL_isRanked_18 (by decide) (fun hc => ?_) (fun hc => ?_)
      · have hf := pd_ip hf hc
        refine pd_iconst dL_isRanked_31 (by decide) ?_
        obtain ⟨h1, h2⟩ := pd_inj hf
        subst h1 h2
        exact pd_zret dL_isRanked_32 rfl (by decide) (Nat.le_refl 0) (Nat.le_refl 0)
      · have hf := pd_in_ hf hc
        refine pd_iload_n (i := 2) dL_isRanked_21 rfl rfl ?_
        refine pd_iload (i := 4) dL_isRanked_22 rfl ?_
        refine pd_ishr dL_isRanked_24 ?_
        refine pd_iconst dL_isRanked_25 (by decide) ?_
        refine pd_iand dL_isRanked_26 ?_
        refine pd_iconst dL_isRanked_27 (by decide) ?_
        refine pd_icmp_ne (tgt := 33) dL_isRanked_28 (by decide) (fun hc => ?_) (fun hc => ?_)
        · have hf := pd_ip hf hc
          refine pd_iload_n (i := 2) dL_isRanked_33 rfl rfl ?_
          refine pd_iconst dL_isRanked_34 (by decide) ?_
          refine pd_iload (i := 4) dL_isRanked_35 rfl ?_
          refine pd_ishl dL_isRanked_37 ?_
          refine pd_ior dL_isRanked_38 ?_
          refine pd_topI (fun x2_39 ex2_39 => ?_)
          have hf := pd_lt hf ex2_39
          clear ex2_39
          refine pd_istore_n (L' := [pd_R x0, pd_I x1, pd_I x2_39, pd_I x3, pd_I r6, pd_N]) dL_isRanked_39 rfl (by decide) rfl ?_
          refine pd_iload_n (i := 3) dL_isRanked_40 rfl rfl ?_
          refine pd_if_ne (tgt := 47) dL_isRanked_41 (by decide) (fun hc => ?_) (fun hc => ?_)
          · have hf := pd_ip hf hc
            refine pd_aload_n (i := 0) dL_isRanked_47 rfl rfl ?_
            refine pd_iload_n (i := 3) dL_isRanked_48 rfl rfl ?_
            refine pd_iconst dL_isRanked_49 (by decide) ?_
            refine pd_isub dL_isRanked_50 ?_
            obtain ⟨r8, F7, hr, hf⟩ := pd_ob2 hf
            refine pd_callV (pkX11_ranked l hr) dL_isRanked_51 pq_1008 pq_1011 pq_1012 (show vwCl[11]? = some (yX11_ranked.cls, TX11, 10) from rfl) hg5 (pd_okm (by omega) (by decide) pq_1009 pq_1010 (by decide) (show (parseMethodDescriptor yX11_ranked.desc).map (fun d => d.parameters.length) = some 1 from by decide +kernel)) (Nat.le_of_ble_eq_true rfl) rfl ?_
            refine pd_istore (L' := [pd_R x0, pd_I x1, pd_I x2_39, pd_I x3, pd_I r6, pd_I r8]) dL_isRanked_54 (by decide) rfl ?_
            refine pd_aload_n (i := 0) dL_isRanked_56 rfl rfl ?_
            refine pd_iload (i := 5) dL_isRanked_57 rfl ?_
            refine pd_bipush dL_isRanked_59 (by decide) ?_
            obtain ⟨r10, F9, hr, hf⟩ := pd_ob2 hf
            refine pd_callV (pkX11_view l hr) dL_isRanked_61 pq_988 pq_991 pq_992 (show vwCl[11]? = some (yX11_view.cls, TX11, 10) from rfl) hg5 (pd_okm (by omega) (by decide) pq_989 pq_990 (by decide) (show (parseMethodDescriptor yX11_view.desc).map (fun d => d.parameters.length) = some 2 from by decide +kernel)) (Nat.le_of_ble_eq_true rfl) rfl ?_
            refine pd_aload_n (i := 0) dL_isRanked_64 rfl rfl ?_
            refine pd_iload (i := 4) dL_isRanked_65 rfl ?_
            refine pd_bipush dL_isRanked_67 (by decide) ?_
            obtain ⟨r12, F11, hr, hf⟩ := pd_ob2 hf
            refine pd_callV (pkX11_view l hr) dL_isRanked_69 pq_988 pq_991 pq_992 (show vwCl[11]? = some (yX11_view.cls, TX11, 10) from rfl) hg5 (pd_okm (by omega) (by decide) pq_989 pq_990 (by decide) (show (parseMethodDescriptor yX11_view.desc).map (fun d => d.parameters.length) = some 2 from by decide +kernel)) (Nat.le_of_ble_eq_true rfl) rfl ?_
            refine pd_lcmp_lt (tgt := 103) dL_isRanked_72 dL_isRanked_73 (by decide) (fun hc => ?_) (fun hc => ?_)
            · have hf := pd_ip hf hc
              refine pd_iconst dL_isRanked_103 (by decide) ?_
              obtain ⟨h1, h2⟩ := pd_inj hf
              subst h1 h2
              exact pd_zret dL_isRanked_104 rfl (by decide) (Nat.le_refl 0) (Nat.le_refl 0)
            · have hf := pd_in_ hf hc
              refine pd_aload_n (i := 0) dL_isRanked_76 rfl rfl ?_
              refine pd_iload (i := 5) dL_isRanked_77 rfl ?_
              refine pd_bipush dL_isRanked_79 (by decide) ?_
              obtain ⟨r14, F13, hr, hf⟩ := pd_ob2 hf
              refine pd_callV (pkX11_view l hr) dL_isRanked_81 pq_988 pq_991 pq_992 (show vwCl[11]? = some (yX11_view.cls, TX11, 10) from rfl) hg5 (pd_okm (by omega) (by decide) pq_989 pq_990 (by decide) (show (parseMethodDescriptor yX11_view.desc).map (fun d => d.parameters.length) = some 2 from by decide +kernel)) (Nat.le_of_ble_eq_true rfl) rfl ?_
              refine pd_aload_n (i := 0) dL_isRanked_84 rfl rfl ?_
              refine pd_iload (i := 4) dL_isRanked_85 rfl ?_
              refine pd_bipush dL_isRanked_87 (by decide) ?_
              obtain ⟨r16, F15, hr, hf⟩ := pd_ob2 hf
              refine pd_callV (pkX11_view l hr) dL_isRanked_89 pq_988 pq_991 pq_992 (show vwCl[11]? = some (yX11_view.cls, TX11, 10) from rfl) hg5 (pd_okm (by omega) (by decide) pq_989 pq_990 (by decide) (show (parseMethodDescriptor yX11_view.desc).map (fun d => d.parameters.length) = some 2 from by decide +kernel)) (Nat.le_of_ble_eq_true rfl) rfl ?_
              refine pd_lcmp_ne (tgt := 105) dL_isRanked_92 dL_isRanked_93 (by decide) (fun hc => ?_) (fun hc => ?_)
              · have hf := pd_ip hf hc
                exact pd_weak (L' := [pd_R x0, pd_I x1, pd_I x2_39, pd_I x3, pd_N, pd_N]) ⟨Or.inr rfl, Or.inr rfl, Or.inr rfl, Or.inr rfl, Or.inl rfl, Or.inl rfl, trivial⟩ (pkL_isRanked_b105 E l ih _ _ _ _ _ hf)
              · have hf := pd_iq hf hc
                refine pd_iload (i := 5) dL_isRanked_96 rfl ?_
                refine pd_iload (i := 4) dL_isRanked_98 rfl ?_
                refine pd_icmp_le (tgt := 105) dL_isRanked_100 (by decide) (fun hc => ?_) (fun hc => ?_)
                · have hf := pd_ip hf hc
                  exact pd_weak (L' := [pd_R x0, pd_I x1, pd_I x2_39, pd_I x3, pd_N, pd_N]) ⟨Or.inr rfl, Or.inr rfl, Or.inr rfl, Or.inr rfl, Or.inl rfl, Or.inl rfl, trivial⟩ (pkL_isRanked_b105 E l ih _ _ _ _ _ hf)
                · have hf := pd_in_ hf hc
                  refine pd_iconst dL_isRanked_103 (by decide) ?_
                  obtain ⟨h1, h2⟩ := pd_inj hf
                  subst h1 h2
                  exact pd_zret dL_isRanked_104 rfl (by decide) (Nat.le_refl 0) (Nat.le_refl 0)
          · have hf := pd_iq hf hc
            refine pd_goto (tgt := 105) dL_isRanked_44 (by decide) ?_
            exact pd_weak (L' := [pd_R x0, pd_I x1, pd_I x2_39, pd_I x3, pd_N, pd_N]) ⟨Or.inr rfl, Or.inr rfl, Or.inr rfl, Or.inr rfl, Or.inl rfl, Or.inr rfl, trivial⟩ (pkL_isRanked_b105 E l ih _ _ _ _ _ hf)
        · have hf := pd_iq hf hc
          refine pd_iconst dL_isRanked_31 (by decide) ?_
          obtain ⟨h1, h2⟩ := pd_inj hf
          subst h1 h2
          exact pd_zret dL_isRanked_32 rfl (by decide) (Nat.le_refl 0) (Nat.le_refl 0)
set_option maxHeartbeats 4000000 in
set_option maxRecDepth 100000 in
theorem pkL_isRanked (l : Launch) {al : Bool} {sh : pd_S} {n : Nat} {F : pd_F} {x0 : Int} {x1 : Int} {ρ : Int} {Fz : pd_F} (hf : pfL_isRanked sh n F x0 x1 = some (ρ, Fz)) : pd_C l yL_isRanked (Cond.code yL_isRanked cL_isRanked 6 (some .boolean) :: pd_gt) (pd_rm 6 0 0) al 0 0 sh F [pd_R x0, pd_I x1] (some (pd_I ρ)) sh Fz := by
  unfold pfL_isRanked at hf
  refine pd_body (L := [pd_R x0, pd_I x1, pd_N, pd_N, pd_N, pd_N]) (by decide +kernel) (Nat.le_of_ble_eq_true rfl) rfl (fun E => ?_)
  refine pd_iconst dL_isRanked_0 (by decide) ?_
  refine pd_istore_n (L' := [pd_R x0, pd_I x1, pd_I 0, pd_N, pd_N, pd_N]) dL_isRanked_1 rfl (by decide) rfl ?_
  refine pd_iconst dL_isRanked_2 (by decide) ?_
  refine pd_istore_n (L' := [pd_R x0, pd_I x1, pd_I 0, pd_I 0, pd_N, pd_N]) dL_isRanked_3 rfl (by decide) rfl ?_
  exact pd_weak (L' := [pd_R x0, pd_I x1, pd_I 0, pd_I 0, pd_N, pd_N]) ⟨Or.inr rfl, Or.inr rfl, Or.inr rfl, Or.inr rfl, Or.inr rfl, Or.inr rfl, trivial⟩ (pkL_isRanked_b4 E l n _ _ _ _ _ hf)
