/-! the law: all together, bits, nobody behind the last -/
section LH
variable {sT : pd_S} {D : pd_F} {s : Int → Int} {F : pd_F} {Ls : Int} {xs : Int → Int}
theorem bits_all {np x : Int} (hn : 3 ≤ np ∧ np ≤ 6) (hx : 0 ≤ x ∧ x < 4096) (h : ∀ p, 0 ≤ p → p < 12 → (tb x p ↔ p < np)) : x = pd_w (pd_shl 1 np - 1) := by
  have key : ∀ m : Nat, m < 7 → (0 ≤ pd_w (pd_shl 1 (m : Int) - 1) ∧ pd_w (pd_shl 1 (m : Int) - 1) < 4096) ∧ ∀ p : Nat, p < 12 → ((pd_w (pd_shl 1 (m : Int) - 1)).toNat.testBit p = true ↔ p < m) := by decide +kernel
  obtain ⟨m, rfl⟩ := Int.eq_ofNat_of_zero_le (show 0 ≤ np by omega)
  obtain ⟨k1, k2⟩ := key m (by omega)
  refine tb_ext hx k1 fun p a b => (h p a b).trans ?_
  have := k2 p.toNat (by omega)
  unfold tb
  rw [this]
  omega
/-- on to what the estate pays -/
theorem l_535 (h : cS D s F) (hn : 3 ≤ D 369 0 ∧ D 369 0 ≤ 6) {o x6 : Int} (so : pd_sh (pd_SH sT) o = some (1, 0, 4)) (hr : F o 0 = Sm (sHas D s) (sD D s) ∧ F o 1 = Sm (cSo D s) (sD D s) ∧ F o 2 = Sm (fun d => cPd D s d (s 72)) (sD D s) ∧ F o 3 = Sm (cCl D s) (sD D s)) (hx : 0 ≤ x6 ∧ x6 < 4096) (hb : ∀ p, 0 ≤ p → p < 12 → (tb x6 p ↔ p < D 369 0)) :
    pfL_law_b535 Ls xs 5000 (pd_SH sT) F 1 (sD D s) o x6 = Option.bind (pfL_isPaid Ls xs (pd_SH sT) 5000 F 1 (sD D s) (F o 2) (F o 3)) fun qr89 => pd_l qr89.1 fun r89 => pd_l qr89.2.1 fun sh88 => pd_l qr89.2.2 fun F87 => if r89 = 0 then some 0 else Option.bind (pfL_isRanked sh88 5000 F87 1 (sD D s)) fun qr91 => pd_l qr91.1 fun r91 => pd_l qr91.2 fun F90 => if r91 = 0 then some 0 else some 1 := by
  have al : ∀ w, pfX11_all (pd_SH sT) 5000 F 1 w = some (aAll D s w, F) := fun w => p_all h
  have eA : ∀ j, 0 ≤ j → j < 4 → aAll D s j = F o j := fun j a b => by
    have c : j = 0 ∨ j = 1 ∨ j = 2 ∨ j = 3 := by omega
    unfold aAll
    rw [if_pos (by omega), if_neg (by omega), if_neg (by omega)]
    rcases c with rfl | rfl | rfl | rfl
    · rw [hr.1]; exact Sm_congr fun d _ _ => rfl
    · rw [hr.2.1]; exact Sm_congr fun d _ _ => rfl
    · rw [hr.2.2.1]; exact Sm_congr fun d _ _ => rfl
    · rw [hr.2.2.2]; exact Sm_congr fun d _ _ => rfl
  have cnt : pfX11_count (pd_SH sT) 5000 F 1 0 = some (D 369 0, F) := p_count h
  have vv : pfX11_view (pd_SH sT) 5000 F 1 (sD D s) 0 = some (-1, F) := by
    rw [p_view h]
    unfold aView
    rw [if_neg (by omega)]
  have ww : pfX11_who (pd_SH sT) 5000 F 1 (-1) = some (-1, F) := by
    obtain ⟨v, w1, w2⟩ := p_who (sT := sT) h (d := -1)
    rcases w2 with ⟨-, z⟩ | ⟨z, -⟩
    · rw [w1, z]
    · omega
  have st : ∀ (k : Nat) (x7 : Int), 0 ≤ x7 → x7 < 4 → pfL_law_b538 Ls xs 5000 (k + 1) (pd_SH sT) F 1 (sD D s) o x6 x7 = pfL_law_b538 Ls xs 5000 k (pd_SH sT) F 1 (sD D s) o x6 (x7 + 1) := fun k x7 a b => by
    rw [pfL_law_b538, if_neg (by omega)]
    simp only [gx_1, pl_iT, al, pl_b, pl_l, pl_ib so]
    rw [pl_i (by omega), if_pos (eA x7 a b), pl_w (by omega)]
  unfold pfL_law_b535
  rw [show (5000 : Nat) = 4995 + 1 + 1 + 1 + 1 + 1 from rfl]
  rw [show pfL_law_b538 Ls xs (4995 + 1 + 1 + 1 + 1 + 1) (4995 + 1 + 1 + 1 + 1 + 1) (pd_SH sT) F 1 (sD D s) o x6 0 = pfL_law_b567 Ls xs 5000 (pd_SH sT) F 1 (sD D s) o x6 from (st (4995 + 1 + 1 + 1 + 1) 0 (by decide) (by decide)).trans ((st (4995 + 1 + 1 + 1) (0 + 1) (by decide) (by decide)).trans ((st (4995 + 1 + 1) (0 + 1 + 1) (by decide) (by decide)).trans ((st (4995 + 1) (0 + 1 + 1 + 1) (by decide) (by decide)).trans (by rw [pfL_law_b538, if_pos (by decide)]))))]
  unfold pfL_law_b567
  simp only [gx_1, pl_iT, cnt, pl_b, pl_l, vv, ww, pl_ib so]
  rw [if_neg (fun z => z (bits_all hn hx hb)), if_neg (fun z => z rfl)]
  simp only [pl_t]
  rw [pl_i (by decide), pl_i (by decide)]
end LH
