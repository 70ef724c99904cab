/-! new int[n][k] -/
def pd_mz (F : pd_F) (a n : Int) : pd_F := fun b j => if a ≤ b ∧ b ≤ a + n then (if b = a ∧ 0 ≤ j ∧ j < n then a + 1 + j else 0) else F b j
theorem pd_outer (c : ClassId) (N h0 : Nat) : ∀ i : Nat, Jvm.Free.Multi.outerC c N h0 i = arrV c N (fun j => va_rf (if j < i then some (h0 + 1 + j) else none))
  | 0 => by
    show ({ cls := c, slots := Array.replicate N .null, vm := .none } : Cell) = _
    rw [arrV_new]
    congr 1
  | i + 1 => by
    show (Jvm.Free.Multi.outerC c N h0 i).setSlot i (.ref (h0 + 1 + i)) = _
    rw [pd_outer c N h0 i, arrV_store]
    congr 1
    funext q
    by_cases hq : q = i
    · subst hq
      simp [updV, va_rf]
    · have : (q < i + 1) ↔ (q < i) := by omega
      simp [updV, hq, this]
section PDG
variable {E : pd_E} {l : Launch} {R : Room} {own : String} {cc : ByteArray} {nL : Nat} {ret : Option FieldType} {nm : String} {Qf : State → Array Value → List Frame → State → Prop} {al : Bool} {cells slots : Nat} {sh : pd_S} {F : pd_F} {pc : Nat} {L S : List pd_v}

theorem pd_mna {n k0 : Int} {N K index : Nat} (hd : decode cc pc = .ok (.multianewarray index 2, 4)) (w1 : Cond.classLink own index "[[I" ∈ pd_gt) (w2 : Cond.arrayOver (.array .int) ∈ pd_gt) (w3 : Cond.arrayClass .int ∈ pd_gt) (hN : n = N) (hK0 : k0 = K) (hb1 : N < 100000) (hb2 : K < 100000) (hR : cells + (1 + N) ≤ R.cells ∧ slots + (N + N * K) ≤ R.slots)
    (k : pd_V E l R (own, cc, nL, ret, nm) Qf true (cells + 1 + N) (slots + N + N * K) (sh ++ (3, 0, N) :: List.replicate N (0, 0, K)) (pd_mz F (sh.length + 1) N) (pc + 4) L (pd_R (sh.length + 1) :: S)) : pd_V E l R (own, cc, nL, ret, nm) Qf true cells slots sh F pc L (pd_I k0 :: pd_I n :: S) := by
  intro p e s m args below meth c H locs ls st C hW hz hS hl hs
  obtain ⟨_, st1, rfl, ⟨kk, rfl, rfl⟩, hs1⟩ := pd_sv_cons hs
  obtain ⟨_, st2, rfl, ⟨n, rfl, rfl⟩, hs2⟩ := pd_sv_cons hs1
  obtain ⟨ws, tys, hK, hP, hD, hlen, hw⟩ := id hW
  have hz0 := hz rfl
  have hn0 : ¬ n < 0 := by rw [Int32.lt_iff_toInt_lt, hN]; simp
  have hk0 : ¬ kk < 0 := by rw [Int32.lt_iff_toInt_lt, hK0]; simp
  have hNn : n.toNatClampNeg = N := by show n.toInt.toNat = N; rw [hN]; rfl
  have hKn : kk.toNatClampNeg = K := by show kk.toInt.toNat = K; rw [hK0]; rfl
  have hA := pd_hA C
  subst hNn
  subst hKn
  intro T hT Xs
  obtain ⟨vm₁, cA, cy, -, fA, fC, hO, hI, X', step⟩ := Xs.multianewarray2F C.1 C.2.2.2.1 (ty := .int) (C.2.2.2.2.1 _ w1) (C.2.2.2.2.1 _ w2) (C.2.2.2.2.1 _ w3) (g := F0 m pc ls (.int kk :: .int n :: st2)) rfl (by rw [C.2.1]; exact hd) rfl hn0 hk0 (by omega) (by show _ * 4 ≤ _; omega) (by omega) rfl rfl hR.1 hR.2
  generalize hFe : Jvm.Free.Multi.fill (T.setVm vm₁) cA cy n.toNatClampNeg kk.toNatClampNeg (defaultValue .int) n.toNatClampNeg = Fs at X' step
  have hTh : (T.setVm vm₁).heap = H := hT
  obtain ⟨f1, f2, -, -⟩ := Jvm.Free.Multi.fill_facts (T.setVm vm₁) cA cy n.toNatClampNeg kk.toNatClampNeg (defaultValue .int) n.toNatClampNeg
  rw [hFe, hTh] at f1 f2
  have hold : ∀ x : Nat, x < H.size → Fs.heap[x]? = H[x]? := fun x hx => by
    have := Jvm.Free.Multi.fill_old (T.setVm vm₁) cA cy n.toNatClampNeg kk.toNatClampNeg (defaultValue .int) (a := x) (by rw [hTh]; exact hx) n.toNatClampNeg
    rw [hFe, hTh] at this
    exact this
  have hinn : Jvm.Free.Multi.innerC cy kk.toNatClampNeg (defaultValue .int) = vp_cell cy (kk.toNatClampNeg, .inl (fun _ => 0)) := by
    rw [vp_cell_i]
    show ({ cls := cy, slots := Array.replicate kk.toNatClampNeg (.int 0), vm := .none } : Cell) = _
    rw [arrV_new]
  have hrow : ∀ j : Nat, j < n.toNatClampNeg → Fs.heap[H.size + 1 + j]? = some (vp_cell cy (kk.toNatClampNeg, .inl (fun _ => 0))) := fun j hj => by
    have := Jvm.Free.Multi.fill_inner (T.setVm vm₁) cA cy n.toNatClampNeg kk.toNatClampNeg (defaultValue .int) n.toNatClampNeg j hj
    rw [hFe, hTh, hinn] at this
    exact this
  have hout : Jvm.Free.Multi.outerC cA n.toNatClampNeg H.size n.toNatClampNeg = vp_cell cA (n.toNatClampNeg, .inr (.inr (.inr (.inr (fun i => if i < n.toNatClampNeg then some (H.size + 1 + i) else none))))) := by
    rw [vp_cell_q]
    exact pd_outer cA n.toNatClampNeg H.size n.toNatClampNeg
  rw [hout] at f2
  generalize hN' : n.toNatClampNeg = N at *
  generalize hK' : kk.toNatClampNeg = K at *
  have hAr : ArrOfT s cA (.array .int) := fun N9 z9 => by
    obtain ⟨-, k9, hk9, cm9, hkk9⟩ := (hO 0 0 0).1
    exact ⟨(fun q hq => by cases hq), k9, hk9, cm9, hkk9⟩
  have hAi : ArrOfT s cy .int := fun N9 z9 => by
    obtain ⟨-, k9, hk9, cm9, hkk9⟩ := (hI 0 (.int 0)).1
    exact ⟨(fun q hq => by cases hq), k9, hk9, cm9, hkk9⟩
  have hK2 : va_K E.1 vwCl (tys ++ [(cA, .array .int), (cy, .int)]) s := ⟨hK.1, fun k9 x hx => by
    by_cases hl : k9 < tys.length
    · rw [List.getElem?_append_left hl] at hx
      exact hK.2 k9 x hx
    · rw [List.getElem?_append_right (by omega)] at hx
      have h0 : k9 - tys.length < 2 := (List.getElem?_eq_some_iff.mp hx).1
      rcases (show k9 - tys.length = 0 ∨ k9 - tys.length = 1 by omega) with h1 | h1
      · rw [h1] at hx
        cases hx
        exact ⟨hAr, fA⟩
      · rw [h1] at hx
        cases hx
        exact ⟨hAi, fC⟩⟩
  have hP0 : va_P E.1 vwCl ws Fs.heap := hP.kept (fun k9 x hx => hold x.1 ((hP k9 x hx).lt))
  have hP1 : va_P E.1 vwCl (ws ++ [(H.size, .inl (cA, N, .inr (.inr (.inr (.inr (fun i => if i < N then some (H.size + 1 + i) else none))))))]) Fs.heap := hP0.app (fun k9 x hx => by
    have h0 : k9 < 1 := (List.getElem?_eq_some_iff.mp hx).1
    rw [show k9 = 0 by omega] at hx
    cases hx
    exact f2)
  have hP2 : va_P E.1 vwCl ((ws ++ [(H.size, .inl (cA, N, .inr (.inr (.inr (.inr (fun i => if i < N then some (H.size + 1 + i) else none))))))]) ++ (List.range N).map (fun i => (H.size + 1 + i, .inl (cy, K, .inl (fun _ => 0))))) Fs.heap := hP1.app (fun k9 x hx => by
    obtain ⟨i, hi, rfl⟩ := List.mem_map.mp (List.mem_of_getElem? hx)
    exact hrow i (List.mem_range.mp hi))
  have hD1 := hD.push (e := .inl (cA, N, .inr (.inr (.inr (.inr (fun i => if i < N then some (H.size + 1 + i) else none)))))) hP rfl (hA _ hS.1)
  have hD2 : va_D (pd_A E) ((ws ++ [(H.size, .inl (cA, N, .inr (.inr (.inr (.inr (fun i => if i < N then some (H.size + 1 + i) else none))))))]) ++ (List.range N).map (fun i => (H.size + 1 + i, .inl (cy, K, .inl (fun _ => 0))))) := by
    refine va_D.app hD1 ⟨fun i j x y hi hj hxy => ?_, fun k9 x hx => ?_⟩ (fun i j x y hi hj => ?_)
    · rw [List.getElem?_map] at hi hj
      obtain ⟨i', h1, rfl⟩ := Option.map_eq_some_iff.mp hi
      obtain ⟨j', h2, rfl⟩ := Option.map_eq_some_iff.mp hj
      have h3 := (List.getElem?_eq_some_iff.mp h1).2
      have h4 := (List.getElem?_eq_some_iff.mp h2).2
      rw [List.getElem_range] at h3 h4
      have h5 : H.size + 1 + i' = H.size + 1 + j' := hxy
      omega
    · obtain ⟨i, hi, rfl⟩ := List.mem_map.mp (List.mem_of_getElem? hx)
      exact hA _ (by have := hS.1; show s.heap.size ≤ H.size + 1 + i; omega)
    · obtain ⟨j', hj', rfl⟩ := List.mem_map.mp (List.mem_of_getElem? hj)
      have : x.1 ≤ H.size := by
        by_cases hl : i < ws.length
        · rw [List.getElem?_append_left hl] at hi
          exact Nat.le_of_lt ((hP i x hi).lt)
        · rw [List.getElem?_append_right (by omega)] at hi
          have h0 : i - ws.length < 1 := (List.getElem?_eq_some_iff.mp hi).1
          rw [show i - ws.length = 0 by omega] at hi
          cases hi
          exact Nat.le_refl _
      show x.1 ≠ H.size + 1 + j'
      omega
  have hnew : pd_Wd E (sh ++ (3, 0, N) :: List.replicate N (0, 0, K)) (pd_mz F (sh.length + 1) N) s Fs.heap := by
    refine ⟨_, _, hK2, hP2, hD2, by simp [hlen], fun a c' k' n' ha => ?_⟩
    by_cases hal : a < sh.length
    · rw [List.getElem?_append_left hal] at ha
      obtain ⟨e, h2, h3⟩ := hw a c' k' n' ha
      refine ⟨e, by rw [List.getElem?_append_left (by simp; omega), List.getElem?_append_left (by omega)]; exact h2, pd_wr_z (fun t0 q h => ?_) (fun j => ?_) h3⟩
      · rw [List.getElem?_append_left (List.getElem?_eq_some_iff.mp h).1]
        exact h
      · unfold pd_mz
        rw [if_neg (by omega)]
    · rw [List.getElem?_append_right (by omega)] at ha
      obtain ⟨d, hd0⟩ : ∃ d, a = sh.length + d := ⟨a - sh.length, by omega⟩
      subst hd0
      rw [Nat.add_sub_cancel_left] at ha
      cases d with
      | zero =>
        cases ha
        refine ⟨_, by rw [List.getElem?_append_left (by simp; omega), List.getElem?_append_right (by omega), hlen, Nat.add_sub_cancel_left]; exact congrArg some (Prod.ext (by show H.size = _; omega) rfl), ?_⟩
        refine ⟨cA, _, tys.length, rfl, by rw [List.getElem?_append_right (by omega), Nat.sub_self]; rfl, by omega, fun j hj => ?_⟩
        unfold pd_mz
        rw [if_pos (by omega), if_pos (by omega), if_pos (by omega)]
        have e9 : H.size + 1 + j = E.2.1 + ((sh.length : Int) + 1 + 1 + j).toNat := by omega
        show Value.ref (H.size + 1 + j) = _
        unfold pd_rf
        rw [if_neg (by omega), if_neg (by omega), e9]
      | succ d =>
        have h1 : (List.replicate N ((0, 0, K) : Nat × Nat × Nat))[d]? = some (c', k', n') := ha
        have hdN : d < N := by
          have := (List.getElem?_eq_some_iff.mp h1).1
          rwa [List.length_replicate] at this
        rw [List.getElem?_replicate, if_pos hdN] at h1
        cases h1
        refine ⟨_, by rw [List.getElem?_append_right (by simp; omega), List.getElem?_map, List.getElem?_range (by simp; omega), Option.map_some]; exact congrArg some (Prod.ext (by simp; omega) rfl), ?_⟩
        refine ⟨cy, _, tys.length + 1, rfl, by rw [List.getElem?_append_right (by omega), Nat.add_sub_cancel_left]; rfl, by omega, fun j hj => ?_⟩
        unfold pd_mz
        rw [if_pos (by omega), if_neg (by omega)]
        rfl
  obtain ⟨t, a1, b1⟩ := k p e s m args below meth c Fs.heap locs ls (.ref H.size :: st2) C hnew (fun _ => by rw [f1, hz0]; simp; omega) ⟨by rw [f1]; have := hS.1; omega, fun x h1 h2 => (hold x (Nat.lt_of_lt_of_le h1 hS.1)).trans (hS.2.1 x h1 h2), hS.2.2⟩ hl ⟨by
    show _ = pd_rf E _
    unfold pd_rf
    rw [if_neg (by omega), if_neg (by omega), hz0]
    (congr 1) <;> omega, hs2⟩ Fs rfl X'
  refine ⟨t, step t ?_, b1⟩
  have e : T.heap.size = H.size := by rw [hT]
  rw [e]
  exact a1
end PDG
