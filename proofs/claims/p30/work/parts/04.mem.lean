/-! reads and writes of the flat memory -/
theorem pd_wr_up {E : pd_E} {tys : List (ClassId × FieldType)} {F : pd_F} {a b i x : Int} {c k n : Nat} {e : va_E} (h : b ≠ a) (hw : pd_wr E tys F b c k n e) : pd_wr E tys (pd_up F a i x) b c k n e := by
  unfold pd_wr at hw ⊢
  split at hw
  · obtain ⟨cA, f, t0, h1, h2, h3, h4⟩ := hw
    exact ⟨cA, f, t0, h1, h2, h3, fun j hj => by rw [pd_up_a h]; exact h4 j hj⟩
  · obtain ⟨cA, f, t0, h1, h2, h3, h4⟩ := hw
    exact ⟨cA, f, t0, h1, h2, h3, fun j hj => by rw [pd_up_a h]; exact h4 j hj⟩
  · obtain ⟨cA, f, t0, r, h0, h1, h2, h3, h4⟩ := hw
    exact ⟨cA, f, t0, r, h0, h1, h2, h3, fun j hj => by rw [pd_up_a h]; exact h4 j hj⟩
  · obtain ⟨cA, f, t0, h1, h2, h3, h4⟩ := hw
    exact ⟨cA, f, t0, h1, h2, h3, fun j hj => by rw [pd_up_a h]; exact h4 j hj⟩
  · obtain ⟨fs, r, h1, h2, h3, h4⟩ := hw
    exact ⟨fs, r, h1, h2, h3, fun j hj => by rw [pd_up_a h]; exact h4 j hj⟩
theorem pd_Wd_set {E : pd_E} {sh : pd_S} {F : pd_F} {s : State} {H1 : Heap} {ws : va_W} {tys : List (ClassId × FieldType)} {a i x : Int} {c k n : Nat} {e1 : va_E} (hK : va_K E.1 vwCl tys s) (hlen : ws.length = sh.length)
    (hw : ∀ a c k n, sh[a]? = some (c, k, n) → ∃ e, ws[a]? = some (E.2.1 + (a + 1), e) ∧ pd_wr E tys F ((a + 1 : Nat) : Int) c k n e) (h1 : 1 ≤ a) (hs : sh[(a - 1).toNat]? = some (c, k, n)) (hn : pd_wr E tys (pd_up F a i x) a c k n e1)
    (hP : va_P E.1 vwCl (ws.set (a - 1).toNat (E.2.1 + a.toNat, e1)) H1) (hD : va_D (pd_A E) (ws.set (a - 1).toNat (E.2.1 + a.toNat, e1))) : pd_Wd E sh (pd_up F a i x) s H1 := by
  refine ⟨_, tys, hK, hP, hD, by rw [List.length_set]; exact hlen, fun b c' k' n' hb => ?_⟩
  obtain ⟨e, h2, h3⟩ := hw b c' k' n' hb
  by_cases hba : b = (a - 1).toNat
  · subst hba
    have h4 : (a - 1).toNat + 1 = a.toNat := by omega
    have h5 : ((a.toNat : Nat) : Int) = a := by omega
    rw [hs] at hb
    cases hb
    refine ⟨e1, ?_, ?_⟩
    · rw [List.getElem?_set_self (by rw [hlen]; exact (List.getElem?_eq_some_iff.mp hs).1), h4]
    · rw [h4, h5]
      exact hn
  · refine ⟨e, ?_, pd_wr_up (by omega) h3⟩
    rw [List.getElem?_set_ne (fun h => hba h.symm)]
    exact h2
theorem pd_idx {i : Int32} {n : Nat} (h0 : 0 ≤ i.toInt) (h1 : i.toInt < n) : vp_in i n ∧ i.toNatClampNeg < n ∧ ((i.toNatClampNeg : Nat) : Int) = i.toInt := by
  refine ⟨vp_in_iff.mpr ⟨h0, h1⟩, ?_, ?_⟩
  · show i.toInt.toNat < n
    omega
  · show ((i.toInt.toNat : Nat) : Int) = i.toInt
    omega
theorem pd_tag_get {E : pd_E} {sh : pd_S} {F : pd_F} {ws : va_W} {tys : List (ClassId × FieldType)} {a : Int} {ci k0 : Nat} {r : vw_C} (hc : vwCl[ci]? = some r) (hk : k0 < r.2.2) (ho : pd_ob sh ci a = true)
    (hw : ∀ a c k n, sh[a]? = some (c, k, n) → ∃ e, ws[a]? = some (E.2.1 + (a + 1), e) ∧ pd_wr E tys F ((a + 1 : Nat) : Int) c k n e) :
    1 ≤ a ∧ (∃ n, sh[(a - 1).toNat]? = some (4, ci, n)) ∧ pd_rf E a = .ref (E.2.1 + a.toNat) ∧ ∃ fs v, ws[(a - 1).toNat]? = some (E.2.1 + a.toNat, .inr (ci, fs)) ∧ fs.length = r.2.2 ∧ fs[k0]? = some v ∧ pd_rv E v (pd_tag (pd_ty ci k0) (F a k0)) ∧ ∀ j, j < r.2.2 → ∃ v, fs[j]? = some v ∧ pd_rv E v (pd_tag (pd_ty ci j) (F a j)) := by
  obtain ⟨n, hs⟩ := pd_ob_spec ho
  obtain ⟨h1, h2, e, h3, h4, fs, r', rfl, h5, h6, h7⟩ := pd_sh_at hs hw
  cases hc.symm.trans h5
  obtain ⟨v, h8, h9⟩ := h7 k0 hk
  exact ⟨h1, ⟨n, h2⟩, h4, fs, v, h3, h6, h8, h9, h7⟩
section PDM
variable {E : pd_E} {l : Launch} {R : Room} {own : String} {cc : ByteArray} {nL : Nat} {ret : Option FieldType} {nm : String} {Qf : State → Array Value → List Frame → State → Prop} {al : Bool} {cells slots : Nat} {sh : pd_S} {F : pd_F} {pc : Nat} {L S : List pd_v}

theorem pd_dummy_m : True := trivial
end PDM
theorem pd_nar_b (x : Int32) : (vp_nar .byte x).toInt = pd_b x.toInt := by
  have h : vp_nar .byte x = x.toInt8.toInt32 := by first | rfl | simp [vp_nar, narrow]
  rw [h, Int8.toInt_toInt32, Int32.toInt_toInt8, pd_b_eq]
theorem pd_01 {x : Int32} (h : x.toInt = 0 ∨ x.toInt = 1) : x = 0 ∨ x = 1 := by
  rcases h with h | h
  · exact Or.inl (Int32.toInt_inj.mp (by rw [h]; rfl))
  · exact Or.inr (Int32.toInt_inj.mp (by rw [h]; rfl))
theorem pd_nar_z {x : Int32} (h : x.toInt = 0 ∨ x.toInt = 1) : (vp_nar .boolean x).toInt = x.toInt := by
  rcases pd_01 h with rfl | rfl
  · first | rfl | decide
  · first | rfl | decide
theorem pd_nrI {E : pd_E} {x : Int} : ∀ v, pd_rv E v (pd_I x) → narrow .int v = v := by
  rintro v ⟨y, rfl, -⟩
  rfl
theorem pd_ftI {E : pd_E} {x : Int} : ∀ v, pd_rv E v (pd_I x) → fits .int v = true := by
  rintro v ⟨y, rfl, -⟩
  rfl
theorem pd_nrZ {E : pd_E} {x : Int} (h : x = 0 ∨ x = 1) : ∀ v, pd_rv E v (pd_I x) → narrow .boolean v = v := by
  rintro v ⟨y, rfl, rfl⟩
  rcases pd_01 h with rfl | rfl <;> first | rfl | decide
theorem pd_ftZ {E : pd_E} {x : Int} (h : x = 0 ∨ x = 1) : ∀ v, pd_rv E v (pd_I x) → fits .boolean v = true := by
  rintro v ⟨y, rfl, rfl⟩
  rcases pd_01 h with rfl | rfl <;> first | rfl | decide
theorem pd_nrJ {E : pd_E} {x : Int} : ∀ v, pd_rv E v (pd_J x) → narrow .long v = v := by
  rintro v ⟨y, rfl, -⟩
  rfl
theorem pd_ftJ {E : pd_E} {x : Int} : ∀ v, pd_rv E v (pd_J x) → fits .long v = true := by
  rintro v ⟨y, rfl, -⟩
  rfl
theorem pd_rf_or (E : pd_E) (a : Int) : pd_rf E a = .null ∨ ∃ q, pd_rf E a = .ref q := by
  by_cases h : a = 0
  · exact Or.inl (by simp [pd_rf, h])
  · unfold pd_rf
    rw [if_neg h]
    split
    · exact Or.inr ⟨_, rfl⟩
    · exact Or.inr ⟨_, rfl⟩
theorem pd_nrR {E : pd_E} {x : Int} {ty : FieldType} (h : (∃ n, ty = .object n) ∨ ∃ t, ty = .array t) : ∀ v, pd_rv E v (pd_R x) → narrow ty v = v := by
  intro v hv
  rw [show v = pd_rf E x from hv]
  rcases pd_rf_or E x with h1 | ⟨q, h1⟩ <;> rw [h1] <;> rcases h with ⟨n, rfl⟩ | ⟨t, rfl⟩ <;> rfl
theorem pd_ftR {E : pd_E} {x : Int} {ty : FieldType} (h : (∃ n, ty = .object n) ∨ ∃ t, ty = .array t) : ∀ v, pd_rv E v (pd_R x) → fits ty v = true := by
  intro v hv
  rw [show v = pd_rf E x from hv]
  rcases pd_rf_or E x with h1 | ⟨q, h1⟩ <;> rw [h1] <;> rcases h with ⟨n, rfl⟩ | ⟨t, rfl⟩ <;> rfl
section PDM
variable {E : pd_E} {l : Launch} {R : Room} {own : String} {cc : ByteArray} {nL : Nat} {ret : Option FieldType} {nm : String} {Qf : State → Array Value → List Frame → State → Prop} {al : Bool} {cells slots : Nat} {sh : pd_S} {F : pd_F} {pc : Nat} {L S : List pd_v}

theorem pd_get {C : String} {T : u_T} {N ci index : Nat} {a : Int} {x : pd_v} (k0 : Nat) (hd : decode cc pc = .ok (.getfield index, 3)) (hc : vwCl[ci]? = some (C, T, N)) (hin : ∀ w ∈ u_ws C T N, w ∈ pd_gt) (hk0 : k0 < N) (hlink : Cond.fieldLink own index (T k0).1 (T k0).2.1 (T k0).2.2.1 ∈ pd_gt) (ho : pd_ob sh ci a = true) (hx : pd_tag (pd_ty ci k0) (F a k0) = x) (k : pd_V E l R (own, cc, nL, ret, nm) Qf al cells slots sh F (pc + 3) L (x :: S)) : pd_V E l R (own, cc, nL, ret, nm) Qf al cells slots sh F pc L (pd_R a :: S) := by
  intro p e s m args below meth c H locs ls st C hW hz hS hl hs
  obtain ⟨_, st1, rfl, h0, hs1⟩ := pd_sv_cons hs
  obtain ⟨ws, tys, hK, hP, hD, hlen, hw⟩ := id hW
  obtain ⟨h1, -, h2, fs, v, h3, h4, h5, h6, -⟩ := pd_tag_get hc hk0 ho hw
  obtain rfl := (show _ = pd_rf E a from h0).trans h2
  exact va_get C.1 C.2.1 (fun w hw => C.2.2.2.2.1 w hw) hin C.2.2.2.1 hK hP _ h3 hc k0 hk0 (C.2.2.2.2.1 _ hlink) (fun _ h => h) h5 hd (k _ _ _ _ _ _ _ _ _ _ _ _ C hW hz hS hl ⟨hx ▸ h6, hs1⟩)

theorem pd_getN {host : String} {C : String} {T : u_T} {N ci index : Nat} {a : Int} {x : pd_v} (k0 : Nat) (hd : decode cc pc = .ok (.getfield index, 3)) (hc : vwCl[ci]? = some (C, T, N)) (hin : ∀ w ∈ u_ws C T N, w ∈ pd_gt) (hk0 : k0 < N) (hlink : Cond.fieldLinkNest own index (T k0).1 (T k0).2.1 (T k0).2.2.1 host ∈ pd_gt) (ho : pd_ob sh ci a = true) (hx : pd_tag (pd_ty ci k0) (F a k0) = x) (k : pd_V E l R (own, cc, nL, ret, nm) Qf al cells slots sh F (pc + 3) L (x :: S)) : pd_V E l R (own, cc, nL, ret, nm) Qf al cells slots sh F pc L (pd_R a :: S) := by
  intro p e s m args below meth c H locs ls st C hW hz hS hl hs
  obtain ⟨_, st1, rfl, h0, hs1⟩ := pd_sv_cons hs
  obtain ⟨ws, tys, hK, hP, hD, hlen, hw⟩ := id hW
  obtain ⟨h1, -, h2, fs, v, h3, h4, h5, h6, -⟩ := pd_tag_get hc hk0 ho hw
  obtain rfl := (show _ = pd_rf E a from h0).trans h2
  exact va_getN C.1 C.2.1 (fun w hw => C.2.2.2.2.1 w hw) hin C.2.2.2.1 hK hP _ h3 hc k0 hk0 (C.2.2.2.2.1 _ hlink) (fun _ h => h) h5 hd (k _ _ _ _ _ _ _ _ _ _ _ _ C hW hz hS hl ⟨hx ▸ h6, hs1⟩)

theorem pd_put {C : String} {T : u_T} {N ci index : Nat} {a n : Int} {x : pd_v} (k0 : Nat) (hd : decode cc pc = .ok (.putfield index, 3)) (hc : vwCl[ci]? = some (C, T, N)) (hin : ∀ w ∈ u_ws C T N, w ∈ pd_gt) (htp : ∀ k, k < N → parseFieldDescriptor (T k).2.2.1 = some (pd_ty ci k)) (hnms : ∀ a, a < N → ∀ b, b < N → a ≠ b → (T a).2.1 ≠ (T b).2.1) (hk0 : k0 < N) (hlink : Cond.fieldLink own index (T k0).1 (T k0).2.1 (T k0).2.2.1 ∈ pd_gt) (hfin : (T k0).2.2.2 = false) (ho : pd_ob sh ci a = true) (hx : pd_tag (pd_ty ci k0) n = x)
    (hnr : ∀ v, pd_rv E v x → narrow (pd_ty ci k0) v = v) (hft : ∀ v, pd_rv E v x → fits (pd_ty ci k0) v = true) (k : pd_V E l R (own, cc, nL, ret, nm) Qf al cells slots sh (pd_up F a k0 n) (pc + 3) L S) : pd_V E l R (own, cc, nL, ret, nm) Qf al cells slots sh F pc L (x :: pd_R a :: S) := by
  intro p e s m args below meth c H locs ls st C hW hz hS hl hs
  obtain ⟨v, st1, rfl, hv, hs1⟩ := pd_sv_cons hs
  obtain ⟨_, st2, rfl, h0, hs2⟩ := pd_sv_cons hs1
  obtain ⟨ws, tys, hK, hP, hD, hlen, hw⟩ := id hW
  obtain ⟨h1, ⟨n0, h8⟩, h2, fs, v0, h3, h4, h5, h6, h7⟩ := pd_tag_get hc hk0 ho hw
  obtain rfl := (show _ = pd_rf E a from h0).trans h2
  have hap := va_apart (own := own) (fun w hw => C.2.2.2.2.1 w hw) hin (pd_ty ci) htp hnms hK hc
  obtain ⟨r, g1, cell, q1, q2, q3, q4⟩ := hP _ _ h3
  cases Option.some.inj (g1.symm.trans hc)
  obtain ⟨hSl, hfc, kC, hkC, hkind⟩ := hK.1 ci _ hc
  obtain ⟨cf, kf, fi, f, hi, hsl⟩ := hSl k0 hk0
  have hlay := C.2.2.2.2.1 _ (hin _ (u_in_lay hk0))
  unfold u_lay at hlay
  rw [if_neg (by rw [hfin]; decide)] at hlay
  have hst := (u_facts hfc hkC (u_lays (fun w hw => C.2.2.2.2.1 w hw) hin hk0) hi).1
  have h9 := u_store hfc hkC hkind hlay hi (htp k0 hk0) (hnr v hv) (hft v hv)
  refine W.putK C.1 C.2.1 (f := f) ⟨C.2.2.2.1, C.2.2.2.2.1 _ hlink, ⟨_, _, _, hi⟩, hst⟩ (by rw [q2]; exact h9) q1 q3 (by rw [hsl]; exact k2_hasslot (q4 k0 hk0)) rfl rfl hd fun H1 e1 z e3 => ?_
  rw [hsl] at e1 ⊢
  have hk1 : k0 < fs.length := by rw [h4]; exact hk0
  have hD1 : va_D (pd_A E) (ws.set (a - 1).toNat (E.2.1 + a.toNat, .inr (ci, fs.set k0 v))) := hD.set h3
  have hP1 : va_P E.1 vwCl (ws.set (a - 1).toNat (E.2.1 + a.toNat, .inr (ci, fs.set k0 v))) H1 := hP.set hD h3 ⟨_, hc, t_OB.to (V := updV (vp_V fs) k0 v) ⟨_, e1, q2, q3, t_set q4 hap hk0 v⟩ (fun j _ => vp_updV_set hk1 v j)⟩ e3
  refine k _ _ _ _ _ _ _ _ _ _ _ _ C (pd_Wd_set hK hlen hw h1 h8 ?_ hP1 hD1) (fun h => by rw [z]; exact hz h) (hS.put z e3 (hD.2 _ _ h3)) hl hs2
  refine ⟨fs.set k0 v, _, rfl, hc, by rw [List.length_set]; exact h4, fun j hj => ?_⟩
  by_cases hjk : j = k0
  · subst hjk
    exact ⟨v, List.getElem?_set_self hk1, by rw [pd_up_eq, hx]; exact hv⟩
  · obtain ⟨v1, g2, g3⟩ := h7 j hj
    exact ⟨v1, by rw [List.getElem?_set_ne (fun h => hjk h.symm)]; exact g2, by rw [pd_up_i (by omega)]; exact g3⟩

theorem pd_putN {host : String} {C : String} {T : u_T} {N ci index : Nat} {a n : Int} {x : pd_v} (k0 : Nat) (hd : decode cc pc = .ok (.putfield index, 3)) (hc : vwCl[ci]? = some (C, T, N)) (hin : ∀ w ∈ u_ws C T N, w ∈ pd_gt) (htp : ∀ k, k < N → parseFieldDescriptor (T k).2.2.1 = some (pd_ty ci k)) (hnms : ∀ a, a < N → ∀ b, b < N → a ≠ b → (T a).2.1 ≠ (T b).2.1) (hk0 : k0 < N) (hlink : Cond.fieldLinkNest own index (T k0).1 (T k0).2.1 (T k0).2.2.1 host ∈ pd_gt) (hfin : (T k0).2.2.2 = false) (ho : pd_ob sh ci a = true) (hx : pd_tag (pd_ty ci k0) n = x)
    (hnr : ∀ v, pd_rv E v x → narrow (pd_ty ci k0) v = v) (hft : ∀ v, pd_rv E v x → fits (pd_ty ci k0) v = true) (k : pd_V E l R (own, cc, nL, ret, nm) Qf al cells slots sh (pd_up F a k0 n) (pc + 3) L S) : pd_V E l R (own, cc, nL, ret, nm) Qf al cells slots sh F pc L (x :: pd_R a :: S) := by
  intro p e s m args below meth c H locs ls st C hW hz hS hl hs
  obtain ⟨v, st1, rfl, hv, hs1⟩ := pd_sv_cons hs
  obtain ⟨_, st2, rfl, h0, hs2⟩ := pd_sv_cons hs1
  obtain ⟨ws, tys, hK, hP, hD, hlen, hw⟩ := id hW
  obtain ⟨h1, ⟨n0, h8⟩, h2, fs, v0, h3, h4, h5, h6, h7⟩ := pd_tag_get hc hk0 ho hw
  obtain rfl := (show _ = pd_rf E a from h0).trans h2
  have hap := va_apart (own := own) (fun w hw => C.2.2.2.2.1 w hw) hin (pd_ty ci) htp hnms hK hc
  obtain ⟨r, g1, cell, q1, q2, q3, q4⟩ := hP _ _ h3
  cases Option.some.inj (g1.symm.trans hc)
  obtain ⟨hSl, hfc, kC, hkC, hkind⟩ := hK.1 ci _ hc
  obtain ⟨cf, kf, fi, f, hi, hsl⟩ := hSl k0 hk0
  have hlay := C.2.2.2.2.1 _ (hin _ (u_in_lay hk0))
  unfold u_lay at hlay
  rw [if_neg (by rw [hfin]; decide)] at hlay
  have hst := (u_facts hfc hkC (u_lays (fun w hw => C.2.2.2.2.1 w hw) hin hk0) hi).1
  have h9 := u_store hfc hkC hkind hlay hi (htp k0 hk0) (hnr v hv) (hft v hv)
  refine va_WputK C.1 C.2.1 (f := f) C.2.2.2.1 (C.2.2.2.2.1 _ hlink) hi hst (by rw [q2]; exact h9) q1 q3 (by rw [hsl]; exact k2_hasslot (q4 k0 hk0)) rfl rfl hd fun H1 e1 z e3 => ?_
  rw [hsl] at e1 ⊢
  have hk1 : k0 < fs.length := by rw [h4]; exact hk0
  have hD1 : va_D (pd_A E) (ws.set (a - 1).toNat (E.2.1 + a.toNat, .inr (ci, fs.set k0 v))) := hD.set h3
  have hP1 : va_P E.1 vwCl (ws.set (a - 1).toNat (E.2.1 + a.toNat, .inr (ci, fs.set k0 v))) H1 := hP.set hD h3 ⟨_, hc, t_OB.to (V := updV (vp_V fs) k0 v) ⟨_, e1, q2, q3, t_set q4 hap hk0 v⟩ (fun j _ => vp_updV_set hk1 v j)⟩ e3
  refine k _ _ _ _ _ _ _ _ _ _ _ _ C (pd_Wd_set hK hlen hw h1 h8 ?_ hP1 hD1) (fun h => by rw [z]; exact hz h) (hS.put z e3 (hD.2 _ _ h3)) hl hs2
  refine ⟨fs.set k0 v, _, rfl, hc, by rw [List.length_set]; exact h4, fun j hj => ?_⟩
  by_cases hjk : j = k0
  · subst hjk
    exact ⟨v, List.getElem?_set_self hk1, by rw [pd_up_eq, hx]; exact hv⟩
  · obtain ⟨v1, g2, g3⟩ := h7 j hj
    exact ⟨v1, by rw [List.getElem?_set_ne (fun h => hjk h.symm)]; exact g2, by rw [pd_up_i (by omega)]; exact g3⟩

theorem pd_putF {C : String} {T : u_T} {N ci index : Nat} {a n : Int} {x : pd_v} (k0 : Nat) (hd : decode cc pc = .ok (.putfield index, 3)) (hc : vwCl[ci]? = some (C, T, N)) (hin : ∀ w ∈ u_ws C T N, w ∈ pd_gt) (htp : ∀ k, k < N → parseFieldDescriptor (T k).2.2.1 = some (pd_ty ci k)) (hnms : ∀ a, a < N → ∀ b, b < N → a ≠ b → (T a).2.1 ≠ (T b).2.1) (hk0 : k0 < N) (hlink : Cond.fieldLink own index (T k0).1 (T k0).2.1 (T k0).2.2.1 ∈ pd_gt) (hfin : (T k0).2.2.2 = true) (hnm : nm = "<init>") (hdecl : (T k0).1 = own) (ho : pd_ob sh ci a = true) (hx : pd_tag (pd_ty ci k0) n = x)
    (hnr : ∀ v, pd_rv E v x → narrow (pd_ty ci k0) v = v) (hft : ∀ v, pd_rv E v x → fits (pd_ty ci k0) v = true) (k : pd_V E l R (own, cc, nL, ret, nm) Qf al cells slots sh (pd_up F a k0 n) (pc + 3) L S) : pd_V E l R (own, cc, nL, ret, nm) Qf al cells slots sh F pc L (x :: pd_R a :: S) := by
  intro p e s m args below meth c H locs ls st C hW hz hS hl hs
  obtain ⟨v, st1, rfl, hv, hs1⟩ := pd_sv_cons hs
  obtain ⟨_, st2, rfl, h0, hs2⟩ := pd_sv_cons hs1
  obtain ⟨ws, tys, hK, hP, hD, hlen, hw⟩ := id hW
  obtain ⟨h1, ⟨n0, h8⟩, h2, fs, v0, h3, h4, h5, h6, h7⟩ := pd_tag_get hc hk0 ho hw
  obtain rfl := (show _ = pd_rf E a from h0).trans h2
  have hap := va_apart (own := own) (fun w hw => C.2.2.2.2.1 w hw) hin (pd_ty ci) htp hnms hK hc
  obtain ⟨r, g1, cell, q1, q2, q3, q4⟩ := hP _ _ h3
  cases Option.some.inj (g1.symm.trans hc)
  obtain ⟨hSl, hfc, kC, hkC, hkind⟩ := hK.1 ci _ hc
  obtain ⟨cf, kf, fi, f, hi, hsl⟩ := hSl k0 hk0
  have hlay := C.2.2.2.2.1 _ (hin _ (u_in_lay hk0))
  unfold u_lay at hlay
  rw [if_pos hfin] at hlay
  have hst := (u_facts hfc hkC (u_lays (fun w hw => C.2.2.2.2.1 w hw) hin hk0) hi).1
  have hcf : m.cls = cf := by
    obtain ⟨_, _, c', _, _, _, -, -, hf', -, -, -, hown2, -⟩ := Cond.laysFinal_spec hlay
    have e1 : c' = cf := by have := hi.symm.trans hf'; simp at this; exact this.1.symm
    rw [hdecl] at hown2
    rw [← e1]; exact Option.some.inj (C.2.2.2.1.symm.trans hown2)
  have h9 := u_fits hfc hkC hkind (Or.inr hlay) hi (htp k0 hk0) (hnr v hv) (hft v hv)
  refine W.putFinK C.1 C.2.1 C.2.2.2.1 (C.2.2.2.2.1 _ hlink) hi hst hcf (C.2.2.2.2.2.2.2.1.trans hnm) (by rw [q2]; exact h9) q1 q3 (by rw [hsl]; exact k2_hasslot (q4 k0 hk0)) rfl rfl hd fun H1 e1 z e3 => ?_
  rw [hsl] at e1 ⊢
  have hk1 : k0 < fs.length := by rw [h4]; exact hk0
  have hD1 : va_D (pd_A E) (ws.set (a - 1).toNat (E.2.1 + a.toNat, .inr (ci, fs.set k0 v))) := hD.set h3
  have hP1 : va_P E.1 vwCl (ws.set (a - 1).toNat (E.2.1 + a.toNat, .inr (ci, fs.set k0 v))) H1 := hP.set hD h3 ⟨_, hc, t_OB.to (V := updV (vp_V fs) k0 v) ⟨_, e1, q2, q3, t_set q4 hap hk0 v⟩ (fun j _ => vp_updV_set hk1 v j)⟩ e3
  refine k _ _ _ _ _ _ _ _ _ _ _ _ C (pd_Wd_set hK hlen hw h1 h8 ?_ hP1 hD1) (fun h => by rw [z]; exact hz h) (hS.put z e3 (hD.2 _ _ h3)) hl hs2
  refine ⟨fs.set k0 v, _, rfl, hc, by rw [List.length_set]; exact h4, fun j hj => ?_⟩
  by_cases hjk : j = k0
  · subst hjk
    exact ⟨v, List.getElem?_set_self hk1, by rw [pd_up_eq, hx]; exact hv⟩
  · obtain ⟨v1, g2, g3⟩ := h7 j hj
    exact ⟨v1, by rw [List.getElem?_set_ne (fun h => hjk h.symm)]; exact g2, by rw [pd_up_i (by omega)]; exact g3⟩

theorem pd_iald {a i : Int} (hd : decode cc pc = .ok (.iaload, 1)) (hi : pd_ib sh 0 0 a i = true) (k : pd_V E l R (own, cc, nL, ret, nm) Qf al cells slots sh F (pc + 1) L (pd_I (F a i) :: S)) : pd_V E l R (own, cc, nL, ret, nm) Qf al cells slots sh F pc L (pd_I i :: pd_R a :: S) := by
  intro p e s m args below meth c H locs ls st C hW hz hS hl hs
  obtain ⟨_, st1, rfl, ⟨i, rfl, rfl⟩, hs1⟩ := pd_sv_cons hs
  obtain ⟨_, st2, rfl, h0, hs2⟩ := pd_sv_cons hs1
  obtain ⟨n, h1, h2, h3⟩ := pd_ib_spec hi
  obtain ⟨ws, tys, hK, hP, hD, hlen, hw⟩ := id hW
  obtain ⟨h4, h5, e1, h6, h7, cA, f, t0, rfl, h8, h9, g1⟩ := pd_sh_at h1 hw
  obtain rfl := (show _ = pd_rf E a from h0).trans h7
  obtain ⟨j1, j2, j3⟩ := pd_idx h2 h3
  exact va_iald C.1 C.2.1 hK hP _ t0 h6 h8 j1 hd (k _ _ _ _ _ _ _ _ _ _ _ _ C hW hz hS hl ⟨⟨_, rfl, by rw [g1 _ j2, j3]⟩, hs2⟩)

theorem pd_bald {a i : Int} (hd : decode cc pc = .ok (.baload, 1)) (hi : pd_ib sh 0 1 a i = true) (k : pd_V E l R (own, cc, nL, ret, nm) Qf al cells slots sh F (pc + 1) L (pd_I (F a i) :: S)) : pd_V E l R (own, cc, nL, ret, nm) Qf al cells slots sh F pc L (pd_I i :: pd_R a :: S) := by
  intro p e s m args below meth c H locs ls st C hW hz hS hl hs
  obtain ⟨_, st1, rfl, ⟨i, rfl, rfl⟩, hs1⟩ := pd_sv_cons hs
  obtain ⟨_, st2, rfl, h0, hs2⟩ := pd_sv_cons hs1
  obtain ⟨n, h1, h2, h3⟩ := pd_ib_spec hi
  obtain ⟨ws, tys, hK, hP, hD, hlen, hw⟩ := id hW
  obtain ⟨h4, h5, e1, h6, h7, cA, f, t0, rfl, h8, h9, g1⟩ := pd_sh_at h1 hw
  obtain rfl := (show _ = pd_rf E a from h0).trans h7
  obtain ⟨j1, j2, j3⟩ := pd_idx h2 h3
  exact va_bald C.1 C.2.1 hK hP _ t0 h6 h8 j1 hd (k _ _ _ _ _ _ _ _ _ _ _ _ C hW hz hS hl ⟨⟨_, rfl, by rw [g1 _ j2, j3]⟩, hs2⟩)

theorem pd_zald {a i : Int} (hd : decode cc pc = .ok (.baload, 1)) (hi : pd_ib sh 0 2 a i = true) (k : pd_V E l R (own, cc, nL, ret, nm) Qf al cells slots sh F (pc + 1) L (pd_I (F a i) :: S)) : pd_V E l R (own, cc, nL, ret, nm) Qf al cells slots sh F pc L (pd_I i :: pd_R a :: S) := by
  intro p e s m args below meth c H locs ls st C hW hz hS hl hs
  obtain ⟨_, st1, rfl, ⟨i, rfl, rfl⟩, hs1⟩ := pd_sv_cons hs
  obtain ⟨_, st2, rfl, h0, hs2⟩ := pd_sv_cons hs1
  obtain ⟨n, h1, h2, h3⟩ := pd_ib_spec hi
  obtain ⟨ws, tys, hK, hP, hD, hlen, hw⟩ := id hW
  obtain ⟨h4, h5, e1, h6, h7, cA, f, t0, rfl, h8, h9, g1⟩ := pd_sh_at h1 hw
  obtain rfl := (show _ = pd_rf E a from h0).trans h7
  obtain ⟨j1, j2, j3⟩ := pd_idx h2 h3
  exact va_zald C.1 C.2.1 hK hP _ t0 h6 h8 j1 hd (k _ _ _ _ _ _ _ _ _ _ _ _ C hW hz hS hl ⟨⟨_, rfl, by rw [g1 _ j2, j3]⟩, hs2⟩)

theorem pd_lald {a i : Int} (hd : decode cc pc = .ok (.laload, 1)) (hi : pd_ib sh 1 0 a i = true) (k : pd_V E l R (own, cc, nL, ret, nm) Qf al cells slots sh F (pc + 1) L (pd_J (F a i) :: S)) : pd_V E l R (own, cc, nL, ret, nm) Qf al cells slots sh F pc L (pd_I i :: pd_R a :: S) := by
  intro p e s m args below meth c H locs ls st C hW hz hS hl hs
  obtain ⟨_, st1, rfl, ⟨i, rfl, rfl⟩, hs1⟩ := pd_sv_cons hs
  obtain ⟨_, st2, rfl, h0, hs2⟩ := pd_sv_cons hs1
  obtain ⟨n, h1, h2, h3⟩ := pd_ib_spec hi
  obtain ⟨ws, tys, hK, hP, hD, hlen, hw⟩ := id hW
  obtain ⟨h4, h5, e1, h6, h7, cA, f, t0, rfl, h8, h9, g1⟩ := pd_sh_at h1 hw
  obtain rfl := (show _ = pd_rf E a from h0).trans h7
  obtain ⟨j1, j2, j3⟩ := pd_idx h2 h3
  exact va_lald C.1 C.2.1 hK hP _ t0 h6 h8 j1 hd (k _ _ _ _ _ _ _ _ _ _ _ _ C hW hz hS hl ⟨⟨_, rfl, by rw [g1 _ j2, j3]⟩, hs2⟩)
theorem pd_aald {a i : Int} {ci : Nat} (hd : decode cc pc = .ok (.aaload, 1)) (hi : pd_ib sh 2 ci a i = true) (k : pd_V E l R (own, cc, nL, ret, nm) Qf al cells slots sh F (pc + 1) L (pd_R (F a i) :: S)) : pd_V E l R (own, cc, nL, ret, nm) Qf al cells slots sh F pc L (pd_I i :: pd_R a :: S) := by
  intro p e s m args below meth c H locs ls st C hW hz hS hl hs
  obtain ⟨_, st1, rfl, ⟨i, rfl, rfl⟩, hs1⟩ := pd_sv_cons hs
  obtain ⟨_, st2, rfl, h0, hs2⟩ := pd_sv_cons hs1
  obtain ⟨n, h1, h2, h3⟩ := pd_ib_spec hi
  obtain ⟨ws, tys, hK, hP, hD, hlen, hw⟩ := id hW
  obtain ⟨h4, h5, e1, h6, h7, cA, f, t0, r, h10, rfl, h8, h9, g1⟩ := pd_sh_at h1 hw
  obtain rfl := (show _ = pd_rf E a from h0).trans h7
  obtain ⟨j1, j2, j3⟩ := pd_idx h2 h3
  refine va_aldq C.1 C.2.1 hK hP _ t0 h6 h8 j1 hd (k _ _ _ _ _ _ _ _ _ _ _ _ C hW hz hS hl ⟨?_, hs2⟩)
  rw [← j3]
  exact g1 _ j2

theorem pd_iast {a i x : Int} (hd : decode cc pc = .ok (.iastore, 1)) (hi : pd_ib sh 0 0 a i = true) (k : pd_V E l R (own, cc, nL, ret, nm) Qf al cells slots sh (pd_up F a i x) (pc + 1) L S) : pd_V E l R (own, cc, nL, ret, nm) Qf al cells slots sh F pc L (pd_I x :: pd_I i :: pd_R a :: S) := by
  intro p e s m args below meth c H locs ls st C hW hz hS hl hs
  obtain ⟨_, st0, rfl, ⟨x, rfl, rfl⟩, hs0⟩ := pd_sv_cons hs
  obtain ⟨_, st1, rfl, ⟨i, rfl, rfl⟩, hs1⟩ := pd_sv_cons hs0
  obtain ⟨_, st2, rfl, h0, hs2⟩ := pd_sv_cons hs1
  obtain ⟨n, h1, h2, h3⟩ := pd_ib_spec hi
  obtain ⟨ws, tys, hK, hP, hD, hlen, hw⟩ := id hW
  obtain ⟨h4, h5, e1, h6, h7, cA, f, t0, rfl, h8, h9, g1⟩ := pd_sh_at h1 hw
  obtain rfl := (show _ = pd_rf E a from h0).trans h7
  obtain ⟨j1, j2, j3⟩ := pd_idx h2 h3
  refine W.iast C.1 C.2.1 (hP _ _ h6) ((hK.2 t0 _ h8).1 n (fun j => .int (f j))) (fun q => by cases q) (by show ¬ (i < 0 ∨ (arrV _ _ _).slots.size ≤ _); rw [arrV_size]; exact j1) rfl rfl hd fun H1 e z oq => ?_
  have hcell : H1[E.2.1 + a.toNat]? = some (vp_cell cA (n, .inl (upd f i.toNatClampNeg x))) := by
    rw [e, vp_cell_i, vp_cell_i, arrV_store]
    congr 2
    funext q
    by_cases hq : q = i.toNatClampNeg
    · subst hq
      simp [updV, upd]
    · simp [updV, upd, hq]
  have hP1 : va_P E.1 vwCl (ws.set (a - 1).toNat (E.2.1 + a.toNat, .inl (cA, n, .inl (upd f i.toNatClampNeg x)))) H1 := hP.set hD h6 hcell oq
  have hD1 : va_D (pd_A E) (ws.set (a - 1).toNat (E.2.1 + a.toNat, .inl (cA, n, .inl (upd f i.toNatClampNeg x)))) := hD.set h6
  refine k _ _ _ _ _ _ _ _ _ _ _ _ C (pd_Wd_set hK hlen hw h4 h5 ?_ hP1 hD1) (fun h => by rw [z]; exact hz h) (hS.put z oq (hD.2 _ _ h6)) hl hs2
  refine ⟨cA, _, t0, rfl, h8, h9, fun j hj => ?_⟩
  by_cases hji : j = i.toNatClampNeg
  · subst hji
    rw [j3, pd_up_eq]
    simp [upd]
  · rw [pd_up_i (by omega), ← g1 j hj]
    simp [upd, hji]

theorem pd_bast {a i x : Int} (hd : decode cc pc = .ok (.bastore, 1)) (hi : pd_ib sh 0 1 a i = true) (k : pd_V E l R (own, cc, nL, ret, nm) Qf al cells slots sh (pd_up F a i (pd_b x)) (pc + 1) L S) : pd_V E l R (own, cc, nL, ret, nm) Qf al cells slots sh F pc L (pd_I x :: pd_I i :: pd_R a :: S) := by
  intro p e s m args below meth c H locs ls st C hW hz hS hl hs
  obtain ⟨_, st0, rfl, ⟨x, rfl, rfl⟩, hs0⟩ := pd_sv_cons hs
  obtain ⟨_, st1, rfl, ⟨i, rfl, rfl⟩, hs1⟩ := pd_sv_cons hs0
  obtain ⟨_, st2, rfl, h0, hs2⟩ := pd_sv_cons hs1
  obtain ⟨n, h1, h2, h3⟩ := pd_ib_spec hi
  obtain ⟨ws, tys, hK, hP, hD, hlen, hw⟩ := id hW
  obtain ⟨h4, h5, e1, h6, h7, cA, f, t0, rfl, h8, h9, g1⟩ := pd_sh_at h1 hw
  obtain rfl := (show _ = pd_rf E a from h0).trans h7
  obtain ⟨j1, j2, j3⟩ := pd_idx h2 h3
  refine W.bast C.1 C.2.1 (hP _ _ h6) ((hK.2 t0 _ h8).1 n (fun j => .int (f j))) (fun q => by cases q) (by show ¬ (i < 0 ∨ (arrV _ _ _).slots.size ≤ _); rw [arrV_size]; exact j1) rfl rfl hd fun H1 e z oq => ?_
  have hcell : H1[E.2.1 + a.toNat]? = some (vp_cell cA (n, .inl (upd f i.toNatClampNeg (vp_nar .byte x)))) := by
    rw [e, vp_cell_i, vp_cell_i, arrV_store]
    congr 2
    funext q
    by_cases hq : q = i.toNatClampNeg
    · subst hq
      simp [updV, upd, vp_nar]
      try rfl
    · simp [updV, upd, hq]
  have hP1 : va_P E.1 vwCl (ws.set (a - 1).toNat (E.2.1 + a.toNat, .inl (cA, n, .inl (upd f i.toNatClampNeg (vp_nar .byte x))))) H1 := hP.set hD h6 hcell oq
  have hD1 : va_D (pd_A E) (ws.set (a - 1).toNat (E.2.1 + a.toNat, .inl (cA, n, .inl (upd f i.toNatClampNeg (vp_nar .byte x))))) := hD.set h6
  refine k _ _ _ _ _ _ _ _ _ _ _ _ C (pd_Wd_set hK hlen hw h4 h5 ?_ hP1 hD1) (fun h => by rw [z]; exact hz h) (hS.put z oq (hD.2 _ _ h6)) hl hs2
  refine ⟨cA, _, t0, rfl, h8, h9, fun j hj => ?_⟩
  by_cases hji : j = i.toNatClampNeg
  · subst hji
    rw [j3, pd_up_eq]
    simp only [upd, if_true]
    exact pd_nar_b x
  · rw [pd_up_i (by omega), ← g1 j hj]
    simp [upd, hji]

theorem pd_zast {a i x : Int} (hx : x = 0 ∨ x = 1) (hd : decode cc pc = .ok (.bastore, 1)) (hi : pd_ib sh 0 2 a i = true) (k : pd_V E l R (own, cc, nL, ret, nm) Qf al cells slots sh (pd_up F a i (x)) (pc + 1) L S) : pd_V E l R (own, cc, nL, ret, nm) Qf al cells slots sh F pc L (pd_I x :: pd_I i :: pd_R a :: S) := by
  intro p e s m args below meth c H locs ls st C hW hz hS hl hs
  obtain ⟨_, st0, rfl, ⟨x, rfl, rfl⟩, hs0⟩ := pd_sv_cons hs
  obtain ⟨_, st1, rfl, ⟨i, rfl, rfl⟩, hs1⟩ := pd_sv_cons hs0
  obtain ⟨_, st2, rfl, h0, hs2⟩ := pd_sv_cons hs1
  obtain ⟨n, h1, h2, h3⟩ := pd_ib_spec hi
  obtain ⟨ws, tys, hK, hP, hD, hlen, hw⟩ := id hW
  obtain ⟨h4, h5, e1, h6, h7, cA, f, t0, rfl, h8, h9, g1⟩ := pd_sh_at h1 hw
  obtain rfl := (show _ = pd_rf E a from h0).trans h7
  obtain ⟨j1, j2, j3⟩ := pd_idx h2 h3
  refine W.zast C.1 C.2.1 (hP _ _ h6) ((hK.2 t0 _ h8).1 n (fun j => .int (f j))) (fun q => by cases q) (by show ¬ (i < 0 ∨ (arrV _ _ _).slots.size ≤ _); rw [arrV_size]; exact j1) rfl rfl hd fun H1 e z oq => ?_
  have hcell : H1[E.2.1 + a.toNat]? = some (vp_cell cA (n, .inl (upd f i.toNatClampNeg (vp_nar .boolean x)))) := by
    rw [e, vp_cell_i, vp_cell_i, arrV_store]
    congr 2
    funext q
    by_cases hq : q = i.toNatClampNeg
    · subst hq
      simp [updV, upd, vp_nar]
      try rfl
    · simp [updV, upd, hq]
  have hP1 : va_P E.1 vwCl (ws.set (a - 1).toNat (E.2.1 + a.toNat, .inl (cA, n, .inl (upd f i.toNatClampNeg (vp_nar .boolean x))))) H1 := hP.set hD h6 hcell oq
  have hD1 : va_D (pd_A E) (ws.set (a - 1).toNat (E.2.1 + a.toNat, .inl (cA, n, .inl (upd f i.toNatClampNeg (vp_nar .boolean x))))) := hD.set h6
  refine k _ _ _ _ _ _ _ _ _ _ _ _ C (pd_Wd_set hK hlen hw h4 h5 ?_ hP1 hD1) (fun h => by rw [z]; exact hz h) (hS.put z oq (hD.2 _ _ h6)) hl hs2
  refine ⟨cA, _, t0, rfl, h8, h9, fun j hj => ?_⟩
  by_cases hji : j = i.toNatClampNeg
  · subst hji
    rw [j3, pd_up_eq]
    simp only [upd, if_true]
    exact pd_nar_z hx
  · rw [pd_up_i (by omega), ← g1 j hj]
    simp [upd, hji]

theorem pd_last {a i x : Int} (hd : decode cc pc = .ok (.lastore, 1)) (hi : pd_ib sh 1 0 a i = true) (k : pd_V E l R (own, cc, nL, ret, nm) Qf al cells slots sh (pd_up F a i x) (pc + 1) L S) : pd_V E l R (own, cc, nL, ret, nm) Qf al cells slots sh F pc L (pd_J x :: pd_I i :: pd_R a :: S) := by
  intro p e s m args below meth c H locs ls st C hW hz hS hl hs
  obtain ⟨_, st0, rfl, ⟨x, rfl, rfl⟩, hs0⟩ := pd_sv_cons hs
  obtain ⟨_, st1, rfl, ⟨i, rfl, rfl⟩, hs1⟩ := pd_sv_cons hs0
  obtain ⟨_, st2, rfl, h0, hs2⟩ := pd_sv_cons hs1
  obtain ⟨n, h1, h2, h3⟩ := pd_ib_spec hi
  obtain ⟨ws, tys, hK, hP, hD, hlen, hw⟩ := id hW
  obtain ⟨h4, h5, e1, h6, h7, cA, f, t0, rfl, h8, h9, g1⟩ := pd_sh_at h1 hw
  obtain rfl := (show _ = pd_rf E a from h0).trans h7
  obtain ⟨j1, j2, j3⟩ := pd_idx h2 h3
  refine W.last C.1 C.2.1 (hP _ _ h6) ((hK.2 t0 _ h8).1 n (fun j => .long (f j))) (fun q => by cases q) (by show ¬ (i < 0 ∨ (arrV _ _ _).slots.size ≤ _); rw [arrV_size]; exact j1) rfl rfl hd fun H1 e z oq => ?_
  have hcell : H1[E.2.1 + a.toNat]? = some (vp_cell cA (n, .inr (.inl (vp_updL f i.toNatClampNeg x)))) := by
    rw [e, vp_cell_l, vp_cell_l, arrV_store]
    congr 2
    funext q
    by_cases hq : q = i.toNatClampNeg
    · subst hq
      simp [updV, vp_updL, vp_nar]
      try rfl
    · simp [updV, vp_updL, hq]
  have hP1 : va_P E.1 vwCl (ws.set (a - 1).toNat (E.2.1 + a.toNat, .inl (cA, n, .inr (.inl (vp_updL f i.toNatClampNeg x))))) H1 := hP.set hD h6 hcell oq
  have hD1 : va_D (pd_A E) (ws.set (a - 1).toNat (E.2.1 + a.toNat, .inl (cA, n, .inr (.inl (vp_updL f i.toNatClampNeg x))))) := hD.set h6
  refine k _ _ _ _ _ _ _ _ _ _ _ _ C (pd_Wd_set hK hlen hw h4 h5 ?_ hP1 hD1) (fun h => by rw [z]; exact hz h) (hS.put z oq (hD.2 _ _ h6)) hl hs2
  refine ⟨cA, _, t0, rfl, h8, h9, fun j hj => ?_⟩
  by_cases hji : j = i.toNatClampNeg
  · subst hji
    rw [j3, pd_up_eq]
    simp [vp_updL]
  · rw [pd_up_i (by omega), ← g1 j hj]
    simp [vp_updL, hji]
theorem pd_ofNat {n : Nat} (h : n < 2147483648) : (Int32.ofNat n).toInt = n := by
  have := nI_toInt (n := n) (by omega)
  exact this
theorem pd_alen {a : Int} {c k0 : Nat} (hd : decode cc pc = .ok (.arraylength, 1)) (hc : c < 4) (hi : 0 ≤ pd_ln sh c k0 a) (k : pd_V E l R (own, cc, nL, ret, nm) Qf al cells slots sh F (pc + 1) L (pd_I (pd_ln sh c k0 a) :: S)) : pd_V E l R (own, cc, nL, ret, nm) Qf al cells slots sh F pc L (pd_R a :: S) := by
  intro p e s m args below meth c0 H locs ls st C hW hz hS hl hs
  obtain ⟨_, st2, rfl, h0, hs2⟩ := pd_sv_cons hs
  obtain ⟨n, h1, h2⟩ := pd_ln_spec hi
  obtain ⟨ws, tys, hK, hP, hD, hlen, hw⟩ := id hW
  obtain ⟨h4, h5, e1, h6, h7, h8⟩ := pd_sh_at h1 hw
  obtain rfl := (show _ = pd_rf E a from h0).trans h7
  rw [h2] at k
  match c, hc, h8 with
  | 0, _, ⟨cA, f, t0, he, g1, g2, g3⟩ => exact va_alen (x := (n, .inl f)) C.1 C.2.1 hK hP _ t0 (he ▸ h6) g1 rfl hd (k _ _ _ _ _ _ _ _ _ _ _ _ C hW hz hS hl ⟨⟨_, rfl, pd_ofNat g2⟩, hs2⟩)
  | 1, _, ⟨cA, f, t0, he, g1, g2, g3⟩ => exact va_alen (x := (n, .inr (.inl f))) C.1 C.2.1 hK hP _ t0 (he ▸ h6) g1 rfl hd (k _ _ _ _ _ _ _ _ _ _ _ _ C hW hz hS hl ⟨⟨_, rfl, pd_ofNat g2⟩, hs2⟩)
  | 2, _, ⟨cA, f, t0, r, _, he, g1, g2, g3⟩ => exact va_alen (x := (n, .inr (.inr (.inr (.inr f))))) C.1 C.2.1 hK hP _ t0 (he ▸ h6) g1 rfl hd (k _ _ _ _ _ _ _ _ _ _ _ _ C hW hz hS hl ⟨⟨_, rfl, pd_ofNat g2⟩, hs2⟩)
  | 3, _, ⟨cA, f, t0, he, g1, g2, g3⟩ => exact va_alen (x := (n, .inr (.inr (.inr (.inr f))))) C.1 C.2.1 hK hP _ t0 (he ▸ h6) g1 rfl hd (k _ _ _ _ _ _ _ _ _ _ _ _ C hW hz hS hl ⟨⟨_, rfl, pd_ofNat g2⟩, hs2⟩)

end PDM
