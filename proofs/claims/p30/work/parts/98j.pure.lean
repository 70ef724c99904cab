variable {sT : pd_S}
/-! a person told -/
section PL
variable {b : Int} {F G : pd_F}
theorem kX_kM {D F : pd_F} {b : Int} (hn : 0 ≤ D 369 0) (h : kX F b (fun q m => (0 ≤ q ∧ q < D 369 0) ∧ Hk (D 375) (D 376) q m)) : kM D F b := by
  obtain ⟨h1, h2, h3, h4, h5⟩ := h
  refine ⟨h1, h2, fun i a c => ?_, fun m hm => ?_, fun i a c => ?_⟩
  · obtain ⟨q, hq⟩ := h3 i a c
    exact ⟨q, hq.1.1, hq.1.2, hq.2⟩
  · obtain ⟨q, q0, q1, q2⟩ := hm
    exact h4 q m ⟨⟨q0, q1⟩, q2⟩
  · exact bR_c (h5 i a c) fun q c0 _ => ⟨fun z => ⟨z.1.2, z.2⟩, fun z => ⟨⟨c0, z.1⟩, z.2⟩⟩
theorem kM_kX {D F : pd_F} {b : Int} (h : kM D F b) : kX F b (fun q m => (0 ≤ q ∧ q < D 369 0) ∧ Hk (D 375) (D 376) q m) := by
  obtain ⟨h1, h2, h3, h4, h5⟩ := h
  refine ⟨h1, h2, fun i a c => ?_, fun q m hq => h4 m ⟨q, hq.1.1, hq.1.2, hq.2⟩, fun i a c => ?_⟩
  · obtain ⟨q, q0, q1, q2⟩ := h3 i a c
    exact ⟨q, ⟨q0, q1⟩, q2⟩
  · exact bR_c (h5 i a c) fun q c0 _ => ⟨fun z => ⟨⟨c0, z.1⟩, z.2⟩, fun z => ⟨z.1.2, z.2⟩⟩
end PL
