/-! contracts, calls, returns -/
def pd_rm (d mc ms : Nat) : Room := { frames := d, cells := mc, slots := ms, locals := 64 * d }
def pd_ro (E : pd_E) : Option Value → Option pd_v → Prop
  | none, none => True
  | some v, some x => pd_rv E v x
  | _, _ => False
def pd_Q (E : pd_E) (al : Bool) (r : Option pd_v) (sh : pd_S) (F : pd_F) : Array Value → State → Outcome → State → Prop := fun _ st oc t =>
  (∃ v : Option Value, oc = .returned v ∧ pd_ro E v r ∧ pd_Wd E sh F t t.heap ∧ (al = true → t.heap.size = E.2.1 + sh.length + 1)) ∧ va_F (pd_A E) st t
def pd_Qm (E : pd_E) (al : Bool) (r : Option pd_v) (sh : pd_S) (F : pd_F) (mc ms : Nat) : State → Array Value → List Frame → State → Prop := fun s args below => MQ below (pd_Q E al r sh F) args s mc ms (pd_A E)
def pd_B (E : pd_E) (al : Bool) (sh : pd_S) (F : pd_F) (U : State) : Prop := pd_Wd E sh F U U.heap ∧ (al = true → U.heap.size = E.2.1 + sh.length + 1) ∧ E.2.1 < U.heap.size ∧ pd_Sk E U U.heap
def pd_CE (E : pd_E) (l : Launch) (y : MethodName) (ws : List Cond) (rm : Room) (al : Bool) (mc ms : Nat) (sh : pd_S) (F : pd_F) (xs : List pd_v) (r : Option pd_v) (sh' : pd_S) (F' : pd_F) : Prop :=
  ∀ (As : List Value), pd_sv E As xs → Met l y ws rm (va_Pc As (pd_B E al sh F)) (pd_Q E al r sh' F') mc ms (pd_A E)
def pd_C (l : Launch) (y : MethodName) (ws : List Cond) (rm : Room) (al : Bool) (mc ms : Nat) (sh : pd_S) (F : pd_F) (xs : List pd_v) (r : Option pd_v) (sh' : pd_S) (F' : pd_F) : Prop :=
  ∀ (E : pd_E), pd_CE E l y ws rm al mc ms sh F xs r sh' F'
theorem pd_Wd_moved {E : pd_E} {sh : pd_S} {F : pd_F} {s t : State} {H : Heap} (h : s.vm.Alike t.vm) (hW : pd_Wd E sh F s H) : pd_Wd E sh F t H := by
  obtain ⟨ws, tys, hK, hr⟩ := hW
  exact ⟨ws, tys, va_K.moved h hK, hr⟩
theorem pd_Sk_moved {E : pd_E} {s t : State} {H H1 : Heap} (h : s.WarmedH t.vm) (hq : ∀ q : Nat, q < H.size → ¬ pd_A E q → H1[q]? = H[q]?) (hk : pd_Sk E s H) : pd_Sk E t H1 :=
  ⟨vk_S.moved h.alike (hk.1.kept hq), fun i q hi => vk_R.warm h (hk.2.1 i q hi), va_Z.moved h.alike (hk.2.2.1.kept hq), hk.2.2.2.1.imp (fun z => va_Z.moved h.alike (z.kept hq)) (fun z => va_Z.moved h.alike (z.kept hq)), vx_Zq.moved h.alike (hk.2.2.2.2.1.kept hq), ⟨vx_Zq.moved h.alike (hk.2.2.2.2.2.1.1.kept hq), pd_Sc_moved h.alike hq hk.2.2.2.2.2.1.2⟩, hk.2.2.2.2.2.2⟩
theorem pd_Sk_same {E : pd_E} {s t : State} {H : Heap} (h : t.vm = s.vm) (ha : s.vm.Alike t.vm) (hk : pd_Sk E s H) : pd_Sk E t H :=
  ⟨vk_S.moved ha hk.1, fun i q hi => vk_R.same h (hk.2.1 i q hi), va_Z.moved ha hk.2.2.1, hk.2.2.2.1.imp (va_Z.moved ha) (va_Z.moved ha), vx_Zq.moved ha hk.2.2.2.2.1, ⟨vx_Zq.moved ha hk.2.2.2.2.2.1.1, pd_Sc_moved ha (fun _ _ _ => rfl) hk.2.2.2.2.2.1.2⟩, hk.2.2.2.2.2.2⟩
/-- the locals at a method's entry -/
def pd_en : List pd_v → List pd_v
  | [] => []
  | .inr (.inl n) :: S => pd_J n :: pd_N :: pd_en S
  | x :: S => x :: pd_en S
theorem pd_en_at {E : pd_E} : ∀ (As : List Value) (xs : List pd_v) (k : Nat), pd_sv E As xs → ∀ (i : Nat) (x : pd_v), (pd_en xs)[i]? = some x → x = pd_N ∨ ∃ v, (k + i, v) ∈ lv_args k As ∧ pd_rv E v x
  | [], [], k, _, i, x, h => by simp [pd_en] at h
  | v :: As, .inl n :: xs, k, hs, i, x, h => by
    have hc : v.category = 1 := pd_rv_cat hs.1
    match i with
    | 0 => simp [pd_en] at h; subst h; exact Or.inr ⟨v, by simp [lv_args], hs.1⟩
    | i + 1 =>
      rcases pd_en_at As xs (k + 1) hs.2 i x (by simpa [pd_en] using h) with h1 | ⟨w, h1, h2⟩
      · exact Or.inl h1
      · exact Or.inr ⟨w, by rw [lv_args, if_neg (by rw [hc]; decide)]; exact List.mem_cons_of_mem _ (by rw [show k + (i + 1) = k + 1 + i by omega]; exact h1), h2⟩
  | v :: As, .inr (.inr n) :: xs, k, hs, i, x, h => by
    have hc : v.category = 1 := pd_rv_cat hs.1
    match i with
    | 0 => simp [pd_en] at h; subst h; exact Or.inr ⟨v, by simp [lv_args], hs.1⟩
    | i + 1 =>
      rcases pd_en_at As xs (k + 1) hs.2 i x (by simpa [pd_en] using h) with h1 | ⟨w, h1, h2⟩
      · exact Or.inl h1
      · exact Or.inr ⟨w, by rw [lv_args, if_neg (by rw [hc]; decide)]; exact List.mem_cons_of_mem _ (by rw [show k + (i + 1) = k + 1 + i by omega]; exact h1), h2⟩
  | v :: As, .inr (.inl n) :: xs, k, hs, i, x, h => by
    have hc : v.category = 2 := pd_rv_cat hs.1
    match i with
    | 0 => simp [pd_en] at h; subst h; exact Or.inr ⟨v, by simp [lv_args], hs.1⟩
    | 1 => simp [pd_en] at h; exact Or.inl h.symm
    | i + 2 =>
      rcases pd_en_at As xs (k + 2) hs.2 i x (by simpa [pd_en] using h) with h1 | ⟨w, h1, h2⟩
      · exact Or.inl h1
      · exact Or.inr ⟨w, by rw [lv_args, if_pos hc]; exact List.mem_cons_of_mem _ (by rw [show k + (i + 2) = k + 2 + i by omega]; exact h1), h2⟩
  | [], _ :: _, _, h, _, _, _ => absurd h (by simp [pd_sv])
  | _ :: _, [], _, h, _, _, _ => absurd h (by simp [pd_sv])
theorem pd_sl_len {E : pd_E} : ∀ {As : List Value} {xs : List pd_v}, pd_sv E As xs → (lg_sl As).length = pd_cat xs
  | [], [], _ => rfl
  | v :: As, x :: xs, h => by
    have h1 := pd_sl_len h.2
    have h2 := pd_rv_cat h.1
    unfold lg_sl at h1 ⊢
    rw [List.flatMap_cons, List.length_append, h1]
    show _ = pd_c1 x + pd_cat xs
    rw [← h2]
    rcases lv_cat v with h3 | h3 <;> simp [h3]
  | [], _ :: _, h => absurd h (by simp [pd_sv])
  | _ :: _, [], h => absurd h (by simp [pd_sv])
theorem pd_bodyE {E : pd_E} {l : Launch} {y : MethodName} {cc : ByteArray} {maxL : Nat} {ret : Option FieldType} {rm : Room} {al : Bool} {mc ms : Nat} {sh sh' : pd_S} {F F' : pd_F} {xs : List pd_v} {r : Option pd_v} {L : List pd_v} (hy : plainName y.cls = true ∧ pd_hh y.cls y.name = []) (hlen : pd_cat xs ≤ maxL)
    (hL : pd_en xs ++ List.replicate (maxL - pd_cat xs) pd_N = L)
    (hv : pd_V E l rm (y.cls, cc, maxL, ret, y.name) (pd_Qm E al r sh' F' mc ms) al 0 0 sh F 0 L []) : pd_CE E l y (Cond.code y cc maxL ret :: pd_gt) rm al mc ms sh F xs r sh' F' := by
  intro As hAs
  refine Met.ofW (cc := cc) (maxL := maxL) (ret := ret) hy.1 rfl ?_
  intro p e s m args below meth c s₁ B hml hv0
  obtain ⟨rfl, hW, hz, hlt, hk⟩ := hv0
  have hts := atoms_spec (ws := Cond.code y cc maxL ret :: pd_gt) B.pre
  have htb : c.exceptionTable.toList = tableOf (pd_hh y.cls y.name) := by
    obtain ⟨meth9, c9, h1, h2, -, -, -, -, h7, -⟩ := Cond.code_spec B.named (hts _ List.mem_cons_self)
    cases Option.some.inj (h1.symm.trans B.method)
    cases Option.some.inj (h2.symm.trans (Stand.of_body B).code)
    rw [Array.isEmpty_iff.mp h7, hy.2]
    rfl
  have hc := pd_sl_len hAs
  have hl := lv_entry As (n := maxL) (by rw [hc]; exact hlen)
  rw [lg_entry_eq]
  refine hv p e s m _ below meth c s.heap [] _ [] ⟨B.exec, B.bytes, hml, findClass_of_methodNamed B.named, fun w hw => hts w (List.mem_cons_of_mem _ hw), B.returns, ⟨B.notSynchronized, htb⟩, (name_of_methodNamed B.named B.method).1, hlt, hk⟩ hW hz va_S.rf ⟨_, hl, ?_⟩ trivial
  subst hL
  intro i x hi
  rw [List.getElem?_append] at hi
  split at hi
  · have := pd_en_at As xs 0 hAs i x hi
    rwa [Nat.zero_add] at this
  · have := (List.mem_replicate.mp (List.mem_of_getElem? hi)).2
    exact Or.inl this
theorem pd_body {l : Launch} {y : MethodName} {cc : ByteArray} {maxL : Nat} {ret : Option FieldType} {rm : Room} {al : Bool} {mc ms : Nat} {sh sh' : pd_S} {F F' : pd_F} {xs : List pd_v} {r : Option pd_v} {L : List pd_v} (hy : plainName y.cls = true ∧ pd_hh y.cls y.name = []) (hlen : pd_cat xs ≤ maxL)
    (hL : pd_en xs ++ List.replicate (maxL - pd_cat xs) pd_N = L)
    (hv : ∀ E, pd_V E l rm (y.cls, cc, maxL, ret, y.name) (pd_Qm E al r sh' F' mc ms) al 0 0 sh F 0 L []) : pd_C l y (Cond.code y cc maxL ret :: pd_gt) rm al mc ms sh F xs r sh' F' := fun E => pd_bodyE hy hlen hL (hv E)
section PDR
variable {E : pd_E} {l : Launch} {R : Room} {own : String} {cc : ByteArray} {nL : Nat} {ret : Option FieldType} {nm : String} {Qf : State → Array Value → List Frame → State → Prop} {al : Bool} {cells slots mc ms : Nat} {sh : pd_S} {F : pd_F} {pc : Nat} {L S : List pd_v}
theorem pd_end {v : Option Value} {r : Option pd_v} {s : State} {H : Heap} {locs : List Loc} {args : Array Value} (hv : pd_ro E v r) (hW : pd_Wd E sh F s H) (hz : al = true → H.size = E.2.1 + sh.length + 1) (hS : va_S (pd_A E) s.heap H locs) : ∀ t : State, t.heap = H → s.WarmedH t.vm → pd_Q E al r sh F args s (.returned v) t :=
  fun t ht hm => ⟨⟨v, rfl, hv, by rw [ht]; exact pd_Wd_moved hm.alike hW, by rw [ht]; exact hz⟩, hS.F ht⟩

theorem pd_iret {x : Int} (hd : decode cc pc = .ok (.ireturn, 1)) (hr : ret = some .int) (hc : cells ≤ mc) (hs0 : slots ≤ ms) : pd_V E l R (own, cc, nL, ret, nm) (pd_Qm E al (some (pd_I x)) sh F mc ms) al cells slots sh F pc L [pd_I x] := by
  intro p e s m args below meth c H locs ls st C hW hz hS hl hs
  obtain ⟨v, st1, rfl, ⟨x, rfl, rfl⟩, hs1⟩ := pd_sv_cons hs
  obtain rfl := pd_sv_nil hs1
  have hlocks : meth.locks = false := C.2.2.2.2.2.2.1.1
  have he := pd_end (args := args) (v := some (.int x)) (r := some (pd_I x.toInt)) ⟨x, rfl, rfl⟩ hW hz hS
  exact W.widen hc hs0 (W.iret C.1 C.2.1 (C.2.2.2.2.2.1.trans hr) he hS.2.2 hd)

theorem pd_lret {x : Int} (hd : decode cc pc = .ok (.lreturn, 1)) (hr : ret = some .long) (hc : cells ≤ mc) (hs0 : slots ≤ ms) : pd_V E l R (own, cc, nL, ret, nm) (pd_Qm E al (some (pd_J x)) sh F mc ms) al cells slots sh F pc L [pd_J x] := by
  intro p e s m args below meth c H locs ls st C hW hz hS hl hs
  obtain ⟨v, st1, rfl, ⟨x, rfl, rfl⟩, hs1⟩ := pd_sv_cons hs
  obtain rfl := pd_sv_nil hs1
  have hlocks : meth.locks = false := C.2.2.2.2.2.2.1.1
  have he := pd_end (args := args) (v := some (.long x)) (r := some (pd_J x.toInt)) ⟨x, rfl, rfl⟩ hW hz hS
  exact W.widen hc hs0 (W.lret C.1 C.2.1 (C.2.2.2.2.2.1.trans hr) he hS.2.2 hd)

theorem pd_zret {x : Int} (hd : decode cc pc = .ok (.ireturn, 1)) (hr : ret = some .boolean) (hx : x = 0 ∨ x = 1) (hc : cells ≤ mc) (hs0 : slots ≤ ms) : pd_V E l R (own, cc, nL, ret, nm) (pd_Qm E al (some (pd_I x)) sh F mc ms) al cells slots sh F pc L [pd_I x] := by
  intro p e s m args below meth c H locs ls st C hW hz hS hl hs
  obtain ⟨v, st1, rfl, ⟨x, rfl, rfl⟩, hs1⟩ := pd_sv_cons hs
  obtain rfl := pd_sv_nil hs1
  have hlocks : meth.locks = false := C.2.2.2.2.2.2.1.1
  have he := pd_end (args := args) (v := some (.int x)) (r := some (pd_I x.toInt)) ⟨x, rfl, rfl⟩ hW hz hS
  exact W.widen hc hs0 (W.zret C.1 C.2.1 (C.2.2.2.2.2.1.trans hr) (by rcases pd_01 hx with rfl | rfl <;> first | rfl | decide) he hS.2.2 hd)
theorem pd_vret (hd : decode cc pc = .ok (.return_, 1)) (hr : ret = none) (hc : cells ≤ mc) (hs0 : slots ≤ ms) : pd_V E l R (own, cc, nL, ret, nm) (pd_Qm E al none sh F mc ms) al cells slots sh F pc L [] := by
  intro p e s m args below meth c H locs ls st C hW hz hS hl hs
  obtain rfl := pd_sv_nil hs
  have hlocks : meth.locks = false := C.2.2.2.2.2.2.1.1
  have he := pd_end (args := args) (v := none) (r := none) trivial hW hz hS
  exact W.widen hc hs0 (W.vret C.1 C.2.1 (C.2.2.2.2.2.1.trans hr) he hS.2.2 hd)
theorem pd_aret {x : Int} {rt : FieldType} (hd : decode cc pc = .ok (.areturn, 1)) (hr : ret = some rt) (hrt : (∃ n, rt = .object n) ∨ ∃ t, rt = .array t) (hc : cells ≤ mc) (hs0 : slots ≤ ms) : pd_V E l R (own, cc, nL, ret, nm) (pd_Qm E al (some (pd_R x)) sh F mc ms) al cells slots sh F pc L [pd_R x] := by
  intro p e s m args below meth c H locs ls st C hW hz hS hl hs
  obtain ⟨v, st1, rfl, h0, hs1⟩ := pd_sv_cons hs
  obtain rfl := pd_sv_nil hs1
  have hlocks : meth.locks = false := C.2.2.2.2.2.2.1.1
  have he := pd_end (args := args) (v := some v) (r := some (pd_R x)) h0 hW hz hS
  exact W.widen hc hs0 (W.aret C.1 C.2.1 (C.2.2.2.2.2.1.trans hr) hrt (by rw [show v = pd_rf E x from h0]; exact pd_rf_or E x) he hS.2.2 hd)
theorem pd_after {p : Program} {e : Env} {s : State} {m : MethodId} {args a : Array Value} {below : List Frame} {meth : Method} {c : Code} {H : Heap} {locs : List Loc} {ls : Array Slot} {st0 rest : List Value} {Q : State → Prop} {r : Option pd_v} {sh' : pd_S} {F' : pd_F}
    (hr : va_Run p l e R s m args below meth c H locs cells slots mc ms (F0 m pc ls st0) rest (pd_Q E al r sh' F' a) (pd_A E)) (hS : va_S (pd_A E) s.heap H locs)
    (kk : ∀ (v : Option Value) (H1 : Heap) (locs1 : List Loc), pd_ro E v r → pd_Wd E sh' F' s H1 → (al = true → H1.size = E.2.1 + sh'.length + 1) → va_S (pd_A E) s.heap H1 locs1 → W p l e R s m args below meth c H1 locs1 (cells + mc) (slots + ms) Q (F0 m (pc + 3) ls (v.toList ++ rest))) : W p l e R s m args below meth c H locs cells slots Q (F0 m pc ls st0) := by
  intro T hT X
  obtain ⟨v, st₀, t, T', L, h0, X', hL, e1, e2, ⟨⟨v', hv, hro, hW, hz⟩, hz1, hk⟩, st⟩ := hr T hT X
  cases hv
  rw [h0] at hz1 hk
  rw [← e1] at hW hz hz1 hk
  obtain ⟨t2, a1, b1⟩ := kk v T'.heap (locs ++ L) hro (pd_Wd_moved (by rw [← e2]; exact X'.warmed.alike.symm) hW) hz
    ⟨Nat.le_trans hS.1 hz1, fun q h1 h2 => by rw [hk q (Nat.lt_of_lt_of_le h1 hS.1) h2]; exact hS.2.1 q h1 h2, fun q hq => by
      rcases List.mem_append.mp hq with h | h
      · exact hS.2.2 q h
      · exact hL q h⟩ T' rfl X'
  exact ⟨t2, st t2 a1, b1⟩
theorem pd_blind {sh : pd_S} {As : List Value} : FrameBlind (va_Pc As (pd_B E al sh F)) := by
  intro a U g mk h
  obtain ⟨h1, h2, h3, h4, h5⟩ := h
  exact ⟨h1, pd_Wd_moved (t := U.calling g mk a) (Vm.Alike.refl U.vm) h2, h3, h4, pd_Sk_same (t := U.calling g mk a) rfl (Vm.Alike.refl U.vm) h5⟩
theorem pd_start {s : State} {H : Heap} {locs : List Loc} {mm : pd_M} {p : Program} {m : MethodId} {args : Array Value} {meth : Method} {c : Code} (C : pd_Cx E mm p s m args meth c) (hW : pd_Wd E sh F s H) (hz : al = true → H.size = E.2.1 + sh.length + 1) (hS : va_S (pd_A E) s.heap H locs) {As : List Value} : ∀ U : State, U.heap = H → s.WarmedH U.vm → va_Pc As (pd_B E al sh F) As.toArray U :=
  fun U hU hm => ⟨rfl, by rw [hU]; exact pd_Wd_moved hm.alike hW, by rw [hU]; exact hz, by rw [hU]; exact Nat.lt_of_lt_of_le C.2.2.2.2.2.2.2.2.1 hS.1, by rw [hU]; exact pd_Sk_moved hm hS.2.1 C.2.2.2.2.2.2.2.2.2⟩
/-- what a caller must know of a callee -/
def pd_ok (R : Room) (d : Nat) (cells slots mc ms : Nat) (y : MethodName) (bytes : ByteArray) (maxL : Nat) (ret : Option FieldType) (n : Nat) : Prop :=
  (d + 1 ≤ R.frames ∧ 8 + (maxL + 11) + 64 * d ≤ R.locals ∧ cells + mc ≤ R.cells ∧ slots + ms ≤ R.slots) ∧ Cond.code y bytes maxL ret ∈ pd_gt ∧ Cond.initialized y.cls ∈ pd_gt ∧ (y.cls ≠ "java/lang/invoke/MethodHandle" ∧ y.cls ≠ "java/lang/invoke/VarHandle") ∧ (parseMethodDescriptor y.desc).map (fun d => d.parameters.length) = some n
theorem pd_pn {y : MethodName} {n : Nat} (h : (parseMethodDescriptor y.desc).map (fun d => d.parameters.length) = some n) : ∀ sig, parseMethodDescriptor y.desc = some sig → n = sig.parameters.length := by
  intro sig h2
  rw [h2] at h
  exact (Option.some.inj h).symm
theorem pd_gtw {s : State} {mm : pd_M} {p : Program} {m : MethodId} {args : Array Value} {meth : Method} {c : Code} (C : pd_Cx E mm p s m args meth c) {w0 : Cond} (h0 : w0 ∈ pd_gt) : ∀ w ∈ w0 :: pd_gt, ∀ (a' : Array Value) (U : State), s.WarmedH U.vm → w.before a' U = true := by
  intro w hw
  rcases List.mem_cons.mp hw with rfl | hw
  · exact pd_warm C.2.2.2.2.1 _ h0
  · exact pd_warm C.2.2.2.2.1 _ hw
theorem pd_catL {rest : List Value} (hs : pd_sv E rest S) (h : pd_cat S ≤ 8) {ls : Array Slot} {m : MethodId} {st0 : List Value} : 2 * (F0 m pc ls st0).monitorRoom + (rest.map fun v => v.category).sum ≤ 8 := by
  rw [pd_sv_cat hs]
  show 2 * 0 + _ ≤ 8
  omega

theorem pd_callV {y : MethodName} {bytes : ByteArray} {maxL d index : Nat} {ret' : Option FieldType} {xs S0 : List pd_v} {b : Int} {r : Option pd_v} {sh' : pd_S} {F' : pd_F} (hC : pd_C l y (Cond.code y bytes maxL ret' :: pd_gt) (pd_rm d mc ms) al mc ms sh F (pd_R b :: xs) r sh' F') (hd : decode cc pc = .ok (.invokevirtual index, 3)) (hlink : Cond.methodLink own index y ∈ pd_gt) (hinst : Cond.instanceMethod y ∈ pd_gt) (hsel : Cond.selects y.cls y y ∈ pd_gt) {ci : Nat} {T : u_T} {N : Nat} (hcl : vwCl[ci]? = some (y.cls, T, N)) (hob : pd_ob sh ci b = true)
    (hok : pd_ok R d cells slots mc ms y bytes maxL ret' xs.length) (hcat : pd_cat S ≤ 8) (hS0 : xs.reverse ++ pd_R b :: S = S0) (k : pd_V E l R (own, cc, nL, ret, nm) Qf al (cells + mc) (slots + ms) sh' F' (pc + 3) L (r.toList ++ S)) : pd_V E l R (own, cc, nL, ret, nm) Qf al cells slots sh F pc L S0 := by
  intro p e s m args below meth c H locs ls st C hW hz hS hl hs
  subst hS0
  obtain ⟨⟨r1, r2, r3, r4⟩, hcode, hinit, hy, hpn⟩ := hok
  obtain ⟨st1, st2, rfl, hs1, hs2⟩ := pd_sv_split _ hs
  obtain ⟨_, st3, rfl, h0, hs3⟩ := pd_sv_cons hs2
  have hs4 := pd_sv_rev hs1
  rw [List.reverse_reverse] at hs4
  obtain ⟨ws, tys, hK, hP, hD, hlen, hw⟩ := id hW
  obtain ⟨nn, h5⟩ := pd_ob_spec hob
  obtain ⟨g1, g2, e1, g3, g4, fs, r', rfl, g5, g6, g7⟩ := pd_sh_at h5 hw
  cases hcl.symm.trans g5
  obtain rfl := (show _ = pd_rf E b from h0).trans g4
  have hrecv : ∃ cellB : Cell, H[E.2.1 + b.toNat]? = some cellB ∧ cellB.vm.isStatics = false ∧ s.vm.findClass y.cls = some cellB.cls := by
    obtain ⟨r0, k1, cell, q1, q2, q3, -⟩ := hP _ _ g3
    cases hcl.symm.trans k1
    exact ⟨cell, q1, by rw [q3]; rfl, by rw [q2]; exact (hK.1 ci _ hcl).2.1⟩
  have hn : st1.reverse.length = xs.length := pd_sv_len hs4
  refine pd_after (va_runV (As := st1.reverse) (rest := st3) ⟨C.1, C.2.1, C.2.2.1, C.2.2.2.1, fun w hw => C.2.2.2.2.1 w hw⟩ (hC E (.ref (E.2.1 + b.toNat) :: st1.reverse) ⟨g4.symm, hs4⟩) ⟨(⟨rfl, rfl, r1, r2, pd_gtw C hcode, List.mem_cons_self, C.2.2.2.2.1 _ hcode, C.2.2.2.2.1 _ hinit, hy, pd_pn hpn, C.2.2.2.2.1 _ hlink⟩), C.2.2.2.2.1 _ hinst, C.2.2.2.2.1 _ hsel⟩ ⟨pd_blind, hrecv, pd_start C hW hz hS⟩ rfl hn hl.choose_spec.1.1 (by rw [List.reverse_reverse]) (pd_catL hs3 hcat) hd ⟨r3, r4⟩) hS (fun v H1 locs1 hro hW1 hz1 hS1 => ?_)
  refine k _ _ _ _ _ _ _ _ _ _ _ _ C hW1 hz1 hS1 hl ?_
  match v, r, hro with
  | none, none, _ => exact hs3
  | some v, some x, h => exact ⟨h, hs3⟩

theorem pd_callVN {host : String} {y : MethodName} {bytes : ByteArray} {maxL d index : Nat} {ret' : Option FieldType} {xs S0 : List pd_v} {b : Int} {r : Option pd_v} {sh' : pd_S} {F' : pd_F} (hC : pd_C l y (Cond.code y bytes maxL ret' :: pd_gt) (pd_rm d mc ms) al mc ms sh F (pd_R b :: xs) r sh' F') (hd : decode cc pc = .ok (.invokevirtual index, 3)) (hlink : Cond.methodLinkNest own index y host ∈ pd_gt) (hinst : Cond.instanceMethod y ∈ pd_gt) (hsel : Cond.selects y.cls y y ∈ pd_gt) {ci : Nat} {T : u_T} {N : Nat} (hcl : vwCl[ci]? = some (y.cls, T, N)) (hob : pd_ob sh ci b = true)
    (hok : pd_ok R d cells slots mc ms y bytes maxL ret' xs.length) (hcat : pd_cat S ≤ 8) (hS0 : xs.reverse ++ pd_R b :: S = S0) (k : pd_V E l R (own, cc, nL, ret, nm) Qf al (cells + mc) (slots + ms) sh' F' (pc + 3) L (r.toList ++ S)) : pd_V E l R (own, cc, nL, ret, nm) Qf al cells slots sh F pc L S0 := by
  intro p e s m args below meth c H locs ls st C hW hz hS hl hs
  subst hS0
  obtain ⟨⟨r1, r2, r3, r4⟩, hcode, hinit, hy, hpn⟩ := hok
  obtain ⟨st1, st2, rfl, hs1, hs2⟩ := pd_sv_split _ hs
  obtain ⟨_, st3, rfl, h0, hs3⟩ := pd_sv_cons hs2
  have hs4 := pd_sv_rev hs1
  rw [List.reverse_reverse] at hs4
  obtain ⟨ws, tys, hK, hP, hD, hlen, hw⟩ := id hW
  obtain ⟨nn, h5⟩ := pd_ob_spec hob
  obtain ⟨g1, g2, e1, g3, g4, fs, r', rfl, g5, g6, g7⟩ := pd_sh_at h5 hw
  cases hcl.symm.trans g5
  obtain rfl := (show _ = pd_rf E b from h0).trans g4
  have hrecv : ∃ cellB : Cell, H[E.2.1 + b.toNat]? = some cellB ∧ cellB.vm.isStatics = false ∧ s.vm.findClass y.cls = some cellB.cls := by
    obtain ⟨r0, k1, cell, q1, q2, q3, -⟩ := hP _ _ g3
    cases hcl.symm.trans k1
    exact ⟨cell, q1, by rw [q3]; rfl, by rw [q2]; exact (hK.1 ci _ hcl).2.1⟩
  have hn : st1.reverse.length = xs.length := pd_sv_len hs4
  refine pd_after (va_runVN (As := st1.reverse) (rest := st3) ⟨C.1, C.2.1, C.2.2.1, C.2.2.2.1, fun w hw => C.2.2.2.2.1 w hw⟩ (hC E (.ref (E.2.1 + b.toNat) :: st1.reverse) ⟨g4.symm, hs4⟩) ⟨(⟨⟨rfl, rfl, r1, r2, pd_gtw C hcode, List.mem_cons_self⟩, C.2.2.2.2.1 _ hcode, C.2.2.2.2.1 _ hinit, hy, pd_pn hpn, C.2.2.2.2.1 _ hlink⟩), C.2.2.2.2.1 _ hinst, C.2.2.2.2.1 _ hsel⟩ ⟨pd_blind, hrecv, pd_start C hW hz hS⟩ rfl hn hl.choose_spec.1.1 (by rw [List.reverse_reverse]) (pd_catL hs3 hcat) hd ⟨r3, r4⟩) hS (fun v H1 locs1 hro hW1 hz1 hS1 => ?_)
  refine k _ _ _ _ _ _ _ _ _ _ _ _ C hW1 hz1 hS1 hl ?_
  match v, r, hro with
  | none, none, _ => exact hs3
  | some v, some x, h => exact ⟨h, hs3⟩

theorem pd_callSE {y : MethodName} {bytes : ByteArray} {maxL d index : Nat} {ret' : Option FieldType} {xs S0 : List pd_v} {r : Option pd_v} {sh' : pd_S} {F' : pd_F} (hC : pd_CE E l y (Cond.code y bytes maxL ret' :: pd_gt) (pd_rm d mc ms) al mc ms sh F xs r sh' F') (hd : decode cc pc = .ok (.invokestatic index, 3)) (hlink : Cond.methodLink own index y ∈ pd_gt) (hst : Cond.static y ∈ pd_gt)
    (hok : pd_ok R d cells slots mc ms y bytes maxL ret' xs.length) (hcat : pd_cat S ≤ 8) (hS0 : xs.reverse ++ S = S0) (k : pd_V E l R (own, cc, nL, ret, nm) Qf al (cells + mc) (slots + ms) sh' F' (pc + 3) L (r.toList ++ S)) : pd_V E l R (own, cc, nL, ret, nm) Qf al cells slots sh F pc L S0 := by
  intro p e s m args below meth c H locs ls st C hW hz hS hl hs
  subst hS0
  obtain ⟨⟨r1, r2, r3, r4⟩, hcode, hinit, hy, hpn⟩ := hok
  obtain ⟨st1, st3, rfl, hs1, hs3⟩ := pd_sv_split _ hs
  have hs4 := pd_sv_rev hs1
  rw [List.reverse_reverse] at hs4
  have hn : st1.reverse.length = xs.length := pd_sv_len hs4
  refine pd_after (va_runS (As := st1.reverse) (rest := st3) ⟨C.1, C.2.1, C.2.2.1, C.2.2.2.1, fun w hw => C.2.2.2.2.1 w hw⟩ (hC st1.reverse hs4) ⟨(⟨rfl, rfl, r1, r2, pd_gtw C hcode, List.mem_cons_self, C.2.2.2.2.1 _ hcode, C.2.2.2.2.1 _ hinit, hy, pd_pn hpn, C.2.2.2.2.1 _ hlink⟩), C.2.2.2.2.1 _ hst⟩ ⟨pd_blind, pd_start C hW hz hS⟩ rfl hn hl.choose_spec.1.1 (by rw [List.reverse_reverse]) (pd_catL hs3 hcat) hd ⟨r3, r4⟩) hS (fun v H1 locs1 hro hW1 hz1 hS1 => ?_)
  refine k _ _ _ _ _ _ _ _ _ _ _ _ C hW1 hz1 hS1 hl ?_
  match v, r, hro with
  | none, none, _ => exact hs3
  | some v, some x, h => exact ⟨h, hs3⟩

theorem pd_callS {y : MethodName} {bytes : ByteArray} {maxL d index : Nat} {ret' : Option FieldType} {xs S0 : List pd_v} {r : Option pd_v} {sh' : pd_S} {F' : pd_F} (hC : pd_C l y (Cond.code y bytes maxL ret' :: pd_gt) (pd_rm d mc ms) al mc ms sh F xs r sh' F') (hd : decode cc pc = .ok (.invokestatic index, 3)) (hlink : Cond.methodLink own index y ∈ pd_gt) (hst : Cond.static y ∈ pd_gt)
    (hok : pd_ok R d cells slots mc ms y bytes maxL ret' xs.length) (hcat : pd_cat S ≤ 8) (hS0 : xs.reverse ++ S = S0) (k : pd_V E l R (own, cc, nL, ret, nm) Qf al (cells + mc) (slots + ms) sh' F' (pc + 3) L (r.toList ++ S)) : pd_V E l R (own, cc, nL, ret, nm) Qf al cells slots sh F pc L S0 := by
  intro p e s m args below meth c H locs ls st C hW hz hS hl hs
  subst hS0
  obtain ⟨⟨r1, r2, r3, r4⟩, hcode, hinit, hy, hpn⟩ := hok
  obtain ⟨st1, st3, rfl, hs1, hs3⟩ := pd_sv_split _ hs
  have hs4 := pd_sv_rev hs1
  rw [List.reverse_reverse] at hs4
  have hn : st1.reverse.length = xs.length := pd_sv_len hs4
  refine pd_after (va_runS (As := st1.reverse) (rest := st3) ⟨C.1, C.2.1, C.2.2.1, C.2.2.2.1, fun w hw => C.2.2.2.2.1 w hw⟩ (hC E st1.reverse hs4) ⟨(⟨rfl, rfl, r1, r2, pd_gtw C hcode, List.mem_cons_self, C.2.2.2.2.1 _ hcode, C.2.2.2.2.1 _ hinit, hy, pd_pn hpn, C.2.2.2.2.1 _ hlink⟩), C.2.2.2.2.1 _ hst⟩ ⟨pd_blind, pd_start C hW hz hS⟩ rfl hn hl.choose_spec.1.1 (by rw [List.reverse_reverse]) (pd_catL hs3 hcat) hd ⟨r3, r4⟩) hS (fun v H1 locs1 hro hW1 hz1 hS1 => ?_)
  refine k _ _ _ _ _ _ _ _ _ _ _ _ C hW1 hz1 hS1 hl ?_
  match v, r, hro with
  | none, none, _ => exact hs3
  | some v, some x, h => exact ⟨h, hs3⟩

theorem pd_callSN {host : String} {y : MethodName} {bytes : ByteArray} {maxL d index : Nat} {ret' : Option FieldType} {xs S0 : List pd_v} {r : Option pd_v} {sh' : pd_S} {F' : pd_F} (hC : pd_C l y (Cond.code y bytes maxL ret' :: pd_gt) (pd_rm d mc ms) al mc ms sh F xs r sh' F') (hd : decode cc pc = .ok (.invokestatic index, 3)) (hlink : Cond.methodLinkNest own index y host ∈ pd_gt) (hst : Cond.static y ∈ pd_gt)
    (hok : pd_ok R d cells slots mc ms y bytes maxL ret' xs.length) (hcat : pd_cat S ≤ 8) (hS0 : xs.reverse ++ S = S0) (k : pd_V E l R (own, cc, nL, ret, nm) Qf al (cells + mc) (slots + ms) sh' F' (pc + 3) L (r.toList ++ S)) : pd_V E l R (own, cc, nL, ret, nm) Qf al cells slots sh F pc L S0 := by
  intro p e s m args below meth c H locs ls st C hW hz hS hl hs
  subst hS0
  obtain ⟨⟨r1, r2, r3, r4⟩, hcode, hinit, hy, hpn⟩ := hok
  obtain ⟨st1, st3, rfl, hs1, hs3⟩ := pd_sv_split _ hs
  have hs4 := pd_sv_rev hs1
  rw [List.reverse_reverse] at hs4
  have hn : st1.reverse.length = xs.length := pd_sv_len hs4
  refine pd_after (va_runSN (As := st1.reverse) (rest := st3) ⟨C.1, C.2.1, C.2.2.1, C.2.2.2.1, fun w hw => C.2.2.2.2.1 w hw⟩ (hC E st1.reverse hs4) ⟨(⟨⟨rfl, rfl, r1, r2, pd_gtw C hcode, List.mem_cons_self⟩, C.2.2.2.2.1 _ hcode, C.2.2.2.2.1 _ hinit, hy, pd_pn hpn, C.2.2.2.2.1 _ hlink⟩), C.2.2.2.2.1 _ hst, trivial⟩ ⟨pd_blind, pd_start C hW hz hS⟩ rfl hn hl.choose_spec.1.1 (by rw [List.reverse_reverse]) (pd_catL hs3 hcat) hd ⟨r3, r4⟩) hS (fun v H1 locs1 hro hW1 hz1 hS1 => ?_)
  refine k _ _ _ _ _ _ _ _ _ _ _ _ C hW1 hz1 hS1 hl ?_
  match v, r, hro with
  | none, none, _ => exact hs3
  | some v, some x, h => exact ⟨h, hs3⟩

theorem pd_callI {y : MethodName} {bytes : ByteArray} {maxL d index : Nat} {xs S0 : List pd_v} {b : Int} {r : Option pd_v} {sh' : pd_S} {F' : pd_F} (hC : pd_C l y (Cond.code y bytes maxL none :: pd_gt) (pd_rm d mc ms) al mc ms sh F (pd_R b :: xs) r sh' F') (hd : decode cc pc = .ok (.invokespecial index, 3)) (hlink : Cond.methodLink own index y ∈ pd_gt) (hinst : Cond.instanceMethod y ∈ pd_gt) (hini : y.name = "<init>") (hb0 : 1 ≤ b)
    (hok : pd_ok R d cells slots mc ms y bytes maxL none xs.length) (hcat : pd_cat S ≤ 8) (hS0 : xs.reverse ++ pd_R b :: S = S0) (k : pd_V E l R (own, cc, nL, ret, nm) Qf al (cells + mc) (slots + ms) sh' F' (pc + 3) L (r.toList ++ S)) : pd_V E l R (own, cc, nL, ret, nm) Qf al cells slots sh F pc L S0 := by
  intro p e s m args below meth c H locs ls st C hW hz hS hl hs
  subst hS0
  obtain ⟨⟨r1, r2, r3, r4⟩, hcode, hinit, hy, hpn⟩ := hok
  obtain ⟨st1, st2, rfl, hs1, hs2⟩ := pd_sv_split _ hs
  obtain ⟨_, st3, rfl, h0, hs3⟩ := pd_sv_cons hs2
  have hs4 := pd_sv_rev hs1
  rw [List.reverse_reverse] at hs4
  have g4 : pd_rf E b = .ref (E.2.1 + b.toNat) := by
    unfold pd_rf
    rw [if_neg (by omega), if_neg (by omega)]
  obtain rfl := (show _ = pd_rf E b from h0).trans g4
  have hn : st1.reverse.length = xs.length := pd_sv_len hs4
  refine pd_after (va_runI (As := st1.reverse) (rest := st3) ⟨C.1, C.2.1, C.2.2.1, C.2.2.2.1, fun w hw => C.2.2.2.2.1 w hw⟩ (hC E (.ref (E.2.1 + b.toNat) :: st1.reverse) ⟨g4.symm, hs4⟩) ⟨(⟨rfl, rfl, r1, r2, pd_gtw C hcode, List.mem_cons_self, C.2.2.2.2.1 _ hcode, C.2.2.2.2.1 _ hinit, hy, pd_pn hpn, C.2.2.2.2.1 _ hlink⟩), hini, C.2.2.2.2.1 _ hinst⟩ ⟨pd_blind, pd_start C hW hz hS⟩ rfl hn hl.choose_spec.1.1 (by rw [List.reverse_reverse]) (pd_catL hs3 hcat) hd ⟨r3, r4⟩) hS (fun v H1 locs1 hro hW1 hz1 hS1 => ?_)
  refine k _ _ _ _ _ _ _ _ _ _ _ _ C hW1 hz1 hS1 hl ?_
  match v, r, hro with
  | none, none, _ => exact hs3
  | some v, some x, h => exact ⟨h, hs3⟩

theorem pd_callIN {host : String} {y : MethodName} {bytes : ByteArray} {maxL d index : Nat} {xs S0 : List pd_v} {b : Int} {r : Option pd_v} {sh' : pd_S} {F' : pd_F} (hC : pd_C l y (Cond.code y bytes maxL none :: pd_gt) (pd_rm d mc ms) al mc ms sh F (pd_R b :: xs) r sh' F') (hd : decode cc pc = .ok (.invokespecial index, 3)) (hlink : Cond.methodLinkNest own index y host ∈ pd_gt) (hinst : Cond.instanceMethod y ∈ pd_gt) (hini : y.name = "<init>") (hb0 : 1 ≤ b)
    (hok : pd_ok R d cells slots mc ms y bytes maxL none xs.length) (hcat : pd_cat S ≤ 8) (hS0 : xs.reverse ++ pd_R b :: S = S0) (k : pd_V E l R (own, cc, nL, ret, nm) Qf al (cells + mc) (slots + ms) sh' F' (pc + 3) L (r.toList ++ S)) : pd_V E l R (own, cc, nL, ret, nm) Qf al cells slots sh F pc L S0 := by
  intro p e s m args below meth c H locs ls st C hW hz hS hl hs
  subst hS0
  obtain ⟨⟨r1, r2, r3, r4⟩, hcode, hinit, hy, hpn⟩ := hok
  obtain ⟨st1, st2, rfl, hs1, hs2⟩ := pd_sv_split _ hs
  obtain ⟨_, st3, rfl, h0, hs3⟩ := pd_sv_cons hs2
  have hs4 := pd_sv_rev hs1
  rw [List.reverse_reverse] at hs4
  have g4 : pd_rf E b = .ref (E.2.1 + b.toNat) := by
    unfold pd_rf
    rw [if_neg (by omega), if_neg (by omega)]
  obtain rfl := (show _ = pd_rf E b from h0).trans g4
  have hn : st1.reverse.length = xs.length := pd_sv_len hs4
  refine pd_after (va_runIN (As := st1.reverse) (rest := st3) ⟨C.1, C.2.1, C.2.2.1, C.2.2.2.1, fun w hw => C.2.2.2.2.1 w hw⟩ (hC E (.ref (E.2.1 + b.toNat) :: st1.reverse) ⟨g4.symm, hs4⟩) ⟨(⟨⟨rfl, rfl, r1, r2, pd_gtw C hcode, List.mem_cons_self⟩, C.2.2.2.2.1 _ hcode, C.2.2.2.2.1 _ hinit, hy, pd_pn hpn, C.2.2.2.2.1 _ hlink⟩), hini, C.2.2.2.2.1 _ hinst⟩ ⟨pd_blind, pd_start C hW hz hS⟩ rfl hn hl.choose_spec.1.1 (by rw [List.reverse_reverse]) (pd_catL hs3 hcat) hd ⟨r3, r4⟩) hS (fun v H1 locs1 hro hW1 hz1 hS1 => ?_)
  refine k _ _ _ _ _ _ _ _ _ _ _ _ C hW1 hz1 hS1 hl ?_
  match v, r, hro with
  | none, none, _ => exact hs3
  | some v, some x, h => exact ⟨h, hs3⟩

end PDR
