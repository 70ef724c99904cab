/-! the words in which the functions are written, and what a row of theirs gives -/
def pd_l {α β : Type} (x : α) (f : α → β) : β := f x
def pd_i {α : Type} (p : Prop) [Decidable p] (x : Option α) : Option α := if p then x else none
theorem pd_ig {α : Type} {p : Prop} [Decidable p] {x : Option α} {z : α} (h : pd_i p x = some z) : p ∧ x = some z := by
  unfold pd_i at h
  split at h
  · rename_i hp; exact ⟨hp, h⟩
  · cases h
theorem pd_lt {α β : Type} {x y : α} {f : α → β} {z : β} (h : pd_l x f = z) (e : y = x) : f y = z := by subst e; exact h
theorem pd_lt0 {α β : Type} {x : α} {f : α → β} {z : β} (h : pd_l x f = z) : f x = z := h
theorem pd_ip {α : Type} {p : Prop} [Decidable p] {x y z : α} (h : (if p then x else y) = z) (hp : p) : x = z := by rwa [if_pos hp] at h
theorem pd_in_ {α : Type} {p : Prop} [Decidable p] {x y z : α} (h : (if p then x else y) = z) (hp : ¬ p) : y = z := by rwa [if_neg hp] at h
theorem pd_iq {α : Type} {a b : Int} {x y z : α} (h : (if a ≠ b then x else y) = z) (hp : a = b) : y = z := by rwa [if_neg (fun h2 => h2 hp)] at h
theorem pd_inj {α β : Type} {a c : α} {b d : β} (h : some (a, b) = some (c, d)) : c = a ∧ d = b := by
  cases h; exact ⟨rfl, rfl⟩
theorem pd_inj1 {α : Type} {a c : α} (h : some a = some c) : c = a := by
  cases h; rfl
/-- what one cell may hold at most, of those that strings make -/
def pd_U : Nat := 1200
theorem pd_inj3 {α β γ : Type} {a c : α} {b d : β} {x y : γ} (h : some (a, b, x) = some (c, d, y)) : c = a ∧ d = b ∧ y = x := by
  cases h; exact ⟨rfl, rfl, rfl⟩
theorem pd_ob3 {α β γ δ : Type} {o : Option (α × γ × δ)} {f : α → γ → δ → Option β} {z : β} (h : (Option.bind o fun q => pd_l q.1 fun a => pd_l q.2.1 fun b => pd_l q.2.2 fun c => f a b c) = some z) : ∃ a b c, o = some (a, b, c) ∧ f a b c = some z := by
  cases o with
  | none => cases h
  | some q => exact ⟨q.1, q.2.1, q.2.2, rfl, h⟩
theorem pd_ob1 {α β : Type} {o : Option α} {f : α → Option β} {z : β} (h : Option.bind o f = some z) : ∃ q, o = some q ∧ f q = some z := by
  cases o with
  | none => cases h
  | some q => exact ⟨q, rfl, h⟩
theorem pd_ob2 {α β γ : Type} {o : Option (α × γ)} {f : α → γ → Option β} {z : β} (h : (Option.bind o fun q => pd_l q.1 fun a => pd_l q.2 fun b => f a b) = some z) : ∃ a b, o = some (a, b) ∧ f a b = some z := by
  cases o with
  | none => cases h
  | some q => exact ⟨q.1, q.2, rfl, h⟩
theorem pd_rmR {d : Nat} : 1 ≤ (pd_rm (d + 1) 0 0).frames ∧ 64 ≤ (pd_rm (d + 1) 0 0).locals ∧ 0 ≤ (pd_rm (d + 1) 0 0).cells ∧ 0 ≤ (pd_rm (d + 1) 0 0).slots := by
  refine ⟨?_, ?_, Nat.zero_le _, Nat.zero_le _⟩
  · show 1 ≤ d + 1; omega
  · show 64 ≤ 64 * (d + 1); omega
theorem pd_rmR2 {d mc ms : Nat} : 1 ≤ (pd_rm (d + 1) mc ms).frames ∧ 64 ≤ (pd_rm (d + 1) mc ms).locals := by
  refine ⟨?_, ?_⟩
  · show 1 ≤ d + 1; omega
  · show 64 ≤ 64 * (d + 1); omega
theorem pd_okm {dR d maxL n : Nat} {y : MethodName} {bytes : ByteArray} {ret : Option FieldType} (h1 : d + 1 ≤ dR) (h2 : maxL ≤ 45) (hc : Cond.code y bytes maxL ret ∈ pd_gt) (hi : Cond.initialized y.cls ∈ pd_gt) (hy : y.cls ≠ "java/lang/invoke/MethodHandle" ∧ y.cls ≠ "java/lang/invoke/VarHandle") (hn : (parseMethodDescriptor y.desc).map (fun d => d.parameters.length) = some n) : pd_ok (pd_rm dR 0 0) d 0 0 0 0 y bytes maxL ret n := by
  refine ⟨⟨h1, ?_, Nat.le_refl 0, Nat.le_refl 0⟩, hc, hi, hy, hn⟩
  show 8 + (maxL + 11) + 64 * d ≤ 64 * dR
  omega
theorem pd_okA {dR d maxL n cells slots mc ms MC MS : Nat} {y : MethodName} {bytes : ByteArray} {ret : Option FieldType} (h1 : d + 1 ≤ dR) (h2 : maxL ≤ 45) (h3 : cells + mc ≤ MC) (h4 : slots + ms ≤ MS) (hc : Cond.code y bytes maxL ret ∈ pd_gt) (hi : Cond.initialized y.cls ∈ pd_gt) (hy : y.cls ≠ "java/lang/invoke/MethodHandle" ∧ y.cls ≠ "java/lang/invoke/VarHandle") (hn : (parseMethodDescriptor y.desc).map (fun d => d.parameters.length) = some n) : pd_ok (pd_rm dR MC MS) d cells slots mc ms y bytes maxL ret n := by
  refine ⟨⟨h1, ?_, h3, h4⟩, hc, hi, hy, hn⟩
  show 8 + (maxL + 11) + 64 * d ≤ 64 * dR
  omega
section PDN
variable {E : pd_E} {l : Launch} {R : Room} {own : String} {cc : ByteArray} {nL : Nat} {ret : Option FieldType} {nm : String} {Qf : State → Array Value → List Frame → State → Prop} {al : Bool} {cells slots : Nat} {sh : pd_S} {F : pd_F} {pc : Nat} {L S : List pd_v}

theorem pd_topI {x : Int} (k : ∀ y, y = x → pd_V E l R (own, cc, nL, ret, nm) Qf al cells slots sh F pc L (pd_I y :: S)) : pd_V E l R (own, cc, nL, ret, nm) Qf al cells slots sh F pc L (pd_I x :: S) := k x rfl
theorem pd_topJ {x : Int} (k : ∀ y, y = x → pd_V E l R (own, cc, nL, ret, nm) Qf al cells slots sh F pc L (pd_J y :: S)) : pd_V E l R (own, cc, nL, ret, nm) Qf al cells slots sh F pc L (pd_J x :: S) := k x rfl
theorem pd_topR {x : Int} (k : ∀ y, y = x → pd_V E l R (own, cc, nL, ret, nm) Qf al cells slots sh F pc L (pd_R y :: S)) : pd_V E l R (own, cc, nL, ret, nm) Qf al cells slots sh F pc L (pd_R x :: S) := k x rfl
theorem pd_topF (k : ∀ F1, F1 = F → pd_V E l R (own, cc, nL, ret, nm) Qf al cells slots sh F1 pc L S) : pd_V E l R (own, cc, nL, ret, nm) Qf al cells slots sh F pc L S := k F rfl
theorem pd_topS (k : ∀ sh1, sh1 = sh → pd_V E l R (own, cc, nL, ret, nm) Qf al cells slots sh1 F pc L S) : pd_V E l R (own, cc, nL, ret, nm) Qf al cells slots sh F pc L S := k sh rfl
theorem pd_iincN {i : Nat} {n x : Int} {L' : Int → List pd_v} (hd : decode cc pc = .ok (.iinc i n, 3)) (hg : L[i]? = some (pd_I x)) (hn : i < nL) (hv : (Int32.ofInt n).toInt = n) (hL : ∀ y, pd_st1 L i (pd_I y) = L' y) (k : ∀ y, y = pd_w (x + n) → pd_V E l R (own, cc, nL, ret, nm) Qf al cells slots sh F (pc + 3) (L' y) S) : pd_V E l R (own, cc, nL, ret, nm) Qf al cells slots sh F pc L S := pd_iinc hd hg hn hv (hL _) (k _ rfl)
theorem pd_tabE {dflt lo hi : Int} {offs : Array Int} {len : Nat} {x v off : Int} {tgt : Nat} (hd : decode cc pc = .ok (.tableswitch dflt lo hi offs, len)) (hx : x = v) (h1 : ¬ v < lo) (h2 : ¬ hi < v) (ho : offs[(v - lo).toNat]? = some off) (ht : (pc : Int) + off = (tgt : Int)) (k : pd_V E l R (own, cc, nL, ret, nm) Qf al cells slots sh F tgt L S) : pd_V E l R (own, cc, nL, ret, nm) Qf al cells slots sh F pc L (pd_I x :: S) := by
  subst hx
  exact pd_tab hd h1 h2 ho ht k
theorem pd_aalI {a i : Int} (hd : decode cc pc = .ok (.aaload, 1)) (hi : pd_ib sh 3 0 a i = true) (k : pd_V E l R (own, cc, nL, ret, nm) Qf al cells slots sh F (pc + 1) L (pd_R (F a i) :: S)) : pd_V E l R (own, cc, nL, ret, nm) Qf al cells slots sh F pc L (pd_I i :: pd_R a :: S) := by
  intro p e s m args below meth c H locs ls st C hW hz hS hl hs
  obtain ⟨_, st1, rfl, ⟨i, rfl, rfl⟩, hs1⟩ := pd_sv_cons hs
  obtain ⟨_, st2, rfl, h0, hs2⟩ := pd_sv_cons hs1
  obtain ⟨n, h1, h2, h3⟩ := pd_ib_spec hi
  obtain ⟨ws, tys, hK, hP, hD, hlen, hw⟩ := id hW
  obtain ⟨h4, h5, e1, h6, h7, cA, f, t0, rfl, h8, h9, g1⟩ := pd_sh_at h1 hw
  obtain rfl := (show _ = pd_rf E a from h0).trans h7
  obtain ⟨j1, j2, j3⟩ := pd_idx h2 h3
  have hlt : i.toNatClampNeg < n := j2
  refine W.aald (ty := .array .int) (v := va_rf (f i.toNatClampNeg)) C.1 C.2.1 (hP _ _ h6) ((hK.2 t0 _ h8).1 n (fun j => va_rf (f j))) rfl (fun q => by cases q) (by show ¬ (i < 0 ∨ (arrV _ _ _).slots.size ≤ _); rw [arrV_size]; exact j1) (by show (arrV _ _ _).slots[_]? = _; rw [arrV_read _ _ hlt]) rfl rfl hd (W.eq (g2 := F0 m (pc + 1) ls (va_rf (f i.toNatClampNeg) :: st2)) rfl (k _ _ _ _ _ _ _ _ _ _ _ _ C hW hz hS hl ⟨?_, hs2⟩))
  rw [← j3]
  exact g1 _ j2

theorem pd_ldcS {k0 i : Nat} {tx : String} {bs : List Int32} (hd : decode cc pc = .ok (.ldc i, 2)) (hk : pd_strT[k0]? = some (own, i, tx, bs)) (k : pd_V E l R (own, cc, nL, ret, nm) Qf al cells slots sh F (pc + 2) L (pd_R (-((k0 : Int) + 1)) :: S)) : pd_V E l R (own, cc, nL, ret, nm) Qf al cells slots sh F pc L S := by
  intro p e s m args below meth c H locs ls st C hW hz hS hl hs
  have h := C.2.2.2.2.2.2.2.2.2.2.1 _ _ hk
  refine va_ldcS C.1 C.2.1 C.2.2.2.1 h hd (k _ _ _ _ _ _ _ _ _ _ _ _ C hW hz hS hl ⟨?_, hs⟩)
  show _ = pd_rf E _
  unfold pd_rf
  rw [if_neg (by omega), if_pos (by omega), show (-(-((k0 : Int) + 1)) - 1).toNat = k0 by omega]

end PDN
theorem pin_0 : ∀ w ∈ u_ws RX0 TX0 15, w ∈ pd_gt := by
  intro w hw
  obtain ⟨k, hk, rfl⟩ := List.mem_map.mp hw
  have hk := List.mem_range.mp hk
  match k, hk with
  | 0, _ => exact pd_in 277 (by decide +kernel) (by decide +kernel)
  | 1, _ => exact pd_in 279 (by decide +kernel) (by decide +kernel)
  | 2, _ => exact pd_in 281 (by decide +kernel) (by decide +kernel)
  | 3, _ => exact pd_in 283 (by decide +kernel) (by decide +kernel)
  | 4, _ => exact pd_in 285 (by decide +kernel) (by decide +kernel)
  | 5, _ => exact pd_in 287 (by decide +kernel) (by decide +kernel)
  | 6, _ => exact pd_in 289 (by decide +kernel) (by decide +kernel)
  | 7, _ => exact pd_in 291 (by decide +kernel) (by decide +kernel)
  | 8, _ => exact pd_in 293 (by decide +kernel) (by decide +kernel)
  | 9, _ => exact pd_in 295 (by decide +kernel) (by decide +kernel)
  | 10, _ => exact pd_in 297 (by decide +kernel) (by decide +kernel)
  | 11, _ => exact pd_in 299 (by decide +kernel) (by decide +kernel)
  | 12, _ => exact pd_in 301 (by decide +kernel) (by decide +kernel)
  | 13, _ => exact pd_in 303 (by decide +kernel) (by decide +kernel)
  | 14, _ => exact pd_in 305 (by decide +kernel) (by decide +kernel)
  | k + 15, h => exact absurd h (by omega)

theorem pin_1 : ∀ w ∈ u_ws RX1 TX1 4, w ∈ pd_gt := by
  intro w hw
  obtain ⟨k, hk, rfl⟩ := List.mem_map.mp hw
  have hk := List.mem_range.mp hk
  match k, hk with
  | 0, _ => exact pd_in 217 (by decide +kernel) (by decide +kernel)
  | 1, _ => exact pd_in 219 (by decide +kernel) (by decide +kernel)
  | 2, _ => exact pd_in 221 (by decide +kernel) (by decide +kernel)
  | 3, _ => exact pd_in 223 (by decide +kernel) (by decide +kernel)
  | k + 4, h => exact absurd h (by omega)

theorem pin_2 : ∀ w ∈ u_ws RX2 TX2 8, w ∈ pd_gt := by
  intro w hw
  obtain ⟨k, hk, rfl⟩ := List.mem_map.mp hw
  have hk := List.mem_range.mp hk
  match k, hk with
  | 0, _ => exact pd_in 187 (by decide +kernel) (by decide +kernel)
  | 1, _ => exact pd_in 189 (by decide +kernel) (by decide +kernel)
  | 2, _ => exact pd_in 191 (by decide +kernel) (by decide +kernel)
  | 3, _ => exact pd_in 193 (by decide +kernel) (by decide +kernel)
  | 4, _ => exact pd_in 195 (by decide +kernel) (by decide +kernel)
  | 5, _ => exact pd_in 197 (by decide +kernel) (by decide +kernel)
  | 6, _ => exact pd_in 199 (by decide +kernel) (by decide +kernel)
  | 7, _ => exact pd_in 201 (by decide +kernel) (by decide +kernel)
  | k + 8, h => exact absurd h (by omega)

theorem pin_3 : ∀ w ∈ u_ws RX3 TX3 5, w ∈ pd_gt := by
  intro w hw
  obtain ⟨k, hk, rfl⟩ := List.mem_map.mp hw
  have hk := List.mem_range.mp hk
  match k, hk with
  | 0, _ => exact pd_in 369 (by decide +kernel) (by decide +kernel)
  | 1, _ => exact pd_in 371 (by decide +kernel) (by decide +kernel)
  | 2, _ => exact pd_in 373 (by decide +kernel) (by decide +kernel)
  | 3, _ => exact pd_in 375 (by decide +kernel) (by decide +kernel)
  | 4, _ => exact pd_in 377 (by decide +kernel) (by decide +kernel)
  | k + 5, h => exact absurd h (by omega)

theorem pin_4 : ∀ w ∈ u_ws RX4 TX4 7, w ∈ pd_gt := by
  intro w hw
  obtain ⟨k, hk, rfl⟩ := List.mem_map.mp hw
  have hk := List.mem_range.mp hk
  match k, hk with
  | 0, _ => exact pd_in 443 (by decide +kernel) (by decide +kernel)
  | 1, _ => exact pd_in 445 (by decide +kernel) (by decide +kernel)
  | 2, _ => exact pd_in 447 (by decide +kernel) (by decide +kernel)
  | 3, _ => exact pd_in 449 (by decide +kernel) (by decide +kernel)
  | 4, _ => exact pd_in 451 (by decide +kernel) (by decide +kernel)
  | 5, _ => exact pd_in 453 (by decide +kernel) (by decide +kernel)
  | 6, _ => exact pd_in 455 (by decide +kernel) (by decide +kernel)
  | k + 7, h => exact absurd h (by omega)

theorem pin_5 : ∀ w ∈ u_ws RX5 TX5 5, w ∈ pd_gt := by
  intro w hw
  obtain ⟨k, hk, rfl⟩ := List.mem_map.mp hw
  have hk := List.mem_range.mp hk
  match k, hk with
  | 0, _ => exact pd_in 152 (by decide +kernel) (by decide +kernel)
  | 1, _ => exact pd_in 154 (by decide +kernel) (by decide +kernel)
  | 2, _ => exact pd_in 156 (by decide +kernel) (by decide +kernel)
  | 3, _ => exact pd_in 158 (by decide +kernel) (by decide +kernel)
  | 4, _ => exact pd_in 160 (by decide +kernel) (by decide +kernel)
  | k + 5, h => exact absurd h (by omega)

theorem pin_6 : ∀ w ∈ u_ws RX6 TX6 3, w ∈ pd_gt := by
  intro w hw
  obtain ⟨k, hk, rfl⟩ := List.mem_map.mp hw
  have hk := List.mem_range.mp hk
  match k, hk with
  | 0, _ => exact pd_in 312 (by decide +kernel) (by decide +kernel)
  | 1, _ => exact pd_in 314 (by decide +kernel) (by decide +kernel)
  | 2, _ => exact pd_in 316 (by decide +kernel) (by decide +kernel)
  | k + 3, h => exact absurd h (by omega)

theorem pin_7 : ∀ w ∈ u_ws RX7 TX7 2, w ∈ pd_gt := by
  intro w hw
  obtain ⟨k, hk, rfl⟩ := List.mem_map.mp hw
  have hk := List.mem_range.mp hk
  match k, hk with
  | 0, _ => exact pd_in 393 (by decide +kernel) (by decide +kernel)
  | 1, _ => exact pd_in 395 (by decide +kernel) (by decide +kernel)
  | k + 2, h => exact absurd h (by omega)

theorem pin_8 : ∀ w ∈ u_ws RX8 TX8 6, w ∈ pd_gt := by
  intro w hw
  obtain ⟨k, hk, rfl⟩ := List.mem_map.mp hw
  have hk := List.mem_range.mp hk
  match k, hk with
  | 0, _ => exact pd_in 349 (by decide +kernel) (by decide +kernel)
  | 1, _ => exact pd_in 351 (by decide +kernel) (by decide +kernel)
  | 2, _ => exact pd_in 353 (by decide +kernel) (by decide +kernel)
  | 3, _ => exact pd_in 355 (by decide +kernel) (by decide +kernel)
  | 4, _ => exact pd_in 357 (by decide +kernel) (by decide +kernel)
  | 5, _ => exact pd_in 359 (by decide +kernel) (by decide +kernel)
  | k + 6, h => exact absurd h (by omega)

theorem pin_9 : ∀ w ∈ u_ws RX9 TX9 9, w ∈ pd_gt := by
  intro w hw
  obtain ⟨k, hk, rfl⟩ := List.mem_map.mp hw
  have hk := List.mem_range.mp hk
  match k, hk with
  | 0, _ => exact pd_in 101 (by decide +kernel) (by decide +kernel)
  | 1, _ => exact pd_in 103 (by decide +kernel) (by decide +kernel)
  | 2, _ => exact pd_in 105 (by decide +kernel) (by decide +kernel)
  | 3, _ => exact pd_in 107 (by decide +kernel) (by decide +kernel)
  | 4, _ => exact pd_in 109 (by decide +kernel) (by decide +kernel)
  | 5, _ => exact pd_in 111 (by decide +kernel) (by decide +kernel)
  | 6, _ => exact pd_in 113 (by decide +kernel) (by decide +kernel)
  | 7, _ => exact pd_in 115 (by decide +kernel) (by decide +kernel)
  | 8, _ => exact pd_in 117 (by decide +kernel) (by decide +kernel)
  | k + 9, h => exact absurd h (by omega)

theorem pin_10 : ∀ w ∈ u_ws RX10 TX10 4, w ∈ pd_gt := by
  intro w hw
  obtain ⟨k, hk, rfl⟩ := List.mem_map.mp hw
  have hk := List.mem_range.mp hk
  match k, hk with
  | 0, _ => exact pd_in 421 (by decide +kernel) (by decide +kernel)
  | 1, _ => exact pd_in 423 (by decide +kernel) (by decide +kernel)
  | 2, _ => exact pd_in 425 (by decide +kernel) (by decide +kernel)
  | 3, _ => exact pd_in 427 (by decide +kernel) (by decide +kernel)
  | k + 4, h => exact absurd h (by omega)

theorem pin_11 : ∀ w ∈ u_ws RX11 TX11 10, w ∈ pd_gt := by
  intro w hw
  obtain ⟨k, hk, rfl⟩ := List.mem_map.mp hw
  have hk := List.mem_range.mp hk
  match k, hk with
  | 0, _ => exact pd_in 471 (by decide +kernel) (by decide +kernel)
  | 1, _ => exact pd_in 473 (by decide +kernel) (by decide +kernel)
  | 2, _ => exact pd_in 475 (by decide +kernel) (by decide +kernel)
  | 3, _ => exact pd_in 477 (by decide +kernel) (by decide +kernel)
  | 4, _ => exact pd_in 479 (by decide +kernel) (by decide +kernel)
  | 5, _ => exact pd_in 481 (by decide +kernel) (by decide +kernel)
  | 6, _ => exact pd_in 483 (by decide +kernel) (by decide +kernel)
  | 7, _ => exact pd_in 485 (by decide +kernel) (by decide +kernel)
  | 8, _ => exact pd_in 487 (by decide +kernel) (by decide +kernel)
  | 9, _ => exact pd_in 489 (by decide +kernel) (by decide +kernel)
  | k + 10, h => exact absurd h (by omega)

theorem pin_12 : ∀ w ∈ u_ws RX12 TX12 4, w ∈ pd_gt := by
  intro w hw
  obtain ⟨k, hk, rfl⟩ := List.mem_map.mp hw
  have hk := List.mem_range.mp hk
  match k, hk with
  | 0, _ => exact pd_in 997 (by decide +kernel) (by decide +kernel)
  | 1, _ => exact pd_in 999 (by decide +kernel) (by decide +kernel)
  | 2, _ => exact pd_in 1001 (by decide +kernel) (by decide +kernel)
  | 3, _ => exact pd_in 1003 (by decide +kernel) (by decide +kernel)
  | k + 4, h => exact absurd h (by omega)

theorem pin_13 : ∀ w ∈ u_ws RX13 TX13 4, w ∈ pd_gt := by
  intro w hw
  obtain ⟨k, hk, rfl⟩ := List.mem_map.mp hw
  have hk := List.mem_range.mp hk
  match k, hk with
  | 0, _ => exact pd_in 792 (by decide +kernel) (by decide +kernel)
  | 1, _ => exact pd_in 794 (by decide +kernel) (by decide +kernel)
  | 2, _ => exact pd_in 796 (by decide +kernel) (by decide +kernel)
  | 3, _ => exact pd_in 798 (by decide +kernel) (by decide +kernel)
  | k + 4, h => exact absurd h (by omega)

