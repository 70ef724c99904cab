/-! the words in which the functions are written, and what a row of theirs gives -/
def pd_l {α β : Type} (x : α) (f : α → β) : β := f x
def pd_i {α : Type} (p : Prop) [Decidable p] (x : Option α) : Option α := if p then x else none
theorem pd_ig {α : Type} {p : Prop} [Decidable p] {x : Option α} {z : α} (h : pd_i p x = some z) : p ∧ x = some z := by
  unfold pd_i at h
  split at h
  · rename_i hp; exact ⟨hp, h⟩
  · cases h
theorem pd_lt {α β : Type} {x y : α} {f : α → β} {z : β} (h : pd_l x f = z) (e : y = x) : f y = z := by subst e; exact h
theorem pd_lt0 {α β : Type} {x : α} {f : α → β} {z : β} (h : pd_l x f = z) : f x = z := h
theorem pd_ip {α : Type} {p : Prop} [Decidable p] {x y z : α} (h : (if p then x else y) = z) (hp : p) : x = z := by rwa [if_pos hp] at h
theorem pd_in_ {α : Type} {p : Prop} [Decidable p] {x y z : α} (h : (if p then x else y) = z) (hp : ¬ p) : y = z := by rwa [if_neg hp] at h
theorem pd_iq {α : Type} {a b : Int} {x y z : α} (h : (if a ≠ b then x else y) = z) (hp : a = b) : y = z := by rwa [if_neg (fun h2 => h2 hp)] at h
theorem pd_inj {α β : Type} {a c : α} {b d : β} (h : some (a, b) = some (c, d)) : c = a ∧ d = b := by
  cases h; exact ⟨rfl, rfl⟩
theorem pd_inj1 {α : Type} {a c : α} (h : some a = some c) : c = a := by
  cases h; rfl
theorem pd_ob1 {α β : Type} {o : Option α} {f : α → Option β} {z : β} (h : Option.bind o f = some z) : ∃ q, o = some q ∧ f q = some z := by
  cases o with
  | none => cases h
  | some q => exact ⟨q, rfl, h⟩
theorem pd_ob2 {α β γ : Type} {o : Option (α × γ)} {f : α → γ → Option β} {z : β} (h : (Option.bind o fun q => pd_l q.1 fun a => pd_l q.2 fun b => f a b) = some z) : ∃ a b, o = some (a, b) ∧ f a b = some z := by
  cases o with
  | none => cases h
  | some q => exact ⟨q.1, q.2, rfl, h⟩
theorem pd_rmR {d : Nat} : 1 ≤ (pd_rm (d + 1) 0 0).frames ∧ 64 ≤ (pd_rm (d + 1) 0 0).locals ∧ 0 ≤ (pd_rm (d + 1) 0 0).cells ∧ 0 ≤ (pd_rm (d + 1) 0 0).slots := by
  refine ⟨?_, ?_, Nat.zero_le _, Nat.zero_le _⟩
  · show 1 ≤ d + 1; omega
  · show 64 ≤ 64 * (d + 1); omega
theorem pd_rmR2 {d mc ms : Nat} : 1 ≤ (pd_rm (d + 1) mc ms).frames ∧ 64 ≤ (pd_rm (d + 1) mc ms).locals := by
  refine ⟨?_, ?_⟩
  · show 1 ≤ d + 1; omega
  · show 64 ≤ 64 * (d + 1); omega
theorem pd_okm {dR d maxL n : Nat} {y : MethodName} {bytes : ByteArray} {ret : Option FieldType} (h1 : d + 1 ≤ dR) (h2 : maxL ≤ 45) (hc : Cond.code y bytes maxL ret ∈ pd_gt) (hi : Cond.initialized y.cls ∈ pd_gt) (hy : y.cls ≠ "java/lang/invoke/MethodHandle" ∧ y.cls ≠ "java/lang/invoke/VarHandle") (hn : (parseMethodDescriptor y.desc).map (fun d => d.parameters.length) = some n) : pd_ok (pd_rm dR 0 0) d 0 0 0 0 y bytes maxL ret n := by
  refine ⟨⟨h1, ?_, Nat.le_refl 0, Nat.le_refl 0⟩, hc, hi, hy, hn⟩
  show 8 + (maxL + 11) + 64 * d ≤ 64 * dR
  omega
theorem pd_okA {dR d maxL n cells slots mc ms MC MS : Nat} {y : MethodName} {bytes : ByteArray} {ret : Option FieldType} (h1 : d + 1 ≤ dR) (h2 : maxL ≤ 45) (h3 : cells + mc ≤ MC) (h4 : slots + ms ≤ MS) (hc : Cond.code y bytes maxL ret ∈ pd_gt) (hi : Cond.initialized y.cls ∈ pd_gt) (hy : y.cls ≠ "java/lang/invoke/MethodHandle" ∧ y.cls ≠ "java/lang/invoke/VarHandle") (hn : (parseMethodDescriptor y.desc).map (fun d => d.parameters.length) = some n) : pd_ok (pd_rm dR MC MS) d cells slots mc ms y bytes maxL ret n := by
  refine ⟨⟨h1, ?_, h3, h4⟩, hc, hi, hy, hn⟩
  show 8 + (maxL + 11) + 64 * d ≤ 64 * dR
  omega
section PDN
variable {E : pd_E} {l : Launch} {R : Room} {own : String} {cc : ByteArray} {nL : Nat} {ret : Option FieldType} {nm : String} {Qf : State → Array Value → List Frame → State → Prop} {al : Bool} {cells slots : Nat} {sh : pd_S} {F : pd_F} {pc : Nat} {L S : List pd_v}

theorem pd_topI {x : Int} (k : ∀ y, y = x → pd_V E l R (own, cc, nL, ret, nm) Qf al cells slots sh F pc L (pd_I y :: S)) : pd_V E l R (own, cc, nL, ret, nm) Qf al cells slots sh F pc L (pd_I x :: S) := k x rfl
theorem pd_topJ {x : Int} (k : ∀ y, y = x → pd_V E l R (own, cc, nL, ret, nm) Qf al cells slots sh F pc L (pd_J y :: S)) : pd_V E l R (own, cc, nL, ret, nm) Qf al cells slots sh F pc L (pd_J x :: S) := k x rfl
theorem pd_topR {x : Int} (k : ∀ y, y = x → pd_V E l R (own, cc, nL, ret, nm) Qf al cells slots sh F pc L (pd_R y :: S)) : pd_V E l R (own, cc, nL, ret, nm) Qf al cells slots sh F pc L (pd_R x :: S) := k x rfl
theorem pd_topF (k : ∀ F1, F1 = F → pd_V E l R (own, cc, nL, ret, nm) Qf al cells slots sh F1 pc L S) : pd_V E l R (own, cc, nL, ret, nm) Qf al cells slots sh F pc L S := k F rfl
theorem pd_topS (k : ∀ sh1, sh1 = sh → pd_V E l R (own, cc, nL, ret, nm) Qf al cells slots sh1 F pc L S) : pd_V E l R (own, cc, nL, ret, nm) Qf al cells slots sh F pc L S := k sh rfl
theorem pd_iincN {i : Nat} {n x : Int} {L' : Int → List pd_v} (hd : decode cc pc = .ok (.iinc i n, 3)) (hg : L[i]? = some (pd_I x)) (hn : i < nL) (hv : (Int32.ofInt n).toInt = n) (hL : ∀ y, pd_st1 L i (pd_I y) = L' y) (k : ∀ y, y = pd_w (x + n) → pd_V E l R (own, cc, nL, ret, nm) Qf al cells slots sh F (pc + 3) (L' y) S) : pd_V E l R (own, cc, nL, ret, nm) Qf al cells slots sh F pc L S := pd_iinc hd hg hn hv (hL _) (k _ rfl)
theorem pd_tabE {dflt lo hi : Int} {offs : Array Int} {len : Nat} {x v off : Int} {tgt : Nat} (hd : decode cc pc = .ok (.tableswitch dflt lo hi offs, len)) (hx : x = v) (h1 : ¬ v < lo) (h2 : ¬ hi < v) (ho : offs[(v - lo).toNat]? = some off) (ht : (pc : Int) + off = (tgt : Int)) (k : pd_V E l R (own, cc, nL, ret, nm) Qf al cells slots sh F tgt L S) : pd_V E l R (own, cc, nL, ret, nm) Qf al cells slots sh F pc L (pd_I x :: S) := by
  subst hx
  exact pd_tab hd h1 h2 ho ht k
theorem pd_aalI {a i : Int} (hd : decode cc pc = .ok (.aaload, 1)) (hi : pd_ib sh 3 0 a i = true) (k : pd_V E l R (own, cc, nL, ret, nm) Qf al cells slots sh F (pc + 1) L (pd_R (F a i) :: S)) : pd_V E l R (own, cc, nL, ret, nm) Qf al cells slots sh F pc L (pd_I i :: pd_R a :: S) := by
  intro p e s m args below meth c H locs ls st C hW hz hS hl hs
  obtain ⟨_, st1, rfl, ⟨i, rfl, rfl⟩, hs1⟩ := pd_sv_cons hs
  obtain ⟨_, st2, rfl, h0, hs2⟩ := pd_sv_cons hs1
  obtain ⟨n, h1, h2, h3⟩ := pd_ib_spec hi
  obtain ⟨ws, tys, hK, hP, hD, hlen, hw⟩ := id hW
  obtain ⟨h4, h5, e1, h6, h7, cA, f, t0, rfl, h8, h9, g1⟩ := pd_sh_at h1 hw
  obtain rfl := (show _ = pd_rf E a from h0).trans h7
  obtain ⟨j1, j2, j3⟩ := pd_idx h2 h3
  have hlt : i.toNatClampNeg < n := j2
  refine W.aald (ty := .array .int) (v := va_rf (f i.toNatClampNeg)) C.1 C.2.1 (hP _ _ h6) ((hK.2 t0 _ h8).1 n (fun j => va_rf (f j))) rfl (fun q => by cases q) (by show ¬ (i < 0 ∨ (arrV _ _ _).slots.size ≤ _); rw [arrV_size]; exact j1) (by show (arrV _ _ _).slots[_]? = _; rw [arrV_read _ _ hlt]) rfl rfl hd (W.eq (g2 := F0 m (pc + 1) ls (va_rf (f i.toNatClampNeg) :: st2)) rfl (k _ _ _ _ _ _ _ _ _ _ _ _ C hW hz hS hl ⟨?_, hs2⟩))
  rw [← j3]
  exact g1 _ j2

theorem pd_ldcS {k0 i : Nat} {tx : String} {bs : List Int32} (hd : decode cc pc = .ok (.ldc i, 2)) (hk : pd_strT[k0]? = some (own, i, tx, bs)) (k : pd_V E l R (own, cc, nL, ret, nm) Qf al cells slots sh F (pc + 2) L (pd_R (-((k0 : Int) + 1)) :: S)) : pd_V E l R (own, cc, nL, ret, nm) Qf al cells slots sh F pc L S := by
  intro p e s m args below meth c H locs ls st C hW hz hS hl hs
  have h := C.2.2.2.2.2.2.2.2.2.2.1 _ _ hk
  refine va_ldcS C.1 C.2.1 C.2.2.2.1 h hd (k _ _ _ _ _ _ _ _ _ _ _ _ C hW hz hS hl ⟨?_, hs⟩)
  show _ = pd_rf E _
  unfold pd_rf
  rw [if_neg (by omega), if_pos (by omega), show (-(-((k0 : Int) + 1)) - 1).toNat = k0 by omega]

end PDN
theorem pin_0 : ∀ w ∈ u_ws RX0 TX0 15, w ∈ pd_gt := by
  intro w hw
  obtain ⟨k, hk, rfl⟩ := List.mem_map.mp hw
  have hk := List.mem_range.mp hk
  match k, hk with
  | 0, _ => exact pd_in 341 (by decide +kernel) (by decide +kernel)
  | 1, _ => exact pd_in 343 (by decide +kernel) (by decide +kernel)
  | 2, _ => exact pd_in 345 (by decide +kernel) (by decide +kernel)
  | 3, _ => exact pd_in 347 (by decide +kernel) (by decide +kernel)
  | 4, _ => exact pd_in 349 (by decide +kernel) (by decide +kernel)
  | 5, _ => exact pd_in 351 (by decide +kernel) (by decide +kernel)
  | 6, _ => exact pd_in 353 (by decide +kernel) (by decide +kernel)
  | 7, _ => exact pd_in 355 (by decide +kernel) (by decide +kernel)
  | 8, _ => exact pd_in 357 (by decide +kernel) (by decide +kernel)
  | 9, _ => exact pd_in 359 (by decide +kernel) (by decide +kernel)
  | 10, _ => exact pd_in 361 (by decide +kernel) (by decide +kernel)
  | 11, _ => exact pd_in 363 (by decide +kernel) (by decide +kernel)
  | 12, _ => exact pd_in 365 (by decide +kernel) (by decide +kernel)
  | 13, _ => exact pd_in 367 (by decide +kernel) (by decide +kernel)
  | 14, _ => exact pd_in 369 (by decide +kernel) (by decide +kernel)
  | k + 15, h => exact absurd h (by omega)

theorem pin_1 : ∀ w ∈ u_ws RX1 TX1 4, w ∈ pd_gt := by
  intro w hw
  obtain ⟨k, hk, rfl⟩ := List.mem_map.mp hw
  have hk := List.mem_range.mp hk
  match k, hk with
  | 0, _ => exact pd_in 278 (by decide +kernel) (by decide +kernel)
  | 1, _ => exact pd_in 280 (by decide +kernel) (by decide +kernel)
  | 2, _ => exact pd_in 282 (by decide +kernel) (by decide +kernel)
  | 3, _ => exact pd_in 284 (by decide +kernel) (by decide +kernel)
  | k + 4, h => exact absurd h (by omega)

theorem pin_2 : ∀ w ∈ u_ws RX2 TX2 8, w ∈ pd_gt := by
  intro w hw
  obtain ⟨k, hk, rfl⟩ := List.mem_map.mp hw
  have hk := List.mem_range.mp hk
  match k, hk with
  | 0, _ => exact pd_in 246 (by decide +kernel) (by decide +kernel)
  | 1, _ => exact pd_in 248 (by decide +kernel) (by decide +kernel)
  | 2, _ => exact pd_in 250 (by decide +kernel) (by decide +kernel)
  | 3, _ => exact pd_in 252 (by decide +kernel) (by decide +kernel)
  | 4, _ => exact pd_in 254 (by decide +kernel) (by decide +kernel)
  | 5, _ => exact pd_in 256 (by decide +kernel) (by decide +kernel)
  | 6, _ => exact pd_in 258 (by decide +kernel) (by decide +kernel)
  | 7, _ => exact pd_in 260 (by decide +kernel) (by decide +kernel)
  | k + 8, h => exact absurd h (by omega)

theorem pin_3 : ∀ w ∈ u_ws RX3 TX3 5, w ∈ pd_gt := by
  intro w hw
  obtain ⟨k, hk, rfl⟩ := List.mem_map.mp hw
  have hk := List.mem_range.mp hk
  match k, hk with
  | 0, _ => exact pd_in 433 (by decide +kernel) (by decide +kernel)
  | 1, _ => exact pd_in 435 (by decide +kernel) (by decide +kernel)
  | 2, _ => exact pd_in 437 (by decide +kernel) (by decide +kernel)
  | 3, _ => exact pd_in 439 (by decide +kernel) (by decide +kernel)
  | 4, _ => exact pd_in 441 (by decide +kernel) (by decide +kernel)
  | k + 5, h => exact absurd h (by omega)

theorem pin_4 : ∀ w ∈ u_ws RX4 TX4 7, w ∈ pd_gt := by
  intro w hw
  obtain ⟨k, hk, rfl⟩ := List.mem_map.mp hw
  have hk := List.mem_range.mp hk
  match k, hk with
  | 0, _ => exact pd_in 507 (by decide +kernel) (by decide +kernel)
  | 1, _ => exact pd_in 509 (by decide +kernel) (by decide +kernel)
  | 2, _ => exact pd_in 511 (by decide +kernel) (by decide +kernel)
  | 3, _ => exact pd_in 513 (by decide +kernel) (by decide +kernel)
  | 4, _ => exact pd_in 515 (by decide +kernel) (by decide +kernel)
  | 5, _ => exact pd_in 517 (by decide +kernel) (by decide +kernel)
  | 6, _ => exact pd_in 519 (by decide +kernel) (by decide +kernel)
  | k + 7, h => exact absurd h (by omega)

theorem pin_5 : ∀ w ∈ u_ws RX5 TX5 5, w ∈ pd_gt := by
  intro w hw
  obtain ⟨k, hk, rfl⟩ := List.mem_map.mp hw
  have hk := List.mem_range.mp hk
  match k, hk with
  | 0, _ => exact pd_in 209 (by decide +kernel) (by decide +kernel)
  | 1, _ => exact pd_in 211 (by decide +kernel) (by decide +kernel)
  | 2, _ => exact pd_in 213 (by decide +kernel) (by decide +kernel)
  | 3, _ => exact pd_in 215 (by decide +kernel) (by decide +kernel)
  | 4, _ => exact pd_in 217 (by decide +kernel) (by decide +kernel)
  | k + 5, h => exact absurd h (by omega)

theorem pin_6 : ∀ w ∈ u_ws RX6 TX6 3, w ∈ pd_gt := by
  intro w hw
  obtain ⟨k, hk, rfl⟩ := List.mem_map.mp hw
  have hk := List.mem_range.mp hk
  match k, hk with
  | 0, _ => exact pd_in 376 (by decide +kernel) (by decide +kernel)
  | 1, _ => exact pd_in 378 (by decide +kernel) (by decide +kernel)
  | 2, _ => exact pd_in 380 (by decide +kernel) (by decide +kernel)
  | k + 3, h => exact absurd h (by omega)

theorem pin_7 : ∀ w ∈ u_ws RX7 TX7 2, w ∈ pd_gt := by
  intro w hw
  obtain ⟨k, hk, rfl⟩ := List.mem_map.mp hw
  have hk := List.mem_range.mp hk
  match k, hk with
  | 0, _ => exact pd_in 457 (by decide +kernel) (by decide +kernel)
  | 1, _ => exact pd_in 459 (by decide +kernel) (by decide +kernel)
  | k + 2, h => exact absurd h (by omega)

theorem pin_8 : ∀ w ∈ u_ws RX8 TX8 6, w ∈ pd_gt := by
  intro w hw
  obtain ⟨k, hk, rfl⟩ := List.mem_map.mp hw
  have hk := List.mem_range.mp hk
  match k, hk with
  | 0, _ => exact pd_in 413 (by decide +kernel) (by decide +kernel)
  | 1, _ => exact pd_in 415 (by decide +kernel) (by decide +kernel)
  | 2, _ => exact pd_in 417 (by decide +kernel) (by decide +kernel)
  | 3, _ => exact pd_in 419 (by decide +kernel) (by decide +kernel)
  | 4, _ => exact pd_in 421 (by decide +kernel) (by decide +kernel)
  | 5, _ => exact pd_in 423 (by decide +kernel) (by decide +kernel)
  | k + 6, h => exact absurd h (by omega)

theorem pin_9 : ∀ w ∈ u_ws RX9 TX9 9, w ∈ pd_gt := by
  intro w hw
  obtain ⟨k, hk, rfl⟩ := List.mem_map.mp hw
  have hk := List.mem_range.mp hk
  match k, hk with
  | 0, _ => exact pd_in 158 (by decide +kernel) (by decide +kernel)
  | 1, _ => exact pd_in 160 (by decide +kernel) (by decide +kernel)
  | 2, _ => exact pd_in 162 (by decide +kernel) (by decide +kernel)
  | 3, _ => exact pd_in 164 (by decide +kernel) (by decide +kernel)
  | 4, _ => exact pd_in 166 (by decide +kernel) (by decide +kernel)
  | 5, _ => exact pd_in 168 (by decide +kernel) (by decide +kernel)
  | 6, _ => exact pd_in 170 (by decide +kernel) (by decide +kernel)
  | 7, _ => exact pd_in 172 (by decide +kernel) (by decide +kernel)
  | 8, _ => exact pd_in 174 (by decide +kernel) (by decide +kernel)
  | k + 9, h => exact absurd h (by omega)

theorem pin_10 : ∀ w ∈ u_ws RX10 TX10 4, w ∈ pd_gt := by
  intro w hw
  obtain ⟨k, hk, rfl⟩ := List.mem_map.mp hw
  have hk := List.mem_range.mp hk
  match k, hk with
  | 0, _ => exact pd_in 485 (by decide +kernel) (by decide +kernel)
  | 1, _ => exact pd_in 487 (by decide +kernel) (by decide +kernel)
  | 2, _ => exact pd_in 489 (by decide +kernel) (by decide +kernel)
  | 3, _ => exact pd_in 491 (by decide +kernel) (by decide +kernel)
  | k + 4, h => exact absurd h (by omega)

theorem pin_11 : ∀ w ∈ u_ws RX11 TX11 10, w ∈ pd_gt := by
  intro w hw
  obtain ⟨k, hk, rfl⟩ := List.mem_map.mp hw
  have hk := List.mem_range.mp hk
  match k, hk with
  | 0, _ => exact pd_in 535 (by decide +kernel) (by decide +kernel)
  | 1, _ => exact pd_in 537 (by decide +kernel) (by decide +kernel)
  | 2, _ => exact pd_in 539 (by decide +kernel) (by decide +kernel)
  | 3, _ => exact pd_in 541 (by decide +kernel) (by decide +kernel)
  | 4, _ => exact pd_in 543 (by decide +kernel) (by decide +kernel)
  | 5, _ => exact pd_in 545 (by decide +kernel) (by decide +kernel)
  | 6, _ => exact pd_in 547 (by decide +kernel) (by decide +kernel)
  | 7, _ => exact pd_in 549 (by decide +kernel) (by decide +kernel)
  | 8, _ => exact pd_in 551 (by decide +kernel) (by decide +kernel)
  | 9, _ => exact pd_in 553 (by decide +kernel) (by decide +kernel)
  | k + 10, h => exact absurd h (by omega)

theorem pin_12 : ∀ w ∈ u_ws RX12 TX12 52, w ∈ pd_gt := by
  intro w hw
  obtain ⟨k, hk, rfl⟩ := List.mem_map.mp hw
  have hk := List.mem_range.mp hk
  match k, hk with
  | 0, _ => exact pd_in 1242 (by decide +kernel) (by decide +kernel)
  | 1, _ => exact pd_in 1244 (by decide +kernel) (by decide +kernel)
  | 2, _ => exact pd_in 1246 (by decide +kernel) (by decide +kernel)
  | 3, _ => exact pd_in 1248 (by decide +kernel) (by decide +kernel)
  | 4, _ => exact pd_in 1250 (by decide +kernel) (by decide +kernel)
  | 5, _ => exact pd_in 1252 (by decide +kernel) (by decide +kernel)
  | 6, _ => exact pd_in 1254 (by decide +kernel) (by decide +kernel)
  | 7, _ => exact pd_in 1256 (by decide +kernel) (by decide +kernel)
  | 8, _ => exact pd_in 1258 (by decide +kernel) (by decide +kernel)
  | 9, _ => exact pd_in 1260 (by decide +kernel) (by decide +kernel)
  | 10, _ => exact pd_in 1262 (by decide +kernel) (by decide +kernel)
  | 11, _ => exact pd_in 1264 (by decide +kernel) (by decide +kernel)
  | 12, _ => exact pd_in 1266 (by decide +kernel) (by decide +kernel)
  | 13, _ => exact pd_in 1268 (by decide +kernel) (by decide +kernel)
  | 14, _ => exact pd_in 1270 (by decide +kernel) (by decide +kernel)
  | 15, _ => exact pd_in 1272 (by decide +kernel) (by decide +kernel)
  | 16, _ => exact pd_in 1274 (by decide +kernel) (by decide +kernel)
  | 17, _ => exact pd_in 1276 (by decide +kernel) (by decide +kernel)
  | 18, _ => exact pd_in 1278 (by decide +kernel) (by decide +kernel)
  | 19, _ => exact pd_in 1280 (by decide +kernel) (by decide +kernel)
  | 20, _ => exact pd_in 1282 (by decide +kernel) (by decide +kernel)
  | 21, _ => exact pd_in 1284 (by decide +kernel) (by decide +kernel)
  | 22, _ => exact pd_in 1286 (by decide +kernel) (by decide +kernel)
  | 23, _ => exact pd_in 1288 (by decide +kernel) (by decide +kernel)
  | 24, _ => exact pd_in 1290 (by decide +kernel) (by decide +kernel)
  | 25, _ => exact pd_in 1292 (by decide +kernel) (by decide +kernel)
  | 26, _ => exact pd_in 1294 (by decide +kernel) (by decide +kernel)
  | 27, _ => exact pd_in 1296 (by decide +kernel) (by decide +kernel)
  | 28, _ => exact pd_in 1298 (by decide +kernel) (by decide +kernel)
  | 29, _ => exact pd_in 1300 (by decide +kernel) (by decide +kernel)
  | 30, _ => exact pd_in 1302 (by decide +kernel) (by decide +kernel)
  | 31, _ => exact pd_in 1304 (by decide +kernel) (by decide +kernel)
  | 32, _ => exact pd_in 1306 (by decide +kernel) (by decide +kernel)
  | 33, _ => exact pd_in 1308 (by decide +kernel) (by decide +kernel)
  | 34, _ => exact pd_in 1310 (by decide +kernel) (by decide +kernel)
  | 35, _ => exact pd_in 1312 (by decide +kernel) (by decide +kernel)
  | 36, _ => exact pd_in 1314 (by decide +kernel) (by decide +kernel)
  | 37, _ => exact pd_in 1316 (by decide +kernel) (by decide +kernel)
  | 38, _ => exact pd_in 1318 (by decide +kernel) (by decide +kernel)
  | 39, _ => exact pd_in 1320 (by decide +kernel) (by decide +kernel)
  | 40, _ => exact pd_in 1322 (by decide +kernel) (by decide +kernel)
  | 41, _ => exact pd_in 1324 (by decide +kernel) (by decide +kernel)
  | 42, _ => exact pd_in 1326 (by decide +kernel) (by decide +kernel)
  | 43, _ => exact pd_in 1328 (by decide +kernel) (by decide +kernel)
  | 44, _ => exact pd_in 1330 (by decide +kernel) (by decide +kernel)
  | 45, _ => exact pd_in 1332 (by decide +kernel) (by decide +kernel)
  | 46, _ => exact pd_in 1334 (by decide +kernel) (by decide +kernel)
  | 47, _ => exact pd_in 1336 (by decide +kernel) (by decide +kernel)
  | 48, _ => exact pd_in 1338 (by decide +kernel) (by decide +kernel)
  | 49, _ => exact pd_in 1340 (by decide +kernel) (by decide +kernel)
  | 50, _ => exact pd_in 1342 (by decide +kernel) (by decide +kernel)
  | 51, _ => exact pd_in 1344 (by decide +kernel) (by decide +kernel)
  | k + 52, h => exact absurd h (by omega)
