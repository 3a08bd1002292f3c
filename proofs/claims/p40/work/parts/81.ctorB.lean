/-! THE CONSTRUCTOR OF TRELLIS, in segments, laid by wip/p40/ctorb.py -/
theorem at_i {D : va_G} {cl : List vw_C} {a n : Nat} {k : ClassId} {f g : Nat → Int32} {H : Heap} (h : va_at D cl (a, .inl (k, n, .inl f)) H) (e : ∀ j, j < n → f j = g j) : va_at D cl (a, .inl (k, n, .inl g)) H := by
  have h : H[a]? = some (vp_cell k (n, .inl f)) := h
  show H[a]? = some (vp_cell k (n, .inl g))
  rw [h, vp_cell_i, vp_cell_i, arrV_congr (fun j hj => by rw [e j hj])]
theorem at_l {D : va_G} {cl : List vw_C} {a n : Nat} {k : ClassId} {f g : Nat → Int64} {H : Heap} (h : va_at D cl (a, .inl (k, n, .inr (.inl f))) H) (e : ∀ j, j < n → f j = g j) : va_at D cl (a, .inl (k, n, .inr (.inl g))) H := by
  have h : H[a]? = some (vp_cell k (n, .inr (.inl f))) := h
  show H[a]? = some (vp_cell k (n, .inr (.inl g)))
  rw [h, vp_cell_l, vp_cell_l, arrV_congr (fun j hj => by rw [e j hj])]
theorem at_q {D : va_G} {cl : List vw_C} {a n : Nat} {k : ClassId} {f g : Nat → Option Nat} {H : Heap} (h : va_at D cl (a, .inl (k, n, .inr (.inr (.inr (.inr f))))) H) (e : ∀ j, j < n → f j = g j) : va_at D cl (a, .inl (k, n, .inr (.inr (.inr (.inr g))))) H := by
  have h : H[a]? = some (vp_cell k (n, .inr (.inr (.inr (.inr f))))) := h
  show H[a]? = some (vp_cell k (n, .inr (.inr (.inr (.inr g)))))
  rw [h, vp_cell_q, vp_cell_q, arrV_congr (fun j hj => by rw [e j hj])]
theorem wC_inv {ad : Nat → Nat} {ks : KA} {st : St} {k : Nat} {q : Nat × va_E} (h : (wC ad ks st)[k]? = some q) : k < 54 ∧ q = (ad k, cE ad ks st k) := by
  by_cases hk : k < 54
  · rw [wC_at hk] at h
    exact ⟨hk, (Option.some.inj h).symm⟩
  · rw [List.getElem?_eq_none (by rw [wC_len]; omega)] at h
    cases h
theorem wC_P {D : va_G} {ad : Nat → Nat} {ks : KA} {st : St} {H : Heap} (h : ∀ k, k < 54 → va_at D vwCl (ad k, cE ad ks st k) H) : va_P D vwCl (wC ad ks st) H := fun k q hq => by
  obtain ⟨hk, rfl⟩ := wC_inv hq
  exact h k hk
theorem wC_D {ad : Nat → Nat} {ks : KA} {st : St} {A : Nat → Prop} {ws : va_W} (hD : va_D A ws) (σ : List Nat) (hinj : ∀ i, i < 54 → ∀ j, j < 54 → σ.getD i 0 = σ.getD j 0 → i = j) (h : ∀ k, k < 54 → ∃ e, ws[σ.getD k 0]? = some (ad k, e)) : va_D A (wC ad ks st) := by
  refine ⟨fun i j p q hp hq e => ?_, fun k q hq => ?_⟩
  · obtain ⟨hi, rfl⟩ := wC_inv hp
    obtain ⟨hj, rfl⟩ := wC_inv hq
    obtain ⟨e1, h1⟩ := h i hi
    obtain ⟨e2, h2⟩ := h j hj
    exact hinj i hi j hj (hD.1 _ _ _ _ h1 h2 e)
  · obtain ⟨hk, rfl⟩ := wC_inv hq
    obtain ⟨e1, h1⟩ := h k hk
    have h2 := hD.2 _ _ h1
    exact h2
theorem st0_nx (j : Nat) : fnx 2559 j = st0.1 11 j := by
  have e : v0 11 j = if 2 ≤ j ∧ j < 2559 then j + 1 else 0 := by
    unfold v0
    rw [if_neg (show ¬ (11 : Nat) = 4 by decide), if_pos rfl]
  rw [st0_row, e]
  unfold fnx
  by_cases h : 2 ≤ j ∧ j < 2559
  · rw [if_pos h, if_pos h]
  · rw [if_neg h, if_neg h]
    exact n_0
theorem app_last {α : Type} (ws : List α) (c : α) : (ws ++ [c])[ws.length]? = some c := by
  rw [List.getElem?_append_right (Nat.le_refl _), Nat.sub_self]
  rfl
theorem app_left {α : Type} {ws w2 : List α} {k : Nat} {q : α} (h : ws[k]? = some q) : (ws ++ w2)[k]? = some q ∧ k < ws.length := by
  have hk : k < ws.length := (List.getElem?_eq_some_iff.mp h).1
  exact ⟨by rw [List.getElem?_append_left hk]; exact h, hk⟩
theorem one_at {α : Type} {c q : α} {k : Nat} (h : [c][k]? = some q) : k = 0 ∧ q = c := by
  have hk : k < 1 := (List.getElem?_eq_some_iff.mp h).1
  obtain rfl : k = 0 := by omega
  exact ⟨rfl, (Option.some.inj h).symm⟩
theorem last_P {D : va_G} {cl : List vw_C} {ws : va_W} {c : Nat × va_E} {H : Heap} (h : va_P D cl (ws ++ [c]) H) : va_P D cl [c] H := fun k q hq => by
  obtain ⟨-, rfl⟩ := one_at hq
  exact h _ _ (app_last ws q)
theorem last_D {A : Nat → Prop} {ws : va_W} {c : Nat × va_E} (h : va_D A (ws ++ [c])) : va_D A [c] := by
  refine ⟨fun i j p q hp hq _ => ?_, fun k q hq => ?_⟩
  · rw [(one_at hp).1, (one_at hq).1]
  · obtain ⟨-, rfl⟩ := one_at hq
    exact h.2 _ _ (app_last ws q)
theorem join_last {A0 : Nat → Prop} {D : va_G} {cl : List vw_C} {ws w1 : va_W} {c : Nat × va_E} {H H1 : Heap} (hP : va_P D cl (ws ++ [c]) H) (hD : va_D A0 (ws ++ [c])) (hk : ∀ q : Nat, q < H.size → ¬ va_A [c] H.size q → H1[q]? = H[q]?) (hF : ∀ q, va_A [c] H.size q → A0 q) (hP1 : va_P D cl w1 H1) (hD1 : va_D (va_A [c] H.size) w1) : va_P D cl (ws ++ w1) H1 ∧ va_D A0 (ws ++ w1) := by
  have apart : ∀ (k : Nat) (q : Nat × va_E), ws[k]? = some q → q.1 < H.size ∧ ¬ va_A [c] H.size q.1 := by
    intro k q hq
    obtain ⟨h1, h2⟩ := app_left (w2 := [c]) hq
    have hl := (hP k q h1).lt
    refine ⟨hl, fun h => ?_⟩
    rcases h with ⟨k2, e, h⟩ | h
    · obtain ⟨-, h3⟩ := one_at h
      have := hD.1 k ws.length q c h1 (app_last ws c) (by rw [← h3])
      omega
    · omega
  refine ⟨va_P.app (fun k q hq => ?_) hP1, va_D.app ⟨fun i j p q hp hq e => hD.1 i j p q (app_left hp).1 (app_left hq).1 e, fun k q hq => hD.2 k q (app_left hq).1⟩ (hD1.weaken (fun k q _ h => hF q.1 h)) (fun i j x y hx hy hxy => (apart i x hx).2 (by rw [hxy]; exact hD1.2 j y hy))⟩
  obtain ⟨g1, g2⟩ := apart k q hq
  exact (hP k q (app_left hq).1).kept (hk q.1 g1 g2)
theorem K_dup2 {D : va_G} {cl : List vw_C} {t1 t2 : List (ClassId × FieldType)} {U : State} (h : va_K D cl t1 U) (h' : va_K D cl t2 U) {i j : Nat} {a b : ClassId} {ty : FieldType} (hi : t1[i]? = some (a, ty)) (hj : t2[j]? = some (b, ty)) (hty : ty = .int ∨ ty = .long) : a = b := by
  have h1 := (h.2 i _ hi).2
  have h2 := (h'.2 j _ hj).2
  rcases hty with rfl | rfl
  · exact Option.some.inj (h1.symm.trans h2)
  · exact Option.some.inj (h1.symm.trans h2)
def CWd (D : va_G) (A : Nat → Prop) (s : State) (tys : List (ClassId × FieldType)) (ws : va_W) (H : Heap) (locs : List Loc) : Prop := va_P D vwCl ws H ∧ va_D A ws ∧ va_S A s.heap H locs ∧ va_K D vwCl tys s
abbrev RRX : Room := (headSpec wsX3_init { frames := 2, cells := 53, slots := 23711, locals := 60 }).room
def HXc (p : Program) (s : State) (m : MethodId) (meth : Method) (c : Code) (h0 : Nat) (A : Nat → Prop) : Prop := p.tables.exec = Jvm.exec ∧ c.code = cX3_init ∧ c.maxLocals = 2 ∧ s.vm.findClass RX3 = some m.cls ∧ (∀ w ∈ wsX3_init, w.before #[Value.ref h0] s = true) ∧ meth.name = "<init>" ∧ ∀ q : Nat, s.heap.size ≤ q → A q
set_option maxRecDepth 100000 in
theorem inT0 : ∀ w ∈ u_ws RX0 TX0 17, w ∈ wsX3_init := by decide +kernel
set_option maxRecDepth 100000 in
theorem inT1 : ∀ w ∈ u_ws RX1 TX1 3, w ∈ wsX3_init := by decide +kernel
set_option maxRecDepth 100000 in
theorem inT2 : ∀ w ∈ u_ws RX2 TX2 1, w ∈ wsX3_init := by decide +kernel
set_option maxRecDepth 100000 in
theorem inI3 : ∀ w ∈ u_ws RX3 TX3 10, w ∈ wsX3_init := by decide +kernel
section CTB
variable {p : Program} {l : Launch} {e : Env} {s : State} {m : MethodId} {below : List Frame} {meth : Method} {c : Code} {H : Heap} {locs : List Loc} {kc ks : Nat} {Q : State → Prop} {D : va_G} {A : Nat → Prop} {h0 : Nat} {tys : List (ClassId × FieldType)} {ws : va_W} {ls : Array Slot} {rest : List Value} {pc : Nat}
set_option maxHeartbeats 4000000 in
theorem sg_tab (X : HXc p s m meth c h0 A) {iL : Nat} {kL : ClassId} (hkL : tys[iL]? = some (kL, .long)) (d1 : decode cX3_init pc = .ok (.new 9, 3)) (d2 : decode cX3_init (pc + 3) = .ok (.dup, 1)) (d3 : decode cX3_init (pc + 3 + 1) = .ok (.invokespecial 33, 3)) (hw : ∀ q : Nat, ((Value.ref q :: rest).map fun v => v.category).sum ≤ 8) (C : CWd D A s tys ws H locs) (hsz : ls.size = 2) (hkc : kc + 1 + 1 ≤ 53) (hks : ks + 1 + 16 ≤ 23711)
    (kk : ∀ (q w : Nat) (H : Heap) (locs : List Loc), CWd D A s tys (ws ++ [(q, .inr (2, [.ref w])), (w, .inl (kL, 16, .inr (.inl (fun _ => 0))))]) H locs → W p l e RRX s m #[Value.ref h0] below meth c H locs (kc + 1 + 1) (ks + 1 + 16) Q (F0 m (pc + 3 + 1 + 3) ls (.ref q :: rest))) : W p l e RRX s m #[Value.ref h0] below meth c H locs kc ks Q (F0 m pc ls rest) := by
  obtain ⟨hx, hb, hml, hown, hts, hin, hA⟩ := X
  obtain ⟨hP, hD, hS, hK⟩ := C
  refine va_new (ci := 2) (fs := [.null]) (C := RX2) (T := TX2) (N := 1) hx hb hts inT2 tyX2 tyX2_ok hown (hts (.classLink RX3 9 RX2) (by decide +kernel)) (hts (.instantiable RX2 1) (by decide +kernel)) (hts (.initialized RX2) (by decide +kernel)) hK hP hD hS hA rfl (fun j hj => by rcases (show j = 0 by omega) with rfl <;> rfl) (by show kc + 1 ≤ 53; omega) (by show ks + 1 ≤ 23711; omega) d1 (fun q H hP hD hS => ?_)
  refine lv_dup hx hb d2 rfl ?_
  have hFc : ∀ q2, va_A [(q, (.inr (2, [.null]) : va_E))] H.size q2 → A q2 := fun q2 h => by
    rcases h with ⟨k, e, h⟩ | h
    · obtain ⟨-, h2⟩ := one_at h
      have := hD.2 _ _ (app_last ws _)
      rw [← h2] at this
      exact this
    · exact hA q2 (Nat.le_trans hS.1 h)
  refine va_callv (va_runI (As := []) (rest := .ref q :: rest) ⟨hx, hb, hml, hown, hts⟩ (ctX2_init l D q H.size) (cwI 0 hts gX3_init_X2_init rfl rfl rfl (hts (.initialized RX2) (by decide +kernel)) (hts (.methodLink RX3 33 yX2_init) (by decide +kernel)) (hts (.instanceMethod yX2_init) (by decide +kernel)) rfl (by decide +kernel) ⟨Nat.le_of_ble_eq_true rfl, Nat.le_of_ble_eq_true rfl⟩) ⟨fun a U g mk q => by obtain ⟨q0, q1, qP, qK, qD⟩ := q; exact ⟨q0, q1, qP, va_K.moved (u := U) (U := U.calling g mk a) (Vm.Alike.refl U.vm) qK, qD⟩, fun U hU hW => ⟨rfl, by rw [hU], by rw [hU]; exact last_P hP, va_K.moved hW.alike (hK.sub (tys' := []) [] rfl), (last_D hD).weaken (fun _ _ _ _ => trivial)⟩⟩ rfl rfl hsz rfl (lv_room (hw q)) d3 ⟨by show kc + 1 + 1 ≤ 53; omega, by show ks + 1 + 16 ≤ 23711; omega⟩) hS (fun q _ h => hFc q h) hFc (fun u t H1 locs ht hvm hw2 hB hz1 hk1 hS => ?_)
  obtain ⟨w, k9⟩ := u
  obtain ⟨hP1, hK1, hD1⟩ := hB
  rw [ht] at hP1
  have hK1 := va_K.moved hvm.symm hK1
  obtain ⟨hP2, hD2⟩ := join_last hP hD hk1 hFc hP1 hD1
  obtain rfl : kL = k9 := K_dup2 hK hK1 (j := 0) hkL rfl (by decide)
  exact kk q w H1 locs ⟨hP2, hD2, hS, hK⟩
set_option maxHeartbeats 4000000 in
theorem sg_dia (X : HXc p s m meth c h0 A) {iI : Nat} {kI : ClassId} (hkI : tys[iI]? = some (kI, .int)) (d1 : decode cX3_init pc = .ok (.new 19, 3)) (d2 : decode cX3_init (pc + 3) = .ok (.dup, 1)) (d3 : decode cX3_init (pc + 3 + 1) = .ok (.invokespecial 21, 3)) (hw : ∀ q : Nat, ((Value.ref q :: rest).map fun v => v.category).sum ≤ 8) (C : CWd D A s tys ws H locs) (hsz : ls.size = 2) (hkc : kc + 1 + 13 ≤ 53) (hks : ks + 17 + 22176 ≤ 23711)
    (kk : ∀ (q : Nat) (aD : Nat → Nat) (H : Heap) (locs : List Loc), CWd D A s tys (ws ++ [(q, .inr (0, [.ref (aD 0), .ref (aD 1), .ref (aD 2), .ref (aD 3), .ref (aD 4), .ref (aD 5), .ref (aD 6), .ref (aD 7), .ref (aD 8), .ref (aD 9), .ref (aD 10), .ref (aD 11), .ref (aD 12), .int 2, .int 0, .int 0, .int 0])), (aD 0, .inl (kI, 10, .inl (fo 10))), (aD 1, .inl (kI, 12, .inl (fun _ => 0))), (aD 2, .inl (kI, 10, .inl (fun _ => 0))), (aD 3, .inl (kI, 640, .inl (fun _ => 0))), (aD 4, .inl (kI, 2560, .inl (fun _ => 0))), (aD 5, .inl (kI, 2560, .inl (fun _ => 0))), (aD 6, .inl (kI, 2560, .inl (fun _ => 0))), (aD 7, .inl (kI, 2560, .inl (fnx 2559))), (aD 8, .inl (kI, 2560, .inl (fun _ => 0))), (aD 9, .inl (kI, 2560, .inl (fun _ => 0))), (aD 10, .inl (kI, 2560, .inl (fun _ => 0))), (aD 11, .inl (kI, 2560, .inl (fun _ => 0))), (aD 12, .inl (kI, 1024, .inl (fun _ => 0)))]) H locs → W p l e RRX s m #[Value.ref h0] below meth c H locs (kc + 1 + 13) (ks + 17 + 22176) Q (F0 m (pc + 3 + 1 + 3) ls (.ref q :: rest))) : W p l e RRX s m #[Value.ref h0] below meth c H locs kc ks Q (F0 m pc ls rest) := by
  obtain ⟨hx, hb, hml, hown, hts, hin, hA⟩ := X
  obtain ⟨hP, hD, hS, hK⟩ := C
  refine va_new (ci := 0) (fs := [.null, .null, .null, .null, .null, .null, .null, .null, .null, .null, .null, .null, .null, .int 0, .int 0, .int 0, .int 0]) (C := RX0) (T := TX0) (N := 17) hx hb hts inT0 tyX0 tyX0_ok hown (hts (.classLink RX3 19 RX0) (by decide +kernel)) (hts (.instantiable RX0 17) (by decide +kernel)) (hts (.initialized RX0) (by decide +kernel)) hK hP hD hS hA rfl (fun j hj => by rcases (show j = 0 ∨ j = 1 ∨ j = 2 ∨ j = 3 ∨ j = 4 ∨ j = 5 ∨ j = 6 ∨ j = 7 ∨ j = 8 ∨ j = 9 ∨ j = 10 ∨ j = 11 ∨ j = 12 ∨ j = 13 ∨ j = 14 ∨ j = 15 ∨ j = 16 by omega) with rfl | rfl | rfl | rfl | rfl | rfl | rfl | rfl | rfl | rfl | rfl | rfl | rfl | rfl | rfl | rfl | rfl <;> rfl) (by show kc + 1 ≤ 53; omega) (by show ks + 17 ≤ 23711; omega) d1 (fun q H hP hD hS => ?_)
  refine lv_dup hx hb d2 rfl ?_
  have hFc : ∀ q2, va_A [(q, (.inr (0, [.null, .null, .null, .null, .null, .null, .null, .null, .null, .null, .null, .null, .null, .int 0, .int 0, .int 0, .int 0]) : va_E))] H.size q2 → A q2 := fun q2 h => by
    rcases h with ⟨k, e, h⟩ | h
    · obtain ⟨-, h2⟩ := one_at h
      have := hD.2 _ _ (app_last ws _)
      rw [← h2] at this
      exact this
    · exact hA q2 (Nat.le_trans hS.1 h)
  refine va_callv (va_runI (As := []) (rest := .ref q :: rest) ⟨hx, hb, hml, hown, hts⟩ (ctX0_init l D q H.size) (cwI 0 hts gX3_init_X0_init rfl rfl rfl (hts (.initialized RX0) (by decide +kernel)) (hts (.methodLink RX3 21 yX0_init) (by decide +kernel)) (hts (.instanceMethod yX0_init) (by decide +kernel)) rfl (by decide +kernel) ⟨Nat.le_of_ble_eq_true rfl, Nat.le_of_ble_eq_true rfl⟩) ⟨fun a U g mk q => by obtain ⟨q0, q1, qP, qK, qD⟩ := q; exact ⟨q0, q1, qP, va_K.moved (u := U) (U := U.calling g mk a) (Vm.Alike.refl U.vm) qK, qD⟩, fun U hU hW => ⟨rfl, by rw [hU], by rw [hU]; exact last_P hP, va_K.moved hW.alike (hK.sub (tys' := []) [] rfl), (last_D hD).weaken (fun _ _ _ _ => trivial)⟩⟩ rfl rfl hsz rfl (lv_room (hw q)) d3 ⟨by show kc + 1 + 13 ≤ 53; omega, by show ks + 17 + 22176 ≤ 23711; omega⟩) hS (fun q _ h => hFc q h) hFc (fun u t H1 locs ht hvm hw2 hB hz1 hk1 hS => ?_)
  obtain ⟨aD, k9⟩ := u
  obtain ⟨hP1, hK1, hD1⟩ := hB
  rw [ht] at hP1
  have hK1 := va_K.moved hvm.symm hK1
  obtain ⟨hP2, hD2⟩ := join_last hP hD hk1 hFc hP1 hD1
  obtain rfl : kI = k9 := K_dup2 hK hK1 (j := 0) hkI rfl (by decide)
  exact kk q aD H1 locs ⟨hP2, hD2, hS, hK⟩
set_option maxHeartbeats 4000000 in
theorem sg_ord (X : HXc p s m meth c h0 A) {iI : Nat} {kI : ClassId} (hkI : tys[iI]? = some (kI, .int)) (d1 : decode cX3_init pc = .ok (.new 26, 3)) (d2 : decode cX3_init (pc + 3) = .ok (.dup, 1)) (d3 : decode cX3_init (pc + 3 + 1) = .ok (.invokespecial 28, 3)) (hw : ∀ q : Nat, ((Value.ref q :: rest).map fun v => v.category).sum ≤ 8) (C : CWd D A s tys ws H locs) (hsz : ls.size = 2) (hkc : kc + 1 + 3 ≤ 53) (hks : ks + 3 + 192 ≤ 23711)
    (kk : ∀ (q o1 o2 o3 : Nat) (kL : ClassId) (H : Heap) (locs : List Loc), CWd D A s (tys ++ [(kL, .long)]) (ws ++ [(q, .inr (1, [.ref o1, .ref o2, .ref o3])), (o1, .inl (kI, 64, .inl (fun _ => 0))), (o2, .inl (kL, 64, .inr (.inl (fun _ => 0)))), (o3, .inl (kL, 64, .inr (.inl (fun _ => 0))))]) H locs → W p l e RRX s m #[Value.ref h0] below meth c H locs (kc + 1 + 3) (ks + 3 + 192) Q (F0 m (pc + 3 + 1 + 3) ls (.ref q :: rest))) : W p l e RRX s m #[Value.ref h0] below meth c H locs kc ks Q (F0 m pc ls rest) := by
  obtain ⟨hx, hb, hml, hown, hts, hin, hA⟩ := X
  obtain ⟨hP, hD, hS, hK⟩ := C
  refine va_new (ci := 1) (fs := [.null, .null, .null]) (C := RX1) (T := TX1) (N := 3) hx hb hts inT1 tyX1 tyX1_ok hown (hts (.classLink RX3 26 RX1) (by decide +kernel)) (hts (.instantiable RX1 3) (by decide +kernel)) (hts (.initialized RX1) (by decide +kernel)) hK hP hD hS hA rfl (fun j hj => by rcases (show j = 0 ∨ j = 1 ∨ j = 2 by omega) with rfl | rfl | rfl <;> rfl) (by show kc + 1 ≤ 53; omega) (by show ks + 3 ≤ 23711; omega) d1 (fun q H hP hD hS => ?_)
  refine lv_dup hx hb d2 rfl ?_
  have hFc : ∀ q2, va_A [(q, (.inr (1, [.null, .null, .null]) : va_E))] H.size q2 → A q2 := fun q2 h => by
    rcases h with ⟨k, e, h⟩ | h
    · obtain ⟨-, h2⟩ := one_at h
      have := hD.2 _ _ (app_last ws _)
      rw [← h2] at this
      exact this
    · exact hA q2 (Nat.le_trans hS.1 h)
  refine va_callv (va_runI (As := []) (rest := .ref q :: rest) ⟨hx, hb, hml, hown, hts⟩ (ctX1_init l D q H.size) (cwI 0 hts gX3_init_X1_init rfl rfl rfl (hts (.initialized RX1) (by decide +kernel)) (hts (.methodLink RX3 28 yX1_init) (by decide +kernel)) (hts (.instanceMethod yX1_init) (by decide +kernel)) rfl (by decide +kernel) ⟨Nat.le_of_ble_eq_true rfl, Nat.le_of_ble_eq_true rfl⟩) ⟨fun a U g mk q => by obtain ⟨q0, q1, qP, qK, qD⟩ := q; exact ⟨q0, q1, qP, va_K.moved (u := U) (U := U.calling g mk a) (Vm.Alike.refl U.vm) qK, qD⟩, fun U hU hW => ⟨rfl, by rw [hU], by rw [hU]; exact last_P hP, va_K.moved hW.alike (hK.sub (tys' := []) [] rfl), (last_D hD).weaken (fun _ _ _ _ => trivial)⟩⟩ rfl rfl hsz rfl (lv_room (hw q)) d3 ⟨by show kc + 1 + 3 ≤ 53; omega, by show ks + 3 + 192 ≤ 23711; omega⟩) hS (fun q _ h => hFc q h) hFc (fun u t H1 locs ht hvm hw2 hB hz1 hk1 hS => ?_)
  obtain ⟨⟨o1, o2, o3⟩, k8, k9⟩ := u
  obtain ⟨hP1, hK1, hD1⟩ := hB
  rw [ht] at hP1
  have hK1 := va_K.moved hvm.symm hK1
  obtain ⟨hP2, hD2⟩ := join_last hP hD hk1 hFc hP1 hD1
  obtain rfl : kI = k8 := K_dup2 hK hK1 (j := 0) hkI rfl (by decide)
  exact kk q o1 o2 o3 k9 H1 locs ⟨hP2, hD2, hS, hK.app (hK1.sub (tys' := [(k9, .long)]) [1] rfl)⟩
set_option maxHeartbeats 4000000 in
theorem sg_arr (X : HXc p s m meth c h0 A) {iI : Nat} {kI : ClassId} (hkI : tys[iI]? = some (kI, .int)) {n : Int32} {N' : Nat} (hn : ¬ n < 0) (hN : n.toNatClampNeg = N') (hb4 : N' * 4 ≤ 536870912) (d1 : decode cX3_init pc = .ok (.newarray .int, 2)) (C : CWd D A s tys ws H locs) (hkc : kc + 1 ≤ 53) (hks : ks + N' ≤ 23711)
    (kk : ∀ (q : Nat) (H : Heap), CWd D A s tys (ws ++ [(q, .inl (kI, N', .inl (fun _ => 0)))]) H locs → W p l e RRX s m #[Value.ref h0] below meth c H locs (kc + 1) (ks + N') Q (F0 m (pc + 2) ls (.ref q :: rest))) : W p l e RRX s m #[Value.ref h0] below meth c H locs kc ks Q (F0 m pc ls (.int n :: rest)) := by
  obtain ⟨hx, hb, hml, hown, hts, hin, hA⟩ := X
  obtain ⟨hP, hD, hS, hK⟩ := C
  refine va_newa (atype := .int) (a0 := (N', .inl (fun _ => 0))) (N' := N') hx hb (hts (.arrayClass .int) (by decide +kernel)) rfl hK hP hD hS hA (fun _ => rfl) hn hN hb4 hkc hks d1 (fun q k9 H1 hK1 hP1 hD1 hS1 => ?_)
  obtain rfl : kI = k9 := K_dup2 hK hK1 (j := tys.length) hkI (app_last tys _) (by decide)
  exact kk q H1 ⟨hP1, hD1, hS1, hK⟩
set_option maxHeartbeats 4000000 in
theorem sp_functions (X : HXc p s m meth c h0 A) {g0 g1 g2 g3 g4 g5 g6 g7 g8 g9 : Value} {q : Nat} {R : va_W} (d1 : decode cX3_init pc = .ok (.putfield 11, 3)) (C : CWd D A s tys ((h0, .inr (3, [g0, g1, g2, g3, g4, g5, g6, g7, g8, g9])) :: R) H locs)
    (kk : ∀ (H : Heap) (locs : List Loc), CWd D A s tys ((h0, .inr (3, [.ref q, g1, g2, g3, g4, g5, g6, g7, g8, g9])) :: R) H locs → W p l e RRX s m #[Value.ref h0] below meth c H locs kc ks Q (F0 m (pc + 3) ls rest)) : W p l e RRX s m #[Value.ref h0] below meth c H locs kc ks Q (F0 m pc ls (.ref q :: .ref h0 :: rest)) := by
  obtain ⟨hx, hb, hml, hown, hts, hin, hA⟩ := X
  obtain ⟨hP, hD, hS, hK⟩ := C
  exact va_putF (D := D) (ci := 3) (v := .ref q) (ty := .array (.object "Trellis$Table")) (C := RX3) (T := TX3) (N := 10) hx hb hts inI3 tyX3 tyX3_ok nmX3 hown hK hP hD hS 0 rfl rfl 0 (by decide) (hts (.fieldLink RX3 11 "Trellis" "functions" "[LTrellis$Table;") (by decide +kernel)) (fun _ h9 => h9) rfl hin rfl (by decide +kernel) rfl rfl (Nat.le_of_ble_eq_true rfl) d1 (fun H locs hP hD hS => kk H locs ⟨hP, hD, hS, hK⟩)
set_option maxHeartbeats 4000000 in
theorem sp_supports (X : HXc p s m meth c h0 A) {g0 g1 g2 g3 g4 g5 g6 g7 g8 g9 : Value} {q : Nat} {R : va_W} (d1 : decode cX3_init pc = .ok (.putfield 15, 3)) (C : CWd D A s tys ((h0, .inr (3, [g0, g1, g2, g3, g4, g5, g6, g7, g8, g9])) :: R) H locs)
    (kk : ∀ (H : Heap) (locs : List Loc), CWd D A s tys ((h0, .inr (3, [g0, .ref q, g2, g3, g4, g5, g6, g7, g8, g9])) :: R) H locs → W p l e RRX s m #[Value.ref h0] below meth c H locs kc ks Q (F0 m (pc + 3) ls rest)) : W p l e RRX s m #[Value.ref h0] below meth c H locs kc ks Q (F0 m pc ls (.ref q :: .ref h0 :: rest)) := by
  obtain ⟨hx, hb, hml, hown, hts, hin, hA⟩ := X
  obtain ⟨hP, hD, hS, hK⟩ := C
  exact va_putF (D := D) (ci := 3) (v := .ref q) (ty := .array .int) (C := RX3) (T := TX3) (N := 10) hx hb hts inI3 tyX3 tyX3_ok nmX3 hown hK hP hD hS 0 rfl rfl 1 (by decide) (hts (.fieldLink RX3 15 "Trellis" "supports" "[I") (by decide +kernel)) (fun _ h9 => h9) rfl hin rfl (by decide +kernel) rfl rfl (Nat.le_of_ble_eq_true rfl) d1 (fun H locs hP hD hS => kk H locs ⟨hP, hD, hS, hK⟩)
set_option maxHeartbeats 4000000 in
theorem sp_diagram (X : HXc p s m meth c h0 A) {g0 g1 g2 g3 g4 g5 g6 g7 g8 g9 : Value} {q : Nat} {R : va_W} (d1 : decode cX3_init pc = .ok (.putfield 22, 3)) (C : CWd D A s tys ((h0, .inr (3, [g0, g1, g2, g3, g4, g5, g6, g7, g8, g9])) :: R) H locs)
    (kk : ∀ (H : Heap) (locs : List Loc), CWd D A s tys ((h0, .inr (3, [g0, g1, .ref q, g3, g4, g5, g6, g7, g8, g9])) :: R) H locs → W p l e RRX s m #[Value.ref h0] below meth c H locs kc ks Q (F0 m (pc + 3) ls rest)) : W p l e RRX s m #[Value.ref h0] below meth c H locs kc ks Q (F0 m pc ls (.ref q :: .ref h0 :: rest)) := by
  obtain ⟨hx, hb, hml, hown, hts, hin, hA⟩ := X
  obtain ⟨hP, hD, hS, hK⟩ := C
  exact va_putF (D := D) (ci := 3) (v := .ref q) (ty := .object "Trellis$Diagram") (C := RX3) (T := TX3) (N := 10) hx hb hts inI3 tyX3 tyX3_ok nmX3 hown hK hP hD hS 0 rfl rfl 2 (by decide) (hts (.fieldLink RX3 22 "Trellis" "diagram" "LTrellis$Diagram;") (by decide +kernel)) (fun _ h9 => h9) rfl hin rfl (by decide +kernel) rfl rfl (Nat.le_of_ble_eq_true rfl) d1 (fun H locs hP hD hS => kk H locs ⟨hP, hD, hS, hK⟩)
set_option maxHeartbeats 4000000 in
theorem sp_orders (X : HXc p s m meth c h0 A) {g0 g1 g2 g3 g4 g5 g6 g7 g8 g9 : Value} {q : Nat} {R : va_W} (d1 : decode cX3_init pc = .ok (.putfield 29, 3)) (C : CWd D A s tys ((h0, .inr (3, [g0, g1, g2, g3, g4, g5, g6, g7, g8, g9])) :: R) H locs)
    (kk : ∀ (H : Heap) (locs : List Loc), CWd D A s tys ((h0, .inr (3, [g0, g1, g2, .ref q, g4, g5, g6, g7, g8, g9])) :: R) H locs → W p l e RRX s m #[Value.ref h0] below meth c H locs kc ks Q (F0 m (pc + 3) ls rest)) : W p l e RRX s m #[Value.ref h0] below meth c H locs kc ks Q (F0 m pc ls (.ref q :: .ref h0 :: rest)) := by
  obtain ⟨hx, hb, hml, hown, hts, hin, hA⟩ := X
  obtain ⟨hP, hD, hS, hK⟩ := C
  exact va_putF (D := D) (ci := 3) (v := .ref q) (ty := .object "Trellis$Orders") (C := RX3) (T := TX3) (N := 10) hx hb hts inI3 tyX3 tyX3_ok nmX3 hown hK hP hD hS 0 rfl rfl 3 (by decide) (hts (.fieldLink RX3 29 "Trellis" "orders" "LTrellis$Orders;") (by decide +kernel)) (fun _ h9 => h9) rfl hin rfl (by decide +kernel) rfl rfl (Nat.le_of_ble_eq_true rfl) d1 (fun H locs hP hD hS => kk H locs ⟨hP, hD, hS, hK⟩)
set_option maxHeartbeats 4000000 in
theorem sp_work (X : HXc p s m meth c h0 A) {g0 g1 g2 g3 g4 g5 g6 g7 g8 g9 : Value} {q : Nat} {R : va_W} (d1 : decode cX3_init pc = .ok (.putfield 34, 3)) (C : CWd D A s tys ((h0, .inr (3, [g0, g1, g2, g3, g4, g5, g6, g7, g8, g9])) :: R) H locs)
    (kk : ∀ (H : Heap) (locs : List Loc), CWd D A s tys ((h0, .inr (3, [g0, g1, g2, g3, .ref q, g5, g6, g7, g8, g9])) :: R) H locs → W p l e RRX s m #[Value.ref h0] below meth c H locs kc ks Q (F0 m (pc + 3) ls rest)) : W p l e RRX s m #[Value.ref h0] below meth c H locs kc ks Q (F0 m pc ls (.ref q :: .ref h0 :: rest)) := by
  obtain ⟨hx, hb, hml, hown, hts, hin, hA⟩ := X
  obtain ⟨hP, hD, hS, hK⟩ := C
  exact va_putF (D := D) (ci := 3) (v := .ref q) (ty := .object "Trellis$Table") (C := RX3) (T := TX3) (N := 10) hx hb hts inI3 tyX3 tyX3_ok nmX3 hown hK hP hD hS 0 rfl rfl 4 (by decide) (hts (.fieldLink RX3 34 "Trellis" "work" "LTrellis$Table;") (by decide +kernel)) (fun _ h9 => h9) rfl hin rfl (by decide +kernel) rfl rfl (Nat.le_of_ble_eq_true rfl) d1 (fun H locs hP hD hS => kk H locs ⟨hP, hD, hS, hK⟩)
set_option maxHeartbeats 4000000 in
theorem sp_aid (X : HXc p s m meth c h0 A) {g0 g1 g2 g3 g4 g5 g6 g7 g8 g9 : Value} {q : Nat} {R : va_W} (d1 : decode cX3_init pc = .ok (.putfield 38, 3)) (C : CWd D A s tys ((h0, .inr (3, [g0, g1, g2, g3, g4, g5, g6, g7, g8, g9])) :: R) H locs)
    (kk : ∀ (H : Heap) (locs : List Loc), CWd D A s tys ((h0, .inr (3, [g0, g1, g2, g3, g4, .ref q, g6, g7, g8, g9])) :: R) H locs → W p l e RRX s m #[Value.ref h0] below meth c H locs kc ks Q (F0 m (pc + 3) ls rest)) : W p l e RRX s m #[Value.ref h0] below meth c H locs kc ks Q (F0 m pc ls (.ref q :: .ref h0 :: rest)) := by
  obtain ⟨hx, hb, hml, hown, hts, hin, hA⟩ := X
  obtain ⟨hP, hD, hS, hK⟩ := C
  exact va_putF (D := D) (ci := 3) (v := .ref q) (ty := .object "Trellis$Table") (C := RX3) (T := TX3) (N := 10) hx hb hts inI3 tyX3 tyX3_ok nmX3 hown hK hP hD hS 0 rfl rfl 5 (by decide) (hts (.fieldLink RX3 38 "Trellis" "aid" "LTrellis$Table;") (by decide +kernel)) (fun _ h9 => h9) rfl hin rfl (by decide +kernel) rfl rfl (Nat.le_of_ble_eq_true rfl) d1 (fun H locs hP hD hS => kk H locs ⟨hP, hD, hS, hK⟩)
set_option maxHeartbeats 4000000 in
theorem sp_spare (X : HXc p s m meth c h0 A) {g0 g1 g2 g3 g4 g5 g6 g7 g8 g9 : Value} {q : Nat} {R : va_W} (d1 : decode cX3_init pc = .ok (.putfield 41, 3)) (C : CWd D A s tys ((h0, .inr (3, [g0, g1, g2, g3, g4, g5, g6, g7, g8, g9])) :: R) H locs)
    (kk : ∀ (H : Heap) (locs : List Loc), CWd D A s tys ((h0, .inr (3, [g0, g1, g2, g3, g4, g5, .ref q, g7, g8, g9])) :: R) H locs → W p l e RRX s m #[Value.ref h0] below meth c H locs kc ks Q (F0 m (pc + 3) ls rest)) : W p l e RRX s m #[Value.ref h0] below meth c H locs kc ks Q (F0 m pc ls (.ref q :: .ref h0 :: rest)) := by
  obtain ⟨hx, hb, hml, hown, hts, hin, hA⟩ := X
  obtain ⟨hP, hD, hS, hK⟩ := C
  exact va_putF (D := D) (ci := 3) (v := .ref q) (ty := .object "Trellis$Table") (C := RX3) (T := TX3) (N := 10) hx hb hts inI3 tyX3 tyX3_ok nmX3 hown hK hP hD hS 0 rfl rfl 6 (by decide) (hts (.fieldLink RX3 41 "Trellis" "spare" "LTrellis$Table;") (by decide +kernel)) (fun _ h9 => h9) rfl hin rfl (by decide +kernel) rfl rfl (Nat.le_of_ble_eq_true rfl) d1 (fun H locs hP hD hS => kk H locs ⟨hP, hD, hS, hK⟩)
set_option maxHeartbeats 4000000 in
theorem sp_costs (X : HXc p s m meth c h0 A) {g0 g1 g2 g3 g4 g5 g6 g7 g8 g9 : Value} {q : Nat} {R : va_W} (d1 : decode cX3_init pc = .ok (.putfield 44, 3)) (C : CWd D A s tys ((h0, .inr (3, [g0, g1, g2, g3, g4, g5, g6, g7, g8, g9])) :: R) H locs)
    (kk : ∀ (H : Heap) (locs : List Loc), CWd D A s tys ((h0, .inr (3, [g0, g1, g2, g3, g4, g5, g6, .ref q, g8, g9])) :: R) H locs → W p l e RRX s m #[Value.ref h0] below meth c H locs kc ks Q (F0 m (pc + 3) ls rest)) : W p l e RRX s m #[Value.ref h0] below meth c H locs kc ks Q (F0 m pc ls (.ref q :: .ref h0 :: rest)) := by
  obtain ⟨hx, hb, hml, hown, hts, hin, hA⟩ := X
  obtain ⟨hP, hD, hS, hK⟩ := C
  exact va_putF (D := D) (ci := 3) (v := .ref q) (ty := .array .int) (C := RX3) (T := TX3) (N := 10) hx hb hts inI3 tyX3 tyX3_ok nmX3 hown hK hP hD hS 0 rfl rfl 7 (by decide) (hts (.fieldLink RX3 44 "Trellis" "costs" "[I") (by decide +kernel)) (fun _ h9 => h9) rfl hin rfl (by decide +kernel) rfl rfl (Nat.le_of_ble_eq_true rfl) d1 (fun H locs hP hD hS => kk H locs ⟨hP, hD, hS, hK⟩)
set_option maxHeartbeats 4000000 in
theorem sp_costOf (X : HXc p s m meth c h0 A) {g0 g1 g2 g3 g4 g5 g6 g7 g8 g9 : Value} {q : Nat} {R : va_W} (d1 : decode cX3_init pc = .ok (.putfield 47, 3)) (C : CWd D A s tys ((h0, .inr (3, [g0, g1, g2, g3, g4, g5, g6, g7, g8, g9])) :: R) H locs)
    (kk : ∀ (H : Heap) (locs : List Loc), CWd D A s tys ((h0, .inr (3, [g0, g1, g2, g3, g4, g5, g6, g7, .ref q, g9])) :: R) H locs → W p l e RRX s m #[Value.ref h0] below meth c H locs kc ks Q (F0 m (pc + 3) ls rest)) : W p l e RRX s m #[Value.ref h0] below meth c H locs kc ks Q (F0 m pc ls (.ref q :: .ref h0 :: rest)) := by
  obtain ⟨hx, hb, hml, hown, hts, hin, hA⟩ := X
  obtain ⟨hP, hD, hS, hK⟩ := C
  exact va_putF (D := D) (ci := 3) (v := .ref q) (ty := .array .int) (C := RX3) (T := TX3) (N := 10) hx hb hts inI3 tyX3 tyX3_ok nmX3 hown hK hP hD hS 0 rfl rfl 8 (by decide) (hts (.fieldLink RX3 47 "Trellis" "costOf" "[I") (by decide +kernel)) (fun _ h9 => h9) rfl hin rfl (by decide +kernel) rfl rfl (Nat.le_of_ble_eq_true rfl) d1 (fun H locs hP hD hS => kk H locs ⟨hP, hD, hS, hK⟩)
set_option maxHeartbeats 4000000 in
theorem sp_weights (X : HXc p s m meth c h0 A) {g0 g1 g2 g3 g4 g5 g6 g7 g8 g9 : Value} {q : Nat} {R : va_W} (d1 : decode cX3_init pc = .ok (.putfield 50, 3)) (C : CWd D A s tys ((h0, .inr (3, [g0, g1, g2, g3, g4, g5, g6, g7, g8, g9])) :: R) H locs)
    (kk : ∀ (H : Heap) (locs : List Loc), CWd D A s tys ((h0, .inr (3, [g0, g1, g2, g3, g4, g5, g6, g7, g8, .ref q])) :: R) H locs → W p l e RRX s m #[Value.ref h0] below meth c H locs kc ks Q (F0 m (pc + 3) ls rest)) : W p l e RRX s m #[Value.ref h0] below meth c H locs kc ks Q (F0 m pc ls (.ref q :: .ref h0 :: rest)) := by
  obtain ⟨hx, hb, hml, hown, hts, hin, hA⟩ := X
  obtain ⟨hP, hD, hS, hK⟩ := C
  exact va_putF (D := D) (ci := 3) (v := .ref q) (ty := .array .int) (C := RX3) (T := TX3) (N := 10) hx hb hts inI3 tyX3 tyX3_ok nmX3 hown hK hP hD hS 0 rfl rfl 9 (by decide) (hts (.fieldLink RX3 50 "Trellis" "weights" "[I") (by decide +kernel)) (fun _ h9 => h9) rfl hin rfl (by decide +kernel) rfl rfl (Nat.le_of_ble_eq_true rfl) d1 (fun H locs hP hD hS => kk H locs ⟨hP, hD, hS, hK⟩)
set_option maxHeartbeats 8000000 in
theorem seg1 (X : HXc p s m meth c h0 A) (hAO : va_AO RX2 s) (C : CWd D A s [] [(h0, .inr (3, [.null, .null, .null, .null, .null, .null, .null, .null, .null, .null]))] H locs) (hl : lv_has ls 2 [(0, .ref h0)])
    (kk : ∀ (qF qS qD qO o1 o2 o3 : Nat) (aD : Nat → Nat) (kF kI kL : ClassId) (H : Heap) (locs : List Loc), CWd D A s [(kF, .object RX2), (kI, .int), (kL, .long)] ((h0, .inr (3, [.ref qF, .ref qS, .ref qD, .ref qO, .null, .null, .null, .null, .null, .null])) :: ((((([] : va_W) ++ [(qF, .inl (kF, 12, .inr (.inr (.inr (.inr (fun _ => none))))))]) ++ [(qS, .inl (kI, 12, .inl (fun _ => 0)))]) ++ [(qD, .inr (0, [.ref (aD 0), .ref (aD 1), .ref (aD 2), .ref (aD 3), .ref (aD 4), .ref (aD 5), .ref (aD 6), .ref (aD 7), .ref (aD 8), .ref (aD 9), .ref (aD 10), .ref (aD 11), .ref (aD 12), .int 2, .int 0, .int 0, .int 0])), (aD 0, .inl (kI, 10, .inl (fo 10))), (aD 1, .inl (kI, 12, .inl (fun _ => 0))), (aD 2, .inl (kI, 10, .inl (fun _ => 0))), (aD 3, .inl (kI, 640, .inl (fun _ => 0))), (aD 4, .inl (kI, 2560, .inl (fun _ => 0))), (aD 5, .inl (kI, 2560, .inl (fun _ => 0))), (aD 6, .inl (kI, 2560, .inl (fun _ => 0))), (aD 7, .inl (kI, 2560, .inl (fnx 2559))), (aD 8, .inl (kI, 2560, .inl (fun _ => 0))), (aD 9, .inl (kI, 2560, .inl (fun _ => 0))), (aD 10, .inl (kI, 2560, .inl (fun _ => 0))), (aD 11, .inl (kI, 2560, .inl (fun _ => 0))), (aD 12, .inl (kI, 1024, .inl (fun _ => 0)))]) ++ [(qO, .inr (1, [.ref o1, .ref o2, .ref o3])), (o1, .inl (kI, 64, .inl (fun _ => 0))), (o2, .inl (kL, 64, .inr (.inl (fun _ => 0)))), (o3, .inl (kL, 64, .inr (.inl (fun _ => 0))))])) H locs → W p l e RRX s m #[Value.ref h0] below meth c H locs 20 22412 Q (F0 m 43 ls [])) : W p l e RRX s m #[Value.ref h0] below meth c H locs 0 0 Q (F0 m 4 ls []) := by
  obtain ⟨hx, hb, hml, hown, hts, hin, hA⟩ := id X
  obtain ⟨hP, hD, hS, hK⟩ := C
  refine lv_aload_n hx hb dX3_init_4 rfl (lv_at hl 0 rfl) ?_
  refine lv_bipush (v := 12) hx hb dX3_init_5 (by decide) ?_
  refine va_newq (C := RX2) (N' := 12) hx hb hown (hts (.classLink RX3 9 RX2) (by decide +kernel)) hAO hK hP hD hS hA (by decide +kernel) (by decide +kernel) (Nat.le_of_ble_eq_true rfl) (Nat.le_of_ble_eq_true rfl) (Nat.le_of_ble_eq_true rfl) dX3_init_7 (fun qF kF H hK hP hD hS => ?_)
  refine sp_functions X dX3_init_10 (R := [(qF, .inl (kF, 12, .inr (.inr (.inr (.inr (fun _ => none))))))]) ⟨hP, hD, hS, hK⟩ (fun H locs C => ?_)
  clear hP hD hS hK
  refine lv_aload_n hx hb dX3_init_13 rfl (lv_at hl 0 rfl) ?_
  refine lv_bipush (v := 12) hx hb dX3_init_14 (by decide) ?_
  obtain ⟨hP, hD, hS, hK⟩ := C
  refine va_newa (atype := .int) (a0 := (12, .inl (fun _ => 0))) (N' := 12) hx hb (hts (.arrayClass .int) (by decide +kernel)) rfl hK hP hD hS hA (fun _ => rfl) (by decide +kernel) (by decide +kernel) (Nat.le_of_ble_eq_true rfl) (Nat.le_of_ble_eq_true rfl) (Nat.le_of_ble_eq_true rfl) dX3_init_16 (fun qS kI H hK hP hD hS => ?_)
  refine sp_supports X dX3_init_18 (R := [(qF, .inl (kF, 12, .inr (.inr (.inr (.inr (fun _ => none)))))), (qS, .inl (kI, 12, .inl (fun _ => 0)))]) (tys := [(kF, .object RX2), (kI, .int)]) ⟨hP, hD, hS, hK⟩ (fun H locs C => ?_)
  clear hP hD hS hK
  refine lv_aload_n hx hb dX3_init_21 rfl (lv_at hl 0 rfl) ?_
  refine sg_dia X (iI := 1) (kI := kI) rfl dX3_init_22 dX3_init_25 dX3_init_26 (fun _ => Nat.le_of_ble_eq_true rfl) C hl.1 (Nat.le_of_ble_eq_true rfl) (Nat.le_of_ble_eq_true rfl) (fun qD aD H locs C => ?_)
  refine sp_diagram X dX3_init_29 C (fun H locs C => ?_)
  refine lv_aload_n hx hb dX3_init_32 rfl (lv_at hl 0 rfl) ?_
  refine sg_ord X (iI := 1) (kI := kI) rfl dX3_init_33 dX3_init_36 dX3_init_37 (fun _ => Nat.le_of_ble_eq_true rfl) C hl.1 (Nat.le_of_ble_eq_true rfl) (Nat.le_of_ble_eq_true rfl) (fun qO o1 o2 o3 kL H locs C => ?_)
  refine sp_orders X dX3_init_40 C (fun H locs C => ?_)
  exact kk qF qS qD qO o1 o2 o3 aD kF kI kL H locs C
set_option maxHeartbeats 8000000 in
theorem seg2 (X : HXc p s m meth c h0 A) {g0 g1 g2 g3 : Value} {R : va_W} {iL : Nat} {kL : ClassId} (hkL : tys[iL]? = some (kL, .long)) (C : CWd D A s tys ((h0, .inr (3, [g0, g1, g2, g3, .null, .null, .null, .null, .null, .null])) :: R) H locs) (hl : lv_has ls 2 [(0, .ref h0)]) (hkc : kc + 6 ≤ 53) (hks : ks + 51 ≤ 23711)
    (kk : ∀ (qa wa qb wb qc wc : Nat) (H : Heap) (locs : List Loc), CWd D A s tys ((h0, .inr (3, [g0, g1, g2, g3, .ref qa, .ref qb, .ref qc, .null, .null, .null])) :: (((R ++ [(qa, .inr (2, [.ref wa])), (wa, .inl (kL, 16, .inr (.inl (fun _ => 0))))]) ++ [(qb, .inr (2, [.ref wb])), (wb, .inl (kL, 16, .inr (.inl (fun _ => 0))))]) ++ [(qc, .inr (2, [.ref wc])), (wc, .inl (kL, 16, .inr (.inl (fun _ => 0))))])) H locs → W p l e RRX s m #[Value.ref h0] below meth c H locs (kc + 6) (ks + 51) Q (F0 m 76 ls [])) : W p l e RRX s m #[Value.ref h0] below meth c H locs kc ks Q (F0 m 43 ls []) := by
  obtain ⟨hx, hb, hml, hown, hts, hin, hA⟩ := id X
  refine lv_aload_n hx hb dX3_init_43 rfl (lv_at hl 0 rfl) ?_
  refine sg_tab X hkL dX3_init_44 dX3_init_47 dX3_init_48 (fun _ => Nat.le_of_ble_eq_true rfl) C hl.1 (by omega) (by omega) (fun qa wa H locs C => ?_)
  refine sp_work X dX3_init_51 C (fun H locs C => ?_)
  refine lv_aload_n hx hb dX3_init_54 rfl (lv_at hl 0 rfl) ?_
  refine sg_tab X hkL dX3_init_55 dX3_init_58 dX3_init_59 (fun _ => Nat.le_of_ble_eq_true rfl) C hl.1 (by omega) (by omega) (fun qb wb H locs C => ?_)
  refine sp_aid X dX3_init_62 C (fun H locs C => ?_)
  refine lv_aload_n hx hb dX3_init_65 rfl (lv_at hl 0 rfl) ?_
  refine sg_tab X hkL dX3_init_66 dX3_init_69 dX3_init_70 (fun _ => Nat.le_of_ble_eq_true rfl) C hl.1 (by omega) (by omega) (fun qc wc H locs C => ?_)
  refine sp_spare X dX3_init_73 C (fun H locs C => ?_)
  exact W.widen (by omega) (by omega) (kk qa wa qb wb qc wc H locs C)
set_option maxHeartbeats 8000000 in
theorem seg3 (X : HXc p s m meth c h0 A) {g0 g1 g2 g3 g4 g5 g6 : Value} {R : va_W} {iI : Nat} {kI : ClassId} (hkI : tys[iI]? = some (kI, .int)) (C : CWd D A s tys ((h0, .inr (3, [g0, g1, g2, g3, g4, g5, g6, .null, .null, .null])) :: R) H locs) (hl : lv_has ls 2 [(0, .ref h0)]) (hkc : kc + 3 ≤ 53) (hks : ks + 1044 ≤ 23711)
    (kk : ∀ (qa qb qc : Nat) (H : Heap) (locs : List Loc), CWd D A s tys ((h0, .inr (3, [g0, g1, g2, g3, g4, g5, g6, .ref qa, .ref qb, .ref qc])) :: (((R ++ [(qa, .inl (kI, 10, .inl (fun _ => 0)))]) ++ [(qb, .inl (kI, 1024, .inl (fun _ => 0)))]) ++ [(qc, .inl (kI, 10, .inl (fun _ => 0)))])) H locs → W p l e RRX s m #[Value.ref h0] below meth c H locs (kc + 3) (ks + 1044) Q (F0 m 101 ls [])) : W p l e RRX s m #[Value.ref h0] below meth c H locs kc ks Q (F0 m 76 ls []) := by
  obtain ⟨hx, hb, hml, hown, hts, hin, hA⟩ := id X
  refine lv_aload_n hx hb dX3_init_76 rfl (lv_at hl 0 rfl) ?_
  refine lv_bipush (v := 10) hx hb dX3_init_77 (by decide) ?_
  refine sg_arr X hkI (N' := 10) (by decide +kernel) (by decide +kernel) (Nat.le_of_ble_eq_true rfl) dX3_init_79 C (by omega) (by omega) (fun qa H C => ?_)
  refine sp_costs X dX3_init_81 C (fun H locs C => ?_)
  refine lv_aload_n hx hb dX3_init_84 rfl (lv_at hl 0 rfl) ?_
  refine lv_sipush (v := 1024) hx hb dX3_init_85 (by decide) ?_
  refine sg_arr X hkI (N' := 1024) (by decide +kernel) (by decide +kernel) (Nat.le_of_ble_eq_true rfl) dX3_init_88 C (by omega) (by omega) (fun qb H C => ?_)
  refine sp_costOf X dX3_init_90 C (fun H locs C => ?_)
  refine lv_aload_n hx hb dX3_init_93 rfl (lv_at hl 0 rfl) ?_
  refine lv_bipush (v := 10) hx hb dX3_init_94 (by decide) ?_
  refine sg_arr X hkI (N' := 10) (by decide +kernel) (by decide +kernel) (Nat.le_of_ble_eq_true rfl) dX3_init_96 C (by omega) (by omega) (fun qc H C => ?_)
  refine sp_weights X dX3_init_98 C (fun H locs C => ?_)
  exact W.widen (by omega) (by omega) (kk qa qb qc H locs C)
set_option maxHeartbeats 8000000 in
theorem seg4 (X : HXc p s m meth c h0 A) {g1 g2 g3 g4 g5 g6 g7 g8 g9 : Value} {R : va_W} {qF i : Nat} {f : Nat → Option Nat} {iL : Nat} {kL kF : ClassId} (hi : i < 12) (hkL : tys[iL]? = some (kL, .long)) (hkF : tys[0]? = some (kF, .object RX2)) (C : CWd D A s tys ((h0, .inr (3, [.ref qF, g1, g2, g3, g4, g5, g6, g7, g8, g9])) :: (qF, .inl (kF, 12, .inr (.inr (.inr (.inr f))))) :: R) H locs) (hl : lv_has ls 2 [(1, .int (nI i)), (0, .ref h0)]) (hkc : kc + 2 ≤ 53) (hks : ks + 17 ≤ 23711)
    (kk : ∀ (q w : Nat) (H : Heap) (locs : List Loc) (ls : Array Slot), CWd D A s tys ((h0, .inr (3, [.ref qF, g1, g2, g3, g4, g5, g6, g7, g8, g9])) :: (qF, .inl (kF, 12, .inr (.inr (.inr (.inr (va_up f i (some q))))))) :: (R ++ [(q, .inr (2, [.ref w])), (w, .inl (kL, 16, .inr (.inl (fun _ => 0))))])) H locs → lv_has ls 2 [(1, .int (nI (i + 1))), (0, .ref h0)] → W p l e RRX s m #[Value.ref h0] below meth c H locs (kc + 2) (ks + 17) Q (F0 m 103 ls [])) : W p l e RRX s m #[Value.ref h0] below meth c H locs kc ks Q (F0 m 103 ls []) := by
  obtain ⟨hx, hb, hml, hown, hts, hin, hA⟩ := id X
  refine lv_iload_n hx hb dX3_init_103 rfl (lv_at hl 0 rfl) ?_
  refine lv_bipush (v := 12) hx hb dX3_init_104 (by decide) ?_
  refine lv_icmp_ge (tgt := 128) hx hb dX3_init_106 (by decide) (fun cc => ?_) (fun _ => ?_)
  · rw [n_12, nI_leE (by omega) (by omega)] at cc
    omega
  refine lv_aload_n hx hb dX3_init_109 rfl (lv_at hl 1 rfl) ?_
  refine va_get (C := RX3) (T := TX3) (N := 10) hx hb hts inI3 hown C.2.2.2 C.1 0 rfl rfl 0 (by decide) (hts (.fieldLink RX3 11 "Trellis" "functions" "[LTrellis$Table;") (by decide +kernel)) (fun _ h9 => h9) rfl dX3_init_110 ?_
  refine lv_iload_n hx hb dX3_init_113 rfl (lv_at hl 0 rfl) ?_
  refine sg_tab X hkL dX3_init_114 dX3_init_117 dX3_init_118 (fun _ => Nat.le_of_ble_eq_true rfl) C hl.1 (by omega) (by omega) (fun q w H locs C => ?_)
  obtain ⟨hP, hD, hS, hK⟩ := C
  have hq : (((h0, .inr (3, [.ref qF, g1, g2, g3, g4, g5, g6, g7, g8, g9])) :: (qF, .inl (kF, 12, .inr (.inr (.inr (.inr f))))) :: R : va_W) ++ [(q, .inr (2, [.ref w])), (w, .inl (kL, 16, .inr (.inl (fun _ => 0))))])[R.length + 2]? = some (q, .inr (2, [.ref w])) := by
    rw [List.getElem?_append_right (by simp)]
    simp
  refine va_astq hx hb hK hP hD hS 1 0 (R.length + 2) 2 (r := (RX2, TX2, 1)) rfl hkF hq rfl (vp_in_nI hi (by omega)) dX3_init_121 (fun H locs hP hD hS => ?_)
  rw [nI_toN (by omega)] at hP hD
  refine lv_iinc (v := nI (i + 1)) (lv' := [(1, .int (nI (i + 1))), (0, .ref h0)]) hx hb dX3_init_122 hl (k := 0) rfl (by rw [← nI_add1]; rfl) (by decide) rfl (fun ls hl => ?_)
  refine lv_goto (tgt := 103) hx hb dX3_init_125 (by decide) ?_
  exact W.widen (by omega) (by omega) (kk q w H locs ls ⟨hP, hD, hS, hK⟩ hl)
end CTB
