/-! THE CONSTRUCTOR OF TRELLIS, whole, laid by wip/p40/ctorb.py -/
section CTD
variable {p : Program} {l : Launch} {e : Env} {s : State} {m : MethodId} {below : List Frame} {meth : Method} {c : Code} {H : Heap} {locs : List Loc} {Q : State → Prop} {D : va_G} {A : Nat → Prop} {h0 : Nat} {ls : Array Slot}
set_option maxHeartbeats 8000000 in
theorem seg123 (X : HXc p s m meth c h0 A) (hAO : va_AO RX2 s) (C : CWd D A s [] [(h0, .inr (3, [.null, .null, .null, .null, .null, .null, .null, .null, .null, .null]))] H locs) (hl : lv_has ls 2 [(0, .ref h0)])
    (kk : ∀ (qF : Nat) (aD : Nat → Nat) (kF kI kL : ClassId) (qS qD qO o1 o2 o3 qc qo qw t12 w12 t13 w13 t14 w14 : Nat) (H : Heap) (locs : List Loc), CWd D A s [(kF, .object RX2), (kI, .int), (kL, .long)] ((h0, .inr (3, [.ref qF, .ref qS, .ref qD, .ref qO, .ref t12, .ref t13, .ref t14, .ref qc, .ref qo, .ref qw])) :: (qF, .inl (kF, 12, .inr (.inr (.inr (.inr (fun _ => none)))))) :: bR aD kI kL qS qD qO o1 o2 o3 qc qo qw t12 w12 t13 w13 t14 w14) H locs → W p l e RRX s m #[Value.ref h0] below meth c H locs 29 23507 Q (F0 m 101 ls [])) : W p l e RRX s m #[Value.ref h0] below meth c H locs 0 0 Q (F0 m 4 ls []) := by
  refine seg1 X hAO C hl (fun qF qS qD qO o1 o2 o3 aD kF kI kL H locs C => ?_)
  refine seg2 X (iL := 2) (kL := kL) rfl C hl (Nat.le_of_ble_eq_true rfl) (Nat.le_of_ble_eq_true rfl) (fun t12 w12 t13 w13 t14 w14 H locs C => ?_)
  refine seg3 X (iI := 1) (kI := kI) rfl C hl (Nat.le_of_ble_eq_true rfl) (Nat.le_of_ble_eq_true rfl) (fun qc qo qw H locs C => ?_)
  exact kk qF aD kF kI kL qS qD qO o1 o2 o3 qc qo qw t12 w12 t13 w13 t14 w14 H locs C
set_option maxHeartbeats 8000000 in
set_option maxHeartbeats 8000000 in
theorem seg4_0 (X : HXc p s m meth c h0 A) {g1 g2 g3 g4 g5 g6 g7 g8 g9 : Value} {R : va_W} {qF : Nat} {f : Nat → Option Nat} {kF kI kL : ClassId} {kc ks : Nat} (C : CWd D A s [(kF, .object RX2), (kI, .int), (kL, .long)] ((h0, .inr (3, [.ref qF, g1, g2, g3, g4, g5, g6, g7, g8, g9])) :: (qF, .inl (kF, 12, .inr (.inr (.inr (.inr f))))) :: R) H locs) (hl : lv_has ls 2 [(1, .int (nI 0)), (0, .ref h0)]) (hkc : kc + 8 ≤ 53) (hks : ks + 68 ≤ 23711)
    (kk : ∀ (t0 w0 t1 w1 t2 w2 t3 w3 : Nat) (H : Heap) (locs : List Loc) (ls : Array Slot), CWd D A s [(kF, .object RX2), (kI, .int), (kL, .long)] ((h0, .inr (3, [.ref qF, g1, g2, g3, g4, g5, g6, g7, g8, g9])) :: (qF, .inl (kF, 12, .inr (.inr (.inr (.inr (va_up (va_up (va_up (va_up f 0 (some t0)) 1 (some t1)) 2 (some t2)) 3 (some t3))))))) :: ((((R ++ [(t0, .inr (2, [.ref w0])), (w0, .inl (kL, 16, .inr (.inl (fun _ => 0))))]) ++ [(t1, .inr (2, [.ref w1])), (w1, .inl (kL, 16, .inr (.inl (fun _ => 0))))]) ++ [(t2, .inr (2, [.ref w2])), (w2, .inl (kL, 16, .inr (.inl (fun _ => 0))))]) ++ [(t3, .inr (2, [.ref w3])), (w3, .inl (kL, 16, .inr (.inl (fun _ => 0))))])) H locs → lv_has ls 2 [(1, .int (nI 4)), (0, .ref h0)] → W p l e RRX s m #[Value.ref h0] below meth c H locs (kc + 8) (ks + 68) Q (F0 m 103 ls [])) : W p l e RRX s m #[Value.ref h0] below meth c H locs kc ks Q (F0 m 103 ls []) := by
  refine seg4 X (i := 0) (iL := 2) (kL := kL) (kF := kF) (by decide) rfl rfl C hl (by omega) (by omega) (fun t0 w0 H locs ls C hl => ?_)
  refine seg4 X (i := 1) (iL := 2) (kL := kL) (kF := kF) (by decide) rfl rfl C hl (by omega) (by omega) (fun t1 w1 H locs ls C hl => ?_)
  refine seg4 X (i := 2) (iL := 2) (kL := kL) (kF := kF) (by decide) rfl rfl C hl (by omega) (by omega) (fun t2 w2 H locs ls C hl => ?_)
  refine seg4 X (i := 3) (iL := 2) (kL := kL) (kF := kF) (by decide) rfl rfl C hl (by omega) (by omega) (fun t3 w3 H locs ls C hl => ?_)
  exact W.widen (by omega) (by omega) (kk t0 w0 t1 w1 t2 w2 t3 w3 H locs ls C hl)
set_option maxHeartbeats 8000000 in
theorem seg4_4 (X : HXc p s m meth c h0 A) {g1 g2 g3 g4 g5 g6 g7 g8 g9 : Value} {R : va_W} {qF : Nat} {f : Nat → Option Nat} {kF kI kL : ClassId} {kc ks : Nat} (C : CWd D A s [(kF, .object RX2), (kI, .int), (kL, .long)] ((h0, .inr (3, [.ref qF, g1, g2, g3, g4, g5, g6, g7, g8, g9])) :: (qF, .inl (kF, 12, .inr (.inr (.inr (.inr f))))) :: R) H locs) (hl : lv_has ls 2 [(1, .int (nI 4)), (0, .ref h0)]) (hkc : kc + 8 ≤ 53) (hks : ks + 68 ≤ 23711)
    (kk : ∀ (t4 w4 t5 w5 t6 w6 t7 w7 : Nat) (H : Heap) (locs : List Loc) (ls : Array Slot), CWd D A s [(kF, .object RX2), (kI, .int), (kL, .long)] ((h0, .inr (3, [.ref qF, g1, g2, g3, g4, g5, g6, g7, g8, g9])) :: (qF, .inl (kF, 12, .inr (.inr (.inr (.inr (va_up (va_up (va_up (va_up f 4 (some t4)) 5 (some t5)) 6 (some t6)) 7 (some t7))))))) :: ((((R ++ [(t4, .inr (2, [.ref w4])), (w4, .inl (kL, 16, .inr (.inl (fun _ => 0))))]) ++ [(t5, .inr (2, [.ref w5])), (w5, .inl (kL, 16, .inr (.inl (fun _ => 0))))]) ++ [(t6, .inr (2, [.ref w6])), (w6, .inl (kL, 16, .inr (.inl (fun _ => 0))))]) ++ [(t7, .inr (2, [.ref w7])), (w7, .inl (kL, 16, .inr (.inl (fun _ => 0))))])) H locs → lv_has ls 2 [(1, .int (nI 8)), (0, .ref h0)] → W p l e RRX s m #[Value.ref h0] below meth c H locs (kc + 8) (ks + 68) Q (F0 m 103 ls [])) : W p l e RRX s m #[Value.ref h0] below meth c H locs kc ks Q (F0 m 103 ls []) := by
  refine seg4 X (i := 4) (iL := 2) (kL := kL) (kF := kF) (by decide) rfl rfl C hl (by omega) (by omega) (fun t4 w4 H locs ls C hl => ?_)
  refine seg4 X (i := 5) (iL := 2) (kL := kL) (kF := kF) (by decide) rfl rfl C hl (by omega) (by omega) (fun t5 w5 H locs ls C hl => ?_)
  refine seg4 X (i := 6) (iL := 2) (kL := kL) (kF := kF) (by decide) rfl rfl C hl (by omega) (by omega) (fun t6 w6 H locs ls C hl => ?_)
  refine seg4 X (i := 7) (iL := 2) (kL := kL) (kF := kF) (by decide) rfl rfl C hl (by omega) (by omega) (fun t7 w7 H locs ls C hl => ?_)
  exact W.widen (by omega) (by omega) (kk t4 w4 t5 w5 t6 w6 t7 w7 H locs ls C hl)
set_option maxHeartbeats 8000000 in
theorem seg4_8 (X : HXc p s m meth c h0 A) {g1 g2 g3 g4 g5 g6 g7 g8 g9 : Value} {R : va_W} {qF : Nat} {f : Nat → Option Nat} {kF kI kL : ClassId} {kc ks : Nat} (C : CWd D A s [(kF, .object RX2), (kI, .int), (kL, .long)] ((h0, .inr (3, [.ref qF, g1, g2, g3, g4, g5, g6, g7, g8, g9])) :: (qF, .inl (kF, 12, .inr (.inr (.inr (.inr f))))) :: R) H locs) (hl : lv_has ls 2 [(1, .int (nI 8)), (0, .ref h0)]) (hkc : kc + 8 ≤ 53) (hks : ks + 68 ≤ 23711)
    (kk : ∀ (t8 w8 t9 w9 t10 w10 t11 w11 : Nat) (H : Heap) (locs : List Loc) (ls : Array Slot), CWd D A s [(kF, .object RX2), (kI, .int), (kL, .long)] ((h0, .inr (3, [.ref qF, g1, g2, g3, g4, g5, g6, g7, g8, g9])) :: (qF, .inl (kF, 12, .inr (.inr (.inr (.inr (va_up (va_up (va_up (va_up f 8 (some t8)) 9 (some t9)) 10 (some t10)) 11 (some t11))))))) :: ((((R ++ [(t8, .inr (2, [.ref w8])), (w8, .inl (kL, 16, .inr (.inl (fun _ => 0))))]) ++ [(t9, .inr (2, [.ref w9])), (w9, .inl (kL, 16, .inr (.inl (fun _ => 0))))]) ++ [(t10, .inr (2, [.ref w10])), (w10, .inl (kL, 16, .inr (.inl (fun _ => 0))))]) ++ [(t11, .inr (2, [.ref w11])), (w11, .inl (kL, 16, .inr (.inl (fun _ => 0))))])) H locs → lv_has ls 2 [(1, .int (nI 12)), (0, .ref h0)] → W p l e RRX s m #[Value.ref h0] below meth c H locs (kc + 8) (ks + 68) Q (F0 m 103 ls [])) : W p l e RRX s m #[Value.ref h0] below meth c H locs kc ks Q (F0 m 103 ls []) := by
  refine seg4 X (i := 8) (iL := 2) (kL := kL) (kF := kF) (by decide) rfl rfl C hl (by omega) (by omega) (fun t8 w8 H locs ls C hl => ?_)
  refine seg4 X (i := 9) (iL := 2) (kL := kL) (kF := kF) (by decide) rfl rfl C hl (by omega) (by omega) (fun t9 w9 H locs ls C hl => ?_)
  refine seg4 X (i := 10) (iL := 2) (kL := kL) (kF := kF) (by decide) rfl rfl C hl (by omega) (by omega) (fun t10 w10 H locs ls C hl => ?_)
  refine seg4 X (i := 11) (iL := 2) (kL := kL) (kF := kF) (by decide) rfl rfl C hl (by omega) (by omega) (fun t11 w11 H locs ls C hl => ?_)
  exact W.widen (by omega) (by omega) (kk t8 w8 t9 w9 t10 w10 t11 w11 H locs ls C hl)
end CTD
set_option maxHeartbeats 8000000 in
set_option maxRecDepth 100000 in
theorem ctX3_init (l : Launch) (D : va_G) (h0 sz : Nat) : Met l yX3_init wsX3_init { frames := 2, cells := 53, slots := 23711, locals := 60 } (va_Pc [.ref h0] (fun U => U.heap.size = sz ∧ va_P D vwCl [(h0, .inr (3, [.null, .null, .null, .null, .null, .null, .null, .null, .null, .null]))] U.heap ∧ va_K D vwCl [] U ∧ va_D (fun _ => True) [(h0, .inr (3, [.null, .null, .null, .null, .null, .null, .null, .null, .null, .null]))] ∧ va_AO RX2 U)) (va_Qv (fun (u : (Nat → Nat) × KA) => True) (fun u t => u.1 0 = h0 ∧ va_P D vwCl (wC u.1 u.2 st0) t.heap ∧ va_K D vwCl (tys u.2) t ∧ va_D (va_A [(h0, .inr (3, [.null, .null, .null, .null, .null, .null, .null, .null, .null, .null]))] sz) (wC u.1 u.2 st0)) (va_A [(h0, .inr (3, [.null, .null, .null, .null, .null, .null, .null, .null, .null, .null]))] sz)) 53 23711 (va_A [(h0, .inr (3, [.null, .null, .null, .null, .null, .null, .null, .null, .null, .null]))] sz) := by
  refine Met.ofW (cc := cX3_init) (maxL := 2) (ret := none) (by decide) rfl ?_
  intro p e s m args below meth c s₁ B hml hv
  obtain ⟨rfl, hsz, hP, hK, hD0, hAO⟩ := hv
  have hx := B.exec
  have hb := B.bytes
  have hr := B.returns
  have hts := atoms_spec (ws := wsX3_init) B.pre
  have hown : s.vm.findClass RX3 = some m.cls := findClass_of_methodNamed B.named
  have hlocks := B.notSynchronized
  have hin : meth.name = "<init>" := (name_of_methodNamed B.named B.method).1
  subst hsz
  have hD := hD0.self (sz := s.heap.size)
  generalize hAe : va_A [(h0, .inr (3, [.null, .null, .null, .null, .null, .null, .null, .null, .null, .null]))] s.heap.size = A at hD ⊢
  have hA : ∀ q : Nat, s.heap.size ≤ q → A q := fun q h => by rw [← hAe]; exact Or.inr h
  have hS : va_S A s.heap s.heap [] := va_S.rf
  have X : HXc p s m meth c h0 A := ⟨hx, hb, hml, hown, hts, hin, hA⟩
  have hl := lv_entry ([.ref h0]) (n := 2) (Nat.le_of_ble_eq_true rfl)
  rw [lg_entry_eq]
  generalize (lg_sl ([.ref h0]) ++ List.replicate (2 - (lg_sl ([.ref h0])).length) Slot.unset).toArray = ls at hl ⊢
  have hl : lv_has ls 2 [(0, .ref h0)] := hl
  refine lv_aload_n hx hb dX3_init_0 rfl (lv_at hl 0 rfl) ?_
  refine W.objInit hx hb hown (hts (.methodLink RX3 3 objectInit) (by decide +kernel)) (hts (.instanceMethod objectInit) (by decide +kernel)) (hts (.code objectInit ⟨#[0xb1]⟩ 1 none) (by decide +kernel)) rfl (by rw [hml]; exact hl.1) rfl dX3_init_1 (Nat.le_of_ble_eq_true rfl) (Nat.le_of_ble_eq_true rfl) ?_
  refine W.eq (g2 := F0 m 4 ls []) rfl ?_
  refine seg123 X hAO ⟨hP, hD, hS, hK⟩ hl (fun qF aD kF kI kL qS qD qO o1 o2 o3 qc qo qw t12 w12 t13 w13 t14 w14 H locs C => ?_)
  refine lv_iconst (v := 0) hx hb dX3_init_101 (by decide) ?_
  refine lv_istore_n (lv' := [(1, .int (nI 0)), (0, .ref h0)]) hx hb dX3_init_102 rfl hl (by decide) rfl (fun ls hl => ?_)
  refine seg4_0 X C hl (Nat.le_of_ble_eq_true rfl) (Nat.le_of_ble_eq_true rfl) (fun t0 w0 t1 w1 t2 w2 t3 w3 H locs ls C hl => ?_)
  refine seg4_4 X C hl (Nat.le_of_ble_eq_true rfl) (Nat.le_of_ble_eq_true rfl) (fun t4 w4 t5 w5 t6 w6 t7 w7 H locs ls C hl => ?_)
  refine seg4_8 X C hl (Nat.le_of_ble_eq_true rfl) (Nat.le_of_ble_eq_true rfl) (fun t8 w8 t9 w9 t10 w10 t11 w11 H locs ls C hl => ?_)
  refine lv_iload_n hx hb dX3_init_103 rfl (lv_at hl 0 rfl) ?_
  refine lv_bipush (v := 12) hx hb dX3_init_104 (by decide) ?_
  refine lv_icmp_ge (tgt := 128) hx hb dX3_init_106 (by decide) (fun _ => ?_) (fun cc => absurd (by decide +kernel) cc)
  obtain ⟨hP, hD, hS, hK⟩ := C
  have hP9 : va_P D vwCl (bW aD kF kI kL h0 qF qS qD qO o1 o2 o3 qc qo qw t0 w0 t1 w1 t2 w2 t3 w3 t4 w4 t5 w5 t6 w6 t7 w7 t8 w8 t9 w9 t10 w10 t11 w11 t12 w12 t13 w13 t14 w14) H := hP
  have hD9 : va_D A (bW aD kF kI kL h0 qF qS qD qO o1 o2 o3 qc qo qw t0 w0 t1 w1 t2 w2 t3 w3 t4 w4 t5 w5 t6 w6 t7 w7 t8 w8 t9 w9 t10 w10 t11 w11 t12 w12 t13 w13 t14 w14) := hD
  rw [bW_X] at hP9 hD9
  have hK9 : va_K D vwCl (tys (kI, kL, kF)) s := hK.sub (tys' := [(kI, .int), (kL, .long), (kF, .object RX2)]) [1, 2, 0] rfl
  exact W.vret hx hb hr (fun t ht hW => ⟨⟨(bA aD h0 qF qS qD qO o1 o2 o3 qc qo qw t0 w0 t1 w1 t2 w2 t3 w3 t4 w4 t5 w5 t6 w6 t7 w7 t8 w8 t9 w9 t10 w10 t11 w11 t12 w12 t13 w13 t14 w14, (kI, kL, kF)), rfl, trivial, rfl, by rw [ht]; exact bX_P hP9, va_K.moved hW.alike hK9, bX_D hD9⟩, hS.F ht⟩) hS.2.2 dX3_init_128
