/-! THE LAW'S START: by hand -/
set_option maxRecDepth 20000 in
theorem ao_in : Cond.arrayOver (.object "Trellis$Table") ∈ lw_tbl := at_in (ws := [Cond.arrayOver (.object "Trellis$Table")]) [50] (by decide +kernel) _ List.mem_cons_self
set_option maxRecDepth 20000 in
theorem ls_in : Cond.laysStatic "Trellis$Table" "PATTERNS" "[J" ∈ lw_tbl := at_in (ws := [Cond.laysStatic "Trellis$Table" "PATTERNS" "[J"]) [353] (by decide +kernel) _ List.mem_cons_self
set_option maxRecDepth 20000 in
theorem it_in : Cond.initialized "Trellis$Table" ∈ lw_tbl := at_in (ws := [Cond.initialized "Trellis$Table"]) [30] (by decide +kernel) _ List.mem_cons_self
abbrev tmP : Term := .static "Trellis$Table" "PATTERNS" "[J"
set_option maxRecDepth 20000 in
theorem PT_start {s : State} {args : Array Value} (hgv : (Jvm.Cond.and given_1 narrow_1).before args s = true) (hl : (Cond.laysStatic "Trellis$Table" "PATTERNS" "[J").before args s = true) (hi : (Cond.initialized "Trellis$Table").before args s = true) : PT (fun q : Nat => s.heap.size ≤ q) s s.heap := by
  have hs := flat_of_before _ hgv
  have hA : ∀ a : Nat, a < s.heap.size → ¬ (fun q : Nat => s.heap.size ≤ q) a := fun a h => Nat.not_le.mpr h
  have harr : (Cond.arrayOf tmP .long).before args s = true := hs _ (by decide +kernel)
  have hlen : (Term.length tmP).eval args s none [] s = some (.int (Int32.ofNat 6)) := va_eqt (hs (.eq (.length tmP) (.int (Int32.ofNat 6))) (by decide +kernel))
  have hel : ∀ j : Nat, j < 6 → (Term.elem tmP (.int (Int32.ofNat j))).eval args s none [] s = some (.long (pat j)) := by
    intro j hj
    rcases (show j = 0 ∨ j = 1 ∨ j = 2 ∨ j = 3 ∨ j = 4 ∨ j = 5 by omega) with rfl | rfl | rfl | rfl | rfl | rfl
    · exact va_eqtl (hs (.eq (.elem tmP (.int (Int32.ofNat 0))) (.long (pat 0))) (by decide +kernel))
    · exact va_eqtl (hs (.eq (.elem tmP (.int (Int32.ofNat 1))) (.long (pat 1))) (by decide +kernel))
    · exact va_eqtl (hs (.eq (.elem tmP (.int (Int32.ofNat 2))) (.long (pat 2))) (by decide +kernel))
    · exact va_eqtl (hs (.eq (.elem tmP (.int (Int32.ofNat 3))) (.long (pat 3))) (by decide +kernel))
    · exact va_eqtl (hs (.eq (.elem tmP (.int (Int32.ofNat 4))) (.long (pat 4))) (by decide +kernel))
    · exact va_eqtl (hs (.eq (.elem tmP (.int (Int32.ofNat 5))) (.long (pat 5))) (by decide +kernel))
  obtain ⟨t, h1, h2⟩ := va_Tof (N := 6) (f := fun j => .long (pat j)) (by decide) harr hlen hel hA
  exact ⟨t, va_Zref hl hi h1 hA, h2⟩
theorem D_start {s : State} {args : Array Value} (hts : ∀ w ∈ wsL_law, w.before args s = true) : ∃ D : va_G, va_K D vwCl [] s := by
  obtain ⟨c0, i0, k0⟩ := u_known (C := RX0) (T := TX0) (N := 17) (n := 17) hts inlX0 (hts (.instantiable RX0 17) (by decide +kernel))
  obtain ⟨c1, i1, k1⟩ := u_known (C := RX1) (T := TX1) (N := 3) (n := 3) hts inlX1 (hts (.instantiable RX1 3) (by decide +kernel))
  obtain ⟨c2, i2, k2⟩ := u_known (C := RX2) (T := TX2) (N := 1) (n := 1) hts inlX2 (hts (.instantiable RX2 1) (by decide +kernel))
  obtain ⟨c3, i3, k3⟩ := u_known (C := RX3) (T := TX3) (N := 10) (n := 10) hts inlX3 (hts (.instantiable RX3 10) (by decide +kernel))
  refine ⟨(fun k => if k = 0 then c0 else if k = 1 then c1 else if k = 2 then c2 else c3, fun k => if k = 0 then i0 else if k = 1 then i1 else if k = 2 then i2 else i3), ?_, fun k q h => by simp at h⟩
  intro k q hq
  match k, hq with
  | 0, hq => cases hq; exact k0
  | 1, hq => cases hq; exact k1
  | 2, hq => cases hq; exact k2
  | 3, hq => cases hq; exact k3
  | k + 4, hq => simp [vwCl] at hq
section STARTROWS
variable {p : Program} {l : Launch} {e : Env} {s : State} {m : MethodId} {below : List Frame} {meth : Method} {c : Code} {H : Heap} {locs : List Loc} {cells slots : Nat} {Q : State → Prop}
variable {pc : Nat} {ls : Array Slot} {D : va_G} {ks : KA} {ad : Nat → Nat} {A : Nat → Prop} {st st' : St} {b : Nat}
set_option maxRecDepth 20000 in
theorem ww_made (S : CallFix p m c cL_law 11 s #[Value.ref b] wsL_law RL) (hW : WW D ks ad A s st H locs) {x1 x2 : Int32} (hE : sL_made st x1 x2 = some st') (hsize : ls.size = 11) (hdg : decode cL_law pc = .ok (.invokestatic 105, 3)) (hf : cells + 6 ≤ room_1.cells ∧ slots + 6144 ≤ room_1.slots)
    (kk : ∀ (ra : Nat) (H1 : Heap) (locs1 : List Loc), WW D ks ad A s st' H1 locs1 → W p l e room_1 s m #[Value.ref b] below meth c H1 locs1 (cells + 6) (slots + 6144) Q (F0 m (pc + 3) ls [.ref ra])) : W p l e room_1 s m #[Value.ref b] below meth c H locs cells slots Q (F0 m pc ls [.int x2, .int x1, .ref (ad 0)]) := by
  have hts := S.2.2.2.2
  refine va_callr (va_runS (As := [.ref (ad 0), .int x1, .int x2]) (rest := []) S (ctL_made l D ks ad H.size st x1 x2 hE) (va_cwS 3 hts gL_law_L_made rfl rfl rfl (by decide +kernel) ⟨Nat.le_of_ble_eq_true rfl, Nat.le_of_ble_eq_true rfl⟩) ⟨PW.blind _ _ _ _ _ _, fun U hU hWm => ⟨rfl, hW.pre hU hWm⟩⟩ rfl rfl hsize rfl (lv_room (Nat.le_of_ble_eq_true rfl)) hdg hf) hW.2.2.1 (fun q _ h => hW.aa q h) hW.aa (fun u ra t H1 locs1 ht hvm hp hB hz1 hk1 hS => ?_)
  obtain rfl := hp
  exact kk ra H1 locs1 (hW.back hB ht hS)
end STARTROWS
set_option maxHeartbeats 8000000 in
set_option maxRecDepth 100000 in
theorem whole_start {p : Program} {e : Env} {s : State} {m : MethodId} {below : List Frame} {meth : Method} {c : Code} (l : Launch) (hflags : l.flags = flags0) {b L : Nat} {xs : Nat → Int32} (hL : L ≤ 260) (C0 : lw_At p s m meth c b L xs) : W p l e room_1 s m #[Value.ref b] below meth c s.heap [] 0 0 (lw_Z below #[Value.ref b] s) (entryFrame m ([Value.ref b] : List Value).toArray 11) := by
  obtain ⟨hx, hb, hr, hml, hown, hts0, hX, hbl, hlocks, hgv⟩ := id C0
  have hb : c.code = cL_law := hb
  have hown : s.vm.findClass RL = some m.cls := hown
  have hts : ∀ w ∈ wsL_law, w.before #[Value.ref b] s = true := fun w h => hts0 w (wsL_law_in w h)
  have hA : ∀ q : Nat, s.heap.size ≤ q → (fun q : Nat => s.heap.size ≤ q) q := fun _ h => h
  have hPT := PT_start hgv (hts0 _ ls_in) (hts0 _ it_in)
  have hAO : va_AO RX2 s := va_AO.of (hts0 _ ao_in)
  obtain ⟨D, hK⟩ := D_start hts
  have hbb : b < s.heap.size ∧ ¬ (s.heap.size ≤ b) := ⟨hbl, Nat.not_le.mpr hbl⟩
  have S : CallFix p m c cL_law 11 s #[Value.ref b] wsL_law RL := ⟨hx, hb, hml, hown, hts⟩
  obtain ⟨S1, s1, e1, k1⟩ := made_K K_start (by omega) (s := 0) (by omega) (cellV L xs (nI 0))
  obtain ⟨S2, s2, e2, k2⟩ := made_K k1 (by omega) (s := 1) (by omega) (cellV L xs (nI 1) * (3 : Int32) + (2 : Int32))
  obtain ⟨S3, s3, e3, k3⟩ := made_K k2 (by omega) (s := 2) (by omega) (cellV L xs (nI 2) * (5 : Int32) + (3 : Int32))
  obtain ⟨s4, e4⟩ := law_K (xL := L) (xs := xs) k3 (by omega)
  have hS : va_S (fun q : Nat => s.heap.size ≤ q) s.heap s.heap [] := va_S.rf
  have hP : va_P D vwCl [] s.heap := fun k q h => by simp at h
  have hD : va_D (fun q : Nat => s.heap.size ≤ q) [] := ⟨fun i j p q h => by simp at h, fun k q h => by simp at h⟩
  have hl := lv_entry ([.ref b]) (n := 11) (Nat.le_of_ble_eq_true rfl)
  rw [lg_entry_eq]
  generalize (lg_sl ([.ref b]) ++ List.replicate (11 - (lg_sl ([.ref b])).length) Slot.unset).toArray = ls at hl ⊢
  have hl : lv_has ls 11 [(0, .ref b)] := hl
  refine va_new (ci := 3) (fs := [.null, .null, .null, .null, .null, .null, .null, .null, .null, .null]) (C := RX3) (T := TX3) (N := 10) hx hb hts inlX3 tyX3 tyX3_ok hown (hts (.classLink RL 16 RX3) (by decide +kernel)) (hts (.instantiable RX3 10) (by decide +kernel)) (hts (.initialized RX3) (by decide +kernel)) hK hP hD hS hA rfl (fun j hj => by rcases (show j = 0 ∨ j = 1 ∨ j = 2 ∨ j = 3 ∨ j = 4 ∨ j = 5 ∨ j = 6 ∨ j = 7 ∨ j = 8 ∨ j = 9 by omega) with rfl | rfl | rfl | rfl | rfl | rfl | rfl | rfl | rfl | rfl <;> rfl) (Nat.le_of_ble_eq_true rfl) (Nat.le_of_ble_eq_true rfl) dL_law_0 (fun h0 H hP hD hS => ?_)
  have hP : va_P D vwCl [(h0, .inr (3, [.null, .null, .null, .null, .null, .null, .null, .null, .null, .null]))] H := hP
  have hD : va_D (fun q : Nat => s.heap.size ≤ q) [(h0, .inr (3, [.null, .null, .null, .null, .null, .null, .null, .null, .null, .null]))] := hD
  refine lv_dup hx hb dL_law_3 rfl ?_
  have hFc := va_free (wc := [(h0, .inr (3, [.null, .null, .null, .null, .null, .null, .null, .null, .null, .null]))]) hD hS hA [0] rfl
  refine va_callv (va_runI (As := []) (rest := [.ref h0]) S (ctX3_init l D h0 H.size) (cwI 0 hts gL_law_X3_init rfl rfl rfl (hts (.initialized RX3) (by decide +kernel)) (hts (.methodLink RL 100 yX3_init) (by decide +kernel)) (hts (.instanceMethod yX3_init) (by decide +kernel)) rfl (by decide +kernel) ⟨Nat.le_of_ble_eq_true rfl, Nat.le_of_ble_eq_true rfl⟩) ⟨fun a U g mk q => by obtain ⟨q0, q1, qP, qK, qD, qA⟩ := q; exact ⟨q0, q1, qP, va_K.moved (u := U) (U := U.calling g mk a) (Vm.Alike.refl U.vm) qK, qD, va_AO.moved (u := U) (U := U.calling g mk a) (Vm.Alike.refl U.vm) qA⟩, fun U hU hWm => ⟨rfl, by rw [hU], by rw [hU]; exact hP, va_K.moved hWm.alike hK, hD.weaken (fun _ _ _ _ => trivial), va_AO.moved hWm.alike hAO⟩⟩ rfl rfl hl.1 rfl (lv_room (Nat.le_of_ble_eq_true rfl)) dL_law_4 ⟨Nat.le_of_ble_eq_true rfl, Nat.le_of_ble_eq_true rfl⟩) hS (fun q _ h => hFc q h) hFc (fun u t H1 locs ht hvm hw hB hz1 hk1 hS => ?_)
  obtain ⟨ad, ks⟩ := u
  obtain ⟨h0e, hP1, hK1, hD1⟩ := hB
  have h0e : ad 0 = h0 := h0e
  subst h0e
  rw [ht] at hP1
  have hK1 := va_K.moved hvm.symm hK1
  have hW : WW D ks ad (fun q : Nat => s.heap.size ≤ q) s st0 H1 locs := ⟨hP1, hD1.weaken (fun k q _ h => hFc _ h), hS, hK1, hPT, hA⟩
  refine lv_astore_n (lv' := [(1, .ref (ad 0)), (0, .ref b)]) hx hb dL_law_7 rfl hl (by decide) rfl (fun ls hl => ?_)
  refine lv_aload_n hx hb dL_law_8 rfl (lv_at hl 0 rfl) ?_
  refine lv_iconst (v := nI 0) hx hb dL_law_9 (by decide) ?_
  refine lv_aload_n hx hb dL_law_10 rfl (lv_at hl 1 rfl) ?_
  refine lv_iconst (v := nI 0) hx hb dL_law_11 (by decide) ?_
  refine ww_cell (rest := [.int (nI 0), .ref (ad 0)]) S hW hL hX hbb (by decide +kernel) (va_cwS 2 hts gL_law_L_cell rfl rfl rfl (by decide +kernel) ⟨Nat.le_of_ble_eq_true rfl, Nat.le_of_ble_eq_true rfl⟩) hl.1 (Nat.le_of_ble_eq_true rfl) dL_law_12 ⟨Nat.le_of_ble_eq_true rfl, Nat.le_of_ble_eq_true rfl⟩ (fun H locs hW => ?_)
  refine ww_made S hW e1 hl.1 dL_law_15 ⟨Nat.le_of_ble_eq_true rfl, Nat.le_of_ble_eq_true rfl⟩ (fun ra H locs hW => ?_)
  refine lv_pop hx hb dL_law_18 rfl ?_
  refine lv_aload_n hx hb dL_law_19 rfl (lv_at hl 0 rfl) ?_
  refine lv_iconst (v := nI 1) hx hb dL_law_20 (by decide) ?_
  refine lv_aload_n hx hb dL_law_21 rfl (lv_at hl 1 rfl) ?_
  refine lv_iconst (v := nI 1) hx hb dL_law_22 (by decide) ?_
  refine ww_cell (rest := [.int (nI 1), .ref (ad 0)]) S hW hL hX hbb (by decide +kernel) (va_cwS 2 hts gL_law_L_cell rfl rfl rfl (by decide +kernel) ⟨Nat.le_of_ble_eq_true rfl, Nat.le_of_ble_eq_true rfl⟩) hl.1 (Nat.le_of_ble_eq_true rfl) dL_law_23 ⟨Nat.le_of_ble_eq_true rfl, Nat.le_of_ble_eq_true rfl⟩ (fun H locs hW => ?_)
  refine lv_iconst (v := 3) hx hb dL_law_26 (by decide) ?_
  refine lv_imul hx hb dL_law_27 ?_
  refine lv_iconst (v := 2) hx hb dL_law_28 (by decide) ?_
  refine lv_iadd hx hb dL_law_29 ?_
  refine ww_made S hW e2 hl.1 dL_law_30 ⟨Nat.le_of_ble_eq_true rfl, Nat.le_of_ble_eq_true rfl⟩ (fun ra H locs hW => ?_)
  refine lv_pop hx hb dL_law_33 rfl ?_
  refine lv_aload_n hx hb dL_law_34 rfl (lv_at hl 0 rfl) ?_
  refine lv_iconst (v := nI 2) hx hb dL_law_35 (by decide) ?_
  refine lv_aload_n hx hb dL_law_36 rfl (lv_at hl 1 rfl) ?_
  refine lv_iconst (v := nI 2) hx hb dL_law_37 (by decide) ?_
  refine ww_cell (rest := [.int (nI 2), .ref (ad 0)]) S hW hL hX hbb (by decide +kernel) (va_cwS 2 hts gL_law_L_cell rfl rfl rfl (by decide +kernel) ⟨Nat.le_of_ble_eq_true rfl, Nat.le_of_ble_eq_true rfl⟩) hl.1 (Nat.le_of_ble_eq_true rfl) dL_law_38 ⟨Nat.le_of_ble_eq_true rfl, Nat.le_of_ble_eq_true rfl⟩ (fun H locs hW => ?_)
  refine lv_iconst (v := 5) hx hb dL_law_41 (by decide) ?_
  refine lv_imul hx hb dL_law_42 ?_
  refine lv_iconst (v := 3) hx hb dL_law_43 (by decide) ?_
  refine lv_iadd hx hb dL_law_44 ?_
  refine ww_made S hW e3 hl.1 dL_law_45 ⟨Nat.le_of_ble_eq_true rfl, Nat.le_of_ble_eq_true rfl⟩ (fun ra H locs hW => ?_)
  refine lv_pop hx hb dL_law_48 rfl ?_
  exact law_rest hx hb hr hml hown hts hL hX hbb hlocks (Nat.le_of_ble_eq_true rfl) (Nat.le_of_ble_eq_true rfl) e4 hW (lv_sub hl [1, 0] rfl)
