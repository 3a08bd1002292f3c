/-! CONTRACTS, laid by wip/p40/gen.py -/
abbrev rmX1_putTo : Room := { frames := 1, cells := 0, slots := 0, locals := 21 }
set_option maxHeartbeats 4000000 in
set_option maxRecDepth 100000 in
theorem ctX1_putTo (l : Launch) (D : va_G) (ks : KA) (ad : Nat → Nat) (sz : Nat) (st : St) (x0 : Int64) (x2 : Int32) (x3 : Int32)  {r : Int64}  (hE : sX1_putTo st x0 x2 x3 = some r) : CJ l D ks yX1_putTo wsX1_putTo rmX1_putTo [.long x0, .int x2, .int x3] ad sz st r st := by
  unfold sX1_putTo at hE
  refine Met.ofW (cc := cX1_putTo) (maxL := 9) (ret := (some .long)) (by decide) rfl ?_
  intro p e s m args below meth c s₁ B hml hv
  obtain ⟨hargs, hPW⟩ := hv
  have hW := WW.entry hPW
  have hx := B.exec
  have hb := B.bytes
  have hr := B.returns
  have hts := atoms_spec (ws := wsX1_putTo) B.pre
  have hown : s.vm.findClass RX1 = some m.cls := findClass_of_methodNamed B.named
  have hlocks := B.notSynchronized
  have hl := lv_entry ([.long x0, .int x2, .int x3]) (n := 9) (Nat.le_of_ble_eq_true rfl)
  have hfr : entryFrame m args 9 = F0 m 0 (lg_sl ([.long x0, .int x2, .int x3]) ++ List.replicate (9 - (lg_sl ([.long x0, .int x2, .int x3])).length) Slot.unset).toArray [] := by rw [hargs, lg_entry_eq]
  rw [hfr]
  generalize (lg_sl ([.long x0, .int x2, .int x3]) ++ List.replicate (9 - (lg_sl ([.long x0, .int x2, .int x3])).length) Slot.unset).toArray = ls at hl ⊢
  have hl : lv_has ls 9 [(0, .long x0), (2, .int x2), (3, .int x3)] := hl
  refine lv_iconst (v := 1) hx hb dX1_putTo_0 (by decide) ?_
  refine lv_iload_n hx hb dX1_putTo_1 rfl (lv_at hl 1 rfl) ?_
  refine lv_ishl hx hb dX1_putTo_2 ?_
  obtain ⟨x4_1, e, hE⟩ := lt_some hE
  refine lv_nmi e ?_
  refine lv_istore (lv' := [(4, .int x4_1), (0, .long x0), (2, .int x2), (3, .int x3)]) hx hb dX1_putTo_3 hl (by decide) rfl (fun ls hl => ?_)
  refine lv_iload_n hx hb dX1_putTo_5 rfl (lv_at hl 2 rfl) ?_
  refine lv_iconst (v := 0) hx hb dX1_putTo_6 (by decide) ?_
  obtain ⟨r_3, hc_2, hE⟩ := ob_some hE
  refine ww_callSl (As := [.int x2, .int (0 : Int32)]) (rest := []) ⟨hx, hb, hml, hown, hts⟩ hW (ctX2_wordOfVariable l D ks ad _ st x2 (0 : Int32) hc_2) (va_cwS 2 hts gX1_putTo_X2_wordOfVariable rfl rfl rfl (by decide +kernel) ⟨Nat.le_of_ble_eq_true rfl, Nat.le_of_ble_eq_true rfl⟩) rfl hl.1 rfl (Nat.le_of_ble_eq_true rfl) dX1_putTo_7 ⟨Nat.zero_le _, Nat.zero_le _⟩ (fun H locs hW => ?_)
  refine lv_lstore (lv' := [(5, .long r_3), (4, .int x4_1), (0, .long x0), (2, .int x2), (3, .int x3)]) hx hb dX1_putTo_10 hl (by decide) rfl (fun ls hl => ?_)
  refine lv_iload_n hx hb dX1_putTo_12 rfl (lv_at hl 4 rfl) ?_
  refine lv_if_eq (tgt := 31) hx hb dX1_putTo_13 (by decide) (fun c_4 => ?_) (fun c_4 => ?_)
  · have hE := if_t c_4 hE
    refine lv_lload_n hx hb dX1_putTo_31 rfl (lv_at hl 2 rfl) ?_
    refine lv_lload hx hb dX1_putTo_32 (lv_at hl 0 rfl) ?_
    refine lv_ldc2 (v := (-1)) hx hb hown (hts (.constantLong RX1 58 (-1)) (by decide +kernel)) dX1_putTo_34 ?_
    refine lv_lxor hx hb dX1_putTo_37 ?_
    refine lv_land hx hb dX1_putTo_38 ?_
    obtain ⟨x7_5, e, hE⟩ := lt_some hE
    refine lv_nml e ?_
    refine lv_lstore (lv' := [(7, .long x7_5), (5, .long r_3), (4, .int x4_1), (0, .long x0), (2, .int x2), (3, .int x3)]) hx hb dX1_putTo_39 hl (by decide) rfl (fun ls hl => ?_)
    refine lv_lload hx hb dX1_putTo_41 (lv_at hl 0 rfl) ?_
    refine lv_lload hx hb dX1_putTo_43 (lv_at hl 0 rfl) ?_
    refine lv_iload hx hb dX1_putTo_45 (lv_at hl 2 rfl) ?_
    refine lv_lshl (v := (lshl x7_5 x4_1)) hx hb dX1_putTo_47 rfl ?_
    refine lv_lor hx hb dX1_putTo_48 ?_
    obtain rfl := some_x hE
    exact W.lret hx hb hr (fun t ht hWm => hW.ql ht hWm) hW.2.2.1.2.2 dX1_putTo_49
  · have hE := if_f c_4 hE
    refine lv_lload_n hx hb dX1_putTo_16 rfl (lv_at hl 2 rfl) ?_
    refine lv_lload hx hb dX1_putTo_17 (lv_at hl 0 rfl) ?_
    refine lv_land hx hb dX1_putTo_19 ?_
    obtain ⟨x7_6, e, hE⟩ := lt_some hE
    refine lv_nml e ?_
    refine lv_lstore (lv' := [(7, .long x7_6), (5, .long r_3), (4, .int x4_1), (0, .long x0), (2, .int x2), (3, .int x3)]) hx hb dX1_putTo_20 hl (by decide) rfl (fun ls hl => ?_)
    refine lv_lload hx hb dX1_putTo_22 (lv_at hl 0 rfl) ?_
    refine lv_lload hx hb dX1_putTo_24 (lv_at hl 0 rfl) ?_
    refine lv_iload hx hb dX1_putTo_26 (lv_at hl 2 rfl) ?_
    refine lv_lushr (v := (lush x7_6 x4_1)) hx hb dX1_putTo_28 rfl ?_
    refine lv_lor hx hb dX1_putTo_29 ?_
    obtain rfl := some_x hE
    exact W.lret hx hb hr (fun t ht hWm => hW.ql ht hWm) hW.2.2.1.2.2 dX1_putTo_30
abbrev rmX1_keep : Room := { frames := 0, cells := 0, slots := 0, locals := 0 }
set_option maxRecDepth 100000 in
theorem in1_X1_keep : ∀ w ∈ wsX10, w ∈ wsX1_keep := by decide +kernel
set_option maxHeartbeats 4000000 in
set_option maxRecDepth 100000 in
theorem ctX1_keep (l : Launch) (D : va_G) (ks : KA) (ad : Nat → Nat) (sz : Nat) (st : St) (x1 : Int32) (x2 : Int64)  {r : Int32} {st' : St} (hE : sX1_keep st x1 x2 = some (r, st')) : CI l D ks yX1_keep wsX1_keep rmX1_keep [.ref (ad 20), .int x1, .long x2] ad sz st r st' := by
  unfold sX1_keep at hE
  refine Met.ofW (cc := cX1_keep) (maxL := 5) (ret := (some .int)) (by decide) rfl ?_
  intro p e s m args below meth c s₁ B hml hv
  obtain ⟨hargs, hPW⟩ := hv
  have hW := WW.entry hPW
  have hx := B.exec
  have hb := B.bytes
  have hr := B.returns
  have hts := atoms_spec (ws := wsX1_keep) B.pre
  have hown : s.vm.findClass RX1 = some m.cls := findClass_of_methodNamed B.named
  have hlocks := B.notSynchronized
  have hin1 : ∀ w ∈ u_ws RX1 TX1 3, w ∈ wsX1_keep := in1_X1_keep
  have hf19 := hts (.fieldLink RX1 19 "Trellis$Orders" "fresh" "[J") (by decide +kernel)
  have hl := lv_entry ([.ref (ad 20), .int x1, .long x2]) (n := 5) (Nat.le_of_ble_eq_true rfl)
  have hfr : entryFrame m args 5 = F0 m 0 (lg_sl ([.ref (ad 20), .int x1, .long x2]) ++ List.replicate (5 - (lg_sl ([.ref (ad 20), .int x1, .long x2])).length) Slot.unset).toArray [] := by rw [hargs, lg_entry_eq]
  rw [hfr]
  generalize (lg_sl ([.ref (ad 20), .int x1, .long x2]) ++ List.replicate (5 - (lg_sl ([.ref (ad 20), .int x1, .long x2])).length) Slot.unset).toArray = ls at hl ⊢
  have hl : lv_has ls 5 [(0, .ref (ad 20)), (1, .int x1), (2, .long x2)] := hl
  have L3 : ∀ (n : Nat) (st : St) (x1 : Int32) (x2 : Int64) (x4 : Int32)  (z : (Int32 × St) ⊕ (Unit)) (H : Heap) (locs : List Loc) (ls : Array Slot), sX1_keep_L3 n st x1 x2 x4 = some z → WW D ks ad (AA ad sz) s st H locs → lv_has ls 5 [(0, .ref (ad 20)), (1, .int x1), (2, .long x2), (4, .int x4)] → (z = .inr () → ∀ (H : Heap) (locs : List Loc) (ls : Array Slot), WW D ks ad (AA ad sz) s st H locs → lv_has ls 5 [(0, .ref (ad 20)), (1, .int x1), (2, .long x2)] → W p l e (headSpec wsX1_keep rmX1_keep).room s m args below meth c H locs 0 0 (MQ below (va_Qi (fun (x : Int32) (u : St) => x = r ∧ u = st') (QW D ks ad sz) (AA ad sz)) args s 0 0 (AA ad sz)) (F0 m 29 ls [])) → (∀ a : Int32 × St, z = .inl a → a = (r, st')) → W p l e (headSpec wsX1_keep rmX1_keep).room s m args below meth c H locs 0 0 (MQ below (va_Qi (fun (x : Int32) (u : St) => x = r ∧ u = st') (QW D ks ad sz) (AA ad sz)) args s 0 0 (AA ad sz)) (F0 m 3 ls []) := by
    intro n
    induction n with
    | zero =>
      intro st x1 x2 x4 z H locs ls hE hW hl kx kr
      exact none_x hE
    | succ n ih =>
      intro st x1 x2 x4 z H locs ls hE hW hl kx kr
      rw [sX1_keep_L3] at hE
      refine lv_iload hx hb dX1_keep_3 (lv_at hl 3 rfl) ?_
      refine lv_iload_n hx hb dX1_keep_5 rfl (lv_at hl 1 rfl) ?_
      refine lv_icmp_ge (tgt := 29) hx hb dX1_keep_6 (by decide) (fun c_1 => ?_) (fun c_1 => ?_)
      · have hE := if_t c_1 hE
        exact kx  (some_x hE).symm _ _ _ hW (lv_sub hl [0, 1, 2] rfl)
      · have hE := if_f c_1 hE
        refine lv_aload_n hx hb dX1_keep_9 rfl (lv_at hl 0 rfl) ?_
        refine ww_get (C := RX1) (T := TX1) (N := 3) (ref := RX1) (ci := 1) (v := .ref (ad (lc 16))) hx hb hts hin1 hown hW 20 (by decide) rfl rfl 2 (by decide) hf19 (fun _ h9 => h9) rfl dX1_keep_10 ?_
        refine lv_iload hx hb dX1_keep_13 (lv_at hl 3 rfl) ?_
        obtain ⟨hin, hE⟩ := gd_some hE
        refine ww_lald hx hb hW 16 (by decide) hin dX1_keep_15 ?_
        refine lv_lload_n hx hb dX1_keep_16 rfl (lv_at hl 2 rfl) ?_
        refine W.lcmp hx hb dX1_keep_17 ?_
        refine lv_if_ne (tgt := 23) hx hb dX1_keep_18 (by decide) (fun c_2 => ?_) (fun c_2 => ?_)
        · have hE := if_t c_2 hE
          obtain ⟨x4_3, e, hE⟩ := lt_some hE
          refine lv_iinc (v := x4_3) (lv' := [(4, .int x4_3), (0, .ref (ad 20)), (1, .int x1), (2, .long x2)]) hx hb dX1_keep_23 hl (k := 3) rfl (by rw [e]; rfl) (by decide) rfl (fun ls hl => ?_)
          refine lv_goto (tgt := 3) hx hb dX1_keep_26 (by decide) ?_
          exact ih st x1 x2 x4_3 _ _ _ _ hE hW (lv_sub hl [1, 2, 3, 0] rfl) kx kr
        · have hE := if_f (fun q => q c_2) hE
          refine lv_iload_n hx hb dX1_keep_21 rfl (lv_at hl 1 rfl) ?_
          have hE := kr _ (some_x hE).symm
          obtain ⟨rfl, rfl⟩ := pair_e hE
          exact W.iret hx hb hr (fun t ht hWm => hW.qi ht hWm) hW.2.2.1.2.2 dX1_keep_22
  refine lv_iconst (v := 0) hx hb dX1_keep_0 (by decide) ?_
  refine lv_istore (lv' := [(4, .int (0 : Int32)), (0, .ref (ad 20)), (1, .int x1), (2, .long x2)]) hx hb dX1_keep_1 hl (by decide) rfl (fun ls hl => ?_)
  obtain ⟨z_4, hz, hz1, hz2⟩ := obS_some hE
  exact L3 FU st x1 x2 (0 : Int32) z_4 _ _ _ hz hW (lv_sub hl [1, 2, 3, 0] rfl) (fun  e H locs ls hW hl => by
      have hE := hz2 _ e
      refine lv_iload_n hx hb dX1_keep_29 rfl (lv_at hl 1 rfl) ?_
      refine lv_bipush (v := 64) hx hb dX1_keep_30 (by decide) ?_
      refine lv_icmp_lt (tgt := 37) hx hb dX1_keep_32 (by decide) (fun c_6 => ?_) (fun c_6 => ?_)
      · have hE := if_t c_6 hE
        refine lv_aload_n hx hb dX1_keep_37 rfl (lv_at hl 0 rfl) ?_
        refine ww_get (C := RX1) (T := TX1) (N := 3) (ref := RX1) (ci := 1) (v := .ref (ad (lc 16))) hx hb hts hin1 hown hW 20 (by decide) rfl rfl 2 (by decide) hf19 (fun _ h9 => h9) rfl dX1_keep_38 ?_
        refine lv_iload_n hx hb dX1_keep_41 rfl (lv_at hl 1 rfl) ?_
        refine lv_lload_n hx hb dX1_keep_42 rfl (lv_at hl 2 rfl) ?_
        obtain ⟨hin, hE⟩ := gd_some hE
        obtain ⟨st_7, est, hE⟩ := lt_some hE
        refine ww_last hx hb hW 16 (by decide) hin est dX1_keep_43 (fun H locs hW => ?_)
        refine lv_iload_n hx hb dX1_keep_44 rfl (lv_at hl 1 rfl) ?_
        refine lv_iconst (v := 1) hx hb dX1_keep_45 (by decide) ?_
        refine lv_iadd hx hb dX1_keep_46 ?_
        obtain ⟨rfl, rfl⟩ := pair_x hE
        exact W.iret hx hb hr (fun t ht hWm => hW.qi ht hWm) hW.2.2.1.2.2 dX1_keep_47
      · have hE := if_f c_6 hE
        refine lv_iload_n hx hb dX1_keep_35 rfl (lv_at hl 1 rfl) ?_
        obtain ⟨rfl, rfl⟩ := pair_x hE
        exact W.iret hx hb hr (fun t ht hWm => hW.qi ht hWm) hW.2.2.1.2.2 dX1_keep_36) (fun a e => some_x (hz1 a e))
abbrev rmX1_splitAll : Room := { frames := 2, cells := 0, slots := 0, locals := 60 }
set_option maxRecDepth 100000 in
theorem in1_X1_splitAll : ∀ w ∈ wsX10, w ∈ wsX1_splitAll := by decide +kernel
set_option maxHeartbeats 4000000 in
set_option maxRecDepth 100000 in
theorem ctX1_splitAll (l : Launch) (D : va_G) (ks : KA) (ad : Nat → Nat) (sz : Nat) (st : St) (x1 : Int32) (x2 : Int32)  {r : Int32} {st' : St} (hE : sX1_splitAll st x1 x2 = some (r, st')) : CI l D ks yX1_splitAll wsX1_splitAll rmX1_splitAll [.ref (ad 20), .int x1, .int x2] ad sz st r st' := by
  unfold sX1_splitAll at hE
  refine Met.ofW (cc := cX1_splitAll) (maxL := 5) (ret := (some .int)) (by decide) rfl ?_
  intro p e s m args below meth c s₁ B hml hv
  obtain ⟨hargs, hPW⟩ := hv
  have hW := WW.entry hPW
  have hx := B.exec
  have hb := B.bytes
  have hr := B.returns
  have hts := atoms_spec (ws := wsX1_splitAll) B.pre
  have hown : s.vm.findClass RX1 = some m.cls := findClass_of_methodNamed B.named
  have hlocks := B.notSynchronized
  have hin1 : ∀ w ∈ u_ws RX1 TX1 3, w ∈ wsX1_splitAll := in1_X1_splitAll
  have hf15 := hts (.fieldLink RX1 15 "Trellis$Orders" "parts" "[J") (by decide +kernel)
  have hf19 := hts (.fieldLink RX1 19 "Trellis$Orders" "fresh" "[J") (by decide +kernel)
  have hl := lv_entry ([.ref (ad 20), .int x1, .int x2]) (n := 5) (Nat.le_of_ble_eq_true rfl)
  have hfr : entryFrame m args 5 = F0 m 0 (lg_sl ([.ref (ad 20), .int x1, .int x2]) ++ List.replicate (5 - (lg_sl ([.ref (ad 20), .int x1, .int x2])).length) Slot.unset).toArray [] := by rw [hargs, lg_entry_eq]
  rw [hfr]
  generalize (lg_sl ([.ref (ad 20), .int x1, .int x2]) ++ List.replicate (5 - (lg_sl ([.ref (ad 20), .int x1, .int x2])).length) Slot.unset).toArray = ls at hl ⊢
  have hl : lv_has ls 5 [(0, .ref (ad 20)), (1, .int x1), (2, .int x2)] := hl
  have L5 : ∀ (n : Nat) (st : St) (x1 : Int32) (x2 : Int32) (x3 : Int32) (x4 : Int32)  (stz : St) (z3 : Int32) (H : Heap) (locs : List Loc) (ls : Array Slot), sX1_splitAll_L5 n st x1 x2 x3 x4 = some (stz, z3) → WW D ks ad (AA ad sz) s st H locs → lv_has ls 5 [(0, .ref (ad 20)), (1, .int x1), (2, .int x2), (3, .int x3), (4, .int x4)] → (∀ (H : Heap) (locs : List Loc) (ls : Array Slot), WW D ks ad (AA ad sz) s stz H locs → lv_has ls 5 [(0, .ref (ad 20)), (3, .int z3)] → W p l e (headSpec wsX1_splitAll rmX1_splitAll).room s m args below meth c H locs 0 0 (MQ below (va_Qi (fun (x : Int32) (u : St) => x = r ∧ u = st') (QW D ks ad sz) (AA ad sz)) args s 0 0 (AA ad sz)) (F0 m 53 ls [])) → W p l e (headSpec wsX1_splitAll rmX1_splitAll).room s m args below meth c H locs 0 0 (MQ below (va_Qi (fun (x : Int32) (u : St) => x = r ∧ u = st') (QW D ks ad sz) (AA ad sz)) args s 0 0 (AA ad sz)) (F0 m 5 ls []) := by
    intro n
    induction n with
    | zero =>
      intro st x1 x2 x3 x4 stz z3 H locs ls hE hW hl kx
      exact none_x hE
    | succ n ih =>
      intro st x1 x2 x3 x4 stz z3 H locs ls hE hW hl kx
      rw [sX1_splitAll_L5] at hE
      refine lv_iload hx hb dX1_splitAll_5 (lv_at hl 4 rfl) ?_
      refine lv_iload_n hx hb dX1_splitAll_7 rfl (lv_at hl 1 rfl) ?_
      refine lv_icmp_ge (tgt := 53) hx hb dX1_splitAll_8 (by decide) (fun c_1 => ?_) (fun c_1 => ?_)
      · have hE := if_t c_1 hE
        obtain ⟨rfl, rfl⟩ := tup2_x hE
        exact kx _ _ _ hW (lv_sub hl [0, 3] rfl)
      · have hE := if_f c_1 hE
        refine lv_aload_n hx hb dX1_splitAll_11 rfl (lv_at hl 0 rfl) ?_
        refine lv_iload_n hx hb dX1_splitAll_12 rfl (lv_at hl 3 rfl) ?_
        refine lv_aload_n hx hb dX1_splitAll_13 rfl (lv_at hl 0 rfl) ?_
        refine ww_get (C := RX1) (T := TX1) (N := 3) (ref := RX1) (ci := 1) (v := .ref (ad (lc 15))) hx hb hts hin1 hown hW 20 (by decide) rfl rfl 1 (by decide) hf15 (fun _ h9 => h9) rfl dX1_splitAll_14 ?_
        refine lv_iload hx hb dX1_splitAll_17 (lv_at hl 4 rfl) ?_
        obtain ⟨hin, hE⟩ := gd_some hE
        refine ww_lald hx hb hW 15 (by decide) hin dX1_splitAll_19 ?_
        refine lv_iload_n hx hb dX1_splitAll_20 rfl (lv_at hl 2 rfl) ?_
        refine lv_iconst (v := 0) hx hb dX1_splitAll_21 (by decide) ?_
        obtain ⟨r_3, hc_2, hE⟩ := ob_some hE
        refine ww_callSl (As := [.long (gL 15 st x4), .int x2, .int (0 : Int32)]) (rest := [.int x3, .ref (ad 20)]) ⟨hx, hb, hml, hown, hts⟩ hW (ctX1_putTo l D ks ad _ st (gL 15 st x4) x2 (0 : Int32) hc_2) (va_cwS 3 hts gX1_splitAll_X1_putTo rfl rfl rfl (by decide +kernel) ⟨Nat.le_of_ble_eq_true rfl, Nat.le_of_ble_eq_true rfl⟩) rfl hl.1 rfl (Nat.le_of_ble_eq_true rfl) dX1_splitAll_22 ⟨Nat.zero_le _, Nat.zero_le _⟩ (fun H locs hW => ?_)
        obtain ⟨r_6, st_4, hc_5, hE⟩ := ob2_some hE
        refine ww_callVi (As := [.int x3, .long r_3]) (rest := []) ⟨hx, hb, hml, hown, hts⟩ hW (ctX1_keep l D ks ad _ st x3 r_3 hc_5) (cwV 2 hts gX1_splitAll_X1_keep rfl rfl rfl (by decide +kernel) ⟨Nat.le_of_ble_eq_true rfl, Nat.le_of_ble_eq_true rfl⟩) hW.recvO rfl hl.1 rfl (Nat.le_of_ble_eq_true rfl) dX1_splitAll_25 ⟨Nat.zero_le _, Nat.zero_le _⟩ (fun H locs hW => ?_)
        refine lv_istore_n (lv' := [(3, .int r_6), (0, .ref (ad 20)), (1, .int x1), (2, .int x2), (4, .int x4)]) hx hb dX1_splitAll_28 rfl hl (by decide) rfl (fun ls hl => ?_)
        refine lv_aload_n hx hb dX1_splitAll_29 rfl (lv_at hl 1 rfl) ?_
        refine lv_iload_n hx hb dX1_splitAll_30 rfl (lv_at hl 0 rfl) ?_
        refine lv_aload_n hx hb dX1_splitAll_31 rfl (lv_at hl 1 rfl) ?_
        refine ww_get (C := RX1) (T := TX1) (N := 3) (ref := RX1) (ci := 1) (v := .ref (ad (lc 15))) hx hb hts hin1 hown hW 20 (by decide) rfl rfl 1 (by decide) hf15 (fun _ h9 => h9) rfl dX1_splitAll_32 ?_
        refine lv_iload hx hb dX1_splitAll_35 (lv_at hl 4 rfl) ?_
        obtain ⟨hin, hE⟩ := gd_some hE
        refine ww_lald hx hb hW 15 (by decide) hin dX1_splitAll_37 ?_
        refine lv_iload_n hx hb dX1_splitAll_38 rfl (lv_at hl 3 rfl) ?_
        refine lv_iconst (v := 1) hx hb dX1_splitAll_39 (by decide) ?_
        obtain ⟨r_8, hc_7, hE⟩ := ob_some hE
        refine ww_callSl (As := [.long (gL 15 st_4 x4), .int x2, .int (1 : Int32)]) (rest := [.int r_6, .ref (ad 20)]) ⟨hx, hb, hml, hown, hts⟩ hW (ctX1_putTo l D ks ad _ st_4 (gL 15 st_4 x4) x2 (1 : Int32) hc_7) (va_cwS 3 hts gX1_splitAll_X1_putTo rfl rfl rfl (by decide +kernel) ⟨Nat.le_of_ble_eq_true rfl, Nat.le_of_ble_eq_true rfl⟩) rfl hl.1 rfl (Nat.le_of_ble_eq_true rfl) dX1_splitAll_40 ⟨Nat.zero_le _, Nat.zero_le _⟩ (fun H locs hW => ?_)
        obtain ⟨r_11, st_9, hc_10, hE⟩ := ob2_some hE
        refine ww_callVi (As := [.int r_6, .long r_8]) (rest := []) ⟨hx, hb, hml, hown, hts⟩ hW (ctX1_keep l D ks ad _ st_4 r_6 r_8 hc_10) (cwV 2 hts gX1_splitAll_X1_keep rfl rfl rfl (by decide +kernel) ⟨Nat.le_of_ble_eq_true rfl, Nat.le_of_ble_eq_true rfl⟩) hW.recvO rfl hl.1 rfl (Nat.le_of_ble_eq_true rfl) dX1_splitAll_43 ⟨Nat.zero_le _, Nat.zero_le _⟩ (fun H locs hW => ?_)
        refine lv_istore_n (lv' := [(3, .int r_11), (0, .ref (ad 20)), (1, .int x1), (2, .int x2), (4, .int x4)]) hx hb dX1_splitAll_46 rfl hl (by decide) rfl (fun ls hl => ?_)
        obtain ⟨x4_12, e, hE⟩ := lt_some hE
        refine lv_iinc (v := x4_12) (lv' := [(4, .int x4_12), (3, .int r_11), (0, .ref (ad 20)), (1, .int x1), (2, .int x2)]) hx hb dX1_splitAll_47 hl (k := 4) rfl (by rw [e]; rfl) (by decide) rfl (fun ls hl => ?_)
        refine lv_goto (tgt := 5) hx hb dX1_splitAll_50 (by decide) ?_
        exact ih st_9 x1 x2 r_11 x4_12 _ _ _ _ _ hE hW (lv_sub hl [2, 3, 4, 1, 0] rfl) kx
  refine lv_iconst (v := 0) hx hb dX1_splitAll_0 (by decide) ?_
  refine lv_istore_n (lv' := [(3, .int (0 : Int32)), (0, .ref (ad 20)), (1, .int x1), (2, .int x2)]) hx hb dX1_splitAll_1 rfl hl (by decide) rfl (fun ls hl => ?_)
  refine lv_iconst (v := 0) hx hb dX1_splitAll_2 (by decide) ?_
  refine lv_istore (lv' := [(4, .int (0 : Int32)), (3, .int (0 : Int32)), (0, .ref (ad 20)), (1, .int x1), (2, .int x2)]) hx hb dX1_splitAll_3 hl (by decide) rfl (fun ls hl => ?_)
  obtain ⟨st_13, x3_14, hz, hE⟩ := ob2_some hE
  refine L5 FU st x1 x2 (0 : Int32) (0 : Int32) st_13 x3_14 _ _ _ hz hW (lv_sub hl [2, 3, 4, 1, 0] rfl) (fun H locs ls hW hl => ?_)
  refine lv_aload_n hx hb dX1_splitAll_53 rfl (lv_at hl 0 rfl) ?_
  refine ww_get (C := RX1) (T := TX1) (N := 3) (ref := RX1) (ci := 1) (v := .ref (ad (lc 16))) hx hb hts hin1 hown hW 20 (by decide) rfl rfl 2 (by decide) hf19 (fun _ h9 => h9) rfl dX1_splitAll_54 ?_
  refine lv_iconst (v := 0) hx hb dX1_splitAll_57 (by decide) ?_
  refine lv_aload_n hx hb dX1_splitAll_58 rfl (lv_at hl 0 rfl) ?_
  refine ww_get (C := RX1) (T := TX1) (N := 3) (ref := RX1) (ci := 1) (v := .ref (ad (lc 15))) hx hb hts hin1 hown hW 20 (by decide) rfl rfl 1 (by decide) hf15 (fun _ h9 => h9) rfl dX1_splitAll_59 ?_
  refine lv_iconst (v := 0) hx hb dX1_splitAll_62 (by decide) ?_
  refine lv_iload_n hx hb dX1_splitAll_63 rfl (lv_at hl 1 rfl) ?_
  obtain ⟨hi1, hE⟩ := gd_some hE
  obtain ⟨hi2, hE⟩ := gd_some hE
  obtain ⟨hi3, hE⟩ := gd_some hE
  obtain ⟨⟨hi4, hi5⟩, hE⟩ := if_some hE
  obtain ⟨st_15, est, hE⟩ := lt_some hE
  refine ww_copyl hx hb (hml.trans hl.1.symm) hown (hts (.methodLink RX1 46 arraycopyName) (by decide +kernel)) (hts (.native arraycopyName) (by decide +kernel)) (hts (.static arraycopyName) (by decide +kernel)) (hts (.initialized "java/lang/System") (by decide +kernel)) hW 16 15 (by decide) (by decide) hi1 hi2 hi3 hi4 hi5 est (Nat.le_of_ble_eq_true rfl) (Nat.le_of_ble_eq_true rfl) dX1_splitAll_64 (fun H locs hW => ?_)
  refine lv_iload_n hx hb dX1_splitAll_67 rfl (lv_at hl 1 rfl) ?_
  obtain ⟨rfl, rfl⟩ := pair_x hE
  exact W.iret hx hb hr (fun t ht hWm => hW.qi ht hWm) hW.2.2.1.2.2 dX1_splitAll_68
abbrev rmX1_partsOf : Room := { frames := 3, cells := 0, slots := 0, locals := 84 }
set_option maxRecDepth 100000 in
theorem in1_X1_partsOf : ∀ w ∈ wsX10, w ∈ wsX1_partsOf := by decide +kernel
set_option maxHeartbeats 4000000 in
set_option maxRecDepth 100000 in
theorem ctX1_partsOf (l : Launch) (D : va_G) (ks : KA) (ad : Nat → Nat) (sz : Nat) (st : St) (x1 : Int64) (x3 : Int32)  {r : Int32} {st' : St} (hE : sX1_partsOf st x1 x3 = some (r, st')) : CI l D ks yX1_partsOf wsX1_partsOf rmX1_partsOf [.ref (ad 20), .long x1, .int x3] ad sz st r st' := by
  unfold sX1_partsOf at hE
  refine Met.ofW (cc := cX1_partsOf) (maxL := 6) (ret := (some .int)) (by decide) rfl ?_
  intro p e s m args below meth c s₁ B hml hv
  obtain ⟨hargs, hPW⟩ := hv
  have hW := WW.entry hPW
  have hx := B.exec
  have hb := B.bytes
  have hr := B.returns
  have hts := atoms_spec (ws := wsX1_partsOf) B.pre
  have hown : s.vm.findClass RX1 = some m.cls := findClass_of_methodNamed B.named
  have hlocks := B.notSynchronized
  have hin1 : ∀ w ∈ u_ws RX1 TX1 3, w ∈ wsX1_partsOf := in1_X1_partsOf
  have hf15 := hts (.fieldLink RX1 15 "Trellis$Orders" "parts" "[J") (by decide +kernel)
  have hl := lv_entry ([.ref (ad 20), .long x1, .int x3]) (n := 6) (Nat.le_of_ble_eq_true rfl)
  have hfr : entryFrame m args 6 = F0 m 0 (lg_sl ([.ref (ad 20), .long x1, .int x3]) ++ List.replicate (6 - (lg_sl ([.ref (ad 20), .long x1, .int x3])).length) Slot.unset).toArray [] := by rw [hargs, lg_entry_eq]
  rw [hfr]
  generalize (lg_sl ([.ref (ad 20), .long x1, .int x3]) ++ List.replicate (6 - (lg_sl ([.ref (ad 20), .long x1, .int x3])).length) Slot.unset).toArray = ls at hl ⊢
  have hl : lv_has ls 6 [(0, .ref (ad 20)), (1, .long x1), (3, .int x3)] := hl
  have L13 : ∀ (n : Nat) (st : St) (x3 : Int32) (x4 : Int32) (x5 : Int32)  (stz : St) (z4 : Int32) (H : Heap) (locs : List Loc) (ls : Array Slot), sX1_partsOf_L13 n st x3 x4 x5 = some (stz, z4) → WW D ks ad (AA ad sz) s st H locs → lv_has ls 6 [(0, .ref (ad 20)), (3, .int x3), (4, .int x4), (5, .int x5)] → (∀ (H : Heap) (locs : List Loc) (ls : Array Slot), WW D ks ad (AA ad sz) s stz H locs → lv_has ls 6 [(4, .int z4)] → W p l e (headSpec wsX1_partsOf rmX1_partsOf).room s m args below meth c H locs 0 0 (MQ below (va_Qi (fun (x : Int32) (u : St) => x = r ∧ u = st') (QW D ks ad sz) (AA ad sz)) args s 0 0 (AA ad sz)) (F0 m 46 ls [])) → W p l e (headSpec wsX1_partsOf rmX1_partsOf).room s m args below meth c H locs 0 0 (MQ below (va_Qi (fun (x : Int32) (u : St) => x = r ∧ u = st') (QW D ks ad sz) (AA ad sz)) args s 0 0 (AA ad sz)) (F0 m 13 ls []) := by
    intro n
    induction n with
    | zero =>
      intro st x3 x4 x5 stz z4 H locs ls hE hW hl kx
      exact none_x hE
    | succ n ih =>
      intro st x3 x4 x5 stz z4 H locs ls hE hW hl kx
      rw [sX1_partsOf_L13] at hE
      refine lv_iload hx hb dX1_partsOf_13 (lv_at hl 3 rfl) ?_
      refine lv_bipush (v := 6) hx hb dX1_partsOf_15 (by decide) ?_
      refine lv_icmp_ge (tgt := 46) hx hb dX1_partsOf_17 (by decide) (fun c_2 => ?_) (fun c_2 => ?_)
      · have hE := if_t c_2 hE
        obtain ⟨rfl, rfl⟩ := tup2_x hE
        exact kx _ _ _ hW (lv_sub hl [2] rfl)
      · have hE := if_f c_2 hE
        refine lv_iload_n hx hb dX1_partsOf_20 rfl (lv_at hl 1 rfl) ?_
        refine lv_iload hx hb dX1_partsOf_21 (lv_at hl 3 rfl) ?_
        refine lv_ishr hx hb dX1_partsOf_23 ?_
        refine lv_iconst (v := 1) hx hb dX1_partsOf_24 (by decide) ?_
        refine lv_iand hx hb dX1_partsOf_25 ?_
        refine lv_iconst (v := 1) hx hb dX1_partsOf_26 (by decide) ?_
        refine lv_icmp_ne (tgt := 40) hx hb dX1_partsOf_27 (by decide) (fun c_3 => ?_) (fun c_3 => ?_)
        · have hE := if_t c_3 hE
          obtain ⟨x5_4, e, hE⟩ := lt_some hE
          refine lv_iinc (v := x5_4) (lv' := [(5, .int x5_4), (0, .ref (ad 20)), (3, .int x3), (4, .int x4)]) hx hb dX1_partsOf_40 hl (k := 3) rfl (by rw [e]; rfl) (by decide) rfl (fun ls hl => ?_)
          refine lv_goto (tgt := 13) hx hb dX1_partsOf_43 (by decide) ?_
          exact ih st x3 x4 x5_4 _ _ _ _ _ hE hW (lv_sub hl [1, 2, 3, 0] rfl) kx
        · have hE := if_f (fun q => q c_3) hE
          refine lv_aload_n hx hb dX1_partsOf_30 rfl (lv_at hl 0 rfl) ?_
          refine lv_iload hx hb dX1_partsOf_31 (lv_at hl 2 rfl) ?_
          refine lv_iload hx hb dX1_partsOf_33 (lv_at hl 3 rfl) ?_
          obtain ⟨r_7, st_5, hc_6, hE⟩ := ob2_some hE
          refine ww_callVi (As := [.int x4, .int x5]) (rest := []) ⟨hx, hb, hml, hown, hts⟩ hW (ctX1_splitAll l D ks ad _ st x4 x5 hc_6) (cwV 2 hts gX1_partsOf_X1_splitAll rfl rfl rfl (by decide +kernel) ⟨Nat.le_of_ble_eq_true rfl, Nat.le_of_ble_eq_true rfl⟩) hW.recvO rfl hl.1 rfl (Nat.le_of_ble_eq_true rfl) dX1_partsOf_35 ⟨Nat.zero_le _, Nat.zero_le _⟩ (fun H locs hW => ?_)
          refine lv_istore (lv' := [(4, .int r_7), (0, .ref (ad 20)), (3, .int x3), (5, .int x5)]) hx hb dX1_partsOf_38 hl (by decide) rfl (fun ls hl => ?_)
          obtain ⟨x5_8, e, hE⟩ := lt_some hE
          refine lv_iinc (v := x5_8) (lv' := [(5, .int x5_8), (4, .int r_7), (0, .ref (ad 20)), (3, .int x3)]) hx hb dX1_partsOf_40 hl (k := 3) rfl (by rw [e]; rfl) (by decide) rfl (fun ls hl => ?_)
          refine lv_goto (tgt := 13) hx hb dX1_partsOf_43 (by decide) ?_
          exact ih st_5 x3 r_7 x5_8 _ _ _ _ _ hE hW (lv_sub hl [2, 3, 1, 0] rfl) kx
  refine lv_aload_n hx hb dX1_partsOf_0 rfl (lv_at hl 0 rfl) ?_
  refine ww_get (C := RX1) (T := TX1) (N := 3) (ref := RX1) (ci := 1) (v := .ref (ad (lc 15))) hx hb hts hin1 hown hW 20 (by decide) rfl rfl 1 (by decide) hf15 (fun _ h9 => h9) rfl dX1_partsOf_1 ?_
  refine lv_iconst (v := 0) hx hb dX1_partsOf_4 (by decide) ?_
  refine lv_lload_n hx hb dX1_partsOf_5 rfl (lv_at hl 1 rfl) ?_
  obtain ⟨hin, hE⟩ := gd_some hE
  obtain ⟨st_1, est, hE⟩ := lt_some hE
  refine ww_last hx hb hW 15 (by decide) hin est dX1_partsOf_6 (fun H locs hW => ?_)
  refine lv_iconst (v := 1) hx hb dX1_partsOf_7 (by decide) ?_
  refine lv_istore (lv' := [(4, .int (1 : Int32)), (0, .ref (ad 20)), (1, .long x1), (3, .int x3)]) hx hb dX1_partsOf_8 hl (by decide) rfl (fun ls hl => ?_)
  refine lv_iconst (v := 0) hx hb dX1_partsOf_10 (by decide) ?_
  refine lv_istore (lv' := [(5, .int (0 : Int32)), (4, .int (1 : Int32)), (0, .ref (ad 20)), (1, .long x1), (3, .int x3)]) hx hb dX1_partsOf_11 hl (by decide) rfl (fun ls hl => ?_)
  obtain ⟨st_9, x4_10, hz, hE⟩ := ob2_some hE
  refine L13 FU st_1 x3 (1 : Int32) (0 : Int32) st_9 x4_10 _ _ _ hz hW (lv_sub hl [2, 4, 1, 0] rfl) (fun H locs ls hW hl => ?_)
  refine lv_iload hx hb dX1_partsOf_46 (lv_at hl 0 rfl) ?_
  obtain ⟨rfl, rfl⟩ := pair_x hE
  exact W.iret hx hb hr (fun t ht hWm => hW.qi ht hWm) hW.2.2.1.2.2 dX1_partsOf_48
abbrev rmX1_dependent : Room := { frames := 2, cells := 0, slots := 0, locals := 49 }
set_option maxRecDepth 100000 in
theorem in1_X1_dependent : ∀ w ∈ wsX10, w ∈ wsX1_dependent := by decide +kernel
set_option maxHeartbeats 4000000 in
set_option maxRecDepth 100000 in
theorem ctX1_dependent (l : Launch) (D : va_G) (ks : KA) (ad : Nat → Nat) (sz : Nat) (st : St) (x1 : Int32) (x2 : Int32)  {r : Int32}  (hE : sX1_dependent st x1 x2 = some r) : CI l D ks yX1_dependent wsX1_dependent rmX1_dependent [.ref (ad 20), .int x1, .int x2] ad sz st r st := by
  unfold sX1_dependent at hE
  refine Met.ofW (cc := cX1_dependent) (maxL := 5) (ret := (some .int)) (by decide) rfl ?_
  intro p e s m args below meth c s₁ B hml hv
  obtain ⟨hargs, hPW⟩ := hv
  have hW := WW.entry hPW
  have hx := B.exec
  have hb := B.bytes
  have hr := B.returns
  have hts := atoms_spec (ws := wsX1_dependent) B.pre
  have hown : s.vm.findClass RX1 = some m.cls := findClass_of_methodNamed B.named
  have hlocks := B.notSynchronized
  have hin1 : ∀ w ∈ u_ws RX1 TX1 3, w ∈ wsX1_dependent := in1_X1_dependent
  have hf15 := hts (.fieldLink RX1 15 "Trellis$Orders" "parts" "[J") (by decide +kernel)
  have hl := lv_entry ([.ref (ad 20), .int x1, .int x2]) (n := 5) (Nat.le_of_ble_eq_true rfl)
  have hfr : entryFrame m args 5 = F0 m 0 (lg_sl ([.ref (ad 20), .int x1, .int x2]) ++ List.replicate (5 - (lg_sl ([.ref (ad 20), .int x1, .int x2])).length) Slot.unset).toArray [] := by rw [hargs, lg_entry_eq]
  rw [hfr]
  generalize (lg_sl ([.ref (ad 20), .int x1, .int x2]) ++ List.replicate (5 - (lg_sl ([.ref (ad 20), .int x1, .int x2])).length) Slot.unset).toArray = ls at hl ⊢
  have hl : lv_has ls 5 [(0, .ref (ad 20)), (1, .int x1), (2, .int x2)] := hl
  have L5 : ∀ (n : Nat) (st : St) (x1 : Int32) (x2 : Int32) (x3 : Int32) (x4 : Int32)  (z3 : Int32) (H : Heap) (locs : List Loc) (ls : Array Slot), sX1_dependent_L5 n st x1 x2 x3 x4 = some z3 → WW D ks ad (AA ad sz) s st H locs → lv_has ls 5 [(0, .ref (ad 20)), (1, .int x1), (2, .int x2), (3, .int x3), (4, .int x4)] → (∀ (H : Heap) (locs : List Loc) (ls : Array Slot), WW D ks ad (AA ad sz) s st H locs → lv_has ls 5 [(3, .int z3)] → W p l e (headSpec wsX1_dependent rmX1_dependent).room s m args below meth c H locs 0 0 (MQ below (va_Qi (fun (x : Int32) (u : St) => x = r ∧ u = st) (QW D ks ad sz) (AA ad sz)) args s 0 0 (AA ad sz)) (F0 m 48 ls [])) → W p l e (headSpec wsX1_dependent rmX1_dependent).room s m args below meth c H locs 0 0 (MQ below (va_Qi (fun (x : Int32) (u : St) => x = r ∧ u = st) (QW D ks ad sz) (AA ad sz)) args s 0 0 (AA ad sz)) (F0 m 5 ls []) := by
    intro n
    induction n with
    | zero =>
      intro st x1 x2 x3 x4 z3 H locs ls hE hW hl kx
      exact none_x hE
    | succ n ih =>
      intro st x1 x2 x3 x4 z3 H locs ls hE hW hl kx
      rw [sX1_dependent_L5] at hE
      refine lv_iload hx hb dX1_dependent_5 (lv_at hl 4 rfl) ?_
      refine lv_iload_n hx hb dX1_dependent_7 rfl (lv_at hl 1 rfl) ?_
      refine lv_icmp_ge (tgt := 48) hx hb dX1_dependent_8 (by decide) (fun c_1 => ?_) (fun c_1 => ?_)
      · have hE := if_t c_1 hE
        obtain rfl := some_x hE
        exact kx _ _ _ hW (lv_sub hl [3] rfl)
      · have hE := if_f c_1 hE
        refine lv_aload_n hx hb dX1_dependent_11 rfl (lv_at hl 0 rfl) ?_
        refine ww_get (C := RX1) (T := TX1) (N := 3) (ref := RX1) (ci := 1) (v := .ref (ad (lc 15))) hx hb hts hin1 hown hW 20 (by decide) rfl rfl 1 (by decide) hf15 (fun _ h9 => h9) rfl dX1_dependent_12 ?_
        refine lv_iload hx hb dX1_dependent_15 (lv_at hl 4 rfl) ?_
        obtain ⟨hin, hE⟩ := gd_some hE
        refine ww_lald hx hb hW 15 (by decide) hin dX1_dependent_17 ?_
        refine lv_iload_n hx hb dX1_dependent_18 rfl (lv_at hl 2 rfl) ?_
        refine lv_iconst (v := 0) hx hb dX1_dependent_19 (by decide) ?_
        obtain ⟨r_3, hc_2, hE⟩ := ob_some hE
        refine ww_callSl (As := [.long (gL 15 st x4), .int x2, .int (0 : Int32)]) (rest := []) ⟨hx, hb, hml, hown, hts⟩ hW (ctX1_putTo l D ks ad _ st (gL 15 st x4) x2 (0 : Int32) hc_2) (va_cwS 3 hts gX1_dependent_X1_putTo rfl rfl rfl (by decide +kernel) ⟨Nat.le_of_ble_eq_true rfl, Nat.le_of_ble_eq_true rfl⟩) rfl hl.1 rfl (Nat.le_of_ble_eq_true rfl) dX1_dependent_20 ⟨Nat.zero_le _, Nat.zero_le _⟩ (fun H locs hW => ?_)
        refine lv_aload_n hx hb dX1_dependent_23 rfl (lv_at hl 0 rfl) ?_
        refine ww_get (C := RX1) (T := TX1) (N := 3) (ref := RX1) (ci := 1) (v := .ref (ad (lc 15))) hx hb hts hin1 hown hW 20 (by decide) rfl rfl 1 (by decide) hf15 (fun _ h9 => h9) rfl dX1_dependent_24 ?_
        refine lv_iload hx hb dX1_dependent_27 (lv_at hl 4 rfl) ?_
        obtain ⟨hin, hE⟩ := gd_some hE
        refine ww_lald hx hb hW 15 (by decide) hin dX1_dependent_29 ?_
        refine lv_iload_n hx hb dX1_dependent_30 rfl (lv_at hl 2 rfl) ?_
        refine lv_iconst (v := 1) hx hb dX1_dependent_31 (by decide) ?_
        obtain ⟨r_5, hc_4, hE⟩ := ob_some hE
        refine ww_callSl (As := [.long (gL 15 st x4), .int x2, .int (1 : Int32)]) (rest := [.long r_3]) ⟨hx, hb, hml, hown, hts⟩ hW (ctX1_putTo l D ks ad _ st (gL 15 st x4) x2 (1 : Int32) hc_4) (va_cwS 3 hts gX1_dependent_X1_putTo rfl rfl rfl (by decide +kernel) ⟨Nat.le_of_ble_eq_true rfl, Nat.le_of_ble_eq_true rfl⟩) rfl hl.1 rfl (Nat.le_of_ble_eq_true rfl) dX1_dependent_32 ⟨Nat.zero_le _, Nat.zero_le _⟩ (fun H locs hW => ?_)
        refine W.lcmp hx hb dX1_dependent_35 ?_
        refine lv_if_eq (tgt := 42) hx hb dX1_dependent_36 (by decide) (fun c_6 => ?_) (fun c_6 => ?_)
        · have hE := if_t c_6 hE
          obtain ⟨x4_7, e, hE⟩ := lt_some hE
          refine lv_iinc (v := x4_7) (lv' := [(4, .int x4_7), (0, .ref (ad 20)), (1, .int x1), (2, .int x2), (3, .int x3)]) hx hb dX1_dependent_42 hl (k := 4) rfl (by rw [e]; rfl) (by decide) rfl (fun ls hl => ?_)
          refine lv_goto (tgt := 5) hx hb dX1_dependent_45 (by decide) ?_
          exact ih st x1 x2 x3 x4_7 _ _ _ _ hE hW (lv_sub hl [1, 2, 3, 4, 0] rfl) kx
        · have hE := if_f c_6 hE
          obtain ⟨x3_8, e, hE⟩ := lt_some hE
          refine lv_iinc (v := x3_8) (lv' := [(3, .int x3_8), (0, .ref (ad 20)), (1, .int x1), (2, .int x2), (4, .int x4)]) hx hb dX1_dependent_39 hl (k := 3) rfl (by rw [e]; rfl) (by decide) rfl (fun ls hl => ?_)
          obtain ⟨x4_9, e, hE⟩ := lt_some hE
          refine lv_iinc (v := x4_9) (lv' := [(4, .int x4_9), (3, .int x3_8), (0, .ref (ad 20)), (1, .int x1), (2, .int x2)]) hx hb dX1_dependent_42 hl (k := 4) rfl (by rw [e]; rfl) (by decide) rfl (fun ls hl => ?_)
          refine lv_goto (tgt := 5) hx hb dX1_dependent_45 (by decide) ?_
          exact ih st x1 x2 x3_8 x4_9 _ _ _ _ hE hW (lv_sub hl [2, 3, 4, 1, 0] rfl) kx
  refine lv_iconst (v := 0) hx hb dX1_dependent_0 (by decide) ?_
  refine lv_istore_n (lv' := [(3, .int (0 : Int32)), (0, .ref (ad 20)), (1, .int x1), (2, .int x2)]) hx hb dX1_dependent_1 rfl hl (by decide) rfl (fun ls hl => ?_)
  refine lv_iconst (v := 0) hx hb dX1_dependent_2 (by decide) ?_
  refine lv_istore (lv' := [(4, .int (0 : Int32)), (3, .int (0 : Int32)), (0, .ref (ad 20)), (1, .int x1), (2, .int x2)]) hx hb dX1_dependent_3 hl (by decide) rfl (fun ls hl => ?_)
  obtain ⟨x3_10, hz, hE⟩ := ob_some hE
  refine L5 FU st x1 x2 (0 : Int32) (0 : Int32) x3_10 _ _ _ hz hW (lv_sub hl [2, 3, 4, 1, 0] rfl) (fun H locs ls hW hl => ?_)
  refine lv_iload_n hx hb dX1_dependent_48 rfl (lv_at hl 0 rfl) ?_
  obtain rfl := some_x hE
  exact W.iret hx hb hr (fun t ht hWm => hW.qi ht hWm) hW.2.2.1.2.2 dX1_dependent_49
abbrev rmX1_leastNodes : Room := { frames := 4, cells := 0, slots := 0, locals := 109 }
set_option maxRecDepth 100000 in
theorem in1_X1_leastNodes : ∀ w ∈ wsX10, w ∈ wsX1_leastNodes := by decide +kernel
set_option maxHeartbeats 4000000 in
set_option maxRecDepth 100000 in
theorem ctX1_leastNodes (l : Launch) (D : va_G) (ks : KA) (ad : Nat → Nat) (sz : Nat) (st : St) (x1 : Int64) (x3 : Int32)  {r : Int32} {st' : St} (hE : sX1_leastNodes st x1 x3 = some (r, st')) : CI l D ks yX1_leastNodes wsX1_leastNodes rmX1_leastNodes [.ref (ad 20), .long x1, .int x3] ad sz st r st' := by
  unfold sX1_leastNodes at hE
  refine Met.ofW (cc := cX1_leastNodes) (maxL := 9) (ret := (some .int)) (by decide) rfl ?_
  intro p e s m args below meth c s₁ B hml hv
  obtain ⟨hargs, hPW⟩ := hv
  have hW := WW.entry hPW
  have hx := B.exec
  have hb := B.bytes
  have hr := B.returns
  have hts := atoms_spec (ws := wsX1_leastNodes) B.pre
  have hown : s.vm.findClass RX1 = some m.cls := findClass_of_methodNamed B.named
  have hlocks := B.notSynchronized
  have hin1 : ∀ w ∈ u_ws RX1 TX1 3, w ∈ wsX1_leastNodes := in1_X1_leastNodes
  have hf11 := hts (.fieldLink RX1 11 "Trellis$Orders" "least" "[I") (by decide +kernel)
  have hl := lv_entry ([.ref (ad 20), .long x1, .int x3]) (n := 9) (Nat.le_of_ble_eq_true rfl)
  have hfr : entryFrame m args 9 = F0 m 0 (lg_sl ([.ref (ad 20), .long x1, .int x3]) ++ List.replicate (9 - (lg_sl ([.ref (ad 20), .long x1, .int x3])).length) Slot.unset).toArray [] := by rw [hargs, lg_entry_eq]
  rw [hfr]
  generalize (lg_sl ([.ref (ad 20), .long x1, .int x3]) ++ List.replicate (9 - (lg_sl ([.ref (ad 20), .long x1, .int x3])).length) Slot.unset).toArray = ls at hl ⊢
  have hl : lv_has ls 9 [(0, .ref (ad 20)), (1, .long x1), (3, .int x3)] := hl
  have L13 : ∀ (n : Nat) (st : St) (x1 : Int64) (x4 : Int32) (x5 : Int32)  (stz : St) (H : Heap) (locs : List Loc) (ls : Array Slot), sX1_leastNodes_L13 n st x1 x4 x5 = some stz → WW D ks ad (AA ad sz) s st H locs → lv_has ls 9 [(0, .ref (ad 20)), (1, .long x1), (4, .int x4), (5, .int x5)] → (∀ (H : Heap) (locs : List Loc) (ls : Array Slot), WW D ks ad (AA ad sz) s stz H locs → lv_has ls 9 [(0, .ref (ad 20)), (1, .long x1), (4, .int x4)] → W p l e (headSpec wsX1_leastNodes rmX1_leastNodes).room s m args below meth c H locs 0 0 (MQ below (va_Qi (fun (x : Int32) (u : St) => x = r ∧ u = st') (QW D ks ad sz) (AA ad sz)) args s 0 0 (AA ad sz)) (F0 m 36 ls [])) → W p l e (headSpec wsX1_leastNodes rmX1_leastNodes).room s m args below meth c H locs 0 0 (MQ below (va_Qi (fun (x : Int32) (u : St) => x = r ∧ u = st') (QW D ks ad sz) (AA ad sz)) args s 0 0 (AA ad sz)) (F0 m 13 ls []) := by
    intro n
    induction n with
    | zero =>
      intro st x1 x4 x5 stz H locs ls hE hW hl kx
      exact none_x hE
    | succ n ih =>
      intro st x1 x4 x5 stz H locs ls hE hW hl kx
      rw [sX1_leastNodes_L13] at hE
      refine lv_iload hx hb dX1_leastNodes_13 (lv_at hl 3 rfl) ?_
      refine lv_iload hx hb dX1_leastNodes_15 (lv_at hl 2 rfl) ?_
      refine lv_icmp_ge (tgt := 36) hx hb dX1_leastNodes_17 (by decide) (fun c_2 => ?_) (fun c_2 => ?_)
      · have hE := if_t c_2 hE
        obtain rfl := some_x hE
        exact kx _ _ _ hW (lv_sub hl [0, 1, 2] rfl)
      · have hE := if_f c_2 hE
        refine lv_aload_n hx hb dX1_leastNodes_20 rfl (lv_at hl 0 rfl) ?_
        refine ww_get (C := RX1) (T := TX1) (N := 3) (ref := RX1) (ci := 1) (v := .ref (ad (ic 17))) hx hb hts hin1 hown hW 20 (by decide) rfl rfl 0 (by decide) hf11 (fun _ h9 => h9) rfl dX1_leastNodes_21 ?_
        refine lv_iload hx hb dX1_leastNodes_24 (lv_at hl 3 rfl) ?_
        refine lv_sipush (v := 1000) hx hb dX1_leastNodes_26 (by decide) ?_
        obtain ⟨hin, hE⟩ := gd_some hE
        obtain ⟨st_3, est, hE⟩ := lt_some hE
        refine ww_iast hx hb hW 17 (by decide) hin est dX1_leastNodes_29 (fun H locs hW => ?_)
        obtain ⟨x5_4, e, hE⟩ := lt_some hE
        refine lv_iinc (v := x5_4) (lv' := [(5, .int x5_4), (0, .ref (ad 20)), (1, .long x1), (4, .int x4)]) hx hb dX1_leastNodes_30 hl (k := 3) rfl (by rw [e]; rfl) (by decide) rfl (fun ls hl => ?_)
        refine lv_goto (tgt := 13) hx hb dX1_leastNodes_33 (by decide) ?_
        exact ih st_3 x1 x4 x5_4 _ _ _ _ hE hW (lv_sub hl [1, 2, 3, 0] rfl) kx
  have L65 : ∀ (n : Nat) (st : St) (x1 : Int64) (x4 : Int32) (x5 : Int32) (x6 : Int32) (x7 : Int32)  (stz : St) (H : Heap) (locs : List Loc) (ls : Array Slot), sX1_leastNodes_L65 n st x1 x4 x5 x6 x7 = some stz → WW D ks ad (AA ad sz) s st H locs → lv_has ls 9 [(0, .ref (ad 20)), (1, .long x1), (4, .int x4), (5, .int x5), (6, .int x6), (7, .int x7)] → (∀ (H : Heap) (locs : List Loc) (ls : Array Slot), WW D ks ad (AA ad sz) s stz H locs → lv_has ls 9 [(0, .ref (ad 20)), (1, .long x1), (4, .int x4), (5, .int x5)] → W p l e (headSpec wsX1_leastNodes rmX1_leastNodes).room s m args below meth c H locs 0 0 (MQ below (va_Qi (fun (x : Int32) (u : St) => x = r ∧ u = st') (QW D ks ad sz) (AA ad sz)) args s 0 0 (AA ad sz)) (F0 m 136 ls [])) → W p l e (headSpec wsX1_leastNodes rmX1_leastNodes).room s m args below meth c H locs 0 0 (MQ below (va_Qi (fun (x : Int32) (u : St) => x = r ∧ u = st') (QW D ks ad sz) (AA ad sz)) args s 0 0 (AA ad sz)) (F0 m 65 ls []) := by
    intro n
    induction n with
    | zero =>
      intro st x1 x4 x5 x6 x7 stz H locs ls hE hW hl kx
      exact none_x hE
    | succ n ih =>
      intro st x1 x4 x5 x6 x7 stz H locs ls hE hW hl kx
      rw [sX1_leastNodes_L65] at hE
      refine lv_iload hx hb dX1_leastNodes_65 (lv_at hl 5 rfl) ?_
      refine lv_bipush (v := 6) hx hb dX1_leastNodes_67 (by decide) ?_
      refine lv_icmp_ge (tgt := 136) hx hb dX1_leastNodes_69 (by decide) (fun c_11 => ?_) (fun c_11 => ?_)
      · have hE := if_t c_11 hE
        obtain rfl := some_x hE
        exact kx _ _ _ hW (lv_sub hl [0, 1, 2, 3] rfl)
      · have hE := if_f c_11 hE
        refine lv_iconst (v := 1) hx hb dX1_leastNodes_72 (by decide) ?_
        refine lv_iload hx hb dX1_leastNodes_73 (lv_at hl 5 rfl) ?_
        refine lv_ishl hx hb dX1_leastNodes_75 ?_
        refine lv_iload hx hb dX1_leastNodes_76 (lv_at hl 2 rfl) ?_
        refine lv_icmp_ge (tgt := 136) hx hb dX1_leastNodes_78 (by decide) (fun c_12 => ?_) (fun c_12 => ?_)
        · have hE := if_t c_12 hE
          obtain rfl := some_x hE
          exact kx _ _ _ hW (lv_sub hl [0, 1, 2, 3] rfl)
        · have hE := if_f c_12 hE
          refine lv_iload hx hb dX1_leastNodes_81 (lv_at hl 3 rfl) ?_
          refine lv_iconst (v := 1) hx hb dX1_leastNodes_83 (by decide) ?_
          refine lv_iload hx hb dX1_leastNodes_84 (lv_at hl 5 rfl) ?_
          refine lv_ishl hx hb dX1_leastNodes_86 ?_
          refine lv_ior hx hb dX1_leastNodes_87 ?_
          obtain ⟨x8_13, e, hE⟩ := lt_some hE
          refine lv_nmi e ?_
          refine lv_istore (lv' := [(8, .int x8_13), (0, .ref (ad 20)), (1, .long x1), (4, .int x4), (5, .int x5), (6, .int x6), (7, .int x7)]) hx hb dX1_leastNodes_88 hl (by decide) rfl (fun ls hl => ?_)
          refine lv_iload hx hb dX1_leastNodes_90 (lv_at hl 0 rfl) ?_
          refine lv_iload hx hb dX1_leastNodes_92 (lv_at hl 4 rfl) ?_
          refine lv_icmp_eq (tgt := 130) hx hb dX1_leastNodes_94 (by decide) (fun c_14 => ?_) (fun c_14 => ?_)
          · have hE := if_t c_14 hE
            obtain ⟨x7_15, e, hE⟩ := lt_some hE
            refine lv_iinc (v := x7_15) (lv' := [(7, .int x7_15), (8, .int x8_13), (0, .ref (ad 20)), (1, .long x1), (4, .int x4), (5, .int x5), (6, .int x6)]) hx hb dX1_leastNodes_130 hl (k := 6) rfl (by rw [e]; rfl) (by decide) rfl (fun ls hl => ?_)
            refine lv_goto (tgt := 65) hx hb dX1_leastNodes_133 (by decide) ?_
            exact ih st x1 x4 x5 x6 x7_15 _ _ _ _ hE hW (lv_sub hl [2, 3, 4, 5, 6, 0] rfl) kx
          · have hE := if_f c_14 hE
            refine lv_aload_n hx hb dX1_leastNodes_97 rfl (lv_at hl 1 rfl) ?_
            refine ww_get (C := RX1) (T := TX1) (N := 3) (ref := RX1) (ci := 1) (v := .ref (ad (ic 17))) hx hb hts hin1 hown hW 20 (by decide) rfl rfl 0 (by decide) hf11 (fun _ h9 => h9) rfl dX1_leastNodes_98 ?_
            refine lv_iload hx hb dX1_leastNodes_101 (lv_at hl 0 rfl) ?_
            refine lv_aload_n hx hb dX1_leastNodes_103 rfl (lv_at hl 1 rfl) ?_
            refine ww_get (C := RX1) (T := TX1) (N := 3) (ref := RX1) (ci := 1) (v := .ref (ad (ic 17))) hx hb hts hin1 hown hW 20 (by decide) rfl rfl 0 (by decide) hf11 (fun _ h9 => h9) rfl dX1_leastNodes_104 ?_
            refine lv_iload hx hb dX1_leastNodes_107 (lv_at hl 0 rfl) ?_
            obtain ⟨hin, hE⟩ := gd_some hE
            refine ww_iald hx hb hW 17 (by decide) hin dX1_leastNodes_109 ?_
            refine lv_aload_n hx hb dX1_leastNodes_110 rfl (lv_at hl 1 rfl) ?_
            refine ww_get (C := RX1) (T := TX1) (N := 3) (ref := RX1) (ci := 1) (v := .ref (ad (ic 17))) hx hb hts hin1 hown hW 20 (by decide) rfl rfl 0 (by decide) hf11 (fun _ h9 => h9) rfl dX1_leastNodes_111 ?_
            refine lv_iload hx hb dX1_leastNodes_114 (lv_at hl 4 rfl) ?_
            obtain ⟨hin, hE⟩ := gd_some hE
            refine ww_iald hx hb hW 17 (by decide) hin dX1_leastNodes_116 ?_
            refine lv_aload_n hx hb dX1_leastNodes_117 rfl (lv_at hl 1 rfl) ?_
            refine lv_iload hx hb dX1_leastNodes_118 (lv_at hl 5 rfl) ?_
            refine lv_iload hx hb dX1_leastNodes_120 (lv_at hl 6 rfl) ?_
            obtain ⟨r_17, hc_16, hE⟩ := ob_some hE
            refine ww_callVi (As := [.int x6, .int x7]) (rest := [.int (gI 17 st x5), .int (gI 17 st x8_13), .int x8_13, .ref (ad (ic 17))]) ⟨hx, hb, hml, hown, hts⟩ hW (ctX1_dependent l D ks ad _ st x6 x7 hc_16) (cwV 2 hts gX1_leastNodes_X1_dependent rfl rfl rfl (by decide +kernel) ⟨Nat.le_of_ble_eq_true rfl, Nat.le_of_ble_eq_true rfl⟩) hW.recvO rfl hl.1 rfl (Nat.le_of_ble_eq_true rfl) dX1_leastNodes_122 ⟨Nat.zero_le _, Nat.zero_le _⟩ (fun H locs hW => ?_)
            refine lv_iadd hx hb dX1_leastNodes_125 ?_
            refine va_mmin hx hb (hml.trans hl.1.symm) hown (hts (.methodLink RX1 22 Lib.Math.min.name) (by decide +kernel)) (hts (.static Lib.Math.min.name) (by decide +kernel)) (hts (.initialized "java/lang/Math") (by decide +kernel)) (hts (.code Lib.Math.min.name Lib.Math.min.code 2 (some .int)) (by decide +kernel)) (Nat.le_of_ble_eq_true rfl) (Nat.le_of_ble_eq_true rfl) (Nat.zero_le _) (Nat.zero_le _) dX1_leastNodes_126 ?_
            obtain ⟨hin, hE⟩ := gd_some hE
            obtain ⟨st_18, est, hE⟩ := lt_some hE
            refine ww_iast hx hb hW 17 (by decide) hin est dX1_leastNodes_129 (fun H locs hW => ?_)
            obtain ⟨x7_19, e, hE⟩ := lt_some hE
            refine lv_iinc (v := x7_19) (lv' := [(7, .int x7_19), (8, .int x8_13), (0, .ref (ad 20)), (1, .long x1), (4, .int x4), (5, .int x5), (6, .int x6)]) hx hb dX1_leastNodes_130 hl (k := 6) rfl (by rw [e]; rfl) (by decide) rfl (fun ls hl => ?_)
            refine lv_goto (tgt := 65) hx hb dX1_leastNodes_133 (by decide) ?_
            exact ih st_18 x1 x4 x5 x6 x7_19 _ _ _ _ hE hW (lv_sub hl [2, 3, 4, 5, 6, 0] rfl) kx
  have L46 : ∀ (n : Nat) (st : St) (x1 : Int64) (x4 : Int32) (x5 : Int32)  (stz : St) (H : Heap) (locs : List Loc) (ls : Array Slot), sX1_leastNodes_L46 n st x1 x4 x5 = some stz → WW D ks ad (AA ad sz) s st H locs → lv_has ls 9 [(0, .ref (ad 20)), (1, .long x1), (4, .int x4), (5, .int x5)] → (∀ (H : Heap) (locs : List Loc) (ls : Array Slot), WW D ks ad (AA ad sz) s stz H locs → lv_has ls 9 [(0, .ref (ad 20)), (4, .int x4)] → W p l e (headSpec wsX1_leastNodes rmX1_leastNodes).room s m args below meth c H locs 0 0 (MQ below (va_Qi (fun (x : Int32) (u : St) => x = r ∧ u = st') (QW D ks ad sz) (AA ad sz)) args s 0 0 (AA ad sz)) (F0 m 142 ls [])) → W p l e (headSpec wsX1_leastNodes rmX1_leastNodes).room s m args below meth c H locs 0 0 (MQ below (va_Qi (fun (x : Int32) (u : St) => x = r ∧ u = st') (QW D ks ad sz) (AA ad sz)) args s 0 0 (AA ad sz)) (F0 m 46 ls []) := by
    intro n
    induction n with
    | zero =>
      intro st x1 x4 x5 stz H locs ls hE hW hl kx
      exact none_x hE
    | succ n ih =>
      intro st x1 x4 x5 stz H locs ls hE hW hl kx
      rw [sX1_leastNodes_L46] at hE
      refine lv_iload hx hb dX1_leastNodes_46 (lv_at hl 3 rfl) ?_
      refine lv_iload hx hb dX1_leastNodes_48 (lv_at hl 2 rfl) ?_
      refine lv_icmp_ge (tgt := 142) hx hb dX1_leastNodes_50 (by decide) (fun c_7 => ?_) (fun c_7 => ?_)
      · have hE := if_t c_7 hE
        obtain rfl := some_x hE
        exact kx _ _ _ hW (lv_sub hl [0, 2] rfl)
      · have hE := if_f c_7 hE
        refine lv_aload_n hx hb dX1_leastNodes_53 rfl (lv_at hl 0 rfl) ?_
        refine lv_lload_n hx hb dX1_leastNodes_54 rfl (lv_at hl 1 rfl) ?_
        refine lv_iload hx hb dX1_leastNodes_55 (lv_at hl 3 rfl) ?_
        obtain ⟨r_10, st_8, hc_9, hE⟩ := ob2_some hE
        refine ww_callVi (As := [.long x1, .int x5]) (rest := []) ⟨hx, hb, hml, hown, hts⟩ hW (ctX1_partsOf l D ks ad _ st x1 x5 hc_9) (cwV 2 hts gX1_leastNodes_X1_partsOf rfl rfl rfl (by decide +kernel) ⟨Nat.le_of_ble_eq_true rfl, Nat.le_of_ble_eq_true rfl⟩) hW.recvO rfl hl.1 rfl (Nat.le_of_ble_eq_true rfl) dX1_leastNodes_57 ⟨Nat.zero_le _, Nat.zero_le _⟩ (fun H locs hW => ?_)
        refine lv_istore (lv' := [(6, .int r_10), (0, .ref (ad 20)), (1, .long x1), (4, .int x4), (5, .int x5)]) hx hb dX1_leastNodes_60 hl (by decide) rfl (fun ls hl => ?_)
        refine lv_iconst (v := 0) hx hb dX1_leastNodes_62 (by decide) ?_
        refine lv_istore (lv' := [(7, .int (0 : Int32)), (6, .int r_10), (0, .ref (ad 20)), (1, .long x1), (4, .int x4), (5, .int x5)]) hx hb dX1_leastNodes_63 hl (by decide) rfl (fun ls hl => ?_)
        obtain ⟨st_20, hz, hE⟩ := ob_some hE
        refine L65 FU st_8 x1 x4 x5 r_10 (0 : Int32) st_20 _ _ _ hz hW (lv_sub hl [2, 3, 4, 5, 1, 0] rfl) (fun H locs ls hW hl => ?_)
        obtain ⟨x5_21, e, hE⟩ := lt_some hE
        refine lv_iinc (v := x5_21) (lv' := [(5, .int x5_21), (0, .ref (ad 20)), (1, .long x1), (4, .int x4)]) hx hb dX1_leastNodes_136 hl (k := 3) rfl (by rw [e]; rfl) (by decide) rfl (fun ls hl => ?_)
        refine lv_goto (tgt := 46) hx hb dX1_leastNodes_139 (by decide) ?_
        exact ih st_20 x1 x4 x5_21 _ _ _ _ hE hW (lv_sub hl [1, 2, 3, 0] rfl) kx
  refine lv_iconst (v := 1) hx hb dX1_leastNodes_0 (by decide) ?_
  refine lv_iload_n hx hb dX1_leastNodes_1 rfl (lv_at hl 2 rfl) ?_
  refine lv_bipush (v := 6) hx hb dX1_leastNodes_2 (by decide) ?_
  refine va_mmin hx hb (hml.trans hl.1.symm) hown (hts (.methodLink RX1 22 Lib.Math.min.name) (by decide +kernel)) (hts (.static Lib.Math.min.name) (by decide +kernel)) (hts (.initialized "java/lang/Math") (by decide +kernel)) (hts (.code Lib.Math.min.name Lib.Math.min.code 2 (some .int)) (by decide +kernel)) (Nat.le_of_ble_eq_true rfl) (Nat.le_of_ble_eq_true rfl) (Nat.zero_le _) (Nat.zero_le _) dX1_leastNodes_4 ?_
  refine lv_ishl hx hb dX1_leastNodes_7 ?_
  obtain ⟨x4_1, e, hE⟩ := lt_some hE
  refine lv_nmi e ?_
  refine lv_istore (lv' := [(4, .int x4_1), (0, .ref (ad 20)), (1, .long x1), (3, .int x3)]) hx hb dX1_leastNodes_8 hl (by decide) rfl (fun ls hl => ?_)
  refine lv_iconst (v := 1) hx hb dX1_leastNodes_10 (by decide) ?_
  refine lv_istore (lv' := [(5, .int (1 : Int32)), (4, .int x4_1), (0, .ref (ad 20)), (1, .long x1), (3, .int x3)]) hx hb dX1_leastNodes_11 hl (by decide) rfl (fun ls hl => ?_)
  obtain ⟨st_5, hz, hE⟩ := ob_some hE
  refine L13 FU st x1 x4_1 (1 : Int32) st_5 _ _ _ hz hW (lv_sub hl [2, 3, 1, 0] rfl) (fun H locs ls hW hl => ?_)
  refine lv_aload_n hx hb dX1_leastNodes_36 rfl (lv_at hl 0 rfl) ?_
  refine ww_get (C := RX1) (T := TX1) (N := 3) (ref := RX1) (ci := 1) (v := .ref (ad (ic 17))) hx hb hts hin1 hown hW 20 (by decide) rfl rfl 0 (by decide) hf11 (fun _ h9 => h9) rfl dX1_leastNodes_37 ?_
  refine lv_iconst (v := 0) hx hb dX1_leastNodes_40 (by decide) ?_
  refine lv_iconst (v := 0) hx hb dX1_leastNodes_41 (by decide) ?_
  obtain ⟨hin, hE⟩ := gd_some hE
  obtain ⟨st_6, est, hE⟩ := lt_some hE
  refine ww_iast hx hb hW 17 (by decide) hin est dX1_leastNodes_42 (fun H locs hW => ?_)
  refine lv_iconst (v := 0) hx hb dX1_leastNodes_43 (by decide) ?_
  refine lv_istore (lv' := [(5, .int (0 : Int32)), (0, .ref (ad 20)), (1, .long x1), (4, .int x4_1)]) hx hb dX1_leastNodes_44 hl (by decide) rfl (fun ls hl => ?_)
  obtain ⟨st_22, hz, hE⟩ := ob_some hE
  refine L46 FU st_6 x1 x4_1 (0 : Int32) st_22 _ _ _ hz hW (lv_sub hl [1, 2, 3, 0] rfl) (fun H locs ls hW hl => ?_)
  refine lv_aload_n hx hb dX1_leastNodes_142 rfl (lv_at hl 0 rfl) ?_
  refine ww_get (C := RX1) (T := TX1) (N := 3) (ref := RX1) (ci := 1) (v := .ref (ad (ic 17))) hx hb hts hin1 hown hW 20 (by decide) rfl rfl 0 (by decide) hf11 (fun _ h9 => h9) rfl dX1_leastNodes_143 ?_
  refine lv_iload hx hb dX1_leastNodes_146 (lv_at hl 1 rfl) ?_
  refine lv_iconst (v := 1) hx hb dX1_leastNodes_148 (by decide) ?_
  refine lv_isub hx hb dX1_leastNodes_149 ?_
  obtain ⟨hin, hE⟩ := gd_some hE
  refine ww_iald hx hb hW 17 (by decide) hin dX1_leastNodes_150 ?_
  obtain ⟨rfl, rfl⟩ := pair_x hE
  exact W.iret hx hb hr (fun t ht hWm => hW.qi ht hWm) hW.2.2.1.2.2 dX1_leastNodes_151
