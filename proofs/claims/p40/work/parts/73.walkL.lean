/-! CONTRACTS of the law's methods, laid by wip/p40/gen2.py -/
abbrev rmX3_meanSize : Room := { frames := 15, cells := 0, slots := 0, locals := 328 }
set_option maxRecDepth 100000 in
theorem in3_X3_meanSize : ∀ w ∈ wsX30, w ∈ wsX3_meanSize := by decide +kernel
set_option maxHeartbeats 4000000 in
set_option maxRecDepth 100000 in
theorem ctX3_meanSize (l : Launch) (D : va_G) (ks : KA) (ad : Nat → Nat) (sz : Nat) (st : St)   {r : UInt64} {st' : St} (hE : sX3_meanSize st  = some (r, st')) : CD l D ks yX3_meanSize wsX3_meanSize rmX3_meanSize [.ref (ad 0)] ad sz st r st' := by
  unfold sX3_meanSize at hE
  refine Met.ofW (cc := cX3_meanSize) (maxL := 3) (ret := (some .double)) (by decide) rfl ?_
  intro p e s m args below meth c s₁ B hml hv
  obtain ⟨hargs, hPW⟩ := hv
  have hW := WW.entry hPW
  have hx := B.exec
  have hb := B.bytes
  have hr := B.returns
  have hts := atoms_spec (ws := wsX3_meanSize) B.pre
  have hown : s.vm.findClass RX3 = some m.cls := findClass_of_methodNamed B.named
  have hlocks := B.notSynchronized
  have hin3 : ∀ w ∈ u_ws RX3 TX3 10, w ∈ wsX3_meanSize := in3_X3_meanSize
  have hf22 := hts (.fieldLink RX3 22 "Trellis" "diagram" "LTrellis$Diagram;") (by decide +kernel)
  have hl := lv_entry ([.ref (ad 0)]) (n := 3) (Nat.le_of_ble_eq_true rfl)
  have hfr : entryFrame m args 3 = F0 m 0 (lg_sl ([.ref (ad 0)]) ++ List.replicate (3 - (lg_sl ([.ref (ad 0)])).length) Slot.unset).toArray [] := by rw [hargs, lg_entry_eq]
  rw [hfr]
  generalize (lg_sl ([.ref (ad 0)]) ++ List.replicate (3 - (lg_sl ([.ref (ad 0)])).length) Slot.unset).toArray = ls at hl ⊢
  have hl : lv_has ls 3 [(0, .ref (ad 0))] := hl
  have L4 : ∀ (n : Nat) (st : St) (x1 : Int32) (x2 : Int32)  (stz : St) (z1 : Int32) (H : Heap) (locs : List Loc) (ls : Array Slot), sX3_meanSize_L4 n st x1 x2 = some (stz, z1) → WW D ks ad (AA ad sz) s st H locs → lv_has ls 3 [(0, .ref (ad 0)), (1, .int x1), (2, .int x2)] → (∀ (H : Heap) (locs : List Loc) (ls : Array Slot), WW D ks ad (AA ad sz) s stz H locs → lv_has ls 3 [(1, .int z1)] → W p l e (headSpec wsX3_meanSize rmX3_meanSize).room s m args below meth c H locs 0 0 (MQ below (va_Qd (fun (x : UInt64) (u : St) => x = r ∧ u = st') (QW D ks ad sz) (AA ad sz)) args s 0 0 (AA ad sz)) (F0 m 28 ls [])) → W p l e (headSpec wsX3_meanSize rmX3_meanSize).room s m args below meth c H locs 0 0 (MQ below (va_Qd (fun (x : UInt64) (u : St) => x = r ∧ u = st') (QW D ks ad sz) (AA ad sz)) args s 0 0 (AA ad sz)) (F0 m 4 ls []) := by
    intro n
    induction n with
    | zero =>
      intro st x1 x2 stz z1 H locs ls hE hW hl kx
      exact none_x hE
    | succ n ih =>
      intro st x1 x2 stz z1 H locs ls hE hW hl kx
      rw [sX3_meanSize_L4] at hE
      refine lv_iload_n hx hb dX3_meanSize_4 rfl (lv_at hl 2 rfl) ?_
      refine lv_bipush (v := 12) hx hb dX3_meanSize_5 (by decide) ?_
      refine lv_icmp_ge (tgt := 28) hx hb dX3_meanSize_7 (by decide) (fun c_1 => ?_) (fun c_1 => ?_)
      · have hE := if_t c_1 hE
        obtain ⟨rfl, rfl⟩ := tup2_x hE
        exact kx _ _ _ hW (lv_sub hl [1] rfl)
      · have hE := if_f c_1 hE
        refine lv_iload_n hx hb dX3_meanSize_10 rfl (lv_at hl 1 rfl) ?_
        refine lv_aload_n hx hb dX3_meanSize_11 rfl (lv_at hl 0 rfl) ?_
        refine ww_get (C := RX3) (T := TX3) (N := 10) (ref := RX3) (ci := 3) (v := .ref (ad 6)) hx hb hts hin3 hown hW 0 (by decide) rfl rfl 2 (by decide) hf22 (fun _ h9 => h9) rfl dX3_meanSize_12 ?_
        refine lv_iload_n hx hb dX3_meanSize_15 rfl (lv_at hl 2 rfl) ?_
        refine lv_iload_n hx hb dX3_meanSize_16 rfl (lv_at hl 2 rfl) ?_
        obtain ⟨r_4, st_2, hc_3, hE⟩ := ob2_some hE
        refine ww_callVi (As := [.int x2, .int x2]) (rest := [.int x1]) ⟨hx, hb, hml, hown, hts⟩ hW (ctX0_countFrom l D ks ad _ st x2 x2 hc_3) (cwV 2 hts gX3_meanSize_X0_countFrom rfl rfl rfl (by decide +kernel) ⟨Nat.le_of_ble_eq_true rfl, Nat.le_of_ble_eq_true rfl⟩) hW.recvD rfl hl.1 rfl (Nat.le_of_ble_eq_true rfl) dX3_meanSize_17 ⟨Nat.zero_le _, Nat.zero_le _⟩ (fun H locs hW => ?_)
        refine lv_iadd hx hb dX3_meanSize_20 ?_
        obtain ⟨x1_5, e, hE⟩ := lt_some hE
        refine lv_nmi e ?_
        refine lv_istore_n (lv' := [(1, .int x1_5), (0, .ref (ad 0)), (2, .int x2)]) hx hb dX3_meanSize_21 rfl hl (by decide) rfl (fun ls hl => ?_)
        obtain ⟨x2_6, e, hE⟩ := lt_some hE
        refine lv_iinc (v := x2_6) (lv' := [(2, .int x2_6), (1, .int x1_5), (0, .ref (ad 0))]) hx hb dX3_meanSize_22 hl (k := 2) rfl (by rw [e]; rfl) (by decide) rfl (fun ls hl => ?_)
        refine lv_goto (tgt := 4) hx hb dX3_meanSize_25 (by decide) ?_
        exact ih st_2 x1_5 x2_6 _ _ _ _ _ hE hW (lv_sub hl [2, 1, 0] rfl) kx
  refine lv_iconst (v := 0) hx hb dX3_meanSize_0 (by decide) ?_
  refine lv_istore_n (lv' := [(1, .int (0 : Int32)), (0, .ref (ad 0))]) hx hb dX3_meanSize_1 rfl hl (by decide) rfl (fun ls hl => ?_)
  refine lv_iconst (v := 0) hx hb dX3_meanSize_2 (by decide) ?_
  refine lv_istore_n (lv' := [(2, .int (0 : Int32)), (1, .int (0 : Int32)), (0, .ref (ad 0))]) hx hb dX3_meanSize_3 rfl hl (by decide) rfl (fun ls hl => ?_)
  obtain ⟨st_7, x1_8, hz, hE⟩ := ob2_some hE
  refine L4 FU st (0 : Int32) (0 : Int32) st_7 x1_8 _ _ _ hz hW (lv_sub hl [2, 1, 0] rfl) (fun H locs ls hW hl => ?_)
  refine lv_iload_n hx hb dX3_meanSize_28 rfl (lv_at hl 0 rfl) ?_
  refine lv_i2d hx hb dX3_meanSize_29 ?_
  refine lv_ldc2d (v := 4622945017495814144) hx hb hown (hts (.constantDouble RX3 207 4622945017495814144) (by decide +kernel)) dX3_meanSize_30 ?_
  obtain ⟨hnn, hE⟩ := gn_some hE
  refine lv_ddiv hx hb dX3_meanSize_33 hnn ?_
  obtain ⟨rfl, rfl⟩ := pair_x hE
  exact W.dret hx hb hr (fun t ht hWm => hW.qd ht hWm) hW.2.2.1.2.2 dX3_meanSize_34
abbrev rmL_below : Room := { frames := 0, cells := 0, slots := 0, locals := 0 }
set_option maxHeartbeats 4000000 in
set_option maxRecDepth 100000 in
theorem ctL_below (l : Launch) (D : va_G) (ks : KA) (ad : Nat → Nat) (sz : Nat) (st : St) (x0 : Int32) (x1 : Int32)  {r : Int32}  (hE : sL_below st x0 x1 = some r) : CI l D ks yL_below wsL_below rmL_below [.int x0, .int x1] ad sz st r st := by
  unfold sL_below at hE
  refine Met.ofW (cc := cL_below) (maxL := 2) (ret := (some .int)) (by decide) rfl ?_
  intro p e s m args below meth c s₁ B hml hv
  obtain ⟨hargs, hPW⟩ := hv
  have hW := WW.entry hPW
  have hx := B.exec
  have hb := B.bytes
  have hr := B.returns
  have hts := atoms_spec (ws := wsL_below) B.pre
  have hown : s.vm.findClass RL = some m.cls := findClass_of_methodNamed B.named
  have hlocks := B.notSynchronized
  have hl := lv_entry ([.int x0, .int x1]) (n := 2) (Nat.le_of_ble_eq_true rfl)
  have hfr : entryFrame m args 2 = F0 m 0 (lg_sl ([.int x0, .int x1]) ++ List.replicate (2 - (lg_sl ([.int x0, .int x1])).length) Slot.unset).toArray [] := by rw [hargs, lg_entry_eq]
  rw [hfr]
  generalize (lg_sl ([.int x0, .int x1]) ++ List.replicate (2 - (lg_sl ([.int x0, .int x1])).length) Slot.unset).toArray = ls at hl ⊢
  have hl : lv_has ls 2 [(0, .int x0), (1, .int x1)] := hl
  refine lv_iload_n hx hb dL_below_0 rfl (lv_at hl 0 rfl) ?_
  refine lv_ldc (v := 2147483647) hx hb hown (hts (.constant RL 7 2147483647) (by decide +kernel)) dL_below_1 ?_
  refine lv_iand hx hb dL_below_3 ?_
  refine lv_iload_n hx hb dL_below_4 rfl (lv_at hl 1 rfl) ?_
  obtain ⟨hne, hE⟩ := gz_some hE
  refine lv_irem hx hb dL_below_5 hne ?_
  obtain rfl := some_x hE
  exact W.iret hx hb hr (fun t ht hWm => hW.qi ht hWm) hW.2.2.1.2.2 dL_below_6
abbrev rmL_has : Room := { frames := 0, cells := 0, slots := 0, locals := 0 }
set_option maxHeartbeats 4000000 in
set_option maxRecDepth 100000 in
theorem ctL_has (l : Launch) (D : va_G) (ks : KA) (ad : Nat → Nat) (sz : Nat) (st : St) (x0 : Int32) (x1 : Int32)  {r : Int32}  (hE : sL_has st x0 x1 = some r) : CI l D ks yL_has wsL_has rmL_has [.int x0, .int x1] ad sz st r st := by
  unfold sL_has at hE
  refine Met.ofW (cc := cL_has) (maxL := 2) (ret := (some .boolean)) (by decide) rfl ?_
  intro p e s m args below meth c s₁ B hml hv
  obtain ⟨hargs, hPW⟩ := hv
  have hW := WW.entry hPW
  have hx := B.exec
  have hb := B.bytes
  have hr := B.returns
  have hts := atoms_spec (ws := wsL_has) B.pre
  have hown : s.vm.findClass RL = some m.cls := findClass_of_methodNamed B.named
  have hlocks := B.notSynchronized
  have hl := lv_entry ([.int x0, .int x1]) (n := 2) (Nat.le_of_ble_eq_true rfl)
  have hfr : entryFrame m args 2 = F0 m 0 (lg_sl ([.int x0, .int x1]) ++ List.replicate (2 - (lg_sl ([.int x0, .int x1])).length) Slot.unset).toArray [] := by rw [hargs, lg_entry_eq]
  rw [hfr]
  generalize (lg_sl ([.int x0, .int x1]) ++ List.replicate (2 - (lg_sl ([.int x0, .int x1])).length) Slot.unset).toArray = ls at hl ⊢
  have hl : lv_has ls 2 [(0, .int x0), (1, .int x1)] := hl
  refine lv_iload_n hx hb dL_has_0 rfl (lv_at hl 0 rfl) ?_
  refine lv_iload_n hx hb dL_has_1 rfl (lv_at hl 1 rfl) ?_
  refine lv_ishr hx hb dL_has_2 ?_
  refine lv_iconst (v := 1) hx hb dL_has_3 (by decide) ?_
  refine lv_iand hx hb dL_has_4 ?_
  refine lv_iconst (v := 1) hx hb dL_has_5 (by decide) ?_
  refine lv_icmp_ne (tgt := 13) hx hb dL_has_6 (by decide) (fun c_1 => ?_) (fun c_1 => ?_)
  · have hE := if_t c_1 hE
    refine lv_iconst (v := 0) hx hb dL_has_13 (by decide) ?_
    obtain rfl := some_x hE
    exact W.zret hx hb hr rfl (fun t ht hWm => hW.qi ht hWm) hW.2.2.1.2.2 dL_has_14
  · have hE := if_f (fun q => q c_1) hE
    refine lv_iconst (v := 1) hx hb dL_has_9 (by decide) ?_
    refine lv_goto (tgt := 14) hx hb dL_has_10 (by decide) ?_
    obtain rfl := some_x hE
    exact W.zret hx hb hr rfl (fun t ht hWm => hW.qi ht hWm) hW.2.2.1.2.2 dL_has_14
abbrev rmL_isSound : Room := { frames := 17, cells := 0, slots := 0, locals := 373 }
set_option maxHeartbeats 4000000 in
set_option maxRecDepth 100000 in
theorem ctL_isSound (l : Launch) (D : va_G) (ks : KA) (ad : Nat → Nat) (sz : Nat) (st : St)   {r : Int32} {st' : St} (hE : sL_isSound st  = some (r, st')) : CI l D ks yL_isSound wsL_isSound rmL_isSound [.ref (ad 0)] ad sz st r st' := by
  unfold sL_isSound at hE
  refine Met.ofW (cc := cL_isSound) (maxL := 6) (ret := (some .boolean)) (by decide) rfl ?_
  intro p e s m args below meth c s₁ B hml hv
  obtain ⟨hargs, hPW⟩ := hv
  have hW := WW.entry hPW
  have hx := B.exec
  have hb := B.bytes
  have hr := B.returns
  have hts := atoms_spec (ws := wsL_isSound) B.pre
  have hown : s.vm.findClass RL = some m.cls := findClass_of_methodNamed B.named
  have hlocks := B.notSynchronized
  have hl := lv_entry ([.ref (ad 0)]) (n := 6) (Nat.le_of_ble_eq_true rfl)
  have hfr : entryFrame m args 6 = F0 m 0 (lg_sl ([.ref (ad 0)]) ++ List.replicate (6 - (lg_sl ([.ref (ad 0)])).length) Slot.unset).toArray [] := by rw [hargs, lg_entry_eq]
  rw [hfr]
  generalize (lg_sl ([.ref (ad 0)]) ++ List.replicate (6 - (lg_sl ([.ref (ad 0)])).length) Slot.unset).toArray = ls at hl ⊢
  have hl : lv_has ls 6 [(0, .ref (ad 0))] := hl
  have L4 : ∀ (n : Nat) (st : St) (x1 : Int32) (x2 : Int32)  (z1 : Int32) (H : Heap) (locs : List Loc) (ls : Array Slot), sL_isSound_L4 n st x1 x2 = some z1 → WW D ks ad (AA ad sz) s st H locs → lv_has ls 6 [(0, .ref (ad 0)), (1, .int x1), (2, .int x2)] → (∀ (H : Heap) (locs : List Loc) (ls : Array Slot), WW D ks ad (AA ad sz) s st H locs → lv_has ls 6 [(0, .ref (ad 0)), (1, .int z1)] → W p l e (headSpec wsL_isSound rmL_isSound).room s m args below meth c H locs 0 0 (MQ below (va_Qi (fun (x : Int32) (u : St) => x = r ∧ u = st') (QW D ks ad sz) (AA ad sz)) args s 0 0 (AA ad sz)) (F0 m 24 ls [])) → W p l e (headSpec wsL_isSound rmL_isSound).room s m args below meth c H locs 0 0 (MQ below (va_Qi (fun (x : Int32) (u : St) => x = r ∧ u = st') (QW D ks ad sz) (AA ad sz)) args s 0 0 (AA ad sz)) (F0 m 4 ls []) := by
    intro n
    induction n with
    | zero =>
      intro st x1 x2 z1 H locs ls hE hW hl kx
      exact none_x hE
    | succ n ih =>
      intro st x1 x2 z1 H locs ls hE hW hl kx
      rw [sL_isSound_L4] at hE
      refine lv_iload_n hx hb dL_isSound_4 rfl (lv_at hl 2 rfl) ?_
      refine lv_bipush (v := 10) hx hb dL_isSound_5 (by decide) ?_
      refine lv_icmp_ge (tgt := 24) hx hb dL_isSound_7 (by decide) (fun c_1 => ?_) (fun c_1 => ?_)
      · have hE := if_t c_1 hE
        obtain rfl := some_x hE
        exact kx _ _ _ hW (lv_sub hl [0, 1] rfl)
      · have hE := if_f c_1 hE
        refine lv_iload_n hx hb dL_isSound_10 rfl (lv_at hl 1 rfl) ?_
        refine lv_aload_n hx hb dL_isSound_11 rfl (lv_at hl 0 rfl) ?_
        refine lv_iload_n hx hb dL_isSound_12 rfl (lv_at hl 2 rfl) ?_
        obtain ⟨r_3, hc_2, hE⟩ := ob_some hE
        refine ww_callVi (As := [.int x2]) (rest := [.int x1]) ⟨hx, hb, hml, hown, hts⟩ hW (ctX3_nodesAt l D ks ad _ st x2 hc_2) (cwV 1 hts gL_isSound_X3_nodesAt rfl rfl rfl (by decide +kernel) ⟨Nat.le_of_ble_eq_true rfl, Nat.le_of_ble_eq_true rfl⟩) hW.recvX rfl hl.1 rfl (Nat.le_of_ble_eq_true rfl) dL_isSound_13 ⟨Nat.zero_le _, Nat.zero_le _⟩ (fun H locs hW => ?_)
        refine lv_iadd hx hb dL_isSound_16 ?_
        obtain ⟨x1_4, e, hE⟩ := lt_some hE
        refine lv_nmi e ?_
        refine lv_istore_n (lv' := [(1, .int x1_4), (0, .ref (ad 0)), (2, .int x2)]) hx hb dL_isSound_17 rfl hl (by decide) rfl (fun ls hl => ?_)
        obtain ⟨x2_5, e, hE⟩ := lt_some hE
        refine lv_iinc (v := x2_5) (lv' := [(2, .int x2_5), (1, .int x1_4), (0, .ref (ad 0))]) hx hb dL_isSound_18 hl (k := 2) rfl (by rw [e]; rfl) (by decide) rfl (fun ls hl => ?_)
        refine lv_goto (tgt := 4) hx hb dL_isSound_21 (by decide) ?_
        exact ih st x1_4 x2_5 _ _ _ _ hE hW (lv_sub hl [2, 1, 0] rfl) kx
  have L45 : ∀ (n : Nat) (st : St) (x1 : Int32) (x2 : Int32) (x3 : Int32)  (z : (Int32 × St) ⊕ (St × Int32)) (H : Heap) (locs : List Loc) (ls : Array Slot), sL_isSound_L45 n st x1 x2 x3 = some z → WW D ks ad (AA ad sz) s st H locs → lv_has ls 6 [(0, .ref (ad 0)), (1, .int x1), (2, .int x2), (3, .int x3)] → (∀ (stz : St) (z2 : Int32), z = .inr (stz, z2) → ∀ (H : Heap) (locs : List Loc) (ls : Array Slot), WW D ks ad (AA ad sz) s stz H locs → lv_has ls 6 [(0, .ref (ad 0)), (1, .int x1), (2, .int z2)] → W p l e (headSpec wsL_isSound rmL_isSound).room s m args below meth c H locs 0 0 (MQ below (va_Qi (fun (x : Int32) (u : St) => x = r ∧ u = st') (QW D ks ad sz) (AA ad sz)) args s 0 0 (AA ad sz)) (F0 m 181 ls [])) → (∀ a : Int32 × St, z = .inl a → a = (r, st')) → W p l e (headSpec wsL_isSound rmL_isSound).room s m args below meth c H locs 0 0 (MQ below (va_Qi (fun (x : Int32) (u : St) => x = r ∧ u = st') (QW D ks ad sz) (AA ad sz)) args s 0 0 (AA ad sz)) (F0 m 45 ls []) := by
    intro n
    induction n with
    | zero =>
      intro st x1 x2 x3 z H locs ls hE hW hl kx kr
      exact none_x hE
    | succ n ih =>
      intro st x1 x2 x3 z H locs ls hE hW hl kx kr
      rw [sL_isSound_L45] at hE
      refine lv_iload_n hx hb dL_isSound_45 rfl (lv_at hl 3 rfl) ?_
      refine lv_bipush (v := 12) hx hb dL_isSound_46 (by decide) ?_
      refine lv_icmp_ge (tgt := 181) hx hb dL_isSound_48 (by decide) (fun c_11 => ?_) (fun c_11 => ?_)
      · have hE := if_t c_11 hE
        exact kx _ _ (some_x hE).symm _ _ _ hW (lv_sub hl [0, 1, 2] rfl)
      · have hE := if_f c_11 hE
        refine lv_aload_n hx hb dL_isSound_51 rfl (lv_at hl 0 rfl) ?_
        refine lv_iload_n hx hb dL_isSound_52 rfl (lv_at hl 3 rfl) ?_
        obtain ⟨r_14, st_12, hc_13, hE⟩ := ob2_some hE
        refine ww_callVi (As := [.int x3]) (rest := []) ⟨hx, hb, hml, hown, hts⟩ hW (ctX3_size l D ks ad _ st x3 hc_13) (cwV 1 hts gL_isSound_X3_size rfl rfl rfl (by decide +kernel) ⟨Nat.le_of_ble_eq_true rfl, Nat.le_of_ble_eq_true rfl⟩) hW.recvX rfl hl.1 rfl (Nat.le_of_ble_eq_true rfl) dL_isSound_53 ⟨Nat.zero_le _, Nat.zero_le _⟩ (fun H locs hW => ?_)
        refine lv_istore (lv' := [(4, .int r_14), (0, .ref (ad 0)), (1, .int x1), (2, .int x2), (3, .int x3)]) hx hb dL_isSound_56 hl (by decide) rfl (fun ls hl => ?_)
        refine lv_iload_n hx hb dL_isSound_58 rfl (lv_at hl 3 rfl) ?_
        refine lv_iload hx hb dL_isSound_59 (lv_at hl 0 rfl) ?_
        refine lv_iadd hx hb dL_isSound_61 ?_
        obtain ⟨x2_15, e, hE⟩ := lt_some hE
        refine lv_nmi e ?_
        refine lv_istore_n (lv' := [(2, .int x2_15), (4, .int r_14), (0, .ref (ad 0)), (1, .int x1), (3, .int x3)]) hx hb dL_isSound_62 rfl hl (by decide) rfl (fun ls hl => ?_)
        refine lv_aload_n hx hb dL_isSound_63 rfl (lv_at hl 2 rfl) ?_
        refine lv_iload_n hx hb dL_isSound_64 rfl (lv_at hl 4 rfl) ?_
        obtain ⟨r_17, hc_16, hE⟩ := ob_some hE
        refine ww_callVi (As := [.int x3]) (rest := []) ⟨hx, hb, hml, hown, hts⟩ hW (ctX3_support l D ks ad _ st_12 x3 hc_16) (cwV 1 hts gL_isSound_X3_support rfl rfl rfl (by decide +kernel) ⟨Nat.le_of_ble_eq_true rfl, Nat.le_of_ble_eq_true rfl⟩) hW.recvX rfl hl.1 rfl (Nat.le_of_ble_eq_true rfl) dL_isSound_65 ⟨Nat.zero_le _, Nat.zero_le _⟩ (fun H locs hW => ?_)
        obtain ⟨r_19, hc_18, hE⟩ := ob_some hE
        refine ww_callSi (As := [.int r_17]) (rest := []) ⟨hx, hb, hml, hown, hts⟩ hW (ctJ6_bitCount_0f7a4 l D ks ad _ st_12 r_17 hc_18) (va_cwS 1 hts gL_isSound_J6_bitCount_0f7a4 rfl rfl rfl (by decide +kernel) ⟨Nat.le_of_ble_eq_true rfl, Nat.le_of_ble_eq_true rfl⟩) rfl hl.1 rfl (Nat.le_of_ble_eq_true rfl) dL_isSound_68 ⟨Nat.zero_le _, Nat.zero_le _⟩ (fun H locs hW => ?_)
        refine lv_istore (lv' := [(5, .int r_19), (2, .int x2_15), (4, .int r_14), (0, .ref (ad 0)), (1, .int x1), (3, .int x3)]) hx hb dL_isSound_71 hl (by decide) rfl (fun ls hl => ?_)
        refine lv_iload hx hb dL_isSound_73 (lv_at hl 2 rfl) ?_
        refine lv_iload hx hb dL_isSound_75 (lv_at hl 0 rfl) ?_
        refine lv_icmp_lt (tgt := 173) hx hb dL_isSound_77 (by decide) (fun c_20 => ?_) (fun c_20 => ?_)
        · have hE := if_t c_20 hE
          refine lv_iconst (v := 0) hx hb dL_isSound_173 (by decide) ?_
          have hE := kr _ (some_x hE).symm
          obtain ⟨rfl, rfl⟩ := pair_e hE
          exact W.zret hx hb hr rfl (fun t ht hWm => hW.qi ht hWm) hW.2.2.1.2.2 dL_isSound_174
        · have hE := if_f c_20 hE
          refine lv_aload_n hx hb dL_isSound_80 rfl (lv_at hl 3 rfl) ?_
          refine lv_iload_n hx hb dL_isSound_81 rfl (lv_at hl 5 rfl) ?_
          refine lv_iload_n hx hb dL_isSound_82 rfl (lv_at hl 5 rfl) ?_
          obtain ⟨r_23, st_21, hc_22, hE⟩ := ob2_some hE
          refine ww_callVi (As := [.int x3, .int x3]) (rest := []) ⟨hx, hb, hml, hown, hts⟩ hW (ctX3_shared l D ks ad _ st_12 x3 x3 hc_22) (cwV 2 hts gL_isSound_X3_shared rfl rfl rfl (by decide +kernel) ⟨Nat.le_of_ble_eq_true rfl, Nat.le_of_ble_eq_true rfl⟩) hW.recvX rfl hl.1 rfl (Nat.le_of_ble_eq_true rfl) dL_isSound_83 ⟨Nat.zero_le _, Nat.zero_le _⟩ (fun H locs hW => ?_)
          refine lv_iload hx hb dL_isSound_86 (lv_at hl 2 rfl) ?_
          refine lv_icmp_ne (tgt := 173) hx hb dL_isSound_88 (by decide) (fun c_24 => ?_) (fun c_24 => ?_)
          · have hE := if_t c_24 hE
            refine lv_iconst (v := 0) hx hb dL_isSound_173 (by decide) ?_
            have hE := kr _ (some_x hE).symm
            obtain ⟨rfl, rfl⟩ := pair_e hE
            exact W.zret hx hb hr rfl (fun t ht hWm => hW.qi ht hWm) hW.2.2.1.2.2 dL_isSound_174
          · have hE := if_f (fun q => q c_24) hE
            refine lv_aload_n hx hb dL_isSound_91 rfl (lv_at hl 3 rfl) ?_
            refine lv_iload_n hx hb dL_isSound_92 rfl (lv_at hl 5 rfl) ?_
            obtain ⟨r_27, st_25, hc_26, hE⟩ := ob2_some hE
            refine ww_callVi (As := [.int x3]) (rest := []) ⟨hx, hb, hml, hown, hts⟩ hW (ctX3_depth l D ks ad _ st_21 x3 hc_26) (cwV 1 hts gL_isSound_X3_depth rfl rfl rfl (by decide +kernel) ⟨Nat.le_of_ble_eq_true rfl, Nat.le_of_ble_eq_true rfl⟩) hW.recvX rfl hl.1 rfl (Nat.le_of_ble_eq_true rfl) dL_isSound_93 ⟨Nat.zero_le _, Nat.zero_le _⟩ (fun H locs hW => ?_)
            refine lv_iload hx hb dL_isSound_96 (lv_at hl 0 rfl) ?_
            refine lv_icmp_gt (tgt := 173) hx hb dL_isSound_98 (by decide) (fun c_28 => ?_) (fun c_28 => ?_)
            · have hE := if_t c_28 hE
              refine lv_iconst (v := 0) hx hb dL_isSound_173 (by decide) ?_
              have hE := kr _ (some_x hE).symm
              obtain ⟨rfl, rfl⟩ := pair_e hE
              exact W.zret hx hb hr rfl (fun t ht hWm => hW.qi ht hWm) hW.2.2.1.2.2 dL_isSound_174
            · have hE := if_f c_28 hE
              refine lv_aload_n hx hb dL_isSound_101 rfl (lv_at hl 3 rfl) ?_
              refine lv_iload_n hx hb dL_isSound_102 rfl (lv_at hl 5 rfl) ?_
              obtain ⟨r_31, st_29, hc_30, hE⟩ := ob2_some hE
              refine ww_callVi (As := [.int x3]) (rest := []) ⟨hx, hb, hml, hown, hts⟩ hW (ctX3_ways l D ks ad _ st_25 x3 hc_30) (cwV 1 hts gL_isSound_X3_ways rfl rfl rfl (by decide +kernel) ⟨Nat.le_of_ble_eq_true rfl, Nat.le_of_ble_eq_true rfl⟩) hW.recvX rfl hl.1 rfl (Nat.le_of_ble_eq_true rfl) dL_isSound_103 ⟨Nat.zero_le _, Nat.zero_le _⟩ (fun H locs hW => ?_)
              refine lv_aload_n hx hb dL_isSound_106 rfl (lv_at hl 3 rfl) ?_
              refine lv_iload_n hx hb dL_isSound_107 rfl (lv_at hl 5 rfl) ?_
              obtain ⟨r_33, hc_32, hE⟩ := ob_some hE
              refine ww_callVi (As := [.int x3]) (rest := [.int r_31]) ⟨hx, hb, hml, hown, hts⟩ hW (ctX3_models l D ks ad _ st_29 x3 hc_32) (cwV 1 hts gL_isSound_X3_models rfl rfl rfl (by decide +kernel) ⟨Nat.le_of_ble_eq_true rfl, Nat.le_of_ble_eq_true rfl⟩) hW.recvX rfl hl.1 rfl (Nat.le_of_ble_eq_true rfl) dL_isSound_108 ⟨Nat.zero_le _, Nat.zero_le _⟩ (fun H locs hW => ?_)
              refine lv_icmp_gt (tgt := 173) hx hb dL_isSound_111 (by decide) (fun c_34 => ?_) (fun c_34 => ?_)
              · have hE := if_t c_34 hE
                refine lv_iconst (v := 0) hx hb dL_isSound_173 (by decide) ?_
                have hE := kr _ (some_x hE).symm
                obtain ⟨rfl, rfl⟩ := pair_e hE
                exact W.zret hx hb hr rfl (fun t ht hWm => hW.qi ht hWm) hW.2.2.1.2.2 dL_isSound_174
              · have hE := if_f c_34 hE
                refine lv_aload_n hx hb dL_isSound_114 rfl (lv_at hl 3 rfl) ?_
                refine lv_iload_n hx hb dL_isSound_115 rfl (lv_at hl 5 rfl) ?_
                obtain ⟨r_37, st_35, hc_36, hE⟩ := ob2_some hE
                refine ww_callVi (As := [.int x3]) (rest := []) ⟨hx, hb, hml, hown, hts⟩ hW (ctX3_ways l D ks ad _ st_29 x3 hc_36) (cwV 1 hts gL_isSound_X3_ways rfl rfl rfl (by decide +kernel) ⟨Nat.le_of_ble_eq_true rfl, Nat.le_of_ble_eq_true rfl⟩) hW.recvX rfl hl.1 rfl (Nat.le_of_ble_eq_true rfl) dL_isSound_116 ⟨Nat.zero_le _, Nat.zero_le _⟩ (fun H locs hW => ?_)
                refine lv_if_ne (tgt := 126) hx hb dL_isSound_119 (by decide) (fun c_38 => ?_) (fun c_38 => ?_)
                · have hE := if_t c_38 hE
                  refine lv_iconst (v := 0) hx hb dL_isSound_126 (by decide) ?_
                  refine lv_aload_n hx hb dL_isSound_127 rfl (lv_at hl 3 rfl) ?_
                  refine lv_iload_n hx hb dL_isSound_128 rfl (lv_at hl 5 rfl) ?_
                  obtain ⟨r_40, hc_39, hE⟩ := ob_some hE
                  refine ww_callVi (As := [.int x3]) (rest := [.int (0 : Int32)]) ⟨hx, hb, hml, hown, hts⟩ hW (ctX3_models l D ks ad _ st_35 x3 hc_39) (cwV 1 hts gL_isSound_X3_models rfl rfl rfl (by decide +kernel) ⟨Nat.le_of_ble_eq_true rfl, Nat.le_of_ble_eq_true rfl⟩) hW.recvX rfl hl.1 rfl (Nat.le_of_ble_eq_true rfl) dL_isSound_129 ⟨Nat.zero_le _, Nat.zero_le _⟩ (fun H locs hW => ?_)
                  refine lv_if_ne (tgt := 139) hx hb dL_isSound_132 (by decide) (fun c_41 => ?_) (fun c_41 => ?_)
                  · have hE := if_t c_41 hE
                    refine lv_iconst (v := 0) hx hb dL_isSound_139 (by decide) ?_
                    refine lv_icmp_ne (tgt := 173) hx hb dL_isSound_140 (by decide) (fun c_42 => ?_) (fun c_42 => ?_)
                    · exact absurd (by decide) c_42
                    · refine lv_iload hx hb dL_isSound_143 (lv_at hl 2 rfl) ?_
                      refine lv_if_ne (tgt := 152) hx hb dL_isSound_145 (by decide) (fun c_43 => ?_) (fun c_43 => ?_)
                      · have hE := if_t c_43 hE
                        refine lv_iconst (v := 0) hx hb dL_isSound_152 (by decide) ?_
                        refine lv_aload_n hx hb dL_isSound_153 rfl (lv_at hl 3 rfl) ?_
                        refine lv_iload_n hx hb dL_isSound_154 rfl (lv_at hl 5 rfl) ?_
                        obtain ⟨r_45, hc_44, hE⟩ := ob_some hE
                        refine ww_callVi (As := [.int x3]) (rest := [.int (0 : Int32)]) ⟨hx, hb, hml, hown, hts⟩ hW (ctX3_models l D ks ad _ st_35 x3 hc_44) (cwV 1 hts gL_isSound_X3_models rfl rfl rfl (by decide +kernel) ⟨Nat.le_of_ble_eq_true rfl, Nat.le_of_ble_eq_true rfl⟩) hW.recvX rfl hl.1 rfl (Nat.le_of_ble_eq_true rfl) dL_isSound_155 ⟨Nat.zero_le _, Nat.zero_le _⟩ (fun H locs hW => ?_)
                        refine lv_sipush (v := 1024) hx hb dL_isSound_158 (by decide) ?_
                        obtain ⟨hne, hE⟩ := gz_some hE
                        refine lv_irem hx hb dL_isSound_161 hne ?_
                        refine lv_if_ne (tgt := 169) hx hb dL_isSound_162 (by decide) (fun c_46 => ?_) (fun c_46 => ?_)
                        · have hE := if_t c_46 hE
                          refine lv_iconst (v := 0) hx hb dL_isSound_169 (by decide) ?_
                          refine lv_icmp_eq (tgt := 175) hx hb dL_isSound_170 (by decide) (fun c_47 => ?_) (fun c_47 => ?_)
                          · obtain ⟨x3_48, e, hE⟩ := lt_some hE
                            refine lv_iinc (v := x3_48) (lv' := [(3, .int x3_48), (5, .int r_19), (2, .int x2_15), (4, .int r_14), (0, .ref (ad 0)), (1, .int x1)]) hx hb dL_isSound_175 hl (k := 5) rfl (by rw [e]; rfl) (by decide) rfl (fun ls hl => ?_)
                            refine lv_goto (tgt := 45) hx hb dL_isSound_178 (by decide) ?_
                            exact ih st_35 x1 x2_15 x3_48 _ _ _ _ hE hW (lv_sub hl [4, 5, 2, 0] rfl) kx kr
                          · exact absurd (by decide) c_47
                        · have hE := if_f (fun q => q c_46) hE
                          refine lv_iconst (v := 1) hx hb dL_isSound_165 (by decide) ?_
                          refine lv_goto (tgt := 170) hx hb dL_isSound_166 (by decide) ?_
                          refine lv_icmp_eq (tgt := 175) hx hb dL_isSound_170 (by decide) (fun c_49 => ?_) (fun c_49 => ?_)
                          · exact absurd c_49 (by decide)
                          · refine lv_iconst (v := 0) hx hb dL_isSound_173 (by decide) ?_
                            have hE := kr _ (some_x hE).symm
                            obtain ⟨rfl, rfl⟩ := pair_e hE
                            exact W.zret hx hb hr rfl (fun t ht hWm => hW.qi ht hWm) hW.2.2.1.2.2 dL_isSound_174
                      · have hE := if_f (fun q => q c_43) hE
                        refine lv_iconst (v := 1) hx hb dL_isSound_148 (by decide) ?_
                        refine lv_goto (tgt := 153) hx hb dL_isSound_149 (by decide) ?_
                        refine lv_aload_n hx hb dL_isSound_153 rfl (lv_at hl 3 rfl) ?_
                        refine lv_iload_n hx hb dL_isSound_154 rfl (lv_at hl 5 rfl) ?_
                        obtain ⟨r_51, hc_50, hE⟩ := ob_some hE
                        refine ww_callVi (As := [.int x3]) (rest := [.int (1 : Int32)]) ⟨hx, hb, hml, hown, hts⟩ hW (ctX3_models l D ks ad _ st_35 x3 hc_50) (cwV 1 hts gL_isSound_X3_models rfl rfl rfl (by decide +kernel) ⟨Nat.le_of_ble_eq_true rfl, Nat.le_of_ble_eq_true rfl⟩) hW.recvX rfl hl.1 rfl (Nat.le_of_ble_eq_true rfl) dL_isSound_155 ⟨Nat.zero_le _, Nat.zero_le _⟩ (fun H locs hW => ?_)
                        refine lv_sipush (v := 1024) hx hb dL_isSound_158 (by decide) ?_
                        obtain ⟨hne, hE⟩ := gz_some hE
                        refine lv_irem hx hb dL_isSound_161 hne ?_
                        refine lv_if_ne (tgt := 169) hx hb dL_isSound_162 (by decide) (fun c_52 => ?_) (fun c_52 => ?_)
                        · have hE := if_t c_52 hE
                          refine lv_iconst (v := 0) hx hb dL_isSound_169 (by decide) ?_
                          refine lv_icmp_eq (tgt := 175) hx hb dL_isSound_170 (by decide) (fun c_53 => ?_) (fun c_53 => ?_)
                          · exact absurd c_53 (by decide)
                          · refine lv_iconst (v := 0) hx hb dL_isSound_173 (by decide) ?_
                            have hE := kr _ (some_x hE).symm
                            obtain ⟨rfl, rfl⟩ := pair_e hE
                            exact W.zret hx hb hr rfl (fun t ht hWm => hW.qi ht hWm) hW.2.2.1.2.2 dL_isSound_174
                        · have hE := if_f (fun q => q c_52) hE
                          refine lv_iconst (v := 1) hx hb dL_isSound_165 (by decide) ?_
                          refine lv_goto (tgt := 170) hx hb dL_isSound_166 (by decide) ?_
                          refine lv_icmp_eq (tgt := 175) hx hb dL_isSound_170 (by decide) (fun c_54 => ?_) (fun c_54 => ?_)
                          · obtain ⟨x3_55, e, hE⟩ := lt_some hE
                            refine lv_iinc (v := x3_55) (lv' := [(3, .int x3_55), (5, .int r_19), (2, .int x2_15), (4, .int r_14), (0, .ref (ad 0)), (1, .int x1)]) hx hb dL_isSound_175 hl (k := 5) rfl (by rw [e]; rfl) (by decide) rfl (fun ls hl => ?_)
                            refine lv_goto (tgt := 45) hx hb dL_isSound_178 (by decide) ?_
                            exact ih st_35 x1 x2_15 x3_55 _ _ _ _ hE hW (lv_sub hl [4, 5, 2, 0] rfl) kx kr
                          · exact absurd (by decide) c_54
                  · have hE := if_f (fun q => q c_41) hE
                    refine lv_iconst (v := 1) hx hb dL_isSound_135 (by decide) ?_
                    refine lv_goto (tgt := 140) hx hb dL_isSound_136 (by decide) ?_
                    refine lv_icmp_ne (tgt := 173) hx hb dL_isSound_140 (by decide) (fun c_56 => ?_) (fun c_56 => ?_)
                    · refine lv_iconst (v := 0) hx hb dL_isSound_173 (by decide) ?_
                      have hE := kr _ (some_x hE).symm
                      obtain ⟨rfl, rfl⟩ := pair_e hE
                      exact W.zret hx hb hr rfl (fun t ht hWm => hW.qi ht hWm) hW.2.2.1.2.2 dL_isSound_174
                    · exact absurd c_56 (by decide)
                · have hE := if_f (fun q => q c_38) hE
                  refine lv_iconst (v := 1) hx hb dL_isSound_122 (by decide) ?_
                  refine lv_goto (tgt := 127) hx hb dL_isSound_123 (by decide) ?_
                  refine lv_aload_n hx hb dL_isSound_127 rfl (lv_at hl 3 rfl) ?_
                  refine lv_iload_n hx hb dL_isSound_128 rfl (lv_at hl 5 rfl) ?_
                  obtain ⟨r_58, hc_57, hE⟩ := ob_some hE
                  refine ww_callVi (As := [.int x3]) (rest := [.int (1 : Int32)]) ⟨hx, hb, hml, hown, hts⟩ hW (ctX3_models l D ks ad _ st_35 x3 hc_57) (cwV 1 hts gL_isSound_X3_models rfl rfl rfl (by decide +kernel) ⟨Nat.le_of_ble_eq_true rfl, Nat.le_of_ble_eq_true rfl⟩) hW.recvX rfl hl.1 rfl (Nat.le_of_ble_eq_true rfl) dL_isSound_129 ⟨Nat.zero_le _, Nat.zero_le _⟩ (fun H locs hW => ?_)
                  refine lv_if_ne (tgt := 139) hx hb dL_isSound_132 (by decide) (fun c_59 => ?_) (fun c_59 => ?_)
                  · have hE := if_t c_59 hE
                    refine lv_iconst (v := 0) hx hb dL_isSound_139 (by decide) ?_
                    refine lv_icmp_ne (tgt := 173) hx hb dL_isSound_140 (by decide) (fun c_60 => ?_) (fun c_60 => ?_)
                    · refine lv_iconst (v := 0) hx hb dL_isSound_173 (by decide) ?_
                      have hE := kr _ (some_x hE).symm
                      obtain ⟨rfl, rfl⟩ := pair_e hE
                      exact W.zret hx hb hr rfl (fun t ht hWm => hW.qi ht hWm) hW.2.2.1.2.2 dL_isSound_174
                    · exact absurd c_60 (by decide)
                  · have hE := if_f (fun q => q c_59) hE
                    refine lv_iconst (v := 1) hx hb dL_isSound_135 (by decide) ?_
                    refine lv_goto (tgt := 140) hx hb dL_isSound_136 (by decide) ?_
                    refine lv_icmp_ne (tgt := 173) hx hb dL_isSound_140 (by decide) (fun c_61 => ?_) (fun c_61 => ?_)
                    · exact absurd (by decide) c_61
                    · refine lv_iload hx hb dL_isSound_143 (lv_at hl 2 rfl) ?_
                      refine lv_if_ne (tgt := 152) hx hb dL_isSound_145 (by decide) (fun c_62 => ?_) (fun c_62 => ?_)
                      · have hE := if_t c_62 hE
                        refine lv_iconst (v := 0) hx hb dL_isSound_152 (by decide) ?_
                        refine lv_aload_n hx hb dL_isSound_153 rfl (lv_at hl 3 rfl) ?_
                        refine lv_iload_n hx hb dL_isSound_154 rfl (lv_at hl 5 rfl) ?_
                        obtain ⟨r_64, hc_63, hE⟩ := ob_some hE
                        refine ww_callVi (As := [.int x3]) (rest := [.int (0 : Int32)]) ⟨hx, hb, hml, hown, hts⟩ hW (ctX3_models l D ks ad _ st_35 x3 hc_63) (cwV 1 hts gL_isSound_X3_models rfl rfl rfl (by decide +kernel) ⟨Nat.le_of_ble_eq_true rfl, Nat.le_of_ble_eq_true rfl⟩) hW.recvX rfl hl.1 rfl (Nat.le_of_ble_eq_true rfl) dL_isSound_155 ⟨Nat.zero_le _, Nat.zero_le _⟩ (fun H locs hW => ?_)
                        refine lv_sipush (v := 1024) hx hb dL_isSound_158 (by decide) ?_
                        obtain ⟨hne, hE⟩ := gz_some hE
                        refine lv_irem hx hb dL_isSound_161 hne ?_
                        refine lv_if_ne (tgt := 169) hx hb dL_isSound_162 (by decide) (fun c_65 => ?_) (fun c_65 => ?_)
                        · have hE := if_t c_65 hE
                          refine lv_iconst (v := 0) hx hb dL_isSound_169 (by decide) ?_
                          refine lv_icmp_eq (tgt := 175) hx hb dL_isSound_170 (by decide) (fun c_66 => ?_) (fun c_66 => ?_)
                          · obtain ⟨x3_67, e, hE⟩ := lt_some hE
                            refine lv_iinc (v := x3_67) (lv' := [(3, .int x3_67), (5, .int r_19), (2, .int x2_15), (4, .int r_14), (0, .ref (ad 0)), (1, .int x1)]) hx hb dL_isSound_175 hl (k := 5) rfl (by rw [e]; rfl) (by decide) rfl (fun ls hl => ?_)
                            refine lv_goto (tgt := 45) hx hb dL_isSound_178 (by decide) ?_
                            exact ih st_35 x1 x2_15 x3_67 _ _ _ _ hE hW (lv_sub hl [4, 5, 2, 0] rfl) kx kr
                          · exact absurd (by decide) c_66
                        · have hE := if_f (fun q => q c_65) hE
                          refine lv_iconst (v := 1) hx hb dL_isSound_165 (by decide) ?_
                          refine lv_goto (tgt := 170) hx hb dL_isSound_166 (by decide) ?_
                          refine lv_icmp_eq (tgt := 175) hx hb dL_isSound_170 (by decide) (fun c_68 => ?_) (fun c_68 => ?_)
                          · exact absurd c_68 (by decide)
                          · refine lv_iconst (v := 0) hx hb dL_isSound_173 (by decide) ?_
                            have hE := kr _ (some_x hE).symm
                            obtain ⟨rfl, rfl⟩ := pair_e hE
                            exact W.zret hx hb hr rfl (fun t ht hWm => hW.qi ht hWm) hW.2.2.1.2.2 dL_isSound_174
                      · have hE := if_f (fun q => q c_62) hE
                        refine lv_iconst (v := 1) hx hb dL_isSound_148 (by decide) ?_
                        refine lv_goto (tgt := 153) hx hb dL_isSound_149 (by decide) ?_
                        refine lv_aload_n hx hb dL_isSound_153 rfl (lv_at hl 3 rfl) ?_
                        refine lv_iload_n hx hb dL_isSound_154 rfl (lv_at hl 5 rfl) ?_
                        obtain ⟨r_70, hc_69, hE⟩ := ob_some hE
                        refine ww_callVi (As := [.int x3]) (rest := [.int (1 : Int32)]) ⟨hx, hb, hml, hown, hts⟩ hW (ctX3_models l D ks ad _ st_35 x3 hc_69) (cwV 1 hts gL_isSound_X3_models rfl rfl rfl (by decide +kernel) ⟨Nat.le_of_ble_eq_true rfl, Nat.le_of_ble_eq_true rfl⟩) hW.recvX rfl hl.1 rfl (Nat.le_of_ble_eq_true rfl) dL_isSound_155 ⟨Nat.zero_le _, Nat.zero_le _⟩ (fun H locs hW => ?_)
                        refine lv_sipush (v := 1024) hx hb dL_isSound_158 (by decide) ?_
                        obtain ⟨hne, hE⟩ := gz_some hE
                        refine lv_irem hx hb dL_isSound_161 hne ?_
                        refine lv_if_ne (tgt := 169) hx hb dL_isSound_162 (by decide) (fun c_71 => ?_) (fun c_71 => ?_)
                        · have hE := if_t c_71 hE
                          refine lv_iconst (v := 0) hx hb dL_isSound_169 (by decide) ?_
                          refine lv_icmp_eq (tgt := 175) hx hb dL_isSound_170 (by decide) (fun c_72 => ?_) (fun c_72 => ?_)
                          · exact absurd c_72 (by decide)
                          · refine lv_iconst (v := 0) hx hb dL_isSound_173 (by decide) ?_
                            have hE := kr _ (some_x hE).symm
                            obtain ⟨rfl, rfl⟩ := pair_e hE
                            exact W.zret hx hb hr rfl (fun t ht hWm => hW.qi ht hWm) hW.2.2.1.2.2 dL_isSound_174
                        · have hE := if_f (fun q => q c_71) hE
                          refine lv_iconst (v := 1) hx hb dL_isSound_165 (by decide) ?_
                          refine lv_goto (tgt := 170) hx hb dL_isSound_166 (by decide) ?_
                          refine lv_icmp_eq (tgt := 175) hx hb dL_isSound_170 (by decide) (fun c_73 => ?_) (fun c_73 => ?_)
                          · obtain ⟨x3_74, e, hE⟩ := lt_some hE
                            refine lv_iinc (v := x3_74) (lv' := [(3, .int x3_74), (5, .int r_19), (2, .int x2_15), (4, .int r_14), (0, .ref (ad 0)), (1, .int x1)]) hx hb dL_isSound_175 hl (k := 5) rfl (by rw [e]; rfl) (by decide) rfl (fun ls hl => ?_)
                            refine lv_goto (tgt := 45) hx hb dL_isSound_178 (by decide) ?_
                            exact ih st_35 x1 x2_15 x3_74 _ _ _ _ hE hW (lv_sub hl [4, 5, 2, 0] rfl) kx kr
                          · exact absurd (by decide) c_73
  refine lv_iconst (v := 0) hx hb dL_isSound_0 (by decide) ?_
  refine lv_istore_n (lv' := [(1, .int (0 : Int32)), (0, .ref (ad 0))]) hx hb dL_isSound_1 rfl hl (by decide) rfl (fun ls hl => ?_)
  refine lv_iconst (v := 0) hx hb dL_isSound_2 (by decide) ?_
  refine lv_istore_n (lv' := [(2, .int (0 : Int32)), (1, .int (0 : Int32)), (0, .ref (ad 0))]) hx hb dL_isSound_3 rfl hl (by decide) rfl (fun ls hl => ?_)
  obtain ⟨x1_6, hz, hE⟩ := ob_some hE
  refine L4 FU st (0 : Int32) (0 : Int32) x1_6 _ _ _ hz hW (lv_sub hl [2, 1, 0] rfl) (fun H locs ls hW hl => ?_)
  refine lv_iload_n hx hb dL_isSound_24 rfl (lv_at hl 1 rfl) ?_
  refine lv_aload_n hx hb dL_isSound_25 rfl (lv_at hl 0 rfl) ?_
  obtain ⟨r_8, hc_7, hE⟩ := ob_some hE
  refine ww_callVi (As := []) (rest := [.int x1_6]) ⟨hx, hb, hml, hown, hts⟩ hW (ctX3_total l D ks ad _ st hc_7) (cwV 0 hts gL_isSound_X3_total rfl rfl rfl (by decide +kernel) ⟨Nat.le_of_ble_eq_true rfl, Nat.le_of_ble_eq_true rfl⟩) hW.recvX rfl hl.1 rfl (Nat.le_of_ble_eq_true rfl) dL_isSound_26 ⟨Nat.zero_le _, Nat.zero_le _⟩ (fun H locs hW => ?_)
  refine lv_icmp_ne (tgt := 39) hx hb dL_isSound_29 (by decide) (fun c_9 => ?_) (fun c_9 => ?_)
  · have hE := if_t c_9 hE
    refine lv_iconst (v := 0) hx hb dL_isSound_39 (by decide) ?_
    obtain ⟨rfl, rfl⟩ := pair_x hE
    exact W.zret hx hb hr rfl (fun t ht hWm => hW.qi ht hWm) hW.2.2.1.2.2 dL_isSound_40
  · have hE := if_f (fun q => q c_9) hE
    refine lv_iload_n hx hb dL_isSound_32 rfl (lv_at hl 1 rfl) ?_
    refine lv_sipush (v := 400) hx hb dL_isSound_33 (by decide) ?_
    refine lv_icmp_le (tgt := 41) hx hb dL_isSound_36 (by decide) (fun c_10 => ?_) (fun c_10 => ?_)
    · have hE := if_t c_10 hE
      refine lv_iconst (v := 0) hx hb dL_isSound_41 (by decide) ?_
      refine lv_istore_n (lv' := [(2, .int (0 : Int32)), (0, .ref (ad 0)), (1, .int x1_6)]) hx hb dL_isSound_42 rfl hl (by decide) rfl (fun ls hl => ?_)
      refine lv_iconst (v := 0) hx hb dL_isSound_43 (by decide) ?_
      refine lv_istore_n (lv' := [(3, .int (0 : Int32)), (2, .int (0 : Int32)), (0, .ref (ad 0)), (1, .int x1_6)]) hx hb dL_isSound_44 rfl hl (by decide) rfl (fun ls hl => ?_)
      obtain ⟨z_77, hz, hz1, hz2⟩ := obS_some hE
      exact L45 FU st x1_6 (0 : Int32) (0 : Int32) z_77 _ _ _ hz hW (lv_sub hl [2, 3, 1, 0] rfl) (fun u_st_75 u_x2_76 e H locs ls hW hl => by
          have hE := hz2 _ e
          obtain ⟨st_75, ea, hE⟩ := lt_some hE
          have ea : st_75 = u_st_75 := ea
          subst ea
          obtain ⟨x2_76, ea, hE⟩ := lt_some hE
          have ea : x2_76 = u_x2_76 := ea
          subst ea
          refine lv_iload_n hx hb dL_isSound_181 rfl (lv_at hl 2 rfl) ?_
          refine lv_iload_n hx hb dL_isSound_182 rfl (lv_at hl 1 rfl) ?_
          refine lv_icmp_lt (tgt := 204) hx hb dL_isSound_183 (by decide) (fun c_79 => ?_) (fun c_79 => ?_)
          · have hE := if_t c_79 hE
            refine lv_iconst (v := 0) hx hb dL_isSound_204 (by decide) ?_
            obtain ⟨rfl, rfl⟩ := pair_x hE
            exact W.zret hx hb hr rfl (fun t ht hWm => hW.qi ht hWm) hW.2.2.1.2.2 dL_isSound_205
          · have hE := if_f c_79 hE
            refine lv_aload_n hx hb dL_isSound_186 rfl (lv_at hl 0 rfl) ?_
            obtain ⟨r_82, st_80, hc_81, hE⟩ := ob2_some hE
            refine ww_callVd (As := []) (rest := []) ⟨hx, hb, hml, hown, hts⟩ hW (ctX3_meanSize l D ks ad _ st_75 hc_81) (cwV 0 hts gL_isSound_X3_meanSize rfl rfl rfl (by decide +kernel) ⟨Nat.le_of_ble_eq_true rfl, Nat.le_of_ble_eq_true rfl⟩) hW.recvX rfl hl.1 rfl (Nat.le_of_ble_eq_true rfl) dL_isSound_187 ⟨Nat.zero_le _, Nat.zero_le _⟩ (fun H locs hW => ?_)
            refine lv_iload_n hx hb dL_isSound_190 rfl (lv_at hl 2 rfl) ?_
            refine lv_i2d hx hb dL_isSound_191 ?_
            refine lv_ldc2d (v := 4622945017495814144) hx hb hown (hts (.constantDouble RL 66 4622945017495814144) (by decide +kernel)) dL_isSound_192 ?_
            obtain ⟨hnn, hE⟩ := gn_some hE
            refine lv_ddiv hx hb dL_isSound_195 hnn ?_
            refine lv_dcmp hx hb dL_isSound_196 ?_
            refine lv_if_ne (tgt := 204) hx hb dL_isSound_197 (by decide) (fun c_83 => ?_) (fun c_83 => ?_)
            · have hE := if_t c_83 hE
              refine lv_iconst (v := 0) hx hb dL_isSound_204 (by decide) ?_
              obtain ⟨rfl, rfl⟩ := pair_x hE
              exact W.zret hx hb hr rfl (fun t ht hWm => hW.qi ht hWm) hW.2.2.1.2.2 dL_isSound_205
            · have hE := if_f (fun q => q c_83) hE
              refine lv_iconst (v := 1) hx hb dL_isSound_200 (by decide) ?_
              refine lv_goto (tgt := 205) hx hb dL_isSound_201 (by decide) ?_
              obtain ⟨rfl, rfl⟩ := pair_x hE
              exact W.zret hx hb hr rfl (fun t ht hWm => hW.qi ht hWm) hW.2.2.1.2.2 dL_isSound_205) (fun a e => some_x (hz1 a e))
    · have hE := if_f c_10 hE
      refine lv_iconst (v := 0) hx hb dL_isSound_39 (by decide) ?_
      obtain ⟨rfl, rfl⟩ := pair_x hE
      exact W.zret hx hb hr rfl (fun t ht hWm => hW.qi ht hWm) hW.2.2.1.2.2 dL_isSound_40
abbrev rmL_first : Room := { frames := 18, cells := 0, slots := 0, locals := 406 }
set_option maxHeartbeats 4000000 in
set_option maxRecDepth 100000 in
theorem ctL_first (l : Launch) (D : va_G) (ks : KA) (ad : Nat → Nat) (sz : Nat) (st : St) (x1 : Int32) (x2 : Int32) (x3 : Int32)  {r : Int32} {st' : St} (hE : sL_first st x1 x2 x3 = some (r, st')) : CI l D ks yL_first wsL_first rmL_first [.ref (ad 0), .int x1, .int x2, .int x3] ad sz st r st' := by
  unfold sL_first at hE
  refine Met.ofW (cc := cL_first) (maxL := 4) (ret := (some .int)) (by decide) rfl ?_
  intro p e s m args below meth c s₁ B hml hv
  obtain ⟨hargs, hPW⟩ := hv
  have hW := WW.entry hPW
  have hx := B.exec
  have hb := B.bytes
  have hr := B.returns
  have hts := atoms_spec (ws := wsL_first) B.pre
  have hown : s.vm.findClass RL = some m.cls := findClass_of_methodNamed B.named
  have hlocks := B.notSynchronized
  have hl := lv_entry ([.ref (ad 0), .int x1, .int x2, .int x3]) (n := 4) (Nat.le_of_ble_eq_true rfl)
  have hfr : entryFrame m args 4 = F0 m 0 (lg_sl ([.ref (ad 0), .int x1, .int x2, .int x3]) ++ List.replicate (4 - (lg_sl ([.ref (ad 0), .int x1, .int x2, .int x3])).length) Slot.unset).toArray [] := by rw [hargs, lg_entry_eq]
  rw [hfr]
  generalize (lg_sl ([.ref (ad 0), .int x1, .int x2, .int x3]) ++ List.replicate (4 - (lg_sl ([.ref (ad 0), .int x1, .int x2, .int x3])).length) Slot.unset).toArray = ls at hl ⊢
  have hl : lv_has ls 4 [(0, .ref (ad 0)), (1, .int x1), (2, .int x2), (3, .int x3)] := hl
  refine lv_aload_n hx hb dL_first_0 rfl (lv_at hl 0 rfl) ?_
  refine lv_iconst (v := 3) hx hb dL_first_1 (by decide) ?_
  refine lv_iconst (v := 0) hx hb dL_first_2 (by decide) ?_
  refine lv_iconst (v := 1) hx hb dL_first_3 (by decide) ?_
  refine lv_iload_n hx hb dL_first_4 rfl (lv_at hl 1 rfl) ?_
  obtain ⟨r_3, st_1, hc_2, hE⟩ := ob2_some hE
  refine ww_callVi (As := [.int (3 : Int32), .int (0 : Int32), .int (1 : Int32), .int x1]) (rest := []) ⟨hx, hb, hml, hown, hts⟩ hW (ctX3_apply l D ks ad _ st (3 : Int32) (0 : Int32) (1 : Int32) x1 hc_2) (cwV 4 hts gL_first_X3_apply rfl rfl rfl (by decide +kernel) ⟨Nat.le_of_ble_eq_true rfl, Nat.le_of_ble_eq_true rfl⟩) hW.recvX rfl hl.1 rfl (Nat.le_of_ble_eq_true rfl) dL_first_5 ⟨Nat.zero_le _, Nat.zero_le _⟩ (fun H locs hW => ?_)
  refine lv_if_lt (tgt := 47) hx hb dL_first_8 (by decide) (fun c_4 => ?_) (fun c_4 => ?_)
  · have hE := if_t c_4 hE
    refine lv_iconst (v := 2) hx hb dL_first_47 (by decide) ?_
    obtain ⟨rfl, rfl⟩ := pair_x hE
    exact W.iret hx hb hr (fun t ht hWm => hW.qi ht hWm) hW.2.2.1.2.2 dL_first_48
  · have hE := if_f c_4 hE
    refine lv_aload_n hx hb dL_first_11 rfl (lv_at hl 0 rfl) ?_
    refine lv_iconst (v := 4) hx hb dL_first_12 (by decide) ?_
    refine lv_iconst (v := 0) hx hb dL_first_13 (by decide) ?_
    refine lv_iconst (v := 1) hx hb dL_first_14 (by decide) ?_
    refine lv_bipush (v := 15) hx hb dL_first_15 (by decide) ?_
    refine lv_iload_n hx hb dL_first_17 rfl (lv_at hl 1 rfl) ?_
    refine lv_isub hx hb dL_first_18 ?_
    obtain ⟨r_7, st_5, hc_6, hE⟩ := ob2_some hE
    refine ww_callVi (As := [.int (4 : Int32), .int (0 : Int32), .int (1 : Int32), .int ((15 : Int32) - x1)]) (rest := []) ⟨hx, hb, hml, hown, hts⟩ hW (ctX3_apply l D ks ad _ st_1 (4 : Int32) (0 : Int32) (1 : Int32) ((15 : Int32) - x1) hc_6) (cwV 4 hts gL_first_X3_apply rfl rfl rfl (by decide +kernel) ⟨Nat.le_of_ble_eq_true rfl, Nat.le_of_ble_eq_true rfl⟩) hW.recvX rfl hl.1 rfl (Nat.le_of_ble_eq_true rfl) dL_first_19 ⟨Nat.zero_le _, Nat.zero_le _⟩ (fun H locs hW => ?_)
    refine lv_if_lt (tgt := 47) hx hb dL_first_22 (by decide) (fun c_8 => ?_) (fun c_8 => ?_)
    · have hE := if_t c_8 hE
      refine lv_iconst (v := 2) hx hb dL_first_47 (by decide) ?_
      obtain ⟨rfl, rfl⟩ := pair_x hE
      exact W.iret hx hb hr (fun t ht hWm => hW.qi ht hWm) hW.2.2.1.2.2 dL_first_48
    · have hE := if_f c_8 hE
      refine lv_aload_n hx hb dL_first_25 rfl (lv_at hl 0 rfl) ?_
      refine lv_iconst (v := 5) hx hb dL_first_26 (by decide) ?_
      refine lv_iconst (v := 0) hx hb dL_first_27 (by decide) ?_
      refine lv_iload_n hx hb dL_first_28 rfl (lv_at hl 2 rfl) ?_
      refine lv_iload_n hx hb dL_first_29 rfl (lv_at hl 3 rfl) ?_
      obtain ⟨r_11, st_9, hc_10, hE⟩ := ob2_some hE
      refine ww_callVi (As := [.int (5 : Int32), .int (0 : Int32), .int x2, .int x3]) (rest := []) ⟨hx, hb, hml, hown, hts⟩ hW (ctX3_exchange l D ks ad _ st_5 (5 : Int32) (0 : Int32) x2 x3 hc_10) (cwV 4 hts gL_first_X3_exchange rfl rfl rfl (by decide +kernel) ⟨Nat.le_of_ble_eq_true rfl, Nat.le_of_ble_eq_true rfl⟩) hW.recvX rfl hl.1 rfl (Nat.le_of_ble_eq_true rfl) dL_first_30 ⟨Nat.zero_le _, Nat.zero_le _⟩ (fun H locs hW => ?_)
      refine lv_if_lt (tgt := 47) hx hb dL_first_33 (by decide) (fun c_12 => ?_) (fun c_12 => ?_)
      · have hE := if_t c_12 hE
        refine lv_iconst (v := 2) hx hb dL_first_47 (by decide) ?_
        obtain ⟨rfl, rfl⟩ := pair_x hE
        exact W.iret hx hb hr (fun t ht hWm => hW.qi ht hWm) hW.2.2.1.2.2 dL_first_48
      · have hE := if_f c_12 hE
        refine lv_aload_n hx hb dL_first_36 rfl (lv_at hl 0 rfl) ?_
        refine lv_iconst (v := 5) hx hb dL_first_37 (by decide) ?_
        refine lv_iconst (v := 5) hx hb dL_first_38 (by decide) ?_
        refine lv_iload_n hx hb dL_first_39 rfl (lv_at hl 3 rfl) ?_
        refine lv_iload_n hx hb dL_first_40 rfl (lv_at hl 2 rfl) ?_
        obtain ⟨r_15, st_13, hc_14, hE⟩ := ob2_some hE
        refine ww_callVi (As := [.int (5 : Int32), .int (5 : Int32), .int x3, .int x2]) (rest := []) ⟨hx, hb, hml, hown, hts⟩ hW (ctX3_exchange l D ks ad _ st_9 (5 : Int32) (5 : Int32) x3 x2 hc_14) (cwV 4 hts gL_first_X3_exchange rfl rfl rfl (by decide +kernel) ⟨Nat.le_of_ble_eq_true rfl, Nat.le_of_ble_eq_true rfl⟩) hW.recvX rfl hl.1 rfl (Nat.le_of_ble_eq_true rfl) dL_first_41 ⟨Nat.zero_le _, Nat.zero_le _⟩ (fun H locs hW => ?_)
        refine lv_if_ge (tgt := 49) hx hb dL_first_44 (by decide) (fun c_16 => ?_) (fun c_16 => ?_)
        · have hE := if_t c_16 hE
          refine lv_aload_n hx hb dL_first_49 rfl (lv_at hl 0 rfl) ?_
          refine lv_iconst (v := 3) hx hb dL_first_50 (by decide) ?_
          obtain ⟨r_18, hc_17, hE⟩ := ob_some hE
          refine ww_callVi (As := [.int (3 : Int32)]) (rest := []) ⟨hx, hb, hml, hown, hts⟩ hW (ctX3_models l D ks ad _ st_13 (3 : Int32) hc_17) (cwV 1 hts gL_first_X3_models rfl rfl rfl (by decide +kernel) ⟨Nat.le_of_ble_eq_true rfl, Nat.le_of_ble_eq_true rfl⟩) hW.recvX rfl hl.1 rfl (Nat.le_of_ble_eq_true rfl) dL_first_51 ⟨Nat.zero_le _, Nat.zero_le _⟩ (fun H locs hW => ?_)
          refine lv_aload_n hx hb dL_first_54 rfl (lv_at hl 0 rfl) ?_
          refine lv_iconst (v := 4) hx hb dL_first_55 (by decide) ?_
          obtain ⟨r_20, hc_19, hE⟩ := ob_some hE
          refine ww_callVi (As := [.int (4 : Int32)]) (rest := [.int r_18]) ⟨hx, hb, hml, hown, hts⟩ hW (ctX3_models l D ks ad _ st_13 (4 : Int32) hc_19) (cwV 1 hts gL_first_X3_models rfl rfl rfl (by decide +kernel) ⟨Nat.le_of_ble_eq_true rfl, Nat.le_of_ble_eq_true rfl⟩) hW.recvX rfl hl.1 rfl (Nat.le_of_ble_eq_true rfl) dL_first_56 ⟨Nat.zero_le _, Nat.zero_le _⟩ (fun H locs hW => ?_)
          refine lv_iadd hx hb dL_first_59 ?_
          refine lv_sipush (v := 1024) hx hb dL_first_60 (by decide) ?_
          refine lv_icmp_ne (tgt := 89) hx hb dL_first_63 (by decide) (fun c_21 => ?_) (fun c_21 => ?_)
          · have hE := if_t c_21 hE
            refine lv_iconst (v := 0) hx hb dL_first_89 (by decide) ?_
            obtain ⟨rfl, rfl⟩ := pair_x hE
            exact W.iret hx hb hr (fun t ht hWm => hW.qi ht hWm) hW.2.2.1.2.2 dL_first_90
          · have hE := if_f (fun q => q c_21) hE
            refine lv_aload_n hx hb dL_first_66 rfl (lv_at hl 0 rfl) ?_
            refine lv_iconst (v := 3) hx hb dL_first_67 (by decide) ?_
            refine lv_iconst (v := 4) hx hb dL_first_68 (by decide) ?_
            obtain ⟨r_23, hc_22, hE⟩ := ob_some hE
            refine ww_callVi (As := [.int (3 : Int32), .int (4 : Int32)]) (rest := []) ⟨hx, hb, hml, hown, hts⟩ hW (ctX3_compare l D ks ad _ st_13 (3 : Int32) (4 : Int32) hc_22) (cwV 2 hts gL_first_X3_compare rfl rfl rfl (by decide +kernel) ⟨Nat.le_of_ble_eq_true rfl, Nat.le_of_ble_eq_true rfl⟩) hW.recvX rfl hl.1 rfl (Nat.le_of_ble_eq_true rfl) dL_first_69 ⟨Nat.zero_le _, Nat.zero_le _⟩ (fun H locs hW => ?_)
            refine lv_iconst (v := 4) hx hb dL_first_72 (by decide) ?_
            refine lv_icmp_ge (tgt := 89) hx hb dL_first_73 (by decide) (fun c_24 => ?_) (fun c_24 => ?_)
            · have hE := if_t c_24 hE
              refine lv_iconst (v := 0) hx hb dL_first_89 (by decide) ?_
              obtain ⟨rfl, rfl⟩ := pair_x hE
              exact W.iret hx hb hr (fun t ht hWm => hW.qi ht hWm) hW.2.2.1.2.2 dL_first_90
            · have hE := if_f c_24 hE
              refine lv_aload_n hx hb dL_first_76 rfl (lv_at hl 0 rfl) ?_
              refine lv_iconst (v := 5) hx hb dL_first_77 (by decide) ?_
              refine lv_iconst (v := 0) hx hb dL_first_78 (by decide) ?_
              obtain ⟨r_26, hc_25, hE⟩ := ob_some hE
              refine ww_callVi (As := [.int (5 : Int32), .int (0 : Int32)]) (rest := []) ⟨hx, hb, hml, hown, hts⟩ hW (ctX3_compare l D ks ad _ st_13 (5 : Int32) (0 : Int32) hc_25) (cwV 2 hts gL_first_X3_compare rfl rfl rfl (by decide +kernel) ⟨Nat.le_of_ble_eq_true rfl, Nat.le_of_ble_eq_true rfl⟩) hW.recvX rfl hl.1 rfl (Nat.le_of_ble_eq_true rfl) dL_first_79 ⟨Nat.zero_le _, Nat.zero_le _⟩ (fun H locs hW => ?_)
              refine lv_if_ne (tgt := 89) hx hb dL_first_82 (by decide) (fun c_27 => ?_) (fun c_27 => ?_)
              · have hE := if_t c_27 hE
                refine lv_iconst (v := 0) hx hb dL_first_89 (by decide) ?_
                obtain ⟨rfl, rfl⟩ := pair_x hE
                exact W.iret hx hb hr (fun t ht hWm => hW.qi ht hWm) hW.2.2.1.2.2 dL_first_90
              · have hE := if_f (fun q => q c_27) hE
                refine lv_iconst (v := 1) hx hb dL_first_85 (by decide) ?_
                refine lv_goto (tgt := 90) hx hb dL_first_86 (by decide) ?_
                obtain ⟨rfl, rfl⟩ := pair_x hE
                exact W.iret hx hb hr (fun t ht hWm => hW.qi ht hWm) hW.2.2.1.2.2 dL_first_90
        · have hE := if_f c_16 hE
          refine lv_iconst (v := 2) hx hb dL_first_47 (by decide) ?_
          obtain ⟨rfl, rfl⟩ := pair_x hE
          exact W.iret hx hb hr (fun t ht hWm => hW.qi ht hWm) hW.2.2.1.2.2 dL_first_48
abbrev rmL_second : Room := { frames := 18, cells := 0, slots := 0, locals := 407 }
set_option maxHeartbeats 4000000 in
set_option maxRecDepth 100000 in
theorem ctL_second (l : Launch) (D : va_G) (ks : KA) (ad : Nat → Nat) (sz : Nat) (st : St) (x1 : Int32)  {r : Int32} {st' : St} (hE : sL_second st x1 = some (r, st')) : CI l D ks yL_second wsL_second rmL_second [.ref (ad 0), .int x1] ad sz st r st' := by
  unfold sL_second at hE
  refine Met.ofW (cc := cL_second) (maxL := 3) (ret := (some .int)) (by decide) rfl ?_
  intro p e s m args below meth c s₁ B hml hv
  obtain ⟨hargs, hPW⟩ := hv
  have hW := WW.entry hPW
  have hx := B.exec
  have hb := B.bytes
  have hr := B.returns
  have hts := atoms_spec (ws := wsL_second) B.pre
  have hown : s.vm.findClass RL = some m.cls := findClass_of_methodNamed B.named
  have hlocks := B.notSynchronized
  have hl := lv_entry ([.ref (ad 0), .int x1]) (n := 3) (Nat.le_of_ble_eq_true rfl)
  have hfr : entryFrame m args 3 = F0 m 0 (lg_sl ([.ref (ad 0), .int x1]) ++ List.replicate (3 - (lg_sl ([.ref (ad 0), .int x1])).length) Slot.unset).toArray [] := by rw [hargs, lg_entry_eq]
  rw [hfr]
  generalize (lg_sl ([.ref (ad 0), .int x1]) ++ List.replicate (3 - (lg_sl ([.ref (ad 0), .int x1])).length) Slot.unset).toArray = ls at hl ⊢
  have hl : lv_has ls 3 [(0, .ref (ad 0)), (1, .int x1)] := hl
  refine lv_aload_n hx hb dL_second_0 rfl (lv_at hl 0 rfl) ?_
  refine lv_bipush (v := 6) hx hb dL_second_1 (by decide) ?_
  refine lv_iconst (v := 0) hx hb dL_second_3 (by decide) ?_
  refine lv_iload_n hx hb dL_second_4 rfl (lv_at hl 1 rfl) ?_
  refine lv_iconst (v := 0) hx hb dL_second_5 (by decide) ?_
  obtain ⟨r_3, st_1, hc_2, hE⟩ := ob2_some hE
  refine ww_callVi (As := [.int (6 : Int32), .int (0 : Int32), .int x1, .int (0 : Int32)]) (rest := []) ⟨hx, hb, hml, hown, hts⟩ hW (ctX3_put l D ks ad _ st (6 : Int32) (0 : Int32) x1 (0 : Int32) hc_2) (cwV 4 hts gL_second_X3_put rfl rfl rfl (by decide +kernel) ⟨Nat.le_of_ble_eq_true rfl, Nat.le_of_ble_eq_true rfl⟩) hW.recvX rfl hl.1 rfl (Nat.le_of_ble_eq_true rfl) dL_second_6 ⟨Nat.zero_le _, Nat.zero_le _⟩ (fun H locs hW => ?_)
  refine lv_if_lt (tgt := 49) hx hb dL_second_9 (by decide) (fun c_4 => ?_) (fun c_4 => ?_)
  · have hE := if_t c_4 hE
    refine lv_iconst (v := 2) hx hb dL_second_49 (by decide) ?_
    obtain ⟨rfl, rfl⟩ := pair_x hE
    exact W.iret hx hb hr (fun t ht hWm => hW.qi ht hWm) hW.2.2.1.2.2 dL_second_50
  · have hE := if_f c_4 hE
    refine lv_aload_n hx hb dL_second_12 rfl (lv_at hl 0 rfl) ?_
    refine lv_bipush (v := 7) hx hb dL_second_13 (by decide) ?_
    refine lv_iconst (v := 0) hx hb dL_second_15 (by decide) ?_
    refine lv_iload_n hx hb dL_second_16 rfl (lv_at hl 1 rfl) ?_
    refine lv_iconst (v := 1) hx hb dL_second_17 (by decide) ?_
    obtain ⟨r_7, st_5, hc_6, hE⟩ := ob2_some hE
    refine ww_callVi (As := [.int (7 : Int32), .int (0 : Int32), .int x1, .int (1 : Int32)]) (rest := []) ⟨hx, hb, hml, hown, hts⟩ hW (ctX3_put l D ks ad _ st_1 (7 : Int32) (0 : Int32) x1 (1 : Int32) hc_6) (cwV 4 hts gL_second_X3_put rfl rfl rfl (by decide +kernel) ⟨Nat.le_of_ble_eq_true rfl, Nat.le_of_ble_eq_true rfl⟩) hW.recvX rfl hl.1 rfl (Nat.le_of_ble_eq_true rfl) dL_second_18 ⟨Nat.zero_le _, Nat.zero_le _⟩ (fun H locs hW => ?_)
    refine lv_if_lt (tgt := 49) hx hb dL_second_21 (by decide) (fun c_8 => ?_) (fun c_8 => ?_)
    · have hE := if_t c_8 hE
      refine lv_iconst (v := 2) hx hb dL_second_49 (by decide) ?_
      obtain ⟨rfl, rfl⟩ := pair_x hE
      exact W.iret hx hb hr (fun t ht hWm => hW.qi ht hWm) hW.2.2.1.2.2 dL_second_50
    · have hE := if_f c_8 hE
      refine lv_aload_n hx hb dL_second_24 rfl (lv_at hl 0 rfl) ?_
      refine lv_bipush (v := 8) hx hb dL_second_25 (by decide) ?_
      refine lv_iload_n hx hb dL_second_27 rfl (lv_at hl 1 rfl) ?_
      obtain ⟨r_11, st_9, hc_10, hE⟩ := ob2_some hE
      refine ww_callVi (As := [.int (8 : Int32), .int x1]) (rest := []) ⟨hx, hb, hml, hown, hts⟩ hW (ctX3_variable l D ks ad _ st_5 (8 : Int32) x1 hc_10) (cwV 2 hts gL_second_X3_variable rfl rfl rfl (by decide +kernel) ⟨Nat.le_of_ble_eq_true rfl, Nat.le_of_ble_eq_true rfl⟩) hW.recvX rfl hl.1 rfl (Nat.le_of_ble_eq_true rfl) dL_second_28 ⟨Nat.zero_le _, Nat.zero_le _⟩ (fun H locs hW => ?_)
      refine lv_if_lt (tgt := 49) hx hb dL_second_31 (by decide) (fun c_12 => ?_) (fun c_12 => ?_)
      · have hE := if_t c_12 hE
        refine lv_iconst (v := 2) hx hb dL_second_49 (by decide) ?_
        obtain ⟨rfl, rfl⟩ := pair_x hE
        exact W.iret hx hb hr (fun t ht hWm => hW.qi ht hWm) hW.2.2.1.2.2 dL_second_50
      · have hE := if_f c_12 hE
        refine lv_aload_n hx hb dL_second_34 rfl (lv_at hl 0 rfl) ?_
        refine lv_bipush (v := 9) hx hb dL_second_35 (by decide) ?_
        refine lv_bipush (v := 8) hx hb dL_second_37 (by decide) ?_
        refine lv_bipush (v := 7) hx hb dL_second_39 (by decide) ?_
        refine lv_bipush (v := 6) hx hb dL_second_41 (by decide) ?_
        obtain ⟨r_15, st_13, hc_14, hE⟩ := ob2_some hE
        refine ww_callVi (As := [.int (9 : Int32), .int (8 : Int32), .int (7 : Int32), .int (6 : Int32)]) (rest := []) ⟨hx, hb, hml, hown, hts⟩ hW (ctX3_choose l D ks ad _ st_9 (9 : Int32) (8 : Int32) (7 : Int32) (6 : Int32) hc_14) (cwV 4 hts gL_second_X3_choose rfl rfl rfl (by decide +kernel) ⟨Nat.le_of_ble_eq_true rfl, Nat.le_of_ble_eq_true rfl⟩) hW.recvX rfl hl.1 rfl (Nat.le_of_ble_eq_true rfl) dL_second_43 ⟨Nat.zero_le _, Nat.zero_le _⟩ (fun H locs hW => ?_)
        refine lv_if_ge (tgt := 51) hx hb dL_second_46 (by decide) (fun c_16 => ?_) (fun c_16 => ?_)
        · have hE := if_t c_16 hE
          refine lv_aload_n hx hb dL_second_51 rfl (lv_at hl 0 rfl) ?_
          refine lv_bipush (v := 9) hx hb dL_second_52 (by decide) ?_
          refine lv_iconst (v := 0) hx hb dL_second_54 (by decide) ?_
          obtain ⟨r_18, hc_17, hE⟩ := ob_some hE
          refine ww_callVi (As := [.int (9 : Int32), .int (0 : Int32)]) (rest := []) ⟨hx, hb, hml, hown, hts⟩ hW (ctX3_compare l D ks ad _ st_13 (9 : Int32) (0 : Int32) hc_17) (cwV 2 hts gL_second_X3_compare rfl rfl rfl (by decide +kernel) ⟨Nat.le_of_ble_eq_true rfl, Nat.le_of_ble_eq_true rfl⟩) hW.recvX rfl hl.1 rfl (Nat.le_of_ble_eq_true rfl) dL_second_55 ⟨Nat.zero_le _, Nat.zero_le _⟩ (fun H locs hW => ?_)
          refine lv_if_ne (tgt := 75) hx hb dL_second_58 (by decide) (fun c_19 => ?_) (fun c_19 => ?_)
          · have hE := if_t c_19 hE
            refine lv_iconst (v := 0) hx hb dL_second_75 (by decide) ?_
            refine lv_istore_n (lv' := [(2, .int (0 : Int32)), (0, .ref (ad 0)), (1, .int x1)]) hx hb dL_second_76 rfl hl (by decide) rfl (fun ls hl => ?_)
            refine lv_aload_n hx hb dL_second_77 rfl (lv_at hl 1 rfl) ?_
            refine lv_bipush (v := 9) hx hb dL_second_78 (by decide) ?_
            refine lv_iconst (v := 0) hx hb dL_second_80 (by decide) ?_
            refine lv_iload_n hx hb dL_second_81 rfl (lv_at hl 2 rfl) ?_
            refine lv_bipush (v := 8) hx hb dL_second_82 (by decide) ?_
            obtain ⟨r_22, st_20, hc_21, hE⟩ := ob2_some hE
            refine ww_callVi (As := [.int (9 : Int32), .int (0 : Int32), .int x1, .int (8 : Int32)]) (rest := []) ⟨hx, hb, hml, hown, hts⟩ hW (ctX3_compose l D ks ad _ st_13 (9 : Int32) (0 : Int32) x1 (8 : Int32) hc_21) (cwV 4 hts gL_second_X3_compose rfl rfl rfl (by decide +kernel) ⟨Nat.le_of_ble_eq_true rfl, Nat.le_of_ble_eq_true rfl⟩) hW.recvX rfl hl.1 rfl (Nat.le_of_ble_eq_true rfl) dL_second_84 ⟨Nat.zero_le _, Nat.zero_le _⟩ (fun H locs hW => ?_)
            refine lv_if_ge (tgt := 92) hx hb dL_second_87 (by decide) (fun c_23 => ?_) (fun c_23 => ?_)
            · have hE := if_t c_23 hE
              refine lv_iload_n hx hb dL_second_92 rfl (lv_at hl 0 rfl) ?_
              refine lv_aload_n hx hb dL_second_93 rfl (lv_at hl 1 rfl) ?_
              refine lv_bipush (v := 9) hx hb dL_second_94 (by decide) ?_
              refine lv_iconst (v := 0) hx hb dL_second_96 (by decide) ?_
              obtain ⟨r_25, hc_24, hE⟩ := ob_some hE
              refine ww_callVi (As := [.int (9 : Int32), .int (0 : Int32)]) (rest := [.int (0 : Int32)]) ⟨hx, hb, hml, hown, hts⟩ hW (ctX3_compare l D ks ad _ st_20 (9 : Int32) (0 : Int32) hc_24) (cwV 2 hts gL_second_X3_compare rfl rfl rfl (by decide +kernel) ⟨Nat.le_of_ble_eq_true rfl, Nat.le_of_ble_eq_true rfl⟩) hW.recvX rfl hl.1 rfl (Nat.le_of_ble_eq_true rfl) dL_second_97 ⟨Nat.zero_le _, Nat.zero_le _⟩ (fun H locs hW => ?_)
              refine lv_if_ne (tgt := 140) hx hb dL_second_100 (by decide) (fun c_26 => ?_) (fun c_26 => ?_)
              · have hE := if_t c_26 hE
                refine lv_iconst (v := 0) hx hb dL_second_140 (by decide) ?_
                refine lv_iand hx hb dL_second_141 ?_
                refine lv_nmi (y := (0 : Int32)) (by decide) ?_
                refine lv_istore_n (lv' := [(2, .int (0 : Int32)), (0, .ref (ad 0)), (1, .int x1)]) hx hb dL_second_142 rfl hl (by decide) rfl (fun ls hl => ?_)
                refine lv_iload_n hx hb dL_second_143 rfl (lv_at hl 0 rfl) ?_
                refine lv_if_eq (tgt := 186) hx hb dL_second_144 (by decide) (fun c_27 => ?_) (fun c_27 => ?_)
                · refine lv_iconst (v := 0) hx hb dL_second_186 (by decide) ?_
                  obtain ⟨rfl, rfl⟩ := pair_x hE
                  exact W.iret hx hb hr (fun t ht hWm => hW.qi ht hWm) hW.2.2.1.2.2 dL_second_187
                · exact absurd (by decide) c_27
              · have hE := if_f (fun q => q c_26) hE
                refine lv_aload_n hx hb dL_second_103 rfl (lv_at hl 1 rfl) ?_
                refine lv_iconst (v := 0) hx hb dL_second_104 (by decide) ?_
                refine lv_iload_n hx hb dL_second_105 rfl (lv_at hl 2 rfl) ?_
                obtain ⟨r_29, hc_28, hE⟩ := ob_some hE
                refine ww_callVi (As := [.int (0 : Int32), .int x1]) (rest := [.int (0 : Int32)]) ⟨hx, hb, hml, hown, hts⟩ hW (ctX3_influence l D ks ad _ st_20 (0 : Int32) x1 hc_28) (cwV 2 hts gL_second_X3_influence rfl rfl rfl (by decide +kernel) ⟨Nat.le_of_ble_eq_true rfl, Nat.le_of_ble_eq_true rfl⟩) hW.recvX rfl hl.1 rfl (Nat.le_of_ble_eq_true rfl) dL_second_106 ⟨Nat.zero_le _, Nat.zero_le _⟩ (fun H locs hW => ?_)
                refine lv_if_eq (tgt := 116) hx hb dL_second_109 (by decide) (fun c_30 => ?_) (fun c_30 => ?_)
                · have hE := if_t c_30 hE
                  refine lv_iconst (v := 0) hx hb dL_second_116 (by decide) ?_
                  refine lv_aload_n hx hb dL_second_117 rfl (lv_at hl 1 rfl) ?_
                  refine lv_bipush (v := 6) hx hb dL_second_118 (by decide) ?_
                  refine lv_bipush (v := 7) hx hb dL_second_120 (by decide) ?_
                  obtain ⟨r_32, hc_31, hE⟩ := ob_some hE
                  refine ww_callVi (As := [.int (6 : Int32), .int (7 : Int32)]) (rest := [.int (0 : Int32), .int (0 : Int32)]) ⟨hx, hb, hml, hown, hts⟩ hW (ctX3_compare l D ks ad _ st_20 (6 : Int32) (7 : Int32) hc_31) (cwV 2 hts gL_second_X3_compare rfl rfl rfl (by decide +kernel) ⟨Nat.le_of_ble_eq_true rfl, Nat.le_of_ble_eq_true rfl⟩) hW.recvX rfl hl.1 rfl (Nat.le_of_ble_eq_true rfl) dL_second_122 ⟨Nat.zero_le _, Nat.zero_le _⟩ (fun H locs hW => ?_)
                  refine lv_if_eq (tgt := 132) hx hb dL_second_125 (by decide) (fun c_33 => ?_) (fun c_33 => ?_)
                  · have hE := if_t c_33 hE
                    refine lv_iconst (v := 0) hx hb dL_second_132 (by decide) ?_
                    refine lv_icmp_ne (tgt := 140) hx hb dL_second_133 (by decide) (fun c_34 => ?_) (fun c_34 => ?_)
                    · exact absurd (by decide) c_34
                    · refine lv_iconst (v := 1) hx hb dL_second_136 (by decide) ?_
                      refine lv_goto (tgt := 141) hx hb dL_second_137 (by decide) ?_
                      refine lv_iand hx hb dL_second_141 ?_
                      refine lv_nmi (y := (0 : Int32)) (by decide) ?_
                      refine lv_istore_n (lv' := [(2, .int (0 : Int32)), (0, .ref (ad 0)), (1, .int x1)]) hx hb dL_second_142 rfl hl (by decide) rfl (fun ls hl => ?_)
                      refine lv_iload_n hx hb dL_second_143 rfl (lv_at hl 0 rfl) ?_
                      refine lv_if_eq (tgt := 186) hx hb dL_second_144 (by decide) (fun c_35 => ?_) (fun c_35 => ?_)
                      · refine lv_iconst (v := 0) hx hb dL_second_186 (by decide) ?_
                        obtain ⟨rfl, rfl⟩ := pair_x hE
                        exact W.iret hx hb hr (fun t ht hWm => hW.qi ht hWm) hW.2.2.1.2.2 dL_second_187
                      · exact absurd (by decide) c_35
                  · have hE := if_f c_33 hE
                    refine lv_iconst (v := 1) hx hb dL_second_128 (by decide) ?_
                    refine lv_goto (tgt := 133) hx hb dL_second_129 (by decide) ?_
                    refine lv_icmp_ne (tgt := 140) hx hb dL_second_133 (by decide) (fun c_36 => ?_) (fun c_36 => ?_)
                    · refine lv_iconst (v := 0) hx hb dL_second_140 (by decide) ?_
                      refine lv_iand hx hb dL_second_141 ?_
                      refine lv_nmi (y := (0 : Int32)) (by decide) ?_
                      refine lv_istore_n (lv' := [(2, .int (0 : Int32)), (0, .ref (ad 0)), (1, .int x1)]) hx hb dL_second_142 rfl hl (by decide) rfl (fun ls hl => ?_)
                      refine lv_iload_n hx hb dL_second_143 rfl (lv_at hl 0 rfl) ?_
                      refine lv_if_eq (tgt := 186) hx hb dL_second_144 (by decide) (fun c_37 => ?_) (fun c_37 => ?_)
                      · refine lv_iconst (v := 0) hx hb dL_second_186 (by decide) ?_
                        obtain ⟨rfl, rfl⟩ := pair_x hE
                        exact W.iret hx hb hr (fun t ht hWm => hW.qi ht hWm) hW.2.2.1.2.2 dL_second_187
                      · exact absurd (by decide) c_37
                    · exact absurd c_36 (by decide)
                · have hE := if_f c_30 hE
                  refine lv_iconst (v := 1) hx hb dL_second_112 (by decide) ?_
                  refine lv_goto (tgt := 117) hx hb dL_second_113 (by decide) ?_
                  refine lv_aload_n hx hb dL_second_117 rfl (lv_at hl 1 rfl) ?_
                  refine lv_bipush (v := 6) hx hb dL_second_118 (by decide) ?_
                  refine lv_bipush (v := 7) hx hb dL_second_120 (by decide) ?_
                  obtain ⟨r_39, hc_38, hE⟩ := ob_some hE
                  refine ww_callVi (As := [.int (6 : Int32), .int (7 : Int32)]) (rest := [.int (1 : Int32), .int (0 : Int32)]) ⟨hx, hb, hml, hown, hts⟩ hW (ctX3_compare l D ks ad _ st_20 (6 : Int32) (7 : Int32) hc_38) (cwV 2 hts gL_second_X3_compare rfl rfl rfl (by decide +kernel) ⟨Nat.le_of_ble_eq_true rfl, Nat.le_of_ble_eq_true rfl⟩) hW.recvX rfl hl.1 rfl (Nat.le_of_ble_eq_true rfl) dL_second_122 ⟨Nat.zero_le _, Nat.zero_le _⟩ (fun H locs hW => ?_)
                  refine lv_if_eq (tgt := 132) hx hb dL_second_125 (by decide) (fun c_40 => ?_) (fun c_40 => ?_)
                  · have hE := if_t c_40 hE
                    refine lv_iconst (v := 0) hx hb dL_second_132 (by decide) ?_
                    refine lv_icmp_ne (tgt := 140) hx hb dL_second_133 (by decide) (fun c_41 => ?_) (fun c_41 => ?_)
                    · refine lv_iconst (v := 0) hx hb dL_second_140 (by decide) ?_
                      refine lv_iand hx hb dL_second_141 ?_
                      refine lv_nmi (y := (0 : Int32)) (by decide) ?_
                      refine lv_istore_n (lv' := [(2, .int (0 : Int32)), (0, .ref (ad 0)), (1, .int x1)]) hx hb dL_second_142 rfl hl (by decide) rfl (fun ls hl => ?_)
                      refine lv_iload_n hx hb dL_second_143 rfl (lv_at hl 0 rfl) ?_
                      refine lv_if_eq (tgt := 186) hx hb dL_second_144 (by decide) (fun c_42 => ?_) (fun c_42 => ?_)
                      · refine lv_iconst (v := 0) hx hb dL_second_186 (by decide) ?_
                        obtain ⟨rfl, rfl⟩ := pair_x hE
                        exact W.iret hx hb hr (fun t ht hWm => hW.qi ht hWm) hW.2.2.1.2.2 dL_second_187
                      · exact absurd (by decide) c_42
                    · exact absurd c_41 (by decide)
                  · have hE := if_f c_40 hE
                    refine lv_iconst (v := 1) hx hb dL_second_128 (by decide) ?_
                    refine lv_goto (tgt := 133) hx hb dL_second_129 (by decide) ?_
                    refine lv_icmp_ne (tgt := 140) hx hb dL_second_133 (by decide) (fun c_43 => ?_) (fun c_43 => ?_)
                    · exact absurd (by decide) c_43
                    · refine lv_iconst (v := 1) hx hb dL_second_136 (by decide) ?_
                      refine lv_goto (tgt := 141) hx hb dL_second_137 (by decide) ?_
                      refine lv_iand hx hb dL_second_141 ?_
                      refine lv_nmi (y := (0 : Int32)) (by decide) ?_
                      refine lv_istore_n (lv' := [(2, .int (0 : Int32)), (0, .ref (ad 0)), (1, .int x1)]) hx hb dL_second_142 rfl hl (by decide) rfl (fun ls hl => ?_)
                      refine lv_iload_n hx hb dL_second_143 rfl (lv_at hl 0 rfl) ?_
                      refine lv_if_eq (tgt := 186) hx hb dL_second_144 (by decide) (fun c_44 => ?_) (fun c_44 => ?_)
                      · refine lv_iconst (v := 0) hx hb dL_second_186 (by decide) ?_
                        obtain ⟨rfl, rfl⟩ := pair_x hE
                        exact W.iret hx hb hr (fun t ht hWm => hW.qi ht hWm) hW.2.2.1.2.2 dL_second_187
                      · exact absurd (by decide) c_44
            · have hE := if_f c_23 hE
              refine lv_iconst (v := 2) hx hb dL_second_90 (by decide) ?_
              obtain ⟨rfl, rfl⟩ := pair_x hE
              exact W.iret hx hb hr (fun t ht hWm => hW.qi ht hWm) hW.2.2.1.2.2 dL_second_91
          · have hE := if_f (fun q => q c_19) hE
            refine lv_aload_n hx hb dL_second_61 rfl (lv_at hl 0 rfl) ?_
            refine lv_bipush (v := 8) hx hb dL_second_62 (by decide) ?_
            obtain ⟨r_47, st_45, hc_46, hE⟩ := ob2_some hE
            refine ww_callVi (As := [.int (8 : Int32)]) (rest := []) ⟨hx, hb, hml, hown, hts⟩ hW (ctX3_size l D ks ad _ st_13 (8 : Int32) hc_46) (cwV 1 hts gL_second_X3_size rfl rfl rfl (by decide +kernel) ⟨Nat.le_of_ble_eq_true rfl, Nat.le_of_ble_eq_true rfl⟩) hW.recvX rfl hl.1 rfl (Nat.le_of_ble_eq_true rfl) dL_second_64 ⟨Nat.zero_le _, Nat.zero_le _⟩ (fun H locs hW => ?_)
            refine lv_iconst (v := 1) hx hb dL_second_67 (by decide) ?_
            refine lv_icmp_ne (tgt := 75) hx hb dL_second_68 (by decide) (fun c_48 => ?_) (fun c_48 => ?_)
            · have hE := if_t c_48 hE
              refine lv_iconst (v := 0) hx hb dL_second_75 (by decide) ?_
              refine lv_istore_n (lv' := [(2, .int (0 : Int32)), (0, .ref (ad 0)), (1, .int x1)]) hx hb dL_second_76 rfl hl (by decide) rfl (fun ls hl => ?_)
              refine lv_aload_n hx hb dL_second_77 rfl (lv_at hl 1 rfl) ?_
              refine lv_bipush (v := 9) hx hb dL_second_78 (by decide) ?_
              refine lv_iconst (v := 0) hx hb dL_second_80 (by decide) ?_
              refine lv_iload_n hx hb dL_second_81 rfl (lv_at hl 2 rfl) ?_
              refine lv_bipush (v := 8) hx hb dL_second_82 (by decide) ?_
              obtain ⟨r_51, st_49, hc_50, hE⟩ := ob2_some hE
              refine ww_callVi (As := [.int (9 : Int32), .int (0 : Int32), .int x1, .int (8 : Int32)]) (rest := []) ⟨hx, hb, hml, hown, hts⟩ hW (ctX3_compose l D ks ad _ st_45 (9 : Int32) (0 : Int32) x1 (8 : Int32) hc_50) (cwV 4 hts gL_second_X3_compose rfl rfl rfl (by decide +kernel) ⟨Nat.le_of_ble_eq_true rfl, Nat.le_of_ble_eq_true rfl⟩) hW.recvX rfl hl.1 rfl (Nat.le_of_ble_eq_true rfl) dL_second_84 ⟨Nat.zero_le _, Nat.zero_le _⟩ (fun H locs hW => ?_)
              refine lv_if_ge (tgt := 92) hx hb dL_second_87 (by decide) (fun c_52 => ?_) (fun c_52 => ?_)
              · have hE := if_t c_52 hE
                refine lv_iload_n hx hb dL_second_92 rfl (lv_at hl 0 rfl) ?_
                refine lv_aload_n hx hb dL_second_93 rfl (lv_at hl 1 rfl) ?_
                refine lv_bipush (v := 9) hx hb dL_second_94 (by decide) ?_
                refine lv_iconst (v := 0) hx hb dL_second_96 (by decide) ?_
                obtain ⟨r_54, hc_53, hE⟩ := ob_some hE
                refine ww_callVi (As := [.int (9 : Int32), .int (0 : Int32)]) (rest := [.int (0 : Int32)]) ⟨hx, hb, hml, hown, hts⟩ hW (ctX3_compare l D ks ad _ st_49 (9 : Int32) (0 : Int32) hc_53) (cwV 2 hts gL_second_X3_compare rfl rfl rfl (by decide +kernel) ⟨Nat.le_of_ble_eq_true rfl, Nat.le_of_ble_eq_true rfl⟩) hW.recvX rfl hl.1 rfl (Nat.le_of_ble_eq_true rfl) dL_second_97 ⟨Nat.zero_le _, Nat.zero_le _⟩ (fun H locs hW => ?_)
                refine lv_if_ne (tgt := 140) hx hb dL_second_100 (by decide) (fun c_55 => ?_) (fun c_55 => ?_)
                · have hE := if_t c_55 hE
                  refine lv_iconst (v := 0) hx hb dL_second_140 (by decide) ?_
                  refine lv_iand hx hb dL_second_141 ?_
                  refine lv_nmi (y := (0 : Int32)) (by decide) ?_
                  refine lv_istore_n (lv' := [(2, .int (0 : Int32)), (0, .ref (ad 0)), (1, .int x1)]) hx hb dL_second_142 rfl hl (by decide) rfl (fun ls hl => ?_)
                  refine lv_iload_n hx hb dL_second_143 rfl (lv_at hl 0 rfl) ?_
                  refine lv_if_eq (tgt := 186) hx hb dL_second_144 (by decide) (fun c_56 => ?_) (fun c_56 => ?_)
                  · refine lv_iconst (v := 0) hx hb dL_second_186 (by decide) ?_
                    obtain ⟨rfl, rfl⟩ := pair_x hE
                    exact W.iret hx hb hr (fun t ht hWm => hW.qi ht hWm) hW.2.2.1.2.2 dL_second_187
                  · exact absurd (by decide) c_56
                · have hE := if_f (fun q => q c_55) hE
                  refine lv_aload_n hx hb dL_second_103 rfl (lv_at hl 1 rfl) ?_
                  refine lv_iconst (v := 0) hx hb dL_second_104 (by decide) ?_
                  refine lv_iload_n hx hb dL_second_105 rfl (lv_at hl 2 rfl) ?_
                  obtain ⟨r_58, hc_57, hE⟩ := ob_some hE
                  refine ww_callVi (As := [.int (0 : Int32), .int x1]) (rest := [.int (0 : Int32)]) ⟨hx, hb, hml, hown, hts⟩ hW (ctX3_influence l D ks ad _ st_49 (0 : Int32) x1 hc_57) (cwV 2 hts gL_second_X3_influence rfl rfl rfl (by decide +kernel) ⟨Nat.le_of_ble_eq_true rfl, Nat.le_of_ble_eq_true rfl⟩) hW.recvX rfl hl.1 rfl (Nat.le_of_ble_eq_true rfl) dL_second_106 ⟨Nat.zero_le _, Nat.zero_le _⟩ (fun H locs hW => ?_)
                  refine lv_if_eq (tgt := 116) hx hb dL_second_109 (by decide) (fun c_59 => ?_) (fun c_59 => ?_)
                  · have hE := if_t c_59 hE
                    refine lv_iconst (v := 0) hx hb dL_second_116 (by decide) ?_
                    refine lv_aload_n hx hb dL_second_117 rfl (lv_at hl 1 rfl) ?_
                    refine lv_bipush (v := 6) hx hb dL_second_118 (by decide) ?_
                    refine lv_bipush (v := 7) hx hb dL_second_120 (by decide) ?_
                    obtain ⟨r_61, hc_60, hE⟩ := ob_some hE
                    refine ww_callVi (As := [.int (6 : Int32), .int (7 : Int32)]) (rest := [.int (0 : Int32), .int (0 : Int32)]) ⟨hx, hb, hml, hown, hts⟩ hW (ctX3_compare l D ks ad _ st_49 (6 : Int32) (7 : Int32) hc_60) (cwV 2 hts gL_second_X3_compare rfl rfl rfl (by decide +kernel) ⟨Nat.le_of_ble_eq_true rfl, Nat.le_of_ble_eq_true rfl⟩) hW.recvX rfl hl.1 rfl (Nat.le_of_ble_eq_true rfl) dL_second_122 ⟨Nat.zero_le _, Nat.zero_le _⟩ (fun H locs hW => ?_)
                    refine lv_if_eq (tgt := 132) hx hb dL_second_125 (by decide) (fun c_62 => ?_) (fun c_62 => ?_)
                    · have hE := if_t c_62 hE
                      refine lv_iconst (v := 0) hx hb dL_second_132 (by decide) ?_
                      refine lv_icmp_ne (tgt := 140) hx hb dL_second_133 (by decide) (fun c_63 => ?_) (fun c_63 => ?_)
                      · exact absurd (by decide) c_63
                      · refine lv_iconst (v := 1) hx hb dL_second_136 (by decide) ?_
                        refine lv_goto (tgt := 141) hx hb dL_second_137 (by decide) ?_
                        refine lv_iand hx hb dL_second_141 ?_
                        refine lv_nmi (y := (0 : Int32)) (by decide) ?_
                        refine lv_istore_n (lv' := [(2, .int (0 : Int32)), (0, .ref (ad 0)), (1, .int x1)]) hx hb dL_second_142 rfl hl (by decide) rfl (fun ls hl => ?_)
                        refine lv_iload_n hx hb dL_second_143 rfl (lv_at hl 0 rfl) ?_
                        refine lv_if_eq (tgt := 186) hx hb dL_second_144 (by decide) (fun c_64 => ?_) (fun c_64 => ?_)
                        · refine lv_iconst (v := 0) hx hb dL_second_186 (by decide) ?_
                          obtain ⟨rfl, rfl⟩ := pair_x hE
                          exact W.iret hx hb hr (fun t ht hWm => hW.qi ht hWm) hW.2.2.1.2.2 dL_second_187
                        · exact absurd (by decide) c_64
                    · have hE := if_f c_62 hE
                      refine lv_iconst (v := 1) hx hb dL_second_128 (by decide) ?_
                      refine lv_goto (tgt := 133) hx hb dL_second_129 (by decide) ?_
                      refine lv_icmp_ne (tgt := 140) hx hb dL_second_133 (by decide) (fun c_65 => ?_) (fun c_65 => ?_)
                      · refine lv_iconst (v := 0) hx hb dL_second_140 (by decide) ?_
                        refine lv_iand hx hb dL_second_141 ?_
                        refine lv_nmi (y := (0 : Int32)) (by decide) ?_
                        refine lv_istore_n (lv' := [(2, .int (0 : Int32)), (0, .ref (ad 0)), (1, .int x1)]) hx hb dL_second_142 rfl hl (by decide) rfl (fun ls hl => ?_)
                        refine lv_iload_n hx hb dL_second_143 rfl (lv_at hl 0 rfl) ?_
                        refine lv_if_eq (tgt := 186) hx hb dL_second_144 (by decide) (fun c_66 => ?_) (fun c_66 => ?_)
                        · refine lv_iconst (v := 0) hx hb dL_second_186 (by decide) ?_
                          obtain ⟨rfl, rfl⟩ := pair_x hE
                          exact W.iret hx hb hr (fun t ht hWm => hW.qi ht hWm) hW.2.2.1.2.2 dL_second_187
                        · exact absurd (by decide) c_66
                      · exact absurd c_65 (by decide)
                  · have hE := if_f c_59 hE
                    refine lv_iconst (v := 1) hx hb dL_second_112 (by decide) ?_
                    refine lv_goto (tgt := 117) hx hb dL_second_113 (by decide) ?_
                    refine lv_aload_n hx hb dL_second_117 rfl (lv_at hl 1 rfl) ?_
                    refine lv_bipush (v := 6) hx hb dL_second_118 (by decide) ?_
                    refine lv_bipush (v := 7) hx hb dL_second_120 (by decide) ?_
                    obtain ⟨r_68, hc_67, hE⟩ := ob_some hE
                    refine ww_callVi (As := [.int (6 : Int32), .int (7 : Int32)]) (rest := [.int (1 : Int32), .int (0 : Int32)]) ⟨hx, hb, hml, hown, hts⟩ hW (ctX3_compare l D ks ad _ st_49 (6 : Int32) (7 : Int32) hc_67) (cwV 2 hts gL_second_X3_compare rfl rfl rfl (by decide +kernel) ⟨Nat.le_of_ble_eq_true rfl, Nat.le_of_ble_eq_true rfl⟩) hW.recvX rfl hl.1 rfl (Nat.le_of_ble_eq_true rfl) dL_second_122 ⟨Nat.zero_le _, Nat.zero_le _⟩ (fun H locs hW => ?_)
                    refine lv_if_eq (tgt := 132) hx hb dL_second_125 (by decide) (fun c_69 => ?_) (fun c_69 => ?_)
                    · have hE := if_t c_69 hE
                      refine lv_iconst (v := 0) hx hb dL_second_132 (by decide) ?_
                      refine lv_icmp_ne (tgt := 140) hx hb dL_second_133 (by decide) (fun c_70 => ?_) (fun c_70 => ?_)
                      · refine lv_iconst (v := 0) hx hb dL_second_140 (by decide) ?_
                        refine lv_iand hx hb dL_second_141 ?_
                        refine lv_nmi (y := (0 : Int32)) (by decide) ?_
                        refine lv_istore_n (lv' := [(2, .int (0 : Int32)), (0, .ref (ad 0)), (1, .int x1)]) hx hb dL_second_142 rfl hl (by decide) rfl (fun ls hl => ?_)
                        refine lv_iload_n hx hb dL_second_143 rfl (lv_at hl 0 rfl) ?_
                        refine lv_if_eq (tgt := 186) hx hb dL_second_144 (by decide) (fun c_71 => ?_) (fun c_71 => ?_)
                        · refine lv_iconst (v := 0) hx hb dL_second_186 (by decide) ?_
                          obtain ⟨rfl, rfl⟩ := pair_x hE
                          exact W.iret hx hb hr (fun t ht hWm => hW.qi ht hWm) hW.2.2.1.2.2 dL_second_187
                        · exact absurd (by decide) c_71
                      · exact absurd c_70 (by decide)
                    · have hE := if_f c_69 hE
                      refine lv_iconst (v := 1) hx hb dL_second_128 (by decide) ?_
                      refine lv_goto (tgt := 133) hx hb dL_second_129 (by decide) ?_
                      refine lv_icmp_ne (tgt := 140) hx hb dL_second_133 (by decide) (fun c_72 => ?_) (fun c_72 => ?_)
                      · exact absurd (by decide) c_72
                      · refine lv_iconst (v := 1) hx hb dL_second_136 (by decide) ?_
                        refine lv_goto (tgt := 141) hx hb dL_second_137 (by decide) ?_
                        refine lv_iand hx hb dL_second_141 ?_
                        refine lv_nmi (y := (0 : Int32)) (by decide) ?_
                        refine lv_istore_n (lv' := [(2, .int (0 : Int32)), (0, .ref (ad 0)), (1, .int x1)]) hx hb dL_second_142 rfl hl (by decide) rfl (fun ls hl => ?_)
                        refine lv_iload_n hx hb dL_second_143 rfl (lv_at hl 0 rfl) ?_
                        refine lv_if_eq (tgt := 186) hx hb dL_second_144 (by decide) (fun c_73 => ?_) (fun c_73 => ?_)
                        · refine lv_iconst (v := 0) hx hb dL_second_186 (by decide) ?_
                          obtain ⟨rfl, rfl⟩ := pair_x hE
                          exact W.iret hx hb hr (fun t ht hWm => hW.qi ht hWm) hW.2.2.1.2.2 dL_second_187
                        · exact absurd (by decide) c_73
              · have hE := if_f c_52 hE
                refine lv_iconst (v := 2) hx hb dL_second_90 (by decide) ?_
                obtain ⟨rfl, rfl⟩ := pair_x hE
                exact W.iret hx hb hr (fun t ht hWm => hW.qi ht hWm) hW.2.2.1.2.2 dL_second_91
            · have hE := if_f (fun q => q c_48) hE
              refine lv_iconst (v := 1) hx hb dL_second_71 (by decide) ?_
              refine lv_goto (tgt := 76) hx hb dL_second_72 (by decide) ?_
              refine lv_istore_n (lv' := [(2, .int (1 : Int32)), (0, .ref (ad 0)), (1, .int x1)]) hx hb dL_second_76 rfl hl (by decide) rfl (fun ls hl => ?_)
              refine lv_aload_n hx hb dL_second_77 rfl (lv_at hl 1 rfl) ?_
              refine lv_bipush (v := 9) hx hb dL_second_78 (by decide) ?_
              refine lv_iconst (v := 0) hx hb dL_second_80 (by decide) ?_
              refine lv_iload_n hx hb dL_second_81 rfl (lv_at hl 2 rfl) ?_
              refine lv_bipush (v := 8) hx hb dL_second_82 (by decide) ?_
              obtain ⟨r_76, st_74, hc_75, hE⟩ := ob2_some hE
              refine ww_callVi (As := [.int (9 : Int32), .int (0 : Int32), .int x1, .int (8 : Int32)]) (rest := []) ⟨hx, hb, hml, hown, hts⟩ hW (ctX3_compose l D ks ad _ st_45 (9 : Int32) (0 : Int32) x1 (8 : Int32) hc_75) (cwV 4 hts gL_second_X3_compose rfl rfl rfl (by decide +kernel) ⟨Nat.le_of_ble_eq_true rfl, Nat.le_of_ble_eq_true rfl⟩) hW.recvX rfl hl.1 rfl (Nat.le_of_ble_eq_true rfl) dL_second_84 ⟨Nat.zero_le _, Nat.zero_le _⟩ (fun H locs hW => ?_)
              refine lv_if_ge (tgt := 92) hx hb dL_second_87 (by decide) (fun c_77 => ?_) (fun c_77 => ?_)
              · have hE := if_t c_77 hE
                refine lv_iload_n hx hb dL_second_92 rfl (lv_at hl 0 rfl) ?_
                refine lv_aload_n hx hb dL_second_93 rfl (lv_at hl 1 rfl) ?_
                refine lv_bipush (v := 9) hx hb dL_second_94 (by decide) ?_
                refine lv_iconst (v := 0) hx hb dL_second_96 (by decide) ?_
                obtain ⟨r_79, hc_78, hE⟩ := ob_some hE
                refine ww_callVi (As := [.int (9 : Int32), .int (0 : Int32)]) (rest := [.int (1 : Int32)]) ⟨hx, hb, hml, hown, hts⟩ hW (ctX3_compare l D ks ad _ st_74 (9 : Int32) (0 : Int32) hc_78) (cwV 2 hts gL_second_X3_compare rfl rfl rfl (by decide +kernel) ⟨Nat.le_of_ble_eq_true rfl, Nat.le_of_ble_eq_true rfl⟩) hW.recvX rfl hl.1 rfl (Nat.le_of_ble_eq_true rfl) dL_second_97 ⟨Nat.zero_le _, Nat.zero_le _⟩ (fun H locs hW => ?_)
                refine lv_if_ne (tgt := 140) hx hb dL_second_100 (by decide) (fun c_80 => ?_) (fun c_80 => ?_)
                · have hE := if_t c_80 hE
                  refine lv_iconst (v := 0) hx hb dL_second_140 (by decide) ?_
                  refine lv_iand hx hb dL_second_141 ?_
                  refine lv_nmi (y := (0 : Int32)) (by decide) ?_
                  refine lv_istore_n (lv' := [(2, .int (0 : Int32)), (0, .ref (ad 0)), (1, .int x1)]) hx hb dL_second_142 rfl hl (by decide) rfl (fun ls hl => ?_)
                  refine lv_iload_n hx hb dL_second_143 rfl (lv_at hl 0 rfl) ?_
                  refine lv_if_eq (tgt := 186) hx hb dL_second_144 (by decide) (fun c_81 => ?_) (fun c_81 => ?_)
                  · refine lv_iconst (v := 0) hx hb dL_second_186 (by decide) ?_
                    obtain ⟨rfl, rfl⟩ := pair_x hE
                    exact W.iret hx hb hr (fun t ht hWm => hW.qi ht hWm) hW.2.2.1.2.2 dL_second_187
                  · exact absurd (by decide) c_81
                · have hE := if_f (fun q => q c_80) hE
                  refine lv_aload_n hx hb dL_second_103 rfl (lv_at hl 1 rfl) ?_
                  refine lv_iconst (v := 0) hx hb dL_second_104 (by decide) ?_
                  refine lv_iload_n hx hb dL_second_105 rfl (lv_at hl 2 rfl) ?_
                  obtain ⟨r_83, hc_82, hE⟩ := ob_some hE
                  refine ww_callVi (As := [.int (0 : Int32), .int x1]) (rest := [.int (1 : Int32)]) ⟨hx, hb, hml, hown, hts⟩ hW (ctX3_influence l D ks ad _ st_74 (0 : Int32) x1 hc_82) (cwV 2 hts gL_second_X3_influence rfl rfl rfl (by decide +kernel) ⟨Nat.le_of_ble_eq_true rfl, Nat.le_of_ble_eq_true rfl⟩) hW.recvX rfl hl.1 rfl (Nat.le_of_ble_eq_true rfl) dL_second_106 ⟨Nat.zero_le _, Nat.zero_le _⟩ (fun H locs hW => ?_)
                  refine lv_if_eq (tgt := 116) hx hb dL_second_109 (by decide) (fun c_84 => ?_) (fun c_84 => ?_)
                  · have hE := if_t c_84 hE
                    refine lv_iconst (v := 0) hx hb dL_second_116 (by decide) ?_
                    refine lv_aload_n hx hb dL_second_117 rfl (lv_at hl 1 rfl) ?_
                    refine lv_bipush (v := 6) hx hb dL_second_118 (by decide) ?_
                    refine lv_bipush (v := 7) hx hb dL_second_120 (by decide) ?_
                    obtain ⟨r_86, hc_85, hE⟩ := ob_some hE
                    refine ww_callVi (As := [.int (6 : Int32), .int (7 : Int32)]) (rest := [.int (0 : Int32), .int (1 : Int32)]) ⟨hx, hb, hml, hown, hts⟩ hW (ctX3_compare l D ks ad _ st_74 (6 : Int32) (7 : Int32) hc_85) (cwV 2 hts gL_second_X3_compare rfl rfl rfl (by decide +kernel) ⟨Nat.le_of_ble_eq_true rfl, Nat.le_of_ble_eq_true rfl⟩) hW.recvX rfl hl.1 rfl (Nat.le_of_ble_eq_true rfl) dL_second_122 ⟨Nat.zero_le _, Nat.zero_le _⟩ (fun H locs hW => ?_)
                    refine lv_if_eq (tgt := 132) hx hb dL_second_125 (by decide) (fun c_87 => ?_) (fun c_87 => ?_)
                    · have hE := if_t c_87 hE
                      refine lv_iconst (v := 0) hx hb dL_second_132 (by decide) ?_
                      refine lv_icmp_ne (tgt := 140) hx hb dL_second_133 (by decide) (fun c_88 => ?_) (fun c_88 => ?_)
                      · exact absurd (by decide) c_88
                      · refine lv_iconst (v := 1) hx hb dL_second_136 (by decide) ?_
                        refine lv_goto (tgt := 141) hx hb dL_second_137 (by decide) ?_
                        refine lv_iand hx hb dL_second_141 ?_
                        refine lv_nmi (y := (1 : Int32)) (by decide) ?_
                        refine lv_istore_n (lv' := [(2, .int (1 : Int32)), (0, .ref (ad 0)), (1, .int x1)]) hx hb dL_second_142 rfl hl (by decide) rfl (fun ls hl => ?_)
                        refine lv_iload_n hx hb dL_second_143 rfl (lv_at hl 0 rfl) ?_
                        refine lv_if_eq (tgt := 186) hx hb dL_second_144 (by decide) (fun c_89 => ?_) (fun c_89 => ?_)
                        · exact absurd c_89 (by decide)
                        · refine lv_aload_n hx hb dL_second_147 rfl (lv_at hl 1 rfl) ?_
                          refine lv_iconst (v := 0) hx hb dL_second_148 (by decide) ?_
                          refine lv_iload_n hx hb dL_second_149 rfl (lv_at hl 2 rfl) ?_
                          obtain ⟨r_91, hc_90, hE⟩ := ob_some hE
                          refine ww_callVi (As := [.int (0 : Int32), .int x1]) (rest := []) ⟨hx, hb, hml, hown, hts⟩ hW (ctX3_trend l D ks ad _ st_74 (0 : Int32) x1 hc_90) (cwV 2 hts gL_second_X3_trend rfl rfl rfl (by decide +kernel) ⟨Nat.le_of_ble_eq_true rfl, Nat.le_of_ble_eq_true rfl⟩) hW.recvX rfl hl.1 rfl (Nat.le_of_ble_eq_true rfl) dL_second_150 ⟨Nat.zero_le _, Nat.zero_le _⟩ (fun H locs hW => ?_)
                          refine lv_iconst (v := 1) hx hb dL_second_153 (by decide) ?_
                          refine lv_icmp_ne (tgt := 161) hx hb dL_second_154 (by decide) (fun c_92 => ?_) (fun c_92 => ?_)
                          · have hE := if_t c_92 hE
                            refine lv_iconst (v := 0) hx hb dL_second_161 (by decide) ?_
                            refine lv_aload_n hx hb dL_second_162 rfl (lv_at hl 1 rfl) ?_
                            refine lv_bipush (v := 6) hx hb dL_second_163 (by decide) ?_
                            refine lv_bipush (v := 7) hx hb dL_second_165 (by decide) ?_
                            obtain ⟨r_94, hc_93, hE⟩ := ob_some hE
                            refine ww_callVi (As := [.int (6 : Int32), .int (7 : Int32)]) (rest := [.int (0 : Int32)]) ⟨hx, hb, hml, hown, hts⟩ hW (ctX3_compare l D ks ad _ st_74 (6 : Int32) (7 : Int32) hc_93) (cwV 2 hts gL_second_X3_compare rfl rfl rfl (by decide +kernel) ⟨Nat.le_of_ble_eq_true rfl, Nat.le_of_ble_eq_true rfl⟩) hW.recvX rfl hl.1 rfl (Nat.le_of_ble_eq_true rfl) dL_second_167 ⟨Nat.zero_le _, Nat.zero_le _⟩ (fun H locs hW => ?_)
                            refine lv_iconst (v := 1) hx hb dL_second_170 (by decide) ?_
                            refine lv_icmp_ne (tgt := 178) hx hb dL_second_171 (by decide) (fun c_95 => ?_) (fun c_95 => ?_)
                            · have hE := if_t c_95 hE
                              refine lv_iconst (v := 0) hx hb dL_second_178 (by decide) ?_
                              refine lv_icmp_ne (tgt := 186) hx hb dL_second_179 (by decide) (fun c_96 => ?_) (fun c_96 => ?_)
                              · exact absurd (by decide) c_96
                              · refine lv_iconst (v := 1) hx hb dL_second_182 (by decide) ?_
                                refine lv_goto (tgt := 187) hx hb dL_second_183 (by decide) ?_
                                obtain ⟨rfl, rfl⟩ := pair_x hE
                                exact W.iret hx hb hr (fun t ht hWm => hW.qi ht hWm) hW.2.2.1.2.2 dL_second_187
                            · have hE := if_f (fun q => q c_95) hE
                              refine lv_iconst (v := 1) hx hb dL_second_174 (by decide) ?_
                              refine lv_goto (tgt := 179) hx hb dL_second_175 (by decide) ?_
                              refine lv_icmp_ne (tgt := 186) hx hb dL_second_179 (by decide) (fun c_97 => ?_) (fun c_97 => ?_)
                              · refine lv_iconst (v := 0) hx hb dL_second_186 (by decide) ?_
                                obtain ⟨rfl, rfl⟩ := pair_x hE
                                exact W.iret hx hb hr (fun t ht hWm => hW.qi ht hWm) hW.2.2.1.2.2 dL_second_187
                              · exact absurd c_97 (by decide)
                          · have hE := if_f (fun q => q c_92) hE
                            refine lv_iconst (v := 1) hx hb dL_second_157 (by decide) ?_
                            refine lv_goto (tgt := 162) hx hb dL_second_158 (by decide) ?_
                            refine lv_aload_n hx hb dL_second_162 rfl (lv_at hl 1 rfl) ?_
                            refine lv_bipush (v := 6) hx hb dL_second_163 (by decide) ?_
                            refine lv_bipush (v := 7) hx hb dL_second_165 (by decide) ?_
                            obtain ⟨r_99, hc_98, hE⟩ := ob_some hE
                            refine ww_callVi (As := [.int (6 : Int32), .int (7 : Int32)]) (rest := [.int (1 : Int32)]) ⟨hx, hb, hml, hown, hts⟩ hW (ctX3_compare l D ks ad _ st_74 (6 : Int32) (7 : Int32) hc_98) (cwV 2 hts gL_second_X3_compare rfl rfl rfl (by decide +kernel) ⟨Nat.le_of_ble_eq_true rfl, Nat.le_of_ble_eq_true rfl⟩) hW.recvX rfl hl.1 rfl (Nat.le_of_ble_eq_true rfl) dL_second_167 ⟨Nat.zero_le _, Nat.zero_le _⟩ (fun H locs hW => ?_)
                            refine lv_iconst (v := 1) hx hb dL_second_170 (by decide) ?_
                            refine lv_icmp_ne (tgt := 178) hx hb dL_second_171 (by decide) (fun c_100 => ?_) (fun c_100 => ?_)
                            · have hE := if_t c_100 hE
                              refine lv_iconst (v := 0) hx hb dL_second_178 (by decide) ?_
                              refine lv_icmp_ne (tgt := 186) hx hb dL_second_179 (by decide) (fun c_101 => ?_) (fun c_101 => ?_)
                              · refine lv_iconst (v := 0) hx hb dL_second_186 (by decide) ?_
                                obtain ⟨rfl, rfl⟩ := pair_x hE
                                exact W.iret hx hb hr (fun t ht hWm => hW.qi ht hWm) hW.2.2.1.2.2 dL_second_187
                              · exact absurd c_101 (by decide)
                            · have hE := if_f (fun q => q c_100) hE
                              refine lv_iconst (v := 1) hx hb dL_second_174 (by decide) ?_
                              refine lv_goto (tgt := 179) hx hb dL_second_175 (by decide) ?_
                              refine lv_icmp_ne (tgt := 186) hx hb dL_second_179 (by decide) (fun c_102 => ?_) (fun c_102 => ?_)
                              · exact absurd (by decide) c_102
                              · refine lv_iconst (v := 1) hx hb dL_second_182 (by decide) ?_
                                refine lv_goto (tgt := 187) hx hb dL_second_183 (by decide) ?_
                                obtain ⟨rfl, rfl⟩ := pair_x hE
                                exact W.iret hx hb hr (fun t ht hWm => hW.qi ht hWm) hW.2.2.1.2.2 dL_second_187
                    · have hE := if_f c_87 hE
                      refine lv_iconst (v := 1) hx hb dL_second_128 (by decide) ?_
                      refine lv_goto (tgt := 133) hx hb dL_second_129 (by decide) ?_
                      refine lv_icmp_ne (tgt := 140) hx hb dL_second_133 (by decide) (fun c_103 => ?_) (fun c_103 => ?_)
                      · refine lv_iconst (v := 0) hx hb dL_second_140 (by decide) ?_
                        refine lv_iand hx hb dL_second_141 ?_
                        refine lv_nmi (y := (0 : Int32)) (by decide) ?_
                        refine lv_istore_n (lv' := [(2, .int (0 : Int32)), (0, .ref (ad 0)), (1, .int x1)]) hx hb dL_second_142 rfl hl (by decide) rfl (fun ls hl => ?_)
                        refine lv_iload_n hx hb dL_second_143 rfl (lv_at hl 0 rfl) ?_
                        refine lv_if_eq (tgt := 186) hx hb dL_second_144 (by decide) (fun c_104 => ?_) (fun c_104 => ?_)
                        · refine lv_iconst (v := 0) hx hb dL_second_186 (by decide) ?_
                          obtain ⟨rfl, rfl⟩ := pair_x hE
                          exact W.iret hx hb hr (fun t ht hWm => hW.qi ht hWm) hW.2.2.1.2.2 dL_second_187
                        · exact absurd (by decide) c_104
                      · exact absurd c_103 (by decide)
                  · have hE := if_f c_84 hE
                    refine lv_iconst (v := 1) hx hb dL_second_112 (by decide) ?_
                    refine lv_goto (tgt := 117) hx hb dL_second_113 (by decide) ?_
                    refine lv_aload_n hx hb dL_second_117 rfl (lv_at hl 1 rfl) ?_
                    refine lv_bipush (v := 6) hx hb dL_second_118 (by decide) ?_
                    refine lv_bipush (v := 7) hx hb dL_second_120 (by decide) ?_
                    obtain ⟨r_106, hc_105, hE⟩ := ob_some hE
                    refine ww_callVi (As := [.int (6 : Int32), .int (7 : Int32)]) (rest := [.int (1 : Int32), .int (1 : Int32)]) ⟨hx, hb, hml, hown, hts⟩ hW (ctX3_compare l D ks ad _ st_74 (6 : Int32) (7 : Int32) hc_105) (cwV 2 hts gL_second_X3_compare rfl rfl rfl (by decide +kernel) ⟨Nat.le_of_ble_eq_true rfl, Nat.le_of_ble_eq_true rfl⟩) hW.recvX rfl hl.1 rfl (Nat.le_of_ble_eq_true rfl) dL_second_122 ⟨Nat.zero_le _, Nat.zero_le _⟩ (fun H locs hW => ?_)
                    refine lv_if_eq (tgt := 132) hx hb dL_second_125 (by decide) (fun c_107 => ?_) (fun c_107 => ?_)
                    · have hE := if_t c_107 hE
                      refine lv_iconst (v := 0) hx hb dL_second_132 (by decide) ?_
                      refine lv_icmp_ne (tgt := 140) hx hb dL_second_133 (by decide) (fun c_108 => ?_) (fun c_108 => ?_)
                      · refine lv_iconst (v := 0) hx hb dL_second_140 (by decide) ?_
                        refine lv_iand hx hb dL_second_141 ?_
                        refine lv_nmi (y := (0 : Int32)) (by decide) ?_
                        refine lv_istore_n (lv' := [(2, .int (0 : Int32)), (0, .ref (ad 0)), (1, .int x1)]) hx hb dL_second_142 rfl hl (by decide) rfl (fun ls hl => ?_)
                        refine lv_iload_n hx hb dL_second_143 rfl (lv_at hl 0 rfl) ?_
                        refine lv_if_eq (tgt := 186) hx hb dL_second_144 (by decide) (fun c_109 => ?_) (fun c_109 => ?_)
                        · refine lv_iconst (v := 0) hx hb dL_second_186 (by decide) ?_
                          obtain ⟨rfl, rfl⟩ := pair_x hE
                          exact W.iret hx hb hr (fun t ht hWm => hW.qi ht hWm) hW.2.2.1.2.2 dL_second_187
                        · exact absurd (by decide) c_109
                      · exact absurd c_108 (by decide)
                    · have hE := if_f c_107 hE
                      refine lv_iconst (v := 1) hx hb dL_second_128 (by decide) ?_
                      refine lv_goto (tgt := 133) hx hb dL_second_129 (by decide) ?_
                      refine lv_icmp_ne (tgt := 140) hx hb dL_second_133 (by decide) (fun c_110 => ?_) (fun c_110 => ?_)
                      · exact absurd (by decide) c_110
                      · refine lv_iconst (v := 1) hx hb dL_second_136 (by decide) ?_
                        refine lv_goto (tgt := 141) hx hb dL_second_137 (by decide) ?_
                        refine lv_iand hx hb dL_second_141 ?_
                        refine lv_nmi (y := (1 : Int32)) (by decide) ?_
                        refine lv_istore_n (lv' := [(2, .int (1 : Int32)), (0, .ref (ad 0)), (1, .int x1)]) hx hb dL_second_142 rfl hl (by decide) rfl (fun ls hl => ?_)
                        refine lv_iload_n hx hb dL_second_143 rfl (lv_at hl 0 rfl) ?_
                        refine lv_if_eq (tgt := 186) hx hb dL_second_144 (by decide) (fun c_111 => ?_) (fun c_111 => ?_)
                        · exact absurd c_111 (by decide)
                        · refine lv_aload_n hx hb dL_second_147 rfl (lv_at hl 1 rfl) ?_
                          refine lv_iconst (v := 0) hx hb dL_second_148 (by decide) ?_
                          refine lv_iload_n hx hb dL_second_149 rfl (lv_at hl 2 rfl) ?_
                          obtain ⟨r_113, hc_112, hE⟩ := ob_some hE
                          refine ww_callVi (As := [.int (0 : Int32), .int x1]) (rest := []) ⟨hx, hb, hml, hown, hts⟩ hW (ctX3_trend l D ks ad _ st_74 (0 : Int32) x1 hc_112) (cwV 2 hts gL_second_X3_trend rfl rfl rfl (by decide +kernel) ⟨Nat.le_of_ble_eq_true rfl, Nat.le_of_ble_eq_true rfl⟩) hW.recvX rfl hl.1 rfl (Nat.le_of_ble_eq_true rfl) dL_second_150 ⟨Nat.zero_le _, Nat.zero_le _⟩ (fun H locs hW => ?_)
                          refine lv_iconst (v := 1) hx hb dL_second_153 (by decide) ?_
                          refine lv_icmp_ne (tgt := 161) hx hb dL_second_154 (by decide) (fun c_114 => ?_) (fun c_114 => ?_)
                          · have hE := if_t c_114 hE
                            refine lv_iconst (v := 0) hx hb dL_second_161 (by decide) ?_
                            refine lv_aload_n hx hb dL_second_162 rfl (lv_at hl 1 rfl) ?_
                            refine lv_bipush (v := 6) hx hb dL_second_163 (by decide) ?_
                            refine lv_bipush (v := 7) hx hb dL_second_165 (by decide) ?_
                            obtain ⟨r_116, hc_115, hE⟩ := ob_some hE
                            refine ww_callVi (As := [.int (6 : Int32), .int (7 : Int32)]) (rest := [.int (0 : Int32)]) ⟨hx, hb, hml, hown, hts⟩ hW (ctX3_compare l D ks ad _ st_74 (6 : Int32) (7 : Int32) hc_115) (cwV 2 hts gL_second_X3_compare rfl rfl rfl (by decide +kernel) ⟨Nat.le_of_ble_eq_true rfl, Nat.le_of_ble_eq_true rfl⟩) hW.recvX rfl hl.1 rfl (Nat.le_of_ble_eq_true rfl) dL_second_167 ⟨Nat.zero_le _, Nat.zero_le _⟩ (fun H locs hW => ?_)
                            refine lv_iconst (v := 1) hx hb dL_second_170 (by decide) ?_
                            refine lv_icmp_ne (tgt := 178) hx hb dL_second_171 (by decide) (fun c_117 => ?_) (fun c_117 => ?_)
                            · have hE := if_t c_117 hE
                              refine lv_iconst (v := 0) hx hb dL_second_178 (by decide) ?_
                              refine lv_icmp_ne (tgt := 186) hx hb dL_second_179 (by decide) (fun c_118 => ?_) (fun c_118 => ?_)
                              · exact absurd (by decide) c_118
                              · refine lv_iconst (v := 1) hx hb dL_second_182 (by decide) ?_
                                refine lv_goto (tgt := 187) hx hb dL_second_183 (by decide) ?_
                                obtain ⟨rfl, rfl⟩ := pair_x hE
                                exact W.iret hx hb hr (fun t ht hWm => hW.qi ht hWm) hW.2.2.1.2.2 dL_second_187
                            · have hE := if_f (fun q => q c_117) hE
                              refine lv_iconst (v := 1) hx hb dL_second_174 (by decide) ?_
                              refine lv_goto (tgt := 179) hx hb dL_second_175 (by decide) ?_
                              refine lv_icmp_ne (tgt := 186) hx hb dL_second_179 (by decide) (fun c_119 => ?_) (fun c_119 => ?_)
                              · refine lv_iconst (v := 0) hx hb dL_second_186 (by decide) ?_
                                obtain ⟨rfl, rfl⟩ := pair_x hE
                                exact W.iret hx hb hr (fun t ht hWm => hW.qi ht hWm) hW.2.2.1.2.2 dL_second_187
                              · exact absurd c_119 (by decide)
                          · have hE := if_f (fun q => q c_114) hE
                            refine lv_iconst (v := 1) hx hb dL_second_157 (by decide) ?_
                            refine lv_goto (tgt := 162) hx hb dL_second_158 (by decide) ?_
                            refine lv_aload_n hx hb dL_second_162 rfl (lv_at hl 1 rfl) ?_
                            refine lv_bipush (v := 6) hx hb dL_second_163 (by decide) ?_
                            refine lv_bipush (v := 7) hx hb dL_second_165 (by decide) ?_
                            obtain ⟨r_121, hc_120, hE⟩ := ob_some hE
                            refine ww_callVi (As := [.int (6 : Int32), .int (7 : Int32)]) (rest := [.int (1 : Int32)]) ⟨hx, hb, hml, hown, hts⟩ hW (ctX3_compare l D ks ad _ st_74 (6 : Int32) (7 : Int32) hc_120) (cwV 2 hts gL_second_X3_compare rfl rfl rfl (by decide +kernel) ⟨Nat.le_of_ble_eq_true rfl, Nat.le_of_ble_eq_true rfl⟩) hW.recvX rfl hl.1 rfl (Nat.le_of_ble_eq_true rfl) dL_second_167 ⟨Nat.zero_le _, Nat.zero_le _⟩ (fun H locs hW => ?_)
                            refine lv_iconst (v := 1) hx hb dL_second_170 (by decide) ?_
                            refine lv_icmp_ne (tgt := 178) hx hb dL_second_171 (by decide) (fun c_122 => ?_) (fun c_122 => ?_)
                            · have hE := if_t c_122 hE
                              refine lv_iconst (v := 0) hx hb dL_second_178 (by decide) ?_
                              refine lv_icmp_ne (tgt := 186) hx hb dL_second_179 (by decide) (fun c_123 => ?_) (fun c_123 => ?_)
                              · refine lv_iconst (v := 0) hx hb dL_second_186 (by decide) ?_
                                obtain ⟨rfl, rfl⟩ := pair_x hE
                                exact W.iret hx hb hr (fun t ht hWm => hW.qi ht hWm) hW.2.2.1.2.2 dL_second_187
                              · exact absurd c_123 (by decide)
                            · have hE := if_f (fun q => q c_122) hE
                              refine lv_iconst (v := 1) hx hb dL_second_174 (by decide) ?_
                              refine lv_goto (tgt := 179) hx hb dL_second_175 (by decide) ?_
                              refine lv_icmp_ne (tgt := 186) hx hb dL_second_179 (by decide) (fun c_124 => ?_) (fun c_124 => ?_)
                              · exact absurd (by decide) c_124
                              · refine lv_iconst (v := 1) hx hb dL_second_182 (by decide) ?_
                                refine lv_goto (tgt := 187) hx hb dL_second_183 (by decide) ?_
                                obtain ⟨rfl, rfl⟩ := pair_x hE
                                exact W.iret hx hb hr (fun t ht hWm => hW.qi ht hWm) hW.2.2.1.2.2 dL_second_187
              · have hE := if_f c_77 hE
                refine lv_iconst (v := 2) hx hb dL_second_90 (by decide) ?_
                obtain ⟨rfl, rfl⟩ := pair_x hE
                exact W.iret hx hb hr (fun t ht hWm => hW.qi ht hWm) hW.2.2.1.2.2 dL_second_91
        · have hE := if_f c_16 hE
          refine lv_iconst (v := 2) hx hb dL_second_49 (by decide) ?_
          obtain ⟨rfl, rfl⟩ := pair_x hE
          exact W.iret hx hb hr (fun t ht hWm => hW.qi ht hWm) hW.2.2.1.2.2 dL_second_50
abbrev rmL_third : Room := { frames := 18, cells := 0, slots := 0, locals := 406 }
set_option maxHeartbeats 4000000 in
set_option maxRecDepth 100000 in
theorem ctL_third (l : Launch) (D : va_G) (ks : KA) (ad : Nat → Nat) (sz : Nat) (st : St) (x1 : Int32) (x2 : Int32)  {r : Int32} {st' : St} (hE : sL_third st x1 x2 = some (r, st')) : CI l D ks yL_third wsL_third rmL_third [.ref (ad 0), .int x1, .int x2] ad sz st r st' := by
  unfold sL_third at hE
  refine Met.ofW (cc := cL_third) (maxL := 4) (ret := (some .int)) (by decide) rfl ?_
  intro p e s m args below meth c s₁ B hml hv
  obtain ⟨hargs, hPW⟩ := hv
  have hW := WW.entry hPW
  have hx := B.exec
  have hb := B.bytes
  have hr := B.returns
  have hts := atoms_spec (ws := wsL_third) B.pre
  have hown : s.vm.findClass RL = some m.cls := findClass_of_methodNamed B.named
  have hlocks := B.notSynchronized
  have hl := lv_entry ([.ref (ad 0), .int x1, .int x2]) (n := 4) (Nat.le_of_ble_eq_true rfl)
  have hfr : entryFrame m args 4 = F0 m 0 (lg_sl ([.ref (ad 0), .int x1, .int x2]) ++ List.replicate (4 - (lg_sl ([.ref (ad 0), .int x1, .int x2])).length) Slot.unset).toArray [] := by rw [hargs, lg_entry_eq]
  rw [hfr]
  generalize (lg_sl ([.ref (ad 0), .int x1, .int x2]) ++ List.replicate (4 - (lg_sl ([.ref (ad 0), .int x1, .int x2])).length) Slot.unset).toArray = ls at hl ⊢
  have hl : lv_has ls 4 [(0, .ref (ad 0)), (1, .int x1), (2, .int x2)] := hl
  refine lv_aload_n hx hb dL_third_0 rfl (lv_at hl 0 rfl) ?_
  refine lv_bipush (v := 6) hx hb dL_third_1 (by decide) ?_
  refine lv_iconst (v := 0) hx hb dL_third_3 (by decide) ?_
  refine lv_iload_n hx hb dL_third_4 rfl (lv_at hl 1 rfl) ?_
  refine lv_iconst (v := 1) hx hb dL_third_5 (by decide) ?_
  obtain ⟨r_3, st_1, hc_2, hE⟩ := ob2_some hE
  refine ww_callVi (As := [.int (6 : Int32), .int (0 : Int32), .int x1, .int (1 : Int32)]) (rest := []) ⟨hx, hb, hml, hown, hts⟩ hW (ctX3_quantify l D ks ad _ st (6 : Int32) (0 : Int32) x1 (1 : Int32) hc_2) (cwV 4 hts gL_third_X3_quantify rfl rfl rfl (by decide +kernel) ⟨Nat.le_of_ble_eq_true rfl, Nat.le_of_ble_eq_true rfl⟩) hW.recvX rfl hl.1 rfl (Nat.le_of_ble_eq_true rfl) dL_third_6 ⟨Nat.zero_le _, Nat.zero_le _⟩ (fun H locs hW => ?_)
  refine lv_if_lt (tgt := 51) hx hb dL_third_9 (by decide) (fun c_4 => ?_) (fun c_4 => ?_)
  · have hE := if_t c_4 hE
    refine lv_iconst (v := 2) hx hb dL_third_51 (by decide) ?_
    obtain ⟨rfl, rfl⟩ := pair_x hE
    exact W.iret hx hb hr (fun t ht hWm => hW.qi ht hWm) hW.2.2.1.2.2 dL_third_52
  · have hE := if_f c_4 hE
    refine lv_aload_n hx hb dL_third_12 rfl (lv_at hl 0 rfl) ?_
    refine lv_bipush (v := 7) hx hb dL_third_13 (by decide) ?_
    refine lv_iconst (v := 0) hx hb dL_third_15 (by decide) ?_
    refine lv_iconst (v := 0) hx hb dL_third_16 (by decide) ?_
    refine lv_iconst (v := 1) hx hb dL_third_17 (by decide) ?_
    obtain ⟨r_7, st_5, hc_6, hE⟩ := ob2_some hE
    refine ww_callVi (As := [.int (7 : Int32), .int (0 : Int32), .int (0 : Int32), .int (1 : Int32)]) (rest := []) ⟨hx, hb, hml, hown, hts⟩ hW (ctX3_apply l D ks ad _ st_1 (7 : Int32) (0 : Int32) (0 : Int32) (1 : Int32) hc_6) (cwV 4 hts gL_third_X3_apply rfl rfl rfl (by decide +kernel) ⟨Nat.le_of_ble_eq_true rfl, Nat.le_of_ble_eq_true rfl⟩) hW.recvX rfl hl.1 rfl (Nat.le_of_ble_eq_true rfl) dL_third_18 ⟨Nat.zero_le _, Nat.zero_le _⟩ (fun H locs hW => ?_)
    refine lv_if_lt (tgt := 51) hx hb dL_third_21 (by decide) (fun c_8 => ?_) (fun c_8 => ?_)
    · have hE := if_t c_8 hE
      refine lv_iconst (v := 2) hx hb dL_third_51 (by decide) ?_
      obtain ⟨rfl, rfl⟩ := pair_x hE
      exact W.iret hx hb hr (fun t ht hWm => hW.qi ht hWm) hW.2.2.1.2.2 dL_third_52
    · have hE := if_f c_8 hE
      refine lv_aload_n hx hb dL_third_24 rfl (lv_at hl 0 rfl) ?_
      refine lv_bipush (v := 7) hx hb dL_third_25 (by decide) ?_
      refine lv_bipush (v := 7) hx hb dL_third_27 (by decide) ?_
      refine lv_iload_n hx hb dL_third_29 rfl (lv_at hl 1 rfl) ?_
      refine lv_iconst (v := 0) hx hb dL_third_30 (by decide) ?_
      obtain ⟨r_11, st_9, hc_10, hE⟩ := ob2_some hE
      refine ww_callVi (As := [.int (7 : Int32), .int (7 : Int32), .int x1, .int (0 : Int32)]) (rest := []) ⟨hx, hb, hml, hown, hts⟩ hW (ctX3_quantify l D ks ad _ st_5 (7 : Int32) (7 : Int32) x1 (0 : Int32) hc_10) (cwV 4 hts gL_third_X3_quantify rfl rfl rfl (by decide +kernel) ⟨Nat.le_of_ble_eq_true rfl, Nat.le_of_ble_eq_true rfl⟩) hW.recvX rfl hl.1 rfl (Nat.le_of_ble_eq_true rfl) dL_third_31 ⟨Nat.zero_le _, Nat.zero_le _⟩ (fun H locs hW => ?_)
      refine lv_if_lt (tgt := 51) hx hb dL_third_34 (by decide) (fun c_12 => ?_) (fun c_12 => ?_)
      · have hE := if_t c_12 hE
        refine lv_iconst (v := 2) hx hb dL_third_51 (by decide) ?_
        obtain ⟨rfl, rfl⟩ := pair_x hE
        exact W.iret hx hb hr (fun t ht hWm => hW.qi ht hWm) hW.2.2.1.2.2 dL_third_52
      · have hE := if_f c_12 hE
        refine lv_aload_n hx hb dL_third_37 rfl (lv_at hl 0 rfl) ?_
        refine lv_bipush (v := 7) hx hb dL_third_38 (by decide) ?_
        refine lv_bipush (v := 7) hx hb dL_third_40 (by decide) ?_
        refine lv_bipush (v := 7) hx hb dL_third_42 (by decide) ?_
        refine lv_iconst (v := 1) hx hb dL_third_44 (by decide) ?_
        obtain ⟨r_15, st_13, hc_14, hE⟩ := ob2_some hE
        refine ww_callVi (As := [.int (7 : Int32), .int (7 : Int32), .int (7 : Int32), .int (1 : Int32)]) (rest := []) ⟨hx, hb, hml, hown, hts⟩ hW (ctX3_apply l D ks ad _ st_9 (7 : Int32) (7 : Int32) (7 : Int32) (1 : Int32) hc_14) (cwV 4 hts gL_third_X3_apply rfl rfl rfl (by decide +kernel) ⟨Nat.le_of_ble_eq_true rfl, Nat.le_of_ble_eq_true rfl⟩) hW.recvX rfl hl.1 rfl (Nat.le_of_ble_eq_true rfl) dL_third_45 ⟨Nat.zero_le _, Nat.zero_le _⟩ (fun H locs hW => ?_)
        refine lv_if_ge (tgt := 53) hx hb dL_third_48 (by decide) (fun c_16 => ?_) (fun c_16 => ?_)
        · have hE := if_t c_16 hE
          refine lv_aload_n hx hb dL_third_53 rfl (lv_at hl 0 rfl) ?_
          refine lv_bipush (v := 6) hx hb dL_third_54 (by decide) ?_
          refine lv_bipush (v := 7) hx hb dL_third_56 (by decide) ?_
          obtain ⟨r_18, hc_17, hE⟩ := ob_some hE
          refine ww_callVi (As := [.int (6 : Int32), .int (7 : Int32)]) (rest := []) ⟨hx, hb, hml, hown, hts⟩ hW (ctX3_compare l D ks ad _ st_13 (6 : Int32) (7 : Int32) hc_17) (cwV 2 hts gL_third_X3_compare rfl rfl rfl (by decide +kernel) ⟨Nat.le_of_ble_eq_true rfl, Nat.le_of_ble_eq_true rfl⟩) hW.recvX rfl hl.1 rfl (Nat.le_of_ble_eq_true rfl) dL_third_58 ⟨Nat.zero_le _, Nat.zero_le _⟩ (fun H locs hW => ?_)
          refine lv_if_ne (tgt := 79) hx hb dL_third_61 (by decide) (fun c_19 => ?_) (fun c_19 => ?_)
          · have hE := if_t c_19 hE
            refine lv_iconst (v := 0) hx hb dL_third_79 (by decide) ?_
            refine lv_istore_n (lv' := [(3, .int (0 : Int32)), (0, .ref (ad 0)), (1, .int x1), (2, .int x2)]) hx hb dL_third_80 rfl hl (by decide) rfl (fun ls hl => ?_)
            refine lv_aload_n hx hb dL_third_81 rfl (lv_at hl 1 rfl) ?_
            refine lv_bipush (v := 6) hx hb dL_third_82 (by decide) ?_
            refine lv_iconst (v := 0) hx hb dL_third_84 (by decide) ?_
            refine lv_iconst (v := 1) hx hb dL_third_85 (by decide) ?_
            refine lv_bipush (v := 8) hx hb dL_third_86 (by decide) ?_
            obtain ⟨r_22, st_20, hc_21, hE⟩ := ob2_some hE
            refine ww_callVi (As := [.int (6 : Int32), .int (0 : Int32), .int (1 : Int32), .int (8 : Int32)]) (rest := []) ⟨hx, hb, hml, hown, hts⟩ hW (ctX3_apply l D ks ad _ st_13 (6 : Int32) (0 : Int32) (1 : Int32) (8 : Int32) hc_21) (cwV 4 hts gL_third_X3_apply rfl rfl rfl (by decide +kernel) ⟨Nat.le_of_ble_eq_true rfl, Nat.le_of_ble_eq_true rfl⟩) hW.recvX rfl hl.1 rfl (Nat.le_of_ble_eq_true rfl) dL_third_88 ⟨Nat.zero_le _, Nat.zero_le _⟩ (fun H locs hW => ?_)
            refine lv_if_lt (tgt := 119) hx hb dL_third_91 (by decide) (fun c_23 => ?_) (fun c_23 => ?_)
            · have hE := if_t c_23 hE
              refine lv_iconst (v := 2) hx hb dL_third_119 (by decide) ?_
              obtain ⟨rfl, rfl⟩ := pair_x hE
              exact W.iret hx hb hr (fun t ht hWm => hW.qi ht hWm) hW.2.2.1.2.2 dL_third_120
            · have hE := if_f c_23 hE
              refine lv_aload_n hx hb dL_third_94 rfl (lv_at hl 1 rfl) ?_
              refine lv_bipush (v := 6) hx hb dL_third_95 (by decide) ?_
              refine lv_bipush (v := 6) hx hb dL_third_97 (by decide) ?_
              refine lv_iload_n hx hb dL_third_99 rfl (lv_at hl 2 rfl) ?_
              refine lv_iconst (v := 0) hx hb dL_third_100 (by decide) ?_
              obtain ⟨r_26, st_24, hc_25, hE⟩ := ob2_some hE
              refine ww_callVi (As := [.int (6 : Int32), .int (6 : Int32), .int x1, .int (0 : Int32)]) (rest := []) ⟨hx, hb, hml, hown, hts⟩ hW (ctX3_quantify l D ks ad _ st_20 (6 : Int32) (6 : Int32) x1 (0 : Int32) hc_25) (cwV 4 hts gL_third_X3_quantify rfl rfl rfl (by decide +kernel) ⟨Nat.le_of_ble_eq_true rfl, Nat.le_of_ble_eq_true rfl⟩) hW.recvX rfl hl.1 rfl (Nat.le_of_ble_eq_true rfl) dL_third_101 ⟨Nat.zero_le _, Nat.zero_le _⟩ (fun H locs hW => ?_)
              refine lv_if_lt (tgt := 119) hx hb dL_third_104 (by decide) (fun c_27 => ?_) (fun c_27 => ?_)
              · have hE := if_t c_27 hE
                refine lv_iconst (v := 2) hx hb dL_third_119 (by decide) ?_
                obtain ⟨rfl, rfl⟩ := pair_x hE
                exact W.iret hx hb hr (fun t ht hWm => hW.qi ht hWm) hW.2.2.1.2.2 dL_third_120
              · have hE := if_f c_27 hE
                refine lv_aload_n hx hb dL_third_107 rfl (lv_at hl 1 rfl) ?_
                refine lv_bipush (v := 7) hx hb dL_third_108 (by decide) ?_
                refine lv_iconst (v := 0) hx hb dL_third_110 (by decide) ?_
                refine lv_iconst (v := 1) hx hb dL_third_111 (by decide) ?_
                refine lv_iload_n hx hb dL_third_112 rfl (lv_at hl 2 rfl) ?_
                obtain ⟨r_30, st_28, hc_29, hE⟩ := ob2_some hE
                refine ww_callVi (As := [.int (7 : Int32), .int (0 : Int32), .int (1 : Int32), .int x1]) (rest := []) ⟨hx, hb, hml, hown, hts⟩ hW (ctX3_meet l D ks ad _ st_24 (7 : Int32) (0 : Int32) (1 : Int32) x1 hc_29) (cwV 4 hts gL_third_X3_meet rfl rfl rfl (by decide +kernel) ⟨Nat.le_of_ble_eq_true rfl, Nat.le_of_ble_eq_true rfl⟩) hW.recvX rfl hl.1 rfl (Nat.le_of_ble_eq_true rfl) dL_third_113 ⟨Nat.zero_le _, Nat.zero_le _⟩ (fun H locs hW => ?_)
                refine lv_if_ge (tgt := 121) hx hb dL_third_116 (by decide) (fun c_31 => ?_) (fun c_31 => ?_)
                · have hE := if_t c_31 hE
                  refine lv_iload_n hx hb dL_third_121 rfl (lv_at hl 0 rfl) ?_
                  refine lv_aload_n hx hb dL_third_122 rfl (lv_at hl 1 rfl) ?_
                  refine lv_bipush (v := 6) hx hb dL_third_123 (by decide) ?_
                  refine lv_bipush (v := 7) hx hb dL_third_125 (by decide) ?_
                  obtain ⟨r_33, hc_32, hE⟩ := ob_some hE
                  refine ww_callVi (As := [.int (6 : Int32), .int (7 : Int32)]) (rest := [.int (0 : Int32)]) ⟨hx, hb, hml, hown, hts⟩ hW (ctX3_compare l D ks ad _ st_28 (6 : Int32) (7 : Int32) hc_32) (cwV 2 hts gL_third_X3_compare rfl rfl rfl (by decide +kernel) ⟨Nat.le_of_ble_eq_true rfl, Nat.le_of_ble_eq_true rfl⟩) hW.recvX rfl hl.1 rfl (Nat.le_of_ble_eq_true rfl) dL_third_127 ⟨Nat.zero_le _, Nat.zero_le _⟩ (fun H locs hW => ?_)
                  refine lv_if_ne (tgt := 137) hx hb dL_third_130 (by decide) (fun c_34 => ?_) (fun c_34 => ?_)
                  · have hE := if_t c_34 hE
                    refine lv_iconst (v := 0) hx hb dL_third_137 (by decide) ?_
                    refine lv_iand hx hb dL_third_138 ?_
                    refine lv_nmi (y := (0 : Int32)) (by decide) ?_
                    refine lv_istore_n (lv' := [(3, .int (0 : Int32)), (0, .ref (ad 0)), (1, .int x1), (2, .int x2)]) hx hb dL_third_139 rfl hl (by decide) rfl (fun ls hl => ?_)
                    refine lv_aload_n hx hb dL_third_140 rfl (lv_at hl 1 rfl) ?_
                    refine lv_bipush (v := 6) hx hb dL_third_141 (by decide) ?_
                    refine lv_iconst (v := 0) hx hb dL_third_143 (by decide) ?_
                    refine lv_iconst (v := 1) hx hb dL_third_144 (by decide) ?_
                    refine lv_iload_n hx hb dL_third_145 rfl (lv_at hl 3 rfl) ?_
                    refine lv_ishl hx hb dL_third_146 ?_
                    refine lv_iconst (v := 2) hx hb dL_third_147 (by decide) ?_
                    obtain ⟨r_37, st_35, hc_36, hE⟩ := ob2_some hE
                    refine ww_callVi (As := [.int (6 : Int32), .int (0 : Int32), .int ((1 : Int32) <<< (x2 &&& 31)), .int (2 : Int32)]) (rest := []) ⟨hx, hb, hml, hown, hts⟩ hW (ctX3_quantify l D ks ad _ st_28 (6 : Int32) (0 : Int32) ((1 : Int32) <<< (x2 &&& 31)) (2 : Int32) hc_36) (cwV 4 hts gL_third_X3_quantify rfl rfl rfl (by decide +kernel) ⟨Nat.le_of_ble_eq_true rfl, Nat.le_of_ble_eq_true rfl⟩) hW.recvX rfl hl.1 rfl (Nat.le_of_ble_eq_true rfl) dL_third_148 ⟨Nat.zero_le _, Nat.zero_le _⟩ (fun H locs hW => ?_)
                    refine lv_if_ge (tgt := 156) hx hb dL_third_151 (by decide) (fun c_38 => ?_) (fun c_38 => ?_)
                    · have hE := if_t c_38 hE
                      refine lv_iload_n hx hb dL_third_156 rfl (lv_at hl 0 rfl) ?_
                      refine lv_if_eq (tgt := 179) hx hb dL_third_157 (by decide) (fun c_39 => ?_) (fun c_39 => ?_)
                      · refine lv_iconst (v := 0) hx hb dL_third_179 (by decide) ?_
                        obtain ⟨rfl, rfl⟩ := pair_x hE
                        exact W.iret hx hb hr (fun t ht hWm => hW.qi ht hWm) hW.2.2.1.2.2 dL_third_180
                      · exact absurd (by decide) c_39
                    · have hE := if_f c_38 hE
                      refine lv_iconst (v := 2) hx hb dL_third_154 (by decide) ?_
                      obtain ⟨rfl, rfl⟩ := pair_x hE
                      exact W.iret hx hb hr (fun t ht hWm => hW.qi ht hWm) hW.2.2.1.2.2 dL_third_155
                  · have hE := if_f (fun q => q c_34) hE
                    refine lv_iconst (v := 1) hx hb dL_third_133 (by decide) ?_
                    refine lv_goto (tgt := 138) hx hb dL_third_134 (by decide) ?_
                    refine lv_iand hx hb dL_third_138 ?_
                    refine lv_nmi (y := (0 : Int32)) (by decide) ?_
                    refine lv_istore_n (lv' := [(3, .int (0 : Int32)), (0, .ref (ad 0)), (1, .int x1), (2, .int x2)]) hx hb dL_third_139 rfl hl (by decide) rfl (fun ls hl => ?_)
                    refine lv_aload_n hx hb dL_third_140 rfl (lv_at hl 1 rfl) ?_
                    refine lv_bipush (v := 6) hx hb dL_third_141 (by decide) ?_
                    refine lv_iconst (v := 0) hx hb dL_third_143 (by decide) ?_
                    refine lv_iconst (v := 1) hx hb dL_third_144 (by decide) ?_
                    refine lv_iload_n hx hb dL_third_145 rfl (lv_at hl 3 rfl) ?_
                    refine lv_ishl hx hb dL_third_146 ?_
                    refine lv_iconst (v := 2) hx hb dL_third_147 (by decide) ?_
                    obtain ⟨r_42, st_40, hc_41, hE⟩ := ob2_some hE
                    refine ww_callVi (As := [.int (6 : Int32), .int (0 : Int32), .int ((1 : Int32) <<< (x2 &&& 31)), .int (2 : Int32)]) (rest := []) ⟨hx, hb, hml, hown, hts⟩ hW (ctX3_quantify l D ks ad _ st_28 (6 : Int32) (0 : Int32) ((1 : Int32) <<< (x2 &&& 31)) (2 : Int32) hc_41) (cwV 4 hts gL_third_X3_quantify rfl rfl rfl (by decide +kernel) ⟨Nat.le_of_ble_eq_true rfl, Nat.le_of_ble_eq_true rfl⟩) hW.recvX rfl hl.1 rfl (Nat.le_of_ble_eq_true rfl) dL_third_148 ⟨Nat.zero_le _, Nat.zero_le _⟩ (fun H locs hW => ?_)
                    refine lv_if_ge (tgt := 156) hx hb dL_third_151 (by decide) (fun c_43 => ?_) (fun c_43 => ?_)
                    · have hE := if_t c_43 hE
                      refine lv_iload_n hx hb dL_third_156 rfl (lv_at hl 0 rfl) ?_
                      refine lv_if_eq (tgt := 179) hx hb dL_third_157 (by decide) (fun c_44 => ?_) (fun c_44 => ?_)
                      · refine lv_iconst (v := 0) hx hb dL_third_179 (by decide) ?_
                        obtain ⟨rfl, rfl⟩ := pair_x hE
                        exact W.iret hx hb hr (fun t ht hWm => hW.qi ht hWm) hW.2.2.1.2.2 dL_third_180
                      · exact absurd (by decide) c_44
                    · have hE := if_f c_43 hE
                      refine lv_iconst (v := 2) hx hb dL_third_154 (by decide) ?_
                      obtain ⟨rfl, rfl⟩ := pair_x hE
                      exact W.iret hx hb hr (fun t ht hWm => hW.qi ht hWm) hW.2.2.1.2.2 dL_third_155
                · have hE := if_f c_31 hE
                  refine lv_iconst (v := 2) hx hb dL_third_119 (by decide) ?_
                  obtain ⟨rfl, rfl⟩ := pair_x hE
                  exact W.iret hx hb hr (fun t ht hWm => hW.qi ht hWm) hW.2.2.1.2.2 dL_third_120
          · have hE := if_f (fun q => q c_19) hE
            refine lv_aload_n hx hb dL_third_64 rfl (lv_at hl 0 rfl) ?_
            refine lv_bipush (v := 6) hx hb dL_third_65 (by decide) ?_
            obtain ⟨r_46, hc_45, hE⟩ := ob_some hE
            refine ww_callVi (As := [.int (6 : Int32)]) (rest := []) ⟨hx, hb, hml, hown, hts⟩ hW (ctX3_support l D ks ad _ st_13 (6 : Int32) hc_45) (cwV 1 hts gL_third_X3_support rfl rfl rfl (by decide +kernel) ⟨Nat.le_of_ble_eq_true rfl, Nat.le_of_ble_eq_true rfl⟩) hW.recvX rfl hl.1 rfl (Nat.le_of_ble_eq_true rfl) dL_third_67 ⟨Nat.zero_le _, Nat.zero_le _⟩ (fun H locs hW => ?_)
            refine lv_iload_n hx hb dL_third_70 rfl (lv_at hl 1 rfl) ?_
            refine lv_iand hx hb dL_third_71 ?_
            refine lv_if_ne (tgt := 79) hx hb dL_third_72 (by decide) (fun c_47 => ?_) (fun c_47 => ?_)
            · have hE := if_t c_47 hE
              refine lv_iconst (v := 0) hx hb dL_third_79 (by decide) ?_
              refine lv_istore_n (lv' := [(3, .int (0 : Int32)), (0, .ref (ad 0)), (1, .int x1), (2, .int x2)]) hx hb dL_third_80 rfl hl (by decide) rfl (fun ls hl => ?_)
              refine lv_aload_n hx hb dL_third_81 rfl (lv_at hl 1 rfl) ?_
              refine lv_bipush (v := 6) hx hb dL_third_82 (by decide) ?_
              refine lv_iconst (v := 0) hx hb dL_third_84 (by decide) ?_
              refine lv_iconst (v := 1) hx hb dL_third_85 (by decide) ?_
              refine lv_bipush (v := 8) hx hb dL_third_86 (by decide) ?_
              obtain ⟨r_50, st_48, hc_49, hE⟩ := ob2_some hE
              refine ww_callVi (As := [.int (6 : Int32), .int (0 : Int32), .int (1 : Int32), .int (8 : Int32)]) (rest := []) ⟨hx, hb, hml, hown, hts⟩ hW (ctX3_apply l D ks ad _ st_13 (6 : Int32) (0 : Int32) (1 : Int32) (8 : Int32) hc_49) (cwV 4 hts gL_third_X3_apply rfl rfl rfl (by decide +kernel) ⟨Nat.le_of_ble_eq_true rfl, Nat.le_of_ble_eq_true rfl⟩) hW.recvX rfl hl.1 rfl (Nat.le_of_ble_eq_true rfl) dL_third_88 ⟨Nat.zero_le _, Nat.zero_le _⟩ (fun H locs hW => ?_)
              refine lv_if_lt (tgt := 119) hx hb dL_third_91 (by decide) (fun c_51 => ?_) (fun c_51 => ?_)
              · have hE := if_t c_51 hE
                refine lv_iconst (v := 2) hx hb dL_third_119 (by decide) ?_
                obtain ⟨rfl, rfl⟩ := pair_x hE
                exact W.iret hx hb hr (fun t ht hWm => hW.qi ht hWm) hW.2.2.1.2.2 dL_third_120
              · have hE := if_f c_51 hE
                refine lv_aload_n hx hb dL_third_94 rfl (lv_at hl 1 rfl) ?_
                refine lv_bipush (v := 6) hx hb dL_third_95 (by decide) ?_
                refine lv_bipush (v := 6) hx hb dL_third_97 (by decide) ?_
                refine lv_iload_n hx hb dL_third_99 rfl (lv_at hl 2 rfl) ?_
                refine lv_iconst (v := 0) hx hb dL_third_100 (by decide) ?_
                obtain ⟨r_54, st_52, hc_53, hE⟩ := ob2_some hE
                refine ww_callVi (As := [.int (6 : Int32), .int (6 : Int32), .int x1, .int (0 : Int32)]) (rest := []) ⟨hx, hb, hml, hown, hts⟩ hW (ctX3_quantify l D ks ad _ st_48 (6 : Int32) (6 : Int32) x1 (0 : Int32) hc_53) (cwV 4 hts gL_third_X3_quantify rfl rfl rfl (by decide +kernel) ⟨Nat.le_of_ble_eq_true rfl, Nat.le_of_ble_eq_true rfl⟩) hW.recvX rfl hl.1 rfl (Nat.le_of_ble_eq_true rfl) dL_third_101 ⟨Nat.zero_le _, Nat.zero_le _⟩ (fun H locs hW => ?_)
                refine lv_if_lt (tgt := 119) hx hb dL_third_104 (by decide) (fun c_55 => ?_) (fun c_55 => ?_)
                · have hE := if_t c_55 hE
                  refine lv_iconst (v := 2) hx hb dL_third_119 (by decide) ?_
                  obtain ⟨rfl, rfl⟩ := pair_x hE
                  exact W.iret hx hb hr (fun t ht hWm => hW.qi ht hWm) hW.2.2.1.2.2 dL_third_120
                · have hE := if_f c_55 hE
                  refine lv_aload_n hx hb dL_third_107 rfl (lv_at hl 1 rfl) ?_
                  refine lv_bipush (v := 7) hx hb dL_third_108 (by decide) ?_
                  refine lv_iconst (v := 0) hx hb dL_third_110 (by decide) ?_
                  refine lv_iconst (v := 1) hx hb dL_third_111 (by decide) ?_
                  refine lv_iload_n hx hb dL_third_112 rfl (lv_at hl 2 rfl) ?_
                  obtain ⟨r_58, st_56, hc_57, hE⟩ := ob2_some hE
                  refine ww_callVi (As := [.int (7 : Int32), .int (0 : Int32), .int (1 : Int32), .int x1]) (rest := []) ⟨hx, hb, hml, hown, hts⟩ hW (ctX3_meet l D ks ad _ st_52 (7 : Int32) (0 : Int32) (1 : Int32) x1 hc_57) (cwV 4 hts gL_third_X3_meet rfl rfl rfl (by decide +kernel) ⟨Nat.le_of_ble_eq_true rfl, Nat.le_of_ble_eq_true rfl⟩) hW.recvX rfl hl.1 rfl (Nat.le_of_ble_eq_true rfl) dL_third_113 ⟨Nat.zero_le _, Nat.zero_le _⟩ (fun H locs hW => ?_)
                  refine lv_if_ge (tgt := 121) hx hb dL_third_116 (by decide) (fun c_59 => ?_) (fun c_59 => ?_)
                  · have hE := if_t c_59 hE
                    refine lv_iload_n hx hb dL_third_121 rfl (lv_at hl 0 rfl) ?_
                    refine lv_aload_n hx hb dL_third_122 rfl (lv_at hl 1 rfl) ?_
                    refine lv_bipush (v := 6) hx hb dL_third_123 (by decide) ?_
                    refine lv_bipush (v := 7) hx hb dL_third_125 (by decide) ?_
                    obtain ⟨r_61, hc_60, hE⟩ := ob_some hE
                    refine ww_callVi (As := [.int (6 : Int32), .int (7 : Int32)]) (rest := [.int (0 : Int32)]) ⟨hx, hb, hml, hown, hts⟩ hW (ctX3_compare l D ks ad _ st_56 (6 : Int32) (7 : Int32) hc_60) (cwV 2 hts gL_third_X3_compare rfl rfl rfl (by decide +kernel) ⟨Nat.le_of_ble_eq_true rfl, Nat.le_of_ble_eq_true rfl⟩) hW.recvX rfl hl.1 rfl (Nat.le_of_ble_eq_true rfl) dL_third_127 ⟨Nat.zero_le _, Nat.zero_le _⟩ (fun H locs hW => ?_)
                    refine lv_if_ne (tgt := 137) hx hb dL_third_130 (by decide) (fun c_62 => ?_) (fun c_62 => ?_)
                    · have hE := if_t c_62 hE
                      refine lv_iconst (v := 0) hx hb dL_third_137 (by decide) ?_
                      refine lv_iand hx hb dL_third_138 ?_
                      refine lv_nmi (y := (0 : Int32)) (by decide) ?_
                      refine lv_istore_n (lv' := [(3, .int (0 : Int32)), (0, .ref (ad 0)), (1, .int x1), (2, .int x2)]) hx hb dL_third_139 rfl hl (by decide) rfl (fun ls hl => ?_)
                      refine lv_aload_n hx hb dL_third_140 rfl (lv_at hl 1 rfl) ?_
                      refine lv_bipush (v := 6) hx hb dL_third_141 (by decide) ?_
                      refine lv_iconst (v := 0) hx hb dL_third_143 (by decide) ?_
                      refine lv_iconst (v := 1) hx hb dL_third_144 (by decide) ?_
                      refine lv_iload_n hx hb dL_third_145 rfl (lv_at hl 3 rfl) ?_
                      refine lv_ishl hx hb dL_third_146 ?_
                      refine lv_iconst (v := 2) hx hb dL_third_147 (by decide) ?_
                      obtain ⟨r_65, st_63, hc_64, hE⟩ := ob2_some hE
                      refine ww_callVi (As := [.int (6 : Int32), .int (0 : Int32), .int ((1 : Int32) <<< (x2 &&& 31)), .int (2 : Int32)]) (rest := []) ⟨hx, hb, hml, hown, hts⟩ hW (ctX3_quantify l D ks ad _ st_56 (6 : Int32) (0 : Int32) ((1 : Int32) <<< (x2 &&& 31)) (2 : Int32) hc_64) (cwV 4 hts gL_third_X3_quantify rfl rfl rfl (by decide +kernel) ⟨Nat.le_of_ble_eq_true rfl, Nat.le_of_ble_eq_true rfl⟩) hW.recvX rfl hl.1 rfl (Nat.le_of_ble_eq_true rfl) dL_third_148 ⟨Nat.zero_le _, Nat.zero_le _⟩ (fun H locs hW => ?_)
                      refine lv_if_ge (tgt := 156) hx hb dL_third_151 (by decide) (fun c_66 => ?_) (fun c_66 => ?_)
                      · have hE := if_t c_66 hE
                        refine lv_iload_n hx hb dL_third_156 rfl (lv_at hl 0 rfl) ?_
                        refine lv_if_eq (tgt := 179) hx hb dL_third_157 (by decide) (fun c_67 => ?_) (fun c_67 => ?_)
                        · refine lv_iconst (v := 0) hx hb dL_third_179 (by decide) ?_
                          obtain ⟨rfl, rfl⟩ := pair_x hE
                          exact W.iret hx hb hr (fun t ht hWm => hW.qi ht hWm) hW.2.2.1.2.2 dL_third_180
                        · exact absurd (by decide) c_67
                      · have hE := if_f c_66 hE
                        refine lv_iconst (v := 2) hx hb dL_third_154 (by decide) ?_
                        obtain ⟨rfl, rfl⟩ := pair_x hE
                        exact W.iret hx hb hr (fun t ht hWm => hW.qi ht hWm) hW.2.2.1.2.2 dL_third_155
                    · have hE := if_f (fun q => q c_62) hE
                      refine lv_iconst (v := 1) hx hb dL_third_133 (by decide) ?_
                      refine lv_goto (tgt := 138) hx hb dL_third_134 (by decide) ?_
                      refine lv_iand hx hb dL_third_138 ?_
                      refine lv_nmi (y := (0 : Int32)) (by decide) ?_
                      refine lv_istore_n (lv' := [(3, .int (0 : Int32)), (0, .ref (ad 0)), (1, .int x1), (2, .int x2)]) hx hb dL_third_139 rfl hl (by decide) rfl (fun ls hl => ?_)
                      refine lv_aload_n hx hb dL_third_140 rfl (lv_at hl 1 rfl) ?_
                      refine lv_bipush (v := 6) hx hb dL_third_141 (by decide) ?_
                      refine lv_iconst (v := 0) hx hb dL_third_143 (by decide) ?_
                      refine lv_iconst (v := 1) hx hb dL_third_144 (by decide) ?_
                      refine lv_iload_n hx hb dL_third_145 rfl (lv_at hl 3 rfl) ?_
                      refine lv_ishl hx hb dL_third_146 ?_
                      refine lv_iconst (v := 2) hx hb dL_third_147 (by decide) ?_
                      obtain ⟨r_70, st_68, hc_69, hE⟩ := ob2_some hE
                      refine ww_callVi (As := [.int (6 : Int32), .int (0 : Int32), .int ((1 : Int32) <<< (x2 &&& 31)), .int (2 : Int32)]) (rest := []) ⟨hx, hb, hml, hown, hts⟩ hW (ctX3_quantify l D ks ad _ st_56 (6 : Int32) (0 : Int32) ((1 : Int32) <<< (x2 &&& 31)) (2 : Int32) hc_69) (cwV 4 hts gL_third_X3_quantify rfl rfl rfl (by decide +kernel) ⟨Nat.le_of_ble_eq_true rfl, Nat.le_of_ble_eq_true rfl⟩) hW.recvX rfl hl.1 rfl (Nat.le_of_ble_eq_true rfl) dL_third_148 ⟨Nat.zero_le _, Nat.zero_le _⟩ (fun H locs hW => ?_)
                      refine lv_if_ge (tgt := 156) hx hb dL_third_151 (by decide) (fun c_71 => ?_) (fun c_71 => ?_)
                      · have hE := if_t c_71 hE
                        refine lv_iload_n hx hb dL_third_156 rfl (lv_at hl 0 rfl) ?_
                        refine lv_if_eq (tgt := 179) hx hb dL_third_157 (by decide) (fun c_72 => ?_) (fun c_72 => ?_)
                        · refine lv_iconst (v := 0) hx hb dL_third_179 (by decide) ?_
                          obtain ⟨rfl, rfl⟩ := pair_x hE
                          exact W.iret hx hb hr (fun t ht hWm => hW.qi ht hWm) hW.2.2.1.2.2 dL_third_180
                        · exact absurd (by decide) c_72
                      · have hE := if_f c_71 hE
                        refine lv_iconst (v := 2) hx hb dL_third_154 (by decide) ?_
                        obtain ⟨rfl, rfl⟩ := pair_x hE
                        exact W.iret hx hb hr (fun t ht hWm => hW.qi ht hWm) hW.2.2.1.2.2 dL_third_155
                  · have hE := if_f c_59 hE
                    refine lv_iconst (v := 2) hx hb dL_third_119 (by decide) ?_
                    obtain ⟨rfl, rfl⟩ := pair_x hE
                    exact W.iret hx hb hr (fun t ht hWm => hW.qi ht hWm) hW.2.2.1.2.2 dL_third_120
            · have hE := if_f (fun q => q c_47) hE
              refine lv_iconst (v := 1) hx hb dL_third_75 (by decide) ?_
              refine lv_goto (tgt := 80) hx hb dL_third_76 (by decide) ?_
              refine lv_istore_n (lv' := [(3, .int (1 : Int32)), (0, .ref (ad 0)), (1, .int x1), (2, .int x2)]) hx hb dL_third_80 rfl hl (by decide) rfl (fun ls hl => ?_)
              refine lv_aload_n hx hb dL_third_81 rfl (lv_at hl 1 rfl) ?_
              refine lv_bipush (v := 6) hx hb dL_third_82 (by decide) ?_
              refine lv_iconst (v := 0) hx hb dL_third_84 (by decide) ?_
              refine lv_iconst (v := 1) hx hb dL_third_85 (by decide) ?_
              refine lv_bipush (v := 8) hx hb dL_third_86 (by decide) ?_
              obtain ⟨r_75, st_73, hc_74, hE⟩ := ob2_some hE
              refine ww_callVi (As := [.int (6 : Int32), .int (0 : Int32), .int (1 : Int32), .int (8 : Int32)]) (rest := []) ⟨hx, hb, hml, hown, hts⟩ hW (ctX3_apply l D ks ad _ st_13 (6 : Int32) (0 : Int32) (1 : Int32) (8 : Int32) hc_74) (cwV 4 hts gL_third_X3_apply rfl rfl rfl (by decide +kernel) ⟨Nat.le_of_ble_eq_true rfl, Nat.le_of_ble_eq_true rfl⟩) hW.recvX rfl hl.1 rfl (Nat.le_of_ble_eq_true rfl) dL_third_88 ⟨Nat.zero_le _, Nat.zero_le _⟩ (fun H locs hW => ?_)
              refine lv_if_lt (tgt := 119) hx hb dL_third_91 (by decide) (fun c_76 => ?_) (fun c_76 => ?_)
              · have hE := if_t c_76 hE
                refine lv_iconst (v := 2) hx hb dL_third_119 (by decide) ?_
                obtain ⟨rfl, rfl⟩ := pair_x hE
                exact W.iret hx hb hr (fun t ht hWm => hW.qi ht hWm) hW.2.2.1.2.2 dL_third_120
              · have hE := if_f c_76 hE
                refine lv_aload_n hx hb dL_third_94 rfl (lv_at hl 1 rfl) ?_
                refine lv_bipush (v := 6) hx hb dL_third_95 (by decide) ?_
                refine lv_bipush (v := 6) hx hb dL_third_97 (by decide) ?_
                refine lv_iload_n hx hb dL_third_99 rfl (lv_at hl 2 rfl) ?_
                refine lv_iconst (v := 0) hx hb dL_third_100 (by decide) ?_
                obtain ⟨r_79, st_77, hc_78, hE⟩ := ob2_some hE
                refine ww_callVi (As := [.int (6 : Int32), .int (6 : Int32), .int x1, .int (0 : Int32)]) (rest := []) ⟨hx, hb, hml, hown, hts⟩ hW (ctX3_quantify l D ks ad _ st_73 (6 : Int32) (6 : Int32) x1 (0 : Int32) hc_78) (cwV 4 hts gL_third_X3_quantify rfl rfl rfl (by decide +kernel) ⟨Nat.le_of_ble_eq_true rfl, Nat.le_of_ble_eq_true rfl⟩) hW.recvX rfl hl.1 rfl (Nat.le_of_ble_eq_true rfl) dL_third_101 ⟨Nat.zero_le _, Nat.zero_le _⟩ (fun H locs hW => ?_)
                refine lv_if_lt (tgt := 119) hx hb dL_third_104 (by decide) (fun c_80 => ?_) (fun c_80 => ?_)
                · have hE := if_t c_80 hE
                  refine lv_iconst (v := 2) hx hb dL_third_119 (by decide) ?_
                  obtain ⟨rfl, rfl⟩ := pair_x hE
                  exact W.iret hx hb hr (fun t ht hWm => hW.qi ht hWm) hW.2.2.1.2.2 dL_third_120
                · have hE := if_f c_80 hE
                  refine lv_aload_n hx hb dL_third_107 rfl (lv_at hl 1 rfl) ?_
                  refine lv_bipush (v := 7) hx hb dL_third_108 (by decide) ?_
                  refine lv_iconst (v := 0) hx hb dL_third_110 (by decide) ?_
                  refine lv_iconst (v := 1) hx hb dL_third_111 (by decide) ?_
                  refine lv_iload_n hx hb dL_third_112 rfl (lv_at hl 2 rfl) ?_
                  obtain ⟨r_83, st_81, hc_82, hE⟩ := ob2_some hE
                  refine ww_callVi (As := [.int (7 : Int32), .int (0 : Int32), .int (1 : Int32), .int x1]) (rest := []) ⟨hx, hb, hml, hown, hts⟩ hW (ctX3_meet l D ks ad _ st_77 (7 : Int32) (0 : Int32) (1 : Int32) x1 hc_82) (cwV 4 hts gL_third_X3_meet rfl rfl rfl (by decide +kernel) ⟨Nat.le_of_ble_eq_true rfl, Nat.le_of_ble_eq_true rfl⟩) hW.recvX rfl hl.1 rfl (Nat.le_of_ble_eq_true rfl) dL_third_113 ⟨Nat.zero_le _, Nat.zero_le _⟩ (fun H locs hW => ?_)
                  refine lv_if_ge (tgt := 121) hx hb dL_third_116 (by decide) (fun c_84 => ?_) (fun c_84 => ?_)
                  · have hE := if_t c_84 hE
                    refine lv_iload_n hx hb dL_third_121 rfl (lv_at hl 0 rfl) ?_
                    refine lv_aload_n hx hb dL_third_122 rfl (lv_at hl 1 rfl) ?_
                    refine lv_bipush (v := 6) hx hb dL_third_123 (by decide) ?_
                    refine lv_bipush (v := 7) hx hb dL_third_125 (by decide) ?_
                    obtain ⟨r_86, hc_85, hE⟩ := ob_some hE
                    refine ww_callVi (As := [.int (6 : Int32), .int (7 : Int32)]) (rest := [.int (1 : Int32)]) ⟨hx, hb, hml, hown, hts⟩ hW (ctX3_compare l D ks ad _ st_81 (6 : Int32) (7 : Int32) hc_85) (cwV 2 hts gL_third_X3_compare rfl rfl rfl (by decide +kernel) ⟨Nat.le_of_ble_eq_true rfl, Nat.le_of_ble_eq_true rfl⟩) hW.recvX rfl hl.1 rfl (Nat.le_of_ble_eq_true rfl) dL_third_127 ⟨Nat.zero_le _, Nat.zero_le _⟩ (fun H locs hW => ?_)
                    refine lv_if_ne (tgt := 137) hx hb dL_third_130 (by decide) (fun c_87 => ?_) (fun c_87 => ?_)
                    · have hE := if_t c_87 hE
                      refine lv_iconst (v := 0) hx hb dL_third_137 (by decide) ?_
                      refine lv_iand hx hb dL_third_138 ?_
                      refine lv_nmi (y := (0 : Int32)) (by decide) ?_
                      refine lv_istore_n (lv' := [(3, .int (0 : Int32)), (0, .ref (ad 0)), (1, .int x1), (2, .int x2)]) hx hb dL_third_139 rfl hl (by decide) rfl (fun ls hl => ?_)
                      refine lv_aload_n hx hb dL_third_140 rfl (lv_at hl 1 rfl) ?_
                      refine lv_bipush (v := 6) hx hb dL_third_141 (by decide) ?_
                      refine lv_iconst (v := 0) hx hb dL_third_143 (by decide) ?_
                      refine lv_iconst (v := 1) hx hb dL_third_144 (by decide) ?_
                      refine lv_iload_n hx hb dL_third_145 rfl (lv_at hl 3 rfl) ?_
                      refine lv_ishl hx hb dL_third_146 ?_
                      refine lv_iconst (v := 2) hx hb dL_third_147 (by decide) ?_
                      obtain ⟨r_90, st_88, hc_89, hE⟩ := ob2_some hE
                      refine ww_callVi (As := [.int (6 : Int32), .int (0 : Int32), .int ((1 : Int32) <<< (x2 &&& 31)), .int (2 : Int32)]) (rest := []) ⟨hx, hb, hml, hown, hts⟩ hW (ctX3_quantify l D ks ad _ st_81 (6 : Int32) (0 : Int32) ((1 : Int32) <<< (x2 &&& 31)) (2 : Int32) hc_89) (cwV 4 hts gL_third_X3_quantify rfl rfl rfl (by decide +kernel) ⟨Nat.le_of_ble_eq_true rfl, Nat.le_of_ble_eq_true rfl⟩) hW.recvX rfl hl.1 rfl (Nat.le_of_ble_eq_true rfl) dL_third_148 ⟨Nat.zero_le _, Nat.zero_le _⟩ (fun H locs hW => ?_)
                      refine lv_if_ge (tgt := 156) hx hb dL_third_151 (by decide) (fun c_91 => ?_) (fun c_91 => ?_)
                      · have hE := if_t c_91 hE
                        refine lv_iload_n hx hb dL_third_156 rfl (lv_at hl 0 rfl) ?_
                        refine lv_if_eq (tgt := 179) hx hb dL_third_157 (by decide) (fun c_92 => ?_) (fun c_92 => ?_)
                        · refine lv_iconst (v := 0) hx hb dL_third_179 (by decide) ?_
                          obtain ⟨rfl, rfl⟩ := pair_x hE
                          exact W.iret hx hb hr (fun t ht hWm => hW.qi ht hWm) hW.2.2.1.2.2 dL_third_180
                        · exact absurd (by decide) c_92
                      · have hE := if_f c_91 hE
                        refine lv_iconst (v := 2) hx hb dL_third_154 (by decide) ?_
                        obtain ⟨rfl, rfl⟩ := pair_x hE
                        exact W.iret hx hb hr (fun t ht hWm => hW.qi ht hWm) hW.2.2.1.2.2 dL_third_155
                    · have hE := if_f (fun q => q c_87) hE
                      refine lv_iconst (v := 1) hx hb dL_third_133 (by decide) ?_
                      refine lv_goto (tgt := 138) hx hb dL_third_134 (by decide) ?_
                      refine lv_iand hx hb dL_third_138 ?_
                      refine lv_nmi (y := (1 : Int32)) (by decide) ?_
                      refine lv_istore_n (lv' := [(3, .int (1 : Int32)), (0, .ref (ad 0)), (1, .int x1), (2, .int x2)]) hx hb dL_third_139 rfl hl (by decide) rfl (fun ls hl => ?_)
                      refine lv_aload_n hx hb dL_third_140 rfl (lv_at hl 1 rfl) ?_
                      refine lv_bipush (v := 6) hx hb dL_third_141 (by decide) ?_
                      refine lv_iconst (v := 0) hx hb dL_third_143 (by decide) ?_
                      refine lv_iconst (v := 1) hx hb dL_third_144 (by decide) ?_
                      refine lv_iload_n hx hb dL_third_145 rfl (lv_at hl 3 rfl) ?_
                      refine lv_ishl hx hb dL_third_146 ?_
                      refine lv_iconst (v := 2) hx hb dL_third_147 (by decide) ?_
                      obtain ⟨r_95, st_93, hc_94, hE⟩ := ob2_some hE
                      refine ww_callVi (As := [.int (6 : Int32), .int (0 : Int32), .int ((1 : Int32) <<< (x2 &&& 31)), .int (2 : Int32)]) (rest := []) ⟨hx, hb, hml, hown, hts⟩ hW (ctX3_quantify l D ks ad _ st_81 (6 : Int32) (0 : Int32) ((1 : Int32) <<< (x2 &&& 31)) (2 : Int32) hc_94) (cwV 4 hts gL_third_X3_quantify rfl rfl rfl (by decide +kernel) ⟨Nat.le_of_ble_eq_true rfl, Nat.le_of_ble_eq_true rfl⟩) hW.recvX rfl hl.1 rfl (Nat.le_of_ble_eq_true rfl) dL_third_148 ⟨Nat.zero_le _, Nat.zero_le _⟩ (fun H locs hW => ?_)
                      refine lv_if_ge (tgt := 156) hx hb dL_third_151 (by decide) (fun c_96 => ?_) (fun c_96 => ?_)
                      · have hE := if_t c_96 hE
                        refine lv_iload_n hx hb dL_third_156 rfl (lv_at hl 0 rfl) ?_
                        refine lv_if_eq (tgt := 179) hx hb dL_third_157 (by decide) (fun c_97 => ?_) (fun c_97 => ?_)
                        · exact absurd c_97 (by decide)
                        · refine lv_aload_n hx hb dL_third_160 rfl (lv_at hl 1 rfl) ?_
                          refine lv_bipush (v := 6) hx hb dL_third_161 (by decide) ?_
                          obtain ⟨r_99, hc_98, hE⟩ := ob_some hE
                          refine ww_callVi (As := [.int (6 : Int32)]) (rest := []) ⟨hx, hb, hml, hown, hts⟩ hW (ctX3_models l D ks ad _ st_93 (6 : Int32) hc_98) (cwV 1 hts gL_third_X3_models rfl rfl rfl (by decide +kernel) ⟨Nat.le_of_ble_eq_true rfl, Nat.le_of_ble_eq_true rfl⟩) hW.recvX rfl hl.1 rfl (Nat.le_of_ble_eq_true rfl) dL_third_163 ⟨Nat.zero_le _, Nat.zero_le _⟩ (fun H locs hW => ?_)
                          refine lv_aload_n hx hb dL_third_166 rfl (lv_at hl 1 rfl) ?_
                          refine lv_iconst (v := 0) hx hb dL_third_167 (by decide) ?_
                          refine lv_iload_n hx hb dL_third_168 rfl (lv_at hl 3 rfl) ?_
                          obtain ⟨r_101, hc_100, hE⟩ := ob_some hE
                          refine ww_callVi (As := [.int (0 : Int32), .int x2]) (rest := [.int r_99]) ⟨hx, hb, hml, hown, hts⟩ hW (ctX3_influence l D ks ad _ st_93 (0 : Int32) x2 hc_100) (cwV 2 hts gL_third_X3_influence rfl rfl rfl (by decide +kernel) ⟨Nat.le_of_ble_eq_true rfl, Nat.le_of_ble_eq_true rfl⟩) hW.recvX rfl hl.1 rfl (Nat.le_of_ble_eq_true rfl) dL_third_169 ⟨Nat.zero_le _, Nat.zero_le _⟩ (fun H locs hW => ?_)
                          refine lv_icmp_ne (tgt := 179) hx hb dL_third_172 (by decide) (fun c_102 => ?_) (fun c_102 => ?_)
                          · have hE := if_t c_102 hE
                            refine lv_iconst (v := 0) hx hb dL_third_179 (by decide) ?_
                            obtain ⟨rfl, rfl⟩ := pair_x hE
                            exact W.iret hx hb hr (fun t ht hWm => hW.qi ht hWm) hW.2.2.1.2.2 dL_third_180
                          · have hE := if_f (fun q => q c_102) hE
                            refine lv_iconst (v := 1) hx hb dL_third_175 (by decide) ?_
                            refine lv_goto (tgt := 180) hx hb dL_third_176 (by decide) ?_
                            obtain ⟨rfl, rfl⟩ := pair_x hE
                            exact W.iret hx hb hr (fun t ht hWm => hW.qi ht hWm) hW.2.2.1.2.2 dL_third_180
                      · have hE := if_f c_96 hE
                        refine lv_iconst (v := 2) hx hb dL_third_154 (by decide) ?_
                        obtain ⟨rfl, rfl⟩ := pair_x hE
                        exact W.iret hx hb hr (fun t ht hWm => hW.qi ht hWm) hW.2.2.1.2.2 dL_third_155
                  · have hE := if_f c_84 hE
                    refine lv_iconst (v := 2) hx hb dL_third_119 (by decide) ?_
                    obtain ⟨rfl, rfl⟩ := pair_x hE
                    exact W.iret hx hb hr (fun t ht hWm => hW.qi ht hWm) hW.2.2.1.2.2 dL_third_120
        · have hE := if_f c_16 hE
          refine lv_iconst (v := 2) hx hb dL_third_51 (by decide) ?_
          obtain ⟨rfl, rfl⟩ := pair_x hE
          exact W.iret hx hb hr (fun t ht hWm => hW.qi ht hWm) hW.2.2.1.2.2 dL_third_52
abbrev rmL_fourth : Room := { frames := 18, cells := 0, slots := 0, locals := 406 }
set_option maxHeartbeats 4000000 in
set_option maxRecDepth 100000 in
theorem ctL_fourth (l : Launch) (D : va_G) (ks : KA) (ad : Nat → Nat) (sz : Nat) (st : St)   {r : Int32} {st' : St} (hE : sL_fourth st  = some (r, st')) : CI l D ks yL_fourth wsL_fourth rmL_fourth [.ref (ad 0)] ad sz st r st' := by
  unfold sL_fourth at hE
  refine Met.ofW (cc := cL_fourth) (maxL := 1) (ret := (some .int)) (by decide) rfl ?_
  intro p e s m args below meth c s₁ B hml hv
  obtain ⟨hargs, hPW⟩ := hv
  have hW := WW.entry hPW
  have hx := B.exec
  have hb := B.bytes
  have hr := B.returns
  have hts := atoms_spec (ws := wsL_fourth) B.pre
  have hown : s.vm.findClass RL = some m.cls := findClass_of_methodNamed B.named
  have hlocks := B.notSynchronized
  have hl := lv_entry ([.ref (ad 0)]) (n := 1) (Nat.le_of_ble_eq_true rfl)
  have hfr : entryFrame m args 1 = F0 m 0 (lg_sl ([.ref (ad 0)]) ++ List.replicate (1 - (lg_sl ([.ref (ad 0)])).length) Slot.unset).toArray [] := by rw [hargs, lg_entry_eq]
  rw [hfr]
  generalize (lg_sl ([.ref (ad 0)]) ++ List.replicate (1 - (lg_sl ([.ref (ad 0)])).length) Slot.unset).toArray = ls at hl ⊢
  have hl : lv_has ls 1 [(0, .ref (ad 0))] := hl
  refine lv_aload_n hx hb dL_fourth_0 rfl (lv_at hl 0 rfl) ?_
  refine lv_iconst (v := 1) hx hb dL_fourth_1 (by decide) ?_
  obtain ⟨r_2, hc_1, hE⟩ := ob_some hE
  refine ww_callVi (As := [.int (1 : Int32)]) (rest := []) ⟨hx, hb, hml, hown, hts⟩ hW (ctX3_models l D ks ad _ st (1 : Int32) hc_1) (cwV 1 hts gL_fourth_X3_models rfl rfl rfl (by decide +kernel) ⟨Nat.le_of_ble_eq_true rfl, Nat.le_of_ble_eq_true rfl⟩) hW.recvX rfl hl.1 rfl (Nat.le_of_ble_eq_true rfl) dL_fourth_2 ⟨Nat.zero_le _, Nat.zero_le _⟩ (fun H locs hW => ?_)
  refine lv_if_ne (tgt := 10) hx hb dL_fourth_5 (by decide) (fun c_3 => ?_) (fun c_3 => ?_)
  · have hE := if_t c_3 hE
    refine lv_aload_n hx hb dL_fourth_10 rfl (lv_at hl 0 rfl) ?_
    refine lv_bipush (v := 6) hx hb dL_fourth_11 (by decide) ?_
    refine lv_iconst (v := 0) hx hb dL_fourth_13 (by decide) ?_
    refine lv_iconst (v := 1) hx hb dL_fourth_14 (by decide) ?_
    obtain ⟨r_6, st_4, hc_5, hE⟩ := ob2_some hE
    refine ww_callVi (As := [.int (6 : Int32), .int (0 : Int32), .int (1 : Int32)]) (rest := []) ⟨hx, hb, hml, hown, hts⟩ hW (ctX3_press l D ks ad _ st (6 : Int32) (0 : Int32) (1 : Int32) hc_5) (cwV 3 hts gL_fourth_X3_press rfl rfl rfl (by decide +kernel) ⟨Nat.le_of_ble_eq_true rfl, Nat.le_of_ble_eq_true rfl⟩) hW.recvX rfl hl.1 rfl (Nat.le_of_ble_eq_true rfl) dL_fourth_15 ⟨Nat.zero_le _, Nat.zero_le _⟩ (fun H locs hW => ?_)
    refine lv_if_lt (tgt := 48) hx hb dL_fourth_18 (by decide) (fun c_7 => ?_) (fun c_7 => ?_)
    · have hE := if_t c_7 hE
      refine lv_iconst (v := 2) hx hb dL_fourth_48 (by decide) ?_
      obtain ⟨rfl, rfl⟩ := pair_x hE
      exact W.iret hx hb hr (fun t ht hWm => hW.qi ht hWm) hW.2.2.1.2.2 dL_fourth_49
    · have hE := if_f c_7 hE
      refine lv_aload_n hx hb dL_fourth_21 rfl (lv_at hl 0 rfl) ?_
      refine lv_bipush (v := 7) hx hb dL_fourth_22 (by decide) ?_
      refine lv_bipush (v := 6) hx hb dL_fourth_24 (by decide) ?_
      refine lv_iconst (v := 1) hx hb dL_fourth_26 (by decide) ?_
      refine lv_bipush (v := 8) hx hb dL_fourth_27 (by decide) ?_
      obtain ⟨r_10, st_8, hc_9, hE⟩ := ob2_some hE
      refine ww_callVi (As := [.int (7 : Int32), .int (6 : Int32), .int (1 : Int32), .int (8 : Int32)]) (rest := []) ⟨hx, hb, hml, hown, hts⟩ hW (ctX3_apply l D ks ad _ st_4 (7 : Int32) (6 : Int32) (1 : Int32) (8 : Int32) hc_9) (cwV 4 hts gL_fourth_X3_apply rfl rfl rfl (by decide +kernel) ⟨Nat.le_of_ble_eq_true rfl, Nat.le_of_ble_eq_true rfl⟩) hW.recvX rfl hl.1 rfl (Nat.le_of_ble_eq_true rfl) dL_fourth_29 ⟨Nat.zero_le _, Nat.zero_le _⟩ (fun H locs hW => ?_)
      refine lv_if_lt (tgt := 48) hx hb dL_fourth_32 (by decide) (fun c_11 => ?_) (fun c_11 => ?_)
      · have hE := if_t c_11 hE
        refine lv_iconst (v := 2) hx hb dL_fourth_48 (by decide) ?_
        obtain ⟨rfl, rfl⟩ := pair_x hE
        exact W.iret hx hb hr (fun t ht hWm => hW.qi ht hWm) hW.2.2.1.2.2 dL_fourth_49
      · have hE := if_f c_11 hE
        refine lv_aload_n hx hb dL_fourth_35 rfl (lv_at hl 0 rfl) ?_
        refine lv_bipush (v := 9) hx hb dL_fourth_36 (by decide) ?_
        refine lv_iconst (v := 0) hx hb dL_fourth_38 (by decide) ?_
        refine lv_iconst (v := 1) hx hb dL_fourth_39 (by decide) ?_
        refine lv_bipush (v := 8) hx hb dL_fourth_40 (by decide) ?_
        obtain ⟨r_14, st_12, hc_13, hE⟩ := ob2_some hE
        refine ww_callVi (As := [.int (9 : Int32), .int (0 : Int32), .int (1 : Int32), .int (8 : Int32)]) (rest := []) ⟨hx, hb, hml, hown, hts⟩ hW (ctX3_apply l D ks ad _ st_8 (9 : Int32) (0 : Int32) (1 : Int32) (8 : Int32) hc_13) (cwV 4 hts gL_fourth_X3_apply rfl rfl rfl (by decide +kernel) ⟨Nat.le_of_ble_eq_true rfl, Nat.le_of_ble_eq_true rfl⟩) hW.recvX rfl hl.1 rfl (Nat.le_of_ble_eq_true rfl) dL_fourth_42 ⟨Nat.zero_le _, Nat.zero_le _⟩ (fun H locs hW => ?_)
        refine lv_if_ge (tgt := 50) hx hb dL_fourth_45 (by decide) (fun c_15 => ?_) (fun c_15 => ?_)
        · have hE := if_t c_15 hE
          refine lv_aload_n hx hb dL_fourth_50 rfl (lv_at hl 0 rfl) ?_
          refine lv_bipush (v := 7) hx hb dL_fourth_51 (by decide) ?_
          refine lv_bipush (v := 9) hx hb dL_fourth_53 (by decide) ?_
          obtain ⟨r_17, hc_16, hE⟩ := ob_some hE
          refine ww_callVi (As := [.int (7 : Int32), .int (9 : Int32)]) (rest := []) ⟨hx, hb, hml, hown, hts⟩ hW (ctX3_compare l D ks ad _ st_12 (7 : Int32) (9 : Int32) hc_16) (cwV 2 hts gL_fourth_X3_compare rfl rfl rfl (by decide +kernel) ⟨Nat.le_of_ble_eq_true rfl, Nat.le_of_ble_eq_true rfl⟩) hW.recvX rfl hl.1 rfl (Nat.le_of_ble_eq_true rfl) dL_fourth_55 ⟨Nat.zero_le _, Nat.zero_le _⟩ (fun H locs hW => ?_)
          refine lv_if_ne (tgt := 65) hx hb dL_fourth_58 (by decide) (fun c_18 => ?_) (fun c_18 => ?_)
          · have hE := if_t c_18 hE
            refine lv_iconst (v := 0) hx hb dL_fourth_65 (by decide) ?_
            obtain ⟨rfl, rfl⟩ := pair_x hE
            exact W.iret hx hb hr (fun t ht hWm => hW.qi ht hWm) hW.2.2.1.2.2 dL_fourth_66
          · have hE := if_f (fun q => q c_18) hE
            refine lv_iconst (v := 1) hx hb dL_fourth_61 (by decide) ?_
            refine lv_goto (tgt := 66) hx hb dL_fourth_62 (by decide) ?_
            obtain ⟨rfl, rfl⟩ := pair_x hE
            exact W.iret hx hb hr (fun t ht hWm => hW.qi ht hWm) hW.2.2.1.2.2 dL_fourth_66
        · have hE := if_f c_15 hE
          refine lv_iconst (v := 2) hx hb dL_fourth_48 (by decide) ?_
          obtain ⟨rfl, rfl⟩ := pair_x hE
          exact W.iret hx hb hr (fun t ht hWm => hW.qi ht hWm) hW.2.2.1.2.2 dL_fourth_49
  · have hE := if_f (fun q => q c_3) hE
    refine lv_iconst (v := 1) hx hb dL_fourth_8 (by decide) ?_
    obtain ⟨rfl, rfl⟩ := pair_x hE
    exact W.iret hx hb hr (fun t ht hWm => hW.qi ht hWm) hW.2.2.1.2.2 dL_fourth_9
