/-! CONTRACTS, laid by wip/p40/gen.py -/
abbrev rmX0_count : Room := { frames := 0, cells := 0, slots := 0, locals := 0 }
set_option maxRecDepth 100000 in
theorem in0_X0_count : ∀ w ∈ wsX00, w ∈ wsX0_count := by decide +kernel
set_option maxHeartbeats 4000000 in
set_option maxRecDepth 100000 in
theorem ctX0_count (l : Launch) (D : va_G) (ks : KA) (ad : Nat → Nat) (sz : Nat) (st : St)   {r : Int32}  (hE : sX0_count st  = some r) : CI l D ks yX0_count wsX0_count rmX0_count [.ref (ad 6)] ad sz st r st := by
  unfold sX0_count at hE
  refine Met.ofW (cc := cX0_count) (maxL := 1) (ret := (some .int)) (by decide) rfl ?_
  intro p e s m args below meth c s₁ B hml hv
  obtain ⟨hargs, hPW⟩ := hv
  have hW := WW.entry hPW
  have hx := B.exec
  have hb := B.bytes
  have hr := B.returns
  have hts := atoms_spec (ws := wsX0_count) B.pre
  have hown : s.vm.findClass RX0 = some m.cls := findClass_of_methodNamed B.named
  have hlocks := B.notSynchronized
  have hin0 : ∀ w ∈ u_ws RX0 TX0 17, w ∈ wsX0_count := in0_X0_count
  have hf55 := hts (.fieldLink RX0 55 "Trellis$Diagram" "nodes" "I") (by decide +kernel)
  have hl := lv_entry ([.ref (ad 6)]) (n := 1) (Nat.le_of_ble_eq_true rfl)
  have hfr : entryFrame m args 1 = F0 m 0 (lg_sl ([.ref (ad 6)]) ++ List.replicate (1 - (lg_sl ([.ref (ad 6)])).length) Slot.unset).toArray [] := by rw [hargs, lg_entry_eq]
  rw [hfr]
  generalize (lg_sl ([.ref (ad 6)]) ++ List.replicate (1 - (lg_sl ([.ref (ad 6)])).length) Slot.unset).toArray = ls at hl ⊢
  have hl : lv_has ls 1 [(0, .ref (ad 6))] := hl
  refine lv_aload_n hx hb dX0_count_0 rfl (lv_at hl 0 rfl) ?_
  refine ww_get (C := RX0) (T := TX0) (N := 17) (ref := RX0) (ci := 0) (v := .int (gF 1 st)) hx hb hts hin0 hown hW 6 (by decide) rfl rfl 14 (by decide) hf55 (fun _ h9 => h9) rfl dX0_count_1 ?_
  obtain rfl := some_x hE
  exact W.iret hx hb hr (fun t ht hWm => hW.qi ht hWm) hW.2.2.1.2.2 dX0_count_4
abbrev rmX0_isLevel : Room := { frames := 0, cells := 0, slots := 0, locals := 0 }
set_option maxHeartbeats 4000000 in
set_option maxRecDepth 100000 in
theorem ctX0_isLevel (l : Launch) (D : va_G) (ks : KA) (ad : Nat → Nat) (sz : Nat) (st : St) (x0 : Int32)  {r : Int32}  (hE : sX0_isLevel st x0 = some r) : CI l D ks yX0_isLevel wsX0_isLevel rmX0_isLevel [.int x0] ad sz st r st := by
  unfold sX0_isLevel at hE
  refine Met.ofW (cc := cX0_isLevel) (maxL := 1) (ret := (some .boolean)) (by decide) rfl ?_
  intro p e s m args below meth c s₁ B hml hv
  obtain ⟨hargs, hPW⟩ := hv
  have hW := WW.entry hPW
  have hx := B.exec
  have hb := B.bytes
  have hr := B.returns
  have hts := atoms_spec (ws := wsX0_isLevel) B.pre
  have hown : s.vm.findClass RX0 = some m.cls := findClass_of_methodNamed B.named
  have hlocks := B.notSynchronized
  have hl := lv_entry ([.int x0]) (n := 1) (Nat.le_of_ble_eq_true rfl)
  have hfr : entryFrame m args 1 = F0 m 0 (lg_sl ([.int x0]) ++ List.replicate (1 - (lg_sl ([.int x0])).length) Slot.unset).toArray [] := by rw [hargs, lg_entry_eq]
  rw [hfr]
  generalize (lg_sl ([.int x0]) ++ List.replicate (1 - (lg_sl ([.int x0])).length) Slot.unset).toArray = ls at hl ⊢
  have hl : lv_has ls 1 [(0, .int x0)] := hl
  refine lv_iload_n hx hb dX0_isLevel_0 rfl (lv_at hl 0 rfl) ?_
  refine lv_if_lt (tgt := 14) hx hb dX0_isLevel_1 (by decide) (fun c_1 => ?_) (fun c_1 => ?_)
  · have hE := if_t c_1 hE
    refine lv_iconst (v := 0) hx hb dX0_isLevel_14 (by decide) ?_
    obtain rfl := some_x hE
    exact W.zret hx hb hr rfl (fun t ht hWm => hW.qi ht hWm) hW.2.2.1.2.2 dX0_isLevel_15
  · have hE := if_f c_1 hE
    refine lv_iload_n hx hb dX0_isLevel_4 rfl (lv_at hl 0 rfl) ?_
    refine lv_bipush (v := 10) hx hb dX0_isLevel_5 (by decide) ?_
    refine lv_icmp_ge (tgt := 14) hx hb dX0_isLevel_7 (by decide) (fun c_2 => ?_) (fun c_2 => ?_)
    · have hE := if_t c_2 hE
      refine lv_iconst (v := 0) hx hb dX0_isLevel_14 (by decide) ?_
      obtain rfl := some_x hE
      exact W.zret hx hb hr rfl (fun t ht hWm => hW.qi ht hWm) hW.2.2.1.2.2 dX0_isLevel_15
    · have hE := if_f c_2 hE
      refine lv_iconst (v := 1) hx hb dX0_isLevel_10 (by decide) ?_
      refine lv_goto (tgt := 15) hx hb dX0_isLevel_11 (by decide) ?_
      obtain rfl := some_x hE
      exact W.zret hx hb hr rfl (fun t ht hWm => hW.qi ht hWm) hW.2.2.1.2.2 dX0_isLevel_15
abbrev rmX0_countAt : Room := { frames := 1, cells := 0, slots := 0, locals := 20 }
set_option maxRecDepth 100000 in
theorem in0_X0_countAt : ∀ w ∈ wsX00, w ∈ wsX0_countAt := by decide +kernel
set_option maxHeartbeats 4000000 in
set_option maxRecDepth 100000 in
theorem ctX0_countAt (l : Launch) (D : va_G) (ks : KA) (ad : Nat → Nat) (sz : Nat) (st : St) (x1 : Int32)  {r : Int32}  (hE : sX0_countAt st x1 = some r) : CI l D ks yX0_countAt wsX0_countAt rmX0_countAt [.ref (ad 6), .int x1] ad sz st r st := by
  unfold sX0_countAt at hE
  refine Met.ofW (cc := cX0_countAt) (maxL := 2) (ret := (some .int)) (by decide) rfl ?_
  intro p e s m args below meth c s₁ B hml hv
  obtain ⟨hargs, hPW⟩ := hv
  have hW := WW.entry hPW
  have hx := B.exec
  have hb := B.bytes
  have hr := B.returns
  have hts := atoms_spec (ws := wsX0_countAt) B.pre
  have hown : s.vm.findClass RX0 = some m.cls := findClass_of_methodNamed B.named
  have hlocks := B.notSynchronized
  have hin0 : ∀ w ∈ u_ws RX0 TX0 17, w ∈ wsX0_countAt := in0_X0_countAt
  have hf18 := hts (.fieldLink RX0 18 "Trellis$Diagram" "counts" "[I") (by decide +kernel)
  have hl := lv_entry ([.ref (ad 6), .int x1]) (n := 2) (Nat.le_of_ble_eq_true rfl)
  have hfr : entryFrame m args 2 = F0 m 0 (lg_sl ([.ref (ad 6), .int x1]) ++ List.replicate (2 - (lg_sl ([.ref (ad 6), .int x1])).length) Slot.unset).toArray [] := by rw [hargs, lg_entry_eq]
  rw [hfr]
  generalize (lg_sl ([.ref (ad 6), .int x1]) ++ List.replicate (2 - (lg_sl ([.ref (ad 6), .int x1])).length) Slot.unset).toArray = ls at hl ⊢
  have hl : lv_has ls 2 [(0, .ref (ad 6)), (1, .int x1)] := hl
  refine lv_iload_n hx hb dX0_countAt_0 rfl (lv_at hl 1 rfl) ?_
  obtain ⟨r_2, hc_1, hE⟩ := ob_some hE
  refine ww_callSi (As := [.int x1]) (rest := []) ⟨hx, hb, hml, hown, hts⟩ hW (ctX0_isLevel l D ks ad _ st x1 hc_1) (va_cwS 1 hts gX0_countAt_X0_isLevel rfl rfl rfl (by decide +kernel) ⟨Nat.le_of_ble_eq_true rfl, Nat.le_of_ble_eq_true rfl⟩) rfl hl.1 rfl (Nat.le_of_ble_eq_true rfl) dX0_countAt_1 ⟨Nat.zero_le _, Nat.zero_le _⟩ (fun H locs hW => ?_)
  refine lv_if_eq (tgt := 16) hx hb dX0_countAt_4 (by decide) (fun c_3 => ?_) (fun c_3 => ?_)
  · have hE := if_t c_3 hE
    refine lv_iconst (v := 0) hx hb dX0_countAt_16 (by decide) ?_
    obtain rfl := some_x hE
    exact W.iret hx hb hr (fun t ht hWm => hW.qi ht hWm) hW.2.2.1.2.2 dX0_countAt_17
  · have hE := if_f c_3 hE
    refine lv_aload_n hx hb dX0_countAt_7 rfl (lv_at hl 0 rfl) ?_
    refine ww_get (C := RX0) (T := TX0) (N := 17) (ref := RX0) (ci := 0) (v := .ref (ad (ic 6))) hx hb hts hin0 hown hW 6 (by decide) rfl rfl 2 (by decide) hf18 (fun _ h9 => h9) rfl dX0_countAt_8 ?_
    refine lv_iload_n hx hb dX0_countAt_11 rfl (lv_at hl 1 rfl) ?_
    obtain ⟨hin, hE⟩ := gd_some hE
    refine ww_iald hx hb hW 6 (by decide) hin dX0_countAt_12 ?_
    refine lv_goto (tgt := 17) hx hb dX0_countAt_13 (by decide) ?_
    obtain rfl := some_x hE
    exact W.iret hx hb hr (fun t ht hWm => hW.qi ht hWm) hW.2.2.1.2.2 dX0_countAt_17
abbrev rmX0_variableOf : Room := { frames := 1, cells := 0, slots := 0, locals := 20 }
set_option maxRecDepth 100000 in
theorem in0_X0_variableOf : ∀ w ∈ wsX00, w ∈ wsX0_variableOf := by decide +kernel
set_option maxHeartbeats 4000000 in
set_option maxRecDepth 100000 in
theorem ctX0_variableOf (l : Launch) (D : va_G) (ks : KA) (ad : Nat → Nat) (sz : Nat) (st : St) (x1 : Int32)  {r : Int32}  (hE : sX0_variableOf st x1 = some r) : CI l D ks yX0_variableOf wsX0_variableOf rmX0_variableOf [.ref (ad 6), .int x1] ad sz st r st := by
  unfold sX0_variableOf at hE
  refine Met.ofW (cc := cX0_variableOf) (maxL := 2) (ret := (some .int)) (by decide) rfl ?_
  intro p e s m args below meth c s₁ B hml hv
  obtain ⟨hargs, hPW⟩ := hv
  have hW := WW.entry hPW
  have hx := B.exec
  have hb := B.bytes
  have hr := B.returns
  have hts := atoms_spec (ws := wsX0_variableOf) B.pre
  have hown : s.vm.findClass RX0 = some m.cls := findClass_of_methodNamed B.named
  have hlocks := B.notSynchronized
  have hin0 : ∀ w ∈ u_ws RX0 TX0 17, w ∈ wsX0_variableOf := in0_X0_variableOf
  have hf9 := hts (.fieldLink RX0 9 "Trellis$Diagram" "order" "[I") (by decide +kernel)
  have hl := lv_entry ([.ref (ad 6), .int x1]) (n := 2) (Nat.le_of_ble_eq_true rfl)
  have hfr : entryFrame m args 2 = F0 m 0 (lg_sl ([.ref (ad 6), .int x1]) ++ List.replicate (2 - (lg_sl ([.ref (ad 6), .int x1])).length) Slot.unset).toArray [] := by rw [hargs, lg_entry_eq]
  rw [hfr]
  generalize (lg_sl ([.ref (ad 6), .int x1]) ++ List.replicate (2 - (lg_sl ([.ref (ad 6), .int x1])).length) Slot.unset).toArray = ls at hl ⊢
  have hl : lv_has ls 2 [(0, .ref (ad 6)), (1, .int x1)] := hl
  refine lv_iload_n hx hb dX0_variableOf_0 rfl (lv_at hl 1 rfl) ?_
  obtain ⟨r_2, hc_1, hE⟩ := ob_some hE
  refine ww_callSi (As := [.int x1]) (rest := []) ⟨hx, hb, hml, hown, hts⟩ hW (ctX0_isLevel l D ks ad _ st x1 hc_1) (va_cwS 1 hts gX0_variableOf_X0_isLevel rfl rfl rfl (by decide +kernel) ⟨Nat.le_of_ble_eq_true rfl, Nat.le_of_ble_eq_true rfl⟩) rfl hl.1 rfl (Nat.le_of_ble_eq_true rfl) dX0_variableOf_1 ⟨Nat.zero_le _, Nat.zero_le _⟩ (fun H locs hW => ?_)
  refine lv_if_eq (tgt := 16) hx hb dX0_variableOf_4 (by decide) (fun c_3 => ?_) (fun c_3 => ?_)
  · have hE := if_t c_3 hE
    refine lv_iconst (v := 0) hx hb dX0_variableOf_16 (by decide) ?_
    obtain rfl := some_x hE
    exact W.iret hx hb hr (fun t ht hWm => hW.qi ht hWm) hW.2.2.1.2.2 dX0_variableOf_17
  · have hE := if_f c_3 hE
    refine lv_aload_n hx hb dX0_variableOf_7 rfl (lv_at hl 0 rfl) ?_
    refine ww_get (C := RX0) (T := TX0) (N := 17) (ref := RX0) (ci := 0) (v := .ref (ad (ic 4))) hx hb hts hin0 hown hW 6 (by decide) rfl rfl 0 (by decide) hf9 (fun _ h9 => h9) rfl dX0_variableOf_8 ?_
    refine lv_iload_n hx hb dX0_variableOf_11 rfl (lv_at hl 1 rfl) ?_
    obtain ⟨hin, hE⟩ := gd_some hE
    refine ww_iald hx hb hW 4 (by decide) hin dX0_variableOf_12 ?_
    refine lv_goto (tgt := 17) hx hb dX0_variableOf_13 (by decide) ?_
    obtain rfl := some_x hE
    exact W.iret hx hb hr (fun t ht hWm => hW.qi ht hWm) hW.2.2.1.2.2 dX0_variableOf_17
abbrev rmX0_levelOf : Room := { frames := 0, cells := 0, slots := 0, locals := 0 }
set_option maxRecDepth 100000 in
theorem in0_X0_levelOf : ∀ w ∈ wsX00, w ∈ wsX0_levelOf := by decide +kernel
set_option maxHeartbeats 4000000 in
set_option maxRecDepth 100000 in
theorem ctX0_levelOf (l : Launch) (D : va_G) (ks : KA) (ad : Nat → Nat) (sz : Nat) (st : St) (x1 : Int32)  {r : Int32}  (hE : sX0_levelOf st x1 = some r) : CI l D ks yX0_levelOf wsX0_levelOf rmX0_levelOf [.ref (ad 6), .int x1] ad sz st r st := by
  unfold sX0_levelOf at hE
  refine Met.ofW (cc := cX0_levelOf) (maxL := 3) (ret := (some .int)) (by decide) rfl ?_
  intro p e s m args below meth c s₁ B hml hv
  obtain ⟨hargs, hPW⟩ := hv
  have hW := WW.entry hPW
  have hx := B.exec
  have hb := B.bytes
  have hr := B.returns
  have hts := atoms_spec (ws := wsX0_levelOf) B.pre
  have hown : s.vm.findClass RX0 = some m.cls := findClass_of_methodNamed B.named
  have hlocks := B.notSynchronized
  have hin0 : ∀ w ∈ u_ws RX0 TX0 17, w ∈ wsX0_levelOf := in0_X0_levelOf
  have hf9 := hts (.fieldLink RX0 9 "Trellis$Diagram" "order" "[I") (by decide +kernel)
  have hl := lv_entry ([.ref (ad 6), .int x1]) (n := 3) (Nat.le_of_ble_eq_true rfl)
  have hfr : entryFrame m args 3 = F0 m 0 (lg_sl ([.ref (ad 6), .int x1]) ++ List.replicate (3 - (lg_sl ([.ref (ad 6), .int x1])).length) Slot.unset).toArray [] := by rw [hargs, lg_entry_eq]
  rw [hfr]
  generalize (lg_sl ([.ref (ad 6), .int x1]) ++ List.replicate (3 - (lg_sl ([.ref (ad 6), .int x1])).length) Slot.unset).toArray = ls at hl ⊢
  have hl : lv_has ls 3 [(0, .ref (ad 6)), (1, .int x1)] := hl
  have L2 : ∀ (n : Nat) (st : St) (x1 : Int32) (x2 : Int32)  (z : (Int32) ⊕ (Unit)) (H : Heap) (locs : List Loc) (ls : Array Slot), sX0_levelOf_L2 n st x1 x2 = some z → WW D ks ad (AA ad sz) s st H locs → lv_has ls 3 [(0, .ref (ad 6)), (1, .int x1), (2, .int x2)] → (z = .inr () → ∀ (H : Heap) (locs : List Loc) (ls : Array Slot), WW D ks ad (AA ad sz) s st H locs → lv_has ls 3 [] → W p l e (headSpec wsX0_levelOf rmX0_levelOf).room s m args below meth c H locs 0 0 (MQ below (va_Qi (fun (x : Int32) (u : St) => x = r ∧ u = st) (QW D ks ad sz) (AA ad sz)) args s 0 0 (AA ad sz)) (F0 m 26 ls [])) → (∀ a : Int32, z = .inl a → a = r) → W p l e (headSpec wsX0_levelOf rmX0_levelOf).room s m args below meth c H locs 0 0 (MQ below (va_Qi (fun (x : Int32) (u : St) => x = r ∧ u = st) (QW D ks ad sz) (AA ad sz)) args s 0 0 (AA ad sz)) (F0 m 2 ls []) := by
    intro n
    induction n with
    | zero =>
      intro st x1 x2 z H locs ls hE hW hl kx kr
      exact none_x hE
    | succ n ih =>
      intro st x1 x2 z H locs ls hE hW hl kx kr
      rw [sX0_levelOf_L2] at hE
      refine lv_iload_n hx hb dX0_levelOf_2 rfl (lv_at hl 2 rfl) ?_
      refine lv_bipush (v := 10) hx hb dX0_levelOf_3 (by decide) ?_
      refine lv_icmp_ge (tgt := 26) hx hb dX0_levelOf_5 (by decide) (fun c_1 => ?_) (fun c_1 => ?_)
      · have hE := if_t c_1 hE
        exact kx  (some_x hE).symm _ _ _ hW (lv_sub hl [] rfl)
      · have hE := if_f c_1 hE
        refine lv_aload_n hx hb dX0_levelOf_8 rfl (lv_at hl 0 rfl) ?_
        refine ww_get (C := RX0) (T := TX0) (N := 17) (ref := RX0) (ci := 0) (v := .ref (ad (ic 4))) hx hb hts hin0 hown hW 6 (by decide) rfl rfl 0 (by decide) hf9 (fun _ h9 => h9) rfl dX0_levelOf_9 ?_
        refine lv_iload_n hx hb dX0_levelOf_12 rfl (lv_at hl 2 rfl) ?_
        obtain ⟨hin, hE⟩ := gd_some hE
        refine ww_iald hx hb hW 4 (by decide) hin dX0_levelOf_13 ?_
        refine lv_iload_n hx hb dX0_levelOf_14 rfl (lv_at hl 1 rfl) ?_
        refine lv_icmp_ne (tgt := 20) hx hb dX0_levelOf_15 (by decide) (fun c_2 => ?_) (fun c_2 => ?_)
        · have hE := if_t c_2 hE
          obtain ⟨x2_3, e, hE⟩ := lt_some hE
          refine lv_iinc (v := x2_3) (lv' := [(2, .int x2_3), (0, .ref (ad 6)), (1, .int x1)]) hx hb dX0_levelOf_20 hl (k := 2) rfl (by rw [e]; rfl) (by decide) rfl (fun ls hl => ?_)
          refine lv_goto (tgt := 2) hx hb dX0_levelOf_23 (by decide) ?_
          exact ih st x1 x2_3 _ _ _ _ hE hW (lv_sub hl [1, 2, 0] rfl) kx kr
        · have hE := if_f (fun q => q c_2) hE
          refine lv_iload_n hx hb dX0_levelOf_18 rfl (lv_at hl 2 rfl) ?_
          have hE := kr _ (some_x hE).symm
          obtain rfl := hE
          exact W.iret hx hb hr (fun t ht hWm => hW.qi ht hWm) hW.2.2.1.2.2 dX0_levelOf_19
  refine lv_iconst (v := 0) hx hb dX0_levelOf_0 (by decide) ?_
  refine lv_istore_n (lv' := [(2, .int (0 : Int32)), (0, .ref (ad 6)), (1, .int x1)]) hx hb dX0_levelOf_1 rfl hl (by decide) rfl (fun ls hl => ?_)
  obtain ⟨z_4, hz, hz1, hz2⟩ := obS_some hE
  exact L2 FU st x1 (0 : Int32) z_4 _ _ _ hz hW (lv_sub hl [1, 2, 0] rfl) (fun  e H locs ls hW hl => by
      have hE := hz2 _ e
      refine lv_iconst (v := 0) hx hb dX0_levelOf_26 (by decide) ?_
      obtain rfl := some_x hE
      exact W.iret hx hb hr (fun t ht hWm => hW.qi ht hWm) hW.2.2.1.2.2 dX0_levelOf_27) (fun a e => some_x (hz1 a e))
abbrev rmX0_isNode : Room := { frames := 0, cells := 0, slots := 0, locals := 0 }
set_option maxHeartbeats 4000000 in
set_option maxRecDepth 100000 in
theorem ctX0_isNode (l : Launch) (D : va_G) (ks : KA) (ad : Nat → Nat) (sz : Nat) (st : St) (x0 : Int32)  {r : Int32}  (hE : sX0_isNode st x0 = some r) : CI l D ks yX0_isNode wsX0_isNode rmX0_isNode [.int x0] ad sz st r st := by
  unfold sX0_isNode at hE
  refine Met.ofW (cc := cX0_isNode) (maxL := 1) (ret := (some .boolean)) (by decide) rfl ?_
  intro p e s m args below meth c s₁ B hml hv
  obtain ⟨hargs, hPW⟩ := hv
  have hW := WW.entry hPW
  have hx := B.exec
  have hb := B.bytes
  have hr := B.returns
  have hts := atoms_spec (ws := wsX0_isNode) B.pre
  have hown : s.vm.findClass RX0 = some m.cls := findClass_of_methodNamed B.named
  have hlocks := B.notSynchronized
  have hl := lv_entry ([.int x0]) (n := 1) (Nat.le_of_ble_eq_true rfl)
  have hfr : entryFrame m args 1 = F0 m 0 (lg_sl ([.int x0]) ++ List.replicate (1 - (lg_sl ([.int x0])).length) Slot.unset).toArray [] := by rw [hargs, lg_entry_eq]
  rw [hfr]
  generalize (lg_sl ([.int x0]) ++ List.replicate (1 - (lg_sl ([.int x0])).length) Slot.unset).toArray = ls at hl ⊢
  have hl : lv_has ls 1 [(0, .int x0)] := hl
  refine lv_iload_n hx hb dX0_isNode_0 rfl (lv_at hl 0 rfl) ?_
  refine lv_iconst (v := 2) hx hb dX0_isNode_1 (by decide) ?_
  refine lv_icmp_lt (tgt := 16) hx hb dX0_isNode_2 (by decide) (fun c_1 => ?_) (fun c_1 => ?_)
  · have hE := if_t c_1 hE
    refine lv_iconst (v := 0) hx hb dX0_isNode_16 (by decide) ?_
    obtain rfl := some_x hE
    exact W.zret hx hb hr rfl (fun t ht hWm => hW.qi ht hWm) hW.2.2.1.2.2 dX0_isNode_17
  · have hE := if_f c_1 hE
    refine lv_iload_n hx hb dX0_isNode_5 rfl (lv_at hl 0 rfl) ?_
    refine lv_sipush (v := 2560) hx hb dX0_isNode_6 (by decide) ?_
    refine lv_icmp_ge (tgt := 16) hx hb dX0_isNode_9 (by decide) (fun c_2 => ?_) (fun c_2 => ?_)
    · have hE := if_t c_2 hE
      refine lv_iconst (v := 0) hx hb dX0_isNode_16 (by decide) ?_
      obtain rfl := some_x hE
      exact W.zret hx hb hr rfl (fun t ht hWm => hW.qi ht hWm) hW.2.2.1.2.2 dX0_isNode_17
    · have hE := if_f c_2 hE
      refine lv_iconst (v := 1) hx hb dX0_isNode_12 (by decide) ?_
      refine lv_goto (tgt := 17) hx hb dX0_isNode_13 (by decide) ?_
      obtain rfl := some_x hE
      exact W.zret hx hb hr rfl (fun t ht hWm => hW.qi ht hWm) hW.2.2.1.2.2 dX0_isNode_17
abbrev rmX0_levelAt : Room := { frames := 1, cells := 0, slots := 0, locals := 20 }
set_option maxRecDepth 100000 in
theorem in0_X0_levelAt : ∀ w ∈ wsX00, w ∈ wsX0_levelAt := by decide +kernel
set_option maxHeartbeats 4000000 in
set_option maxRecDepth 100000 in
theorem ctX0_levelAt (l : Launch) (D : va_G) (ks : KA) (ad : Nat → Nat) (sz : Nat) (st : St) (x1 : Int32)  {r : Int32}  (hE : sX0_levelAt st x1 = some r) : CI l D ks yX0_levelAt wsX0_levelAt rmX0_levelAt [.ref (ad 6), .int x1] ad sz st r st := by
  unfold sX0_levelAt at hE
  refine Met.ofW (cc := cX0_levelAt) (maxL := 2) (ret := (some .int)) (by decide) rfl ?_
  intro p e s m args below meth c s₁ B hml hv
  obtain ⟨hargs, hPW⟩ := hv
  have hW := WW.entry hPW
  have hx := B.exec
  have hb := B.bytes
  have hr := B.returns
  have hts := atoms_spec (ws := wsX0_levelAt) B.pre
  have hown : s.vm.findClass RX0 = some m.cls := findClass_of_methodNamed B.named
  have hlocks := B.notSynchronized
  have hin0 : ∀ w ∈ u_ws RX0 TX0 17, w ∈ wsX0_levelAt := in0_X0_levelAt
  have hf24 := hts (.fieldLink RX0 24 "Trellis$Diagram" "levels" "[I") (by decide +kernel)
  have hl := lv_entry ([.ref (ad 6), .int x1]) (n := 2) (Nat.le_of_ble_eq_true rfl)
  have hfr : entryFrame m args 2 = F0 m 0 (lg_sl ([.ref (ad 6), .int x1]) ++ List.replicate (2 - (lg_sl ([.ref (ad 6), .int x1])).length) Slot.unset).toArray [] := by rw [hargs, lg_entry_eq]
  rw [hfr]
  generalize (lg_sl ([.ref (ad 6), .int x1]) ++ List.replicate (2 - (lg_sl ([.ref (ad 6), .int x1])).length) Slot.unset).toArray = ls at hl ⊢
  have hl : lv_has ls 2 [(0, .ref (ad 6)), (1, .int x1)] := hl
  refine lv_iload_n hx hb dX0_levelAt_0 rfl (lv_at hl 1 rfl) ?_
  obtain ⟨r_2, hc_1, hE⟩ := ob_some hE
  refine ww_callSi (As := [.int x1]) (rest := []) ⟨hx, hb, hml, hown, hts⟩ hW (ctX0_isNode l D ks ad _ st x1 hc_1) (va_cwS 1 hts gX0_levelAt_X0_isNode rfl rfl rfl (by decide +kernel) ⟨Nat.le_of_ble_eq_true rfl, Nat.le_of_ble_eq_true rfl⟩) rfl hl.1 rfl (Nat.le_of_ble_eq_true rfl) dX0_levelAt_1 ⟨Nat.zero_le _, Nat.zero_le _⟩ (fun H locs hW => ?_)
  refine lv_if_eq (tgt := 16) hx hb dX0_levelAt_4 (by decide) (fun c_3 => ?_) (fun c_3 => ?_)
  · have hE := if_t c_3 hE
    refine lv_bipush (v := 10) hx hb dX0_levelAt_16 (by decide) ?_
    obtain rfl := some_x hE
    exact W.iret hx hb hr (fun t ht hWm => hW.qi ht hWm) hW.2.2.1.2.2 dX0_levelAt_18
  · have hE := if_f c_3 hE
    refine lv_aload_n hx hb dX0_levelAt_7 rfl (lv_at hl 0 rfl) ?_
    refine ww_get (C := RX0) (T := TX0) (N := 17) (ref := RX0) (ci := 0) (v := .ref (ad (ic 8))) hx hb hts hin0 hown hW 6 (by decide) rfl rfl 4 (by decide) hf24 (fun _ h9 => h9) rfl dX0_levelAt_8 ?_
    refine lv_iload_n hx hb dX0_levelAt_11 rfl (lv_at hl 1 rfl) ?_
    obtain ⟨hin, hE⟩ := gd_some hE
    refine ww_iald hx hb hW 8 (by decide) hin dX0_levelAt_12 ?_
    refine lv_goto (tgt := 18) hx hb dX0_levelAt_13 (by decide) ?_
    obtain rfl := some_x hE
    exact W.iret hx hb hr (fun t ht hWm => hW.qi ht hWm) hW.2.2.1.2.2 dX0_levelAt_18
abbrev rmX0_lowOf : Room := { frames := 1, cells := 0, slots := 0, locals := 20 }
set_option maxRecDepth 100000 in
theorem in0_X0_lowOf : ∀ w ∈ wsX00, w ∈ wsX0_lowOf := by decide +kernel
set_option maxHeartbeats 4000000 in
set_option maxRecDepth 100000 in
theorem ctX0_lowOf (l : Launch) (D : va_G) (ks : KA) (ad : Nat → Nat) (sz : Nat) (st : St) (x1 : Int32)  {r : Int32}  (hE : sX0_lowOf st x1 = some r) : CI l D ks yX0_lowOf wsX0_lowOf rmX0_lowOf [.ref (ad 6), .int x1] ad sz st r st := by
  unfold sX0_lowOf at hE
  refine Met.ofW (cc := cX0_lowOf) (maxL := 2) (ret := (some .int)) (by decide) rfl ?_
  intro p e s m args below meth c s₁ B hml hv
  obtain ⟨hargs, hPW⟩ := hv
  have hW := WW.entry hPW
  have hx := B.exec
  have hb := B.bytes
  have hr := B.returns
  have hts := atoms_spec (ws := wsX0_lowOf) B.pre
  have hown : s.vm.findClass RX0 = some m.cls := findClass_of_methodNamed B.named
  have hlocks := B.notSynchronized
  have hin0 : ∀ w ∈ u_ws RX0 TX0 17, w ∈ wsX0_lowOf := in0_X0_lowOf
  have hf27 := hts (.fieldLink RX0 27 "Trellis$Diagram" "lows" "[I") (by decide +kernel)
  have hl := lv_entry ([.ref (ad 6), .int x1]) (n := 2) (Nat.le_of_ble_eq_true rfl)
  have hfr : entryFrame m args 2 = F0 m 0 (lg_sl ([.ref (ad 6), .int x1]) ++ List.replicate (2 - (lg_sl ([.ref (ad 6), .int x1])).length) Slot.unset).toArray [] := by rw [hargs, lg_entry_eq]
  rw [hfr]
  generalize (lg_sl ([.ref (ad 6), .int x1]) ++ List.replicate (2 - (lg_sl ([.ref (ad 6), .int x1])).length) Slot.unset).toArray = ls at hl ⊢
  have hl : lv_has ls 2 [(0, .ref (ad 6)), (1, .int x1)] := hl
  refine lv_iload_n hx hb dX0_lowOf_0 rfl (lv_at hl 1 rfl) ?_
  obtain ⟨r_2, hc_1, hE⟩ := ob_some hE
  refine ww_callSi (As := [.int x1]) (rest := []) ⟨hx, hb, hml, hown, hts⟩ hW (ctX0_isNode l D ks ad _ st x1 hc_1) (va_cwS 1 hts gX0_lowOf_X0_isNode rfl rfl rfl (by decide +kernel) ⟨Nat.le_of_ble_eq_true rfl, Nat.le_of_ble_eq_true rfl⟩) rfl hl.1 rfl (Nat.le_of_ble_eq_true rfl) dX0_lowOf_1 ⟨Nat.zero_le _, Nat.zero_le _⟩ (fun H locs hW => ?_)
  refine lv_if_eq (tgt := 16) hx hb dX0_lowOf_4 (by decide) (fun c_3 => ?_) (fun c_3 => ?_)
  · have hE := if_t c_3 hE
    refine lv_iload_n hx hb dX0_lowOf_16 rfl (lv_at hl 1 rfl) ?_
    obtain rfl := some_x hE
    exact W.iret hx hb hr (fun t ht hWm => hW.qi ht hWm) hW.2.2.1.2.2 dX0_lowOf_17
  · have hE := if_f c_3 hE
    refine lv_aload_n hx hb dX0_lowOf_7 rfl (lv_at hl 0 rfl) ?_
    refine ww_get (C := RX0) (T := TX0) (N := 17) (ref := RX0) (ci := 0) (v := .ref (ad (ic 9))) hx hb hts hin0 hown hW 6 (by decide) rfl rfl 5 (by decide) hf27 (fun _ h9 => h9) rfl dX0_lowOf_8 ?_
    refine lv_iload_n hx hb dX0_lowOf_11 rfl (lv_at hl 1 rfl) ?_
    obtain ⟨hin, hE⟩ := gd_some hE
    refine ww_iald hx hb hW 9 (by decide) hin dX0_lowOf_12 ?_
    refine lv_goto (tgt := 17) hx hb dX0_lowOf_13 (by decide) ?_
    obtain rfl := some_x hE
    exact W.iret hx hb hr (fun t ht hWm => hW.qi ht hWm) hW.2.2.1.2.2 dX0_lowOf_17
abbrev rmX0_highOf : Room := { frames := 1, cells := 0, slots := 0, locals := 20 }
set_option maxRecDepth 100000 in
theorem in0_X0_highOf : ∀ w ∈ wsX00, w ∈ wsX0_highOf := by decide +kernel
set_option maxHeartbeats 4000000 in
set_option maxRecDepth 100000 in
theorem ctX0_highOf (l : Launch) (D : va_G) (ks : KA) (ad : Nat → Nat) (sz : Nat) (st : St) (x1 : Int32)  {r : Int32}  (hE : sX0_highOf st x1 = some r) : CI l D ks yX0_highOf wsX0_highOf rmX0_highOf [.ref (ad 6), .int x1] ad sz st r st := by
  unfold sX0_highOf at hE
  refine Met.ofW (cc := cX0_highOf) (maxL := 2) (ret := (some .int)) (by decide) rfl ?_
  intro p e s m args below meth c s₁ B hml hv
  obtain ⟨hargs, hPW⟩ := hv
  have hW := WW.entry hPW
  have hx := B.exec
  have hb := B.bytes
  have hr := B.returns
  have hts := atoms_spec (ws := wsX0_highOf) B.pre
  have hown : s.vm.findClass RX0 = some m.cls := findClass_of_methodNamed B.named
  have hlocks := B.notSynchronized
  have hin0 : ∀ w ∈ u_ws RX0 TX0 17, w ∈ wsX0_highOf := in0_X0_highOf
  have hf30 := hts (.fieldLink RX0 30 "Trellis$Diagram" "highs" "[I") (by decide +kernel)
  have hl := lv_entry ([.ref (ad 6), .int x1]) (n := 2) (Nat.le_of_ble_eq_true rfl)
  have hfr : entryFrame m args 2 = F0 m 0 (lg_sl ([.ref (ad 6), .int x1]) ++ List.replicate (2 - (lg_sl ([.ref (ad 6), .int x1])).length) Slot.unset).toArray [] := by rw [hargs, lg_entry_eq]
  rw [hfr]
  generalize (lg_sl ([.ref (ad 6), .int x1]) ++ List.replicate (2 - (lg_sl ([.ref (ad 6), .int x1])).length) Slot.unset).toArray = ls at hl ⊢
  have hl : lv_has ls 2 [(0, .ref (ad 6)), (1, .int x1)] := hl
  refine lv_iload_n hx hb dX0_highOf_0 rfl (lv_at hl 1 rfl) ?_
  obtain ⟨r_2, hc_1, hE⟩ := ob_some hE
  refine ww_callSi (As := [.int x1]) (rest := []) ⟨hx, hb, hml, hown, hts⟩ hW (ctX0_isNode l D ks ad _ st x1 hc_1) (va_cwS 1 hts gX0_highOf_X0_isNode rfl rfl rfl (by decide +kernel) ⟨Nat.le_of_ble_eq_true rfl, Nat.le_of_ble_eq_true rfl⟩) rfl hl.1 rfl (Nat.le_of_ble_eq_true rfl) dX0_highOf_1 ⟨Nat.zero_le _, Nat.zero_le _⟩ (fun H locs hW => ?_)
  refine lv_if_eq (tgt := 16) hx hb dX0_highOf_4 (by decide) (fun c_3 => ?_) (fun c_3 => ?_)
  · have hE := if_t c_3 hE
    refine lv_iload_n hx hb dX0_highOf_16 rfl (lv_at hl 1 rfl) ?_
    obtain rfl := some_x hE
    exact W.iret hx hb hr (fun t ht hWm => hW.qi ht hWm) hW.2.2.1.2.2 dX0_highOf_17
  · have hE := if_f c_3 hE
    refine lv_aload_n hx hb dX0_highOf_7 rfl (lv_at hl 0 rfl) ?_
    refine ww_get (C := RX0) (T := TX0) (N := 17) (ref := RX0) (ci := 0) (v := .ref (ad (ic 10))) hx hb hts hin0 hown hW 6 (by decide) rfl rfl 6 (by decide) hf30 (fun _ h9 => h9) rfl dX0_highOf_8 ?_
    refine lv_iload_n hx hb dX0_highOf_11 rfl (lv_at hl 1 rfl) ?_
    obtain ⟨hin, hE⟩ := gd_some hE
    refine ww_iald hx hb hW 10 (by decide) hin dX0_highOf_12 ?_
    refine lv_goto (tgt := 17) hx hb dX0_highOf_13 (by decide) ?_
    obtain rfl := some_x hE
    exact W.iret hx hb hr (fun t ht hWm => hW.qi ht hWm) hW.2.2.1.2.2 dX0_highOf_17
abbrev rmX0_bucketOf : Room := { frames := 0, cells := 0, slots := 0, locals := 0 }
set_option maxHeartbeats 4000000 in
set_option maxRecDepth 100000 in
theorem ctX0_bucketOf (l : Launch) (D : va_G) (ks : KA) (ad : Nat → Nat) (sz : Nat) (st : St) (x0 : Int32) (x1 : Int32) (x2 : Int32)  {r : Int32}  (hE : sX0_bucketOf st x0 x1 x2 = some r) : CI l D ks yX0_bucketOf wsX0_bucketOf rmX0_bucketOf [.int x0, .int x1, .int x2] ad sz st r st := by
  unfold sX0_bucketOf at hE
  refine Met.ofW (cc := cX0_bucketOf) (maxL := 4) (ret := (some .int)) (by decide) rfl ?_
  intro p e s m args below meth c s₁ B hml hv
  obtain ⟨hargs, hPW⟩ := hv
  have hW := WW.entry hPW
  have hx := B.exec
  have hb := B.bytes
  have hr := B.returns
  have hts := atoms_spec (ws := wsX0_bucketOf) B.pre
  have hown : s.vm.findClass RX0 = some m.cls := findClass_of_methodNamed B.named
  have hlocks := B.notSynchronized
  have hl := lv_entry ([.int x0, .int x1, .int x2]) (n := 4) (Nat.le_of_ble_eq_true rfl)
  have hfr : entryFrame m args 4 = F0 m 0 (lg_sl ([.int x0, .int x1, .int x2]) ++ List.replicate (4 - (lg_sl ([.int x0, .int x1, .int x2])).length) Slot.unset).toArray [] := by rw [hargs, lg_entry_eq]
  rw [hfr]
  generalize (lg_sl ([.int x0, .int x1, .int x2]) ++ List.replicate (4 - (lg_sl ([.int x0, .int x1, .int x2])).length) Slot.unset).toArray = ls at hl ⊢
  have hl : lv_has ls 4 [(0, .int x0), (1, .int x1), (2, .int x2)] := hl
  refine lv_iload_n hx hb dX0_bucketOf_0 rfl (lv_at hl 1 rfl) ?_
  refine lv_ldc (v := (-1640531535)) hx hb hown (hts (.constant RX0 65 (-1640531535)) (by decide +kernel)) dX0_bucketOf_1 ?_
  refine lv_imul hx hb dX0_bucketOf_3 ?_
  refine lv_iload_n hx hb dX0_bucketOf_4 rfl (lv_at hl 2 rfl) ?_
  refine lv_ldc (v := (-2048144789)) hx hb hown (hts (.constant RX0 66 (-2048144789)) (by decide +kernel)) dX0_bucketOf_5 ?_
  refine lv_imul hx hb dX0_bucketOf_7 ?_
  refine lv_iadd hx hb dX0_bucketOf_8 ?_
  obtain ⟨x3_1, e, hE⟩ := lt_some hE
  refine lv_nmi e ?_
  refine lv_istore_n (lv' := [(3, .int x3_1), (0, .int x0), (1, .int x1), (2, .int x2)]) hx hb dX0_bucketOf_9 rfl hl (by decide) rfl (fun ls hl => ?_)
  refine lv_iload_n hx hb dX0_bucketOf_10 rfl (lv_at hl 1 rfl) ?_
  refine lv_bipush (v := 64) hx hb dX0_bucketOf_11 (by decide) ?_
  refine lv_imul hx hb dX0_bucketOf_13 ?_
  refine lv_iload_n hx hb dX0_bucketOf_14 rfl (lv_at hl 0 rfl) ?_
  refine lv_bipush (v := 20) hx hb dX0_bucketOf_15 (by decide) ?_
  refine lv_iushr (v := (iush x3_1 (20 : Int32))) hx hb dX0_bucketOf_17 rfl ?_
  refine lv_bipush (v := 63) hx hb dX0_bucketOf_18 (by decide) ?_
  refine lv_iand hx hb dX0_bucketOf_20 ?_
  refine lv_iadd hx hb dX0_bucketOf_21 ?_
  obtain rfl := some_x hE
  exact W.iret hx hb hr (fun t ht hWm => hW.qi ht hWm) hW.2.2.1.2.2 dX0_bucketOf_22
abbrev rmX0_link : Room := { frames := 1, cells := 0, slots := 0, locals := 23 }
set_option maxRecDepth 100000 in
theorem in0_X0_link : ∀ w ∈ wsX00, w ∈ wsX0_link := by decide +kernel
set_option maxHeartbeats 4000000 in
set_option maxRecDepth 100000 in
theorem ctX0_link (l : Launch) (D : va_G) (ks : KA) (ad : Nat → Nat) (sz : Nat) (st : St) (x1 : Int32)  {st' : St} (hE : sX0_link st x1 = some st') : CV l D ks yX0_link wsX0_link rmX0_link [.ref (ad 6), .int x1] ad sz st st' := by
  unfold sX0_link at hE
  refine Met.ofW (cc := cX0_link) (maxL := 3) (ret := none) (by decide) rfl ?_
  intro p e s m args below meth c s₁ B hml hv
  obtain ⟨hargs, hPW⟩ := hv
  have hW := WW.entry hPW
  have hx := B.exec
  have hb := B.bytes
  have hr := B.returns
  have hts := atoms_spec (ws := wsX0_link) B.pre
  have hown : s.vm.findClass RX0 = some m.cls := findClass_of_methodNamed B.named
  have hlocks := B.notSynchronized
  have hin0 : ∀ w ∈ u_ws RX0 TX0 17, w ∈ wsX0_link := in0_X0_link
  have hf24 := hts (.fieldLink RX0 24 "Trellis$Diagram" "levels" "[I") (by decide +kernel)
  have hf27 := hts (.fieldLink RX0 27 "Trellis$Diagram" "lows" "[I") (by decide +kernel)
  have hf30 := hts (.fieldLink RX0 30 "Trellis$Diagram" "highs" "[I") (by decide +kernel)
  have hf33 := hts (.fieldLink RX0 33 "Trellis$Diagram" "nexts" "[I") (by decide +kernel)
  have hf21 := hts (.fieldLink RX0 21 "Trellis$Diagram" "buckets" "[I") (by decide +kernel)
  have hf18 := hts (.fieldLink RX0 18 "Trellis$Diagram" "counts" "[I") (by decide +kernel)
  have hf55 := hts (.fieldLink RX0 55 "Trellis$Diagram" "nodes" "I") (by decide +kernel)
  have hl := lv_entry ([.ref (ad 6), .int x1]) (n := 3) (Nat.le_of_ble_eq_true rfl)
  have hfr : entryFrame m args 3 = F0 m 0 (lg_sl ([.ref (ad 6), .int x1]) ++ List.replicate (3 - (lg_sl ([.ref (ad 6), .int x1])).length) Slot.unset).toArray [] := by rw [hargs, lg_entry_eq]
  rw [hfr]
  generalize (lg_sl ([.ref (ad 6), .int x1]) ++ List.replicate (3 - (lg_sl ([.ref (ad 6), .int x1])).length) Slot.unset).toArray = ls at hl ⊢
  have hl : lv_has ls 3 [(0, .ref (ad 6)), (1, .int x1)] := hl
  refine lv_iload_n hx hb dX0_link_0 rfl (lv_at hl 1 rfl) ?_
  obtain ⟨r_2, hc_1, hE⟩ := ob_some hE
  refine ww_callSi (As := [.int x1]) (rest := []) ⟨hx, hb, hml, hown, hts⟩ hW (ctX0_isNode l D ks ad _ st x1 hc_1) (va_cwS 1 hts gX0_link_X0_isNode rfl rfl rfl (by decide +kernel) ⟨Nat.le_of_ble_eq_true rfl, Nat.le_of_ble_eq_true rfl⟩) rfl hl.1 rfl (Nat.le_of_ble_eq_true rfl) dX0_link_1 ⟨Nat.zero_le _, Nat.zero_le _⟩ (fun H locs hW => ?_)
  refine lv_if_eq (tgt := 19) hx hb dX0_link_4 (by decide) (fun c_3 => ?_) (fun c_3 => ?_)
  · have hE := if_t c_3 hE
    obtain rfl := some_x hE
    exact W.vret hx hb hr (fun t ht hWm => hW.qv ht hWm) hW.2.2.1.2.2 dX0_link_19
  · have hE := if_f c_3 hE
    refine lv_aload_n hx hb dX0_link_7 rfl (lv_at hl 0 rfl) ?_
    refine ww_get (C := RX0) (T := TX0) (N := 17) (ref := RX0) (ci := 0) (v := .ref (ad (ic 8))) hx hb hts hin0 hown hW 6 (by decide) rfl rfl 4 (by decide) hf24 (fun _ h9 => h9) rfl dX0_link_8 ?_
    refine lv_iload_n hx hb dX0_link_11 rfl (lv_at hl 1 rfl) ?_
    obtain ⟨hin, hE⟩ := gd_some hE
    refine ww_iald hx hb hW 8 (by decide) hin dX0_link_12 ?_
    obtain ⟨r_5, hc_4, hE⟩ := ob_some hE
    refine ww_callSi (As := [.int (gI 8 st x1)]) (rest := []) ⟨hx, hb, hml, hown, hts⟩ hW (ctX0_isLevel l D ks ad _ st (gI 8 st x1) hc_4) (va_cwS 1 hts gX0_link_X0_isLevel rfl rfl rfl (by decide +kernel) ⟨Nat.le_of_ble_eq_true rfl, Nat.le_of_ble_eq_true rfl⟩) rfl hl.1 rfl (Nat.le_of_ble_eq_true rfl) dX0_link_13 ⟨Nat.zero_le _, Nat.zero_le _⟩ (fun H locs hW => ?_)
    refine lv_if_ne (tgt := 20) hx hb dX0_link_16 (by decide) (fun c_6 => ?_) (fun c_6 => ?_)
    · have hE := if_t c_6 hE
      refine lv_aload_n hx hb dX0_link_20 rfl (lv_at hl 0 rfl) ?_
      refine ww_get (C := RX0) (T := TX0) (N := 17) (ref := RX0) (ci := 0) (v := .ref (ad (ic 8))) hx hb hts hin0 hown hW 6 (by decide) rfl rfl 4 (by decide) hf24 (fun _ h9 => h9) rfl dX0_link_21 ?_
      refine lv_iload_n hx hb dX0_link_24 rfl (lv_at hl 1 rfl) ?_
      obtain ⟨hin, hE⟩ := gd_some hE
      refine ww_iald hx hb hW 8 (by decide) hin dX0_link_25 ?_
      refine lv_aload_n hx hb dX0_link_26 rfl (lv_at hl 0 rfl) ?_
      refine ww_get (C := RX0) (T := TX0) (N := 17) (ref := RX0) (ci := 0) (v := .ref (ad (ic 9))) hx hb hts hin0 hown hW 6 (by decide) rfl rfl 5 (by decide) hf27 (fun _ h9 => h9) rfl dX0_link_27 ?_
      refine lv_iload_n hx hb dX0_link_30 rfl (lv_at hl 1 rfl) ?_
      obtain ⟨hin, hE⟩ := gd_some hE
      refine ww_iald hx hb hW 9 (by decide) hin dX0_link_31 ?_
      refine lv_aload_n hx hb dX0_link_32 rfl (lv_at hl 0 rfl) ?_
      refine ww_get (C := RX0) (T := TX0) (N := 17) (ref := RX0) (ci := 0) (v := .ref (ad (ic 10))) hx hb hts hin0 hown hW 6 (by decide) rfl rfl 6 (by decide) hf30 (fun _ h9 => h9) rfl dX0_link_33 ?_
      refine lv_iload_n hx hb dX0_link_36 rfl (lv_at hl 1 rfl) ?_
      obtain ⟨hin, hE⟩ := gd_some hE
      refine ww_iald hx hb hW 10 (by decide) hin dX0_link_37 ?_
      obtain ⟨r_8, hc_7, hE⟩ := ob_some hE
      refine ww_callSi (As := [.int (gI 8 st x1), .int (gI 9 st x1), .int (gI 10 st x1)]) (rest := []) ⟨hx, hb, hml, hown, hts⟩ hW (ctX0_bucketOf l D ks ad _ st (gI 8 st x1) (gI 9 st x1) (gI 10 st x1) hc_7) (va_cwS 3 hts gX0_link_X0_bucketOf rfl rfl rfl (by decide +kernel) ⟨Nat.le_of_ble_eq_true rfl, Nat.le_of_ble_eq_true rfl⟩) rfl hl.1 rfl (Nat.le_of_ble_eq_true rfl) dX0_link_38 ⟨Nat.zero_le _, Nat.zero_le _⟩ (fun H locs hW => ?_)
      refine lv_istore_n (lv' := [(2, .int r_8), (0, .ref (ad 6)), (1, .int x1)]) hx hb dX0_link_41 rfl hl (by decide) rfl (fun ls hl => ?_)
      refine lv_aload_n hx hb dX0_link_42 rfl (lv_at hl 1 rfl) ?_
      refine ww_get (C := RX0) (T := TX0) (N := 17) (ref := RX0) (ci := 0) (v := .ref (ad (ic 11))) hx hb hts hin0 hown hW 6 (by decide) rfl rfl 7 (by decide) hf33 (fun _ h9 => h9) rfl dX0_link_43 ?_
      refine lv_iload_n hx hb dX0_link_46 rfl (lv_at hl 2 rfl) ?_
      refine lv_aload_n hx hb dX0_link_47 rfl (lv_at hl 1 rfl) ?_
      refine ww_get (C := RX0) (T := TX0) (N := 17) (ref := RX0) (ci := 0) (v := .ref (ad (ic 7))) hx hb hts hin0 hown hW 6 (by decide) rfl rfl 3 (by decide) hf21 (fun _ h9 => h9) rfl dX0_link_48 ?_
      refine lv_iload_n hx hb dX0_link_51 rfl (lv_at hl 0 rfl) ?_
      obtain ⟨hin, hE⟩ := gd_some hE
      refine ww_iald hx hb hW 7 (by decide) hin dX0_link_52 ?_
      obtain ⟨hin, hE⟩ := gd_some hE
      obtain ⟨st_9, est, hE⟩ := lt_some hE
      refine ww_iast hx hb hW 11 (by decide) hin est dX0_link_53 (fun H locs hW => ?_)
      refine lv_aload_n hx hb dX0_link_54 rfl (lv_at hl 1 rfl) ?_
      refine ww_get (C := RX0) (T := TX0) (N := 17) (ref := RX0) (ci := 0) (v := .ref (ad (ic 7))) hx hb hts hin0 hown hW 6 (by decide) rfl rfl 3 (by decide) hf21 (fun _ h9 => h9) rfl dX0_link_55 ?_
      refine lv_iload_n hx hb dX0_link_58 rfl (lv_at hl 0 rfl) ?_
      refine lv_iload_n hx hb dX0_link_59 rfl (lv_at hl 2 rfl) ?_
      obtain ⟨hin, hE⟩ := gd_some hE
      obtain ⟨st_10, est, hE⟩ := lt_some hE
      refine ww_iast hx hb hW 7 (by decide) hin est dX0_link_60 (fun H locs hW => ?_)
      refine lv_aload_n hx hb dX0_link_61 rfl (lv_at hl 1 rfl) ?_
      refine ww_get (C := RX0) (T := TX0) (N := 17) (ref := RX0) (ci := 0) (v := .ref (ad (ic 6))) hx hb hts hin0 hown hW 6 (by decide) rfl rfl 2 (by decide) hf18 (fun _ h9 => h9) rfl dX0_link_62 ?_
      refine lv_aload_n hx hb dX0_link_65 rfl (lv_at hl 1 rfl) ?_
      refine ww_get (C := RX0) (T := TX0) (N := 17) (ref := RX0) (ci := 0) (v := .ref (ad (ic 8))) hx hb hts hin0 hown hW 6 (by decide) rfl rfl 4 (by decide) hf24 (fun _ h9 => h9) rfl dX0_link_66 ?_
      refine lv_iload_n hx hb dX0_link_69 rfl (lv_at hl 2 rfl) ?_
      obtain ⟨hin, hE⟩ := gd_some hE
      refine ww_iald hx hb hW 8 (by decide) hin dX0_link_70 ?_
      refine lv_dup2_11 hx hb dX0_link_71 rfl rfl ?_
      obtain ⟨hin, hE⟩ := gd_some hE
      refine ww_iald hx hb hW 6 (by decide) hin dX0_link_72 ?_
      refine lv_iconst (v := 1) hx hb dX0_link_73 (by decide) ?_
      refine lv_iadd hx hb dX0_link_74 ?_
      obtain ⟨hin, hE⟩ := gd_some hE
      obtain ⟨st_11, est, hE⟩ := lt_some hE
      refine ww_iast hx hb hW 6 (by decide) hin est dX0_link_75 (fun H locs hW => ?_)
      refine lv_aload_n hx hb dX0_link_76 rfl (lv_at hl 1 rfl) ?_
      refine lv_dup hx hb dX0_link_77 rfl ?_
      refine ww_get (C := RX0) (T := TX0) (N := 17) (ref := RX0) (ci := 0) (v := .int (gF 1 st_11)) hx hb hts hin0 hown hW 6 (by decide) rfl rfl 14 (by decide) hf55 (fun _ h9 => h9) rfl dX0_link_78 ?_
      refine lv_iconst (v := 1) hx hb dX0_link_81 (by decide) ?_
      refine lv_iadd hx hb dX0_link_82 ?_
      obtain ⟨st_12, est, hE⟩ := lt_some hE
      refine ww_put hx hb hts hin0 hown hW 1 (by decide) hf55 est dX0_link_83 (fun H locs hW => ?_)
      obtain rfl := some_x hE
      exact W.vret hx hb hr (fun t ht hWm => hW.qv ht hWm) hW.2.2.1.2.2 dX0_link_86
    · have hE := if_f (fun q => q c_6) hE
      obtain rfl := some_x hE
      exact W.vret hx hb hr (fun t ht hWm => hW.qv ht hWm) hW.2.2.1.2.2 dX0_link_19
abbrev rmX0_unlink : Room := { frames := 1, cells := 0, slots := 0, locals := 23 }
set_option maxRecDepth 100000 in
theorem in0_X0_unlink : ∀ w ∈ wsX00, w ∈ wsX0_unlink := by decide +kernel
set_option maxHeartbeats 4000000 in
set_option maxRecDepth 100000 in
theorem ctX0_unlink (l : Launch) (D : va_G) (ks : KA) (ad : Nat → Nat) (sz : Nat) (st : St) (x1 : Int32)  {st' : St} (hE : sX0_unlink st x1 = some st') : CV l D ks yX0_unlink wsX0_unlink rmX0_unlink [.ref (ad 6), .int x1] ad sz st st' := by
  unfold sX0_unlink at hE
  refine Met.ofW (cc := cX0_unlink) (maxL := 6) (ret := none) (by decide) rfl ?_
  intro p e s m args below meth c s₁ B hml hv
  obtain ⟨hargs, hPW⟩ := hv
  have hW := WW.entry hPW
  have hx := B.exec
  have hb := B.bytes
  have hr := B.returns
  have hts := atoms_spec (ws := wsX0_unlink) B.pre
  have hown : s.vm.findClass RX0 = some m.cls := findClass_of_methodNamed B.named
  have hlocks := B.notSynchronized
  have hin0 : ∀ w ∈ u_ws RX0 TX0 17, w ∈ wsX0_unlink := in0_X0_unlink
  have hf24 := hts (.fieldLink RX0 24 "Trellis$Diagram" "levels" "[I") (by decide +kernel)
  have hf27 := hts (.fieldLink RX0 27 "Trellis$Diagram" "lows" "[I") (by decide +kernel)
  have hf30 := hts (.fieldLink RX0 30 "Trellis$Diagram" "highs" "[I") (by decide +kernel)
  have hf21 := hts (.fieldLink RX0 21 "Trellis$Diagram" "buckets" "[I") (by decide +kernel)
  have hf33 := hts (.fieldLink RX0 33 "Trellis$Diagram" "nexts" "[I") (by decide +kernel)
  have hf18 := hts (.fieldLink RX0 18 "Trellis$Diagram" "counts" "[I") (by decide +kernel)
  have hf55 := hts (.fieldLink RX0 55 "Trellis$Diagram" "nodes" "I") (by decide +kernel)
  have hl := lv_entry ([.ref (ad 6), .int x1]) (n := 6) (Nat.le_of_ble_eq_true rfl)
  have hfr : entryFrame m args 6 = F0 m 0 (lg_sl ([.ref (ad 6), .int x1]) ++ List.replicate (6 - (lg_sl ([.ref (ad 6), .int x1])).length) Slot.unset).toArray [] := by rw [hargs, lg_entry_eq]
  rw [hfr]
  generalize (lg_sl ([.ref (ad 6), .int x1]) ++ List.replicate (6 - (lg_sl ([.ref (ad 6), .int x1])).length) Slot.unset).toArray = ls at hl ⊢
  have hl : lv_has ls 6 [(0, .ref (ad 6)), (1, .int x1)] := hl
  have L69 : ∀ (n : Nat) (st : St) (x1 : Int32) (x3 : Int32) (x4 : Int32)  (stz : St) (H : Heap) (locs : List Loc) (ls : Array Slot), sX0_unlink_L69 n st x1 x3 x4 = some stz → WW D ks ad (AA ad sz) s st H locs → lv_has ls 6 [(0, .ref (ad 6)), (1, .int x1), (3, .int x3), (4, .int x4)] → (∀ (H : Heap) (locs : List Loc) (ls : Array Slot), WW D ks ad (AA ad sz) s stz H locs → lv_has ls 6 [(0, .ref (ad 6)), (1, .int x1)] → W p l e (headSpec wsX0_unlink rmX0_unlink).room s m args below meth c H locs 0 0 (MQ below (va_Qv (fun (u : St) => u = st') (QW D ks ad sz) (AA ad sz)) args s 0 0 (AA ad sz)) (F0 m 124 ls [])) → W p l e (headSpec wsX0_unlink rmX0_unlink).room s m args below meth c H locs 0 0 (MQ below (va_Qv (fun (u : St) => u = st') (QW D ks ad sz) (AA ad sz)) args s 0 0 (AA ad sz)) (F0 m 69 ls []) := by
    intro n
    induction n with
    | zero =>
      intro st x1 x3 x4 stz H locs ls hE hW hl kx
      exact none_x hE
    | succ n ih =>
      intro st x1 x3 x4 stz H locs ls hE hW hl kx
      rw [sX0_unlink_L69] at hE
      refine lv_iload hx hb dX0_unlink_69 (lv_at hl 3 rfl) ?_
      refine lv_sipush (v := 2560) hx hb dX0_unlink_71 (by decide) ?_
      refine lv_icmp_ge (tgt := 124) hx hb dX0_unlink_74 (by decide) (fun c_11 => ?_) (fun c_11 => ?_)
      · have hE := if_t c_11 hE
        obtain rfl := some_x hE
        exact kx _ _ _ hW (lv_sub hl [0, 1] rfl)
      · have hE := if_f c_11 hE
        refine lv_iload_n hx hb dX0_unlink_77 rfl (lv_at hl 2 rfl) ?_
        obtain ⟨r_13, hc_12, hE⟩ := ob_some hE
        refine ww_callSi (As := [.int x3]) (rest := []) ⟨hx, hb, hml, hown, hts⟩ hW (ctX0_isNode l D ks ad _ st x3 hc_12) (va_cwS 1 hts gX0_unlink_X0_isNode rfl rfl rfl (by decide +kernel) ⟨Nat.le_of_ble_eq_true rfl, Nat.le_of_ble_eq_true rfl⟩) rfl hl.1 rfl (Nat.le_of_ble_eq_true rfl) dX0_unlink_78 ⟨Nat.zero_le _, Nat.zero_le _⟩ (fun H locs hW => ?_)
        refine lv_if_eq (tgt := 124) hx hb dX0_unlink_81 (by decide) (fun c_14 => ?_) (fun c_14 => ?_)
        · have hE := if_t c_14 hE
          obtain rfl := some_x hE
          exact kx _ _ _ hW (lv_sub hl [0, 1] rfl)
        · have hE := if_f c_14 hE
          refine lv_iload_n hx hb dX0_unlink_84 rfl (lv_at hl 2 rfl) ?_
          refine lv_iload_n hx hb dX0_unlink_85 rfl (lv_at hl 1 rfl) ?_
          refine lv_icmp_eq (tgt := 124) hx hb dX0_unlink_86 (by decide) (fun c_15 => ?_) (fun c_15 => ?_)
          · have hE := if_t c_15 hE
            obtain rfl := some_x hE
            exact kx _ _ _ hW (lv_sub hl [0, 1] rfl)
          · have hE := if_f c_15 hE
            refine lv_aload_n hx hb dX0_unlink_89 rfl (lv_at hl 0 rfl) ?_
            refine ww_get (C := RX0) (T := TX0) (N := 17) (ref := RX0) (ci := 0) (v := .ref (ad (ic 11))) hx hb hts hin0 hown hW 6 (by decide) rfl rfl 7 (by decide) hf33 (fun _ h9 => h9) rfl dX0_unlink_90 ?_
            refine lv_iload_n hx hb dX0_unlink_93 rfl (lv_at hl 2 rfl) ?_
            obtain ⟨hin, hE⟩ := gd_some hE
            refine ww_iald hx hb hW 11 (by decide) hin dX0_unlink_94 ?_
            obtain ⟨x5_16, e, hE⟩ := lt_some hE
            refine lv_nmi e ?_
            refine lv_istore (lv' := [(5, .int x5_16), (0, .ref (ad 6)), (1, .int x1), (3, .int x3), (4, .int x4)]) hx hb dX0_unlink_95 hl (by decide) rfl (fun ls hl => ?_)
            refine lv_iload hx hb dX0_unlink_97 (lv_at hl 0 rfl) ?_
            refine lv_iload_n hx hb dX0_unlink_99 rfl (lv_at hl 2 rfl) ?_
            refine lv_icmp_ne (tgt := 115) hx hb dX0_unlink_100 (by decide) (fun c_17 => ?_) (fun c_17 => ?_)
            · have hE := if_t c_17 hE
              refine lv_iload hx hb dX0_unlink_115 (lv_at hl 0 rfl) ?_
              refine lv_istore_n (lv' := [(3, .int x5_16), (5, .int x5_16), (0, .ref (ad 6)), (1, .int x1), (4, .int x4)]) hx hb dX0_unlink_117 rfl hl (by decide) rfl (fun ls hl => ?_)
              obtain ⟨x4_18, e, hE⟩ := lt_some hE
              refine lv_iinc (v := x4_18) (lv' := [(4, .int x4_18), (3, .int x5_16), (5, .int x5_16), (0, .ref (ad 6)), (1, .int x1)]) hx hb dX0_unlink_118 hl (k := 4) rfl (by rw [e]; rfl) (by decide) rfl (fun ls hl => ?_)
              refine lv_goto (tgt := 69) hx hb dX0_unlink_121 (by decide) ?_
              exact ih st x1 x5_16 x4_18 _ _ _ _ hE hW (lv_sub hl [3, 4, 1, 0] rfl) kx
            · have hE := if_f (fun q => q c_17) hE
              refine lv_aload_n hx hb dX0_unlink_103 rfl (lv_at hl 1 rfl) ?_
              refine ww_get (C := RX0) (T := TX0) (N := 17) (ref := RX0) (ci := 0) (v := .ref (ad (ic 11))) hx hb hts hin0 hown hW 6 (by decide) rfl rfl 7 (by decide) hf33 (fun _ h9 => h9) rfl dX0_unlink_104 ?_
              refine lv_iload_n hx hb dX0_unlink_107 rfl (lv_at hl 3 rfl) ?_
              refine lv_aload_n hx hb dX0_unlink_108 rfl (lv_at hl 1 rfl) ?_
              refine ww_get (C := RX0) (T := TX0) (N := 17) (ref := RX0) (ci := 0) (v := .ref (ad (ic 11))) hx hb hts hin0 hown hW 6 (by decide) rfl rfl 7 (by decide) hf33 (fun _ h9 => h9) rfl dX0_unlink_109 ?_
              refine lv_iload_n hx hb dX0_unlink_112 rfl (lv_at hl 2 rfl) ?_
              obtain ⟨hin, hE⟩ := gd_some hE
              refine ww_iald hx hb hW 11 (by decide) hin dX0_unlink_113 ?_
              obtain ⟨hin, hE⟩ := gd_some hE
              obtain ⟨st_19, est, hE⟩ := lt_some hE
              refine ww_iast hx hb hW 11 (by decide) hin est dX0_unlink_114 (fun H locs hW => ?_)
              refine lv_iload hx hb dX0_unlink_115 (lv_at hl 0 rfl) ?_
              refine lv_istore_n (lv' := [(3, .int x5_16), (5, .int x5_16), (0, .ref (ad 6)), (1, .int x1), (4, .int x4)]) hx hb dX0_unlink_117 rfl hl (by decide) rfl (fun ls hl => ?_)
              obtain ⟨x4_20, e, hE⟩ := lt_some hE
              refine lv_iinc (v := x4_20) (lv' := [(4, .int x4_20), (3, .int x5_16), (5, .int x5_16), (0, .ref (ad 6)), (1, .int x1)]) hx hb dX0_unlink_118 hl (k := 4) rfl (by rw [e]; rfl) (by decide) rfl (fun ls hl => ?_)
              refine lv_goto (tgt := 69) hx hb dX0_unlink_121 (by decide) ?_
              exact ih st_19 x1 x5_16 x4_20 _ _ _ _ hE hW (lv_sub hl [3, 4, 1, 0] rfl) kx
  refine lv_iload_n hx hb dX0_unlink_0 rfl (lv_at hl 1 rfl) ?_
  obtain ⟨r_2, hc_1, hE⟩ := ob_some hE
  refine ww_callSi (As := [.int x1]) (rest := []) ⟨hx, hb, hml, hown, hts⟩ hW (ctX0_isNode l D ks ad _ st x1 hc_1) (va_cwS 1 hts gX0_unlink_X0_isNode rfl rfl rfl (by decide +kernel) ⟨Nat.le_of_ble_eq_true rfl, Nat.le_of_ble_eq_true rfl⟩) rfl hl.1 rfl (Nat.le_of_ble_eq_true rfl) dX0_unlink_1 ⟨Nat.zero_le _, Nat.zero_le _⟩ (fun H locs hW => ?_)
  refine lv_if_eq (tgt := 19) hx hb dX0_unlink_4 (by decide) (fun c_3 => ?_) (fun c_3 => ?_)
  · have hE := if_t c_3 hE
    obtain rfl := some_x hE
    exact W.vret hx hb hr (fun t ht hWm => hW.qv ht hWm) hW.2.2.1.2.2 dX0_unlink_19
  · have hE := if_f c_3 hE
    refine lv_aload_n hx hb dX0_unlink_7 rfl (lv_at hl 0 rfl) ?_
    refine ww_get (C := RX0) (T := TX0) (N := 17) (ref := RX0) (ci := 0) (v := .ref (ad (ic 8))) hx hb hts hin0 hown hW 6 (by decide) rfl rfl 4 (by decide) hf24 (fun _ h9 => h9) rfl dX0_unlink_8 ?_
    refine lv_iload_n hx hb dX0_unlink_11 rfl (lv_at hl 1 rfl) ?_
    obtain ⟨hin, hE⟩ := gd_some hE
    refine ww_iald hx hb hW 8 (by decide) hin dX0_unlink_12 ?_
    obtain ⟨r_5, hc_4, hE⟩ := ob_some hE
    refine ww_callSi (As := [.int (gI 8 st x1)]) (rest := []) ⟨hx, hb, hml, hown, hts⟩ hW (ctX0_isLevel l D ks ad _ st (gI 8 st x1) hc_4) (va_cwS 1 hts gX0_unlink_X0_isLevel rfl rfl rfl (by decide +kernel) ⟨Nat.le_of_ble_eq_true rfl, Nat.le_of_ble_eq_true rfl⟩) rfl hl.1 rfl (Nat.le_of_ble_eq_true rfl) dX0_unlink_13 ⟨Nat.zero_le _, Nat.zero_le _⟩ (fun H locs hW => ?_)
    refine lv_if_ne (tgt := 20) hx hb dX0_unlink_16 (by decide) (fun c_6 => ?_) (fun c_6 => ?_)
    · have hE := if_t c_6 hE
      refine lv_aload_n hx hb dX0_unlink_20 rfl (lv_at hl 0 rfl) ?_
      refine ww_get (C := RX0) (T := TX0) (N := 17) (ref := RX0) (ci := 0) (v := .ref (ad (ic 8))) hx hb hts hin0 hown hW 6 (by decide) rfl rfl 4 (by decide) hf24 (fun _ h9 => h9) rfl dX0_unlink_21 ?_
      refine lv_iload_n hx hb dX0_unlink_24 rfl (lv_at hl 1 rfl) ?_
      obtain ⟨hin, hE⟩ := gd_some hE
      refine ww_iald hx hb hW 8 (by decide) hin dX0_unlink_25 ?_
      refine lv_aload_n hx hb dX0_unlink_26 rfl (lv_at hl 0 rfl) ?_
      refine ww_get (C := RX0) (T := TX0) (N := 17) (ref := RX0) (ci := 0) (v := .ref (ad (ic 9))) hx hb hts hin0 hown hW 6 (by decide) rfl rfl 5 (by decide) hf27 (fun _ h9 => h9) rfl dX0_unlink_27 ?_
      refine lv_iload_n hx hb dX0_unlink_30 rfl (lv_at hl 1 rfl) ?_
      obtain ⟨hin, hE⟩ := gd_some hE
      refine ww_iald hx hb hW 9 (by decide) hin dX0_unlink_31 ?_
      refine lv_aload_n hx hb dX0_unlink_32 rfl (lv_at hl 0 rfl) ?_
      refine ww_get (C := RX0) (T := TX0) (N := 17) (ref := RX0) (ci := 0) (v := .ref (ad (ic 10))) hx hb hts hin0 hown hW 6 (by decide) rfl rfl 6 (by decide) hf30 (fun _ h9 => h9) rfl dX0_unlink_33 ?_
      refine lv_iload_n hx hb dX0_unlink_36 rfl (lv_at hl 1 rfl) ?_
      obtain ⟨hin, hE⟩ := gd_some hE
      refine ww_iald hx hb hW 10 (by decide) hin dX0_unlink_37 ?_
      obtain ⟨r_8, hc_7, hE⟩ := ob_some hE
      refine ww_callSi (As := [.int (gI 8 st x1), .int (gI 9 st x1), .int (gI 10 st x1)]) (rest := []) ⟨hx, hb, hml, hown, hts⟩ hW (ctX0_bucketOf l D ks ad _ st (gI 8 st x1) (gI 9 st x1) (gI 10 st x1) hc_7) (va_cwS 3 hts gX0_unlink_X0_bucketOf rfl rfl rfl (by decide +kernel) ⟨Nat.le_of_ble_eq_true rfl, Nat.le_of_ble_eq_true rfl⟩) rfl hl.1 rfl (Nat.le_of_ble_eq_true rfl) dX0_unlink_38 ⟨Nat.zero_le _, Nat.zero_le _⟩ (fun H locs hW => ?_)
      refine lv_istore_n (lv' := [(2, .int r_8), (0, .ref (ad 6)), (1, .int x1)]) hx hb dX0_unlink_41 rfl hl (by decide) rfl (fun ls hl => ?_)
      refine lv_aload_n hx hb dX0_unlink_42 rfl (lv_at hl 1 rfl) ?_
      refine ww_get (C := RX0) (T := TX0) (N := 17) (ref := RX0) (ci := 0) (v := .ref (ad (ic 7))) hx hb hts hin0 hown hW 6 (by decide) rfl rfl 3 (by decide) hf21 (fun _ h9 => h9) rfl dX0_unlink_43 ?_
      refine lv_iload_n hx hb dX0_unlink_46 rfl (lv_at hl 0 rfl) ?_
      obtain ⟨hin, hE⟩ := gd_some hE
      refine ww_iald hx hb hW 7 (by decide) hin dX0_unlink_47 ?_
      obtain ⟨x3_9, e, hE⟩ := lt_some hE
      refine lv_nmi e ?_
      refine lv_istore_n (lv' := [(3, .int x3_9), (2, .int r_8), (0, .ref (ad 6)), (1, .int x1)]) hx hb dX0_unlink_48 rfl hl (by decide) rfl (fun ls hl => ?_)
      refine lv_iload_n hx hb dX0_unlink_49 rfl (lv_at hl 0 rfl) ?_
      refine lv_iload_n hx hb dX0_unlink_50 rfl (lv_at hl 3 rfl) ?_
      refine lv_icmp_ne (tgt := 66) hx hb dX0_unlink_51 (by decide) (fun c_10 => ?_) (fun c_10 => ?_)
      · have hE := if_t c_10 hE
        refine lv_iconst (v := 0) hx hb dX0_unlink_66 (by decide) ?_
        refine lv_istore (lv' := [(4, .int (0 : Int32)), (3, .int x3_9), (2, .int r_8), (0, .ref (ad 6)), (1, .int x1)]) hx hb dX0_unlink_67 hl (by decide) rfl (fun ls hl => ?_)
        obtain ⟨st_21, hz, hE⟩ := ob_some hE
        refine L69 FU st x1 x3_9 (0 : Int32) st_21 _ _ _ hz hW (lv_sub hl [3, 4, 1, 0] rfl) (fun H locs ls hW hl => ?_)
        refine lv_aload_n hx hb dX0_unlink_124 rfl (lv_at hl 0 rfl) ?_
        refine ww_get (C := RX0) (T := TX0) (N := 17) (ref := RX0) (ci := 0) (v := .ref (ad (ic 6))) hx hb hts hin0 hown hW 6 (by decide) rfl rfl 2 (by decide) hf18 (fun _ h9 => h9) rfl dX0_unlink_125 ?_
        refine lv_aload_n hx hb dX0_unlink_128 rfl (lv_at hl 0 rfl) ?_
        refine ww_get (C := RX0) (T := TX0) (N := 17) (ref := RX0) (ci := 0) (v := .ref (ad (ic 8))) hx hb hts hin0 hown hW 6 (by decide) rfl rfl 4 (by decide) hf24 (fun _ h9 => h9) rfl dX0_unlink_129 ?_
        refine lv_iload_n hx hb dX0_unlink_132 rfl (lv_at hl 1 rfl) ?_
        obtain ⟨hin, hE⟩ := gd_some hE
        refine ww_iald hx hb hW 8 (by decide) hin dX0_unlink_133 ?_
        refine lv_dup2_11 hx hb dX0_unlink_134 rfl rfl ?_
        obtain ⟨hin, hE⟩ := gd_some hE
        refine ww_iald hx hb hW 6 (by decide) hin dX0_unlink_135 ?_
        refine lv_iconst (v := 1) hx hb dX0_unlink_136 (by decide) ?_
        refine lv_isub hx hb dX0_unlink_137 ?_
        obtain ⟨hin, hE⟩ := gd_some hE
        obtain ⟨st_22, est, hE⟩ := lt_some hE
        refine ww_iast hx hb hW 6 (by decide) hin est dX0_unlink_138 (fun H locs hW => ?_)
        refine lv_aload_n hx hb dX0_unlink_139 rfl (lv_at hl 0 rfl) ?_
        refine lv_dup hx hb dX0_unlink_140 rfl ?_
        refine ww_get (C := RX0) (T := TX0) (N := 17) (ref := RX0) (ci := 0) (v := .int (gF 1 st_22)) hx hb hts hin0 hown hW 6 (by decide) rfl rfl 14 (by decide) hf55 (fun _ h9 => h9) rfl dX0_unlink_141 ?_
        refine lv_iconst (v := 1) hx hb dX0_unlink_144 (by decide) ?_
        refine lv_isub hx hb dX0_unlink_145 ?_
        obtain ⟨st_23, est, hE⟩ := lt_some hE
        refine ww_put hx hb hts hin0 hown hW 1 (by decide) hf55 est dX0_unlink_146 (fun H locs hW => ?_)
        obtain rfl := some_x hE
        exact W.vret hx hb hr (fun t ht hWm => hW.qv ht hWm) hW.2.2.1.2.2 dX0_unlink_149
      · have hE := if_f (fun q => q c_10) hE
        refine lv_aload_n hx hb dX0_unlink_54 rfl (lv_at hl 2 rfl) ?_
        refine ww_get (C := RX0) (T := TX0) (N := 17) (ref := RX0) (ci := 0) (v := .ref (ad (ic 7))) hx hb hts hin0 hown hW 6 (by decide) rfl rfl 3 (by decide) hf21 (fun _ h9 => h9) rfl dX0_unlink_55 ?_
        refine lv_iload_n hx hb dX0_unlink_58 rfl (lv_at hl 1 rfl) ?_
        refine lv_aload_n hx hb dX0_unlink_59 rfl (lv_at hl 2 rfl) ?_
        refine ww_get (C := RX0) (T := TX0) (N := 17) (ref := RX0) (ci := 0) (v := .ref (ad (ic 11))) hx hb hts hin0 hown hW 6 (by decide) rfl rfl 7 (by decide) hf33 (fun _ h9 => h9) rfl dX0_unlink_60 ?_
        refine lv_iload_n hx hb dX0_unlink_63 rfl (lv_at hl 3 rfl) ?_
        obtain ⟨hin, hE⟩ := gd_some hE
        refine ww_iald hx hb hW 11 (by decide) hin dX0_unlink_64 ?_
        obtain ⟨hin, hE⟩ := gd_some hE
        obtain ⟨st_24, est, hE⟩ := lt_some hE
        refine ww_iast hx hb hW 7 (by decide) hin est dX0_unlink_65 (fun H locs hW => ?_)
        refine lv_iconst (v := 0) hx hb dX0_unlink_66 (by decide) ?_
        refine lv_istore (lv' := [(4, .int (0 : Int32)), (3, .int x3_9), (2, .int r_8), (0, .ref (ad 6)), (1, .int x1)]) hx hb dX0_unlink_67 hl (by decide) rfl (fun ls hl => ?_)
        obtain ⟨st_25, hz, hE⟩ := ob_some hE
        refine L69 FU st_24 x1 x3_9 (0 : Int32) st_25 _ _ _ hz hW (lv_sub hl [3, 4, 1, 0] rfl) (fun H locs ls hW hl => ?_)
        refine lv_aload_n hx hb dX0_unlink_124 rfl (lv_at hl 0 rfl) ?_
        refine ww_get (C := RX0) (T := TX0) (N := 17) (ref := RX0) (ci := 0) (v := .ref (ad (ic 6))) hx hb hts hin0 hown hW 6 (by decide) rfl rfl 2 (by decide) hf18 (fun _ h9 => h9) rfl dX0_unlink_125 ?_
        refine lv_aload_n hx hb dX0_unlink_128 rfl (lv_at hl 0 rfl) ?_
        refine ww_get (C := RX0) (T := TX0) (N := 17) (ref := RX0) (ci := 0) (v := .ref (ad (ic 8))) hx hb hts hin0 hown hW 6 (by decide) rfl rfl 4 (by decide) hf24 (fun _ h9 => h9) rfl dX0_unlink_129 ?_
        refine lv_iload_n hx hb dX0_unlink_132 rfl (lv_at hl 1 rfl) ?_
        obtain ⟨hin, hE⟩ := gd_some hE
        refine ww_iald hx hb hW 8 (by decide) hin dX0_unlink_133 ?_
        refine lv_dup2_11 hx hb dX0_unlink_134 rfl rfl ?_
        obtain ⟨hin, hE⟩ := gd_some hE
        refine ww_iald hx hb hW 6 (by decide) hin dX0_unlink_135 ?_
        refine lv_iconst (v := 1) hx hb dX0_unlink_136 (by decide) ?_
        refine lv_isub hx hb dX0_unlink_137 ?_
        obtain ⟨hin, hE⟩ := gd_some hE
        obtain ⟨st_26, est, hE⟩ := lt_some hE
        refine ww_iast hx hb hW 6 (by decide) hin est dX0_unlink_138 (fun H locs hW => ?_)
        refine lv_aload_n hx hb dX0_unlink_139 rfl (lv_at hl 0 rfl) ?_
        refine lv_dup hx hb dX0_unlink_140 rfl ?_
        refine ww_get (C := RX0) (T := TX0) (N := 17) (ref := RX0) (ci := 0) (v := .int (gF 1 st_26)) hx hb hts hin0 hown hW 6 (by decide) rfl rfl 14 (by decide) hf55 (fun _ h9 => h9) rfl dX0_unlink_141 ?_
        refine lv_iconst (v := 1) hx hb dX0_unlink_144 (by decide) ?_
        refine lv_isub hx hb dX0_unlink_145 ?_
        obtain ⟨st_27, est, hE⟩ := lt_some hE
        refine ww_put hx hb hts hin0 hown hW 1 (by decide) hf55 est dX0_unlink_146 (fun H locs hW => ?_)
        obtain rfl := some_x hE
        exact W.vret hx hb hr (fun t ht hWm => hW.qv ht hWm) hW.2.2.1.2.2 dX0_unlink_149
    · have hE := if_f (fun q => q c_6) hE
      obtain rfl := some_x hE
      exact W.vret hx hb hr (fun t ht hWm => hW.qv ht hWm) hW.2.2.1.2.2 dX0_unlink_19
abbrev rmX0_point : Room := { frames := 1, cells := 0, slots := 0, locals := 20 }
set_option maxRecDepth 100000 in
theorem in0_X0_point : ∀ w ∈ wsX00, w ∈ wsX0_point := by decide +kernel
set_option maxHeartbeats 4000000 in
set_option maxRecDepth 100000 in
theorem ctX0_point (l : Launch) (D : va_G) (ks : KA) (ad : Nat → Nat) (sz : Nat) (st : St) (x1 : Int32)  {st' : St} (hE : sX0_point st x1 = some st') : CV l D ks yX0_point wsX0_point rmX0_point [.ref (ad 6), .int x1] ad sz st st' := by
  unfold sX0_point at hE
  refine Met.ofW (cc := cX0_point) (maxL := 2) (ret := none) (by decide) rfl ?_
  intro p e s m args below meth c s₁ B hml hv
  obtain ⟨hargs, hPW⟩ := hv
  have hW := WW.entry hPW
  have hx := B.exec
  have hb := B.bytes
  have hr := B.returns
  have hts := atoms_spec (ws := wsX0_point) B.pre
  have hown : s.vm.findClass RX0 = some m.cls := findClass_of_methodNamed B.named
  have hlocks := B.notSynchronized
  have hin0 : ∀ w ∈ u_ws RX0 TX0 17, w ∈ wsX0_point := in0_X0_point
  have hf36 := hts (.fieldLink RX0 36 "Trellis$Diagram" "pointers" "[I") (by decide +kernel)
  have hl := lv_entry ([.ref (ad 6), .int x1]) (n := 2) (Nat.le_of_ble_eq_true rfl)
  have hfr : entryFrame m args 2 = F0 m 0 (lg_sl ([.ref (ad 6), .int x1]) ++ List.replicate (2 - (lg_sl ([.ref (ad 6), .int x1])).length) Slot.unset).toArray [] := by rw [hargs, lg_entry_eq]
  rw [hfr]
  generalize (lg_sl ([.ref (ad 6), .int x1]) ++ List.replicate (2 - (lg_sl ([.ref (ad 6), .int x1])).length) Slot.unset).toArray = ls at hl ⊢
  have hl : lv_has ls 2 [(0, .ref (ad 6)), (1, .int x1)] := hl
  refine lv_iload_n hx hb dX0_point_0 rfl (lv_at hl 1 rfl) ?_
  obtain ⟨r_2, hc_1, hE⟩ := ob_some hE
  refine ww_callSi (As := [.int x1]) (rest := []) ⟨hx, hb, hml, hown, hts⟩ hW (ctX0_isNode l D ks ad _ st x1 hc_1) (va_cwS 1 hts gX0_point_X0_isNode rfl rfl rfl (by decide +kernel) ⟨Nat.le_of_ble_eq_true rfl, Nat.le_of_ble_eq_true rfl⟩) rfl hl.1 rfl (Nat.le_of_ble_eq_true rfl) dX0_point_1 ⟨Nat.zero_le _, Nat.zero_le _⟩ (fun H locs hW => ?_)
  refine lv_if_eq (tgt := 17) hx hb dX0_point_4 (by decide) (fun c_3 => ?_) (fun c_3 => ?_)
  · have hE := if_t c_3 hE
    obtain rfl := some_x hE
    exact W.vret hx hb hr (fun t ht hWm => hW.qv ht hWm) hW.2.2.1.2.2 dX0_point_17
  · have hE := if_f c_3 hE
    refine lv_aload_n hx hb dX0_point_7 rfl (lv_at hl 0 rfl) ?_
    refine ww_get (C := RX0) (T := TX0) (N := 17) (ref := RX0) (ci := 0) (v := .ref (ad (ic 12))) hx hb hts hin0 hown hW 6 (by decide) rfl rfl 8 (by decide) hf36 (fun _ h9 => h9) rfl dX0_point_8 ?_
    refine lv_iload_n hx hb dX0_point_11 rfl (lv_at hl 1 rfl) ?_
    refine lv_dup2_11 hx hb dX0_point_12 rfl rfl ?_
    obtain ⟨hin, hE⟩ := gd_some hE
    refine ww_iald hx hb hW 12 (by decide) hin dX0_point_13 ?_
    refine lv_iconst (v := 1) hx hb dX0_point_14 (by decide) ?_
    refine lv_iadd hx hb dX0_point_15 ?_
    obtain ⟨hin, hE⟩ := gd_some hE
    obtain ⟨st_4, est, hE⟩ := lt_some hE
    refine ww_iast hx hb hW 12 (by decide) hin est dX0_point_16 (fun H locs hW => ?_)
    obtain rfl := some_x hE
    exact W.vret hx hb hr (fun t ht hWm => hW.qv ht hWm) hW.2.2.1.2.2 dX0_point_17
abbrev rmX0_make : Room := { frames := 2, cells := 0, slots := 0, locals := 45 }
set_option maxRecDepth 100000 in
theorem in0_X0_make : ∀ w ∈ wsX00, w ∈ wsX0_make := by decide +kernel
set_option maxHeartbeats 4000000 in
set_option maxRecDepth 100000 in
theorem ctX0_make (l : Launch) (D : va_G) (ks : KA) (ad : Nat → Nat) (sz : Nat) (st : St) (x1 : Int32) (x2 : Int32) (x3 : Int32)  {r : Int32} {st' : St} (hE : sX0_make st x1 x2 x3 = some (r, st')) : CI l D ks yX0_make wsX0_make rmX0_make [.ref (ad 6), .int x1, .int x2, .int x3] ad sz st r st' := by
  unfold sX0_make at hE
  refine Met.ofW (cc := cX0_make) (maxL := 6) (ret := (some .int)) (by decide) rfl ?_
  intro p e s m args below meth c s₁ B hml hv
  obtain ⟨hargs, hPW⟩ := hv
  have hW := WW.entry hPW
  have hx := B.exec
  have hb := B.bytes
  have hr := B.returns
  have hts := atoms_spec (ws := wsX0_make) B.pre
  have hown : s.vm.findClass RX0 = some m.cls := findClass_of_methodNamed B.named
  have hlocks := B.notSynchronized
  have hin0 : ∀ w ∈ u_ws RX0 TX0 17, w ∈ wsX0_make := in0_X0_make
  have hf21 := hts (.fieldLink RX0 21 "Trellis$Diagram" "buckets" "[I") (by decide +kernel)
  have hf27 := hts (.fieldLink RX0 27 "Trellis$Diagram" "lows" "[I") (by decide +kernel)
  have hf33 := hts (.fieldLink RX0 33 "Trellis$Diagram" "nexts" "[I") (by decide +kernel)
  have hf30 := hts (.fieldLink RX0 30 "Trellis$Diagram" "highs" "[I") (by decide +kernel)
  have hf51 := hts (.fieldLink RX0 51 "Trellis$Diagram" "free" "I") (by decide +kernel)
  have hf24 := hts (.fieldLink RX0 24 "Trellis$Diagram" "levels" "[I") (by decide +kernel)
  have hf36 := hts (.fieldLink RX0 36 "Trellis$Diagram" "pointers" "[I") (by decide +kernel)
  have hl := lv_entry ([.ref (ad 6), .int x1, .int x2, .int x3]) (n := 6) (Nat.le_of_ble_eq_true rfl)
  have hfr : entryFrame m args 6 = F0 m 0 (lg_sl ([.ref (ad 6), .int x1, .int x2, .int x3]) ++ List.replicate (6 - (lg_sl ([.ref (ad 6), .int x1, .int x2, .int x3])).length) Slot.unset).toArray [] := by rw [hargs, lg_entry_eq]
  rw [hfr]
  generalize (lg_sl ([.ref (ad 6), .int x1, .int x2, .int x3]) ++ List.replicate (6 - (lg_sl ([.ref (ad 6), .int x1, .int x2, .int x3])).length) Slot.unset).toArray = ls at hl ⊢
  have hl : lv_has ls 6 [(0, .ref (ad 6)), (1, .int x1), (2, .int x2), (3, .int x3)] := hl
  have L30 : ∀ (n : Nat) (st : St) (x1 : Int32) (x2 : Int32) (x3 : Int32) (x4 : Int32) (x5 : Int32)  (z : (Int32 × St) ⊕ (Unit)) (H : Heap) (locs : List Loc) (ls : Array Slot), sX0_make_L30 n st x1 x2 x3 x4 x5 = some z → WW D ks ad (AA ad sz) s st H locs → lv_has ls 6 [(0, .ref (ad 6)), (1, .int x1), (2, .int x2), (3, .int x3), (4, .int x4), (5, .int x5)] → (z = .inr () → ∀ (H : Heap) (locs : List Loc) (ls : Array Slot), WW D ks ad (AA ad sz) s st H locs → lv_has ls 6 [(0, .ref (ad 6)), (1, .int x1), (2, .int x2), (3, .int x3)] → W p l e (headSpec wsX0_make rmX0_make).room s m args below meth c H locs 0 0 (MQ below (va_Qi (fun (x : Int32) (u : St) => x = r ∧ u = st') (QW D ks ad sz) (AA ad sz)) args s 0 0 (AA ad sz)) (F0 m 86 ls [])) → (∀ a : Int32 × St, z = .inl a → a = (r, st')) → W p l e (headSpec wsX0_make rmX0_make).room s m args below meth c H locs 0 0 (MQ below (va_Qi (fun (x : Int32) (u : St) => x = r ∧ u = st') (QW D ks ad sz) (AA ad sz)) args s 0 0 (AA ad sz)) (F0 m 30 ls []) := by
    intro n
    induction n with
    | zero =>
      intro st x1 x2 x3 x4 x5 z H locs ls hE hW hl kx kr
      exact none_x hE
    | succ n ih =>
      intro st x1 x2 x3 x4 x5 z H locs ls hE hW hl kx kr
      rw [sX0_make_L30] at hE
      refine lv_iload hx hb dX0_make_30 (lv_at hl 5 rfl) ?_
      refine lv_sipush (v := 2560) hx hb dX0_make_32 (by decide) ?_
      refine lv_icmp_ge (tgt := 86) hx hb dX0_make_35 (by decide) (fun c_8 => ?_) (fun c_8 => ?_)
      · have hE := if_t c_8 hE
        exact kx  (some_x hE).symm _ _ _ hW (lv_sub hl [0, 1, 2, 3] rfl)
      · have hE := if_f c_8 hE
        refine lv_iload hx hb dX0_make_38 (lv_at hl 4 rfl) ?_
        obtain ⟨r_10, hc_9, hE⟩ := ob_some hE
        refine ww_callSi (As := [.int x4]) (rest := []) ⟨hx, hb, hml, hown, hts⟩ hW (ctX0_isNode l D ks ad _ st x4 hc_9) (va_cwS 1 hts gX0_make_X0_isNode rfl rfl rfl (by decide +kernel) ⟨Nat.le_of_ble_eq_true rfl, Nat.le_of_ble_eq_true rfl⟩) rfl hl.1 rfl (Nat.le_of_ble_eq_true rfl) dX0_make_40 ⟨Nat.zero_le _, Nat.zero_le _⟩ (fun H locs hW => ?_)
        refine lv_if_eq (tgt := 86) hx hb dX0_make_43 (by decide) (fun c_11 => ?_) (fun c_11 => ?_)
        · have hE := if_t c_11 hE
          exact kx  (some_x hE).symm _ _ _ hW (lv_sub hl [0, 1, 2, 3] rfl)
        · have hE := if_f c_11 hE
          refine lv_aload_n hx hb dX0_make_46 rfl (lv_at hl 0 rfl) ?_
          refine ww_get (C := RX0) (T := TX0) (N := 17) (ref := RX0) (ci := 0) (v := .ref (ad (ic 9))) hx hb hts hin0 hown hW 6 (by decide) rfl rfl 5 (by decide) hf27 (fun _ h9 => h9) rfl dX0_make_47 ?_
          refine lv_iload hx hb dX0_make_50 (lv_at hl 4 rfl) ?_
          obtain ⟨hin, hE⟩ := gd_some hE
          refine ww_iald hx hb hW 9 (by decide) hin dX0_make_52 ?_
          refine lv_iload_n hx hb dX0_make_53 rfl (lv_at hl 2 rfl) ?_
          refine lv_icmp_ne (tgt := 71) hx hb dX0_make_54 (by decide) (fun c_12 => ?_) (fun c_12 => ?_)
          · have hE := if_t c_12 hE
            refine lv_aload_n hx hb dX0_make_71 rfl (lv_at hl 0 rfl) ?_
            refine ww_get (C := RX0) (T := TX0) (N := 17) (ref := RX0) (ci := 0) (v := .ref (ad (ic 11))) hx hb hts hin0 hown hW 6 (by decide) rfl rfl 7 (by decide) hf33 (fun _ h9 => h9) rfl dX0_make_72 ?_
            refine lv_iload hx hb dX0_make_75 (lv_at hl 4 rfl) ?_
            obtain ⟨hin, hE⟩ := gd_some hE
            refine ww_iald hx hb hW 11 (by decide) hin dX0_make_77 ?_
            obtain ⟨x4_13, e, hE⟩ := lt_some hE
            refine lv_nmi e ?_
            refine lv_istore (lv' := [(4, .int x4_13), (0, .ref (ad 6)), (1, .int x1), (2, .int x2), (3, .int x3), (5, .int x5)]) hx hb dX0_make_78 hl (by decide) rfl (fun ls hl => ?_)
            obtain ⟨x5_14, e, hE⟩ := lt_some hE
            refine lv_iinc (v := x5_14) (lv' := [(5, .int x5_14), (4, .int x4_13), (0, .ref (ad 6)), (1, .int x1), (2, .int x2), (3, .int x3)]) hx hb dX0_make_80 hl (k := 5) rfl (by rw [e]; rfl) (by decide) rfl (fun ls hl => ?_)
            refine lv_goto (tgt := 30) hx hb dX0_make_83 (by decide) ?_
            exact ih st x1 x2 x3 x4_13 x5_14 _ _ _ _ hE hW (lv_sub hl [2, 3, 4, 5, 1, 0] rfl) kx kr
          · have hE := if_f (fun q => q c_12) hE
            refine lv_aload_n hx hb dX0_make_57 rfl (lv_at hl 0 rfl) ?_
            refine ww_get (C := RX0) (T := TX0) (N := 17) (ref := RX0) (ci := 0) (v := .ref (ad (ic 10))) hx hb hts hin0 hown hW 6 (by decide) rfl rfl 6 (by decide) hf30 (fun _ h9 => h9) rfl dX0_make_58 ?_
            refine lv_iload hx hb dX0_make_61 (lv_at hl 4 rfl) ?_
            obtain ⟨hin, hE⟩ := gd_some hE
            refine ww_iald hx hb hW 10 (by decide) hin dX0_make_63 ?_
            refine lv_iload_n hx hb dX0_make_64 rfl (lv_at hl 3 rfl) ?_
            refine lv_icmp_ne (tgt := 71) hx hb dX0_make_65 (by decide) (fun c_15 => ?_) (fun c_15 => ?_)
            · have hE := if_t c_15 hE
              refine lv_aload_n hx hb dX0_make_71 rfl (lv_at hl 0 rfl) ?_
              refine ww_get (C := RX0) (T := TX0) (N := 17) (ref := RX0) (ci := 0) (v := .ref (ad (ic 11))) hx hb hts hin0 hown hW 6 (by decide) rfl rfl 7 (by decide) hf33 (fun _ h9 => h9) rfl dX0_make_72 ?_
              refine lv_iload hx hb dX0_make_75 (lv_at hl 4 rfl) ?_
              obtain ⟨hin, hE⟩ := gd_some hE
              refine ww_iald hx hb hW 11 (by decide) hin dX0_make_77 ?_
              obtain ⟨x4_16, e, hE⟩ := lt_some hE
              refine lv_nmi e ?_
              refine lv_istore (lv' := [(4, .int x4_16), (0, .ref (ad 6)), (1, .int x1), (2, .int x2), (3, .int x3), (5, .int x5)]) hx hb dX0_make_78 hl (by decide) rfl (fun ls hl => ?_)
              obtain ⟨x5_17, e, hE⟩ := lt_some hE
              refine lv_iinc (v := x5_17) (lv' := [(5, .int x5_17), (4, .int x4_16), (0, .ref (ad 6)), (1, .int x1), (2, .int x2), (3, .int x3)]) hx hb dX0_make_80 hl (k := 5) rfl (by rw [e]; rfl) (by decide) rfl (fun ls hl => ?_)
              refine lv_goto (tgt := 30) hx hb dX0_make_83 (by decide) ?_
              exact ih st x1 x2 x3 x4_16 x5_17 _ _ _ _ hE hW (lv_sub hl [2, 3, 4, 5, 1, 0] rfl) kx kr
            · have hE := if_f (fun q => q c_15) hE
              refine lv_iload hx hb dX0_make_68 (lv_at hl 4 rfl) ?_
              have hE := kr _ (some_x hE).symm
              obtain ⟨rfl, rfl⟩ := pair_e hE
              exact W.iret hx hb hr (fun t ht hWm => hW.qi ht hWm) hW.2.2.1.2.2 dX0_make_70
  refine lv_iload_n hx hb dX0_make_0 rfl (lv_at hl 2 rfl) ?_
  refine lv_iload_n hx hb dX0_make_1 rfl (lv_at hl 3 rfl) ?_
  refine lv_icmp_eq (tgt := 12) hx hb dX0_make_2 (by decide) (fun c_1 => ?_) (fun c_1 => ?_)
  · have hE := if_t c_1 hE
    refine lv_iload_n hx hb dX0_make_12 rfl (lv_at hl 2 rfl) ?_
    obtain ⟨rfl, rfl⟩ := pair_x hE
    exact W.iret hx hb hr (fun t ht hWm => hW.qi ht hWm) hW.2.2.1.2.2 dX0_make_13
  · have hE := if_f c_1 hE
    refine lv_iload_n hx hb dX0_make_5 rfl (lv_at hl 1 rfl) ?_
    obtain ⟨r_3, hc_2, hE⟩ := ob_some hE
    refine ww_callSi (As := [.int x1]) (rest := []) ⟨hx, hb, hml, hown, hts⟩ hW (ctX0_isLevel l D ks ad _ st x1 hc_2) (va_cwS 1 hts gX0_make_X0_isLevel rfl rfl rfl (by decide +kernel) ⟨Nat.le_of_ble_eq_true rfl, Nat.le_of_ble_eq_true rfl⟩) rfl hl.1 rfl (Nat.le_of_ble_eq_true rfl) dX0_make_6 ⟨Nat.zero_le _, Nat.zero_le _⟩ (fun H locs hW => ?_)
    refine lv_if_ne (tgt := 14) hx hb dX0_make_9 (by decide) (fun c_4 => ?_) (fun c_4 => ?_)
    · have hE := if_t c_4 hE
      refine lv_aload_n hx hb dX0_make_14 rfl (lv_at hl 0 rfl) ?_
      refine ww_get (C := RX0) (T := TX0) (N := 17) (ref := RX0) (ci := 0) (v := .ref (ad (ic 7))) hx hb hts hin0 hown hW 6 (by decide) rfl rfl 3 (by decide) hf21 (fun _ h9 => h9) rfl dX0_make_15 ?_
      refine lv_iload_n hx hb dX0_make_18 rfl (lv_at hl 1 rfl) ?_
      refine lv_iload_n hx hb dX0_make_19 rfl (lv_at hl 2 rfl) ?_
      refine lv_iload_n hx hb dX0_make_20 rfl (lv_at hl 3 rfl) ?_
      obtain ⟨r_6, hc_5, hE⟩ := ob_some hE
      refine ww_callSi (As := [.int x1, .int x2, .int x3]) (rest := [.ref (ad (ic 7))]) ⟨hx, hb, hml, hown, hts⟩ hW (ctX0_bucketOf l D ks ad _ st x1 x2 x3 hc_5) (va_cwS 3 hts gX0_make_X0_bucketOf rfl rfl rfl (by decide +kernel) ⟨Nat.le_of_ble_eq_true rfl, Nat.le_of_ble_eq_true rfl⟩) rfl hl.1 rfl (Nat.le_of_ble_eq_true rfl) dX0_make_21 ⟨Nat.zero_le _, Nat.zero_le _⟩ (fun H locs hW => ?_)
      obtain ⟨hin, hE⟩ := gd_some hE
      refine ww_iald hx hb hW 7 (by decide) hin dX0_make_24 ?_
      obtain ⟨x4_7, e, hE⟩ := lt_some hE
      refine lv_nmi e ?_
      refine lv_istore (lv' := [(4, .int x4_7), (0, .ref (ad 6)), (1, .int x1), (2, .int x2), (3, .int x3)]) hx hb dX0_make_25 hl (by decide) rfl (fun ls hl => ?_)
      refine lv_iconst (v := 0) hx hb dX0_make_27 (by decide) ?_
      refine lv_istore (lv' := [(5, .int (0 : Int32)), (4, .int x4_7), (0, .ref (ad 6)), (1, .int x1), (2, .int x2), (3, .int x3)]) hx hb dX0_make_28 hl (by decide) rfl (fun ls hl => ?_)
      obtain ⟨z_18, hz, hz1, hz2⟩ := obS_some hE
      exact L30 FU st x1 x2 x3 x4_7 (0 : Int32) z_18 _ _ _ hz hW (lv_sub hl [2, 3, 4, 5, 1, 0] rfl) (fun  e H locs ls hW hl => by
          have hE := hz2 _ e
          refine lv_aload_n hx hb dX0_make_86 rfl (lv_at hl 0 rfl) ?_
          refine ww_get (C := RX0) (T := TX0) (N := 17) (ref := RX0) (ci := 0) (v := .int (gF 0 st)) hx hb hts hin0 hown hW 6 (by decide) rfl rfl 13 (by decide) hf51 (fun _ h9 => h9) rfl dX0_make_87 ?_
          obtain ⟨r_21, hc_20, hE⟩ := ob_some hE
          refine ww_callSi (As := [.int (gF 0 st)]) (rest := []) ⟨hx, hb, hml, hown, hts⟩ hW (ctX0_isNode l D ks ad _ st (gF 0 st) hc_20) (va_cwS 1 hts gX0_make_X0_isNode rfl rfl rfl (by decide +kernel) ⟨Nat.le_of_ble_eq_true rfl, Nat.le_of_ble_eq_true rfl⟩) rfl hl.1 rfl (Nat.le_of_ble_eq_true rfl) dX0_make_90 ⟨Nat.zero_le _, Nat.zero_le _⟩ (fun H locs hW => ?_)
          refine lv_if_ne (tgt := 98) hx hb dX0_make_93 (by decide) (fun c_22 => ?_) (fun c_22 => ?_)
          · have hE := if_t c_22 hE
            refine lv_aload_n hx hb dX0_make_98 rfl (lv_at hl 0 rfl) ?_
            refine ww_get (C := RX0) (T := TX0) (N := 17) (ref := RX0) (ci := 0) (v := .int (gF 0 st)) hx hb hts hin0 hown hW 6 (by decide) rfl rfl 13 (by decide) hf51 (fun _ h9 => h9) rfl dX0_make_99 ?_
            obtain ⟨x4_23, e, hE⟩ := lt_some hE
            refine lv_nmi e ?_
            refine lv_istore (lv' := [(4, .int x4_23), (0, .ref (ad 6)), (1, .int x1), (2, .int x2), (3, .int x3)]) hx hb dX0_make_102 hl (by decide) rfl (fun ls hl => ?_)
            refine lv_aload_n hx hb dX0_make_104 rfl (lv_at hl 1 rfl) ?_
            refine lv_aload_n hx hb dX0_make_105 rfl (lv_at hl 1 rfl) ?_
            refine ww_get (C := RX0) (T := TX0) (N := 17) (ref := RX0) (ci := 0) (v := .ref (ad (ic 11))) hx hb hts hin0 hown hW 6 (by decide) rfl rfl 7 (by decide) hf33 (fun _ h9 => h9) rfl dX0_make_106 ?_
            refine lv_iload hx hb dX0_make_109 (lv_at hl 0 rfl) ?_
            obtain ⟨hin, hE⟩ := gd_some hE
            refine ww_iald hx hb hW 11 (by decide) hin dX0_make_111 ?_
            obtain ⟨st_24, est, hE⟩ := lt_some hE
            refine ww_put hx hb hts hin0 hown hW 0 (by decide) hf51 est dX0_make_112 (fun H locs hW => ?_)
            refine lv_aload_n hx hb dX0_make_115 rfl (lv_at hl 1 rfl) ?_
            refine ww_get (C := RX0) (T := TX0) (N := 17) (ref := RX0) (ci := 0) (v := .ref (ad (ic 8))) hx hb hts hin0 hown hW 6 (by decide) rfl rfl 4 (by decide) hf24 (fun _ h9 => h9) rfl dX0_make_116 ?_
            refine lv_iload hx hb dX0_make_119 (lv_at hl 0 rfl) ?_
            refine lv_iload_n hx hb dX0_make_121 rfl (lv_at hl 2 rfl) ?_
            obtain ⟨hin, hE⟩ := gd_some hE
            obtain ⟨st_25, est, hE⟩ := lt_some hE
            refine ww_iast hx hb hW 8 (by decide) hin est dX0_make_122 (fun H locs hW => ?_)
            refine lv_aload_n hx hb dX0_make_123 rfl (lv_at hl 1 rfl) ?_
            refine ww_get (C := RX0) (T := TX0) (N := 17) (ref := RX0) (ci := 0) (v := .ref (ad (ic 9))) hx hb hts hin0 hown hW 6 (by decide) rfl rfl 5 (by decide) hf27 (fun _ h9 => h9) rfl dX0_make_124 ?_
            refine lv_iload hx hb dX0_make_127 (lv_at hl 0 rfl) ?_
            refine lv_iload_n hx hb dX0_make_129 rfl (lv_at hl 3 rfl) ?_
            obtain ⟨hin, hE⟩ := gd_some hE
            obtain ⟨st_26, est, hE⟩ := lt_some hE
            refine ww_iast hx hb hW 9 (by decide) hin est dX0_make_130 (fun H locs hW => ?_)
            refine lv_aload_n hx hb dX0_make_131 rfl (lv_at hl 1 rfl) ?_
            refine ww_get (C := RX0) (T := TX0) (N := 17) (ref := RX0) (ci := 0) (v := .ref (ad (ic 10))) hx hb hts hin0 hown hW 6 (by decide) rfl rfl 6 (by decide) hf30 (fun _ h9 => h9) rfl dX0_make_132 ?_
            refine lv_iload hx hb dX0_make_135 (lv_at hl 0 rfl) ?_
            refine lv_iload_n hx hb dX0_make_137 rfl (lv_at hl 4 rfl) ?_
            obtain ⟨hin, hE⟩ := gd_some hE
            obtain ⟨st_27, est, hE⟩ := lt_some hE
            refine ww_iast hx hb hW 10 (by decide) hin est dX0_make_138 (fun H locs hW => ?_)
            refine lv_aload_n hx hb dX0_make_139 rfl (lv_at hl 1 rfl) ?_
            refine ww_get (C := RX0) (T := TX0) (N := 17) (ref := RX0) (ci := 0) (v := .ref (ad (ic 12))) hx hb hts hin0 hown hW 6 (by decide) rfl rfl 8 (by decide) hf36 (fun _ h9 => h9) rfl dX0_make_140 ?_
            refine lv_iload hx hb dX0_make_143 (lv_at hl 0 rfl) ?_
            refine lv_iconst (v := 0) hx hb dX0_make_145 (by decide) ?_
            obtain ⟨hin, hE⟩ := gd_some hE
            obtain ⟨st_28, est, hE⟩ := lt_some hE
            refine ww_iast hx hb hW 12 (by decide) hin est dX0_make_146 (fun H locs hW => ?_)
            refine lv_aload_n hx hb dX0_make_147 rfl (lv_at hl 1 rfl) ?_
            refine lv_iload hx hb dX0_make_148 (lv_at hl 0 rfl) ?_
            obtain ⟨st_29, hc_30, hE⟩ := ob_some hE
            refine ww_callVv (As := [.int x4_23]) (rest := []) ⟨hx, hb, hml, hown, hts⟩ hW (ctX0_link l D ks ad _ st_28 x4_23 hc_30) (cwV 1 hts gX0_make_X0_link rfl rfl rfl (by decide +kernel) ⟨Nat.le_of_ble_eq_true rfl, Nat.le_of_ble_eq_true rfl⟩) hW.recvD rfl hl.1 rfl (Nat.le_of_ble_eq_true rfl) dX0_make_150 ⟨Nat.zero_le _, Nat.zero_le _⟩ (fun H locs hW => ?_)
            refine lv_aload_n hx hb dX0_make_153 rfl (lv_at hl 1 rfl) ?_
            refine lv_iload_n hx hb dX0_make_154 rfl (lv_at hl 3 rfl) ?_
            obtain ⟨st_31, hc_32, hE⟩ := ob_some hE
            refine ww_callVv (As := [.int x2]) (rest := []) ⟨hx, hb, hml, hown, hts⟩ hW (ctX0_point l D ks ad _ st_29 x2 hc_32) (cwV 1 hts gX0_make_X0_point rfl rfl rfl (by decide +kernel) ⟨Nat.le_of_ble_eq_true rfl, Nat.le_of_ble_eq_true rfl⟩) hW.recvD rfl hl.1 rfl (Nat.le_of_ble_eq_true rfl) dX0_make_155 ⟨Nat.zero_le _, Nat.zero_le _⟩ (fun H locs hW => ?_)
            refine lv_aload_n hx hb dX0_make_158 rfl (lv_at hl 1 rfl) ?_
            refine lv_iload_n hx hb dX0_make_159 rfl (lv_at hl 4 rfl) ?_
            obtain ⟨st_33, hc_34, hE⟩ := ob_some hE
            refine ww_callVv (As := [.int x3]) (rest := []) ⟨hx, hb, hml, hown, hts⟩ hW (ctX0_point l D ks ad _ st_31 x3 hc_34) (cwV 1 hts gX0_make_X0_point rfl rfl rfl (by decide +kernel) ⟨Nat.le_of_ble_eq_true rfl, Nat.le_of_ble_eq_true rfl⟩) hW.recvD rfl hl.1 rfl (Nat.le_of_ble_eq_true rfl) dX0_make_160 ⟨Nat.zero_le _, Nat.zero_le _⟩ (fun H locs hW => ?_)
            refine lv_iload hx hb dX0_make_163 (lv_at hl 0 rfl) ?_
            obtain ⟨rfl, rfl⟩ := pair_x hE
            exact W.iret hx hb hr (fun t ht hWm => hW.qi ht hWm) hW.2.2.1.2.2 dX0_make_165
          · have hE := if_f (fun q => q c_22) hE
            refine lv_iconst (v := 0) hx hb dX0_make_96 (by decide) ?_
            obtain ⟨rfl, rfl⟩ := pair_x hE
            exact W.iret hx hb hr (fun t ht hWm => hW.qi ht hWm) hW.2.2.1.2.2 dX0_make_97) (fun a e => some_x (hz1 a e))
    · have hE := if_f (fun q => q c_4) hE
      refine lv_iload_n hx hb dX0_make_12 rfl (lv_at hl 2 rfl) ?_
      obtain ⟨rfl, rfl⟩ := pair_x hE
      exact W.iret hx hb hr (fun t ht hWm => hW.qi ht hWm) hW.2.2.1.2.2 dX0_make_13
abbrev rmX0_drop (n : Nat) : Room := { frames := 2 + n, cells := 0, slots := 0, locals := 48 + n * 22 }
set_option maxRecDepth 100000 in
theorem in0_X0_drop : ∀ w ∈ wsX00, w ∈ wsX0_drop := by decide +kernel
set_option maxHeartbeats 4000000 in
set_option maxRecDepth 100000 in
theorem ctX0_drop (l : Launch) (D : va_G) (ks : KA) (ad : Nat → Nat) : ∀ (sz n0 : Nat) (st : St) (x1 : Int32) (x2 : Int32)  (st' : St) (h : sX0_drop n0 st x1 x2 = some st'), CV l D ks yX0_drop wsX0_drop (rmX0_drop n0) [.ref (ad 6), .int x1, .int x2] ad sz st st' := by
  intro sz n0
  induction n0 generalizing sz with
  | zero =>
    intro st x1 x2 st' hE
    exact none_x hE
  | succ n0 ih =>
    intro st x1 x2 st' hE
    rw [sX0_drop] at hE
    refine Met.ofW (cc := cX0_drop) (maxL := 3) (ret := none) (by decide) rfl ?_
    intro p e s m args below meth c s₁ B hml hv
    obtain ⟨hargs, hPW⟩ := hv
    have hW := WW.entry hPW
    have hx := B.exec
    have hb := B.bytes
    have hr := B.returns
    have hts := atoms_spec (ws := wsX0_drop) B.pre
    have hown : s.vm.findClass RX0 = some m.cls := findClass_of_methodNamed B.named
    have hlocks := B.notSynchronized
    have hin0 : ∀ w ∈ u_ws RX0 TX0 17, w ∈ wsX0_drop := in0_X0_drop
    have hf36 := hts (.fieldLink RX0 36 "Trellis$Diagram" "pointers" "[I") (by decide +kernel)
    have hf33 := hts (.fieldLink RX0 33 "Trellis$Diagram" "nexts" "[I") (by decide +kernel)
    have hf51 := hts (.fieldLink RX0 51 "Trellis$Diagram" "free" "I") (by decide +kernel)
    have hf27 := hts (.fieldLink RX0 27 "Trellis$Diagram" "lows" "[I") (by decide +kernel)
    have hf30 := hts (.fieldLink RX0 30 "Trellis$Diagram" "highs" "[I") (by decide +kernel)
    have hl := lv_entry ([.ref (ad 6), .int x1, .int x2]) (n := 3) (Nat.le_of_ble_eq_true rfl)
    have hfr : entryFrame m args 3 = F0 m 0 (lg_sl ([.ref (ad 6), .int x1, .int x2]) ++ List.replicate (3 - (lg_sl ([.ref (ad 6), .int x1, .int x2])).length) Slot.unset).toArray [] := by rw [hargs, lg_entry_eq]
    rw [hfr]
    generalize (lg_sl ([.ref (ad 6), .int x1, .int x2]) ++ List.replicate (3 - (lg_sl ([.ref (ad 6), .int x1, .int x2])).length) Slot.unset).toArray = ls at hl ⊢
    have hl : lv_has ls 3 [(0, .ref (ad 6)), (1, .int x1), (2, .int x2)] := hl
    refine lv_iload_n hx hb dX0_drop_0 rfl (lv_at hl 1 rfl) ?_
    obtain ⟨r_2, hc_1, hE⟩ := ob_some hE
    refine ww_callSi (As := [.int x1]) (rest := []) ⟨hx, hb, hml, hown, hts⟩ hW (ctX0_isNode l D ks ad _ st x1 hc_1) (va_cwS 1 hts gX0_drop_X0_isNode rfl rfl rfl (by decide +kernel) ⟨by show _ ≤ _; simp only [rmX0_drop, rmX0_isNode, headSpec]; omega, by show _ ≤ _; simp only [rmX0_drop, rmX0_isNode, headSpec]; omega⟩) rfl hl.1 rfl (Nat.le_of_ble_eq_true rfl) dX0_drop_1 ⟨Nat.zero_le _, Nat.zero_le _⟩ (fun H locs hW => ?_)
    refine lv_if_eq (tgt := 13) hx hb dX0_drop_4 (by decide) (fun c_3 => ?_) (fun c_3 => ?_)
    · have hE := if_t c_3 hE
      obtain rfl := some_x hE
      exact W.vret hx hb hr (fun t ht hWm => hW.qv ht hWm) hW.2.2.1.2.2 dX0_drop_13
    · have hE := if_f c_3 hE
      refine lv_iload_n hx hb dX0_drop_7 rfl (lv_at hl 2 rfl) ?_
      refine lv_bipush (v := 10) hx hb dX0_drop_8 (by decide) ?_
      refine lv_icmp_le (tgt := 14) hx hb dX0_drop_10 (by decide) (fun c_4 => ?_) (fun c_4 => ?_)
      · have hE := if_t c_4 hE
        refine lv_aload_n hx hb dX0_drop_14 rfl (lv_at hl 0 rfl) ?_
        refine ww_get (C := RX0) (T := TX0) (N := 17) (ref := RX0) (ci := 0) (v := .ref (ad (ic 12))) hx hb hts hin0 hown hW 6 (by decide) rfl rfl 8 (by decide) hf36 (fun _ h9 => h9) rfl dX0_drop_15 ?_
        refine lv_iload_n hx hb dX0_drop_18 rfl (lv_at hl 1 rfl) ?_
        refine lv_dup2_11 hx hb dX0_drop_19 rfl rfl ?_
        obtain ⟨hin, hE⟩ := gd_some hE
        refine ww_iald hx hb hW 12 (by decide) hin dX0_drop_20 ?_
        refine lv_iconst (v := 1) hx hb dX0_drop_21 (by decide) ?_
        refine lv_isub hx hb dX0_drop_22 ?_
        obtain ⟨hin, hE⟩ := gd_some hE
        obtain ⟨st_5, est, hE⟩ := lt_some hE
        refine ww_iast hx hb hW 12 (by decide) hin est dX0_drop_23 (fun H locs hW => ?_)
        refine lv_aload_n hx hb dX0_drop_24 rfl (lv_at hl 0 rfl) ?_
        refine ww_get (C := RX0) (T := TX0) (N := 17) (ref := RX0) (ci := 0) (v := .ref (ad (ic 12))) hx hb hts hin0 hown hW 6 (by decide) rfl rfl 8 (by decide) hf36 (fun _ h9 => h9) rfl dX0_drop_25 ?_
        refine lv_iload_n hx hb dX0_drop_28 rfl (lv_at hl 1 rfl) ?_
        obtain ⟨hin, hE⟩ := gd_some hE
        refine ww_iald hx hb hW 12 (by decide) hin dX0_drop_29 ?_
        refine lv_if_le (tgt := 34) hx hb dX0_drop_30 (by decide) (fun c_6 => ?_) (fun c_6 => ?_)
        · have hE := if_t c_6 hE
          refine lv_aload_n hx hb dX0_drop_34 rfl (lv_at hl 0 rfl) ?_
          refine lv_iload_n hx hb dX0_drop_35 rfl (lv_at hl 1 rfl) ?_
          obtain ⟨st_7, hc_8, hE⟩ := ob_some hE
          refine ww_callVv (As := [.int x1]) (rest := []) ⟨hx, hb, hml, hown, hts⟩ hW (ctX0_unlink l D ks ad _ st_5 x1 hc_8) (cwV 1 hts gX0_drop_X0_unlink rfl rfl rfl (by decide +kernel) ⟨by show _ ≤ _; simp only [rmX0_drop, rmX0_unlink, headSpec]; omega, by show _ ≤ _; simp only [rmX0_drop, rmX0_unlink, headSpec]; omega⟩) hW.recvD rfl hl.1 rfl (Nat.le_of_ble_eq_true rfl) dX0_drop_36 ⟨Nat.zero_le _, Nat.zero_le _⟩ (fun H locs hW => ?_)
          refine lv_aload_n hx hb dX0_drop_39 rfl (lv_at hl 0 rfl) ?_
          refine ww_get (C := RX0) (T := TX0) (N := 17) (ref := RX0) (ci := 0) (v := .ref (ad (ic 11))) hx hb hts hin0 hown hW 6 (by decide) rfl rfl 7 (by decide) hf33 (fun _ h9 => h9) rfl dX0_drop_40 ?_
          refine lv_iload_n hx hb dX0_drop_43 rfl (lv_at hl 1 rfl) ?_
          refine lv_aload_n hx hb dX0_drop_44 rfl (lv_at hl 0 rfl) ?_
          refine ww_get (C := RX0) (T := TX0) (N := 17) (ref := RX0) (ci := 0) (v := .int (gF 0 st_7)) hx hb hts hin0 hown hW 6 (by decide) rfl rfl 13 (by decide) hf51 (fun _ h9 => h9) rfl dX0_drop_45 ?_
          obtain ⟨hin, hE⟩ := gd_some hE
          obtain ⟨st_9, est, hE⟩ := lt_some hE
          refine ww_iast hx hb hW 11 (by decide) hin est dX0_drop_48 (fun H locs hW => ?_)
          refine lv_aload_n hx hb dX0_drop_49 rfl (lv_at hl 0 rfl) ?_
          refine lv_iload_n hx hb dX0_drop_50 rfl (lv_at hl 1 rfl) ?_
          obtain ⟨st_10, est, hE⟩ := lt_some hE
          refine ww_put hx hb hts hin0 hown hW 0 (by decide) hf51 est dX0_drop_51 (fun H locs hW => ?_)
          refine lv_aload_n hx hb dX0_drop_54 rfl (lv_at hl 0 rfl) ?_
          refine lv_aload_n hx hb dX0_drop_55 rfl (lv_at hl 0 rfl) ?_
          refine ww_get (C := RX0) (T := TX0) (N := 17) (ref := RX0) (ci := 0) (v := .ref (ad (ic 9))) hx hb hts hin0 hown hW 6 (by decide) rfl rfl 5 (by decide) hf27 (fun _ h9 => h9) rfl dX0_drop_56 ?_
          refine lv_iload_n hx hb dX0_drop_59 rfl (lv_at hl 1 rfl) ?_
          obtain ⟨hin, hE⟩ := gd_some hE
          refine ww_iald hx hb hW 9 (by decide) hin dX0_drop_60 ?_
          refine lv_iload_n hx hb dX0_drop_61 rfl (lv_at hl 2 rfl) ?_
          refine lv_iconst (v := 1) hx hb dX0_drop_62 (by decide) ?_
          refine lv_iadd hx hb dX0_drop_63 ?_
          obtain ⟨st_11, hc_12, hE⟩ := ob_some hE
          refine ww_callSv (As := [.ref (ad 6), .int (gI 9 st_10 x1), .int (x2 + (1 : Int32))]) (rest := []) ⟨hx, hb, hml, hown, hts⟩ hW (ih _ st_10 (gI 9 st_10 x1) (x2 + (1 : Int32)) _ hc_12) (va_cwS 3 hts gX0_drop_X0_drop rfl rfl rfl (by decide +kernel) ⟨by show _ ≤ _; simp only [rmX0_drop, rmX0_drop, headSpec]; omega, by show _ ≤ _; simp only [rmX0_drop, rmX0_drop, headSpec]; omega⟩) rfl hl.1 rfl (Nat.le_of_ble_eq_true rfl) dX0_drop_64 ⟨Nat.zero_le _, Nat.zero_le _⟩ (fun H locs hW => ?_)
          refine lv_aload_n hx hb dX0_drop_67 rfl (lv_at hl 0 rfl) ?_
          refine lv_aload_n hx hb dX0_drop_68 rfl (lv_at hl 0 rfl) ?_
          refine ww_get (C := RX0) (T := TX0) (N := 17) (ref := RX0) (ci := 0) (v := .ref (ad (ic 10))) hx hb hts hin0 hown hW 6 (by decide) rfl rfl 6 (by decide) hf30 (fun _ h9 => h9) rfl dX0_drop_69 ?_
          refine lv_iload_n hx hb dX0_drop_72 rfl (lv_at hl 1 rfl) ?_
          obtain ⟨hin, hE⟩ := gd_some hE
          refine ww_iald hx hb hW 10 (by decide) hin dX0_drop_73 ?_
          refine lv_iload_n hx hb dX0_drop_74 rfl (lv_at hl 2 rfl) ?_
          refine lv_iconst (v := 1) hx hb dX0_drop_75 (by decide) ?_
          refine lv_iadd hx hb dX0_drop_76 ?_
          obtain ⟨st_13, hc_14, hE⟩ := ob_some hE
          refine ww_callSv (As := [.ref (ad 6), .int (gI 10 st_11 x1), .int (x2 + (1 : Int32))]) (rest := []) ⟨hx, hb, hml, hown, hts⟩ hW (ih _ st_11 (gI 10 st_11 x1) (x2 + (1 : Int32)) _ hc_14) (va_cwS 3 hts gX0_drop_X0_drop rfl rfl rfl (by decide +kernel) ⟨by show _ ≤ _; simp only [rmX0_drop, rmX0_drop, headSpec]; omega, by show _ ≤ _; simp only [rmX0_drop, rmX0_drop, headSpec]; omega⟩) rfl hl.1 rfl (Nat.le_of_ble_eq_true rfl) dX0_drop_77 ⟨Nat.zero_le _, Nat.zero_le _⟩ (fun H locs hW => ?_)
          obtain rfl := some_x hE
          exact W.vret hx hb hr (fun t ht hWm => hW.qv ht hWm) hW.2.2.1.2.2 dX0_drop_80
        · have hE := if_f c_6 hE
          obtain rfl := some_x hE
          exact W.vret hx hb hr (fun t ht hWm => hW.qv ht hWm) hW.2.2.1.2.2 dX0_drop_33
      · have hE := if_f c_4 hE
        obtain rfl := some_x hE
        exact W.vret hx hb hr (fun t ht hWm => hW.qv ht hWm) hW.2.2.1.2.2 dX0_drop_13
abbrev rmX0_join : Room := { frames := 3, cells := 0, slots := 0, locals := 70 }
set_option maxRecDepth 100000 in
theorem in0_X0_join : ∀ w ∈ wsX00, w ∈ wsX0_join := by decide +kernel
set_option maxHeartbeats 4000000 in
set_option maxRecDepth 100000 in
theorem ctX0_join (l : Launch) (D : va_G) (ks : KA) (ad : Nat → Nat) (sz : Nat) (st : St) (x1 : Int32) (x2 : Int32) (x3 : Int32)  {st' : St} (hE : sX0_join st x1 x2 x3 = some st') : CV l D ks yX0_join wsX0_join rmX0_join [.ref (ad 6), .int x1, .int x2, .int x3] ad sz st st' := by
  unfold sX0_join at hE
  refine Met.ofW (cc := cX0_join) (maxL := 6) (ret := none) (by decide) rfl ?_
  intro p e s m args below meth c s₁ B hml hv
  obtain ⟨hargs, hPW⟩ := hv
  have hW := WW.entry hPW
  have hx := B.exec
  have hb := B.bytes
  have hr := B.returns
  have hts := atoms_spec (ws := wsX0_join) B.pre
  have hown : s.vm.findClass RX0 = some m.cls := findClass_of_methodNamed B.named
  have hlocks := B.notSynchronized
  have hin0 : ∀ w ∈ u_ws RX0 TX0 17, w ∈ wsX0_join := in0_X0_join
  have hf48 := hts (.fieldLink RX0 48 "Trellis$Diagram" "rows" "[I") (by decide +kernel)
  have hl := lv_entry ([.ref (ad 6), .int x1, .int x2, .int x3]) (n := 6) (Nat.le_of_ble_eq_true rfl)
  have hfr : entryFrame m args 6 = F0 m 0 (lg_sl ([.ref (ad 6), .int x1, .int x2, .int x3]) ++ List.replicate (6 - (lg_sl ([.ref (ad 6), .int x1, .int x2, .int x3])).length) Slot.unset).toArray [] := by rw [hargs, lg_entry_eq]
  rw [hfr]
  generalize (lg_sl ([.ref (ad 6), .int x1, .int x2, .int x3]) ++ List.replicate (6 - (lg_sl ([.ref (ad 6), .int x1, .int x2, .int x3])).length) Slot.unset).toArray = ls at hl ⊢
  have hl : lv_has ls 6 [(0, .ref (ad 6)), (1, .int x1), (2, .int x2), (3, .int x3)] := hl
  have L6 : ∀ (n : Nat) (st : St) (x1 : Int32) (x2 : Int32) (x3 : Int32) (x4 : Int32) (x5 : Int32)  (stz : St) (H : Heap) (locs : List Loc) (ls : Array Slot), sX0_join_L6 n st x1 x2 x3 x4 x5 = some stz → WW D ks ad (AA ad sz) s st H locs → lv_has ls 6 [(0, .ref (ad 6)), (1, .int x1), (2, .int x2), (3, .int x3), (4, .int x4), (5, .int x5)] → (∀ (H : Heap) (locs : List Loc) (ls : Array Slot), WW D ks ad (AA ad sz) s stz H locs → lv_has ls 6 [] → W p l e (headSpec wsX0_join rmX0_join).room s m args below meth c H locs 0 0 (MQ below (va_Qv (fun (u : St) => u = st') (QW D ks ad sz) (AA ad sz)) args s 0 0 (AA ad sz)) (F0 m 59 ls [])) → W p l e (headSpec wsX0_join rmX0_join).room s m args below meth c H locs 0 0 (MQ below (va_Qv (fun (u : St) => u = st') (QW D ks ad sz) (AA ad sz)) args s 0 0 (AA ad sz)) (F0 m 6 ls []) := by
    intro n
    induction n with
    | zero =>
      intro st x1 x2 x3 x4 x5 stz H locs ls hE hW hl kx
      exact none_x hE
    | succ n ih =>
      intro st x1 x2 x3 x4 x5 stz H locs ls hE hW hl kx
      rw [sX0_join_L6] at hE
      refine lv_iload hx hb dX0_join_6 (lv_at hl 5 rfl) ?_
      refine lv_iconst (v := 1) hx hb dX0_join_8 (by decide) ?_
      refine lv_iload_n hx hb dX0_join_9 rfl (lv_at hl 3 rfl) ?_
      obtain ⟨r_2, hc_1, hE⟩ := ob_some hE
      refine ww_callSi (As := [.int x3]) (rest := [.int (1 : Int32), .int x5]) ⟨hx, hb, hml, hown, hts⟩ hW (ctJ6_bitCount_0f7a4 l D ks ad _ st x3 hc_1) (va_cwS 1 hts gX0_join_J6_bitCount_0f7a4 rfl rfl rfl (by decide +kernel) ⟨Nat.le_of_ble_eq_true rfl, Nat.le_of_ble_eq_true rfl⟩) rfl hl.1 rfl (Nat.le_of_ble_eq_true rfl) dX0_join_10 ⟨Nat.zero_le _, Nat.zero_le _⟩ (fun H locs hW => ?_)
      refine lv_ishl hx hb dX0_join_13 ?_
      refine lv_icmp_ge (tgt := 59) hx hb dX0_join_14 (by decide) (fun c_3 => ?_) (fun c_3 => ?_)
      · have hE := if_t c_3 hE
        obtain rfl := some_x hE
        exact kx _ _ _ hW (lv_sub hl [] rfl)
      · have hE := if_f c_3 hE
        refine lv_aload_n hx hb dX0_join_17 rfl (lv_at hl 0 rfl) ?_
        refine ww_get (C := RX0) (T := TX0) (N := 17) (ref := RX0) (ci := 0) (v := .ref (ad (ic 16))) hx hb hts hin0 hown hW 6 (by decide) rfl rfl 12 (by decide) hf48 (fun _ h9 => h9) rfl dX0_join_18 ?_
        refine lv_iload hx hb dX0_join_21 (lv_at hl 4 rfl) ?_
        refine lv_aload_n hx hb dX0_join_23 rfl (lv_at hl 0 rfl) ?_
        refine lv_iload_n hx hb dX0_join_24 rfl (lv_at hl 1 rfl) ?_
        refine lv_aload_n hx hb dX0_join_25 rfl (lv_at hl 0 rfl) ?_
        refine ww_get (C := RX0) (T := TX0) (N := 17) (ref := RX0) (ci := 0) (v := .ref (ad (ic 16))) hx hb hts hin0 hown hW 6 (by decide) rfl rfl 12 (by decide) hf48 (fun _ h9 => h9) rfl dX0_join_26 ?_
        refine lv_iload hx hb dX0_join_29 (lv_at hl 4 rfl) ?_
        obtain ⟨hin, hE⟩ := gd_some hE
        refine ww_iald hx hb hW 16 (by decide) hin dX0_join_31 ?_
        refine lv_aload_n hx hb dX0_join_32 rfl (lv_at hl 0 rfl) ?_
        refine ww_get (C := RX0) (T := TX0) (N := 17) (ref := RX0) (ci := 0) (v := .ref (ad (ic 16))) hx hb hts hin0 hown hW 6 (by decide) rfl rfl 12 (by decide) hf48 (fun _ h9 => h9) rfl dX0_join_33 ?_
        refine lv_iload hx hb dX0_join_36 (lv_at hl 4 rfl) ?_
        refine lv_iload_n hx hb dX0_join_38 rfl (lv_at hl 2 rfl) ?_
        refine lv_ior hx hb dX0_join_39 ?_
        obtain ⟨hin, hE⟩ := gd_some hE
        refine ww_iald hx hb hW 16 (by decide) hin dX0_join_40 ?_
        obtain ⟨r_6, st_4, hc_5, hE⟩ := ob2_some hE
        refine ww_callVi (As := [.int x1, .int (gI 16 st x4), .int (gI 16 st (x4 ||| x2))]) (rest := [.int x4, .ref (ad (ic 16))]) ⟨hx, hb, hml, hown, hts⟩ hW (ctX0_make l D ks ad _ st x1 (gI 16 st x4) (gI 16 st (x4 ||| x2)) hc_5) (cwV 3 hts gX0_join_X0_make rfl rfl rfl (by decide +kernel) ⟨Nat.le_of_ble_eq_true rfl, Nat.le_of_ble_eq_true rfl⟩) hW.recvD rfl hl.1 rfl (Nat.le_of_ble_eq_true rfl) dX0_join_41 ⟨Nat.zero_le _, Nat.zero_le _⟩ (fun H locs hW => ?_)
        obtain ⟨hin, hE⟩ := gd_some hE
        obtain ⟨st_7, est, hE⟩ := lt_some hE
        refine ww_iast hx hb hW 16 (by decide) hin est dX0_join_44 (fun H locs hW => ?_)
        refine lv_iload hx hb dX0_join_45 (lv_at hl 4 rfl) ?_
        refine lv_iload_n hx hb dX0_join_47 rfl (lv_at hl 3 rfl) ?_
        refine lv_isub hx hb dX0_join_48 ?_
        refine lv_iload_n hx hb dX0_join_49 rfl (lv_at hl 3 rfl) ?_
        refine lv_iand hx hb dX0_join_50 ?_
        obtain ⟨x4_8, e, hE⟩ := lt_some hE
        refine lv_nmi e ?_
        refine lv_istore (lv' := [(4, .int x4_8), (0, .ref (ad 6)), (1, .int x1), (2, .int x2), (3, .int x3), (5, .int x5)]) hx hb dX0_join_51 hl (by decide) rfl (fun ls hl => ?_)
        obtain ⟨x5_9, e, hE⟩ := lt_some hE
        refine lv_iinc (v := x5_9) (lv' := [(5, .int x5_9), (4, .int x4_8), (0, .ref (ad 6)), (1, .int x1), (2, .int x2), (3, .int x3)]) hx hb dX0_join_53 hl (k := 5) rfl (by rw [e]; rfl) (by decide) rfl (fun ls hl => ?_)
        refine lv_goto (tgt := 6) hx hb dX0_join_56 (by decide) ?_
        exact ih st_7 x1 x2 x3 x4_8 x5_9 _ _ _ _ hE hW (lv_sub hl [2, 3, 4, 5, 1, 0] rfl) kx
  refine lv_iconst (v := 0) hx hb dX0_join_0 (by decide) ?_
  refine lv_istore (lv' := [(4, .int (0 : Int32)), (0, .ref (ad 6)), (1, .int x1), (2, .int x2), (3, .int x3)]) hx hb dX0_join_1 hl (by decide) rfl (fun ls hl => ?_)
  refine lv_iconst (v := 0) hx hb dX0_join_3 (by decide) ?_
  refine lv_istore (lv' := [(5, .int (0 : Int32)), (4, .int (0 : Int32)), (0, .ref (ad 6)), (1, .int x1), (2, .int x2), (3, .int x3)]) hx hb dX0_join_4 hl (by decide) rfl (fun ls hl => ?_)
  obtain ⟨st_10, hz, hE⟩ := ob_some hE
  refine L6 FU st x1 x2 x3 (0 : Int32) (0 : Int32) st_10 _ _ _ hz hW (lv_sub hl [2, 3, 4, 5, 1, 0] rfl) (fun H locs ls hW hl => ?_)
  obtain rfl := some_x hE
  exact W.vret hx hb hr (fun t ht hWm => hW.qv ht hWm) hW.2.2.1.2.2 dX0_join_59
abbrev rmX0_build : Room := { frames := 4, cells := 0, slots := 0, locals := 95 }
set_option maxRecDepth 100000 in
theorem in0_X0_build : ∀ w ∈ wsX00, w ∈ wsX0_build := by decide +kernel
set_option maxHeartbeats 4000000 in
set_option maxRecDepth 100000 in
theorem ctX0_build (l : Launch) (D : va_G) (ks : KA) (ad : Nat → Nat) (sz : Nat) (st : St) (t1 : Nat) (x2 : Int32) (ht1 : t1 < 15) {r : Int32} {st' : St} (hE : sX0_build st t1 x2 = some (r, st')) : CI l D ks yX0_build wsX0_build rmX0_build [.ref (ad 6), .ref (ad (tc t1)), .int x2] ad sz st r st' := by
  unfold sX0_build at hE
  refine Met.ofW (cc := cX0_build) (maxL := 7) (ret := (some .int)) (by decide) rfl ?_
  intro p e s m args below meth c s₁ B hml hv
  obtain ⟨hargs, hPW⟩ := hv
  have hW := WW.entry hPW
  have hx := B.exec
  have hb := B.bytes
  have hr := B.returns
  have hts := atoms_spec (ws := wsX0_build) B.pre
  have hown : s.vm.findClass RX0 = some m.cls := findClass_of_methodNamed B.named
  have hlocks := B.notSynchronized
  have hin0 : ∀ w ∈ u_ws RX0 TX0 17, w ∈ wsX0_build := in0_X0_build
  have hf48 := hts (.fieldLink RX0 48 "Trellis$Diagram" "rows" "[I") (by decide +kernel)
  have hf9 := hts (.fieldLink RX0 9 "Trellis$Diagram" "order" "[I") (by decide +kernel)
  have hl := lv_entry ([.ref (ad 6), .ref (ad (tc t1)), .int x2]) (n := 7) (Nat.le_of_ble_eq_true rfl)
  have hfr : entryFrame m args 7 = F0 m 0 (lg_sl ([.ref (ad 6), .ref (ad (tc t1)), .int x2]) ++ List.replicate (7 - (lg_sl ([.ref (ad 6), .ref (ad (tc t1)), .int x2])).length) Slot.unset).toArray [] := by rw [hargs, lg_entry_eq]
  rw [hfr]
  generalize (lg_sl ([.ref (ad 6), .ref (ad (tc t1)), .int x2]) ++ List.replicate (7 - (lg_sl ([.ref (ad 6), .ref (ad (tc t1)), .int x2])).length) Slot.unset).toArray = ls at hl ⊢
  have hl : lv_has ls 7 [(0, .ref (ad 6)), (1, .ref (ad (tc t1))), (2, .int x2)] := hl
  have L18 : ∀ (n : Nat) (st : St) (t1 : Nat) (x2 : Int32) (x3 : Int32) (x4 : Int32) (hu1 : t1 < 15) (stz : St) (H : Heap) (locs : List Loc) (ls : Array Slot), sX0_build_L18 n st t1 x2 x3 x4 = some stz → WW D ks ad (AA ad sz) s st H locs → lv_has ls 7 [(0, .ref (ad 6)), (1, .ref (ad (tc t1))), (2, .int x2), (3, .int x3), (4, .int x4)] → (∀ (H : Heap) (locs : List Loc) (ls : Array Slot), WW D ks ad (AA ad sz) s stz H locs → lv_has ls 7 [(0, .ref (ad 6)), (2, .int x2)] → W p l e (headSpec wsX0_build rmX0_build).room s m args below meth c H locs 0 0 (MQ below (va_Qi (fun (x : Int32) (u : St) => x = r ∧ u = st') (QW D ks ad sz) (AA ad sz)) args s 0 0 (AA ad sz)) (F0 m 60 ls [])) → W p l e (headSpec wsX0_build rmX0_build).room s m args below meth c H locs 0 0 (MQ below (va_Qi (fun (x : Int32) (u : St) => x = r ∧ u = st') (QW D ks ad sz) (AA ad sz)) args s 0 0 (AA ad sz)) (F0 m 18 ls []) := by
    intro n
    induction n with
    | zero =>
      intro st t1 x2 x3 x4 hu1 stz H locs ls hE hW hl kx
      exact none_x hE
    | succ n ih =>
      intro st t1 x2 x3 x4 hu1 stz H locs ls hE hW hl kx
      rw [sX0_build_L18] at hE
      refine lv_iload hx hb dX0_build_18 (lv_at hl 4 rfl) ?_
      refine lv_iconst (v := 1) hx hb dX0_build_20 (by decide) ?_
      refine lv_iload_n hx hb dX0_build_21 rfl (lv_at hl 2 rfl) ?_
      obtain ⟨r_4, hc_3, hE⟩ := ob_some hE
      refine ww_callSi (As := [.int x2]) (rest := [.int (1 : Int32), .int x4]) ⟨hx, hb, hml, hown, hts⟩ hW (ctJ6_bitCount_0f7a4 l D ks ad _ st x2 hc_3) (va_cwS 1 hts gX0_build_J6_bitCount_0f7a4 rfl rfl rfl (by decide +kernel) ⟨Nat.le_of_ble_eq_true rfl, Nat.le_of_ble_eq_true rfl⟩) rfl hl.1 rfl (Nat.le_of_ble_eq_true rfl) dX0_build_22 ⟨Nat.zero_le _, Nat.zero_le _⟩ (fun H locs hW => ?_)
      refine lv_ishl hx hb dX0_build_25 ?_
      refine lv_icmp_ge (tgt := 60) hx hb dX0_build_26 (by decide) (fun c_5 => ?_) (fun c_5 => ?_)
      · have hE := if_t c_5 hE
        obtain rfl := some_x hE
        exact kx _ _ _ hW (lv_sub hl [0, 2] rfl)
      · have hE := if_f c_5 hE
        refine lv_aload_n hx hb dX0_build_29 rfl (lv_at hl 0 rfl) ?_
        refine ww_get (C := RX0) (T := TX0) (N := 17) (ref := RX0) (ci := 0) (v := .ref (ad (ic 16))) hx hb hts hin0 hown hW 6 (by decide) rfl rfl 12 (by decide) hf48 (fun _ h9 => h9) rfl dX0_build_30 ?_
        refine lv_iload_n hx hb dX0_build_33 rfl (lv_at hl 3 rfl) ?_
        refine lv_aload_n hx hb dX0_build_34 rfl (lv_at hl 1 rfl) ?_
        refine lv_iload_n hx hb dX0_build_35 rfl (lv_at hl 3 rfl) ?_
        obtain ⟨r_7, hc_6, hE⟩ := ob_some hE
        refine ww_callVi (As := [.int x3]) (rest := [.int x3, .ref (ad (ic 16))]) ⟨hx, hb, hml, hown, hts⟩ hW (ctX2_tells l D ks ad _ st t1 x3 hu1 hc_6) (cwV 1 hts gX0_build_X2_tells rfl rfl rfl (by decide +kernel) ⟨Nat.le_of_ble_eq_true rfl, Nat.le_of_ble_eq_true rfl⟩) (hW.recvT hu1) rfl hl.1 rfl (Nat.le_of_ble_eq_true rfl) dX0_build_36 ⟨Nat.zero_le _, Nat.zero_le _⟩ (fun H locs hW => ?_)
        refine lv_if_eq (tgt := 46) hx hb dX0_build_39 (by decide) (fun c_8 => ?_) (fun c_8 => ?_)
        · have hE := if_t c_8 hE
          refine lv_iconst (v := 0) hx hb dX0_build_46 (by decide) ?_
          obtain ⟨hin, hE⟩ := gd_some hE
          obtain ⟨st_9, est, hE⟩ := lt_some hE
          refine ww_iast hx hb hW 16 (by decide) hin est dX0_build_47 (fun H locs hW => ?_)
          refine lv_iload_n hx hb dX0_build_48 rfl (lv_at hl 3 rfl) ?_
          refine lv_iload_n hx hb dX0_build_49 rfl (lv_at hl 2 rfl) ?_
          refine lv_isub hx hb dX0_build_50 ?_
          refine lv_iload_n hx hb dX0_build_51 rfl (lv_at hl 2 rfl) ?_
          refine lv_iand hx hb dX0_build_52 ?_
          obtain ⟨x3_10, e, hE⟩ := lt_some hE
          refine lv_nmi e ?_
          refine lv_istore_n (lv' := [(3, .int x3_10), (0, .ref (ad 6)), (1, .ref (ad (tc t1))), (2, .int x2), (4, .int x4)]) hx hb dX0_build_53 rfl hl (by decide) rfl (fun ls hl => ?_)
          obtain ⟨x4_11, e, hE⟩ := lt_some hE
          refine lv_iinc (v := x4_11) (lv' := [(4, .int x4_11), (3, .int x3_10), (0, .ref (ad 6)), (1, .ref (ad (tc t1))), (2, .int x2)]) hx hb dX0_build_54 hl (k := 4) rfl (by rw [e]; rfl) (by decide) rfl (fun ls hl => ?_)
          refine lv_goto (tgt := 18) hx hb dX0_build_57 (by decide) ?_
          exact ih st_9 t1 x2 x3_10 x4_11 hu1 _ _ _ _ hE hW (lv_sub hl [2, 3, 4, 1, 0] rfl) kx
        · have hE := if_f c_8 hE
          refine lv_iconst (v := 1) hx hb dX0_build_42 (by decide) ?_
          refine lv_goto (tgt := 47) hx hb dX0_build_43 (by decide) ?_
          obtain ⟨hin, hE⟩ := gd_some hE
          obtain ⟨st_12, est, hE⟩ := lt_some hE
          refine ww_iast hx hb hW 16 (by decide) hin est dX0_build_47 (fun H locs hW => ?_)
          refine lv_iload_n hx hb dX0_build_48 rfl (lv_at hl 3 rfl) ?_
          refine lv_iload_n hx hb dX0_build_49 rfl (lv_at hl 2 rfl) ?_
          refine lv_isub hx hb dX0_build_50 ?_
          refine lv_iload_n hx hb dX0_build_51 rfl (lv_at hl 2 rfl) ?_
          refine lv_iand hx hb dX0_build_52 ?_
          obtain ⟨x3_13, e, hE⟩ := lt_some hE
          refine lv_nmi e ?_
          refine lv_istore_n (lv' := [(3, .int x3_13), (0, .ref (ad 6)), (1, .ref (ad (tc t1))), (2, .int x2), (4, .int x4)]) hx hb dX0_build_53 rfl hl (by decide) rfl (fun ls hl => ?_)
          obtain ⟨x4_14, e, hE⟩ := lt_some hE
          refine lv_iinc (v := x4_14) (lv' := [(4, .int x4_14), (3, .int x3_13), (0, .ref (ad 6)), (1, .ref (ad (tc t1))), (2, .int x2)]) hx hb dX0_build_54 hl (k := 4) rfl (by rw [e]; rfl) (by decide) rfl (fun ls hl => ?_)
          refine lv_goto (tgt := 18) hx hb dX0_build_57 (by decide) ?_
          exact ih st_12 t1 x2 x3_13 x4_14 hu1 _ _ _ _ hE hW (lv_sub hl [2, 3, 4, 1, 0] rfl) kx
  have L67 : ∀ (n : Nat) (st : St) (x4 : Int32) (x5 : Int32)  (stz : St) (H : Heap) (locs : List Loc) (ls : Array Slot), sX0_build_L67 n st x4 x5 = some stz → WW D ks ad (AA ad sz) s st H locs → lv_has ls 7 [(0, .ref (ad 6)), (4, .int x4), (5, .int x5)] → (∀ (H : Heap) (locs : List Loc) (ls : Array Slot), WW D ks ad (AA ad sz) s stz H locs → lv_has ls 7 [(0, .ref (ad 6))] → W p l e (headSpec wsX0_build rmX0_build).room s m args below meth c H locs 0 0 (MQ below (va_Qi (fun (x : Int32) (u : St) => x = r ∧ u = st') (QW D ks ad sz) (AA ad sz)) args s 0 0 (AA ad sz)) (F0 m 116 ls [])) → W p l e (headSpec wsX0_build rmX0_build).room s m args below meth c H locs 0 0 (MQ below (va_Qi (fun (x : Int32) (u : St) => x = r ∧ u = st') (QW D ks ad sz) (AA ad sz)) args s 0 0 (AA ad sz)) (F0 m 67 ls []) := by
    intro n
    induction n with
    | zero =>
      intro st x4 x5 stz H locs ls hE hW hl kx
      exact none_x hE
    | succ n ih =>
      intro st x4 x5 stz H locs ls hE hW hl kx
      rw [sX0_build_L67] at hE
      refine lv_iload hx hb dX0_build_67 (lv_at hl 2 rfl) ?_
      refine lv_if_lt (tgt := 116) hx hb dX0_build_69 (by decide) (fun c_16 => ?_) (fun c_16 => ?_)
      · have hE := if_t c_16 hE
        obtain rfl := some_x hE
        exact kx _ _ _ hW (lv_sub hl [0] rfl)
      · have hE := if_f c_16 hE
        refine lv_iconst (v := 1) hx hb dX0_build_72 (by decide) ?_
        refine lv_aload_n hx hb dX0_build_73 rfl (lv_at hl 0 rfl) ?_
        refine ww_get (C := RX0) (T := TX0) (N := 17) (ref := RX0) (ci := 0) (v := .ref (ad (ic 4))) hx hb hts hin0 hown hW 6 (by decide) rfl rfl 0 (by decide) hf9 (fun _ h9 => h9) rfl dX0_build_74 ?_
        refine lv_iload hx hb dX0_build_77 (lv_at hl 2 rfl) ?_
        obtain ⟨hin, hE⟩ := gd_some hE
        refine ww_iald hx hb hW 4 (by decide) hin dX0_build_79 ?_
        refine lv_ishl hx hb dX0_build_80 ?_
        obtain ⟨x6_17, e, hE⟩ := lt_some hE
        refine lv_nmi e ?_
        refine lv_istore (lv' := [(6, .int x6_17), (0, .ref (ad 6)), (4, .int x4), (5, .int x5)]) hx hb dX0_build_81 hl (by decide) rfl (fun ls hl => ?_)
        refine lv_iload hx hb dX0_build_83 (lv_at hl 2 rfl) ?_
        refine lv_iload hx hb dX0_build_85 (lv_at hl 0 rfl) ?_
        refine lv_iand hx hb dX0_build_87 ?_
        refine lv_if_eq (tgt := 110) hx hb dX0_build_88 (by decide) (fun c_18 => ?_) (fun c_18 => ?_)
        · have hE := if_t c_18 hE
          obtain ⟨x5_19, e, hE⟩ := lt_some hE
          refine lv_iinc (v := x5_19) (lv' := [(5, .int x5_19), (6, .int x6_17), (0, .ref (ad 6)), (4, .int x4)]) hx hb dX0_build_110 hl (k := 3) rfl (by rw [e]; rfl) (by decide) rfl (fun ls hl => ?_)
          refine lv_goto (tgt := 67) hx hb dX0_build_113 (by decide) ?_
          exact ih st x4 x5_19 _ _ _ _ hE hW (lv_sub hl [2, 3, 0] rfl) kx
        · have hE := if_f c_18 hE
          refine lv_iload hx hb dX0_build_91 (lv_at hl 2 rfl) ?_
          refine lv_iload hx hb dX0_build_93 (lv_at hl 0 rfl) ?_
          refine lv_iconst (v := (-1)) hx hb dX0_build_95 (by decide) ?_
          refine lv_ixor hx hb dX0_build_96 ?_
          refine lv_iand hx hb dX0_build_97 ?_
          obtain ⟨x4_20, e, hE⟩ := lt_some hE
          refine lv_nmi e ?_
          refine lv_istore (lv' := [(4, .int x4_20), (6, .int x6_17), (0, .ref (ad 6)), (5, .int x5)]) hx hb dX0_build_98 hl (by decide) rfl (fun ls hl => ?_)
          refine lv_aload_n hx hb dX0_build_100 rfl (lv_at hl 2 rfl) ?_
          refine lv_iload hx hb dX0_build_101 (lv_at hl 3 rfl) ?_
          refine lv_iload hx hb dX0_build_103 (lv_at hl 1 rfl) ?_
          refine lv_iload hx hb dX0_build_105 (lv_at hl 0 rfl) ?_
          obtain ⟨st_21, hc_22, hE⟩ := ob_some hE
          refine ww_callVv (As := [.int x5, .int x6_17, .int x4_20]) (rest := []) ⟨hx, hb, hml, hown, hts⟩ hW (ctX0_join l D ks ad _ st x5 x6_17 x4_20 hc_22) (cwV 3 hts gX0_build_X0_join rfl rfl rfl (by decide +kernel) ⟨Nat.le_of_ble_eq_true rfl, Nat.le_of_ble_eq_true rfl⟩) hW.recvD rfl hl.1 rfl (Nat.le_of_ble_eq_true rfl) dX0_build_107 ⟨Nat.zero_le _, Nat.zero_le _⟩ (fun H locs hW => ?_)
          obtain ⟨x5_23, e, hE⟩ := lt_some hE
          refine lv_iinc (v := x5_23) (lv' := [(5, .int x5_23), (4, .int x4_20), (6, .int x6_17), (0, .ref (ad 6))]) hx hb dX0_build_110 hl (k := 3) rfl (by rw [e]; rfl) (by decide) rfl (fun ls hl => ?_)
          refine lv_goto (tgt := 67) hx hb dX0_build_113 (by decide) ?_
          exact ih st_21 x4_20 x5_23 _ _ _ _ hE hW (lv_sub hl [3, 1, 0] rfl) kx
  refine lv_iload_n hx hb dX0_build_0 rfl (lv_at hl 2 rfl) ?_
  refine lv_if_lt (tgt := 11) hx hb dX0_build_1 (by decide) (fun c_1 => ?_) (fun c_1 => ?_)
  · have hE := if_t c_1 hE
    refine lv_iconst (v := 0) hx hb dX0_build_11 (by decide) ?_
    obtain ⟨rfl, rfl⟩ := pair_x hE
    exact W.iret hx hb hr (fun t ht hWm => hW.qi ht hWm) hW.2.2.1.2.2 dX0_build_12
  · have hE := if_f c_1 hE
    refine lv_iload_n hx hb dX0_build_4 rfl (lv_at hl 2 rfl) ?_
    refine lv_sipush (v := 1024) hx hb dX0_build_5 (by decide) ?_
    refine lv_icmp_lt (tgt := 13) hx hb dX0_build_8 (by decide) (fun c_2 => ?_) (fun c_2 => ?_)
    · have hE := if_t c_2 hE
      refine lv_iconst (v := 0) hx hb dX0_build_13 (by decide) ?_
      refine lv_istore_n (lv' := [(3, .int (0 : Int32)), (0, .ref (ad 6)), (1, .ref (ad (tc t1))), (2, .int x2)]) hx hb dX0_build_14 rfl hl (by decide) rfl (fun ls hl => ?_)
      refine lv_iconst (v := 0) hx hb dX0_build_15 (by decide) ?_
      refine lv_istore (lv' := [(4, .int (0 : Int32)), (3, .int (0 : Int32)), (0, .ref (ad 6)), (1, .ref (ad (tc t1))), (2, .int x2)]) hx hb dX0_build_16 hl (by decide) rfl (fun ls hl => ?_)
      obtain ⟨st_15, hz, hE⟩ := ob_some hE
      refine L18 FU st t1 x2 (0 : Int32) (0 : Int32) ht1 st_15 _ _ _ hz hW (lv_sub hl [2, 3, 4, 1, 0] rfl) (fun H locs ls hW hl => ?_)
      refine lv_iload_n hx hb dX0_build_60 rfl (lv_at hl 1 rfl) ?_
      refine lv_istore (lv' := [(4, .int x2), (0, .ref (ad 6)), (2, .int x2)]) hx hb dX0_build_61 hl (by decide) rfl (fun ls hl => ?_)
      refine lv_bipush (v := 9) hx hb dX0_build_63 (by decide) ?_
      refine lv_istore (lv' := [(5, .int (9 : Int32)), (4, .int x2), (0, .ref (ad 6)), (2, .int x2)]) hx hb dX0_build_65 hl (by decide) rfl (fun ls hl => ?_)
      obtain ⟨st_24, hz, hE⟩ := ob_some hE
      refine L67 FU st_15 x2 (9 : Int32) st_24 _ _ _ hz hW (lv_sub hl [2, 1, 0] rfl) (fun H locs ls hW hl => ?_)
      refine lv_aload_n hx hb dX0_build_116 rfl (lv_at hl 0 rfl) ?_
      refine ww_get (C := RX0) (T := TX0) (N := 17) (ref := RX0) (ci := 0) (v := .ref (ad (ic 16))) hx hb hts hin0 hown hW 6 (by decide) rfl rfl 12 (by decide) hf48 (fun _ h9 => h9) rfl dX0_build_117 ?_
      refine lv_iconst (v := 0) hx hb dX0_build_120 (by decide) ?_
      obtain ⟨hin, hE⟩ := gd_some hE
      refine ww_iald hx hb hW 16 (by decide) hin dX0_build_121 ?_
      obtain ⟨rfl, rfl⟩ := pair_x hE
      exact W.iret hx hb hr (fun t ht hWm => hW.qi ht hWm) hW.2.2.1.2.2 dX0_build_122
    · have hE := if_f c_2 hE
      refine lv_iconst (v := 0) hx hb dX0_build_11 (by decide) ?_
      obtain ⟨rfl, rfl⟩ := pair_x hE
      exact W.iret hx hb hr (fun t ht hWm => hW.qi ht hWm) hW.2.2.1.2.2 dX0_build_12
abbrev rmX0_setRoot : Room := { frames := 15, cells := 0, slots := 0, locals := 334 }
set_option maxRecDepth 100000 in
theorem in0_X0_setRoot : ∀ w ∈ wsX00, w ∈ wsX0_setRoot := by decide +kernel
set_option maxHeartbeats 4000000 in
set_option maxRecDepth 100000 in
theorem ctX0_setRoot (l : Launch) (D : va_G) (ks : KA) (ad : Nat → Nat) (sz : Nat) (st : St) (x1 : Int32) (x2 : Int32)  {st' : St} (hE : sX0_setRoot st x1 x2 = some st') : CV l D ks yX0_setRoot wsX0_setRoot rmX0_setRoot [.ref (ad 6), .int x1, .int x2] ad sz st st' := by
  unfold sX0_setRoot at hE
  refine Met.ofW (cc := cX0_setRoot) (maxL := 4) (ret := none) (by decide) rfl ?_
  intro p e s m args below meth c s₁ B hml hv
  obtain ⟨hargs, hPW⟩ := hv
  have hW := WW.entry hPW
  have hx := B.exec
  have hb := B.bytes
  have hr := B.returns
  have hts := atoms_spec (ws := wsX0_setRoot) B.pre
  have hown : s.vm.findClass RX0 = some m.cls := findClass_of_methodNamed B.named
  have hlocks := B.notSynchronized
  have hin0 : ∀ w ∈ u_ws RX0 TX0 17, w ∈ wsX0_setRoot := in0_X0_setRoot
  have hf15 := hts (.fieldLink RX0 15 "Trellis$Diagram" "roots" "[I") (by decide +kernel)
  have hl := lv_entry ([.ref (ad 6), .int x1, .int x2]) (n := 4) (Nat.le_of_ble_eq_true rfl)
  have hfr : entryFrame m args 4 = F0 m 0 (lg_sl ([.ref (ad 6), .int x1, .int x2]) ++ List.replicate (4 - (lg_sl ([.ref (ad 6), .int x1, .int x2])).length) Slot.unset).toArray [] := by rw [hargs, lg_entry_eq]
  rw [hfr]
  generalize (lg_sl ([.ref (ad 6), .int x1, .int x2]) ++ List.replicate (4 - (lg_sl ([.ref (ad 6), .int x1, .int x2])).length) Slot.unset).toArray = ls at hl ⊢
  have hl : lv_has ls 4 [(0, .ref (ad 6)), (1, .int x1), (2, .int x2)] := hl
  refine lv_aload_n hx hb dX0_setRoot_0 rfl (lv_at hl 0 rfl) ?_
  refine lv_iload_n hx hb dX0_setRoot_1 rfl (lv_at hl 2 rfl) ?_
  obtain ⟨st_1, hc_2, hE⟩ := ob_some hE
  refine ww_callVv (As := [.int x2]) (rest := []) ⟨hx, hb, hml, hown, hts⟩ hW (ctX0_point l D ks ad _ st x2 hc_2) (cwV 1 hts gX0_setRoot_X0_point rfl rfl rfl (by decide +kernel) ⟨Nat.le_of_ble_eq_true rfl, Nat.le_of_ble_eq_true rfl⟩) hW.recvD rfl hl.1 rfl (Nat.le_of_ble_eq_true rfl) dX0_setRoot_2 ⟨Nat.zero_le _, Nat.zero_le _⟩ (fun H locs hW => ?_)
  refine lv_aload_n hx hb dX0_setRoot_5 rfl (lv_at hl 0 rfl) ?_
  refine ww_get (C := RX0) (T := TX0) (N := 17) (ref := RX0) (ci := 0) (v := .ref (ad (ic 5))) hx hb hts hin0 hown hW 6 (by decide) rfl rfl 1 (by decide) hf15 (fun _ h9 => h9) rfl dX0_setRoot_6 ?_
  refine lv_iload_n hx hb dX0_setRoot_9 rfl (lv_at hl 1 rfl) ?_
  obtain ⟨hin, hE⟩ := gd_some hE
  refine ww_iald hx hb hW 5 (by decide) hin dX0_setRoot_10 ?_
  obtain ⟨x3_3, e, hE⟩ := lt_some hE
  refine lv_nmi e ?_
  refine lv_istore_n (lv' := [(3, .int x3_3), (0, .ref (ad 6)), (1, .int x1), (2, .int x2)]) hx hb dX0_setRoot_11 rfl hl (by decide) rfl (fun ls hl => ?_)
  refine lv_aload_n hx hb dX0_setRoot_12 rfl (lv_at hl 1 rfl) ?_
  refine ww_get (C := RX0) (T := TX0) (N := 17) (ref := RX0) (ci := 0) (v := .ref (ad (ic 5))) hx hb hts hin0 hown hW 6 (by decide) rfl rfl 1 (by decide) hf15 (fun _ h9 => h9) rfl dX0_setRoot_13 ?_
  refine lv_iload_n hx hb dX0_setRoot_16 rfl (lv_at hl 2 rfl) ?_
  refine lv_iload_n hx hb dX0_setRoot_17 rfl (lv_at hl 3 rfl) ?_
  obtain ⟨hin, hE⟩ := gd_some hE
  obtain ⟨st_4, est, hE⟩ := lt_some hE
  refine ww_iast hx hb hW 5 (by decide) hin est dX0_setRoot_18 (fun H locs hW => ?_)
  refine lv_aload_n hx hb dX0_setRoot_19 rfl (lv_at hl 1 rfl) ?_
  refine lv_iload_n hx hb dX0_setRoot_20 rfl (lv_at hl 0 rfl) ?_
  refine lv_iconst (v := 0) hx hb dX0_setRoot_21 (by decide) ?_
  obtain ⟨st_5, hc_6, hE⟩ := ob_some hE
  refine ww_callSv (As := [.ref (ad 6), .int x3_3, .int (0 : Int32)]) (rest := []) ⟨hx, hb, hml, hown, hts⟩ hW (ctX0_drop l D ks ad _ 12 st_4 x3_3 (0 : Int32) _ hc_6) (va_cwS 3 hts gX0_setRoot_X0_drop rfl rfl rfl (by decide +kernel) ⟨Nat.le_of_ble_eq_true rfl, Nat.le_of_ble_eq_true rfl⟩) rfl hl.1 rfl (Nat.le_of_ble_eq_true rfl) dX0_setRoot_22 ⟨Nat.zero_le _, Nat.zero_le _⟩ (fun H locs hW => ?_)
  obtain rfl := some_x hE
  exact W.vret hx hb hr (fun t ht hWm => hW.qv ht hWm) hW.2.2.1.2.2 dX0_setRoot_25
abbrev rmX0_collect (n : Nat) : Room := { frames := 1 + n, cells := 0, slots := 0, locals := 20 + n * 22 }
set_option maxRecDepth 100000 in
theorem in0_X0_collect : ∀ w ∈ wsX00, w ∈ wsX0_collect := by decide +kernel
set_option maxHeartbeats 4000000 in
set_option maxRecDepth 100000 in
theorem ctX0_collect (l : Launch) (D : va_G) (ks : KA) (ad : Nat → Nat) : ∀ (sz n0 : Nat) (st : St) (x1 : Int32) (x2 : Int32)  (st' : St) (h : sX0_collect n0 st x1 x2 = some st'), CV l D ks yX0_collect wsX0_collect (rmX0_collect n0) [.ref (ad 6), .int x1, .int x2] ad sz st st' := by
  intro sz n0
  induction n0 generalizing sz with
  | zero =>
    intro st x1 x2 st' hE
    exact none_x hE
  | succ n0 ih =>
    intro st x1 x2 st' hE
    rw [sX0_collect] at hE
    refine Met.ofW (cc := cX0_collect) (maxL := 3) (ret := none) (by decide) rfl ?_
    intro p e s m args below meth c s₁ B hml hv
    obtain ⟨hargs, hPW⟩ := hv
    have hW := WW.entry hPW
    have hx := B.exec
    have hb := B.bytes
    have hr := B.returns
    have hts := atoms_spec (ws := wsX0_collect) B.pre
    have hown : s.vm.findClass RX0 = some m.cls := findClass_of_methodNamed B.named
    have hlocks := B.notSynchronized
    have hin0 : ∀ w ∈ u_ws RX0 TX0 17, w ∈ wsX0_collect := in0_X0_collect
    have hf39 := hts (.fieldLink RX0 39 "Trellis$Diagram" "stamps" "[I") (by decide +kernel)
    have hf103 := hts (.fieldLink RX0 103 "Trellis$Diagram" "stamp" "I") (by decide +kernel)
    have hf27 := hts (.fieldLink RX0 27 "Trellis$Diagram" "lows" "[I") (by decide +kernel)
    have hf30 := hts (.fieldLink RX0 30 "Trellis$Diagram" "highs" "[I") (by decide +kernel)
    have hf109 := hts (.fieldLink RX0 109 "Trellis$Diagram" "listed" "I") (by decide +kernel)
    have hf45 := hts (.fieldLink RX0 45 "Trellis$Diagram" "list" "[I") (by decide +kernel)
    have hl := lv_entry ([.ref (ad 6), .int x1, .int x2]) (n := 3) (Nat.le_of_ble_eq_true rfl)
    have hfr : entryFrame m args 3 = F0 m 0 (lg_sl ([.ref (ad 6), .int x1, .int x2]) ++ List.replicate (3 - (lg_sl ([.ref (ad 6), .int x1, .int x2])).length) Slot.unset).toArray [] := by rw [hargs, lg_entry_eq]
    rw [hfr]
    generalize (lg_sl ([.ref (ad 6), .int x1, .int x2]) ++ List.replicate (3 - (lg_sl ([.ref (ad 6), .int x1, .int x2])).length) Slot.unset).toArray = ls at hl ⊢
    have hl : lv_has ls 3 [(0, .ref (ad 6)), (1, .int x1), (2, .int x2)] := hl
    refine lv_iload_n hx hb dX0_collect_0 rfl (lv_at hl 1 rfl) ?_
    obtain ⟨r_2, hc_1, hE⟩ := ob_some hE
    refine ww_callSi (As := [.int x1]) (rest := []) ⟨hx, hb, hml, hown, hts⟩ hW (ctX0_isNode l D ks ad _ st x1 hc_1) (va_cwS 1 hts gX0_collect_X0_isNode rfl rfl rfl (by decide +kernel) ⟨by show _ ≤ _; simp only [rmX0_collect, rmX0_isNode, headSpec]; omega, by show _ ≤ _; simp only [rmX0_collect, rmX0_isNode, headSpec]; omega⟩) rfl hl.1 rfl (Nat.le_of_ble_eq_true rfl) dX0_collect_1 ⟨Nat.zero_le _, Nat.zero_le _⟩ (fun H locs hW => ?_)
    refine lv_if_eq (tgt := 26) hx hb dX0_collect_4 (by decide) (fun c_3 => ?_) (fun c_3 => ?_)
    · have hE := if_t c_3 hE
      obtain rfl := some_x hE
      exact W.vret hx hb hr (fun t ht hWm => hW.qv ht hWm) hW.2.2.1.2.2 dX0_collect_26
    · have hE := if_f c_3 hE
      refine lv_iload_n hx hb dX0_collect_7 rfl (lv_at hl 2 rfl) ?_
      refine lv_bipush (v := 10) hx hb dX0_collect_8 (by decide) ?_
      refine lv_icmp_gt (tgt := 26) hx hb dX0_collect_10 (by decide) (fun c_4 => ?_) (fun c_4 => ?_)
      · have hE := if_t c_4 hE
        obtain rfl := some_x hE
        exact W.vret hx hb hr (fun t ht hWm => hW.qv ht hWm) hW.2.2.1.2.2 dX0_collect_26
      · have hE := if_f c_4 hE
        refine lv_aload_n hx hb dX0_collect_13 rfl (lv_at hl 0 rfl) ?_
        refine ww_get (C := RX0) (T := TX0) (N := 17) (ref := RX0) (ci := 0) (v := .ref (ad (ic 13))) hx hb hts hin0 hown hW 6 (by decide) rfl rfl 9 (by decide) hf39 (fun _ h9 => h9) rfl dX0_collect_14 ?_
        refine lv_iload_n hx hb dX0_collect_17 rfl (lv_at hl 1 rfl) ?_
        obtain ⟨hin, hE⟩ := gd_some hE
        refine ww_iald hx hb hW 13 (by decide) hin dX0_collect_18 ?_
        refine lv_aload_n hx hb dX0_collect_19 rfl (lv_at hl 0 rfl) ?_
        refine ww_get (C := RX0) (T := TX0) (N := 17) (ref := RX0) (ci := 0) (v := .int (gF 2 st)) hx hb hts hin0 hown hW 6 (by decide) rfl rfl 15 (by decide) hf103 (fun _ h9 => h9) rfl dX0_collect_20 ?_
        refine lv_icmp_ne (tgt := 27) hx hb dX0_collect_23 (by decide) (fun c_5 => ?_) (fun c_5 => ?_)
        · have hE := if_t c_5 hE
          refine lv_aload_n hx hb dX0_collect_27 rfl (lv_at hl 0 rfl) ?_
          refine ww_get (C := RX0) (T := TX0) (N := 17) (ref := RX0) (ci := 0) (v := .ref (ad (ic 13))) hx hb hts hin0 hown hW 6 (by decide) rfl rfl 9 (by decide) hf39 (fun _ h9 => h9) rfl dX0_collect_28 ?_
          refine lv_iload_n hx hb dX0_collect_31 rfl (lv_at hl 1 rfl) ?_
          refine lv_aload_n hx hb dX0_collect_32 rfl (lv_at hl 0 rfl) ?_
          refine ww_get (C := RX0) (T := TX0) (N := 17) (ref := RX0) (ci := 0) (v := .int (gF 2 st)) hx hb hts hin0 hown hW 6 (by decide) rfl rfl 15 (by decide) hf103 (fun _ h9 => h9) rfl dX0_collect_33 ?_
          obtain ⟨hin, hE⟩ := gd_some hE
          obtain ⟨st_6, est, hE⟩ := lt_some hE
          refine ww_iast hx hb hW 13 (by decide) hin est dX0_collect_36 (fun H locs hW => ?_)
          refine lv_aload_n hx hb dX0_collect_37 rfl (lv_at hl 0 rfl) ?_
          refine lv_aload_n hx hb dX0_collect_38 rfl (lv_at hl 0 rfl) ?_
          refine ww_get (C := RX0) (T := TX0) (N := 17) (ref := RX0) (ci := 0) (v := .ref (ad (ic 9))) hx hb hts hin0 hown hW 6 (by decide) rfl rfl 5 (by decide) hf27 (fun _ h9 => h9) rfl dX0_collect_39 ?_
          refine lv_iload_n hx hb dX0_collect_42 rfl (lv_at hl 1 rfl) ?_
          obtain ⟨hin, hE⟩ := gd_some hE
          refine ww_iald hx hb hW 9 (by decide) hin dX0_collect_43 ?_
          refine lv_iload_n hx hb dX0_collect_44 rfl (lv_at hl 2 rfl) ?_
          refine lv_iconst (v := 1) hx hb dX0_collect_45 (by decide) ?_
          refine lv_iadd hx hb dX0_collect_46 ?_
          obtain ⟨st_7, hc_8, hE⟩ := ob_some hE
          refine ww_callSv (As := [.ref (ad 6), .int (gI 9 st_6 x1), .int (x2 + (1 : Int32))]) (rest := []) ⟨hx, hb, hml, hown, hts⟩ hW (ih _ st_6 (gI 9 st_6 x1) (x2 + (1 : Int32)) _ hc_8) (va_cwS 3 hts gX0_collect_X0_collect rfl rfl rfl (by decide +kernel) ⟨by show _ ≤ _; simp only [rmX0_collect, rmX0_collect, headSpec]; omega, by show _ ≤ _; simp only [rmX0_collect, rmX0_collect, headSpec]; omega⟩) rfl hl.1 rfl (Nat.le_of_ble_eq_true rfl) dX0_collect_47 ⟨Nat.zero_le _, Nat.zero_le _⟩ (fun H locs hW => ?_)
          refine lv_aload_n hx hb dX0_collect_50 rfl (lv_at hl 0 rfl) ?_
          refine lv_aload_n hx hb dX0_collect_51 rfl (lv_at hl 0 rfl) ?_
          refine ww_get (C := RX0) (T := TX0) (N := 17) (ref := RX0) (ci := 0) (v := .ref (ad (ic 10))) hx hb hts hin0 hown hW 6 (by decide) rfl rfl 6 (by decide) hf30 (fun _ h9 => h9) rfl dX0_collect_52 ?_
          refine lv_iload_n hx hb dX0_collect_55 rfl (lv_at hl 1 rfl) ?_
          obtain ⟨hin, hE⟩ := gd_some hE
          refine ww_iald hx hb hW 10 (by decide) hin dX0_collect_56 ?_
          refine lv_iload_n hx hb dX0_collect_57 rfl (lv_at hl 2 rfl) ?_
          refine lv_iconst (v := 1) hx hb dX0_collect_58 (by decide) ?_
          refine lv_iadd hx hb dX0_collect_59 ?_
          obtain ⟨st_9, hc_10, hE⟩ := ob_some hE
          refine ww_callSv (As := [.ref (ad 6), .int (gI 10 st_7 x1), .int (x2 + (1 : Int32))]) (rest := []) ⟨hx, hb, hml, hown, hts⟩ hW (ih _ st_7 (gI 10 st_7 x1) (x2 + (1 : Int32)) _ hc_10) (va_cwS 3 hts gX0_collect_X0_collect rfl rfl rfl (by decide +kernel) ⟨by show _ ≤ _; simp only [rmX0_collect, rmX0_collect, headSpec]; omega, by show _ ≤ _; simp only [rmX0_collect, rmX0_collect, headSpec]; omega⟩) rfl hl.1 rfl (Nat.le_of_ble_eq_true rfl) dX0_collect_60 ⟨Nat.zero_le _, Nat.zero_le _⟩ (fun H locs hW => ?_)
          refine lv_aload_n hx hb dX0_collect_63 rfl (lv_at hl 0 rfl) ?_
          refine ww_get (C := RX0) (T := TX0) (N := 17) (ref := RX0) (ci := 0) (v := .int (gF 3 st_9)) hx hb hts hin0 hown hW 6 (by decide) rfl rfl 16 (by decide) hf109 (fun _ h9 => h9) rfl dX0_collect_64 ?_
          refine lv_sipush (v := 2560) hx hb dX0_collect_67 (by decide) ?_
          refine lv_icmp_ge (tgt := 93) hx hb dX0_collect_70 (by decide) (fun c_11 => ?_) (fun c_11 => ?_)
          · have hE := if_t c_11 hE
            obtain rfl := some_x hE
            exact W.vret hx hb hr (fun t ht hWm => hW.qv ht hWm) hW.2.2.1.2.2 dX0_collect_93
          · have hE := if_f c_11 hE
            refine lv_aload_n hx hb dX0_collect_73 rfl (lv_at hl 0 rfl) ?_
            refine ww_get (C := RX0) (T := TX0) (N := 17) (ref := RX0) (ci := 0) (v := .ref (ad (ic 15))) hx hb hts hin0 hown hW 6 (by decide) rfl rfl 11 (by decide) hf45 (fun _ h9 => h9) rfl dX0_collect_74 ?_
            refine lv_aload_n hx hb dX0_collect_77 rfl (lv_at hl 0 rfl) ?_
            refine ww_get (C := RX0) (T := TX0) (N := 17) (ref := RX0) (ci := 0) (v := .int (gF 3 st_9)) hx hb hts hin0 hown hW 6 (by decide) rfl rfl 16 (by decide) hf109 (fun _ h9 => h9) rfl dX0_collect_78 ?_
            refine lv_iload_n hx hb dX0_collect_81 rfl (lv_at hl 1 rfl) ?_
            obtain ⟨hin, hE⟩ := gd_some hE
            obtain ⟨st_12, est, hE⟩ := lt_some hE
            refine ww_iast hx hb hW 15 (by decide) hin est dX0_collect_82 (fun H locs hW => ?_)
            refine lv_aload_n hx hb dX0_collect_83 rfl (lv_at hl 0 rfl) ?_
            refine lv_dup hx hb dX0_collect_84 rfl ?_
            refine ww_get (C := RX0) (T := TX0) (N := 17) (ref := RX0) (ci := 0) (v := .int (gF 3 st_12)) hx hb hts hin0 hown hW 6 (by decide) rfl rfl 16 (by decide) hf109 (fun _ h9 => h9) rfl dX0_collect_85 ?_
            refine lv_iconst (v := 1) hx hb dX0_collect_88 (by decide) ?_
            refine lv_iadd hx hb dX0_collect_89 ?_
            obtain ⟨st_13, est, hE⟩ := lt_some hE
            refine ww_put hx hb hts hin0 hown hW 3 (by decide) hf109 est dX0_collect_90 (fun H locs hW => ?_)
            obtain rfl := some_x hE
            exact W.vret hx hb hr (fun t ht hWm => hW.qv ht hWm) hW.2.2.1.2.2 dX0_collect_93
        · have hE := if_f (fun q => q c_5) hE
          obtain rfl := some_x hE
          exact W.vret hx hb hr (fun t ht hWm => hW.qv ht hWm) hW.2.2.1.2.2 dX0_collect_26
abbrev rmX0_countFrom : Room := { frames := 14, cells := 0, slots := 0, locals := 306 }
set_option maxRecDepth 100000 in
theorem in0_X0_countFrom : ∀ w ∈ wsX00, w ∈ wsX0_countFrom := by decide +kernel
set_option maxHeartbeats 4000000 in
set_option maxRecDepth 100000 in
theorem ctX0_countFrom (l : Launch) (D : va_G) (ks : KA) (ad : Nat → Nat) (sz : Nat) (st : St) (x1 : Int32) (x2 : Int32)  {r : Int32} {st' : St} (hE : sX0_countFrom st x1 x2 = some (r, st')) : CI l D ks yX0_countFrom wsX0_countFrom rmX0_countFrom [.ref (ad 6), .int x1, .int x2] ad sz st r st' := by
  unfold sX0_countFrom at hE
  refine Met.ofW (cc := cX0_countFrom) (maxL := 3) (ret := (some .int)) (by decide) rfl ?_
  intro p e s m args below meth c s₁ B hml hv
  obtain ⟨hargs, hPW⟩ := hv
  have hW := WW.entry hPW
  have hx := B.exec
  have hb := B.bytes
  have hr := B.returns
  have hts := atoms_spec (ws := wsX0_countFrom) B.pre
  have hown : s.vm.findClass RX0 = some m.cls := findClass_of_methodNamed B.named
  have hlocks := B.notSynchronized
  have hin0 : ∀ w ∈ u_ws RX0 TX0 17, w ∈ wsX0_countFrom := in0_X0_countFrom
  have hf103 := hts (.fieldLink RX0 103 "Trellis$Diagram" "stamp" "I") (by decide +kernel)
  have hf109 := hts (.fieldLink RX0 109 "Trellis$Diagram" "listed" "I") (by decide +kernel)
  have hf15 := hts (.fieldLink RX0 15 "Trellis$Diagram" "roots" "[I") (by decide +kernel)
  have hl := lv_entry ([.ref (ad 6), .int x1, .int x2]) (n := 3) (Nat.le_of_ble_eq_true rfl)
  have hfr : entryFrame m args 3 = F0 m 0 (lg_sl ([.ref (ad 6), .int x1, .int x2]) ++ List.replicate (3 - (lg_sl ([.ref (ad 6), .int x1, .int x2])).length) Slot.unset).toArray [] := by rw [hargs, lg_entry_eq]
  rw [hfr]
  generalize (lg_sl ([.ref (ad 6), .int x1, .int x2]) ++ List.replicate (3 - (lg_sl ([.ref (ad 6), .int x1, .int x2])).length) Slot.unset).toArray = ls at hl ⊢
  have hl : lv_has ls 3 [(0, .ref (ad 6)), (1, .int x1), (2, .int x2)] := hl
  refine lv_aload_n hx hb dX0_countFrom_0 rfl (lv_at hl 0 rfl) ?_
  refine lv_dup hx hb dX0_countFrom_1 rfl ?_
  refine ww_get (C := RX0) (T := TX0) (N := 17) (ref := RX0) (ci := 0) (v := .int (gF 2 st)) hx hb hts hin0 hown hW 6 (by decide) rfl rfl 15 (by decide) hf103 (fun _ h9 => h9) rfl dX0_countFrom_2 ?_
  refine lv_iconst (v := 1) hx hb dX0_countFrom_5 (by decide) ?_
  refine lv_iadd hx hb dX0_countFrom_6 ?_
  obtain ⟨st_1, est, hE⟩ := lt_some hE
  refine ww_put hx hb hts hin0 hown hW 2 (by decide) hf103 est dX0_countFrom_7 (fun H locs hW => ?_)
  refine lv_aload_n hx hb dX0_countFrom_10 rfl (lv_at hl 0 rfl) ?_
  refine lv_iconst (v := 0) hx hb dX0_countFrom_11 (by decide) ?_
  obtain ⟨st_2, est, hE⟩ := lt_some hE
  refine ww_put hx hb hts hin0 hown hW 3 (by decide) hf109 est dX0_countFrom_12 (fun H locs hW => ?_)
  refine lv_aload_n hx hb dX0_countFrom_15 rfl (lv_at hl 0 rfl) ?_
  refine lv_aload_n hx hb dX0_countFrom_16 rfl (lv_at hl 0 rfl) ?_
  refine ww_get (C := RX0) (T := TX0) (N := 17) (ref := RX0) (ci := 0) (v := .ref (ad (ic 5))) hx hb hts hin0 hown hW 6 (by decide) rfl rfl 1 (by decide) hf15 (fun _ h9 => h9) rfl dX0_countFrom_17 ?_
  refine lv_iload_n hx hb dX0_countFrom_20 rfl (lv_at hl 1 rfl) ?_
  obtain ⟨hin, hE⟩ := gd_some hE
  refine ww_iald hx hb hW 5 (by decide) hin dX0_countFrom_21 ?_
  refine lv_iconst (v := 0) hx hb dX0_countFrom_22 (by decide) ?_
  obtain ⟨st_3, hc_4, hE⟩ := ob_some hE
  refine ww_callSv (As := [.ref (ad 6), .int (gI 5 st_2 x1), .int (0 : Int32)]) (rest := []) ⟨hx, hb, hml, hown, hts⟩ hW (ctX0_collect l D ks ad _ 12 st_2 (gI 5 st_2 x1) (0 : Int32) _ hc_4) (va_cwS 3 hts gX0_countFrom_X0_collect rfl rfl rfl (by decide +kernel) ⟨Nat.le_of_ble_eq_true rfl, Nat.le_of_ble_eq_true rfl⟩) rfl hl.1 rfl (Nat.le_of_ble_eq_true rfl) dX0_countFrom_23 ⟨Nat.zero_le _, Nat.zero_le _⟩ (fun H locs hW => ?_)
  refine lv_aload_n hx hb dX0_countFrom_26 rfl (lv_at hl 0 rfl) ?_
  refine lv_aload_n hx hb dX0_countFrom_27 rfl (lv_at hl 0 rfl) ?_
  refine ww_get (C := RX0) (T := TX0) (N := 17) (ref := RX0) (ci := 0) (v := .ref (ad (ic 5))) hx hb hts hin0 hown hW 6 (by decide) rfl rfl 1 (by decide) hf15 (fun _ h9 => h9) rfl dX0_countFrom_28 ?_
  refine lv_iload_n hx hb dX0_countFrom_31 rfl (lv_at hl 2 rfl) ?_
  obtain ⟨hin, hE⟩ := gd_some hE
  refine ww_iald hx hb hW 5 (by decide) hin dX0_countFrom_32 ?_
  refine lv_iconst (v := 0) hx hb dX0_countFrom_33 (by decide) ?_
  obtain ⟨st_5, hc_6, hE⟩ := ob_some hE
  refine ww_callSv (As := [.ref (ad 6), .int (gI 5 st_3 x2), .int (0 : Int32)]) (rest := []) ⟨hx, hb, hml, hown, hts⟩ hW (ctX0_collect l D ks ad _ 12 st_3 (gI 5 st_3 x2) (0 : Int32) _ hc_6) (va_cwS 3 hts gX0_countFrom_X0_collect rfl rfl rfl (by decide +kernel) ⟨Nat.le_of_ble_eq_true rfl, Nat.le_of_ble_eq_true rfl⟩) rfl hl.1 rfl (Nat.le_of_ble_eq_true rfl) dX0_countFrom_34 ⟨Nat.zero_le _, Nat.zero_le _⟩ (fun H locs hW => ?_)
  refine lv_aload_n hx hb dX0_countFrom_37 rfl (lv_at hl 0 rfl) ?_
  refine ww_get (C := RX0) (T := TX0) (N := 17) (ref := RX0) (ci := 0) (v := .int (gF 3 st_5)) hx hb hts hin0 hown hW 6 (by decide) rfl rfl 16 (by decide) hf109 (fun _ h9 => h9) rfl dX0_countFrom_38 ?_
  obtain ⟨rfl, rfl⟩ := pair_x hE
  exact W.iret hx hb hr (fun t ht hWm => hW.qi ht hWm) hW.2.2.1.2.2 dX0_countFrom_41
abbrev rmX0_valueOf : Room := { frames := 0, cells := 0, slots := 0, locals := 0 }
set_option maxRecDepth 100000 in
theorem in0_X0_valueOf : ∀ w ∈ wsX00, w ∈ wsX0_valueOf := by decide +kernel
set_option maxHeartbeats 4000000 in
set_option maxRecDepth 100000 in
theorem ctX0_valueOf (l : Launch) (D : va_G) (ks : KA) (ad : Nat → Nat) (sz : Nat) (st : St) (x1 : Int32)  {r : Int32}  (hE : sX0_valueOf st x1 = some r) : CI l D ks yX0_valueOf wsX0_valueOf rmX0_valueOf [.ref (ad 6), .int x1] ad sz st r st := by
  unfold sX0_valueOf at hE
  refine Met.ofW (cc := cX0_valueOf) (maxL := 2) (ret := (some .int)) (by decide) rfl ?_
  intro p e s m args below meth c s₁ B hml hv
  obtain ⟨hargs, hPW⟩ := hv
  have hW := WW.entry hPW
  have hx := B.exec
  have hb := B.bytes
  have hr := B.returns
  have hts := atoms_spec (ws := wsX0_valueOf) B.pre
  have hown : s.vm.findClass RX0 = some m.cls := findClass_of_methodNamed B.named
  have hlocks := B.notSynchronized
  have hin0 : ∀ w ∈ u_ws RX0 TX0 17, w ∈ wsX0_valueOf := in0_X0_valueOf
  have hf42 := hts (.fieldLink RX0 42 "Trellis$Diagram" "values" "[I") (by decide +kernel)
  have hl := lv_entry ([.ref (ad 6), .int x1]) (n := 2) (Nat.le_of_ble_eq_true rfl)
  have hfr : entryFrame m args 2 = F0 m 0 (lg_sl ([.ref (ad 6), .int x1]) ++ List.replicate (2 - (lg_sl ([.ref (ad 6), .int x1])).length) Slot.unset).toArray [] := by rw [hargs, lg_entry_eq]
  rw [hfr]
  generalize (lg_sl ([.ref (ad 6), .int x1]) ++ List.replicate (2 - (lg_sl ([.ref (ad 6), .int x1])).length) Slot.unset).toArray = ls at hl ⊢
  have hl : lv_has ls 2 [(0, .ref (ad 6)), (1, .int x1)] := hl
  refine lv_iload_n hx hb dX0_valueOf_0 rfl (lv_at hl 1 rfl) ?_
  refine lv_if_lt (tgt := 20) hx hb dX0_valueOf_1 (by decide) (fun c_1 => ?_) (fun c_1 => ?_)
  · have hE := if_t c_1 hE
    refine lv_iconst (v := 0) hx hb dX0_valueOf_20 (by decide) ?_
    obtain rfl := some_x hE
    exact W.iret hx hb hr (fun t ht hWm => hW.qi ht hWm) hW.2.2.1.2.2 dX0_valueOf_21
  · have hE := if_f c_1 hE
    refine lv_iload_n hx hb dX0_valueOf_4 rfl (lv_at hl 1 rfl) ?_
    refine lv_sipush (v := 2560) hx hb dX0_valueOf_5 (by decide) ?_
    refine lv_icmp_ge (tgt := 20) hx hb dX0_valueOf_8 (by decide) (fun c_2 => ?_) (fun c_2 => ?_)
    · have hE := if_t c_2 hE
      refine lv_iconst (v := 0) hx hb dX0_valueOf_20 (by decide) ?_
      obtain rfl := some_x hE
      exact W.iret hx hb hr (fun t ht hWm => hW.qi ht hWm) hW.2.2.1.2.2 dX0_valueOf_21
    · have hE := if_f c_2 hE
      refine lv_aload_n hx hb dX0_valueOf_11 rfl (lv_at hl 0 rfl) ?_
      refine ww_get (C := RX0) (T := TX0) (N := 17) (ref := RX0) (ci := 0) (v := .ref (ad (ic 14))) hx hb hts hin0 hown hW 6 (by decide) rfl rfl 10 (by decide) hf42 (fun _ h9 => h9) rfl dX0_valueOf_12 ?_
      refine lv_iload_n hx hb dX0_valueOf_15 rfl (lv_at hl 1 rfl) ?_
      obtain ⟨hin, hE⟩ := gd_some hE
      refine ww_iald hx hb hW 14 (by decide) hin dX0_valueOf_16 ?_
      refine lv_goto (tgt := 21) hx hb dX0_valueOf_17 (by decide) ?_
      obtain rfl := some_x hE
      exact W.iret hx hb hr (fun t ht hWm => hW.qi ht hWm) hW.2.2.1.2.2 dX0_valueOf_21
abbrev rmX0_setValue : Room := { frames := 1, cells := 0, slots := 0, locals := 20 }
set_option maxRecDepth 100000 in
theorem in0_X0_setValue : ∀ w ∈ wsX00, w ∈ wsX0_setValue := by decide +kernel
set_option maxHeartbeats 4000000 in
set_option maxRecDepth 100000 in
theorem ctX0_setValue (l : Launch) (D : va_G) (ks : KA) (ad : Nat → Nat) (sz : Nat) (st : St) (x1 : Int32) (x2 : Int32)  {st' : St} (hE : sX0_setValue st x1 x2 = some st') : CV l D ks yX0_setValue wsX0_setValue rmX0_setValue [.ref (ad 6), .int x1, .int x2] ad sz st st' := by
  unfold sX0_setValue at hE
  refine Met.ofW (cc := cX0_setValue) (maxL := 3) (ret := none) (by decide) rfl ?_
  intro p e s m args below meth c s₁ B hml hv
  obtain ⟨hargs, hPW⟩ := hv
  have hW := WW.entry hPW
  have hx := B.exec
  have hb := B.bytes
  have hr := B.returns
  have hts := atoms_spec (ws := wsX0_setValue) B.pre
  have hown : s.vm.findClass RX0 = some m.cls := findClass_of_methodNamed B.named
  have hlocks := B.notSynchronized
  have hin0 : ∀ w ∈ u_ws RX0 TX0 17, w ∈ wsX0_setValue := in0_X0_setValue
  have hf42 := hts (.fieldLink RX0 42 "Trellis$Diagram" "values" "[I") (by decide +kernel)
  have hl := lv_entry ([.ref (ad 6), .int x1, .int x2]) (n := 3) (Nat.le_of_ble_eq_true rfl)
  have hfr : entryFrame m args 3 = F0 m 0 (lg_sl ([.ref (ad 6), .int x1, .int x2]) ++ List.replicate (3 - (lg_sl ([.ref (ad 6), .int x1, .int x2])).length) Slot.unset).toArray [] := by rw [hargs, lg_entry_eq]
  rw [hfr]
  generalize (lg_sl ([.ref (ad 6), .int x1, .int x2]) ++ List.replicate (3 - (lg_sl ([.ref (ad 6), .int x1, .int x2])).length) Slot.unset).toArray = ls at hl ⊢
  have hl : lv_has ls 3 [(0, .ref (ad 6)), (1, .int x1), (2, .int x2)] := hl
  refine lv_iload_n hx hb dX0_setValue_0 rfl (lv_at hl 1 rfl) ?_
  obtain ⟨r_2, hc_1, hE⟩ := ob_some hE
  refine ww_callSi (As := [.int x1]) (rest := []) ⟨hx, hb, hml, hown, hts⟩ hW (ctX0_isNode l D ks ad _ st x1 hc_1) (va_cwS 1 hts gX0_setValue_X0_isNode rfl rfl rfl (by decide +kernel) ⟨Nat.le_of_ble_eq_true rfl, Nat.le_of_ble_eq_true rfl⟩) rfl hl.1 rfl (Nat.le_of_ble_eq_true rfl) dX0_setValue_1 ⟨Nat.zero_le _, Nat.zero_le _⟩ (fun H locs hW => ?_)
  refine lv_if_eq (tgt := 14) hx hb dX0_setValue_4 (by decide) (fun c_3 => ?_) (fun c_3 => ?_)
  · have hE := if_t c_3 hE
    obtain rfl := some_x hE
    exact W.vret hx hb hr (fun t ht hWm => hW.qv ht hWm) hW.2.2.1.2.2 dX0_setValue_14
  · have hE := if_f c_3 hE
    refine lv_aload_n hx hb dX0_setValue_7 rfl (lv_at hl 0 rfl) ?_
    refine ww_get (C := RX0) (T := TX0) (N := 17) (ref := RX0) (ci := 0) (v := .ref (ad (ic 14))) hx hb hts hin0 hown hW 6 (by decide) rfl rfl 10 (by decide) hf42 (fun _ h9 => h9) rfl dX0_setValue_8 ?_
    refine lv_iload_n hx hb dX0_setValue_11 rfl (lv_at hl 1 rfl) ?_
    refine lv_iload_n hx hb dX0_setValue_12 rfl (lv_at hl 2 rfl) ?_
    obtain ⟨hin, hE⟩ := gd_some hE
    obtain ⟨st_4, est, hE⟩ := lt_some hE
    refine ww_iast hx hb hW 14 (by decide) hin est dX0_setValue_13 (fun H locs hW => ?_)
    obtain rfl := some_x hE
    exact W.vret hx hb hr (fun t ht hWm => hW.qv ht hWm) hW.2.2.1.2.2 dX0_setValue_14
abbrev rmX0_pathsToOne : Room := { frames := 15, cells := 0, slots := 0, locals := 328 }
set_option maxRecDepth 100000 in
theorem in0_X0_pathsToOne : ∀ w ∈ wsX00, w ∈ wsX0_pathsToOne := by decide +kernel
set_option maxHeartbeats 4000000 in
set_option maxRecDepth 100000 in
theorem ctX0_pathsToOne (l : Launch) (D : va_G) (ks : KA) (ad : Nat → Nat) (sz : Nat) (st : St) (x1 : Int32)  {r : Int32} {st' : St} (hE : sX0_pathsToOne st x1 = some (r, st')) : CI l D ks yX0_pathsToOne wsX0_pathsToOne rmX0_pathsToOne [.ref (ad 6), .int x1] ad sz st r st' := by
  unfold sX0_pathsToOne at hE
  refine Met.ofW (cc := cX0_pathsToOne) (maxL := 5) (ret := (some .int)) (by decide) rfl ?_
  intro p e s m args below meth c s₁ B hml hv
  obtain ⟨hargs, hPW⟩ := hv
  have hW := WW.entry hPW
  have hx := B.exec
  have hb := B.bytes
  have hr := B.returns
  have hts := atoms_spec (ws := wsX0_pathsToOne) B.pre
  have hown : s.vm.findClass RX0 = some m.cls := findClass_of_methodNamed B.named
  have hlocks := B.notSynchronized
  have hin0 : ∀ w ∈ u_ws RX0 TX0 17, w ∈ wsX0_pathsToOne := in0_X0_pathsToOne
  have hf42 := hts (.fieldLink RX0 42 "Trellis$Diagram" "values" "[I") (by decide +kernel)
  have hf45 := hts (.fieldLink RX0 45 "Trellis$Diagram" "list" "[I") (by decide +kernel)
  have hf15 := hts (.fieldLink RX0 15 "Trellis$Diagram" "roots" "[I") (by decide +kernel)
  have hl := lv_entry ([.ref (ad 6), .int x1]) (n := 5) (Nat.le_of_ble_eq_true rfl)
  have hfr : entryFrame m args 5 = F0 m 0 (lg_sl ([.ref (ad 6), .int x1]) ++ List.replicate (5 - (lg_sl ([.ref (ad 6), .int x1])).length) Slot.unset).toArray [] := by rw [hargs, lg_entry_eq]
  rw [hfr]
  generalize (lg_sl ([.ref (ad 6), .int x1]) ++ List.replicate (5 - (lg_sl ([.ref (ad 6), .int x1])).length) Slot.unset).toArray = ls at hl ⊢
  have hl : lv_has ls 5 [(0, .ref (ad 6)), (1, .int x1)] := hl
  have L23 : ∀ (n : Nat) (st : St) (x1 : Int32) (x2 : Int32) (x3 : Int32)  (stz : St) (H : Heap) (locs : List Loc) (ls : Array Slot), sX0_pathsToOne_L23 n st x1 x2 x3 = some stz → WW D ks ad (AA ad sz) s st H locs → lv_has ls 5 [(0, .ref (ad 6)), (1, .int x1), (2, .int x2), (3, .int x3)] → (∀ (H : Heap) (locs : List Loc) (ls : Array Slot), WW D ks ad (AA ad sz) s stz H locs → lv_has ls 5 [(0, .ref (ad 6)), (1, .int x1)] → W p l e (headSpec wsX0_pathsToOne rmX0_pathsToOne).room s m args below meth c H locs 0 0 (MQ below (va_Qi (fun (x : Int32) (u : St) => x = r ∧ u = st') (QW D ks ad sz) (AA ad sz)) args s 0 0 (AA ad sz)) (F0 m 69 ls [])) → W p l e (headSpec wsX0_pathsToOne rmX0_pathsToOne).room s m args below meth c H locs 0 0 (MQ below (va_Qi (fun (x : Int32) (u : St) => x = r ∧ u = st') (QW D ks ad sz) (AA ad sz)) args s 0 0 (AA ad sz)) (F0 m 23 ls []) := by
    intro n
    induction n with
    | zero =>
      intro st x1 x2 x3 stz H locs ls hE hW hl kx
      exact none_x hE
    | succ n ih =>
      intro st x1 x2 x3 stz H locs ls hE hW hl kx
      rw [sX0_pathsToOne_L23] at hE
      refine lv_iload_n hx hb dX0_pathsToOne_23 rfl (lv_at hl 3 rfl) ?_
      refine lv_iload_n hx hb dX0_pathsToOne_24 rfl (lv_at hl 2 rfl) ?_
      refine lv_icmp_ge (tgt := 69) hx hb dX0_pathsToOne_25 (by decide) (fun c_6 => ?_) (fun c_6 => ?_)
      · have hE := if_t c_6 hE
        obtain rfl := some_x hE
        exact kx _ _ _ hW (lv_sub hl [0, 1] rfl)
      · have hE := if_f c_6 hE
        refine lv_aload_n hx hb dX0_pathsToOne_28 rfl (lv_at hl 0 rfl) ?_
        refine ww_get (C := RX0) (T := TX0) (N := 17) (ref := RX0) (ci := 0) (v := .ref (ad (ic 15))) hx hb hts hin0 hown hW 6 (by decide) rfl rfl 11 (by decide) hf45 (fun _ h9 => h9) rfl dX0_pathsToOne_29 ?_
        refine lv_iload_n hx hb dX0_pathsToOne_32 rfl (lv_at hl 3 rfl) ?_
        obtain ⟨hin, hE⟩ := gd_some hE
        refine ww_iald hx hb hW 15 (by decide) hin dX0_pathsToOne_33 ?_
        obtain ⟨x4_7, e, hE⟩ := lt_some hE
        refine lv_nmi e ?_
        refine lv_istore (lv' := [(4, .int x4_7), (0, .ref (ad 6)), (1, .int x1), (2, .int x2), (3, .int x3)]) hx hb dX0_pathsToOne_34 hl (by decide) rfl (fun ls hl => ?_)
        refine lv_aload_n hx hb dX0_pathsToOne_36 rfl (lv_at hl 1 rfl) ?_
        refine lv_iload hx hb dX0_pathsToOne_37 (lv_at hl 0 rfl) ?_
        refine lv_aload_n hx hb dX0_pathsToOne_39 rfl (lv_at hl 1 rfl) ?_
        refine lv_aload_n hx hb dX0_pathsToOne_40 rfl (lv_at hl 1 rfl) ?_
        refine lv_iload hx hb dX0_pathsToOne_41 (lv_at hl 0 rfl) ?_
        obtain ⟨r_9, hc_8, hE⟩ := ob_some hE
        refine ww_callVi (As := [.int x4_7]) (rest := [.ref (ad 6), .int x4_7, .ref (ad 6)]) ⟨hx, hb, hml, hown, hts⟩ hW (ctX0_lowOf l D ks ad _ st x4_7 hc_8) (cwV 1 hts gX0_pathsToOne_X0_lowOf rfl rfl rfl (by decide +kernel) ⟨Nat.le_of_ble_eq_true rfl, Nat.le_of_ble_eq_true rfl⟩) hW.recvD rfl hl.1 rfl (Nat.le_of_ble_eq_true rfl) dX0_pathsToOne_43 ⟨Nat.zero_le _, Nat.zero_le _⟩ (fun H locs hW => ?_)
        obtain ⟨r_11, hc_10, hE⟩ := ob_some hE
        refine ww_callVi (As := [.int r_9]) (rest := [.int x4_7, .ref (ad 6)]) ⟨hx, hb, hml, hown, hts⟩ hW (ctX0_valueOf l D ks ad _ st r_9 hc_10) (cwV 1 hts gX0_pathsToOne_X0_valueOf rfl rfl rfl (by decide +kernel) ⟨Nat.le_of_ble_eq_true rfl, Nat.le_of_ble_eq_true rfl⟩) hW.recvD rfl hl.1 rfl (Nat.le_of_ble_eq_true rfl) dX0_pathsToOne_46 ⟨Nat.zero_le _, Nat.zero_le _⟩ (fun H locs hW => ?_)
        refine lv_aload_n hx hb dX0_pathsToOne_49 rfl (lv_at hl 1 rfl) ?_
        refine lv_aload_n hx hb dX0_pathsToOne_50 rfl (lv_at hl 1 rfl) ?_
        refine lv_iload hx hb dX0_pathsToOne_51 (lv_at hl 0 rfl) ?_
        obtain ⟨r_13, hc_12, hE⟩ := ob_some hE
        refine ww_callVi (As := [.int x4_7]) (rest := [.ref (ad 6), .int r_11, .int x4_7, .ref (ad 6)]) ⟨hx, hb, hml, hown, hts⟩ hW (ctX0_highOf l D ks ad _ st x4_7 hc_12) (cwV 1 hts gX0_pathsToOne_X0_highOf rfl rfl rfl (by decide +kernel) ⟨Nat.le_of_ble_eq_true rfl, Nat.le_of_ble_eq_true rfl⟩) hW.recvD rfl hl.1 rfl (Nat.le_of_ble_eq_true rfl) dX0_pathsToOne_53 ⟨Nat.zero_le _, Nat.zero_le _⟩ (fun H locs hW => ?_)
        obtain ⟨r_15, hc_14, hE⟩ := ob_some hE
        refine ww_callVi (As := [.int r_13]) (rest := [.int r_11, .int x4_7, .ref (ad 6)]) ⟨hx, hb, hml, hown, hts⟩ hW (ctX0_valueOf l D ks ad _ st r_13 hc_14) (cwV 1 hts gX0_pathsToOne_X0_valueOf rfl rfl rfl (by decide +kernel) ⟨Nat.le_of_ble_eq_true rfl, Nat.le_of_ble_eq_true rfl⟩) hW.recvD rfl hl.1 rfl (Nat.le_of_ble_eq_true rfl) dX0_pathsToOne_56 ⟨Nat.zero_le _, Nat.zero_le _⟩ (fun H locs hW => ?_)
        refine lv_iadd hx hb dX0_pathsToOne_59 ?_
        obtain ⟨st_16, hc_17, hE⟩ := ob_some hE
        refine ww_callVv (As := [.int x4_7, .int (r_11 + r_15)]) (rest := []) ⟨hx, hb, hml, hown, hts⟩ hW (ctX0_setValue l D ks ad _ st x4_7 (r_11 + r_15) hc_17) (cwV 2 hts gX0_pathsToOne_X0_setValue rfl rfl rfl (by decide +kernel) ⟨Nat.le_of_ble_eq_true rfl, Nat.le_of_ble_eq_true rfl⟩) hW.recvD rfl hl.1 rfl (Nat.le_of_ble_eq_true rfl) dX0_pathsToOne_60 ⟨Nat.zero_le _, Nat.zero_le _⟩ (fun H locs hW => ?_)
        obtain ⟨x3_18, e, hE⟩ := lt_some hE
        refine lv_iinc (v := x3_18) (lv' := [(3, .int x3_18), (4, .int x4_7), (0, .ref (ad 6)), (1, .int x1), (2, .int x2)]) hx hb dX0_pathsToOne_63 hl (k := 4) rfl (by rw [e]; rfl) (by decide) rfl (fun ls hl => ?_)
        refine lv_goto (tgt := 23) hx hb dX0_pathsToOne_66 (by decide) ?_
        exact ih st_16 x1 x2 x3_18 _ _ _ _ hE hW (lv_sub hl [2, 3, 4, 0] rfl) kx
  refine lv_aload_n hx hb dX0_pathsToOne_0 rfl (lv_at hl 0 rfl) ?_
  refine lv_iload_n hx hb dX0_pathsToOne_1 rfl (lv_at hl 1 rfl) ?_
  refine lv_iload_n hx hb dX0_pathsToOne_2 rfl (lv_at hl 1 rfl) ?_
  obtain ⟨r_3, st_1, hc_2, hE⟩ := ob2_some hE
  refine ww_callVi (As := [.int x1, .int x1]) (rest := []) ⟨hx, hb, hml, hown, hts⟩ hW (ctX0_countFrom l D ks ad _ st x1 x1 hc_2) (cwV 2 hts gX0_pathsToOne_X0_countFrom rfl rfl rfl (by decide +kernel) ⟨Nat.le_of_ble_eq_true rfl, Nat.le_of_ble_eq_true rfl⟩) hW.recvD rfl hl.1 rfl (Nat.le_of_ble_eq_true rfl) dX0_pathsToOne_3 ⟨Nat.zero_le _, Nat.zero_le _⟩ (fun H locs hW => ?_)
  refine lv_istore_n (lv' := [(2, .int r_3), (0, .ref (ad 6)), (1, .int x1)]) hx hb dX0_pathsToOne_6 rfl hl (by decide) rfl (fun ls hl => ?_)
  refine lv_aload_n hx hb dX0_pathsToOne_7 rfl (lv_at hl 1 rfl) ?_
  refine ww_get (C := RX0) (T := TX0) (N := 17) (ref := RX0) (ci := 0) (v := .ref (ad (ic 14))) hx hb hts hin0 hown hW 6 (by decide) rfl rfl 10 (by decide) hf42 (fun _ h9 => h9) rfl dX0_pathsToOne_8 ?_
  refine lv_iconst (v := 0) hx hb dX0_pathsToOne_11 (by decide) ?_
  refine lv_iconst (v := 0) hx hb dX0_pathsToOne_12 (by decide) ?_
  obtain ⟨hin, hE⟩ := gd_some hE
  obtain ⟨st_4, est, hE⟩ := lt_some hE
  refine ww_iast hx hb hW 14 (by decide) hin est dX0_pathsToOne_13 (fun H locs hW => ?_)
  refine lv_aload_n hx hb dX0_pathsToOne_14 rfl (lv_at hl 1 rfl) ?_
  refine ww_get (C := RX0) (T := TX0) (N := 17) (ref := RX0) (ci := 0) (v := .ref (ad (ic 14))) hx hb hts hin0 hown hW 6 (by decide) rfl rfl 10 (by decide) hf42 (fun _ h9 => h9) rfl dX0_pathsToOne_15 ?_
  refine lv_iconst (v := 1) hx hb dX0_pathsToOne_18 (by decide) ?_
  refine lv_iconst (v := 1) hx hb dX0_pathsToOne_19 (by decide) ?_
  obtain ⟨hin, hE⟩ := gd_some hE
  obtain ⟨st_5, est, hE⟩ := lt_some hE
  refine ww_iast hx hb hW 14 (by decide) hin est dX0_pathsToOne_20 (fun H locs hW => ?_)
  refine lv_iconst (v := 0) hx hb dX0_pathsToOne_21 (by decide) ?_
  refine lv_istore_n (lv' := [(3, .int (0 : Int32)), (2, .int r_3), (0, .ref (ad 6)), (1, .int x1)]) hx hb dX0_pathsToOne_22 rfl hl (by decide) rfl (fun ls hl => ?_)
  obtain ⟨st_19, hz, hE⟩ := ob_some hE
  refine L23 FU st_5 x1 r_3 (0 : Int32) st_19 _ _ _ hz hW (lv_sub hl [2, 3, 1, 0] rfl) (fun H locs ls hW hl => ?_)
  refine lv_aload_n hx hb dX0_pathsToOne_69 rfl (lv_at hl 0 rfl) ?_
  refine lv_aload_n hx hb dX0_pathsToOne_70 rfl (lv_at hl 0 rfl) ?_
  refine ww_get (C := RX0) (T := TX0) (N := 17) (ref := RX0) (ci := 0) (v := .ref (ad (ic 5))) hx hb hts hin0 hown hW 6 (by decide) rfl rfl 1 (by decide) hf15 (fun _ h9 => h9) rfl dX0_pathsToOne_71 ?_
  refine lv_iload_n hx hb dX0_pathsToOne_74 rfl (lv_at hl 1 rfl) ?_
  obtain ⟨hin, hE⟩ := gd_some hE
  refine ww_iald hx hb hW 5 (by decide) hin dX0_pathsToOne_75 ?_
  obtain ⟨r_21, hc_20, hE⟩ := ob_some hE
  refine ww_callVi (As := [.int (gI 5 st_19 x1)]) (rest := []) ⟨hx, hb, hml, hown, hts⟩ hW (ctX0_valueOf l D ks ad _ st_19 (gI 5 st_19 x1) hc_20) (cwV 1 hts gX0_pathsToOne_X0_valueOf rfl rfl rfl (by decide +kernel) ⟨Nat.le_of_ble_eq_true rfl, Nat.le_of_ble_eq_true rfl⟩) hW.recvD rfl hl.1 rfl (Nat.le_of_ble_eq_true rfl) dX0_pathsToOne_76 ⟨Nat.zero_le _, Nat.zero_le _⟩ (fun H locs hW => ?_)
  obtain ⟨rfl, rfl⟩ := pair_x hE
  exact W.iret hx hb hr (fun t ht hWm => hW.qi ht hWm) hW.2.2.1.2.2 dX0_pathsToOne_79
abbrev rmX0_longestPath : Room := { frames := 15, cells := 0, slots := 0, locals := 328 }
set_option maxRecDepth 100000 in
theorem in0_X0_longestPath : ∀ w ∈ wsX00, w ∈ wsX0_longestPath := by decide +kernel
set_option maxHeartbeats 4000000 in
set_option maxRecDepth 100000 in
theorem ctX0_longestPath (l : Launch) (D : va_G) (ks : KA) (ad : Nat → Nat) (sz : Nat) (st : St) (x1 : Int32)  {r : Int32} {st' : St} (hE : sX0_longestPath st x1 = some (r, st')) : CI l D ks yX0_longestPath wsX0_longestPath rmX0_longestPath [.ref (ad 6), .int x1] ad sz st r st' := by
  unfold sX0_longestPath at hE
  refine Met.ofW (cc := cX0_longestPath) (maxL := 5) (ret := (some .int)) (by decide) rfl ?_
  intro p e s m args below meth c s₁ B hml hv
  obtain ⟨hargs, hPW⟩ := hv
  have hW := WW.entry hPW
  have hx := B.exec
  have hb := B.bytes
  have hr := B.returns
  have hts := atoms_spec (ws := wsX0_longestPath) B.pre
  have hown : s.vm.findClass RX0 = some m.cls := findClass_of_methodNamed B.named
  have hlocks := B.notSynchronized
  have hin0 : ∀ w ∈ u_ws RX0 TX0 17, w ∈ wsX0_longestPath := in0_X0_longestPath
  have hf42 := hts (.fieldLink RX0 42 "Trellis$Diagram" "values" "[I") (by decide +kernel)
  have hf45 := hts (.fieldLink RX0 45 "Trellis$Diagram" "list" "[I") (by decide +kernel)
  have hf15 := hts (.fieldLink RX0 15 "Trellis$Diagram" "roots" "[I") (by decide +kernel)
  have hl := lv_entry ([.ref (ad 6), .int x1]) (n := 5) (Nat.le_of_ble_eq_true rfl)
  have hfr : entryFrame m args 5 = F0 m 0 (lg_sl ([.ref (ad 6), .int x1]) ++ List.replicate (5 - (lg_sl ([.ref (ad 6), .int x1])).length) Slot.unset).toArray [] := by rw [hargs, lg_entry_eq]
  rw [hfr]
  generalize (lg_sl ([.ref (ad 6), .int x1]) ++ List.replicate (5 - (lg_sl ([.ref (ad 6), .int x1])).length) Slot.unset).toArray = ls at hl ⊢
  have hl : lv_has ls 5 [(0, .ref (ad 6)), (1, .int x1)] := hl
  have L23 : ∀ (n : Nat) (st : St) (x1 : Int32) (x2 : Int32) (x3 : Int32)  (stz : St) (H : Heap) (locs : List Loc) (ls : Array Slot), sX0_longestPath_L23 n st x1 x2 x3 = some stz → WW D ks ad (AA ad sz) s st H locs → lv_has ls 5 [(0, .ref (ad 6)), (1, .int x1), (2, .int x2), (3, .int x3)] → (∀ (H : Heap) (locs : List Loc) (ls : Array Slot), WW D ks ad (AA ad sz) s stz H locs → lv_has ls 5 [(0, .ref (ad 6)), (1, .int x1)] → W p l e (headSpec wsX0_longestPath rmX0_longestPath).room s m args below meth c H locs 0 0 (MQ below (va_Qi (fun (x : Int32) (u : St) => x = r ∧ u = st') (QW D ks ad sz) (AA ad sz)) args s 0 0 (AA ad sz)) (F0 m 73 ls [])) → W p l e (headSpec wsX0_longestPath rmX0_longestPath).room s m args below meth c H locs 0 0 (MQ below (va_Qi (fun (x : Int32) (u : St) => x = r ∧ u = st') (QW D ks ad sz) (AA ad sz)) args s 0 0 (AA ad sz)) (F0 m 23 ls []) := by
    intro n
    induction n with
    | zero =>
      intro st x1 x2 x3 stz H locs ls hE hW hl kx
      exact none_x hE
    | succ n ih =>
      intro st x1 x2 x3 stz H locs ls hE hW hl kx
      rw [sX0_longestPath_L23] at hE
      refine lv_iload_n hx hb dX0_longestPath_23 rfl (lv_at hl 3 rfl) ?_
      refine lv_iload_n hx hb dX0_longestPath_24 rfl (lv_at hl 2 rfl) ?_
      refine lv_icmp_ge (tgt := 73) hx hb dX0_longestPath_25 (by decide) (fun c_6 => ?_) (fun c_6 => ?_)
      · have hE := if_t c_6 hE
        obtain rfl := some_x hE
        exact kx _ _ _ hW (lv_sub hl [0, 1] rfl)
      · have hE := if_f c_6 hE
        refine lv_aload_n hx hb dX0_longestPath_28 rfl (lv_at hl 0 rfl) ?_
        refine ww_get (C := RX0) (T := TX0) (N := 17) (ref := RX0) (ci := 0) (v := .ref (ad (ic 15))) hx hb hts hin0 hown hW 6 (by decide) rfl rfl 11 (by decide) hf45 (fun _ h9 => h9) rfl dX0_longestPath_29 ?_
        refine lv_iload_n hx hb dX0_longestPath_32 rfl (lv_at hl 3 rfl) ?_
        obtain ⟨hin, hE⟩ := gd_some hE
        refine ww_iald hx hb hW 15 (by decide) hin dX0_longestPath_33 ?_
        obtain ⟨x4_7, e, hE⟩ := lt_some hE
        refine lv_nmi e ?_
        refine lv_istore (lv' := [(4, .int x4_7), (0, .ref (ad 6)), (1, .int x1), (2, .int x2), (3, .int x3)]) hx hb dX0_longestPath_34 hl (by decide) rfl (fun ls hl => ?_)
        refine lv_aload_n hx hb dX0_longestPath_36 rfl (lv_at hl 1 rfl) ?_
        refine lv_iload hx hb dX0_longestPath_37 (lv_at hl 0 rfl) ?_
        refine lv_iconst (v := 1) hx hb dX0_longestPath_39 (by decide) ?_
        refine lv_aload_n hx hb dX0_longestPath_40 rfl (lv_at hl 1 rfl) ?_
        refine lv_aload_n hx hb dX0_longestPath_41 rfl (lv_at hl 1 rfl) ?_
        refine lv_iload hx hb dX0_longestPath_42 (lv_at hl 0 rfl) ?_
        obtain ⟨r_9, hc_8, hE⟩ := ob_some hE
        refine ww_callVi (As := [.int x4_7]) (rest := [.ref (ad 6), .int (1 : Int32), .int x4_7, .ref (ad 6)]) ⟨hx, hb, hml, hown, hts⟩ hW (ctX0_lowOf l D ks ad _ st x4_7 hc_8) (cwV 1 hts gX0_longestPath_X0_lowOf rfl rfl rfl (by decide +kernel) ⟨Nat.le_of_ble_eq_true rfl, Nat.le_of_ble_eq_true rfl⟩) hW.recvD rfl hl.1 rfl (Nat.le_of_ble_eq_true rfl) dX0_longestPath_44 ⟨Nat.zero_le _, Nat.zero_le _⟩ (fun H locs hW => ?_)
        obtain ⟨r_11, hc_10, hE⟩ := ob_some hE
        refine ww_callVi (As := [.int r_9]) (rest := [.int (1 : Int32), .int x4_7, .ref (ad 6)]) ⟨hx, hb, hml, hown, hts⟩ hW (ctX0_valueOf l D ks ad _ st r_9 hc_10) (cwV 1 hts gX0_longestPath_X0_valueOf rfl rfl rfl (by decide +kernel) ⟨Nat.le_of_ble_eq_true rfl, Nat.le_of_ble_eq_true rfl⟩) hW.recvD rfl hl.1 rfl (Nat.le_of_ble_eq_true rfl) dX0_longestPath_47 ⟨Nat.zero_le _, Nat.zero_le _⟩ (fun H locs hW => ?_)
        refine lv_aload_n hx hb dX0_longestPath_50 rfl (lv_at hl 1 rfl) ?_
        refine lv_aload_n hx hb dX0_longestPath_51 rfl (lv_at hl 1 rfl) ?_
        refine lv_iload hx hb dX0_longestPath_52 (lv_at hl 0 rfl) ?_
        obtain ⟨r_13, hc_12, hE⟩ := ob_some hE
        refine ww_callVi (As := [.int x4_7]) (rest := [.ref (ad 6), .int r_11, .int (1 : Int32), .int x4_7, .ref (ad 6)]) ⟨hx, hb, hml, hown, hts⟩ hW (ctX0_highOf l D ks ad _ st x4_7 hc_12) (cwV 1 hts gX0_longestPath_X0_highOf rfl rfl rfl (by decide +kernel) ⟨Nat.le_of_ble_eq_true rfl, Nat.le_of_ble_eq_true rfl⟩) hW.recvD rfl hl.1 rfl (Nat.le_of_ble_eq_true rfl) dX0_longestPath_54 ⟨Nat.zero_le _, Nat.zero_le _⟩ (fun H locs hW => ?_)
        obtain ⟨r_15, hc_14, hE⟩ := ob_some hE
        refine ww_callVi (As := [.int r_13]) (rest := [.int r_11, .int (1 : Int32), .int x4_7, .ref (ad 6)]) ⟨hx, hb, hml, hown, hts⟩ hW (ctX0_valueOf l D ks ad _ st r_13 hc_14) (cwV 1 hts gX0_longestPath_X0_valueOf rfl rfl rfl (by decide +kernel) ⟨Nat.le_of_ble_eq_true rfl, Nat.le_of_ble_eq_true rfl⟩) hW.recvD rfl hl.1 rfl (Nat.le_of_ble_eq_true rfl) dX0_longestPath_57 ⟨Nat.zero_le _, Nat.zero_le _⟩ (fun H locs hW => ?_)
        refine va_mmax hx hb (hml.trans hl.1.symm) hown (hts (.methodLink RX0 129 Lib.Math.max.name) (by decide +kernel)) (hts (.static Lib.Math.max.name) (by decide +kernel)) (hts (.initialized "java/lang/Math") (by decide +kernel)) (hts (.code Lib.Math.max.name Lib.Math.max.code 2 (some .int)) (by decide +kernel)) (Nat.le_of_ble_eq_true rfl) (Nat.le_of_ble_eq_true rfl) (Nat.zero_le _) (Nat.zero_le _) dX0_longestPath_60 ?_
        refine lv_iadd hx hb dX0_longestPath_63 ?_
        obtain ⟨st_16, hc_17, hE⟩ := ob_some hE
        refine ww_callVv (As := [.int x4_7, .int ((1 : Int32) + (imax r_11 r_15))]) (rest := []) ⟨hx, hb, hml, hown, hts⟩ hW (ctX0_setValue l D ks ad _ st x4_7 ((1 : Int32) + (imax r_11 r_15)) hc_17) (cwV 2 hts gX0_longestPath_X0_setValue rfl rfl rfl (by decide +kernel) ⟨Nat.le_of_ble_eq_true rfl, Nat.le_of_ble_eq_true rfl⟩) hW.recvD rfl hl.1 rfl (Nat.le_of_ble_eq_true rfl) dX0_longestPath_64 ⟨Nat.zero_le _, Nat.zero_le _⟩ (fun H locs hW => ?_)
        obtain ⟨x3_18, e, hE⟩ := lt_some hE
        refine lv_iinc (v := x3_18) (lv' := [(3, .int x3_18), (4, .int x4_7), (0, .ref (ad 6)), (1, .int x1), (2, .int x2)]) hx hb dX0_longestPath_67 hl (k := 4) rfl (by rw [e]; rfl) (by decide) rfl (fun ls hl => ?_)
        refine lv_goto (tgt := 23) hx hb dX0_longestPath_70 (by decide) ?_
        exact ih st_16 x1 x2 x3_18 _ _ _ _ hE hW (lv_sub hl [2, 3, 4, 0] rfl) kx
  refine lv_aload_n hx hb dX0_longestPath_0 rfl (lv_at hl 0 rfl) ?_
  refine lv_iload_n hx hb dX0_longestPath_1 rfl (lv_at hl 1 rfl) ?_
  refine lv_iload_n hx hb dX0_longestPath_2 rfl (lv_at hl 1 rfl) ?_
  obtain ⟨r_3, st_1, hc_2, hE⟩ := ob2_some hE
  refine ww_callVi (As := [.int x1, .int x1]) (rest := []) ⟨hx, hb, hml, hown, hts⟩ hW (ctX0_countFrom l D ks ad _ st x1 x1 hc_2) (cwV 2 hts gX0_longestPath_X0_countFrom rfl rfl rfl (by decide +kernel) ⟨Nat.le_of_ble_eq_true rfl, Nat.le_of_ble_eq_true rfl⟩) hW.recvD rfl hl.1 rfl (Nat.le_of_ble_eq_true rfl) dX0_longestPath_3 ⟨Nat.zero_le _, Nat.zero_le _⟩ (fun H locs hW => ?_)
  refine lv_istore_n (lv' := [(2, .int r_3), (0, .ref (ad 6)), (1, .int x1)]) hx hb dX0_longestPath_6 rfl hl (by decide) rfl (fun ls hl => ?_)
  refine lv_aload_n hx hb dX0_longestPath_7 rfl (lv_at hl 1 rfl) ?_
  refine ww_get (C := RX0) (T := TX0) (N := 17) (ref := RX0) (ci := 0) (v := .ref (ad (ic 14))) hx hb hts hin0 hown hW 6 (by decide) rfl rfl 10 (by decide) hf42 (fun _ h9 => h9) rfl dX0_longestPath_8 ?_
  refine lv_iconst (v := 0) hx hb dX0_longestPath_11 (by decide) ?_
  refine lv_iconst (v := 0) hx hb dX0_longestPath_12 (by decide) ?_
  obtain ⟨hin, hE⟩ := gd_some hE
  obtain ⟨st_4, est, hE⟩ := lt_some hE
  refine ww_iast hx hb hW 14 (by decide) hin est dX0_longestPath_13 (fun H locs hW => ?_)
  refine lv_aload_n hx hb dX0_longestPath_14 rfl (lv_at hl 1 rfl) ?_
  refine ww_get (C := RX0) (T := TX0) (N := 17) (ref := RX0) (ci := 0) (v := .ref (ad (ic 14))) hx hb hts hin0 hown hW 6 (by decide) rfl rfl 10 (by decide) hf42 (fun _ h9 => h9) rfl dX0_longestPath_15 ?_
  refine lv_iconst (v := 1) hx hb dX0_longestPath_18 (by decide) ?_
  refine lv_iconst (v := 0) hx hb dX0_longestPath_19 (by decide) ?_
  obtain ⟨hin, hE⟩ := gd_some hE
  obtain ⟨st_5, est, hE⟩ := lt_some hE
  refine ww_iast hx hb hW 14 (by decide) hin est dX0_longestPath_20 (fun H locs hW => ?_)
  refine lv_iconst (v := 0) hx hb dX0_longestPath_21 (by decide) ?_
  refine lv_istore_n (lv' := [(3, .int (0 : Int32)), (2, .int r_3), (0, .ref (ad 6)), (1, .int x1)]) hx hb dX0_longestPath_22 rfl hl (by decide) rfl (fun ls hl => ?_)
  obtain ⟨st_19, hz, hE⟩ := ob_some hE
  refine L23 FU st_5 x1 r_3 (0 : Int32) st_19 _ _ _ hz hW (lv_sub hl [2, 3, 1, 0] rfl) (fun H locs ls hW hl => ?_)
  refine lv_aload_n hx hb dX0_longestPath_73 rfl (lv_at hl 0 rfl) ?_
  refine lv_aload_n hx hb dX0_longestPath_74 rfl (lv_at hl 0 rfl) ?_
  refine ww_get (C := RX0) (T := TX0) (N := 17) (ref := RX0) (ci := 0) (v := .ref (ad (ic 5))) hx hb hts hin0 hown hW 6 (by decide) rfl rfl 1 (by decide) hf15 (fun _ h9 => h9) rfl dX0_longestPath_75 ?_
  refine lv_iload_n hx hb dX0_longestPath_78 rfl (lv_at hl 1 rfl) ?_
  obtain ⟨hin, hE⟩ := gd_some hE
  refine ww_iald hx hb hW 5 (by decide) hin dX0_longestPath_79 ?_
  obtain ⟨r_21, hc_20, hE⟩ := ob_some hE
  refine ww_callVi (As := [.int (gI 5 st_19 x1)]) (rest := []) ⟨hx, hb, hml, hown, hts⟩ hW (ctX0_valueOf l D ks ad _ st_19 (gI 5 st_19 x1) hc_20) (cwV 1 hts gX0_longestPath_X0_valueOf rfl rfl rfl (by decide +kernel) ⟨Nat.le_of_ble_eq_true rfl, Nat.le_of_ble_eq_true rfl⟩) hW.recvD rfl hl.1 rfl (Nat.le_of_ble_eq_true rfl) dX0_longestPath_80 ⟨Nat.zero_le _, Nat.zero_le _⟩ (fun H locs hW => ?_)
  obtain ⟨rfl, rfl⟩ := pair_x hE
  exact W.iret hx hb hr (fun t ht hWm => hW.qi ht hWm) hW.2.2.1.2.2 dX0_longestPath_83
abbrev rmX0_takeAll : Room := { frames := 1, cells := 0, slots := 0, locals := 20 }
set_option maxRecDepth 100000 in
theorem in0_X0_takeAll : ∀ w ∈ wsX00, w ∈ wsX0_takeAll := by decide +kernel
set_option maxHeartbeats 4000000 in
set_option maxRecDepth 100000 in
theorem ctX0_takeAll (l : Launch) (D : va_G) (ks : KA) (ad : Nat → Nat) (sz : Nat) (st : St) (x1 : Int32) (x2 : Int32)  {r : Int32} {st' : St} (hE : sX0_takeAll st x1 x2 = some (r, st')) : CI l D ks yX0_takeAll wsX0_takeAll rmX0_takeAll [.ref (ad 6), .int x1, .int x2] ad sz st r st' := by
  unfold sX0_takeAll at hE
  refine Met.ofW (cc := cX0_takeAll) (maxL := 7) (ret := (some .int)) (by decide) rfl ?_
  intro p e s m args below meth c s₁ B hml hv
  obtain ⟨hargs, hPW⟩ := hv
  have hW := WW.entry hPW
  have hx := B.exec
  have hb := B.bytes
  have hr := B.returns
  have hts := atoms_spec (ws := wsX0_takeAll) B.pre
  have hown : s.vm.findClass RX0 = some m.cls := findClass_of_methodNamed B.named
  have hlocks := B.notSynchronized
  have hin0 : ∀ w ∈ u_ws RX0 TX0 17, w ∈ wsX0_takeAll := in0_X0_takeAll
  have hf21 := hts (.fieldLink RX0 21 "Trellis$Diagram" "buckets" "[I") (by decide +kernel)
  have hf45 := hts (.fieldLink RX0 45 "Trellis$Diagram" "list" "[I") (by decide +kernel)
  have hf33 := hts (.fieldLink RX0 33 "Trellis$Diagram" "nexts" "[I") (by decide +kernel)
  have hf55 := hts (.fieldLink RX0 55 "Trellis$Diagram" "nodes" "I") (by decide +kernel)
  have hf18 := hts (.fieldLink RX0 18 "Trellis$Diagram" "counts" "[I") (by decide +kernel)
  have hl := lv_entry ([.ref (ad 6), .int x1, .int x2]) (n := 7) (Nat.le_of_ble_eq_true rfl)
  have hfr : entryFrame m args 7 = F0 m 0 (lg_sl ([.ref (ad 6), .int x1, .int x2]) ++ List.replicate (7 - (lg_sl ([.ref (ad 6), .int x1, .int x2])).length) Slot.unset).toArray [] := by rw [hargs, lg_entry_eq]
  rw [hfr]
  generalize (lg_sl ([.ref (ad 6), .int x1, .int x2]) ++ List.replicate (7 - (lg_sl ([.ref (ad 6), .int x1, .int x2])).length) Slot.unset).toArray = ls at hl ⊢
  have hl : lv_has ls 7 [(0, .ref (ad 6)), (1, .int x1), (2, .int x2)] := hl
  have L39 : ∀ (n : Nat) (st : St) (x1 : Int32) (x3 : Int32) (x4 : Int32) (x5 : Int32) (x6 : Int32)  (stz : St) (z3 : Int32) (H : Heap) (locs : List Loc) (ls : Array Slot), sX0_takeAll_L39 n st x1 x3 x4 x5 x6 = some (stz, z3) → WW D ks ad (AA ad sz) s st H locs → lv_has ls 7 [(0, .ref (ad 6)), (1, .int x1), (3, .int x3), (4, .int x4), (5, .int x5), (6, .int x6)] → (∀ (H : Heap) (locs : List Loc) (ls : Array Slot), WW D ks ad (AA ad sz) s stz H locs → lv_has ls 7 [(0, .ref (ad 6)), (1, .int x1), (3, .int z3), (4, .int x4)] → W p l e (headSpec wsX0_takeAll rmX0_takeAll).room s m args below meth c H locs 0 0 (MQ below (va_Qi (fun (x : Int32) (u : St) => x = r ∧ u = st') (QW D ks ad sz) (AA ad sz)) args s 0 0 (AA ad sz)) (F0 m 88 ls [])) → W p l e (headSpec wsX0_takeAll rmX0_takeAll).room s m args below meth c H locs 0 0 (MQ below (va_Qi (fun (x : Int32) (u : St) => x = r ∧ u = st') (QW D ks ad sz) (AA ad sz)) args s 0 0 (AA ad sz)) (F0 m 39 ls []) := by
    intro n
    induction n with
    | zero =>
      intro st x1 x3 x4 x5 x6 stz z3 H locs ls hE hW hl kx
      exact none_x hE
    | succ n ih =>
      intro st x1 x3 x4 x5 x6 stz z3 H locs ls hE hW hl kx
      rw [sX0_takeAll_L39] at hE
      refine lv_iload hx hb dX0_takeAll_39 (lv_at hl 5 rfl) ?_
      refine lv_sipush (v := 2560) hx hb dX0_takeAll_41 (by decide) ?_
      refine lv_icmp_ge (tgt := 88) hx hb dX0_takeAll_44 (by decide) (fun c_5 => ?_) (fun c_5 => ?_)
      · have hE := if_t c_5 hE
        obtain ⟨rfl, rfl⟩ := tup2_x hE
        exact kx _ _ _ hW (lv_sub hl [0, 1, 2, 3] rfl)
      · have hE := if_f c_5 hE
        refine lv_iload hx hb dX0_takeAll_47 (lv_at hl 4 rfl) ?_
        obtain ⟨r_7, hc_6, hE⟩ := ob_some hE
        refine ww_callSi (As := [.int x5]) (rest := []) ⟨hx, hb, hml, hown, hts⟩ hW (ctX0_isNode l D ks ad _ st x5 hc_6) (va_cwS 1 hts gX0_takeAll_X0_isNode rfl rfl rfl (by decide +kernel) ⟨Nat.le_of_ble_eq_true rfl, Nat.le_of_ble_eq_true rfl⟩) rfl hl.1 rfl (Nat.le_of_ble_eq_true rfl) dX0_takeAll_49 ⟨Nat.zero_le _, Nat.zero_le _⟩ (fun H locs hW => ?_)
        refine lv_if_eq (tgt := 88) hx hb dX0_takeAll_52 (by decide) (fun c_8 => ?_) (fun c_8 => ?_)
        · have hE := if_t c_8 hE
          obtain ⟨rfl, rfl⟩ := tup2_x hE
          exact kx _ _ _ hW (lv_sub hl [0, 1, 2, 3] rfl)
        · have hE := if_f c_8 hE
          refine lv_iload_n hx hb dX0_takeAll_55 rfl (lv_at hl 2 rfl) ?_
          refine lv_sipush (v := 2560) hx hb dX0_takeAll_56 (by decide) ?_
          refine lv_icmp_ge (tgt := 88) hx hb dX0_takeAll_59 (by decide) (fun c_9 => ?_) (fun c_9 => ?_)
          · have hE := if_t c_9 hE
            obtain ⟨rfl, rfl⟩ := tup2_x hE
            exact kx _ _ _ hW (lv_sub hl [0, 1, 2, 3] rfl)
          · have hE := if_f c_9 hE
            refine lv_aload_n hx hb dX0_takeAll_62 rfl (lv_at hl 0 rfl) ?_
            refine ww_get (C := RX0) (T := TX0) (N := 17) (ref := RX0) (ci := 0) (v := .ref (ad (ic 15))) hx hb hts hin0 hown hW 6 (by decide) rfl rfl 11 (by decide) hf45 (fun _ h9 => h9) rfl dX0_takeAll_63 ?_
            refine lv_iload_n hx hb dX0_takeAll_66 rfl (lv_at hl 2 rfl) ?_
            refine lv_iload hx hb dX0_takeAll_67 (lv_at hl 4 rfl) ?_
            obtain ⟨hin, hE⟩ := gd_some hE
            obtain ⟨st_10, est, hE⟩ := lt_some hE
            refine ww_iast hx hb hW 15 (by decide) hin est dX0_takeAll_69 (fun H locs hW => ?_)
            obtain ⟨x3_11, e, hE⟩ := lt_some hE
            refine lv_iinc (v := x3_11) (lv' := [(3, .int x3_11), (0, .ref (ad 6)), (1, .int x1), (4, .int x4), (5, .int x5), (6, .int x6)]) hx hb dX0_takeAll_70 hl (k := 2) rfl (by rw [e]; rfl) (by decide) rfl (fun ls hl => ?_)
            refine lv_aload_n hx hb dX0_takeAll_73 rfl (lv_at hl 1 rfl) ?_
            refine ww_get (C := RX0) (T := TX0) (N := 17) (ref := RX0) (ci := 0) (v := .ref (ad (ic 11))) hx hb hts hin0 hown hW 6 (by decide) rfl rfl 7 (by decide) hf33 (fun _ h9 => h9) rfl dX0_takeAll_74 ?_
            refine lv_iload hx hb dX0_takeAll_77 (lv_at hl 4 rfl) ?_
            obtain ⟨hin, hE⟩ := gd_some hE
            refine ww_iald hx hb hW 11 (by decide) hin dX0_takeAll_79 ?_
            obtain ⟨x5_12, e, hE⟩ := lt_some hE
            refine lv_nmi e ?_
            refine lv_istore (lv' := [(5, .int x5_12), (3, .int x3_11), (0, .ref (ad 6)), (1, .int x1), (4, .int x4), (6, .int x6)]) hx hb dX0_takeAll_80 hl (by decide) rfl (fun ls hl => ?_)
            obtain ⟨x6_13, e, hE⟩ := lt_some hE
            refine lv_iinc (v := x6_13) (lv' := [(6, .int x6_13), (5, .int x5_12), (3, .int x3_11), (0, .ref (ad 6)), (1, .int x1), (4, .int x4)]) hx hb dX0_takeAll_82 hl (k := 5) rfl (by rw [e]; rfl) (by decide) rfl (fun ls hl => ?_)
            refine lv_goto (tgt := 39) hx hb dX0_takeAll_85 (by decide) ?_
            exact ih st_10 x1 x3_11 x4 x5_12 x6_13 _ _ _ _ _ hE hW (lv_sub hl [3, 4, 2, 5, 1, 0] rfl) kx
  have L8 : ∀ (n : Nat) (st : St) (x1 : Int32) (x3 : Int32) (x4 : Int32)  (stz : St) (z3 : Int32) (H : Heap) (locs : List Loc) (ls : Array Slot), sX0_takeAll_L8 n st x1 x3 x4 = some (stz, z3) → WW D ks ad (AA ad sz) s st H locs → lv_has ls 7 [(0, .ref (ad 6)), (1, .int x1), (3, .int x3), (4, .int x4)] → (∀ (H : Heap) (locs : List Loc) (ls : Array Slot), WW D ks ad (AA ad sz) s stz H locs → lv_has ls 7 [(0, .ref (ad 6)), (1, .int x1), (3, .int z3)] → W p l e (headSpec wsX0_takeAll rmX0_takeAll).room s m args below meth c H locs 0 0 (MQ below (va_Qi (fun (x : Int32) (u : St) => x = r ∧ u = st') (QW D ks ad sz) (AA ad sz)) args s 0 0 (AA ad sz)) (F0 m 94 ls [])) → W p l e (headSpec wsX0_takeAll rmX0_takeAll).room s m args below meth c H locs 0 0 (MQ below (va_Qi (fun (x : Int32) (u : St) => x = r ∧ u = st') (QW D ks ad sz) (AA ad sz)) args s 0 0 (AA ad sz)) (F0 m 8 ls []) := by
    intro n
    induction n with
    | zero =>
      intro st x1 x3 x4 stz z3 H locs ls hE hW hl kx
      exact none_x hE
    | succ n ih =>
      intro st x1 x3 x4 stz z3 H locs ls hE hW hl kx
      rw [sX0_takeAll_L8] at hE
      refine lv_iload hx hb dX0_takeAll_8 (lv_at hl 3 rfl) ?_
      refine lv_iload_n hx hb dX0_takeAll_10 rfl (lv_at hl 1 rfl) ?_
      refine lv_iconst (v := 1) hx hb dX0_takeAll_11 (by decide) ?_
      refine lv_iadd hx hb dX0_takeAll_12 ?_
      refine lv_bipush (v := 64) hx hb dX0_takeAll_13 (by decide) ?_
      refine lv_imul hx hb dX0_takeAll_15 ?_
      refine lv_icmp_ge (tgt := 94) hx hb dX0_takeAll_16 (by decide) (fun c_2 => ?_) (fun c_2 => ?_)
      · have hE := if_t c_2 hE
        obtain ⟨rfl, rfl⟩ := tup2_x hE
        exact kx _ _ _ hW (lv_sub hl [0, 1, 2] rfl)
      · have hE := if_f c_2 hE
        refine lv_aload_n hx hb dX0_takeAll_19 rfl (lv_at hl 0 rfl) ?_
        refine ww_get (C := RX0) (T := TX0) (N := 17) (ref := RX0) (ci := 0) (v := .ref (ad (ic 7))) hx hb hts hin0 hown hW 6 (by decide) rfl rfl 3 (by decide) hf21 (fun _ h9 => h9) rfl dX0_takeAll_20 ?_
        refine lv_iload hx hb dX0_takeAll_23 (lv_at hl 3 rfl) ?_
        obtain ⟨hin, hE⟩ := gd_some hE
        refine ww_iald hx hb hW 7 (by decide) hin dX0_takeAll_25 ?_
        obtain ⟨x5_3, e, hE⟩ := lt_some hE
        refine lv_nmi e ?_
        refine lv_istore (lv' := [(5, .int x5_3), (0, .ref (ad 6)), (1, .int x1), (3, .int x3), (4, .int x4)]) hx hb dX0_takeAll_26 hl (by decide) rfl (fun ls hl => ?_)
        refine lv_aload_n hx hb dX0_takeAll_28 rfl (lv_at hl 1 rfl) ?_
        refine ww_get (C := RX0) (T := TX0) (N := 17) (ref := RX0) (ci := 0) (v := .ref (ad (ic 7))) hx hb hts hin0 hown hW 6 (by decide) rfl rfl 3 (by decide) hf21 (fun _ h9 => h9) rfl dX0_takeAll_29 ?_
        refine lv_iload hx hb dX0_takeAll_32 (lv_at hl 4 rfl) ?_
        refine lv_iconst (v := 0) hx hb dX0_takeAll_34 (by decide) ?_
        obtain ⟨hin, hE⟩ := gd_some hE
        obtain ⟨st_4, est, hE⟩ := lt_some hE
        refine ww_iast hx hb hW 7 (by decide) hin est dX0_takeAll_35 (fun H locs hW => ?_)
        refine lv_iconst (v := 0) hx hb dX0_takeAll_36 (by decide) ?_
        refine lv_istore (lv' := [(6, .int (0 : Int32)), (5, .int x5_3), (0, .ref (ad 6)), (1, .int x1), (3, .int x3), (4, .int x4)]) hx hb dX0_takeAll_37 hl (by decide) rfl (fun ls hl => ?_)
        obtain ⟨st_14, x3_15, hz, hE⟩ := ob2_some hE
        refine L39 FU st_4 x1 x3 x4 x5_3 (0 : Int32) st_14 x3_15 _ _ _ hz hW (lv_sub hl [2, 3, 4, 5, 1, 0] rfl) (fun H locs ls hW hl => ?_)
        obtain ⟨x4_16, e, hE⟩ := lt_some hE
        refine lv_iinc (v := x4_16) (lv' := [(4, .int x4_16), (0, .ref (ad 6)), (1, .int x1), (3, .int x3_15)]) hx hb dX0_takeAll_88 hl (k := 3) rfl (by rw [e]; rfl) (by decide) rfl (fun ls hl => ?_)
        refine lv_goto (tgt := 8) hx hb dX0_takeAll_91 (by decide) ?_
        exact ih st_14 x1 x3_15 x4_16 _ _ _ _ _ hE hW (lv_sub hl [1, 2, 3, 0] rfl) kx
  refine lv_iload_n hx hb dX0_takeAll_0 rfl (lv_at hl 2 rfl) ?_
  refine lv_istore_n (lv' := [(3, .int x2), (0, .ref (ad 6)), (1, .int x1), (2, .int x2)]) hx hb dX0_takeAll_1 rfl hl (by decide) rfl (fun ls hl => ?_)
  refine lv_iload_n hx hb dX0_takeAll_2 rfl (lv_at hl 2 rfl) ?_
  refine lv_bipush (v := 64) hx hb dX0_takeAll_3 (by decide) ?_
  refine lv_imul hx hb dX0_takeAll_5 ?_
  obtain ⟨x4_1, e, hE⟩ := lt_some hE
  refine lv_nmi e ?_
  refine lv_istore (lv' := [(4, .int x4_1), (3, .int x2), (0, .ref (ad 6)), (1, .int x1), (2, .int x2)]) hx hb dX0_takeAll_6 hl (by decide) rfl (fun ls hl => ?_)
  obtain ⟨st_17, x3_18, hz, hE⟩ := ob2_some hE
  refine L8 FU st x1 x2 x4_1 st_17 x3_18 _ _ _ hz hW (lv_sub hl [2, 3, 1, 0] rfl) (fun H locs ls hW hl => ?_)
  refine lv_aload_n hx hb dX0_takeAll_94 rfl (lv_at hl 0 rfl) ?_
  refine lv_dup hx hb dX0_takeAll_95 rfl ?_
  refine ww_get (C := RX0) (T := TX0) (N := 17) (ref := RX0) (ci := 0) (v := .int (gF 1 st_17)) hx hb hts hin0 hown hW 6 (by decide) rfl rfl 14 (by decide) hf55 (fun _ h9 => h9) rfl dX0_takeAll_96 ?_
  refine lv_aload_n hx hb dX0_takeAll_99 rfl (lv_at hl 0 rfl) ?_
  refine ww_get (C := RX0) (T := TX0) (N := 17) (ref := RX0) (ci := 0) (v := .ref (ad (ic 6))) hx hb hts hin0 hown hW 6 (by decide) rfl rfl 2 (by decide) hf18 (fun _ h9 => h9) rfl dX0_takeAll_100 ?_
  refine lv_iload_n hx hb dX0_takeAll_103 rfl (lv_at hl 1 rfl) ?_
  obtain ⟨hin, hE⟩ := gd_some hE
  refine ww_iald hx hb hW 6 (by decide) hin dX0_takeAll_104 ?_
  refine lv_isub hx hb dX0_takeAll_105 ?_
  obtain ⟨st_19, est, hE⟩ := lt_some hE
  refine ww_put hx hb hts hin0 hown hW 1 (by decide) hf55 est dX0_takeAll_106 (fun H locs hW => ?_)
  refine lv_aload_n hx hb dX0_takeAll_109 rfl (lv_at hl 0 rfl) ?_
  refine ww_get (C := RX0) (T := TX0) (N := 17) (ref := RX0) (ci := 0) (v := .ref (ad (ic 6))) hx hb hts hin0 hown hW 6 (by decide) rfl rfl 2 (by decide) hf18 (fun _ h9 => h9) rfl dX0_takeAll_110 ?_
  refine lv_iload_n hx hb dX0_takeAll_113 rfl (lv_at hl 1 rfl) ?_
  refine lv_iconst (v := 0) hx hb dX0_takeAll_114 (by decide) ?_
  obtain ⟨hin, hE⟩ := gd_some hE
  obtain ⟨st_20, est, hE⟩ := lt_some hE
  refine ww_iast hx hb hW 6 (by decide) hin est dX0_takeAll_115 (fun H locs hW => ?_)
  refine lv_iload_n hx hb dX0_takeAll_116 rfl (lv_at hl 2 rfl) ?_
  obtain ⟨rfl, rfl⟩ := pair_x hE
  exact W.iret hx hb hr (fun t ht hWm => hW.qi ht hWm) hW.2.2.1.2.2 dX0_takeAll_117
abbrev rmX0_raise : Room := { frames := 2, cells := 0, slots := 0, locals := 45 }
set_option maxRecDepth 100000 in
theorem in0_X0_raise : ∀ w ∈ wsX00, w ∈ wsX0_raise := by decide +kernel
set_option maxHeartbeats 4000000 in
set_option maxRecDepth 100000 in
theorem ctX0_raise (l : Launch) (D : va_G) (ks : KA) (ad : Nat → Nat) (sz : Nat) (st : St) (x1 : Int32) (x2 : Int32)  {st' : St} (hE : sX0_raise st x1 x2 = some st') : CV l D ks yX0_raise wsX0_raise rmX0_raise [.ref (ad 6), .int x1, .int x2] ad sz st st' := by
  unfold sX0_raise at hE
  refine Met.ofW (cc := cX0_raise) (maxL := 3) (ret := none) (by decide) rfl ?_
  intro p e s m args below meth c s₁ B hml hv
  obtain ⟨hargs, hPW⟩ := hv
  have hW := WW.entry hPW
  have hx := B.exec
  have hb := B.bytes
  have hr := B.returns
  have hts := atoms_spec (ws := wsX0_raise) B.pre
  have hown : s.vm.findClass RX0 = some m.cls := findClass_of_methodNamed B.named
  have hlocks := B.notSynchronized
  have hin0 : ∀ w ∈ u_ws RX0 TX0 17, w ∈ wsX0_raise := in0_X0_raise
  have hf24 := hts (.fieldLink RX0 24 "Trellis$Diagram" "levels" "[I") (by decide +kernel)
  have hf36 := hts (.fieldLink RX0 36 "Trellis$Diagram" "pointers" "[I") (by decide +kernel)
  have hl := lv_entry ([.ref (ad 6), .int x1, .int x2]) (n := 3) (Nat.le_of_ble_eq_true rfl)
  have hfr : entryFrame m args 3 = F0 m 0 (lg_sl ([.ref (ad 6), .int x1, .int x2]) ++ List.replicate (3 - (lg_sl ([.ref (ad 6), .int x1, .int x2])).length) Slot.unset).toArray [] := by rw [hargs, lg_entry_eq]
  rw [hfr]
  generalize (lg_sl ([.ref (ad 6), .int x1, .int x2]) ++ List.replicate (3 - (lg_sl ([.ref (ad 6), .int x1, .int x2])).length) Slot.unset).toArray = ls at hl ⊢
  have hl : lv_has ls 3 [(0, .ref (ad 6)), (1, .int x1), (2, .int x2)] := hl
  refine lv_iload_n hx hb dX0_raise_0 rfl (lv_at hl 1 rfl) ?_
  obtain ⟨r_2, hc_1, hE⟩ := ob_some hE
  refine ww_callSi (As := [.int x1]) (rest := []) ⟨hx, hb, hml, hown, hts⟩ hW (ctX0_isNode l D ks ad _ st x1 hc_1) (va_cwS 1 hts gX0_raise_X0_isNode rfl rfl rfl (by decide +kernel) ⟨Nat.le_of_ble_eq_true rfl, Nat.le_of_ble_eq_true rfl⟩) rfl hl.1 rfl (Nat.le_of_ble_eq_true rfl) dX0_raise_1 ⟨Nat.zero_le _, Nat.zero_le _⟩ (fun H locs hW => ?_)
  refine lv_if_ne (tgt := 8) hx hb dX0_raise_4 (by decide) (fun c_3 => ?_) (fun c_3 => ?_)
  · have hE := if_t c_3 hE
    refine lv_aload_n hx hb dX0_raise_8 rfl (lv_at hl 0 rfl) ?_
    refine ww_get (C := RX0) (T := TX0) (N := 17) (ref := RX0) (ci := 0) (v := .ref (ad (ic 8))) hx hb hts hin0 hown hW 6 (by decide) rfl rfl 4 (by decide) hf24 (fun _ h9 => h9) rfl dX0_raise_9 ?_
    refine lv_iload_n hx hb dX0_raise_12 rfl (lv_at hl 1 rfl) ?_
    refine lv_iload_n hx hb dX0_raise_13 rfl (lv_at hl 2 rfl) ?_
    obtain ⟨hin, hE⟩ := gd_some hE
    obtain ⟨st_4, est, hE⟩ := lt_some hE
    refine ww_iast hx hb hW 8 (by decide) hin est dX0_raise_14 (fun H locs hW => ?_)
    refine lv_aload_n hx hb dX0_raise_15 rfl (lv_at hl 0 rfl) ?_
    refine ww_get (C := RX0) (T := TX0) (N := 17) (ref := RX0) (ci := 0) (v := .ref (ad (ic 12))) hx hb hts hin0 hown hW 6 (by decide) rfl rfl 8 (by decide) hf36 (fun _ h9 => h9) rfl dX0_raise_16 ?_
    refine lv_iload_n hx hb dX0_raise_19 rfl (lv_at hl 1 rfl) ?_
    refine lv_dup2_11 hx hb dX0_raise_20 rfl rfl ?_
    obtain ⟨hin, hE⟩ := gd_some hE
    refine ww_iald hx hb hW 12 (by decide) hin dX0_raise_21 ?_
    refine lv_iconst (v := 1) hx hb dX0_raise_22 (by decide) ?_
    refine lv_iadd hx hb dX0_raise_23 ?_
    obtain ⟨hin, hE⟩ := gd_some hE
    obtain ⟨st_5, est, hE⟩ := lt_some hE
    refine ww_iast hx hb hW 12 (by decide) hin est dX0_raise_24 (fun H locs hW => ?_)
    refine lv_aload_n hx hb dX0_raise_25 rfl (lv_at hl 0 rfl) ?_
    refine lv_iload_n hx hb dX0_raise_26 rfl (lv_at hl 1 rfl) ?_
    obtain ⟨st_6, hc_7, hE⟩ := ob_some hE
    refine ww_callVv (As := [.int x1]) (rest := []) ⟨hx, hb, hml, hown, hts⟩ hW (ctX0_link l D ks ad _ st_5 x1 hc_7) (cwV 1 hts gX0_raise_X0_link rfl rfl rfl (by decide +kernel) ⟨Nat.le_of_ble_eq_true rfl, Nat.le_of_ble_eq_true rfl⟩) hW.recvD rfl hl.1 rfl (Nat.le_of_ble_eq_true rfl) dX0_raise_27 ⟨Nat.zero_le _, Nat.zero_le _⟩ (fun H locs hW => ?_)
    obtain rfl := some_x hE
    exact W.vret hx hb hr (fun t ht hWm => hW.qv ht hWm) hW.2.2.1.2.2 dX0_raise_30
  · have hE := if_f (fun q => q c_3) hE
    obtain rfl := some_x hE
    exact W.vret hx hb hr (fun t ht hWm => hW.qv ht hWm) hW.2.2.1.2.2 dX0_raise_7
abbrev rmX0_sinkIfFree : Room := { frames := 2, cells := 0, slots := 0, locals := 45 }
set_option maxRecDepth 100000 in
theorem in0_X0_sinkIfFree : ∀ w ∈ wsX00, w ∈ wsX0_sinkIfFree := by decide +kernel
set_option maxHeartbeats 4000000 in
set_option maxRecDepth 100000 in
theorem ctX0_sinkIfFree (l : Launch) (D : va_G) (ks : KA) (ad : Nat → Nat) (sz : Nat) (st : St) (x1 : Int32) (x2 : Int32)  {st' : St} (hE : sX0_sinkIfFree st x1 x2 = some st') : CV l D ks yX0_sinkIfFree wsX0_sinkIfFree rmX0_sinkIfFree [.ref (ad 6), .int x1, .int x2] ad sz st st' := by
  unfold sX0_sinkIfFree at hE
  refine Met.ofW (cc := cX0_sinkIfFree) (maxL := 3) (ret := none) (by decide) rfl ?_
  intro p e s m args below meth c s₁ B hml hv
  obtain ⟨hargs, hPW⟩ := hv
  have hW := WW.entry hPW
  have hx := B.exec
  have hb := B.bytes
  have hr := B.returns
  have hts := atoms_spec (ws := wsX0_sinkIfFree) B.pre
  have hown : s.vm.findClass RX0 = some m.cls := findClass_of_methodNamed B.named
  have hlocks := B.notSynchronized
  have hin0 : ∀ w ∈ u_ws RX0 TX0 17, w ∈ wsX0_sinkIfFree := in0_X0_sinkIfFree
  have hf24 := hts (.fieldLink RX0 24 "Trellis$Diagram" "levels" "[I") (by decide +kernel)
  have hl := lv_entry ([.ref (ad 6), .int x1, .int x2]) (n := 3) (Nat.le_of_ble_eq_true rfl)
  have hfr : entryFrame m args 3 = F0 m 0 (lg_sl ([.ref (ad 6), .int x1, .int x2]) ++ List.replicate (3 - (lg_sl ([.ref (ad 6), .int x1, .int x2])).length) Slot.unset).toArray [] := by rw [hargs, lg_entry_eq]
  rw [hfr]
  generalize (lg_sl ([.ref (ad 6), .int x1, .int x2]) ++ List.replicate (3 - (lg_sl ([.ref (ad 6), .int x1, .int x2])).length) Slot.unset).toArray = ls at hl ⊢
  have hl : lv_has ls 3 [(0, .ref (ad 6)), (1, .int x1), (2, .int x2)] := hl
  refine lv_iload_n hx hb dX0_sinkIfFree_0 rfl (lv_at hl 1 rfl) ?_
  obtain ⟨r_2, hc_1, hE⟩ := ob_some hE
  refine ww_callSi (As := [.int x1]) (rest := []) ⟨hx, hb, hml, hown, hts⟩ hW (ctX0_isNode l D ks ad _ st x1 hc_1) (va_cwS 1 hts gX0_sinkIfFree_X0_isNode rfl rfl rfl (by decide +kernel) ⟨Nat.le_of_ble_eq_true rfl, Nat.le_of_ble_eq_true rfl⟩) rfl hl.1 rfl (Nat.le_of_ble_eq_true rfl) dX0_sinkIfFree_1 ⟨Nat.zero_le _, Nat.zero_le _⟩ (fun H locs hW => ?_)
  refine lv_if_eq (tgt := 47) hx hb dX0_sinkIfFree_4 (by decide) (fun c_3 => ?_) (fun c_3 => ?_)
  · have hE := if_t c_3 hE
    obtain rfl := some_x hE
    exact W.vret hx hb hr (fun t ht hWm => hW.qv ht hWm) hW.2.2.1.2.2 dX0_sinkIfFree_47
  · have hE := if_f c_3 hE
    refine lv_aload_n hx hb dX0_sinkIfFree_7 rfl (lv_at hl 0 rfl) ?_
    refine lv_aload_n hx hb dX0_sinkIfFree_8 rfl (lv_at hl 0 rfl) ?_
    refine lv_iload_n hx hb dX0_sinkIfFree_9 rfl (lv_at hl 1 rfl) ?_
    obtain ⟨r_5, hc_4, hE⟩ := ob_some hE
    refine ww_callVi (As := [.int x1]) (rest := [.ref (ad 6)]) ⟨hx, hb, hml, hown, hts⟩ hW (ctX0_lowOf l D ks ad _ st x1 hc_4) (cwV 1 hts gX0_sinkIfFree_X0_lowOf rfl rfl rfl (by decide +kernel) ⟨Nat.le_of_ble_eq_true rfl, Nat.le_of_ble_eq_true rfl⟩) hW.recvD rfl hl.1 rfl (Nat.le_of_ble_eq_true rfl) dX0_sinkIfFree_10 ⟨Nat.zero_le _, Nat.zero_le _⟩ (fun H locs hW => ?_)
    obtain ⟨r_7, hc_6, hE⟩ := ob_some hE
    refine ww_callVi (As := [.int r_5]) (rest := []) ⟨hx, hb, hml, hown, hts⟩ hW (ctX0_levelAt l D ks ad _ st r_5 hc_6) (cwV 1 hts gX0_sinkIfFree_X0_levelAt rfl rfl rfl (by decide +kernel) ⟨Nat.le_of_ble_eq_true rfl, Nat.le_of_ble_eq_true rfl⟩) hW.recvD rfl hl.1 rfl (Nat.le_of_ble_eq_true rfl) dX0_sinkIfFree_13 ⟨Nat.zero_le _, Nat.zero_le _⟩ (fun H locs hW => ?_)
    refine lv_iload_n hx hb dX0_sinkIfFree_16 rfl (lv_at hl 2 rfl) ?_
    refine lv_icmp_eq (tgt := 47) hx hb dX0_sinkIfFree_17 (by decide) (fun c_8 => ?_) (fun c_8 => ?_)
    · have hE := if_t c_8 hE
      obtain rfl := some_x hE
      exact W.vret hx hb hr (fun t ht hWm => hW.qv ht hWm) hW.2.2.1.2.2 dX0_sinkIfFree_47
    · have hE := if_f c_8 hE
      refine lv_aload_n hx hb dX0_sinkIfFree_20 rfl (lv_at hl 0 rfl) ?_
      refine lv_aload_n hx hb dX0_sinkIfFree_21 rfl (lv_at hl 0 rfl) ?_
      refine lv_iload_n hx hb dX0_sinkIfFree_22 rfl (lv_at hl 1 rfl) ?_
      obtain ⟨r_10, hc_9, hE⟩ := ob_some hE
      refine ww_callVi (As := [.int x1]) (rest := [.ref (ad 6)]) ⟨hx, hb, hml, hown, hts⟩ hW (ctX0_highOf l D ks ad _ st x1 hc_9) (cwV 1 hts gX0_sinkIfFree_X0_highOf rfl rfl rfl (by decide +kernel) ⟨Nat.le_of_ble_eq_true rfl, Nat.le_of_ble_eq_true rfl⟩) hW.recvD rfl hl.1 rfl (Nat.le_of_ble_eq_true rfl) dX0_sinkIfFree_23 ⟨Nat.zero_le _, Nat.zero_le _⟩ (fun H locs hW => ?_)
      obtain ⟨r_12, hc_11, hE⟩ := ob_some hE
      refine ww_callVi (As := [.int r_10]) (rest := []) ⟨hx, hb, hml, hown, hts⟩ hW (ctX0_levelAt l D ks ad _ st r_10 hc_11) (cwV 1 hts gX0_sinkIfFree_X0_levelAt rfl rfl rfl (by decide +kernel) ⟨Nat.le_of_ble_eq_true rfl, Nat.le_of_ble_eq_true rfl⟩) hW.recvD rfl hl.1 rfl (Nat.le_of_ble_eq_true rfl) dX0_sinkIfFree_26 ⟨Nat.zero_le _, Nat.zero_le _⟩ (fun H locs hW => ?_)
      refine lv_iload_n hx hb dX0_sinkIfFree_29 rfl (lv_at hl 2 rfl) ?_
      refine lv_icmp_eq (tgt := 47) hx hb dX0_sinkIfFree_30 (by decide) (fun c_13 => ?_) (fun c_13 => ?_)
      · have hE := if_t c_13 hE
        obtain rfl := some_x hE
        exact W.vret hx hb hr (fun t ht hWm => hW.qv ht hWm) hW.2.2.1.2.2 dX0_sinkIfFree_47
      · have hE := if_f c_13 hE
        refine lv_aload_n hx hb dX0_sinkIfFree_33 rfl (lv_at hl 0 rfl) ?_
        refine ww_get (C := RX0) (T := TX0) (N := 17) (ref := RX0) (ci := 0) (v := .ref (ad (ic 8))) hx hb hts hin0 hown hW 6 (by decide) rfl rfl 4 (by decide) hf24 (fun _ h9 => h9) rfl dX0_sinkIfFree_34 ?_
        refine lv_iload_n hx hb dX0_sinkIfFree_37 rfl (lv_at hl 1 rfl) ?_
        refine lv_iload_n hx hb dX0_sinkIfFree_38 rfl (lv_at hl 2 rfl) ?_
        refine lv_iconst (v := 1) hx hb dX0_sinkIfFree_39 (by decide) ?_
        refine lv_iadd hx hb dX0_sinkIfFree_40 ?_
        obtain ⟨hin, hE⟩ := gd_some hE
        obtain ⟨st_14, est, hE⟩ := lt_some hE
        refine ww_iast hx hb hW 8 (by decide) hin est dX0_sinkIfFree_41 (fun H locs hW => ?_)
        refine lv_aload_n hx hb dX0_sinkIfFree_42 rfl (lv_at hl 0 rfl) ?_
        refine lv_iload_n hx hb dX0_sinkIfFree_43 rfl (lv_at hl 1 rfl) ?_
        obtain ⟨st_15, hc_16, hE⟩ := ob_some hE
        refine ww_callVv (As := [.int x1]) (rest := []) ⟨hx, hb, hml, hown, hts⟩ hW (ctX0_link l D ks ad _ st_14 x1 hc_16) (cwV 1 hts gX0_sinkIfFree_X0_link rfl rfl rfl (by decide +kernel) ⟨Nat.le_of_ble_eq_true rfl, Nat.le_of_ble_eq_true rfl⟩) hW.recvD rfl hl.1 rfl (Nat.le_of_ble_eq_true rfl) dX0_sinkIfFree_44 ⟨Nat.zero_le _, Nat.zero_le _⟩ (fun H locs hW => ?_)
        obtain rfl := some_x hE
        exact W.vret hx hb hr (fun t ht hWm => hW.qv ht hWm) hW.2.2.1.2.2 dX0_sinkIfFree_47
abbrev rmX0_half : Room := { frames := 2, cells := 0, slots := 0, locals := 41 }
set_option maxHeartbeats 4000000 in
set_option maxRecDepth 100000 in
theorem ctX0_half (l : Launch) (D : va_G) (ks : KA) (ad : Nat → Nat) (sz : Nat) (st : St) (x1 : Int32) (x2 : Int32) (x3 : Int32)  {r : Int32}  (hE : sX0_half st x1 x2 x3 = some r) : CI l D ks yX0_half wsX0_half rmX0_half [.ref (ad 6), .int x1, .int x2, .int x3] ad sz st r st := by
  unfold sX0_half at hE
  refine Met.ofW (cc := cX0_half) (maxL := 4) (ret := (some .int)) (by decide) rfl ?_
  intro p e s m args below meth c s₁ B hml hv
  obtain ⟨hargs, hPW⟩ := hv
  have hW := WW.entry hPW
  have hx := B.exec
  have hb := B.bytes
  have hr := B.returns
  have hts := atoms_spec (ws := wsX0_half) B.pre
  have hown : s.vm.findClass RX0 = some m.cls := findClass_of_methodNamed B.named
  have hlocks := B.notSynchronized
  have hl := lv_entry ([.ref (ad 6), .int x1, .int x2, .int x3]) (n := 4) (Nat.le_of_ble_eq_true rfl)
  have hfr : entryFrame m args 4 = F0 m 0 (lg_sl ([.ref (ad 6), .int x1, .int x2, .int x3]) ++ List.replicate (4 - (lg_sl ([.ref (ad 6), .int x1, .int x2, .int x3])).length) Slot.unset).toArray [] := by rw [hargs, lg_entry_eq]
  rw [hfr]
  generalize (lg_sl ([.ref (ad 6), .int x1, .int x2, .int x3]) ++ List.replicate (4 - (lg_sl ([.ref (ad 6), .int x1, .int x2, .int x3])).length) Slot.unset).toArray = ls at hl ⊢
  have hl : lv_has ls 4 [(0, .ref (ad 6)), (1, .int x1), (2, .int x2), (3, .int x3)] := hl
  refine lv_aload_n hx hb dX0_half_0 rfl (lv_at hl 0 rfl) ?_
  refine lv_iload_n hx hb dX0_half_1 rfl (lv_at hl 1 rfl) ?_
  obtain ⟨r_2, hc_1, hE⟩ := ob_some hE
  refine ww_callVi (As := [.int x1]) (rest := []) ⟨hx, hb, hml, hown, hts⟩ hW (ctX0_levelAt l D ks ad _ st x1 hc_1) (cwV 1 hts gX0_half_X0_levelAt rfl rfl rfl (by decide +kernel) ⟨Nat.le_of_ble_eq_true rfl, Nat.le_of_ble_eq_true rfl⟩) hW.recvD rfl hl.1 rfl (Nat.le_of_ble_eq_true rfl) dX0_half_2 ⟨Nat.zero_le _, Nat.zero_le _⟩ (fun H locs hW => ?_)
  refine lv_iload_n hx hb dX0_half_5 rfl (lv_at hl 2 rfl) ?_
  refine lv_icmp_eq (tgt := 11) hx hb dX0_half_6 (by decide) (fun c_3 => ?_) (fun c_3 => ?_)
  · have hE := if_t c_3 hE
    refine lv_iload_n hx hb dX0_half_11 rfl (lv_at hl 3 rfl) ?_
    refine lv_if_eq (tgt := 23) hx hb dX0_half_12 (by decide) (fun c_4 => ?_) (fun c_4 => ?_)
    · have hE := if_t c_4 hE
      refine lv_aload_n hx hb dX0_half_23 rfl (lv_at hl 0 rfl) ?_
      refine lv_iload_n hx hb dX0_half_24 rfl (lv_at hl 1 rfl) ?_
      obtain ⟨r_6, hc_5, hE⟩ := ob_some hE
      refine ww_callVi (As := [.int x1]) (rest := []) ⟨hx, hb, hml, hown, hts⟩ hW (ctX0_lowOf l D ks ad _ st x1 hc_5) (cwV 1 hts gX0_half_X0_lowOf rfl rfl rfl (by decide +kernel) ⟨Nat.le_of_ble_eq_true rfl, Nat.le_of_ble_eq_true rfl⟩) hW.recvD rfl hl.1 rfl (Nat.le_of_ble_eq_true rfl) dX0_half_25 ⟨Nat.zero_le _, Nat.zero_le _⟩ (fun H locs hW => ?_)
      obtain rfl := some_x hE
      exact W.iret hx hb hr (fun t ht hWm => hW.qi ht hWm) hW.2.2.1.2.2 dX0_half_28
    · have hE := if_f c_4 hE
      refine lv_aload_n hx hb dX0_half_15 rfl (lv_at hl 0 rfl) ?_
      refine lv_iload_n hx hb dX0_half_16 rfl (lv_at hl 1 rfl) ?_
      obtain ⟨r_8, hc_7, hE⟩ := ob_some hE
      refine ww_callVi (As := [.int x1]) (rest := []) ⟨hx, hb, hml, hown, hts⟩ hW (ctX0_highOf l D ks ad _ st x1 hc_7) (cwV 1 hts gX0_half_X0_highOf rfl rfl rfl (by decide +kernel) ⟨Nat.le_of_ble_eq_true rfl, Nat.le_of_ble_eq_true rfl⟩) hW.recvD rfl hl.1 rfl (Nat.le_of_ble_eq_true rfl) dX0_half_17 ⟨Nat.zero_le _, Nat.zero_le _⟩ (fun H locs hW => ?_)
      refine lv_goto (tgt := 28) hx hb dX0_half_20 (by decide) ?_
      obtain rfl := some_x hE
      exact W.iret hx hb hr (fun t ht hWm => hW.qi ht hWm) hW.2.2.1.2.2 dX0_half_28
  · have hE := if_f c_3 hE
    refine lv_iload_n hx hb dX0_half_9 rfl (lv_at hl 1 rfl) ?_
    obtain rfl := some_x hE
    exact W.iret hx hb hr (fun t ht hWm => hW.qi ht hWm) hW.2.2.1.2.2 dX0_half_10
abbrev rmX0_turn : Room := { frames := 15, cells := 0, slots := 0, locals := 334 }
set_option maxRecDepth 100000 in
theorem in0_X0_turn : ∀ w ∈ wsX00, w ∈ wsX0_turn := by decide +kernel
set_option maxHeartbeats 4000000 in
set_option maxRecDepth 100000 in
theorem ctX0_turn (l : Launch) (D : va_G) (ks : KA) (ad : Nat → Nat) (sz : Nat) (st : St) (x1 : Int32) (x2 : Int32)  {st' : St} (hE : sX0_turn st x1 x2 = some st') : CV l D ks yX0_turn wsX0_turn rmX0_turn [.ref (ad 6), .int x1, .int x2] ad sz st st' := by
  unfold sX0_turn at hE
  refine Met.ofW (cc := cX0_turn) (maxL := 7) (ret := none) (by decide) rfl ?_
  intro p e s m args below meth c s₁ B hml hv
  obtain ⟨hargs, hPW⟩ := hv
  have hW := WW.entry hPW
  have hx := B.exec
  have hb := B.bytes
  have hr := B.returns
  have hts := atoms_spec (ws := wsX0_turn) B.pre
  have hown : s.vm.findClass RX0 = some m.cls := findClass_of_methodNamed B.named
  have hlocks := B.notSynchronized
  have hin0 : ∀ w ∈ u_ws RX0 TX0 17, w ∈ wsX0_turn := in0_X0_turn
  have hf27 := hts (.fieldLink RX0 27 "Trellis$Diagram" "lows" "[I") (by decide +kernel)
  have hf30 := hts (.fieldLink RX0 30 "Trellis$Diagram" "highs" "[I") (by decide +kernel)
  have hl := lv_entry ([.ref (ad 6), .int x1, .int x2]) (n := 7) (Nat.le_of_ble_eq_true rfl)
  have hfr : entryFrame m args 7 = F0 m 0 (lg_sl ([.ref (ad 6), .int x1, .int x2]) ++ List.replicate (7 - (lg_sl ([.ref (ad 6), .int x1, .int x2])).length) Slot.unset).toArray [] := by rw [hargs, lg_entry_eq]
  rw [hfr]
  generalize (lg_sl ([.ref (ad 6), .int x1, .int x2]) ++ List.replicate (7 - (lg_sl ([.ref (ad 6), .int x1, .int x2])).length) Slot.unset).toArray = ls at hl ⊢
  have hl : lv_has ls 7 [(0, .ref (ad 6)), (1, .int x1), (2, .int x2)] := hl
  refine lv_iload_n hx hb dX0_turn_0 rfl (lv_at hl 1 rfl) ?_
  obtain ⟨r_2, hc_1, hE⟩ := ob_some hE
  refine ww_callSi (As := [.int x1]) (rest := []) ⟨hx, hb, hml, hown, hts⟩ hW (ctX0_isNode l D ks ad _ st x1 hc_1) (va_cwS 1 hts gX0_turn_X0_isNode rfl rfl rfl (by decide +kernel) ⟨Nat.le_of_ble_eq_true rfl, Nat.le_of_ble_eq_true rfl⟩) rfl hl.1 rfl (Nat.le_of_ble_eq_true rfl) dX0_turn_1 ⟨Nat.zero_le _, Nat.zero_le _⟩ (fun H locs hW => ?_)
  refine lv_if_ne (tgt := 8) hx hb dX0_turn_4 (by decide) (fun c_3 => ?_) (fun c_3 => ?_)
  · have hE := if_t c_3 hE
    refine lv_aload_n hx hb dX0_turn_8 rfl (lv_at hl 0 rfl) ?_
    refine lv_iload_n hx hb dX0_turn_9 rfl (lv_at hl 1 rfl) ?_
    obtain ⟨r_5, hc_4, hE⟩ := ob_some hE
    refine ww_callVi (As := [.int x1]) (rest := []) ⟨hx, hb, hml, hown, hts⟩ hW (ctX0_lowOf l D ks ad _ st x1 hc_4) (cwV 1 hts gX0_turn_X0_lowOf rfl rfl rfl (by decide +kernel) ⟨Nat.le_of_ble_eq_true rfl, Nat.le_of_ble_eq_true rfl⟩) hW.recvD rfl hl.1 rfl (Nat.le_of_ble_eq_true rfl) dX0_turn_10 ⟨Nat.zero_le _, Nat.zero_le _⟩ (fun H locs hW => ?_)
    refine lv_istore_n (lv' := [(3, .int r_5), (0, .ref (ad 6)), (1, .int x1), (2, .int x2)]) hx hb dX0_turn_13 rfl hl (by decide) rfl (fun ls hl => ?_)
    refine lv_aload_n hx hb dX0_turn_14 rfl (lv_at hl 1 rfl) ?_
    refine lv_iload_n hx hb dX0_turn_15 rfl (lv_at hl 2 rfl) ?_
    obtain ⟨r_7, hc_6, hE⟩ := ob_some hE
    refine ww_callVi (As := [.int x1]) (rest := []) ⟨hx, hb, hml, hown, hts⟩ hW (ctX0_highOf l D ks ad _ st x1 hc_6) (cwV 1 hts gX0_turn_X0_highOf rfl rfl rfl (by decide +kernel) ⟨Nat.le_of_ble_eq_true rfl, Nat.le_of_ble_eq_true rfl⟩) hW.recvD rfl hl.1 rfl (Nat.le_of_ble_eq_true rfl) dX0_turn_16 ⟨Nat.zero_le _, Nat.zero_le _⟩ (fun H locs hW => ?_)
    refine lv_istore (lv' := [(4, .int r_7), (3, .int r_5), (0, .ref (ad 6)), (1, .int x1), (2, .int x2)]) hx hb dX0_turn_19 hl (by decide) rfl (fun ls hl => ?_)
    refine lv_aload_n hx hb dX0_turn_21 rfl (lv_at hl 2 rfl) ?_
    refine lv_iload_n hx hb dX0_turn_22 rfl (lv_at hl 4 rfl) ?_
    refine lv_iconst (v := 1) hx hb dX0_turn_23 (by decide) ?_
    refine lv_iadd hx hb dX0_turn_24 ?_
    refine lv_aload_n hx hb dX0_turn_25 rfl (lv_at hl 2 rfl) ?_
    refine lv_iload_n hx hb dX0_turn_26 rfl (lv_at hl 1 rfl) ?_
    refine lv_iload_n hx hb dX0_turn_27 rfl (lv_at hl 4 rfl) ?_
    refine lv_iconst (v := 0) hx hb dX0_turn_28 (by decide) ?_
    obtain ⟨r_9, hc_8, hE⟩ := ob_some hE
    refine ww_callVi (As := [.int r_5, .int x2, .int (0 : Int32)]) (rest := [.int (x2 + (1 : Int32)), .ref (ad 6)]) ⟨hx, hb, hml, hown, hts⟩ hW (ctX0_half l D ks ad _ st r_5 x2 (0 : Int32) hc_8) (cwV 3 hts gX0_turn_X0_half rfl rfl rfl (by decide +kernel) ⟨Nat.le_of_ble_eq_true rfl, Nat.le_of_ble_eq_true rfl⟩) hW.recvD rfl hl.1 rfl (Nat.le_of_ble_eq_true rfl) dX0_turn_29 ⟨Nat.zero_le _, Nat.zero_le _⟩ (fun H locs hW => ?_)
    refine lv_aload_n hx hb dX0_turn_32 rfl (lv_at hl 2 rfl) ?_
    refine lv_iload hx hb dX0_turn_33 (lv_at hl 0 rfl) ?_
    refine lv_iload_n hx hb dX0_turn_35 rfl (lv_at hl 4 rfl) ?_
    refine lv_iconst (v := 0) hx hb dX0_turn_36 (by decide) ?_
    obtain ⟨r_11, hc_10, hE⟩ := ob_some hE
    refine ww_callVi (As := [.int r_7, .int x2, .int (0 : Int32)]) (rest := [.int r_9, .int (x2 + (1 : Int32)), .ref (ad 6)]) ⟨hx, hb, hml, hown, hts⟩ hW (ctX0_half l D ks ad _ st r_7 x2 (0 : Int32) hc_10) (cwV 3 hts gX0_turn_X0_half rfl rfl rfl (by decide +kernel) ⟨Nat.le_of_ble_eq_true rfl, Nat.le_of_ble_eq_true rfl⟩) hW.recvD rfl hl.1 rfl (Nat.le_of_ble_eq_true rfl) dX0_turn_37 ⟨Nat.zero_le _, Nat.zero_le _⟩ (fun H locs hW => ?_)
    obtain ⟨r_14, st_12, hc_13, hE⟩ := ob2_some hE
    refine ww_callVi (As := [.int (x2 + (1 : Int32)), .int r_9, .int r_11]) (rest := []) ⟨hx, hb, hml, hown, hts⟩ hW (ctX0_make l D ks ad _ st (x2 + (1 : Int32)) r_9 r_11 hc_13) (cwV 3 hts gX0_turn_X0_make rfl rfl rfl (by decide +kernel) ⟨Nat.le_of_ble_eq_true rfl, Nat.le_of_ble_eq_true rfl⟩) hW.recvD rfl hl.1 rfl (Nat.le_of_ble_eq_true rfl) dX0_turn_40 ⟨Nat.zero_le _, Nat.zero_le _⟩ (fun H locs hW => ?_)
    refine lv_istore (lv' := [(5, .int r_14), (4, .int r_7), (3, .int r_5), (0, .ref (ad 6)), (1, .int x1), (2, .int x2)]) hx hb dX0_turn_43 hl (by decide) rfl (fun ls hl => ?_)
    refine lv_aload_n hx hb dX0_turn_45 rfl (lv_at hl 3 rfl) ?_
    refine lv_iload_n hx hb dX0_turn_46 rfl (lv_at hl 5 rfl) ?_
    refine lv_iconst (v := 1) hx hb dX0_turn_47 (by decide) ?_
    refine lv_iadd hx hb dX0_turn_48 ?_
    refine lv_aload_n hx hb dX0_turn_49 rfl (lv_at hl 3 rfl) ?_
    refine lv_iload_n hx hb dX0_turn_50 rfl (lv_at hl 2 rfl) ?_
    refine lv_iload_n hx hb dX0_turn_51 rfl (lv_at hl 5 rfl) ?_
    refine lv_iconst (v := 1) hx hb dX0_turn_52 (by decide) ?_
    obtain ⟨r_16, hc_15, hE⟩ := ob_some hE
    refine ww_callVi (As := [.int r_5, .int x2, .int (1 : Int32)]) (rest := [.int (x2 + (1 : Int32)), .ref (ad 6)]) ⟨hx, hb, hml, hown, hts⟩ hW (ctX0_half l D ks ad _ st_12 r_5 x2 (1 : Int32) hc_15) (cwV 3 hts gX0_turn_X0_half rfl rfl rfl (by decide +kernel) ⟨Nat.le_of_ble_eq_true rfl, Nat.le_of_ble_eq_true rfl⟩) hW.recvD rfl hl.1 rfl (Nat.le_of_ble_eq_true rfl) dX0_turn_53 ⟨Nat.zero_le _, Nat.zero_le _⟩ (fun H locs hW => ?_)
    refine lv_aload_n hx hb dX0_turn_56 rfl (lv_at hl 3 rfl) ?_
    refine lv_iload hx hb dX0_turn_57 (lv_at hl 1 rfl) ?_
    refine lv_iload_n hx hb dX0_turn_59 rfl (lv_at hl 5 rfl) ?_
    refine lv_iconst (v := 1) hx hb dX0_turn_60 (by decide) ?_
    obtain ⟨r_18, hc_17, hE⟩ := ob_some hE
    refine ww_callVi (As := [.int r_7, .int x2, .int (1 : Int32)]) (rest := [.int r_16, .int (x2 + (1 : Int32)), .ref (ad 6)]) ⟨hx, hb, hml, hown, hts⟩ hW (ctX0_half l D ks ad _ st_12 r_7 x2 (1 : Int32) hc_17) (cwV 3 hts gX0_turn_X0_half rfl rfl rfl (by decide +kernel) ⟨Nat.le_of_ble_eq_true rfl, Nat.le_of_ble_eq_true rfl⟩) hW.recvD rfl hl.1 rfl (Nat.le_of_ble_eq_true rfl) dX0_turn_61 ⟨Nat.zero_le _, Nat.zero_le _⟩ (fun H locs hW => ?_)
    obtain ⟨r_21, st_19, hc_20, hE⟩ := ob2_some hE
    refine ww_callVi (As := [.int (x2 + (1 : Int32)), .int r_16, .int r_18]) (rest := []) ⟨hx, hb, hml, hown, hts⟩ hW (ctX0_make l D ks ad _ st_12 (x2 + (1 : Int32)) r_16 r_18 hc_20) (cwV 3 hts gX0_turn_X0_make rfl rfl rfl (by decide +kernel) ⟨Nat.le_of_ble_eq_true rfl, Nat.le_of_ble_eq_true rfl⟩) hW.recvD rfl hl.1 rfl (Nat.le_of_ble_eq_true rfl) dX0_turn_64 ⟨Nat.zero_le _, Nat.zero_le _⟩ (fun H locs hW => ?_)
    refine lv_istore (lv' := [(6, .int r_21), (5, .int r_14), (4, .int r_7), (3, .int r_5), (0, .ref (ad 6)), (1, .int x1), (2, .int x2)]) hx hb dX0_turn_67 hl (by decide) rfl (fun ls hl => ?_)
    refine lv_aload_n hx hb dX0_turn_69 rfl (lv_at hl 4 rfl) ?_
    refine lv_iload hx hb dX0_turn_70 (lv_at hl 1 rfl) ?_
    obtain ⟨st_22, hc_23, hE⟩ := ob_some hE
    refine ww_callVv (As := [.int r_14]) (rest := []) ⟨hx, hb, hml, hown, hts⟩ hW (ctX0_point l D ks ad _ st_19 r_14 hc_23) (cwV 1 hts gX0_turn_X0_point rfl rfl rfl (by decide +kernel) ⟨Nat.le_of_ble_eq_true rfl, Nat.le_of_ble_eq_true rfl⟩) hW.recvD rfl hl.1 rfl (Nat.le_of_ble_eq_true rfl) dX0_turn_72 ⟨Nat.zero_le _, Nat.zero_le _⟩ (fun H locs hW => ?_)
    refine lv_aload_n hx hb dX0_turn_75 rfl (lv_at hl 4 rfl) ?_
    refine lv_iload hx hb dX0_turn_76 (lv_at hl 0 rfl) ?_
    obtain ⟨st_24, hc_25, hE⟩ := ob_some hE
    refine ww_callVv (As := [.int r_21]) (rest := []) ⟨hx, hb, hml, hown, hts⟩ hW (ctX0_point l D ks ad _ st_22 r_21 hc_25) (cwV 1 hts gX0_turn_X0_point rfl rfl rfl (by decide +kernel) ⟨Nat.le_of_ble_eq_true rfl, Nat.le_of_ble_eq_true rfl⟩) hW.recvD rfl hl.1 rfl (Nat.le_of_ble_eq_true rfl) dX0_turn_78 ⟨Nat.zero_le _, Nat.zero_le _⟩ (fun H locs hW => ?_)
    refine lv_aload_n hx hb dX0_turn_81 rfl (lv_at hl 4 rfl) ?_
    refine ww_get (C := RX0) (T := TX0) (N := 17) (ref := RX0) (ci := 0) (v := .ref (ad (ic 9))) hx hb hts hin0 hown hW 6 (by decide) rfl rfl 5 (by decide) hf27 (fun _ h9 => h9) rfl dX0_turn_82 ?_
    refine lv_iload_n hx hb dX0_turn_85 rfl (lv_at hl 5 rfl) ?_
    refine lv_iload hx hb dX0_turn_86 (lv_at hl 1 rfl) ?_
    obtain ⟨hin, hE⟩ := gd_some hE
    obtain ⟨st_26, est, hE⟩ := lt_some hE
    refine ww_iast hx hb hW 9 (by decide) hin est dX0_turn_88 (fun H locs hW => ?_)
    refine lv_aload_n hx hb dX0_turn_89 rfl (lv_at hl 4 rfl) ?_
    refine ww_get (C := RX0) (T := TX0) (N := 17) (ref := RX0) (ci := 0) (v := .ref (ad (ic 10))) hx hb hts hin0 hown hW 6 (by decide) rfl rfl 6 (by decide) hf30 (fun _ h9 => h9) rfl dX0_turn_90 ?_
    refine lv_iload_n hx hb dX0_turn_93 rfl (lv_at hl 5 rfl) ?_
    refine lv_iload hx hb dX0_turn_94 (lv_at hl 0 rfl) ?_
    obtain ⟨hin, hE⟩ := gd_some hE
    obtain ⟨st_27, est, hE⟩ := lt_some hE
    refine ww_iast hx hb hW 10 (by decide) hin est dX0_turn_96 (fun H locs hW => ?_)
    refine lv_aload_n hx hb dX0_turn_97 rfl (lv_at hl 4 rfl) ?_
    refine lv_iload_n hx hb dX0_turn_98 rfl (lv_at hl 5 rfl) ?_
    obtain ⟨st_28, hc_29, hE⟩ := ob_some hE
    refine ww_callVv (As := [.int x1]) (rest := []) ⟨hx, hb, hml, hown, hts⟩ hW (ctX0_link l D ks ad _ st_27 x1 hc_29) (cwV 1 hts gX0_turn_X0_link rfl rfl rfl (by decide +kernel) ⟨Nat.le_of_ble_eq_true rfl, Nat.le_of_ble_eq_true rfl⟩) hW.recvD rfl hl.1 rfl (Nat.le_of_ble_eq_true rfl) dX0_turn_99 ⟨Nat.zero_le _, Nat.zero_le _⟩ (fun H locs hW => ?_)
    refine lv_aload_n hx hb dX0_turn_102 rfl (lv_at hl 4 rfl) ?_
    refine lv_iload_n hx hb dX0_turn_103 rfl (lv_at hl 3 rfl) ?_
    refine lv_iconst (v := 0) hx hb dX0_turn_104 (by decide) ?_
    obtain ⟨st_30, hc_31, hE⟩ := ob_some hE
    refine ww_callSv (As := [.ref (ad 6), .int r_5, .int (0 : Int32)]) (rest := []) ⟨hx, hb, hml, hown, hts⟩ hW (ctX0_drop l D ks ad _ 12 st_28 r_5 (0 : Int32) _ hc_31) (va_cwS 3 hts gX0_turn_X0_drop rfl rfl rfl (by decide +kernel) ⟨Nat.le_of_ble_eq_true rfl, Nat.le_of_ble_eq_true rfl⟩) rfl hl.1 rfl (Nat.le_of_ble_eq_true rfl) dX0_turn_105 ⟨Nat.zero_le _, Nat.zero_le _⟩ (fun H locs hW => ?_)
    refine lv_aload_n hx hb dX0_turn_108 rfl (lv_at hl 4 rfl) ?_
    refine lv_iload hx hb dX0_turn_109 (lv_at hl 2 rfl) ?_
    refine lv_iconst (v := 0) hx hb dX0_turn_111 (by decide) ?_
    obtain ⟨st_32, hc_33, hE⟩ := ob_some hE
    refine ww_callSv (As := [.ref (ad 6), .int r_7, .int (0 : Int32)]) (rest := []) ⟨hx, hb, hml, hown, hts⟩ hW (ctX0_drop l D ks ad _ 12 st_30 r_7 (0 : Int32) _ hc_33) (va_cwS 3 hts gX0_turn_X0_drop rfl rfl rfl (by decide +kernel) ⟨Nat.le_of_ble_eq_true rfl, Nat.le_of_ble_eq_true rfl⟩) rfl hl.1 rfl (Nat.le_of_ble_eq_true rfl) dX0_turn_112 ⟨Nat.zero_le _, Nat.zero_le _⟩ (fun H locs hW => ?_)
    obtain rfl := some_x hE
    exact W.vret hx hb hr (fun t ht hWm => hW.qv ht hWm) hW.2.2.1.2.2 dX0_turn_115
  · have hE := if_f (fun q => q c_3) hE
    obtain rfl := some_x hE
    exact W.vret hx hb hr (fun t ht hWm => hW.qv ht hWm) hW.2.2.1.2.2 dX0_turn_7
abbrev rmX0_exchangeAt : Room := { frames := 16, cells := 0, slots := 0, locals := 360 }
set_option maxRecDepth 100000 in
theorem in0_X0_exchangeAt : ∀ w ∈ wsX00, w ∈ wsX0_exchangeAt := by decide +kernel
set_option maxHeartbeats 4000000 in
set_option maxRecDepth 100000 in
theorem ctX0_exchangeAt (l : Launch) (D : va_G) (ks : KA) (ad : Nat → Nat) (sz : Nat) (st : St) (x1 : Int32)  {st' : St} (hE : sX0_exchangeAt st x1 = some st') : CV l D ks yX0_exchangeAt wsX0_exchangeAt rmX0_exchangeAt [.ref (ad 6), .int x1] ad sz st st' := by
  unfold sX0_exchangeAt at hE
  refine Met.ofW (cc := cX0_exchangeAt) (maxL := 6) (ret := none) (by decide) rfl ?_
  intro p e s m args below meth c s₁ B hml hv
  obtain ⟨hargs, hPW⟩ := hv
  have hW := WW.entry hPW
  have hx := B.exec
  have hb := B.bytes
  have hr := B.returns
  have hts := atoms_spec (ws := wsX0_exchangeAt) B.pre
  have hown : s.vm.findClass RX0 = some m.cls := findClass_of_methodNamed B.named
  have hlocks := B.notSynchronized
  have hin0 : ∀ w ∈ u_ws RX0 TX0 17, w ∈ wsX0_exchangeAt := in0_X0_exchangeAt
  have hf45 := hts (.fieldLink RX0 45 "Trellis$Diagram" "list" "[I") (by decide +kernel)
  have hf9 := hts (.fieldLink RX0 9 "Trellis$Diagram" "order" "[I") (by decide +kernel)
  have hl := lv_entry ([.ref (ad 6), .int x1]) (n := 6) (Nat.le_of_ble_eq_true rfl)
  have hfr : entryFrame m args 6 = F0 m 0 (lg_sl ([.ref (ad 6), .int x1]) ++ List.replicate (6 - (lg_sl ([.ref (ad 6), .int x1])).length) Slot.unset).toArray [] := by rw [hargs, lg_entry_eq]
  rw [hfr]
  generalize (lg_sl ([.ref (ad 6), .int x1]) ++ List.replicate (6 - (lg_sl ([.ref (ad 6), .int x1])).length) Slot.unset).toArray = ls at hl ⊢
  have hl : lv_has ls 6 [(0, .ref (ad 6)), (1, .int x1)] := hl
  have L33 : ∀ (n : Nat) (st : St) (x1 : Int32) (x2 : Int32) (x3 : Int32) (x4 : Int32) (x5 : Int32)  (stz : St) (H : Heap) (locs : List Loc) (ls : Array Slot), sX0_exchangeAt_L33 n st x1 x2 x3 x4 x5 = some stz → WW D ks ad (AA ad sz) s st H locs → lv_has ls 6 [(0, .ref (ad 6)), (1, .int x1), (2, .int x2), (3, .int x3), (4, .int x4), (5, .int x5)] → (∀ (H : Heap) (locs : List Loc) (ls : Array Slot), WW D ks ad (AA ad sz) s stz H locs → lv_has ls 6 [(0, .ref (ad 6)), (1, .int x1), (2, .int x2), (3, .int x3), (4, .int x4)] → W p l e (headSpec wsX0_exchangeAt rmX0_exchangeAt).room s m args below meth c H locs 0 0 (MQ below (va_Qv (fun (u : St) => u = st') (QW D ks ad sz) (AA ad sz)) args s 0 0 (AA ad sz)) (F0 m 58 ls [])) → W p l e (headSpec wsX0_exchangeAt rmX0_exchangeAt).room s m args below meth c H locs 0 0 (MQ below (va_Qv (fun (u : St) => u = st') (QW D ks ad sz) (AA ad sz)) args s 0 0 (AA ad sz)) (F0 m 33 ls []) := by
    intro n
    induction n with
    | zero =>
      intro st x1 x2 x3 x4 x5 stz H locs ls hE hW hl kx
      exact none_x hE
    | succ n ih =>
      intro st x1 x2 x3 x4 x5 stz H locs ls hE hW hl kx
      rw [sX0_exchangeAt_L33] at hE
      refine lv_iload hx hb dX0_exchangeAt_33 (lv_at hl 5 rfl) ?_
      refine lv_iload hx hb dX0_exchangeAt_35 (lv_at hl 4 rfl) ?_
      refine lv_icmp_ge (tgt := 58) hx hb dX0_exchangeAt_37 (by decide) (fun c_10 => ?_) (fun c_10 => ?_)
      · have hE := if_t c_10 hE
        obtain rfl := some_x hE
        exact kx _ _ _ hW (lv_sub hl [0, 1, 2, 3, 4] rfl)
      · have hE := if_f c_10 hE
        refine lv_aload_n hx hb dX0_exchangeAt_40 rfl (lv_at hl 0 rfl) ?_
        refine lv_aload_n hx hb dX0_exchangeAt_41 rfl (lv_at hl 0 rfl) ?_
        refine ww_get (C := RX0) (T := TX0) (N := 17) (ref := RX0) (ci := 0) (v := .ref (ad (ic 15))) hx hb hts hin0 hown hW 6 (by decide) rfl rfl 11 (by decide) hf45 (fun _ h9 => h9) rfl dX0_exchangeAt_42 ?_
        refine lv_iload hx hb dX0_exchangeAt_45 (lv_at hl 5 rfl) ?_
        obtain ⟨hin, hE⟩ := gd_some hE
        refine ww_iald hx hb hW 15 (by decide) hin dX0_exchangeAt_47 ?_
        refine lv_iload_n hx hb dX0_exchangeAt_48 rfl (lv_at hl 1 rfl) ?_
        obtain ⟨st_11, hc_12, hE⟩ := ob_some hE
        refine ww_callVv (As := [.int (gI 15 st x5), .int x1]) (rest := []) ⟨hx, hb, hml, hown, hts⟩ hW (ctX0_raise l D ks ad _ st (gI 15 st x5) x1 hc_12) (cwV 2 hts gX0_exchangeAt_X0_raise rfl rfl rfl (by decide +kernel) ⟨Nat.le_of_ble_eq_true rfl, Nat.le_of_ble_eq_true rfl⟩) hW.recvD rfl hl.1 rfl (Nat.le_of_ble_eq_true rfl) dX0_exchangeAt_49 ⟨Nat.zero_le _, Nat.zero_le _⟩ (fun H locs hW => ?_)
        obtain ⟨x5_13, e, hE⟩ := lt_some hE
        refine lv_iinc (v := x5_13) (lv' := [(5, .int x5_13), (0, .ref (ad 6)), (1, .int x1), (2, .int x2), (3, .int x3), (4, .int x4)]) hx hb dX0_exchangeAt_52 hl (k := 5) rfl (by rw [e]; rfl) (by decide) rfl (fun ls hl => ?_)
        refine lv_goto (tgt := 33) hx hb dX0_exchangeAt_55 (by decide) ?_
        exact ih st_11 x1 x2 x3 x4 x5_13 _ _ _ _ hE hW (lv_sub hl [1, 2, 3, 4, 5, 0] rfl) kx
  have L61 : ∀ (n : Nat) (st : St) (x1 : Int32) (x2 : Int32) (x3 : Int32) (x4 : Int32) (x5 : Int32)  (stz : St) (H : Heap) (locs : List Loc) (ls : Array Slot), sX0_exchangeAt_L61 n st x1 x2 x3 x4 x5 = some stz → WW D ks ad (AA ad sz) s st H locs → lv_has ls 6 [(0, .ref (ad 6)), (1, .int x1), (2, .int x2), (3, .int x3), (4, .int x4), (5, .int x5)] → (∀ (H : Heap) (locs : List Loc) (ls : Array Slot), WW D ks ad (AA ad sz) s stz H locs → lv_has ls 6 [(0, .ref (ad 6)), (1, .int x1), (2, .int x2), (3, .int x3), (4, .int x4)] → W p l e (headSpec wsX0_exchangeAt rmX0_exchangeAt).room s m args below meth c H locs 0 0 (MQ below (va_Qv (fun (u : St) => u = st') (QW D ks ad sz) (AA ad sz)) args s 0 0 (AA ad sz)) (F0 m 85 ls [])) → W p l e (headSpec wsX0_exchangeAt rmX0_exchangeAt).room s m args below meth c H locs 0 0 (MQ below (va_Qv (fun (u : St) => u = st') (QW D ks ad sz) (AA ad sz)) args s 0 0 (AA ad sz)) (F0 m 61 ls []) := by
    intro n
    induction n with
    | zero =>
      intro st x1 x2 x3 x4 x5 stz H locs ls hE hW hl kx
      exact none_x hE
    | succ n ih =>
      intro st x1 x2 x3 x4 x5 stz H locs ls hE hW hl kx
      rw [sX0_exchangeAt_L61] at hE
      refine lv_iload hx hb dX0_exchangeAt_61 (lv_at hl 5 rfl) ?_
      refine lv_iload_n hx hb dX0_exchangeAt_63 rfl (lv_at hl 3 rfl) ?_
      refine lv_icmp_ge (tgt := 85) hx hb dX0_exchangeAt_64 (by decide) (fun c_15 => ?_) (fun c_15 => ?_)
      · have hE := if_t c_15 hE
        obtain rfl := some_x hE
        exact kx _ _ _ hW (lv_sub hl [0, 1, 2, 3, 4] rfl)
      · have hE := if_f c_15 hE
        refine lv_aload_n hx hb dX0_exchangeAt_67 rfl (lv_at hl 0 rfl) ?_
        refine lv_aload_n hx hb dX0_exchangeAt_68 rfl (lv_at hl 0 rfl) ?_
        refine ww_get (C := RX0) (T := TX0) (N := 17) (ref := RX0) (ci := 0) (v := .ref (ad (ic 15))) hx hb hts hin0 hown hW 6 (by decide) rfl rfl 11 (by decide) hf45 (fun _ h9 => h9) rfl dX0_exchangeAt_69 ?_
        refine lv_iload hx hb dX0_exchangeAt_72 (lv_at hl 5 rfl) ?_
        obtain ⟨hin, hE⟩ := gd_some hE
        refine ww_iald hx hb hW 15 (by decide) hin dX0_exchangeAt_74 ?_
        refine lv_iload_n hx hb dX0_exchangeAt_75 rfl (lv_at hl 1 rfl) ?_
        obtain ⟨st_16, hc_17, hE⟩ := ob_some hE
        refine ww_callVv (As := [.int (gI 15 st x5), .int x1]) (rest := []) ⟨hx, hb, hml, hown, hts⟩ hW (ctX0_sinkIfFree l D ks ad _ st (gI 15 st x5) x1 hc_17) (cwV 2 hts gX0_exchangeAt_X0_sinkIfFree rfl rfl rfl (by decide +kernel) ⟨Nat.le_of_ble_eq_true rfl, Nat.le_of_ble_eq_true rfl⟩) hW.recvD rfl hl.1 rfl (Nat.le_of_ble_eq_true rfl) dX0_exchangeAt_76 ⟨Nat.zero_le _, Nat.zero_le _⟩ (fun H locs hW => ?_)
        obtain ⟨x5_18, e, hE⟩ := lt_some hE
        refine lv_iinc (v := x5_18) (lv' := [(5, .int x5_18), (0, .ref (ad 6)), (1, .int x1), (2, .int x2), (3, .int x3), (4, .int x4)]) hx hb dX0_exchangeAt_79 hl (k := 5) rfl (by rw [e]; rfl) (by decide) rfl (fun ls hl => ?_)
        refine lv_goto (tgt := 61) hx hb dX0_exchangeAt_82 (by decide) ?_
        exact ih st_16 x1 x2 x3 x4 x5_18 _ _ _ _ hE hW (lv_sub hl [1, 2, 3, 4, 5, 0] rfl) kx
  have L88 : ∀ (n : Nat) (st : St) (x1 : Int32) (x2 : Int32) (x3 : Int32) (x4 : Int32) (x5 : Int32)  (stz : St) (H : Heap) (locs : List Loc) (ls : Array Slot), sX0_exchangeAt_L88 n st x1 x2 x3 x4 x5 = some stz → WW D ks ad (AA ad sz) s st H locs → lv_has ls 6 [(0, .ref (ad 6)), (1, .int x1), (2, .int x2), (3, .int x3), (4, .int x4), (5, .int x5)] → (∀ (H : Heap) (locs : List Loc) (ls : Array Slot), WW D ks ad (AA ad sz) s stz H locs → lv_has ls 6 [(0, .ref (ad 6)), (1, .int x1), (2, .int x2), (3, .int x3), (4, .int x4)] → W p l e (headSpec wsX0_exchangeAt rmX0_exchangeAt).room s m args below meth c H locs 0 0 (MQ below (va_Qv (fun (u : St) => u = st') (QW D ks ad sz) (AA ad sz)) args s 0 0 (AA ad sz)) (F0 m 127 ls [])) → W p l e (headSpec wsX0_exchangeAt rmX0_exchangeAt).room s m args below meth c H locs 0 0 (MQ below (va_Qv (fun (u : St) => u = st') (QW D ks ad sz) (AA ad sz)) args s 0 0 (AA ad sz)) (F0 m 88 ls []) := by
    intro n
    induction n with
    | zero =>
      intro st x1 x2 x3 x4 x5 stz H locs ls hE hW hl kx
      exact none_x hE
    | succ n ih =>
      intro st x1 x2 x3 x4 x5 stz H locs ls hE hW hl kx
      rw [sX0_exchangeAt_L88] at hE
      refine lv_iload hx hb dX0_exchangeAt_88 (lv_at hl 5 rfl) ?_
      refine lv_iload_n hx hb dX0_exchangeAt_90 rfl (lv_at hl 3 rfl) ?_
      refine lv_icmp_ge (tgt := 127) hx hb dX0_exchangeAt_91 (by decide) (fun c_20 => ?_) (fun c_20 => ?_)
      · have hE := if_t c_20 hE
        obtain rfl := some_x hE
        exact kx _ _ _ hW (lv_sub hl [0, 1, 2, 3, 4] rfl)
      · have hE := if_f c_20 hE
        refine lv_aload_n hx hb dX0_exchangeAt_94 rfl (lv_at hl 0 rfl) ?_
        refine lv_aload_n hx hb dX0_exchangeAt_95 rfl (lv_at hl 0 rfl) ?_
        refine ww_get (C := RX0) (T := TX0) (N := 17) (ref := RX0) (ci := 0) (v := .ref (ad (ic 15))) hx hb hts hin0 hown hW 6 (by decide) rfl rfl 11 (by decide) hf45 (fun _ h9 => h9) rfl dX0_exchangeAt_96 ?_
        refine lv_iload hx hb dX0_exchangeAt_99 (lv_at hl 5 rfl) ?_
        obtain ⟨hin, hE⟩ := gd_some hE
        refine ww_iald hx hb hW 15 (by decide) hin dX0_exchangeAt_101 ?_
        obtain ⟨r_22, hc_21, hE⟩ := ob_some hE
        refine ww_callVi (As := [.int (gI 15 st x5)]) (rest := []) ⟨hx, hb, hml, hown, hts⟩ hW (ctX0_levelAt l D ks ad _ st (gI 15 st x5) hc_21) (cwV 1 hts gX0_exchangeAt_X0_levelAt rfl rfl rfl (by decide +kernel) ⟨Nat.le_of_ble_eq_true rfl, Nat.le_of_ble_eq_true rfl⟩) hW.recvD rfl hl.1 rfl (Nat.le_of_ble_eq_true rfl) dX0_exchangeAt_102 ⟨Nat.zero_le _, Nat.zero_le _⟩ (fun H locs hW => ?_)
        refine lv_iload_n hx hb dX0_exchangeAt_105 rfl (lv_at hl 1 rfl) ?_
        refine lv_icmp_ne (tgt := 121) hx hb dX0_exchangeAt_106 (by decide) (fun c_23 => ?_) (fun c_23 => ?_)
        · have hE := if_t c_23 hE
          obtain ⟨x5_24, e, hE⟩ := lt_some hE
          refine lv_iinc (v := x5_24) (lv' := [(5, .int x5_24), (0, .ref (ad 6)), (1, .int x1), (2, .int x2), (3, .int x3), (4, .int x4)]) hx hb dX0_exchangeAt_121 hl (k := 5) rfl (by rw [e]; rfl) (by decide) rfl (fun ls hl => ?_)
          refine lv_goto (tgt := 88) hx hb dX0_exchangeAt_124 (by decide) ?_
          exact ih st x1 x2 x3 x4 x5_24 _ _ _ _ hE hW (lv_sub hl [1, 2, 3, 4, 5, 0] rfl) kx
        · have hE := if_f (fun q => q c_23) hE
          refine lv_aload_n hx hb dX0_exchangeAt_109 rfl (lv_at hl 0 rfl) ?_
          refine lv_aload_n hx hb dX0_exchangeAt_110 rfl (lv_at hl 0 rfl) ?_
          refine ww_get (C := RX0) (T := TX0) (N := 17) (ref := RX0) (ci := 0) (v := .ref (ad (ic 15))) hx hb hts hin0 hown hW 6 (by decide) rfl rfl 11 (by decide) hf45 (fun _ h9 => h9) rfl dX0_exchangeAt_111 ?_
          refine lv_iload hx hb dX0_exchangeAt_114 (lv_at hl 5 rfl) ?_
          obtain ⟨hin, hE⟩ := gd_some hE
          refine ww_iald hx hb hW 15 (by decide) hin dX0_exchangeAt_116 ?_
          refine lv_iload_n hx hb dX0_exchangeAt_117 rfl (lv_at hl 1 rfl) ?_
          obtain ⟨st_25, hc_26, hE⟩ := ob_some hE
          refine ww_callVv (As := [.int (gI 15 st x5), .int x1]) (rest := []) ⟨hx, hb, hml, hown, hts⟩ hW (ctX0_turn l D ks ad _ st (gI 15 st x5) x1 hc_26) (cwV 2 hts gX0_exchangeAt_X0_turn rfl rfl rfl (by decide +kernel) ⟨Nat.le_of_ble_eq_true rfl, Nat.le_of_ble_eq_true rfl⟩) hW.recvD rfl hl.1 rfl (Nat.le_of_ble_eq_true rfl) dX0_exchangeAt_118 ⟨Nat.zero_le _, Nat.zero_le _⟩ (fun H locs hW => ?_)
          obtain ⟨x5_27, e, hE⟩ := lt_some hE
          refine lv_iinc (v := x5_27) (lv' := [(5, .int x5_27), (0, .ref (ad 6)), (1, .int x1), (2, .int x2), (3, .int x3), (4, .int x4)]) hx hb dX0_exchangeAt_121 hl (k := 5) rfl (by rw [e]; rfl) (by decide) rfl (fun ls hl => ?_)
          refine lv_goto (tgt := 88) hx hb dX0_exchangeAt_124 (by decide) ?_
          exact ih st_25 x1 x2 x3 x4 x5_27 _ _ _ _ hE hW (lv_sub hl [1, 2, 3, 4, 5, 0] rfl) kx
  have L130 : ∀ (n : Nat) (st : St) (x1 : Int32) (x2 : Int32) (x4 : Int32) (x5 : Int32)  (stz : St) (H : Heap) (locs : List Loc) (ls : Array Slot), sX0_exchangeAt_L130 n st x1 x2 x4 x5 = some stz → WW D ks ad (AA ad sz) s st H locs → lv_has ls 6 [(0, .ref (ad 6)), (1, .int x1), (2, .int x2), (4, .int x4), (5, .int x5)] → (∀ (H : Heap) (locs : List Loc) (ls : Array Slot), WW D ks ad (AA ad sz) s stz H locs → lv_has ls 6 [(0, .ref (ad 6)), (1, .int x1), (2, .int x2)] → W p l e (headSpec wsX0_exchangeAt rmX0_exchangeAt).room s m args below meth c H locs 0 0 (MQ below (va_Qv (fun (u : St) => u = st') (QW D ks ad sz) (AA ad sz)) args s 0 0 (AA ad sz)) (F0 m 155 ls [])) → W p l e (headSpec wsX0_exchangeAt rmX0_exchangeAt).room s m args below meth c H locs 0 0 (MQ below (va_Qv (fun (u : St) => u = st') (QW D ks ad sz) (AA ad sz)) args s 0 0 (AA ad sz)) (F0 m 130 ls []) := by
    intro n
    induction n with
    | zero =>
      intro st x1 x2 x4 x5 stz H locs ls hE hW hl kx
      exact none_x hE
    | succ n ih =>
      intro st x1 x2 x4 x5 stz H locs ls hE hW hl kx
      rw [sX0_exchangeAt_L130] at hE
      refine lv_iload hx hb dX0_exchangeAt_130 (lv_at hl 4 rfl) ?_
      refine lv_iload hx hb dX0_exchangeAt_132 (lv_at hl 3 rfl) ?_
      refine lv_icmp_ge (tgt := 155) hx hb dX0_exchangeAt_134 (by decide) (fun c_29 => ?_) (fun c_29 => ?_)
      · have hE := if_t c_29 hE
        obtain rfl := some_x hE
        exact kx _ _ _ hW (lv_sub hl [0, 1, 2] rfl)
      · have hE := if_f c_29 hE
        refine lv_aload_n hx hb dX0_exchangeAt_137 rfl (lv_at hl 0 rfl) ?_
        refine lv_aload_n hx hb dX0_exchangeAt_138 rfl (lv_at hl 0 rfl) ?_
        refine ww_get (C := RX0) (T := TX0) (N := 17) (ref := RX0) (ci := 0) (v := .ref (ad (ic 15))) hx hb hts hin0 hown hW 6 (by decide) rfl rfl 11 (by decide) hf45 (fun _ h9 => h9) rfl dX0_exchangeAt_139 ?_
        refine lv_iload hx hb dX0_exchangeAt_142 (lv_at hl 4 rfl) ?_
        obtain ⟨hin, hE⟩ := gd_some hE
        refine ww_iald hx hb hW 15 (by decide) hin dX0_exchangeAt_144 ?_
        refine lv_iconst (v := 0) hx hb dX0_exchangeAt_145 (by decide) ?_
        obtain ⟨st_30, hc_31, hE⟩ := ob_some hE
        refine ww_callSv (As := [.ref (ad 6), .int (gI 15 st x5), .int (0 : Int32)]) (rest := []) ⟨hx, hb, hml, hown, hts⟩ hW (ctX0_drop l D ks ad _ 12 st (gI 15 st x5) (0 : Int32) _ hc_31) (va_cwS 3 hts gX0_exchangeAt_X0_drop rfl rfl rfl (by decide +kernel) ⟨Nat.le_of_ble_eq_true rfl, Nat.le_of_ble_eq_true rfl⟩) rfl hl.1 rfl (Nat.le_of_ble_eq_true rfl) dX0_exchangeAt_146 ⟨Nat.zero_le _, Nat.zero_le _⟩ (fun H locs hW => ?_)
        obtain ⟨x5_32, e, hE⟩ := lt_some hE
        refine lv_iinc (v := x5_32) (lv' := [(5, .int x5_32), (0, .ref (ad 6)), (1, .int x1), (2, .int x2), (4, .int x4)]) hx hb dX0_exchangeAt_149 hl (k := 4) rfl (by rw [e]; rfl) (by decide) rfl (fun ls hl => ?_)
        refine lv_goto (tgt := 130) hx hb dX0_exchangeAt_152 (by decide) ?_
        exact ih st_30 x1 x2 x4 x5_32 _ _ _ _ hE hW (lv_sub hl [1, 2, 3, 4, 0] rfl) kx
  refine lv_iload_n hx hb dX0_exchangeAt_0 rfl (lv_at hl 1 rfl) ?_
  refine lv_iconst (v := 1) hx hb dX0_exchangeAt_1 (by decide) ?_
  refine lv_iadd hx hb dX0_exchangeAt_2 ?_
  obtain ⟨x2_1, e, hE⟩ := lt_some hE
  refine lv_nmi e ?_
  refine lv_istore_n (lv' := [(2, .int x2_1), (0, .ref (ad 6)), (1, .int x1)]) hx hb dX0_exchangeAt_3 rfl hl (by decide) rfl (fun ls hl => ?_)
  refine lv_iload_n hx hb dX0_exchangeAt_4 rfl (lv_at hl 2 rfl) ?_
  refine lv_if_lt (tgt := 14) hx hb dX0_exchangeAt_5 (by decide) (fun c_2 => ?_) (fun c_2 => ?_)
  · have hE := if_t c_2 hE
    obtain rfl := some_x hE
    exact W.vret hx hb hr (fun t ht hWm => hW.qv ht hWm) hW.2.2.1.2.2 dX0_exchangeAt_14
  · have hE := if_f c_2 hE
    refine lv_iload_n hx hb dX0_exchangeAt_8 rfl (lv_at hl 0 rfl) ?_
    refine lv_bipush (v := 10) hx hb dX0_exchangeAt_9 (by decide) ?_
    refine lv_icmp_lt (tgt := 15) hx hb dX0_exchangeAt_11 (by decide) (fun c_3 => ?_) (fun c_3 => ?_)
    · have hE := if_t c_3 hE
      refine lv_aload_n hx hb dX0_exchangeAt_15 rfl (lv_at hl 1 rfl) ?_
      refine lv_iload_n hx hb dX0_exchangeAt_16 rfl (lv_at hl 2 rfl) ?_
      refine lv_iconst (v := 0) hx hb dX0_exchangeAt_17 (by decide) ?_
      obtain ⟨r_6, st_4, hc_5, hE⟩ := ob2_some hE
      refine ww_callVi (As := [.int x1, .int (0 : Int32)]) (rest := []) ⟨hx, hb, hml, hown, hts⟩ hW (ctX0_takeAll l D ks ad _ st x1 (0 : Int32) hc_5) (cwV 2 hts gX0_exchangeAt_X0_takeAll rfl rfl rfl (by decide +kernel) ⟨Nat.le_of_ble_eq_true rfl, Nat.le_of_ble_eq_true rfl⟩) hW.recvD rfl hl.1 rfl (Nat.le_of_ble_eq_true rfl) dX0_exchangeAt_18 ⟨Nat.zero_le _, Nat.zero_le _⟩ (fun H locs hW => ?_)
      refine lv_istore_n (lv' := [(3, .int r_6), (2, .int x2_1), (0, .ref (ad 6)), (1, .int x1)]) hx hb dX0_exchangeAt_21 rfl hl (by decide) rfl (fun ls hl => ?_)
      refine lv_aload_n hx hb dX0_exchangeAt_22 rfl (lv_at hl 2 rfl) ?_
      refine lv_iload_n hx hb dX0_exchangeAt_23 rfl (lv_at hl 1 rfl) ?_
      refine lv_iload_n hx hb dX0_exchangeAt_24 rfl (lv_at hl 0 rfl) ?_
      obtain ⟨r_9, st_7, hc_8, hE⟩ := ob2_some hE
      refine ww_callVi (As := [.int x2_1, .int r_6]) (rest := []) ⟨hx, hb, hml, hown, hts⟩ hW (ctX0_takeAll l D ks ad _ st_4 x2_1 r_6 hc_8) (cwV 2 hts gX0_exchangeAt_X0_takeAll rfl rfl rfl (by decide +kernel) ⟨Nat.le_of_ble_eq_true rfl, Nat.le_of_ble_eq_true rfl⟩) hW.recvD rfl hl.1 rfl (Nat.le_of_ble_eq_true rfl) dX0_exchangeAt_25 ⟨Nat.zero_le _, Nat.zero_le _⟩ (fun H locs hW => ?_)
      refine lv_istore (lv' := [(4, .int r_9), (3, .int r_6), (2, .int x2_1), (0, .ref (ad 6)), (1, .int x1)]) hx hb dX0_exchangeAt_28 hl (by decide) rfl (fun ls hl => ?_)
      refine lv_iload_n hx hb dX0_exchangeAt_30 rfl (lv_at hl 1 rfl) ?_
      refine lv_istore (lv' := [(5, .int r_6), (4, .int r_9), (3, .int r_6), (2, .int x2_1), (0, .ref (ad 6)), (1, .int x1)]) hx hb dX0_exchangeAt_31 hl (by decide) rfl (fun ls hl => ?_)
      obtain ⟨st_14, hz, hE⟩ := ob_some hE
      refine L33 FU st_7 x1 x2_1 r_6 r_9 r_6 st_14 _ _ _ hz hW (lv_sub hl [4, 5, 3, 2, 1, 0] rfl) (fun H locs ls hW hl => ?_)
      refine lv_iconst (v := 0) hx hb dX0_exchangeAt_58 (by decide) ?_
      refine lv_istore (lv' := [(5, .int (0 : Int32)), (0, .ref (ad 6)), (1, .int x1), (2, .int x2_1), (3, .int r_6), (4, .int r_9)]) hx hb dX0_exchangeAt_59 hl (by decide) rfl (fun ls hl => ?_)
      obtain ⟨st_19, hz, hE⟩ := ob_some hE
      refine L61 FU st_14 x1 x2_1 r_6 r_9 (0 : Int32) st_19 _ _ _ hz hW (lv_sub hl [1, 2, 3, 4, 5, 0] rfl) (fun H locs ls hW hl => ?_)
      refine lv_iconst (v := 0) hx hb dX0_exchangeAt_85 (by decide) ?_
      refine lv_istore (lv' := [(5, .int (0 : Int32)), (0, .ref (ad 6)), (1, .int x1), (2, .int x2_1), (3, .int r_6), (4, .int r_9)]) hx hb dX0_exchangeAt_86 hl (by decide) rfl (fun ls hl => ?_)
      obtain ⟨st_28, hz, hE⟩ := ob_some hE
      refine L88 FU st_19 x1 x2_1 r_6 r_9 (0 : Int32) st_28 _ _ _ hz hW (lv_sub hl [1, 2, 3, 4, 5, 0] rfl) (fun H locs ls hW hl => ?_)
      refine lv_iload_n hx hb dX0_exchangeAt_127 rfl (lv_at hl 3 rfl) ?_
      refine lv_istore (lv' := [(5, .int r_6), (0, .ref (ad 6)), (1, .int x1), (2, .int x2_1), (3, .int r_6), (4, .int r_9)]) hx hb dX0_exchangeAt_128 hl (by decide) rfl (fun ls hl => ?_)
      obtain ⟨st_33, hz, hE⟩ := ob_some hE
      refine L130 FU st_28 x1 x2_1 r_9 r_6 st_33 _ _ _ hz hW (lv_sub hl [1, 2, 3, 5, 0] rfl) (fun H locs ls hW hl => ?_)
      refine lv_aload_n hx hb dX0_exchangeAt_155 rfl (lv_at hl 0 rfl) ?_
      refine ww_get (C := RX0) (T := TX0) (N := 17) (ref := RX0) (ci := 0) (v := .ref (ad (ic 4))) hx hb hts hin0 hown hW 6 (by decide) rfl rfl 0 (by decide) hf9 (fun _ h9 => h9) rfl dX0_exchangeAt_156 ?_
      refine lv_iload_n hx hb dX0_exchangeAt_159 rfl (lv_at hl 1 rfl) ?_
      obtain ⟨hin, hE⟩ := gd_some hE
      refine ww_iald hx hb hW 4 (by decide) hin dX0_exchangeAt_160 ?_
      obtain ⟨x5_34, e, hE⟩ := lt_some hE
      refine lv_nmi e ?_
      refine lv_istore (lv' := [(5, .int x5_34), (0, .ref (ad 6)), (1, .int x1), (2, .int x2_1)]) hx hb dX0_exchangeAt_161 hl (by decide) rfl (fun ls hl => ?_)
      refine lv_aload_n hx hb dX0_exchangeAt_163 rfl (lv_at hl 1 rfl) ?_
      refine ww_get (C := RX0) (T := TX0) (N := 17) (ref := RX0) (ci := 0) (v := .ref (ad (ic 4))) hx hb hts hin0 hown hW 6 (by decide) rfl rfl 0 (by decide) hf9 (fun _ h9 => h9) rfl dX0_exchangeAt_164 ?_
      refine lv_iload_n hx hb dX0_exchangeAt_167 rfl (lv_at hl 2 rfl) ?_
      refine lv_aload_n hx hb dX0_exchangeAt_168 rfl (lv_at hl 1 rfl) ?_
      refine ww_get (C := RX0) (T := TX0) (N := 17) (ref := RX0) (ci := 0) (v := .ref (ad (ic 4))) hx hb hts hin0 hown hW 6 (by decide) rfl rfl 0 (by decide) hf9 (fun _ h9 => h9) rfl dX0_exchangeAt_169 ?_
      refine lv_iload_n hx hb dX0_exchangeAt_172 rfl (lv_at hl 3 rfl) ?_
      obtain ⟨hin, hE⟩ := gd_some hE
      refine ww_iald hx hb hW 4 (by decide) hin dX0_exchangeAt_173 ?_
      obtain ⟨hin, hE⟩ := gd_some hE
      obtain ⟨st_35, est, hE⟩ := lt_some hE
      refine ww_iast hx hb hW 4 (by decide) hin est dX0_exchangeAt_174 (fun H locs hW => ?_)
      refine lv_aload_n hx hb dX0_exchangeAt_175 rfl (lv_at hl 1 rfl) ?_
      refine ww_get (C := RX0) (T := TX0) (N := 17) (ref := RX0) (ci := 0) (v := .ref (ad (ic 4))) hx hb hts hin0 hown hW 6 (by decide) rfl rfl 0 (by decide) hf9 (fun _ h9 => h9) rfl dX0_exchangeAt_176 ?_
      refine lv_iload_n hx hb dX0_exchangeAt_179 rfl (lv_at hl 3 rfl) ?_
      refine lv_iload hx hb dX0_exchangeAt_180 (lv_at hl 0 rfl) ?_
      obtain ⟨hin, hE⟩ := gd_some hE
      obtain ⟨st_36, est, hE⟩ := lt_some hE
      refine ww_iast hx hb hW 4 (by decide) hin est dX0_exchangeAt_182 (fun H locs hW => ?_)
      obtain rfl := some_x hE
      exact W.vret hx hb hr (fun t ht hWm => hW.qv ht hWm) hW.2.2.1.2.2 dX0_exchangeAt_183
    · have hE := if_f c_3 hE
      obtain rfl := some_x hE
      exact W.vret hx hb hr (fun t ht hWm => hW.qv ht hWm) hW.2.2.1.2.2 dX0_exchangeAt_14
abbrev rmX0_lift : Room := { frames := 17, cells := 0, slots := 0, locals := 385 }
set_option maxHeartbeats 4000000 in
set_option maxRecDepth 100000 in
theorem ctX0_lift (l : Launch) (D : va_G) (ks : KA) (ad : Nat → Nat) (sz : Nat) (st : St) (x1 : Int32) (x2 : Int32)  {st' : St} (hE : sX0_lift st x1 x2 = some st') : CV l D ks yX0_lift wsX0_lift rmX0_lift [.ref (ad 6), .int x1, .int x2] ad sz st st' := by
  unfold sX0_lift at hE
  refine Met.ofW (cc := cX0_lift) (maxL := 4) (ret := none) (by decide) rfl ?_
  intro p e s m args below meth c s₁ B hml hv
  obtain ⟨hargs, hPW⟩ := hv
  have hW := WW.entry hPW
  have hx := B.exec
  have hb := B.bytes
  have hr := B.returns
  have hts := atoms_spec (ws := wsX0_lift) B.pre
  have hown : s.vm.findClass RX0 = some m.cls := findClass_of_methodNamed B.named
  have hlocks := B.notSynchronized
  have hl := lv_entry ([.ref (ad 6), .int x1, .int x2]) (n := 4) (Nat.le_of_ble_eq_true rfl)
  have hfr : entryFrame m args 4 = F0 m 0 (lg_sl ([.ref (ad 6), .int x1, .int x2]) ++ List.replicate (4 - (lg_sl ([.ref (ad 6), .int x1, .int x2])).length) Slot.unset).toArray [] := by rw [hargs, lg_entry_eq]
  rw [hfr]
  generalize (lg_sl ([.ref (ad 6), .int x1, .int x2]) ++ List.replicate (4 - (lg_sl ([.ref (ad 6), .int x1, .int x2])).length) Slot.unset).toArray = ls at hl ⊢
  have hl : lv_has ls 4 [(0, .ref (ad 6)), (1, .int x1), (2, .int x2)] := hl
  have L6 : ∀ (n : Nat) (st : St) (x2 : Int32) (x3 : Int32)  (stz : St) (H : Heap) (locs : List Loc) (ls : Array Slot), sX0_lift_L6 n st x2 x3 = some stz → WW D ks ad (AA ad sz) s st H locs → lv_has ls 4 [(0, .ref (ad 6)), (2, .int x2), (3, .int x3)] → (∀ (H : Heap) (locs : List Loc) (ls : Array Slot), WW D ks ad (AA ad sz) s stz H locs → lv_has ls 4 [] → W p l e (headSpec wsX0_lift rmX0_lift).room s m args below meth c H locs 0 0 (MQ below (va_Qv (fun (u : St) => u = st') (QW D ks ad sz) (AA ad sz)) args s 0 0 (AA ad sz)) (F0 m 28 ls [])) → W p l e (headSpec wsX0_lift rmX0_lift).room s m args below meth c H locs 0 0 (MQ below (va_Qv (fun (u : St) => u = st') (QW D ks ad sz) (AA ad sz)) args s 0 0 (AA ad sz)) (F0 m 6 ls []) := by
    intro n
    induction n with
    | zero =>
      intro st x2 x3 stz H locs ls hE hW hl kx
      exact none_x hE
    | succ n ih =>
      intro st x2 x3 stz H locs ls hE hW hl kx
      rw [sX0_lift_L6] at hE
      refine lv_iload_n hx hb dX0_lift_6 rfl (lv_at hl 2 rfl) ?_
      refine lv_iload_n hx hb dX0_lift_7 rfl (lv_at hl 1 rfl) ?_
      refine lv_icmp_le (tgt := 28) hx hb dX0_lift_8 (by decide) (fun c_3 => ?_) (fun c_3 => ?_)
      · have hE := if_t c_3 hE
        obtain rfl := some_x hE
        exact kx _ _ _ hW (lv_sub hl [] rfl)
      · have hE := if_f c_3 hE
        refine lv_iload_n hx hb dX0_lift_11 rfl (lv_at hl 2 rfl) ?_
        refine lv_if_le (tgt := 28) hx hb dX0_lift_12 (by decide) (fun c_4 => ?_) (fun c_4 => ?_)
        · have hE := if_t c_4 hE
          obtain rfl := some_x hE
          exact kx _ _ _ hW (lv_sub hl [] rfl)
        · have hE := if_f c_4 hE
          refine lv_aload_n hx hb dX0_lift_15 rfl (lv_at hl 0 rfl) ?_
          refine lv_iload_n hx hb dX0_lift_16 rfl (lv_at hl 2 rfl) ?_
          refine lv_iconst (v := 1) hx hb dX0_lift_17 (by decide) ?_
          refine lv_isub hx hb dX0_lift_18 ?_
          obtain ⟨st_5, hc_6, hE⟩ := ob_some hE
          refine ww_callVv (As := [.int (x3 - (1 : Int32))]) (rest := []) ⟨hx, hb, hml, hown, hts⟩ hW (ctX0_exchangeAt l D ks ad _ st (x3 - (1 : Int32)) hc_6) (cwV 1 hts gX0_lift_X0_exchangeAt rfl rfl rfl (by decide +kernel) ⟨Nat.le_of_ble_eq_true rfl, Nat.le_of_ble_eq_true rfl⟩) hW.recvD rfl hl.1 rfl (Nat.le_of_ble_eq_true rfl) dX0_lift_19 ⟨Nat.zero_le _, Nat.zero_le _⟩ (fun H locs hW => ?_)
          obtain ⟨x3_7, e, hE⟩ := lt_some hE
          refine lv_iinc (v := x3_7) (lv' := [(3, .int x3_7), (0, .ref (ad 6)), (2, .int x2)]) hx hb dX0_lift_22 hl (k := 2) rfl (by rw [e]; rfl) (by decide) rfl (fun ls hl => ?_)
          refine lv_goto (tgt := 6) hx hb dX0_lift_25 (by decide) ?_
          exact ih st_5 x2 x3_7 _ _ _ _ hE hW (lv_sub hl [1, 2, 0] rfl) kx
  refine lv_aload_n hx hb dX0_lift_0 rfl (lv_at hl 0 rfl) ?_
  refine lv_iload_n hx hb dX0_lift_1 rfl (lv_at hl 1 rfl) ?_
  obtain ⟨r_2, hc_1, hE⟩ := ob_some hE
  refine ww_callVi (As := [.int x1]) (rest := []) ⟨hx, hb, hml, hown, hts⟩ hW (ctX0_levelOf l D ks ad _ st x1 hc_1) (cwV 1 hts gX0_lift_X0_levelOf rfl rfl rfl (by decide +kernel) ⟨Nat.le_of_ble_eq_true rfl, Nat.le_of_ble_eq_true rfl⟩) hW.recvD rfl hl.1 rfl (Nat.le_of_ble_eq_true rfl) dX0_lift_2 ⟨Nat.zero_le _, Nat.zero_le _⟩ (fun H locs hW => ?_)
  refine lv_istore_n (lv' := [(3, .int r_2), (0, .ref (ad 6)), (1, .int x1), (2, .int x2)]) hx hb dX0_lift_5 rfl hl (by decide) rfl (fun ls hl => ?_)
  obtain ⟨st_8, hz, hE⟩ := ob_some hE
  refine L6 FU st x2 r_2 st_8 _ _ _ hz hW (lv_sub hl [1, 3, 0] rfl) (fun H locs ls hW hl => ?_)
  obtain rfl := some_x hE
  exact W.vret hx hb hr (fun t ht hWm => hW.qv ht hWm) hW.2.2.1.2.2 dX0_lift_28
abbrev rmX0_walk : Room := { frames := 17, cells := 0, slots := 0, locals := 385 }
set_option maxRecDepth 100000 in
theorem in0_X0_walk : ∀ w ∈ wsX00, w ∈ wsX0_walk := by decide +kernel
set_option maxHeartbeats 4000000 in
set_option maxRecDepth 100000 in
theorem ctX0_walk (l : Launch) (D : va_G) (ks : KA) (ad : Nat → Nat) (sz : Nat) (st : St)   {r : Int32} {st' : St} (hE : sX0_walk st  = some (r, st')) : CI l D ks yX0_walk wsX0_walk rmX0_walk [.ref (ad 6)] ad sz st r st' := by
  unfold sX0_walk at hE
  refine Met.ofW (cc := cX0_walk) (maxL := 4) (ret := (some .int)) (by decide) rfl ?_
  intro p e s m args below meth c s₁ B hml hv
  obtain ⟨hargs, hPW⟩ := hv
  have hW := WW.entry hPW
  have hx := B.exec
  have hb := B.bytes
  have hr := B.returns
  have hts := atoms_spec (ws := wsX0_walk) B.pre
  have hown : s.vm.findClass RX0 = some m.cls := findClass_of_methodNamed B.named
  have hlocks := B.notSynchronized
  have hin0 : ∀ w ∈ u_ws RX0 TX0 17, w ∈ wsX0_walk := in0_X0_walk
  have hf55 := hts (.fieldLink RX0 55 "Trellis$Diagram" "nodes" "I") (by decide +kernel)
  have hl := lv_entry ([.ref (ad 6)]) (n := 4) (Nat.le_of_ble_eq_true rfl)
  have hfr : entryFrame m args 4 = F0 m 0 (lg_sl ([.ref (ad 6)]) ++ List.replicate (4 - (lg_sl ([.ref (ad 6)])).length) Slot.unset).toArray [] := by rw [hargs, lg_entry_eq]
  rw [hfr]
  generalize (lg_sl ([.ref (ad 6)]) ++ List.replicate (4 - (lg_sl ([.ref (ad 6)])).length) Slot.unset).toArray = ls at hl ⊢
  have hl : lv_has ls 4 [(0, .ref (ad 6))] := hl
  have L8 : ∀ (n : Nat) (st : St) (x1 : Int32) (x2 : Int32) (x3 : Int32)  (stz : St) (z1 : Int32) (H : Heap) (locs : List Loc) (ls : Array Slot), sX0_walk_L8 n st x1 x2 x3 = some (stz, z1) → WW D ks ad (AA ad sz) s st H locs → lv_has ls 4 [(0, .ref (ad 6)), (1, .int x1), (2, .int x2), (3, .int x3)] → (∀ (H : Heap) (locs : List Loc) (ls : Array Slot), WW D ks ad (AA ad sz) s stz H locs → lv_has ls 4 [(1, .int z1)] → W p l e (headSpec wsX0_walk rmX0_walk).room s m args below meth c H locs 0 0 (MQ below (va_Qi (fun (x : Int32) (u : St) => x = r ∧ u = st') (QW D ks ad sz) (AA ad sz)) args s 0 0 (AA ad sz)) (F0 m 40 ls [])) → W p l e (headSpec wsX0_walk rmX0_walk).room s m args below meth c H locs 0 0 (MQ below (va_Qi (fun (x : Int32) (u : St) => x = r ∧ u = st') (QW D ks ad sz) (AA ad sz)) args s 0 0 (AA ad sz)) (F0 m 8 ls []) := by
    intro n
    induction n with
    | zero =>
      intro st x1 x2 x3 stz z1 H locs ls hE hW hl kx
      exact none_x hE
    | succ n ih =>
      intro st x1 x2 x3 stz z1 H locs ls hE hW hl kx
      rw [sX0_walk_L8] at hE
      refine lv_iload_n hx hb dX0_walk_8 rfl (lv_at hl 3 rfl) ?_
      refine lv_bipush (v := 10) hx hb dX0_walk_9 (by decide) ?_
      refine lv_icmp_ge (tgt := 40) hx hb dX0_walk_11 (by decide) (fun c_1 => ?_) (fun c_1 => ?_)
      · have hE := if_t c_1 hE
        obtain ⟨rfl, rfl⟩ := tup2_x hE
        exact kx _ _ _ hW (lv_sub hl [1] rfl)
      · have hE := if_f c_1 hE
        refine lv_aload_n hx hb dX0_walk_14 rfl (lv_at hl 0 rfl) ?_
        refine ww_get (C := RX0) (T := TX0) (N := 17) (ref := RX0) (ci := 0) (v := .int (gF 1 st)) hx hb hts hin0 hown hW 6 (by decide) rfl rfl 14 (by decide) hf55 (fun _ h9 => h9) rfl dX0_walk_15 ?_
        refine lv_iload_n hx hb dX0_walk_18 rfl (lv_at hl 2 rfl) ?_
        refine lv_icmp_ge (tgt := 29) hx hb dX0_walk_19 (by decide) (fun c_2 => ?_) (fun c_2 => ?_)
        · have hE := if_t c_2 hE
          refine lv_aload_n hx hb dX0_walk_29 rfl (lv_at hl 0 rfl) ?_
          refine lv_iload_n hx hb dX0_walk_30 rfl (lv_at hl 3 rfl) ?_
          obtain ⟨st_3, hc_4, hE⟩ := ob_some hE
          refine ww_callVv (As := [.int x3]) (rest := []) ⟨hx, hb, hml, hown, hts⟩ hW (ctX0_exchangeAt l D ks ad _ st x3 hc_4) (cwV 1 hts gX0_walk_X0_exchangeAt rfl rfl rfl (by decide +kernel) ⟨Nat.le_of_ble_eq_true rfl, Nat.le_of_ble_eq_true rfl⟩) hW.recvD rfl hl.1 rfl (Nat.le_of_ble_eq_true rfl) dX0_walk_31 ⟨Nat.zero_le _, Nat.zero_le _⟩ (fun H locs hW => ?_)
          obtain ⟨x3_5, e, hE⟩ := lt_some hE
          refine lv_iinc (v := x3_5) (lv' := [(3, .int x3_5), (0, .ref (ad 6)), (1, .int x1), (2, .int x2)]) hx hb dX0_walk_34 hl (k := 3) rfl (by rw [e]; rfl) (by decide) rfl (fun ls hl => ?_)
          refine lv_goto (tgt := 8) hx hb dX0_walk_37 (by decide) ?_
          exact ih st_3 x1 x2 x3_5 _ _ _ _ _ hE hW (lv_sub hl [1, 2, 3, 0] rfl) kx
        · have hE := if_f c_2 hE
          refine lv_aload_n hx hb dX0_walk_22 rfl (lv_at hl 0 rfl) ?_
          refine ww_get (C := RX0) (T := TX0) (N := 17) (ref := RX0) (ci := 0) (v := .int (gF 1 st)) hx hb hts hin0 hown hW 6 (by decide) rfl rfl 14 (by decide) hf55 (fun _ h9 => h9) rfl dX0_walk_23 ?_
          obtain ⟨x2_6, e, hE⟩ := lt_some hE
          refine lv_nmi e ?_
          refine lv_istore_n (lv' := [(2, .int x2_6), (0, .ref (ad 6)), (1, .int x1), (3, .int x3)]) hx hb dX0_walk_26 rfl hl (by decide) rfl (fun ls hl => ?_)
          refine lv_iload_n hx hb dX0_walk_27 rfl (lv_at hl 3 rfl) ?_
          refine lv_istore_n (lv' := [(1, .int x3), (2, .int x2_6), (0, .ref (ad 6)), (3, .int x3)]) hx hb dX0_walk_28 rfl hl (by decide) rfl (fun ls hl => ?_)
          refine lv_aload_n hx hb dX0_walk_29 rfl (lv_at hl 2 rfl) ?_
          refine lv_iload_n hx hb dX0_walk_30 rfl (lv_at hl 3 rfl) ?_
          obtain ⟨st_7, hc_8, hE⟩ := ob_some hE
          refine ww_callVv (As := [.int x3]) (rest := []) ⟨hx, hb, hml, hown, hts⟩ hW (ctX0_exchangeAt l D ks ad _ st x3 hc_8) (cwV 1 hts gX0_walk_X0_exchangeAt rfl rfl rfl (by decide +kernel) ⟨Nat.le_of_ble_eq_true rfl, Nat.le_of_ble_eq_true rfl⟩) hW.recvD rfl hl.1 rfl (Nat.le_of_ble_eq_true rfl) dX0_walk_31 ⟨Nat.zero_le _, Nat.zero_le _⟩ (fun H locs hW => ?_)
          obtain ⟨x3_9, e, hE⟩ := lt_some hE
          refine lv_iinc (v := x3_9) (lv' := [(3, .int x3_9), (1, .int x3), (2, .int x2_6), (0, .ref (ad 6))]) hx hb dX0_walk_34 hl (k := 3) rfl (by rw [e]; rfl) (by decide) rfl (fun ls hl => ?_)
          refine lv_goto (tgt := 8) hx hb dX0_walk_37 (by decide) ?_
          exact ih st_7 x3 x2_6 x3_9 _ _ _ _ _ hE hW (lv_sub hl [3, 1, 2, 0] rfl) kx
  refine lv_iconst (v := 0) hx hb dX0_walk_0 (by decide) ?_
  refine lv_istore_n (lv' := [(1, .int (0 : Int32)), (0, .ref (ad 6))]) hx hb dX0_walk_1 rfl hl (by decide) rfl (fun ls hl => ?_)
  refine lv_sipush (v := 401) hx hb dX0_walk_2 (by decide) ?_
  refine lv_istore_n (lv' := [(2, .int (401 : Int32)), (1, .int (0 : Int32)), (0, .ref (ad 6))]) hx hb dX0_walk_5 rfl hl (by decide) rfl (fun ls hl => ?_)
  refine lv_iconst (v := 0) hx hb dX0_walk_6 (by decide) ?_
  refine lv_istore_n (lv' := [(3, .int (0 : Int32)), (2, .int (401 : Int32)), (1, .int (0 : Int32)), (0, .ref (ad 6))]) hx hb dX0_walk_7 rfl hl (by decide) rfl (fun ls hl => ?_)
  obtain ⟨st_10, x1_11, hz, hE⟩ := ob2_some hE
  refine L8 FU st (0 : Int32) (401 : Int32) (0 : Int32) st_10 x1_11 _ _ _ hz hW (lv_sub hl [3, 2, 1, 0] rfl) (fun H locs ls hW hl => ?_)
  refine lv_iload_n hx hb dX0_walk_40 rfl (lv_at hl 0 rfl) ?_
  obtain ⟨rfl, rfl⟩ := pair_x hE
  exact W.iret hx hb hr (fun t ht hWm => hW.qi ht hWm) hW.2.2.1.2.2 dX0_walk_41
