/-! CONTRACTS, laid by wip/p40/gen.py -/
abbrev rmX3_checkSlot : Room := { frames := 1, cells := 0, slots := 0, locals := 60 }
set_option maxHeartbeats 4000000 in
set_option maxRecDepth 100000 in
theorem ctX3_checkSlot (l : Launch) (D : va_G) (ks : KA) (ad : Nat → Nat) (sz : Nat) (st : St) (x0 : Int32)   (hE : sX3_checkSlot st x0 = some ()) : CV l D ks yX3_checkSlot wsX3_checkSlot rmX3_checkSlot [.int x0] ad sz st st := by
  unfold sX3_checkSlot at hE
  refine Met.ofW (cc := cX3_checkSlot) (maxL := 1) (ret := none) (by decide) rfl ?_
  intro p e s m args below meth c s₁ B hml hv
  obtain ⟨hargs, hPW⟩ := hv
  have hW := WW.entry hPW
  have hx := B.exec
  have hb := B.bytes
  have hr := B.returns
  have hts := atoms_spec (ws := wsX3_checkSlot) B.pre
  have hown : s.vm.findClass RX3 = some m.cls := findClass_of_methodNamed B.named
  have hlocks := B.notSynchronized
  have hl := lv_entry ([.int x0]) (n := 1) (Nat.le_of_ble_eq_true rfl)
  have hfr : entryFrame m args 1 = F0 m 0 (lg_sl ([.int x0]) ++ List.replicate (1 - (lg_sl ([.int x0])).length) Slot.unset).toArray [] := by rw [hargs, lg_entry_eq]
  rw [hfr]
  generalize (lg_sl ([.int x0]) ++ List.replicate (1 - (lg_sl ([.int x0])).length) Slot.unset).toArray = ls at hl ⊢
  have hl : lv_has ls 1 [(0, .int x0)] := hl
  refine lv_iload_n hx hb dX3_checkSlot_0 rfl (lv_at hl 0 rfl) ?_
  refine lv_if_lt (tgt := 10) hx hb dX3_checkSlot_1 (by decide) (fun c_1 => ?_) (fun c_1 => ?_)
  · have hE := if_t c_1 hE
    exact none_x hE
  · have hE := if_f c_1 hE
    refine lv_iload_n hx hb dX3_checkSlot_4 rfl (lv_at hl 0 rfl) ?_
    refine lv_bipush (v := 12) hx hb dX3_checkSlot_5 (by decide) ?_
    refine lv_icmp_lt (tgt := 21) hx hb dX3_checkSlot_7 (by decide) (fun c_2 => ?_) (fun c_2 => ?_)
    · have hE := if_t c_2 hE
      exact W.vret hx hb hr (fun t ht hWm => hW.qv ht hWm) hW.2.2.1.2.2 dX3_checkSlot_21
    · have hE := if_f c_2 hE
      exact none_x hE
abbrev rmX3_checkVariable : Room := { frames := 1, cells := 0, slots := 0, locals := 60 }
set_option maxHeartbeats 4000000 in
set_option maxRecDepth 100000 in
theorem ctX3_checkVariable (l : Launch) (D : va_G) (ks : KA) (ad : Nat → Nat) (sz : Nat) (st : St) (x0 : Int32)   (hE : sX3_checkVariable st x0 = some ()) : CV l D ks yX3_checkVariable wsX3_checkVariable rmX3_checkVariable [.int x0] ad sz st st := by
  unfold sX3_checkVariable at hE
  refine Met.ofW (cc := cX3_checkVariable) (maxL := 1) (ret := none) (by decide) rfl ?_
  intro p e s m args below meth c s₁ B hml hv
  obtain ⟨hargs, hPW⟩ := hv
  have hW := WW.entry hPW
  have hx := B.exec
  have hb := B.bytes
  have hr := B.returns
  have hts := atoms_spec (ws := wsX3_checkVariable) B.pre
  have hown : s.vm.findClass RX3 = some m.cls := findClass_of_methodNamed B.named
  have hlocks := B.notSynchronized
  have hl := lv_entry ([.int x0]) (n := 1) (Nat.le_of_ble_eq_true rfl)
  have hfr : entryFrame m args 1 = F0 m 0 (lg_sl ([.int x0]) ++ List.replicate (1 - (lg_sl ([.int x0])).length) Slot.unset).toArray [] := by rw [hargs, lg_entry_eq]
  rw [hfr]
  generalize (lg_sl ([.int x0]) ++ List.replicate (1 - (lg_sl ([.int x0])).length) Slot.unset).toArray = ls at hl ⊢
  have hl : lv_has ls 1 [(0, .int x0)] := hl
  refine lv_iload_n hx hb dX3_checkVariable_0 rfl (lv_at hl 0 rfl) ?_
  refine lv_if_lt (tgt := 10) hx hb dX3_checkVariable_1 (by decide) (fun c_1 => ?_) (fun c_1 => ?_)
  · have hE := if_t c_1 hE
    exact none_x hE
  · have hE := if_f c_1 hE
    refine lv_iload_n hx hb dX3_checkVariable_4 rfl (lv_at hl 0 rfl) ?_
    refine lv_bipush (v := 10) hx hb dX3_checkVariable_5 (by decide) ?_
    refine lv_icmp_lt (tgt := 21) hx hb dX3_checkVariable_7 (by decide) (fun c_2 => ?_) (fun c_2 => ?_)
    · have hE := if_t c_2 hE
      exact W.vret hx hb hr (fun t ht hWm => hW.qv ht hWm) hW.2.2.1.2.2 dX3_checkVariable_21
    · have hE := if_f c_2 hE
      exact none_x hE
abbrev rmX3_place : Room := { frames := 16, cells := 0, slots := 0, locals := 357 }
set_option maxRecDepth 100000 in
theorem in3_X3_place : ∀ w ∈ wsX30, w ∈ wsX3_place := by decide +kernel
set_option maxHeartbeats 4000000 in
set_option maxRecDepth 100000 in
theorem ctX3_place (l : Launch) (D : va_G) (ks : KA) (ad : Nat → Nat) (sz : Nat) (st : St) (x1 : Int32)  {r : Int32} {st' : St} (hE : sX3_place st x1 = some (r, st')) : CI l D ks yX3_place wsX3_place rmX3_place [.ref (ad 0), .int x1] ad sz st r st' := by
  unfold sX3_place at hE
  refine Met.ofW (cc := cX3_place) (maxL := 3) (ret := (some .int)) (by decide) rfl ?_
  intro p e s m args below meth c s₁ B hml hv
  obtain ⟨hargs, hPW⟩ := hv
  have hW := WW.entry hPW
  have hx := B.exec
  have hb := B.bytes
  have hr := B.returns
  have hts := atoms_spec (ws := wsX3_place) B.pre
  have hown : s.vm.findClass RX3 = some m.cls := findClass_of_methodNamed B.named
  have hlocks := B.notSynchronized
  have hin3 : ∀ w ∈ u_ws RX3 TX3 10, w ∈ wsX3_place := in3_X3_place
  have hf34 := hts (.fieldLink RX3 34 "Trellis" "work" "LTrellis$Table;") (by decide +kernel)
  have hf22 := hts (.fieldLink RX3 22 "Trellis" "diagram" "LTrellis$Diagram;") (by decide +kernel)
  have hf11 := hts (.fieldLink RX3 11 "Trellis" "functions" "[LTrellis$Table;") (by decide +kernel)
  have hf15 := hts (.fieldLink RX3 15 "Trellis" "supports" "[I") (by decide +kernel)
  have hl := lv_entry ([.ref (ad 0), .int x1]) (n := 3) (Nat.le_of_ble_eq_true rfl)
  have hfr : entryFrame m args 3 = F0 m 0 (lg_sl ([.ref (ad 0), .int x1]) ++ List.replicate (3 - (lg_sl ([.ref (ad 0), .int x1])).length) Slot.unset).toArray [] := by rw [hargs, lg_entry_eq]
  rw [hfr]
  generalize (lg_sl ([.ref (ad 0), .int x1]) ++ List.replicate (3 - (lg_sl ([.ref (ad 0), .int x1])).length) Slot.unset).toArray = ls at hl ⊢
  have hl : lv_has ls 3 [(0, .ref (ad 0)), (1, .int x1)] := hl
  refine lv_aload_n hx hb dX3_place_0 rfl (lv_at hl 0 rfl) ?_
  refine ww_get (C := RX3) (T := TX3) (N := 10) (ref := RX3) (ci := 3) (v := .ref (ad (tc 12))) hx hb hts hin3 hown hW 0 (by decide) rfl rfl 4 (by decide) hf34 (fun _ h9 => h9) rfl dX3_place_1 ?_
  obtain ⟨r_2, hc_1, hE⟩ := ob_some hE
  refine ww_callVi (As := []) (rest := []) ⟨hx, hb, hml, hown, hts⟩ hW (ctX2_dependsOn l D ks ad _ st 12 (by decide) hc_1) (cwV 0 hts gX3_place_X2_dependsOn rfl rfl rfl (by decide +kernel) ⟨Nat.le_of_ble_eq_true rfl, Nat.le_of_ble_eq_true rfl⟩) (hW.recvT (by decide)) rfl hl.1 rfl (Nat.le_of_ble_eq_true rfl) dX3_place_4 ⟨Nat.zero_le _, Nat.zero_le _⟩ (fun H locs hW => ?_)
  refine lv_istore_n (lv' := [(2, .int r_2), (0, .ref (ad 0)), (1, .int x1)]) hx hb dX3_place_7 rfl hl (by decide) rfl (fun ls hl => ?_)
  refine lv_aload_n hx hb dX3_place_8 rfl (lv_at hl 1 rfl) ?_
  refine ww_get (C := RX3) (T := TX3) (N := 10) (ref := RX3) (ci := 3) (v := .ref (ad 6)) hx hb hts hin3 hown hW 0 (by decide) rfl rfl 2 (by decide) hf22 (fun _ h9 => h9) rfl dX3_place_9 ?_
  refine lv_iload_n hx hb dX3_place_12 rfl (lv_at hl 2 rfl) ?_
  refine lv_aload_n hx hb dX3_place_13 rfl (lv_at hl 1 rfl) ?_
  refine ww_get (C := RX3) (T := TX3) (N := 10) (ref := RX3) (ci := 3) (v := .ref (ad 6)) hx hb hts hin3 hown hW 0 (by decide) rfl rfl 2 (by decide) hf22 (fun _ h9 => h9) rfl dX3_place_14 ?_
  refine lv_aload_n hx hb dX3_place_17 rfl (lv_at hl 1 rfl) ?_
  refine ww_get (C := RX3) (T := TX3) (N := 10) (ref := RX3) (ci := 3) (v := .ref (ad (tc 12))) hx hb hts hin3 hown hW 0 (by decide) rfl rfl 4 (by decide) hf34 (fun _ h9 => h9) rfl dX3_place_18 ?_
  refine lv_iload_n hx hb dX3_place_21 rfl (lv_at hl 0 rfl) ?_
  obtain ⟨r_5, st_3, hc_4, hE⟩ := ob2_some hE
  refine ww_callVi (As := [.ref (ad (tc 12)), .int r_2]) (rest := [.int x1, .ref (ad 6)]) ⟨hx, hb, hml, hown, hts⟩ hW (ctX0_build l D ks ad _ st 12 r_2 (by decide) hc_4) (cwV 2 hts gX3_place_X0_build rfl rfl rfl (by decide +kernel) ⟨Nat.le_of_ble_eq_true rfl, Nat.le_of_ble_eq_true rfl⟩) hW.recvD rfl hl.1 rfl (Nat.le_of_ble_eq_true rfl) dX3_place_22 ⟨Nat.zero_le _, Nat.zero_le _⟩ (fun H locs hW => ?_)
  obtain ⟨st_6, hc_7, hE⟩ := ob_some hE
  refine ww_callVv (As := [.int x1, .int r_5]) (rest := []) ⟨hx, hb, hml, hown, hts⟩ hW (ctX0_setRoot l D ks ad _ st_3 x1 r_5 hc_7) (cwV 2 hts gX3_place_X0_setRoot rfl rfl rfl (by decide +kernel) ⟨Nat.le_of_ble_eq_true rfl, Nat.le_of_ble_eq_true rfl⟩) hW.recvD rfl hl.1 rfl (Nat.le_of_ble_eq_true rfl) dX3_place_25 ⟨Nat.zero_le _, Nat.zero_le _⟩ (fun H locs hW => ?_)
  refine lv_aload_n hx hb dX3_place_28 rfl (lv_at hl 1 rfl) ?_
  refine ww_get (C := RX3) (T := TX3) (N := 10) (ref := RX3) (ci := 3) (v := .ref (ad 6)) hx hb hts hin3 hown hW 0 (by decide) rfl rfl 2 (by decide) hf22 (fun _ h9 => h9) rfl dX3_place_29 ?_
  obtain ⟨r_9, hc_8, hE⟩ := ob_some hE
  refine ww_callVi (As := []) (rest := []) ⟨hx, hb, hml, hown, hts⟩ hW (ctX0_count l D ks ad _ st_6 hc_8) (cwV 0 hts gX3_place_X0_count rfl rfl rfl (by decide +kernel) ⟨Nat.le_of_ble_eq_true rfl, Nat.le_of_ble_eq_true rfl⟩) hW.recvD rfl hl.1 rfl (Nat.le_of_ble_eq_true rfl) dX3_place_32 ⟨Nat.zero_le _, Nat.zero_le _⟩ (fun H locs hW => ?_)
  refine lv_sipush (v := 400) hx hb dX3_place_35 (by decide) ?_
  refine lv_icmp_le (tgt := 70) hx hb dX3_place_38 (by decide) (fun c_10 => ?_) (fun c_10 => ?_)
  · have hE := if_t c_10 hE
    refine lv_aload_n hx hb dX3_place_70 rfl (lv_at hl 1 rfl) ?_
    refine ww_get (C := RX3) (T := TX3) (N := 10) (ref := RX3) (ci := 3) (v := .ref (ad 1)) hx hb hts hin3 hown hW 0 (by decide) rfl rfl 0 (by decide) hf11 (fun _ h9 => h9) rfl dX3_place_71 ?_
    refine lv_iload_n hx hb dX3_place_74 rfl (lv_at hl 2 rfl) ?_
    obtain ⟨hi_11, hE⟩ := gd_some hE
    refine ww_aald hx hb hW hi_11 dX3_place_75 ?_
    refine lv_aload_n hx hb dX3_place_76 rfl (lv_at hl 1 rfl) ?_
    refine ww_get (C := RX3) (T := TX3) (N := 10) (ref := RX3) (ci := 3) (v := .ref (ad (tc 12))) hx hb hts hin3 hown hW 0 (by decide) rfl rfl 4 (by decide) hf34 (fun _ h9 => h9) rfl dX3_place_77 ?_
    obtain ⟨st_12, hc_13, hE⟩ := ob_some hE
    refine ww_callVv (As := [.ref (ad (tc 12))]) (rest := []) ⟨hx, hb, hml, hown, hts⟩ hW (ctX2_copy l D ks ad _ st_6 x1.toNatClampNeg 12 (in15 hi_11) (by decide) hc_13) (cwV 1 hts gX3_place_X2_copy rfl rfl rfl (by decide +kernel) ⟨Nat.le_of_ble_eq_true rfl, Nat.le_of_ble_eq_true rfl⟩) (hW.recvT (in15 hi_11)) rfl hl.1 rfl (Nat.le_of_ble_eq_true rfl) dX3_place_80 ⟨Nat.zero_le _, Nat.zero_le _⟩ (fun H locs hW => ?_)
    refine lv_aload_n hx hb dX3_place_83 rfl (lv_at hl 1 rfl) ?_
    refine ww_get (C := RX3) (T := TX3) (N := 10) (ref := RX3) (ci := 3) (v := .ref (ad (ic 0))) hx hb hts hin3 hown hW 0 (by decide) rfl rfl 1 (by decide) hf15 (fun _ h9 => h9) rfl dX3_place_84 ?_
    refine lv_iload_n hx hb dX3_place_87 rfl (lv_at hl 2 rfl) ?_
    refine lv_iload_n hx hb dX3_place_88 rfl (lv_at hl 0 rfl) ?_
    obtain ⟨hin, hE⟩ := gd_some hE
    obtain ⟨st_14, est, hE⟩ := lt_some hE
    refine ww_iast hx hb hW 0 (by decide) hin est dX3_place_89 (fun H locs hW => ?_)
    refine lv_aload_n hx hb dX3_place_90 rfl (lv_at hl 1 rfl) ?_
    refine ww_get (C := RX3) (T := TX3) (N := 10) (ref := RX3) (ci := 3) (v := .ref (ad 6)) hx hb hts hin3 hown hW 0 (by decide) rfl rfl 2 (by decide) hf22 (fun _ h9 => h9) rfl dX3_place_91 ?_
    refine lv_iload_n hx hb dX3_place_94 rfl (lv_at hl 2 rfl) ?_
    refine lv_iload_n hx hb dX3_place_95 rfl (lv_at hl 2 rfl) ?_
    obtain ⟨r_17, st_15, hc_16, hE⟩ := ob2_some hE
    refine ww_callVi (As := [.int x1, .int x1]) (rest := []) ⟨hx, hb, hml, hown, hts⟩ hW (ctX0_countFrom l D ks ad _ st_14 x1 x1 hc_16) (cwV 2 hts gX3_place_X0_countFrom rfl rfl rfl (by decide +kernel) ⟨Nat.le_of_ble_eq_true rfl, Nat.le_of_ble_eq_true rfl⟩) hW.recvD rfl hl.1 rfl (Nat.le_of_ble_eq_true rfl) dX3_place_96 ⟨Nat.zero_le _, Nat.zero_le _⟩ (fun H locs hW => ?_)
    obtain ⟨rfl, rfl⟩ := pair_x hE
    exact W.iret hx hb hr (fun t ht hWm => hW.qi ht hWm) hW.2.2.1.2.2 dX3_place_99
  · have hE := if_f c_10 hE
    refine lv_aload_n hx hb dX3_place_41 rfl (lv_at hl 1 rfl) ?_
    refine ww_get (C := RX3) (T := TX3) (N := 10) (ref := RX3) (ci := 3) (v := .ref (ad 6)) hx hb hts hin3 hown hW 0 (by decide) rfl rfl 2 (by decide) hf22 (fun _ h9 => h9) rfl dX3_place_42 ?_
    refine lv_iload_n hx hb dX3_place_45 rfl (lv_at hl 2 rfl) ?_
    refine lv_aload_n hx hb dX3_place_46 rfl (lv_at hl 1 rfl) ?_
    refine ww_get (C := RX3) (T := TX3) (N := 10) (ref := RX3) (ci := 3) (v := .ref (ad 6)) hx hb hts hin3 hown hW 0 (by decide) rfl rfl 2 (by decide) hf22 (fun _ h9 => h9) rfl dX3_place_47 ?_
    refine lv_aload_n hx hb dX3_place_50 rfl (lv_at hl 1 rfl) ?_
    refine ww_get (C := RX3) (T := TX3) (N := 10) (ref := RX3) (ci := 3) (v := .ref (ad 1)) hx hb hts hin3 hown hW 0 (by decide) rfl rfl 0 (by decide) hf11 (fun _ h9 => h9) rfl dX3_place_51 ?_
    refine lv_iload_n hx hb dX3_place_54 rfl (lv_at hl 2 rfl) ?_
    obtain ⟨hi_18, hE⟩ := gd_some hE
    refine ww_aald hx hb hW hi_18 dX3_place_55 ?_
    refine lv_aload_n hx hb dX3_place_56 rfl (lv_at hl 1 rfl) ?_
    refine ww_get (C := RX3) (T := TX3) (N := 10) (ref := RX3) (ci := 3) (v := .ref (ad (ic 0))) hx hb hts hin3 hown hW 0 (by decide) rfl rfl 1 (by decide) hf15 (fun _ h9 => h9) rfl dX3_place_57 ?_
    refine lv_iload_n hx hb dX3_place_60 rfl (lv_at hl 2 rfl) ?_
    obtain ⟨hin, hE⟩ := gd_some hE
    refine ww_iald hx hb hW 0 (by decide) hin dX3_place_61 ?_
    obtain ⟨r_21, st_19, hc_20, hE⟩ := ob2_some hE
    refine ww_callVi (As := [.ref (ad (tc x1.toNatClampNeg)), .int (gI 0 st_6 x1)]) (rest := [.int x1, .ref (ad 6)]) ⟨hx, hb, hml, hown, hts⟩ hW (ctX0_build l D ks ad _ st_6 x1.toNatClampNeg (gI 0 st_6 x1) (in15 hi_18) hc_20) (cwV 2 hts gX3_place_X0_build rfl rfl rfl (by decide +kernel) ⟨Nat.le_of_ble_eq_true rfl, Nat.le_of_ble_eq_true rfl⟩) hW.recvD rfl hl.1 rfl (Nat.le_of_ble_eq_true rfl) dX3_place_62 ⟨Nat.zero_le _, Nat.zero_le _⟩ (fun H locs hW => ?_)
    obtain ⟨st_22, hc_23, hE⟩ := ob_some hE
    refine ww_callVv (As := [.int x1, .int r_21]) (rest := []) ⟨hx, hb, hml, hown, hts⟩ hW (ctX0_setRoot l D ks ad _ st_19 x1 r_21 hc_23) (cwV 2 hts gX3_place_X0_setRoot rfl rfl rfl (by decide +kernel) ⟨Nat.le_of_ble_eq_true rfl, Nat.le_of_ble_eq_true rfl⟩) hW.recvD rfl hl.1 rfl (Nat.le_of_ble_eq_true rfl) dX3_place_65 ⟨Nat.zero_le _, Nat.zero_le _⟩ (fun H locs hW => ?_)
    refine lv_iconst (v := (-1)) hx hb dX3_place_68 (by decide) ?_
    obtain ⟨rfl, rfl⟩ := pair_x hE
    exact W.iret hx hb hr (fun t ht hWm => hW.qi ht hWm) hW.2.2.1.2.2 dX3_place_69
abbrev rmX3_variable : Room := { frames := 17, cells := 0, slots := 0, locals := 379 }
set_option maxRecDepth 100000 in
theorem in2_X3_variable : ∀ w ∈ wsX20, w ∈ wsX3_variable := by decide +kernel
set_option maxRecDepth 100000 in
theorem in3_X3_variable : ∀ w ∈ wsX30, w ∈ wsX3_variable := by decide +kernel
set_option maxHeartbeats 4000000 in
set_option maxRecDepth 100000 in
theorem ctX3_variable (l : Launch) (D : va_G) (ks : KA) (ad : Nat → Nat) (sz : Nat) (st : St) (x1 : Int32) (x2 : Int32)  {r : Int32} {st' : St} (hE : sX3_variable st x1 x2 = some (r, st')) : CI l D ks yX3_variable wsX3_variable rmX3_variable [.ref (ad 0), .int x1, .int x2] ad sz st r st' := by
  unfold sX3_variable at hE
  refine Met.ofW (cc := cX3_variable) (maxL := 4) (ret := (some .int)) (by decide) rfl ?_
  intro p e s m args below meth c s₁ B hml hv
  obtain ⟨hargs, hPW⟩ := hv
  have hW := WW.entry hPW
  have hx := B.exec
  have hb := B.bytes
  have hr := B.returns
  have hts := atoms_spec (ws := wsX3_variable) B.pre
  have hown : s.vm.findClass RX3 = some m.cls := findClass_of_methodNamed B.named
  have hlocks := B.notSynchronized
  have hin2 : ∀ w ∈ u_ws RX2 TX2 1, w ∈ wsX3_variable := in2_X3_variable
  have hin3 : ∀ w ∈ u_ws RX3 TX3 10, w ∈ wsX3_variable := in3_X3_variable
  have hf34 := hts (.fieldLink RX3 34 "Trellis" "work" "LTrellis$Table;") (by decide +kernel)
  have hf68 := hts (.fieldLink RX3 68 "Trellis$Table" "words" "[J") (by decide +kernel)
  have hl := lv_entry ([.ref (ad 0), .int x1, .int x2]) (n := 4) (Nat.le_of_ble_eq_true rfl)
  have hfr : entryFrame m args 4 = F0 m 0 (lg_sl ([.ref (ad 0), .int x1, .int x2]) ++ List.replicate (4 - (lg_sl ([.ref (ad 0), .int x1, .int x2])).length) Slot.unset).toArray [] := by rw [hargs, lg_entry_eq]
  rw [hfr]
  generalize (lg_sl ([.ref (ad 0), .int x1, .int x2]) ++ List.replicate (4 - (lg_sl ([.ref (ad 0), .int x1, .int x2])).length) Slot.unset).toArray = ls at hl ⊢
  have hl : lv_has ls 4 [(0, .ref (ad 0)), (1, .int x1), (2, .int x2)] := hl
  have L10 : ∀ (n : Nat) (st : St) (x1 : Int32) (x2 : Int32) (x3 : Int32)  (stz : St) (H : Heap) (locs : List Loc) (ls : Array Slot), sX3_variable_L10 n st x1 x2 x3 = some stz → WW D ks ad (AA ad sz) s st H locs → lv_has ls 4 [(0, .ref (ad 0)), (1, .int x1), (2, .int x2), (3, .int x3)] → (∀ (H : Heap) (locs : List Loc) (ls : Array Slot), WW D ks ad (AA ad sz) s stz H locs → lv_has ls 4 [(0, .ref (ad 0)), (1, .int x1)] → W p l e (headSpec wsX3_variable rmX3_variable).room s m args below meth c H locs 0 0 (MQ below (va_Qi (fun (x : Int32) (u : St) => x = r ∧ u = st') (QW D ks ad sz) (AA ad sz)) args s 0 0 (AA ad sz)) (F0 m 36 ls [])) → W p l e (headSpec wsX3_variable rmX3_variable).room s m args below meth c H locs 0 0 (MQ below (va_Qi (fun (x : Int32) (u : St) => x = r ∧ u = st') (QW D ks ad sz) (AA ad sz)) args s 0 0 (AA ad sz)) (F0 m 10 ls []) := by
    intro n
    induction n with
    | zero =>
      intro st x1 x2 x3 stz H locs ls hE hW hl kx
      exact none_x hE
    | succ n ih =>
      intro st x1 x2 x3 stz H locs ls hE hW hl kx
      rw [sX3_variable_L10] at hE
      refine lv_iload_n hx hb dX3_variable_10 rfl (lv_at hl 3 rfl) ?_
      refine lv_bipush (v := 16) hx hb dX3_variable_11 (by decide) ?_
      refine lv_icmp_ge (tgt := 36) hx hb dX3_variable_13 (by decide) (fun c_3 => ?_) (fun c_3 => ?_)
      · have hE := if_t c_3 hE
        obtain rfl := some_x hE
        exact kx _ _ _ hW (lv_sub hl [0, 1] rfl)
      · have hE := if_f c_3 hE
        refine lv_aload_n hx hb dX3_variable_16 rfl (lv_at hl 0 rfl) ?_
        refine ww_get (C := RX3) (T := TX3) (N := 10) (ref := RX3) (ci := 3) (v := .ref (ad (tc 12))) hx hb hts hin3 hown hW 0 (by decide) rfl rfl 4 (by decide) hf34 (fun _ h9 => h9) rfl dX3_variable_17 ?_
        refine ww_get (C := RX2) (T := TX2) (N := 1) (ref := RX2) (ci := 2) (v := .ref (ad (lc 12))) hx hb hts hin2 hown hW (tc 12) (cE_T (ad := ad) (ks := ks) (st := st) (by decide)).1 (cE_T (by decide)).2 rfl 0 (by decide) hf68 (fun _ h9 => h9) rfl dX3_variable_20 ?_
        refine lv_iload_n hx hb dX3_variable_23 rfl (lv_at hl 3 rfl) ?_
        refine lv_iload_n hx hb dX3_variable_24 rfl (lv_at hl 2 rfl) ?_
        refine lv_iload_n hx hb dX3_variable_25 rfl (lv_at hl 3 rfl) ?_
        obtain ⟨r_5, hc_4, hE⟩ := ob_some hE
        refine ww_callSl (As := [.int x2, .int x3]) (rest := [.int x3, .ref (ad (lc 12))]) ⟨hx, hb, hml, hown, hts⟩ hW (ctX2_wordOfVariable l D ks ad _ st x2 x3 hc_4) (va_cwS 2 hts gX3_variable_X2_wordOfVariable rfl rfl rfl (by decide +kernel) ⟨Nat.le_of_ble_eq_true rfl, Nat.le_of_ble_eq_true rfl⟩) rfl hl.1 rfl (Nat.le_of_ble_eq_true rfl) dX3_variable_26 ⟨Nat.zero_le _, Nat.zero_le _⟩ (fun H locs hW => ?_)
        obtain ⟨hin, hE⟩ := gd_some hE
        obtain ⟨st_6, est, hE⟩ := lt_some hE
        refine ww_last hx hb hW 12 (by decide) (lLen_in (by decide) hin) est dX3_variable_29 (fun H locs hW => ?_)
        obtain ⟨x3_7, e, hE⟩ := lt_some hE
        refine lv_iinc (v := x3_7) (lv' := [(3, .int x3_7), (0, .ref (ad 0)), (1, .int x1), (2, .int x2)]) hx hb dX3_variable_30 hl (k := 3) rfl (by rw [e]; rfl) (by decide) rfl (fun ls hl => ?_)
        refine lv_goto (tgt := 10) hx hb dX3_variable_33 (by decide) ?_
        exact ih st_6 x1 x2 x3_7 _ _ _ _ hE hW (lv_sub hl [1, 2, 3, 0] rfl) kx
  refine lv_iload_n hx hb dX3_variable_0 rfl (lv_at hl 1 rfl) ?_
  obtain ⟨_, hc_1, hE⟩ := ob_some hE
  refine ww_callSv (As := [.int x1]) (rest := []) ⟨hx, hb, hml, hown, hts⟩ hW (ctX3_checkSlot l D ks ad _ st x1 hc_1) (va_cwS 1 hts gX3_variable_X3_checkSlot rfl rfl rfl (by decide +kernel) ⟨Nat.le_of_ble_eq_true rfl, Nat.le_of_ble_eq_true rfl⟩) rfl hl.1 rfl (Nat.le_of_ble_eq_true rfl) dX3_variable_1 ⟨Nat.zero_le _, Nat.zero_le _⟩ (fun H locs hW => ?_)
  refine lv_iload_n hx hb dX3_variable_4 rfl (lv_at hl 2 rfl) ?_
  obtain ⟨_, hc_2, hE⟩ := ob_some hE
  refine ww_callSv (As := [.int x2]) (rest := []) ⟨hx, hb, hml, hown, hts⟩ hW (ctX3_checkVariable l D ks ad _ st x2 hc_2) (va_cwS 1 hts gX3_variable_X3_checkVariable rfl rfl rfl (by decide +kernel) ⟨Nat.le_of_ble_eq_true rfl, Nat.le_of_ble_eq_true rfl⟩) rfl hl.1 rfl (Nat.le_of_ble_eq_true rfl) dX3_variable_5 ⟨Nat.zero_le _, Nat.zero_le _⟩ (fun H locs hW => ?_)
  refine lv_iconst (v := 0) hx hb dX3_variable_8 (by decide) ?_
  refine lv_istore_n (lv' := [(3, .int (0 : Int32)), (0, .ref (ad 0)), (1, .int x1), (2, .int x2)]) hx hb dX3_variable_9 rfl hl (by decide) rfl (fun ls hl => ?_)
  obtain ⟨st_8, hz, hE⟩ := ob_some hE
  refine L10 FU st x1 x2 (0 : Int32) st_8 _ _ _ hz hW (lv_sub hl [1, 2, 3, 0] rfl) (fun H locs ls hW hl => ?_)
  refine lv_aload_n hx hb dX3_variable_36 rfl (lv_at hl 0 rfl) ?_
  refine lv_iload_n hx hb dX3_variable_37 rfl (lv_at hl 1 rfl) ?_
  obtain ⟨r_11, st_9, hc_10, hE⟩ := ob2_some hE
  refine ww_callVi (As := [.int x1]) (rest := []) ⟨hx, hb, hml, hown, hts⟩ hW (ctX3_place l D ks ad _ st_8 x1 hc_10) (cwV 1 hts gX3_variable_X3_place rfl rfl rfl (by decide +kernel) ⟨Nat.le_of_ble_eq_true rfl, Nat.le_of_ble_eq_true rfl⟩) hW.recvX rfl hl.1 rfl (Nat.le_of_ble_eq_true rfl) dX3_variable_38 ⟨Nat.zero_le _, Nat.zero_le _⟩ (fun H locs hW => ?_)
  obtain ⟨rfl, rfl⟩ := pair_x hE
  exact W.iret hx hb hr (fun t ht hWm => hW.qi ht hWm) hW.2.2.1.2.2 dX3_variable_41
abbrev rmX3_apply : Room := { frames := 17, cells := 0, slots := 0, locals := 379 }
set_option maxRecDepth 100000 in
theorem in2_X3_apply : ∀ w ∈ wsX20, w ∈ wsX3_apply := by decide +kernel
set_option maxRecDepth 100000 in
theorem in3_X3_apply : ∀ w ∈ wsX30, w ∈ wsX3_apply := by decide +kernel
set_option maxHeartbeats 4000000 in
set_option maxRecDepth 100000 in
theorem ctX3_apply (l : Launch) (D : va_G) (ks : KA) (ad : Nat → Nat) (sz : Nat) (st : St) (x1 : Int32) (x2 : Int32) (x3 : Int32) (x4 : Int32)  {r : Int32} {st' : St} (hE : sX3_apply st x1 x2 x3 x4 = some (r, st')) : CI l D ks yX3_apply wsX3_apply rmX3_apply [.ref (ad 0), .int x1, .int x2, .int x3, .int x4] ad sz st r st' := by
  unfold sX3_apply at hE
  refine Met.ofW (cc := cX3_apply) (maxL := 8) (ret := (some .int)) (by decide) rfl ?_
  intro p e s m args below meth c s₁ B hml hv
  obtain ⟨hargs, hPW⟩ := hv
  have hW := WW.entry hPW
  have hx := B.exec
  have hb := B.bytes
  have hr := B.returns
  have hts := atoms_spec (ws := wsX3_apply) B.pre
  have hown : s.vm.findClass RX3 = some m.cls := findClass_of_methodNamed B.named
  have hlocks := B.notSynchronized
  have hin2 : ∀ w ∈ u_ws RX2 TX2 1, w ∈ wsX3_apply := in2_X3_apply
  have hin3 : ∀ w ∈ u_ws RX3 TX3 10, w ∈ wsX3_apply := in3_X3_apply
  have hf11 := hts (.fieldLink RX3 11 "Trellis" "functions" "[LTrellis$Table;") (by decide +kernel)
  have hf68 := hts (.fieldLink RX3 68 "Trellis$Table" "words" "[J") (by decide +kernel)
  have hf34 := hts (.fieldLink RX3 34 "Trellis" "work" "LTrellis$Table;") (by decide +kernel)
  have hl := lv_entry ([.ref (ad 0), .int x1, .int x2, .int x3, .int x4]) (n := 8) (Nat.le_of_ble_eq_true rfl)
  have hfr : entryFrame m args 8 = F0 m 0 (lg_sl ([.ref (ad 0), .int x1, .int x2, .int x3, .int x4]) ++ List.replicate (8 - (lg_sl ([.ref (ad 0), .int x1, .int x2, .int x3, .int x4])).length) Slot.unset).toArray [] := by rw [hargs, lg_entry_eq]
  rw [hfr]
  generalize (lg_sl ([.ref (ad 0), .int x1, .int x2, .int x3, .int x4]) ++ List.replicate (8 - (lg_sl ([.ref (ad 0), .int x1, .int x2, .int x3, .int x4])).length) Slot.unset).toArray = ls at hl ⊢
  have hl : lv_has ls 8 [(0, .ref (ad 0)), (1, .int x1), (2, .int x2), (3, .int x3), (4, .int x4)] := hl
  have L59 : ∀ (n : Nat) (st : St) (x1 : Int32) (x4 : Int32) (t5 : Nat) (t6 : Nat) (x7 : Int32) (hu5 : t5 < 15) (hu6 : t6 < 15) (stz : St) (H : Heap) (locs : List Loc) (ls : Array Slot), sX3_apply_L59 n st x1 x4 t5 t6 x7 = some stz → WW D ks ad (AA ad sz) s st H locs → lv_has ls 8 [(0, .ref (ad 0)), (1, .int x1), (4, .int x4), (5, .ref (ad (lc t5))), (6, .ref (ad (lc t6))), (7, .int x7)] → (∀ (H : Heap) (locs : List Loc) (ls : Array Slot), WW D ks ad (AA ad sz) s stz H locs → lv_has ls 8 [(0, .ref (ad 0)), (1, .int x1)] → W p l e (headSpec wsX3_apply rmX3_apply).room s m args below meth c H locs 0 0 (MQ below (va_Qi (fun (x : Int32) (u : St) => x = r ∧ u = st') (QW D ks ad sz) (AA ad sz)) args s 0 0 (AA ad sz)) (F0 m 97 ls [])) → W p l e (headSpec wsX3_apply rmX3_apply).room s m args below meth c H locs 0 0 (MQ below (va_Qi (fun (x : Int32) (u : St) => x = r ∧ u = st') (QW D ks ad sz) (AA ad sz)) args s 0 0 (AA ad sz)) (F0 m 59 ls []) := by
    intro n
    induction n with
    | zero =>
      intro st x1 x4 t5 t6 x7 hu5 hu6 stz H locs ls hE hW hl kx
      exact none_x hE
    | succ n ih =>
      intro st x1 x4 t5 t6 x7 hu5 hu6 stz H locs ls hE hW hl kx
      rw [sX3_apply_L59] at hE
      refine lv_iload hx hb dX3_apply_59 (lv_at hl 5 rfl) ?_
      refine lv_bipush (v := 16) hx hb dX3_apply_61 (by decide) ?_
      refine lv_icmp_ge (tgt := 97) hx hb dX3_apply_63 (by decide) (fun c_8 => ?_) (fun c_8 => ?_)
      · have hE := if_t c_8 hE
        obtain rfl := some_x hE
        exact kx _ _ _ hW (lv_sub hl [0, 1] rfl)
      · have hE := if_f c_8 hE
        refine lv_aload_n hx hb dX3_apply_66 rfl (lv_at hl 0 rfl) ?_
        refine ww_get (C := RX3) (T := TX3) (N := 10) (ref := RX3) (ci := 3) (v := .ref (ad (tc 12))) hx hb hts hin3 hown hW 0 (by decide) rfl rfl 4 (by decide) hf34 (fun _ h9 => h9) rfl dX3_apply_67 ?_
        refine ww_get (C := RX2) (T := TX2) (N := 1) (ref := RX2) (ci := 2) (v := .ref (ad (lc 12))) hx hb hts hin2 hown hW (tc 12) (cE_T (ad := ad) (ks := ks) (st := st) (by decide)).1 (cE_T (by decide)).2 rfl 0 (by decide) hf68 (fun _ h9 => h9) rfl dX3_apply_70 ?_
        refine lv_iload hx hb dX3_apply_73 (lv_at hl 5 rfl) ?_
        refine lv_aload hx hb dX3_apply_75 (lv_at hl 3 rfl) ?_
        refine lv_iload hx hb dX3_apply_77 (lv_at hl 5 rfl) ?_
        obtain ⟨hin, hE⟩ := gd_some hE
        refine ww_lald hx hb hW t5 (Nat.lt_of_lt_of_le hu5 (by decide)) (lLen_in hu5 hin) dX3_apply_79 ?_
        refine lv_aload hx hb dX3_apply_80 (lv_at hl 4 rfl) ?_
        refine lv_iload hx hb dX3_apply_82 (lv_at hl 5 rfl) ?_
        obtain ⟨hin, hE⟩ := gd_some hE
        refine ww_lald hx hb hW t6 (Nat.lt_of_lt_of_le hu6 (by decide)) (lLen_in hu6 hin) dX3_apply_84 ?_
        refine lv_iload hx hb dX3_apply_85 (lv_at hl 2 rfl) ?_
        obtain ⟨r_10, hc_9, hE⟩ := ob_some hE
        refine ww_callSl (As := [.long (gL t5 st x7), .long (gL t6 st x7), .int x4]) (rest := [.int x7, .ref (ad (lc 12))]) ⟨hx, hb, hml, hown, hts⟩ hW (ctX2_wordByTable l D ks ad _ st (gL t5 st x7) (gL t6 st x7) x4 hc_9) (va_cwS 3 hts gX3_apply_X2_wordByTable rfl rfl rfl (by decide +kernel) ⟨Nat.le_of_ble_eq_true rfl, Nat.le_of_ble_eq_true rfl⟩) rfl hl.1 rfl (Nat.le_of_ble_eq_true rfl) dX3_apply_87 ⟨Nat.zero_le _, Nat.zero_le _⟩ (fun H locs hW => ?_)
        obtain ⟨hin, hE⟩ := gd_some hE
        obtain ⟨st_11, est, hE⟩ := lt_some hE
        refine ww_last hx hb hW 12 (by decide) (lLen_in (by decide) hin) est dX3_apply_90 (fun H locs hW => ?_)
        obtain ⟨x7_12, e, hE⟩ := lt_some hE
        refine lv_iinc (v := x7_12) (lv' := [(7, .int x7_12), (0, .ref (ad 0)), (1, .int x1), (4, .int x4), (5, .ref (ad (lc t5))), (6, .ref (ad (lc t6)))]) hx hb dX3_apply_91 hl (k := 5) rfl (by rw [e]; rfl) (by decide) rfl (fun ls hl => ?_)
        refine lv_goto (tgt := 59) hx hb dX3_apply_94 (by decide) ?_
        exact ih st_11 x1 x4 t5 t6 x7_12 hu5 hu6 _ _ _ _ hE hW (lv_sub hl [1, 2, 3, 4, 5, 0] rfl) kx
  refine lv_iload_n hx hb dX3_apply_0 rfl (lv_at hl 1 rfl) ?_
  obtain ⟨_, hc_1, hE⟩ := ob_some hE
  refine ww_callSv (As := [.int x1]) (rest := []) ⟨hx, hb, hml, hown, hts⟩ hW (ctX3_checkSlot l D ks ad _ st x1 hc_1) (va_cwS 1 hts gX3_apply_X3_checkSlot rfl rfl rfl (by decide +kernel) ⟨Nat.le_of_ble_eq_true rfl, Nat.le_of_ble_eq_true rfl⟩) rfl hl.1 rfl (Nat.le_of_ble_eq_true rfl) dX3_apply_1 ⟨Nat.zero_le _, Nat.zero_le _⟩ (fun H locs hW => ?_)
  refine lv_iload_n hx hb dX3_apply_4 rfl (lv_at hl 2 rfl) ?_
  obtain ⟨_, hc_2, hE⟩ := ob_some hE
  refine ww_callSv (As := [.int x2]) (rest := []) ⟨hx, hb, hml, hown, hts⟩ hW (ctX3_checkSlot l D ks ad _ st x2 hc_2) (va_cwS 1 hts gX3_apply_X3_checkSlot rfl rfl rfl (by decide +kernel) ⟨Nat.le_of_ble_eq_true rfl, Nat.le_of_ble_eq_true rfl⟩) rfl hl.1 rfl (Nat.le_of_ble_eq_true rfl) dX3_apply_5 ⟨Nat.zero_le _, Nat.zero_le _⟩ (fun H locs hW => ?_)
  refine lv_iload_n hx hb dX3_apply_8 rfl (lv_at hl 3 rfl) ?_
  obtain ⟨_, hc_3, hE⟩ := ob_some hE
  refine ww_callSv (As := [.int x3]) (rest := []) ⟨hx, hb, hml, hown, hts⟩ hW (ctX3_checkSlot l D ks ad _ st x3 hc_3) (va_cwS 1 hts gX3_apply_X3_checkSlot rfl rfl rfl (by decide +kernel) ⟨Nat.le_of_ble_eq_true rfl, Nat.le_of_ble_eq_true rfl⟩) rfl hl.1 rfl (Nat.le_of_ble_eq_true rfl) dX3_apply_9 ⟨Nat.zero_le _, Nat.zero_le _⟩ (fun H locs hW => ?_)
  refine lv_iload hx hb dX3_apply_12 (lv_at hl 4 rfl) ?_
  refine lv_if_lt (tgt := 24) hx hb dX3_apply_14 (by decide) (fun c_4 => ?_) (fun c_4 => ?_)
  · have hE := if_t c_4 hE
    exact none_x hE
  · have hE := if_f c_4 hE
    refine lv_iload hx hb dX3_apply_17 (lv_at hl 4 rfl) ?_
    refine lv_bipush (v := 15) hx hb dX3_apply_19 (by decide) ?_
    refine lv_icmp_le (tgt := 34) hx hb dX3_apply_21 (by decide) (fun c_5 => ?_) (fun c_5 => ?_)
    · have hE := if_t c_5 hE
      refine lv_aload_n hx hb dX3_apply_34 rfl (lv_at hl 0 rfl) ?_
      refine ww_get (C := RX3) (T := TX3) (N := 10) (ref := RX3) (ci := 3) (v := .ref (ad 1)) hx hb hts hin3 hown hW 0 (by decide) rfl rfl 0 (by decide) hf11 (fun _ h9 => h9) rfl dX3_apply_35 ?_
      refine lv_iload_n hx hb dX3_apply_38 rfl (lv_at hl 2 rfl) ?_
      obtain ⟨hi_6, hE⟩ := gd_some hE
      refine ww_aald hx hb hW hi_6 dX3_apply_39 ?_
      refine ww_get (C := RX2) (T := TX2) (N := 1) (ref := RX2) (ci := 2) (v := .ref (ad (lc x2.toNatClampNeg))) hx hb hts hin2 hown hW (tc x2.toNatClampNeg) (cE_T (ad := ad) (ks := ks) (st := st) (in15 hi_6)).1 (cE_T (in15 hi_6)).2 rfl 0 (by decide) hf68 (fun _ h9 => h9) rfl dX3_apply_40 ?_
      refine lv_astore (lv' := [(5, .ref (ad (lc x2.toNatClampNeg))), (0, .ref (ad 0)), (1, .int x1), (2, .int x2), (3, .int x3), (4, .int x4)]) hx hb dX3_apply_43 hl (by decide) rfl (fun ls hl => ?_)
      refine lv_aload_n hx hb dX3_apply_45 rfl (lv_at hl 1 rfl) ?_
      refine ww_get (C := RX3) (T := TX3) (N := 10) (ref := RX3) (ci := 3) (v := .ref (ad 1)) hx hb hts hin3 hown hW 0 (by decide) rfl rfl 0 (by decide) hf11 (fun _ h9 => h9) rfl dX3_apply_46 ?_
      refine lv_iload_n hx hb dX3_apply_49 rfl (lv_at hl 4 rfl) ?_
      obtain ⟨hi_7, hE⟩ := gd_some hE
      refine ww_aald hx hb hW hi_7 dX3_apply_50 ?_
      refine ww_get (C := RX2) (T := TX2) (N := 1) (ref := RX2) (ci := 2) (v := .ref (ad (lc x3.toNatClampNeg))) hx hb hts hin2 hown hW (tc x3.toNatClampNeg) (cE_T (ad := ad) (ks := ks) (st := st) (in15 hi_7)).1 (cE_T (in15 hi_7)).2 rfl 0 (by decide) hf68 (fun _ h9 => h9) rfl dX3_apply_51 ?_
      refine lv_astore (lv' := [(6, .ref (ad (lc x3.toNatClampNeg))), (5, .ref (ad (lc x2.toNatClampNeg))), (0, .ref (ad 0)), (1, .int x1), (2, .int x2), (3, .int x3), (4, .int x4)]) hx hb dX3_apply_54 hl (by decide) rfl (fun ls hl => ?_)
      refine lv_iconst (v := 0) hx hb dX3_apply_56 (by decide) ?_
      refine lv_istore (lv' := [(7, .int (0 : Int32)), (6, .ref (ad (lc x3.toNatClampNeg))), (5, .ref (ad (lc x2.toNatClampNeg))), (0, .ref (ad 0)), (1, .int x1), (2, .int x2), (3, .int x3), (4, .int x4)]) hx hb dX3_apply_57 hl (by decide) rfl (fun ls hl => ?_)
      obtain ⟨st_13, hz, hE⟩ := ob_some hE
      refine L59 FU st x1 x4 x2.toNatClampNeg x3.toNatClampNeg (0 : Int32) (in15 hi_6) (in15 hi_7) st_13 _ _ _ hz hW (lv_sub hl [3, 4, 7, 2, 1, 0] rfl) (fun H locs ls hW hl => ?_)
      refine lv_aload_n hx hb dX3_apply_97 rfl (lv_at hl 0 rfl) ?_
      refine lv_iload_n hx hb dX3_apply_98 rfl (lv_at hl 1 rfl) ?_
      obtain ⟨r_16, st_14, hc_15, hE⟩ := ob2_some hE
      refine ww_callVi (As := [.int x1]) (rest := []) ⟨hx, hb, hml, hown, hts⟩ hW (ctX3_place l D ks ad _ st_13 x1 hc_15) (cwV 1 hts gX3_apply_X3_place rfl rfl rfl (by decide +kernel) ⟨Nat.le_of_ble_eq_true rfl, Nat.le_of_ble_eq_true rfl⟩) hW.recvX rfl hl.1 rfl (Nat.le_of_ble_eq_true rfl) dX3_apply_99 ⟨Nat.zero_le _, Nat.zero_le _⟩ (fun H locs hW => ?_)
      obtain ⟨rfl, rfl⟩ := pair_x hE
      exact W.iret hx hb hr (fun t ht hWm => hW.qi ht hWm) hW.2.2.1.2.2 dX3_apply_102
    · have hE := if_f c_5 hE
      exact none_x hE
abbrev rmX3_choose : Room := { frames := 17, cells := 0, slots := 0, locals := 379 }
set_option maxRecDepth 100000 in
theorem in2_X3_choose : ∀ w ∈ wsX20, w ∈ wsX3_choose := by decide +kernel
set_option maxRecDepth 100000 in
theorem in3_X3_choose : ∀ w ∈ wsX30, w ∈ wsX3_choose := by decide +kernel
set_option maxHeartbeats 4000000 in
set_option maxRecDepth 100000 in
theorem ctX3_choose (l : Launch) (D : va_G) (ks : KA) (ad : Nat → Nat) (sz : Nat) (st : St) (x1 : Int32) (x2 : Int32) (x3 : Int32) (x4 : Int32)  {r : Int32} {st' : St} (hE : sX3_choose st x1 x2 x3 x4 = some (r, st')) : CI l D ks yX3_choose wsX3_choose rmX3_choose [.ref (ad 0), .int x1, .int x2, .int x3, .int x4] ad sz st r st' := by
  unfold sX3_choose at hE
  refine Met.ofW (cc := cX3_choose) (maxL := 9) (ret := (some .int)) (by decide) rfl ?_
  intro p e s m args below meth c s₁ B hml hv
  obtain ⟨hargs, hPW⟩ := hv
  have hW := WW.entry hPW
  have hx := B.exec
  have hb := B.bytes
  have hr := B.returns
  have hts := atoms_spec (ws := wsX3_choose) B.pre
  have hown : s.vm.findClass RX3 = some m.cls := findClass_of_methodNamed B.named
  have hlocks := B.notSynchronized
  have hin2 : ∀ w ∈ u_ws RX2 TX2 1, w ∈ wsX3_choose := in2_X3_choose
  have hin3 : ∀ w ∈ u_ws RX3 TX3 10, w ∈ wsX3_choose := in3_X3_choose
  have hf11 := hts (.fieldLink RX3 11 "Trellis" "functions" "[LTrellis$Table;") (by decide +kernel)
  have hf68 := hts (.fieldLink RX3 68 "Trellis$Table" "words" "[J") (by decide +kernel)
  have hf34 := hts (.fieldLink RX3 34 "Trellis" "work" "LTrellis$Table;") (by decide +kernel)
  have hl := lv_entry ([.ref (ad 0), .int x1, .int x2, .int x3, .int x4]) (n := 9) (Nat.le_of_ble_eq_true rfl)
  have hfr : entryFrame m args 9 = F0 m 0 (lg_sl ([.ref (ad 0), .int x1, .int x2, .int x3, .int x4]) ++ List.replicate (9 - (lg_sl ([.ref (ad 0), .int x1, .int x2, .int x3, .int x4])).length) Slot.unset).toArray [] := by rw [hargs, lg_entry_eq]
  rw [hfr]
  generalize (lg_sl ([.ref (ad 0), .int x1, .int x2, .int x3, .int x4]) ++ List.replicate (9 - (lg_sl ([.ref (ad 0), .int x1, .int x2, .int x3, .int x4])).length) Slot.unset).toArray = ls at hl ⊢
  have hl : lv_has ls 9 [(0, .ref (ad 0)), (1, .int x1), (2, .int x2), (3, .int x3), (4, .int x4)] := hl
  have L54 : ∀ (n : Nat) (st : St) (x1 : Int32) (t5 : Nat) (t6 : Nat) (t7 : Nat) (x8 : Int32) (hu5 : t5 < 15) (hu6 : t6 < 15) (hu7 : t7 < 15) (stz : St) (H : Heap) (locs : List Loc) (ls : Array Slot), sX3_choose_L54 n st x1 t5 t6 t7 x8 = some stz → WW D ks ad (AA ad sz) s st H locs → lv_has ls 9 [(0, .ref (ad 0)), (1, .int x1), (5, .ref (ad (lc t5))), (6, .ref (ad (lc t6))), (7, .ref (ad (lc t7))), (8, .int x8)] → (∀ (H : Heap) (locs : List Loc) (ls : Array Slot), WW D ks ad (AA ad sz) s stz H locs → lv_has ls 9 [(0, .ref (ad 0)), (1, .int x1)] → W p l e (headSpec wsX3_choose rmX3_choose).room s m args below meth c H locs 0 0 (MQ below (va_Qi (fun (x : Int32) (u : St) => x = r ∧ u = st') (QW D ks ad sz) (AA ad sz)) args s 0 0 (AA ad sz)) (F0 m 104 ls [])) → W p l e (headSpec wsX3_choose rmX3_choose).room s m args below meth c H locs 0 0 (MQ below (va_Qi (fun (x : Int32) (u : St) => x = r ∧ u = st') (QW D ks ad sz) (AA ad sz)) args s 0 0 (AA ad sz)) (F0 m 54 ls []) := by
    intro n
    induction n with
    | zero =>
      intro st x1 t5 t6 t7 x8 hu5 hu6 hu7 stz H locs ls hE hW hl kx
      exact none_x hE
    | succ n ih =>
      intro st x1 t5 t6 t7 x8 hu5 hu6 hu7 stz H locs ls hE hW hl kx
      rw [sX3_choose_L54] at hE
      refine lv_iload hx hb dX3_choose_54 (lv_at hl 5 rfl) ?_
      refine lv_bipush (v := 16) hx hb dX3_choose_56 (by decide) ?_
      refine lv_icmp_ge (tgt := 104) hx hb dX3_choose_58 (by decide) (fun c_8 => ?_) (fun c_8 => ?_)
      · have hE := if_t c_8 hE
        obtain rfl := some_x hE
        exact kx _ _ _ hW (lv_sub hl [0, 1] rfl)
      · have hE := if_f c_8 hE
        refine lv_aload_n hx hb dX3_choose_61 rfl (lv_at hl 0 rfl) ?_
        refine ww_get (C := RX3) (T := TX3) (N := 10) (ref := RX3) (ci := 3) (v := .ref (ad (tc 12))) hx hb hts hin3 hown hW 0 (by decide) rfl rfl 4 (by decide) hf34 (fun _ h9 => h9) rfl dX3_choose_62 ?_
        refine ww_get (C := RX2) (T := TX2) (N := 1) (ref := RX2) (ci := 2) (v := .ref (ad (lc 12))) hx hb hts hin2 hown hW (tc 12) (cE_T (ad := ad) (ks := ks) (st := st) (by decide)).1 (cE_T (by decide)).2 rfl 0 (by decide) hf68 (fun _ h9 => h9) rfl dX3_choose_65 ?_
        refine lv_iload hx hb dX3_choose_68 (lv_at hl 5 rfl) ?_
        refine lv_aload hx hb dX3_choose_70 (lv_at hl 2 rfl) ?_
        refine lv_iload hx hb dX3_choose_72 (lv_at hl 5 rfl) ?_
        obtain ⟨hin, hE⟩ := gd_some hE
        refine ww_lald hx hb hW t5 (Nat.lt_of_lt_of_le hu5 (by decide)) (lLen_in hu5 hin) dX3_choose_74 ?_
        refine lv_aload hx hb dX3_choose_75 (lv_at hl 3 rfl) ?_
        refine lv_iload hx hb dX3_choose_77 (lv_at hl 5 rfl) ?_
        obtain ⟨hin, hE⟩ := gd_some hE
        refine ww_lald hx hb hW t6 (Nat.lt_of_lt_of_le hu6 (by decide)) (lLen_in hu6 hin) dX3_choose_79 ?_
        refine lv_land hx hb dX3_choose_80 ?_
        refine lv_aload hx hb dX3_choose_81 (lv_at hl 2 rfl) ?_
        refine lv_iload hx hb dX3_choose_83 (lv_at hl 5 rfl) ?_
        obtain ⟨hin, hE⟩ := gd_some hE
        refine ww_lald hx hb hW t5 (Nat.lt_of_lt_of_le hu5 (by decide)) (lLen_in hu5 hin) dX3_choose_85 ?_
        refine lv_ldc2 (v := (-1)) hx hb hown (hts (.constantLong RX3 87 (-1)) (by decide +kernel)) dX3_choose_86 ?_
        refine lv_lxor hx hb dX3_choose_89 ?_
        refine lv_aload hx hb dX3_choose_90 (lv_at hl 4 rfl) ?_
        refine lv_iload hx hb dX3_choose_92 (lv_at hl 5 rfl) ?_
        obtain ⟨hin, hE⟩ := gd_some hE
        refine ww_lald hx hb hW t7 (Nat.lt_of_lt_of_le hu7 (by decide)) (lLen_in hu7 hin) dX3_choose_94 ?_
        refine lv_land hx hb dX3_choose_95 ?_
        refine lv_lor hx hb dX3_choose_96 ?_
        obtain ⟨hin, hE⟩ := gd_some hE
        obtain ⟨st_9, est, hE⟩ := lt_some hE
        refine ww_last hx hb hW 12 (by decide) (lLen_in (by decide) hin) est dX3_choose_97 (fun H locs hW => ?_)
        obtain ⟨x8_10, e, hE⟩ := lt_some hE
        refine lv_iinc (v := x8_10) (lv' := [(8, .int x8_10), (0, .ref (ad 0)), (1, .int x1), (5, .ref (ad (lc t5))), (6, .ref (ad (lc t6))), (7, .ref (ad (lc t7)))]) hx hb dX3_choose_98 hl (k := 5) rfl (by rw [e]; rfl) (by decide) rfl (fun ls hl => ?_)
        refine lv_goto (tgt := 54) hx hb dX3_choose_101 (by decide) ?_
        exact ih st_9 x1 t5 t6 t7 x8_10 hu5 hu6 hu7 _ _ _ _ hE hW (lv_sub hl [1, 2, 3, 4, 5, 0] rfl) kx
  refine lv_iload_n hx hb dX3_choose_0 rfl (lv_at hl 1 rfl) ?_
  obtain ⟨_, hc_1, hE⟩ := ob_some hE
  refine ww_callSv (As := [.int x1]) (rest := []) ⟨hx, hb, hml, hown, hts⟩ hW (ctX3_checkSlot l D ks ad _ st x1 hc_1) (va_cwS 1 hts gX3_choose_X3_checkSlot rfl rfl rfl (by decide +kernel) ⟨Nat.le_of_ble_eq_true rfl, Nat.le_of_ble_eq_true rfl⟩) rfl hl.1 rfl (Nat.le_of_ble_eq_true rfl) dX3_choose_1 ⟨Nat.zero_le _, Nat.zero_le _⟩ (fun H locs hW => ?_)
  refine lv_iload_n hx hb dX3_choose_4 rfl (lv_at hl 2 rfl) ?_
  obtain ⟨_, hc_2, hE⟩ := ob_some hE
  refine ww_callSv (As := [.int x2]) (rest := []) ⟨hx, hb, hml, hown, hts⟩ hW (ctX3_checkSlot l D ks ad _ st x2 hc_2) (va_cwS 1 hts gX3_choose_X3_checkSlot rfl rfl rfl (by decide +kernel) ⟨Nat.le_of_ble_eq_true rfl, Nat.le_of_ble_eq_true rfl⟩) rfl hl.1 rfl (Nat.le_of_ble_eq_true rfl) dX3_choose_5 ⟨Nat.zero_le _, Nat.zero_le _⟩ (fun H locs hW => ?_)
  refine lv_iload_n hx hb dX3_choose_8 rfl (lv_at hl 3 rfl) ?_
  obtain ⟨_, hc_3, hE⟩ := ob_some hE
  refine ww_callSv (As := [.int x3]) (rest := []) ⟨hx, hb, hml, hown, hts⟩ hW (ctX3_checkSlot l D ks ad _ st x3 hc_3) (va_cwS 1 hts gX3_choose_X3_checkSlot rfl rfl rfl (by decide +kernel) ⟨Nat.le_of_ble_eq_true rfl, Nat.le_of_ble_eq_true rfl⟩) rfl hl.1 rfl (Nat.le_of_ble_eq_true rfl) dX3_choose_9 ⟨Nat.zero_le _, Nat.zero_le _⟩ (fun H locs hW => ?_)
  refine lv_iload hx hb dX3_choose_12 (lv_at hl 4 rfl) ?_
  obtain ⟨_, hc_4, hE⟩ := ob_some hE
  refine ww_callSv (As := [.int x4]) (rest := []) ⟨hx, hb, hml, hown, hts⟩ hW (ctX3_checkSlot l D ks ad _ st x4 hc_4) (va_cwS 1 hts gX3_choose_X3_checkSlot rfl rfl rfl (by decide +kernel) ⟨Nat.le_of_ble_eq_true rfl, Nat.le_of_ble_eq_true rfl⟩) rfl hl.1 rfl (Nat.le_of_ble_eq_true rfl) dX3_choose_14 ⟨Nat.zero_le _, Nat.zero_le _⟩ (fun H locs hW => ?_)
  refine lv_aload_n hx hb dX3_choose_17 rfl (lv_at hl 0 rfl) ?_
  refine ww_get (C := RX3) (T := TX3) (N := 10) (ref := RX3) (ci := 3) (v := .ref (ad 1)) hx hb hts hin3 hown hW 0 (by decide) rfl rfl 0 (by decide) hf11 (fun _ h9 => h9) rfl dX3_choose_18 ?_
  refine lv_iload_n hx hb dX3_choose_21 rfl (lv_at hl 2 rfl) ?_
  obtain ⟨hi_5, hE⟩ := gd_some hE
  refine ww_aald hx hb hW hi_5 dX3_choose_22 ?_
  refine ww_get (C := RX2) (T := TX2) (N := 1) (ref := RX2) (ci := 2) (v := .ref (ad (lc x2.toNatClampNeg))) hx hb hts hin2 hown hW (tc x2.toNatClampNeg) (cE_T (ad := ad) (ks := ks) (st := st) (in15 hi_5)).1 (cE_T (in15 hi_5)).2 rfl 0 (by decide) hf68 (fun _ h9 => h9) rfl dX3_choose_23 ?_
  refine lv_astore (lv' := [(5, .ref (ad (lc x2.toNatClampNeg))), (0, .ref (ad 0)), (1, .int x1), (2, .int x2), (3, .int x3), (4, .int x4)]) hx hb dX3_choose_26 hl (by decide) rfl (fun ls hl => ?_)
  refine lv_aload_n hx hb dX3_choose_28 rfl (lv_at hl 1 rfl) ?_
  refine ww_get (C := RX3) (T := TX3) (N := 10) (ref := RX3) (ci := 3) (v := .ref (ad 1)) hx hb hts hin3 hown hW 0 (by decide) rfl rfl 0 (by decide) hf11 (fun _ h9 => h9) rfl dX3_choose_29 ?_
  refine lv_iload_n hx hb dX3_choose_32 rfl (lv_at hl 4 rfl) ?_
  obtain ⟨hi_6, hE⟩ := gd_some hE
  refine ww_aald hx hb hW hi_6 dX3_choose_33 ?_
  refine ww_get (C := RX2) (T := TX2) (N := 1) (ref := RX2) (ci := 2) (v := .ref (ad (lc x3.toNatClampNeg))) hx hb hts hin2 hown hW (tc x3.toNatClampNeg) (cE_T (ad := ad) (ks := ks) (st := st) (in15 hi_6)).1 (cE_T (in15 hi_6)).2 rfl 0 (by decide) hf68 (fun _ h9 => h9) rfl dX3_choose_34 ?_
  refine lv_astore (lv' := [(6, .ref (ad (lc x3.toNatClampNeg))), (5, .ref (ad (lc x2.toNatClampNeg))), (0, .ref (ad 0)), (1, .int x1), (2, .int x2), (3, .int x3), (4, .int x4)]) hx hb dX3_choose_37 hl (by decide) rfl (fun ls hl => ?_)
  refine lv_aload_n hx hb dX3_choose_39 rfl (lv_at hl 2 rfl) ?_
  refine ww_get (C := RX3) (T := TX3) (N := 10) (ref := RX3) (ci := 3) (v := .ref (ad 1)) hx hb hts hin3 hown hW 0 (by decide) rfl rfl 0 (by decide) hf11 (fun _ h9 => h9) rfl dX3_choose_40 ?_
  refine lv_iload hx hb dX3_choose_43 (lv_at hl 6 rfl) ?_
  obtain ⟨hi_7, hE⟩ := gd_some hE
  refine ww_aald hx hb hW hi_7 dX3_choose_45 ?_
  refine ww_get (C := RX2) (T := TX2) (N := 1) (ref := RX2) (ci := 2) (v := .ref (ad (lc x4.toNatClampNeg))) hx hb hts hin2 hown hW (tc x4.toNatClampNeg) (cE_T (ad := ad) (ks := ks) (st := st) (in15 hi_7)).1 (cE_T (in15 hi_7)).2 rfl 0 (by decide) hf68 (fun _ h9 => h9) rfl dX3_choose_46 ?_
  refine lv_astore (lv' := [(7, .ref (ad (lc x4.toNatClampNeg))), (6, .ref (ad (lc x3.toNatClampNeg))), (5, .ref (ad (lc x2.toNatClampNeg))), (0, .ref (ad 0)), (1, .int x1), (2, .int x2), (3, .int x3), (4, .int x4)]) hx hb dX3_choose_49 hl (by decide) rfl (fun ls hl => ?_)
  refine lv_iconst (v := 0) hx hb dX3_choose_51 (by decide) ?_
  refine lv_istore (lv' := [(8, .int (0 : Int32)), (7, .ref (ad (lc x4.toNatClampNeg))), (6, .ref (ad (lc x3.toNatClampNeg))), (5, .ref (ad (lc x2.toNatClampNeg))), (0, .ref (ad 0)), (1, .int x1), (2, .int x2), (3, .int x3), (4, .int x4)]) hx hb dX3_choose_52 hl (by decide) rfl (fun ls hl => ?_)
  obtain ⟨st_11, hz, hE⟩ := ob_some hE
  refine L54 FU st x1 x2.toNatClampNeg x3.toNatClampNeg x4.toNatClampNeg (0 : Int32) (in15 hi_5) (in15 hi_6) (in15 hi_7) st_11 _ _ _ hz hW (lv_sub hl [4, 5, 3, 2, 1, 0] rfl) (fun H locs ls hW hl => ?_)
  refine lv_aload_n hx hb dX3_choose_104 rfl (lv_at hl 0 rfl) ?_
  refine lv_iload_n hx hb dX3_choose_105 rfl (lv_at hl 1 rfl) ?_
  obtain ⟨r_14, st_12, hc_13, hE⟩ := ob2_some hE
  refine ww_callVi (As := [.int x1]) (rest := []) ⟨hx, hb, hml, hown, hts⟩ hW (ctX3_place l D ks ad _ st_11 x1 hc_13) (cwV 1 hts gX3_choose_X3_place rfl rfl rfl (by decide +kernel) ⟨Nat.le_of_ble_eq_true rfl, Nat.le_of_ble_eq_true rfl⟩) hW.recvX rfl hl.1 rfl (Nat.le_of_ble_eq_true rfl) dX3_choose_106 ⟨Nat.zero_le _, Nat.zero_le _⟩ (fun H locs hW => ?_)
  obtain ⟨rfl, rfl⟩ := pair_x hE
  exact W.iret hx hb hr (fun t ht hWm => hW.qi ht hWm) hW.2.2.1.2.2 dX3_choose_109
abbrev rmX3_put : Room := { frames := 17, cells := 0, slots := 0, locals := 379 }
set_option maxRecDepth 100000 in
theorem in2_X3_put : ∀ w ∈ wsX20, w ∈ wsX3_put := by decide +kernel
set_option maxRecDepth 100000 in
theorem in3_X3_put : ∀ w ∈ wsX30, w ∈ wsX3_put := by decide +kernel
set_option maxHeartbeats 4000000 in
set_option maxRecDepth 100000 in
theorem ctX3_put (l : Launch) (D : va_G) (ks : KA) (ad : Nat → Nat) (sz : Nat) (st : St) (x1 : Int32) (x2 : Int32) (x3 : Int32) (x4 : Int32)  {r : Int32} {st' : St} (hE : sX3_put st x1 x2 x3 x4 = some (r, st')) : CI l D ks yX3_put wsX3_put rmX3_put [.ref (ad 0), .int x1, .int x2, .int x3, .int x4] ad sz st r st' := by
  unfold sX3_put at hE
  refine Met.ofW (cc := cX3_put) (maxL := 7) (ret := (some .int)) (by decide) rfl ?_
  intro p e s m args below meth c s₁ B hml hv
  obtain ⟨hargs, hPW⟩ := hv
  have hW := WW.entry hPW
  have hx := B.exec
  have hb := B.bytes
  have hr := B.returns
  have hts := atoms_spec (ws := wsX3_put) B.pre
  have hown : s.vm.findClass RX3 = some m.cls := findClass_of_methodNamed B.named
  have hlocks := B.notSynchronized
  have hin2 : ∀ w ∈ u_ws RX2 TX2 1, w ∈ wsX3_put := in2_X3_put
  have hin3 : ∀ w ∈ u_ws RX3 TX3 10, w ∈ wsX3_put := in3_X3_put
  have hf11 := hts (.fieldLink RX3 11 "Trellis" "functions" "[LTrellis$Table;") (by decide +kernel)
  have hf34 := hts (.fieldLink RX3 34 "Trellis" "work" "LTrellis$Table;") (by decide +kernel)
  have hf68 := hts (.fieldLink RX3 68 "Trellis$Table" "words" "[J") (by decide +kernel)
  have hl := lv_entry ([.ref (ad 0), .int x1, .int x2, .int x3, .int x4]) (n := 7) (Nat.le_of_ble_eq_true rfl)
  have hfr : entryFrame m args 7 = F0 m 0 (lg_sl ([.ref (ad 0), .int x1, .int x2, .int x3, .int x4]) ++ List.replicate (7 - (lg_sl ([.ref (ad 0), .int x1, .int x2, .int x3, .int x4])).length) Slot.unset).toArray [] := by rw [hargs, lg_entry_eq]
  rw [hfr]
  generalize (lg_sl ([.ref (ad 0), .int x1, .int x2, .int x3, .int x4]) ++ List.replicate (7 - (lg_sl ([.ref (ad 0), .int x1, .int x2, .int x3, .int x4])).length) Slot.unset).toArray = ls at hl ⊢
  have hl : lv_has ls 7 [(0, .ref (ad 0)), (1, .int x1), (2, .int x2), (3, .int x3), (4, .int x4)] := hl
  have L23 : ∀ (n : Nat) (st : St) (x1 : Int32) (x3 : Int32) (x4 : Int32) (t5 : Nat) (x6 : Int32) (hu5 : t5 < 15) (stz : St) (H : Heap) (locs : List Loc) (ls : Array Slot), sX3_put_L23 n st x1 x3 x4 t5 x6 = some stz → WW D ks ad (AA ad sz) s st H locs → lv_has ls 7 [(0, .ref (ad 0)), (1, .int x1), (3, .int x3), (4, .int x4), (5, .ref (ad (tc t5))), (6, .int x6)] → (∀ (H : Heap) (locs : List Loc) (ls : Array Slot), WW D ks ad (AA ad sz) s stz H locs → lv_has ls 7 [(0, .ref (ad 0)), (1, .int x1)] → W p l e (headSpec wsX3_put rmX3_put).room s m args below meth c H locs 0 0 (MQ below (va_Qi (fun (x : Int32) (u : St) => x = r ∧ u = st') (QW D ks ad sz) (AA ad sz)) args s 0 0 (AA ad sz)) (F0 m 56 ls [])) → W p l e (headSpec wsX3_put rmX3_put).room s m args below meth c H locs 0 0 (MQ below (va_Qi (fun (x : Int32) (u : St) => x = r ∧ u = st') (QW D ks ad sz) (AA ad sz)) args s 0 0 (AA ad sz)) (F0 m 23 ls []) := by
    intro n
    induction n with
    | zero =>
      intro st x1 x3 x4 t5 x6 hu5 stz H locs ls hE hW hl kx
      exact none_x hE
    | succ n ih =>
      intro st x1 x3 x4 t5 x6 hu5 stz H locs ls hE hW hl kx
      rw [sX3_put_L23] at hE
      refine lv_iload hx hb dX3_put_23 (lv_at hl 5 rfl) ?_
      refine lv_bipush (v := 16) hx hb dX3_put_25 (by decide) ?_
      refine lv_icmp_ge (tgt := 56) hx hb dX3_put_27 (by decide) (fun c_5 => ?_) (fun c_5 => ?_)
      · have hE := if_t c_5 hE
        obtain rfl := some_x hE
        exact kx _ _ _ hW (lv_sub hl [0, 1] rfl)
      · have hE := if_f c_5 hE
        refine lv_aload_n hx hb dX3_put_30 rfl (lv_at hl 0 rfl) ?_
        refine ww_get (C := RX3) (T := TX3) (N := 10) (ref := RX3) (ci := 3) (v := .ref (ad (tc 12))) hx hb hts hin3 hown hW 0 (by decide) rfl rfl 4 (by decide) hf34 (fun _ h9 => h9) rfl dX3_put_31 ?_
        refine ww_get (C := RX2) (T := TX2) (N := 1) (ref := RX2) (ci := 2) (v := .ref (ad (lc 12))) hx hb hts hin2 hown hW (tc 12) (cE_T (ad := ad) (ks := ks) (st := st) (by decide)).1 (cE_T (by decide)).2 rfl 0 (by decide) hf68 (fun _ h9 => h9) rfl dX3_put_34 ?_
        refine lv_iload hx hb dX3_put_37 (lv_at hl 5 rfl) ?_
        refine lv_aload hx hb dX3_put_39 (lv_at hl 4 rfl) ?_
        refine lv_iload_n hx hb dX3_put_41 rfl (lv_at hl 2 rfl) ?_
        refine lv_iload hx hb dX3_put_42 (lv_at hl 3 rfl) ?_
        refine lv_iload hx hb dX3_put_44 (lv_at hl 5 rfl) ?_
        obtain ⟨r_7, hc_6, hE⟩ := ob_some hE
        refine ww_callVl (As := [.int x3, .int x4, .int x6]) (rest := [.int x6, .ref (ad (lc 12))]) ⟨hx, hb, hml, hown, hts⟩ hW (ctX2_wordWith l D ks ad _ st t5 x3 x4 x6 hu5 hc_6) (cwV 3 hts gX3_put_X2_wordWith rfl rfl rfl (by decide +kernel) ⟨Nat.le_of_ble_eq_true rfl, Nat.le_of_ble_eq_true rfl⟩) (hW.recvT hu5) rfl hl.1 rfl (Nat.le_of_ble_eq_true rfl) dX3_put_46 ⟨Nat.zero_le _, Nat.zero_le _⟩ (fun H locs hW => ?_)
        obtain ⟨hin, hE⟩ := gd_some hE
        obtain ⟨st_8, est, hE⟩ := lt_some hE
        refine ww_last hx hb hW 12 (by decide) (lLen_in (by decide) hin) est dX3_put_49 (fun H locs hW => ?_)
        obtain ⟨x6_9, e, hE⟩ := lt_some hE
        refine lv_iinc (v := x6_9) (lv' := [(6, .int x6_9), (0, .ref (ad 0)), (1, .int x1), (3, .int x3), (4, .int x4), (5, .ref (ad (tc t5)))]) hx hb dX3_put_50 hl (k := 5) rfl (by rw [e]; rfl) (by decide) rfl (fun ls hl => ?_)
        refine lv_goto (tgt := 23) hx hb dX3_put_53 (by decide) ?_
        exact ih st_8 x1 x3 x4 t5 x6_9 hu5 _ _ _ _ hE hW (lv_sub hl [1, 2, 3, 4, 5, 0] rfl) kx
  refine lv_iload_n hx hb dX3_put_0 rfl (lv_at hl 1 rfl) ?_
  obtain ⟨_, hc_1, hE⟩ := ob_some hE
  refine ww_callSv (As := [.int x1]) (rest := []) ⟨hx, hb, hml, hown, hts⟩ hW (ctX3_checkSlot l D ks ad _ st x1 hc_1) (va_cwS 1 hts gX3_put_X3_checkSlot rfl rfl rfl (by decide +kernel) ⟨Nat.le_of_ble_eq_true rfl, Nat.le_of_ble_eq_true rfl⟩) rfl hl.1 rfl (Nat.le_of_ble_eq_true rfl) dX3_put_1 ⟨Nat.zero_le _, Nat.zero_le _⟩ (fun H locs hW => ?_)
  refine lv_iload_n hx hb dX3_put_4 rfl (lv_at hl 2 rfl) ?_
  obtain ⟨_, hc_2, hE⟩ := ob_some hE
  refine ww_callSv (As := [.int x2]) (rest := []) ⟨hx, hb, hml, hown, hts⟩ hW (ctX3_checkSlot l D ks ad _ st x2 hc_2) (va_cwS 1 hts gX3_put_X3_checkSlot rfl rfl rfl (by decide +kernel) ⟨Nat.le_of_ble_eq_true rfl, Nat.le_of_ble_eq_true rfl⟩) rfl hl.1 rfl (Nat.le_of_ble_eq_true rfl) dX3_put_5 ⟨Nat.zero_le _, Nat.zero_le _⟩ (fun H locs hW => ?_)
  refine lv_iload_n hx hb dX3_put_8 rfl (lv_at hl 3 rfl) ?_
  obtain ⟨_, hc_3, hE⟩ := ob_some hE
  refine ww_callSv (As := [.int x3]) (rest := []) ⟨hx, hb, hml, hown, hts⟩ hW (ctX3_checkVariable l D ks ad _ st x3 hc_3) (va_cwS 1 hts gX3_put_X3_checkVariable rfl rfl rfl (by decide +kernel) ⟨Nat.le_of_ble_eq_true rfl, Nat.le_of_ble_eq_true rfl⟩) rfl hl.1 rfl (Nat.le_of_ble_eq_true rfl) dX3_put_9 ⟨Nat.zero_le _, Nat.zero_le _⟩ (fun H locs hW => ?_)
  refine lv_aload_n hx hb dX3_put_12 rfl (lv_at hl 0 rfl) ?_
  refine ww_get (C := RX3) (T := TX3) (N := 10) (ref := RX3) (ci := 3) (v := .ref (ad 1)) hx hb hts hin3 hown hW 0 (by decide) rfl rfl 0 (by decide) hf11 (fun _ h9 => h9) rfl dX3_put_13 ?_
  refine lv_iload_n hx hb dX3_put_16 rfl (lv_at hl 2 rfl) ?_
  obtain ⟨hi_4, hE⟩ := gd_some hE
  refine ww_aald hx hb hW hi_4 dX3_put_17 ?_
  refine lv_astore (lv' := [(5, .ref (ad (tc x2.toNatClampNeg))), (0, .ref (ad 0)), (1, .int x1), (2, .int x2), (3, .int x3), (4, .int x4)]) hx hb dX3_put_18 hl (by decide) rfl (fun ls hl => ?_)
  refine lv_iconst (v := 0) hx hb dX3_put_20 (by decide) ?_
  refine lv_istore (lv' := [(6, .int (0 : Int32)), (5, .ref (ad (tc x2.toNatClampNeg))), (0, .ref (ad 0)), (1, .int x1), (2, .int x2), (3, .int x3), (4, .int x4)]) hx hb dX3_put_21 hl (by decide) rfl (fun ls hl => ?_)
  obtain ⟨st_10, hz, hE⟩ := ob_some hE
  refine L23 FU st x1 x3 x4 x2.toNatClampNeg (0 : Int32) (in15 hi_4) st_10 _ _ _ hz hW (lv_sub hl [2, 3, 5, 6, 1, 0] rfl) (fun H locs ls hW hl => ?_)
  refine lv_aload_n hx hb dX3_put_56 rfl (lv_at hl 0 rfl) ?_
  refine lv_iload_n hx hb dX3_put_57 rfl (lv_at hl 1 rfl) ?_
  obtain ⟨r_13, st_11, hc_12, hE⟩ := ob2_some hE
  refine ww_callVi (As := [.int x1]) (rest := []) ⟨hx, hb, hml, hown, hts⟩ hW (ctX3_place l D ks ad _ st_10 x1 hc_12) (cwV 1 hts gX3_put_X3_place rfl rfl rfl (by decide +kernel) ⟨Nat.le_of_ble_eq_true rfl, Nat.le_of_ble_eq_true rfl⟩) hW.recvX rfl hl.1 rfl (Nat.le_of_ble_eq_true rfl) dX3_put_58 ⟨Nat.zero_le _, Nat.zero_le _⟩ (fun H locs hW => ?_)
  obtain ⟨rfl, rfl⟩ := pair_x hE
  exact W.iret hx hb hr (fun t ht hWm => hW.qi ht hWm) hW.2.2.1.2.2 dX3_put_61
abbrev rmX3_compose : Room := { frames := 17, cells := 0, slots := 0, locals := 379 }
set_option maxRecDepth 100000 in
theorem in2_X3_compose : ∀ w ∈ wsX20, w ∈ wsX3_compose := by decide +kernel
set_option maxRecDepth 100000 in
theorem in3_X3_compose : ∀ w ∈ wsX30, w ∈ wsX3_compose := by decide +kernel
set_option maxHeartbeats 4000000 in
set_option maxRecDepth 100000 in
theorem ctX3_compose (l : Launch) (D : va_G) (ks : KA) (ad : Nat → Nat) (sz : Nat) (st : St) (x1 : Int32) (x2 : Int32) (x3 : Int32) (x4 : Int32)  {r : Int32} {st' : St} (hE : sX3_compose st x1 x2 x3 x4 = some (r, st')) : CI l D ks yX3_compose wsX3_compose rmX3_compose [.ref (ad 0), .int x1, .int x2, .int x3, .int x4] ad sz st r st' := by
  unfold sX3_compose at hE
  refine Met.ofW (cc := cX3_compose) (maxL := 8) (ret := (some .int)) (by decide) rfl ?_
  intro p e s m args below meth c s₁ B hml hv
  obtain ⟨hargs, hPW⟩ := hv
  have hW := WW.entry hPW
  have hx := B.exec
  have hb := B.bytes
  have hr := B.returns
  have hts := atoms_spec (ws := wsX3_compose) B.pre
  have hown : s.vm.findClass RX3 = some m.cls := findClass_of_methodNamed B.named
  have hlocks := B.notSynchronized
  have hin2 : ∀ w ∈ u_ws RX2 TX2 1, w ∈ wsX3_compose := in2_X3_compose
  have hin3 : ∀ w ∈ u_ws RX3 TX3 10, w ∈ wsX3_compose := in3_X3_compose
  have hf11 := hts (.fieldLink RX3 11 "Trellis" "functions" "[LTrellis$Table;") (by decide +kernel)
  have hf68 := hts (.fieldLink RX3 68 "Trellis$Table" "words" "[J") (by decide +kernel)
  have hf34 := hts (.fieldLink RX3 34 "Trellis" "work" "LTrellis$Table;") (by decide +kernel)
  have hl := lv_entry ([.ref (ad 0), .int x1, .int x2, .int x3, .int x4]) (n := 8) (Nat.le_of_ble_eq_true rfl)
  have hfr : entryFrame m args 8 = F0 m 0 (lg_sl ([.ref (ad 0), .int x1, .int x2, .int x3, .int x4]) ++ List.replicate (8 - (lg_sl ([.ref (ad 0), .int x1, .int x2, .int x3, .int x4])).length) Slot.unset).toArray [] := by rw [hargs, lg_entry_eq]
  rw [hfr]
  generalize (lg_sl ([.ref (ad 0), .int x1, .int x2, .int x3, .int x4]) ++ List.replicate (8 - (lg_sl ([.ref (ad 0), .int x1, .int x2, .int x3, .int x4])).length) Slot.unset).toArray = ls at hl ⊢
  have hl : lv_has ls 8 [(0, .ref (ad 0)), (1, .int x1), (2, .int x2), (3, .int x3), (4, .int x4)] := hl
  have L40 : ∀ (n : Nat) (st : St) (x1 : Int32) (x3 : Int32) (t5 : Nat) (t6 : Nat) (x7 : Int32) (hu5 : t5 < 15) (hu6 : t6 < 15) (stz : St) (H : Heap) (locs : List Loc) (ls : Array Slot), sX3_compose_L40 n st x1 x3 t5 t6 x7 = some stz → WW D ks ad (AA ad sz) s st H locs → lv_has ls 8 [(0, .ref (ad 0)), (1, .int x1), (3, .int x3), (5, .ref (ad (tc t5))), (6, .ref (ad (lc t6))), (7, .int x7)] → (∀ (H : Heap) (locs : List Loc) (ls : Array Slot), WW D ks ad (AA ad sz) s stz H locs → lv_has ls 8 [(0, .ref (ad 0)), (1, .int x1)] → W p l e (headSpec wsX3_compose rmX3_compose).room s m args below meth c H locs 0 0 (MQ below (va_Qi (fun (x : Int32) (u : St) => x = r ∧ u = st') (QW D ks ad sz) (AA ad sz)) args s 0 0 (AA ad sz)) (F0 m 98 ls [])) → W p l e (headSpec wsX3_compose rmX3_compose).room s m args below meth c H locs 0 0 (MQ below (va_Qi (fun (x : Int32) (u : St) => x = r ∧ u = st') (QW D ks ad sz) (AA ad sz)) args s 0 0 (AA ad sz)) (F0 m 40 ls []) := by
    intro n
    induction n with
    | zero =>
      intro st x1 x3 t5 t6 x7 hu5 hu6 stz H locs ls hE hW hl kx
      exact none_x hE
    | succ n ih =>
      intro st x1 x3 t5 t6 x7 hu5 hu6 stz H locs ls hE hW hl kx
      rw [sX3_compose_L40] at hE
      refine lv_iload hx hb dX3_compose_40 (lv_at hl 5 rfl) ?_
      refine lv_bipush (v := 16) hx hb dX3_compose_42 (by decide) ?_
      refine lv_icmp_ge (tgt := 98) hx hb dX3_compose_44 (by decide) (fun c_7 => ?_) (fun c_7 => ?_)
      · have hE := if_t c_7 hE
        obtain rfl := some_x hE
        exact kx _ _ _ hW (lv_sub hl [0, 1] rfl)
      · have hE := if_f c_7 hE
        refine lv_aload_n hx hb dX3_compose_47 rfl (lv_at hl 0 rfl) ?_
        refine ww_get (C := RX3) (T := TX3) (N := 10) (ref := RX3) (ci := 3) (v := .ref (ad (tc 12))) hx hb hts hin3 hown hW 0 (by decide) rfl rfl 4 (by decide) hf34 (fun _ h9 => h9) rfl dX3_compose_48 ?_
        refine ww_get (C := RX2) (T := TX2) (N := 1) (ref := RX2) (ci := 2) (v := .ref (ad (lc 12))) hx hb hts hin2 hown hW (tc 12) (cE_T (ad := ad) (ks := ks) (st := st) (by decide)).1 (cE_T (by decide)).2 rfl 0 (by decide) hf68 (fun _ h9 => h9) rfl dX3_compose_51 ?_
        refine lv_iload hx hb dX3_compose_54 (lv_at hl 5 rfl) ?_
        refine lv_aload hx hb dX3_compose_56 (lv_at hl 4 rfl) ?_
        refine lv_iload hx hb dX3_compose_58 (lv_at hl 5 rfl) ?_
        obtain ⟨hin, hE⟩ := gd_some hE
        refine ww_lald hx hb hW t6 (Nat.lt_of_lt_of_le hu6 (by decide)) (lLen_in hu6 hin) dX3_compose_60 ?_
        refine lv_aload hx hb dX3_compose_61 (lv_at hl 3 rfl) ?_
        refine lv_iload_n hx hb dX3_compose_63 rfl (lv_at hl 2 rfl) ?_
        refine lv_iconst (v := 1) hx hb dX3_compose_64 (by decide) ?_
        refine lv_iload hx hb dX3_compose_65 (lv_at hl 5 rfl) ?_
        obtain ⟨r_9, hc_8, hE⟩ := ob_some hE
        refine ww_callVl (As := [.int x3, .int (1 : Int32), .int x7]) (rest := [.long (gL t6 st x7), .int x7, .ref (ad (lc 12))]) ⟨hx, hb, hml, hown, hts⟩ hW (ctX2_wordWith l D ks ad _ st t5 x3 (1 : Int32) x7 hu5 hc_8) (cwV 3 hts gX3_compose_X2_wordWith rfl rfl rfl (by decide +kernel) ⟨Nat.le_of_ble_eq_true rfl, Nat.le_of_ble_eq_true rfl⟩) (hW.recvT hu5) rfl hl.1 rfl (Nat.le_of_ble_eq_true rfl) dX3_compose_67 ⟨Nat.zero_le _, Nat.zero_le _⟩ (fun H locs hW => ?_)
        refine lv_land hx hb dX3_compose_70 ?_
        refine lv_aload hx hb dX3_compose_71 (lv_at hl 4 rfl) ?_
        refine lv_iload hx hb dX3_compose_73 (lv_at hl 5 rfl) ?_
        obtain ⟨hin, hE⟩ := gd_some hE
        refine ww_lald hx hb hW t6 (Nat.lt_of_lt_of_le hu6 (by decide)) (lLen_in hu6 hin) dX3_compose_75 ?_
        refine lv_ldc2 (v := (-1)) hx hb hown (hts (.constantLong RX3 87 (-1)) (by decide +kernel)) dX3_compose_76 ?_
        refine lv_lxor hx hb dX3_compose_79 ?_
        refine lv_aload hx hb dX3_compose_80 (lv_at hl 3 rfl) ?_
        refine lv_iload_n hx hb dX3_compose_82 rfl (lv_at hl 2 rfl) ?_
        refine lv_iconst (v := 0) hx hb dX3_compose_83 (by decide) ?_
        refine lv_iload hx hb dX3_compose_84 (lv_at hl 5 rfl) ?_
        obtain ⟨r_11, hc_10, hE⟩ := ob_some hE
        refine ww_callVl (As := [.int x3, .int (0 : Int32), .int x7]) (rest := [.long ((gL t6 st x7) ^^^ (-1 : Int64)), .long ((gL t6 st x7) &&& r_9), .int x7, .ref (ad (lc 12))]) ⟨hx, hb, hml, hown, hts⟩ hW (ctX2_wordWith l D ks ad _ st t5 x3 (0 : Int32) x7 hu5 hc_10) (cwV 3 hts gX3_compose_X2_wordWith rfl rfl rfl (by decide +kernel) ⟨Nat.le_of_ble_eq_true rfl, Nat.le_of_ble_eq_true rfl⟩) (hW.recvT hu5) rfl hl.1 rfl (Nat.le_of_ble_eq_true rfl) dX3_compose_86 ⟨Nat.zero_le _, Nat.zero_le _⟩ (fun H locs hW => ?_)
        refine lv_land hx hb dX3_compose_89 ?_
        refine lv_lor hx hb dX3_compose_90 ?_
        obtain ⟨hin, hE⟩ := gd_some hE
        obtain ⟨st_12, est, hE⟩ := lt_some hE
        refine ww_last hx hb hW 12 (by decide) (lLen_in (by decide) hin) est dX3_compose_91 (fun H locs hW => ?_)
        obtain ⟨x7_13, e, hE⟩ := lt_some hE
        refine lv_iinc (v := x7_13) (lv' := [(7, .int x7_13), (0, .ref (ad 0)), (1, .int x1), (3, .int x3), (5, .ref (ad (tc t5))), (6, .ref (ad (lc t6)))]) hx hb dX3_compose_92 hl (k := 5) rfl (by rw [e]; rfl) (by decide) rfl (fun ls hl => ?_)
        refine lv_goto (tgt := 40) hx hb dX3_compose_95 (by decide) ?_
        exact ih st_12 x1 x3 t5 t6 x7_13 hu5 hu6 _ _ _ _ hE hW (lv_sub hl [1, 2, 3, 4, 5, 0] rfl) kx
  refine lv_iload_n hx hb dX3_compose_0 rfl (lv_at hl 1 rfl) ?_
  obtain ⟨_, hc_1, hE⟩ := ob_some hE
  refine ww_callSv (As := [.int x1]) (rest := []) ⟨hx, hb, hml, hown, hts⟩ hW (ctX3_checkSlot l D ks ad _ st x1 hc_1) (va_cwS 1 hts gX3_compose_X3_checkSlot rfl rfl rfl (by decide +kernel) ⟨Nat.le_of_ble_eq_true rfl, Nat.le_of_ble_eq_true rfl⟩) rfl hl.1 rfl (Nat.le_of_ble_eq_true rfl) dX3_compose_1 ⟨Nat.zero_le _, Nat.zero_le _⟩ (fun H locs hW => ?_)
  refine lv_iload_n hx hb dX3_compose_4 rfl (lv_at hl 2 rfl) ?_
  obtain ⟨_, hc_2, hE⟩ := ob_some hE
  refine ww_callSv (As := [.int x2]) (rest := []) ⟨hx, hb, hml, hown, hts⟩ hW (ctX3_checkSlot l D ks ad _ st x2 hc_2) (va_cwS 1 hts gX3_compose_X3_checkSlot rfl rfl rfl (by decide +kernel) ⟨Nat.le_of_ble_eq_true rfl, Nat.le_of_ble_eq_true rfl⟩) rfl hl.1 rfl (Nat.le_of_ble_eq_true rfl) dX3_compose_5 ⟨Nat.zero_le _, Nat.zero_le _⟩ (fun H locs hW => ?_)
  refine lv_iload_n hx hb dX3_compose_8 rfl (lv_at hl 3 rfl) ?_
  obtain ⟨_, hc_3, hE⟩ := ob_some hE
  refine ww_callSv (As := [.int x3]) (rest := []) ⟨hx, hb, hml, hown, hts⟩ hW (ctX3_checkVariable l D ks ad _ st x3 hc_3) (va_cwS 1 hts gX3_compose_X3_checkVariable rfl rfl rfl (by decide +kernel) ⟨Nat.le_of_ble_eq_true rfl, Nat.le_of_ble_eq_true rfl⟩) rfl hl.1 rfl (Nat.le_of_ble_eq_true rfl) dX3_compose_9 ⟨Nat.zero_le _, Nat.zero_le _⟩ (fun H locs hW => ?_)
  refine lv_iload hx hb dX3_compose_12 (lv_at hl 4 rfl) ?_
  obtain ⟨_, hc_4, hE⟩ := ob_some hE
  refine ww_callSv (As := [.int x4]) (rest := []) ⟨hx, hb, hml, hown, hts⟩ hW (ctX3_checkSlot l D ks ad _ st x4 hc_4) (va_cwS 1 hts gX3_compose_X3_checkSlot rfl rfl rfl (by decide +kernel) ⟨Nat.le_of_ble_eq_true rfl, Nat.le_of_ble_eq_true rfl⟩) rfl hl.1 rfl (Nat.le_of_ble_eq_true rfl) dX3_compose_14 ⟨Nat.zero_le _, Nat.zero_le _⟩ (fun H locs hW => ?_)
  refine lv_aload_n hx hb dX3_compose_17 rfl (lv_at hl 0 rfl) ?_
  refine ww_get (C := RX3) (T := TX3) (N := 10) (ref := RX3) (ci := 3) (v := .ref (ad 1)) hx hb hts hin3 hown hW 0 (by decide) rfl rfl 0 (by decide) hf11 (fun _ h9 => h9) rfl dX3_compose_18 ?_
  refine lv_iload_n hx hb dX3_compose_21 rfl (lv_at hl 2 rfl) ?_
  obtain ⟨hi_5, hE⟩ := gd_some hE
  refine ww_aald hx hb hW hi_5 dX3_compose_22 ?_
  refine lv_astore (lv' := [(5, .ref (ad (tc x2.toNatClampNeg))), (0, .ref (ad 0)), (1, .int x1), (2, .int x2), (3, .int x3), (4, .int x4)]) hx hb dX3_compose_23 hl (by decide) rfl (fun ls hl => ?_)
  refine lv_aload_n hx hb dX3_compose_25 rfl (lv_at hl 1 rfl) ?_
  refine ww_get (C := RX3) (T := TX3) (N := 10) (ref := RX3) (ci := 3) (v := .ref (ad 1)) hx hb hts hin3 hown hW 0 (by decide) rfl rfl 0 (by decide) hf11 (fun _ h9 => h9) rfl dX3_compose_26 ?_
  refine lv_iload hx hb dX3_compose_29 (lv_at hl 5 rfl) ?_
  obtain ⟨hi_6, hE⟩ := gd_some hE
  refine ww_aald hx hb hW hi_6 dX3_compose_31 ?_
  refine ww_get (C := RX2) (T := TX2) (N := 1) (ref := RX2) (ci := 2) (v := .ref (ad (lc x4.toNatClampNeg))) hx hb hts hin2 hown hW (tc x4.toNatClampNeg) (cE_T (ad := ad) (ks := ks) (st := st) (in15 hi_6)).1 (cE_T (in15 hi_6)).2 rfl 0 (by decide) hf68 (fun _ h9 => h9) rfl dX3_compose_32 ?_
  refine lv_astore (lv' := [(6, .ref (ad (lc x4.toNatClampNeg))), (5, .ref (ad (tc x2.toNatClampNeg))), (0, .ref (ad 0)), (1, .int x1), (2, .int x2), (3, .int x3), (4, .int x4)]) hx hb dX3_compose_35 hl (by decide) rfl (fun ls hl => ?_)
  refine lv_iconst (v := 0) hx hb dX3_compose_37 (by decide) ?_
  refine lv_istore (lv' := [(7, .int (0 : Int32)), (6, .ref (ad (lc x4.toNatClampNeg))), (5, .ref (ad (tc x2.toNatClampNeg))), (0, .ref (ad 0)), (1, .int x1), (2, .int x2), (3, .int x3), (4, .int x4)]) hx hb dX3_compose_38 hl (by decide) rfl (fun ls hl => ?_)
  obtain ⟨st_14, hz, hE⟩ := ob_some hE
  refine L40 FU st x1 x3 x2.toNatClampNeg x4.toNatClampNeg (0 : Int32) (in15 hi_5) (in15 hi_6) st_14 _ _ _ hz hW (lv_sub hl [3, 4, 6, 2, 1, 0] rfl) (fun H locs ls hW hl => ?_)
  refine lv_aload_n hx hb dX3_compose_98 rfl (lv_at hl 0 rfl) ?_
  refine lv_iload_n hx hb dX3_compose_99 rfl (lv_at hl 1 rfl) ?_
  obtain ⟨r_17, st_15, hc_16, hE⟩ := ob2_some hE
  refine ww_callVi (As := [.int x1]) (rest := []) ⟨hx, hb, hml, hown, hts⟩ hW (ctX3_place l D ks ad _ st_14 x1 hc_16) (cwV 1 hts gX3_compose_X3_place rfl rfl rfl (by decide +kernel) ⟨Nat.le_of_ble_eq_true rfl, Nat.le_of_ble_eq_true rfl⟩) hW.recvX rfl hl.1 rfl (Nat.le_of_ble_eq_true rfl) dX3_compose_100 ⟨Nat.zero_le _, Nat.zero_le _⟩ (fun H locs hW => ?_)
  obtain ⟨rfl, rfl⟩ := pair_x hE
  exact W.iret hx hb hr (fun t ht hWm => hW.qi ht hWm) hW.2.2.1.2.2 dX3_compose_103
abbrev rmX3_checkSet : Room := { frames := 1, cells := 0, slots := 0, locals := 60 }
set_option maxHeartbeats 4000000 in
set_option maxRecDepth 100000 in
theorem ctX3_checkSet (l : Launch) (D : va_G) (ks : KA) (ad : Nat → Nat) (sz : Nat) (st : St) (x0 : Int32)   (hE : sX3_checkSet st x0 = some ()) : CV l D ks yX3_checkSet wsX3_checkSet rmX3_checkSet [.int x0] ad sz st st := by
  unfold sX3_checkSet at hE
  refine Met.ofW (cc := cX3_checkSet) (maxL := 1) (ret := none) (by decide) rfl ?_
  intro p e s m args below meth c s₁ B hml hv
  obtain ⟨hargs, hPW⟩ := hv
  have hW := WW.entry hPW
  have hx := B.exec
  have hb := B.bytes
  have hr := B.returns
  have hts := atoms_spec (ws := wsX3_checkSet) B.pre
  have hown : s.vm.findClass RX3 = some m.cls := findClass_of_methodNamed B.named
  have hlocks := B.notSynchronized
  have hl := lv_entry ([.int x0]) (n := 1) (Nat.le_of_ble_eq_true rfl)
  have hfr : entryFrame m args 1 = F0 m 0 (lg_sl ([.int x0]) ++ List.replicate (1 - (lg_sl ([.int x0])).length) Slot.unset).toArray [] := by rw [hargs, lg_entry_eq]
  rw [hfr]
  generalize (lg_sl ([.int x0]) ++ List.replicate (1 - (lg_sl ([.int x0])).length) Slot.unset).toArray = ls at hl ⊢
  have hl : lv_has ls 1 [(0, .int x0)] := hl
  refine lv_iload_n hx hb dX3_checkSet_0 rfl (lv_at hl 0 rfl) ?_
  refine lv_if_lt (tgt := 11) hx hb dX3_checkSet_1 (by decide) (fun c_1 => ?_) (fun c_1 => ?_)
  · have hE := if_t c_1 hE
    exact none_x hE
  · have hE := if_f c_1 hE
    refine lv_iload_n hx hb dX3_checkSet_4 rfl (lv_at hl 0 rfl) ?_
    refine lv_sipush (v := 1024) hx hb dX3_checkSet_5 (by decide) ?_
    refine lv_icmp_lt (tgt := 22) hx hb dX3_checkSet_8 (by decide) (fun c_2 => ?_) (fun c_2 => ?_)
    · have hE := if_t c_2 hE
      exact W.vret hx hb hr (fun t ht hWm => hW.qv ht hWm) hW.2.2.1.2.2 dX3_checkSet_22
    · have hE := if_f c_2 hE
      exact none_x hE
abbrev rmX3_quantify : Room := { frames := 17, cells := 0, slots := 0, locals := 379 }
set_option maxRecDepth 100000 in
theorem in3_X3_quantify : ∀ w ∈ wsX30, w ∈ wsX3_quantify := by decide +kernel
set_option maxHeartbeats 4000000 in
set_option maxRecDepth 100000 in
theorem ctX3_quantify (l : Launch) (D : va_G) (ks : KA) (ad : Nat → Nat) (sz : Nat) (st : St) (x1 : Int32) (x2 : Int32) (x3 : Int32) (x4 : Int32)  {r : Int32} {st' : St} (hE : sX3_quantify st x1 x2 x3 x4 = some (r, st')) : CI l D ks yX3_quantify wsX3_quantify rmX3_quantify [.ref (ad 0), .int x1, .int x2, .int x3, .int x4] ad sz st r st' := by
  unfold sX3_quantify at hE
  refine Met.ofW (cc := cX3_quantify) (maxL := 5) (ret := (some .int)) (by decide) rfl ?_
  intro p e s m args below meth c s₁ B hml hv
  obtain ⟨hargs, hPW⟩ := hv
  have hW := WW.entry hPW
  have hx := B.exec
  have hb := B.bytes
  have hr := B.returns
  have hts := atoms_spec (ws := wsX3_quantify) B.pre
  have hown : s.vm.findClass RX3 = some m.cls := findClass_of_methodNamed B.named
  have hlocks := B.notSynchronized
  have hin3 : ∀ w ∈ u_ws RX3 TX3 10, w ∈ wsX3_quantify := in3_X3_quantify
  have hf34 := hts (.fieldLink RX3 34 "Trellis" "work" "LTrellis$Table;") (by decide +kernel)
  have hf11 := hts (.fieldLink RX3 11 "Trellis" "functions" "[LTrellis$Table;") (by decide +kernel)
  have hf41 := hts (.fieldLink RX3 41 "Trellis" "spare" "LTrellis$Table;") (by decide +kernel)
  have hl := lv_entry ([.ref (ad 0), .int x1, .int x2, .int x3, .int x4]) (n := 5) (Nat.le_of_ble_eq_true rfl)
  have hfr : entryFrame m args 5 = F0 m 0 (lg_sl ([.ref (ad 0), .int x1, .int x2, .int x3, .int x4]) ++ List.replicate (5 - (lg_sl ([.ref (ad 0), .int x1, .int x2, .int x3, .int x4])).length) Slot.unset).toArray [] := by rw [hargs, lg_entry_eq]
  rw [hfr]
  generalize (lg_sl ([.ref (ad 0), .int x1, .int x2, .int x3, .int x4]) ++ List.replicate (5 - (lg_sl ([.ref (ad 0), .int x1, .int x2, .int x3, .int x4])).length) Slot.unset).toArray = ls at hl ⊢
  have hl : lv_has ls 5 [(0, .ref (ad 0)), (1, .int x1), (2, .int x2), (3, .int x3), (4, .int x4)] := hl
  refine lv_iload_n hx hb dX3_quantify_0 rfl (lv_at hl 1 rfl) ?_
  obtain ⟨_, hc_1, hE⟩ := ob_some hE
  refine ww_callSv (As := [.int x1]) (rest := []) ⟨hx, hb, hml, hown, hts⟩ hW (ctX3_checkSlot l D ks ad _ st x1 hc_1) (va_cwS 1 hts gX3_quantify_X3_checkSlot rfl rfl rfl (by decide +kernel) ⟨Nat.le_of_ble_eq_true rfl, Nat.le_of_ble_eq_true rfl⟩) rfl hl.1 rfl (Nat.le_of_ble_eq_true rfl) dX3_quantify_1 ⟨Nat.zero_le _, Nat.zero_le _⟩ (fun H locs hW => ?_)
  refine lv_iload_n hx hb dX3_quantify_4 rfl (lv_at hl 2 rfl) ?_
  obtain ⟨_, hc_2, hE⟩ := ob_some hE
  refine ww_callSv (As := [.int x2]) (rest := []) ⟨hx, hb, hml, hown, hts⟩ hW (ctX3_checkSlot l D ks ad _ st x2 hc_2) (va_cwS 1 hts gX3_quantify_X3_checkSlot rfl rfl rfl (by decide +kernel) ⟨Nat.le_of_ble_eq_true rfl, Nat.le_of_ble_eq_true rfl⟩) rfl hl.1 rfl (Nat.le_of_ble_eq_true rfl) dX3_quantify_5 ⟨Nat.zero_le _, Nat.zero_le _⟩ (fun H locs hW => ?_)
  refine lv_iload_n hx hb dX3_quantify_8 rfl (lv_at hl 3 rfl) ?_
  obtain ⟨_, hc_3, hE⟩ := ob_some hE
  refine ww_callSv (As := [.int x3]) (rest := []) ⟨hx, hb, hml, hown, hts⟩ hW (ctX3_checkSet l D ks ad _ st x3 hc_3) (va_cwS 1 hts gX3_quantify_X3_checkSet rfl rfl rfl (by decide +kernel) ⟨Nat.le_of_ble_eq_true rfl, Nat.le_of_ble_eq_true rfl⟩) rfl hl.1 rfl (Nat.le_of_ble_eq_true rfl) dX3_quantify_9 ⟨Nat.zero_le _, Nat.zero_le _⟩ (fun H locs hW => ?_)
  refine lv_iload hx hb dX3_quantify_12 (lv_at hl 4 rfl) ?_
  refine lv_if_lt (tgt := 23) hx hb dX3_quantify_14 (by decide) (fun c_4 => ?_) (fun c_4 => ?_)
  · have hE := if_t c_4 hE
    exact none_x hE
  · have hE := if_f c_4 hE
    refine lv_iload hx hb dX3_quantify_17 (lv_at hl 4 rfl) ?_
    refine lv_iconst (v := 2) hx hb dX3_quantify_19 (by decide) ?_
    refine lv_icmp_le (tgt := 33) hx hb dX3_quantify_20 (by decide) (fun c_5 => ?_) (fun c_5 => ?_)
    · have hE := if_t c_5 hE
      refine lv_aload_n hx hb dX3_quantify_33 rfl (lv_at hl 0 rfl) ?_
      refine ww_get (C := RX3) (T := TX3) (N := 10) (ref := RX3) (ci := 3) (v := .ref (ad (tc 12))) hx hb hts hin3 hown hW 0 (by decide) rfl rfl 4 (by decide) hf34 (fun _ h9 => h9) rfl dX3_quantify_34 ?_
      refine lv_aload_n hx hb dX3_quantify_37 rfl (lv_at hl 0 rfl) ?_
      refine ww_get (C := RX3) (T := TX3) (N := 10) (ref := RX3) (ci := 3) (v := .ref (ad 1)) hx hb hts hin3 hown hW 0 (by decide) rfl rfl 0 (by decide) hf11 (fun _ h9 => h9) rfl dX3_quantify_38 ?_
      refine lv_iload_n hx hb dX3_quantify_41 rfl (lv_at hl 2 rfl) ?_
      obtain ⟨hi_6, hE⟩ := gd_some hE
      refine ww_aald hx hb hW hi_6 dX3_quantify_42 ?_
      obtain ⟨st_7, hc_8, hE⟩ := ob_some hE
      refine ww_callVv (As := [.ref (ad (tc x2.toNatClampNeg))]) (rest := []) ⟨hx, hb, hml, hown, hts⟩ hW (ctX2_copy l D ks ad _ st 12 x2.toNatClampNeg (by decide) (in15 hi_6) hc_8) (cwV 1 hts gX3_quantify_X2_copy rfl rfl rfl (by decide +kernel) ⟨Nat.le_of_ble_eq_true rfl, Nat.le_of_ble_eq_true rfl⟩) (hW.recvT (by decide)) rfl hl.1 rfl (Nat.le_of_ble_eq_true rfl) dX3_quantify_43 ⟨Nat.zero_le _, Nat.zero_le _⟩ (fun H locs hW => ?_)
      refine lv_aload_n hx hb dX3_quantify_46 rfl (lv_at hl 0 rfl) ?_
      refine ww_get (C := RX3) (T := TX3) (N := 10) (ref := RX3) (ci := 3) (v := .ref (ad (tc 12))) hx hb hts hin3 hown hW 0 (by decide) rfl rfl 4 (by decide) hf34 (fun _ h9 => h9) rfl dX3_quantify_47 ?_
      refine lv_iload_n hx hb dX3_quantify_50 rfl (lv_at hl 3 rfl) ?_
      refine lv_iload hx hb dX3_quantify_51 (lv_at hl 4 rfl) ?_
      refine lv_aload_n hx hb dX3_quantify_53 rfl (lv_at hl 0 rfl) ?_
      refine ww_get (C := RX3) (T := TX3) (N := 10) (ref := RX3) (ci := 3) (v := .ref (ad (tc 14))) hx hb hts hin3 hown hW 0 (by decide) rfl rfl 6 (by decide) hf41 (fun _ h9 => h9) rfl dX3_quantify_54 ?_
      obtain ⟨st_9, hc_10, hE⟩ := ob_some hE
      refine ww_callVv (As := [.int x3, .int x4, .ref (ad (tc 14))]) (rest := []) ⟨hx, hb, hml, hown, hts⟩ hW (ctX2_foldSet l D ks ad _ st_7 12 x3 x4 14 (by decide) (by decide) hc_10) (cwV 3 hts gX3_quantify_X2_foldSet rfl rfl rfl (by decide +kernel) ⟨Nat.le_of_ble_eq_true rfl, Nat.le_of_ble_eq_true rfl⟩) (hW.recvT (by decide)) rfl hl.1 rfl (Nat.le_of_ble_eq_true rfl) dX3_quantify_57 ⟨Nat.zero_le _, Nat.zero_le _⟩ (fun H locs hW => ?_)
      refine lv_aload_n hx hb dX3_quantify_60 rfl (lv_at hl 0 rfl) ?_
      refine lv_iload_n hx hb dX3_quantify_61 rfl (lv_at hl 1 rfl) ?_
      obtain ⟨r_13, st_11, hc_12, hE⟩ := ob2_some hE
      refine ww_callVi (As := [.int x1]) (rest := []) ⟨hx, hb, hml, hown, hts⟩ hW (ctX3_place l D ks ad _ st_9 x1 hc_12) (cwV 1 hts gX3_quantify_X3_place rfl rfl rfl (by decide +kernel) ⟨Nat.le_of_ble_eq_true rfl, Nat.le_of_ble_eq_true rfl⟩) hW.recvX rfl hl.1 rfl (Nat.le_of_ble_eq_true rfl) dX3_quantify_62 ⟨Nat.zero_le _, Nat.zero_le _⟩ (fun H locs hW => ?_)
      obtain ⟨rfl, rfl⟩ := pair_x hE
      exact W.iret hx hb hr (fun t ht hWm => hW.qi ht hWm) hW.2.2.1.2.2 dX3_quantify_65
    · have hE := if_f c_5 hE
      exact none_x hE
abbrev rmX3_meet : Room := { frames := 17, cells := 0, slots := 0, locals := 379 }
set_option maxRecDepth 100000 in
theorem in2_X3_meet : ∀ w ∈ wsX20, w ∈ wsX3_meet := by decide +kernel
set_option maxRecDepth 100000 in
theorem in3_X3_meet : ∀ w ∈ wsX30, w ∈ wsX3_meet := by decide +kernel
set_option maxHeartbeats 4000000 in
set_option maxRecDepth 100000 in
theorem ctX3_meet (l : Launch) (D : va_G) (ks : KA) (ad : Nat → Nat) (sz : Nat) (st : St) (x1 : Int32) (x2 : Int32) (x3 : Int32) (x4 : Int32)  {r : Int32} {st' : St} (hE : sX3_meet st x1 x2 x3 x4 = some (r, st')) : CI l D ks yX3_meet wsX3_meet rmX3_meet [.ref (ad 0), .int x1, .int x2, .int x3, .int x4] ad sz st r st' := by
  unfold sX3_meet at hE
  refine Met.ofW (cc := cX3_meet) (maxL := 8) (ret := (some .int)) (by decide) rfl ?_
  intro p e s m args below meth c s₁ B hml hv
  obtain ⟨hargs, hPW⟩ := hv
  have hW := WW.entry hPW
  have hx := B.exec
  have hb := B.bytes
  have hr := B.returns
  have hts := atoms_spec (ws := wsX3_meet) B.pre
  have hown : s.vm.findClass RX3 = some m.cls := findClass_of_methodNamed B.named
  have hlocks := B.notSynchronized
  have hin2 : ∀ w ∈ u_ws RX2 TX2 1, w ∈ wsX3_meet := in2_X3_meet
  have hin3 : ∀ w ∈ u_ws RX3 TX3 10, w ∈ wsX3_meet := in3_X3_meet
  have hf11 := hts (.fieldLink RX3 11 "Trellis" "functions" "[LTrellis$Table;") (by decide +kernel)
  have hf68 := hts (.fieldLink RX3 68 "Trellis$Table" "words" "[J") (by decide +kernel)
  have hf34 := hts (.fieldLink RX3 34 "Trellis" "work" "LTrellis$Table;") (by decide +kernel)
  have hf41 := hts (.fieldLink RX3 41 "Trellis" "spare" "LTrellis$Table;") (by decide +kernel)
  have hl := lv_entry ([.ref (ad 0), .int x1, .int x2, .int x3, .int x4]) (n := 8) (Nat.le_of_ble_eq_true rfl)
  have hfr : entryFrame m args 8 = F0 m 0 (lg_sl ([.ref (ad 0), .int x1, .int x2, .int x3, .int x4]) ++ List.replicate (8 - (lg_sl ([.ref (ad 0), .int x1, .int x2, .int x3, .int x4])).length) Slot.unset).toArray [] := by rw [hargs, lg_entry_eq]
  rw [hfr]
  generalize (lg_sl ([.ref (ad 0), .int x1, .int x2, .int x3, .int x4]) ++ List.replicate (8 - (lg_sl ([.ref (ad 0), .int x1, .int x2, .int x3, .int x4])).length) Slot.unset).toArray = ls at hl ⊢
  have hl : lv_has ls 8 [(0, .ref (ad 0)), (1, .int x1), (2, .int x2), (3, .int x3), (4, .int x4)] := hl
  have L42 : ∀ (n : Nat) (st : St) (x1 : Int32) (x4 : Int32) (t5 : Nat) (t6 : Nat) (x7 : Int32) (hu5 : t5 < 15) (hu6 : t6 < 15) (stz : St) (H : Heap) (locs : List Loc) (ls : Array Slot), sX3_meet_L42 n st x1 x4 t5 t6 x7 = some stz → WW D ks ad (AA ad sz) s st H locs → lv_has ls 8 [(0, .ref (ad 0)), (1, .int x1), (4, .int x4), (5, .ref (ad (lc t5))), (6, .ref (ad (lc t6))), (7, .int x7)] → (∀ (H : Heap) (locs : List Loc) (ls : Array Slot), WW D ks ad (AA ad sz) s stz H locs → lv_has ls 8 [(0, .ref (ad 0)), (1, .int x1), (4, .int x4)] → W p l e (headSpec wsX3_meet rmX3_meet).room s m args below meth c H locs 0 0 (MQ below (va_Qi (fun (x : Int32) (u : St) => x = r ∧ u = st') (QW D ks ad sz) (AA ad sz)) args s 0 0 (AA ad sz)) (F0 m 76 ls [])) → W p l e (headSpec wsX3_meet rmX3_meet).room s m args below meth c H locs 0 0 (MQ below (va_Qi (fun (x : Int32) (u : St) => x = r ∧ u = st') (QW D ks ad sz) (AA ad sz)) args s 0 0 (AA ad sz)) (F0 m 42 ls []) := by
    intro n
    induction n with
    | zero =>
      intro st x1 x4 t5 t6 x7 hu5 hu6 stz H locs ls hE hW hl kx
      exact none_x hE
    | succ n ih =>
      intro st x1 x4 t5 t6 x7 hu5 hu6 stz H locs ls hE hW hl kx
      rw [sX3_meet_L42] at hE
      refine lv_iload hx hb dX3_meet_42 (lv_at hl 5 rfl) ?_
      refine lv_bipush (v := 16) hx hb dX3_meet_44 (by decide) ?_
      refine lv_icmp_ge (tgt := 76) hx hb dX3_meet_46 (by decide) (fun c_7 => ?_) (fun c_7 => ?_)
      · have hE := if_t c_7 hE
        obtain rfl := some_x hE
        exact kx _ _ _ hW (lv_sub hl [0, 1, 2] rfl)
      · have hE := if_f c_7 hE
        refine lv_aload_n hx hb dX3_meet_49 rfl (lv_at hl 0 rfl) ?_
        refine ww_get (C := RX3) (T := TX3) (N := 10) (ref := RX3) (ci := 3) (v := .ref (ad (tc 12))) hx hb hts hin3 hown hW 0 (by decide) rfl rfl 4 (by decide) hf34 (fun _ h9 => h9) rfl dX3_meet_50 ?_
        refine ww_get (C := RX2) (T := TX2) (N := 1) (ref := RX2) (ci := 2) (v := .ref (ad (lc 12))) hx hb hts hin2 hown hW (tc 12) (cE_T (ad := ad) (ks := ks) (st := st) (by decide)).1 (cE_T (by decide)).2 rfl 0 (by decide) hf68 (fun _ h9 => h9) rfl dX3_meet_53 ?_
        refine lv_iload hx hb dX3_meet_56 (lv_at hl 5 rfl) ?_
        refine lv_aload hx hb dX3_meet_58 (lv_at hl 3 rfl) ?_
        refine lv_iload hx hb dX3_meet_60 (lv_at hl 5 rfl) ?_
        obtain ⟨hin, hE⟩ := gd_some hE
        refine ww_lald hx hb hW t5 (Nat.lt_of_lt_of_le hu5 (by decide)) (lLen_in hu5 hin) dX3_meet_62 ?_
        refine lv_aload hx hb dX3_meet_63 (lv_at hl 4 rfl) ?_
        refine lv_iload hx hb dX3_meet_65 (lv_at hl 5 rfl) ?_
        obtain ⟨hin, hE⟩ := gd_some hE
        refine ww_lald hx hb hW t6 (Nat.lt_of_lt_of_le hu6 (by decide)) (lLen_in hu6 hin) dX3_meet_67 ?_
        refine lv_land hx hb dX3_meet_68 ?_
        obtain ⟨hin, hE⟩ := gd_some hE
        obtain ⟨st_8, est, hE⟩ := lt_some hE
        refine ww_last hx hb hW 12 (by decide) (lLen_in (by decide) hin) est dX3_meet_69 (fun H locs hW => ?_)
        obtain ⟨x7_9, e, hE⟩ := lt_some hE
        refine lv_iinc (v := x7_9) (lv' := [(7, .int x7_9), (0, .ref (ad 0)), (1, .int x1), (4, .int x4), (5, .ref (ad (lc t5))), (6, .ref (ad (lc t6)))]) hx hb dX3_meet_70 hl (k := 5) rfl (by rw [e]; rfl) (by decide) rfl (fun ls hl => ?_)
        refine lv_goto (tgt := 42) hx hb dX3_meet_73 (by decide) ?_
        exact ih st_8 x1 x4 t5 t6 x7_9 hu5 hu6 _ _ _ _ hE hW (lv_sub hl [1, 2, 3, 4, 5, 0] rfl) kx
  refine lv_iload_n hx hb dX3_meet_0 rfl (lv_at hl 1 rfl) ?_
  obtain ⟨_, hc_1, hE⟩ := ob_some hE
  refine ww_callSv (As := [.int x1]) (rest := []) ⟨hx, hb, hml, hown, hts⟩ hW (ctX3_checkSlot l D ks ad _ st x1 hc_1) (va_cwS 1 hts gX3_meet_X3_checkSlot rfl rfl rfl (by decide +kernel) ⟨Nat.le_of_ble_eq_true rfl, Nat.le_of_ble_eq_true rfl⟩) rfl hl.1 rfl (Nat.le_of_ble_eq_true rfl) dX3_meet_1 ⟨Nat.zero_le _, Nat.zero_le _⟩ (fun H locs hW => ?_)
  refine lv_iload_n hx hb dX3_meet_4 rfl (lv_at hl 2 rfl) ?_
  obtain ⟨_, hc_2, hE⟩ := ob_some hE
  refine ww_callSv (As := [.int x2]) (rest := []) ⟨hx, hb, hml, hown, hts⟩ hW (ctX3_checkSlot l D ks ad _ st x2 hc_2) (va_cwS 1 hts gX3_meet_X3_checkSlot rfl rfl rfl (by decide +kernel) ⟨Nat.le_of_ble_eq_true rfl, Nat.le_of_ble_eq_true rfl⟩) rfl hl.1 rfl (Nat.le_of_ble_eq_true rfl) dX3_meet_5 ⟨Nat.zero_le _, Nat.zero_le _⟩ (fun H locs hW => ?_)
  refine lv_iload_n hx hb dX3_meet_8 rfl (lv_at hl 3 rfl) ?_
  obtain ⟨_, hc_3, hE⟩ := ob_some hE
  refine ww_callSv (As := [.int x3]) (rest := []) ⟨hx, hb, hml, hown, hts⟩ hW (ctX3_checkSlot l D ks ad _ st x3 hc_3) (va_cwS 1 hts gX3_meet_X3_checkSlot rfl rfl rfl (by decide +kernel) ⟨Nat.le_of_ble_eq_true rfl, Nat.le_of_ble_eq_true rfl⟩) rfl hl.1 rfl (Nat.le_of_ble_eq_true rfl) dX3_meet_9 ⟨Nat.zero_le _, Nat.zero_le _⟩ (fun H locs hW => ?_)
  refine lv_iload hx hb dX3_meet_12 (lv_at hl 4 rfl) ?_
  obtain ⟨_, hc_4, hE⟩ := ob_some hE
  refine ww_callSv (As := [.int x4]) (rest := []) ⟨hx, hb, hml, hown, hts⟩ hW (ctX3_checkSet l D ks ad _ st x4 hc_4) (va_cwS 1 hts gX3_meet_X3_checkSet rfl rfl rfl (by decide +kernel) ⟨Nat.le_of_ble_eq_true rfl, Nat.le_of_ble_eq_true rfl⟩) rfl hl.1 rfl (Nat.le_of_ble_eq_true rfl) dX3_meet_14 ⟨Nat.zero_le _, Nat.zero_le _⟩ (fun H locs hW => ?_)
  refine lv_aload_n hx hb dX3_meet_17 rfl (lv_at hl 0 rfl) ?_
  refine ww_get (C := RX3) (T := TX3) (N := 10) (ref := RX3) (ci := 3) (v := .ref (ad 1)) hx hb hts hin3 hown hW 0 (by decide) rfl rfl 0 (by decide) hf11 (fun _ h9 => h9) rfl dX3_meet_18 ?_
  refine lv_iload_n hx hb dX3_meet_21 rfl (lv_at hl 2 rfl) ?_
  obtain ⟨hi_5, hE⟩ := gd_some hE
  refine ww_aald hx hb hW hi_5 dX3_meet_22 ?_
  refine ww_get (C := RX2) (T := TX2) (N := 1) (ref := RX2) (ci := 2) (v := .ref (ad (lc x2.toNatClampNeg))) hx hb hts hin2 hown hW (tc x2.toNatClampNeg) (cE_T (ad := ad) (ks := ks) (st := st) (in15 hi_5)).1 (cE_T (in15 hi_5)).2 rfl 0 (by decide) hf68 (fun _ h9 => h9) rfl dX3_meet_23 ?_
  refine lv_astore (lv' := [(5, .ref (ad (lc x2.toNatClampNeg))), (0, .ref (ad 0)), (1, .int x1), (2, .int x2), (3, .int x3), (4, .int x4)]) hx hb dX3_meet_26 hl (by decide) rfl (fun ls hl => ?_)
  refine lv_aload_n hx hb dX3_meet_28 rfl (lv_at hl 1 rfl) ?_
  refine ww_get (C := RX3) (T := TX3) (N := 10) (ref := RX3) (ci := 3) (v := .ref (ad 1)) hx hb hts hin3 hown hW 0 (by decide) rfl rfl 0 (by decide) hf11 (fun _ h9 => h9) rfl dX3_meet_29 ?_
  refine lv_iload_n hx hb dX3_meet_32 rfl (lv_at hl 4 rfl) ?_
  obtain ⟨hi_6, hE⟩ := gd_some hE
  refine ww_aald hx hb hW hi_6 dX3_meet_33 ?_
  refine ww_get (C := RX2) (T := TX2) (N := 1) (ref := RX2) (ci := 2) (v := .ref (ad (lc x3.toNatClampNeg))) hx hb hts hin2 hown hW (tc x3.toNatClampNeg) (cE_T (ad := ad) (ks := ks) (st := st) (in15 hi_6)).1 (cE_T (in15 hi_6)).2 rfl 0 (by decide) hf68 (fun _ h9 => h9) rfl dX3_meet_34 ?_
  refine lv_astore (lv' := [(6, .ref (ad (lc x3.toNatClampNeg))), (5, .ref (ad (lc x2.toNatClampNeg))), (0, .ref (ad 0)), (1, .int x1), (2, .int x2), (3, .int x3), (4, .int x4)]) hx hb dX3_meet_37 hl (by decide) rfl (fun ls hl => ?_)
  refine lv_iconst (v := 0) hx hb dX3_meet_39 (by decide) ?_
  refine lv_istore (lv' := [(7, .int (0 : Int32)), (6, .ref (ad (lc x3.toNatClampNeg))), (5, .ref (ad (lc x2.toNatClampNeg))), (0, .ref (ad 0)), (1, .int x1), (2, .int x2), (3, .int x3), (4, .int x4)]) hx hb dX3_meet_40 hl (by decide) rfl (fun ls hl => ?_)
  obtain ⟨st_10, hz, hE⟩ := ob_some hE
  refine L42 FU st x1 x4 x2.toNatClampNeg x3.toNatClampNeg (0 : Int32) (in15 hi_5) (in15 hi_6) st_10 _ _ _ hz hW (lv_sub hl [3, 4, 7, 2, 1, 0] rfl) (fun H locs ls hW hl => ?_)
  refine lv_aload_n hx hb dX3_meet_76 rfl (lv_at hl 0 rfl) ?_
  refine ww_get (C := RX3) (T := TX3) (N := 10) (ref := RX3) (ci := 3) (v := .ref (ad (tc 12))) hx hb hts hin3 hown hW 0 (by decide) rfl rfl 4 (by decide) hf34 (fun _ h9 => h9) rfl dX3_meet_77 ?_
  refine lv_iload hx hb dX3_meet_80 (lv_at hl 2 rfl) ?_
  refine lv_iconst (v := 0) hx hb dX3_meet_82 (by decide) ?_
  refine lv_aload_n hx hb dX3_meet_83 rfl (lv_at hl 0 rfl) ?_
  refine ww_get (C := RX3) (T := TX3) (N := 10) (ref := RX3) (ci := 3) (v := .ref (ad (tc 14))) hx hb hts hin3 hown hW 0 (by decide) rfl rfl 6 (by decide) hf41 (fun _ h9 => h9) rfl dX3_meet_84 ?_
  obtain ⟨st_11, hc_12, hE⟩ := ob_some hE
  refine ww_callVv (As := [.int x4, .int (0 : Int32), .ref (ad (tc 14))]) (rest := []) ⟨hx, hb, hml, hown, hts⟩ hW (ctX2_foldSet l D ks ad _ st_10 12 x4 (0 : Int32) 14 (by decide) (by decide) hc_12) (cwV 3 hts gX3_meet_X2_foldSet rfl rfl rfl (by decide +kernel) ⟨Nat.le_of_ble_eq_true rfl, Nat.le_of_ble_eq_true rfl⟩) (hW.recvT (by decide)) rfl hl.1 rfl (Nat.le_of_ble_eq_true rfl) dX3_meet_87 ⟨Nat.zero_le _, Nat.zero_le _⟩ (fun H locs hW => ?_)
  refine lv_aload_n hx hb dX3_meet_90 rfl (lv_at hl 0 rfl) ?_
  refine lv_iload_n hx hb dX3_meet_91 rfl (lv_at hl 1 rfl) ?_
  obtain ⟨r_15, st_13, hc_14, hE⟩ := ob2_some hE
  refine ww_callVi (As := [.int x1]) (rest := []) ⟨hx, hb, hml, hown, hts⟩ hW (ctX3_place l D ks ad _ st_11 x1 hc_14) (cwV 1 hts gX3_meet_X3_place rfl rfl rfl (by decide +kernel) ⟨Nat.le_of_ble_eq_true rfl, Nat.le_of_ble_eq_true rfl⟩) hW.recvX rfl hl.1 rfl (Nat.le_of_ble_eq_true rfl) dX3_meet_92 ⟨Nat.zero_le _, Nat.zero_le _⟩ (fun H locs hW => ?_)
  obtain ⟨rfl, rfl⟩ := pair_x hE
  exact W.iret hx hb hr (fun t ht hWm => hW.qi ht hWm) hW.2.2.1.2.2 dX3_meet_95
abbrev rmX3_exchange : Room := { frames := 17, cells := 0, slots := 0, locals := 379 }
set_option maxRecDepth 100000 in
theorem in3_X3_exchange : ∀ w ∈ wsX30, w ∈ wsX3_exchange := by decide +kernel
set_option maxHeartbeats 4000000 in
set_option maxRecDepth 100000 in
theorem ctX3_exchange (l : Launch) (D : va_G) (ks : KA) (ad : Nat → Nat) (sz : Nat) (st : St) (x1 : Int32) (x2 : Int32) (x3 : Int32) (x4 : Int32)  {r : Int32} {st' : St} (hE : sX3_exchange st x1 x2 x3 x4 = some (r, st')) : CI l D ks yX3_exchange wsX3_exchange rmX3_exchange [.ref (ad 0), .int x1, .int x2, .int x3, .int x4] ad sz st r st' := by
  unfold sX3_exchange at hE
  refine Met.ofW (cc := cX3_exchange) (maxL := 5) (ret := (some .int)) (by decide) rfl ?_
  intro p e s m args below meth c s₁ B hml hv
  obtain ⟨hargs, hPW⟩ := hv
  have hW := WW.entry hPW
  have hx := B.exec
  have hb := B.bytes
  have hr := B.returns
  have hts := atoms_spec (ws := wsX3_exchange) B.pre
  have hown : s.vm.findClass RX3 = some m.cls := findClass_of_methodNamed B.named
  have hlocks := B.notSynchronized
  have hin3 : ∀ w ∈ u_ws RX3 TX3 10, w ∈ wsX3_exchange := in3_X3_exchange
  have hf34 := hts (.fieldLink RX3 34 "Trellis" "work" "LTrellis$Table;") (by decide +kernel)
  have hf11 := hts (.fieldLink RX3 11 "Trellis" "functions" "[LTrellis$Table;") (by decide +kernel)
  have hf41 := hts (.fieldLink RX3 41 "Trellis" "spare" "LTrellis$Table;") (by decide +kernel)
  have hl := lv_entry ([.ref (ad 0), .int x1, .int x2, .int x3, .int x4]) (n := 5) (Nat.le_of_ble_eq_true rfl)
  have hfr : entryFrame m args 5 = F0 m 0 (lg_sl ([.ref (ad 0), .int x1, .int x2, .int x3, .int x4]) ++ List.replicate (5 - (lg_sl ([.ref (ad 0), .int x1, .int x2, .int x3, .int x4])).length) Slot.unset).toArray [] := by rw [hargs, lg_entry_eq]
  rw [hfr]
  generalize (lg_sl ([.ref (ad 0), .int x1, .int x2, .int x3, .int x4]) ++ List.replicate (5 - (lg_sl ([.ref (ad 0), .int x1, .int x2, .int x3, .int x4])).length) Slot.unset).toArray = ls at hl ⊢
  have hl : lv_has ls 5 [(0, .ref (ad 0)), (1, .int x1), (2, .int x2), (3, .int x3), (4, .int x4)] := hl
  refine lv_iload_n hx hb dX3_exchange_0 rfl (lv_at hl 1 rfl) ?_
  obtain ⟨_, hc_1, hE⟩ := ob_some hE
  refine ww_callSv (As := [.int x1]) (rest := []) ⟨hx, hb, hml, hown, hts⟩ hW (ctX3_checkSlot l D ks ad _ st x1 hc_1) (va_cwS 1 hts gX3_exchange_X3_checkSlot rfl rfl rfl (by decide +kernel) ⟨Nat.le_of_ble_eq_true rfl, Nat.le_of_ble_eq_true rfl⟩) rfl hl.1 rfl (Nat.le_of_ble_eq_true rfl) dX3_exchange_1 ⟨Nat.zero_le _, Nat.zero_le _⟩ (fun H locs hW => ?_)
  refine lv_iload_n hx hb dX3_exchange_4 rfl (lv_at hl 2 rfl) ?_
  obtain ⟨_, hc_2, hE⟩ := ob_some hE
  refine ww_callSv (As := [.int x2]) (rest := []) ⟨hx, hb, hml, hown, hts⟩ hW (ctX3_checkSlot l D ks ad _ st x2 hc_2) (va_cwS 1 hts gX3_exchange_X3_checkSlot rfl rfl rfl (by decide +kernel) ⟨Nat.le_of_ble_eq_true rfl, Nat.le_of_ble_eq_true rfl⟩) rfl hl.1 rfl (Nat.le_of_ble_eq_true rfl) dX3_exchange_5 ⟨Nat.zero_le _, Nat.zero_le _⟩ (fun H locs hW => ?_)
  refine lv_iload_n hx hb dX3_exchange_8 rfl (lv_at hl 3 rfl) ?_
  obtain ⟨_, hc_3, hE⟩ := ob_some hE
  refine ww_callSv (As := [.int x3]) (rest := []) ⟨hx, hb, hml, hown, hts⟩ hW (ctX3_checkVariable l D ks ad _ st x3 hc_3) (va_cwS 1 hts gX3_exchange_X3_checkVariable rfl rfl rfl (by decide +kernel) ⟨Nat.le_of_ble_eq_true rfl, Nat.le_of_ble_eq_true rfl⟩) rfl hl.1 rfl (Nat.le_of_ble_eq_true rfl) dX3_exchange_9 ⟨Nat.zero_le _, Nat.zero_le _⟩ (fun H locs hW => ?_)
  refine lv_iload hx hb dX3_exchange_12 (lv_at hl 4 rfl) ?_
  obtain ⟨_, hc_4, hE⟩ := ob_some hE
  refine ww_callSv (As := [.int x4]) (rest := []) ⟨hx, hb, hml, hown, hts⟩ hW (ctX3_checkVariable l D ks ad _ st x4 hc_4) (va_cwS 1 hts gX3_exchange_X3_checkVariable rfl rfl rfl (by decide +kernel) ⟨Nat.le_of_ble_eq_true rfl, Nat.le_of_ble_eq_true rfl⟩) rfl hl.1 rfl (Nat.le_of_ble_eq_true rfl) dX3_exchange_14 ⟨Nat.zero_le _, Nat.zero_le _⟩ (fun H locs hW => ?_)
  refine lv_aload_n hx hb dX3_exchange_17 rfl (lv_at hl 0 rfl) ?_
  refine ww_get (C := RX3) (T := TX3) (N := 10) (ref := RX3) (ci := 3) (v := .ref (ad (tc 12))) hx hb hts hin3 hown hW 0 (by decide) rfl rfl 4 (by decide) hf34 (fun _ h9 => h9) rfl dX3_exchange_18 ?_
  refine lv_aload_n hx hb dX3_exchange_21 rfl (lv_at hl 0 rfl) ?_
  refine ww_get (C := RX3) (T := TX3) (N := 10) (ref := RX3) (ci := 3) (v := .ref (ad 1)) hx hb hts hin3 hown hW 0 (by decide) rfl rfl 0 (by decide) hf11 (fun _ h9 => h9) rfl dX3_exchange_22 ?_
  refine lv_iload_n hx hb dX3_exchange_25 rfl (lv_at hl 2 rfl) ?_
  obtain ⟨hi_5, hE⟩ := gd_some hE
  refine ww_aald hx hb hW hi_5 dX3_exchange_26 ?_
  refine lv_iload_n hx hb dX3_exchange_27 rfl (lv_at hl 3 rfl) ?_
  refine lv_iload hx hb dX3_exchange_28 (lv_at hl 4 rfl) ?_
  refine lv_aload_n hx hb dX3_exchange_30 rfl (lv_at hl 0 rfl) ?_
  refine ww_get (C := RX3) (T := TX3) (N := 10) (ref := RX3) (ci := 3) (v := .ref (ad (tc 14))) hx hb hts hin3 hown hW 0 (by decide) rfl rfl 6 (by decide) hf41 (fun _ h9 => h9) rfl dX3_exchange_31 ?_
  obtain ⟨st_6, hc_7, hE⟩ := ob_some hE
  refine ww_callVv (As := [.ref (ad (tc x2.toNatClampNeg)), .int x3, .int x4, .ref (ad (tc 14))]) (rest := []) ⟨hx, hb, hml, hown, hts⟩ hW (ctX2_crossed l D ks ad _ st 12 x2.toNatClampNeg x3 x4 14 (by decide) (in15 hi_5) (by decide) hc_7) (cwV 4 hts gX3_exchange_X2_crossed rfl rfl rfl (by decide +kernel) ⟨Nat.le_of_ble_eq_true rfl, Nat.le_of_ble_eq_true rfl⟩) (hW.recvT (by decide)) rfl hl.1 rfl (Nat.le_of_ble_eq_true rfl) dX3_exchange_34 ⟨Nat.zero_le _, Nat.zero_le _⟩ (fun H locs hW => ?_)
  refine lv_aload_n hx hb dX3_exchange_37 rfl (lv_at hl 0 rfl) ?_
  refine lv_iload_n hx hb dX3_exchange_38 rfl (lv_at hl 1 rfl) ?_
  obtain ⟨r_10, st_8, hc_9, hE⟩ := ob2_some hE
  refine ww_callVi (As := [.int x1]) (rest := []) ⟨hx, hb, hml, hown, hts⟩ hW (ctX3_place l D ks ad _ st_6 x1 hc_9) (cwV 1 hts gX3_exchange_X3_place rfl rfl rfl (by decide +kernel) ⟨Nat.le_of_ble_eq_true rfl, Nat.le_of_ble_eq_true rfl⟩) hW.recvX rfl hl.1 rfl (Nat.le_of_ble_eq_true rfl) dX3_exchange_39 ⟨Nat.zero_le _, Nat.zero_le _⟩ (fun H locs hW => ?_)
  obtain ⟨rfl, rfl⟩ := pair_x hE
  exact W.iret hx hb hr (fun t ht hWm => hW.qi ht hWm) hW.2.2.1.2.2 dX3_exchange_42
abbrev rmX3_press : Room := { frames := 17, cells := 0, slots := 0, locals := 379 }
set_option maxRecDepth 100000 in
theorem in3_X3_press : ∀ w ∈ wsX30, w ∈ wsX3_press := by decide +kernel
set_option maxHeartbeats 4000000 in
set_option maxRecDepth 100000 in
theorem ctX3_press (l : Launch) (D : va_G) (ks : KA) (ad : Nat → Nat) (sz : Nat) (st : St) (x1 : Int32) (x2 : Int32) (x3 : Int32)  {r : Int32} {st' : St} (hE : sX3_press st x1 x2 x3 = some (r, st')) : CI l D ks yX3_press wsX3_press rmX3_press [.ref (ad 0), .int x1, .int x2, .int x3] ad sz st r st' := by
  unfold sX3_press at hE
  refine Met.ofW (cc := cX3_press) (maxL := 6) (ret := (some .int)) (by decide) rfl ?_
  intro p e s m args below meth c s₁ B hml hv
  obtain ⟨hargs, hPW⟩ := hv
  have hW := WW.entry hPW
  have hx := B.exec
  have hb := B.bytes
  have hr := B.returns
  have hts := atoms_spec (ws := wsX3_press) B.pre
  have hown : s.vm.findClass RX3 = some m.cls := findClass_of_methodNamed B.named
  have hlocks := B.notSynchronized
  have hin3 : ∀ w ∈ u_ws RX3 TX3 10, w ∈ wsX3_press := in3_X3_press
  have hf11 := hts (.fieldLink RX3 11 "Trellis" "functions" "[LTrellis$Table;") (by decide +kernel)
  have hf34 := hts (.fieldLink RX3 34 "Trellis" "work" "LTrellis$Table;") (by decide +kernel)
  have hf38 := hts (.fieldLink RX3 38 "Trellis" "aid" "LTrellis$Table;") (by decide +kernel)
  have hf22 := hts (.fieldLink RX3 22 "Trellis" "diagram" "LTrellis$Diagram;") (by decide +kernel)
  have hf41 := hts (.fieldLink RX3 41 "Trellis" "spare" "LTrellis$Table;") (by decide +kernel)
  have hl := lv_entry ([.ref (ad 0), .int x1, .int x2, .int x3]) (n := 6) (Nat.le_of_ble_eq_true rfl)
  have hfr : entryFrame m args 6 = F0 m 0 (lg_sl ([.ref (ad 0), .int x1, .int x2, .int x3]) ++ List.replicate (6 - (lg_sl ([.ref (ad 0), .int x1, .int x2, .int x3])).length) Slot.unset).toArray [] := by rw [hargs, lg_entry_eq]
  rw [hfr]
  generalize (lg_sl ([.ref (ad 0), .int x1, .int x2, .int x3]) ++ List.replicate (6 - (lg_sl ([.ref (ad 0), .int x1, .int x2, .int x3])).length) Slot.unset).toArray = ls at hl ⊢
  have hl : lv_has ls 6 [(0, .ref (ad 0)), (1, .int x1), (2, .int x2), (3, .int x3)] := hl
  have L64 : ∀ (n : Nat) (st : St) (x1 : Int32) (x4 : Int32)  (stz : St) (H : Heap) (locs : List Loc) (ls : Array Slot), sX3_press_L64 n st x1 x4 = some stz → WW D ks ad (AA ad sz) s st H locs → lv_has ls 6 [(0, .ref (ad 0)), (1, .int x1), (4, .int x4)] → (∀ (H : Heap) (locs : List Loc) (ls : Array Slot), WW D ks ad (AA ad sz) s stz H locs → lv_has ls 6 [(0, .ref (ad 0)), (1, .int x1)] → W p l e (headSpec wsX3_press rmX3_press).room s m args below meth c H locs 0 0 (MQ below (va_Qi (fun (x : Int32) (u : St) => x = r ∧ u = st') (QW D ks ad sz) (AA ad sz)) args s 0 0 (AA ad sz)) (F0 m 117 ls [])) → W p l e (headSpec wsX3_press rmX3_press).room s m args below meth c H locs 0 0 (MQ below (va_Qi (fun (x : Int32) (u : St) => x = r ∧ u = st') (QW D ks ad sz) (AA ad sz)) args s 0 0 (AA ad sz)) (F0 m 64 ls []) := by
    intro n
    induction n with
    | zero =>
      intro st x1 x4 stz H locs ls hE hW hl kx
      exact none_x hE
    | succ n ih =>
      intro st x1 x4 stz H locs ls hE hW hl kx
      rw [sX3_press_L64] at hE
      refine lv_iload hx hb dX3_press_64 (lv_at hl 2 rfl) ?_
      refine lv_if_lt (tgt := 117) hx hb dX3_press_66 (by decide) (fun c_14 => ?_) (fun c_14 => ?_)
      · have hE := if_t c_14 hE
        obtain rfl := some_x hE
        exact kx _ _ _ hW (lv_sub hl [0, 1] rfl)
      · have hE := if_f c_14 hE
        refine lv_aload_n hx hb dX3_press_69 rfl (lv_at hl 0 rfl) ?_
        refine ww_get (C := RX3) (T := TX3) (N := 10) (ref := RX3) (ci := 3) (v := .ref (ad 6)) hx hb hts hin3 hown hW 0 (by decide) rfl rfl 2 (by decide) hf22 (fun _ h9 => h9) rfl dX3_press_70 ?_
        refine lv_iload hx hb dX3_press_73 (lv_at hl 2 rfl) ?_
        obtain ⟨r_16, hc_15, hE⟩ := ob_some hE
        refine ww_callVi (As := [.int x4]) (rest := []) ⟨hx, hb, hml, hown, hts⟩ hW (ctX0_variableOf l D ks ad _ st x4 hc_15) (cwV 1 hts gX3_press_X0_variableOf rfl rfl rfl (by decide +kernel) ⟨Nat.le_of_ble_eq_true rfl, Nat.le_of_ble_eq_true rfl⟩) hW.recvD rfl hl.1 rfl (Nat.le_of_ble_eq_true rfl) dX3_press_75 ⟨Nat.zero_le _, Nat.zero_le _⟩ (fun H locs hW => ?_)
        refine lv_istore (lv' := [(5, .int r_16), (0, .ref (ad 0)), (1, .int x1), (4, .int x4)]) hx hb dX3_press_78 hl (by decide) rfl (fun ls hl => ?_)
        refine lv_aload_n hx hb dX3_press_80 rfl (lv_at hl 1 rfl) ?_
        refine ww_get (C := RX3) (T := TX3) (N := 10) (ref := RX3) (ci := 3) (v := .ref (ad (tc 12))) hx hb hts hin3 hown hW 0 (by decide) rfl rfl 4 (by decide) hf34 (fun _ h9 => h9) rfl dX3_press_81 ?_
        refine lv_aload_n hx hb dX3_press_84 rfl (lv_at hl 1 rfl) ?_
        refine ww_get (C := RX3) (T := TX3) (N := 10) (ref := RX3) (ci := 3) (v := .ref (ad (tc 13))) hx hb hts hin3 hown hW 0 (by decide) rfl rfl 5 (by decide) hf38 (fun _ h9 => h9) rfl dX3_press_85 ?_
        refine lv_iload hx hb dX3_press_88 (lv_at hl 0 rfl) ?_
        refine lv_aload_n hx hb dX3_press_90 rfl (lv_at hl 1 rfl) ?_
        refine ww_get (C := RX3) (T := TX3) (N := 10) (ref := RX3) (ci := 3) (v := .ref (ad (tc 14))) hx hb hts hin3 hown hW 0 (by decide) rfl rfl 6 (by decide) hf41 (fun _ h9 => h9) rfl dX3_press_91 ?_
        obtain ⟨st_17, hc_18, hE⟩ := ob_some hE
        refine ww_callVv (As := [.ref (ad (tc 13)), .int r_16, .ref (ad (tc 14))]) (rest := []) ⟨hx, hb, hml, hown, hts⟩ hW (ctX2_lean l D ks ad _ st 12 13 r_16 14 (by decide) (by decide) (by decide) hc_18) (cwV 3 hts gX3_press_X2_lean rfl rfl rfl (by decide +kernel) ⟨Nat.le_of_ble_eq_true rfl, Nat.le_of_ble_eq_true rfl⟩) (hW.recvT (by decide)) rfl hl.1 rfl (Nat.le_of_ble_eq_true rfl) dX3_press_94 ⟨Nat.zero_le _, Nat.zero_le _⟩ (fun H locs hW => ?_)
        refine lv_aload_n hx hb dX3_press_97 rfl (lv_at hl 1 rfl) ?_
        refine ww_get (C := RX3) (T := TX3) (N := 10) (ref := RX3) (ci := 3) (v := .ref (ad (tc 13))) hx hb hts hin3 hown hW 0 (by decide) rfl rfl 5 (by decide) hf38 (fun _ h9 => h9) rfl dX3_press_98 ?_
        refine lv_iload hx hb dX3_press_101 (lv_at hl 0 rfl) ?_
        refine lv_iconst (v := 0) hx hb dX3_press_103 (by decide) ?_
        refine lv_aload_n hx hb dX3_press_104 rfl (lv_at hl 1 rfl) ?_
        refine ww_get (C := RX3) (T := TX3) (N := 10) (ref := RX3) (ci := 3) (v := .ref (ad (tc 14))) hx hb hts hin3 hown hW 0 (by decide) rfl rfl 6 (by decide) hf41 (fun _ h9 => h9) rfl dX3_press_105 ?_
        obtain ⟨st_19, hc_20, hE⟩ := ob_some hE
        refine ww_callVv (As := [.int r_16, .int (0 : Int32), .ref (ad (tc 14))]) (rest := []) ⟨hx, hb, hml, hown, hts⟩ hW (ctX2_fold l D ks ad _ st_17 13 r_16 (0 : Int32) 14 (by decide) (by decide) hc_20) (cwV 3 hts gX3_press_X2_fold rfl rfl rfl (by decide +kernel) ⟨Nat.le_of_ble_eq_true rfl, Nat.le_of_ble_eq_true rfl⟩) (hW.recvT (by decide)) rfl hl.1 rfl (Nat.le_of_ble_eq_true rfl) dX3_press_108 ⟨Nat.zero_le _, Nat.zero_le _⟩ (fun H locs hW => ?_)
        obtain ⟨x4_21, e, hE⟩ := lt_some hE
        refine lv_iinc (v := x4_21) (lv' := [(4, .int x4_21), (5, .int r_16), (0, .ref (ad 0)), (1, .int x1)]) hx hb dX3_press_111 hl (k := 3) rfl (by rw [e]; rfl) (by decide) rfl (fun ls hl => ?_)
        refine lv_goto (tgt := 64) hx hb dX3_press_114 (by decide) ?_
        exact ih st_19 x1 x4_21 _ _ _ _ hE hW (lv_sub hl [2, 3, 0] rfl) kx
  refine lv_iload_n hx hb dX3_press_0 rfl (lv_at hl 1 rfl) ?_
  obtain ⟨_, hc_1, hE⟩ := ob_some hE
  refine ww_callSv (As := [.int x1]) (rest := []) ⟨hx, hb, hml, hown, hts⟩ hW (ctX3_checkSlot l D ks ad _ st x1 hc_1) (va_cwS 1 hts gX3_press_X3_checkSlot rfl rfl rfl (by decide +kernel) ⟨Nat.le_of_ble_eq_true rfl, Nat.le_of_ble_eq_true rfl⟩) rfl hl.1 rfl (Nat.le_of_ble_eq_true rfl) dX3_press_1 ⟨Nat.zero_le _, Nat.zero_le _⟩ (fun H locs hW => ?_)
  refine lv_iload_n hx hb dX3_press_4 rfl (lv_at hl 2 rfl) ?_
  obtain ⟨_, hc_2, hE⟩ := ob_some hE
  refine ww_callSv (As := [.int x2]) (rest := []) ⟨hx, hb, hml, hown, hts⟩ hW (ctX3_checkSlot l D ks ad _ st x2 hc_2) (va_cwS 1 hts gX3_press_X3_checkSlot rfl rfl rfl (by decide +kernel) ⟨Nat.le_of_ble_eq_true rfl, Nat.le_of_ble_eq_true rfl⟩) rfl hl.1 rfl (Nat.le_of_ble_eq_true rfl) dX3_press_5 ⟨Nat.zero_le _, Nat.zero_le _⟩ (fun H locs hW => ?_)
  refine lv_iload_n hx hb dX3_press_8 rfl (lv_at hl 3 rfl) ?_
  obtain ⟨_, hc_3, hE⟩ := ob_some hE
  refine ww_callSv (As := [.int x3]) (rest := []) ⟨hx, hb, hml, hown, hts⟩ hW (ctX3_checkSlot l D ks ad _ st x3 hc_3) (va_cwS 1 hts gX3_press_X3_checkSlot rfl rfl rfl (by decide +kernel) ⟨Nat.le_of_ble_eq_true rfl, Nat.le_of_ble_eq_true rfl⟩) rfl hl.1 rfl (Nat.le_of_ble_eq_true rfl) dX3_press_9 ⟨Nat.zero_le _, Nat.zero_le _⟩ (fun H locs hW => ?_)
  refine lv_aload_n hx hb dX3_press_12 rfl (lv_at hl 0 rfl) ?_
  refine ww_get (C := RX3) (T := TX3) (N := 10) (ref := RX3) (ci := 3) (v := .ref (ad 1)) hx hb hts hin3 hown hW 0 (by decide) rfl rfl 0 (by decide) hf11 (fun _ h9 => h9) rfl dX3_press_13 ?_
  refine lv_iload_n hx hb dX3_press_16 rfl (lv_at hl 3 rfl) ?_
  obtain ⟨hi_4, hE⟩ := gd_some hE
  refine ww_aald hx hb hW hi_4 dX3_press_17 ?_
  obtain ⟨r_6, hc_5, hE⟩ := ob_some hE
  refine ww_callVi (As := []) (rest := []) ⟨hx, hb, hml, hown, hts⟩ hW (ctX2_count l D ks ad _ st x3.toNatClampNeg (in15 hi_4) hc_5) (cwV 0 hts gX3_press_X2_count rfl rfl rfl (by decide +kernel) ⟨Nat.le_of_ble_eq_true rfl, Nat.le_of_ble_eq_true rfl⟩) (hW.recvT (in15 hi_4)) rfl hl.1 rfl (Nat.le_of_ble_eq_true rfl) dX3_press_18 ⟨Nat.zero_le _, Nat.zero_le _⟩ (fun H locs hW => ?_)
  refine lv_if_ne (tgt := 34) hx hb dX3_press_21 (by decide) (fun c_7 => ?_) (fun c_7 => ?_)
  · have hE := if_t c_7 hE
    refine lv_aload_n hx hb dX3_press_34 rfl (lv_at hl 0 rfl) ?_
    refine ww_get (C := RX3) (T := TX3) (N := 10) (ref := RX3) (ci := 3) (v := .ref (ad (tc 12))) hx hb hts hin3 hown hW 0 (by decide) rfl rfl 4 (by decide) hf34 (fun _ h9 => h9) rfl dX3_press_35 ?_
    refine lv_aload_n hx hb dX3_press_38 rfl (lv_at hl 0 rfl) ?_
    refine ww_get (C := RX3) (T := TX3) (N := 10) (ref := RX3) (ci := 3) (v := .ref (ad 1)) hx hb hts hin3 hown hW 0 (by decide) rfl rfl 0 (by decide) hf11 (fun _ h9 => h9) rfl dX3_press_39 ?_
    refine lv_iload_n hx hb dX3_press_42 rfl (lv_at hl 2 rfl) ?_
    obtain ⟨hi_8, hE⟩ := gd_some hE
    refine ww_aald hx hb hW hi_8 dX3_press_43 ?_
    obtain ⟨st_9, hc_10, hE⟩ := ob_some hE
    refine ww_callVv (As := [.ref (ad (tc x2.toNatClampNeg))]) (rest := []) ⟨hx, hb, hml, hown, hts⟩ hW (ctX2_copy l D ks ad _ st 12 x2.toNatClampNeg (by decide) (in15 hi_8) hc_10) (cwV 1 hts gX3_press_X2_copy rfl rfl rfl (by decide +kernel) ⟨Nat.le_of_ble_eq_true rfl, Nat.le_of_ble_eq_true rfl⟩) (hW.recvT (by decide)) rfl hl.1 rfl (Nat.le_of_ble_eq_true rfl) dX3_press_44 ⟨Nat.zero_le _, Nat.zero_le _⟩ (fun H locs hW => ?_)
    refine lv_aload_n hx hb dX3_press_47 rfl (lv_at hl 0 rfl) ?_
    refine ww_get (C := RX3) (T := TX3) (N := 10) (ref := RX3) (ci := 3) (v := .ref (ad (tc 13))) hx hb hts hin3 hown hW 0 (by decide) rfl rfl 5 (by decide) hf38 (fun _ h9 => h9) rfl dX3_press_48 ?_
    refine lv_aload_n hx hb dX3_press_51 rfl (lv_at hl 0 rfl) ?_
    refine ww_get (C := RX3) (T := TX3) (N := 10) (ref := RX3) (ci := 3) (v := .ref (ad 1)) hx hb hts hin3 hown hW 0 (by decide) rfl rfl 0 (by decide) hf11 (fun _ h9 => h9) rfl dX3_press_52 ?_
    refine lv_iload_n hx hb dX3_press_55 rfl (lv_at hl 3 rfl) ?_
    obtain ⟨hi_11, hE⟩ := gd_some hE
    refine ww_aald hx hb hW hi_11 dX3_press_56 ?_
    obtain ⟨st_12, hc_13, hE⟩ := ob_some hE
    refine ww_callVv (As := [.ref (ad (tc x3.toNatClampNeg))]) (rest := []) ⟨hx, hb, hml, hown, hts⟩ hW (ctX2_copy l D ks ad _ st_9 13 x3.toNatClampNeg (by decide) (in15 hi_11) hc_13) (cwV 1 hts gX3_press_X2_copy rfl rfl rfl (by decide +kernel) ⟨Nat.le_of_ble_eq_true rfl, Nat.le_of_ble_eq_true rfl⟩) (hW.recvT (by decide)) rfl hl.1 rfl (Nat.le_of_ble_eq_true rfl) dX3_press_57 ⟨Nat.zero_le _, Nat.zero_le _⟩ (fun H locs hW => ?_)
    refine lv_bipush (v := 9) hx hb dX3_press_60 (by decide) ?_
    refine lv_istore (lv' := [(4, .int (9 : Int32)), (0, .ref (ad 0)), (1, .int x1), (2, .int x2), (3, .int x3)]) hx hb dX3_press_62 hl (by decide) rfl (fun ls hl => ?_)
    obtain ⟨st_22, hz, hE⟩ := ob_some hE
    refine L64 FU st_12 x1 (9 : Int32) st_22 _ _ _ hz hW (lv_sub hl [1, 2, 0] rfl) (fun H locs ls hW hl => ?_)
    refine lv_aload_n hx hb dX3_press_117 rfl (lv_at hl 0 rfl) ?_
    refine lv_iload_n hx hb dX3_press_118 rfl (lv_at hl 1 rfl) ?_
    obtain ⟨r_25, st_23, hc_24, hE⟩ := ob2_some hE
    refine ww_callVi (As := [.int x1]) (rest := []) ⟨hx, hb, hml, hown, hts⟩ hW (ctX3_place l D ks ad _ st_22 x1 hc_24) (cwV 1 hts gX3_press_X3_place rfl rfl rfl (by decide +kernel) ⟨Nat.le_of_ble_eq_true rfl, Nat.le_of_ble_eq_true rfl⟩) hW.recvX rfl hl.1 rfl (Nat.le_of_ble_eq_true rfl) dX3_press_119 ⟨Nat.zero_le _, Nat.zero_le _⟩ (fun H locs hW => ?_)
    obtain ⟨rfl, rfl⟩ := pair_x hE
    exact W.iret hx hb hr (fun t ht hWm => hW.qi ht hWm) hW.2.2.1.2.2 dX3_press_122
  · have hE := if_f (fun q => q c_7) hE
    exact none_x hE
abbrev rmX3_holds : Room := { frames := 2, cells := 0, slots := 0, locals := 80 }
set_option maxRecDepth 100000 in
theorem in3_X3_holds : ∀ w ∈ wsX30, w ∈ wsX3_holds := by decide +kernel
set_option maxHeartbeats 4000000 in
set_option maxRecDepth 100000 in
theorem ctX3_holds (l : Launch) (D : va_G) (ks : KA) (ad : Nat → Nat) (sz : Nat) (st : St) (x1 : Int32) (x2 : Int32)  {r : Int32}  (hE : sX3_holds st x1 x2 = some r) : CI l D ks yX3_holds wsX3_holds rmX3_holds [.ref (ad 0), .int x1, .int x2] ad sz st r st := by
  unfold sX3_holds at hE
  refine Met.ofW (cc := cX3_holds) (maxL := 3) (ret := (some .boolean)) (by decide) rfl ?_
  intro p e s m args below meth c s₁ B hml hv
  obtain ⟨hargs, hPW⟩ := hv
  have hW := WW.entry hPW
  have hx := B.exec
  have hb := B.bytes
  have hr := B.returns
  have hts := atoms_spec (ws := wsX3_holds) B.pre
  have hown : s.vm.findClass RX3 = some m.cls := findClass_of_methodNamed B.named
  have hlocks := B.notSynchronized
  have hin3 : ∀ w ∈ u_ws RX3 TX3 10, w ∈ wsX3_holds := in3_X3_holds
  have hf11 := hts (.fieldLink RX3 11 "Trellis" "functions" "[LTrellis$Table;") (by decide +kernel)
  have hl := lv_entry ([.ref (ad 0), .int x1, .int x2]) (n := 3) (Nat.le_of_ble_eq_true rfl)
  have hfr : entryFrame m args 3 = F0 m 0 (lg_sl ([.ref (ad 0), .int x1, .int x2]) ++ List.replicate (3 - (lg_sl ([.ref (ad 0), .int x1, .int x2])).length) Slot.unset).toArray [] := by rw [hargs, lg_entry_eq]
  rw [hfr]
  generalize (lg_sl ([.ref (ad 0), .int x1, .int x2]) ++ List.replicate (3 - (lg_sl ([.ref (ad 0), .int x1, .int x2])).length) Slot.unset).toArray = ls at hl ⊢
  have hl : lv_has ls 3 [(0, .ref (ad 0)), (1, .int x1), (2, .int x2)] := hl
  refine lv_iload_n hx hb dX3_holds_0 rfl (lv_at hl 1 rfl) ?_
  obtain ⟨_, hc_1, hE⟩ := ob_some hE
  refine ww_callSv (As := [.int x1]) (rest := []) ⟨hx, hb, hml, hown, hts⟩ hW (ctX3_checkSlot l D ks ad _ st x1 hc_1) (va_cwS 1 hts gX3_holds_X3_checkSlot rfl rfl rfl (by decide +kernel) ⟨Nat.le_of_ble_eq_true rfl, Nat.le_of_ble_eq_true rfl⟩) rfl hl.1 rfl (Nat.le_of_ble_eq_true rfl) dX3_holds_1 ⟨Nat.zero_le _, Nat.zero_le _⟩ (fun H locs hW => ?_)
  refine lv_iload_n hx hb dX3_holds_4 rfl (lv_at hl 2 rfl) ?_
  refine lv_if_lt (tgt := 15) hx hb dX3_holds_5 (by decide) (fun c_2 => ?_) (fun c_2 => ?_)
  · have hE := if_t c_2 hE
    exact none_x hE
  · have hE := if_f c_2 hE
    refine lv_iload_n hx hb dX3_holds_8 rfl (lv_at hl 2 rfl) ?_
    refine lv_sipush (v := 1024) hx hb dX3_holds_9 (by decide) ?_
    refine lv_icmp_lt (tgt := 25) hx hb dX3_holds_12 (by decide) (fun c_3 => ?_) (fun c_3 => ?_)
    · have hE := if_t c_3 hE
      refine lv_aload_n hx hb dX3_holds_25 rfl (lv_at hl 0 rfl) ?_
      refine ww_get (C := RX3) (T := TX3) (N := 10) (ref := RX3) (ci := 3) (v := .ref (ad 1)) hx hb hts hin3 hown hW 0 (by decide) rfl rfl 0 (by decide) hf11 (fun _ h9 => h9) rfl dX3_holds_26 ?_
      refine lv_iload_n hx hb dX3_holds_29 rfl (lv_at hl 1 rfl) ?_
      obtain ⟨hi_4, hE⟩ := gd_some hE
      refine ww_aald hx hb hW hi_4 dX3_holds_30 ?_
      refine lv_iload_n hx hb dX3_holds_31 rfl (lv_at hl 2 rfl) ?_
      obtain ⟨r_6, hc_5, hE⟩ := ob_some hE
      refine ww_callVi (As := [.int x2]) (rest := []) ⟨hx, hb, hml, hown, hts⟩ hW (ctX2_tells l D ks ad _ st x1.toNatClampNeg x2 (in15 hi_4) hc_5) (cwV 1 hts gX3_holds_X2_tells rfl rfl rfl (by decide +kernel) ⟨Nat.le_of_ble_eq_true rfl, Nat.le_of_ble_eq_true rfl⟩) (hW.recvT (in15 hi_4)) rfl hl.1 rfl (Nat.le_of_ble_eq_true rfl) dX3_holds_32 ⟨Nat.zero_le _, Nat.zero_le _⟩ (fun H locs hW => ?_)
      obtain ⟨hn, hE⟩ := gb_some hE
      obtain rfl := some_x hE
      exact W.zret hx hb hr hn (fun t ht hWm => hW.qi ht hWm) hW.2.2.1.2.2 dX3_holds_35
    · have hE := if_f c_3 hE
      exact none_x hE
abbrev rmX3_models : Room := { frames := 2, cells := 0, slots := 0, locals := 80 }
set_option maxRecDepth 100000 in
theorem in3_X3_models : ∀ w ∈ wsX30, w ∈ wsX3_models := by decide +kernel
set_option maxHeartbeats 4000000 in
set_option maxRecDepth 100000 in
theorem ctX3_models (l : Launch) (D : va_G) (ks : KA) (ad : Nat → Nat) (sz : Nat) (st : St) (x1 : Int32)  {r : Int32}  (hE : sX3_models st x1 = some r) : CI l D ks yX3_models wsX3_models rmX3_models [.ref (ad 0), .int x1] ad sz st r st := by
  unfold sX3_models at hE
  refine Met.ofW (cc := cX3_models) (maxL := 2) (ret := (some .int)) (by decide) rfl ?_
  intro p e s m args below meth c s₁ B hml hv
  obtain ⟨hargs, hPW⟩ := hv
  have hW := WW.entry hPW
  have hx := B.exec
  have hb := B.bytes
  have hr := B.returns
  have hts := atoms_spec (ws := wsX3_models) B.pre
  have hown : s.vm.findClass RX3 = some m.cls := findClass_of_methodNamed B.named
  have hlocks := B.notSynchronized
  have hin3 : ∀ w ∈ u_ws RX3 TX3 10, w ∈ wsX3_models := in3_X3_models
  have hf11 := hts (.fieldLink RX3 11 "Trellis" "functions" "[LTrellis$Table;") (by decide +kernel)
  have hl := lv_entry ([.ref (ad 0), .int x1]) (n := 2) (Nat.le_of_ble_eq_true rfl)
  have hfr : entryFrame m args 2 = F0 m 0 (lg_sl ([.ref (ad 0), .int x1]) ++ List.replicate (2 - (lg_sl ([.ref (ad 0), .int x1])).length) Slot.unset).toArray [] := by rw [hargs, lg_entry_eq]
  rw [hfr]
  generalize (lg_sl ([.ref (ad 0), .int x1]) ++ List.replicate (2 - (lg_sl ([.ref (ad 0), .int x1])).length) Slot.unset).toArray = ls at hl ⊢
  have hl : lv_has ls 2 [(0, .ref (ad 0)), (1, .int x1)] := hl
  refine lv_iload_n hx hb dX3_models_0 rfl (lv_at hl 1 rfl) ?_
  obtain ⟨_, hc_1, hE⟩ := ob_some hE
  refine ww_callSv (As := [.int x1]) (rest := []) ⟨hx, hb, hml, hown, hts⟩ hW (ctX3_checkSlot l D ks ad _ st x1 hc_1) (va_cwS 1 hts gX3_models_X3_checkSlot rfl rfl rfl (by decide +kernel) ⟨Nat.le_of_ble_eq_true rfl, Nat.le_of_ble_eq_true rfl⟩) rfl hl.1 rfl (Nat.le_of_ble_eq_true rfl) dX3_models_1 ⟨Nat.zero_le _, Nat.zero_le _⟩ (fun H locs hW => ?_)
  refine lv_aload_n hx hb dX3_models_4 rfl (lv_at hl 0 rfl) ?_
  refine ww_get (C := RX3) (T := TX3) (N := 10) (ref := RX3) (ci := 3) (v := .ref (ad 1)) hx hb hts hin3 hown hW 0 (by decide) rfl rfl 0 (by decide) hf11 (fun _ h9 => h9) rfl dX3_models_5 ?_
  refine lv_iload_n hx hb dX3_models_8 rfl (lv_at hl 1 rfl) ?_
  obtain ⟨hi_2, hE⟩ := gd_some hE
  refine ww_aald hx hb hW hi_2 dX3_models_9 ?_
  obtain ⟨r_4, hc_3, hE⟩ := ob_some hE
  refine ww_callVi (As := []) (rest := []) ⟨hx, hb, hml, hown, hts⟩ hW (ctX2_count l D ks ad _ st x1.toNatClampNeg (in15 hi_2) hc_3) (cwV 0 hts gX3_models_X2_count rfl rfl rfl (by decide +kernel) ⟨Nat.le_of_ble_eq_true rfl, Nat.le_of_ble_eq_true rfl⟩) (hW.recvT (in15 hi_2)) rfl hl.1 rfl (Nat.le_of_ble_eq_true rfl) dX3_models_10 ⟨Nat.zero_le _, Nat.zero_le _⟩ (fun H locs hW => ?_)
  obtain rfl := some_x hE
  exact W.iret hx hb hr (fun t ht hWm => hW.qi ht hWm) hW.2.2.1.2.2 dX3_models_13
abbrev rmX3_model : Room := { frames := 3, cells := 0, slots := 0, locals := 80 }
set_option maxRecDepth 100000 in
theorem in3_X3_model : ∀ w ∈ wsX30, w ∈ wsX3_model := by decide +kernel
set_option maxHeartbeats 4000000 in
set_option maxRecDepth 100000 in
theorem ctX3_model (l : Launch) (D : va_G) (ks : KA) (ad : Nat → Nat) (sz : Nat) (st : St) (x1 : Int32) (x2 : Int32)  {r : Int32}  (hE : sX3_model st x1 x2 = some r) : CI l D ks yX3_model wsX3_model rmX3_model [.ref (ad 0), .int x1, .int x2] ad sz st r st := by
  unfold sX3_model at hE
  refine Met.ofW (cc := cX3_model) (maxL := 3) (ret := (some .int)) (by decide) rfl ?_
  intro p e s m args below meth c s₁ B hml hv
  obtain ⟨hargs, hPW⟩ := hv
  have hW := WW.entry hPW
  have hx := B.exec
  have hb := B.bytes
  have hr := B.returns
  have hts := atoms_spec (ws := wsX3_model) B.pre
  have hown : s.vm.findClass RX3 = some m.cls := findClass_of_methodNamed B.named
  have hlocks := B.notSynchronized
  have hin3 : ∀ w ∈ u_ws RX3 TX3 10, w ∈ wsX3_model := in3_X3_model
  have hf11 := hts (.fieldLink RX3 11 "Trellis" "functions" "[LTrellis$Table;") (by decide +kernel)
  have hl := lv_entry ([.ref (ad 0), .int x1, .int x2]) (n := 3) (Nat.le_of_ble_eq_true rfl)
  have hfr : entryFrame m args 3 = F0 m 0 (lg_sl ([.ref (ad 0), .int x1, .int x2]) ++ List.replicate (3 - (lg_sl ([.ref (ad 0), .int x1, .int x2])).length) Slot.unset).toArray [] := by rw [hargs, lg_entry_eq]
  rw [hfr]
  generalize (lg_sl ([.ref (ad 0), .int x1, .int x2]) ++ List.replicate (3 - (lg_sl ([.ref (ad 0), .int x1, .int x2])).length) Slot.unset).toArray = ls at hl ⊢
  have hl : lv_has ls 3 [(0, .ref (ad 0)), (1, .int x1), (2, .int x2)] := hl
  refine lv_iload_n hx hb dX3_model_0 rfl (lv_at hl 1 rfl) ?_
  obtain ⟨_, hc_1, hE⟩ := ob_some hE
  refine ww_callSv (As := [.int x1]) (rest := []) ⟨hx, hb, hml, hown, hts⟩ hW (ctX3_checkSlot l D ks ad _ st x1 hc_1) (va_cwS 1 hts gX3_model_X3_checkSlot rfl rfl rfl (by decide +kernel) ⟨Nat.le_of_ble_eq_true rfl, Nat.le_of_ble_eq_true rfl⟩) rfl hl.1 rfl (Nat.le_of_ble_eq_true rfl) dX3_model_1 ⟨Nat.zero_le _, Nat.zero_le _⟩ (fun H locs hW => ?_)
  refine lv_iload_n hx hb dX3_model_4 rfl (lv_at hl 2 rfl) ?_
  refine lv_if_ge (tgt := 18) hx hb dX3_model_5 (by decide) (fun c_2 => ?_) (fun c_2 => ?_)
  · have hE := if_t c_2 hE
    refine lv_aload_n hx hb dX3_model_18 rfl (lv_at hl 0 rfl) ?_
    refine ww_get (C := RX3) (T := TX3) (N := 10) (ref := RX3) (ci := 3) (v := .ref (ad 1)) hx hb hts hin3 hown hW 0 (by decide) rfl rfl 0 (by decide) hf11 (fun _ h9 => h9) rfl dX3_model_19 ?_
    refine lv_iload_n hx hb dX3_model_22 rfl (lv_at hl 1 rfl) ?_
    obtain ⟨hi_3, hE⟩ := gd_some hE
    refine ww_aald hx hb hW hi_3 dX3_model_23 ?_
    refine lv_iload_n hx hb dX3_model_24 rfl (lv_at hl 2 rfl) ?_
    obtain ⟨r_5, hc_4, hE⟩ := ob_some hE
    refine ww_callVi (As := [.int x2]) (rest := []) ⟨hx, hb, hml, hown, hts⟩ hW (ctX2_nth l D ks ad _ st x1.toNatClampNeg x2 (in15 hi_3) hc_4) (cwV 1 hts gX3_model_X2_nth rfl rfl rfl (by decide +kernel) ⟨Nat.le_of_ble_eq_true rfl, Nat.le_of_ble_eq_true rfl⟩) (hW.recvT (in15 hi_3)) rfl hl.1 rfl (Nat.le_of_ble_eq_true rfl) dX3_model_25 ⟨Nat.zero_le _, Nat.zero_le _⟩ (fun H locs hW => ?_)
    obtain rfl := some_x hE
    exact W.iret hx hb hr (fun t ht hWm => hW.qi ht hWm) hW.2.2.1.2.2 dX3_model_28
  · have hE := if_f c_2 hE
    exact none_x hE
abbrev rmX3_support : Room := { frames := 2, cells := 0, slots := 0, locals := 80 }
set_option maxRecDepth 100000 in
theorem in3_X3_support : ∀ w ∈ wsX30, w ∈ wsX3_support := by decide +kernel
set_option maxHeartbeats 4000000 in
set_option maxRecDepth 100000 in
theorem ctX3_support (l : Launch) (D : va_G) (ks : KA) (ad : Nat → Nat) (sz : Nat) (st : St) (x1 : Int32)  {r : Int32}  (hE : sX3_support st x1 = some r) : CI l D ks yX3_support wsX3_support rmX3_support [.ref (ad 0), .int x1] ad sz st r st := by
  unfold sX3_support at hE
  refine Met.ofW (cc := cX3_support) (maxL := 2) (ret := (some .int)) (by decide) rfl ?_
  intro p e s m args below meth c s₁ B hml hv
  obtain ⟨hargs, hPW⟩ := hv
  have hW := WW.entry hPW
  have hx := B.exec
  have hb := B.bytes
  have hr := B.returns
  have hts := atoms_spec (ws := wsX3_support) B.pre
  have hown : s.vm.findClass RX3 = some m.cls := findClass_of_methodNamed B.named
  have hlocks := B.notSynchronized
  have hin3 : ∀ w ∈ u_ws RX3 TX3 10, w ∈ wsX3_support := in3_X3_support
  have hf15 := hts (.fieldLink RX3 15 "Trellis" "supports" "[I") (by decide +kernel)
  have hl := lv_entry ([.ref (ad 0), .int x1]) (n := 2) (Nat.le_of_ble_eq_true rfl)
  have hfr : entryFrame m args 2 = F0 m 0 (lg_sl ([.ref (ad 0), .int x1]) ++ List.replicate (2 - (lg_sl ([.ref (ad 0), .int x1])).length) Slot.unset).toArray [] := by rw [hargs, lg_entry_eq]
  rw [hfr]
  generalize (lg_sl ([.ref (ad 0), .int x1]) ++ List.replicate (2 - (lg_sl ([.ref (ad 0), .int x1])).length) Slot.unset).toArray = ls at hl ⊢
  have hl : lv_has ls 2 [(0, .ref (ad 0)), (1, .int x1)] := hl
  refine lv_iload_n hx hb dX3_support_0 rfl (lv_at hl 1 rfl) ?_
  obtain ⟨_, hc_1, hE⟩ := ob_some hE
  refine ww_callSv (As := [.int x1]) (rest := []) ⟨hx, hb, hml, hown, hts⟩ hW (ctX3_checkSlot l D ks ad _ st x1 hc_1) (va_cwS 1 hts gX3_support_X3_checkSlot rfl rfl rfl (by decide +kernel) ⟨Nat.le_of_ble_eq_true rfl, Nat.le_of_ble_eq_true rfl⟩) rfl hl.1 rfl (Nat.le_of_ble_eq_true rfl) dX3_support_1 ⟨Nat.zero_le _, Nat.zero_le _⟩ (fun H locs hW => ?_)
  refine lv_aload_n hx hb dX3_support_4 rfl (lv_at hl 0 rfl) ?_
  refine ww_get (C := RX3) (T := TX3) (N := 10) (ref := RX3) (ci := 3) (v := .ref (ad (ic 0))) hx hb hts hin3 hown hW 0 (by decide) rfl rfl 1 (by decide) hf15 (fun _ h9 => h9) rfl dX3_support_5 ?_
  refine lv_iload_n hx hb dX3_support_8 rfl (lv_at hl 1 rfl) ?_
  obtain ⟨hin, hE⟩ := gd_some hE
  refine ww_iald hx hb hW 0 (by decide) hin dX3_support_9 ?_
  obtain rfl := some_x hE
  exact W.iret hx hb hr (fun t ht hWm => hW.qi ht hWm) hW.2.2.1.2.2 dX3_support_10
abbrev rmX3_compare : Room := { frames := 2, cells := 0, slots := 0, locals := 80 }
set_option maxRecDepth 100000 in
theorem in2_X3_compare : ∀ w ∈ wsX20, w ∈ wsX3_compare := by decide +kernel
set_option maxRecDepth 100000 in
theorem in3_X3_compare : ∀ w ∈ wsX30, w ∈ wsX3_compare := by decide +kernel
set_option maxHeartbeats 4000000 in
set_option maxRecDepth 100000 in
theorem ctX3_compare (l : Launch) (D : va_G) (ks : KA) (ad : Nat → Nat) (sz : Nat) (st : St) (x1 : Int32) (x2 : Int32)  {r : Int32}  (hE : sX3_compare st x1 x2 = some r) : CI l D ks yX3_compare wsX3_compare rmX3_compare [.ref (ad 0), .int x1, .int x2] ad sz st r st := by
  unfold sX3_compare at hE
  refine Met.ofW (cc := cX3_compare) (maxL := 12) (ret := (some .int)) (by decide) rfl ?_
  intro p e s m args below meth c s₁ B hml hv
  obtain ⟨hargs, hPW⟩ := hv
  have hW := WW.entry hPW
  have hx := B.exec
  have hb := B.bytes
  have hr := B.returns
  have hts := atoms_spec (ws := wsX3_compare) B.pre
  have hown : s.vm.findClass RX3 = some m.cls := findClass_of_methodNamed B.named
  have hlocks := B.notSynchronized
  have hin2 : ∀ w ∈ u_ws RX2 TX2 1, w ∈ wsX3_compare := in2_X3_compare
  have hin3 : ∀ w ∈ u_ws RX3 TX3 10, w ∈ wsX3_compare := in3_X3_compare
  have hf11 := hts (.fieldLink RX3 11 "Trellis" "functions" "[LTrellis$Table;") (by decide +kernel)
  have hf68 := hts (.fieldLink RX3 68 "Trellis$Table" "words" "[J") (by decide +kernel)
  have hl := lv_entry ([.ref (ad 0), .int x1, .int x2]) (n := 12) (Nat.le_of_ble_eq_true rfl)
  have hfr : entryFrame m args 12 = F0 m 0 (lg_sl ([.ref (ad 0), .int x1, .int x2]) ++ List.replicate (12 - (lg_sl ([.ref (ad 0), .int x1, .int x2])).length) Slot.unset).toArray [] := by rw [hargs, lg_entry_eq]
  rw [hfr]
  generalize (lg_sl ([.ref (ad 0), .int x1, .int x2]) ++ List.replicate (12 - (lg_sl ([.ref (ad 0), .int x1, .int x2])).length) Slot.unset).toArray = ls at hl ⊢
  have hl : lv_has ls 12 [(0, .ref (ad 0)), (1, .int x1), (2, .int x2)] := hl
  have L41 : ∀ (n : Nat) (st : St) (t3 : Nat) (t4 : Nat) (x5 : Int64) (x7 : Int64) (x9 : Int64) (x11 : Int32) (hu3 : t3 < 15) (hu4 : t4 < 15) (z5 : Int64) (z7 : Int64) (z9 : Int64) (H : Heap) (locs : List Loc) (ls : Array Slot), sX3_compare_L41 n st t3 t4 x5 x7 x9 x11 = some (z5, z7, z9) → WW D ks ad (AA ad sz) s st H locs → lv_has ls 12 [(3, .ref (ad (lc t3))), (4, .ref (ad (lc t4))), (5, .long x5), (7, .long x7), (9, .long x9), (11, .int x11)] → (∀ (H : Heap) (locs : List Loc) (ls : Array Slot), WW D ks ad (AA ad sz) s st H locs → lv_has ls 12 [(5, .long z5), (7, .long z7), (9, .long z9)] → W p l e (headSpec wsX3_compare rmX3_compare).room s m args below meth c H locs 0 0 (MQ below (va_Qi (fun (x : Int32) (u : St) => x = r ∧ u = st) (QW D ks ad sz) (AA ad sz)) args s 0 0 (AA ad sz)) (F0 m 107 ls [])) → W p l e (headSpec wsX3_compare rmX3_compare).room s m args below meth c H locs 0 0 (MQ below (va_Qi (fun (x : Int32) (u : St) => x = r ∧ u = st) (QW D ks ad sz) (AA ad sz)) args s 0 0 (AA ad sz)) (F0 m 41 ls []) := by
    intro n
    induction n with
    | zero =>
      intro st t3 t4 x5 x7 x9 x11 hu3 hu4 z5 z7 z9 H locs ls hE hW hl kx
      exact none_x hE
    | succ n ih =>
      intro st t3 t4 x5 x7 x9 x11 hu3 hu4 z5 z7 z9 H locs ls hE hW hl kx
      rw [sX3_compare_L41] at hE
      refine lv_iload hx hb dX3_compare_41 (lv_at hl 5 rfl) ?_
      refine lv_bipush (v := 16) hx hb dX3_compare_43 (by decide) ?_
      refine lv_icmp_ge (tgt := 107) hx hb dX3_compare_45 (by decide) (fun c_5 => ?_) (fun c_5 => ?_)
      · have hE := if_t c_5 hE
        obtain ⟨rfl, rfl, rfl⟩ := tup3_x hE
        exact kx _ _ _ hW (lv_sub hl [2, 3, 4] rfl)
      · have hE := if_f c_5 hE
        refine lv_lload hx hb dX3_compare_48 (lv_at hl 2 rfl) ?_
        refine lv_aload_n hx hb dX3_compare_50 rfl (lv_at hl 0 rfl) ?_
        refine lv_iload hx hb dX3_compare_51 (lv_at hl 5 rfl) ?_
        obtain ⟨hin, hE⟩ := gd_some hE
        refine ww_lald hx hb hW t3 (Nat.lt_of_lt_of_le hu3 (by decide)) (lLen_in hu3 hin) dX3_compare_53 ?_
        refine lv_aload hx hb dX3_compare_54 (lv_at hl 1 rfl) ?_
        refine lv_iload hx hb dX3_compare_56 (lv_at hl 5 rfl) ?_
        obtain ⟨hin, hE⟩ := gd_some hE
        refine ww_lald hx hb hW t4 (Nat.lt_of_lt_of_le hu4 (by decide)) (lLen_in hu4 hin) dX3_compare_58 ?_
        refine lv_ldc2 (v := (-1)) hx hb hown (hts (.constantLong RX3 87 (-1)) (by decide +kernel)) dX3_compare_59 ?_
        refine lv_lxor hx hb dX3_compare_62 ?_
        refine lv_land hx hb dX3_compare_63 ?_
        refine lv_lor hx hb dX3_compare_64 ?_
        obtain ⟨x5_6, e, hE⟩ := lt_some hE
        refine lv_nml e ?_
        refine lv_lstore (lv' := [(5, .long x5_6), (3, .ref (ad (lc t3))), (4, .ref (ad (lc t4))), (7, .long x7), (9, .long x9), (11, .int x11)]) hx hb dX3_compare_65 hl (by decide) rfl (fun ls hl => ?_)
        refine lv_lload hx hb dX3_compare_67 (lv_at hl 3 rfl) ?_
        refine lv_aload hx hb dX3_compare_69 (lv_at hl 2 rfl) ?_
        refine lv_iload hx hb dX3_compare_71 (lv_at hl 5 rfl) ?_
        obtain ⟨hin, hE⟩ := gd_some hE
        refine ww_lald hx hb hW t4 (Nat.lt_of_lt_of_le hu4 (by decide)) (lLen_in hu4 hin) dX3_compare_73 ?_
        refine lv_aload_n hx hb dX3_compare_74 rfl (lv_at hl 1 rfl) ?_
        refine lv_iload hx hb dX3_compare_75 (lv_at hl 5 rfl) ?_
        obtain ⟨hin, hE⟩ := gd_some hE
        refine ww_lald hx hb hW t3 (Nat.lt_of_lt_of_le hu3 (by decide)) (lLen_in hu3 hin) dX3_compare_77 ?_
        refine lv_ldc2 (v := (-1)) hx hb hown (hts (.constantLong RX3 87 (-1)) (by decide +kernel)) dX3_compare_78 ?_
        refine lv_lxor hx hb dX3_compare_81 ?_
        refine lv_land hx hb dX3_compare_82 ?_
        refine lv_lor hx hb dX3_compare_83 ?_
        obtain ⟨x7_7, e, hE⟩ := lt_some hE
        refine lv_nml e ?_
        refine lv_lstore (lv' := [(7, .long x7_7), (5, .long x5_6), (3, .ref (ad (lc t3))), (4, .ref (ad (lc t4))), (9, .long x9), (11, .int x11)]) hx hb dX3_compare_84 hl (by decide) rfl (fun ls hl => ?_)
        refine lv_lload hx hb dX3_compare_86 (lv_at hl 4 rfl) ?_
        refine lv_aload_n hx hb dX3_compare_88 rfl (lv_at hl 2 rfl) ?_
        refine lv_iload hx hb dX3_compare_89 (lv_at hl 5 rfl) ?_
        obtain ⟨hin, hE⟩ := gd_some hE
        refine ww_lald hx hb hW t3 (Nat.lt_of_lt_of_le hu3 (by decide)) (lLen_in hu3 hin) dX3_compare_91 ?_
        refine lv_aload hx hb dX3_compare_92 (lv_at hl 3 rfl) ?_
        refine lv_iload hx hb dX3_compare_94 (lv_at hl 5 rfl) ?_
        obtain ⟨hin, hE⟩ := gd_some hE
        refine ww_lald hx hb hW t4 (Nat.lt_of_lt_of_le hu4 (by decide)) (lLen_in hu4 hin) dX3_compare_96 ?_
        refine lv_land hx hb dX3_compare_97 ?_
        refine lv_lor hx hb dX3_compare_98 ?_
        obtain ⟨x9_8, e, hE⟩ := lt_some hE
        refine lv_nml e ?_
        refine lv_lstore (lv' := [(9, .long x9_8), (7, .long x7_7), (5, .long x5_6), (3, .ref (ad (lc t3))), (4, .ref (ad (lc t4))), (11, .int x11)]) hx hb dX3_compare_99 hl (by decide) rfl (fun ls hl => ?_)
        obtain ⟨x11_9, e, hE⟩ := lt_some hE
        refine lv_iinc (v := x11_9) (lv' := [(11, .int x11_9), (9, .long x9_8), (7, .long x7_7), (5, .long x5_6), (3, .ref (ad (lc t3))), (4, .ref (ad (lc t4)))]) hx hb dX3_compare_101 hl (k := 5) rfl (by rw [e]; rfl) (by decide) rfl (fun ls hl => ?_)
        refine lv_goto (tgt := 41) hx hb dX3_compare_104 (by decide) ?_
        exact ih st t3 t4 x5_6 x7_7 x9_8 x11_9 hu3 hu4 _ _ _ _ _ _ hE hW (lv_sub hl [4, 5, 3, 2, 1, 0] rfl) kx
  refine lv_iload_n hx hb dX3_compare_0 rfl (lv_at hl 1 rfl) ?_
  obtain ⟨_, hc_1, hE⟩ := ob_some hE
  refine ww_callSv (As := [.int x1]) (rest := []) ⟨hx, hb, hml, hown, hts⟩ hW (ctX3_checkSlot l D ks ad _ st x1 hc_1) (va_cwS 1 hts gX3_compare_X3_checkSlot rfl rfl rfl (by decide +kernel) ⟨Nat.le_of_ble_eq_true rfl, Nat.le_of_ble_eq_true rfl⟩) rfl hl.1 rfl (Nat.le_of_ble_eq_true rfl) dX3_compare_1 ⟨Nat.zero_le _, Nat.zero_le _⟩ (fun H locs hW => ?_)
  refine lv_iload_n hx hb dX3_compare_4 rfl (lv_at hl 2 rfl) ?_
  obtain ⟨_, hc_2, hE⟩ := ob_some hE
  refine ww_callSv (As := [.int x2]) (rest := []) ⟨hx, hb, hml, hown, hts⟩ hW (ctX3_checkSlot l D ks ad _ st x2 hc_2) (va_cwS 1 hts gX3_compare_X3_checkSlot rfl rfl rfl (by decide +kernel) ⟨Nat.le_of_ble_eq_true rfl, Nat.le_of_ble_eq_true rfl⟩) rfl hl.1 rfl (Nat.le_of_ble_eq_true rfl) dX3_compare_5 ⟨Nat.zero_le _, Nat.zero_le _⟩ (fun H locs hW => ?_)
  refine lv_aload_n hx hb dX3_compare_8 rfl (lv_at hl 0 rfl) ?_
  refine ww_get (C := RX3) (T := TX3) (N := 10) (ref := RX3) (ci := 3) (v := .ref (ad 1)) hx hb hts hin3 hown hW 0 (by decide) rfl rfl 0 (by decide) hf11 (fun _ h9 => h9) rfl dX3_compare_9 ?_
  refine lv_iload_n hx hb dX3_compare_12 rfl (lv_at hl 1 rfl) ?_
  obtain ⟨hi_3, hE⟩ := gd_some hE
  refine ww_aald hx hb hW hi_3 dX3_compare_13 ?_
  refine ww_get (C := RX2) (T := TX2) (N := 1) (ref := RX2) (ci := 2) (v := .ref (ad (lc x1.toNatClampNeg))) hx hb hts hin2 hown hW (tc x1.toNatClampNeg) (cE_T (ad := ad) (ks := ks) (st := st) (in15 hi_3)).1 (cE_T (in15 hi_3)).2 rfl 0 (by decide) hf68 (fun _ h9 => h9) rfl dX3_compare_14 ?_
  refine lv_astore_n (lv' := [(3, .ref (ad (lc x1.toNatClampNeg))), (0, .ref (ad 0)), (1, .int x1), (2, .int x2)]) hx hb dX3_compare_17 rfl hl (by decide) rfl (fun ls hl => ?_)
  refine lv_aload_n hx hb dX3_compare_18 rfl (lv_at hl 1 rfl) ?_
  refine ww_get (C := RX3) (T := TX3) (N := 10) (ref := RX3) (ci := 3) (v := .ref (ad 1)) hx hb hts hin3 hown hW 0 (by decide) rfl rfl 0 (by decide) hf11 (fun _ h9 => h9) rfl dX3_compare_19 ?_
  refine lv_iload_n hx hb dX3_compare_22 rfl (lv_at hl 3 rfl) ?_
  obtain ⟨hi_4, hE⟩ := gd_some hE
  refine ww_aald hx hb hW hi_4 dX3_compare_23 ?_
  refine ww_get (C := RX2) (T := TX2) (N := 1) (ref := RX2) (ci := 2) (v := .ref (ad (lc x2.toNatClampNeg))) hx hb hts hin2 hown hW (tc x2.toNatClampNeg) (cE_T (ad := ad) (ks := ks) (st := st) (in15 hi_4)).1 (cE_T (in15 hi_4)).2 rfl 0 (by decide) hf68 (fun _ h9 => h9) rfl dX3_compare_24 ?_
  refine lv_astore (lv' := [(4, .ref (ad (lc x2.toNatClampNeg))), (3, .ref (ad (lc x1.toNatClampNeg))), (0, .ref (ad 0)), (1, .int x1), (2, .int x2)]) hx hb dX3_compare_27 hl (by decide) rfl (fun ls hl => ?_)
  refine lv_lconst (v := 0) hx hb dX3_compare_29 (by decide) ?_
  refine lv_lstore (lv' := [(5, .long (0 : Int64)), (4, .ref (ad (lc x2.toNatClampNeg))), (3, .ref (ad (lc x1.toNatClampNeg))), (0, .ref (ad 0)), (1, .int x1), (2, .int x2)]) hx hb dX3_compare_30 hl (by decide) rfl (fun ls hl => ?_)
  refine lv_lconst (v := 0) hx hb dX3_compare_32 (by decide) ?_
  refine lv_lstore (lv' := [(7, .long (0 : Int64)), (5, .long (0 : Int64)), (4, .ref (ad (lc x2.toNatClampNeg))), (3, .ref (ad (lc x1.toNatClampNeg))), (0, .ref (ad 0)), (1, .int x1), (2, .int x2)]) hx hb dX3_compare_33 hl (by decide) rfl (fun ls hl => ?_)
  refine lv_lconst (v := 0) hx hb dX3_compare_35 (by decide) ?_
  refine lv_lstore (lv' := [(9, .long (0 : Int64)), (7, .long (0 : Int64)), (5, .long (0 : Int64)), (4, .ref (ad (lc x2.toNatClampNeg))), (3, .ref (ad (lc x1.toNatClampNeg))), (0, .ref (ad 0)), (1, .int x1), (2, .int x2)]) hx hb dX3_compare_36 hl (by decide) rfl (fun ls hl => ?_)
  refine lv_iconst (v := 0) hx hb dX3_compare_38 (by decide) ?_
  refine lv_istore (lv' := [(11, .int (0 : Int32)), (9, .long (0 : Int64)), (7, .long (0 : Int64)), (5, .long (0 : Int64)), (4, .ref (ad (lc x2.toNatClampNeg))), (3, .ref (ad (lc x1.toNatClampNeg))), (0, .ref (ad 0)), (1, .int x1), (2, .int x2)]) hx hb dX3_compare_39 hl (by decide) rfl (fun ls hl => ?_)
  obtain ⟨x5_10, x7_11, x9_12, hz, hE⟩ := ob3_some hE
  refine L41 FU st x1.toNatClampNeg x2.toNatClampNeg (0 : Int64) (0 : Int64) (0 : Int64) (0 : Int32) (in15 hi_3) (in15 hi_4) x5_10 x7_11 x9_12 _ _ _ hz hW (lv_sub hl [5, 4, 3, 2, 1, 0] rfl) (fun H locs ls hW hl => ?_)
  refine lv_lload hx hb dX3_compare_107 (lv_at hl 0 rfl) ?_
  refine lv_lconst (v := 0) hx hb dX3_compare_109 (by decide) ?_
  refine W.lcmp hx hb dX3_compare_110 ?_
  refine lv_if_ne (tgt := 127) hx hb dX3_compare_111 (by decide) (fun c_13 => ?_) (fun c_13 => ?_)
  · have hE := if_t c_13 hE
    refine lv_lload hx hb dX3_compare_127 (lv_at hl 1 rfl) ?_
    refine lv_lconst (v := 0) hx hb dX3_compare_129 (by decide) ?_
    refine W.lcmp hx hb dX3_compare_130 ?_
    refine lv_if_ne (tgt := 136) hx hb dX3_compare_131 (by decide) (fun c_14 => ?_) (fun c_14 => ?_)
    · have hE := if_t c_14 hE
      refine lv_lload hx hb dX3_compare_136 (lv_at hl 2 rfl) ?_
      refine lv_lconst (v := 0) hx hb dX3_compare_138 (by decide) ?_
      refine W.lcmp hx hb dX3_compare_139 ?_
      refine lv_if_ne (tgt := 147) hx hb dX3_compare_140 (by decide) (fun c_15 => ?_) (fun c_15 => ?_)
      · have hE := if_t c_15 hE
        refine lv_iconst (v := 4) hx hb dX3_compare_147 (by decide) ?_
        obtain rfl := some_x hE
        exact W.iret hx hb hr (fun t ht hWm => hW.qi ht hWm) hW.2.2.1.2.2 dX3_compare_148
      · have hE := if_f (fun q => q c_15) hE
        refine lv_iconst (v := 3) hx hb dX3_compare_143 (by decide) ?_
        refine lv_goto (tgt := 148) hx hb dX3_compare_144 (by decide) ?_
        obtain rfl := some_x hE
        exact W.iret hx hb hr (fun t ht hWm => hW.qi ht hWm) hW.2.2.1.2.2 dX3_compare_148
    · have hE := if_f (fun q => q c_14) hE
      refine lv_iconst (v := 2) hx hb dX3_compare_134 (by decide) ?_
      obtain rfl := some_x hE
      exact W.iret hx hb hr (fun t ht hWm => hW.qi ht hWm) hW.2.2.1.2.2 dX3_compare_135
  · have hE := if_f (fun q => q c_13) hE
    refine lv_lload hx hb dX3_compare_114 (lv_at hl 1 rfl) ?_
    refine lv_lconst (v := 0) hx hb dX3_compare_116 (by decide) ?_
    refine W.lcmp hx hb dX3_compare_117 ?_
    refine lv_if_ne (tgt := 125) hx hb dX3_compare_118 (by decide) (fun c_16 => ?_) (fun c_16 => ?_)
    · have hE := if_t c_16 hE
      refine lv_iconst (v := 1) hx hb dX3_compare_125 (by decide) ?_
      obtain rfl := some_x hE
      exact W.iret hx hb hr (fun t ht hWm => hW.qi ht hWm) hW.2.2.1.2.2 dX3_compare_126
    · have hE := if_f (fun q => q c_16) hE
      refine lv_iconst (v := 0) hx hb dX3_compare_121 (by decide) ?_
      refine lv_goto (tgt := 126) hx hb dX3_compare_122 (by decide) ?_
      obtain rfl := some_x hE
      exact W.iret hx hb hr (fun t ht hWm => hW.qi ht hWm) hW.2.2.1.2.2 dX3_compare_126
abbrev rmX3_trend : Room := { frames := 2, cells := 0, slots := 0, locals := 80 }
set_option maxRecDepth 100000 in
theorem in3_X3_trend : ∀ w ∈ wsX30, w ∈ wsX3_trend := by decide +kernel
set_option maxHeartbeats 4000000 in
set_option maxRecDepth 100000 in
theorem ctX3_trend (l : Launch) (D : va_G) (ks : KA) (ad : Nat → Nat) (sz : Nat) (st : St) (x1 : Int32) (x2 : Int32)  {r : Int32}  (hE : sX3_trend st x1 x2 = some r) : CI l D ks yX3_trend wsX3_trend rmX3_trend [.ref (ad 0), .int x1, .int x2] ad sz st r st := by
  unfold sX3_trend at hE
  refine Met.ofW (cc := cX3_trend) (maxL := 13) (ret := (some .int)) (by decide) rfl ?_
  intro p e s m args below meth c s₁ B hml hv
  obtain ⟨hargs, hPW⟩ := hv
  have hW := WW.entry hPW
  have hx := B.exec
  have hb := B.bytes
  have hr := B.returns
  have hts := atoms_spec (ws := wsX3_trend) B.pre
  have hown : s.vm.findClass RX3 = some m.cls := findClass_of_methodNamed B.named
  have hlocks := B.notSynchronized
  have hin3 : ∀ w ∈ u_ws RX3 TX3 10, w ∈ wsX3_trend := in3_X3_trend
  have hf11 := hts (.fieldLink RX3 11 "Trellis" "functions" "[LTrellis$Table;") (by decide +kernel)
  have hl := lv_entry ([.ref (ad 0), .int x1, .int x2]) (n := 13) (Nat.le_of_ble_eq_true rfl)
  have hfr : entryFrame m args 13 = F0 m 0 (lg_sl ([.ref (ad 0), .int x1, .int x2]) ++ List.replicate (13 - (lg_sl ([.ref (ad 0), .int x1, .int x2])).length) Slot.unset).toArray [] := by rw [hargs, lg_entry_eq]
  rw [hfr]
  generalize (lg_sl ([.ref (ad 0), .int x1, .int x2]) ++ List.replicate (13 - (lg_sl ([.ref (ad 0), .int x1, .int x2])).length) Slot.unset).toArray = ls at hl ⊢
  have hl : lv_has ls 13 [(0, .ref (ad 0)), (1, .int x1), (2, .int x2)] := hl
  have L24 : ∀ (n : Nat) (st : St) (x2 : Int32) (t3 : Nat) (x4 : Int64) (x6 : Int64) (x8 : Int32) (hu3 : t3 < 15) (z4 : Int64) (z6 : Int64) (H : Heap) (locs : List Loc) (ls : Array Slot), sX3_trend_L24 n st x2 t3 x4 x6 x8 = some (z4, z6) → WW D ks ad (AA ad sz) s st H locs → lv_has ls 13 [(2, .int x2), (3, .ref (ad (tc t3))), (4, .long x4), (6, .long x6), (8, .int x8)] → (∀ (H : Heap) (locs : List Loc) (ls : Array Slot), WW D ks ad (AA ad sz) s st H locs → lv_has ls 13 [(4, .long z4), (6, .long z6)] → W p l e (headSpec wsX3_trend rmX3_trend).room s m args below meth c H locs 0 0 (MQ below (va_Qi (fun (x : Int32) (u : St) => x = r ∧ u = st) (QW D ks ad sz) (AA ad sz)) args s 0 0 (AA ad sz)) (F0 m 85 ls [])) → W p l e (headSpec wsX3_trend rmX3_trend).room s m args below meth c H locs 0 0 (MQ below (va_Qi (fun (x : Int32) (u : St) => x = r ∧ u = st) (QW D ks ad sz) (AA ad sz)) args s 0 0 (AA ad sz)) (F0 m 24 ls []) := by
    intro n
    induction n with
    | zero =>
      intro st x2 t3 x4 x6 x8 hu3 z4 z6 H locs ls hE hW hl kx
      exact none_x hE
    | succ n ih =>
      intro st x2 t3 x4 x6 x8 hu3 z4 z6 H locs ls hE hW hl kx
      rw [sX3_trend_L24] at hE
      refine lv_iload hx hb dX3_trend_24 (lv_at hl 4 rfl) ?_
      refine lv_bipush (v := 16) hx hb dX3_trend_26 (by decide) ?_
      refine lv_icmp_ge (tgt := 85) hx hb dX3_trend_28 (by decide) (fun c_4 => ?_) (fun c_4 => ?_)
      · have hE := if_t c_4 hE
        obtain ⟨rfl, rfl⟩ := tup2_x hE
        exact kx _ _ _ hW (lv_sub hl [2, 3] rfl)
      · have hE := if_f c_4 hE
        refine lv_aload_n hx hb dX3_trend_31 rfl (lv_at hl 1 rfl) ?_
        refine lv_iload_n hx hb dX3_trend_32 rfl (lv_at hl 0 rfl) ?_
        refine lv_iconst (v := 0) hx hb dX3_trend_33 (by decide) ?_
        refine lv_iload hx hb dX3_trend_34 (lv_at hl 4 rfl) ?_
        obtain ⟨r_6, hc_5, hE⟩ := ob_some hE
        refine ww_callVl (As := [.int x2, .int (0 : Int32), .int x8]) (rest := []) ⟨hx, hb, hml, hown, hts⟩ hW (ctX2_wordWith l D ks ad _ st t3 x2 (0 : Int32) x8 hu3 hc_5) (cwV 3 hts gX3_trend_X2_wordWith rfl rfl rfl (by decide +kernel) ⟨Nat.le_of_ble_eq_true rfl, Nat.le_of_ble_eq_true rfl⟩) (hW.recvT hu3) rfl hl.1 rfl (Nat.le_of_ble_eq_true rfl) dX3_trend_36 ⟨Nat.zero_le _, Nat.zero_le _⟩ (fun H locs hW => ?_)
        refine lv_lstore (lv' := [(9, .long r_6), (2, .int x2), (3, .ref (ad (tc t3))), (4, .long x4), (6, .long x6), (8, .int x8)]) hx hb dX3_trend_39 hl (by decide) rfl (fun ls hl => ?_)
        refine lv_aload_n hx hb dX3_trend_41 rfl (lv_at hl 2 rfl) ?_
        refine lv_iload_n hx hb dX3_trend_42 rfl (lv_at hl 1 rfl) ?_
        refine lv_iconst (v := 1) hx hb dX3_trend_43 (by decide) ?_
        refine lv_iload hx hb dX3_trend_44 (lv_at hl 5 rfl) ?_
        obtain ⟨r_8, hc_7, hE⟩ := ob_some hE
        refine ww_callVl (As := [.int x2, .int (1 : Int32), .int x8]) (rest := []) ⟨hx, hb, hml, hown, hts⟩ hW (ctX2_wordWith l D ks ad _ st t3 x2 (1 : Int32) x8 hu3 hc_7) (cwV 3 hts gX3_trend_X2_wordWith rfl rfl rfl (by decide +kernel) ⟨Nat.le_of_ble_eq_true rfl, Nat.le_of_ble_eq_true rfl⟩) (hW.recvT hu3) rfl hl.1 rfl (Nat.le_of_ble_eq_true rfl) dX3_trend_46 ⟨Nat.zero_le _, Nat.zero_le _⟩ (fun H locs hW => ?_)
        refine lv_lstore (lv' := [(11, .long r_8), (9, .long r_6), (2, .int x2), (3, .ref (ad (tc t3))), (4, .long x4), (6, .long x6), (8, .int x8)]) hx hb dX3_trend_49 hl (by decide) rfl (fun ls hl => ?_)
        refine lv_lload hx hb dX3_trend_51 (lv_at hl 4 rfl) ?_
        refine lv_lload hx hb dX3_trend_53 (lv_at hl 1 rfl) ?_
        refine lv_ldc2 (v := (-1)) hx hb hown (hts (.constantLong RX3 87 (-1)) (by decide +kernel)) dX3_trend_55 ?_
        refine lv_lxor hx hb dX3_trend_58 ?_
        refine lv_lload hx hb dX3_trend_59 (lv_at hl 0 rfl) ?_
        refine lv_land hx hb dX3_trend_61 ?_
        refine lv_lor hx hb dX3_trend_62 ?_
        obtain ⟨x4_9, e, hE⟩ := lt_some hE
        refine lv_nml e ?_
        refine lv_lstore (lv' := [(4, .long x4_9), (11, .long r_8), (9, .long r_6), (2, .int x2), (3, .ref (ad (tc t3))), (6, .long x6), (8, .int x8)]) hx hb dX3_trend_63 hl (by decide) rfl (fun ls hl => ?_)
        refine lv_lload hx hb dX3_trend_65 (lv_at hl 5 rfl) ?_
        refine lv_lload hx hb dX3_trend_67 (lv_at hl 2 rfl) ?_
        refine lv_lload hx hb dX3_trend_69 (lv_at hl 1 rfl) ?_
        refine lv_ldc2 (v := (-1)) hx hb hown (hts (.constantLong RX3 87 (-1)) (by decide +kernel)) dX3_trend_71 ?_
        refine lv_lxor hx hb dX3_trend_74 ?_
        refine lv_land hx hb dX3_trend_75 ?_
        refine lv_lor hx hb dX3_trend_76 ?_
        obtain ⟨x6_10, e, hE⟩ := lt_some hE
        refine lv_nml e ?_
        refine lv_lstore (lv' := [(6, .long x6_10), (4, .long x4_9), (11, .long r_8), (9, .long r_6), (2, .int x2), (3, .ref (ad (tc t3))), (8, .int x8)]) hx hb dX3_trend_77 hl (by decide) rfl (fun ls hl => ?_)
        obtain ⟨x8_11, e, hE⟩ := lt_some hE
        refine lv_iinc (v := x8_11) (lv' := [(8, .int x8_11), (6, .long x6_10), (4, .long x4_9), (11, .long r_8), (9, .long r_6), (2, .int x2), (3, .ref (ad (tc t3)))]) hx hb dX3_trend_79 hl (k := 6) rfl (by rw [e]; rfl) (by decide) rfl (fun ls hl => ?_)
        refine lv_goto (tgt := 24) hx hb dX3_trend_82 (by decide) ?_
        exact ih st x2 t3 x4_9 x6_10 x8_11 hu3 _ _ _ _ _ hE hW (lv_sub hl [5, 6, 2, 1, 0] rfl) kx
  refine lv_iload_n hx hb dX3_trend_0 rfl (lv_at hl 1 rfl) ?_
  obtain ⟨_, hc_1, hE⟩ := ob_some hE
  refine ww_callSv (As := [.int x1]) (rest := []) ⟨hx, hb, hml, hown, hts⟩ hW (ctX3_checkSlot l D ks ad _ st x1 hc_1) (va_cwS 1 hts gX3_trend_X3_checkSlot rfl rfl rfl (by decide +kernel) ⟨Nat.le_of_ble_eq_true rfl, Nat.le_of_ble_eq_true rfl⟩) rfl hl.1 rfl (Nat.le_of_ble_eq_true rfl) dX3_trend_1 ⟨Nat.zero_le _, Nat.zero_le _⟩ (fun H locs hW => ?_)
  refine lv_iload_n hx hb dX3_trend_4 rfl (lv_at hl 2 rfl) ?_
  obtain ⟨_, hc_2, hE⟩ := ob_some hE
  refine ww_callSv (As := [.int x2]) (rest := []) ⟨hx, hb, hml, hown, hts⟩ hW (ctX3_checkVariable l D ks ad _ st x2 hc_2) (va_cwS 1 hts gX3_trend_X3_checkVariable rfl rfl rfl (by decide +kernel) ⟨Nat.le_of_ble_eq_true rfl, Nat.le_of_ble_eq_true rfl⟩) rfl hl.1 rfl (Nat.le_of_ble_eq_true rfl) dX3_trend_5 ⟨Nat.zero_le _, Nat.zero_le _⟩ (fun H locs hW => ?_)
  refine lv_aload_n hx hb dX3_trend_8 rfl (lv_at hl 0 rfl) ?_
  refine ww_get (C := RX3) (T := TX3) (N := 10) (ref := RX3) (ci := 3) (v := .ref (ad 1)) hx hb hts hin3 hown hW 0 (by decide) rfl rfl 0 (by decide) hf11 (fun _ h9 => h9) rfl dX3_trend_9 ?_
  refine lv_iload_n hx hb dX3_trend_12 rfl (lv_at hl 1 rfl) ?_
  obtain ⟨hi_3, hE⟩ := gd_some hE
  refine ww_aald hx hb hW hi_3 dX3_trend_13 ?_
  refine lv_astore_n (lv' := [(3, .ref (ad (tc x1.toNatClampNeg))), (0, .ref (ad 0)), (1, .int x1), (2, .int x2)]) hx hb dX3_trend_14 rfl hl (by decide) rfl (fun ls hl => ?_)
  refine lv_lconst (v := 0) hx hb dX3_trend_15 (by decide) ?_
  refine lv_lstore (lv' := [(4, .long (0 : Int64)), (3, .ref (ad (tc x1.toNatClampNeg))), (0, .ref (ad 0)), (1, .int x1), (2, .int x2)]) hx hb dX3_trend_16 hl (by decide) rfl (fun ls hl => ?_)
  refine lv_lconst (v := 0) hx hb dX3_trend_18 (by decide) ?_
  refine lv_lstore (lv' := [(6, .long (0 : Int64)), (4, .long (0 : Int64)), (3, .ref (ad (tc x1.toNatClampNeg))), (0, .ref (ad 0)), (1, .int x1), (2, .int x2)]) hx hb dX3_trend_19 hl (by decide) rfl (fun ls hl => ?_)
  refine lv_iconst (v := 0) hx hb dX3_trend_21 (by decide) ?_
  refine lv_istore (lv' := [(8, .int (0 : Int32)), (6, .long (0 : Int64)), (4, .long (0 : Int64)), (3, .ref (ad (tc x1.toNatClampNeg))), (0, .ref (ad 0)), (1, .int x1), (2, .int x2)]) hx hb dX3_trend_22 hl (by decide) rfl (fun ls hl => ?_)
  obtain ⟨x4_12, x6_13, hz, hE⟩ := ob2_some hE
  refine L24 FU st x2 x1.toNatClampNeg (0 : Int64) (0 : Int64) (0 : Int32) (in15 hi_3) x4_12 x6_13 _ _ _ hz hW (lv_sub hl [6, 3, 2, 1, 0] rfl) (fun H locs ls hW hl => ?_)
  refine lv_lload hx hb dX3_trend_85 (lv_at hl 0 rfl) ?_
  refine lv_lconst (v := 0) hx hb dX3_trend_87 (by decide) ?_
  refine W.lcmp hx hb dX3_trend_88 ?_
  refine lv_if_eq (tgt := 96) hx hb dX3_trend_89 (by decide) (fun c_14 => ?_) (fun c_14 => ?_)
  · have hE := if_t c_14 hE
    refine lv_iconst (v := 0) hx hb dX3_trend_96 (by decide) ?_
    refine lv_lload hx hb dX3_trend_97 (lv_at hl 1 rfl) ?_
    refine lv_lconst (v := 0) hx hb dX3_trend_99 (by decide) ?_
    refine W.lcmp hx hb dX3_trend_100 ?_
    refine lv_if_eq (tgt := 108) hx hb dX3_trend_101 (by decide) (fun c_15 => ?_) (fun c_15 => ?_)
    · have hE := if_t c_15 hE
      refine lv_iconst (v := 0) hx hb dX3_trend_108 (by decide) ?_
      refine lv_iadd hx hb dX3_trend_109 ?_
      obtain rfl := some_x hE
      exact W.iret hx hb hr (fun t ht hWm => hW.qi ht hWm) hW.2.2.1.2.2 dX3_trend_110
    · have hE := if_f c_15 hE
      refine lv_iconst (v := 2) hx hb dX3_trend_104 (by decide) ?_
      refine lv_goto (tgt := 109) hx hb dX3_trend_105 (by decide) ?_
      refine lv_iadd hx hb dX3_trend_109 ?_
      obtain rfl := some_x hE
      exact W.iret hx hb hr (fun t ht hWm => hW.qi ht hWm) hW.2.2.1.2.2 dX3_trend_110
  · have hE := if_f c_14 hE
    refine lv_iconst (v := 1) hx hb dX3_trend_92 (by decide) ?_
    refine lv_goto (tgt := 97) hx hb dX3_trend_93 (by decide) ?_
    refine lv_lload hx hb dX3_trend_97 (lv_at hl 1 rfl) ?_
    refine lv_lconst (v := 0) hx hb dX3_trend_99 (by decide) ?_
    refine W.lcmp hx hb dX3_trend_100 ?_
    refine lv_if_eq (tgt := 108) hx hb dX3_trend_101 (by decide) (fun c_16 => ?_) (fun c_16 => ?_)
    · have hE := if_t c_16 hE
      refine lv_iconst (v := 0) hx hb dX3_trend_108 (by decide) ?_
      refine lv_iadd hx hb dX3_trend_109 ?_
      obtain rfl := some_x hE
      exact W.iret hx hb hr (fun t ht hWm => hW.qi ht hWm) hW.2.2.1.2.2 dX3_trend_110
    · have hE := if_f c_16 hE
      refine lv_iconst (v := 2) hx hb dX3_trend_104 (by decide) ?_
      refine lv_goto (tgt := 109) hx hb dX3_trend_105 (by decide) ?_
      refine lv_iadd hx hb dX3_trend_109 ?_
      obtain rfl := some_x hE
      exact W.iret hx hb hr (fun t ht hWm => hW.qi ht hWm) hW.2.2.1.2.2 dX3_trend_110
abbrev rmX3_influence : Room := { frames := 2, cells := 0, slots := 0, locals := 80 }
set_option maxRecDepth 100000 in
theorem in3_X3_influence : ∀ w ∈ wsX30, w ∈ wsX3_influence := by decide +kernel
set_option maxHeartbeats 4000000 in
set_option maxRecDepth 100000 in
theorem ctX3_influence (l : Launch) (D : va_G) (ks : KA) (ad : Nat → Nat) (sz : Nat) (st : St) (x1 : Int32) (x2 : Int32)  {r : Int32}  (hE : sX3_influence st x1 x2 = some r) : CI l D ks yX3_influence wsX3_influence rmX3_influence [.ref (ad 0), .int x1, .int x2] ad sz st r st := by
  unfold sX3_influence at hE
  refine Met.ofW (cc := cX3_influence) (maxL := 3) (ret := (some .int)) (by decide) rfl ?_
  intro p e s m args below meth c s₁ B hml hv
  obtain ⟨hargs, hPW⟩ := hv
  have hW := WW.entry hPW
  have hx := B.exec
  have hb := B.bytes
  have hr := B.returns
  have hts := atoms_spec (ws := wsX3_influence) B.pre
  have hown : s.vm.findClass RX3 = some m.cls := findClass_of_methodNamed B.named
  have hlocks := B.notSynchronized
  have hin3 : ∀ w ∈ u_ws RX3 TX3 10, w ∈ wsX3_influence := in3_X3_influence
  have hf11 := hts (.fieldLink RX3 11 "Trellis" "functions" "[LTrellis$Table;") (by decide +kernel)
  have hl := lv_entry ([.ref (ad 0), .int x1, .int x2]) (n := 3) (Nat.le_of_ble_eq_true rfl)
  have hfr : entryFrame m args 3 = F0 m 0 (lg_sl ([.ref (ad 0), .int x1, .int x2]) ++ List.replicate (3 - (lg_sl ([.ref (ad 0), .int x1, .int x2])).length) Slot.unset).toArray [] := by rw [hargs, lg_entry_eq]
  rw [hfr]
  generalize (lg_sl ([.ref (ad 0), .int x1, .int x2]) ++ List.replicate (3 - (lg_sl ([.ref (ad 0), .int x1, .int x2])).length) Slot.unset).toArray = ls at hl ⊢
  have hl : lv_has ls 3 [(0, .ref (ad 0)), (1, .int x1), (2, .int x2)] := hl
  refine lv_iload_n hx hb dX3_influence_0 rfl (lv_at hl 1 rfl) ?_
  obtain ⟨_, hc_1, hE⟩ := ob_some hE
  refine ww_callSv (As := [.int x1]) (rest := []) ⟨hx, hb, hml, hown, hts⟩ hW (ctX3_checkSlot l D ks ad _ st x1 hc_1) (va_cwS 1 hts gX3_influence_X3_checkSlot rfl rfl rfl (by decide +kernel) ⟨Nat.le_of_ble_eq_true rfl, Nat.le_of_ble_eq_true rfl⟩) rfl hl.1 rfl (Nat.le_of_ble_eq_true rfl) dX3_influence_1 ⟨Nat.zero_le _, Nat.zero_le _⟩ (fun H locs hW => ?_)
  refine lv_iload_n hx hb dX3_influence_4 rfl (lv_at hl 2 rfl) ?_
  obtain ⟨_, hc_2, hE⟩ := ob_some hE
  refine ww_callSv (As := [.int x2]) (rest := []) ⟨hx, hb, hml, hown, hts⟩ hW (ctX3_checkVariable l D ks ad _ st x2 hc_2) (va_cwS 1 hts gX3_influence_X3_checkVariable rfl rfl rfl (by decide +kernel) ⟨Nat.le_of_ble_eq_true rfl, Nat.le_of_ble_eq_true rfl⟩) rfl hl.1 rfl (Nat.le_of_ble_eq_true rfl) dX3_influence_5 ⟨Nat.zero_le _, Nat.zero_le _⟩ (fun H locs hW => ?_)
  refine lv_aload_n hx hb dX3_influence_8 rfl (lv_at hl 0 rfl) ?_
  refine ww_get (C := RX3) (T := TX3) (N := 10) (ref := RX3) (ci := 3) (v := .ref (ad 1)) hx hb hts hin3 hown hW 0 (by decide) rfl rfl 0 (by decide) hf11 (fun _ h9 => h9) rfl dX3_influence_9 ?_
  refine lv_iload_n hx hb dX3_influence_12 rfl (lv_at hl 1 rfl) ?_
  obtain ⟨hi_3, hE⟩ := gd_some hE
  refine ww_aald hx hb hW hi_3 dX3_influence_13 ?_
  refine lv_iload_n hx hb dX3_influence_14 rfl (lv_at hl 2 rfl) ?_
  obtain ⟨r_5, hc_4, hE⟩ := ob_some hE
  refine ww_callVi (As := [.int x2]) (rest := []) ⟨hx, hb, hml, hown, hts⟩ hW (ctX2_changes l D ks ad _ st x1.toNatClampNeg x2 (in15 hi_3) hc_4) (cwV 1 hts gX3_influence_X2_changes rfl rfl rfl (by decide +kernel) ⟨Nat.le_of_ble_eq_true rfl, Nat.le_of_ble_eq_true rfl⟩) (hW.recvT (in15 hi_3)) rfl hl.1 rfl (Nat.le_of_ble_eq_true rfl) dX3_influence_15 ⟨Nat.zero_le _, Nat.zero_le _⟩ (fun H locs hW => ?_)
  obtain rfl := some_x hE
  exact W.iret hx hb hr (fun t ht hWm => hW.qi ht hWm) hW.2.2.1.2.2 dX3_influence_18
abbrev rmX3_cheapest : Room := { frames := 2, cells := 0, slots := 0, locals := 80 }
set_option maxRecDepth 100000 in
theorem in3_X3_cheapest : ∀ w ∈ wsX30, w ∈ wsX3_cheapest := by decide +kernel
set_option maxHeartbeats 4000000 in
set_option maxRecDepth 100000 in
theorem ctX3_cheapest (l : Launch) (D : va_G) (ks : KA) (ad : Nat → Nat) (sz : Nat) (st : St) (x1 : Int32)  {r : Int32}  (hE : sX3_cheapest st x1 = some r) : CI l D ks yX3_cheapest wsX3_cheapest rmX3_cheapest [.ref (ad 0), .int x1] ad sz st r st := by
  unfold sX3_cheapest at hE
  refine Met.ofW (cc := cX3_cheapest) (maxL := 6) (ret := (some .int)) (by decide) rfl ?_
  intro p e s m args below meth c s₁ B hml hv
  obtain ⟨hargs, hPW⟩ := hv
  have hW := WW.entry hPW
  have hx := B.exec
  have hb := B.bytes
  have hr := B.returns
  have hts := atoms_spec (ws := wsX3_cheapest) B.pre
  have hown : s.vm.findClass RX3 = some m.cls := findClass_of_methodNamed B.named
  have hlocks := B.notSynchronized
  have hin3 : ∀ w ∈ u_ws RX3 TX3 10, w ∈ wsX3_cheapest := in3_X3_cheapest
  have hf11 := hts (.fieldLink RX3 11 "Trellis" "functions" "[LTrellis$Table;") (by decide +kernel)
  have hf47 := hts (.fieldLink RX3 47 "Trellis" "costOf" "[I") (by decide +kernel)
  have hl := lv_entry ([.ref (ad 0), .int x1]) (n := 6) (Nat.le_of_ble_eq_true rfl)
  have hfr : entryFrame m args 6 = F0 m 0 (lg_sl ([.ref (ad 0), .int x1]) ++ List.replicate (6 - (lg_sl ([.ref (ad 0), .int x1])).length) Slot.unset).toArray [] := by rw [hargs, lg_entry_eq]
  rw [hfr]
  generalize (lg_sl ([.ref (ad 0), .int x1]) ++ List.replicate (6 - (lg_sl ([.ref (ad 0), .int x1])).length) Slot.unset).toArray = ls at hl ⊢
  have hl : lv_has ls 6 [(0, .ref (ad 0)), (1, .int x1)] := hl
  have L21 : ∀ (n : Nat) (st : St) (t2 : Nat) (x3 : Int32) (x4 : Int32) (x5 : Int32) (hu2 : t2 < 15) (z3 : Int32) (H : Heap) (locs : List Loc) (ls : Array Slot), sX3_cheapest_L21 n st t2 x3 x4 x5 = some z3 → WW D ks ad (AA ad sz) s st H locs → lv_has ls 6 [(0, .ref (ad 0)), (2, .ref (ad (tc t2))), (3, .int x3), (4, .int x4), (5, .int x5)] → (∀ (H : Heap) (locs : List Loc) (ls : Array Slot), WW D ks ad (AA ad sz) s st H locs → lv_has ls 6 [(3, .int z3)] → W p l e (headSpec wsX3_cheapest rmX3_cheapest).room s m args below meth c H locs 0 0 (MQ below (va_Qi (fun (x : Int32) (u : St) => x = r ∧ u = st) (QW D ks ad sz) (AA ad sz)) args s 0 0 (AA ad sz)) (F0 m 68 ls [])) → W p l e (headSpec wsX3_cheapest rmX3_cheapest).room s m args below meth c H locs 0 0 (MQ below (va_Qi (fun (x : Int32) (u : St) => x = r ∧ u = st) (QW D ks ad sz) (AA ad sz)) args s 0 0 (AA ad sz)) (F0 m 21 ls []) := by
    intro n
    induction n with
    | zero =>
      intro st t2 x3 x4 x5 hu2 z3 H locs ls hE hW hl kx
      exact none_x hE
    | succ n ih =>
      intro st t2 x3 x4 x5 hu2 z3 H locs ls hE hW hl kx
      rw [sX3_cheapest_L21] at hE
      refine lv_iload hx hb dX3_cheapest_21 (lv_at hl 4 rfl) ?_
      refine lv_sipush (v := 1024) hx hb dX3_cheapest_23 (by decide) ?_
      refine lv_icmp_ge (tgt := 68) hx hb dX3_cheapest_26 (by decide) (fun c_3 => ?_) (fun c_3 => ?_)
      · have hE := if_t c_3 hE
        obtain rfl := some_x hE
        exact kx _ _ _ hW (lv_sub hl [2] rfl)
      · have hE := if_f c_3 hE
        refine lv_aload_n hx hb dX3_cheapest_29 rfl (lv_at hl 0 rfl) ?_
        refine ww_get (C := RX3) (T := TX3) (N := 10) (ref := RX3) (ci := 3) (v := .ref (ad (ic 2))) hx hb hts hin3 hown hW 0 (by decide) rfl rfl 8 (by decide) hf47 (fun _ h9 => h9) rfl dX3_cheapest_30 ?_
        refine lv_iload hx hb dX3_cheapest_33 (lv_at hl 4 rfl) ?_
        obtain ⟨hin, hE⟩ := gd_some hE
        refine ww_iald hx hb hW 2 (by decide) hin dX3_cheapest_35 ?_
        refine lv_iload hx hb dX3_cheapest_36 (lv_at hl 3 rfl) ?_
        refine lv_icmp_ge (tgt := 62) hx hb dX3_cheapest_38 (by decide) (fun c_4 => ?_) (fun c_4 => ?_)
        · have hE := if_t c_4 hE
          obtain ⟨x5_5, e, hE⟩ := lt_some hE
          refine lv_iinc (v := x5_5) (lv' := [(5, .int x5_5), (0, .ref (ad 0)), (2, .ref (ad (tc t2))), (3, .int x3), (4, .int x4)]) hx hb dX3_cheapest_62 hl (k := 4) rfl (by rw [e]; rfl) (by decide) rfl (fun ls hl => ?_)
          refine lv_goto (tgt := 21) hx hb dX3_cheapest_65 (by decide) ?_
          exact ih st t2 x3 x4 x5_5 hu2 _ _ _ _ hE hW (lv_sub hl [1, 2, 3, 4, 0] rfl) kx
        · have hE := if_f c_4 hE
          refine lv_aload_n hx hb dX3_cheapest_41 rfl (lv_at hl 1 rfl) ?_
          refine lv_iload hx hb dX3_cheapest_42 (lv_at hl 4 rfl) ?_
          obtain ⟨r_7, hc_6, hE⟩ := ob_some hE
          refine ww_callVi (As := [.int x5]) (rest := []) ⟨hx, hb, hml, hown, hts⟩ hW (ctX2_tells l D ks ad _ st t2 x5 hu2 hc_6) (cwV 1 hts gX3_cheapest_X2_tells rfl rfl rfl (by decide +kernel) ⟨Nat.le_of_ble_eq_true rfl, Nat.le_of_ble_eq_true rfl⟩) (hW.recvT hu2) rfl hl.1 rfl (Nat.le_of_ble_eq_true rfl) dX3_cheapest_44 ⟨Nat.zero_le _, Nat.zero_le _⟩ (fun H locs hW => ?_)
          refine lv_if_eq (tgt := 62) hx hb dX3_cheapest_47 (by decide) (fun c_8 => ?_) (fun c_8 => ?_)
          · have hE := if_t c_8 hE
            obtain ⟨x5_9, e, hE⟩ := lt_some hE
            refine lv_iinc (v := x5_9) (lv' := [(5, .int x5_9), (0, .ref (ad 0)), (2, .ref (ad (tc t2))), (3, .int x3), (4, .int x4)]) hx hb dX3_cheapest_62 hl (k := 4) rfl (by rw [e]; rfl) (by decide) rfl (fun ls hl => ?_)
            refine lv_goto (tgt := 21) hx hb dX3_cheapest_65 (by decide) ?_
            exact ih st t2 x3 x4 x5_9 hu2 _ _ _ _ hE hW (lv_sub hl [1, 2, 3, 4, 0] rfl) kx
          · have hE := if_f c_8 hE
            refine lv_aload_n hx hb dX3_cheapest_50 rfl (lv_at hl 0 rfl) ?_
            refine ww_get (C := RX3) (T := TX3) (N := 10) (ref := RX3) (ci := 3) (v := .ref (ad (ic 2))) hx hb hts hin3 hown hW 0 (by decide) rfl rfl 8 (by decide) hf47 (fun _ h9 => h9) rfl dX3_cheapest_51 ?_
            refine lv_iload hx hb dX3_cheapest_54 (lv_at hl 4 rfl) ?_
            obtain ⟨hin, hE⟩ := gd_some hE
            refine ww_iald hx hb hW 2 (by decide) hin dX3_cheapest_56 ?_
            obtain ⟨x4_10, e, hE⟩ := lt_some hE
            refine lv_nmi e ?_
            refine lv_istore (lv' := [(4, .int x4_10), (0, .ref (ad 0)), (2, .ref (ad (tc t2))), (3, .int x3), (5, .int x5)]) hx hb dX3_cheapest_57 hl (by decide) rfl (fun ls hl => ?_)
            refine lv_iload hx hb dX3_cheapest_59 (lv_at hl 4 rfl) ?_
            refine lv_istore_n (lv' := [(3, .int x5), (4, .int x4_10), (0, .ref (ad 0)), (2, .ref (ad (tc t2))), (5, .int x5)]) hx hb dX3_cheapest_61 rfl hl (by decide) rfl (fun ls hl => ?_)
            obtain ⟨x5_11, e, hE⟩ := lt_some hE
            refine lv_iinc (v := x5_11) (lv' := [(5, .int x5_11), (3, .int x5), (4, .int x4_10), (0, .ref (ad 0)), (2, .ref (ad (tc t2)))]) hx hb dX3_cheapest_62 hl (k := 4) rfl (by rw [e]; rfl) (by decide) rfl (fun ls hl => ?_)
            refine lv_goto (tgt := 21) hx hb dX3_cheapest_65 (by decide) ?_
            exact ih st t2 x5 x4_10 x5_11 hu2 _ _ _ _ hE hW (lv_sub hl [3, 4, 1, 2, 0] rfl) kx
  refine lv_iload_n hx hb dX3_cheapest_0 rfl (lv_at hl 1 rfl) ?_
  obtain ⟨_, hc_1, hE⟩ := ob_some hE
  refine ww_callSv (As := [.int x1]) (rest := []) ⟨hx, hb, hml, hown, hts⟩ hW (ctX3_checkSlot l D ks ad _ st x1 hc_1) (va_cwS 1 hts gX3_cheapest_X3_checkSlot rfl rfl rfl (by decide +kernel) ⟨Nat.le_of_ble_eq_true rfl, Nat.le_of_ble_eq_true rfl⟩) rfl hl.1 rfl (Nat.le_of_ble_eq_true rfl) dX3_cheapest_1 ⟨Nat.zero_le _, Nat.zero_le _⟩ (fun H locs hW => ?_)
  refine lv_aload_n hx hb dX3_cheapest_4 rfl (lv_at hl 0 rfl) ?_
  refine ww_get (C := RX3) (T := TX3) (N := 10) (ref := RX3) (ci := 3) (v := .ref (ad 1)) hx hb hts hin3 hown hW 0 (by decide) rfl rfl 0 (by decide) hf11 (fun _ h9 => h9) rfl dX3_cheapest_5 ?_
  refine lv_iload_n hx hb dX3_cheapest_8 rfl (lv_at hl 1 rfl) ?_
  obtain ⟨hi_2, hE⟩ := gd_some hE
  refine ww_aald hx hb hW hi_2 dX3_cheapest_9 ?_
  refine lv_astore_n (lv' := [(2, .ref (ad (tc x1.toNatClampNeg))), (0, .ref (ad 0)), (1, .int x1)]) hx hb dX3_cheapest_10 rfl hl (by decide) rfl (fun ls hl => ?_)
  refine lv_iconst (v := (-1)) hx hb dX3_cheapest_11 (by decide) ?_
  refine lv_istore_n (lv' := [(3, .int (-1 : Int32)), (2, .ref (ad (tc x1.toNatClampNeg))), (0, .ref (ad 0)), (1, .int x1)]) hx hb dX3_cheapest_12 rfl hl (by decide) rfl (fun ls hl => ?_)
  refine lv_sipush (v := 991) hx hb dX3_cheapest_13 (by decide) ?_
  refine lv_istore (lv' := [(4, .int (991 : Int32)), (3, .int (-1 : Int32)), (2, .ref (ad (tc x1.toNatClampNeg))), (0, .ref (ad 0)), (1, .int x1)]) hx hb dX3_cheapest_16 hl (by decide) rfl (fun ls hl => ?_)
  refine lv_iconst (v := 0) hx hb dX3_cheapest_18 (by decide) ?_
  refine lv_istore (lv' := [(5, .int (0 : Int32)), (4, .int (991 : Int32)), (3, .int (-1 : Int32)), (2, .ref (ad (tc x1.toNatClampNeg))), (0, .ref (ad 0)), (1, .int x1)]) hx hb dX3_cheapest_19 hl (by decide) rfl (fun ls hl => ?_)
  obtain ⟨x3_12, hz, hE⟩ := ob_some hE
  refine L21 FU st x1.toNatClampNeg (-1 : Int32) (991 : Int32) (0 : Int32) (in15 hi_2) x3_12 _ _ _ hz hW (lv_sub hl [4, 3, 2, 1, 0] rfl) (fun H locs ls hW hl => ?_)
  refine lv_iload_n hx hb dX3_cheapest_68 rfl (lv_at hl 0 rfl) ?_
  obtain rfl := some_x hE
  exact W.iret hx hb hr (fun t ht hWm => hW.qi ht hWm) hW.2.2.1.2.2 dX3_cheapest_69
abbrev rmX3_size : Room := { frames := 15, cells := 0, slots := 0, locals := 328 }
set_option maxRecDepth 100000 in
theorem in3_X3_size : ∀ w ∈ wsX30, w ∈ wsX3_size := by decide +kernel
set_option maxHeartbeats 4000000 in
set_option maxRecDepth 100000 in
theorem ctX3_size (l : Launch) (D : va_G) (ks : KA) (ad : Nat → Nat) (sz : Nat) (st : St) (x1 : Int32)  {r : Int32} {st' : St} (hE : sX3_size st x1 = some (r, st')) : CI l D ks yX3_size wsX3_size rmX3_size [.ref (ad 0), .int x1] ad sz st r st' := by
  unfold sX3_size at hE
  refine Met.ofW (cc := cX3_size) (maxL := 2) (ret := (some .int)) (by decide) rfl ?_
  intro p e s m args below meth c s₁ B hml hv
  obtain ⟨hargs, hPW⟩ := hv
  have hW := WW.entry hPW
  have hx := B.exec
  have hb := B.bytes
  have hr := B.returns
  have hts := atoms_spec (ws := wsX3_size) B.pre
  have hown : s.vm.findClass RX3 = some m.cls := findClass_of_methodNamed B.named
  have hlocks := B.notSynchronized
  have hin3 : ∀ w ∈ u_ws RX3 TX3 10, w ∈ wsX3_size := in3_X3_size
  have hf22 := hts (.fieldLink RX3 22 "Trellis" "diagram" "LTrellis$Diagram;") (by decide +kernel)
  have hl := lv_entry ([.ref (ad 0), .int x1]) (n := 2) (Nat.le_of_ble_eq_true rfl)
  have hfr : entryFrame m args 2 = F0 m 0 (lg_sl ([.ref (ad 0), .int x1]) ++ List.replicate (2 - (lg_sl ([.ref (ad 0), .int x1])).length) Slot.unset).toArray [] := by rw [hargs, lg_entry_eq]
  rw [hfr]
  generalize (lg_sl ([.ref (ad 0), .int x1]) ++ List.replicate (2 - (lg_sl ([.ref (ad 0), .int x1])).length) Slot.unset).toArray = ls at hl ⊢
  have hl : lv_has ls 2 [(0, .ref (ad 0)), (1, .int x1)] := hl
  refine lv_iload_n hx hb dX3_size_0 rfl (lv_at hl 1 rfl) ?_
  obtain ⟨_, hc_1, hE⟩ := ob_some hE
  refine ww_callSv (As := [.int x1]) (rest := []) ⟨hx, hb, hml, hown, hts⟩ hW (ctX3_checkSlot l D ks ad _ st x1 hc_1) (va_cwS 1 hts gX3_size_X3_checkSlot rfl rfl rfl (by decide +kernel) ⟨Nat.le_of_ble_eq_true rfl, Nat.le_of_ble_eq_true rfl⟩) rfl hl.1 rfl (Nat.le_of_ble_eq_true rfl) dX3_size_1 ⟨Nat.zero_le _, Nat.zero_le _⟩ (fun H locs hW => ?_)
  refine lv_aload_n hx hb dX3_size_4 rfl (lv_at hl 0 rfl) ?_
  refine ww_get (C := RX3) (T := TX3) (N := 10) (ref := RX3) (ci := 3) (v := .ref (ad 6)) hx hb hts hin3 hown hW 0 (by decide) rfl rfl 2 (by decide) hf22 (fun _ h9 => h9) rfl dX3_size_5 ?_
  refine lv_iload_n hx hb dX3_size_8 rfl (lv_at hl 1 rfl) ?_
  refine lv_iload_n hx hb dX3_size_9 rfl (lv_at hl 1 rfl) ?_
  obtain ⟨r_4, st_2, hc_3, hE⟩ := ob2_some hE
  refine ww_callVi (As := [.int x1, .int x1]) (rest := []) ⟨hx, hb, hml, hown, hts⟩ hW (ctX0_countFrom l D ks ad _ st x1 x1 hc_3) (cwV 2 hts gX3_size_X0_countFrom rfl rfl rfl (by decide +kernel) ⟨Nat.le_of_ble_eq_true rfl, Nat.le_of_ble_eq_true rfl⟩) hW.recvD rfl hl.1 rfl (Nat.le_of_ble_eq_true rfl) dX3_size_10 ⟨Nat.zero_le _, Nat.zero_le _⟩ (fun H locs hW => ?_)
  obtain ⟨rfl, rfl⟩ := pair_x hE
  exact W.iret hx hb hr (fun t ht hWm => hW.qi ht hWm) hW.2.2.1.2.2 dX3_size_13
abbrev rmX3_total : Room := { frames := 1, cells := 0, slots := 0, locals := 20 }
set_option maxRecDepth 100000 in
theorem in3_X3_total : ∀ w ∈ wsX30, w ∈ wsX3_total := by decide +kernel
set_option maxHeartbeats 4000000 in
set_option maxRecDepth 100000 in
theorem ctX3_total (l : Launch) (D : va_G) (ks : KA) (ad : Nat → Nat) (sz : Nat) (st : St)   {r : Int32}  (hE : sX3_total st  = some r) : CI l D ks yX3_total wsX3_total rmX3_total [.ref (ad 0)] ad sz st r st := by
  unfold sX3_total at hE
  refine Met.ofW (cc := cX3_total) (maxL := 1) (ret := (some .int)) (by decide) rfl ?_
  intro p e s m args below meth c s₁ B hml hv
  obtain ⟨hargs, hPW⟩ := hv
  have hW := WW.entry hPW
  have hx := B.exec
  have hb := B.bytes
  have hr := B.returns
  have hts := atoms_spec (ws := wsX3_total) B.pre
  have hown : s.vm.findClass RX3 = some m.cls := findClass_of_methodNamed B.named
  have hlocks := B.notSynchronized
  have hin3 : ∀ w ∈ u_ws RX3 TX3 10, w ∈ wsX3_total := in3_X3_total
  have hf22 := hts (.fieldLink RX3 22 "Trellis" "diagram" "LTrellis$Diagram;") (by decide +kernel)
  have hl := lv_entry ([.ref (ad 0)]) (n := 1) (Nat.le_of_ble_eq_true rfl)
  have hfr : entryFrame m args 1 = F0 m 0 (lg_sl ([.ref (ad 0)]) ++ List.replicate (1 - (lg_sl ([.ref (ad 0)])).length) Slot.unset).toArray [] := by rw [hargs, lg_entry_eq]
  rw [hfr]
  generalize (lg_sl ([.ref (ad 0)]) ++ List.replicate (1 - (lg_sl ([.ref (ad 0)])).length) Slot.unset).toArray = ls at hl ⊢
  have hl : lv_has ls 1 [(0, .ref (ad 0))] := hl
  refine lv_aload_n hx hb dX3_total_0 rfl (lv_at hl 0 rfl) ?_
  refine ww_get (C := RX3) (T := TX3) (N := 10) (ref := RX3) (ci := 3) (v := .ref (ad 6)) hx hb hts hin3 hown hW 0 (by decide) rfl rfl 2 (by decide) hf22 (fun _ h9 => h9) rfl dX3_total_1 ?_
  obtain ⟨r_2, hc_1, hE⟩ := ob_some hE
  refine ww_callVi (As := []) (rest := []) ⟨hx, hb, hml, hown, hts⟩ hW (ctX0_count l D ks ad _ st hc_1) (cwV 0 hts gX3_total_X0_count rfl rfl rfl (by decide +kernel) ⟨Nat.le_of_ble_eq_true rfl, Nat.le_of_ble_eq_true rfl⟩) hW.recvD rfl hl.1 rfl (Nat.le_of_ble_eq_true rfl) dX3_total_4 ⟨Nat.zero_le _, Nat.zero_le _⟩ (fun H locs hW => ?_)
  obtain rfl := some_x hE
  exact W.iret hx hb hr (fun t ht hWm => hW.qi ht hWm) hW.2.2.1.2.2 dX3_total_7
abbrev rmX3_checkLevel : Room := { frames := 1, cells := 0, slots := 0, locals := 60 }
set_option maxHeartbeats 4000000 in
set_option maxRecDepth 100000 in
theorem ctX3_checkLevel (l : Launch) (D : va_G) (ks : KA) (ad : Nat → Nat) (sz : Nat) (st : St) (x0 : Int32) (x1 : Int32)   (hE : sX3_checkLevel st x0 x1 = some ()) : CV l D ks yX3_checkLevel wsX3_checkLevel rmX3_checkLevel [.int x0, .int x1] ad sz st st := by
  unfold sX3_checkLevel at hE
  refine Met.ofW (cc := cX3_checkLevel) (maxL := 2) (ret := none) (by decide) rfl ?_
  intro p e s m args below meth c s₁ B hml hv
  obtain ⟨hargs, hPW⟩ := hv
  have hW := WW.entry hPW
  have hx := B.exec
  have hb := B.bytes
  have hr := B.returns
  have hts := atoms_spec (ws := wsX3_checkLevel) B.pre
  have hown : s.vm.findClass RX3 = some m.cls := findClass_of_methodNamed B.named
  have hlocks := B.notSynchronized
  have hl := lv_entry ([.int x0, .int x1]) (n := 2) (Nat.le_of_ble_eq_true rfl)
  have hfr : entryFrame m args 2 = F0 m 0 (lg_sl ([.int x0, .int x1]) ++ List.replicate (2 - (lg_sl ([.int x0, .int x1])).length) Slot.unset).toArray [] := by rw [hargs, lg_entry_eq]
  rw [hfr]
  generalize (lg_sl ([.int x0, .int x1]) ++ List.replicate (2 - (lg_sl ([.int x0, .int x1])).length) Slot.unset).toArray = ls at hl ⊢
  have hl : lv_has ls 2 [(0, .int x0), (1, .int x1)] := hl
  refine lv_iload_n hx hb dX3_checkLevel_0 rfl (lv_at hl 0 rfl) ?_
  refine lv_if_lt (tgt := 9) hx hb dX3_checkLevel_1 (by decide) (fun c_1 => ?_) (fun c_1 => ?_)
  · have hE := if_t c_1 hE
    exact none_x hE
  · have hE := if_f c_1 hE
    refine lv_iload_n hx hb dX3_checkLevel_4 rfl (lv_at hl 0 rfl) ?_
    refine lv_iload_n hx hb dX3_checkLevel_5 rfl (lv_at hl 1 rfl) ?_
    refine lv_icmp_lt (tgt := 20) hx hb dX3_checkLevel_6 (by decide) (fun c_2 => ?_) (fun c_2 => ?_)
    · have hE := if_t c_2 hE
      exact W.vret hx hb hr (fun t ht hWm => hW.qv ht hWm) hW.2.2.1.2.2 dX3_checkLevel_20
    · have hE := if_f c_2 hE
      exact none_x hE
abbrev rmX3_nodesAt : Room := { frames := 2, cells := 0, slots := 0, locals := 81 }
set_option maxRecDepth 100000 in
theorem in3_X3_nodesAt : ∀ w ∈ wsX30, w ∈ wsX3_nodesAt := by decide +kernel
set_option maxHeartbeats 4000000 in
set_option maxRecDepth 100000 in
theorem ctX3_nodesAt (l : Launch) (D : va_G) (ks : KA) (ad : Nat → Nat) (sz : Nat) (st : St) (x1 : Int32)  {r : Int32}  (hE : sX3_nodesAt st x1 = some r) : CI l D ks yX3_nodesAt wsX3_nodesAt rmX3_nodesAt [.ref (ad 0), .int x1] ad sz st r st := by
  unfold sX3_nodesAt at hE
  refine Met.ofW (cc := cX3_nodesAt) (maxL := 2) (ret := (some .int)) (by decide) rfl ?_
  intro p e s m args below meth c s₁ B hml hv
  obtain ⟨hargs, hPW⟩ := hv
  have hW := WW.entry hPW
  have hx := B.exec
  have hb := B.bytes
  have hr := B.returns
  have hts := atoms_spec (ws := wsX3_nodesAt) B.pre
  have hown : s.vm.findClass RX3 = some m.cls := findClass_of_methodNamed B.named
  have hlocks := B.notSynchronized
  have hin3 : ∀ w ∈ u_ws RX3 TX3 10, w ∈ wsX3_nodesAt := in3_X3_nodesAt
  have hf22 := hts (.fieldLink RX3 22 "Trellis" "diagram" "LTrellis$Diagram;") (by decide +kernel)
  have hl := lv_entry ([.ref (ad 0), .int x1]) (n := 2) (Nat.le_of_ble_eq_true rfl)
  have hfr : entryFrame m args 2 = F0 m 0 (lg_sl ([.ref (ad 0), .int x1]) ++ List.replicate (2 - (lg_sl ([.ref (ad 0), .int x1])).length) Slot.unset).toArray [] := by rw [hargs, lg_entry_eq]
  rw [hfr]
  generalize (lg_sl ([.ref (ad 0), .int x1]) ++ List.replicate (2 - (lg_sl ([.ref (ad 0), .int x1])).length) Slot.unset).toArray = ls at hl ⊢
  have hl : lv_has ls 2 [(0, .ref (ad 0)), (1, .int x1)] := hl
  refine lv_iload_n hx hb dX3_nodesAt_0 rfl (lv_at hl 1 rfl) ?_
  refine lv_bipush (v := 10) hx hb dX3_nodesAt_1 (by decide) ?_
  obtain ⟨_, hc_1, hE⟩ := ob_some hE
  refine ww_callSv (As := [.int x1, .int (10 : Int32)]) (rest := []) ⟨hx, hb, hml, hown, hts⟩ hW (ctX3_checkLevel l D ks ad _ st x1 (10 : Int32) hc_1) (va_cwS 2 hts gX3_nodesAt_X3_checkLevel rfl rfl rfl (by decide +kernel) ⟨Nat.le_of_ble_eq_true rfl, Nat.le_of_ble_eq_true rfl⟩) rfl hl.1 rfl (Nat.le_of_ble_eq_true rfl) dX3_nodesAt_3 ⟨Nat.zero_le _, Nat.zero_le _⟩ (fun H locs hW => ?_)
  refine lv_aload_n hx hb dX3_nodesAt_6 rfl (lv_at hl 0 rfl) ?_
  refine ww_get (C := RX3) (T := TX3) (N := 10) (ref := RX3) (ci := 3) (v := .ref (ad 6)) hx hb hts hin3 hown hW 0 (by decide) rfl rfl 2 (by decide) hf22 (fun _ h9 => h9) rfl dX3_nodesAt_7 ?_
  refine lv_iload_n hx hb dX3_nodesAt_10 rfl (lv_at hl 1 rfl) ?_
  obtain ⟨r_3, hc_2, hE⟩ := ob_some hE
  refine ww_callVi (As := [.int x1]) (rest := []) ⟨hx, hb, hml, hown, hts⟩ hW (ctX0_countAt l D ks ad _ st x1 hc_2) (cwV 1 hts gX3_nodesAt_X0_countAt rfl rfl rfl (by decide +kernel) ⟨Nat.le_of_ble_eq_true rfl, Nat.le_of_ble_eq_true rfl⟩) hW.recvD rfl hl.1 rfl (Nat.le_of_ble_eq_true rfl) dX3_nodesAt_11 ⟨Nat.zero_le _, Nat.zero_le _⟩ (fun H locs hW => ?_)
  obtain rfl := some_x hE
  exact W.iret hx hb hr (fun t ht hWm => hW.qi ht hWm) hW.2.2.1.2.2 dX3_nodesAt_14
abbrev rmX3_shared : Room := { frames := 15, cells := 0, slots := 0, locals := 328 }
set_option maxRecDepth 100000 in
theorem in3_X3_shared : ∀ w ∈ wsX30, w ∈ wsX3_shared := by decide +kernel
set_option maxHeartbeats 4000000 in
set_option maxRecDepth 100000 in
theorem ctX3_shared (l : Launch) (D : va_G) (ks : KA) (ad : Nat → Nat) (sz : Nat) (st : St) (x1 : Int32) (x2 : Int32)  {r : Int32} {st' : St} (hE : sX3_shared st x1 x2 = some (r, st')) : CI l D ks yX3_shared wsX3_shared rmX3_shared [.ref (ad 0), .int x1, .int x2] ad sz st r st' := by
  unfold sX3_shared at hE
  refine Met.ofW (cc := cX3_shared) (maxL := 3) (ret := (some .int)) (by decide) rfl ?_
  intro p e s m args below meth c s₁ B hml hv
  obtain ⟨hargs, hPW⟩ := hv
  have hW := WW.entry hPW
  have hx := B.exec
  have hb := B.bytes
  have hr := B.returns
  have hts := atoms_spec (ws := wsX3_shared) B.pre
  have hown : s.vm.findClass RX3 = some m.cls := findClass_of_methodNamed B.named
  have hlocks := B.notSynchronized
  have hin3 : ∀ w ∈ u_ws RX3 TX3 10, w ∈ wsX3_shared := in3_X3_shared
  have hf22 := hts (.fieldLink RX3 22 "Trellis" "diagram" "LTrellis$Diagram;") (by decide +kernel)
  have hl := lv_entry ([.ref (ad 0), .int x1, .int x2]) (n := 3) (Nat.le_of_ble_eq_true rfl)
  have hfr : entryFrame m args 3 = F0 m 0 (lg_sl ([.ref (ad 0), .int x1, .int x2]) ++ List.replicate (3 - (lg_sl ([.ref (ad 0), .int x1, .int x2])).length) Slot.unset).toArray [] := by rw [hargs, lg_entry_eq]
  rw [hfr]
  generalize (lg_sl ([.ref (ad 0), .int x1, .int x2]) ++ List.replicate (3 - (lg_sl ([.ref (ad 0), .int x1, .int x2])).length) Slot.unset).toArray = ls at hl ⊢
  have hl : lv_has ls 3 [(0, .ref (ad 0)), (1, .int x1), (2, .int x2)] := hl
  refine lv_iload_n hx hb dX3_shared_0 rfl (lv_at hl 1 rfl) ?_
  obtain ⟨_, hc_1, hE⟩ := ob_some hE
  refine ww_callSv (As := [.int x1]) (rest := []) ⟨hx, hb, hml, hown, hts⟩ hW (ctX3_checkSlot l D ks ad _ st x1 hc_1) (va_cwS 1 hts gX3_shared_X3_checkSlot rfl rfl rfl (by decide +kernel) ⟨Nat.le_of_ble_eq_true rfl, Nat.le_of_ble_eq_true rfl⟩) rfl hl.1 rfl (Nat.le_of_ble_eq_true rfl) dX3_shared_1 ⟨Nat.zero_le _, Nat.zero_le _⟩ (fun H locs hW => ?_)
  refine lv_iload_n hx hb dX3_shared_4 rfl (lv_at hl 2 rfl) ?_
  obtain ⟨_, hc_2, hE⟩ := ob_some hE
  refine ww_callSv (As := [.int x2]) (rest := []) ⟨hx, hb, hml, hown, hts⟩ hW (ctX3_checkSlot l D ks ad _ st x2 hc_2) (va_cwS 1 hts gX3_shared_X3_checkSlot rfl rfl rfl (by decide +kernel) ⟨Nat.le_of_ble_eq_true rfl, Nat.le_of_ble_eq_true rfl⟩) rfl hl.1 rfl (Nat.le_of_ble_eq_true rfl) dX3_shared_5 ⟨Nat.zero_le _, Nat.zero_le _⟩ (fun H locs hW => ?_)
  refine lv_aload_n hx hb dX3_shared_8 rfl (lv_at hl 0 rfl) ?_
  refine ww_get (C := RX3) (T := TX3) (N := 10) (ref := RX3) (ci := 3) (v := .ref (ad 6)) hx hb hts hin3 hown hW 0 (by decide) rfl rfl 2 (by decide) hf22 (fun _ h9 => h9) rfl dX3_shared_9 ?_
  refine lv_iload_n hx hb dX3_shared_12 rfl (lv_at hl 1 rfl) ?_
  refine lv_iload_n hx hb dX3_shared_13 rfl (lv_at hl 1 rfl) ?_
  obtain ⟨r_5, st_3, hc_4, hE⟩ := ob2_some hE
  refine ww_callVi (As := [.int x1, .int x1]) (rest := []) ⟨hx, hb, hml, hown, hts⟩ hW (ctX0_countFrom l D ks ad _ st x1 x1 hc_4) (cwV 2 hts gX3_shared_X0_countFrom rfl rfl rfl (by decide +kernel) ⟨Nat.le_of_ble_eq_true rfl, Nat.le_of_ble_eq_true rfl⟩) hW.recvD rfl hl.1 rfl (Nat.le_of_ble_eq_true rfl) dX3_shared_14 ⟨Nat.zero_le _, Nat.zero_le _⟩ (fun H locs hW => ?_)
  refine lv_aload_n hx hb dX3_shared_17 rfl (lv_at hl 0 rfl) ?_
  refine ww_get (C := RX3) (T := TX3) (N := 10) (ref := RX3) (ci := 3) (v := .ref (ad 6)) hx hb hts hin3 hown hW 0 (by decide) rfl rfl 2 (by decide) hf22 (fun _ h9 => h9) rfl dX3_shared_18 ?_
  refine lv_iload_n hx hb dX3_shared_21 rfl (lv_at hl 2 rfl) ?_
  refine lv_iload_n hx hb dX3_shared_22 rfl (lv_at hl 2 rfl) ?_
  obtain ⟨r_8, st_6, hc_7, hE⟩ := ob2_some hE
  refine ww_callVi (As := [.int x2, .int x2]) (rest := [.int r_5]) ⟨hx, hb, hml, hown, hts⟩ hW (ctX0_countFrom l D ks ad _ st_3 x2 x2 hc_7) (cwV 2 hts gX3_shared_X0_countFrom rfl rfl rfl (by decide +kernel) ⟨Nat.le_of_ble_eq_true rfl, Nat.le_of_ble_eq_true rfl⟩) hW.recvD rfl hl.1 rfl (Nat.le_of_ble_eq_true rfl) dX3_shared_23 ⟨Nat.zero_le _, Nat.zero_le _⟩ (fun H locs hW => ?_)
  refine lv_iadd hx hb dX3_shared_26 ?_
  refine lv_aload_n hx hb dX3_shared_27 rfl (lv_at hl 0 rfl) ?_
  refine ww_get (C := RX3) (T := TX3) (N := 10) (ref := RX3) (ci := 3) (v := .ref (ad 6)) hx hb hts hin3 hown hW 0 (by decide) rfl rfl 2 (by decide) hf22 (fun _ h9 => h9) rfl dX3_shared_28 ?_
  refine lv_iload_n hx hb dX3_shared_31 rfl (lv_at hl 1 rfl) ?_
  refine lv_iload_n hx hb dX3_shared_32 rfl (lv_at hl 2 rfl) ?_
  obtain ⟨r_11, st_9, hc_10, hE⟩ := ob2_some hE
  refine ww_callVi (As := [.int x1, .int x2]) (rest := [.int (r_5 + r_8)]) ⟨hx, hb, hml, hown, hts⟩ hW (ctX0_countFrom l D ks ad _ st_6 x1 x2 hc_10) (cwV 2 hts gX3_shared_X0_countFrom rfl rfl rfl (by decide +kernel) ⟨Nat.le_of_ble_eq_true rfl, Nat.le_of_ble_eq_true rfl⟩) hW.recvD rfl hl.1 rfl (Nat.le_of_ble_eq_true rfl) dX3_shared_33 ⟨Nat.zero_le _, Nat.zero_le _⟩ (fun H locs hW => ?_)
  refine lv_isub hx hb dX3_shared_36 ?_
  obtain ⟨rfl, rfl⟩ := pair_x hE
  exact W.iret hx hb hr (fun t ht hWm => hW.qi ht hWm) hW.2.2.1.2.2 dX3_shared_37
abbrev rmX3_ways : Room := { frames := 16, cells := 0, slots := 0, locals := 352 }
set_option maxRecDepth 100000 in
theorem in3_X3_ways : ∀ w ∈ wsX30, w ∈ wsX3_ways := by decide +kernel
set_option maxHeartbeats 4000000 in
set_option maxRecDepth 100000 in
theorem ctX3_ways (l : Launch) (D : va_G) (ks : KA) (ad : Nat → Nat) (sz : Nat) (st : St) (x1 : Int32)  {r : Int32} {st' : St} (hE : sX3_ways st x1 = some (r, st')) : CI l D ks yX3_ways wsX3_ways rmX3_ways [.ref (ad 0), .int x1] ad sz st r st' := by
  unfold sX3_ways at hE
  refine Met.ofW (cc := cX3_ways) (maxL := 2) (ret := (some .int)) (by decide) rfl ?_
  intro p e s m args below meth c s₁ B hml hv
  obtain ⟨hargs, hPW⟩ := hv
  have hW := WW.entry hPW
  have hx := B.exec
  have hb := B.bytes
  have hr := B.returns
  have hts := atoms_spec (ws := wsX3_ways) B.pre
  have hown : s.vm.findClass RX3 = some m.cls := findClass_of_methodNamed B.named
  have hlocks := B.notSynchronized
  have hin3 : ∀ w ∈ u_ws RX3 TX3 10, w ∈ wsX3_ways := in3_X3_ways
  have hf22 := hts (.fieldLink RX3 22 "Trellis" "diagram" "LTrellis$Diagram;") (by decide +kernel)
  have hl := lv_entry ([.ref (ad 0), .int x1]) (n := 2) (Nat.le_of_ble_eq_true rfl)
  have hfr : entryFrame m args 2 = F0 m 0 (lg_sl ([.ref (ad 0), .int x1]) ++ List.replicate (2 - (lg_sl ([.ref (ad 0), .int x1])).length) Slot.unset).toArray [] := by rw [hargs, lg_entry_eq]
  rw [hfr]
  generalize (lg_sl ([.ref (ad 0), .int x1]) ++ List.replicate (2 - (lg_sl ([.ref (ad 0), .int x1])).length) Slot.unset).toArray = ls at hl ⊢
  have hl : lv_has ls 2 [(0, .ref (ad 0)), (1, .int x1)] := hl
  refine lv_iload_n hx hb dX3_ways_0 rfl (lv_at hl 1 rfl) ?_
  obtain ⟨_, hc_1, hE⟩ := ob_some hE
  refine ww_callSv (As := [.int x1]) (rest := []) ⟨hx, hb, hml, hown, hts⟩ hW (ctX3_checkSlot l D ks ad _ st x1 hc_1) (va_cwS 1 hts gX3_ways_X3_checkSlot rfl rfl rfl (by decide +kernel) ⟨Nat.le_of_ble_eq_true rfl, Nat.le_of_ble_eq_true rfl⟩) rfl hl.1 rfl (Nat.le_of_ble_eq_true rfl) dX3_ways_1 ⟨Nat.zero_le _, Nat.zero_le _⟩ (fun H locs hW => ?_)
  refine lv_aload_n hx hb dX3_ways_4 rfl (lv_at hl 0 rfl) ?_
  refine ww_get (C := RX3) (T := TX3) (N := 10) (ref := RX3) (ci := 3) (v := .ref (ad 6)) hx hb hts hin3 hown hW 0 (by decide) rfl rfl 2 (by decide) hf22 (fun _ h9 => h9) rfl dX3_ways_5 ?_
  refine lv_iload_n hx hb dX3_ways_8 rfl (lv_at hl 1 rfl) ?_
  obtain ⟨r_4, st_2, hc_3, hE⟩ := ob2_some hE
  refine ww_callVi (As := [.int x1]) (rest := []) ⟨hx, hb, hml, hown, hts⟩ hW (ctX0_pathsToOne l D ks ad _ st x1 hc_3) (cwV 1 hts gX3_ways_X0_pathsToOne rfl rfl rfl (by decide +kernel) ⟨Nat.le_of_ble_eq_true rfl, Nat.le_of_ble_eq_true rfl⟩) hW.recvD rfl hl.1 rfl (Nat.le_of_ble_eq_true rfl) dX3_ways_9 ⟨Nat.zero_le _, Nat.zero_le _⟩ (fun H locs hW => ?_)
  obtain ⟨rfl, rfl⟩ := pair_x hE
  exact W.iret hx hb hr (fun t ht hWm => hW.qi ht hWm) hW.2.2.1.2.2 dX3_ways_12
abbrev rmX3_depth : Room := { frames := 16, cells := 0, slots := 0, locals := 352 }
set_option maxRecDepth 100000 in
theorem in3_X3_depth : ∀ w ∈ wsX30, w ∈ wsX3_depth := by decide +kernel
set_option maxHeartbeats 4000000 in
set_option maxRecDepth 100000 in
theorem ctX3_depth (l : Launch) (D : va_G) (ks : KA) (ad : Nat → Nat) (sz : Nat) (st : St) (x1 : Int32)  {r : Int32} {st' : St} (hE : sX3_depth st x1 = some (r, st')) : CI l D ks yX3_depth wsX3_depth rmX3_depth [.ref (ad 0), .int x1] ad sz st r st' := by
  unfold sX3_depth at hE
  refine Met.ofW (cc := cX3_depth) (maxL := 2) (ret := (some .int)) (by decide) rfl ?_
  intro p e s m args below meth c s₁ B hml hv
  obtain ⟨hargs, hPW⟩ := hv
  have hW := WW.entry hPW
  have hx := B.exec
  have hb := B.bytes
  have hr := B.returns
  have hts := atoms_spec (ws := wsX3_depth) B.pre
  have hown : s.vm.findClass RX3 = some m.cls := findClass_of_methodNamed B.named
  have hlocks := B.notSynchronized
  have hin3 : ∀ w ∈ u_ws RX3 TX3 10, w ∈ wsX3_depth := in3_X3_depth
  have hf22 := hts (.fieldLink RX3 22 "Trellis" "diagram" "LTrellis$Diagram;") (by decide +kernel)
  have hl := lv_entry ([.ref (ad 0), .int x1]) (n := 2) (Nat.le_of_ble_eq_true rfl)
  have hfr : entryFrame m args 2 = F0 m 0 (lg_sl ([.ref (ad 0), .int x1]) ++ List.replicate (2 - (lg_sl ([.ref (ad 0), .int x1])).length) Slot.unset).toArray [] := by rw [hargs, lg_entry_eq]
  rw [hfr]
  generalize (lg_sl ([.ref (ad 0), .int x1]) ++ List.replicate (2 - (lg_sl ([.ref (ad 0), .int x1])).length) Slot.unset).toArray = ls at hl ⊢
  have hl : lv_has ls 2 [(0, .ref (ad 0)), (1, .int x1)] := hl
  refine lv_iload_n hx hb dX3_depth_0 rfl (lv_at hl 1 rfl) ?_
  obtain ⟨_, hc_1, hE⟩ := ob_some hE
  refine ww_callSv (As := [.int x1]) (rest := []) ⟨hx, hb, hml, hown, hts⟩ hW (ctX3_checkSlot l D ks ad _ st x1 hc_1) (va_cwS 1 hts gX3_depth_X3_checkSlot rfl rfl rfl (by decide +kernel) ⟨Nat.le_of_ble_eq_true rfl, Nat.le_of_ble_eq_true rfl⟩) rfl hl.1 rfl (Nat.le_of_ble_eq_true rfl) dX3_depth_1 ⟨Nat.zero_le _, Nat.zero_le _⟩ (fun H locs hW => ?_)
  refine lv_aload_n hx hb dX3_depth_4 rfl (lv_at hl 0 rfl) ?_
  refine ww_get (C := RX3) (T := TX3) (N := 10) (ref := RX3) (ci := 3) (v := .ref (ad 6)) hx hb hts hin3 hown hW 0 (by decide) rfl rfl 2 (by decide) hf22 (fun _ h9 => h9) rfl dX3_depth_5 ?_
  refine lv_iload_n hx hb dX3_depth_8 rfl (lv_at hl 1 rfl) ?_
  obtain ⟨r_4, st_2, hc_3, hE⟩ := ob2_some hE
  refine ww_callVi (As := [.int x1]) (rest := []) ⟨hx, hb, hml, hown, hts⟩ hW (ctX0_longestPath l D ks ad _ st x1 hc_3) (cwV 1 hts gX3_depth_X0_longestPath rfl rfl rfl (by decide +kernel) ⟨Nat.le_of_ble_eq_true rfl, Nat.le_of_ble_eq_true rfl⟩) hW.recvD rfl hl.1 rfl (Nat.le_of_ble_eq_true rfl) dX3_depth_9 ⟨Nat.zero_le _, Nat.zero_le _⟩ (fun H locs hW => ?_)
  obtain ⟨rfl, rfl⟩ := pair_x hE
  exact W.iret hx hb hr (fun t ht hWm => hW.qi ht hWm) hW.2.2.1.2.2 dX3_depth_12
abbrev rmX3_leastSize : Room := { frames := 5, cells := 0, slots := 0, locals := 137 }
set_option maxRecDepth 100000 in
theorem in3_X3_leastSize : ∀ w ∈ wsX30, w ∈ wsX3_leastSize := by decide +kernel
set_option maxHeartbeats 4000000 in
set_option maxRecDepth 100000 in
theorem ctX3_leastSize (l : Launch) (D : va_G) (ks : KA) (ad : Nat → Nat) (sz : Nat) (st : St) (x1 : Int32)  {r : Int32} {st' : St} (hE : sX3_leastSize st x1 = some (r, st')) : CI l D ks yX3_leastSize wsX3_leastSize rmX3_leastSize [.ref (ad 0), .int x1] ad sz st r st' := by
  unfold sX3_leastSize at hE
  refine Met.ofW (cc := cX3_leastSize) (maxL := 4) (ret := (some .int)) (by decide) rfl ?_
  intro p e s m args below meth c s₁ B hml hv
  obtain ⟨hargs, hPW⟩ := hv
  have hW := WW.entry hPW
  have hx := B.exec
  have hb := B.bytes
  have hr := B.returns
  have hts := atoms_spec (ws := wsX3_leastSize) B.pre
  have hown : s.vm.findClass RX3 = some m.cls := findClass_of_methodNamed B.named
  have hlocks := B.notSynchronized
  have hin3 : ∀ w ∈ u_ws RX3 TX3 10, w ∈ wsX3_leastSize := in3_X3_leastSize
  have hf15 := hts (.fieldLink RX3 15 "Trellis" "supports" "[I") (by decide +kernel)
  have hf29 := hts (.fieldLink RX3 29 "Trellis" "orders" "LTrellis$Orders;") (by decide +kernel)
  have hf11 := hts (.fieldLink RX3 11 "Trellis" "functions" "[LTrellis$Table;") (by decide +kernel)
  have hl := lv_entry ([.ref (ad 0), .int x1]) (n := 4) (Nat.le_of_ble_eq_true rfl)
  have hfr : entryFrame m args 4 = F0 m 0 (lg_sl ([.ref (ad 0), .int x1]) ++ List.replicate (4 - (lg_sl ([.ref (ad 0), .int x1])).length) Slot.unset).toArray [] := by rw [hargs, lg_entry_eq]
  rw [hfr]
  generalize (lg_sl ([.ref (ad 0), .int x1]) ++ List.replicate (4 - (lg_sl ([.ref (ad 0), .int x1])).length) Slot.unset).toArray = ls at hl ⊢
  have hl : lv_has ls 4 [(0, .ref (ad 0)), (1, .int x1)] := hl
  refine lv_iload_n hx hb dX3_leastSize_0 rfl (lv_at hl 1 rfl) ?_
  obtain ⟨_, hc_1, hE⟩ := ob_some hE
  refine ww_callSv (As := [.int x1]) (rest := []) ⟨hx, hb, hml, hown, hts⟩ hW (ctX3_checkSlot l D ks ad _ st x1 hc_1) (va_cwS 1 hts gX3_leastSize_X3_checkSlot rfl rfl rfl (by decide +kernel) ⟨Nat.le_of_ble_eq_true rfl, Nat.le_of_ble_eq_true rfl⟩) rfl hl.1 rfl (Nat.le_of_ble_eq_true rfl) dX3_leastSize_1 ⟨Nat.zero_le _, Nat.zero_le _⟩ (fun H locs hW => ?_)
  refine lv_aload_n hx hb dX3_leastSize_4 rfl (lv_at hl 0 rfl) ?_
  refine ww_get (C := RX3) (T := TX3) (N := 10) (ref := RX3) (ci := 3) (v := .ref (ad (ic 0))) hx hb hts hin3 hown hW 0 (by decide) rfl rfl 1 (by decide) hf15 (fun _ h9 => h9) rfl dX3_leastSize_5 ?_
  refine lv_iload_n hx hb dX3_leastSize_8 rfl (lv_at hl 1 rfl) ?_
  obtain ⟨hin, hE⟩ := gd_some hE
  refine ww_iald hx hb hW 0 (by decide) hin dX3_leastSize_9 ?_
  obtain ⟨x2_2, e, hE⟩ := lt_some hE
  refine lv_nmi e ?_
  refine lv_istore_n (lv' := [(2, .int x2_2), (0, .ref (ad 0)), (1, .int x1)]) hx hb dX3_leastSize_10 rfl hl (by decide) rfl (fun ls hl => ?_)
  refine lv_iload_n hx hb dX3_leastSize_11 rfl (lv_at hl 0 rfl) ?_
  obtain ⟨r_4, hc_3, hE⟩ := ob_some hE
  refine ww_callSi (As := [.int x2_2]) (rest := []) ⟨hx, hb, hml, hown, hts⟩ hW (ctJ6_bitCount_0f7a4 l D ks ad _ st x2_2 hc_3) (va_cwS 1 hts gX3_leastSize_J6_bitCount_0f7a4 rfl rfl rfl (by decide +kernel) ⟨Nat.le_of_ble_eq_true rfl, Nat.le_of_ble_eq_true rfl⟩) rfl hl.1 rfl (Nat.le_of_ble_eq_true rfl) dX3_leastSize_12 ⟨Nat.zero_le _, Nat.zero_le _⟩ (fun H locs hW => ?_)
  refine lv_istore_n (lv' := [(3, .int r_4), (2, .int x2_2), (0, .ref (ad 0)), (1, .int x1)]) hx hb dX3_leastSize_15 rfl hl (by decide) rfl (fun ls hl => ?_)
  refine lv_iload_n hx hb dX3_leastSize_16 rfl (lv_at hl 0 rfl) ?_
  refine lv_bipush (v := 6) hx hb dX3_leastSize_17 (by decide) ?_
  refine lv_icmp_le (tgt := 26) hx hb dX3_leastSize_19 (by decide) (fun c_5 => ?_) (fun c_5 => ?_)
  · have hE := if_t c_5 hE
    refine lv_aload_n hx hb dX3_leastSize_26 rfl (lv_at hl 2 rfl) ?_
    refine ww_get (C := RX3) (T := TX3) (N := 10) (ref := RX3) (ci := 3) (v := .ref (ad 20)) hx hb hts hin3 hown hW 0 (by decide) rfl rfl 3 (by decide) hf29 (fun _ h9 => h9) rfl dX3_leastSize_27 ?_
    refine lv_aload_n hx hb dX3_leastSize_30 rfl (lv_at hl 2 rfl) ?_
    refine ww_get (C := RX3) (T := TX3) (N := 10) (ref := RX3) (ci := 3) (v := .ref (ad 1)) hx hb hts hin3 hown hW 0 (by decide) rfl rfl 0 (by decide) hf11 (fun _ h9 => h9) rfl dX3_leastSize_31 ?_
    refine lv_iload_n hx hb dX3_leastSize_34 rfl (lv_at hl 3 rfl) ?_
    obtain ⟨hi_6, hE⟩ := gd_some hE
    refine ww_aald hx hb hW hi_6 dX3_leastSize_35 ?_
    refine lv_iload_n hx hb dX3_leastSize_36 rfl (lv_at hl 1 rfl) ?_
    obtain ⟨r_8, hc_7, hE⟩ := ob_some hE
    refine ww_callVl (As := [.int x2_2]) (rest := [.ref (ad 20)]) ⟨hx, hb, hml, hown, hts⟩ hW (ctX2_packed l D ks ad _ st x1.toNatClampNeg x2_2 (in15 hi_6) hc_7) (cwV 1 hts gX3_leastSize_X2_packed rfl rfl rfl (by decide +kernel) ⟨Nat.le_of_ble_eq_true rfl, Nat.le_of_ble_eq_true rfl⟩) (hW.recvT (in15 hi_6)) rfl hl.1 rfl (Nat.le_of_ble_eq_true rfl) dX3_leastSize_37 ⟨Nat.zero_le _, Nat.zero_le _⟩ (fun H locs hW => ?_)
    refine lv_iload_n hx hb dX3_leastSize_40 rfl (lv_at hl 0 rfl) ?_
    obtain ⟨r_11, st_9, hc_10, hE⟩ := ob2_some hE
    refine ww_callVi (As := [.long r_8, .int r_4]) (rest := []) ⟨hx, hb, hml, hown, hts⟩ hW (ctX1_leastNodes l D ks ad _ st r_8 r_4 hc_10) (cwV 2 hts gX3_leastSize_X1_leastNodes rfl rfl rfl (by decide +kernel) ⟨Nat.le_of_ble_eq_true rfl, Nat.le_of_ble_eq_true rfl⟩) hW.recvO rfl hl.1 rfl (Nat.le_of_ble_eq_true rfl) dX3_leastSize_41 ⟨Nat.zero_le _, Nat.zero_le _⟩ (fun H locs hW => ?_)
    obtain ⟨rfl, rfl⟩ := pair_x hE
    exact W.iret hx hb hr (fun t ht hWm => hW.qi ht hWm) hW.2.2.1.2.2 dX3_leastSize_44
  · have hE := if_f c_5 hE
    refine lv_iconst (v := (-1)) hx hb dX3_leastSize_22 (by decide) ?_
    refine lv_goto (tgt := 44) hx hb dX3_leastSize_23 (by decide) ?_
    obtain ⟨rfl, rfl⟩ := pair_x hE
    exact W.iret hx hb hr (fun t ht hWm => hW.qi ht hWm) hW.2.2.1.2.2 dX3_leastSize_44
abbrev rmX3_variableAt : Room := { frames := 2, cells := 0, slots := 0, locals := 81 }
set_option maxRecDepth 100000 in
theorem in3_X3_variableAt : ∀ w ∈ wsX30, w ∈ wsX3_variableAt := by decide +kernel
set_option maxHeartbeats 4000000 in
set_option maxRecDepth 100000 in
theorem ctX3_variableAt (l : Launch) (D : va_G) (ks : KA) (ad : Nat → Nat) (sz : Nat) (st : St) (x1 : Int32)  {r : Int32}  (hE : sX3_variableAt st x1 = some r) : CI l D ks yX3_variableAt wsX3_variableAt rmX3_variableAt [.ref (ad 0), .int x1] ad sz st r st := by
  unfold sX3_variableAt at hE
  refine Met.ofW (cc := cX3_variableAt) (maxL := 2) (ret := (some .int)) (by decide) rfl ?_
  intro p e s m args below meth c s₁ B hml hv
  obtain ⟨hargs, hPW⟩ := hv
  have hW := WW.entry hPW
  have hx := B.exec
  have hb := B.bytes
  have hr := B.returns
  have hts := atoms_spec (ws := wsX3_variableAt) B.pre
  have hown : s.vm.findClass RX3 = some m.cls := findClass_of_methodNamed B.named
  have hlocks := B.notSynchronized
  have hin3 : ∀ w ∈ u_ws RX3 TX3 10, w ∈ wsX3_variableAt := in3_X3_variableAt
  have hf22 := hts (.fieldLink RX3 22 "Trellis" "diagram" "LTrellis$Diagram;") (by decide +kernel)
  have hl := lv_entry ([.ref (ad 0), .int x1]) (n := 2) (Nat.le_of_ble_eq_true rfl)
  have hfr : entryFrame m args 2 = F0 m 0 (lg_sl ([.ref (ad 0), .int x1]) ++ List.replicate (2 - (lg_sl ([.ref (ad 0), .int x1])).length) Slot.unset).toArray [] := by rw [hargs, lg_entry_eq]
  rw [hfr]
  generalize (lg_sl ([.ref (ad 0), .int x1]) ++ List.replicate (2 - (lg_sl ([.ref (ad 0), .int x1])).length) Slot.unset).toArray = ls at hl ⊢
  have hl : lv_has ls 2 [(0, .ref (ad 0)), (1, .int x1)] := hl
  refine lv_iload_n hx hb dX3_variableAt_0 rfl (lv_at hl 1 rfl) ?_
  refine lv_bipush (v := 10) hx hb dX3_variableAt_1 (by decide) ?_
  obtain ⟨_, hc_1, hE⟩ := ob_some hE
  refine ww_callSv (As := [.int x1, .int (10 : Int32)]) (rest := []) ⟨hx, hb, hml, hown, hts⟩ hW (ctX3_checkLevel l D ks ad _ st x1 (10 : Int32) hc_1) (va_cwS 2 hts gX3_variableAt_X3_checkLevel rfl rfl rfl (by decide +kernel) ⟨Nat.le_of_ble_eq_true rfl, Nat.le_of_ble_eq_true rfl⟩) rfl hl.1 rfl (Nat.le_of_ble_eq_true rfl) dX3_variableAt_3 ⟨Nat.zero_le _, Nat.zero_le _⟩ (fun H locs hW => ?_)
  refine lv_aload_n hx hb dX3_variableAt_6 rfl (lv_at hl 0 rfl) ?_
  refine ww_get (C := RX3) (T := TX3) (N := 10) (ref := RX3) (ci := 3) (v := .ref (ad 6)) hx hb hts hin3 hown hW 0 (by decide) rfl rfl 2 (by decide) hf22 (fun _ h9 => h9) rfl dX3_variableAt_7 ?_
  refine lv_iload_n hx hb dX3_variableAt_10 rfl (lv_at hl 1 rfl) ?_
  obtain ⟨r_3, hc_2, hE⟩ := ob_some hE
  refine ww_callVi (As := [.int x1]) (rest := []) ⟨hx, hb, hml, hown, hts⟩ hW (ctX0_variableOf l D ks ad _ st x1 hc_2) (cwV 1 hts gX3_variableAt_X0_variableOf rfl rfl rfl (by decide +kernel) ⟨Nat.le_of_ble_eq_true rfl, Nat.le_of_ble_eq_true rfl⟩) hW.recvD rfl hl.1 rfl (Nat.le_of_ble_eq_true rfl) dX3_variableAt_11 ⟨Nat.zero_le _, Nat.zero_le _⟩ (fun H locs hW => ?_)
  obtain rfl := some_x hE
  exact W.iret hx hb hr (fun t ht hWm => hW.qi ht hWm) hW.2.2.1.2.2 dX3_variableAt_14
abbrev rmX3_swap : Room := { frames := 17, cells := 0, slots := 0, locals := 385 }
set_option maxRecDepth 100000 in
theorem in3_X3_swap : ∀ w ∈ wsX30, w ∈ wsX3_swap := by decide +kernel
set_option maxHeartbeats 4000000 in
set_option maxRecDepth 100000 in
theorem ctX3_swap (l : Launch) (D : va_G) (ks : KA) (ad : Nat → Nat) (sz : Nat) (st : St) (x1 : Int32)  {r : Int32} {st' : St} (hE : sX3_swap st x1 = some (r, st')) : CI l D ks yX3_swap wsX3_swap rmX3_swap [.ref (ad 0), .int x1] ad sz st r st' := by
  unfold sX3_swap at hE
  refine Met.ofW (cc := cX3_swap) (maxL := 2) (ret := (some .int)) (by decide) rfl ?_
  intro p e s m args below meth c s₁ B hml hv
  obtain ⟨hargs, hPW⟩ := hv
  have hW := WW.entry hPW
  have hx := B.exec
  have hb := B.bytes
  have hr := B.returns
  have hts := atoms_spec (ws := wsX3_swap) B.pre
  have hown : s.vm.findClass RX3 = some m.cls := findClass_of_methodNamed B.named
  have hlocks := B.notSynchronized
  have hin3 : ∀ w ∈ u_ws RX3 TX3 10, w ∈ wsX3_swap := in3_X3_swap
  have hf22 := hts (.fieldLink RX3 22 "Trellis" "diagram" "LTrellis$Diagram;") (by decide +kernel)
  have hl := lv_entry ([.ref (ad 0), .int x1]) (n := 2) (Nat.le_of_ble_eq_true rfl)
  have hfr : entryFrame m args 2 = F0 m 0 (lg_sl ([.ref (ad 0), .int x1]) ++ List.replicate (2 - (lg_sl ([.ref (ad 0), .int x1])).length) Slot.unset).toArray [] := by rw [hargs, lg_entry_eq]
  rw [hfr]
  generalize (lg_sl ([.ref (ad 0), .int x1]) ++ List.replicate (2 - (lg_sl ([.ref (ad 0), .int x1])).length) Slot.unset).toArray = ls at hl ⊢
  have hl : lv_has ls 2 [(0, .ref (ad 0)), (1, .int x1)] := hl
  refine lv_iload_n hx hb dX3_swap_0 rfl (lv_at hl 1 rfl) ?_
  refine lv_bipush (v := 9) hx hb dX3_swap_1 (by decide) ?_
  obtain ⟨_, hc_1, hE⟩ := ob_some hE
  refine ww_callSv (As := [.int x1, .int (9 : Int32)]) (rest := []) ⟨hx, hb, hml, hown, hts⟩ hW (ctX3_checkLevel l D ks ad _ st x1 (9 : Int32) hc_1) (va_cwS 2 hts gX3_swap_X3_checkLevel rfl rfl rfl (by decide +kernel) ⟨Nat.le_of_ble_eq_true rfl, Nat.le_of_ble_eq_true rfl⟩) rfl hl.1 rfl (Nat.le_of_ble_eq_true rfl) dX3_swap_3 ⟨Nat.zero_le _, Nat.zero_le _⟩ (fun H locs hW => ?_)
  refine lv_aload_n hx hb dX3_swap_6 rfl (lv_at hl 0 rfl) ?_
  refine ww_get (C := RX3) (T := TX3) (N := 10) (ref := RX3) (ci := 3) (v := .ref (ad 6)) hx hb hts hin3 hown hW 0 (by decide) rfl rfl 2 (by decide) hf22 (fun _ h9 => h9) rfl dX3_swap_7 ?_
  refine lv_iload_n hx hb dX3_swap_10 rfl (lv_at hl 1 rfl) ?_
  obtain ⟨st_2, hc_3, hE⟩ := ob_some hE
  refine ww_callVv (As := [.int x1]) (rest := []) ⟨hx, hb, hml, hown, hts⟩ hW (ctX0_exchangeAt l D ks ad _ st x1 hc_3) (cwV 1 hts gX3_swap_X0_exchangeAt rfl rfl rfl (by decide +kernel) ⟨Nat.le_of_ble_eq_true rfl, Nat.le_of_ble_eq_true rfl⟩) hW.recvD rfl hl.1 rfl (Nat.le_of_ble_eq_true rfl) dX3_swap_11 ⟨Nat.zero_le _, Nat.zero_le _⟩ (fun H locs hW => ?_)
  refine lv_aload_n hx hb dX3_swap_14 rfl (lv_at hl 0 rfl) ?_
  refine ww_get (C := RX3) (T := TX3) (N := 10) (ref := RX3) (ci := 3) (v := .ref (ad 6)) hx hb hts hin3 hown hW 0 (by decide) rfl rfl 2 (by decide) hf22 (fun _ h9 => h9) rfl dX3_swap_15 ?_
  obtain ⟨r_5, hc_4, hE⟩ := ob_some hE
  refine ww_callVi (As := []) (rest := []) ⟨hx, hb, hml, hown, hts⟩ hW (ctX0_count l D ks ad _ st_2 hc_4) (cwV 0 hts gX3_swap_X0_count rfl rfl rfl (by decide +kernel) ⟨Nat.le_of_ble_eq_true rfl, Nat.le_of_ble_eq_true rfl⟩) hW.recvD rfl hl.1 rfl (Nat.le_of_ble_eq_true rfl) dX3_swap_18 ⟨Nat.zero_le _, Nat.zero_le _⟩ (fun H locs hW => ?_)
  refine lv_sipush (v := 400) hx hb dX3_swap_21 (by decide) ?_
  refine lv_icmp_le (tgt := 37) hx hb dX3_swap_24 (by decide) (fun c_6 => ?_) (fun c_6 => ?_)
  · have hE := if_t c_6 hE
    refine lv_aload_n hx hb dX3_swap_37 rfl (lv_at hl 0 rfl) ?_
    refine ww_get (C := RX3) (T := TX3) (N := 10) (ref := RX3) (ci := 3) (v := .ref (ad 6)) hx hb hts hin3 hown hW 0 (by decide) rfl rfl 2 (by decide) hf22 (fun _ h9 => h9) rfl dX3_swap_38 ?_
    obtain ⟨r_8, hc_7, hE⟩ := ob_some hE
    refine ww_callVi (As := []) (rest := []) ⟨hx, hb, hml, hown, hts⟩ hW (ctX0_count l D ks ad _ st_2 hc_7) (cwV 0 hts gX3_swap_X0_count rfl rfl rfl (by decide +kernel) ⟨Nat.le_of_ble_eq_true rfl, Nat.le_of_ble_eq_true rfl⟩) hW.recvD rfl hl.1 rfl (Nat.le_of_ble_eq_true rfl) dX3_swap_41 ⟨Nat.zero_le _, Nat.zero_le _⟩ (fun H locs hW => ?_)
    obtain ⟨rfl, rfl⟩ := pair_x hE
    exact W.iret hx hb hr (fun t ht hWm => hW.qi ht hWm) hW.2.2.1.2.2 dX3_swap_44
  · have hE := if_f c_6 hE
    refine lv_aload_n hx hb dX3_swap_27 rfl (lv_at hl 0 rfl) ?_
    refine ww_get (C := RX3) (T := TX3) (N := 10) (ref := RX3) (ci := 3) (v := .ref (ad 6)) hx hb hts hin3 hown hW 0 (by decide) rfl rfl 2 (by decide) hf22 (fun _ h9 => h9) rfl dX3_swap_28 ?_
    refine lv_iload_n hx hb dX3_swap_31 rfl (lv_at hl 1 rfl) ?_
    obtain ⟨st_9, hc_10, hE⟩ := ob_some hE
    refine ww_callVv (As := [.int x1]) (rest := []) ⟨hx, hb, hml, hown, hts⟩ hW (ctX0_exchangeAt l D ks ad _ st_2 x1 hc_10) (cwV 1 hts gX3_swap_X0_exchangeAt rfl rfl rfl (by decide +kernel) ⟨Nat.le_of_ble_eq_true rfl, Nat.le_of_ble_eq_true rfl⟩) hW.recvD rfl hl.1 rfl (Nat.le_of_ble_eq_true rfl) dX3_swap_32 ⟨Nat.zero_le _, Nat.zero_le _⟩ (fun H locs hW => ?_)
    refine lv_iconst (v := (-1)) hx hb dX3_swap_35 (by decide) ?_
    obtain ⟨rfl, rfl⟩ := pair_x hE
    exact W.iret hx hb hr (fun t ht hWm => hW.qi ht hWm) hW.2.2.1.2.2 dX3_swap_36
abbrev rmX3_siftOne : Room := { frames := 18, cells := 0, slots := 0, locals := 408 }
set_option maxRecDepth 100000 in
theorem in3_X3_siftOne : ∀ w ∈ wsX30, w ∈ wsX3_siftOne := by decide +kernel
set_option maxHeartbeats 4000000 in
set_option maxRecDepth 100000 in
theorem ctX3_siftOne (l : Launch) (D : va_G) (ks : KA) (ad : Nat → Nat) (sz : Nat) (st : St) (x1 : Int32)  {r : Int32} {st' : St} (hE : sX3_siftOne st x1 = some (r, st')) : CI l D ks yX3_siftOne wsX3_siftOne rmX3_siftOne [.ref (ad 0), .int x1] ad sz st r st' := by
  unfold sX3_siftOne at hE
  refine Met.ofW (cc := cX3_siftOne) (maxL := 3) (ret := (some .int)) (by decide) rfl ?_
  intro p e s m args below meth c s₁ B hml hv
  obtain ⟨hargs, hPW⟩ := hv
  have hW := WW.entry hPW
  have hx := B.exec
  have hb := B.bytes
  have hr := B.returns
  have hts := atoms_spec (ws := wsX3_siftOne) B.pre
  have hown : s.vm.findClass RX3 = some m.cls := findClass_of_methodNamed B.named
  have hlocks := B.notSynchronized
  have hin3 : ∀ w ∈ u_ws RX3 TX3 10, w ∈ wsX3_siftOne := in3_X3_siftOne
  have hf22 := hts (.fieldLink RX3 22 "Trellis" "diagram" "LTrellis$Diagram;") (by decide +kernel)
  have hl := lv_entry ([.ref (ad 0), .int x1]) (n := 3) (Nat.le_of_ble_eq_true rfl)
  have hfr : entryFrame m args 3 = F0 m 0 (lg_sl ([.ref (ad 0), .int x1]) ++ List.replicate (3 - (lg_sl ([.ref (ad 0), .int x1])).length) Slot.unset).toArray [] := by rw [hargs, lg_entry_eq]
  rw [hfr]
  generalize (lg_sl ([.ref (ad 0), .int x1]) ++ List.replicate (3 - (lg_sl ([.ref (ad 0), .int x1])).length) Slot.unset).toArray = ls at hl ⊢
  have hl : lv_has ls 3 [(0, .ref (ad 0)), (1, .int x1)] := hl
  refine lv_aload_n hx hb dX3_siftOne_0 rfl (lv_at hl 0 rfl) ?_
  refine ww_get (C := RX3) (T := TX3) (N := 10) (ref := RX3) (ci := 3) (v := .ref (ad 6)) hx hb hts hin3 hown hW 0 (by decide) rfl rfl 2 (by decide) hf22 (fun _ h9 => h9) rfl dX3_siftOne_1 ?_
  refine lv_iload_n hx hb dX3_siftOne_4 rfl (lv_at hl 1 rfl) ?_
  refine lv_iconst (v := 0) hx hb dX3_siftOne_5 (by decide) ?_
  obtain ⟨st_1, hc_2, hE⟩ := ob_some hE
  refine ww_callVv (As := [.int x1, .int (0 : Int32)]) (rest := []) ⟨hx, hb, hml, hown, hts⟩ hW (ctX0_lift l D ks ad _ st x1 (0 : Int32) hc_2) (cwV 2 hts gX3_siftOne_X0_lift rfl rfl rfl (by decide +kernel) ⟨Nat.le_of_ble_eq_true rfl, Nat.le_of_ble_eq_true rfl⟩) hW.recvD rfl hl.1 rfl (Nat.le_of_ble_eq_true rfl) dX3_siftOne_6 ⟨Nat.zero_le _, Nat.zero_le _⟩ (fun H locs hW => ?_)
  refine lv_aload_n hx hb dX3_siftOne_9 rfl (lv_at hl 0 rfl) ?_
  refine ww_get (C := RX3) (T := TX3) (N := 10) (ref := RX3) (ci := 3) (v := .ref (ad 6)) hx hb hts hin3 hown hW 0 (by decide) rfl rfl 2 (by decide) hf22 (fun _ h9 => h9) rfl dX3_siftOne_10 ?_
  obtain ⟨r_5, st_3, hc_4, hE⟩ := ob2_some hE
  refine ww_callVi (As := []) (rest := []) ⟨hx, hb, hml, hown, hts⟩ hW (ctX0_walk l D ks ad _ st_1 hc_4) (cwV 0 hts gX3_siftOne_X0_walk rfl rfl rfl (by decide +kernel) ⟨Nat.le_of_ble_eq_true rfl, Nat.le_of_ble_eq_true rfl⟩) hW.recvD rfl hl.1 rfl (Nat.le_of_ble_eq_true rfl) dX3_siftOne_13 ⟨Nat.zero_le _, Nat.zero_le _⟩ (fun H locs hW => ?_)
  refine lv_istore_n (lv' := [(2, .int r_5), (0, .ref (ad 0)), (1, .int x1)]) hx hb dX3_siftOne_16 rfl hl (by decide) rfl (fun ls hl => ?_)
  refine lv_aload_n hx hb dX3_siftOne_17 rfl (lv_at hl 1 rfl) ?_
  refine ww_get (C := RX3) (T := TX3) (N := 10) (ref := RX3) (ci := 3) (v := .ref (ad 6)) hx hb hts hin3 hown hW 0 (by decide) rfl rfl 2 (by decide) hf22 (fun _ h9 => h9) rfl dX3_siftOne_18 ?_
  refine lv_iload_n hx hb dX3_siftOne_21 rfl (lv_at hl 2 rfl) ?_
  refine lv_iload_n hx hb dX3_siftOne_22 rfl (lv_at hl 0 rfl) ?_
  obtain ⟨st_6, hc_7, hE⟩ := ob_some hE
  refine ww_callVv (As := [.int x1, .int r_5]) (rest := []) ⟨hx, hb, hml, hown, hts⟩ hW (ctX0_lift l D ks ad _ st_3 x1 r_5 hc_7) (cwV 2 hts gX3_siftOne_X0_lift rfl rfl rfl (by decide +kernel) ⟨Nat.le_of_ble_eq_true rfl, Nat.le_of_ble_eq_true rfl⟩) hW.recvD rfl hl.1 rfl (Nat.le_of_ble_eq_true rfl) dX3_siftOne_23 ⟨Nat.zero_le _, Nat.zero_le _⟩ (fun H locs hW => ?_)
  refine lv_iload_n hx hb dX3_siftOne_26 rfl (lv_at hl 0 rfl) ?_
  obtain ⟨rfl, rfl⟩ := pair_x hE
  exact W.iret hx hb hr (fun t ht hWm => hW.qi ht hWm) hW.2.2.1.2.2 dX3_siftOne_27
abbrev rmX3_sift : Room := { frames := 19, cells := 0, slots := 0, locals := 430 }
set_option maxHeartbeats 4000000 in
set_option maxRecDepth 100000 in
theorem ctX3_sift (l : Launch) (D : va_G) (ks : KA) (ad : Nat → Nat) (sz : Nat) (st : St) (x1 : Int32)  {r : Int32} {st' : St} (hE : sX3_sift st x1 = some (r, st')) : CI l D ks yX3_sift wsX3_sift rmX3_sift [.ref (ad 0), .int x1] ad sz st r st' := by
  unfold sX3_sift at hE
  refine Met.ofW (cc := cX3_sift) (maxL := 2) (ret := (some .int)) (by decide) rfl ?_
  intro p e s m args below meth c s₁ B hml hv
  obtain ⟨hargs, hPW⟩ := hv
  have hW := WW.entry hPW
  have hx := B.exec
  have hb := B.bytes
  have hr := B.returns
  have hts := atoms_spec (ws := wsX3_sift) B.pre
  have hown : s.vm.findClass RX3 = some m.cls := findClass_of_methodNamed B.named
  have hlocks := B.notSynchronized
  have hl := lv_entry ([.ref (ad 0), .int x1]) (n := 2) (Nat.le_of_ble_eq_true rfl)
  have hfr : entryFrame m args 2 = F0 m 0 (lg_sl ([.ref (ad 0), .int x1]) ++ List.replicate (2 - (lg_sl ([.ref (ad 0), .int x1])).length) Slot.unset).toArray [] := by rw [hargs, lg_entry_eq]
  rw [hfr]
  generalize (lg_sl ([.ref (ad 0), .int x1]) ++ List.replicate (2 - (lg_sl ([.ref (ad 0), .int x1])).length) Slot.unset).toArray = ls at hl ⊢
  have hl : lv_has ls 2 [(0, .ref (ad 0)), (1, .int x1)] := hl
  refine lv_iload_n hx hb dX3_sift_0 rfl (lv_at hl 1 rfl) ?_
  obtain ⟨_, hc_1, hE⟩ := ob_some hE
  refine ww_callSv (As := [.int x1]) (rest := []) ⟨hx, hb, hml, hown, hts⟩ hW (ctX3_checkVariable l D ks ad _ st x1 hc_1) (va_cwS 1 hts gX3_sift_X3_checkVariable rfl rfl rfl (by decide +kernel) ⟨Nat.le_of_ble_eq_true rfl, Nat.le_of_ble_eq_true rfl⟩) rfl hl.1 rfl (Nat.le_of_ble_eq_true rfl) dX3_sift_1 ⟨Nat.zero_le _, Nat.zero_le _⟩ (fun H locs hW => ?_)
  refine lv_aload_n hx hb dX3_sift_4 rfl (lv_at hl 0 rfl) ?_
  refine lv_iload_n hx hb dX3_sift_5 rfl (lv_at hl 1 rfl) ?_
  obtain ⟨r_4, st_2, hc_3, hE⟩ := ob2_some hE
  refine ww_callVi (As := [.int x1]) (rest := []) ⟨hx, hb, hml, hown, hts⟩ hW (ctX3_siftOne l D ks ad _ st x1 hc_3) (cwV 1 hts gX3_sift_X3_siftOne rfl rfl rfl (by decide +kernel) ⟨Nat.le_of_ble_eq_true rfl, Nat.le_of_ble_eq_true rfl⟩) hW.recvX rfl hl.1 rfl (Nat.le_of_ble_eq_true rfl) dX3_sift_6 ⟨Nat.zero_le _, Nat.zero_le _⟩ (fun H locs hW => ?_)
  obtain ⟨rfl, rfl⟩ := pair_x hE
  exact W.iret hx hb hr (fun t ht hWm => hW.qi ht hWm) hW.2.2.1.2.2 dX3_sift_9
abbrev rmX3_heaviest : Room := { frames := 0, cells := 0, slots := 0, locals := 0 }
set_option maxRecDepth 100000 in
theorem in3_X3_heaviest : ∀ w ∈ wsX30, w ∈ wsX3_heaviest := by decide +kernel
set_option maxHeartbeats 4000000 in
set_option maxRecDepth 100000 in
theorem ctX3_heaviest (l : Launch) (D : va_G) (ks : KA) (ad : Nat → Nat) (sz : Nat) (st : St)   {r : Int32}  (hE : sX3_heaviest st  = some r) : CI l D ks yX3_heaviest wsX3_heaviest rmX3_heaviest [.ref (ad 0)] ad sz st r st := by
  unfold sX3_heaviest at hE
  refine Met.ofW (cc := cX3_heaviest) (maxL := 3) (ret := (some .int)) (by decide) rfl ?_
  intro p e s m args below meth c s₁ B hml hv
  obtain ⟨hargs, hPW⟩ := hv
  have hW := WW.entry hPW
  have hx := B.exec
  have hb := B.bytes
  have hr := B.returns
  have hts := atoms_spec (ws := wsX3_heaviest) B.pre
  have hown : s.vm.findClass RX3 = some m.cls := findClass_of_methodNamed B.named
  have hlocks := B.notSynchronized
  have hin3 : ∀ w ∈ u_ws RX3 TX3 10, w ∈ wsX3_heaviest := in3_X3_heaviest
  have hf50 := hts (.fieldLink RX3 50 "Trellis" "weights" "[I") (by decide +kernel)
  have hl := lv_entry ([.ref (ad 0)]) (n := 3) (Nat.le_of_ble_eq_true rfl)
  have hfr : entryFrame m args 3 = F0 m 0 (lg_sl ([.ref (ad 0)]) ++ List.replicate (3 - (lg_sl ([.ref (ad 0)])).length) Slot.unset).toArray [] := by rw [hargs, lg_entry_eq]
  rw [hfr]
  generalize (lg_sl ([.ref (ad 0)]) ++ List.replicate (3 - (lg_sl ([.ref (ad 0)])).length) Slot.unset).toArray = ls at hl ⊢
  have hl : lv_has ls 3 [(0, .ref (ad 0))] := hl
  have L4 : ∀ (n : Nat) (st : St) (x1 : Int32) (x2 : Int32)  (z1 : Int32) (H : Heap) (locs : List Loc) (ls : Array Slot), sX3_heaviest_L4 n st x1 x2 = some z1 → WW D ks ad (AA ad sz) s st H locs → lv_has ls 3 [(0, .ref (ad 0)), (1, .int x1), (2, .int x2)] → (∀ (H : Heap) (locs : List Loc) (ls : Array Slot), WW D ks ad (AA ad sz) s st H locs → lv_has ls 3 [(1, .int z1)] → W p l e (headSpec wsX3_heaviest rmX3_heaviest).room s m args below meth c H locs 0 0 (MQ below (va_Qi (fun (x : Int32) (u : St) => x = r ∧ u = st) (QW D ks ad sz) (AA ad sz)) args s 0 0 (AA ad sz)) (F0 m 33 ls [])) → W p l e (headSpec wsX3_heaviest rmX3_heaviest).room s m args below meth c H locs 0 0 (MQ below (va_Qi (fun (x : Int32) (u : St) => x = r ∧ u = st) (QW D ks ad sz) (AA ad sz)) args s 0 0 (AA ad sz)) (F0 m 4 ls []) := by
    intro n
    induction n with
    | zero =>
      intro st x1 x2 z1 H locs ls hE hW hl kx
      exact none_x hE
    | succ n ih =>
      intro st x1 x2 z1 H locs ls hE hW hl kx
      rw [sX3_heaviest_L4] at hE
      refine lv_iload_n hx hb dX3_heaviest_4 rfl (lv_at hl 2 rfl) ?_
      refine lv_bipush (v := 10) hx hb dX3_heaviest_5 (by decide) ?_
      refine lv_icmp_ge (tgt := 33) hx hb dX3_heaviest_7 (by decide) (fun c_1 => ?_) (fun c_1 => ?_)
      · have hE := if_t c_1 hE
        obtain rfl := some_x hE
        exact kx _ _ _ hW (lv_sub hl [1] rfl)
      · have hE := if_f c_1 hE
        refine lv_aload_n hx hb dX3_heaviest_10 rfl (lv_at hl 0 rfl) ?_
        refine ww_get (C := RX3) (T := TX3) (N := 10) (ref := RX3) (ci := 3) (v := .ref (ad (ic 3))) hx hb hts hin3 hown hW 0 (by decide) rfl rfl 9 (by decide) hf50 (fun _ h9 => h9) rfl dX3_heaviest_11 ?_
        refine lv_iload_n hx hb dX3_heaviest_14 rfl (lv_at hl 2 rfl) ?_
        obtain ⟨hin, hE⟩ := gd_some hE
        refine ww_iald hx hb hW 3 (by decide) hin dX3_heaviest_15 ?_
        refine lv_aload_n hx hb dX3_heaviest_16 rfl (lv_at hl 0 rfl) ?_
        refine ww_get (C := RX3) (T := TX3) (N := 10) (ref := RX3) (ci := 3) (v := .ref (ad (ic 3))) hx hb hts hin3 hown hW 0 (by decide) rfl rfl 9 (by decide) hf50 (fun _ h9 => h9) rfl dX3_heaviest_17 ?_
        refine lv_iload_n hx hb dX3_heaviest_20 rfl (lv_at hl 1 rfl) ?_
        obtain ⟨hin, hE⟩ := gd_some hE
        refine ww_iald hx hb hW 3 (by decide) hin dX3_heaviest_21 ?_
        refine lv_icmp_le (tgt := 27) hx hb dX3_heaviest_22 (by decide) (fun c_2 => ?_) (fun c_2 => ?_)
        · have hE := if_t c_2 hE
          obtain ⟨x2_3, e, hE⟩ := lt_some hE
          refine lv_iinc (v := x2_3) (lv' := [(2, .int x2_3), (0, .ref (ad 0)), (1, .int x1)]) hx hb dX3_heaviest_27 hl (k := 2) rfl (by rw [e]; rfl) (by decide) rfl (fun ls hl => ?_)
          refine lv_goto (tgt := 4) hx hb dX3_heaviest_30 (by decide) ?_
          exact ih st x1 x2_3 _ _ _ _ hE hW (lv_sub hl [1, 2, 0] rfl) kx
        · have hE := if_f c_2 hE
          refine lv_iload_n hx hb dX3_heaviest_25 rfl (lv_at hl 2 rfl) ?_
          refine lv_istore_n (lv' := [(1, .int x2), (0, .ref (ad 0)), (2, .int x2)]) hx hb dX3_heaviest_26 rfl hl (by decide) rfl (fun ls hl => ?_)
          obtain ⟨x2_4, e, hE⟩ := lt_some hE
          refine lv_iinc (v := x2_4) (lv' := [(2, .int x2_4), (1, .int x2), (0, .ref (ad 0))]) hx hb dX3_heaviest_27 hl (k := 2) rfl (by rw [e]; rfl) (by decide) rfl (fun ls hl => ?_)
          refine lv_goto (tgt := 4) hx hb dX3_heaviest_30 (by decide) ?_
          exact ih st x2 x2_4 _ _ _ _ hE hW (lv_sub hl [2, 1, 0] rfl) kx
  refine lv_iconst (v := 0) hx hb dX3_heaviest_0 (by decide) ?_
  refine lv_istore_n (lv' := [(1, .int (0 : Int32)), (0, .ref (ad 0))]) hx hb dX3_heaviest_1 rfl hl (by decide) rfl (fun ls hl => ?_)
  refine lv_iconst (v := 1) hx hb dX3_heaviest_2 (by decide) ?_
  refine lv_istore_n (lv' := [(2, .int (1 : Int32)), (1, .int (0 : Int32)), (0, .ref (ad 0))]) hx hb dX3_heaviest_3 rfl hl (by decide) rfl (fun ls hl => ?_)
  obtain ⟨x1_5, hz, hE⟩ := ob_some hE
  refine L4 FU st (0 : Int32) (1 : Int32) x1_5 _ _ _ hz hW (lv_sub hl [2, 1, 0] rfl) (fun H locs ls hW hl => ?_)
  refine lv_iload_n hx hb dX3_heaviest_33 rfl (lv_at hl 0 rfl) ?_
  obtain rfl := some_x hE
  exact W.iret hx hb hr (fun t ht hWm => hW.qi ht hWm) hW.2.2.1.2.2 dX3_heaviest_34
abbrev rmX3_settle : Room := { frames := 19, cells := 0, slots := 0, locals := 430 }
set_option maxRecDepth 100000 in
theorem in3_X3_settle : ∀ w ∈ wsX30, w ∈ wsX3_settle := by decide +kernel
set_option maxHeartbeats 4000000 in
set_option maxRecDepth 100000 in
theorem ctX3_settle (l : Launch) (D : va_G) (ks : KA) (ad : Nat → Nat) (sz : Nat) (st : St)   {r : Int32} {st' : St} (hE : sX3_settle st  = some (r, st')) : CI l D ks yX3_settle wsX3_settle rmX3_settle [.ref (ad 0)] ad sz st r st' := by
  unfold sX3_settle at hE
  refine Met.ofW (cc := cX3_settle) (maxL := 4) (ret := (some .int)) (by decide) rfl ?_
  intro p e s m args below meth c s₁ B hml hv
  obtain ⟨hargs, hPW⟩ := hv
  have hW := WW.entry hPW
  have hx := B.exec
  have hb := B.bytes
  have hr := B.returns
  have hts := atoms_spec (ws := wsX3_settle) B.pre
  have hown : s.vm.findClass RX3 = some m.cls := findClass_of_methodNamed B.named
  have hlocks := B.notSynchronized
  have hin3 : ∀ w ∈ u_ws RX3 TX3 10, w ∈ wsX3_settle := in3_X3_settle
  have hf22 := hts (.fieldLink RX3 22 "Trellis" "diagram" "LTrellis$Diagram;") (by decide +kernel)
  have hf50 := hts (.fieldLink RX3 50 "Trellis" "weights" "[I") (by decide +kernel)
  have hl := lv_entry ([.ref (ad 0)]) (n := 4) (Nat.le_of_ble_eq_true rfl)
  have hfr : entryFrame m args 4 = F0 m 0 (lg_sl ([.ref (ad 0)]) ++ List.replicate (4 - (lg_sl ([.ref (ad 0)])).length) Slot.unset).toArray [] := by rw [hargs, lg_entry_eq]
  rw [hfr]
  generalize (lg_sl ([.ref (ad 0)]) ++ List.replicate (4 - (lg_sl ([.ref (ad 0)])).length) Slot.unset).toArray = ls at hl ⊢
  have hl : lv_has ls 4 [(0, .ref (ad 0))] := hl
  have L10 : ∀ (n : Nat) (st : St) (x1 : Int32) (x2 : Int32)  (stz : St) (H : Heap) (locs : List Loc) (ls : Array Slot), sX3_settle_L10 n st x1 x2 = some stz → WW D ks ad (AA ad sz) s st H locs → lv_has ls 4 [(0, .ref (ad 0)), (1, .int x1), (2, .int x2)] → (∀ (H : Heap) (locs : List Loc) (ls : Array Slot), WW D ks ad (AA ad sz) s stz H locs → lv_has ls 4 [(0, .ref (ad 0)), (1, .int x1)] → W p l e (headSpec wsX3_settle rmX3_settle).room s m args below meth c H locs 0 0 (MQ below (va_Qi (fun (x : Int32) (u : St) => x = r ∧ u = st') (QW D ks ad sz) (AA ad sz)) args s 0 0 (AA ad sz)) (F0 m 43 ls [])) → W p l e (headSpec wsX3_settle rmX3_settle).room s m args below meth c H locs 0 0 (MQ below (va_Qi (fun (x : Int32) (u : St) => x = r ∧ u = st') (QW D ks ad sz) (AA ad sz)) args s 0 0 (AA ad sz)) (F0 m 10 ls []) := by
    intro n
    induction n with
    | zero =>
      intro st x1 x2 stz H locs ls hE hW hl kx
      exact none_x hE
    | succ n ih =>
      intro st x1 x2 stz H locs ls hE hW hl kx
      rw [sX3_settle_L10] at hE
      refine lv_iload_n hx hb dX3_settle_10 rfl (lv_at hl 2 rfl) ?_
      refine lv_bipush (v := 10) hx hb dX3_settle_11 (by decide) ?_
      refine lv_icmp_ge (tgt := 43) hx hb dX3_settle_13 (by decide) (fun c_3 => ?_) (fun c_3 => ?_)
      · have hE := if_t c_3 hE
        obtain rfl := some_x hE
        exact kx _ _ _ hW (lv_sub hl [0, 1] rfl)
      · have hE := if_f c_3 hE
        refine lv_aload_n hx hb dX3_settle_16 rfl (lv_at hl 0 rfl) ?_
        refine ww_get (C := RX3) (T := TX3) (N := 10) (ref := RX3) (ci := 3) (v := .ref (ad (ic 3))) hx hb hts hin3 hown hW 0 (by decide) rfl rfl 9 (by decide) hf50 (fun _ h9 => h9) rfl dX3_settle_17 ?_
        refine lv_iload_n hx hb dX3_settle_20 rfl (lv_at hl 2 rfl) ?_
        refine lv_aload_n hx hb dX3_settle_21 rfl (lv_at hl 0 rfl) ?_
        refine ww_get (C := RX3) (T := TX3) (N := 10) (ref := RX3) (ci := 3) (v := .ref (ad 6)) hx hb hts hin3 hown hW 0 (by decide) rfl rfl 2 (by decide) hf22 (fun _ h9 => h9) rfl dX3_settle_22 ?_
        refine lv_aload_n hx hb dX3_settle_25 rfl (lv_at hl 0 rfl) ?_
        refine ww_get (C := RX3) (T := TX3) (N := 10) (ref := RX3) (ci := 3) (v := .ref (ad 6)) hx hb hts hin3 hown hW 0 (by decide) rfl rfl 2 (by decide) hf22 (fun _ h9 => h9) rfl dX3_settle_26 ?_
        refine lv_iload_n hx hb dX3_settle_29 rfl (lv_at hl 2 rfl) ?_
        obtain ⟨r_5, hc_4, hE⟩ := ob_some hE
        refine ww_callVi (As := [.int x2]) (rest := [.ref (ad 6), .int x2, .ref (ad (ic 3))]) ⟨hx, hb, hml, hown, hts⟩ hW (ctX0_levelOf l D ks ad _ st x2 hc_4) (cwV 1 hts gX3_settle_X0_levelOf rfl rfl rfl (by decide +kernel) ⟨Nat.le_of_ble_eq_true rfl, Nat.le_of_ble_eq_true rfl⟩) hW.recvD rfl hl.1 rfl (Nat.le_of_ble_eq_true rfl) dX3_settle_30 ⟨Nat.zero_le _, Nat.zero_le _⟩ (fun H locs hW => ?_)
        obtain ⟨r_7, hc_6, hE⟩ := ob_some hE
        refine ww_callVi (As := [.int r_5]) (rest := [.int x2, .ref (ad (ic 3))]) ⟨hx, hb, hml, hown, hts⟩ hW (ctX0_countAt l D ks ad _ st r_5 hc_6) (cwV 1 hts gX3_settle_X0_countAt rfl rfl rfl (by decide +kernel) ⟨Nat.le_of_ble_eq_true rfl, Nat.le_of_ble_eq_true rfl⟩) hW.recvD rfl hl.1 rfl (Nat.le_of_ble_eq_true rfl) dX3_settle_33 ⟨Nat.zero_le _, Nat.zero_le _⟩ (fun H locs hW => ?_)
        obtain ⟨hin, hE⟩ := gd_some hE
        obtain ⟨st_8, est, hE⟩ := lt_some hE
        refine ww_iast hx hb hW 3 (by decide) hin est dX3_settle_36 (fun H locs hW => ?_)
        obtain ⟨x2_9, e, hE⟩ := lt_some hE
        refine lv_iinc (v := x2_9) (lv' := [(2, .int x2_9), (0, .ref (ad 0)), (1, .int x1)]) hx hb dX3_settle_37 hl (k := 2) rfl (by rw [e]; rfl) (by decide) rfl (fun ls hl => ?_)
        refine lv_goto (tgt := 10) hx hb dX3_settle_40 (by decide) ?_
        exact ih st_8 x1 x2_9 _ _ _ _ hE hW (lv_sub hl [1, 2, 0] rfl) kx
  have L45 : ∀ (n : Nat) (st : St) (x1 : Int32) (x2 : Int32)  (stz : St) (H : Heap) (locs : List Loc) (ls : Array Slot), sX3_settle_L45 n st x1 x2 = some stz → WW D ks ad (AA ad sz) s st H locs → lv_has ls 4 [(0, .ref (ad 0)), (1, .int x1), (2, .int x2)] → (∀ (H : Heap) (locs : List Loc) (ls : Array Slot), WW D ks ad (AA ad sz) s stz H locs → lv_has ls 4 [(0, .ref (ad 0)), (1, .int x1)] → W p l e (headSpec wsX3_settle rmX3_settle).room s m args below meth c H locs 0 0 (MQ below (va_Qi (fun (x : Int32) (u : St) => x = r ∧ u = st') (QW D ks ad sz) (AA ad sz)) args s 0 0 (AA ad sz)) (F0 m 75 ls [])) → W p l e (headSpec wsX3_settle rmX3_settle).room s m args below meth c H locs 0 0 (MQ below (va_Qi (fun (x : Int32) (u : St) => x = r ∧ u = st') (QW D ks ad sz) (AA ad sz)) args s 0 0 (AA ad sz)) (F0 m 45 ls []) := by
    intro n
    induction n with
    | zero =>
      intro st x1 x2 stz H locs ls hE hW hl kx
      exact none_x hE
    | succ n ih =>
      intro st x1 x2 stz H locs ls hE hW hl kx
      rw [sX3_settle_L45] at hE
      refine lv_iload_n hx hb dX3_settle_45 rfl (lv_at hl 2 rfl) ?_
      refine lv_bipush (v := 10) hx hb dX3_settle_46 (by decide) ?_
      refine lv_icmp_ge (tgt := 75) hx hb dX3_settle_48 (by decide) (fun c_11 => ?_) (fun c_11 => ?_)
      · have hE := if_t c_11 hE
        obtain rfl := some_x hE
        exact kx _ _ _ hW (lv_sub hl [0, 1] rfl)
      · have hE := if_f c_11 hE
        refine lv_aload_n hx hb dX3_settle_51 rfl (lv_at hl 0 rfl) ?_
        obtain ⟨r_13, hc_12, hE⟩ := ob_some hE
        refine ww_callVi (As := []) (rest := []) ⟨hx, hb, hml, hown, hts⟩ hW (ctX3_heaviest l D ks ad _ st hc_12) (cwV 0 hts gX3_settle_X3_heaviest rfl rfl rfl (by decide +kernel) ⟨Nat.le_of_ble_eq_true rfl, Nat.le_of_ble_eq_true rfl⟩) hW.recvX rfl hl.1 rfl (Nat.le_of_ble_eq_true rfl) dX3_settle_52 ⟨Nat.zero_le _, Nat.zero_le _⟩ (fun H locs hW => ?_)
        refine lv_istore_n (lv' := [(3, .int r_13), (0, .ref (ad 0)), (1, .int x1), (2, .int x2)]) hx hb dX3_settle_55 rfl hl (by decide) rfl (fun ls hl => ?_)
        refine lv_aload_n hx hb dX3_settle_56 rfl (lv_at hl 1 rfl) ?_
        refine ww_get (C := RX3) (T := TX3) (N := 10) (ref := RX3) (ci := 3) (v := .ref (ad (ic 3))) hx hb hts hin3 hown hW 0 (by decide) rfl rfl 9 (by decide) hf50 (fun _ h9 => h9) rfl dX3_settle_57 ?_
        refine lv_iload_n hx hb dX3_settle_60 rfl (lv_at hl 0 rfl) ?_
        refine lv_iconst (v := (-1)) hx hb dX3_settle_61 (by decide) ?_
        obtain ⟨hin, hE⟩ := gd_some hE
        obtain ⟨st_14, est, hE⟩ := lt_some hE
        refine ww_iast hx hb hW 3 (by decide) hin est dX3_settle_62 (fun H locs hW => ?_)
        refine lv_aload_n hx hb dX3_settle_63 rfl (lv_at hl 1 rfl) ?_
        refine lv_iload_n hx hb dX3_settle_64 rfl (lv_at hl 0 rfl) ?_
        obtain ⟨r_17, st_15, hc_16, hE⟩ := ob2_some hE
        refine ww_callVi (As := [.int r_13]) (rest := []) ⟨hx, hb, hml, hown, hts⟩ hW (ctX3_siftOne l D ks ad _ st_14 r_13 hc_16) (cwV 1 hts gX3_settle_X3_siftOne rfl rfl rfl (by decide +kernel) ⟨Nat.le_of_ble_eq_true rfl, Nat.le_of_ble_eq_true rfl⟩) hW.recvX rfl hl.1 rfl (Nat.le_of_ble_eq_true rfl) dX3_settle_65 ⟨Nat.zero_le _, Nat.zero_le _⟩ (fun H locs hW => ?_)
        refine lv_pop hx hb dX3_settle_68 rfl ?_
        obtain ⟨x2_18, e, hE⟩ := lt_some hE
        refine lv_iinc (v := x2_18) (lv' := [(2, .int x2_18), (3, .int r_13), (0, .ref (ad 0)), (1, .int x1)]) hx hb dX3_settle_69 hl (k := 3) rfl (by rw [e]; rfl) (by decide) rfl (fun ls hl => ?_)
        refine lv_goto (tgt := 45) hx hb dX3_settle_72 (by decide) ?_
        exact ih st_15 x1 x2_18 _ _ _ _ hE hW (lv_sub hl [2, 3, 0] rfl) kx
  refine lv_aload_n hx hb dX3_settle_0 rfl (lv_at hl 0 rfl) ?_
  refine ww_get (C := RX3) (T := TX3) (N := 10) (ref := RX3) (ci := 3) (v := .ref (ad 6)) hx hb hts hin3 hown hW 0 (by decide) rfl rfl 2 (by decide) hf22 (fun _ h9 => h9) rfl dX3_settle_1 ?_
  obtain ⟨r_2, hc_1, hE⟩ := ob_some hE
  refine ww_callVi (As := []) (rest := []) ⟨hx, hb, hml, hown, hts⟩ hW (ctX0_count l D ks ad _ st hc_1) (cwV 0 hts gX3_settle_X0_count rfl rfl rfl (by decide +kernel) ⟨Nat.le_of_ble_eq_true rfl, Nat.le_of_ble_eq_true rfl⟩) hW.recvD rfl hl.1 rfl (Nat.le_of_ble_eq_true rfl) dX3_settle_4 ⟨Nat.zero_le _, Nat.zero_le _⟩ (fun H locs hW => ?_)
  refine lv_istore_n (lv' := [(1, .int r_2), (0, .ref (ad 0))]) hx hb dX3_settle_7 rfl hl (by decide) rfl (fun ls hl => ?_)
  refine lv_iconst (v := 0) hx hb dX3_settle_8 (by decide) ?_
  refine lv_istore_n (lv' := [(2, .int (0 : Int32)), (1, .int r_2), (0, .ref (ad 0))]) hx hb dX3_settle_9 rfl hl (by decide) rfl (fun ls hl => ?_)
  obtain ⟨st_10, hz, hE⟩ := ob_some hE
  refine L10 FU st r_2 (0 : Int32) st_10 _ _ _ hz hW (lv_sub hl [2, 1, 0] rfl) (fun H locs ls hW hl => ?_)
  refine lv_iconst (v := 0) hx hb dX3_settle_43 (by decide) ?_
  refine lv_istore_n (lv' := [(2, .int (0 : Int32)), (0, .ref (ad 0)), (1, .int r_2)]) hx hb dX3_settle_44 rfl hl (by decide) rfl (fun ls hl => ?_)
  obtain ⟨st_19, hz, hE⟩ := ob_some hE
  refine L45 FU st_10 r_2 (0 : Int32) st_19 _ _ _ hz hW (lv_sub hl [1, 2, 0] rfl) (fun H locs ls hW hl => ?_)
  refine lv_iload_n hx hb dX3_settle_75 rfl (lv_at hl 1 rfl) ?_
  refine lv_aload_n hx hb dX3_settle_76 rfl (lv_at hl 0 rfl) ?_
  refine ww_get (C := RX3) (T := TX3) (N := 10) (ref := RX3) (ci := 3) (v := .ref (ad 6)) hx hb hts hin3 hown hW 0 (by decide) rfl rfl 2 (by decide) hf22 (fun _ h9 => h9) rfl dX3_settle_77 ?_
  obtain ⟨r_21, hc_20, hE⟩ := ob_some hE
  refine ww_callVi (As := []) (rest := [.int r_2]) ⟨hx, hb, hml, hown, hts⟩ hW (ctX0_count l D ks ad _ st_19 hc_20) (cwV 0 hts gX3_settle_X0_count rfl rfl rfl (by decide +kernel) ⟨Nat.le_of_ble_eq_true rfl, Nat.le_of_ble_eq_true rfl⟩) hW.recvD rfl hl.1 rfl (Nat.le_of_ble_eq_true rfl) dX3_settle_80 ⟨Nat.zero_le _, Nat.zero_le _⟩ (fun H locs hW => ?_)
  refine lv_isub hx hb dX3_settle_83 ?_
  obtain ⟨rfl, rfl⟩ := pair_x hE
  exact W.iret hx hb hr (fun t ht hWm => hW.qi ht hWm) hW.2.2.1.2.2 dX3_settle_84
abbrev rmX3_wouldSwap : Room := { frames := 17, cells := 0, slots := 0, locals := 385 }
set_option maxRecDepth 100000 in
theorem in3_X3_wouldSwap : ∀ w ∈ wsX30, w ∈ wsX3_wouldSwap := by decide +kernel
set_option maxHeartbeats 4000000 in
set_option maxRecDepth 100000 in
theorem ctX3_wouldSwap (l : Launch) (D : va_G) (ks : KA) (ad : Nat → Nat) (sz : Nat) (st : St) (x1 : Int32)  {r : Int32} {st' : St} (hE : sX3_wouldSwap st x1 = some (r, st')) : CI l D ks yX3_wouldSwap wsX3_wouldSwap rmX3_wouldSwap [.ref (ad 0), .int x1] ad sz st r st' := by
  unfold sX3_wouldSwap at hE
  refine Met.ofW (cc := cX3_wouldSwap) (maxL := 3) (ret := (some .int)) (by decide) rfl ?_
  intro p e s m args below meth c s₁ B hml hv
  obtain ⟨hargs, hPW⟩ := hv
  have hW := WW.entry hPW
  have hx := B.exec
  have hb := B.bytes
  have hr := B.returns
  have hts := atoms_spec (ws := wsX3_wouldSwap) B.pre
  have hown : s.vm.findClass RX3 = some m.cls := findClass_of_methodNamed B.named
  have hlocks := B.notSynchronized
  have hin3 : ∀ w ∈ u_ws RX3 TX3 10, w ∈ wsX3_wouldSwap := in3_X3_wouldSwap
  have hf22 := hts (.fieldLink RX3 22 "Trellis" "diagram" "LTrellis$Diagram;") (by decide +kernel)
  have hl := lv_entry ([.ref (ad 0), .int x1]) (n := 3) (Nat.le_of_ble_eq_true rfl)
  have hfr : entryFrame m args 3 = F0 m 0 (lg_sl ([.ref (ad 0), .int x1]) ++ List.replicate (3 - (lg_sl ([.ref (ad 0), .int x1])).length) Slot.unset).toArray [] := by rw [hargs, lg_entry_eq]
  rw [hfr]
  generalize (lg_sl ([.ref (ad 0), .int x1]) ++ List.replicate (3 - (lg_sl ([.ref (ad 0), .int x1])).length) Slot.unset).toArray = ls at hl ⊢
  have hl : lv_has ls 3 [(0, .ref (ad 0)), (1, .int x1)] := hl
  refine lv_iload_n hx hb dX3_wouldSwap_0 rfl (lv_at hl 1 rfl) ?_
  refine lv_bipush (v := 9) hx hb dX3_wouldSwap_1 (by decide) ?_
  obtain ⟨_, hc_1, hE⟩ := ob_some hE
  refine ww_callSv (As := [.int x1, .int (9 : Int32)]) (rest := []) ⟨hx, hb, hml, hown, hts⟩ hW (ctX3_checkLevel l D ks ad _ st x1 (9 : Int32) hc_1) (va_cwS 2 hts gX3_wouldSwap_X3_checkLevel rfl rfl rfl (by decide +kernel) ⟨Nat.le_of_ble_eq_true rfl, Nat.le_of_ble_eq_true rfl⟩) rfl hl.1 rfl (Nat.le_of_ble_eq_true rfl) dX3_wouldSwap_3 ⟨Nat.zero_le _, Nat.zero_le _⟩ (fun H locs hW => ?_)
  refine lv_aload_n hx hb dX3_wouldSwap_6 rfl (lv_at hl 0 rfl) ?_
  refine ww_get (C := RX3) (T := TX3) (N := 10) (ref := RX3) (ci := 3) (v := .ref (ad 6)) hx hb hts hin3 hown hW 0 (by decide) rfl rfl 2 (by decide) hf22 (fun _ h9 => h9) rfl dX3_wouldSwap_7 ?_
  refine lv_iload_n hx hb dX3_wouldSwap_10 rfl (lv_at hl 1 rfl) ?_
  obtain ⟨st_2, hc_3, hE⟩ := ob_some hE
  refine ww_callVv (As := [.int x1]) (rest := []) ⟨hx, hb, hml, hown, hts⟩ hW (ctX0_exchangeAt l D ks ad _ st x1 hc_3) (cwV 1 hts gX3_wouldSwap_X0_exchangeAt rfl rfl rfl (by decide +kernel) ⟨Nat.le_of_ble_eq_true rfl, Nat.le_of_ble_eq_true rfl⟩) hW.recvD rfl hl.1 rfl (Nat.le_of_ble_eq_true rfl) dX3_wouldSwap_11 ⟨Nat.zero_le _, Nat.zero_le _⟩ (fun H locs hW => ?_)
  refine lv_aload_n hx hb dX3_wouldSwap_14 rfl (lv_at hl 0 rfl) ?_
  refine ww_get (C := RX3) (T := TX3) (N := 10) (ref := RX3) (ci := 3) (v := .ref (ad 6)) hx hb hts hin3 hown hW 0 (by decide) rfl rfl 2 (by decide) hf22 (fun _ h9 => h9) rfl dX3_wouldSwap_15 ?_
  obtain ⟨r_5, hc_4, hE⟩ := ob_some hE
  refine ww_callVi (As := []) (rest := []) ⟨hx, hb, hml, hown, hts⟩ hW (ctX0_count l D ks ad _ st_2 hc_4) (cwV 0 hts gX3_wouldSwap_X0_count rfl rfl rfl (by decide +kernel) ⟨Nat.le_of_ble_eq_true rfl, Nat.le_of_ble_eq_true rfl⟩) hW.recvD rfl hl.1 rfl (Nat.le_of_ble_eq_true rfl) dX3_wouldSwap_18 ⟨Nat.zero_le _, Nat.zero_le _⟩ (fun H locs hW => ?_)
  refine lv_istore_n (lv' := [(2, .int r_5), (0, .ref (ad 0)), (1, .int x1)]) hx hb dX3_wouldSwap_21 rfl hl (by decide) rfl (fun ls hl => ?_)
  refine lv_aload_n hx hb dX3_wouldSwap_22 rfl (lv_at hl 1 rfl) ?_
  refine ww_get (C := RX3) (T := TX3) (N := 10) (ref := RX3) (ci := 3) (v := .ref (ad 6)) hx hb hts hin3 hown hW 0 (by decide) rfl rfl 2 (by decide) hf22 (fun _ h9 => h9) rfl dX3_wouldSwap_23 ?_
  refine lv_iload_n hx hb dX3_wouldSwap_26 rfl (lv_at hl 2 rfl) ?_
  obtain ⟨st_6, hc_7, hE⟩ := ob_some hE
  refine ww_callVv (As := [.int x1]) (rest := []) ⟨hx, hb, hml, hown, hts⟩ hW (ctX0_exchangeAt l D ks ad _ st_2 x1 hc_7) (cwV 1 hts gX3_wouldSwap_X0_exchangeAt rfl rfl rfl (by decide +kernel) ⟨Nat.le_of_ble_eq_true rfl, Nat.le_of_ble_eq_true rfl⟩) hW.recvD rfl hl.1 rfl (Nat.le_of_ble_eq_true rfl) dX3_wouldSwap_27 ⟨Nat.zero_le _, Nat.zero_le _⟩ (fun H locs hW => ?_)
  refine lv_iload_n hx hb dX3_wouldSwap_30 rfl (lv_at hl 0 rfl) ?_
  refine lv_sipush (v := 400) hx hb dX3_wouldSwap_31 (by decide) ?_
  refine lv_icmp_le (tgt := 41) hx hb dX3_wouldSwap_34 (by decide) (fun c_8 => ?_) (fun c_8 => ?_)
  · have hE := if_t c_8 hE
    refine lv_iload_n hx hb dX3_wouldSwap_41 rfl (lv_at hl 0 rfl) ?_
    obtain ⟨rfl, rfl⟩ := pair_x hE
    exact W.iret hx hb hr (fun t ht hWm => hW.qi ht hWm) hW.2.2.1.2.2 dX3_wouldSwap_42
  · have hE := if_f c_8 hE
    refine lv_iconst (v := (-1)) hx hb dX3_wouldSwap_37 (by decide) ?_
    refine lv_goto (tgt := 42) hx hb dX3_wouldSwap_38 (by decide) ?_
    obtain ⟨rfl, rfl⟩ := pair_x hE
    exact W.iret hx hb hr (fun t ht hWm => hW.qi ht hWm) hW.2.2.1.2.2 dX3_wouldSwap_42
abbrev rmX3_wouldSift : Room := { frames := 18, cells := 0, slots := 0, locals := 408 }
set_option maxRecDepth 100000 in
theorem in3_X3_wouldSift : ∀ w ∈ wsX30, w ∈ wsX3_wouldSift := by decide +kernel
set_option maxHeartbeats 4000000 in
set_option maxRecDepth 100000 in
theorem ctX3_wouldSift (l : Launch) (D : va_G) (ks : KA) (ad : Nat → Nat) (sz : Nat) (st : St) (x1 : Int32)  {r : Int32} {st' : St} (hE : sX3_wouldSift st x1 = some (r, st')) : CI l D ks yX3_wouldSift wsX3_wouldSift rmX3_wouldSift [.ref (ad 0), .int x1] ad sz st r st' := by
  unfold sX3_wouldSift at hE
  refine Met.ofW (cc := cX3_wouldSift) (maxL := 4) (ret := (some .int)) (by decide) rfl ?_
  intro p e s m args below meth c s₁ B hml hv
  obtain ⟨hargs, hPW⟩ := hv
  have hW := WW.entry hPW
  have hx := B.exec
  have hb := B.bytes
  have hr := B.returns
  have hts := atoms_spec (ws := wsX3_wouldSift) B.pre
  have hown : s.vm.findClass RX3 = some m.cls := findClass_of_methodNamed B.named
  have hlocks := B.notSynchronized
  have hin3 : ∀ w ∈ u_ws RX3 TX3 10, w ∈ wsX3_wouldSift := in3_X3_wouldSift
  have hf22 := hts (.fieldLink RX3 22 "Trellis" "diagram" "LTrellis$Diagram;") (by decide +kernel)
  have hl := lv_entry ([.ref (ad 0), .int x1]) (n := 4) (Nat.le_of_ble_eq_true rfl)
  have hfr : entryFrame m args 4 = F0 m 0 (lg_sl ([.ref (ad 0), .int x1]) ++ List.replicate (4 - (lg_sl ([.ref (ad 0), .int x1])).length) Slot.unset).toArray [] := by rw [hargs, lg_entry_eq]
  rw [hfr]
  generalize (lg_sl ([.ref (ad 0), .int x1]) ++ List.replicate (4 - (lg_sl ([.ref (ad 0), .int x1])).length) Slot.unset).toArray = ls at hl ⊢
  have hl : lv_has ls 4 [(0, .ref (ad 0)), (1, .int x1)] := hl
  refine lv_iload_n hx hb dX3_wouldSift_0 rfl (lv_at hl 1 rfl) ?_
  obtain ⟨_, hc_1, hE⟩ := ob_some hE
  refine ww_callSv (As := [.int x1]) (rest := []) ⟨hx, hb, hml, hown, hts⟩ hW (ctX3_checkVariable l D ks ad _ st x1 hc_1) (va_cwS 1 hts gX3_wouldSift_X3_checkVariable rfl rfl rfl (by decide +kernel) ⟨Nat.le_of_ble_eq_true rfl, Nat.le_of_ble_eq_true rfl⟩) rfl hl.1 rfl (Nat.le_of_ble_eq_true rfl) dX3_wouldSift_1 ⟨Nat.zero_le _, Nat.zero_le _⟩ (fun H locs hW => ?_)
  refine lv_aload_n hx hb dX3_wouldSift_4 rfl (lv_at hl 0 rfl) ?_
  refine ww_get (C := RX3) (T := TX3) (N := 10) (ref := RX3) (ci := 3) (v := .ref (ad 6)) hx hb hts hin3 hown hW 0 (by decide) rfl rfl 2 (by decide) hf22 (fun _ h9 => h9) rfl dX3_wouldSift_5 ?_
  refine lv_iload_n hx hb dX3_wouldSift_8 rfl (lv_at hl 1 rfl) ?_
  obtain ⟨r_3, hc_2, hE⟩ := ob_some hE
  refine ww_callVi (As := [.int x1]) (rest := []) ⟨hx, hb, hml, hown, hts⟩ hW (ctX0_levelOf l D ks ad _ st x1 hc_2) (cwV 1 hts gX3_wouldSift_X0_levelOf rfl rfl rfl (by decide +kernel) ⟨Nat.le_of_ble_eq_true rfl, Nat.le_of_ble_eq_true rfl⟩) hW.recvD rfl hl.1 rfl (Nat.le_of_ble_eq_true rfl) dX3_wouldSift_9 ⟨Nat.zero_le _, Nat.zero_le _⟩ (fun H locs hW => ?_)
  refine lv_istore_n (lv' := [(2, .int r_3), (0, .ref (ad 0)), (1, .int x1)]) hx hb dX3_wouldSift_12 rfl hl (by decide) rfl (fun ls hl => ?_)
  refine lv_aload_n hx hb dX3_wouldSift_13 rfl (lv_at hl 1 rfl) ?_
  refine ww_get (C := RX3) (T := TX3) (N := 10) (ref := RX3) (ci := 3) (v := .ref (ad 6)) hx hb hts hin3 hown hW 0 (by decide) rfl rfl 2 (by decide) hf22 (fun _ h9 => h9) rfl dX3_wouldSift_14 ?_
  refine lv_iload_n hx hb dX3_wouldSift_17 rfl (lv_at hl 2 rfl) ?_
  refine lv_iconst (v := 0) hx hb dX3_wouldSift_18 (by decide) ?_
  obtain ⟨st_4, hc_5, hE⟩ := ob_some hE
  refine ww_callVv (As := [.int x1, .int (0 : Int32)]) (rest := []) ⟨hx, hb, hml, hown, hts⟩ hW (ctX0_lift l D ks ad _ st x1 (0 : Int32) hc_5) (cwV 2 hts gX3_wouldSift_X0_lift rfl rfl rfl (by decide +kernel) ⟨Nat.le_of_ble_eq_true rfl, Nat.le_of_ble_eq_true rfl⟩) hW.recvD rfl hl.1 rfl (Nat.le_of_ble_eq_true rfl) dX3_wouldSift_19 ⟨Nat.zero_le _, Nat.zero_le _⟩ (fun H locs hW => ?_)
  refine lv_aload_n hx hb dX3_wouldSift_22 rfl (lv_at hl 1 rfl) ?_
  refine ww_get (C := RX3) (T := TX3) (N := 10) (ref := RX3) (ci := 3) (v := .ref (ad 6)) hx hb hts hin3 hown hW 0 (by decide) rfl rfl 2 (by decide) hf22 (fun _ h9 => h9) rfl dX3_wouldSift_23 ?_
  obtain ⟨r_8, st_6, hc_7, hE⟩ := ob2_some hE
  refine ww_callVi (As := []) (rest := []) ⟨hx, hb, hml, hown, hts⟩ hW (ctX0_walk l D ks ad _ st_4 hc_7) (cwV 0 hts gX3_wouldSift_X0_walk rfl rfl rfl (by decide +kernel) ⟨Nat.le_of_ble_eq_true rfl, Nat.le_of_ble_eq_true rfl⟩) hW.recvD rfl hl.1 rfl (Nat.le_of_ble_eq_true rfl) dX3_wouldSift_26 ⟨Nat.zero_le _, Nat.zero_le _⟩ (fun H locs hW => ?_)
  refine lv_istore_n (lv' := [(3, .int r_8), (2, .int r_3), (0, .ref (ad 0)), (1, .int x1)]) hx hb dX3_wouldSift_29 rfl hl (by decide) rfl (fun ls hl => ?_)
  refine lv_aload_n hx hb dX3_wouldSift_30 rfl (lv_at hl 2 rfl) ?_
  refine ww_get (C := RX3) (T := TX3) (N := 10) (ref := RX3) (ci := 3) (v := .ref (ad 6)) hx hb hts hin3 hown hW 0 (by decide) rfl rfl 2 (by decide) hf22 (fun _ h9 => h9) rfl dX3_wouldSift_31 ?_
  refine lv_iload_n hx hb dX3_wouldSift_34 rfl (lv_at hl 3 rfl) ?_
  refine lv_iload_n hx hb dX3_wouldSift_35 rfl (lv_at hl 1 rfl) ?_
  obtain ⟨st_9, hc_10, hE⟩ := ob_some hE
  refine ww_callVv (As := [.int x1, .int r_3]) (rest := []) ⟨hx, hb, hml, hown, hts⟩ hW (ctX0_lift l D ks ad _ st_6 x1 r_3 hc_10) (cwV 2 hts gX3_wouldSift_X0_lift rfl rfl rfl (by decide +kernel) ⟨Nat.le_of_ble_eq_true rfl, Nat.le_of_ble_eq_true rfl⟩) hW.recvD rfl hl.1 rfl (Nat.le_of_ble_eq_true rfl) dX3_wouldSift_36 ⟨Nat.zero_le _, Nat.zero_le _⟩ (fun H locs hW => ?_)
  refine lv_iload_n hx hb dX3_wouldSift_39 rfl (lv_at hl 0 rfl) ?_
  obtain ⟨rfl, rfl⟩ := pair_x hE
  exact W.iret hx hb hr (fun t ht hWm => hW.qi ht hWm) hW.2.2.1.2.2 dX3_wouldSift_40
abbrev rmX3_digestOfSlot : Room := { frames := 17, cells := 0, slots := 0, locals := 373 }
set_option maxHeartbeats 4000000 in
set_option maxRecDepth 100000 in
theorem ctX3_digestOfSlot (l : Launch) (D : va_G) (ks : KA) (ad : Nat → Nat) (sz : Nat) (st : St) (x1 : Int64) (x3 : Int32)  {r : Int64} {st' : St} (hE : sX3_digestOfSlot st x1 x3 = some (r, st')) : CJ l D ks yX3_digestOfSlot wsX3_digestOfSlot rmX3_digestOfSlot [.ref (ad 0), .long x1, .int x3] ad sz st r st' := by
  unfold sX3_digestOfSlot at hE
  refine Met.ofW (cc := cX3_digestOfSlot) (maxL := 6) (ret := (some .long)) (by decide) rfl ?_
  intro p e s m args below meth c s₁ B hml hv
  obtain ⟨hargs, hPW⟩ := hv
  have hW := WW.entry hPW
  have hx := B.exec
  have hb := B.bytes
  have hr := B.returns
  have hts := atoms_spec (ws := wsX3_digestOfSlot) B.pre
  have hown : s.vm.findClass RX3 = some m.cls := findClass_of_methodNamed B.named
  have hlocks := B.notSynchronized
  have hl := lv_entry ([.ref (ad 0), .long x1, .int x3]) (n := 6) (Nat.le_of_ble_eq_true rfl)
  have hfr : entryFrame m args 6 = F0 m 0 (lg_sl ([.ref (ad 0), .long x1, .int x3]) ++ List.replicate (6 - (lg_sl ([.ref (ad 0), .long x1, .int x3])).length) Slot.unset).toArray [] := by rw [hargs, lg_entry_eq]
  rw [hfr]
  generalize (lg_sl ([.ref (ad 0), .long x1, .int x3]) ++ List.replicate (6 - (lg_sl ([.ref (ad 0), .long x1, .int x3])).length) Slot.unset).toArray = ls at hl ⊢
  have hl : lv_has ls 6 [(0, .ref (ad 0)), (1, .long x1), (3, .int x3)] := hl
  refine lv_lload_n hx hb dX3_digestOfSlot_0 rfl (lv_at hl 1 rfl) ?_
  refine lv_lstore (lv' := [(4, .long x1), (0, .ref (ad 0)), (1, .long x1), (3, .int x3)]) hx hb dX3_digestOfSlot_1 hl (by decide) rfl (fun ls hl => ?_)
  refine lv_lload hx hb dX3_digestOfSlot_3 (lv_at hl 0 rfl) ?_
  refine lv_ldc2 (v := 31) hx hb hown (hts (.constantLong RX3 211 31) (by decide +kernel)) dX3_digestOfSlot_5 ?_
  refine lv_lmul hx hb dX3_digestOfSlot_8 ?_
  refine lv_aload_n hx hb dX3_digestOfSlot_9 rfl (lv_at hl 1 rfl) ?_
  refine lv_iload_n hx hb dX3_digestOfSlot_10 rfl (lv_at hl 3 rfl) ?_
  obtain ⟨r_2, hc_1, hE⟩ := ob_some hE
  refine ww_callVi (As := [.int x3]) (rest := [.long (x1 * (31 : Int64))]) ⟨hx, hb, hml, hown, hts⟩ hW (ctX3_models l D ks ad _ st x3 hc_1) (cwV 1 hts gX3_digestOfSlot_X3_models rfl rfl rfl (by decide +kernel) ⟨Nat.le_of_ble_eq_true rfl, Nat.le_of_ble_eq_true rfl⟩) hW.recvX rfl hl.1 rfl (Nat.le_of_ble_eq_true rfl) dX3_digestOfSlot_11 ⟨Nat.zero_le _, Nat.zero_le _⟩ (fun H locs hW => ?_)
  refine lv_i2l (v := r_2.toInt64) hx hb dX3_digestOfSlot_14 rfl ?_
  refine lv_ladd hx hb dX3_digestOfSlot_15 ?_
  obtain ⟨x4_3, e, hE⟩ := lt_some hE
  refine lv_nml e ?_
  refine lv_lstore (lv' := [(4, .long x4_3), (0, .ref (ad 0)), (1, .long x1), (3, .int x3)]) hx hb dX3_digestOfSlot_16 hl (by decide) rfl (fun ls hl => ?_)
  refine lv_lload hx hb dX3_digestOfSlot_18 (lv_at hl 0 rfl) ?_
  refine lv_ldc2 (v := 31) hx hb hown (hts (.constantLong RX3 211 31) (by decide +kernel)) dX3_digestOfSlot_20 ?_
  refine lv_lmul hx hb dX3_digestOfSlot_23 ?_
  refine lv_aload_n hx hb dX3_digestOfSlot_24 rfl (lv_at hl 1 rfl) ?_
  refine lv_iload_n hx hb dX3_digestOfSlot_25 rfl (lv_at hl 3 rfl) ?_
  obtain ⟨r_5, hc_4, hE⟩ := ob_some hE
  refine ww_callVi (As := [.int x3]) (rest := [.long (x4_3 * (31 : Int64))]) ⟨hx, hb, hml, hown, hts⟩ hW (ctX3_support l D ks ad _ st x3 hc_4) (cwV 1 hts gX3_digestOfSlot_X3_support rfl rfl rfl (by decide +kernel) ⟨Nat.le_of_ble_eq_true rfl, Nat.le_of_ble_eq_true rfl⟩) hW.recvX rfl hl.1 rfl (Nat.le_of_ble_eq_true rfl) dX3_digestOfSlot_26 ⟨Nat.zero_le _, Nat.zero_le _⟩ (fun H locs hW => ?_)
  refine lv_i2l (v := r_5.toInt64) hx hb dX3_digestOfSlot_29 rfl ?_
  refine lv_ladd hx hb dX3_digestOfSlot_30 ?_
  obtain ⟨x4_6, e, hE⟩ := lt_some hE
  refine lv_nml e ?_
  refine lv_lstore (lv' := [(4, .long x4_6), (0, .ref (ad 0)), (1, .long x1), (3, .int x3)]) hx hb dX3_digestOfSlot_31 hl (by decide) rfl (fun ls hl => ?_)
  refine lv_lload hx hb dX3_digestOfSlot_33 (lv_at hl 0 rfl) ?_
  refine lv_ldc2 (v := 31) hx hb hown (hts (.constantLong RX3 211 31) (by decide +kernel)) dX3_digestOfSlot_35 ?_
  refine lv_lmul hx hb dX3_digestOfSlot_38 ?_
  refine lv_aload_n hx hb dX3_digestOfSlot_39 rfl (lv_at hl 1 rfl) ?_
  refine lv_iload_n hx hb dX3_digestOfSlot_40 rfl (lv_at hl 3 rfl) ?_
  obtain ⟨r_9, st_7, hc_8, hE⟩ := ob2_some hE
  refine ww_callVi (As := [.int x3]) (rest := [.long (x4_6 * (31 : Int64))]) ⟨hx, hb, hml, hown, hts⟩ hW (ctX3_size l D ks ad _ st x3 hc_8) (cwV 1 hts gX3_digestOfSlot_X3_size rfl rfl rfl (by decide +kernel) ⟨Nat.le_of_ble_eq_true rfl, Nat.le_of_ble_eq_true rfl⟩) hW.recvX rfl hl.1 rfl (Nat.le_of_ble_eq_true rfl) dX3_digestOfSlot_41 ⟨Nat.zero_le _, Nat.zero_le _⟩ (fun H locs hW => ?_)
  refine lv_i2l (v := r_9.toInt64) hx hb dX3_digestOfSlot_44 rfl ?_
  refine lv_ladd hx hb dX3_digestOfSlot_45 ?_
  obtain ⟨x4_10, e, hE⟩ := lt_some hE
  refine lv_nml e ?_
  refine lv_lstore (lv' := [(4, .long x4_10), (0, .ref (ad 0)), (1, .long x1), (3, .int x3)]) hx hb dX3_digestOfSlot_46 hl (by decide) rfl (fun ls hl => ?_)
  refine lv_lload hx hb dX3_digestOfSlot_48 (lv_at hl 0 rfl) ?_
  refine lv_ldc2 (v := 31) hx hb hown (hts (.constantLong RX3 211 31) (by decide +kernel)) dX3_digestOfSlot_50 ?_
  refine lv_lmul hx hb dX3_digestOfSlot_53 ?_
  refine lv_aload_n hx hb dX3_digestOfSlot_54 rfl (lv_at hl 1 rfl) ?_
  refine lv_iload_n hx hb dX3_digestOfSlot_55 rfl (lv_at hl 3 rfl) ?_
  obtain ⟨r_13, st_11, hc_12, hE⟩ := ob2_some hE
  refine ww_callVi (As := [.int x3]) (rest := [.long (x4_10 * (31 : Int64))]) ⟨hx, hb, hml, hown, hts⟩ hW (ctX3_ways l D ks ad _ st_7 x3 hc_12) (cwV 1 hts gX3_digestOfSlot_X3_ways rfl rfl rfl (by decide +kernel) ⟨Nat.le_of_ble_eq_true rfl, Nat.le_of_ble_eq_true rfl⟩) hW.recvX rfl hl.1 rfl (Nat.le_of_ble_eq_true rfl) dX3_digestOfSlot_56 ⟨Nat.zero_le _, Nat.zero_le _⟩ (fun H locs hW => ?_)
  refine lv_i2l (v := r_13.toInt64) hx hb dX3_digestOfSlot_59 rfl ?_
  refine lv_ladd hx hb dX3_digestOfSlot_60 ?_
  obtain ⟨x4_14, e, hE⟩ := lt_some hE
  refine lv_nml e ?_
  refine lv_lstore (lv' := [(4, .long x4_14), (0, .ref (ad 0)), (1, .long x1), (3, .int x3)]) hx hb dX3_digestOfSlot_61 hl (by decide) rfl (fun ls hl => ?_)
  refine lv_lload hx hb dX3_digestOfSlot_63 (lv_at hl 0 rfl) ?_
  refine lv_ldc2 (v := 31) hx hb hown (hts (.constantLong RX3 211 31) (by decide +kernel)) dX3_digestOfSlot_65 ?_
  refine lv_lmul hx hb dX3_digestOfSlot_68 ?_
  refine lv_aload_n hx hb dX3_digestOfSlot_69 rfl (lv_at hl 1 rfl) ?_
  refine lv_iload_n hx hb dX3_digestOfSlot_70 rfl (lv_at hl 3 rfl) ?_
  obtain ⟨r_17, st_15, hc_16, hE⟩ := ob2_some hE
  refine ww_callVi (As := [.int x3]) (rest := [.long (x4_14 * (31 : Int64))]) ⟨hx, hb, hml, hown, hts⟩ hW (ctX3_depth l D ks ad _ st_11 x3 hc_16) (cwV 1 hts gX3_digestOfSlot_X3_depth rfl rfl rfl (by decide +kernel) ⟨Nat.le_of_ble_eq_true rfl, Nat.le_of_ble_eq_true rfl⟩) hW.recvX rfl hl.1 rfl (Nat.le_of_ble_eq_true rfl) dX3_digestOfSlot_71 ⟨Nat.zero_le _, Nat.zero_le _⟩ (fun H locs hW => ?_)
  refine lv_i2l (v := r_17.toInt64) hx hb dX3_digestOfSlot_74 rfl ?_
  refine lv_ladd hx hb dX3_digestOfSlot_75 ?_
  obtain ⟨x4_18, e, hE⟩ := lt_some hE
  refine lv_nml e ?_
  refine lv_lstore (lv' := [(4, .long x4_18), (0, .ref (ad 0)), (1, .long x1), (3, .int x3)]) hx hb dX3_digestOfSlot_76 hl (by decide) rfl (fun ls hl => ?_)
  refine lv_lload hx hb dX3_digestOfSlot_78 (lv_at hl 0 rfl) ?_
  refine lv_ldc2 (v := 31) hx hb hown (hts (.constantLong RX3 211 31) (by decide +kernel)) dX3_digestOfSlot_80 ?_
  refine lv_lmul hx hb dX3_digestOfSlot_83 ?_
  refine lv_aload_n hx hb dX3_digestOfSlot_84 rfl (lv_at hl 1 rfl) ?_
  refine lv_iload_n hx hb dX3_digestOfSlot_85 rfl (lv_at hl 3 rfl) ?_
  obtain ⟨r_20, hc_19, hE⟩ := ob_some hE
  refine ww_callVi (As := [.int x3]) (rest := [.long (x4_18 * (31 : Int64))]) ⟨hx, hb, hml, hown, hts⟩ hW (ctX3_cheapest l D ks ad _ st_15 x3 hc_19) (cwV 1 hts gX3_digestOfSlot_X3_cheapest rfl rfl rfl (by decide +kernel) ⟨Nat.le_of_ble_eq_true rfl, Nat.le_of_ble_eq_true rfl⟩) hW.recvX rfl hl.1 rfl (Nat.le_of_ble_eq_true rfl) dX3_digestOfSlot_86 ⟨Nat.zero_le _, Nat.zero_le _⟩ (fun H locs hW => ?_)
  refine lv_i2l (v := r_20.toInt64) hx hb dX3_digestOfSlot_89 rfl ?_
  refine lv_ladd hx hb dX3_digestOfSlot_90 ?_
  obtain ⟨x4_21, e, hE⟩ := lt_some hE
  refine lv_nml e ?_
  refine lv_lstore (lv' := [(4, .long x4_21), (0, .ref (ad 0)), (1, .long x1), (3, .int x3)]) hx hb dX3_digestOfSlot_91 hl (by decide) rfl (fun ls hl => ?_)
  refine lv_lload hx hb dX3_digestOfSlot_93 (lv_at hl 0 rfl) ?_
  refine lv_ldc2 (v := 31) hx hb hown (hts (.constantLong RX3 211 31) (by decide +kernel)) dX3_digestOfSlot_95 ?_
  refine lv_lmul hx hb dX3_digestOfSlot_98 ?_
  refine lv_aload_n hx hb dX3_digestOfSlot_99 rfl (lv_at hl 1 rfl) ?_
  refine lv_iload_n hx hb dX3_digestOfSlot_100 rfl (lv_at hl 3 rfl) ?_
  refine lv_iconst (v := 0) hx hb dX3_digestOfSlot_101 (by decide) ?_
  obtain ⟨r_23, hc_22, hE⟩ := ob_some hE
  refine ww_callVi (As := [.int x3, .int (0 : Int32)]) (rest := [.long (x4_21 * (31 : Int64))]) ⟨hx, hb, hml, hown, hts⟩ hW (ctX3_model l D ks ad _ st_15 x3 (0 : Int32) hc_22) (cwV 2 hts gX3_digestOfSlot_X3_model rfl rfl rfl (by decide +kernel) ⟨Nat.le_of_ble_eq_true rfl, Nat.le_of_ble_eq_true rfl⟩) hW.recvX rfl hl.1 rfl (Nat.le_of_ble_eq_true rfl) dX3_digestOfSlot_102 ⟨Nat.zero_le _, Nat.zero_le _⟩ (fun H locs hW => ?_)
  refine lv_i2l (v := r_23.toInt64) hx hb dX3_digestOfSlot_105 rfl ?_
  refine lv_ladd hx hb dX3_digestOfSlot_106 ?_
  obtain ⟨x4_24, e, hE⟩ := lt_some hE
  refine lv_nml e ?_
  refine lv_lstore (lv' := [(4, .long x4_24), (0, .ref (ad 0)), (1, .long x1), (3, .int x3)]) hx hb dX3_digestOfSlot_107 hl (by decide) rfl (fun ls hl => ?_)
  refine lv_lload hx hb dX3_digestOfSlot_109 (lv_at hl 0 rfl) ?_
  refine lv_ldc2 (v := 31) hx hb hown (hts (.constantLong RX3 211 31) (by decide +kernel)) dX3_digestOfSlot_111 ?_
  refine lv_lmul hx hb dX3_digestOfSlot_114 ?_
  refine lv_aload_n hx hb dX3_digestOfSlot_115 rfl (lv_at hl 1 rfl) ?_
  refine lv_iload_n hx hb dX3_digestOfSlot_116 rfl (lv_at hl 3 rfl) ?_
  refine lv_bipush (v := 7) hx hb dX3_digestOfSlot_117 (by decide) ?_
  obtain ⟨r_26, hc_25, hE⟩ := ob_some hE
  refine ww_callVi (As := [.int x3, .int (7 : Int32)]) (rest := [.long (x4_24 * (31 : Int64))]) ⟨hx, hb, hml, hown, hts⟩ hW (ctX3_model l D ks ad _ st_15 x3 (7 : Int32) hc_25) (cwV 2 hts gX3_digestOfSlot_X3_model rfl rfl rfl (by decide +kernel) ⟨Nat.le_of_ble_eq_true rfl, Nat.le_of_ble_eq_true rfl⟩) hW.recvX rfl hl.1 rfl (Nat.le_of_ble_eq_true rfl) dX3_digestOfSlot_119 ⟨Nat.zero_le _, Nat.zero_le _⟩ (fun H locs hW => ?_)
  refine lv_i2l (v := r_26.toInt64) hx hb dX3_digestOfSlot_122 rfl ?_
  refine lv_ladd hx hb dX3_digestOfSlot_123 ?_
  obtain ⟨x4_27, e, hE⟩ := lt_some hE
  refine lv_nml e ?_
  refine lv_lstore (lv' := [(4, .long x4_27), (0, .ref (ad 0)), (1, .long x1), (3, .int x3)]) hx hb dX3_digestOfSlot_124 hl (by decide) rfl (fun ls hl => ?_)
  refine lv_lload hx hb dX3_digestOfSlot_126 (lv_at hl 0 rfl) ?_
  refine lv_ldc2 (v := 31) hx hb hown (hts (.constantLong RX3 211 31) (by decide +kernel)) dX3_digestOfSlot_128 ?_
  refine lv_lmul hx hb dX3_digestOfSlot_131 ?_
  refine lv_aload_n hx hb dX3_digestOfSlot_132 rfl (lv_at hl 1 rfl) ?_
  refine lv_iload_n hx hb dX3_digestOfSlot_133 rfl (lv_at hl 3 rfl) ?_
  refine lv_bipush (v := 100) hx hb dX3_digestOfSlot_134 (by decide) ?_
  obtain ⟨r_29, hc_28, hE⟩ := ob_some hE
  refine ww_callVi (As := [.int x3, .int (100 : Int32)]) (rest := [.long (x4_27 * (31 : Int64))]) ⟨hx, hb, hml, hown, hts⟩ hW (ctX3_model l D ks ad _ st_15 x3 (100 : Int32) hc_28) (cwV 2 hts gX3_digestOfSlot_X3_model rfl rfl rfl (by decide +kernel) ⟨Nat.le_of_ble_eq_true rfl, Nat.le_of_ble_eq_true rfl⟩) hW.recvX rfl hl.1 rfl (Nat.le_of_ble_eq_true rfl) dX3_digestOfSlot_136 ⟨Nat.zero_le _, Nat.zero_le _⟩ (fun H locs hW => ?_)
  refine lv_i2l (v := r_29.toInt64) hx hb dX3_digestOfSlot_139 rfl ?_
  refine lv_ladd hx hb dX3_digestOfSlot_140 ?_
  obtain ⟨x4_30, e, hE⟩ := lt_some hE
  refine lv_nml e ?_
  refine lv_lstore (lv' := [(4, .long x4_30), (0, .ref (ad 0)), (1, .long x1), (3, .int x3)]) hx hb dX3_digestOfSlot_141 hl (by decide) rfl (fun ls hl => ?_)
  refine lv_lload hx hb dX3_digestOfSlot_143 (lv_at hl 0 rfl) ?_
  obtain ⟨rfl, rfl⟩ := pair_x hE
  exact W.lret hx hb hr (fun t ht hWm => hW.ql ht hWm) hW.2.2.1.2.2 dX3_digestOfSlot_145
abbrev rmX3_digest : Room := { frames := 18, cells := 0, slots := 0, locals := 398 }
set_option maxHeartbeats 4000000 in
set_option maxRecDepth 100000 in
theorem ctX3_digest (l : Launch) (D : va_G) (ks : KA) (ad : Nat → Nat) (sz : Nat) (st : St)   {r : Int64} {st' : St} (hE : sX3_digest st  = some (r, st')) : CJ l D ks yX3_digest wsX3_digest rmX3_digest [.ref (ad 0)] ad sz st r st' := by
  unfold sX3_digest at hE
  refine Met.ofW (cc := cX3_digest) (maxL := 5) (ret := (some .long)) (by decide) rfl ?_
  intro p e s m args below meth c s₁ B hml hv
  obtain ⟨hargs, hPW⟩ := hv
  have hW := WW.entry hPW
  have hx := B.exec
  have hb := B.bytes
  have hr := B.returns
  have hts := atoms_spec (ws := wsX3_digest) B.pre
  have hown : s.vm.findClass RX3 = some m.cls := findClass_of_methodNamed B.named
  have hlocks := B.notSynchronized
  have hl := lv_entry ([.ref (ad 0)]) (n := 5) (Nat.le_of_ble_eq_true rfl)
  have hfr : entryFrame m args 5 = F0 m 0 (lg_sl ([.ref (ad 0)]) ++ List.replicate (5 - (lg_sl ([.ref (ad 0)])).length) Slot.unset).toArray [] := by rw [hargs, lg_entry_eq]
  rw [hfr]
  generalize (lg_sl ([.ref (ad 0)]) ++ List.replicate (5 - (lg_sl ([.ref (ad 0)])).length) Slot.unset).toArray = ls at hl ⊢
  have hl : lv_has ls 5 [(0, .ref (ad 0))] := hl
  have L18 : ∀ (n : Nat) (st : St) (x1 : Int64) (x3 : Int32)  (z1 : Int64) (H : Heap) (locs : List Loc) (ls : Array Slot), sX3_digest_L18 n st x1 x3 = some z1 → WW D ks ad (AA ad sz) s st H locs → lv_has ls 5 [(0, .ref (ad 0)), (1, .long x1), (3, .int x3)] → (∀ (H : Heap) (locs : List Loc) (ls : Array Slot), WW D ks ad (AA ad sz) s st H locs → lv_has ls 5 [(0, .ref (ad 0)), (1, .long z1)] → W p l e (headSpec wsX3_digest rmX3_digest).room s m args below meth c H locs 0 0 (MQ below (va_Ql (fun (x : Int64) (u : St) => x = r ∧ u = st') (QW D ks ad sz) (AA ad sz)) args s 0 0 (AA ad sz)) (F0 m 56 ls [])) → W p l e (headSpec wsX3_digest rmX3_digest).room s m args below meth c H locs 0 0 (MQ below (va_Ql (fun (x : Int64) (u : St) => x = r ∧ u = st') (QW D ks ad sz) (AA ad sz)) args s 0 0 (AA ad sz)) (F0 m 18 ls []) := by
    intro n
    induction n with
    | zero =>
      intro st x1 x3 z1 H locs ls hE hW hl kx
      exact none_x hE
    | succ n ih =>
      intro st x1 x3 z1 H locs ls hE hW hl kx
      rw [sX3_digest_L18] at hE
      refine lv_iload_n hx hb dX3_digest_18 rfl (lv_at hl 2 rfl) ?_
      refine lv_bipush (v := 10) hx hb dX3_digest_19 (by decide) ?_
      refine lv_icmp_ge (tgt := 56) hx hb dX3_digest_21 (by decide) (fun c_4 => ?_) (fun c_4 => ?_)
      · have hE := if_t c_4 hE
        obtain rfl := some_x hE
        exact kx _ _ _ hW (lv_sub hl [0, 1] rfl)
      · have hE := if_f c_4 hE
        refine lv_lload_n hx hb dX3_digest_24 rfl (lv_at hl 1 rfl) ?_
        refine lv_ldc2 (v := 31) hx hb hown (hts (.constantLong RX3 211 31) (by decide +kernel)) dX3_digest_25 ?_
        refine lv_lmul hx hb dX3_digest_28 ?_
        refine lv_aload_n hx hb dX3_digest_29 rfl (lv_at hl 0 rfl) ?_
        refine lv_iload_n hx hb dX3_digest_30 rfl (lv_at hl 2 rfl) ?_
        obtain ⟨r_6, hc_5, hE⟩ := ob_some hE
        refine ww_callVi (As := [.int x3]) (rest := [.long (x1 * (31 : Int64))]) ⟨hx, hb, hml, hown, hts⟩ hW (ctX3_variableAt l D ks ad _ st x3 hc_5) (cwV 1 hts gX3_digest_X3_variableAt rfl rfl rfl (by decide +kernel) ⟨Nat.le_of_ble_eq_true rfl, Nat.le_of_ble_eq_true rfl⟩) hW.recvX rfl hl.1 rfl (Nat.le_of_ble_eq_true rfl) dX3_digest_31 ⟨Nat.zero_le _, Nat.zero_le _⟩ (fun H locs hW => ?_)
        refine lv_i2l (v := r_6.toInt64) hx hb dX3_digest_34 rfl ?_
        refine lv_ladd hx hb dX3_digest_35 ?_
        obtain ⟨x1_7, e, hE⟩ := lt_some hE
        refine lv_nml e ?_
        refine lv_lstore_n (lv' := [(1, .long x1_7), (0, .ref (ad 0)), (3, .int x3)]) hx hb dX3_digest_36 rfl hl (by decide) rfl (fun ls hl => ?_)
        refine lv_lload_n hx hb dX3_digest_37 rfl (lv_at hl 0 rfl) ?_
        refine lv_ldc2 (v := 31) hx hb hown (hts (.constantLong RX3 211 31) (by decide +kernel)) dX3_digest_38 ?_
        refine lv_lmul hx hb dX3_digest_41 ?_
        refine lv_aload_n hx hb dX3_digest_42 rfl (lv_at hl 1 rfl) ?_
        refine lv_iload_n hx hb dX3_digest_43 rfl (lv_at hl 2 rfl) ?_
        obtain ⟨r_9, hc_8, hE⟩ := ob_some hE
        refine ww_callVi (As := [.int x3]) (rest := [.long (x1_7 * (31 : Int64))]) ⟨hx, hb, hml, hown, hts⟩ hW (ctX3_nodesAt l D ks ad _ st x3 hc_8) (cwV 1 hts gX3_digest_X3_nodesAt rfl rfl rfl (by decide +kernel) ⟨Nat.le_of_ble_eq_true rfl, Nat.le_of_ble_eq_true rfl⟩) hW.recvX rfl hl.1 rfl (Nat.le_of_ble_eq_true rfl) dX3_digest_44 ⟨Nat.zero_le _, Nat.zero_le _⟩ (fun H locs hW => ?_)
        refine lv_i2l (v := r_9.toInt64) hx hb dX3_digest_47 rfl ?_
        refine lv_ladd hx hb dX3_digest_48 ?_
        obtain ⟨x1_10, e, hE⟩ := lt_some hE
        refine lv_nml e ?_
        refine lv_lstore_n (lv' := [(1, .long x1_10), (0, .ref (ad 0)), (3, .int x3)]) hx hb dX3_digest_49 rfl hl (by decide) rfl (fun ls hl => ?_)
        obtain ⟨x3_11, e, hE⟩ := lt_some hE
        refine lv_iinc (v := x3_11) (lv' := [(3, .int x3_11), (1, .long x1_10), (0, .ref (ad 0))]) hx hb dX3_digest_50 hl (k := 2) rfl (by rw [e]; rfl) (by decide) rfl (fun ls hl => ?_)
        refine lv_goto (tgt := 18) hx hb dX3_digest_53 (by decide) ?_
        exact ih st x1_10 x3_11 _ _ _ _ hE hW (lv_sub hl [2, 1, 0] rfl) kx
  have L58 : ∀ (n : Nat) (st : St) (x1 : Int64) (x3 : Int32)  (stz : St) (z1 : Int64) (H : Heap) (locs : List Loc) (ls : Array Slot), sX3_digest_L58 n st x1 x3 = some (stz, z1) → WW D ks ad (AA ad sz) s st H locs → lv_has ls 5 [(0, .ref (ad 0)), (1, .long x1), (3, .int x3)] → (∀ (H : Heap) (locs : List Loc) (ls : Array Slot), WW D ks ad (AA ad sz) s stz H locs → lv_has ls 5 [(0, .ref (ad 0)), (1, .long z1)] → W p l e (headSpec wsX3_digest rmX3_digest).room s m args below meth c H locs 0 0 (MQ below (va_Ql (fun (x : Int64) (u : St) => x = r ∧ u = st') (QW D ks ad sz) (AA ad sz)) args s 0 0 (AA ad sz)) (F0 m 77 ls [])) → W p l e (headSpec wsX3_digest rmX3_digest).room s m args below meth c H locs 0 0 (MQ below (va_Ql (fun (x : Int64) (u : St) => x = r ∧ u = st') (QW D ks ad sz) (AA ad sz)) args s 0 0 (AA ad sz)) (F0 m 58 ls []) := by
    intro n
    induction n with
    | zero =>
      intro st x1 x3 stz z1 H locs ls hE hW hl kx
      exact none_x hE
    | succ n ih =>
      intro st x1 x3 stz z1 H locs ls hE hW hl kx
      rw [sX3_digest_L58] at hE
      refine lv_iload_n hx hb dX3_digest_58 rfl (lv_at hl 2 rfl) ?_
      refine lv_bipush (v := 12) hx hb dX3_digest_59 (by decide) ?_
      refine lv_icmp_ge (tgt := 77) hx hb dX3_digest_61 (by decide) (fun c_13 => ?_) (fun c_13 => ?_)
      · have hE := if_t c_13 hE
        obtain ⟨rfl, rfl⟩ := tup2_x hE
        exact kx _ _ _ hW (lv_sub hl [0, 1] rfl)
      · have hE := if_f c_13 hE
        refine lv_aload_n hx hb dX3_digest_64 rfl (lv_at hl 0 rfl) ?_
        refine lv_lload_n hx hb dX3_digest_65 rfl (lv_at hl 1 rfl) ?_
        refine lv_iload_n hx hb dX3_digest_66 rfl (lv_at hl 2 rfl) ?_
        obtain ⟨r_16, st_14, hc_15, hE⟩ := ob2_some hE
        refine ww_callVl (As := [.long x1, .int x3]) (rest := []) ⟨hx, hb, hml, hown, hts⟩ hW (ctX3_digestOfSlot l D ks ad _ st x1 x3 hc_15) (cwV 2 hts gX3_digest_X3_digestOfSlot rfl rfl rfl (by decide +kernel) ⟨Nat.le_of_ble_eq_true rfl, Nat.le_of_ble_eq_true rfl⟩) hW.recvX rfl hl.1 rfl (Nat.le_of_ble_eq_true rfl) dX3_digest_67 ⟨Nat.zero_le _, Nat.zero_le _⟩ (fun H locs hW => ?_)
        refine lv_lstore_n (lv' := [(1, .long r_16), (0, .ref (ad 0)), (3, .int x3)]) hx hb dX3_digest_70 rfl hl (by decide) rfl (fun ls hl => ?_)
        obtain ⟨x3_17, e, hE⟩ := lt_some hE
        refine lv_iinc (v := x3_17) (lv' := [(3, .int x3_17), (1, .long r_16), (0, .ref (ad 0))]) hx hb dX3_digest_71 hl (k := 2) rfl (by rw [e]; rfl) (by decide) rfl (fun ls hl => ?_)
        refine lv_goto (tgt := 58) hx hb dX3_digest_74 (by decide) ?_
        exact ih st_14 r_16 x3_17 _ _ _ _ _ hE hW (lv_sub hl [2, 1, 0] rfl) kx
  have L79 : ∀ (n : Nat) (st : St) (x1 : Int64) (x3 : Int32)  (stz : St) (z1 : Int64) (H : Heap) (locs : List Loc) (ls : Array Slot), sX3_digest_L79 n st x1 x3 = some (stz, z1) → WW D ks ad (AA ad sz) s st H locs → lv_has ls 5 [(0, .ref (ad 0)), (1, .long x1), (3, .int x3)] → (∀ (H : Heap) (locs : List Loc) (ls : Array Slot), WW D ks ad (AA ad sz) s stz H locs → lv_has ls 5 [(0, .ref (ad 0)), (1, .long z1)] → W p l e (headSpec wsX3_digest rmX3_digest).room s m args below meth c H locs 0 0 (MQ below (va_Ql (fun (x : Int64) (u : St) => x = r ∧ u = st') (QW D ks ad sz) (AA ad sz)) args s 0 0 (AA ad sz)) (F0 m 123 ls [])) → W p l e (headSpec wsX3_digest rmX3_digest).room s m args below meth c H locs 0 0 (MQ below (va_Ql (fun (x : Int64) (u : St) => x = r ∧ u = st') (QW D ks ad sz) (AA ad sz)) args s 0 0 (AA ad sz)) (F0 m 79 ls []) := by
    intro n
    induction n with
    | zero =>
      intro st x1 x3 stz z1 H locs ls hE hW hl kx
      exact none_x hE
    | succ n ih =>
      intro st x1 x3 stz z1 H locs ls hE hW hl kx
      rw [sX3_digest_L79] at hE
      refine lv_iload_n hx hb dX3_digest_79 rfl (lv_at hl 2 rfl) ?_
      refine lv_bipush (v := 11) hx hb dX3_digest_80 (by decide) ?_
      refine lv_icmp_ge (tgt := 123) hx hb dX3_digest_82 (by decide) (fun c_20 => ?_) (fun c_20 => ?_)
      · have hE := if_t c_20 hE
        obtain ⟨rfl, rfl⟩ := tup2_x hE
        exact kx _ _ _ hW (lv_sub hl [0, 1] rfl)
      · have hE := if_f c_20 hE
        refine lv_lload_n hx hb dX3_digest_85 rfl (lv_at hl 1 rfl) ?_
        refine lv_ldc2 (v := 31) hx hb hown (hts (.constantLong RX3 211 31) (by decide +kernel)) dX3_digest_86 ?_
        refine lv_lmul hx hb dX3_digest_89 ?_
        refine lv_aload_n hx hb dX3_digest_90 rfl (lv_at hl 0 rfl) ?_
        refine lv_iload_n hx hb dX3_digest_91 rfl (lv_at hl 2 rfl) ?_
        refine lv_iload_n hx hb dX3_digest_92 rfl (lv_at hl 2 rfl) ?_
        refine lv_iconst (v := 1) hx hb dX3_digest_93 (by decide) ?_
        refine lv_iadd hx hb dX3_digest_94 ?_
        obtain ⟨r_22, hc_21, hE⟩ := ob_some hE
        refine ww_callVi (As := [.int x3, .int (x3 + (1 : Int32))]) (rest := [.long (x1 * (31 : Int64))]) ⟨hx, hb, hml, hown, hts⟩ hW (ctX3_compare l D ks ad _ st x3 (x3 + (1 : Int32)) hc_21) (cwV 2 hts gX3_digest_X3_compare rfl rfl rfl (by decide +kernel) ⟨Nat.le_of_ble_eq_true rfl, Nat.le_of_ble_eq_true rfl⟩) hW.recvX rfl hl.1 rfl (Nat.le_of_ble_eq_true rfl) dX3_digest_95 ⟨Nat.zero_le _, Nat.zero_le _⟩ (fun H locs hW => ?_)
        refine lv_i2l (v := r_22.toInt64) hx hb dX3_digest_98 rfl ?_
        refine lv_ladd hx hb dX3_digest_99 ?_
        obtain ⟨x1_23, e, hE⟩ := lt_some hE
        refine lv_nml e ?_
        refine lv_lstore_n (lv' := [(1, .long x1_23), (0, .ref (ad 0)), (3, .int x3)]) hx hb dX3_digest_100 rfl hl (by decide) rfl (fun ls hl => ?_)
        refine lv_lload_n hx hb dX3_digest_101 rfl (lv_at hl 0 rfl) ?_
        refine lv_ldc2 (v := 31) hx hb hown (hts (.constantLong RX3 211 31) (by decide +kernel)) dX3_digest_102 ?_
        refine lv_lmul hx hb dX3_digest_105 ?_
        refine lv_aload_n hx hb dX3_digest_106 rfl (lv_at hl 1 rfl) ?_
        refine lv_iload_n hx hb dX3_digest_107 rfl (lv_at hl 2 rfl) ?_
        refine lv_iload_n hx hb dX3_digest_108 rfl (lv_at hl 2 rfl) ?_
        refine lv_iconst (v := 1) hx hb dX3_digest_109 (by decide) ?_
        refine lv_iadd hx hb dX3_digest_110 ?_
        obtain ⟨r_26, st_24, hc_25, hE⟩ := ob2_some hE
        refine ww_callVi (As := [.int x3, .int (x3 + (1 : Int32))]) (rest := [.long (x1_23 * (31 : Int64))]) ⟨hx, hb, hml, hown, hts⟩ hW (ctX3_shared l D ks ad _ st x3 (x3 + (1 : Int32)) hc_25) (cwV 2 hts gX3_digest_X3_shared rfl rfl rfl (by decide +kernel) ⟨Nat.le_of_ble_eq_true rfl, Nat.le_of_ble_eq_true rfl⟩) hW.recvX rfl hl.1 rfl (Nat.le_of_ble_eq_true rfl) dX3_digest_111 ⟨Nat.zero_le _, Nat.zero_le _⟩ (fun H locs hW => ?_)
        refine lv_i2l (v := r_26.toInt64) hx hb dX3_digest_114 rfl ?_
        refine lv_ladd hx hb dX3_digest_115 ?_
        obtain ⟨x1_27, e, hE⟩ := lt_some hE
        refine lv_nml e ?_
        refine lv_lstore_n (lv' := [(1, .long x1_27), (0, .ref (ad 0)), (3, .int x3)]) hx hb dX3_digest_116 rfl hl (by decide) rfl (fun ls hl => ?_)
        obtain ⟨x3_28, e, hE⟩ := lt_some hE
        refine lv_iinc (v := x3_28) (lv' := [(3, .int x3_28), (1, .long x1_27), (0, .ref (ad 0))]) hx hb dX3_digest_117 hl (k := 2) rfl (by rw [e]; rfl) (by decide) rfl (fun ls hl => ?_)
        refine lv_goto (tgt := 79) hx hb dX3_digest_120 (by decide) ?_
        exact ih st_24 x1_27 x3_28 _ _ _ _ _ hE hW (lv_sub hl [2, 1, 0] rfl) kx
  have L134 : ∀ (n : Nat) (st : St) (x1 : Int64) (x3 : Int32) (x4 : Int32)  (z1 : Int64) (H : Heap) (locs : List Loc) (ls : Array Slot), sX3_digest_L134 n st x1 x3 x4 = some z1 → WW D ks ad (AA ad sz) s st H locs → lv_has ls 5 [(0, .ref (ad 0)), (1, .long x1), (3, .int x3), (4, .int x4)] → (∀ (H : Heap) (locs : List Loc) (ls : Array Slot), WW D ks ad (AA ad sz) s st H locs → lv_has ls 5 [(0, .ref (ad 0)), (1, .long z1), (3, .int x3)] → W p l e (headSpec wsX3_digest rmX3_digest).room s m args below meth c H locs 0 0 (MQ below (va_Ql (fun (x : Int64) (u : St) => x = r ∧ u = st') (QW D ks ad sz) (AA ad sz)) args s 0 0 (AA ad sz)) (F0 m 177 ls [])) → W p l e (headSpec wsX3_digest rmX3_digest).room s m args below meth c H locs 0 0 (MQ below (va_Ql (fun (x : Int64) (u : St) => x = r ∧ u = st') (QW D ks ad sz) (AA ad sz)) args s 0 0 (AA ad sz)) (F0 m 134 ls []) := by
    intro n
    induction n with
    | zero =>
      intro st x1 x3 x4 z1 H locs ls hE hW hl kx
      exact none_x hE
    | succ n ih =>
      intro st x1 x3 x4 z1 H locs ls hE hW hl kx
      rw [sX3_digest_L134] at hE
      refine lv_iload hx hb dX3_digest_134 (lv_at hl 3 rfl) ?_
      refine lv_bipush (v := 10) hx hb dX3_digest_136 (by decide) ?_
      refine lv_icmp_ge (tgt := 177) hx hb dX3_digest_138 (by decide) (fun c_32 => ?_) (fun c_32 => ?_)
      · have hE := if_t c_32 hE
        obtain rfl := some_x hE
        exact kx _ _ _ hW (lv_sub hl [0, 1, 2] rfl)
      · have hE := if_f c_32 hE
        refine lv_lload_n hx hb dX3_digest_141 rfl (lv_at hl 1 rfl) ?_
        refine lv_ldc2 (v := 31) hx hb hown (hts (.constantLong RX3 211 31) (by decide +kernel)) dX3_digest_142 ?_
        refine lv_lmul hx hb dX3_digest_145 ?_
        refine lv_aload_n hx hb dX3_digest_146 rfl (lv_at hl 0 rfl) ?_
        refine lv_iload_n hx hb dX3_digest_147 rfl (lv_at hl 2 rfl) ?_
        refine lv_iload hx hb dX3_digest_148 (lv_at hl 3 rfl) ?_
        obtain ⟨r_34, hc_33, hE⟩ := ob_some hE
        refine ww_callVi (As := [.int x3, .int x4]) (rest := [.long (x1 * (31 : Int64))]) ⟨hx, hb, hml, hown, hts⟩ hW (ctX3_trend l D ks ad _ st x3 x4 hc_33) (cwV 2 hts gX3_digest_X3_trend rfl rfl rfl (by decide +kernel) ⟨Nat.le_of_ble_eq_true rfl, Nat.le_of_ble_eq_true rfl⟩) hW.recvX rfl hl.1 rfl (Nat.le_of_ble_eq_true rfl) dX3_digest_150 ⟨Nat.zero_le _, Nat.zero_le _⟩ (fun H locs hW => ?_)
        refine lv_i2l (v := r_34.toInt64) hx hb dX3_digest_153 rfl ?_
        refine lv_ladd hx hb dX3_digest_154 ?_
        obtain ⟨x1_35, e, hE⟩ := lt_some hE
        refine lv_nml e ?_
        refine lv_lstore_n (lv' := [(1, .long x1_35), (0, .ref (ad 0)), (3, .int x3), (4, .int x4)]) hx hb dX3_digest_155 rfl hl (by decide) rfl (fun ls hl => ?_)
        refine lv_lload_n hx hb dX3_digest_156 rfl (lv_at hl 0 rfl) ?_
        refine lv_ldc2 (v := 31) hx hb hown (hts (.constantLong RX3 211 31) (by decide +kernel)) dX3_digest_157 ?_
        refine lv_lmul hx hb dX3_digest_160 ?_
        refine lv_aload_n hx hb dX3_digest_161 rfl (lv_at hl 1 rfl) ?_
        refine lv_iload_n hx hb dX3_digest_162 rfl (lv_at hl 2 rfl) ?_
        refine lv_iload hx hb dX3_digest_163 (lv_at hl 3 rfl) ?_
        obtain ⟨r_37, hc_36, hE⟩ := ob_some hE
        refine ww_callVi (As := [.int x3, .int x4]) (rest := [.long (x1_35 * (31 : Int64))]) ⟨hx, hb, hml, hown, hts⟩ hW (ctX3_influence l D ks ad _ st x3 x4 hc_36) (cwV 2 hts gX3_digest_X3_influence rfl rfl rfl (by decide +kernel) ⟨Nat.le_of_ble_eq_true rfl, Nat.le_of_ble_eq_true rfl⟩) hW.recvX rfl hl.1 rfl (Nat.le_of_ble_eq_true rfl) dX3_digest_165 ⟨Nat.zero_le _, Nat.zero_le _⟩ (fun H locs hW => ?_)
        refine lv_i2l (v := r_37.toInt64) hx hb dX3_digest_168 rfl ?_
        refine lv_ladd hx hb dX3_digest_169 ?_
        obtain ⟨x1_38, e, hE⟩ := lt_some hE
        refine lv_nml e ?_
        refine lv_lstore_n (lv' := [(1, .long x1_38), (0, .ref (ad 0)), (3, .int x3), (4, .int x4)]) hx hb dX3_digest_170 rfl hl (by decide) rfl (fun ls hl => ?_)
        obtain ⟨x4_39, e, hE⟩ := lt_some hE
        refine lv_iinc (v := x4_39) (lv' := [(4, .int x4_39), (1, .long x1_38), (0, .ref (ad 0)), (3, .int x3)]) hx hb dX3_digest_171 hl (k := 3) rfl (by rw [e]; rfl) (by decide) rfl (fun ls hl => ?_)
        refine lv_goto (tgt := 134) hx hb dX3_digest_174 (by decide) ?_
        exact ih st x1_38 x3 x4_39 _ _ _ _ hE hW (lv_sub hl [2, 1, 3, 0] rfl) kx
  have L125 : ∀ (n : Nat) (st : St) (x1 : Int64) (x3 : Int32)  (z1 : Int64) (H : Heap) (locs : List Loc) (ls : Array Slot), sX3_digest_L125 n st x1 x3 = some z1 → WW D ks ad (AA ad sz) s st H locs → lv_has ls 5 [(0, .ref (ad 0)), (1, .long x1), (3, .int x3)] → (∀ (H : Heap) (locs : List Loc) (ls : Array Slot), WW D ks ad (AA ad sz) s st H locs → lv_has ls 5 [(1, .long z1)] → W p l e (headSpec wsX3_digest rmX3_digest).room s m args below meth c H locs 0 0 (MQ below (va_Ql (fun (x : Int64) (u : St) => x = r ∧ u = st') (QW D ks ad sz) (AA ad sz)) args s 0 0 (AA ad sz)) (F0 m 183 ls [])) → W p l e (headSpec wsX3_digest rmX3_digest).room s m args below meth c H locs 0 0 (MQ below (va_Ql (fun (x : Int64) (u : St) => x = r ∧ u = st') (QW D ks ad sz) (AA ad sz)) args s 0 0 (AA ad sz)) (F0 m 125 ls []) := by
    intro n
    induction n with
    | zero =>
      intro st x1 x3 z1 H locs ls hE hW hl kx
      exact none_x hE
    | succ n ih =>
      intro st x1 x3 z1 H locs ls hE hW hl kx
      rw [sX3_digest_L125] at hE
      refine lv_iload_n hx hb dX3_digest_125 rfl (lv_at hl 2 rfl) ?_
      refine lv_bipush (v := 12) hx hb dX3_digest_126 (by decide) ?_
      refine lv_icmp_ge (tgt := 183) hx hb dX3_digest_128 (by decide) (fun c_31 => ?_) (fun c_31 => ?_)
      · have hE := if_t c_31 hE
        obtain rfl := some_x hE
        exact kx _ _ _ hW (lv_sub hl [1] rfl)
      · have hE := if_f c_31 hE
        refine lv_iconst (v := 0) hx hb dX3_digest_131 (by decide) ?_
        refine lv_istore (lv' := [(4, .int (0 : Int32)), (0, .ref (ad 0)), (1, .long x1), (3, .int x3)]) hx hb dX3_digest_132 hl (by decide) rfl (fun ls hl => ?_)
        obtain ⟨x1_40, hz, hE⟩ := ob_some hE
        refine L134 FU st x1 x3 (0 : Int32) x1_40 _ _ _ hz hW (lv_sub hl [1, 2, 3, 0] rfl) (fun H locs ls hW hl => ?_)
        obtain ⟨x3_41, e, hE⟩ := lt_some hE
        refine lv_iinc (v := x3_41) (lv' := [(3, .int x3_41), (0, .ref (ad 0)), (1, .long x1_40)]) hx hb dX3_digest_177 hl (k := 2) rfl (by rw [e]; rfl) (by decide) rfl (fun ls hl => ?_)
        refine lv_goto (tgt := 125) hx hb dX3_digest_180 (by decide) ?_
        exact ih st x1_40 x3_41 _ _ _ _ hE hW (lv_sub hl [1, 2, 0] rfl) kx
  refine lv_ldc2 (v := 58029) hx hb hown (hts (.constantLong RX3 209 58029) (by decide +kernel)) dX3_digest_0 ?_
  refine lv_lstore_n (lv' := [(1, .long (58029 : Int64)), (0, .ref (ad 0))]) hx hb dX3_digest_3 rfl hl (by decide) rfl (fun ls hl => ?_)
  refine lv_lload_n hx hb dX3_digest_4 rfl (lv_at hl 0 rfl) ?_
  refine lv_ldc2 (v := 31) hx hb hown (hts (.constantLong RX3 211 31) (by decide +kernel)) dX3_digest_5 ?_
  refine lv_lmul hx hb dX3_digest_8 ?_
  refine lv_aload_n hx hb dX3_digest_9 rfl (lv_at hl 1 rfl) ?_
  obtain ⟨r_2, hc_1, hE⟩ := ob_some hE
  refine ww_callVi (As := []) (rest := [.long ((58029 : Int64) * (31 : Int64))]) ⟨hx, hb, hml, hown, hts⟩ hW (ctX3_total l D ks ad _ st hc_1) (cwV 0 hts gX3_digest_X3_total rfl rfl rfl (by decide +kernel) ⟨Nat.le_of_ble_eq_true rfl, Nat.le_of_ble_eq_true rfl⟩) hW.recvX rfl hl.1 rfl (Nat.le_of_ble_eq_true rfl) dX3_digest_10 ⟨Nat.zero_le _, Nat.zero_le _⟩ (fun H locs hW => ?_)
  refine lv_i2l (v := r_2.toInt64) hx hb dX3_digest_13 rfl ?_
  refine lv_ladd hx hb dX3_digest_14 ?_
  obtain ⟨x1_3, e, hE⟩ := lt_some hE
  refine lv_nml e ?_
  refine lv_lstore_n (lv' := [(1, .long x1_3), (0, .ref (ad 0))]) hx hb dX3_digest_15 rfl hl (by decide) rfl (fun ls hl => ?_)
  refine lv_iconst (v := 0) hx hb dX3_digest_16 (by decide) ?_
  refine lv_istore_n (lv' := [(3, .int (0 : Int32)), (1, .long x1_3), (0, .ref (ad 0))]) hx hb dX3_digest_17 rfl hl (by decide) rfl (fun ls hl => ?_)
  obtain ⟨x1_12, hz, hE⟩ := ob_some hE
  refine L18 FU st x1_3 (0 : Int32) x1_12 _ _ _ hz hW (lv_sub hl [2, 1, 0] rfl) (fun H locs ls hW hl => ?_)
  refine lv_iconst (v := 0) hx hb dX3_digest_56 (by decide) ?_
  refine lv_istore_n (lv' := [(3, .int (0 : Int32)), (0, .ref (ad 0)), (1, .long x1_12)]) hx hb dX3_digest_57 rfl hl (by decide) rfl (fun ls hl => ?_)
  obtain ⟨st_18, x1_19, hz, hE⟩ := ob2_some hE
  refine L58 FU st x1_12 (0 : Int32) st_18 x1_19 _ _ _ hz hW (lv_sub hl [1, 2, 0] rfl) (fun H locs ls hW hl => ?_)
  refine lv_iconst (v := 0) hx hb dX3_digest_77 (by decide) ?_
  refine lv_istore_n (lv' := [(3, .int (0 : Int32)), (0, .ref (ad 0)), (1, .long x1_19)]) hx hb dX3_digest_78 rfl hl (by decide) rfl (fun ls hl => ?_)
  obtain ⟨st_29, x1_30, hz, hE⟩ := ob2_some hE
  refine L79 FU st_18 x1_19 (0 : Int32) st_29 x1_30 _ _ _ hz hW (lv_sub hl [1, 2, 0] rfl) (fun H locs ls hW hl => ?_)
  refine lv_iconst (v := 0) hx hb dX3_digest_123 (by decide) ?_
  refine lv_istore_n (lv' := [(3, .int (0 : Int32)), (0, .ref (ad 0)), (1, .long x1_30)]) hx hb dX3_digest_124 rfl hl (by decide) rfl (fun ls hl => ?_)
  obtain ⟨x1_42, hz, hE⟩ := ob_some hE
  refine L125 FU st_29 x1_30 (0 : Int32) x1_42 _ _ _ hz hW (lv_sub hl [1, 2, 0] rfl) (fun H locs ls hW hl => ?_)
  refine lv_lload_n hx hb dX3_digest_183 rfl (lv_at hl 0 rfl) ?_
  obtain ⟨rfl, rfl⟩ := pair_x hE
  exact W.lret hx hb hr (fun t ht hWm => hW.ql ht hWm) hW.2.2.1.2.2 dX3_digest_184
