/-! CONTRACTS, laid by wip/p40/gen.py -/
abbrev rmJ6_bitCount_0f7a4 : Room := { frames := 0, cells := 0, slots := 0, locals := 0 }
set_option maxHeartbeats 4000000 in
set_option maxRecDepth 100000 in
theorem ctJ6_bitCount_0f7a4 (l : Launch) (D : va_G) (ks : KA) (ad : Nat → Nat) (sz : Nat) (st : St) (x0 : Int32)  {r : Int32}  (hE : sJ6_bitCount_0f7a4 st x0 = some r) : CI l D ks yJ6_bitCount_0f7a4 wsJ6_bitCount_0f7a4 rmJ6_bitCount_0f7a4 [.int x0] ad sz st r st := by
  unfold sJ6_bitCount_0f7a4 at hE
  refine Met.ofW (cc := cJ6_bitCount_0f7a4) (maxL := 1) (ret := (some .int)) (by decide) rfl ?_
  intro p e s m args below meth c s₁ B hml hv
  obtain ⟨hargs, hPW⟩ := hv
  have hW := WW.entry hPW
  have hx := B.exec
  have hb := B.bytes
  have hr := B.returns
  have hts := atoms_spec (ws := wsJ6_bitCount_0f7a4) B.pre
  have hown : s.vm.findClass RJ6 = some m.cls := findClass_of_methodNamed B.named
  have hlocks := B.notSynchronized
  have hl := lv_entry ([.int x0]) (n := 1) (Nat.le_of_ble_eq_true rfl)
  have hfr : entryFrame m args 1 = F0 m 0 (lg_sl ([.int x0]) ++ List.replicate (1 - (lg_sl ([.int x0])).length) Slot.unset).toArray [] := by rw [hargs, lg_entry_eq]
  rw [hfr]
  generalize (lg_sl ([.int x0]) ++ List.replicate (1 - (lg_sl ([.int x0])).length) Slot.unset).toArray = ls at hl ⊢
  have hl : lv_has ls 1 [(0, .int x0)] := hl
  refine lv_iload_n hx hb dJ6_bitCount_0f7a4_0 rfl (lv_at hl 0 rfl) ?_
  refine lv_iload_n hx hb dJ6_bitCount_0f7a4_1 rfl (lv_at hl 0 rfl) ?_
  refine lv_iconst (v := 1) hx hb dJ6_bitCount_0f7a4_2 (by decide) ?_
  refine lv_iushr (v := (iush x0 (1 : Int32))) hx hb dJ6_bitCount_0f7a4_3 rfl ?_
  refine lv_ldcw (v := 1431655765) hx hb hown (hts (.constant RJ6 265 1431655765) (by decide +kernel)) dJ6_bitCount_0f7a4_4 ?_
  refine lv_iand hx hb dJ6_bitCount_0f7a4_7 ?_
  refine lv_isub hx hb dJ6_bitCount_0f7a4_8 ?_
  obtain ⟨x0_1, e, hE⟩ := lt_some hE
  refine lv_nmi e ?_
  refine lv_istore_n (lv' := [(0, .int x0_1)]) hx hb dJ6_bitCount_0f7a4_9 rfl hl (by decide) rfl (fun ls hl => ?_)
  refine lv_iload_n hx hb dJ6_bitCount_0f7a4_10 rfl (lv_at hl 0 rfl) ?_
  refine lv_ldcw (v := 858993459) hx hb hown (hts (.constant RJ6 266 858993459) (by decide +kernel)) dJ6_bitCount_0f7a4_11 ?_
  refine lv_iand hx hb dJ6_bitCount_0f7a4_14 ?_
  refine lv_iload_n hx hb dJ6_bitCount_0f7a4_15 rfl (lv_at hl 0 rfl) ?_
  refine lv_iconst (v := 2) hx hb dJ6_bitCount_0f7a4_16 (by decide) ?_
  refine lv_iushr (v := (iush x0_1 (2 : Int32))) hx hb dJ6_bitCount_0f7a4_17 rfl ?_
  refine lv_ldcw (v := 858993459) hx hb hown (hts (.constant RJ6 266 858993459) (by decide +kernel)) dJ6_bitCount_0f7a4_18 ?_
  refine lv_iand hx hb dJ6_bitCount_0f7a4_21 ?_
  refine lv_iadd hx hb dJ6_bitCount_0f7a4_22 ?_
  obtain ⟨x0_2, e, hE⟩ := lt_some hE
  refine lv_nmi e ?_
  refine lv_istore_n (lv' := [(0, .int x0_2)]) hx hb dJ6_bitCount_0f7a4_23 rfl hl (by decide) rfl (fun ls hl => ?_)
  refine lv_iload_n hx hb dJ6_bitCount_0f7a4_24 rfl (lv_at hl 0 rfl) ?_
  refine lv_iload_n hx hb dJ6_bitCount_0f7a4_25 rfl (lv_at hl 0 rfl) ?_
  refine lv_iconst (v := 4) hx hb dJ6_bitCount_0f7a4_26 (by decide) ?_
  refine lv_iushr (v := (iush x0_2 (4 : Int32))) hx hb dJ6_bitCount_0f7a4_27 rfl ?_
  refine lv_iadd hx hb dJ6_bitCount_0f7a4_28 ?_
  refine lv_ldcw (v := 252645135) hx hb hown (hts (.constant RJ6 267 252645135) (by decide +kernel)) dJ6_bitCount_0f7a4_29 ?_
  refine lv_iand hx hb dJ6_bitCount_0f7a4_32 ?_
  obtain ⟨x0_3, e, hE⟩ := lt_some hE
  refine lv_nmi e ?_
  refine lv_istore_n (lv' := [(0, .int x0_3)]) hx hb dJ6_bitCount_0f7a4_33 rfl hl (by decide) rfl (fun ls hl => ?_)
  refine lv_iload_n hx hb dJ6_bitCount_0f7a4_34 rfl (lv_at hl 0 rfl) ?_
  refine lv_iload_n hx hb dJ6_bitCount_0f7a4_35 rfl (lv_at hl 0 rfl) ?_
  refine lv_bipush (v := 8) hx hb dJ6_bitCount_0f7a4_36 (by decide) ?_
  refine lv_iushr (v := (iush x0_3 (8 : Int32))) hx hb dJ6_bitCount_0f7a4_38 rfl ?_
  refine lv_iadd hx hb dJ6_bitCount_0f7a4_39 ?_
  obtain ⟨x0_4, e, hE⟩ := lt_some hE
  refine lv_nmi e ?_
  refine lv_istore_n (lv' := [(0, .int x0_4)]) hx hb dJ6_bitCount_0f7a4_40 rfl hl (by decide) rfl (fun ls hl => ?_)
  refine lv_iload_n hx hb dJ6_bitCount_0f7a4_41 rfl (lv_at hl 0 rfl) ?_
  refine lv_iload_n hx hb dJ6_bitCount_0f7a4_42 rfl (lv_at hl 0 rfl) ?_
  refine lv_bipush (v := 16) hx hb dJ6_bitCount_0f7a4_43 (by decide) ?_
  refine lv_iushr (v := (iush x0_4 (16 : Int32))) hx hb dJ6_bitCount_0f7a4_45 rfl ?_
  refine lv_iadd hx hb dJ6_bitCount_0f7a4_46 ?_
  obtain ⟨x0_5, e, hE⟩ := lt_some hE
  refine lv_nmi e ?_
  refine lv_istore_n (lv' := [(0, .int x0_5)]) hx hb dJ6_bitCount_0f7a4_47 rfl hl (by decide) rfl (fun ls hl => ?_)
  refine lv_iload_n hx hb dJ6_bitCount_0f7a4_48 rfl (lv_at hl 0 rfl) ?_
  refine lv_bipush (v := 63) hx hb dJ6_bitCount_0f7a4_49 (by decide) ?_
  refine lv_iand hx hb dJ6_bitCount_0f7a4_51 ?_
  obtain rfl := some_x hE
  exact W.iret hx hb hr (fun t ht hWm => hW.qi ht hWm) hW.2.2.1.2.2 dJ6_bitCount_0f7a4_52
abbrev rmX2_tells : Room := { frames := 0, cells := 0, slots := 0, locals := 0 }
set_option maxRecDepth 100000 in
theorem in2_X2_tells : ∀ w ∈ wsX20, w ∈ wsX2_tells := by decide +kernel
set_option maxHeartbeats 4000000 in
set_option maxRecDepth 100000 in
theorem ctX2_tells (l : Launch) (D : va_G) (ks : KA) (ad : Nat → Nat) (sz : Nat) (st : St) (t0 : Nat) (x1 : Int32) (ht0 : t0 < 15) {r : Int32}  (hE : sX2_tells st t0 x1 = some r) : CI l D ks yX2_tells wsX2_tells rmX2_tells [.ref (ad (tc t0)), .int x1] ad sz st r st := by
  unfold sX2_tells at hE
  refine Met.ofW (cc := cX2_tells) (maxL := 2) (ret := (some .boolean)) (by decide) rfl ?_
  intro p e s m args below meth c s₁ B hml hv
  obtain ⟨hargs, hPW⟩ := hv
  have hW := WW.entry hPW
  have hx := B.exec
  have hb := B.bytes
  have hr := B.returns
  have hts := atoms_spec (ws := wsX2_tells) B.pre
  have hown : s.vm.findClass RX2 = some m.cls := findClass_of_methodNamed B.named
  have hlocks := B.notSynchronized
  have hin2 : ∀ w ∈ u_ws RX2 TX2 1, w ∈ wsX2_tells := in2_X2_tells
  have hf11 := hts (.fieldLink RX2 11 "Trellis$Table" "words" "[J") (by decide +kernel)
  have hl := lv_entry ([.ref (ad (tc t0)), .int x1]) (n := 2) (Nat.le_of_ble_eq_true rfl)
  have hfr : entryFrame m args 2 = F0 m 0 (lg_sl ([.ref (ad (tc t0)), .int x1]) ++ List.replicate (2 - (lg_sl ([.ref (ad (tc t0)), .int x1])).length) Slot.unset).toArray [] := by rw [hargs, lg_entry_eq]
  rw [hfr]
  generalize (lg_sl ([.ref (ad (tc t0)), .int x1]) ++ List.replicate (2 - (lg_sl ([.ref (ad (tc t0)), .int x1])).length) Slot.unset).toArray = ls at hl ⊢
  have hl : lv_has ls 2 [(0, .ref (ad (tc t0))), (1, .int x1)] := hl
  refine lv_iload_n hx hb dX2_tells_0 rfl (lv_at hl 1 rfl) ?_
  refine lv_if_lt (tgt := 36) hx hb dX2_tells_1 (by decide) (fun c_1 => ?_) (fun c_1 => ?_)
  · have hE := if_t c_1 hE
    refine lv_iconst (v := 0) hx hb dX2_tells_36 (by decide) ?_
    obtain rfl := some_x hE
    exact W.zret hx hb hr rfl (fun t ht hWm => hW.qi ht hWm) hW.2.2.1.2.2 dX2_tells_37
  · have hE := if_f c_1 hE
    refine lv_iload_n hx hb dX2_tells_4 rfl (lv_at hl 1 rfl) ?_
    refine lv_sipush (v := 1024) hx hb dX2_tells_5 (by decide) ?_
    refine lv_icmp_ge (tgt := 36) hx hb dX2_tells_8 (by decide) (fun c_2 => ?_) (fun c_2 => ?_)
    · have hE := if_t c_2 hE
      refine lv_iconst (v := 0) hx hb dX2_tells_36 (by decide) ?_
      obtain rfl := some_x hE
      exact W.zret hx hb hr rfl (fun t ht hWm => hW.qi ht hWm) hW.2.2.1.2.2 dX2_tells_37
    · have hE := if_f c_2 hE
      refine lv_aload_n hx hb dX2_tells_11 rfl (lv_at hl 0 rfl) ?_
      refine ww_get (C := RX2) (T := TX2) (N := 1) (ref := RX2) (ci := 2) (v := .ref (ad (lc t0))) hx hb hts hin2 hown hW (tc t0) (cE_T (ad := ad) (ks := ks) (st := st) ht0).1 (cE_T ht0).2 rfl 0 (by decide) hf11 (fun _ h9 => h9) rfl dX2_tells_12 ?_
      refine lv_iload_n hx hb dX2_tells_15 rfl (lv_at hl 1 rfl) ?_
      refine lv_bipush (v := 6) hx hb dX2_tells_16 (by decide) ?_
      refine lv_ishr hx hb dX2_tells_18 ?_
      obtain ⟨hin, hE⟩ := gd_some hE
      refine ww_lald hx hb hW t0 (Nat.lt_of_lt_of_le ht0 (by decide)) (lLen_in ht0 hin) dX2_tells_19 ?_
      refine lv_iload_n hx hb dX2_tells_20 rfl (lv_at hl 1 rfl) ?_
      refine lv_bipush (v := 63) hx hb dX2_tells_21 (by decide) ?_
      refine lv_iand hx hb dX2_tells_23 ?_
      refine lv_lushr (v := (lush (gL t0 st (x1 >>> ((6 : Int32) &&& 31))) (x1 &&& (63 : Int32)))) hx hb dX2_tells_24 rfl ?_
      refine lv_lconst (v := 1) hx hb dX2_tells_25 (by decide) ?_
      refine lv_land hx hb dX2_tells_26 ?_
      refine lv_lconst (v := 1) hx hb dX2_tells_27 (by decide) ?_
      refine W.lcmp hx hb dX2_tells_28 ?_
      refine lv_if_ne (tgt := 36) hx hb dX2_tells_29 (by decide) (fun c_3 => ?_) (fun c_3 => ?_)
      · have hE := if_t c_3 hE
        refine lv_iconst (v := 0) hx hb dX2_tells_36 (by decide) ?_
        obtain rfl := some_x hE
        exact W.zret hx hb hr rfl (fun t ht hWm => hW.qi ht hWm) hW.2.2.1.2.2 dX2_tells_37
      · have hE := if_f (fun q => q c_3) hE
        refine lv_iconst (v := 1) hx hb dX2_tells_32 (by decide) ?_
        refine lv_goto (tgt := 37) hx hb dX2_tells_33 (by decide) ?_
        obtain rfl := some_x hE
        exact W.zret hx hb hr rfl (fun t ht hWm => hW.qi ht hWm) hW.2.2.1.2.2 dX2_tells_37
abbrev rmX2_wordOfVariable : Room := { frames := 0, cells := 0, slots := 0, locals := 0 }
set_option maxHeartbeats 4000000 in
set_option maxRecDepth 100000 in
theorem ctX2_wordOfVariable (l : Launch) (D : va_G) (ks : KA) (ad : Nat → Nat) (sz : Nat) (st : St) (x0 : Int32) (x1 : Int32)  {r : Int64}  (hE : sX2_wordOfVariable st x0 x1 = some r) : CJ l D ks yX2_wordOfVariable wsX2_wordOfVariable rmX2_wordOfVariable [.int x0, .int x1] ad sz st r st := by
  unfold sX2_wordOfVariable at hE
  refine Met.ofW (cc := cX2_wordOfVariable) (maxL := 2) (ret := (some .long)) (by decide) rfl ?_
  intro p e s m args below meth c s₁ B hml hv
  obtain ⟨hargs, hPW⟩ := hv
  have hW := WW.entry hPW
  have hx := B.exec
  have hb := B.bytes
  have hr := B.returns
  have hts := atoms_spec (ws := wsX2_wordOfVariable) B.pre
  have hown : s.vm.findClass RX2 = some m.cls := findClass_of_methodNamed B.named
  have hlocks := B.notSynchronized
  have hl := lv_entry ([.int x0, .int x1]) (n := 2) (Nat.le_of_ble_eq_true rfl)
  have hfr : entryFrame m args 2 = F0 m 0 (lg_sl ([.int x0, .int x1]) ++ List.replicate (2 - (lg_sl ([.int x0, .int x1])).length) Slot.unset).toArray [] := by rw [hargs, lg_entry_eq]
  rw [hfr]
  generalize (lg_sl ([.int x0, .int x1]) ++ List.replicate (2 - (lg_sl ([.int x0, .int x1])).length) Slot.unset).toArray = ls at hl ⊢
  have hl : lv_has ls 2 [(0, .int x0), (1, .int x1)] := hl
  refine lv_iload_n hx hb dX2_wordOfVariable_0 rfl (lv_at hl 0 rfl) ?_
  refine lv_if_lt (tgt := 16) hx hb dX2_wordOfVariable_1 (by decide) (fun c_1 => ?_) (fun c_1 => ?_)
  · have hE := if_t c_1 hE
    refine lv_iload_n hx hb dX2_wordOfVariable_16 rfl (lv_at hl 1 rfl) ?_
    refine lv_iload_n hx hb dX2_wordOfVariable_17 rfl (lv_at hl 0 rfl) ?_
    refine lv_bipush (v := 6) hx hb dX2_wordOfVariable_18 (by decide) ?_
    refine lv_isub hx hb dX2_wordOfVariable_20 ?_
    refine lv_ishr hx hb dX2_wordOfVariable_21 ?_
    refine lv_iconst (v := 1) hx hb dX2_wordOfVariable_22 (by decide) ?_
    refine lv_iand hx hb dX2_wordOfVariable_23 ?_
    refine lv_iconst (v := 1) hx hb dX2_wordOfVariable_24 (by decide) ?_
    refine lv_icmp_ne (tgt := 34) hx hb dX2_wordOfVariable_25 (by decide) (fun c_2 => ?_) (fun c_2 => ?_)
    · have hE := if_t c_2 hE
      refine lv_lconst (v := 0) hx hb dX2_wordOfVariable_34 (by decide) ?_
      obtain rfl := some_x hE
      exact W.lret hx hb hr (fun t ht hWm => hW.ql ht hWm) hW.2.2.1.2.2 dX2_wordOfVariable_35
    · have hE := if_f (fun q => q c_2) hE
      refine lv_ldc2 (v := (-1)) hx hb hown (hts (.constantLong RX2 18 (-1)) (by decide +kernel)) dX2_wordOfVariable_28 ?_
      refine lv_goto (tgt := 35) hx hb dX2_wordOfVariable_31 (by decide) ?_
      obtain rfl := some_x hE
      exact W.lret hx hb hr (fun t ht hWm => hW.ql ht hWm) hW.2.2.1.2.2 dX2_wordOfVariable_35
  · have hE := if_f c_1 hE
    refine lv_iload_n hx hb dX2_wordOfVariable_4 rfl (lv_at hl 0 rfl) ?_
    refine lv_bipush (v := 6) hx hb dX2_wordOfVariable_5 (by decide) ?_
    refine lv_icmp_ge (tgt := 16) hx hb dX2_wordOfVariable_7 (by decide) (fun c_3 => ?_) (fun c_3 => ?_)
    · have hE := if_t c_3 hE
      refine lv_iload_n hx hb dX2_wordOfVariable_16 rfl (lv_at hl 1 rfl) ?_
      refine lv_iload_n hx hb dX2_wordOfVariable_17 rfl (lv_at hl 0 rfl) ?_
      refine lv_bipush (v := 6) hx hb dX2_wordOfVariable_18 (by decide) ?_
      refine lv_isub hx hb dX2_wordOfVariable_20 ?_
      refine lv_ishr hx hb dX2_wordOfVariable_21 ?_
      refine lv_iconst (v := 1) hx hb dX2_wordOfVariable_22 (by decide) ?_
      refine lv_iand hx hb dX2_wordOfVariable_23 ?_
      refine lv_iconst (v := 1) hx hb dX2_wordOfVariable_24 (by decide) ?_
      refine lv_icmp_ne (tgt := 34) hx hb dX2_wordOfVariable_25 (by decide) (fun c_4 => ?_) (fun c_4 => ?_)
      · have hE := if_t c_4 hE
        refine lv_lconst (v := 0) hx hb dX2_wordOfVariable_34 (by decide) ?_
        obtain rfl := some_x hE
        exact W.lret hx hb hr (fun t ht hWm => hW.ql ht hWm) hW.2.2.1.2.2 dX2_wordOfVariable_35
      · have hE := if_f (fun q => q c_4) hE
        refine lv_ldc2 (v := (-1)) hx hb hown (hts (.constantLong RX2 18 (-1)) (by decide +kernel)) dX2_wordOfVariable_28 ?_
        refine lv_goto (tgt := 35) hx hb dX2_wordOfVariable_31 (by decide) ?_
        obtain rfl := some_x hE
        exact W.lret hx hb hr (fun t ht hWm => hW.ql ht hWm) hW.2.2.1.2.2 dX2_wordOfVariable_35
    · have hE := if_f c_3 hE
      refine ww_pat hx hb hW hown (hts (.fieldLink RX2 15 "Trellis$Table" "PATTERNS" "[J") (by decide +kernel)) dX2_wordOfVariable_10 (fun tp_5 hT => ?_)
      refine lv_iload_n hx hb dX2_wordOfVariable_13 rfl (lv_at hl 0 rfl) ?_
      obtain ⟨hin, hE⟩ := gd_some hE
      refine ww_patld hx hb hW hT hin dX2_wordOfVariable_14 ?_
      obtain rfl := some_x hE
      exact W.lret hx hb hr (fun t ht hWm => hW.ql ht hWm) hW.2.2.1.2.2 dX2_wordOfVariable_15
abbrev rmX2_wordByTable : Room := { frames := 0, cells := 0, slots := 0, locals := 0 }
set_option maxHeartbeats 4000000 in
set_option maxRecDepth 100000 in
theorem ctX2_wordByTable (l : Launch) (D : va_G) (ks : KA) (ad : Nat → Nat) (sz : Nat) (st : St) (x0 : Int64) (x2 : Int64) (x4 : Int32)  {r : Int64}  (hE : sX2_wordByTable st x0 x2 x4 = some r) : CJ l D ks yX2_wordByTable wsX2_wordByTable rmX2_wordByTable [.long x0, .long x2, .int x4] ad sz st r st := by
  unfold sX2_wordByTable at hE
  refine Met.ofW (cc := cX2_wordByTable) (maxL := 7) (ret := (some .long)) (by decide) rfl ?_
  intro p e s m args below meth c s₁ B hml hv
  obtain ⟨hargs, hPW⟩ := hv
  have hW := WW.entry hPW
  have hx := B.exec
  have hb := B.bytes
  have hr := B.returns
  have hts := atoms_spec (ws := wsX2_wordByTable) B.pre
  have hown : s.vm.findClass RX2 = some m.cls := findClass_of_methodNamed B.named
  have hlocks := B.notSynchronized
  have hl := lv_entry ([.long x0, .long x2, .int x4]) (n := 7) (Nat.le_of_ble_eq_true rfl)
  have hfr : entryFrame m args 7 = F0 m 0 (lg_sl ([.long x0, .long x2, .int x4]) ++ List.replicate (7 - (lg_sl ([.long x0, .long x2, .int x4])).length) Slot.unset).toArray [] := by rw [hargs, lg_entry_eq]
  rw [hfr]
  generalize (lg_sl ([.long x0, .long x2, .int x4]) ++ List.replicate (7 - (lg_sl ([.long x0, .long x2, .int x4])).length) Slot.unset).toArray = ls at hl ⊢
  have hl : lv_has ls 7 [(0, .long x0), (2, .long x2), (4, .int x4)] := hl
  refine lv_lconst (v := 0) hx hb dX2_wordByTable_0 (by decide) ?_
  refine lv_lstore (lv' := [(5, .long (0 : Int64)), (0, .long x0), (2, .long x2), (4, .int x4)]) hx hb dX2_wordByTable_1 hl (by decide) rfl (fun ls hl => ?_)
  refine lv_iload hx hb dX2_wordByTable_3 (lv_at hl 3 rfl) ?_
  refine lv_iconst (v := 1) hx hb dX2_wordByTable_5 (by decide) ?_
  refine lv_iand hx hb dX2_wordByTable_6 ?_
  refine lv_if_eq (tgt := 26) hx hb dX2_wordByTable_7 (by decide) (fun c_1 => ?_) (fun c_1 => ?_)
  · have hE := if_t c_1 hE
    refine lv_iload hx hb dX2_wordByTable_26 (lv_at hl 3 rfl) ?_
    refine lv_iconst (v := 2) hx hb dX2_wordByTable_28 (by decide) ?_
    refine lv_iand hx hb dX2_wordByTable_29 ?_
    refine lv_if_eq (tgt := 45) hx hb dX2_wordByTable_30 (by decide) (fun c_2 => ?_) (fun c_2 => ?_)
    · have hE := if_t c_2 hE
      refine lv_iload hx hb dX2_wordByTable_45 (lv_at hl 3 rfl) ?_
      refine lv_iconst (v := 4) hx hb dX2_wordByTable_47 (by decide) ?_
      refine lv_iand hx hb dX2_wordByTable_48 ?_
      refine lv_if_eq (tgt := 64) hx hb dX2_wordByTable_49 (by decide) (fun c_3 => ?_) (fun c_3 => ?_)
      · have hE := if_t c_3 hE
        refine lv_iload hx hb dX2_wordByTable_64 (lv_at hl 3 rfl) ?_
        refine lv_bipush (v := 8) hx hb dX2_wordByTable_66 (by decide) ?_
        refine lv_iand hx hb dX2_wordByTable_68 ?_
        refine lv_if_eq (tgt := 80) hx hb dX2_wordByTable_69 (by decide) (fun c_4 => ?_) (fun c_4 => ?_)
        · have hE := if_t c_4 hE
          refine lv_lload hx hb dX2_wordByTable_80 (lv_at hl 0 rfl) ?_
          obtain rfl := some_x hE
          exact W.lret hx hb hr (fun t ht hWm => hW.ql ht hWm) hW.2.2.1.2.2 dX2_wordByTable_82
        · have hE := if_f c_4 hE
          refine lv_lload hx hb dX2_wordByTable_72 (lv_at hl 0 rfl) ?_
          refine lv_lload_n hx hb dX2_wordByTable_74 rfl (lv_at hl 1 rfl) ?_
          refine lv_lload_n hx hb dX2_wordByTable_75 rfl (lv_at hl 2 rfl) ?_
          refine lv_land hx hb dX2_wordByTable_76 ?_
          refine lv_lor hx hb dX2_wordByTable_77 ?_
          obtain ⟨x5_5, e, hE⟩ := lt_some hE
          refine lv_nml e ?_
          refine lv_lstore (lv' := [(5, .long x5_5), (0, .long x0), (2, .long x2), (4, .int x4)]) hx hb dX2_wordByTable_78 hl (by decide) rfl (fun ls hl => ?_)
          refine lv_lload hx hb dX2_wordByTable_80 (lv_at hl 0 rfl) ?_
          obtain rfl := some_x hE
          exact W.lret hx hb hr (fun t ht hWm => hW.ql ht hWm) hW.2.2.1.2.2 dX2_wordByTable_82
      · have hE := if_f c_3 hE
        refine lv_lload hx hb dX2_wordByTable_52 (lv_at hl 0 rfl) ?_
        refine lv_lload_n hx hb dX2_wordByTable_54 rfl (lv_at hl 1 rfl) ?_
        refine lv_lload_n hx hb dX2_wordByTable_55 rfl (lv_at hl 2 rfl) ?_
        refine lv_ldc2 (v := (-1)) hx hb hown (hts (.constantLong RX2 18 (-1)) (by decide +kernel)) dX2_wordByTable_56 ?_
        refine lv_lxor hx hb dX2_wordByTable_59 ?_
        refine lv_land hx hb dX2_wordByTable_60 ?_
        refine lv_lor hx hb dX2_wordByTable_61 ?_
        obtain ⟨x5_6, e, hE⟩ := lt_some hE
        refine lv_nml e ?_
        refine lv_lstore (lv' := [(5, .long x5_6), (0, .long x0), (2, .long x2), (4, .int x4)]) hx hb dX2_wordByTable_62 hl (by decide) rfl (fun ls hl => ?_)
        refine lv_iload hx hb dX2_wordByTable_64 (lv_at hl 3 rfl) ?_
        refine lv_bipush (v := 8) hx hb dX2_wordByTable_66 (by decide) ?_
        refine lv_iand hx hb dX2_wordByTable_68 ?_
        refine lv_if_eq (tgt := 80) hx hb dX2_wordByTable_69 (by decide) (fun c_7 => ?_) (fun c_7 => ?_)
        · have hE := if_t c_7 hE
          refine lv_lload hx hb dX2_wordByTable_80 (lv_at hl 0 rfl) ?_
          obtain rfl := some_x hE
          exact W.lret hx hb hr (fun t ht hWm => hW.ql ht hWm) hW.2.2.1.2.2 dX2_wordByTable_82
        · have hE := if_f c_7 hE
          refine lv_lload hx hb dX2_wordByTable_72 (lv_at hl 0 rfl) ?_
          refine lv_lload_n hx hb dX2_wordByTable_74 rfl (lv_at hl 1 rfl) ?_
          refine lv_lload_n hx hb dX2_wordByTable_75 rfl (lv_at hl 2 rfl) ?_
          refine lv_land hx hb dX2_wordByTable_76 ?_
          refine lv_lor hx hb dX2_wordByTable_77 ?_
          obtain ⟨x5_8, e, hE⟩ := lt_some hE
          refine lv_nml e ?_
          refine lv_lstore (lv' := [(5, .long x5_8), (0, .long x0), (2, .long x2), (4, .int x4)]) hx hb dX2_wordByTable_78 hl (by decide) rfl (fun ls hl => ?_)
          refine lv_lload hx hb dX2_wordByTable_80 (lv_at hl 0 rfl) ?_
          obtain rfl := some_x hE
          exact W.lret hx hb hr (fun t ht hWm => hW.ql ht hWm) hW.2.2.1.2.2 dX2_wordByTable_82
    · have hE := if_f c_2 hE
      refine lv_lload hx hb dX2_wordByTable_33 (lv_at hl 0 rfl) ?_
      refine lv_lload_n hx hb dX2_wordByTable_35 rfl (lv_at hl 1 rfl) ?_
      refine lv_ldc2 (v := (-1)) hx hb hown (hts (.constantLong RX2 18 (-1)) (by decide +kernel)) dX2_wordByTable_36 ?_
      refine lv_lxor hx hb dX2_wordByTable_39 ?_
      refine lv_lload_n hx hb dX2_wordByTable_40 rfl (lv_at hl 2 rfl) ?_
      refine lv_land hx hb dX2_wordByTable_41 ?_
      refine lv_lor hx hb dX2_wordByTable_42 ?_
      obtain ⟨x5_9, e, hE⟩ := lt_some hE
      refine lv_nml e ?_
      refine lv_lstore (lv' := [(5, .long x5_9), (0, .long x0), (2, .long x2), (4, .int x4)]) hx hb dX2_wordByTable_43 hl (by decide) rfl (fun ls hl => ?_)
      refine lv_iload hx hb dX2_wordByTable_45 (lv_at hl 3 rfl) ?_
      refine lv_iconst (v := 4) hx hb dX2_wordByTable_47 (by decide) ?_
      refine lv_iand hx hb dX2_wordByTable_48 ?_
      refine lv_if_eq (tgt := 64) hx hb dX2_wordByTable_49 (by decide) (fun c_10 => ?_) (fun c_10 => ?_)
      · have hE := if_t c_10 hE
        refine lv_iload hx hb dX2_wordByTable_64 (lv_at hl 3 rfl) ?_
        refine lv_bipush (v := 8) hx hb dX2_wordByTable_66 (by decide) ?_
        refine lv_iand hx hb dX2_wordByTable_68 ?_
        refine lv_if_eq (tgt := 80) hx hb dX2_wordByTable_69 (by decide) (fun c_11 => ?_) (fun c_11 => ?_)
        · have hE := if_t c_11 hE
          refine lv_lload hx hb dX2_wordByTable_80 (lv_at hl 0 rfl) ?_
          obtain rfl := some_x hE
          exact W.lret hx hb hr (fun t ht hWm => hW.ql ht hWm) hW.2.2.1.2.2 dX2_wordByTable_82
        · have hE := if_f c_11 hE
          refine lv_lload hx hb dX2_wordByTable_72 (lv_at hl 0 rfl) ?_
          refine lv_lload_n hx hb dX2_wordByTable_74 rfl (lv_at hl 1 rfl) ?_
          refine lv_lload_n hx hb dX2_wordByTable_75 rfl (lv_at hl 2 rfl) ?_
          refine lv_land hx hb dX2_wordByTable_76 ?_
          refine lv_lor hx hb dX2_wordByTable_77 ?_
          obtain ⟨x5_12, e, hE⟩ := lt_some hE
          refine lv_nml e ?_
          refine lv_lstore (lv' := [(5, .long x5_12), (0, .long x0), (2, .long x2), (4, .int x4)]) hx hb dX2_wordByTable_78 hl (by decide) rfl (fun ls hl => ?_)
          refine lv_lload hx hb dX2_wordByTable_80 (lv_at hl 0 rfl) ?_
          obtain rfl := some_x hE
          exact W.lret hx hb hr (fun t ht hWm => hW.ql ht hWm) hW.2.2.1.2.2 dX2_wordByTable_82
      · have hE := if_f c_10 hE
        refine lv_lload hx hb dX2_wordByTable_52 (lv_at hl 0 rfl) ?_
        refine lv_lload_n hx hb dX2_wordByTable_54 rfl (lv_at hl 1 rfl) ?_
        refine lv_lload_n hx hb dX2_wordByTable_55 rfl (lv_at hl 2 rfl) ?_
        refine lv_ldc2 (v := (-1)) hx hb hown (hts (.constantLong RX2 18 (-1)) (by decide +kernel)) dX2_wordByTable_56 ?_
        refine lv_lxor hx hb dX2_wordByTable_59 ?_
        refine lv_land hx hb dX2_wordByTable_60 ?_
        refine lv_lor hx hb dX2_wordByTable_61 ?_
        obtain ⟨x5_13, e, hE⟩ := lt_some hE
        refine lv_nml e ?_
        refine lv_lstore (lv' := [(5, .long x5_13), (0, .long x0), (2, .long x2), (4, .int x4)]) hx hb dX2_wordByTable_62 hl (by decide) rfl (fun ls hl => ?_)
        refine lv_iload hx hb dX2_wordByTable_64 (lv_at hl 3 rfl) ?_
        refine lv_bipush (v := 8) hx hb dX2_wordByTable_66 (by decide) ?_
        refine lv_iand hx hb dX2_wordByTable_68 ?_
        refine lv_if_eq (tgt := 80) hx hb dX2_wordByTable_69 (by decide) (fun c_14 => ?_) (fun c_14 => ?_)
        · have hE := if_t c_14 hE
          refine lv_lload hx hb dX2_wordByTable_80 (lv_at hl 0 rfl) ?_
          obtain rfl := some_x hE
          exact W.lret hx hb hr (fun t ht hWm => hW.ql ht hWm) hW.2.2.1.2.2 dX2_wordByTable_82
        · have hE := if_f c_14 hE
          refine lv_lload hx hb dX2_wordByTable_72 (lv_at hl 0 rfl) ?_
          refine lv_lload_n hx hb dX2_wordByTable_74 rfl (lv_at hl 1 rfl) ?_
          refine lv_lload_n hx hb dX2_wordByTable_75 rfl (lv_at hl 2 rfl) ?_
          refine lv_land hx hb dX2_wordByTable_76 ?_
          refine lv_lor hx hb dX2_wordByTable_77 ?_
          obtain ⟨x5_15, e, hE⟩ := lt_some hE
          refine lv_nml e ?_
          refine lv_lstore (lv' := [(5, .long x5_15), (0, .long x0), (2, .long x2), (4, .int x4)]) hx hb dX2_wordByTable_78 hl (by decide) rfl (fun ls hl => ?_)
          refine lv_lload hx hb dX2_wordByTable_80 (lv_at hl 0 rfl) ?_
          obtain rfl := some_x hE
          exact W.lret hx hb hr (fun t ht hWm => hW.ql ht hWm) hW.2.2.1.2.2 dX2_wordByTable_82
  · have hE := if_f c_1 hE
    refine lv_lload hx hb dX2_wordByTable_10 (lv_at hl 0 rfl) ?_
    refine lv_lload_n hx hb dX2_wordByTable_12 rfl (lv_at hl 1 rfl) ?_
    refine lv_ldc2 (v := (-1)) hx hb hown (hts (.constantLong RX2 18 (-1)) (by decide +kernel)) dX2_wordByTable_13 ?_
    refine lv_lxor hx hb dX2_wordByTable_16 ?_
    refine lv_lload_n hx hb dX2_wordByTable_17 rfl (lv_at hl 2 rfl) ?_
    refine lv_ldc2 (v := (-1)) hx hb hown (hts (.constantLong RX2 18 (-1)) (by decide +kernel)) dX2_wordByTable_18 ?_
    refine lv_lxor hx hb dX2_wordByTable_21 ?_
    refine lv_land hx hb dX2_wordByTable_22 ?_
    refine lv_lor hx hb dX2_wordByTable_23 ?_
    obtain ⟨x5_16, e, hE⟩ := lt_some hE
    refine lv_nml e ?_
    refine lv_lstore (lv' := [(5, .long x5_16), (0, .long x0), (2, .long x2), (4, .int x4)]) hx hb dX2_wordByTable_24 hl (by decide) rfl (fun ls hl => ?_)
    refine lv_iload hx hb dX2_wordByTable_26 (lv_at hl 3 rfl) ?_
    refine lv_iconst (v := 2) hx hb dX2_wordByTable_28 (by decide) ?_
    refine lv_iand hx hb dX2_wordByTable_29 ?_
    refine lv_if_eq (tgt := 45) hx hb dX2_wordByTable_30 (by decide) (fun c_17 => ?_) (fun c_17 => ?_)
    · have hE := if_t c_17 hE
      refine lv_iload hx hb dX2_wordByTable_45 (lv_at hl 3 rfl) ?_
      refine lv_iconst (v := 4) hx hb dX2_wordByTable_47 (by decide) ?_
      refine lv_iand hx hb dX2_wordByTable_48 ?_
      refine lv_if_eq (tgt := 64) hx hb dX2_wordByTable_49 (by decide) (fun c_18 => ?_) (fun c_18 => ?_)
      · have hE := if_t c_18 hE
        refine lv_iload hx hb dX2_wordByTable_64 (lv_at hl 3 rfl) ?_
        refine lv_bipush (v := 8) hx hb dX2_wordByTable_66 (by decide) ?_
        refine lv_iand hx hb dX2_wordByTable_68 ?_
        refine lv_if_eq (tgt := 80) hx hb dX2_wordByTable_69 (by decide) (fun c_19 => ?_) (fun c_19 => ?_)
        · have hE := if_t c_19 hE
          refine lv_lload hx hb dX2_wordByTable_80 (lv_at hl 0 rfl) ?_
          obtain rfl := some_x hE
          exact W.lret hx hb hr (fun t ht hWm => hW.ql ht hWm) hW.2.2.1.2.2 dX2_wordByTable_82
        · have hE := if_f c_19 hE
          refine lv_lload hx hb dX2_wordByTable_72 (lv_at hl 0 rfl) ?_
          refine lv_lload_n hx hb dX2_wordByTable_74 rfl (lv_at hl 1 rfl) ?_
          refine lv_lload_n hx hb dX2_wordByTable_75 rfl (lv_at hl 2 rfl) ?_
          refine lv_land hx hb dX2_wordByTable_76 ?_
          refine lv_lor hx hb dX2_wordByTable_77 ?_
          obtain ⟨x5_20, e, hE⟩ := lt_some hE
          refine lv_nml e ?_
          refine lv_lstore (lv' := [(5, .long x5_20), (0, .long x0), (2, .long x2), (4, .int x4)]) hx hb dX2_wordByTable_78 hl (by decide) rfl (fun ls hl => ?_)
          refine lv_lload hx hb dX2_wordByTable_80 (lv_at hl 0 rfl) ?_
          obtain rfl := some_x hE
          exact W.lret hx hb hr (fun t ht hWm => hW.ql ht hWm) hW.2.2.1.2.2 dX2_wordByTable_82
      · have hE := if_f c_18 hE
        refine lv_lload hx hb dX2_wordByTable_52 (lv_at hl 0 rfl) ?_
        refine lv_lload_n hx hb dX2_wordByTable_54 rfl (lv_at hl 1 rfl) ?_
        refine lv_lload_n hx hb dX2_wordByTable_55 rfl (lv_at hl 2 rfl) ?_
        refine lv_ldc2 (v := (-1)) hx hb hown (hts (.constantLong RX2 18 (-1)) (by decide +kernel)) dX2_wordByTable_56 ?_
        refine lv_lxor hx hb dX2_wordByTable_59 ?_
        refine lv_land hx hb dX2_wordByTable_60 ?_
        refine lv_lor hx hb dX2_wordByTable_61 ?_
        obtain ⟨x5_21, e, hE⟩ := lt_some hE
        refine lv_nml e ?_
        refine lv_lstore (lv' := [(5, .long x5_21), (0, .long x0), (2, .long x2), (4, .int x4)]) hx hb dX2_wordByTable_62 hl (by decide) rfl (fun ls hl => ?_)
        refine lv_iload hx hb dX2_wordByTable_64 (lv_at hl 3 rfl) ?_
        refine lv_bipush (v := 8) hx hb dX2_wordByTable_66 (by decide) ?_
        refine lv_iand hx hb dX2_wordByTable_68 ?_
        refine lv_if_eq (tgt := 80) hx hb dX2_wordByTable_69 (by decide) (fun c_22 => ?_) (fun c_22 => ?_)
        · have hE := if_t c_22 hE
          refine lv_lload hx hb dX2_wordByTable_80 (lv_at hl 0 rfl) ?_
          obtain rfl := some_x hE
          exact W.lret hx hb hr (fun t ht hWm => hW.ql ht hWm) hW.2.2.1.2.2 dX2_wordByTable_82
        · have hE := if_f c_22 hE
          refine lv_lload hx hb dX2_wordByTable_72 (lv_at hl 0 rfl) ?_
          refine lv_lload_n hx hb dX2_wordByTable_74 rfl (lv_at hl 1 rfl) ?_
          refine lv_lload_n hx hb dX2_wordByTable_75 rfl (lv_at hl 2 rfl) ?_
          refine lv_land hx hb dX2_wordByTable_76 ?_
          refine lv_lor hx hb dX2_wordByTable_77 ?_
          obtain ⟨x5_23, e, hE⟩ := lt_some hE
          refine lv_nml e ?_
          refine lv_lstore (lv' := [(5, .long x5_23), (0, .long x0), (2, .long x2), (4, .int x4)]) hx hb dX2_wordByTable_78 hl (by decide) rfl (fun ls hl => ?_)
          refine lv_lload hx hb dX2_wordByTable_80 (lv_at hl 0 rfl) ?_
          obtain rfl := some_x hE
          exact W.lret hx hb hr (fun t ht hWm => hW.ql ht hWm) hW.2.2.1.2.2 dX2_wordByTable_82
    · have hE := if_f c_17 hE
      refine lv_lload hx hb dX2_wordByTable_33 (lv_at hl 0 rfl) ?_
      refine lv_lload_n hx hb dX2_wordByTable_35 rfl (lv_at hl 1 rfl) ?_
      refine lv_ldc2 (v := (-1)) hx hb hown (hts (.constantLong RX2 18 (-1)) (by decide +kernel)) dX2_wordByTable_36 ?_
      refine lv_lxor hx hb dX2_wordByTable_39 ?_
      refine lv_lload_n hx hb dX2_wordByTable_40 rfl (lv_at hl 2 rfl) ?_
      refine lv_land hx hb dX2_wordByTable_41 ?_
      refine lv_lor hx hb dX2_wordByTable_42 ?_
      obtain ⟨x5_24, e, hE⟩ := lt_some hE
      refine lv_nml e ?_
      refine lv_lstore (lv' := [(5, .long x5_24), (0, .long x0), (2, .long x2), (4, .int x4)]) hx hb dX2_wordByTable_43 hl (by decide) rfl (fun ls hl => ?_)
      refine lv_iload hx hb dX2_wordByTable_45 (lv_at hl 3 rfl) ?_
      refine lv_iconst (v := 4) hx hb dX2_wordByTable_47 (by decide) ?_
      refine lv_iand hx hb dX2_wordByTable_48 ?_
      refine lv_if_eq (tgt := 64) hx hb dX2_wordByTable_49 (by decide) (fun c_25 => ?_) (fun c_25 => ?_)
      · have hE := if_t c_25 hE
        refine lv_iload hx hb dX2_wordByTable_64 (lv_at hl 3 rfl) ?_
        refine lv_bipush (v := 8) hx hb dX2_wordByTable_66 (by decide) ?_
        refine lv_iand hx hb dX2_wordByTable_68 ?_
        refine lv_if_eq (tgt := 80) hx hb dX2_wordByTable_69 (by decide) (fun c_26 => ?_) (fun c_26 => ?_)
        · have hE := if_t c_26 hE
          refine lv_lload hx hb dX2_wordByTable_80 (lv_at hl 0 rfl) ?_
          obtain rfl := some_x hE
          exact W.lret hx hb hr (fun t ht hWm => hW.ql ht hWm) hW.2.2.1.2.2 dX2_wordByTable_82
        · have hE := if_f c_26 hE
          refine lv_lload hx hb dX2_wordByTable_72 (lv_at hl 0 rfl) ?_
          refine lv_lload_n hx hb dX2_wordByTable_74 rfl (lv_at hl 1 rfl) ?_
          refine lv_lload_n hx hb dX2_wordByTable_75 rfl (lv_at hl 2 rfl) ?_
          refine lv_land hx hb dX2_wordByTable_76 ?_
          refine lv_lor hx hb dX2_wordByTable_77 ?_
          obtain ⟨x5_27, e, hE⟩ := lt_some hE
          refine lv_nml e ?_
          refine lv_lstore (lv' := [(5, .long x5_27), (0, .long x0), (2, .long x2), (4, .int x4)]) hx hb dX2_wordByTable_78 hl (by decide) rfl (fun ls hl => ?_)
          refine lv_lload hx hb dX2_wordByTable_80 (lv_at hl 0 rfl) ?_
          obtain rfl := some_x hE
          exact W.lret hx hb hr (fun t ht hWm => hW.ql ht hWm) hW.2.2.1.2.2 dX2_wordByTable_82
      · have hE := if_f c_25 hE
        refine lv_lload hx hb dX2_wordByTable_52 (lv_at hl 0 rfl) ?_
        refine lv_lload_n hx hb dX2_wordByTable_54 rfl (lv_at hl 1 rfl) ?_
        refine lv_lload_n hx hb dX2_wordByTable_55 rfl (lv_at hl 2 rfl) ?_
        refine lv_ldc2 (v := (-1)) hx hb hown (hts (.constantLong RX2 18 (-1)) (by decide +kernel)) dX2_wordByTable_56 ?_
        refine lv_lxor hx hb dX2_wordByTable_59 ?_
        refine lv_land hx hb dX2_wordByTable_60 ?_
        refine lv_lor hx hb dX2_wordByTable_61 ?_
        obtain ⟨x5_28, e, hE⟩ := lt_some hE
        refine lv_nml e ?_
        refine lv_lstore (lv' := [(5, .long x5_28), (0, .long x0), (2, .long x2), (4, .int x4)]) hx hb dX2_wordByTable_62 hl (by decide) rfl (fun ls hl => ?_)
        refine lv_iload hx hb dX2_wordByTable_64 (lv_at hl 3 rfl) ?_
        refine lv_bipush (v := 8) hx hb dX2_wordByTable_66 (by decide) ?_
        refine lv_iand hx hb dX2_wordByTable_68 ?_
        refine lv_if_eq (tgt := 80) hx hb dX2_wordByTable_69 (by decide) (fun c_29 => ?_) (fun c_29 => ?_)
        · have hE := if_t c_29 hE
          refine lv_lload hx hb dX2_wordByTable_80 (lv_at hl 0 rfl) ?_
          obtain rfl := some_x hE
          exact W.lret hx hb hr (fun t ht hWm => hW.ql ht hWm) hW.2.2.1.2.2 dX2_wordByTable_82
        · have hE := if_f c_29 hE
          refine lv_lload hx hb dX2_wordByTable_72 (lv_at hl 0 rfl) ?_
          refine lv_lload_n hx hb dX2_wordByTable_74 rfl (lv_at hl 1 rfl) ?_
          refine lv_lload_n hx hb dX2_wordByTable_75 rfl (lv_at hl 2 rfl) ?_
          refine lv_land hx hb dX2_wordByTable_76 ?_
          refine lv_lor hx hb dX2_wordByTable_77 ?_
          obtain ⟨x5_30, e, hE⟩ := lt_some hE
          refine lv_nml e ?_
          refine lv_lstore (lv' := [(5, .long x5_30), (0, .long x0), (2, .long x2), (4, .int x4)]) hx hb dX2_wordByTable_78 hl (by decide) rfl (fun ls hl => ?_)
          refine lv_lload hx hb dX2_wordByTable_80 (lv_at hl 0 rfl) ?_
          obtain rfl := some_x hE
          exact W.lret hx hb hr (fun t ht hWm => hW.ql ht hWm) hW.2.2.1.2.2 dX2_wordByTable_82
abbrev rmX2_wordAcross : Room := { frames := 0, cells := 0, slots := 0, locals := 0 }
set_option maxRecDepth 100000 in
theorem in2_X2_wordAcross : ∀ w ∈ wsX20, w ∈ wsX2_wordAcross := by decide +kernel
set_option maxHeartbeats 4000000 in
set_option maxRecDepth 100000 in
theorem ctX2_wordAcross (l : Launch) (D : va_G) (ks : KA) (ad : Nat → Nat) (sz : Nat) (st : St) (t0 : Nat) (x1 : Int32) (x2 : Int32) (ht0 : t0 < 15) {r : Int64}  (hE : sX2_wordAcross st t0 x1 x2 = some r) : CJ l D ks yX2_wordAcross wsX2_wordAcross rmX2_wordAcross [.ref (ad (tc t0)), .int x1, .int x2] ad sz st r st := by
  unfold sX2_wordAcross at hE
  refine Met.ofW (cc := cX2_wordAcross) (maxL := 6) (ret := (some .long)) (by decide) rfl ?_
  intro p e s m args below meth c s₁ B hml hv
  obtain ⟨hargs, hPW⟩ := hv
  have hW := WW.entry hPW
  have hx := B.exec
  have hb := B.bytes
  have hr := B.returns
  have hts := atoms_spec (ws := wsX2_wordAcross) B.pre
  have hown : s.vm.findClass RX2 = some m.cls := findClass_of_methodNamed B.named
  have hlocks := B.notSynchronized
  have hin2 : ∀ w ∈ u_ws RX2 TX2 1, w ∈ wsX2_wordAcross := in2_X2_wordAcross
  have hf11 := hts (.fieldLink RX2 11 "Trellis$Table" "words" "[J") (by decide +kernel)
  have hl := lv_entry ([.ref (ad (tc t0)), .int x1, .int x2]) (n := 6) (Nat.le_of_ble_eq_true rfl)
  have hfr : entryFrame m args 6 = F0 m 0 (lg_sl ([.ref (ad (tc t0)), .int x1, .int x2]) ++ List.replicate (6 - (lg_sl ([.ref (ad (tc t0)), .int x1, .int x2])).length) Slot.unset).toArray [] := by rw [hargs, lg_entry_eq]
  rw [hfr]
  generalize (lg_sl ([.ref (ad (tc t0)), .int x1, .int x2]) ++ List.replicate (6 - (lg_sl ([.ref (ad (tc t0)), .int x1, .int x2])).length) Slot.unset).toArray = ls at hl ⊢
  have hl : lv_has ls 6 [(0, .ref (ad (tc t0))), (1, .int x1), (2, .int x2)] := hl
  refine lv_iload_n hx hb dX2_wordAcross_0 rfl (lv_at hl 1 rfl) ?_
  refine lv_if_lt (tgt := 45) hx hb dX2_wordAcross_1 (by decide) (fun c_1 => ?_) (fun c_1 => ?_)
  · have hE := if_t c_1 hE
    refine lv_iload_n hx hb dX2_wordAcross_45 rfl (lv_at hl 2 rfl) ?_
    refine lv_iconst (v := 1) hx hb dX2_wordAcross_46 (by decide) ?_
    refine lv_iload_n hx hb dX2_wordAcross_47 rfl (lv_at hl 1 rfl) ?_
    refine lv_bipush (v := 6) hx hb dX2_wordAcross_48 (by decide) ?_
    refine lv_isub hx hb dX2_wordAcross_50 ?_
    refine lv_ishl hx hb dX2_wordAcross_51 ?_
    refine lv_ixor hx hb dX2_wordAcross_52 ?_
    obtain ⟨x3_2, e, hE⟩ := lt_some hE
    refine lv_nmi e ?_
    refine lv_istore_n (lv' := [(3, .int x3_2), (0, .ref (ad (tc t0))), (1, .int x1), (2, .int x2)]) hx hb dX2_wordAcross_53 rfl hl (by decide) rfl (fun ls hl => ?_)
    refine lv_iload_n hx hb dX2_wordAcross_54 rfl (lv_at hl 0 rfl) ?_
    refine lv_if_lt (tgt := 73) hx hb dX2_wordAcross_55 (by decide) (fun c_3 => ?_) (fun c_3 => ?_)
    · have hE := if_t c_3 hE
      refine lv_lconst (v := 0) hx hb dX2_wordAcross_73 (by decide) ?_
      obtain rfl := some_x hE
      exact W.lret hx hb hr (fun t ht hWm => hW.ql ht hWm) hW.2.2.1.2.2 dX2_wordAcross_74
    · have hE := if_f c_3 hE
      refine lv_iload_n hx hb dX2_wordAcross_58 rfl (lv_at hl 0 rfl) ?_
      refine lv_bipush (v := 16) hx hb dX2_wordAcross_59 (by decide) ?_
      refine lv_icmp_ge (tgt := 73) hx hb dX2_wordAcross_61 (by decide) (fun c_4 => ?_) (fun c_4 => ?_)
      · have hE := if_t c_4 hE
        refine lv_lconst (v := 0) hx hb dX2_wordAcross_73 (by decide) ?_
        obtain rfl := some_x hE
        exact W.lret hx hb hr (fun t ht hWm => hW.ql ht hWm) hW.2.2.1.2.2 dX2_wordAcross_74
      · have hE := if_f c_4 hE
        refine lv_aload_n hx hb dX2_wordAcross_64 rfl (lv_at hl 1 rfl) ?_
        refine ww_get (C := RX2) (T := TX2) (N := 1) (ref := RX2) (ci := 2) (v := .ref (ad (lc t0))) hx hb hts hin2 hown hW (tc t0) (cE_T (ad := ad) (ks := ks) (st := st) ht0).1 (cE_T ht0).2 rfl 0 (by decide) hf11 (fun _ h9 => h9) rfl dX2_wordAcross_65 ?_
        refine lv_iload_n hx hb dX2_wordAcross_68 rfl (lv_at hl 0 rfl) ?_
        obtain ⟨hin, hE⟩ := gd_some hE
        refine ww_lald hx hb hW t0 (Nat.lt_of_lt_of_le ht0 (by decide)) (lLen_in ht0 hin) dX2_wordAcross_69 ?_
        refine lv_goto (tgt := 74) hx hb dX2_wordAcross_70 (by decide) ?_
        obtain rfl := some_x hE
        exact W.lret hx hb hr (fun t ht hWm => hW.ql ht hWm) hW.2.2.1.2.2 dX2_wordAcross_74
  · have hE := if_f c_1 hE
    refine lv_iload_n hx hb dX2_wordAcross_4 rfl (lv_at hl 1 rfl) ?_
    refine lv_bipush (v := 6) hx hb dX2_wordAcross_5 (by decide) ?_
    refine lv_icmp_ge (tgt := 45) hx hb dX2_wordAcross_7 (by decide) (fun c_5 => ?_) (fun c_5 => ?_)
    · have hE := if_t c_5 hE
      refine lv_iload_n hx hb dX2_wordAcross_45 rfl (lv_at hl 2 rfl) ?_
      refine lv_iconst (v := 1) hx hb dX2_wordAcross_46 (by decide) ?_
      refine lv_iload_n hx hb dX2_wordAcross_47 rfl (lv_at hl 1 rfl) ?_
      refine lv_bipush (v := 6) hx hb dX2_wordAcross_48 (by decide) ?_
      refine lv_isub hx hb dX2_wordAcross_50 ?_
      refine lv_ishl hx hb dX2_wordAcross_51 ?_
      refine lv_ixor hx hb dX2_wordAcross_52 ?_
      obtain ⟨x3_6, e, hE⟩ := lt_some hE
      refine lv_nmi e ?_
      refine lv_istore_n (lv' := [(3, .int x3_6), (0, .ref (ad (tc t0))), (1, .int x1), (2, .int x2)]) hx hb dX2_wordAcross_53 rfl hl (by decide) rfl (fun ls hl => ?_)
      refine lv_iload_n hx hb dX2_wordAcross_54 rfl (lv_at hl 0 rfl) ?_
      refine lv_if_lt (tgt := 73) hx hb dX2_wordAcross_55 (by decide) (fun c_7 => ?_) (fun c_7 => ?_)
      · have hE := if_t c_7 hE
        refine lv_lconst (v := 0) hx hb dX2_wordAcross_73 (by decide) ?_
        obtain rfl := some_x hE
        exact W.lret hx hb hr (fun t ht hWm => hW.ql ht hWm) hW.2.2.1.2.2 dX2_wordAcross_74
      · have hE := if_f c_7 hE
        refine lv_iload_n hx hb dX2_wordAcross_58 rfl (lv_at hl 0 rfl) ?_
        refine lv_bipush (v := 16) hx hb dX2_wordAcross_59 (by decide) ?_
        refine lv_icmp_ge (tgt := 73) hx hb dX2_wordAcross_61 (by decide) (fun c_8 => ?_) (fun c_8 => ?_)
        · have hE := if_t c_8 hE
          refine lv_lconst (v := 0) hx hb dX2_wordAcross_73 (by decide) ?_
          obtain rfl := some_x hE
          exact W.lret hx hb hr (fun t ht hWm => hW.ql ht hWm) hW.2.2.1.2.2 dX2_wordAcross_74
        · have hE := if_f c_8 hE
          refine lv_aload_n hx hb dX2_wordAcross_64 rfl (lv_at hl 1 rfl) ?_
          refine ww_get (C := RX2) (T := TX2) (N := 1) (ref := RX2) (ci := 2) (v := .ref (ad (lc t0))) hx hb hts hin2 hown hW (tc t0) (cE_T (ad := ad) (ks := ks) (st := st) ht0).1 (cE_T ht0).2 rfl 0 (by decide) hf11 (fun _ h9 => h9) rfl dX2_wordAcross_65 ?_
          refine lv_iload_n hx hb dX2_wordAcross_68 rfl (lv_at hl 0 rfl) ?_
          obtain ⟨hin, hE⟩ := gd_some hE
          refine ww_lald hx hb hW t0 (Nat.lt_of_lt_of_le ht0 (by decide)) (lLen_in ht0 hin) dX2_wordAcross_69 ?_
          refine lv_goto (tgt := 74) hx hb dX2_wordAcross_70 (by decide) ?_
          obtain rfl := some_x hE
          exact W.lret hx hb hr (fun t ht hWm => hW.ql ht hWm) hW.2.2.1.2.2 dX2_wordAcross_74
    · have hE := if_f c_5 hE
      refine lv_iconst (v := 1) hx hb dX2_wordAcross_10 (by decide) ?_
      refine lv_iload_n hx hb dX2_wordAcross_11 rfl (lv_at hl 1 rfl) ?_
      refine lv_ishl hx hb dX2_wordAcross_12 ?_
      obtain ⟨x3_9, e, hE⟩ := lt_some hE
      refine lv_nmi e ?_
      refine lv_istore_n (lv' := [(3, .int x3_9), (0, .ref (ad (tc t0))), (1, .int x1), (2, .int x2)]) hx hb dX2_wordAcross_13 rfl hl (by decide) rfl (fun ls hl => ?_)
      refine ww_pat hx hb hW hown (hts (.fieldLink RX2 15 "Trellis$Table" "PATTERNS" "[J") (by decide +kernel)) dX2_wordAcross_14 (fun tp_10 hT => ?_)
      refine lv_iload_n hx hb dX2_wordAcross_17 rfl (lv_at hl 2 rfl) ?_
      obtain ⟨hin, hE⟩ := gd_some hE
      refine ww_patld hx hb hW hT hin dX2_wordAcross_18 ?_
      obtain ⟨x4_11, e, hE⟩ := lt_some hE
      refine lv_nml e ?_
      refine lv_lstore (lv' := [(4, .long x4_11), (3, .int x3_9), (0, .ref (ad (tc t0))), (1, .int x1), (2, .int x2)]) hx hb dX2_wordAcross_19 hl (by decide) rfl (fun ls hl => ?_)
      refine lv_aload_n hx hb dX2_wordAcross_21 rfl (lv_at hl 2 rfl) ?_
      refine ww_get (C := RX2) (T := TX2) (N := 1) (ref := RX2) (ci := 2) (v := .ref (ad (lc t0))) hx hb hts hin2 hown hW (tc t0) (cE_T (ad := ad) (ks := ks) (st := st) ht0).1 (cE_T ht0).2 rfl 0 (by decide) hf11 (fun _ h9 => h9) rfl dX2_wordAcross_22 ?_
      refine lv_iload_n hx hb dX2_wordAcross_25 rfl (lv_at hl 4 rfl) ?_
      obtain ⟨hin, hE⟩ := gd_some hE
      refine ww_lald hx hb hW t0 (Nat.lt_of_lt_of_le ht0 (by decide)) (lLen_in ht0 hin) dX2_wordAcross_26 ?_
      refine lv_lload hx hb dX2_wordAcross_27 (lv_at hl 0 rfl) ?_
      refine lv_land hx hb dX2_wordAcross_29 ?_
      refine lv_iload_n hx hb dX2_wordAcross_30 rfl (lv_at hl 1 rfl) ?_
      refine lv_lushr (v := (lush ((gL t0 st x2) &&& x4_11) x3_9)) hx hb dX2_wordAcross_31 rfl ?_
      refine lv_aload_n hx hb dX2_wordAcross_32 rfl (lv_at hl 2 rfl) ?_
      refine ww_get (C := RX2) (T := TX2) (N := 1) (ref := RX2) (ci := 2) (v := .ref (ad (lc t0))) hx hb hts hin2 hown hW (tc t0) (cE_T (ad := ad) (ks := ks) (st := st) ht0).1 (cE_T ht0).2 rfl 0 (by decide) hf11 (fun _ h9 => h9) rfl dX2_wordAcross_33 ?_
      refine lv_iload_n hx hb dX2_wordAcross_36 rfl (lv_at hl 4 rfl) ?_
      obtain ⟨hin, hE⟩ := gd_some hE
      refine ww_lald hx hb hW t0 (Nat.lt_of_lt_of_le ht0 (by decide)) (lLen_in ht0 hin) dX2_wordAcross_37 ?_
      refine lv_iload_n hx hb dX2_wordAcross_38 rfl (lv_at hl 1 rfl) ?_
      refine lv_lshl (v := (lshl (gL t0 st x2) x3_9)) hx hb dX2_wordAcross_39 rfl ?_
      refine lv_lload hx hb dX2_wordAcross_40 (lv_at hl 0 rfl) ?_
      refine lv_land hx hb dX2_wordAcross_42 ?_
      refine lv_lor hx hb dX2_wordAcross_43 ?_
      obtain rfl := some_x hE
      exact W.lret hx hb hr (fun t ht hWm => hW.ql ht hWm) hW.2.2.1.2.2 dX2_wordAcross_44
abbrev rmX2_wordWith : Room := { frames := 1, cells := 0, slots := 0, locals := 25 }
set_option maxRecDepth 100000 in
theorem in2_X2_wordWith : ∀ w ∈ wsX20, w ∈ wsX2_wordWith := by decide +kernel
set_option maxHeartbeats 4000000 in
set_option maxRecDepth 100000 in
theorem ctX2_wordWith (l : Launch) (D : va_G) (ks : KA) (ad : Nat → Nat) (sz : Nat) (st : St) (t0 : Nat) (x1 : Int32) (x2 : Int32) (x3 : Int32) (ht0 : t0 < 15) {r : Int64}  (hE : sX2_wordWith st t0 x1 x2 x3 = some r) : CJ l D ks yX2_wordWith wsX2_wordWith rmX2_wordWith [.ref (ad (tc t0)), .int x1, .int x2, .int x3] ad sz st r st := by
  unfold sX2_wordWith at hE
  refine Met.ofW (cc := cX2_wordWith) (maxL := 8) (ret := (some .long)) (by decide) rfl ?_
  intro p e s m args below meth c s₁ B hml hv
  obtain ⟨hargs, hPW⟩ := hv
  have hW := WW.entry hPW
  have hx := B.exec
  have hb := B.bytes
  have hr := B.returns
  have hts := atoms_spec (ws := wsX2_wordWith) B.pre
  have hown : s.vm.findClass RX2 = some m.cls := findClass_of_methodNamed B.named
  have hlocks := B.notSynchronized
  have hin2 : ∀ w ∈ u_ws RX2 TX2 1, w ∈ wsX2_wordWith := in2_X2_wordWith
  have hf11 := hts (.fieldLink RX2 11 "Trellis$Table" "words" "[J") (by decide +kernel)
  have hl := lv_entry ([.ref (ad (tc t0)), .int x1, .int x2, .int x3]) (n := 8) (Nat.le_of_ble_eq_true rfl)
  have hfr : entryFrame m args 8 = F0 m 0 (lg_sl ([.ref (ad (tc t0)), .int x1, .int x2, .int x3]) ++ List.replicate (8 - (lg_sl ([.ref (ad (tc t0)), .int x1, .int x2, .int x3])).length) Slot.unset).toArray [] := by rw [hargs, lg_entry_eq]
  rw [hfr]
  generalize (lg_sl ([.ref (ad (tc t0)), .int x1, .int x2, .int x3]) ++ List.replicate (8 - (lg_sl ([.ref (ad (tc t0)), .int x1, .int x2, .int x3])).length) Slot.unset).toArray = ls at hl ⊢
  have hl : lv_has ls 8 [(0, .ref (ad (tc t0))), (1, .int x1), (2, .int x2), (3, .int x3)] := hl
  refine lv_iload_n hx hb dX2_wordWith_0 rfl (lv_at hl 1 rfl) ?_
  refine lv_iload_n hx hb dX2_wordWith_1 rfl (lv_at hl 3 rfl) ?_
  obtain ⟨r_2, hc_1, hE⟩ := ob_some hE
  refine ww_callSl (As := [.int x1, .int x3]) (rest := []) ⟨hx, hb, hml, hown, hts⟩ hW (ctX2_wordOfVariable l D ks ad _ st x1 x3 hc_1) (va_cwS 2 hts gX2_wordWith_X2_wordOfVariable rfl rfl rfl (by decide +kernel) ⟨Nat.le_of_ble_eq_true rfl, Nat.le_of_ble_eq_true rfl⟩) rfl hl.1 rfl (Nat.le_of_ble_eq_true rfl) dX2_wordWith_2 ⟨Nat.zero_le _, Nat.zero_le _⟩ (fun H locs hW => ?_)
  refine lv_lstore (lv' := [(4, .long r_2), (0, .ref (ad (tc t0))), (1, .int x1), (2, .int x2), (3, .int x3)]) hx hb dX2_wordWith_5 hl (by decide) rfl (fun ls hl => ?_)
  refine lv_iload_n hx hb dX2_wordWith_7 rfl (lv_at hl 3 rfl) ?_
  refine lv_if_eq (tgt := 16) hx hb dX2_wordWith_8 (by decide) (fun c_3 => ?_) (fun c_3 => ?_)
  · have hE := if_t c_3 hE
    refine lv_lload hx hb dX2_wordWith_16 (lv_at hl 0 rfl) ?_
    refine lv_ldc2 (v := (-1)) hx hb hown (hts (.constantLong RX2 18 (-1)) (by decide +kernel)) dX2_wordWith_18 ?_
    refine lv_lxor hx hb dX2_wordWith_21 ?_
    obtain ⟨x6_4, e, hE⟩ := lt_some hE
    refine lv_nml e ?_
    refine lv_lstore (lv' := [(6, .long x6_4), (4, .long r_2), (0, .ref (ad (tc t0))), (1, .int x1), (2, .int x2), (3, .int x3)]) hx hb dX2_wordWith_22 hl (by decide) rfl (fun ls hl => ?_)
    refine lv_aload_n hx hb dX2_wordWith_24 rfl (lv_at hl 2 rfl) ?_
    refine ww_get (C := RX2) (T := TX2) (N := 1) (ref := RX2) (ci := 2) (v := .ref (ad (lc t0))) hx hb hts hin2 hown hW (tc t0) (cE_T (ad := ad) (ks := ks) (st := st) ht0).1 (cE_T ht0).2 rfl 0 (by decide) hf11 (fun _ h9 => h9) rfl dX2_wordWith_25 ?_
    refine lv_iload_n hx hb dX2_wordWith_28 rfl (lv_at hl 5 rfl) ?_
    obtain ⟨hin, hE⟩ := gd_some hE
    refine ww_lald hx hb hW t0 (Nat.lt_of_lt_of_le ht0 (by decide)) (lLen_in ht0 hin) dX2_wordWith_29 ?_
    refine lv_lload hx hb dX2_wordWith_30 (lv_at hl 0 rfl) ?_
    refine lv_land hx hb dX2_wordWith_32 ?_
    refine lv_aload_n hx hb dX2_wordWith_33 rfl (lv_at hl 2 rfl) ?_
    refine lv_iload_n hx hb dX2_wordWith_34 rfl (lv_at hl 3 rfl) ?_
    refine lv_iload_n hx hb dX2_wordWith_35 rfl (lv_at hl 5 rfl) ?_
    obtain ⟨r_6, hc_5, hE⟩ := ob_some hE
    refine ww_callVl (As := [.int x1, .int x3]) (rest := [.long ((gL t0 st x3) &&& x6_4)]) ⟨hx, hb, hml, hown, hts⟩ hW (ctX2_wordAcross l D ks ad _ st t0 x1 x3 ht0 hc_5) (cwV 2 hts gX2_wordWith_X2_wordAcross rfl rfl rfl (by decide +kernel) ⟨Nat.le_of_ble_eq_true rfl, Nat.le_of_ble_eq_true rfl⟩) (hW.recvT ht0) rfl hl.1 rfl (Nat.le_of_ble_eq_true rfl) dX2_wordWith_36 ⟨Nat.zero_le _, Nat.zero_le _⟩ (fun H locs hW => ?_)
    refine lv_lload hx hb dX2_wordWith_39 (lv_at hl 0 rfl) ?_
    refine lv_ldc2 (v := (-1)) hx hb hown (hts (.constantLong RX2 18 (-1)) (by decide +kernel)) dX2_wordWith_41 ?_
    refine lv_lxor hx hb dX2_wordWith_44 ?_
    refine lv_land hx hb dX2_wordWith_45 ?_
    refine lv_lor hx hb dX2_wordWith_46 ?_
    obtain rfl := some_x hE
    exact W.lret hx hb hr (fun t ht hWm => hW.ql ht hWm) hW.2.2.1.2.2 dX2_wordWith_47
  · have hE := if_f c_3 hE
    refine lv_lload hx hb dX2_wordWith_11 (lv_at hl 0 rfl) ?_
    refine lv_goto (tgt := 22) hx hb dX2_wordWith_13 (by decide) ?_
    refine lv_lstore (lv' := [(6, .long r_2), (4, .long r_2), (0, .ref (ad (tc t0))), (1, .int x1), (2, .int x2), (3, .int x3)]) hx hb dX2_wordWith_22 hl (by decide) rfl (fun ls hl => ?_)
    refine lv_aload_n hx hb dX2_wordWith_24 rfl (lv_at hl 2 rfl) ?_
    refine ww_get (C := RX2) (T := TX2) (N := 1) (ref := RX2) (ci := 2) (v := .ref (ad (lc t0))) hx hb hts hin2 hown hW (tc t0) (cE_T (ad := ad) (ks := ks) (st := st) ht0).1 (cE_T ht0).2 rfl 0 (by decide) hf11 (fun _ h9 => h9) rfl dX2_wordWith_25 ?_
    refine lv_iload_n hx hb dX2_wordWith_28 rfl (lv_at hl 5 rfl) ?_
    obtain ⟨hin, hE⟩ := gd_some hE
    refine ww_lald hx hb hW t0 (Nat.lt_of_lt_of_le ht0 (by decide)) (lLen_in ht0 hin) dX2_wordWith_29 ?_
    refine lv_lload hx hb dX2_wordWith_30 (lv_at hl 0 rfl) ?_
    refine lv_land hx hb dX2_wordWith_32 ?_
    refine lv_aload_n hx hb dX2_wordWith_33 rfl (lv_at hl 2 rfl) ?_
    refine lv_iload_n hx hb dX2_wordWith_34 rfl (lv_at hl 3 rfl) ?_
    refine lv_iload_n hx hb dX2_wordWith_35 rfl (lv_at hl 5 rfl) ?_
    obtain ⟨r_8, hc_7, hE⟩ := ob_some hE
    refine ww_callVl (As := [.int x1, .int x3]) (rest := [.long ((gL t0 st x3) &&& r_2)]) ⟨hx, hb, hml, hown, hts⟩ hW (ctX2_wordAcross l D ks ad _ st t0 x1 x3 ht0 hc_7) (cwV 2 hts gX2_wordWith_X2_wordAcross rfl rfl rfl (by decide +kernel) ⟨Nat.le_of_ble_eq_true rfl, Nat.le_of_ble_eq_true rfl⟩) (hW.recvT ht0) rfl hl.1 rfl (Nat.le_of_ble_eq_true rfl) dX2_wordWith_36 ⟨Nat.zero_le _, Nat.zero_le _⟩ (fun H locs hW => ?_)
    refine lv_lload hx hb dX2_wordWith_39 (lv_at hl 0 rfl) ?_
    refine lv_ldc2 (v := (-1)) hx hb hown (hts (.constantLong RX2 18 (-1)) (by decide +kernel)) dX2_wordWith_41 ?_
    refine lv_lxor hx hb dX2_wordWith_44 ?_
    refine lv_land hx hb dX2_wordWith_45 ?_
    refine lv_lor hx hb dX2_wordWith_46 ?_
    obtain rfl := some_x hE
    exact W.lret hx hb hr (fun t ht hWm => hW.ql ht hWm) hW.2.2.1.2.2 dX2_wordWith_47
abbrev rmX2_copy : Room := { frames := 1, cells := 0, slots := 0, locals := 60 }
set_option maxRecDepth 100000 in
theorem in2_X2_copy : ∀ w ∈ wsX20, w ∈ wsX2_copy := by decide +kernel
set_option maxHeartbeats 4000000 in
set_option maxRecDepth 100000 in
theorem ctX2_copy (l : Launch) (D : va_G) (ks : KA) (ad : Nat → Nat) (sz : Nat) (st : St) (t0 : Nat) (t1 : Nat) (ht0 : t0 < 15) (ht1 : t1 < 15) {st' : St} (hE : sX2_copy st t0 t1 = some st') : CV l D ks yX2_copy wsX2_copy rmX2_copy [.ref (ad (tc t0)), .ref (ad (tc t1))] ad sz st st' := by
  unfold sX2_copy at hE
  refine Met.ofW (cc := cX2_copy) (maxL := 2) (ret := none) (by decide) rfl ?_
  intro p e s m args below meth c s₁ B hml hv
  obtain ⟨hargs, hPW⟩ := hv
  have hW := WW.entry hPW
  have hx := B.exec
  have hb := B.bytes
  have hr := B.returns
  have hts := atoms_spec (ws := wsX2_copy) B.pre
  have hown : s.vm.findClass RX2 = some m.cls := findClass_of_methodNamed B.named
  have hlocks := B.notSynchronized
  have hin2 : ∀ w ∈ u_ws RX2 TX2 1, w ∈ wsX2_copy := in2_X2_copy
  have hf11 := hts (.fieldLink RX2 11 "Trellis$Table" "words" "[J") (by decide +kernel)
  have hl := lv_entry ([.ref (ad (tc t0)), .ref (ad (tc t1))]) (n := 2) (Nat.le_of_ble_eq_true rfl)
  have hfr : entryFrame m args 2 = F0 m 0 (lg_sl ([.ref (ad (tc t0)), .ref (ad (tc t1))]) ++ List.replicate (2 - (lg_sl ([.ref (ad (tc t0)), .ref (ad (tc t1))])).length) Slot.unset).toArray [] := by rw [hargs, lg_entry_eq]
  rw [hfr]
  generalize (lg_sl ([.ref (ad (tc t0)), .ref (ad (tc t1))]) ++ List.replicate (2 - (lg_sl ([.ref (ad (tc t0)), .ref (ad (tc t1))])).length) Slot.unset).toArray = ls at hl ⊢
  have hl : lv_has ls 2 [(0, .ref (ad (tc t0))), (1, .ref (ad (tc t1)))] := hl
  refine lv_aload_n hx hb dX2_copy_0 rfl (lv_at hl 1 rfl) ?_
  refine ww_get (C := RX2) (T := TX2) (N := 1) (ref := RX2) (ci := 2) (v := .ref (ad (lc t1))) hx hb hts hin2 hown hW (tc t1) (cE_T (ad := ad) (ks := ks) (st := st) ht1).1 (cE_T ht1).2 rfl 0 (by decide) hf11 (fun _ h9 => h9) rfl dX2_copy_1 ?_
  refine lv_iconst (v := 0) hx hb dX2_copy_4 (by decide) ?_
  refine lv_aload_n hx hb dX2_copy_5 rfl (lv_at hl 0 rfl) ?_
  refine ww_get (C := RX2) (T := TX2) (N := 1) (ref := RX2) (ci := 2) (v := .ref (ad (lc t0))) hx hb hts hin2 hown hW (tc t0) (cE_T (ad := ad) (ks := ks) (st := st) ht0).1 (cE_T ht0).2 rfl 0 (by decide) hf11 (fun _ h9 => h9) rfl dX2_copy_6 ?_
  refine lv_iconst (v := 0) hx hb dX2_copy_9 (by decide) ?_
  refine lv_bipush (v := 16) hx hb dX2_copy_10 (by decide) ?_
  obtain ⟨hi1, hE⟩ := gd_some hE
  obtain ⟨hi2, hE⟩ := gd_some hE
  obtain ⟨hi3, hE⟩ := gd_some hE
  obtain ⟨⟨hi4, hi5⟩, hE⟩ := if_some hE
  obtain ⟨st_1, est, hE⟩ := lt_some hE
  refine ww_copyl hx hb (hml.trans hl.1.symm) hown (hts (.methodLink RX2 27 arraycopyName) (by decide +kernel)) (hts (.native arraycopyName) (by decide +kernel)) (hts (.static arraycopyName) (by decide +kernel)) (hts (.initialized "java/lang/System") (by decide +kernel)) hW t1 t0 (Nat.lt_of_lt_of_le ht1 (by decide)) (Nat.lt_of_lt_of_le ht0 (by decide)) (lLen_in1 ht1 hi1) (lLen_in1 ht0 hi2) (lLen_in1 ht1 hi3) (lLen_le ht1 hi4) (lLen_le ht0 hi5) est (Nat.le_of_ble_eq_true rfl) (Nat.le_of_ble_eq_true rfl) dX2_copy_12 (fun H locs hW => ?_)
  obtain rfl := some_x hE
  exact W.vret hx hb hr (fun t ht hWm => hW.qv ht hWm) hW.2.2.1.2.2 dX2_copy_15
abbrev rmJ13_bitCount_95d88 : Room := { frames := 0, cells := 0, slots := 0, locals := 0 }
set_option maxHeartbeats 4000000 in
set_option maxRecDepth 100000 in
theorem ctJ13_bitCount_95d88 (l : Launch) (D : va_G) (ks : KA) (ad : Nat → Nat) (sz : Nat) (st : St) (x0 : Int64)  {r : Int32}  (hE : sJ13_bitCount_95d88 st x0 = some r) : CI l D ks yJ13_bitCount_95d88 wsJ13_bitCount_95d88 rmJ13_bitCount_95d88 [.long x0] ad sz st r st := by
  unfold sJ13_bitCount_95d88 at hE
  refine Met.ofW (cc := cJ13_bitCount_95d88) (maxL := 2) (ret := (some .int)) (by decide) rfl ?_
  intro p e s m args below meth c s₁ B hml hv
  obtain ⟨hargs, hPW⟩ := hv
  have hW := WW.entry hPW
  have hx := B.exec
  have hb := B.bytes
  have hr := B.returns
  have hts := atoms_spec (ws := wsJ13_bitCount_95d88) B.pre
  have hown : s.vm.findClass RJ13 = some m.cls := findClass_of_methodNamed B.named
  have hlocks := B.notSynchronized
  have hl := lv_entry ([.long x0]) (n := 2) (Nat.le_of_ble_eq_true rfl)
  have hfr : entryFrame m args 2 = F0 m 0 (lg_sl ([.long x0]) ++ List.replicate (2 - (lg_sl ([.long x0])).length) Slot.unset).toArray [] := by rw [hargs, lg_entry_eq]
  rw [hfr]
  generalize (lg_sl ([.long x0]) ++ List.replicate (2 - (lg_sl ([.long x0])).length) Slot.unset).toArray = ls at hl ⊢
  have hl : lv_has ls 2 [(0, .long x0)] := hl
  refine lv_lload_n hx hb dJ13_bitCount_95d88_0 rfl (lv_at hl 0 rfl) ?_
  refine lv_lload_n hx hb dJ13_bitCount_95d88_1 rfl (lv_at hl 0 rfl) ?_
  refine lv_iconst (v := 1) hx hb dJ13_bitCount_95d88_2 (by decide) ?_
  refine lv_lushr (v := (lush x0 (1 : Int32))) hx hb dJ13_bitCount_95d88_3 rfl ?_
  refine lv_ldc2 (v := 6148914691236517205) hx hb hown (hts (.constantLong RJ13 314 6148914691236517205) (by decide +kernel)) dJ13_bitCount_95d88_4 ?_
  refine lv_land hx hb dJ13_bitCount_95d88_7 ?_
  refine lv_lsub hx hb dJ13_bitCount_95d88_8 ?_
  obtain ⟨x0_1, e, hE⟩ := lt_some hE
  refine lv_nml e ?_
  refine lv_lstore_n (lv' := [(0, .long x0_1)]) hx hb dJ13_bitCount_95d88_9 rfl hl (by decide) rfl (fun ls hl => ?_)
  refine lv_lload_n hx hb dJ13_bitCount_95d88_10 rfl (lv_at hl 0 rfl) ?_
  refine lv_ldc2 (v := 3689348814741910323) hx hb hown (hts (.constantLong RJ13 316 3689348814741910323) (by decide +kernel)) dJ13_bitCount_95d88_11 ?_
  refine lv_land hx hb dJ13_bitCount_95d88_14 ?_
  refine lv_lload_n hx hb dJ13_bitCount_95d88_15 rfl (lv_at hl 0 rfl) ?_
  refine lv_iconst (v := 2) hx hb dJ13_bitCount_95d88_16 (by decide) ?_
  refine lv_lushr (v := (lush x0_1 (2 : Int32))) hx hb dJ13_bitCount_95d88_17 rfl ?_
  refine lv_ldc2 (v := 3689348814741910323) hx hb hown (hts (.constantLong RJ13 316 3689348814741910323) (by decide +kernel)) dJ13_bitCount_95d88_18 ?_
  refine lv_land hx hb dJ13_bitCount_95d88_21 ?_
  refine lv_ladd hx hb dJ13_bitCount_95d88_22 ?_
  obtain ⟨x0_2, e, hE⟩ := lt_some hE
  refine lv_nml e ?_
  refine lv_lstore_n (lv' := [(0, .long x0_2)]) hx hb dJ13_bitCount_95d88_23 rfl hl (by decide) rfl (fun ls hl => ?_)
  refine lv_lload_n hx hb dJ13_bitCount_95d88_24 rfl (lv_at hl 0 rfl) ?_
  refine lv_lload_n hx hb dJ13_bitCount_95d88_25 rfl (lv_at hl 0 rfl) ?_
  refine lv_iconst (v := 4) hx hb dJ13_bitCount_95d88_26 (by decide) ?_
  refine lv_lushr (v := (lush x0_2 (4 : Int32))) hx hb dJ13_bitCount_95d88_27 rfl ?_
  refine lv_ladd hx hb dJ13_bitCount_95d88_28 ?_
  refine lv_ldc2 (v := 1085102592571150095) hx hb hown (hts (.constantLong RJ13 318 1085102592571150095) (by decide +kernel)) dJ13_bitCount_95d88_29 ?_
  refine lv_land hx hb dJ13_bitCount_95d88_32 ?_
  obtain ⟨x0_3, e, hE⟩ := lt_some hE
  refine lv_nml e ?_
  refine lv_lstore_n (lv' := [(0, .long x0_3)]) hx hb dJ13_bitCount_95d88_33 rfl hl (by decide) rfl (fun ls hl => ?_)
  refine lv_lload_n hx hb dJ13_bitCount_95d88_34 rfl (lv_at hl 0 rfl) ?_
  refine lv_lload_n hx hb dJ13_bitCount_95d88_35 rfl (lv_at hl 0 rfl) ?_
  refine lv_bipush (v := 8) hx hb dJ13_bitCount_95d88_36 (by decide) ?_
  refine lv_lushr (v := (lush x0_3 (8 : Int32))) hx hb dJ13_bitCount_95d88_38 rfl ?_
  refine lv_ladd hx hb dJ13_bitCount_95d88_39 ?_
  obtain ⟨x0_4, e, hE⟩ := lt_some hE
  refine lv_nml e ?_
  refine lv_lstore_n (lv' := [(0, .long x0_4)]) hx hb dJ13_bitCount_95d88_40 rfl hl (by decide) rfl (fun ls hl => ?_)
  refine lv_lload_n hx hb dJ13_bitCount_95d88_41 rfl (lv_at hl 0 rfl) ?_
  refine lv_lload_n hx hb dJ13_bitCount_95d88_42 rfl (lv_at hl 0 rfl) ?_
  refine lv_bipush (v := 16) hx hb dJ13_bitCount_95d88_43 (by decide) ?_
  refine lv_lushr (v := (lush x0_4 (16 : Int32))) hx hb dJ13_bitCount_95d88_45 rfl ?_
  refine lv_ladd hx hb dJ13_bitCount_95d88_46 ?_
  obtain ⟨x0_5, e, hE⟩ := lt_some hE
  refine lv_nml e ?_
  refine lv_lstore_n (lv' := [(0, .long x0_5)]) hx hb dJ13_bitCount_95d88_47 rfl hl (by decide) rfl (fun ls hl => ?_)
  refine lv_lload_n hx hb dJ13_bitCount_95d88_48 rfl (lv_at hl 0 rfl) ?_
  refine lv_lload_n hx hb dJ13_bitCount_95d88_49 rfl (lv_at hl 0 rfl) ?_
  refine lv_bipush (v := 32) hx hb dJ13_bitCount_95d88_50 (by decide) ?_
  refine lv_lushr (v := (lush x0_5 (32 : Int32))) hx hb dJ13_bitCount_95d88_52 rfl ?_
  refine lv_ladd hx hb dJ13_bitCount_95d88_53 ?_
  obtain ⟨x0_6, e, hE⟩ := lt_some hE
  refine lv_nml e ?_
  refine lv_lstore_n (lv' := [(0, .long x0_6)]) hx hb dJ13_bitCount_95d88_54 rfl hl (by decide) rfl (fun ls hl => ?_)
  refine lv_lload_n hx hb dJ13_bitCount_95d88_55 rfl (lv_at hl 0 rfl) ?_
  refine lv_l2i (v := x0_6.toInt32) hx hb dJ13_bitCount_95d88_56 rfl ?_
  refine lv_bipush (v := 127) hx hb dJ13_bitCount_95d88_57 (by decide) ?_
  refine lv_iand hx hb dJ13_bitCount_95d88_59 ?_
  obtain rfl := some_x hE
  exact W.iret hx hb hr (fun t ht hWm => hW.qi ht hWm) hW.2.2.1.2.2 dJ13_bitCount_95d88_60
abbrev rmX2_count : Room := { frames := 1, cells := 0, slots := 0, locals := 21 }
set_option maxRecDepth 100000 in
theorem in2_X2_count : ∀ w ∈ wsX20, w ∈ wsX2_count := by decide +kernel
set_option maxHeartbeats 4000000 in
set_option maxRecDepth 100000 in
theorem ctX2_count (l : Launch) (D : va_G) (ks : KA) (ad : Nat → Nat) (sz : Nat) (st : St) (t0 : Nat) (ht0 : t0 < 15) {r : Int32}  (hE : sX2_count st t0 = some r) : CI l D ks yX2_count wsX2_count rmX2_count [.ref (ad (tc t0))] ad sz st r st := by
  unfold sX2_count at hE
  refine Met.ofW (cc := cX2_count) (maxL := 3) (ret := (some .int)) (by decide) rfl ?_
  intro p e s m args below meth c s₁ B hml hv
  obtain ⟨hargs, hPW⟩ := hv
  have hW := WW.entry hPW
  have hx := B.exec
  have hb := B.bytes
  have hr := B.returns
  have hts := atoms_spec (ws := wsX2_count) B.pre
  have hown : s.vm.findClass RX2 = some m.cls := findClass_of_methodNamed B.named
  have hlocks := B.notSynchronized
  have hin2 : ∀ w ∈ u_ws RX2 TX2 1, w ∈ wsX2_count := in2_X2_count
  have hf11 := hts (.fieldLink RX2 11 "Trellis$Table" "words" "[J") (by decide +kernel)
  have hl := lv_entry ([.ref (ad (tc t0))]) (n := 3) (Nat.le_of_ble_eq_true rfl)
  have hfr : entryFrame m args 3 = F0 m 0 (lg_sl ([.ref (ad (tc t0))]) ++ List.replicate (3 - (lg_sl ([.ref (ad (tc t0))])).length) Slot.unset).toArray [] := by rw [hargs, lg_entry_eq]
  rw [hfr]
  generalize (lg_sl ([.ref (ad (tc t0))]) ++ List.replicate (3 - (lg_sl ([.ref (ad (tc t0))])).length) Slot.unset).toArray = ls at hl ⊢
  have hl : lv_has ls 3 [(0, .ref (ad (tc t0)))] := hl
  have L4 : ∀ (n : Nat) (st : St) (t0 : Nat) (x1 : Int32) (x2 : Int32) (hu0 : t0 < 15) (z1 : Int32) (H : Heap) (locs : List Loc) (ls : Array Slot), sX2_count_L4 n st t0 x1 x2 = some z1 → WW D ks ad (AA ad sz) s st H locs → lv_has ls 3 [(0, .ref (ad (tc t0))), (1, .int x1), (2, .int x2)] → (∀ (H : Heap) (locs : List Loc) (ls : Array Slot), WW D ks ad (AA ad sz) s st H locs → lv_has ls 3 [(1, .int z1)] → W p l e (headSpec wsX2_count rmX2_count).room s m args below meth c H locs 0 0 (MQ below (va_Qi (fun (x : Int32) (u : St) => x = r ∧ u = st) (QW D ks ad sz) (AA ad sz)) args s 0 0 (AA ad sz)) (F0 m 28 ls [])) → W p l e (headSpec wsX2_count rmX2_count).room s m args below meth c H locs 0 0 (MQ below (va_Qi (fun (x : Int32) (u : St) => x = r ∧ u = st) (QW D ks ad sz) (AA ad sz)) args s 0 0 (AA ad sz)) (F0 m 4 ls []) := by
    intro n
    induction n with
    | zero =>
      intro st t0 x1 x2 hu0 z1 H locs ls hE hW hl kx
      exact none_x hE
    | succ n ih =>
      intro st t0 x1 x2 hu0 z1 H locs ls hE hW hl kx
      rw [sX2_count_L4] at hE
      refine lv_iload_n hx hb dX2_count_4 rfl (lv_at hl 2 rfl) ?_
      refine lv_bipush (v := 16) hx hb dX2_count_5 (by decide) ?_
      refine lv_icmp_ge (tgt := 28) hx hb dX2_count_7 (by decide) (fun c_1 => ?_) (fun c_1 => ?_)
      · have hE := if_t c_1 hE
        obtain rfl := some_x hE
        exact kx _ _ _ hW (lv_sub hl [1] rfl)
      · have hE := if_f c_1 hE
        refine lv_iload_n hx hb dX2_count_10 rfl (lv_at hl 1 rfl) ?_
        refine lv_aload_n hx hb dX2_count_11 rfl (lv_at hl 0 rfl) ?_
        refine ww_get (C := RX2) (T := TX2) (N := 1) (ref := RX2) (ci := 2) (v := .ref (ad (lc t0))) hx hb hts hin2 hown hW (tc t0) (cE_T (ad := ad) (ks := ks) (st := st) hu0).1 (cE_T hu0).2 rfl 0 (by decide) hf11 (fun _ h9 => h9) rfl dX2_count_12 ?_
        refine lv_iload_n hx hb dX2_count_15 rfl (lv_at hl 2 rfl) ?_
        obtain ⟨hin, hE⟩ := gd_some hE
        refine ww_lald hx hb hW t0 (Nat.lt_of_lt_of_le hu0 (by decide)) (lLen_in hu0 hin) dX2_count_16 ?_
        obtain ⟨r_3, hc_2, hE⟩ := ob_some hE
        refine ww_callSi (As := [.long (gL t0 st x2)]) (rest := [.int x1]) ⟨hx, hb, hml, hown, hts⟩ hW (ctJ13_bitCount_95d88 l D ks ad _ st (gL t0 st x2) hc_2) (va_cwS 1 hts gX2_count_J13_bitCount_95d88 rfl rfl rfl (by decide +kernel) ⟨Nat.le_of_ble_eq_true rfl, Nat.le_of_ble_eq_true rfl⟩) rfl hl.1 rfl (Nat.le_of_ble_eq_true rfl) dX2_count_17 ⟨Nat.zero_le _, Nat.zero_le _⟩ (fun H locs hW => ?_)
        refine lv_iadd hx hb dX2_count_20 ?_
        obtain ⟨x1_4, e, hE⟩ := lt_some hE
        refine lv_nmi e ?_
        refine lv_istore_n (lv' := [(1, .int x1_4), (0, .ref (ad (tc t0))), (2, .int x2)]) hx hb dX2_count_21 rfl hl (by decide) rfl (fun ls hl => ?_)
        obtain ⟨x2_5, e, hE⟩ := lt_some hE
        refine lv_iinc (v := x2_5) (lv' := [(2, .int x2_5), (1, .int x1_4), (0, .ref (ad (tc t0)))]) hx hb dX2_count_22 hl (k := 2) rfl (by rw [e]; rfl) (by decide) rfl (fun ls hl => ?_)
        refine lv_goto (tgt := 4) hx hb dX2_count_25 (by decide) ?_
        exact ih st t0 x1_4 x2_5 hu0 _ _ _ _ hE hW (lv_sub hl [2, 1, 0] rfl) kx
  refine lv_iconst (v := 0) hx hb dX2_count_0 (by decide) ?_
  refine lv_istore_n (lv' := [(1, .int (0 : Int32)), (0, .ref (ad (tc t0)))]) hx hb dX2_count_1 rfl hl (by decide) rfl (fun ls hl => ?_)
  refine lv_iconst (v := 0) hx hb dX2_count_2 (by decide) ?_
  refine lv_istore_n (lv' := [(2, .int (0 : Int32)), (1, .int (0 : Int32)), (0, .ref (ad (tc t0)))]) hx hb dX2_count_3 rfl hl (by decide) rfl (fun ls hl => ?_)
  obtain ⟨x1_6, hz, hE⟩ := ob_some hE
  refine L4 FU st t0 (0 : Int32) (0 : Int32) ht0 x1_6 _ _ _ hz hW (lv_sub hl [2, 1, 0] rfl) (fun H locs ls hW hl => ?_)
  refine lv_iload_n hx hb dX2_count_28 rfl (lv_at hl 0 rfl) ?_
  obtain rfl := some_x hE
  exact W.iret hx hb hr (fun t ht hWm => hW.qi ht hWm) hW.2.2.1.2.2 dX2_count_29
abbrev rmX2_nthInWord : Room := { frames := 1, cells := 0, slots := 0, locals := 21 }
set_option maxHeartbeats 4000000 in
set_option maxRecDepth 100000 in
theorem ctX2_nthInWord (l : Launch) (D : va_G) (ks : KA) (ad : Nat → Nat) (sz : Nat) (st : St) (x0 : Int64) (x2 : Int32)  {r : Int32}  (hE : sX2_nthInWord st x0 x2 = some r) : CI l D ks yX2_nthInWord wsX2_nthInWord rmX2_nthInWord [.long x0, .int x2] ad sz st r st := by
  unfold sX2_nthInWord at hE
  refine Met.ofW (cc := cX2_nthInWord) (maxL := 6) (ret := (some .int)) (by decide) rfl ?_
  intro p e s m args below meth c s₁ B hml hv
  obtain ⟨hargs, hPW⟩ := hv
  have hW := WW.entry hPW
  have hx := B.exec
  have hb := B.bytes
  have hr := B.returns
  have hts := atoms_spec (ws := wsX2_nthInWord) B.pre
  have hown : s.vm.findClass RX2 = some m.cls := findClass_of_methodNamed B.named
  have hlocks := B.notSynchronized
  have hl := lv_entry ([.long x0, .int x2]) (n := 6) (Nat.le_of_ble_eq_true rfl)
  have hfr : entryFrame m args 6 = F0 m 0 (lg_sl ([.long x0, .int x2]) ++ List.replicate (6 - (lg_sl ([.long x0, .int x2])).length) Slot.unset).toArray [] := by rw [hargs, lg_entry_eq]
  rw [hfr]
  generalize (lg_sl ([.long x0, .int x2]) ++ List.replicate (6 - (lg_sl ([.long x0, .int x2])).length) Slot.unset).toArray = ls at hl ⊢
  have hl : lv_has ls 6 [(0, .long x0), (2, .int x2)] := hl
  have L5 : ∀ (n : Nat) (st : St) (x2 : Int32) (x3 : Int64) (x5 : Int32)  (z3 : Int64) (H : Heap) (locs : List Loc) (ls : Array Slot), sX2_nthInWord_L5 n st x2 x3 x5 = some z3 → WW D ks ad (AA ad sz) s st H locs → lv_has ls 6 [(2, .int x2), (3, .long x3), (5, .int x5)] → (∀ (H : Heap) (locs : List Loc) (ls : Array Slot), WW D ks ad (AA ad sz) s st H locs → lv_has ls 6 [(3, .long z3)] → W p l e (headSpec wsX2_nthInWord rmX2_nthInWord).room s m args below meth c H locs 0 0 (MQ below (va_Qi (fun (x : Int32) (u : St) => x = r ∧ u = st) (QW D ks ad sz) (AA ad sz)) args s 0 0 (AA ad sz)) (F0 m 23 ls [])) → W p l e (headSpec wsX2_nthInWord rmX2_nthInWord).room s m args below meth c H locs 0 0 (MQ below (va_Qi (fun (x : Int32) (u : St) => x = r ∧ u = st) (QW D ks ad sz) (AA ad sz)) args s 0 0 (AA ad sz)) (F0 m 5 ls []) := by
    intro n
    induction n with
    | zero =>
      intro st x2 x3 x5 z3 H locs ls hE hW hl kx
      exact none_x hE
    | succ n ih =>
      intro st x2 x3 x5 z3 H locs ls hE hW hl kx
      rw [sX2_nthInWord_L5] at hE
      refine lv_iload hx hb dX2_nthInWord_5 (lv_at hl 2 rfl) ?_
      refine lv_iload_n hx hb dX2_nthInWord_7 rfl (lv_at hl 0 rfl) ?_
      refine lv_icmp_ge (tgt := 23) hx hb dX2_nthInWord_8 (by decide) (fun c_1 => ?_) (fun c_1 => ?_)
      · have hE := if_t c_1 hE
        obtain rfl := some_x hE
        exact kx _ _ _ hW (lv_sub hl [1] rfl)
      · have hE := if_f c_1 hE
        refine lv_lload_n hx hb dX2_nthInWord_11 rfl (lv_at hl 1 rfl) ?_
        refine lv_lload_n hx hb dX2_nthInWord_12 rfl (lv_at hl 1 rfl) ?_
        refine lv_lconst (v := 1) hx hb dX2_nthInWord_13 (by decide) ?_
        refine lv_lsub hx hb dX2_nthInWord_14 ?_
        refine lv_land hx hb dX2_nthInWord_15 ?_
        obtain ⟨x3_2, e, hE⟩ := lt_some hE
        refine lv_nml e ?_
        refine lv_lstore_n (lv' := [(3, .long x3_2), (2, .int x2), (5, .int x5)]) hx hb dX2_nthInWord_16 rfl hl (by decide) rfl (fun ls hl => ?_)
        obtain ⟨x5_3, e, hE⟩ := lt_some hE
        refine lv_iinc (v := x5_3) (lv' := [(5, .int x5_3), (3, .long x3_2), (2, .int x2)]) hx hb dX2_nthInWord_17 hl (k := 2) rfl (by rw [e]; rfl) (by decide) rfl (fun ls hl => ?_)
        refine lv_goto (tgt := 5) hx hb dX2_nthInWord_20 (by decide) ?_
        exact ih st x2 x3_2 x5_3 _ _ _ _ hE hW (lv_sub hl [2, 1, 0] rfl) kx
  refine lv_lload_n hx hb dX2_nthInWord_0 rfl (lv_at hl 0 rfl) ?_
  refine lv_lstore_n (lv' := [(3, .long x0), (0, .long x0), (2, .int x2)]) hx hb dX2_nthInWord_1 rfl hl (by decide) rfl (fun ls hl => ?_)
  refine lv_iconst (v := 0) hx hb dX2_nthInWord_2 (by decide) ?_
  refine lv_istore (lv' := [(5, .int (0 : Int32)), (3, .long x0), (0, .long x0), (2, .int x2)]) hx hb dX2_nthInWord_3 hl (by decide) rfl (fun ls hl => ?_)
  obtain ⟨x3_4, hz, hE⟩ := ob_some hE
  refine L5 FU st x2 x0 (0 : Int32) x3_4 _ _ _ hz hW (lv_sub hl [3, 1, 0] rfl) (fun H locs ls hW hl => ?_)
  refine lv_lload_n hx hb dX2_nthInWord_23 rfl (lv_at hl 0 rfl) ?_
  refine lv_ldc2 (v := (-1)) hx hb hown (hts (.constantLong RX2 18 (-1)) (by decide +kernel)) dX2_nthInWord_24 ?_
  refine lv_lxor hx hb dX2_nthInWord_27 ?_
  refine lv_lload_n hx hb dX2_nthInWord_28 rfl (lv_at hl 0 rfl) ?_
  refine lv_lconst (v := 1) hx hb dX2_nthInWord_29 (by decide) ?_
  refine lv_lsub hx hb dX2_nthInWord_30 ?_
  refine lv_land hx hb dX2_nthInWord_31 ?_
  obtain ⟨r_6, hc_5, hE⟩ := ob_some hE
  refine ww_callSi (As := [.long ((x3_4 ^^^ (-1 : Int64)) &&& (x3_4 - (1 : Int64)))]) (rest := []) ⟨hx, hb, hml, hown, hts⟩ hW (ctJ13_bitCount_95d88 l D ks ad _ st ((x3_4 ^^^ (-1 : Int64)) &&& (x3_4 - (1 : Int64))) hc_5) (va_cwS 1 hts gX2_nthInWord_J13_bitCount_95d88 rfl rfl rfl (by decide +kernel) ⟨Nat.le_of_ble_eq_true rfl, Nat.le_of_ble_eq_true rfl⟩) rfl hl.1 rfl (Nat.le_of_ble_eq_true rfl) dX2_nthInWord_32 ⟨Nat.zero_le _, Nat.zero_le _⟩ (fun H locs hW => ?_)
  obtain rfl := some_x hE
  exact W.iret hx hb hr (fun t ht hWm => hW.qi ht hWm) hW.2.2.1.2.2 dX2_nthInWord_35
abbrev rmX2_nth : Room := { frames := 2, cells := 0, slots := 0, locals := 46 }
set_option maxRecDepth 100000 in
theorem in2_X2_nth : ∀ w ∈ wsX20, w ∈ wsX2_nth := by decide +kernel
set_option maxHeartbeats 4000000 in
set_option maxRecDepth 100000 in
theorem ctX2_nth (l : Launch) (D : va_G) (ks : KA) (ad : Nat → Nat) (sz : Nat) (st : St) (t0 : Nat) (x1 : Int32) (ht0 : t0 < 15) {r : Int32}  (hE : sX2_nth st t0 x1 = some r) : CI l D ks yX2_nth wsX2_nth rmX2_nth [.ref (ad (tc t0)), .int x1] ad sz st r st := by
  unfold sX2_nth at hE
  refine Met.ofW (cc := cX2_nth) (maxL := 5) (ret := (some .int)) (by decide) rfl ?_
  intro p e s m args below meth c s₁ B hml hv
  obtain ⟨hargs, hPW⟩ := hv
  have hW := WW.entry hPW
  have hx := B.exec
  have hb := B.bytes
  have hr := B.returns
  have hts := atoms_spec (ws := wsX2_nth) B.pre
  have hown : s.vm.findClass RX2 = some m.cls := findClass_of_methodNamed B.named
  have hlocks := B.notSynchronized
  have hin2 : ∀ w ∈ u_ws RX2 TX2 1, w ∈ wsX2_nth := in2_X2_nth
  have hf11 := hts (.fieldLink RX2 11 "Trellis$Table" "words" "[J") (by decide +kernel)
  have hl := lv_entry ([.ref (ad (tc t0)), .int x1]) (n := 5) (Nat.le_of_ble_eq_true rfl)
  have hfr : entryFrame m args 5 = F0 m 0 (lg_sl ([.ref (ad (tc t0)), .int x1]) ++ List.replicate (5 - (lg_sl ([.ref (ad (tc t0)), .int x1])).length) Slot.unset).toArray [] := by rw [hargs, lg_entry_eq]
  rw [hfr]
  generalize (lg_sl ([.ref (ad (tc t0)), .int x1]) ++ List.replicate (5 - (lg_sl ([.ref (ad (tc t0)), .int x1])).length) Slot.unset).toArray = ls at hl ⊢
  have hl : lv_has ls 5 [(0, .ref (ad (tc t0))), (1, .int x1)] := hl
  have L4 : ∀ (n : Nat) (st : St) (t0 : Nat) (x2 : Int32) (x3 : Int32) (hu0 : t0 < 15) (z : (Int32) ⊕ (Unit)) (H : Heap) (locs : List Loc) (ls : Array Slot), sX2_nth_L4 n st t0 x2 x3 = some z → WW D ks ad (AA ad sz) s st H locs → lv_has ls 5 [(0, .ref (ad (tc t0))), (2, .int x2), (3, .int x3)] → (z = .inr () → ∀ (H : Heap) (locs : List Loc) (ls : Array Slot), WW D ks ad (AA ad sz) s st H locs → lv_has ls 5 [] → W p l e (headSpec wsX2_nth rmX2_nth).room s m args below meth c H locs 0 0 (MQ below (va_Qi (fun (x : Int32) (u : St) => x = r ∧ u = st) (QW D ks ad sz) (AA ad sz)) args s 0 0 (AA ad sz)) (F0 m 54 ls [])) → (∀ a : Int32, z = .inl a → a = r) → W p l e (headSpec wsX2_nth rmX2_nth).room s m args below meth c H locs 0 0 (MQ below (va_Qi (fun (x : Int32) (u : St) => x = r ∧ u = st) (QW D ks ad sz) (AA ad sz)) args s 0 0 (AA ad sz)) (F0 m 4 ls []) := by
    intro n
    induction n with
    | zero =>
      intro st t0 x2 x3 hu0 z H locs ls hE hW hl kx kr
      exact none_x hE
    | succ n ih =>
      intro st t0 x2 x3 hu0 z H locs ls hE hW hl kx kr
      rw [sX2_nth_L4] at hE
      refine lv_iload_n hx hb dX2_nth_4 rfl (lv_at hl 2 rfl) ?_
      refine lv_bipush (v := 16) hx hb dX2_nth_5 (by decide) ?_
      refine lv_icmp_ge (tgt := 54) hx hb dX2_nth_7 (by decide) (fun c_1 => ?_) (fun c_1 => ?_)
      · have hE := if_t c_1 hE
        exact kx  (some_x hE).symm _ _ _ hW (lv_sub hl [] rfl)
      · have hE := if_f c_1 hE
        refine lv_aload_n hx hb dX2_nth_10 rfl (lv_at hl 0 rfl) ?_
        refine ww_get (C := RX2) (T := TX2) (N := 1) (ref := RX2) (ci := 2) (v := .ref (ad (lc t0))) hx hb hts hin2 hown hW (tc t0) (cE_T (ad := ad) (ks := ks) (st := st) hu0).1 (cE_T hu0).2 rfl 0 (by decide) hf11 (fun _ h9 => h9) rfl dX2_nth_11 ?_
        refine lv_iload_n hx hb dX2_nth_14 rfl (lv_at hl 2 rfl) ?_
        obtain ⟨hin, hE⟩ := gd_some hE
        refine ww_lald hx hb hW t0 (Nat.lt_of_lt_of_le hu0 (by decide)) (lLen_in hu0 hin) dX2_nth_15 ?_
        obtain ⟨r_3, hc_2, hE⟩ := ob_some hE
        refine ww_callSi (As := [.long (gL t0 st x3)]) (rest := []) ⟨hx, hb, hml, hown, hts⟩ hW (ctJ13_bitCount_95d88 l D ks ad _ st (gL t0 st x3) hc_2) (va_cwS 1 hts gX2_nth_J13_bitCount_95d88 rfl rfl rfl (by decide +kernel) ⟨Nat.le_of_ble_eq_true rfl, Nat.le_of_ble_eq_true rfl⟩) rfl hl.1 rfl (Nat.le_of_ble_eq_true rfl) dX2_nth_16 ⟨Nat.zero_le _, Nat.zero_le _⟩ (fun H locs hW => ?_)
        refine lv_istore (lv' := [(4, .int r_3), (0, .ref (ad (tc t0))), (2, .int x2), (3, .int x3)]) hx hb dX2_nth_19 hl (by decide) rfl (fun ls hl => ?_)
        refine lv_iload_n hx hb dX2_nth_21 rfl (lv_at hl 2 rfl) ?_
        refine lv_iload hx hb dX2_nth_22 (lv_at hl 0 rfl) ?_
        refine lv_icmp_ge (tgt := 43) hx hb dX2_nth_24 (by decide) (fun c_4 => ?_) (fun c_4 => ?_)
        · have hE := if_t c_4 hE
          refine lv_iload_n hx hb dX2_nth_43 rfl (lv_at hl 2 rfl) ?_
          refine lv_iload hx hb dX2_nth_44 (lv_at hl 0 rfl) ?_
          refine lv_isub hx hb dX2_nth_46 ?_
          obtain ⟨x2_5, e, hE⟩ := lt_some hE
          refine lv_nmi e ?_
          refine lv_istore_n (lv' := [(2, .int x2_5), (4, .int r_3), (0, .ref (ad (tc t0))), (3, .int x3)]) hx hb dX2_nth_47 rfl hl (by decide) rfl (fun ls hl => ?_)
          obtain ⟨x3_6, e, hE⟩ := lt_some hE
          refine lv_iinc (v := x3_6) (lv' := [(3, .int x3_6), (2, .int x2_5), (4, .int r_3), (0, .ref (ad (tc t0)))]) hx hb dX2_nth_48 hl (k := 3) rfl (by rw [e]; rfl) (by decide) rfl (fun ls hl => ?_)
          refine lv_goto (tgt := 4) hx hb dX2_nth_51 (by decide) ?_
          exact ih st t0 x2_5 x3_6 hu0 _ _ _ _ hE hW (lv_sub hl [3, 1, 0] rfl) kx kr
        · have hE := if_f c_4 hE
          refine lv_iload_n hx hb dX2_nth_27 rfl (lv_at hl 3 rfl) ?_
          refine lv_bipush (v := 64) hx hb dX2_nth_28 (by decide) ?_
          refine lv_imul hx hb dX2_nth_30 ?_
          refine lv_aload_n hx hb dX2_nth_31 rfl (lv_at hl 1 rfl) ?_
          refine ww_get (C := RX2) (T := TX2) (N := 1) (ref := RX2) (ci := 2) (v := .ref (ad (lc t0))) hx hb hts hin2 hown hW (tc t0) (cE_T (ad := ad) (ks := ks) (st := st) hu0).1 (cE_T hu0).2 rfl 0 (by decide) hf11 (fun _ h9 => h9) rfl dX2_nth_32 ?_
          refine lv_iload_n hx hb dX2_nth_35 rfl (lv_at hl 3 rfl) ?_
          obtain ⟨hin, hE⟩ := gd_some hE
          refine ww_lald hx hb hW t0 (Nat.lt_of_lt_of_le hu0 (by decide)) (lLen_in hu0 hin) dX2_nth_36 ?_
          refine lv_iload_n hx hb dX2_nth_37 rfl (lv_at hl 2 rfl) ?_
          obtain ⟨r_8, hc_7, hE⟩ := ob_some hE
          refine ww_callSi (As := [.long (gL t0 st x3), .int x2]) (rest := [.int (x3 * (64 : Int32))]) ⟨hx, hb, hml, hown, hts⟩ hW (ctX2_nthInWord l D ks ad _ st (gL t0 st x3) x2 hc_7) (va_cwS 2 hts gX2_nth_X2_nthInWord rfl rfl rfl (by decide +kernel) ⟨Nat.le_of_ble_eq_true rfl, Nat.le_of_ble_eq_true rfl⟩) rfl hl.1 rfl (Nat.le_of_ble_eq_true rfl) dX2_nth_38 ⟨Nat.zero_le _, Nat.zero_le _⟩ (fun H locs hW => ?_)
          refine lv_iadd hx hb dX2_nth_41 ?_
          have hE := kr _ (some_x hE).symm
          obtain rfl := hE
          exact W.iret hx hb hr (fun t ht hWm => hW.qi ht hWm) hW.2.2.1.2.2 dX2_nth_42
  refine lv_iload_n hx hb dX2_nth_0 rfl (lv_at hl 1 rfl) ?_
  refine lv_istore_n (lv' := [(2, .int x1), (0, .ref (ad (tc t0))), (1, .int x1)]) hx hb dX2_nth_1 rfl hl (by decide) rfl (fun ls hl => ?_)
  refine lv_iconst (v := 0) hx hb dX2_nth_2 (by decide) ?_
  refine lv_istore_n (lv' := [(3, .int (0 : Int32)), (2, .int x1), (0, .ref (ad (tc t0))), (1, .int x1)]) hx hb dX2_nth_3 rfl hl (by decide) rfl (fun ls hl => ?_)
  obtain ⟨z_9, hz, hz1, hz2⟩ := obS_some hE
  exact L4 FU st t0 x1 (0 : Int32) ht0 z_9 _ _ _ hz hW (lv_sub hl [2, 1, 0] rfl) (fun  e H locs ls hW hl => by
      have hE := hz2 _ e
      refine lv_iconst (v := (-1)) hx hb dX2_nth_54 (by decide) ?_
      obtain rfl := some_x hE
      exact W.iret hx hb hr (fun t ht hWm => hW.qi ht hWm) hW.2.2.1.2.2 dX2_nth_55) (fun a e => some_x (hz1 a e))
abbrev rmX2_changes : Room := { frames := 1, cells := 0, slots := 0, locals := 25 }
set_option maxRecDepth 100000 in
theorem in2_X2_changes : ∀ w ∈ wsX20, w ∈ wsX2_changes := by decide +kernel
set_option maxHeartbeats 4000000 in
set_option maxRecDepth 100000 in
theorem ctX2_changes (l : Launch) (D : va_G) (ks : KA) (ad : Nat → Nat) (sz : Nat) (st : St) (t0 : Nat) (x1 : Int32) (ht0 : t0 < 15) {r : Int32}  (hE : sX2_changes st t0 x1 = some r) : CI l D ks yX2_changes wsX2_changes rmX2_changes [.ref (ad (tc t0)), .int x1] ad sz st r st := by
  unfold sX2_changes at hE
  refine Met.ofW (cc := cX2_changes) (maxL := 4) (ret := (some .int)) (by decide) rfl ?_
  intro p e s m args below meth c s₁ B hml hv
  obtain ⟨hargs, hPW⟩ := hv
  have hW := WW.entry hPW
  have hx := B.exec
  have hb := B.bytes
  have hr := B.returns
  have hts := atoms_spec (ws := wsX2_changes) B.pre
  have hown : s.vm.findClass RX2 = some m.cls := findClass_of_methodNamed B.named
  have hlocks := B.notSynchronized
  have hin2 : ∀ w ∈ u_ws RX2 TX2 1, w ∈ wsX2_changes := in2_X2_changes
  have hf11 := hts (.fieldLink RX2 11 "Trellis$Table" "words" "[J") (by decide +kernel)
  have hl := lv_entry ([.ref (ad (tc t0)), .int x1]) (n := 4) (Nat.le_of_ble_eq_true rfl)
  have hfr : entryFrame m args 4 = F0 m 0 (lg_sl ([.ref (ad (tc t0)), .int x1]) ++ List.replicate (4 - (lg_sl ([.ref (ad (tc t0)), .int x1])).length) Slot.unset).toArray [] := by rw [hargs, lg_entry_eq]
  rw [hfr]
  generalize (lg_sl ([.ref (ad (tc t0)), .int x1]) ++ List.replicate (4 - (lg_sl ([.ref (ad (tc t0)), .int x1])).length) Slot.unset).toArray = ls at hl ⊢
  have hl : lv_has ls 4 [(0, .ref (ad (tc t0))), (1, .int x1)] := hl
  have L4 : ∀ (n : Nat) (st : St) (t0 : Nat) (x1 : Int32) (x2 : Int32) (x3 : Int32) (hu0 : t0 < 15) (z2 : Int32) (H : Heap) (locs : List Loc) (ls : Array Slot), sX2_changes_L4 n st t0 x1 x2 x3 = some z2 → WW D ks ad (AA ad sz) s st H locs → lv_has ls 4 [(0, .ref (ad (tc t0))), (1, .int x1), (2, .int x2), (3, .int x3)] → (∀ (H : Heap) (locs : List Loc) (ls : Array Slot), WW D ks ad (AA ad sz) s st H locs → lv_has ls 4 [(2, .int z2)] → W p l e (headSpec wsX2_changes rmX2_changes).room s m args below meth c H locs 0 0 (MQ below (va_Qi (fun (x : Int32) (u : St) => x = r ∧ u = st) (QW D ks ad sz) (AA ad sz)) args s 0 0 (AA ad sz)) (F0 m 35 ls [])) → W p l e (headSpec wsX2_changes rmX2_changes).room s m args below meth c H locs 0 0 (MQ below (va_Qi (fun (x : Int32) (u : St) => x = r ∧ u = st) (QW D ks ad sz) (AA ad sz)) args s 0 0 (AA ad sz)) (F0 m 4 ls []) := by
    intro n
    induction n with
    | zero =>
      intro st t0 x1 x2 x3 hu0 z2 H locs ls hE hW hl kx
      exact none_x hE
    | succ n ih =>
      intro st t0 x1 x2 x3 hu0 z2 H locs ls hE hW hl kx
      rw [sX2_changes_L4] at hE
      refine lv_iload_n hx hb dX2_changes_4 rfl (lv_at hl 3 rfl) ?_
      refine lv_bipush (v := 16) hx hb dX2_changes_5 (by decide) ?_
      refine lv_icmp_ge (tgt := 35) hx hb dX2_changes_7 (by decide) (fun c_1 => ?_) (fun c_1 => ?_)
      · have hE := if_t c_1 hE
        obtain rfl := some_x hE
        exact kx _ _ _ hW (lv_sub hl [2] rfl)
      · have hE := if_f c_1 hE
        refine lv_iload_n hx hb dX2_changes_10 rfl (lv_at hl 2 rfl) ?_
        refine lv_aload_n hx hb dX2_changes_11 rfl (lv_at hl 0 rfl) ?_
        refine ww_get (C := RX2) (T := TX2) (N := 1) (ref := RX2) (ci := 2) (v := .ref (ad (lc t0))) hx hb hts hin2 hown hW (tc t0) (cE_T (ad := ad) (ks := ks) (st := st) hu0).1 (cE_T hu0).2 rfl 0 (by decide) hf11 (fun _ h9 => h9) rfl dX2_changes_12 ?_
        refine lv_iload_n hx hb dX2_changes_15 rfl (lv_at hl 3 rfl) ?_
        obtain ⟨hin, hE⟩ := gd_some hE
        refine ww_lald hx hb hW t0 (Nat.lt_of_lt_of_le hu0 (by decide)) (lLen_in hu0 hin) dX2_changes_16 ?_
        refine lv_aload_n hx hb dX2_changes_17 rfl (lv_at hl 0 rfl) ?_
        refine lv_iload_n hx hb dX2_changes_18 rfl (lv_at hl 1 rfl) ?_
        refine lv_iload_n hx hb dX2_changes_19 rfl (lv_at hl 3 rfl) ?_
        obtain ⟨r_3, hc_2, hE⟩ := ob_some hE
        refine ww_callVl (As := [.int x1, .int x3]) (rest := [.long (gL t0 st x3), .int x2]) ⟨hx, hb, hml, hown, hts⟩ hW (ctX2_wordAcross l D ks ad _ st t0 x1 x3 hu0 hc_2) (cwV 2 hts gX2_changes_X2_wordAcross rfl rfl rfl (by decide +kernel) ⟨Nat.le_of_ble_eq_true rfl, Nat.le_of_ble_eq_true rfl⟩) (hW.recvT hu0) rfl hl.1 rfl (Nat.le_of_ble_eq_true rfl) dX2_changes_20 ⟨Nat.zero_le _, Nat.zero_le _⟩ (fun H locs hW => ?_)
        refine lv_lxor hx hb dX2_changes_23 ?_
        obtain ⟨r_5, hc_4, hE⟩ := ob_some hE
        refine ww_callSi (As := [.long ((gL t0 st x3) ^^^ r_3)]) (rest := [.int x2]) ⟨hx, hb, hml, hown, hts⟩ hW (ctJ13_bitCount_95d88 l D ks ad _ st ((gL t0 st x3) ^^^ r_3) hc_4) (va_cwS 1 hts gX2_changes_J13_bitCount_95d88 rfl rfl rfl (by decide +kernel) ⟨Nat.le_of_ble_eq_true rfl, Nat.le_of_ble_eq_true rfl⟩) rfl hl.1 rfl (Nat.le_of_ble_eq_true rfl) dX2_changes_24 ⟨Nat.zero_le _, Nat.zero_le _⟩ (fun H locs hW => ?_)
        refine lv_iadd hx hb dX2_changes_27 ?_
        obtain ⟨x2_6, e, hE⟩ := lt_some hE
        refine lv_nmi e ?_
        refine lv_istore_n (lv' := [(2, .int x2_6), (0, .ref (ad (tc t0))), (1, .int x1), (3, .int x3)]) hx hb dX2_changes_28 rfl hl (by decide) rfl (fun ls hl => ?_)
        obtain ⟨x3_7, e, hE⟩ := lt_some hE
        refine lv_iinc (v := x3_7) (lv' := [(3, .int x3_7), (2, .int x2_6), (0, .ref (ad (tc t0))), (1, .int x1)]) hx hb dX2_changes_29 hl (k := 3) rfl (by rw [e]; rfl) (by decide) rfl (fun ls hl => ?_)
        refine lv_goto (tgt := 4) hx hb dX2_changes_32 (by decide) ?_
        exact ih st t0 x1 x2_6 x3_7 hu0 _ _ _ _ hE hW (lv_sub hl [2, 3, 1, 0] rfl) kx
  refine lv_iconst (v := 0) hx hb dX2_changes_0 (by decide) ?_
  refine lv_istore_n (lv' := [(2, .int (0 : Int32)), (0, .ref (ad (tc t0))), (1, .int x1)]) hx hb dX2_changes_1 rfl hl (by decide) rfl (fun ls hl => ?_)
  refine lv_iconst (v := 0) hx hb dX2_changes_2 (by decide) ?_
  refine lv_istore_n (lv' := [(3, .int (0 : Int32)), (2, .int (0 : Int32)), (0, .ref (ad (tc t0))), (1, .int x1)]) hx hb dX2_changes_3 rfl hl (by decide) rfl (fun ls hl => ?_)
  obtain ⟨x2_8, hz, hE⟩ := ob_some hE
  refine L4 FU st t0 x1 (0 : Int32) (0 : Int32) ht0 x2_8 _ _ _ hz hW (lv_sub hl [2, 3, 1, 0] rfl) (fun H locs ls hW hl => ?_)
  refine lv_iload_n hx hb dX2_changes_35 rfl (lv_at hl 0 rfl) ?_
  obtain rfl := some_x hE
  exact W.iret hx hb hr (fun t ht hWm => hW.qi ht hWm) hW.2.2.1.2.2 dX2_changes_36
abbrev rmX2_isMovedBy : Room := { frames := 1, cells := 0, slots := 0, locals := 25 }
set_option maxRecDepth 100000 in
theorem in2_X2_isMovedBy : ∀ w ∈ wsX20, w ∈ wsX2_isMovedBy := by decide +kernel
set_option maxHeartbeats 4000000 in
set_option maxRecDepth 100000 in
theorem ctX2_isMovedBy (l : Launch) (D : va_G) (ks : KA) (ad : Nat → Nat) (sz : Nat) (st : St) (t0 : Nat) (x1 : Int32) (ht0 : t0 < 15) {r : Int32}  (hE : sX2_isMovedBy st t0 x1 = some r) : CI l D ks yX2_isMovedBy wsX2_isMovedBy rmX2_isMovedBy [.ref (ad (tc t0)), .int x1] ad sz st r st := by
  unfold sX2_isMovedBy at hE
  refine Met.ofW (cc := cX2_isMovedBy) (maxL := 3) (ret := (some .boolean)) (by decide) rfl ?_
  intro p e s m args below meth c s₁ B hml hv
  obtain ⟨hargs, hPW⟩ := hv
  have hW := WW.entry hPW
  have hx := B.exec
  have hb := B.bytes
  have hr := B.returns
  have hts := atoms_spec (ws := wsX2_isMovedBy) B.pre
  have hown : s.vm.findClass RX2 = some m.cls := findClass_of_methodNamed B.named
  have hlocks := B.notSynchronized
  have hin2 : ∀ w ∈ u_ws RX2 TX2 1, w ∈ wsX2_isMovedBy := in2_X2_isMovedBy
  have hf11 := hts (.fieldLink RX2 11 "Trellis$Table" "words" "[J") (by decide +kernel)
  have hl := lv_entry ([.ref (ad (tc t0)), .int x1]) (n := 3) (Nat.le_of_ble_eq_true rfl)
  have hfr : entryFrame m args 3 = F0 m 0 (lg_sl ([.ref (ad (tc t0)), .int x1]) ++ List.replicate (3 - (lg_sl ([.ref (ad (tc t0)), .int x1])).length) Slot.unset).toArray [] := by rw [hargs, lg_entry_eq]
  rw [hfr]
  generalize (lg_sl ([.ref (ad (tc t0)), .int x1]) ++ List.replicate (3 - (lg_sl ([.ref (ad (tc t0)), .int x1])).length) Slot.unset).toArray = ls at hl ⊢
  have hl : lv_has ls 3 [(0, .ref (ad (tc t0))), (1, .int x1)] := hl
  have L2 : ∀ (n : Nat) (st : St) (t0 : Nat) (x1 : Int32) (x2 : Int32) (hu0 : t0 < 15) (z : (Int32) ⊕ (Unit)) (H : Heap) (locs : List Loc) (ls : Array Slot), sX2_isMovedBy_L2 n st t0 x1 x2 = some z → WW D ks ad (AA ad sz) s st H locs → lv_has ls 3 [(0, .ref (ad (tc t0))), (1, .int x1), (2, .int x2)] → (z = .inr () → ∀ (H : Heap) (locs : List Loc) (ls : Array Slot), WW D ks ad (AA ad sz) s st H locs → lv_has ls 3 [] → W p l e (headSpec wsX2_isMovedBy rmX2_isMovedBy).room s m args below meth c H locs 0 0 (MQ below (va_Qi (fun (x : Int32) (u : St) => x = r ∧ u = st) (QW D ks ad sz) (AA ad sz)) args s 0 0 (AA ad sz)) (F0 m 32 ls [])) → (∀ a : Int32, z = .inl a → a = r) → W p l e (headSpec wsX2_isMovedBy rmX2_isMovedBy).room s m args below meth c H locs 0 0 (MQ below (va_Qi (fun (x : Int32) (u : St) => x = r ∧ u = st) (QW D ks ad sz) (AA ad sz)) args s 0 0 (AA ad sz)) (F0 m 2 ls []) := by
    intro n
    induction n with
    | zero =>
      intro st t0 x1 x2 hu0 z H locs ls hE hW hl kx kr
      exact none_x hE
    | succ n ih =>
      intro st t0 x1 x2 hu0 z H locs ls hE hW hl kx kr
      rw [sX2_isMovedBy_L2] at hE
      refine lv_iload_n hx hb dX2_isMovedBy_2 rfl (lv_at hl 2 rfl) ?_
      refine lv_bipush (v := 16) hx hb dX2_isMovedBy_3 (by decide) ?_
      refine lv_icmp_ge (tgt := 32) hx hb dX2_isMovedBy_5 (by decide) (fun c_1 => ?_) (fun c_1 => ?_)
      · have hE := if_t c_1 hE
        exact kx  (some_x hE).symm _ _ _ hW (lv_sub hl [] rfl)
      · have hE := if_f c_1 hE
        refine lv_aload_n hx hb dX2_isMovedBy_8 rfl (lv_at hl 0 rfl) ?_
        refine ww_get (C := RX2) (T := TX2) (N := 1) (ref := RX2) (ci := 2) (v := .ref (ad (lc t0))) hx hb hts hin2 hown hW (tc t0) (cE_T (ad := ad) (ks := ks) (st := st) hu0).1 (cE_T hu0).2 rfl 0 (by decide) hf11 (fun _ h9 => h9) rfl dX2_isMovedBy_9 ?_
        refine lv_iload_n hx hb dX2_isMovedBy_12 rfl (lv_at hl 2 rfl) ?_
        obtain ⟨hin, hE⟩ := gd_some hE
        refine ww_lald hx hb hW t0 (Nat.lt_of_lt_of_le hu0 (by decide)) (lLen_in hu0 hin) dX2_isMovedBy_13 ?_
        refine lv_aload_n hx hb dX2_isMovedBy_14 rfl (lv_at hl 0 rfl) ?_
        refine lv_iload_n hx hb dX2_isMovedBy_15 rfl (lv_at hl 1 rfl) ?_
        refine lv_iload_n hx hb dX2_isMovedBy_16 rfl (lv_at hl 2 rfl) ?_
        obtain ⟨r_3, hc_2, hE⟩ := ob_some hE
        refine ww_callVl (As := [.int x1, .int x2]) (rest := [.long (gL t0 st x2)]) ⟨hx, hb, hml, hown, hts⟩ hW (ctX2_wordAcross l D ks ad _ st t0 x1 x2 hu0 hc_2) (cwV 2 hts gX2_isMovedBy_X2_wordAcross rfl rfl rfl (by decide +kernel) ⟨Nat.le_of_ble_eq_true rfl, Nat.le_of_ble_eq_true rfl⟩) (hW.recvT hu0) rfl hl.1 rfl (Nat.le_of_ble_eq_true rfl) dX2_isMovedBy_17 ⟨Nat.zero_le _, Nat.zero_le _⟩ (fun H locs hW => ?_)
        refine W.lcmp hx hb dX2_isMovedBy_20 ?_
        refine lv_if_eq (tgt := 26) hx hb dX2_isMovedBy_21 (by decide) (fun c_4 => ?_) (fun c_4 => ?_)
        · have hE := if_t c_4 hE
          obtain ⟨x2_5, e, hE⟩ := lt_some hE
          refine lv_iinc (v := x2_5) (lv' := [(2, .int x2_5), (0, .ref (ad (tc t0))), (1, .int x1)]) hx hb dX2_isMovedBy_26 hl (k := 2) rfl (by rw [e]; rfl) (by decide) rfl (fun ls hl => ?_)
          refine lv_goto (tgt := 2) hx hb dX2_isMovedBy_29 (by decide) ?_
          exact ih st t0 x1 x2_5 hu0 _ _ _ _ hE hW (lv_sub hl [1, 2, 0] rfl) kx kr
        · have hE := if_f c_4 hE
          refine lv_iconst (v := 1) hx hb dX2_isMovedBy_24 (by decide) ?_
          have hE := kr _ (some_x hE).symm
          obtain rfl := hE
          exact W.zret hx hb hr rfl (fun t ht hWm => hW.qi ht hWm) hW.2.2.1.2.2 dX2_isMovedBy_25
  refine lv_iconst (v := 0) hx hb dX2_isMovedBy_0 (by decide) ?_
  refine lv_istore_n (lv' := [(2, .int (0 : Int32)), (0, .ref (ad (tc t0))), (1, .int x1)]) hx hb dX2_isMovedBy_1 rfl hl (by decide) rfl (fun ls hl => ?_)
  obtain ⟨z_6, hz, hz1, hz2⟩ := obS_some hE
  exact L2 FU st t0 x1 (0 : Int32) ht0 z_6 _ _ _ hz hW (lv_sub hl [1, 2, 0] rfl) (fun  e H locs ls hW hl => by
      have hE := hz2 _ e
      refine lv_iconst (v := 0) hx hb dX2_isMovedBy_32 (by decide) ?_
      obtain rfl := some_x hE
      exact W.zret hx hb hr rfl (fun t ht hWm => hW.qi ht hWm) hW.2.2.1.2.2 dX2_isMovedBy_33) (fun a e => some_x (hz1 a e))
abbrev rmX2_dependsOn : Room := { frames := 2, cells := 0, slots := 0, locals := 47 }
set_option maxHeartbeats 4000000 in
set_option maxRecDepth 100000 in
theorem ctX2_dependsOn (l : Launch) (D : va_G) (ks : KA) (ad : Nat → Nat) (sz : Nat) (st : St) (t0 : Nat) (ht0 : t0 < 15) {r : Int32}  (hE : sX2_dependsOn st t0 = some r) : CI l D ks yX2_dependsOn wsX2_dependsOn rmX2_dependsOn [.ref (ad (tc t0))] ad sz st r st := by
  unfold sX2_dependsOn at hE
  refine Met.ofW (cc := cX2_dependsOn) (maxL := 3) (ret := (some .int)) (by decide) rfl ?_
  intro p e s m args below meth c s₁ B hml hv
  obtain ⟨hargs, hPW⟩ := hv
  have hW := WW.entry hPW
  have hx := B.exec
  have hb := B.bytes
  have hr := B.returns
  have hts := atoms_spec (ws := wsX2_dependsOn) B.pre
  have hown : s.vm.findClass RX2 = some m.cls := findClass_of_methodNamed B.named
  have hlocks := B.notSynchronized
  have hl := lv_entry ([.ref (ad (tc t0))]) (n := 3) (Nat.le_of_ble_eq_true rfl)
  have hfr : entryFrame m args 3 = F0 m 0 (lg_sl ([.ref (ad (tc t0))]) ++ List.replicate (3 - (lg_sl ([.ref (ad (tc t0))])).length) Slot.unset).toArray [] := by rw [hargs, lg_entry_eq]
  rw [hfr]
  generalize (lg_sl ([.ref (ad (tc t0))]) ++ List.replicate (3 - (lg_sl ([.ref (ad (tc t0))])).length) Slot.unset).toArray = ls at hl ⊢
  have hl : lv_has ls 3 [(0, .ref (ad (tc t0)))] := hl
  have L4 : ∀ (n : Nat) (st : St) (t0 : Nat) (x1 : Int32) (x2 : Int32) (hu0 : t0 < 15) (z1 : Int32) (H : Heap) (locs : List Loc) (ls : Array Slot), sX2_dependsOn_L4 n st t0 x1 x2 = some z1 → WW D ks ad (AA ad sz) s st H locs → lv_has ls 3 [(0, .ref (ad (tc t0))), (1, .int x1), (2, .int x2)] → (∀ (H : Heap) (locs : List Loc) (ls : Array Slot), WW D ks ad (AA ad sz) s st H locs → lv_has ls 3 [(1, .int z1)] → W p l e (headSpec wsX2_dependsOn rmX2_dependsOn).room s m args below meth c H locs 0 0 (MQ below (va_Qi (fun (x : Int32) (u : St) => x = r ∧ u = st) (QW D ks ad sz) (AA ad sz)) args s 0 0 (AA ad sz)) (F0 m 30 ls [])) → W p l e (headSpec wsX2_dependsOn rmX2_dependsOn).room s m args below meth c H locs 0 0 (MQ below (va_Qi (fun (x : Int32) (u : St) => x = r ∧ u = st) (QW D ks ad sz) (AA ad sz)) args s 0 0 (AA ad sz)) (F0 m 4 ls []) := by
    intro n
    induction n with
    | zero =>
      intro st t0 x1 x2 hu0 z1 H locs ls hE hW hl kx
      exact none_x hE
    | succ n ih =>
      intro st t0 x1 x2 hu0 z1 H locs ls hE hW hl kx
      rw [sX2_dependsOn_L4] at hE
      refine lv_iload_n hx hb dX2_dependsOn_4 rfl (lv_at hl 2 rfl) ?_
      refine lv_bipush (v := 10) hx hb dX2_dependsOn_5 (by decide) ?_
      refine lv_icmp_ge (tgt := 30) hx hb dX2_dependsOn_7 (by decide) (fun c_1 => ?_) (fun c_1 => ?_)
      · have hE := if_t c_1 hE
        obtain rfl := some_x hE
        exact kx _ _ _ hW (lv_sub hl [1] rfl)
      · have hE := if_f c_1 hE
        refine lv_aload_n hx hb dX2_dependsOn_10 rfl (lv_at hl 0 rfl) ?_
        refine lv_iload_n hx hb dX2_dependsOn_11 rfl (lv_at hl 2 rfl) ?_
        obtain ⟨r_3, hc_2, hE⟩ := ob_some hE
        refine ww_callVi (As := [.int x2]) (rest := []) ⟨hx, hb, hml, hown, hts⟩ hW (ctX2_isMovedBy l D ks ad _ st t0 x2 hu0 hc_2) (cwV 1 hts gX2_dependsOn_X2_isMovedBy rfl rfl rfl (by decide +kernel) ⟨Nat.le_of_ble_eq_true rfl, Nat.le_of_ble_eq_true rfl⟩) (hW.recvT hu0) rfl hl.1 rfl (Nat.le_of_ble_eq_true rfl) dX2_dependsOn_12 ⟨Nat.zero_le _, Nat.zero_le _⟩ (fun H locs hW => ?_)
        refine lv_if_eq (tgt := 24) hx hb dX2_dependsOn_15 (by decide) (fun c_4 => ?_) (fun c_4 => ?_)
        · have hE := if_t c_4 hE
          obtain ⟨x2_5, e, hE⟩ := lt_some hE
          refine lv_iinc (v := x2_5) (lv' := [(2, .int x2_5), (0, .ref (ad (tc t0))), (1, .int x1)]) hx hb dX2_dependsOn_24 hl (k := 2) rfl (by rw [e]; rfl) (by decide) rfl (fun ls hl => ?_)
          refine lv_goto (tgt := 4) hx hb dX2_dependsOn_27 (by decide) ?_
          exact ih st t0 x1 x2_5 hu0 _ _ _ _ hE hW (lv_sub hl [1, 2, 0] rfl) kx
        · have hE := if_f c_4 hE
          refine lv_iload_n hx hb dX2_dependsOn_18 rfl (lv_at hl 1 rfl) ?_
          refine lv_iconst (v := 1) hx hb dX2_dependsOn_19 (by decide) ?_
          refine lv_iload_n hx hb dX2_dependsOn_20 rfl (lv_at hl 2 rfl) ?_
          refine lv_ishl hx hb dX2_dependsOn_21 ?_
          refine lv_ior hx hb dX2_dependsOn_22 ?_
          obtain ⟨x1_6, e, hE⟩ := lt_some hE
          refine lv_nmi e ?_
          refine lv_istore_n (lv' := [(1, .int x1_6), (0, .ref (ad (tc t0))), (2, .int x2)]) hx hb dX2_dependsOn_23 rfl hl (by decide) rfl (fun ls hl => ?_)
          obtain ⟨x2_7, e, hE⟩ := lt_some hE
          refine lv_iinc (v := x2_7) (lv' := [(2, .int x2_7), (1, .int x1_6), (0, .ref (ad (tc t0)))]) hx hb dX2_dependsOn_24 hl (k := 2) rfl (by rw [e]; rfl) (by decide) rfl (fun ls hl => ?_)
          refine lv_goto (tgt := 4) hx hb dX2_dependsOn_27 (by decide) ?_
          exact ih st t0 x1_6 x2_7 hu0 _ _ _ _ hE hW (lv_sub hl [2, 1, 0] rfl) kx
  refine lv_iconst (v := 0) hx hb dX2_dependsOn_0 (by decide) ?_
  refine lv_istore_n (lv' := [(1, .int (0 : Int32)), (0, .ref (ad (tc t0)))]) hx hb dX2_dependsOn_1 rfl hl (by decide) rfl (fun ls hl => ?_)
  refine lv_iconst (v := 0) hx hb dX2_dependsOn_2 (by decide) ?_
  refine lv_istore_n (lv' := [(2, .int (0 : Int32)), (1, .int (0 : Int32)), (0, .ref (ad (tc t0)))]) hx hb dX2_dependsOn_3 rfl hl (by decide) rfl (fun ls hl => ?_)
  obtain ⟨x1_8, hz, hE⟩ := ob_some hE
  refine L4 FU st t0 (0 : Int32) (0 : Int32) ht0 x1_8 _ _ _ hz hW (lv_sub hl [2, 1, 0] rfl) (fun H locs ls hW hl => ?_)
  refine lv_iload_n hx hb dX2_dependsOn_30 rfl (lv_at hl 0 rfl) ?_
  obtain rfl := some_x hE
  exact W.iret hx hb hr (fun t ht hWm => hW.qi ht hWm) hW.2.2.1.2.2 dX2_dependsOn_31
abbrev rmX2_fold : Room := { frames := 2, cells := 0, slots := 0, locals := 81 }
set_option maxRecDepth 100000 in
theorem in2_X2_fold : ∀ w ∈ wsX20, w ∈ wsX2_fold := by decide +kernel
set_option maxHeartbeats 4000000 in
set_option maxRecDepth 100000 in
theorem ctX2_fold (l : Launch) (D : va_G) (ks : KA) (ad : Nat → Nat) (sz : Nat) (st : St) (t0 : Nat) (x1 : Int32) (x2 : Int32) (t3 : Nat) (ht0 : t0 < 15) (ht3 : t3 < 15) {st' : St} (hE : sX2_fold st t0 x1 x2 t3 = some st') : CV l D ks yX2_fold wsX2_fold rmX2_fold [.ref (ad (tc t0)), .int x1, .int x2, .ref (ad (tc t3))] ad sz st st' := by
  unfold sX2_fold at hE
  refine Met.ofW (cc := cX2_fold) (maxL := 9) (ret := none) (by decide) rfl ?_
  intro p e s m args below meth c s₁ B hml hv
  obtain ⟨hargs, hPW⟩ := hv
  have hW := WW.entry hPW
  have hx := B.exec
  have hb := B.bytes
  have hr := B.returns
  have hts := atoms_spec (ws := wsX2_fold) B.pre
  have hown : s.vm.findClass RX2 = some m.cls := findClass_of_methodNamed B.named
  have hlocks := B.notSynchronized
  have hin2 : ∀ w ∈ u_ws RX2 TX2 1, w ∈ wsX2_fold := in2_X2_fold
  have hf11 := hts (.fieldLink RX2 11 "Trellis$Table" "words" "[J") (by decide +kernel)
  have hl := lv_entry ([.ref (ad (tc t0)), .int x1, .int x2, .ref (ad (tc t3))]) (n := 9) (Nat.le_of_ble_eq_true rfl)
  have hfr : entryFrame m args 9 = F0 m 0 (lg_sl ([.ref (ad (tc t0)), .int x1, .int x2, .ref (ad (tc t3))]) ++ List.replicate (9 - (lg_sl ([.ref (ad (tc t0)), .int x1, .int x2, .ref (ad (tc t3))])).length) Slot.unset).toArray [] := by rw [hargs, lg_entry_eq]
  rw [hfr]
  generalize (lg_sl ([.ref (ad (tc t0)), .int x1, .int x2, .ref (ad (tc t3))]) ++ List.replicate (9 - (lg_sl ([.ref (ad (tc t0)), .int x1, .int x2, .ref (ad (tc t3))])).length) Slot.unset).toArray = ls at hl ⊢
  have hl : lv_has ls 9 [(0, .ref (ad (tc t0))), (1, .int x1), (2, .int x2), (3, .ref (ad (tc t3)))] := hl
  have L8 : ∀ (n : Nat) (st : St) (t0 : Nat) (x1 : Int32) (x2 : Int32) (t3 : Nat) (x4 : Int32) (hu0 : t0 < 15) (hu3 : t3 < 15) (stz : St) (H : Heap) (locs : List Loc) (ls : Array Slot), sX2_fold_L8 n st t0 x1 x2 t3 x4 = some stz → WW D ks ad (AA ad sz) s st H locs → lv_has ls 9 [(0, .ref (ad (tc t0))), (1, .int x1), (2, .int x2), (3, .ref (ad (tc t3))), (4, .int x4)] → (∀ (H : Heap) (locs : List Loc) (ls : Array Slot), WW D ks ad (AA ad sz) s stz H locs → lv_has ls 9 [] → W p l e (headSpec wsX2_fold rmX2_fold).room s m args below meth c H locs 0 0 (MQ below (va_Qv (fun (u : St) => u = st') (QW D ks ad sz) (AA ad sz)) args s 0 0 (AA ad sz)) (F0 m 76 ls [])) → W p l e (headSpec wsX2_fold rmX2_fold).room s m args below meth c H locs 0 0 (MQ below (va_Qv (fun (u : St) => u = st') (QW D ks ad sz) (AA ad sz)) args s 0 0 (AA ad sz)) (F0 m 8 ls []) := by
    intro n
    induction n with
    | zero =>
      intro st t0 x1 x2 t3 x4 hu0 hu3 stz H locs ls hE hW hl kx
      exact none_x hE
    | succ n ih =>
      intro st t0 x1 x2 t3 x4 hu0 hu3 stz H locs ls hE hW hl kx
      rw [sX2_fold_L8] at hE
      refine lv_iload hx hb dX2_fold_8 (lv_at hl 4 rfl) ?_
      refine lv_bipush (v := 16) hx hb dX2_fold_10 (by decide) ?_
      refine lv_icmp_ge (tgt := 76) hx hb dX2_fold_12 (by decide) (fun c_3 => ?_) (fun c_3 => ?_)
      · have hE := if_t c_3 hE
        obtain rfl := some_x hE
        exact kx _ _ _ hW (lv_sub hl [] rfl)
      · have hE := if_f c_3 hE
        refine lv_aload_n hx hb dX2_fold_15 rfl (lv_at hl 3 rfl) ?_
        refine ww_get (C := RX2) (T := TX2) (N := 1) (ref := RX2) (ci := 2) (v := .ref (ad (lc t3))) hx hb hts hin2 hown hW (tc t3) (cE_T (ad := ad) (ks := ks) (st := st) hu3).1 (cE_T hu3).2 rfl 0 (by decide) hf11 (fun _ h9 => h9) rfl dX2_fold_16 ?_
        refine lv_iload hx hb dX2_fold_19 (lv_at hl 4 rfl) ?_
        obtain ⟨hin, hE⟩ := gd_some hE
        refine ww_lald hx hb hW t3 (Nat.lt_of_lt_of_le hu3 (by decide)) (lLen_in hu3 hin) dX2_fold_21 ?_
        obtain ⟨x5_4, e, hE⟩ := lt_some hE
        refine lv_nml e ?_
        refine lv_lstore (lv' := [(5, .long x5_4), (0, .ref (ad (tc t0))), (1, .int x1), (2, .int x2), (3, .ref (ad (tc t3))), (4, .int x4)]) hx hb dX2_fold_22 hl (by decide) rfl (fun ls hl => ?_)
        refine lv_aload_n hx hb dX2_fold_24 rfl (lv_at hl 4 rfl) ?_
        refine lv_iload_n hx hb dX2_fold_25 rfl (lv_at hl 2 rfl) ?_
        refine lv_iload hx hb dX2_fold_26 (lv_at hl 5 rfl) ?_
        obtain ⟨r_6, hc_5, hE⟩ := ob_some hE
        refine ww_callVl (As := [.int x1, .int x4]) (rest := []) ⟨hx, hb, hml, hown, hts⟩ hW (ctX2_wordAcross l D ks ad _ st t3 x1 x4 hu3 hc_5) (cwV 2 hts gX2_fold_X2_wordAcross rfl rfl rfl (by decide +kernel) ⟨Nat.le_of_ble_eq_true rfl, Nat.le_of_ble_eq_true rfl⟩) (hW.recvT hu3) rfl hl.1 rfl (Nat.le_of_ble_eq_true rfl) dX2_fold_28 ⟨Nat.zero_le _, Nat.zero_le _⟩ (fun H locs hW => ?_)
        refine lv_lstore (lv' := [(7, .long r_6), (5, .long x5_4), (0, .ref (ad (tc t0))), (1, .int x1), (2, .int x2), (3, .ref (ad (tc t3))), (4, .int x4)]) hx hb dX2_fold_31 hl (by decide) rfl (fun ls hl => ?_)
        refine lv_aload_n hx hb dX2_fold_33 rfl (lv_at hl 2 rfl) ?_
        refine ww_get (C := RX2) (T := TX2) (N := 1) (ref := RX2) (ci := 2) (v := .ref (ad (lc t0))) hx hb hts hin2 hown hW (tc t0) (cE_T (ad := ad) (ks := ks) (st := st) hu0).1 (cE_T hu0).2 rfl 0 (by decide) hf11 (fun _ h9 => h9) rfl dX2_fold_34 ?_
        refine lv_iload hx hb dX2_fold_37 (lv_at hl 6 rfl) ?_
        refine lv_iload_n hx hb dX2_fold_39 rfl (lv_at hl 4 rfl) ?_
        refine lv_if_ne (tgt := 51) hx hb dX2_fold_40 (by decide) (fun c_7 => ?_) (fun c_7 => ?_)
        · have hE := if_t c_7 hE
          refine lv_iload_n hx hb dX2_fold_51 rfl (lv_at hl 4 rfl) ?_
          refine lv_iconst (v := 1) hx hb dX2_fold_52 (by decide) ?_
          refine lv_icmp_ne (tgt := 64) hx hb dX2_fold_53 (by decide) (fun c_8 => ?_) (fun c_8 => ?_)
          · have hE := if_t c_8 hE
            refine lv_lload hx hb dX2_fold_64 (lv_at hl 1 rfl) ?_
            refine lv_lload hx hb dX2_fold_66 (lv_at hl 0 rfl) ?_
            refine lv_lxor hx hb dX2_fold_68 ?_
            obtain ⟨hin, hE⟩ := gd_some hE
            obtain ⟨st_9, est, hE⟩ := lt_some hE
            refine ww_last hx hb hW t0 (Nat.lt_of_lt_of_le hu0 (by decide)) (lLen_in hu0 hin) est dX2_fold_69 (fun H locs hW => ?_)
            obtain ⟨x4_10, e, hE⟩ := lt_some hE
            refine lv_iinc (v := x4_10) (lv' := [(4, .int x4_10), (7, .long r_6), (5, .long x5_4), (0, .ref (ad (tc t0))), (1, .int x1), (2, .int x2), (3, .ref (ad (tc t3)))]) hx hb dX2_fold_70 hl (k := 6) rfl (by rw [e]; rfl) (by decide) rfl (fun ls hl => ?_)
            refine lv_goto (tgt := 8) hx hb dX2_fold_73 (by decide) ?_
            exact ih st_9 t0 x1 x2 t3 x4_10 hu0 hu3 _ _ _ _ hE hW (lv_sub hl [3, 4, 5, 6, 0] rfl) kx
          · have hE := if_f (fun q => q c_8) hE
            refine lv_lload hx hb dX2_fold_56 (lv_at hl 1 rfl) ?_
            refine lv_lload hx hb dX2_fold_58 (lv_at hl 0 rfl) ?_
            refine lv_land hx hb dX2_fold_60 ?_
            refine lv_goto (tgt := 69) hx hb dX2_fold_61 (by decide) ?_
            obtain ⟨hin, hE⟩ := gd_some hE
            obtain ⟨st_11, est, hE⟩ := lt_some hE
            refine ww_last hx hb hW t0 (Nat.lt_of_lt_of_le hu0 (by decide)) (lLen_in hu0 hin) est dX2_fold_69 (fun H locs hW => ?_)
            obtain ⟨x4_12, e, hE⟩ := lt_some hE
            refine lv_iinc (v := x4_12) (lv' := [(4, .int x4_12), (7, .long r_6), (5, .long x5_4), (0, .ref (ad (tc t0))), (1, .int x1), (2, .int x2), (3, .ref (ad (tc t3)))]) hx hb dX2_fold_70 hl (k := 6) rfl (by rw [e]; rfl) (by decide) rfl (fun ls hl => ?_)
            refine lv_goto (tgt := 8) hx hb dX2_fold_73 (by decide) ?_
            exact ih st_11 t0 x1 x2 t3 x4_12 hu0 hu3 _ _ _ _ hE hW (lv_sub hl [3, 4, 5, 6, 0] rfl) kx
        · have hE := if_f (fun q => q c_7) hE
          refine lv_lload hx hb dX2_fold_43 (lv_at hl 1 rfl) ?_
          refine lv_lload hx hb dX2_fold_45 (lv_at hl 0 rfl) ?_
          refine lv_lor hx hb dX2_fold_47 ?_
          refine lv_goto (tgt := 69) hx hb dX2_fold_48 (by decide) ?_
          obtain ⟨hin, hE⟩ := gd_some hE
          obtain ⟨st_13, est, hE⟩ := lt_some hE
          refine ww_last hx hb hW t0 (Nat.lt_of_lt_of_le hu0 (by decide)) (lLen_in hu0 hin) est dX2_fold_69 (fun H locs hW => ?_)
          obtain ⟨x4_14, e, hE⟩ := lt_some hE
          refine lv_iinc (v := x4_14) (lv' := [(4, .int x4_14), (7, .long r_6), (5, .long x5_4), (0, .ref (ad (tc t0))), (1, .int x1), (2, .int x2), (3, .ref (ad (tc t3)))]) hx hb dX2_fold_70 hl (k := 6) rfl (by rw [e]; rfl) (by decide) rfl (fun ls hl => ?_)
          refine lv_goto (tgt := 8) hx hb dX2_fold_73 (by decide) ?_
          exact ih st_13 t0 x1 x2 t3 x4_14 hu0 hu3 _ _ _ _ hE hW (lv_sub hl [3, 4, 5, 6, 0] rfl) kx
  refine lv_aload_n hx hb dX2_fold_0 rfl (lv_at hl 3 rfl) ?_
  refine lv_aload_n hx hb dX2_fold_1 rfl (lv_at hl 0 rfl) ?_
  obtain ⟨st_1, hc_2, hE⟩ := ob_some hE
  refine ww_callVv (As := [.ref (ad (tc t0))]) (rest := []) ⟨hx, hb, hml, hown, hts⟩ hW (ctX2_copy l D ks ad _ st t3 t0 ht3 ht0 hc_2) (cwV 1 hts gX2_fold_X2_copy rfl rfl rfl (by decide +kernel) ⟨Nat.le_of_ble_eq_true rfl, Nat.le_of_ble_eq_true rfl⟩) (hW.recvT ht3) rfl hl.1 rfl (Nat.le_of_ble_eq_true rfl) dX2_fold_2 ⟨Nat.zero_le _, Nat.zero_le _⟩ (fun H locs hW => ?_)
  refine lv_iconst (v := 0) hx hb dX2_fold_5 (by decide) ?_
  refine lv_istore (lv' := [(4, .int (0 : Int32)), (0, .ref (ad (tc t0))), (1, .int x1), (2, .int x2), (3, .ref (ad (tc t3)))]) hx hb dX2_fold_6 hl (by decide) rfl (fun ls hl => ?_)
  obtain ⟨st_15, hz, hE⟩ := ob_some hE
  refine L8 FU st_1 t0 x1 x2 t3 (0 : Int32) ht0 ht3 st_15 _ _ _ hz hW (lv_sub hl [1, 2, 3, 4, 0] rfl) (fun H locs ls hW hl => ?_)
  obtain rfl := some_x hE
  exact W.vret hx hb hr (fun t ht hWm => hW.qv ht hWm) hW.2.2.1.2.2 dX2_fold_76
abbrev rmX2_foldSet : Room := { frames := 3, cells := 0, slots := 0, locals := 109 }
set_option maxHeartbeats 4000000 in
set_option maxRecDepth 100000 in
theorem ctX2_foldSet (l : Launch) (D : va_G) (ks : KA) (ad : Nat → Nat) (sz : Nat) (st : St) (t0 : Nat) (x1 : Int32) (x2 : Int32) (t3 : Nat) (ht0 : t0 < 15) (ht3 : t3 < 15) {st' : St} (hE : sX2_foldSet st t0 x1 x2 t3 = some st') : CV l D ks yX2_foldSet wsX2_foldSet rmX2_foldSet [.ref (ad (tc t0)), .int x1, .int x2, .ref (ad (tc t3))] ad sz st st' := by
  unfold sX2_foldSet at hE
  refine Met.ofW (cc := cX2_foldSet) (maxL := 5) (ret := none) (by decide) rfl ?_
  intro p e s m args below meth c s₁ B hml hv
  obtain ⟨hargs, hPW⟩ := hv
  have hW := WW.entry hPW
  have hx := B.exec
  have hb := B.bytes
  have hr := B.returns
  have hts := atoms_spec (ws := wsX2_foldSet) B.pre
  have hown : s.vm.findClass RX2 = some m.cls := findClass_of_methodNamed B.named
  have hlocks := B.notSynchronized
  have hl := lv_entry ([.ref (ad (tc t0)), .int x1, .int x2, .ref (ad (tc t3))]) (n := 5) (Nat.le_of_ble_eq_true rfl)
  have hfr : entryFrame m args 5 = F0 m 0 (lg_sl ([.ref (ad (tc t0)), .int x1, .int x2, .ref (ad (tc t3))]) ++ List.replicate (5 - (lg_sl ([.ref (ad (tc t0)), .int x1, .int x2, .ref (ad (tc t3))])).length) Slot.unset).toArray [] := by rw [hargs, lg_entry_eq]
  rw [hfr]
  generalize (lg_sl ([.ref (ad (tc t0)), .int x1, .int x2, .ref (ad (tc t3))]) ++ List.replicate (5 - (lg_sl ([.ref (ad (tc t0)), .int x1, .int x2, .ref (ad (tc t3))])).length) Slot.unset).toArray = ls at hl ⊢
  have hl : lv_has ls 5 [(0, .ref (ad (tc t0))), (1, .int x1), (2, .int x2), (3, .ref (ad (tc t3)))] := hl
  have L3 : ∀ (n : Nat) (st : St) (t0 : Nat) (x1 : Int32) (x2 : Int32) (t3 : Nat) (x4 : Int32) (hu0 : t0 < 15) (hu3 : t3 < 15) (stz : St) (H : Heap) (locs : List Loc) (ls : Array Slot), sX2_foldSet_L3 n st t0 x1 x2 t3 x4 = some stz → WW D ks ad (AA ad sz) s st H locs → lv_has ls 5 [(0, .ref (ad (tc t0))), (1, .int x1), (2, .int x2), (3, .ref (ad (tc t3))), (4, .int x4)] → (∀ (H : Heap) (locs : List Loc) (ls : Array Slot), WW D ks ad (AA ad sz) s stz H locs → lv_has ls 5 [] → W p l e (headSpec wsX2_foldSet rmX2_foldSet).room s m args below meth c H locs 0 0 (MQ below (va_Qv (fun (u : St) => u = st') (QW D ks ad sz) (AA ad sz)) args s 0 0 (AA ad sz)) (F0 m 34 ls [])) → W p l e (headSpec wsX2_foldSet rmX2_foldSet).room s m args below meth c H locs 0 0 (MQ below (va_Qv (fun (u : St) => u = st') (QW D ks ad sz) (AA ad sz)) args s 0 0 (AA ad sz)) (F0 m 3 ls []) := by
    intro n
    induction n with
    | zero =>
      intro st t0 x1 x2 t3 x4 hu0 hu3 stz H locs ls hE hW hl kx
      exact none_x hE
    | succ n ih =>
      intro st t0 x1 x2 t3 x4 hu0 hu3 stz H locs ls hE hW hl kx
      rw [sX2_foldSet_L3] at hE
      refine lv_iload hx hb dX2_foldSet_3 (lv_at hl 4 rfl) ?_
      refine lv_bipush (v := 10) hx hb dX2_foldSet_5 (by decide) ?_
      refine lv_icmp_ge (tgt := 34) hx hb dX2_foldSet_7 (by decide) (fun c_1 => ?_) (fun c_1 => ?_)
      · have hE := if_t c_1 hE
        obtain rfl := some_x hE
        exact kx _ _ _ hW (lv_sub hl [] rfl)
      · have hE := if_f c_1 hE
        refine lv_iload_n hx hb dX2_foldSet_10 rfl (lv_at hl 1 rfl) ?_
        refine lv_iload hx hb dX2_foldSet_11 (lv_at hl 4 rfl) ?_
        refine lv_ishr hx hb dX2_foldSet_13 ?_
        refine lv_iconst (v := 1) hx hb dX2_foldSet_14 (by decide) ?_
        refine lv_iand hx hb dX2_foldSet_15 ?_
        refine lv_iconst (v := 1) hx hb dX2_foldSet_16 (by decide) ?_
        refine lv_icmp_ne (tgt := 28) hx hb dX2_foldSet_17 (by decide) (fun c_2 => ?_) (fun c_2 => ?_)
        · have hE := if_t c_2 hE
          obtain ⟨x4_3, e, hE⟩ := lt_some hE
          refine lv_iinc (v := x4_3) (lv' := [(4, .int x4_3), (0, .ref (ad (tc t0))), (1, .int x1), (2, .int x2), (3, .ref (ad (tc t3)))]) hx hb dX2_foldSet_28 hl (k := 4) rfl (by rw [e]; rfl) (by decide) rfl (fun ls hl => ?_)
          refine lv_goto (tgt := 3) hx hb dX2_foldSet_31 (by decide) ?_
          exact ih st t0 x1 x2 t3 x4_3 hu0 hu3 _ _ _ _ hE hW (lv_sub hl [1, 2, 3, 4, 0] rfl) kx
        · have hE := if_f (fun q => q c_2) hE
          refine lv_aload_n hx hb dX2_foldSet_20 rfl (lv_at hl 0 rfl) ?_
          refine lv_iload hx hb dX2_foldSet_21 (lv_at hl 4 rfl) ?_
          refine lv_iload_n hx hb dX2_foldSet_23 rfl (lv_at hl 2 rfl) ?_
          refine lv_aload_n hx hb dX2_foldSet_24 rfl (lv_at hl 3 rfl) ?_
          obtain ⟨st_4, hc_5, hE⟩ := ob_some hE
          refine ww_callVv (As := [.int x4, .int x2, .ref (ad (tc t3))]) (rest := []) ⟨hx, hb, hml, hown, hts⟩ hW (ctX2_fold l D ks ad _ st t0 x4 x2 t3 hu0 hu3 hc_5) (cwV 3 hts gX2_foldSet_X2_fold rfl rfl rfl (by decide +kernel) ⟨Nat.le_of_ble_eq_true rfl, Nat.le_of_ble_eq_true rfl⟩) (hW.recvT hu0) rfl hl.1 rfl (Nat.le_of_ble_eq_true rfl) dX2_foldSet_25 ⟨Nat.zero_le _, Nat.zero_le _⟩ (fun H locs hW => ?_)
          obtain ⟨x4_6, e, hE⟩ := lt_some hE
          refine lv_iinc (v := x4_6) (lv' := [(4, .int x4_6), (0, .ref (ad (tc t0))), (1, .int x1), (2, .int x2), (3, .ref (ad (tc t3)))]) hx hb dX2_foldSet_28 hl (k := 4) rfl (by rw [e]; rfl) (by decide) rfl (fun ls hl => ?_)
          refine lv_goto (tgt := 3) hx hb dX2_foldSet_31 (by decide) ?_
          exact ih st_4 t0 x1 x2 t3 x4_6 hu0 hu3 _ _ _ _ hE hW (lv_sub hl [1, 2, 3, 4, 0] rfl) kx
  refine lv_iconst (v := 0) hx hb dX2_foldSet_0 (by decide) ?_
  refine lv_istore (lv' := [(4, .int (0 : Int32)), (0, .ref (ad (tc t0))), (1, .int x1), (2, .int x2), (3, .ref (ad (tc t3)))]) hx hb dX2_foldSet_1 hl (by decide) rfl (fun ls hl => ?_)
  obtain ⟨st_7, hz, hE⟩ := ob_some hE
  refine L3 FU st t0 x1 x2 t3 (0 : Int32) ht0 ht3 st_7 _ _ _ hz hW (lv_sub hl [1, 2, 3, 4, 0] rfl) (fun H locs ls hW hl => ?_)
  obtain rfl := some_x hE
  exact W.vret hx hb hr (fun t ht hWm => hW.qv ht hWm) hW.2.2.1.2.2 dX2_foldSet_34
abbrev rmX2_lean : Room := { frames := 2, cells := 0, slots := 0, locals := 81 }
set_option maxRecDepth 100000 in
theorem in2_X2_lean : ∀ w ∈ wsX20, w ∈ wsX2_lean := by decide +kernel
set_option maxHeartbeats 4000000 in
set_option maxRecDepth 100000 in
theorem ctX2_lean (l : Launch) (D : va_G) (ks : KA) (ad : Nat → Nat) (sz : Nat) (st : St) (t0 : Nat) (t1 : Nat) (x2 : Int32) (t3 : Nat) (ht0 : t0 < 15) (ht1 : t1 < 15) (ht3 : t3 < 15) {st' : St} (hE : sX2_lean st t0 t1 x2 t3 = some st') : CV l D ks yX2_lean wsX2_lean rmX2_lean [.ref (ad (tc t0)), .ref (ad (tc t1)), .int x2, .ref (ad (tc t3))] ad sz st st' := by
  unfold sX2_lean at hE
  refine Met.ofW (cc := cX2_lean) (maxL := 7) (ret := none) (by decide) rfl ?_
  intro p e s m args below meth c s₁ B hml hv
  obtain ⟨hargs, hPW⟩ := hv
  have hW := WW.entry hPW
  have hx := B.exec
  have hb := B.bytes
  have hr := B.returns
  have hts := atoms_spec (ws := wsX2_lean) B.pre
  have hown : s.vm.findClass RX2 = some m.cls := findClass_of_methodNamed B.named
  have hlocks := B.notSynchronized
  have hin2 : ∀ w ∈ u_ws RX2 TX2 1, w ∈ wsX2_lean := in2_X2_lean
  have hf11 := hts (.fieldLink RX2 11 "Trellis$Table" "words" "[J") (by decide +kernel)
  have hl := lv_entry ([.ref (ad (tc t0)), .ref (ad (tc t1)), .int x2, .ref (ad (tc t3))]) (n := 7) (Nat.le_of_ble_eq_true rfl)
  have hfr : entryFrame m args 7 = F0 m 0 (lg_sl ([.ref (ad (tc t0)), .ref (ad (tc t1)), .int x2, .ref (ad (tc t3))]) ++ List.replicate (7 - (lg_sl ([.ref (ad (tc t0)), .ref (ad (tc t1)), .int x2, .ref (ad (tc t3))])).length) Slot.unset).toArray [] := by rw [hargs, lg_entry_eq]
  rw [hfr]
  generalize (lg_sl ([.ref (ad (tc t0)), .ref (ad (tc t1)), .int x2, .ref (ad (tc t3))]) ++ List.replicate (7 - (lg_sl ([.ref (ad (tc t0)), .ref (ad (tc t1)), .int x2, .ref (ad (tc t3))])).length) Slot.unset).toArray = ls at hl ⊢
  have hl : lv_has ls 7 [(0, .ref (ad (tc t0))), (1, .ref (ad (tc t1))), (2, .int x2), (3, .ref (ad (tc t3)))] := hl
  have L8 : ∀ (n : Nat) (st : St) (t0 : Nat) (t1 : Nat) (x2 : Int32) (t3 : Nat) (x4 : Int32) (hu0 : t0 < 15) (hu1 : t1 < 15) (hu3 : t3 < 15) (stz : St) (H : Heap) (locs : List Loc) (ls : Array Slot), sX2_lean_L8 n st t0 t1 x2 t3 x4 = some stz → WW D ks ad (AA ad sz) s st H locs → lv_has ls 7 [(0, .ref (ad (tc t0))), (1, .ref (ad (tc t1))), (2, .int x2), (3, .ref (ad (tc t3))), (4, .int x4)] → (∀ (H : Heap) (locs : List Loc) (ls : Array Slot), WW D ks ad (AA ad sz) s stz H locs → lv_has ls 7 [] → W p l e (headSpec wsX2_lean rmX2_lean).room s m args below meth c H locs 0 0 (MQ below (va_Qv (fun (u : St) => u = st') (QW D ks ad sz) (AA ad sz)) args s 0 0 (AA ad sz)) (F0 m 62 ls [])) → W p l e (headSpec wsX2_lean rmX2_lean).room s m args below meth c H locs 0 0 (MQ below (va_Qv (fun (u : St) => u = st') (QW D ks ad sz) (AA ad sz)) args s 0 0 (AA ad sz)) (F0 m 8 ls []) := by
    intro n
    induction n with
    | zero =>
      intro st t0 t1 x2 t3 x4 hu0 hu1 hu3 stz H locs ls hE hW hl kx
      exact none_x hE
    | succ n ih =>
      intro st t0 t1 x2 t3 x4 hu0 hu1 hu3 stz H locs ls hE hW hl kx
      rw [sX2_lean_L8] at hE
      refine lv_iload hx hb dX2_lean_8 (lv_at hl 4 rfl) ?_
      refine lv_bipush (v := 16) hx hb dX2_lean_10 (by decide) ?_
      refine lv_icmp_ge (tgt := 62) hx hb dX2_lean_12 (by decide) (fun c_3 => ?_) (fun c_3 => ?_)
      · have hE := if_t c_3 hE
        obtain rfl := some_x hE
        exact kx _ _ _ hW (lv_sub hl [] rfl)
      · have hE := if_f c_3 hE
        refine lv_aload_n hx hb dX2_lean_15 rfl (lv_at hl 1 rfl) ?_
        refine ww_get (C := RX2) (T := TX2) (N := 1) (ref := RX2) (ci := 2) (v := .ref (ad (lc t1))) hx hb hts hin2 hown hW (tc t1) (cE_T (ad := ad) (ks := ks) (st := st) hu1).1 (cE_T hu1).2 rfl 0 (by decide) hf11 (fun _ h9 => h9) rfl dX2_lean_16 ?_
        refine lv_iload hx hb dX2_lean_19 (lv_at hl 4 rfl) ?_
        obtain ⟨hin, hE⟩ := gd_some hE
        refine ww_lald hx hb hW t1 (Nat.lt_of_lt_of_le hu1 (by decide)) (lLen_in hu1 hin) dX2_lean_21 ?_
        obtain ⟨x5_4, e, hE⟩ := lt_some hE
        refine lv_nml e ?_
        refine lv_lstore (lv' := [(5, .long x5_4), (0, .ref (ad (tc t0))), (1, .ref (ad (tc t1))), (2, .int x2), (3, .ref (ad (tc t3))), (4, .int x4)]) hx hb dX2_lean_22 hl (by decide) rfl (fun ls hl => ?_)
        refine lv_aload_n hx hb dX2_lean_24 rfl (lv_at hl 1 rfl) ?_
        refine ww_get (C := RX2) (T := TX2) (N := 1) (ref := RX2) (ci := 2) (v := .ref (ad (lc t0))) hx hb hts hin2 hown hW (tc t0) (cE_T (ad := ad) (ks := ks) (st := st) hu0).1 (cE_T hu0).2 rfl 0 (by decide) hf11 (fun _ h9 => h9) rfl dX2_lean_25 ?_
        refine lv_iload hx hb dX2_lean_28 (lv_at hl 5 rfl) ?_
        refine lv_aload_n hx hb dX2_lean_30 rfl (lv_at hl 4 rfl) ?_
        refine ww_get (C := RX2) (T := TX2) (N := 1) (ref := RX2) (ci := 2) (v := .ref (ad (lc t3))) hx hb hts hin2 hown hW (tc t3) (cE_T (ad := ad) (ks := ks) (st := st) hu3).1 (cE_T hu3).2 rfl 0 (by decide) hf11 (fun _ h9 => h9) rfl dX2_lean_31 ?_
        refine lv_iload hx hb dX2_lean_34 (lv_at hl 5 rfl) ?_
        obtain ⟨hin, hE⟩ := gd_some hE
        refine ww_lald hx hb hW t3 (Nat.lt_of_lt_of_le hu3 (by decide)) (lLen_in hu3 hin) dX2_lean_36 ?_
        refine lv_lload hx hb dX2_lean_37 (lv_at hl 0 rfl) ?_
        refine lv_land hx hb dX2_lean_39 ?_
        refine lv_aload_n hx hb dX2_lean_40 rfl (lv_at hl 4 rfl) ?_
        refine lv_iload_n hx hb dX2_lean_41 rfl (lv_at hl 3 rfl) ?_
        refine lv_iload hx hb dX2_lean_42 (lv_at hl 5 rfl) ?_
        obtain ⟨r_6, hc_5, hE⟩ := ob_some hE
        refine ww_callVl (As := [.int x2, .int x4]) (rest := [.long ((gL t3 st x4) &&& x5_4), .int x4, .ref (ad (lc t0))]) ⟨hx, hb, hml, hown, hts⟩ hW (ctX2_wordAcross l D ks ad _ st t3 x2 x4 hu3 hc_5) (cwV 2 hts gX2_lean_X2_wordAcross rfl rfl rfl (by decide +kernel) ⟨Nat.le_of_ble_eq_true rfl, Nat.le_of_ble_eq_true rfl⟩) (hW.recvT hu3) rfl hl.1 rfl (Nat.le_of_ble_eq_true rfl) dX2_lean_44 ⟨Nat.zero_le _, Nat.zero_le _⟩ (fun H locs hW => ?_)
        refine lv_lload hx hb dX2_lean_47 (lv_at hl 0 rfl) ?_
        refine lv_ldc2 (v := (-1)) hx hb hown (hts (.constantLong RX2 18 (-1)) (by decide +kernel)) dX2_lean_49 ?_
        refine lv_lxor hx hb dX2_lean_52 ?_
        refine lv_land hx hb dX2_lean_53 ?_
        refine lv_lor hx hb dX2_lean_54 ?_
        obtain ⟨hin, hE⟩ := gd_some hE
        obtain ⟨st_7, est, hE⟩ := lt_some hE
        refine ww_last hx hb hW t0 (Nat.lt_of_lt_of_le hu0 (by decide)) (lLen_in hu0 hin) est dX2_lean_55 (fun H locs hW => ?_)
        obtain ⟨x4_8, e, hE⟩ := lt_some hE
        refine lv_iinc (v := x4_8) (lv' := [(4, .int x4_8), (5, .long x5_4), (0, .ref (ad (tc t0))), (1, .ref (ad (tc t1))), (2, .int x2), (3, .ref (ad (tc t3)))]) hx hb dX2_lean_56 hl (k := 5) rfl (by rw [e]; rfl) (by decide) rfl (fun ls hl => ?_)
        refine lv_goto (tgt := 8) hx hb dX2_lean_59 (by decide) ?_
        exact ih st_7 t0 t1 x2 t3 x4_8 hu0 hu1 hu3 _ _ _ _ hE hW (lv_sub hl [2, 3, 4, 5, 0] rfl) kx
  refine lv_aload_n hx hb dX2_lean_0 rfl (lv_at hl 3 rfl) ?_
  refine lv_aload_n hx hb dX2_lean_1 rfl (lv_at hl 0 rfl) ?_
  obtain ⟨st_1, hc_2, hE⟩ := ob_some hE
  refine ww_callVv (As := [.ref (ad (tc t0))]) (rest := []) ⟨hx, hb, hml, hown, hts⟩ hW (ctX2_copy l D ks ad _ st t3 t0 ht3 ht0 hc_2) (cwV 1 hts gX2_lean_X2_copy rfl rfl rfl (by decide +kernel) ⟨Nat.le_of_ble_eq_true rfl, Nat.le_of_ble_eq_true rfl⟩) (hW.recvT ht3) rfl hl.1 rfl (Nat.le_of_ble_eq_true rfl) dX2_lean_2 ⟨Nat.zero_le _, Nat.zero_le _⟩ (fun H locs hW => ?_)
  refine lv_iconst (v := 0) hx hb dX2_lean_5 (by decide) ?_
  refine lv_istore (lv' := [(4, .int (0 : Int32)), (0, .ref (ad (tc t0))), (1, .ref (ad (tc t1))), (2, .int x2), (3, .ref (ad (tc t3)))]) hx hb dX2_lean_6 hl (by decide) rfl (fun ls hl => ?_)
  obtain ⟨st_9, hz, hE⟩ := ob_some hE
  refine L8 FU st_1 t0 t1 x2 t3 (0 : Int32) ht0 ht1 ht3 st_9 _ _ _ hz hW (lv_sub hl [1, 2, 3, 4, 0] rfl) (fun H locs ls hW hl => ?_)
  obtain rfl := some_x hE
  exact W.vret hx hb hr (fun t ht hWm => hW.qv ht hWm) hW.2.2.1.2.2 dX2_lean_62
abbrev rmX2_crossed : Room := { frames := 1, cells := 0, slots := 0, locals := 25 }
set_option maxRecDepth 100000 in
theorem in2_X2_crossed : ∀ w ∈ wsX20, w ∈ wsX2_crossed := by decide +kernel
set_option maxHeartbeats 4000000 in
set_option maxRecDepth 100000 in
theorem ctX2_crossed (l : Launch) (D : va_G) (ks : KA) (ad : Nat → Nat) (sz : Nat) (st : St) (t0 : Nat) (t1 : Nat) (x2 : Int32) (x3 : Int32) (t4 : Nat) (ht0 : t0 < 15) (ht1 : t1 < 15) (ht4 : t4 < 15) {st' : St} (hE : sX2_crossed st t0 t1 x2 x3 t4 = some st') : CV l D ks yX2_crossed wsX2_crossed rmX2_crossed [.ref (ad (tc t0)), .ref (ad (tc t1)), .int x2, .int x3, .ref (ad (tc t4))] ad sz st st' := by
  unfold sX2_crossed at hE
  refine Met.ofW (cc := cX2_crossed) (maxL := 8) (ret := none) (by decide) rfl ?_
  intro p e s m args below meth c s₁ B hml hv
  obtain ⟨hargs, hPW⟩ := hv
  have hW := WW.entry hPW
  have hx := B.exec
  have hb := B.bytes
  have hr := B.returns
  have hts := atoms_spec (ws := wsX2_crossed) B.pre
  have hown : s.vm.findClass RX2 = some m.cls := findClass_of_methodNamed B.named
  have hlocks := B.notSynchronized
  have hin2 : ∀ w ∈ u_ws RX2 TX2 1, w ∈ wsX2_crossed := in2_X2_crossed
  have hf11 := hts (.fieldLink RX2 11 "Trellis$Table" "words" "[J") (by decide +kernel)
  have hl := lv_entry ([.ref (ad (tc t0)), .ref (ad (tc t1)), .int x2, .int x3, .ref (ad (tc t4))]) (n := 8) (Nat.le_of_ble_eq_true rfl)
  have hfr : entryFrame m args 8 = F0 m 0 (lg_sl ([.ref (ad (tc t0)), .ref (ad (tc t1)), .int x2, .int x3, .ref (ad (tc t4))]) ++ List.replicate (8 - (lg_sl ([.ref (ad (tc t0)), .ref (ad (tc t1)), .int x2, .int x3, .ref (ad (tc t4))])).length) Slot.unset).toArray [] := by rw [hargs, lg_entry_eq]
  rw [hfr]
  generalize (lg_sl ([.ref (ad (tc t0)), .ref (ad (tc t1)), .int x2, .int x3, .ref (ad (tc t4))]) ++ List.replicate (8 - (lg_sl ([.ref (ad (tc t0)), .ref (ad (tc t1)), .int x2, .int x3, .ref (ad (tc t4))])).length) Slot.unset).toArray = ls at hl ⊢
  have hl : lv_has ls 8 [(0, .ref (ad (tc t0))), (1, .ref (ad (tc t1))), (2, .int x2), (3, .int x3), (4, .ref (ad (tc t4)))] := hl
  have L3 : ∀ (n : Nat) (st : St) (t0 : Nat) (t1 : Nat) (x2 : Int32) (x3 : Int32) (t4 : Nat) (x5 : Int32) (hu0 : t0 < 15) (hu1 : t1 < 15) (hu4 : t4 < 15) (stz : St) (H : Heap) (locs : List Loc) (ls : Array Slot), sX2_crossed_L3 n st t0 t1 x2 x3 t4 x5 = some stz → WW D ks ad (AA ad sz) s st H locs → lv_has ls 8 [(0, .ref (ad (tc t0))), (1, .ref (ad (tc t1))), (2, .int x2), (3, .int x3), (4, .ref (ad (tc t4))), (5, .int x5)] → (∀ (H : Heap) (locs : List Loc) (ls : Array Slot), WW D ks ad (AA ad sz) s stz H locs → lv_has ls 8 [(0, .ref (ad (tc t0))), (1, .ref (ad (tc t1))), (2, .int x2), (3, .int x3), (4, .ref (ad (tc t4)))] → W p l e (headSpec wsX2_crossed rmX2_crossed).room s m args below meth c H locs 0 0 (MQ below (va_Qv (fun (u : St) => u = st') (QW D ks ad sz) (AA ad sz)) args s 0 0 (AA ad sz)) (F0 m 31 ls [])) → W p l e (headSpec wsX2_crossed rmX2_crossed).room s m args below meth c H locs 0 0 (MQ below (va_Qv (fun (u : St) => u = st') (QW D ks ad sz) (AA ad sz)) args s 0 0 (AA ad sz)) (F0 m 3 ls []) := by
    intro n
    induction n with
    | zero =>
      intro st t0 t1 x2 x3 t4 x5 hu0 hu1 hu4 stz H locs ls hE hW hl kx
      exact none_x hE
    | succ n ih =>
      intro st t0 t1 x2 x3 t4 x5 hu0 hu1 hu4 stz H locs ls hE hW hl kx
      rw [sX2_crossed_L3] at hE
      refine lv_iload hx hb dX2_crossed_3 (lv_at hl 5 rfl) ?_
      refine lv_bipush (v := 16) hx hb dX2_crossed_5 (by decide) ?_
      refine lv_icmp_ge (tgt := 31) hx hb dX2_crossed_7 (by decide) (fun c_1 => ?_) (fun c_1 => ?_)
      · have hE := if_t c_1 hE
        obtain rfl := some_x hE
        exact kx _ _ _ hW (lv_sub hl [0, 1, 2, 3, 4] rfl)
      · have hE := if_f c_1 hE
        refine lv_aload hx hb dX2_crossed_10 (lv_at hl 4 rfl) ?_
        refine ww_get (C := RX2) (T := TX2) (N := 1) (ref := RX2) (ci := 2) (v := .ref (ad (lc t4))) hx hb hts hin2 hown hW (tc t4) (cE_T (ad := ad) (ks := ks) (st := st) hu4).1 (cE_T hu4).2 rfl 0 (by decide) hf11 (fun _ h9 => h9) rfl dX2_crossed_12 ?_
        refine lv_iload hx hb dX2_crossed_15 (lv_at hl 5 rfl) ?_
        refine lv_aload_n hx hb dX2_crossed_17 rfl (lv_at hl 1 rfl) ?_
        refine lv_iload_n hx hb dX2_crossed_18 rfl (lv_at hl 2 rfl) ?_
        refine lv_iload hx hb dX2_crossed_19 (lv_at hl 5 rfl) ?_
        obtain ⟨r_3, hc_2, hE⟩ := ob_some hE
        refine ww_callVl (As := [.int x2, .int x5]) (rest := [.int x5, .ref (ad (lc t4))]) ⟨hx, hb, hml, hown, hts⟩ hW (ctX2_wordAcross l D ks ad _ st t1 x2 x5 hu1 hc_2) (cwV 2 hts gX2_crossed_X2_wordAcross rfl rfl rfl (by decide +kernel) ⟨Nat.le_of_ble_eq_true rfl, Nat.le_of_ble_eq_true rfl⟩) (hW.recvT hu1) rfl hl.1 rfl (Nat.le_of_ble_eq_true rfl) dX2_crossed_21 ⟨Nat.zero_le _, Nat.zero_le _⟩ (fun H locs hW => ?_)
        obtain ⟨hin, hE⟩ := gd_some hE
        obtain ⟨st_4, est, hE⟩ := lt_some hE
        refine ww_last hx hb hW t4 (Nat.lt_of_lt_of_le hu4 (by decide)) (lLen_in hu4 hin) est dX2_crossed_24 (fun H locs hW => ?_)
        obtain ⟨x5_5, e, hE⟩ := lt_some hE
        refine lv_iinc (v := x5_5) (lv' := [(5, .int x5_5), (0, .ref (ad (tc t0))), (1, .ref (ad (tc t1))), (2, .int x2), (3, .int x3), (4, .ref (ad (tc t4)))]) hx hb dX2_crossed_25 hl (k := 5) rfl (by rw [e]; rfl) (by decide) rfl (fun ls hl => ?_)
        refine lv_goto (tgt := 3) hx hb dX2_crossed_28 (by decide) ?_
        exact ih st_4 t0 t1 x2 x3 t4 x5_5 hu0 hu1 hu4 _ _ _ _ hE hW (lv_sub hl [1, 2, 3, 4, 5, 0] rfl) kx
  have L34 : ∀ (n : Nat) (st : St) (t0 : Nat) (t1 : Nat) (x2 : Int32) (x3 : Int32) (t4 : Nat) (x5 : Int32) (hu0 : t0 < 15) (hu1 : t1 < 15) (hu4 : t4 < 15) (stz : St) (H : Heap) (locs : List Loc) (ls : Array Slot), sX2_crossed_L34 n st t0 t1 x2 x3 t4 x5 = some stz → WW D ks ad (AA ad sz) s st H locs → lv_has ls 8 [(0, .ref (ad (tc t0))), (1, .ref (ad (tc t1))), (2, .int x2), (3, .int x3), (4, .ref (ad (tc t4))), (5, .int x5)] → (∀ (H : Heap) (locs : List Loc) (ls : Array Slot), WW D ks ad (AA ad sz) s stz H locs → lv_has ls 8 [] → W p l e (headSpec wsX2_crossed rmX2_crossed).room s m args below meth c H locs 0 0 (MQ below (va_Qv (fun (u : St) => u = st') (QW D ks ad sz) (AA ad sz)) args s 0 0 (AA ad sz)) (F0 m 95 ls [])) → W p l e (headSpec wsX2_crossed rmX2_crossed).room s m args below meth c H locs 0 0 (MQ below (va_Qv (fun (u : St) => u = st') (QW D ks ad sz) (AA ad sz)) args s 0 0 (AA ad sz)) (F0 m 34 ls []) := by
    intro n
    induction n with
    | zero =>
      intro st t0 t1 x2 x3 t4 x5 hu0 hu1 hu4 stz H locs ls hE hW hl kx
      exact none_x hE
    | succ n ih =>
      intro st t0 t1 x2 x3 t4 x5 hu0 hu1 hu4 stz H locs ls hE hW hl kx
      rw [sX2_crossed_L34] at hE
      refine lv_iload hx hb dX2_crossed_34 (lv_at hl 5 rfl) ?_
      refine lv_bipush (v := 16) hx hb dX2_crossed_36 (by decide) ?_
      refine lv_icmp_ge (tgt := 95) hx hb dX2_crossed_38 (by decide) (fun c_7 => ?_) (fun c_7 => ?_)
      · have hE := if_t c_7 hE
        obtain rfl := some_x hE
        exact kx _ _ _ hW (lv_sub hl [] rfl)
      · have hE := if_f c_7 hE
        refine lv_iload_n hx hb dX2_crossed_41 rfl (lv_at hl 2 rfl) ?_
        refine lv_iload hx hb dX2_crossed_42 (lv_at hl 5 rfl) ?_
        obtain ⟨r_9, hc_8, hE⟩ := ob_some hE
        refine ww_callSl (As := [.int x2, .int x5]) (rest := []) ⟨hx, hb, hml, hown, hts⟩ hW (ctX2_wordOfVariable l D ks ad _ st x2 x5 hc_8) (va_cwS 2 hts gX2_crossed_X2_wordOfVariable rfl rfl rfl (by decide +kernel) ⟨Nat.le_of_ble_eq_true rfl, Nat.le_of_ble_eq_true rfl⟩) rfl hl.1 rfl (Nat.le_of_ble_eq_true rfl) dX2_crossed_44 ⟨Nat.zero_le _, Nat.zero_le _⟩ (fun H locs hW => ?_)
        refine lv_iload_n hx hb dX2_crossed_47 rfl (lv_at hl 3 rfl) ?_
        refine lv_iload hx hb dX2_crossed_48 (lv_at hl 5 rfl) ?_
        obtain ⟨r_11, hc_10, hE⟩ := ob_some hE
        refine ww_callSl (As := [.int x3, .int x5]) (rest := [.long r_9]) ⟨hx, hb, hml, hown, hts⟩ hW (ctX2_wordOfVariable l D ks ad _ st x3 x5 hc_10) (va_cwS 2 hts gX2_crossed_X2_wordOfVariable rfl rfl rfl (by decide +kernel) ⟨Nat.le_of_ble_eq_true rfl, Nat.le_of_ble_eq_true rfl⟩) rfl hl.1 rfl (Nat.le_of_ble_eq_true rfl) dX2_crossed_50 ⟨Nat.zero_le _, Nat.zero_le _⟩ (fun H locs hW => ?_)
        refine lv_lxor hx hb dX2_crossed_53 ?_
        obtain ⟨x6_12, e, hE⟩ := lt_some hE
        refine lv_nml e ?_
        refine lv_lstore (lv' := [(6, .long x6_12), (0, .ref (ad (tc t0))), (1, .ref (ad (tc t1))), (2, .int x2), (3, .int x3), (4, .ref (ad (tc t4))), (5, .int x5)]) hx hb dX2_crossed_54 hl (by decide) rfl (fun ls hl => ?_)
        refine lv_aload_n hx hb dX2_crossed_56 rfl (lv_at hl 1 rfl) ?_
        refine ww_get (C := RX2) (T := TX2) (N := 1) (ref := RX2) (ci := 2) (v := .ref (ad (lc t0))) hx hb hts hin2 hown hW (tc t0) (cE_T (ad := ad) (ks := ks) (st := st) hu0).1 (cE_T hu0).2 rfl 0 (by decide) hf11 (fun _ h9 => h9) rfl dX2_crossed_57 ?_
        refine lv_iload hx hb dX2_crossed_60 (lv_at hl 6 rfl) ?_
        refine lv_aload_n hx hb dX2_crossed_62 rfl (lv_at hl 2 rfl) ?_
        refine ww_get (C := RX2) (T := TX2) (N := 1) (ref := RX2) (ci := 2) (v := .ref (ad (lc t1))) hx hb hts hin2 hown hW (tc t1) (cE_T (ad := ad) (ks := ks) (st := st) hu1).1 (cE_T hu1).2 rfl 0 (by decide) hf11 (fun _ h9 => h9) rfl dX2_crossed_63 ?_
        refine lv_iload hx hb dX2_crossed_66 (lv_at hl 6 rfl) ?_
        obtain ⟨hin, hE⟩ := gd_some hE
        refine ww_lald hx hb hW t1 (Nat.lt_of_lt_of_le hu1 (by decide)) (lLen_in hu1 hin) dX2_crossed_68 ?_
        refine lv_lload hx hb dX2_crossed_69 (lv_at hl 0 rfl) ?_
        refine lv_ldc2 (v := (-1)) hx hb hown (hts (.constantLong RX2 18 (-1)) (by decide +kernel)) dX2_crossed_71 ?_
        refine lv_lxor hx hb dX2_crossed_74 ?_
        refine lv_land hx hb dX2_crossed_75 ?_
        refine lv_aload hx hb dX2_crossed_76 (lv_at hl 5 rfl) ?_
        refine lv_iload_n hx hb dX2_crossed_78 rfl (lv_at hl 4 rfl) ?_
        refine lv_iload hx hb dX2_crossed_79 (lv_at hl 6 rfl) ?_
        obtain ⟨r_14, hc_13, hE⟩ := ob_some hE
        refine ww_callVl (As := [.int x3, .int x5]) (rest := [.long ((gL t1 st x5) &&& (x6_12 ^^^ (-1 : Int64))), .int x5, .ref (ad (lc t0))]) ⟨hx, hb, hml, hown, hts⟩ hW (ctX2_wordAcross l D ks ad _ st t4 x3 x5 hu4 hc_13) (cwV 2 hts gX2_crossed_X2_wordAcross rfl rfl rfl (by decide +kernel) ⟨Nat.le_of_ble_eq_true rfl, Nat.le_of_ble_eq_true rfl⟩) (hW.recvT hu4) rfl hl.1 rfl (Nat.le_of_ble_eq_true rfl) dX2_crossed_81 ⟨Nat.zero_le _, Nat.zero_le _⟩ (fun H locs hW => ?_)
        refine lv_lload hx hb dX2_crossed_84 (lv_at hl 0 rfl) ?_
        refine lv_land hx hb dX2_crossed_86 ?_
        refine lv_lor hx hb dX2_crossed_87 ?_
        obtain ⟨hin, hE⟩ := gd_some hE
        obtain ⟨st_15, est, hE⟩ := lt_some hE
        refine ww_last hx hb hW t0 (Nat.lt_of_lt_of_le hu0 (by decide)) (lLen_in hu0 hin) est dX2_crossed_88 (fun H locs hW => ?_)
        obtain ⟨x5_16, e, hE⟩ := lt_some hE
        refine lv_iinc (v := x5_16) (lv' := [(5, .int x5_16), (6, .long x6_12), (0, .ref (ad (tc t0))), (1, .ref (ad (tc t1))), (2, .int x2), (3, .int x3), (4, .ref (ad (tc t4)))]) hx hb dX2_crossed_89 hl (k := 6) rfl (by rw [e]; rfl) (by decide) rfl (fun ls hl => ?_)
        refine lv_goto (tgt := 34) hx hb dX2_crossed_92 (by decide) ?_
        exact ih st_15 t0 t1 x2 x3 t4 x5_16 hu0 hu1 hu4 _ _ _ _ hE hW (lv_sub hl [2, 3, 4, 5, 6, 0] rfl) kx
  refine lv_iconst (v := 0) hx hb dX2_crossed_0 (by decide) ?_
  refine lv_istore (lv' := [(5, .int (0 : Int32)), (0, .ref (ad (tc t0))), (1, .ref (ad (tc t1))), (2, .int x2), (3, .int x3), (4, .ref (ad (tc t4)))]) hx hb dX2_crossed_1 hl (by decide) rfl (fun ls hl => ?_)
  obtain ⟨st_6, hz, hE⟩ := ob_some hE
  refine L3 FU st t0 t1 x2 x3 t4 (0 : Int32) ht0 ht1 ht4 st_6 _ _ _ hz hW (lv_sub hl [1, 2, 3, 4, 5, 0] rfl) (fun H locs ls hW hl => ?_)
  refine lv_iconst (v := 0) hx hb dX2_crossed_31 (by decide) ?_
  refine lv_istore (lv' := [(5, .int (0 : Int32)), (0, .ref (ad (tc t0))), (1, .ref (ad (tc t1))), (2, .int x2), (3, .int x3), (4, .ref (ad (tc t4)))]) hx hb dX2_crossed_32 hl (by decide) rfl (fun ls hl => ?_)
  obtain ⟨st_17, hz, hE⟩ := ob_some hE
  refine L34 FU st_6 t0 t1 x2 x3 t4 (0 : Int32) ht0 ht1 ht4 st_17 _ _ _ hz hW (lv_sub hl [1, 2, 3, 4, 5, 0] rfl) (fun H locs ls hW hl => ?_)
  obtain rfl := some_x hE
  exact W.vret hx hb hr (fun t ht hWm => hW.qv ht hWm) hW.2.2.1.2.2 dX2_crossed_95
abbrev rmX2_packed : Room := { frames := 1, cells := 0, slots := 0, locals := 21 }
set_option maxHeartbeats 4000000 in
set_option maxRecDepth 100000 in
theorem ctX2_packed (l : Launch) (D : va_G) (ks : KA) (ad : Nat → Nat) (sz : Nat) (st : St) (t0 : Nat) (x1 : Int32) (ht0 : t0 < 15) {r : Int64}  (hE : sX2_packed st t0 x1 = some r) : CJ l D ks yX2_packed wsX2_packed rmX2_packed [.ref (ad (tc t0)), .int x1] ad sz st r st := by
  unfold sX2_packed at hE
  refine Met.ofW (cc := cX2_packed) (maxL := 6) (ret := (some .long)) (by decide) rfl ?_
  intro p e s m args below meth c s₁ B hml hv
  obtain ⟨hargs, hPW⟩ := hv
  have hW := WW.entry hPW
  have hx := B.exec
  have hb := B.bytes
  have hr := B.returns
  have hts := atoms_spec (ws := wsX2_packed) B.pre
  have hown : s.vm.findClass RX2 = some m.cls := findClass_of_methodNamed B.named
  have hlocks := B.notSynchronized
  have hl := lv_entry ([.ref (ad (tc t0)), .int x1]) (n := 6) (Nat.le_of_ble_eq_true rfl)
  have hfr : entryFrame m args 6 = F0 m 0 (lg_sl ([.ref (ad (tc t0)), .int x1]) ++ List.replicate (6 - (lg_sl ([.ref (ad (tc t0)), .int x1])).length) Slot.unset).toArray [] := by rw [hargs, lg_entry_eq]
  rw [hfr]
  generalize (lg_sl ([.ref (ad (tc t0)), .int x1]) ++ List.replicate (6 - (lg_sl ([.ref (ad (tc t0)), .int x1])).length) Slot.unset).toArray = ls at hl ⊢
  have hl : lv_has ls 6 [(0, .ref (ad (tc t0))), (1, .int x1)] := hl
  have L8 : ∀ (n : Nat) (st : St) (t0 : Nat) (x1 : Int32) (x2 : Int64) (x4 : Int32) (x5 : Int32) (hu0 : t0 < 15) (z2 : Int64) (H : Heap) (locs : List Loc) (ls : Array Slot), sX2_packed_L8 n st t0 x1 x2 x4 x5 = some z2 → WW D ks ad (AA ad sz) s st H locs → lv_has ls 6 [(0, .ref (ad (tc t0))), (1, .int x1), (2, .long x2), (4, .int x4), (5, .int x5)] → (∀ (H : Heap) (locs : List Loc) (ls : Array Slot), WW D ks ad (AA ad sz) s st H locs → lv_has ls 6 [(2, .long z2)] → W p l e (headSpec wsX2_packed rmX2_packed).room s m args below meth c H locs 0 0 (MQ below (va_Ql (fun (x : Int64) (u : St) => x = r ∧ u = st) (QW D ks ad sz) (AA ad sz)) args s 0 0 (AA ad sz)) (F0 m 45 ls [])) → W p l e (headSpec wsX2_packed rmX2_packed).room s m args below meth c H locs 0 0 (MQ below (va_Ql (fun (x : Int64) (u : St) => x = r ∧ u = st) (QW D ks ad sz) (AA ad sz)) args s 0 0 (AA ad sz)) (F0 m 8 ls []) := by
    intro n
    induction n with
    | zero =>
      intro st t0 x1 x2 x4 x5 hu0 z2 H locs ls hE hW hl kx
      exact none_x hE
    | succ n ih =>
      intro st t0 x1 x2 x4 x5 hu0 z2 H locs ls hE hW hl kx
      rw [sX2_packed_L8] at hE
      refine lv_iload hx hb dX2_packed_8 (lv_at hl 4 rfl) ?_
      refine lv_bipush (v := 64) hx hb dX2_packed_10 (by decide) ?_
      refine lv_icmp_ge (tgt := 45) hx hb dX2_packed_12 (by decide) (fun c_1 => ?_) (fun c_1 => ?_)
      · have hE := if_t c_1 hE
        obtain rfl := some_x hE
        exact kx _ _ _ hW (lv_sub hl [2] rfl)
      · have hE := if_f c_1 hE
        refine lv_aload_n hx hb dX2_packed_15 rfl (lv_at hl 0 rfl) ?_
        refine lv_iload hx hb dX2_packed_16 (lv_at hl 3 rfl) ?_
        obtain ⟨r_3, hc_2, hE⟩ := ob_some hE
        refine ww_callVi (As := [.int x4]) (rest := []) ⟨hx, hb, hml, hown, hts⟩ hW (ctX2_tells l D ks ad _ st t0 x4 hu0 hc_2) (cwV 1 hts gX2_packed_X2_tells rfl rfl rfl (by decide +kernel) ⟨Nat.le_of_ble_eq_true rfl, Nat.le_of_ble_eq_true rfl⟩) (hW.recvT hu0) rfl hl.1 rfl (Nat.le_of_ble_eq_true rfl) dX2_packed_18 ⟨Nat.zero_le _, Nat.zero_le _⟩ (fun H locs hW => ?_)
        refine lv_if_eq (tgt := 31) hx hb dX2_packed_21 (by decide) (fun c_4 => ?_) (fun c_4 => ?_)
        · have hE := if_t c_4 hE
          refine lv_iload hx hb dX2_packed_31 (lv_at hl 3 rfl) ?_
          refine lv_iload_n hx hb dX2_packed_33 rfl (lv_at hl 1 rfl) ?_
          refine lv_isub hx hb dX2_packed_34 ?_
          refine lv_iload_n hx hb dX2_packed_35 rfl (lv_at hl 1 rfl) ?_
          refine lv_iand hx hb dX2_packed_36 ?_
          obtain ⟨x4_5, e, hE⟩ := lt_some hE
          refine lv_nmi e ?_
          refine lv_istore (lv' := [(4, .int x4_5), (0, .ref (ad (tc t0))), (1, .int x1), (2, .long x2), (5, .int x5)]) hx hb dX2_packed_37 hl (by decide) rfl (fun ls hl => ?_)
          obtain ⟨x5_6, e, hE⟩ := lt_some hE
          refine lv_iinc (v := x5_6) (lv' := [(5, .int x5_6), (4, .int x4_5), (0, .ref (ad (tc t0))), (1, .int x1), (2, .long x2)]) hx hb dX2_packed_39 hl (k := 4) rfl (by rw [e]; rfl) (by decide) rfl (fun ls hl => ?_)
          refine lv_goto (tgt := 8) hx hb dX2_packed_42 (by decide) ?_
          exact ih st t0 x1 x2 x4_5 x5_6 hu0 _ _ _ _ hE hW (lv_sub hl [2, 3, 4, 1, 0] rfl) kx
        · have hE := if_f c_4 hE
          refine lv_lload_n hx hb dX2_packed_24 rfl (lv_at hl 2 rfl) ?_
          refine lv_lconst (v := 1) hx hb dX2_packed_25 (by decide) ?_
          refine lv_iload hx hb dX2_packed_26 (lv_at hl 4 rfl) ?_
          refine lv_lshl (v := (lshl (1 : Int64) x5)) hx hb dX2_packed_28 rfl ?_
          refine lv_lor hx hb dX2_packed_29 ?_
          obtain ⟨x2_7, e, hE⟩ := lt_some hE
          refine lv_nml e ?_
          refine lv_lstore_n (lv' := [(2, .long x2_7), (0, .ref (ad (tc t0))), (1, .int x1), (4, .int x4), (5, .int x5)]) hx hb dX2_packed_30 rfl hl (by decide) rfl (fun ls hl => ?_)
          refine lv_iload hx hb dX2_packed_31 (lv_at hl 3 rfl) ?_
          refine lv_iload_n hx hb dX2_packed_33 rfl (lv_at hl 2 rfl) ?_
          refine lv_isub hx hb dX2_packed_34 ?_
          refine lv_iload_n hx hb dX2_packed_35 rfl (lv_at hl 2 rfl) ?_
          refine lv_iand hx hb dX2_packed_36 ?_
          obtain ⟨x4_8, e, hE⟩ := lt_some hE
          refine lv_nmi e ?_
          refine lv_istore (lv' := [(4, .int x4_8), (2, .long x2_7), (0, .ref (ad (tc t0))), (1, .int x1), (5, .int x5)]) hx hb dX2_packed_37 hl (by decide) rfl (fun ls hl => ?_)
          obtain ⟨x5_9, e, hE⟩ := lt_some hE
          refine lv_iinc (v := x5_9) (lv' := [(5, .int x5_9), (4, .int x4_8), (2, .long x2_7), (0, .ref (ad (tc t0))), (1, .int x1)]) hx hb dX2_packed_39 hl (k := 4) rfl (by rw [e]; rfl) (by decide) rfl (fun ls hl => ?_)
          refine lv_goto (tgt := 8) hx hb dX2_packed_42 (by decide) ?_
          exact ih st t0 x1 x2_7 x4_8 x5_9 hu0 _ _ _ _ hE hW (lv_sub hl [3, 4, 2, 1, 0] rfl) kx
  refine lv_lconst (v := 0) hx hb dX2_packed_0 (by decide) ?_
  refine lv_lstore_n (lv' := [(2, .long (0 : Int64)), (0, .ref (ad (tc t0))), (1, .int x1)]) hx hb dX2_packed_1 rfl hl (by decide) rfl (fun ls hl => ?_)
  refine lv_iconst (v := 0) hx hb dX2_packed_2 (by decide) ?_
  refine lv_istore (lv' := [(4, .int (0 : Int32)), (2, .long (0 : Int64)), (0, .ref (ad (tc t0))), (1, .int x1)]) hx hb dX2_packed_3 hl (by decide) rfl (fun ls hl => ?_)
  refine lv_iconst (v := 0) hx hb dX2_packed_5 (by decide) ?_
  refine lv_istore (lv' := [(5, .int (0 : Int32)), (4, .int (0 : Int32)), (2, .long (0 : Int64)), (0, .ref (ad (tc t0))), (1, .int x1)]) hx hb dX2_packed_6 hl (by decide) rfl (fun ls hl => ?_)
  obtain ⟨x2_10, hz, hE⟩ := ob_some hE
  refine L8 FU st t0 x1 (0 : Int64) (0 : Int32) (0 : Int32) ht0 x2_10 _ _ _ hz hW (lv_sub hl [3, 4, 2, 1, 0] rfl) (fun H locs ls hW hl => ?_)
  refine lv_lload_n hx hb dX2_packed_45 rfl (lv_at hl 0 rfl) ?_
  obtain rfl := some_x hE
  exact W.lret hx hb hr (fun t ht hWm => hW.ql ht hWm) hW.2.2.1.2.2 dX2_packed_46
