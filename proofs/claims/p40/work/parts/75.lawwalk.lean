/-! THE LAW from its first loop on, laid by wip/p40/gen2.py -/
set_option maxHeartbeats 4000000 in
set_option maxRecDepth 100000 in
theorem law_rest {p : Program} {l : Launch} {e : Env} {s : State} {m : MethodId} {below : List Frame} {meth : Method} {c : Code} {b xL : Nat} {xs : Nat → Int32} {D : va_G} {ks : KA} {ad : Nat → Nat} {kC kS : Nat} {st st' : St} {H : Heap} {locs : List Loc} {ls : Array Slot} (hx : p.tables.exec = Jvm.exec) (hb : c.code = cL_law) (hr : meth.sig.returnType = ret) (hml : c.maxLocals = 11) (hown : s.vm.findClass RL = some m.cls) (hts : ∀ w ∈ wsL_law, w.before #[Value.ref b] s = true) (hL : xL ≤ 260) (hX : va_X b xL xs s s.heap) (hbl : b < s.heap.size ∧ ¬ (s.heap.size ≤ b)) (hlocks : meth.locks = false) (hkC : kC ≤ 600104) (hkS : kS ≤ 7301314) (hE : sL_law xL xs st = some st') (hW : WW D ks ad (fun q : Nat => s.heap.size ≤ q) s st H locs) (hl : lv_has ls 11 [(0, .ref b), (1, .ref (ad 0))]) : W p l e room_1 s m #[Value.ref b] below meth c H locs kC kS (lw_Z below #[Value.ref b] s) (F0 m 49 ls []) := by
  unfold sL_law at hE
  have hf0 : kC ≤ room_1.cells ∧ kS ≤ room_1.slots := ⟨hkC, hkS⟩
  have L51 : ∀ (n : Nat) (st : St) (x2 : Int32)  (stz : St) (H : Heap) (locs : List Loc) (ls : Array Slot), sL_law_L51 xL xs n st x2 = some stz → WW D ks ad (fun q : Nat => s.heap.size ≤ q) s st H locs → lv_has ls 11 [(0, .ref b), (1, .ref (ad 0)), (2, .int x2)] → (∀ (H : Heap) (locs : List Loc) (ls : Array Slot), WW D ks ad (fun q : Nat => s.heap.size ≤ q) s stz H locs → lv_has ls 11 [(0, .ref b), (1, .ref (ad 0))] → W p l e room_1 s m #[Value.ref b] below meth c H locs kC kS (lw_Z below #[Value.ref b] s) (F0 m 117 ls [])) → W p l e room_1 s m #[Value.ref b] below meth c H locs kC kS (lw_Z below #[Value.ref b] s) (F0 m 51 ls []) := by
    intro n
    induction n with
    | zero =>
      intro st x2 stz H locs ls hE hW hl kx
      exact none_x hE
    | succ n ih =>
      intro st x2 stz H locs ls hE hW hl kx
      rw [sL_law_L51] at hE
      refine lv_iload_n hx hb dL_law_51 rfl (lv_at hl 2 rfl) ?_
      refine lv_bipush (v := 6) hx hb dL_law_52 (by decide) ?_
      refine lv_icmp_ge (tgt := 117) hx hb dL_law_54 (by decide) (fun c_1 => ?_) (fun c_1 => ?_)
      · have hE := if_t c_1 hE
        obtain rfl := some_x hE
        exact kx _ _ _ hW (lv_sub hl [0, 1] rfl)
      · have hE := if_f c_1 hE
        refine lv_aload_n hx hb dL_law_57 rfl (lv_at hl 0 rfl) ?_
        refine lv_iconst (v := 3) hx hb dL_law_58 (by decide) ?_
        refine lv_iload_n hx hb dL_law_59 rfl (lv_at hl 2 rfl) ?_
        refine lv_iadd hx hb dL_law_60 ?_
        obtain ⟨hin, hE⟩ := gd_some hE
        refine ww_cell (rest := []) ⟨hx, hb, hml, hown, hts⟩ hW hL hX hbl (in_nn hin) (va_cwS 2 hts gL_law_L_cell rfl rfl rfl (by decide +kernel) ⟨Nat.le_of_ble_eq_true rfl, Nat.le_of_ble_eq_true rfl⟩) hl.1 (Nat.le_of_ble_eq_true rfl) dL_law_61 hf0 (fun H locs hW => ?_)
        obtain ⟨x3_2, e, hE⟩ := lt_some hE
        refine lv_nmi e ?_
        refine lv_istore_n (lv' := [(3, .int x3_2), (0, .ref b), (1, .ref (ad 0)), (2, .int x2)]) hx hb dL_law_64 rfl hl (by decide) rfl (fun ls hl => ?_)
        refine lv_iload_n hx hb dL_law_65 rfl (lv_at hl 0 rfl) ?_
        refine lv_iconst (v := 2) hx hb dL_law_66 (by decide) ?_
        obtain ⟨r_4, hc_3, hE⟩ := ob_some hE
        refine ww_callSi (As := [.int x3_2, .int (2 : Int32)]) (rest := []) ⟨hx, hb, hml, hown, hts⟩ hW (ctL_below l D ks ad _ st x3_2 (2 : Int32) hc_3) (va_cwS 2 hts gL_law_L_below rfl rfl rfl (by decide +kernel) ⟨Nat.le_of_ble_eq_true rfl, Nat.le_of_ble_eq_true rfl⟩) rfl hl.1 rfl (Nat.le_of_ble_eq_true rfl) dL_law_67 hf0 (fun H locs hW => ?_)
        refine lv_if_ne (tgt := 89) hx hb dL_law_70 (by decide) (fun c_5 => ?_) (fun c_5 => ?_)
        · have hE := if_t c_5 hE
          refine lv_aload_n hx hb dL_law_89 rfl (lv_at hl 2 rfl) ?_
          refine lv_iload_n hx hb dL_law_90 rfl (lv_at hl 0 rfl) ?_
          refine lv_iconst (v := 1) hx hb dL_law_91 (by decide) ?_
          refine lv_ishr hx hb dL_law_92 ?_
          refine lv_bipush (v := 10) hx hb dL_law_93 (by decide) ?_
          obtain ⟨r_7, hc_6, hE⟩ := ob_some hE
          refine ww_callSi (As := [.int (x3_2 >>> ((1 : Int32) &&& 31)), .int (10 : Int32)]) (rest := [.ref (ad 0)]) ⟨hx, hb, hml, hown, hts⟩ hW (ctL_below l D ks ad _ st (x3_2 >>> ((1 : Int32) &&& 31)) (10 : Int32) hc_6) (va_cwS 2 hts gL_law_L_below rfl rfl rfl (by decide +kernel) ⟨Nat.le_of_ble_eq_true rfl, Nat.le_of_ble_eq_true rfl⟩) rfl hl.1 rfl (Nat.le_of_ble_eq_true rfl) dL_law_95 hf0 (fun H locs hW => ?_)
          obtain ⟨r_10, st_8, hc_9, hE⟩ := ob2_some hE
          refine ww_callVi (As := [.int r_7]) (rest := []) ⟨hx, hb, hml, hown, hts⟩ hW (ctX3_sift l D ks ad _ st r_7 hc_9) (cwV 1 hts gL_law_X3_sift rfl rfl rfl (by decide +kernel) ⟨Nat.le_of_ble_eq_true rfl, Nat.le_of_ble_eq_true rfl⟩) hW.recvX rfl hl.1 rfl (Nat.le_of_ble_eq_true rfl) dL_law_98 hf0 (fun H locs hW => ?_)
          refine lv_pop hx hb dL_law_101 rfl ?_
          refine lv_aload_n hx hb dL_law_102 rfl (lv_at hl 2 rfl) ?_
          obtain ⟨r_13, st_11, hc_12, hE⟩ := ob2_some hE
          refine ww_callSi (As := [.ref (ad 0)]) (rest := []) ⟨hx, hb, hml, hown, hts⟩ hW (ctL_isSound l D ks ad _ st_8 hc_12) (va_cwS 1 hts gL_law_L_isSound rfl rfl rfl (by decide +kernel) ⟨Nat.le_of_ble_eq_true rfl, Nat.le_of_ble_eq_true rfl⟩) rfl hl.1 rfl (Nat.le_of_ble_eq_true rfl) dL_law_103 hf0 (fun H locs hW => ?_)
          refine lv_if_ne (tgt := 111) hx hb dL_law_106 (by decide) (fun c_14 => ?_) (fun c_14 => ?_)
          · have hE := if_t c_14 hE
            obtain ⟨x2_15, e, hE⟩ := lt_some hE
            refine lv_iinc (v := x2_15) (lv' := [(2, .int x2_15), (3, .int x3_2), (0, .ref b), (1, .ref (ad 0))]) hx hb dL_law_111 hl (k := 3) rfl (by rw [e]; rfl) (by decide) rfl (fun ls hl => ?_)
            refine lv_goto (tgt := 51) hx hb dL_law_114 (by decide) ?_
            exact ih st_11 x2_15 _ _ _ _ hE hW (lv_sub hl [2, 3, 0] rfl) kx
          · have hE := if_f (fun q => q c_14) hE
            refine lv_iconst (v := 0) hx hb dL_law_109 (by decide) ?_
            exact none_x hE
        · have hE := if_f (fun q => q c_5) hE
          refine lv_aload_n hx hb dL_law_73 rfl (lv_at hl 2 rfl) ?_
          refine lv_iload_n hx hb dL_law_74 rfl (lv_at hl 0 rfl) ?_
          refine lv_iconst (v := 1) hx hb dL_law_75 (by decide) ?_
          refine lv_ishr hx hb dL_law_76 ?_
          refine lv_bipush (v := 9) hx hb dL_law_77 (by decide) ?_
          obtain ⟨r_17, hc_16, hE⟩ := ob_some hE
          refine ww_callSi (As := [.int (x3_2 >>> ((1 : Int32) &&& 31)), .int (9 : Int32)]) (rest := [.ref (ad 0)]) ⟨hx, hb, hml, hown, hts⟩ hW (ctL_below l D ks ad _ st (x3_2 >>> ((1 : Int32) &&& 31)) (9 : Int32) hc_16) (va_cwS 2 hts gL_law_L_below rfl rfl rfl (by decide +kernel) ⟨Nat.le_of_ble_eq_true rfl, Nat.le_of_ble_eq_true rfl⟩) rfl hl.1 rfl (Nat.le_of_ble_eq_true rfl) dL_law_79 hf0 (fun H locs hW => ?_)
          obtain ⟨r_20, st_18, hc_19, hE⟩ := ob2_some hE
          refine ww_callVi (As := [.int r_17]) (rest := []) ⟨hx, hb, hml, hown, hts⟩ hW (ctX3_swap l D ks ad _ st r_17 hc_19) (cwV 1 hts gL_law_X3_swap rfl rfl rfl (by decide +kernel) ⟨Nat.le_of_ble_eq_true rfl, Nat.le_of_ble_eq_true rfl⟩) hW.recvX rfl hl.1 rfl (Nat.le_of_ble_eq_true rfl) dL_law_82 hf0 (fun H locs hW => ?_)
          refine lv_pop hx hb dL_law_85 rfl ?_
          refine lv_goto (tgt := 102) hx hb dL_law_86 (by decide) ?_
          refine lv_aload_n hx hb dL_law_102 rfl (lv_at hl 2 rfl) ?_
          obtain ⟨r_23, st_21, hc_22, hE⟩ := ob2_some hE
          refine ww_callSi (As := [.ref (ad 0)]) (rest := []) ⟨hx, hb, hml, hown, hts⟩ hW (ctL_isSound l D ks ad _ st_18 hc_22) (va_cwS 1 hts gL_law_L_isSound rfl rfl rfl (by decide +kernel) ⟨Nat.le_of_ble_eq_true rfl, Nat.le_of_ble_eq_true rfl⟩) rfl hl.1 rfl (Nat.le_of_ble_eq_true rfl) dL_law_103 hf0 (fun H locs hW => ?_)
          refine lv_if_ne (tgt := 111) hx hb dL_law_106 (by decide) (fun c_24 => ?_) (fun c_24 => ?_)
          · have hE := if_t c_24 hE
            obtain ⟨x2_25, e, hE⟩ := lt_some hE
            refine lv_iinc (v := x2_25) (lv' := [(2, .int x2_25), (3, .int x3_2), (0, .ref b), (1, .ref (ad 0))]) hx hb dL_law_111 hl (k := 3) rfl (by rw [e]; rfl) (by decide) rfl (fun ls hl => ?_)
            refine lv_goto (tgt := 51) hx hb dL_law_114 (by decide) ?_
            exact ih st_21 x2_25 _ _ _ _ hE hW (lv_sub hl [2, 3, 0] rfl) kx
          · have hE := if_f (fun q => q c_24) hE
            refine lv_iconst (v := 0) hx hb dL_law_109 (by decide) ?_
            exact none_x hE
  refine lv_iconst (v := 0) hx hb dL_law_49 (by decide) ?_
  refine lv_istore_n (lv' := [(2, .int (0 : Int32)), (0, .ref b), (1, .ref (ad 0))]) hx hb dL_law_50 rfl hl (by decide) rfl (fun ls hl => ?_)
  obtain ⟨st_26, hz, hE⟩ := ob_some hE
  refine L51 FU st (0 : Int32) st_26 _ _ _ hz hW (lv_sub hl [1, 2, 0] rfl) (fun H locs ls hW hl => ?_)
  refine lv_aload_n hx hb dL_law_117 rfl (lv_at hl 0 rfl) ?_
  refine lv_bipush (v := 9) hx hb dL_law_118 (by decide) ?_
  refine ww_cell (rest := []) ⟨hx, hb, hml, hown, hts⟩ hW hL hX hbl (by decide +kernel) (va_cwS 2 hts gL_law_L_cell rfl rfl rfl (by decide +kernel) ⟨Nat.le_of_ble_eq_true rfl, Nat.le_of_ble_eq_true rfl⟩) hl.1 (Nat.le_of_ble_eq_true rfl) dL_law_120 hf0 (fun H locs hW => ?_)
  refine lv_bipush (v := 10) hx hb dL_law_123 (by decide) ?_
  obtain ⟨r_28, hc_27, hE⟩ := ob_some hE
  refine ww_callSi (As := [.int (cellV xL xs (9 : Int32)), .int (10 : Int32)]) (rest := []) ⟨hx, hb, hml, hown, hts⟩ hW (ctL_below l D ks ad _ st_26 (cellV xL xs (9 : Int32)) (10 : Int32) hc_27) (va_cwS 2 hts gL_law_L_below rfl rfl rfl (by decide +kernel) ⟨Nat.le_of_ble_eq_true rfl, Nat.le_of_ble_eq_true rfl⟩) rfl hl.1 rfl (Nat.le_of_ble_eq_true rfl) dL_law_125 hf0 (fun H locs hW => ?_)
  refine lv_istore_n (lv' := [(2, .int r_28), (0, .ref b), (1, .ref (ad 0))]) hx hb dL_law_128 rfl hl (by decide) rfl (fun ls hl => ?_)
  refine lv_aload_n hx hb dL_law_129 rfl (lv_at hl 1 rfl) ?_
  refine lv_bipush (v := 10) hx hb dL_law_130 (by decide) ?_
  refine ww_cell (rest := []) ⟨hx, hb, hml, hown, hts⟩ hW hL hX hbl (by decide +kernel) (va_cwS 2 hts gL_law_L_cell rfl rfl rfl (by decide +kernel) ⟨Nat.le_of_ble_eq_true rfl, Nat.le_of_ble_eq_true rfl⟩) hl.1 (Nat.le_of_ble_eq_true rfl) dL_law_132 hf0 (fun H locs hW => ?_)
  refine lv_bipush (v := 10) hx hb dL_law_135 (by decide) ?_
  obtain ⟨r_30, hc_29, hE⟩ := ob_some hE
  refine ww_callSi (As := [.int (cellV xL xs (10 : Int32)), .int (10 : Int32)]) (rest := []) ⟨hx, hb, hml, hown, hts⟩ hW (ctL_below l D ks ad _ st_26 (cellV xL xs (10 : Int32)) (10 : Int32) hc_29) (va_cwS 2 hts gL_law_L_below rfl rfl rfl (by decide +kernel) ⟨Nat.le_of_ble_eq_true rfl, Nat.le_of_ble_eq_true rfl⟩) rfl hl.1 rfl (Nat.le_of_ble_eq_true rfl) dL_law_137 hf0 (fun H locs hW => ?_)
  refine lv_istore_n (lv' := [(3, .int r_30), (2, .int r_28), (0, .ref b), (1, .ref (ad 0))]) hx hb dL_law_140 rfl hl (by decide) rfl (fun ls hl => ?_)
  refine lv_aload_n hx hb dL_law_141 rfl (lv_at hl 2 rfl) ?_
  refine lv_bipush (v := 11) hx hb dL_law_142 (by decide) ?_
  refine ww_cell (rest := []) ⟨hx, hb, hml, hown, hts⟩ hW hL hX hbl (by decide +kernel) (va_cwS 2 hts gL_law_L_cell rfl rfl rfl (by decide +kernel) ⟨Nat.le_of_ble_eq_true rfl, Nat.le_of_ble_eq_true rfl⟩) hl.1 (Nat.le_of_ble_eq_true rfl) dL_law_144 hf0 (fun H locs hW => ?_)
  refine lv_sipush (v := 1024) hx hb dL_law_147 (by decide) ?_
  obtain ⟨r_32, hc_31, hE⟩ := ob_some hE
  refine ww_callSi (As := [.int (cellV xL xs (11 : Int32)), .int (1024 : Int32)]) (rest := []) ⟨hx, hb, hml, hown, hts⟩ hW (ctL_below l D ks ad _ st_26 (cellV xL xs (11 : Int32)) (1024 : Int32) hc_31) (va_cwS 2 hts gL_law_L_below rfl rfl rfl (by decide +kernel) ⟨Nat.le_of_ble_eq_true rfl, Nat.le_of_ble_eq_true rfl⟩) rfl hl.1 rfl (Nat.le_of_ble_eq_true rfl) dL_law_150 hf0 (fun H locs hW => ?_)
  refine lv_istore (lv' := [(4, .int r_32), (3, .int r_30), (2, .int r_28), (0, .ref b), (1, .ref (ad 0))]) hx hb dL_law_153 hl (by decide) rfl (fun ls hl => ?_)
  refine lv_aload_n hx hb dL_law_155 rfl (lv_at hl 4 rfl) ?_
  obtain ⟨r_35, st_33, hc_34, hE⟩ := ob2_some hE
  refine ww_callVl (As := []) (rest := []) ⟨hx, hb, hml, hown, hts⟩ hW (ctX3_digest l D ks ad _ st_26 hc_34) (cwV 0 hts gL_law_X3_digest rfl rfl rfl (by decide +kernel) ⟨Nat.le_of_ble_eq_true rfl, Nat.le_of_ble_eq_true rfl⟩) hW.recvX rfl hl.1 rfl (Nat.le_of_ble_eq_true rfl) dL_law_156 hf0 (fun H locs hW => ?_)
  refine lv_lstore (lv' := [(5, .long r_35), (4, .int r_32), (3, .int r_30), (2, .int r_28), (0, .ref b), (1, .ref (ad 0))]) hx hb dL_law_159 hl (by decide) rfl (fun ls hl => ?_)
  refine lv_aload_n hx hb dL_law_161 rfl (lv_at hl 5 rfl) ?_
  refine lv_aload_n hx hb dL_law_162 rfl (lv_at hl 4 rfl) ?_
  refine lv_bipush (v := 13) hx hb dL_law_163 (by decide) ?_
  refine ww_cell (rest := [.ref (ad 0)]) ⟨hx, hb, hml, hown, hts⟩ hW hL hX hbl (by decide +kernel) (va_cwS 2 hts gL_law_L_cell rfl rfl rfl (by decide +kernel) ⟨Nat.le_of_ble_eq_true rfl, Nat.le_of_ble_eq_true rfl⟩) hl.1 (Nat.le_of_ble_eq_true rfl) dL_law_165 hf0 (fun H locs hW => ?_)
  refine lv_bipush (v := 9) hx hb dL_law_168 (by decide) ?_
  obtain ⟨r_37, hc_36, hE⟩ := ob_some hE
  refine ww_callSi (As := [.int (cellV xL xs (13 : Int32)), .int (9 : Int32)]) (rest := [.ref (ad 0)]) ⟨hx, hb, hml, hown, hts⟩ hW (ctL_below l D ks ad _ st_33 (cellV xL xs (13 : Int32)) (9 : Int32) hc_36) (va_cwS 2 hts gL_law_L_below rfl rfl rfl (by decide +kernel) ⟨Nat.le_of_ble_eq_true rfl, Nat.le_of_ble_eq_true rfl⟩) rfl hl.1 rfl (Nat.le_of_ble_eq_true rfl) dL_law_170 hf0 (fun H locs hW => ?_)
  obtain ⟨r_40, st_38, hc_39, hE⟩ := ob2_some hE
  refine ww_callVi (As := [.int r_37]) (rest := []) ⟨hx, hb, hml, hown, hts⟩ hW (ctX3_wouldSwap l D ks ad _ st_33 r_37 hc_39) (cwV 1 hts gL_law_X3_wouldSwap rfl rfl rfl (by decide +kernel) ⟨Nat.le_of_ble_eq_true rfl, Nat.le_of_ble_eq_true rfl⟩) hW.recvX rfl hl.1 rfl (Nat.le_of_ble_eq_true rfl) dL_law_173 hf0 (fun H locs hW => ?_)
  refine lv_iconst (v := (-1)) hx hb dL_law_176 (by decide) ?_
  refine lv_icmp_lt (tgt := 211) hx hb dL_law_177 (by decide) (fun c_41 => ?_) (fun c_41 => ?_)
  · have hE := if_t c_41 hE
    refine lv_iconst (v := 0) hx hb dL_law_211 (by decide) ?_
    exact none_x hE
  · have hE := if_f c_41 hE
    refine lv_aload_n hx hb dL_law_180 rfl (lv_at hl 5 rfl) ?_
    refine lv_iload_n hx hb dL_law_181 rfl (lv_at hl 2 rfl) ?_
    obtain ⟨r_44, st_42, hc_43, hE⟩ := ob2_some hE
    refine ww_callVi (As := [.int r_30]) (rest := []) ⟨hx, hb, hml, hown, hts⟩ hW (ctX3_wouldSift l D ks ad _ st_38 r_30 hc_43) (cwV 1 hts gL_law_X3_wouldSift rfl rfl rfl (by decide +kernel) ⟨Nat.le_of_ble_eq_true rfl, Nat.le_of_ble_eq_true rfl⟩) hW.recvX rfl hl.1 rfl (Nat.le_of_ble_eq_true rfl) dL_law_182 hf0 (fun H locs hW => ?_)
    refine lv_if_lt (tgt := 211) hx hb dL_law_185 (by decide) (fun c_45 => ?_) (fun c_45 => ?_)
    · have hE := if_t c_45 hE
      refine lv_iconst (v := 0) hx hb dL_law_211 (by decide) ?_
      exact none_x hE
    · have hE := if_f c_45 hE
      refine lv_aload_n hx hb dL_law_188 rfl (lv_at hl 5 rfl) ?_
      refine lv_iconst (v := 0) hx hb dL_law_189 (by decide) ?_
      obtain ⟨r_48, st_46, hc_47, hE⟩ := ob2_some hE
      refine ww_callVi (As := [.int (0 : Int32)]) (rest := []) ⟨hx, hb, hml, hown, hts⟩ hW (ctX3_leastSize l D ks ad _ st_42 (0 : Int32) hc_47) (cwV 1 hts gL_law_X3_leastSize rfl rfl rfl (by decide +kernel) ⟨Nat.le_of_ble_eq_true rfl, Nat.le_of_ble_eq_true rfl⟩) hW.recvX rfl hl.1 rfl (Nat.le_of_ble_eq_true rfl) dL_law_190 hf0 (fun H locs hW => ?_)
      refine lv_aload_n hx hb dL_law_193 rfl (lv_at hl 5 rfl) ?_
      refine lv_iconst (v := 0) hx hb dL_law_194 (by decide) ?_
      obtain ⟨r_51, st_49, hc_50, hE⟩ := ob2_some hE
      refine ww_callVi (As := [.int (0 : Int32)]) (rest := [.int r_48]) ⟨hx, hb, hml, hown, hts⟩ hW (ctX3_size l D ks ad _ st_46 (0 : Int32) hc_50) (cwV 1 hts gL_law_X3_size rfl rfl rfl (by decide +kernel) ⟨Nat.le_of_ble_eq_true rfl, Nat.le_of_ble_eq_true rfl⟩) hW.recvX rfl hl.1 rfl (Nat.le_of_ble_eq_true rfl) dL_law_195 hf0 (fun H locs hW => ?_)
      refine lv_icmp_gt (tgt := 211) hx hb dL_law_198 (by decide) (fun c_52 => ?_) (fun c_52 => ?_)
      · have hE := if_t c_52 hE
        refine lv_iconst (v := 0) hx hb dL_law_211 (by decide) ?_
        exact none_x hE
      · have hE := if_f c_52 hE
        refine lv_aload_n hx hb dL_law_201 rfl (lv_at hl 5 rfl) ?_
        obtain ⟨r_55, st_53, hc_54, hE⟩ := ob2_some hE
        refine ww_callVl (As := []) (rest := []) ⟨hx, hb, hml, hown, hts⟩ hW (ctX3_digest l D ks ad _ st_49 hc_54) (cwV 0 hts gL_law_X3_digest rfl rfl rfl (by decide +kernel) ⟨Nat.le_of_ble_eq_true rfl, Nat.le_of_ble_eq_true rfl⟩) hW.recvX rfl hl.1 rfl (Nat.le_of_ble_eq_true rfl) dL_law_202 hf0 (fun H locs hW => ?_)
        refine lv_lload hx hb dL_law_205 (lv_at hl 0 rfl) ?_
        refine W.lcmp hx hb dL_law_207 ?_
        refine lv_if_eq (tgt := 213) hx hb dL_law_208 (by decide) (fun c_56 => ?_) (fun c_56 => ?_)
        · have hE := if_t c_56 hE
          refine lv_aload_n hx hb dL_law_213 rfl (lv_at hl 5 rfl) ?_
          refine lv_aload_n hx hb dL_law_214 rfl (lv_at hl 4 rfl) ?_
          refine lv_bipush (v := 12) hx hb dL_law_215 (by decide) ?_
          refine ww_cell (rest := [.ref (ad 0)]) ⟨hx, hb, hml, hown, hts⟩ hW hL hX hbl (by decide +kernel) (va_cwS 2 hts gL_law_L_cell rfl rfl rfl (by decide +kernel) ⟨Nat.le_of_ble_eq_true rfl, Nat.le_of_ble_eq_true rfl⟩) hl.1 (Nat.le_of_ble_eq_true rfl) dL_law_217 hf0 (fun H locs hW => ?_)
          refine lv_bipush (v := 16) hx hb dL_law_220 (by decide) ?_
          obtain ⟨r_58, hc_57, hE⟩ := ob_some hE
          refine ww_callSi (As := [.int (cellV xL xs (12 : Int32)), .int (16 : Int32)]) (rest := [.ref (ad 0)]) ⟨hx, hb, hml, hown, hts⟩ hW (ctL_below l D ks ad _ st_53 (cellV xL xs (12 : Int32)) (16 : Int32) hc_57) (va_cwS 2 hts gL_law_L_below rfl rfl rfl (by decide +kernel) ⟨Nat.le_of_ble_eq_true rfl, Nat.le_of_ble_eq_true rfl⟩) rfl hl.1 rfl (Nat.le_of_ble_eq_true rfl) dL_law_222 hf0 (fun H locs hW => ?_)
          refine lv_iload_n hx hb dL_law_225 rfl (lv_at hl 3 rfl) ?_
          refine lv_iload_n hx hb dL_law_226 rfl (lv_at hl 2 rfl) ?_
          obtain ⟨r_61, st_59, hc_60, hE⟩ := ob2_some hE
          refine ww_callSi (As := [.ref (ad 0), .int r_58, .int r_28, .int r_30]) (rest := []) ⟨hx, hb, hml, hown, hts⟩ hW (ctL_first l D ks ad _ st_53 r_58 r_28 r_30 hc_60) (va_cwS 4 hts gL_law_L_first rfl rfl rfl (by decide +kernel) ⟨Nat.le_of_ble_eq_true rfl, Nat.le_of_ble_eq_true rfl⟩) rfl hl.1 rfl (Nat.le_of_ble_eq_true rfl) dL_law_227 hf0 (fun H locs hW => ?_)
          refine lv_if_eq (tgt := 258) hx hb dL_law_230 (by decide) (fun c_62 => ?_) (fun c_62 => ?_)
          · have hE := if_t c_62 hE
            refine lv_iconst (v := 0) hx hb dL_law_258 (by decide) ?_
            exact none_x hE
          · have hE := if_f c_62 hE
            refine lv_aload_n hx hb dL_law_233 rfl (lv_at hl 5 rfl) ?_
            refine lv_iload_n hx hb dL_law_234 rfl (lv_at hl 3 rfl) ?_
            obtain ⟨r_65, st_63, hc_64, hE⟩ := ob2_some hE
            refine ww_callSi (As := [.ref (ad 0), .int r_28]) (rest := []) ⟨hx, hb, hml, hown, hts⟩ hW (ctL_second l D ks ad _ st_59 r_28 hc_64) (va_cwS 2 hts gL_law_L_second rfl rfl rfl (by decide +kernel) ⟨Nat.le_of_ble_eq_true rfl, Nat.le_of_ble_eq_true rfl⟩) rfl hl.1 rfl (Nat.le_of_ble_eq_true rfl) dL_law_235 hf0 (fun H locs hW => ?_)
            refine lv_if_eq (tgt := 258) hx hb dL_law_238 (by decide) (fun c_66 => ?_) (fun c_66 => ?_)
            · have hE := if_t c_66 hE
              refine lv_iconst (v := 0) hx hb dL_law_258 (by decide) ?_
              exact none_x hE
            · have hE := if_f c_66 hE
              refine lv_aload_n hx hb dL_law_241 rfl (lv_at hl 5 rfl) ?_
              refine lv_iload hx hb dL_law_242 (lv_at hl 1 rfl) ?_
              refine lv_iload_n hx hb dL_law_244 rfl (lv_at hl 3 rfl) ?_
              obtain ⟨r_69, st_67, hc_68, hE⟩ := ob2_some hE
              refine ww_callSi (As := [.ref (ad 0), .int r_32, .int r_28]) (rest := []) ⟨hx, hb, hml, hown, hts⟩ hW (ctL_third l D ks ad _ st_63 r_32 r_28 hc_68) (va_cwS 3 hts gL_law_L_third rfl rfl rfl (by decide +kernel) ⟨Nat.le_of_ble_eq_true rfl, Nat.le_of_ble_eq_true rfl⟩) rfl hl.1 rfl (Nat.le_of_ble_eq_true rfl) dL_law_245 hf0 (fun H locs hW => ?_)
              refine lv_if_eq (tgt := 258) hx hb dL_law_248 (by decide) (fun c_70 => ?_) (fun c_70 => ?_)
              · have hE := if_t c_70 hE
                refine lv_iconst (v := 0) hx hb dL_law_258 (by decide) ?_
                exact none_x hE
              · have hE := if_f c_70 hE
                refine lv_aload_n hx hb dL_law_251 rfl (lv_at hl 5 rfl) ?_
                obtain ⟨r_73, st_71, hc_72, hE⟩ := ob2_some hE
                refine ww_callSi (As := [.ref (ad 0)]) (rest := []) ⟨hx, hb, hml, hown, hts⟩ hW (ctL_fourth l D ks ad _ st_67 hc_72) (va_cwS 1 hts gL_law_L_fourth rfl rfl rfl (by decide +kernel) ⟨Nat.le_of_ble_eq_true rfl, Nat.le_of_ble_eq_true rfl⟩) rfl hl.1 rfl (Nat.le_of_ble_eq_true rfl) dL_law_252 hf0 (fun H locs hW => ?_)
                refine lv_if_ne (tgt := 260) hx hb dL_law_255 (by decide) (fun c_74 => ?_) (fun c_74 => ?_)
                · have hE := if_t c_74 hE
                  refine lv_aload_n hx hb dL_law_260 rfl (lv_at hl 5 rfl) ?_
                  refine lv_iconst (v := 2) hx hb dL_law_261 (by decide) ?_
                  obtain ⟨r_76, hc_75, hE⟩ := ob_some hE
                  refine ww_callVi (As := [.int (2 : Int32)]) (rest := []) ⟨hx, hb, hml, hown, hts⟩ hW (ctX3_cheapest l D ks ad _ st_71 (2 : Int32) hc_75) (cwV 1 hts gL_law_X3_cheapest rfl rfl rfl (by decide +kernel) ⟨Nat.le_of_ble_eq_true rfl, Nat.le_of_ble_eq_true rfl⟩) hW.recvX rfl hl.1 rfl (Nat.le_of_ble_eq_true rfl) dL_law_262 hf0 (fun H locs hW => ?_)
                  refine lv_istore (lv' := [(7, .int r_76), (5, .long r_35), (4, .int r_32), (3, .int r_30), (2, .int r_28), (0, .ref b), (1, .ref (ad 0))]) hx hb dL_law_265 hl (by decide) rfl (fun ls hl => ?_)
                  refine lv_iload hx hb dL_law_267 (lv_at hl 0 rfl) ?_
                  refine lv_aload_n hx hb dL_law_269 rfl (lv_at hl 6 rfl) ?_
                  refine lv_iconst (v := 2) hx hb dL_law_270 (by decide) ?_
                  refine lv_iconst (v := 0) hx hb dL_law_271 (by decide) ?_
                  obtain ⟨r_78, hc_77, hE⟩ := ob_some hE
                  refine ww_callVi (As := [.int (2 : Int32), .int (0 : Int32)]) (rest := [.int r_76]) ⟨hx, hb, hml, hown, hts⟩ hW (ctX3_model l D ks ad _ st_71 (2 : Int32) (0 : Int32) hc_77) (cwV 2 hts gL_law_X3_model rfl rfl rfl (by decide +kernel) ⟨Nat.le_of_ble_eq_true rfl, Nat.le_of_ble_eq_true rfl⟩) hW.recvX rfl hl.1 rfl (Nat.le_of_ble_eq_true rfl) dL_law_272 hf0 (fun H locs hW => ?_)
                  refine lv_icmp_ne (tgt := 303) hx hb dL_law_275 (by decide) (fun c_79 => ?_) (fun c_79 => ?_)
                  · have hE := if_t c_79 hE
                    refine lv_iconst (v := 0) hx hb dL_law_303 (by decide) ?_
                    exact none_x hE
                  · have hE := if_f (fun q => q c_79) hE
                    refine lv_aload_n hx hb dL_law_278 rfl (lv_at hl 6 rfl) ?_
                    refine lv_iconst (v := 2) hx hb dL_law_279 (by decide) ?_
                    obtain ⟨r_81, hc_80, hE⟩ := ob_some hE
                    refine ww_callVi (As := [.int (2 : Int32)]) (rest := []) ⟨hx, hb, hml, hown, hts⟩ hW (ctX3_models l D ks ad _ st_71 (2 : Int32) hc_80) (cwV 1 hts gL_law_X3_models rfl rfl rfl (by decide +kernel) ⟨Nat.le_of_ble_eq_true rfl, Nat.le_of_ble_eq_true rfl⟩) hW.recvX rfl hl.1 rfl (Nat.le_of_ble_eq_true rfl) dL_law_280 hf0 (fun H locs hW => ?_)
                    refine lv_if_le (tgt := 296) hx hb dL_law_283 (by decide) (fun c_82 => ?_) (fun c_82 => ?_)
                    · have hE := if_t c_82 hE
                      refine lv_aload_n hx hb dL_law_296 rfl (lv_at hl 6 rfl) ?_
                      obtain ⟨r_85, st_83, hc_84, hE⟩ := ob2_some hE
                      refine ww_callSi (As := [.ref (ad 0)]) (rest := []) ⟨hx, hb, hml, hown, hts⟩ hW (ctL_isSound l D ks ad _ st_71 hc_84) (va_cwS 1 hts gL_law_L_isSound rfl rfl rfl (by decide +kernel) ⟨Nat.le_of_ble_eq_true rfl, Nat.le_of_ble_eq_true rfl⟩) rfl hl.1 rfl (Nat.le_of_ble_eq_true rfl) dL_law_297 hf0 (fun H locs hW => ?_)
                      refine lv_if_ne (tgt := 305) hx hb dL_law_300 (by decide) (fun c_86 => ?_) (fun c_86 => ?_)
                      · have hE := if_t c_86 hE
                        refine lv_aload_n hx hb dL_law_305 rfl (lv_at hl 6 rfl) ?_
                        refine lv_iconst (v := 0) hx hb dL_law_306 (by decide) ?_
                        obtain ⟨r_88, hc_87, hE⟩ := ob_some hE
                        refine ww_callVi (As := [.int (0 : Int32)]) (rest := []) ⟨hx, hb, hml, hown, hts⟩ hW (ctX3_models l D ks ad _ st_83 (0 : Int32) hc_87) (cwV 1 hts gL_law_X3_models rfl rfl rfl (by decide +kernel) ⟨Nat.le_of_ble_eq_true rfl, Nat.le_of_ble_eq_true rfl⟩) hW.recvX rfl hl.1 rfl (Nat.le_of_ble_eq_true rfl) dL_law_307 hf0 (fun H locs hW => ?_)
                        refine lv_aload_n hx hb dL_law_310 rfl (lv_at hl 6 rfl) ?_
                        refine lv_iconst (v := 1) hx hb dL_law_311 (by decide) ?_
                        obtain ⟨r_90, hc_89, hE⟩ := ob_some hE
                        refine ww_callVi (As := [.int (1 : Int32)]) (rest := [.int r_88]) ⟨hx, hb, hml, hown, hts⟩ hW (ctX3_models l D ks ad _ st_83 (1 : Int32) hc_89) (cwV 1 hts gL_law_X3_models rfl rfl rfl (by decide +kernel) ⟨Nat.le_of_ble_eq_true rfl, Nat.le_of_ble_eq_true rfl⟩) hW.recvX rfl hl.1 rfl (Nat.le_of_ble_eq_true rfl) dL_law_312 hf0 (fun H locs hW => ?_)
                        refine lv_iadd hx hb dL_law_315 ?_
                        refine lv_aload_n hx hb dL_law_316 rfl (lv_at hl 6 rfl) ?_
                        refine lv_iconst (v := 2) hx hb dL_law_317 (by decide) ?_
                        obtain ⟨r_92, hc_91, hE⟩ := ob_some hE
                        refine ww_callVi (As := [.int (2 : Int32)]) (rest := [.int (r_88 + r_90)]) ⟨hx, hb, hml, hown, hts⟩ hW (ctX3_models l D ks ad _ st_83 (2 : Int32) hc_91) (cwV 1 hts gL_law_X3_models rfl rfl rfl (by decide +kernel) ⟨Nat.le_of_ble_eq_true rfl, Nat.le_of_ble_eq_true rfl⟩) hW.recvX rfl hl.1 rfl (Nat.le_of_ble_eq_true rfl) dL_law_318 hf0 (fun H locs hW => ?_)
                        refine lv_iadd hx hb dL_law_321 ?_
                        obtain ⟨x8_93, e, hE⟩ := lt_some hE
                        refine lv_nmi e ?_
                        refine lv_istore (lv' := [(8, .int x8_93), (7, .int r_76), (5, .long r_35), (4, .int r_32), (3, .int r_30), (2, .int r_28), (0, .ref b), (1, .ref (ad 0))]) hx hb dL_law_322 hl (by decide) rfl (fun ls hl => ?_)
                        refine lv_aload_n hx hb dL_law_324 rfl (lv_at hl 7 rfl) ?_
                        obtain ⟨r_95, hc_94, hE⟩ := ob_some hE
                        refine ww_callVi (As := []) (rest := []) ⟨hx, hb, hml, hown, hts⟩ hW (ctX3_total l D ks ad _ st_83 hc_94) (cwV 0 hts gL_law_X3_total rfl rfl rfl (by decide +kernel) ⟨Nat.le_of_ble_eq_true rfl, Nat.le_of_ble_eq_true rfl⟩) hW.recvX rfl hl.1 rfl (Nat.le_of_ble_eq_true rfl) dL_law_325 hf0 (fun H locs hW => ?_)
                        refine lv_istore (lv' := [(9, .int r_95), (8, .int x8_93), (7, .int r_76), (5, .long r_35), (4, .int r_32), (3, .int r_30), (2, .int r_28), (0, .ref b), (1, .ref (ad 0))]) hx hb dL_law_328 hl (by decide) rfl (fun ls hl => ?_)
                        refine lv_aload_n hx hb dL_law_330 rfl (lv_at hl 8 rfl) ?_
                        obtain ⟨r_98, st_96, hc_97, hE⟩ := ob2_some hE
                        refine ww_callVi (As := []) (rest := []) ⟨hx, hb, hml, hown, hts⟩ hW (ctX3_settle l D ks ad _ st_83 hc_97) (cwV 0 hts gL_law_X3_settle rfl rfl rfl (by decide +kernel) ⟨Nat.le_of_ble_eq_true rfl, Nat.le_of_ble_eq_true rfl⟩) hW.recvX rfl hl.1 rfl (Nat.le_of_ble_eq_true rfl) dL_law_331 hf0 (fun H locs hW => ?_)
                        refine lv_istore (lv' := [(10, .int r_98), (9, .int r_95), (8, .int x8_93), (7, .int r_76), (5, .long r_35), (4, .int r_32), (3, .int r_30), (2, .int r_28), (0, .ref b), (1, .ref (ad 0))]) hx hb dL_law_334 hl (by decide) rfl (fun ls hl => ?_)
                        refine lv_iload hx hb dL_law_336 (lv_at hl 0 rfl) ?_
                        refine lv_if_lt (tgt := 386) hx hb dL_law_338 (by decide) (fun c_99 => ?_) (fun c_99 => ?_)
                        · have hE := if_t c_99 hE
                          refine lv_iconst (v := 0) hx hb dL_law_386 (by decide) ?_
                          exact none_x hE
                        · have hE := if_f c_99 hE
                          refine lv_aload_n hx hb dL_law_341 rfl (lv_at hl 9 rfl) ?_
                          obtain ⟨r_101, hc_100, hE⟩ := ob_some hE
                          refine ww_callVi (As := []) (rest := []) ⟨hx, hb, hml, hown, hts⟩ hW (ctX3_total l D ks ad _ st_96 hc_100) (cwV 0 hts gL_law_X3_total rfl rfl rfl (by decide +kernel) ⟨Nat.le_of_ble_eq_true rfl, Nat.le_of_ble_eq_true rfl⟩) hW.recvX rfl hl.1 rfl (Nat.le_of_ble_eq_true rfl) dL_law_342 hf0 (fun H locs hW => ?_)
                          refine lv_iload hx hb dL_law_345 (lv_at hl 1 rfl) ?_
                          refine lv_iload hx hb dL_law_347 (lv_at hl 0 rfl) ?_
                          refine lv_isub hx hb dL_law_349 ?_
                          refine lv_icmp_ne (tgt := 386) hx hb dL_law_350 (by decide) (fun c_102 => ?_) (fun c_102 => ?_)
                          · have hE := if_t c_102 hE
                            refine lv_iconst (v := 0) hx hb dL_law_386 (by decide) ?_
                            exact none_x hE
                          · have hE := if_f (fun q => q c_102) hE
                            refine lv_aload_n hx hb dL_law_353 rfl (lv_at hl 9 rfl) ?_
                            obtain ⟨r_105, st_103, hc_104, hE⟩ := ob2_some hE
                            refine ww_callSi (As := [.ref (ad 0)]) (rest := []) ⟨hx, hb, hml, hown, hts⟩ hW (ctL_isSound l D ks ad _ st_96 hc_104) (va_cwS 1 hts gL_law_L_isSound rfl rfl rfl (by decide +kernel) ⟨Nat.le_of_ble_eq_true rfl, Nat.le_of_ble_eq_true rfl⟩) rfl hl.1 rfl (Nat.le_of_ble_eq_true rfl) dL_law_354 hf0 (fun H locs hW => ?_)
                            refine lv_if_eq (tgt := 386) hx hb dL_law_357 (by decide) (fun c_106 => ?_) (fun c_106 => ?_)
                            · have hE := if_t c_106 hE
                              refine lv_iconst (v := 0) hx hb dL_law_386 (by decide) ?_
                              exact none_x hE
                            · have hE := if_f c_106 hE
                              refine lv_aload_n hx hb dL_law_360 rfl (lv_at hl 9 rfl) ?_
                              refine lv_iconst (v := 0) hx hb dL_law_361 (by decide) ?_
                              obtain ⟨r_108, hc_107, hE⟩ := ob_some hE
                              refine ww_callVi (As := [.int (0 : Int32)]) (rest := []) ⟨hx, hb, hml, hown, hts⟩ hW (ctX3_models l D ks ad _ st_103 (0 : Int32) hc_107) (cwV 1 hts gL_law_X3_models rfl rfl rfl (by decide +kernel) ⟨Nat.le_of_ble_eq_true rfl, Nat.le_of_ble_eq_true rfl⟩) hW.recvX rfl hl.1 rfl (Nat.le_of_ble_eq_true rfl) dL_law_362 hf0 (fun H locs hW => ?_)
                              refine lv_aload_n hx hb dL_law_365 rfl (lv_at hl 9 rfl) ?_
                              refine lv_iconst (v := 1) hx hb dL_law_366 (by decide) ?_
                              obtain ⟨r_110, hc_109, hE⟩ := ob_some hE
                              refine ww_callVi (As := [.int (1 : Int32)]) (rest := [.int r_108]) ⟨hx, hb, hml, hown, hts⟩ hW (ctX3_models l D ks ad _ st_103 (1 : Int32) hc_109) (cwV 1 hts gL_law_X3_models rfl rfl rfl (by decide +kernel) ⟨Nat.le_of_ble_eq_true rfl, Nat.le_of_ble_eq_true rfl⟩) hW.recvX rfl hl.1 rfl (Nat.le_of_ble_eq_true rfl) dL_law_367 hf0 (fun H locs hW => ?_)
                              refine lv_iadd hx hb dL_law_370 ?_
                              refine lv_aload_n hx hb dL_law_371 rfl (lv_at hl 9 rfl) ?_
                              refine lv_iconst (v := 2) hx hb dL_law_372 (by decide) ?_
                              obtain ⟨r_112, hc_111, hE⟩ := ob_some hE
                              refine ww_callVi (As := [.int (2 : Int32)]) (rest := [.int (r_108 + r_110)]) ⟨hx, hb, hml, hown, hts⟩ hW (ctX3_models l D ks ad _ st_103 (2 : Int32) hc_111) (cwV 1 hts gL_law_X3_models rfl rfl rfl (by decide +kernel) ⟨Nat.le_of_ble_eq_true rfl, Nat.le_of_ble_eq_true rfl⟩) hW.recvX rfl hl.1 rfl (Nat.le_of_ble_eq_true rfl) dL_law_373 hf0 (fun H locs hW => ?_)
                              refine lv_iadd hx hb dL_law_376 ?_
                              refine lv_iload hx hb dL_law_377 (lv_at hl 2 rfl) ?_
                              refine lv_icmp_ne (tgt := 386) hx hb dL_law_379 (by decide) (fun c_113 => ?_) (fun c_113 => ?_)
                              · have hE := if_t c_113 hE
                                refine lv_iconst (v := 0) hx hb dL_law_386 (by decide) ?_
                                exact none_x hE
                              · have hE := if_f (fun q => q c_113) hE
                                refine lv_iconst (v := 1) hx hb dL_law_382 (by decide) ?_
                                refine lv_goto (tgt := 387) hx hb dL_law_383 (by decide) ?_
                                exact law_end hx hb hr hlocks hW.2.2.1 hkC hkS dL_law_387
                      · have hE := if_f (fun q => q c_86) hE
                        refine lv_iconst (v := 0) hx hb dL_law_303 (by decide) ?_
                        exact none_x hE
                    · have hE := if_f c_82 hE
                      refine lv_aload_n hx hb dL_law_286 rfl (lv_at hl 6 rfl) ?_
                      refine lv_iconst (v := 2) hx hb dL_law_287 (by decide) ?_
                      refine lv_iload hx hb dL_law_288 (lv_at hl 0 rfl) ?_
                      obtain ⟨r_115, hc_114, hE⟩ := ob_some hE
                      refine ww_callVi (As := [.int (2 : Int32), .int r_76]) (rest := []) ⟨hx, hb, hml, hown, hts⟩ hW (ctX3_holds l D ks ad _ st_71 (2 : Int32) r_76 hc_114) (cwV 2 hts gL_law_X3_holds rfl rfl rfl (by decide +kernel) ⟨Nat.le_of_ble_eq_true rfl, Nat.le_of_ble_eq_true rfl⟩) hW.recvX rfl hl.1 rfl (Nat.le_of_ble_eq_true rfl) dL_law_290 hf0 (fun H locs hW => ?_)
                      refine lv_if_eq (tgt := 303) hx hb dL_law_293 (by decide) (fun c_116 => ?_) (fun c_116 => ?_)
                      · have hE := if_t c_116 hE
                        refine lv_iconst (v := 0) hx hb dL_law_303 (by decide) ?_
                        exact none_x hE
                      · have hE := if_f c_116 hE
                        refine lv_aload_n hx hb dL_law_296 rfl (lv_at hl 6 rfl) ?_
                        obtain ⟨r_119, st_117, hc_118, hE⟩ := ob2_some hE
                        refine ww_callSi (As := [.ref (ad 0)]) (rest := []) ⟨hx, hb, hml, hown, hts⟩ hW (ctL_isSound l D ks ad _ st_71 hc_118) (va_cwS 1 hts gL_law_L_isSound rfl rfl rfl (by decide +kernel) ⟨Nat.le_of_ble_eq_true rfl, Nat.le_of_ble_eq_true rfl⟩) rfl hl.1 rfl (Nat.le_of_ble_eq_true rfl) dL_law_297 hf0 (fun H locs hW => ?_)
                        refine lv_if_ne (tgt := 305) hx hb dL_law_300 (by decide) (fun c_120 => ?_) (fun c_120 => ?_)
                        · have hE := if_t c_120 hE
                          refine lv_aload_n hx hb dL_law_305 rfl (lv_at hl 6 rfl) ?_
                          refine lv_iconst (v := 0) hx hb dL_law_306 (by decide) ?_
                          obtain ⟨r_122, hc_121, hE⟩ := ob_some hE
                          refine ww_callVi (As := [.int (0 : Int32)]) (rest := []) ⟨hx, hb, hml, hown, hts⟩ hW (ctX3_models l D ks ad _ st_117 (0 : Int32) hc_121) (cwV 1 hts gL_law_X3_models rfl rfl rfl (by decide +kernel) ⟨Nat.le_of_ble_eq_true rfl, Nat.le_of_ble_eq_true rfl⟩) hW.recvX rfl hl.1 rfl (Nat.le_of_ble_eq_true rfl) dL_law_307 hf0 (fun H locs hW => ?_)
                          refine lv_aload_n hx hb dL_law_310 rfl (lv_at hl 6 rfl) ?_
                          refine lv_iconst (v := 1) hx hb dL_law_311 (by decide) ?_
                          obtain ⟨r_124, hc_123, hE⟩ := ob_some hE
                          refine ww_callVi (As := [.int (1 : Int32)]) (rest := [.int r_122]) ⟨hx, hb, hml, hown, hts⟩ hW (ctX3_models l D ks ad _ st_117 (1 : Int32) hc_123) (cwV 1 hts gL_law_X3_models rfl rfl rfl (by decide +kernel) ⟨Nat.le_of_ble_eq_true rfl, Nat.le_of_ble_eq_true rfl⟩) hW.recvX rfl hl.1 rfl (Nat.le_of_ble_eq_true rfl) dL_law_312 hf0 (fun H locs hW => ?_)
                          refine lv_iadd hx hb dL_law_315 ?_
                          refine lv_aload_n hx hb dL_law_316 rfl (lv_at hl 6 rfl) ?_
                          refine lv_iconst (v := 2) hx hb dL_law_317 (by decide) ?_
                          obtain ⟨r_126, hc_125, hE⟩ := ob_some hE
                          refine ww_callVi (As := [.int (2 : Int32)]) (rest := [.int (r_122 + r_124)]) ⟨hx, hb, hml, hown, hts⟩ hW (ctX3_models l D ks ad _ st_117 (2 : Int32) hc_125) (cwV 1 hts gL_law_X3_models rfl rfl rfl (by decide +kernel) ⟨Nat.le_of_ble_eq_true rfl, Nat.le_of_ble_eq_true rfl⟩) hW.recvX rfl hl.1 rfl (Nat.le_of_ble_eq_true rfl) dL_law_318 hf0 (fun H locs hW => ?_)
                          refine lv_iadd hx hb dL_law_321 ?_
                          obtain ⟨x8_127, e, hE⟩ := lt_some hE
                          refine lv_nmi e ?_
                          refine lv_istore (lv' := [(8, .int x8_127), (7, .int r_76), (5, .long r_35), (4, .int r_32), (3, .int r_30), (2, .int r_28), (0, .ref b), (1, .ref (ad 0))]) hx hb dL_law_322 hl (by decide) rfl (fun ls hl => ?_)
                          refine lv_aload_n hx hb dL_law_324 rfl (lv_at hl 7 rfl) ?_
                          obtain ⟨r_129, hc_128, hE⟩ := ob_some hE
                          refine ww_callVi (As := []) (rest := []) ⟨hx, hb, hml, hown, hts⟩ hW (ctX3_total l D ks ad _ st_117 hc_128) (cwV 0 hts gL_law_X3_total rfl rfl rfl (by decide +kernel) ⟨Nat.le_of_ble_eq_true rfl, Nat.le_of_ble_eq_true rfl⟩) hW.recvX rfl hl.1 rfl (Nat.le_of_ble_eq_true rfl) dL_law_325 hf0 (fun H locs hW => ?_)
                          refine lv_istore (lv' := [(9, .int r_129), (8, .int x8_127), (7, .int r_76), (5, .long r_35), (4, .int r_32), (3, .int r_30), (2, .int r_28), (0, .ref b), (1, .ref (ad 0))]) hx hb dL_law_328 hl (by decide) rfl (fun ls hl => ?_)
                          refine lv_aload_n hx hb dL_law_330 rfl (lv_at hl 8 rfl) ?_
                          obtain ⟨r_132, st_130, hc_131, hE⟩ := ob2_some hE
                          refine ww_callVi (As := []) (rest := []) ⟨hx, hb, hml, hown, hts⟩ hW (ctX3_settle l D ks ad _ st_117 hc_131) (cwV 0 hts gL_law_X3_settle rfl rfl rfl (by decide +kernel) ⟨Nat.le_of_ble_eq_true rfl, Nat.le_of_ble_eq_true rfl⟩) hW.recvX rfl hl.1 rfl (Nat.le_of_ble_eq_true rfl) dL_law_331 hf0 (fun H locs hW => ?_)
                          refine lv_istore (lv' := [(10, .int r_132), (9, .int r_129), (8, .int x8_127), (7, .int r_76), (5, .long r_35), (4, .int r_32), (3, .int r_30), (2, .int r_28), (0, .ref b), (1, .ref (ad 0))]) hx hb dL_law_334 hl (by decide) rfl (fun ls hl => ?_)
                          refine lv_iload hx hb dL_law_336 (lv_at hl 0 rfl) ?_
                          refine lv_if_lt (tgt := 386) hx hb dL_law_338 (by decide) (fun c_133 => ?_) (fun c_133 => ?_)
                          · have hE := if_t c_133 hE
                            refine lv_iconst (v := 0) hx hb dL_law_386 (by decide) ?_
                            exact none_x hE
                          · have hE := if_f c_133 hE
                            refine lv_aload_n hx hb dL_law_341 rfl (lv_at hl 9 rfl) ?_
                            obtain ⟨r_135, hc_134, hE⟩ := ob_some hE
                            refine ww_callVi (As := []) (rest := []) ⟨hx, hb, hml, hown, hts⟩ hW (ctX3_total l D ks ad _ st_130 hc_134) (cwV 0 hts gL_law_X3_total rfl rfl rfl (by decide +kernel) ⟨Nat.le_of_ble_eq_true rfl, Nat.le_of_ble_eq_true rfl⟩) hW.recvX rfl hl.1 rfl (Nat.le_of_ble_eq_true rfl) dL_law_342 hf0 (fun H locs hW => ?_)
                            refine lv_iload hx hb dL_law_345 (lv_at hl 1 rfl) ?_
                            refine lv_iload hx hb dL_law_347 (lv_at hl 0 rfl) ?_
                            refine lv_isub hx hb dL_law_349 ?_
                            refine lv_icmp_ne (tgt := 386) hx hb dL_law_350 (by decide) (fun c_136 => ?_) (fun c_136 => ?_)
                            · have hE := if_t c_136 hE
                              refine lv_iconst (v := 0) hx hb dL_law_386 (by decide) ?_
                              exact none_x hE
                            · have hE := if_f (fun q => q c_136) hE
                              refine lv_aload_n hx hb dL_law_353 rfl (lv_at hl 9 rfl) ?_
                              obtain ⟨r_139, st_137, hc_138, hE⟩ := ob2_some hE
                              refine ww_callSi (As := [.ref (ad 0)]) (rest := []) ⟨hx, hb, hml, hown, hts⟩ hW (ctL_isSound l D ks ad _ st_130 hc_138) (va_cwS 1 hts gL_law_L_isSound rfl rfl rfl (by decide +kernel) ⟨Nat.le_of_ble_eq_true rfl, Nat.le_of_ble_eq_true rfl⟩) rfl hl.1 rfl (Nat.le_of_ble_eq_true rfl) dL_law_354 hf0 (fun H locs hW => ?_)
                              refine lv_if_eq (tgt := 386) hx hb dL_law_357 (by decide) (fun c_140 => ?_) (fun c_140 => ?_)
                              · have hE := if_t c_140 hE
                                refine lv_iconst (v := 0) hx hb dL_law_386 (by decide) ?_
                                exact none_x hE
                              · have hE := if_f c_140 hE
                                refine lv_aload_n hx hb dL_law_360 rfl (lv_at hl 9 rfl) ?_
                                refine lv_iconst (v := 0) hx hb dL_law_361 (by decide) ?_
                                obtain ⟨r_142, hc_141, hE⟩ := ob_some hE
                                refine ww_callVi (As := [.int (0 : Int32)]) (rest := []) ⟨hx, hb, hml, hown, hts⟩ hW (ctX3_models l D ks ad _ st_137 (0 : Int32) hc_141) (cwV 1 hts gL_law_X3_models rfl rfl rfl (by decide +kernel) ⟨Nat.le_of_ble_eq_true rfl, Nat.le_of_ble_eq_true rfl⟩) hW.recvX rfl hl.1 rfl (Nat.le_of_ble_eq_true rfl) dL_law_362 hf0 (fun H locs hW => ?_)
                                refine lv_aload_n hx hb dL_law_365 rfl (lv_at hl 9 rfl) ?_
                                refine lv_iconst (v := 1) hx hb dL_law_366 (by decide) ?_
                                obtain ⟨r_144, hc_143, hE⟩ := ob_some hE
                                refine ww_callVi (As := [.int (1 : Int32)]) (rest := [.int r_142]) ⟨hx, hb, hml, hown, hts⟩ hW (ctX3_models l D ks ad _ st_137 (1 : Int32) hc_143) (cwV 1 hts gL_law_X3_models rfl rfl rfl (by decide +kernel) ⟨Nat.le_of_ble_eq_true rfl, Nat.le_of_ble_eq_true rfl⟩) hW.recvX rfl hl.1 rfl (Nat.le_of_ble_eq_true rfl) dL_law_367 hf0 (fun H locs hW => ?_)
                                refine lv_iadd hx hb dL_law_370 ?_
                                refine lv_aload_n hx hb dL_law_371 rfl (lv_at hl 9 rfl) ?_
                                refine lv_iconst (v := 2) hx hb dL_law_372 (by decide) ?_
                                obtain ⟨r_146, hc_145, hE⟩ := ob_some hE
                                refine ww_callVi (As := [.int (2 : Int32)]) (rest := [.int (r_142 + r_144)]) ⟨hx, hb, hml, hown, hts⟩ hW (ctX3_models l D ks ad _ st_137 (2 : Int32) hc_145) (cwV 1 hts gL_law_X3_models rfl rfl rfl (by decide +kernel) ⟨Nat.le_of_ble_eq_true rfl, Nat.le_of_ble_eq_true rfl⟩) hW.recvX rfl hl.1 rfl (Nat.le_of_ble_eq_true rfl) dL_law_373 hf0 (fun H locs hW => ?_)
                                refine lv_iadd hx hb dL_law_376 ?_
                                refine lv_iload hx hb dL_law_377 (lv_at hl 2 rfl) ?_
                                refine lv_icmp_ne (tgt := 386) hx hb dL_law_379 (by decide) (fun c_147 => ?_) (fun c_147 => ?_)
                                · have hE := if_t c_147 hE
                                  refine lv_iconst (v := 0) hx hb dL_law_386 (by decide) ?_
                                  exact none_x hE
                                · have hE := if_f (fun q => q c_147) hE
                                  refine lv_iconst (v := 1) hx hb dL_law_382 (by decide) ?_
                                  refine lv_goto (tgt := 387) hx hb dL_law_383 (by decide) ?_
                                  exact law_end hx hb hr hlocks hW.2.2.1 hkC hkS dL_law_387
                        · have hE := if_f (fun q => q c_120) hE
                          refine lv_iconst (v := 0) hx hb dL_law_303 (by decide) ?_
                          exact none_x hE
                · have hE := if_f (fun q => q c_74) hE
                  refine lv_iconst (v := 0) hx hb dL_law_258 (by decide) ?_
                  exact none_x hE
        · have hE := if_f c_56 hE
          refine lv_iconst (v := 0) hx hb dL_law_211 (by decide) ?_
          exact none_x hE
