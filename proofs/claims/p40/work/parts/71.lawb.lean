/-! ROWS FOR THE LAW: doubles, remainders, the script -/
def gz {α : Type} (y : Int32) (x : Option α) : Option α := if y = 0 then none else x
theorem gz_some {α : Type} {y : Int32} {x : Option α} {b : α} (h : gz y x = some b) : ¬ y = 0 ∧ x = some b := by
  unfold gz at h
  by_cases q : y = 0
  · rw [if_pos q] at h; cases h
  · rw [if_neg q] at h; exact ⟨q, h⟩
def gn {α : Type} (r : UInt64) (x : Option α) : Option α := if r &&& 0x7fffffffffffffff ≤ 0x7ff0000000000000 then x else none
theorem gn_some {α : Type} {r : UInt64} {x : Option α} {b : α} (h : gn r x = some b) : vf_n64 r ∧ x = some b := by
  unfold gn at h
  by_cases q : r &&& 0x7fffffffffffffff ≤ 0x7ff0000000000000
  · rw [if_pos q] at h; exact ⟨q, h⟩
  · rw [if_neg q] at h; cases h
abbrev CD (l : Launch) (D : va_G) (ks : KA) (y : MethodName) (ws : List Cond) (rm : Room) (av : List Value) (ad : Nat → Nat) (sz : Nat) (st : St) (r : UInt64) (st' : St) : Prop := Met l y ws rm (va_Pc av (PW D ks ad sz st)) (va_Qd (fun (x : UInt64) (u : St) => x = r ∧ u = st') (QW D ks ad sz) (AA ad sz)) 0 0 (AA ad sz)
section WCALLD
variable {p : Program} {l : Launch} {e : Env} {R : Room} {s : State} {m : MethodId} {args : Array Value} {below : List Frame} {meth : Method} {c : Code} {H : Heap} {locs : List Loc} {cells slots : Nat} {Q : State → Prop}
variable {cc bytes : ByteArray} {pc : Nat} {ls : Array Slot} {rest st0 : List Value} {D : va_G} {ks : KA} {ad : Nat → Nat} {A : Nat → Prop} {st st' : St}
variable {y : MethodName} {maxL nL n index : Nat} {ret : Option FieldType} {ws : List Cond} {rm : Room} {Ts : List Cond} {own C : String} {b : Nat} {As : List Value}
theorem ww_callVd {r : UInt64} (S : CallFix p m c cc nL s args Ts own) (hW : WW D ks ad A s st H locs) (hM : CD l D ks y ws rm (.ref b :: As) ad H.size st r st') (cw : CallW R s args own C index y bytes maxL ret ws rm 0 0 n) (hr : ∃ cell : Cell, H[b]? = some cell ∧ cell.vm.isStatics = false ∧ s.vm.findClass C = some cell.cls) (hn : As.length = n) (hsize : ls.size = nL) (hstack : st0 = As.reverse ++ .ref b :: rest) (hw : (rest.map fun v => v.category).sum ≤ 8) (hdg : decode cc pc = .ok (.invokevirtual index, 3)) (hf : cells ≤ R.cells ∧ slots ≤ R.slots)
    (kk : ∀ (H1 : Heap) (locs1 : List Loc), WW D ks ad A s st' H1 locs1 → W p l e R s m args below meth c H1 locs1 cells slots Q (F0 m (pc + 3) ls (.double r :: rest))) : W p l e R s m args below meth c H locs cells slots Q (F0 m pc ls st0) := by
  refine va_calld (va_runV (As := As) (rest := rest) S hM cw ⟨PW.blind _ _ _ _ _ _, hr, fun U hU hWm => ⟨rfl, hW.pre hU hWm⟩⟩ rfl hn hsize hstack (lv_room hw) hdg hf) hW.2.2.1 (fun q _ h => hW.aa q h) hW.aa (fun r1 u t H1 locs1 ht hvm hp hB hz1 hk1 hS => ?_)
  obtain ⟨rfl, rfl⟩ := hp
  exact kk H1 locs1 (hW.back hB ht hS)
theorem WW.qd {sz : Nat} {t : State} {v : UInt64} (h : WW D ks ad (AA ad sz) s st H locs) (ht : t.heap = H) (hWm : s.WarmedH t.vm) : va_Qd (fun (x : UInt64) (u : St) => x = v ∧ u = st) (QW D ks ad sz) (AA ad sz) args s (.returned (some (.double v))) t := ⟨⟨v, st, rfl, ⟨rfl, rfl⟩, by rw [ht]; exact h.1, va_K.moved hWm.alike h.2.2.2.1, h.2.1⟩, h.2.2.1.F ht⟩
end WCALLD
/-- a cell of the script -/
def cellV (L : Nat) (xs : Nat → Int32) (k : Int32) : Int32 := if Int32.ofNat L ≤ k then (790386105 : Int32) * (k + (3 : Int32)) else xs k.toNatClampNeg
abbrev rmL_cell : Room := { frames := 0, cells := 0, slots := 0, locals := 0 }
set_option maxHeartbeats 4000000 in
set_option maxRecDepth 100000 in
theorem ctL_cell (l : Launch) {L : Nat} (hL : L ≤ 260) (xs : Nat → Int32) (b : Nat) (k : Int32) (hk : 0 ≤ k.toInt) : Met l yL_cell wsL_cell rmL_cell (va_Pc [.ref b, .int k] (fun U => va_X b L xs U U.heap)) (va_Qi (fun (x : Int32) (u : Unit) => x = cellV L xs k) (fun _ _ => True) (fun _ => False)) 0 0 (fun _ => False) := by
  refine Met.ofW (cc := cL_cell) (maxL := 2) (ret := (some .int)) (by decide) rfl ?_
  intro p e s m args below meth c s₁ B hml hv
  obtain ⟨hargs, hX⟩ := hv
  have hx := B.exec
  have hb := B.bytes
  have hr := B.returns
  have hts := atoms_spec (ws := wsL_cell) B.pre
  have hown : s.vm.findClass RL = some m.cls := findClass_of_methodNamed B.named
  have hlocks := B.notSynchronized
  have hbl : b < s.heap.size := by
    obtain ⟨scr, h1, -⟩ := hX
    exact (Array.getElem?_eq_some_iff.mp h1).1
  have hS : va_S (fun _ => False) s.heap s.heap [] := va_S.rf
  have hl := lv_entry ([.ref b, .int k]) (n := 2) (Nat.le_of_ble_eq_true rfl)
  have hfr : entryFrame m args 2 = F0 m 0 (lg_sl ([.ref b, .int k]) ++ List.replicate (2 - (lg_sl ([.ref b, .int k])).length) Slot.unset).toArray [] := by rw [hargs, lg_entry_eq]
  rw [hfr]
  generalize (lg_sl ([.ref b, .int k]) ++ List.replicate (2 - (lg_sl ([.ref b, .int k])).length) Slot.unset).toArray = ls at hl ⊢
  have hl : lv_has ls 2 [(0, .ref b), (1, .int k)] := hl
  refine lv_iload_n hx hb dL_cell_0 rfl (lv_at hl 1 rfl) ?_
  refine lv_aload_n hx hb dL_cell_1 rfl (lv_at hl 0 rfl) ?_
  refine va_slen hx hb hX hbl (fun z => z) hS dL_cell_2 ?_
  refine lv_icmp_ge (tgt := 12) hx hb dL_cell_3 (by decide) (fun c_1 => ?_) (fun c_1 => ?_)
  · refine lv_ldc (v := 790386105) hx hb hown (hts (.constant RL 8 790386105) (by decide +kernel)) dL_cell_12 ?_
    refine lv_iload_n hx hb dL_cell_14 rfl (lv_at hl 1 rfl) ?_
    refine lv_iconst (v := 3) hx hb dL_cell_15 (by decide) ?_
    refine lv_iadd hx hb dL_cell_16 ?_
    refine lv_imul hx hb dL_cell_17 ?_
    refine W.iret hx hb hr (fun t ht hWm => ⟨⟨_, (), rfl, ?_, trivial⟩, hS.F ht⟩) (fun q hq => absurd hq List.not_mem_nil) dL_cell_18
    unfold cellV
    rw [if_pos c_1]
  · have hin : vp_in k L := by
      intro q
      rcases q with q | q
      · exact absurd (Int32.lt_iff_toInt_lt.mp q) (by have : (0 : Int32).toInt = 0 := (by decide +kernel); omega)
      · apply c_1
        have h1 : (Int32.ofNat L).toInt = (L : Int) := nI_toInt (by omega)
        have h2 : k.toNatClampNeg = k.toInt.toNat := rfl
        exact Int32.le_iff_toInt_le.mpr (by rw [h1]; omega)
    refine lv_aload_n hx hb dL_cell_6 rfl (lv_at hl 0 rfl) ?_
    refine lv_iload_n hx hb dL_cell_7 rfl (lv_at hl 1 rfl) ?_
    refine va_sld hx hb hX hbl (fun z => z) hS hin dL_cell_8 ?_
    refine lv_goto (tgt := 18) hx hb dL_cell_9 (by decide) ?_
    refine W.iret hx hb hr (fun t ht hWm => ⟨⟨_, (), rfl, ?_, trivial⟩, hS.F ht⟩) (fun q hq => absurd hq List.not_mem_nil) dL_cell_18
    unfold cellV
    rw [if_neg c_1]
theorem in_nn {i : Int32} {n : Nat} (h : vp_in i n) : 0 ≤ i.toInt := by
  have h1 : ¬ i < 0 := fun q => h (Or.inl q)
  have h2 := Int32.not_lt.mp h1
  have h3 := Int32.le_iff_toInt_le.mp h2
  have h4 : (0 : Int32).toInt = 0 := by decide +kernel
  omega
section WCELL
variable {p : Program} {l : Launch} {e : Env} {R : Room} {s : State} {m : MethodId} {args : Array Value} {below : List Frame} {meth : Method} {c : Code} {H : Heap} {locs : List Loc} {cells slots : Nat} {Q : State → Prop}
variable {cc : ByteArray} {pc : Nat} {ls : Array Slot} {rest : List Value} {D : va_G} {ks : KA} {ad : Nat → Nat} {A : Nat → Prop} {st : St}
variable {nL index : Nat} {Ts : List Cond} {own : String} {b xL : Nat} {xs : Nat → Int32}
theorem va_X.at {U : State} (hX : va_X b xL xs s s.heap) (hb : H[b]? = s.heap[b]?) (hU : U.heap = H) (hW : s.WarmedH U.vm) : va_X b xL xs U U.heap := by
  rw [hU]
  exact va_X.moved hW.alike (va_X.kept hX hb)
theorem ww_cell (S : CallFix p m c cc nL s args Ts own) (hW : WW D ks ad A s st H locs) (hL : xL ≤ 260) (hX : va_X b xL xs s s.heap) (hbl : b < s.heap.size ∧ ¬ A b) {k : Int32} (hk : 0 ≤ k.toInt) (cw : CallB R s args own index yL_cell cL_cell 2 (some .int) wsL_cell rmL_cell 0 0 2 ∧ (Cond.static yL_cell).before args s = true) (hsize : ls.size = nL) (hw : (rest.map fun v => v.category).sum ≤ 8) (hdg : decode cc pc = .ok (.invokestatic index, 3)) (hf : cells ≤ R.cells ∧ slots ≤ R.slots)
    (kk : ∀ (H1 : Heap) (locs1 : List Loc), WW D ks ad A s st H1 locs1 → W p l e R s m args below meth c H1 locs1 cells slots Q (F0 m (pc + 3) ls (.int (cellV xL xs k) :: rest))) : W p l e R s m args below meth c H locs cells slots Q (F0 m pc ls (.int k :: .ref b :: rest)) := by
  have hb2 : H[b]? = s.heap[b]? := hW.2.2.1.2.1 b hbl.1 hbl.2
  refine va_calli (va_runS (As := [.ref b, .int k]) (rest := rest) S (ctL_cell l hL xs b k hk) cw ⟨fun a U g mk q => ⟨q.1, va_X.moved (u := U) (U := U.calling g mk a) (Vm.Alike.refl U.vm) q.2⟩, fun U hU hWm => ⟨rfl, va_X.at hX hb2 hU hWm⟩⟩ rfl rfl hsize rfl (lv_room hw) hdg hf) hW.2.2.1 (fun q _ h => h.elim) (fun q h => h.elim) (fun r u t H1 locs1 ht hvm hp hB hz1 hk1 hS => ?_)
  rw [hp]
  exact kk H1 locs1 ⟨hW.1.kept (fun k q hk => hk1 q.1 (hW.1 k q hk).lt (fun z => z)), hW.2.1, hS, hW.2.2.2⟩
end WCELL
