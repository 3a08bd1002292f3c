/-! TrellisLaw.made: by hand -/
def sL_made_L52 : Nat → Nat → St → Int32 → Int32 → Option St
  | 0, _, st, _, _ => some st
  | n + 1, k, st, x1, x2 =>
    ob (sL_below st ((x2 >>> ((nI k + (2 : Int32)) &&& 31)) + (3 : Int32) * nI k) (10 : Int32)) fun r6 =>
    ob (sL_below st ((x2 >>> (((2 : Int32) * nI k) &&& 31)) + (5 : Int32) * nI k) (16 : Int32)) fun r7 =>
    ob2 (sX3_variable st (11 : Int32) r6) fun _ st1 =>
    ob2 (sX3_apply st1 x1 x1 (11 : Int32) r7) fun _ st2 =>
    sL_made_L52 n (k + 1) st2 x1 x2
def sL_made (st : St) (x1 x2 : Int32) : Option St :=
  ob (sL_below st x2 (10 : Int32)) fun r3 =>
  ob2 (sX3_variable st x1 r3) fun _ st1 =>
  sL_made_L52 5 0 st1 x1 x2
theorem PL_K {S : List Fn} {s : Nat} {f : Fn} {o : Nat → Nat} {B : Nat} {q : Int32} {st' : St} (h : PL S s f o B q st') : ∃ S', K S' o (B + 1) st' := by
  rcases h with ⟨n, _, _, k⟩ | ⟨_, k⟩
  · exact ⟨_, k⟩
  · exact ⟨_, k⟩
theorem madeL_K {s : Nat} (hs : s < 11) {o : Nat → Nat} (x2 : Int32) : ∀ (n k : Nat) {S : List Fn} {B : Nat} {st : St}, K S o B st → B + 2 * n < 2000000000 → ∃ S' st', sL_made_L52 n k st (nI s) x2 = some st' ∧ K S' o (B + 2 * n) st'
  | 0, k, S, B, st, hK, hB => ⟨S, st, rfl, hK⟩
  | n + 1, k, S, B, st, hK, hB => by
    rw [sL_made_L52]
    obtain ⟨r6, e6, h6⟩ := below_ok st ((x2 >>> ((nI k + (2 : Int32)) &&& 31)) + (3 : Int32) * nI k) (n := 10) (by decide) (by decide)
    obtain ⟨r7, e7, h7⟩ := below_ok st ((x2 >>> (((2 : Int32) * nI k) &&& 31)) + (5 : Int32) * nI k) (n := 16) (by decide) (by decide)
    obtain ⟨q1, s1, e1, P1⟩ := variable_K hK (s := 11) (by omega) (by decide) h6
    obtain ⟨S1, K1⟩ := PL_K P1
    obtain ⟨q2, s2, e2, P2⟩ := apply_K K1 (s := s) (a := s) (b := 11) (by omega) (by omega) (by omega) (by decide) h7
    obtain ⟨S2, K2⟩ := PL_K P2
    obtain ⟨S3, s3, e3, K3⟩ := madeL_K hs x2 n (k + 1) K2 (by omega)
    refine ⟨S3, s3, ?_, K_le K3 (by omega)⟩
    have n10 : (10 : Int32) = nI 10 := by decide +kernel
    have n16 : (16 : Int32) = nI 16 := by decide +kernel
    have n11 : (11 : Int32) = nI 11 := by decide +kernel
    rw [n10, n16, n11, e6, ob_s, e7, ob_s, e1, ob2_s, e2, ob2_s]
    exact e3
theorem made_K {S : List Fn} {o : Nat → Nat} {B : Nat} {st : St} (k : K S o B st) (hB : B < 1000000000) {s : Nat} (hs : s < 11) (x2 : Int32) : ∃ S' st', sL_made st (nI s) x2 = some st' ∧ K S' o (B + 20) st' := by
  obtain ⟨r3, e3, h3⟩ := below_ok st x2 (n := 10) (by decide) (by decide)
  obtain ⟨q1, s1, e1, P1⟩ := variable_K k (s := s) (by omega) (by omega) h3
  obtain ⟨S1, K1⟩ := PL_K P1
  obtain ⟨S2, s2, e2, K2⟩ := madeL_K hs x2 5 0 K1 (by omega)
  refine ⟨S2, s2, ?_, K_le K2 (by omega)⟩
  have n10 : (10 : Int32) = nI 10 := by decide +kernel
  unfold sL_made
  rw [n10, e3, ob_s, e1, ob2_s]
  exact e2
/-- a boolean array beside the world -/
def BA (s : State) (ad : Nat → Nat) (A : Nat → Prop) (H : Heap) (q : Nat) : Prop := (∃ (cA : ClassId) (f : Nat → Int32), ArrOfT s cA .boolean ∧ H[q]? = some (vp_cell cA (1024, .inl f))) ∧ A q ∧ ∀ k, k < 54 → q ≠ ad k
theorem BA.lt {s : State} {ad : Nat → Nat} {A : Nat → Prop} {H : Heap} {q : Nat} (h : BA s ad A H q) : q < H.size := by
  obtain ⟨⟨cA, f, -, e⟩, -⟩ := h
  exact (Array.getElem?_eq_some_iff.mp e).1
theorem BA.kept {s : State} {ad : Nat → Nat} {A : Nat → Prop} {H H1 : Heap} {q : Nat} (h : BA s ad A H q) (hq : H1[q]? = H[q]?) : BA s ad A H1 q := by
  obtain ⟨⟨cA, f, a, e⟩, b⟩ := h
  exact ⟨⟨cA, f, a, by rw [hq]; exact e⟩, b⟩
theorem BA.out {s : State} {ad : Nat → Nat} {A : Nat → Prop} {H : Heap} {q : Nat} (h : BA s ad A H q) : ¬ AA ad H.size q := by
  intro z
  rcases z with ⟨k, hk, e⟩ | z
  · exact h.2.2 k hk e
  · have := h.lt
    omega
def ZW (D : va_G) (ks : KA) (ad : Nat → Nat) (A : Nat → Prop) (s : State) (st : St) (zs : List Nat) (H : Heap) (locs : List Loc) : Prop := WW D ks ad A s st H locs ∧ ∀ q ∈ zs, BA s ad A H q
section MADE
variable {p : Program} {l : Launch} {e : Env} {R : Room} {s : State} {m : MethodId} {args : Array Value} {below : List Frame} {meth : Method} {c : Code} {H : Heap} {locs : List Loc} {cells slots : Nat} {Q : State → Prop}
variable {cc bytes : ByteArray} {pc : Nat} {ls : Array Slot} {rest st0 : List Value} {D : va_G} {ks : KA} {ad : Nat → Nat} {A : Nat → Prop} {st st' : St} {zs : List Nat}
variable {y : MethodName} {maxL nL n index : Nat} {ret : Option FieldType} {ws : List Cond} {rm : Room} {Ts : List Cond} {own C : String} {b : Nat} {As : List Value}
theorem ZW.sub {zs' : List Nat} (h : ZW D ks ad A s st zs H locs) (hs : ∀ q ∈ zs', q ∈ zs) : ZW D ks ad A s st zs' H locs := ⟨h.1, fun q hq => h.2 q (hs q hq)⟩
theorem zw_new (hx : p.tables.exec = Jvm.exec) (hb : c.code = cc) (harr : (Cond.arrayClass .boolean).before args s = true) (hZ : ZW D ks ad A s st zs H locs) (hcells : cells + 1 ≤ R.cells) (hslots : slots + 1024 ≤ R.slots) (hdg : decode cc pc = .ok (.newarray .boolean, 2))
    (kk : ∀ (q : Nat) (H1 : Heap), ZW D ks ad A s st (q :: zs) H1 locs → W p l e R s m args below meth c H1 locs (cells + 1) (slots + 1024) Q (F0 m (pc + 2) ls (.ref q :: rest))) : W p l e R s m args below meth c H locs cells slots Q (F0 m pc ls (.int 1024 :: rest)) := by
  obtain ⟨⟨h1, h2, h3, h4, h5, h6⟩, hz⟩ := hZ
  refine va_newaK hx hb (atype := .boolean) harr rfl hdg rfl (by decide +kernel) (N := 1024) (by decide +kernel) (by decide +kernel) hcells hslots rfl fun H1 cA e1 z1 o1 hAr hNm => ?_
  refine kk H.size H1 ⟨⟨h1.kept (fun k x hx => o1 _ (h1 k x hx).lt), h2, ⟨Nat.le_trans h3.1 (by omega), fun x a b => (o1 x (Nat.lt_of_lt_of_le a h3.1)).trans (h3.2.1 x a b), h3.2.2⟩, h4, h5, h6⟩, fun q hq => ?_⟩
  rcases List.mem_cons.mp hq with rfl | hq
  · refine ⟨⟨cA, fun _ => 0, hAr, e1⟩, h6 _ h3.1, fun k hk e => ?_⟩
    have h9 : ad k < H.size := (h1 k _ (wC_at hk)).lt
    omega
  · exact (hz q hq).kept (o1 q (hz q hq).lt)
theorem z_ld (hx : p.tables.exec = Jvm.exec) (hb : c.code = cc) {cA : ClassId} {f : Nat → Int32} {n q : Nat} (hA : ArrOfT s cA .boolean) (ha : H[q]? = some (vp_cell cA (n, .inl f))) {i : Int32} (hin : vp_in i n) (hdg : decode cc pc = .ok (.baload, 1))
    (kk : W p l e R s m args below meth c H locs cells slots Q (F0 m (pc + 1) ls (.int (f i.toNatClampNeg) :: rest))) : W p l e R s m args below meth c H locs cells slots Q (F0 m pc ls (.int i :: .ref q :: rest)) := by
  have hlt : i.toNatClampNeg < n := Nat.not_le.mp fun q => hin (Or.inr q)
  exact W.zald (v := .int (f i.toNatClampNeg)) hx hb ha (hA n (fun j => .int (f j))) (fun q => by cases q) (by show ¬ (i < 0 ∨ (arrV _ _ _).slots.size ≤ _); rw [arrV_size]; exact hin) (by show (arrV _ _ _).slots[_]? = _; rw [arrV_read _ _ hlt]) rfl rfl hdg kk
theorem z_st (hx : p.tables.exec = Jvm.exec) (hb : c.code = cc) {cA : ClassId} {f : Nat → Int32} {n q : Nat} (hA : ArrOfT s cA .boolean) (ha : H[q]? = some (vp_cell cA (n, .inl f))) {i x : Int32} (hin : vp_in i n) (hdg : decode cc pc = .ok (.bastore, 1))
    (kk : ∀ H1 : Heap, H1[q]? = some (vp_cell cA (n, .inl (upd f i.toNatClampNeg (vp_nar .boolean x)))) → H1.size = H.size → (∀ r, r ≠ q → H1[r]? = H[r]?) → W p l e R s m args below meth c H1 (locs ++ [⟨q, i.toNatClampNeg⟩]) cells slots Q (F0 m (pc + 1) ls rest)) : W p l e R s m args below meth c H locs cells slots Q (F0 m pc ls (.int x :: .int i :: .ref q :: rest)) := by
  refine W.zast hx hb ha (hA n (fun j => .int (f j))) (fun q => by cases q) (by show ¬ (i < 0 ∨ (arrV _ _ _).slots.size ≤ _); rw [arrV_size]; exact hin) rfl rfl hdg fun H1 e1 z1 o1 => ?_
  refine kk H1 ?_ z1 o1
  rw [e1, vp_cell_i, vp_cell_i, arrV_store]
  congr 2
  funext q
  by_cases hq : q = i.toNatClampNeg
  · subst hq
    simp [updV, upd, vp_nar]
    try rfl
  · simp [updV, upd, hq]
theorem zw_ld (hx : p.tables.exec = Jvm.exec) (hb : c.code = cc) (hZ : ZW D ks ad A s st zs H locs) {q : Nat} (hq : q ∈ zs) {i : Int32} (hin : vp_in i 1024) (hdg : decode cc pc = .ok (.baload, 1))
    (kk : ∀ x : Int32, W p l e R s m args below meth c H locs cells slots Q (F0 m (pc + 1) ls (.int x :: rest))) : W p l e R s m args below meth c H locs cells slots Q (F0 m pc ls (.int i :: .ref q :: rest)) := by
  obtain ⟨⟨cA, f, hA, ha⟩, -⟩ := hZ.2 q hq
  exact z_ld hx hb hA ha hin hdg (kk _)
theorem zw_st (hx : p.tables.exec = Jvm.exec) (hb : c.code = cc) (hZ : ZW D ks ad A s st zs H locs) {q : Nat} (hq : q ∈ zs) {i x : Int32} (hin : vp_in i 1024) (hdg : decode cc pc = .ok (.bastore, 1))
    (kk : ∀ (H1 : Heap) (locs1 : List Loc), ZW D ks ad A s st zs H1 locs1 → W p l e R s m args below meth c H1 locs1 cells slots Q (F0 m (pc + 1) ls rest)) : W p l e R s m args below meth c H locs cells slots Q (F0 m pc ls (.int x :: .int i :: .ref q :: rest)) := by
  obtain ⟨⟨cA, f, hA, ha⟩, hAq, hne⟩ := hZ.2 q hq
  obtain ⟨⟨h1, h2, h3, h4, h5, h6⟩, hz⟩ := hZ
  refine z_st hx hb hA ha hin hdg fun H1 e1 z1 o1 => ?_
  refine kk H1 _ ⟨⟨h1.kept (fun k x hx => ?_), h2, h3.put z1 o1 hAq, h4, h5, h6⟩, fun r hr => ?_⟩
  · obtain ⟨hk, rfl⟩ := wC_inv hx
    exact o1 _ (fun z => hne k hk z.symm)
  · by_cases hrq : r = q
    · subst hrq
      exact ⟨⟨cA, upd f i.toNatClampNeg (vp_nar .boolean x), hA, e1⟩, hAq, hne⟩
    · exact (hz r hr).kept (o1 r hrq)
theorem zw_callVi {r : Int32} (S : CallFix p m c cc nL s args Ts own) (hZ : ZW D ks ad A s st zs H locs) (hM : CI l D ks y ws rm (.ref b :: As) ad H.size st r st') (cw : CallW R s args own C index y bytes maxL ret ws rm 0 0 n) (hr : ∃ cell : Cell, H[b]? = some cell ∧ cell.vm.isStatics = false ∧ s.vm.findClass C = some cell.cls) (hn : As.length = n) (hsize : ls.size = nL) (hstack : st0 = As.reverse ++ .ref b :: rest) (hw : (rest.map fun v => v.category).sum ≤ 8) (hdg : decode cc pc = .ok (.invokevirtual index, 3)) (hf : cells ≤ R.cells ∧ slots ≤ R.slots)
    (kk : ∀ (H1 : Heap) (locs1 : List Loc), ZW D ks ad A s st' zs H1 locs1 → W p l e R s m args below meth c H1 locs1 cells slots Q (F0 m (pc + 3) ls (.int r :: rest))) : W p l e R s m args below meth c H locs cells slots Q (F0 m pc ls st0) := by
  refine va_calli (va_runV (As := As) (rest := rest) S hM cw ⟨PW.blind _ _ _ _ _ _, hr, fun U hU hWm => ⟨rfl, hZ.1.pre hU hWm⟩⟩ rfl hn hsize hstack (lv_room hw) hdg hf) hZ.1.2.2.1 (fun q _ h => hZ.1.aa q h) hZ.1.aa (fun r1 u t H1 locs1 ht hvm hp hB hz1 hk1 hS => ?_)
  obtain ⟨rfl, rfl⟩ := hp
  exact kk H1 locs1 ⟨hZ.1.back hB ht hS, fun q hq => (hZ.2 q hq).kept (hk1 q (hZ.2 q hq).lt (hZ.2 q hq).out)⟩
theorem zw_callSi {r : Int32} (S : CallFix p m c cc nL s args Ts own) (hZ : ZW D ks ad A s st zs H locs) (hM : CI l D ks y ws rm As ad H.size st r st') (cw : CallB R s args own index y bytes maxL ret ws rm 0 0 n ∧ (Cond.static y).before args s = true) (hn : As.length = n) (hsize : ls.size = nL) (hstack : st0 = As.reverse ++ rest) (hw : (rest.map fun v => v.category).sum ≤ 8) (hdg : decode cc pc = .ok (.invokestatic index, 3)) (hf : cells ≤ R.cells ∧ slots ≤ R.slots)
    (kk : ∀ (H1 : Heap) (locs1 : List Loc), ZW D ks ad A s st' zs H1 locs1 → W p l e R s m args below meth c H1 locs1 cells slots Q (F0 m (pc + 3) ls (.int r :: rest))) : W p l e R s m args below meth c H locs cells slots Q (F0 m pc ls st0) := by
  refine va_calli (va_runS (As := As) (rest := rest) S hM cw ⟨PW.blind _ _ _ _ _ _, fun U hU hWm => ⟨rfl, hZ.1.pre hU hWm⟩⟩ rfl hn hsize hstack (lv_room hw) hdg hf) hZ.1.2.2.1 (fun q _ h => hZ.1.aa q h) hZ.1.aa (fun r1 u t H1 locs1 ht hvm hp hB hz1 hk1 hS => ?_)
  obtain ⟨rfl, rfl⟩ := hp
  exact kk H1 locs1 ⟨hZ.1.back hB ht hS, fun q hq => (hZ.2 q hq).kept (hk1 q (hZ.2 q hq).lt (hZ.2 q hq).out)⟩
abbrev rmL_made : Room := { frames := 18, cells := 6, slots := 6144, locals := 420 }
abbrev RM : Room := (headSpec wsL_made rmL_made).room
theorem has_tot (st : St) (a b : Int32) : ∃ r, sL_has st a b = some r := by
  unfold sL_has
  split
  · exact ⟨_, rfl⟩
  · exact ⟨_, rfl⟩
theorem z_in {i : Nat} (h : i < 1024) : vp_in (nI i) 1024 := by
  intro z
  rcases z with z | z
  · rw [n_0, nI_ltE (by omega) (by omega)] at z
    omega
  · rw [nI_toN (by omega)] at z
    omega
theorem z_ge {i : Nat} (h : i < 1024) : ¬ (1024 : Int32) ≤ nI i := by
  have e : (1024 : Int32) = nI 1024 := by decide +kernel
  rw [e, nI_leE (by omega) (by omega)]
  omega
set_option maxRecDepth 100000 in
set_option maxHeartbeats 4000000 in
theorem made24 (S : CallFix p m c cL_made 10 s args wsL_made RL) {x1 x2 v : Int32} {q : Nat} (hcs : cells ≤ 6 ∧ slots ≤ 6144)
    (kk : ∀ (H : Heap) (locs : List Loc) (ls : Array Slot), ZW D ks ad A s st [q] H locs → lv_has ls 10 [(0, .ref (ad 0)), (1, .int x1), (2, .int x2), (4, .ref q)] → W p l e RM s m args below meth c H locs cells slots Q (F0 m 49 ls [])) :
    ∀ (j i : Nat) (H : Heap) (locs : List Loc) (ls : Array Slot), i + j = 1024 → ZW D ks ad A s st [q] H locs → lv_has ls 10 [(0, .ref (ad 0)), (1, .int x1), (2, .int x2), (4, .ref q), (3, .int v), (5, .int (nI i))] → W p l e RM s m args below meth c H locs cells slots Q (F0 m 24 ls []) := by
  obtain ⟨hx, hb, hml, hown, hts⟩ := S
  have hcs2 : cells ≤ RM.cells ∧ slots ≤ RM.slots := hcs
  intro j
  induction j with
  | zero =>
    intro i H locs ls hi hZ hl
    obtain rfl : i = 1024 := by omega
    refine lv_iload hx hb dL_made_24 (lv_at hl 5 rfl) ?_
    refine lv_sipush (v := 1024) hx hb dL_made_26 (by decide) ?_
    refine lv_icmp_ge (tgt := 49) hx hb dL_made_29 (by decide) (fun _ => ?_) (fun cc => absurd (by decide +kernel) cc)
    exact kk H locs ls hZ (lv_sub hl [0, 1, 2, 3] rfl)
  | succ j ih =>
    intro i H locs ls hi hZ hl
    refine lv_iload hx hb dL_made_24 (lv_at hl 5 rfl) ?_
    refine lv_sipush (v := 1024) hx hb dL_made_26 (by decide) ?_
    refine lv_icmp_ge (tgt := 49) hx hb dL_made_29 (by decide) (fun cc => absurd cc (z_ge (by omega))) (fun _ => ?_)
    refine lv_aload hx hb dL_made_32 (lv_at hl 3 rfl) ?_
    refine lv_iload hx hb dL_made_34 (lv_at hl 5 rfl) ?_
    refine lv_iload hx hb dL_made_36 (lv_at hl 5 rfl) ?_
    refine lv_iload_n hx hb dL_made_38 rfl (lv_at hl 4 rfl) ?_
    obtain ⟨r, hc⟩ := has_tot st (nI i) v
    refine zw_callSi (As := [.int (nI i), .int v]) (rest := [.int (nI i), .ref q]) ⟨hx, hb, hml, hown, hts⟩ hZ (ctL_has l D ks ad _ st (nI i) v hc) (va_cwS 2 hts gL_made_L_has rfl rfl rfl (by decide +kernel) ⟨Nat.le_of_ble_eq_true rfl, Nat.le_of_ble_eq_true rfl⟩) rfl hl.1 rfl (Nat.le_of_ble_eq_true rfl) dL_made_39 hcs2 (fun H locs hZ => ?_)
    refine zw_st hx hb hZ (q := q) List.mem_cons_self (z_in (by omega)) dL_made_42 (fun H locs hZ => ?_)
    refine lv_iinc (v := nI (i + 1)) (lv' := [(5, .int (nI (i + 1))), (0, .ref (ad 0)), (1, .int x1), (2, .int x2), (4, .ref q), (3, .int v)]) hx hb dL_made_43 hl (k := 5) rfl (nI_add1 i) (by decide) rfl (fun ls hl => ?_)
    refine lv_goto (tgt := 24) hx hb dL_made_46 (by decide) ?_
    exact ih (i + 1) _ _ _ (by omega) hZ (lv_sub hl [1, 2, 3, 4, 5, 0] rfl)
set_option maxRecDepth 100000 in
set_option maxHeartbeats 4000000 in
theorem made124 (S : CallFix p m c cL_made 10 s args wsL_made RL) {x1 x2 w t : Int32} {q q2 k : Nat} (hcs : cells ≤ 6 ∧ slots ≤ 6144)
    (kk : ∀ (H : Heap) (locs : List Loc) (ls : Array Slot), ZW D ks ad A s st [q2, q] H locs → lv_has ls 10 [(0, .ref (ad 0)), (1, .int x1), (2, .int x2), (4, .ref q), (5, .int (nI k)), (6, .int w), (7, .int t), (8, .ref q2)] → W p l e RM s m args below meth c H locs cells slots Q (F0 m 186 ls [])) :
    ∀ (j i : Nat) (H : Heap) (locs : List Loc) (ls : Array Slot), i + j = 1024 → ZW D ks ad A s st [q2, q] H locs → lv_has ls 10 [(0, .ref (ad 0)), (1, .int x1), (2, .int x2), (4, .ref q), (5, .int (nI k)), (6, .int w), (7, .int t), (8, .ref q2), (9, .int (nI i))] → W p l e RM s m args below meth c H locs cells slots Q (F0 m 124 ls []) := by
  obtain ⟨hx, hb, hml, hown, hts⟩ := S
  have hcs2 : cells ≤ RM.cells ∧ slots ≤ RM.slots := hcs
  intro j
  induction j with
  | zero =>
    intro i H locs ls hi hZ hl
    obtain rfl : i = 1024 := by omega
    refine lv_iload hx hb dL_made_124 (lv_at hl 8 rfl) ?_
    refine lv_sipush (v := 1024) hx hb dL_made_126 (by decide) ?_
    refine lv_icmp_ge (tgt := 186) hx hb dL_made_129 (by decide) (fun _ => ?_) (fun cc => absurd (by decide +kernel) cc)
    exact kk H locs ls hZ (lv_sub hl [0, 1, 2, 3, 4, 5, 6, 7] rfl)
  | succ j ih =>
    intro i H locs ls hi hZ hl
    have M179 : ∀ (x : Int32) (H : Heap) (locs : List Loc), ZW D ks ad A s st [q2, q] H locs → W p l e RM s m args below meth c H locs cells slots Q (F0 m 179 ls [.int x, .int (nI i), .ref q2]) := by
      intro x H locs hZ
      refine zw_st hx hb hZ (q := q2) List.mem_cons_self (z_in (by omega)) dL_made_179 (fun H locs hZ => ?_)
      refine lv_iinc (v := nI (i + 1)) (lv' := [(9, .int (nI (i + 1))), (0, .ref (ad 0)), (1, .int x1), (2, .int x2), (4, .ref q), (5, .int (nI k)), (6, .int w), (7, .int t), (8, .ref q2)]) hx hb dL_made_180 hl (k := 8) rfl (nI_add1 i) (by decide) rfl (fun ls hl => ?_)
      refine lv_goto (tgt := 124) hx hb dL_made_183 (by decide) ?_
      exact ih (i + 1) _ _ _ (by omega) hZ (lv_sub hl [1, 2, 3, 4, 5, 6, 7, 8, 0] rfl)
    have M166 : ∀ (b a : Int32) (H : Heap) (locs : List Loc), ZW D ks ad A s st [q2, q] H locs → W p l e RM s m args below meth c H locs cells slots Q (F0 m 166 ls [.int b, .int a, .int t, .int (nI i), .ref q2]) := by
      intro b a H locs hZ
      refine lv_iadd hx hb dL_made_166 ?_
      refine lv_ishr hx hb dL_made_167 ?_
      refine lv_iconst (v := 2) hx hb dL_made_168 (by decide) ?_
      refine lv_irem hx hb dL_made_169 (by decide) ?_
      refine lv_iconst (v := 1) hx hb dL_made_170 (by decide) ?_
      refine lv_icmp_ne (tgt := 178) hx hb dL_made_171 (by decide) (fun _ => ?_) (fun _ => ?_)
      · refine lv_iconst (v := 0) hx hb dL_made_178 (by decide) ?_
        exact M179 0 H locs hZ
      · refine lv_iconst (v := 1) hx hb dL_made_174 (by decide) ?_
        refine lv_goto (tgt := 179) hx hb dL_made_175 (by decide) ?_
        exact M179 1 H locs hZ
    have M151 : ∀ (a : Int32) (H : Heap) (locs : List Loc), ZW D ks ad A s st [q2, q] H locs → W p l e RM s m args below meth c H locs cells slots Q (F0 m 151 ls [.int a, .int t, .int (nI i), .ref q2]) := by
      intro a H locs hZ
      refine lv_iload hx hb dL_made_151 (lv_at hl 8 rfl) ?_
      refine lv_iload hx hb dL_made_153 (lv_at hl 5 rfl) ?_
      obtain ⟨r, hc⟩ := has_tot st (nI i) w
      refine zw_callSi (As := [.int (nI i), .int w]) (rest := [.int a, .int t, .int (nI i), .ref q2]) ⟨hx, hb, hml, hown, hts⟩ hZ (ctL_has l D ks ad _ st (nI i) w hc) (va_cwS 2 hts gL_made_L_has rfl rfl rfl (by decide +kernel) ⟨Nat.le_of_ble_eq_true rfl, Nat.le_of_ble_eq_true rfl⟩) rfl hl.1 rfl (Nat.le_of_ble_eq_true rfl) dL_made_155 hcs2 (fun H locs hZ => ?_)
      refine lv_if_eq (tgt := 165) hx hb dL_made_158 (by decide) (fun _ => ?_) (fun _ => ?_)
      · refine lv_iconst (v := 0) hx hb dL_made_165 (by decide) ?_
        exact M166 0 a H locs hZ
      · refine lv_iconst (v := 1) hx hb dL_made_161 (by decide) ?_
        refine lv_goto (tgt := 166) hx hb dL_made_162 (by decide) ?_
        exact M166 1 a H locs hZ
    refine lv_iload hx hb dL_made_124 (lv_at hl 8 rfl) ?_
    refine lv_sipush (v := 1024) hx hb dL_made_126 (by decide) ?_
    refine lv_icmp_ge (tgt := 186) hx hb dL_made_129 (by decide) (fun cc => absurd cc (z_ge (by omega))) (fun _ => ?_)
    refine lv_aload hx hb dL_made_132 (lv_at hl 7 rfl) ?_
    refine lv_iload hx hb dL_made_134 (lv_at hl 8 rfl) ?_
    refine lv_iload hx hb dL_made_136 (lv_at hl 6 rfl) ?_
    refine lv_aload hx hb dL_made_138 (lv_at hl 3 rfl) ?_
    refine lv_iload hx hb dL_made_140 (lv_at hl 8 rfl) ?_
    refine zw_ld hx hb hZ (q := q) (List.mem_cons_of_mem _ List.mem_cons_self) (z_in (by omega)) dL_made_142 (fun x => ?_)
    refine lv_if_eq (tgt := 150) hx hb dL_made_143 (by decide) (fun _ => ?_) (fun _ => ?_)
    · refine lv_iconst (v := 0) hx hb dL_made_150 (by decide) ?_
      exact M151 0 H locs hZ
    · refine lv_iconst (v := 2) hx hb dL_made_146 (by decide) ?_
      refine lv_goto (tgt := 151) hx hb dL_made_147 (by decide) ?_
      exact M151 2 H locs hZ
set_option maxRecDepth 100000 in
set_option maxHeartbeats 4000000 in
theorem made52 (S : CallFix p m c cL_made 10 s args wsL_made RL) {x1 x2 : Int32} {stz : St}
    (kk : ∀ (H : Heap) (locs : List Loc) (ls : Array Slot) (q : Nat), ZW D ks ad A s stz [q] H locs → lv_has ls 10 [(4, .ref q)] → W p l e RM s m args below meth c H locs 6 6144 Q (F0 m 196 ls [])) :
    ∀ (n k : Nat) (q : Nat) (st : St) (H : Heap) (locs : List Loc) (ls : Array Slot), k + n = 5 → sL_made_L52 n k st x1 x2 = some stz → ZW D ks ad A s st [q] H locs → lv_has ls 10 [(0, .ref (ad 0)), (1, .int x1), (2, .int x2), (4, .ref q), (5, .int (nI k))] → W p l e RM s m args below meth c H locs (k + 1) (1024 * k + 1024) Q (F0 m 52 ls []) := by
  have S0 := S
  obtain ⟨hx, hb, hml, hown, hts⟩ := S
  intro n
  induction n with
  | zero =>
    intro k q st H locs ls hk hE hZ hl
    obtain rfl : k = 5 := by omega
    refine lv_iload hx hb dL_made_52 (lv_at hl 4 rfl) ?_
    refine lv_iconst (v := 5) hx hb dL_made_54 (by decide) ?_
    refine lv_icmp_ge (tgt := 196) hx hb dL_made_55 (by decide) (fun _ => ?_) (fun cc => absurd (by decide +kernel) cc)
    rw [sL_made_L52] at hE
    obtain rfl := some_x hE
    exact kk H locs ls q hZ (lv_sub hl [3] rfl)
  | succ n ih =>
    intro k q st H locs ls hk hE hZ hl
    have hcs : k + 1 ≤ RM.cells ∧ 1024 * k + 1024 ≤ RM.slots := ⟨show k + 1 ≤ 6 by omega, show 1024 * k + 1024 ≤ 6144 by omega⟩
    have n5 : (5 : Int32) = nI 5 := by decide +kernel
    rw [sL_made_L52] at hE
    refine lv_iload hx hb dL_made_52 (lv_at hl 4 rfl) ?_
    refine lv_iconst (v := 5) hx hb dL_made_54 (by decide) ?_
    refine lv_icmp_ge (tgt := 196) hx hb dL_made_55 (by decide) (fun cc => absurd cc (by rw [n5, nI_leE (by omega) (by omega)]; omega)) (fun _ => ?_)
    refine lv_iload_n hx hb dL_made_58 rfl (lv_at hl 2 rfl) ?_
    refine lv_iload hx hb dL_made_59 (lv_at hl 4 rfl) ?_
    refine lv_iconst (v := 2) hx hb dL_made_61 (by decide) ?_
    refine lv_iadd hx hb dL_made_62 ?_
    refine lv_ishr hx hb dL_made_63 ?_
    refine lv_iconst (v := 3) hx hb dL_made_64 (by decide) ?_
    refine lv_iload hx hb dL_made_65 (lv_at hl 4 rfl) ?_
    refine lv_imul hx hb dL_made_67 ?_
    refine lv_iadd hx hb dL_made_68 ?_
    refine lv_bipush (v := 10) hx hb dL_made_69 (by decide) ?_
    obtain ⟨r6, hc6, hE⟩ := ob_some hE
    refine zw_callSi (As := [.int _, .int 10]) (rest := []) ⟨hx, hb, hml, hown, hts⟩ hZ (ctL_below l D ks ad _ st _ 10 hc6) (va_cwS 2 hts gL_made_L_below rfl rfl rfl (by decide +kernel) ⟨Nat.le_of_ble_eq_true rfl, Nat.le_of_ble_eq_true rfl⟩) rfl hl.1 rfl (Nat.le_of_ble_eq_true rfl) dL_made_71 hcs (fun H locs hZ => ?_)
    refine lv_istore (lv' := [(6, .int r6), (0, .ref (ad 0)), (1, .int x1), (2, .int x2), (4, .ref q), (5, .int (nI k))]) hx hb dL_made_74 hl (by decide) rfl (fun ls hl => ?_)
    refine lv_iload_n hx hb dL_made_76 rfl (lv_at hl 3 rfl) ?_
    refine lv_iconst (v := 2) hx hb dL_made_77 (by decide) ?_
    refine lv_iload hx hb dL_made_78 (lv_at hl 5 rfl) ?_
    refine lv_imul hx hb dL_made_80 ?_
    refine lv_ishr hx hb dL_made_81 ?_
    refine lv_iconst (v := 5) hx hb dL_made_82 (by decide) ?_
    refine lv_iload hx hb dL_made_83 (lv_at hl 5 rfl) ?_
    refine lv_imul hx hb dL_made_85 ?_
    refine lv_iadd hx hb dL_made_86 ?_
    refine lv_bipush (v := 16) hx hb dL_made_87 (by decide) ?_
    obtain ⟨r7, hc7, hE⟩ := ob_some hE
    refine zw_callSi (As := [.int _, .int 16]) (rest := []) ⟨hx, hb, hml, hown, hts⟩ hZ (ctL_below l D ks ad _ st _ 16 hc7) (va_cwS 2 hts gL_made_L_below rfl rfl rfl (by decide +kernel) ⟨Nat.le_of_ble_eq_true rfl, Nat.le_of_ble_eq_true rfl⟩) rfl hl.1 rfl (Nat.le_of_ble_eq_true rfl) dL_made_89 hcs (fun H locs hZ => ?_)
    refine lv_istore (lv' := [(7, .int r7), (6, .int r6), (0, .ref (ad 0)), (1, .int x1), (2, .int x2), (4, .ref q), (5, .int (nI k))]) hx hb dL_made_92 hl (by decide) rfl (fun ls hl => ?_)
    refine lv_aload_n hx hb dL_made_94 rfl (lv_at hl 2 rfl) ?_
    refine lv_bipush (v := 11) hx hb dL_made_95 (by decide) ?_
    refine lv_iload hx hb dL_made_97 (lv_at hl 1 rfl) ?_
    obtain ⟨q1, st1, hc1, hE⟩ := ob2_some hE
    refine zw_callVi (As := [.int 11, .int r6]) (rest := []) ⟨hx, hb, hml, hown, hts⟩ hZ (ctX3_variable l D ks ad _ st 11 r6 hc1) (cwV 2 hts gL_made_X3_variable rfl rfl rfl (by decide +kernel) ⟨Nat.le_of_ble_eq_true rfl, Nat.le_of_ble_eq_true rfl⟩) hZ.1.recvX rfl hl.1 rfl (Nat.le_of_ble_eq_true rfl) dL_made_99 hcs (fun H locs hZ => ?_)
    refine lv_pop hx hb dL_made_102 rfl ?_
    refine lv_aload_n hx hb dL_made_103 rfl (lv_at hl 2 rfl) ?_
    refine lv_iload_n hx hb dL_made_104 rfl (lv_at hl 3 rfl) ?_
    refine lv_iload_n hx hb dL_made_105 rfl (lv_at hl 3 rfl) ?_
    refine lv_bipush (v := 11) hx hb dL_made_106 (by decide) ?_
    refine lv_iload hx hb dL_made_108 (lv_at hl 0 rfl) ?_
    obtain ⟨q2, st2, hc2, hE⟩ := ob2_some hE
    refine zw_callVi (As := [.int x1, .int x1, .int 11, .int r7]) (rest := []) ⟨hx, hb, hml, hown, hts⟩ hZ (ctX3_apply l D ks ad _ st1 x1 x1 11 r7 hc2) (cwV 4 hts gL_made_X3_apply rfl rfl rfl (by decide +kernel) ⟨Nat.le_of_ble_eq_true rfl, Nat.le_of_ble_eq_true rfl⟩) hZ.1.recvX rfl hl.1 rfl (Nat.le_of_ble_eq_true rfl) dL_made_110 hcs (fun H locs hZ => ?_)
    refine lv_pop hx hb dL_made_113 rfl ?_
    refine lv_sipush (v := 1024) hx hb dL_made_114 (by decide) ?_
    refine zw_new hx hb (hts (.arrayClass .boolean) (by decide +kernel)) hZ (show k + 1 + 1 ≤ 6 by omega) (show 1024 * k + 1024 + 1024 ≤ 6144 by omega) dL_made_117 (fun q2 H hZ => ?_)
    refine lv_astore (lv' := [(8, .ref q2), (7, .int r7), (6, .int r6), (0, .ref (ad 0)), (1, .int x1), (2, .int x2), (4, .ref q), (5, .int (nI k))]) hx hb dL_made_119 hl (by decide) rfl (fun ls hl => ?_)
    refine lv_iconst (v := 0) hx hb dL_made_121 (by decide) ?_
    refine lv_istore (lv' := [(9, .int (nI 0)), (8, .ref q2), (7, .int r7), (6, .int r6), (0, .ref (ad 0)), (1, .int x1), (2, .int x2), (4, .ref q), (5, .int (nI k))]) hx hb dL_made_122 hl (by decide) rfl (fun ls hl => ?_)
    refine made124 (st := st2) (x1 := x1) (x2 := x2) (w := r6) (t := r7) (q := q) (q2 := q2) (k := k) S0 (by omega) (fun H locs ls hZ hl => ?_) 1024 0 H locs ls rfl hZ (lv_sub hl [4, 5, 6, 7, 8, 3, 2, 1, 0] rfl)
    refine lv_aload hx hb dL_made_186 (lv_at hl 7 rfl) ?_
    refine lv_astore (lv' := [(4, .ref q2), (0, .ref (ad 0)), (1, .int x1), (2, .int x2), (5, .int (nI k)), (6, .int r6), (7, .int r7), (8, .ref q2)]) hx hb dL_made_188 hl (by decide) rfl (fun ls hl => ?_)
    refine lv_iinc (v := nI (k + 1)) (lv' := [(5, .int (nI (k + 1))), (4, .ref q2), (0, .ref (ad 0)), (1, .int x1), (2, .int x2), (6, .int r6), (7, .int r7), (8, .ref q2)]) hx hb dL_made_190 hl (k := 4) rfl (nI_add1 k) (by decide) rfl (fun ls hl => ?_)
    refine lv_goto (tgt := 52) hx hb dL_made_193 (by decide) ?_
    exact ih (k + 1) q2 st2 _ _ _ (by omega) hE (hZ.sub (fun q hq => by rcases List.mem_cons.mp hq with rfl | hq; (exact List.mem_cons_self); exact absurd hq List.not_mem_nil)) (lv_sub hl [2, 3, 4, 1, 0] rfl)
end MADE
set_option maxRecDepth 100000 in
set_option maxHeartbeats 4000000 in
theorem ctL_made (l : Launch) (D : va_G) (ks : KA) (ad : Nat → Nat) (sz : Nat) (st : St) (x1 x2 : Int32) {st' : St} (hE : sL_made st x1 x2 = some st') : Met l yL_made wsL_made rmL_made (va_Pc [.ref (ad 0), .int x1, .int x2] (PW D ks ad sz st)) (va_Qr (fun (u : St) => u = st') (fun u a t => QW D ks ad sz u t) (AA ad sz)) 6 6144 (AA ad sz) := by
  unfold sL_made at hE
  refine Met.ofW (cc := cL_made) (maxL := 10) (ret := (some (.array .boolean))) (by decide) rfl ?_
  intro p e s m args below meth c s₁ B hml hv
  obtain ⟨hargs, hPW⟩ := hv
  have hW := WW.entry hPW
  have hx := B.exec
  have hb := B.bytes
  have hr := B.returns
  have hts := atoms_spec (ws := wsL_made) B.pre
  have hown : s.vm.findClass RL = some m.cls := findClass_of_methodNamed B.named
  have hlocks := B.notSynchronized
  have hl := lv_entry ([.ref (ad 0), .int x1, .int x2]) (n := 10) (Nat.le_of_ble_eq_true rfl)
  have hfr : entryFrame m args 10 = F0 m 0 (lg_sl ([.ref (ad 0), .int x1, .int x2]) ++ List.replicate (10 - (lg_sl ([.ref (ad 0), .int x1, .int x2])).length) Slot.unset).toArray [] := by rw [hargs, lg_entry_eq]
  rw [hfr]
  generalize (lg_sl ([.ref (ad 0), .int x1, .int x2]) ++ List.replicate (10 - (lg_sl ([.ref (ad 0), .int x1, .int x2])).length) Slot.unset).toArray = ls at hl ⊢
  have hl : lv_has ls 10 [(0, .ref (ad 0)), (1, .int x1), (2, .int x2)] := hl
  have S : CallFix p m c cL_made 10 s args wsL_made RL := ⟨hx, hb, hml, hown, hts⟩
  have hZ : ZW D ks ad (AA ad sz) s st [] s.heap [] := ⟨hW, fun q hq => absurd hq List.not_mem_nil⟩
  refine lv_iload_n hx hb dL_made_0 rfl (lv_at hl 2 rfl) ?_
  refine lv_bipush (v := 10) hx hb dL_made_1 (by decide) ?_
  obtain ⟨r3, hc3, hE⟩ := ob_some hE
  refine zw_callSi (As := [.int x2, .int 10]) (rest := []) S hZ (ctL_below l D ks ad _ st x2 10 hc3) (va_cwS 2 hts gL_made_L_below rfl rfl rfl (by decide +kernel) ⟨Nat.le_of_ble_eq_true rfl, Nat.le_of_ble_eq_true rfl⟩) rfl hl.1 rfl (Nat.le_of_ble_eq_true rfl) dL_made_3 ⟨Nat.zero_le _, Nat.zero_le _⟩ (fun H locs hZ => ?_)
  refine lv_istore_n (lv' := [(3, .int r3), (0, .ref (ad 0)), (1, .int x1), (2, .int x2)]) hx hb dL_made_6 rfl hl (by decide) rfl (fun ls hl => ?_)
  refine lv_aload_n hx hb dL_made_7 rfl (lv_at hl 1 rfl) ?_
  refine lv_iload_n hx hb dL_made_8 rfl (lv_at hl 2 rfl) ?_
  refine lv_iload_n hx hb dL_made_9 rfl (lv_at hl 0 rfl) ?_
  obtain ⟨q1, st1, hc1, hE⟩ := ob2_some hE
  refine zw_callVi (As := [.int x1, .int r3]) (rest := []) S hZ (ctX3_variable l D ks ad _ st x1 r3 hc1) (cwV 2 hts gL_made_X3_variable rfl rfl rfl (by decide +kernel) ⟨Nat.le_of_ble_eq_true rfl, Nat.le_of_ble_eq_true rfl⟩) hZ.1.recvX rfl hl.1 rfl (Nat.le_of_ble_eq_true rfl) dL_made_10 ⟨Nat.zero_le _, Nat.zero_le _⟩ (fun H locs hZ => ?_)
  refine lv_pop hx hb dL_made_13 rfl ?_
  refine lv_sipush (v := 1024) hx hb dL_made_14 (by decide) ?_
  refine zw_new hx hb (hts (.arrayClass .boolean) (by decide +kernel)) hZ (Nat.le_of_ble_eq_true rfl) (Nat.le_of_ble_eq_true rfl) dL_made_17 (fun q H hZ => ?_)
  refine lv_astore (lv' := [(4, .ref q), (3, .int r3), (0, .ref (ad 0)), (1, .int x1), (2, .int x2)]) hx hb dL_made_19 hl (by decide) rfl (fun ls hl => ?_)
  refine lv_iconst (v := 0) hx hb dL_made_21 (by decide) ?_
  refine lv_istore (lv' := [(5, .int (nI 0)), (4, .ref q), (3, .int r3), (0, .ref (ad 0)), (1, .int x1), (2, .int x2)]) hx hb dL_made_22 hl (by decide) rfl (fun ls hl => ?_)
  refine made24 (st := st1) (x1 := x1) (x2 := x2) (v := r3) (q := q) S ⟨Nat.le_of_ble_eq_true rfl, Nat.le_of_ble_eq_true rfl⟩ (fun H locs ls hZ hl => ?_) 1024 0 H locs ls rfl hZ (lv_sub hl [3, 4, 5, 1, 2, 0] rfl)
  refine lv_iconst (v := 0) hx hb dL_made_49 (by decide) ?_
  refine lv_istore (lv' := [(5, .int (nI 0)), (0, .ref (ad 0)), (1, .int x1), (2, .int x2), (4, .ref q)]) hx hb dL_made_50 hl (by decide) rfl (fun ls hl => ?_)
  refine made52 (stz := st') S (fun H locs ls q hZ hl => ?_) 5 0 q st1 H locs ls rfl hE hZ (lv_sub hl [1, 2, 3, 4, 0] rfl)
  refine lv_aload hx hb dL_made_196 (lv_at hl 0 rfl) ?_
  obtain ⟨hW, -⟩ := hZ
  exact W.aret hx hb hr (Or.inr ⟨_, rfl⟩) (Or.inr ⟨_, rfl⟩) (fun t ht hWm => ⟨⟨st', q, rfl, rfl, by rw [ht]; exact hW.1, va_K.moved hWm.alike hW.2.2.2.1, hW.2.1⟩, hW.2.2.1.F ht⟩) hW.2.2.1.2.2 dL_made_198
