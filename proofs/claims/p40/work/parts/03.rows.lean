/-! ROWS OVER THE WORLD OF ONE TRELLIS -/
abbrev vwCl : List vw_C := [(RX0, TX0, 17), (RX1, TX1, 3), (RX2, TX2, 1), (RX3, TX3, 10)]
def AA (ad : Nat → Nat) (sz : Nat) : Nat → Prop := fun q => (∃ k, k < 54 ∧ q = ad k) ∨ sz ≤ q
def tys (ks : KA) : List (ClassId × FieldType) := [(ks.1, .int), (ks.2.1, .long), (ks.2.2, .object "Trellis$Table")]
def PT (A : Nat → Prop) (U : State) (H : Heap) : Prop := ∃ t : Nat, va_Z "Trellis$Table" "PATTERNS" "[J" (.ref t) A U H ∧ va_T .long t 6 (fun j => .long (pat j)) A U H
/-- before a method, and behind it -/
def PW (D : va_G) (ks : KA) (ad : Nat → Nat) (sz : Nat) (st : St) : State → Prop := fun U => U.heap.size = sz ∧ va_P D vwCl (wC ad ks st) U.heap ∧ va_K D vwCl (tys ks) U ∧ va_D (AA ad sz) (wC ad ks st) ∧ PT (AA ad sz) U U.heap
def QW (D : va_G) (ks : KA) (ad : Nat → Nat) (sz : Nat) (st : St) : State → Prop := fun t => va_P D vwCl (wC ad ks st) t.heap ∧ va_K D vwCl (tys ks) t ∧ va_D (AA ad sz) (wC ad ks st)
/-- within a method -/
def WW (D : va_G) (ks : KA) (ad : Nat → Nat) (A : Nat → Prop) (s : State) (st : St) (H : Heap) (locs : List Loc) : Prop := va_P D vwCl (wC ad ks st) H ∧ va_D A (wC ad ks st) ∧ va_S A s.heap H locs ∧ va_K D vwCl (tys ks) s ∧ PT A s s.heap ∧ ∀ q : Nat, s.heap.size ≤ q → A q
abbrev CI (l : Launch) (D : va_G) (ks : KA) (y : MethodName) (ws : List Cond) (rm : Room) (av : List Value) (ad : Nat → Nat) (sz : Nat) (st : St) (r : Int32) (st' : St) : Prop := Met l y ws rm (va_Pc av (PW D ks ad sz st)) (va_Qi (fun (x : Int32) (u : St) => x = r ∧ u = st') (QW D ks ad sz) (AA ad sz)) 0 0 (AA ad sz)
abbrev CJ (l : Launch) (D : va_G) (ks : KA) (y : MethodName) (ws : List Cond) (rm : Room) (av : List Value) (ad : Nat → Nat) (sz : Nat) (st : St) (r : Int64) (st' : St) : Prop := Met l y ws rm (va_Pc av (PW D ks ad sz st)) (va_Ql (fun (x : Int64) (u : St) => x = r ∧ u = st') (QW D ks ad sz) (AA ad sz)) 0 0 (AA ad sz)
abbrev CV (l : Launch) (D : va_G) (ks : KA) (y : MethodName) (ws : List Cond) (rm : Room) (av : List Value) (ad : Nat → Nat) (sz : Nat) (st : St) (st' : St) : Prop := Met l y ws rm (va_Pc av (PW D ks ad sz st)) (va_Qv (fun (u : St) => u = st') (QW D ks ad sz) (AA ad sz)) 0 0 (AA ad sz)
theorem PT.moved {A : Nat → Prop} {u U : State} {H : Heap} (hvm : u.vm.Alike U.vm) (h : PT A u H) : PT A U H := by
  obtain ⟨t, h1, h2⟩ := h
  exact ⟨t, va_Z.moved hvm h1, va_T.moved hvm h2⟩
theorem PT.kept {A : Nat → Prop} {U : State} {H H1 : Heap} (h : PT A U H) (hq : ∀ a : Nat, a < H.size → ¬ A a → H1[a]? = H[a]?) : PT A U H1 := by
  obtain ⟨t, h1, h2⟩ := h
  exact ⟨t, va_Z.kept h1 hq, va_T.kept h2 hq⟩
theorem PT.narrow {A B : Nat → Prop} {U : State} {H : Heap} (h : PT A U H) (hAB : ∀ q, B q → A q) : PT B U H := by
  obtain ⟨t, h1, h2⟩ := h
  exact ⟨t, va_Z.narrow h1 hAB, va_T.narrow h2 hAB⟩
theorem PW.blind (D : va_G) (ks : KA) (ad : Nat → Nat) (sz : Nat) (st : St) (av : List Value) : FrameBlind (va_Pc av (PW D ks ad sz st)) := by
  intro a U g mk q
  obtain ⟨h0, h1, h2, h3, h4, h5⟩ := q
  exact ⟨h0, h1, h2, va_K.moved (u := U) (U := U.calling g mk a) (Vm.Alike.refl U.vm) h3, h4, PT.moved (u := U) (U := U.calling g mk a) (Vm.Alike.refl U.vm) h5⟩
theorem WW.entry {D : va_G} {ks : KA} {ad : Nat → Nat} {sz : Nat} {st : St} {s : State} (h : PW D ks ad sz st s) : WW D ks ad (AA ad sz) s st s.heap [] := by
  obtain ⟨h1, h2, h3, h4, h5⟩ := h
  exact ⟨h2, h4, va_S.rf, h3, h5, fun q hq => Or.inr (by rw [← h1]; exact hq)⟩
theorem WW.aa {D : va_G} {ks : KA} {ad : Nat → Nat} {A : Nat → Prop} {s : State} {st : St} {H : Heap} {locs : List Loc} (h : WW D ks ad A s st H locs) : ∀ q, AA ad H.size q → A q := by
  obtain ⟨h1, h2, h3, h4, h5, h6⟩ := h
  intro q hq
  rcases hq with ⟨k, hk, rfl⟩ | hq
  · exact h2.2 k _ (wC_at hk)
  · exact h6 q (Nat.le_trans h3.1 hq)
theorem WW.pre {D : va_G} {ks : KA} {ad : Nat → Nat} {A : Nat → Prop} {s : State} {st : St} {H : Heap} {locs : List Loc} (h : WW D ks ad A s st H locs) {U : State} (hU : U.heap = H) (hW : s.WarmedH U.vm) : PW D ks ad H.size st U := by
  have hAA := h.aa
  obtain ⟨h1, h2, h3, h4, h5, h6⟩ := h
  refine ⟨by rw [hU], by rw [hU]; exact h1, va_K.moved hW.alike h4, ⟨h2.1, fun k q hq => ?_⟩, ?_⟩
  · have hk : k < 54 := by
      have := (List.getElem?_eq_some_iff.mp hq).1
      rwa [wC_len] at this
    rw [wC_at hk] at hq
    cases hq
    exact Or.inl ⟨k, hk, rfl⟩
  · rw [hU]
    exact PT.moved hW.alike (PT.narrow (PT.kept h5 (fun a ha hn => h3.2.1 a ha hn)) hAA)
theorem WW.back {D : va_G} {ks : KA} {ad : Nat → Nat} {A : Nat → Prop} {s t : State} {st st' : St} {H H1 : Heap} {locs locs1 : List Loc} (h : WW D ks ad A s st H locs) (hB : QW D ks ad H.size st' t) (ht : t.heap = H1) (hS : va_S A s.heap H1 locs1) : WW D ks ad A s st' H1 locs1 := by
  have hAA := h.aa
  obtain ⟨h1, h2, h3, h4, h5, h6⟩ := h
  obtain ⟨g1, g2, g3⟩ := hB
  exact ⟨by rw [← ht]; exact g1, g3.weaken (fun k q _ hq => hAA _ hq), hS, h4, h5, h6⟩
theorem none_x {α : Type} {b : α} {P : Prop} (h : (none : Option α) = some b) : P := by cases h
theorem some_x {α : Type} {a b : α} (h : some a = some b) : a = b := Option.some.inj h
theorem pair_e {α β : Type} {a c : α} {b d : β} (h : (a, b) = (c, d)) : a = c ∧ b = d := ⟨congrArg Prod.fst h, congrArg Prod.snd h⟩
theorem pair_x {α β : Type} {a c : α} {b d : β} (h : some (a, b) = some (c, d)) : a = c ∧ b = d := pair_e (Option.some.inj h)
theorem tup2_x {α β : Type} {a c : α} {b d : β} (h : some (a, b) = some (c, d)) : a = c ∧ b = d := pair_e (Option.some.inj h)
theorem tup3_x {α β γ : Type} {a a' : α} {b b' : β} {c c' : γ} (h : some (a, b, c) = some (a', b', c')) : a = a' ∧ b = b' ∧ c = c' := by
  obtain ⟨h1, h2⟩ := pair_x h
  exact ⟨h1, pair_e h2⟩
theorem tup4_x {α β γ δ : Type} {a a' : α} {b b' : β} {c c' : γ} {d d' : δ} (h : some (a, b, c, d) = some (a', b', c', d')) : a = a' ∧ b = b' ∧ c = c' ∧ d = d' := by
  obtain ⟨h1, h2⟩ := pair_x h
  obtain ⟨h3, h4⟩ := pair_e h2
  exact ⟨h1, h3, pair_e h4⟩
theorem if_some {α : Type} {P : Prop} {hd : Decidable P} {x : Option α} {b : α} (e : @ite (Option α) P hd x none = some b) : P ∧ x = some b := by
  by_cases h : P
  · rw [if_pos h] at e
    exact ⟨h, e⟩
  · rw [if_neg h] at e
    cases e
theorem lLen_in {t : Nat} {i : Int32} (ht : t < 15) (h : vp_in i 16) : vp_in i (lLen t) := by
  unfold lLen
  rw [if_pos ht]
  exact h
theorem lLen_in1 {t : Nat} {i : Int32} (ht : t < 15) (h : vp_in i 17) : vp_in i (lLen t + 1) := by
  unfold lLen
  rw [if_pos ht]
  exact h
theorem lLen_le {t k : Nat} (ht : t < 15) (h : k ≤ 16) : k ≤ lLen t := by
  unfold lLen
  rw [if_pos ht]
  exact h
section WR
variable {p : Program} {l : Launch} {e : Env} {R : Room} {s : State} {m : MethodId} {args : Array Value} {below : List Frame} {meth : Method} {c : Code} {H : Heap} {locs : List Loc} {cells slots : Nat} {Q : State → Prop}
variable {cc : ByteArray} {pc : Nat} {ls : Array Slot} {rest : List Value} {D : va_G} {ks : KA} {ad : Nat → Nat} {A : Nat → Prop} {st st' : St}
theorem if_t {α : Type} {P : Prop} {hd : Decidable P} {x y b : α} (h : P) (e : @ite α P hd x y = b) : x = b := by rwa [if_pos h] at e
theorem if_f {α : Type} {P : Prop} {hd : Decidable P} {x y b : α} (h : ¬ P) (e : @ite α P hd x y = b) : y = b := by rwa [if_neg h] at e
def lt {α β : Type} (a : α) (f : α → β) : β := f a
theorem lt_some {α β : Type} {a : α} {f : α → β} {b : β} (h : lt a f = b) : ∃ x, x = a ∧ f x = b := ⟨a, rfl, h⟩
def gd {α : Type} (i : Int32) (n : Nat) (x : Option α) : Option α := if 0 ≤ i.toInt ∧ i.toInt < (n : Int) then x else none
theorem gd_some {α : Type} {i : Int32} {n : Nat} {x : Option α} {b : α} (h : gd i n x = some b) : vp_in i n ∧ x = some b := by
  unfold gd at h
  by_cases hc : 0 ≤ i.toInt ∧ i.toInt < (n : Int)
  · rw [if_pos hc] at h
    refine ⟨?_, h⟩
    unfold vp_in
    rw [Int32.lt_iff_toInt_lt, Int32.toInt_zero]
    have : i.toNatClampNeg = i.toInt.toNat := rfl
    omega
  · rw [if_neg hc] at h
    cases h
def gb {α : Type} (i : Int32) (x : Option α) : Option α := if i = 0 ∨ i = 1 then x else none
theorem gb_some {α : Type} {i : Int32} {x : Option α} {b : α} (h : gb i x = some b) : narrow .boolean (.int i) = .int i ∧ x = some b := by
  unfold gb at h
  by_cases hc : i = 0 ∨ i = 1
  · rw [if_pos hc] at h
    refine ⟨?_, h⟩
    rcases hc with rfl | rfl <;> rfl
  · rw [if_neg hc] at h
    cases h
def ob {α β : Type} (o : Option α) (f : α → Option β) : Option β := match o with | none => none | some a => f a
theorem ob_some {α β : Type} {o : Option α} {f : α → Option β} {b : β} (h : ob o f = some b) : ∃ a, o = some a ∧ f a = some b := by
  cases o with
  | none => cases h
  | some a => exact ⟨a, rfl, h⟩
def ob2 {α γ β : Type} (o : Option (α × γ)) (f : α → γ → Option β) : Option β := match o with | none => none | some a => f a.1 a.2
theorem ob2_some {α γ β : Type} {o : Option (α × γ)} {f : α → γ → Option β} {b : β} (h : ob2 o f = some b) : ∃ a c, o = some (a, c) ∧ f a c = some b := by
  cases o with
  | none => cases h
  | some a => exact ⟨a.1, a.2, rfl, h⟩
def ob3 {α γ δ β : Type} (o : Option (α × γ × δ)) (f : α → γ → δ → Option β) : Option β := match o with | none => none | some a => f a.1 a.2.1 a.2.2
theorem ob3_some {α γ δ β : Type} {o : Option (α × γ × δ)} {f : α → γ → δ → Option β} {b : β} (h : ob3 o f = some b) : ∃ a c d, o = some (a, c, d) ∧ f a c d = some b := by
  cases o with
  | none => cases h
  | some a => exact ⟨a.1, a.2.1, a.2.2, rfl, h⟩
def ob4 {α γ δ ε β : Type} (o : Option (α × γ × δ × ε)) (f : α → γ → δ → ε → Option β) : Option β := match o with | none => none | some a => f a.1 a.2.1 a.2.2.1 a.2.2.2
theorem ob4_some {α γ δ ε β : Type} {o : Option (α × γ × δ × ε)} {f : α → γ → δ → ε → Option β} {b : β} (h : ob4 o f = some b) : ∃ a c d g, o = some (a, c, d, g) ∧ f a c d g = some b := by
  cases o with
  | none => cases h
  | some a => exact ⟨a.1, a.2.1, a.2.2.1, a.2.2.2, rfl, h⟩
/-- a loop that may return within: .inl what is returned, .inr what goes on -/
def obS {α γ β : Type} (o : Option (α ⊕ γ)) (f : α → Option β) (g : γ → Option β) : Option β := match o with | none => none | some (.inl a) => f a | some (.inr c) => g c
theorem obS_some {α γ β : Type} {o : Option (α ⊕ γ)} {f : α → Option β} {g : γ → Option β} {b : β} (h : obS o f g = some b) : ∃ z, o = some z ∧ (∀ a, z = .inl a → f a = some b) ∧ (∀ c, z = .inr c → g c = some b) := by
  cases o with
  | none => cases h
  | some z =>
    refine ⟨z, rfl, fun a e => ?_, fun c e => ?_⟩ <;> subst e <;> exact h
def imax (x y : Int32) : Int32 := if x < y then y else x
def imin (x y : Int32) : Int32 := if y < x then y else x
def iush (x y : Int32) : Int32 := (x.toUInt32 >>> (y.toUInt32 &&& Int32.toUInt32 31)).toInt32
def lush (x : Int64) (y : Int32) : Int64 := (x.toUInt64 >>> (y.toInt64.toUInt64 &&& Int64.toUInt64 63)).toInt64
def lshl (x : Int64) (y : Int32) : Int64 := x <<< (y.toInt64 &&& 63)
theorem lv_nmi {x y : Int32} (h : y = x) (k : W p l e R s m args below meth c H locs cells slots Q (F0 m pc ls (.int y :: rest))) : W p l e R s m args below meth c H locs cells slots Q (F0 m pc ls (.int x :: rest)) := h ▸ k
theorem lv_nml {x y : Int64} (h : y = x) (k : W p l e R s m args below meth c H locs cells slots Q (F0 m pc ls (.long y :: rest))) : W p l e R s m args below meth c H locs cells slots Q (F0 m pc ls (.long x :: rest)) := h ▸ k
theorem ww_get (hx : p.tables.exec = Jvm.exec) (hb : c.code = cc) {own C ref : String} {T : u_T} {N ci index : Nat} {Ts : List Cond} (hts : ∀ w ∈ Ts, w.before args s = true) (hin : ∀ w ∈ u_ws C T N, w ∈ Ts) (hown : s.vm.findClass own = some m.cls) (hW : WW D ks ad A s st H locs) (q0 : Nat) {fs : List Value} (hq : q0 < 54) (he : cE ad ks st q0 = .inr (ci, fs)) (hc : vwCl[ci]? = some (C, T, N)) (k : Nat) (hk : k < N) (hlink : (Cond.fieldLink own index ref (T k).2.1 (T k).2.2.1).before args s = true) (hsame : ∀ x, s.fieldFound? (T k).1 (T k).2.1 (T k).2.2.1 = some x → s.fieldFound? ref (T k).2.1 (T k).2.2.1 = some x) {v : Value} (hv : fs[k]? = some v) (hdg : decode cc pc = .ok (.getfield index, 3))
    (kk : W p l e R s m args below meth c H locs cells slots Q (F0 m (pc + 3) ls (v :: rest))) : W p l e R s m args below meth c H locs cells slots Q (F0 m pc ls (.ref (ad q0) :: rest)) :=
  va_get (D := D) hx hb hts hin hown hW.2.2.2.1 hW.1 q0 (by rw [wC_at hq, he]) hc k hk hlink hsame hv hdg kk
theorem ww_put (hx : p.tables.exec = Jvm.exec) (hb : c.code = cc) {index : Nat} {Ts : List Cond} (hts : ∀ w ∈ Ts, w.before args s = true) (hin : ∀ w ∈ wsX00, w ∈ Ts) (hown : s.vm.findClass RX0 = some m.cls) (hW : WW D ks ad A s st H locs) (j : Nat) (hj : j < 4) (hlink : (Cond.fieldLink RX0 index RX0 (TX0 (13 + j)).2.1 (TX0 (13 + j)).2.2.1).before args s = true) {v : Int32} (hst : st' = sF j st v) (hdg : decode cc pc = .ok (.putfield index, 3))
    (kk : ∀ (H1 : Heap) (locs1 : List Loc), WW D ks ad A s st' H1 locs1 → W p l e R s m args below meth c H1 locs1 cells slots Q (F0 m (pc + 3) ls rest)) : W p l e R s m args below meth c H locs cells slots Q (F0 m pc ls (.int v :: .ref (ad 6) :: rest)) := by
  obtain ⟨h1, h2, h3, h4, h5, h6⟩ := hW
  have hset : ∀ fs : List Value, cE ad ks st 6 = .inr (0, fs) → cE ad ks st' 6 = .inr (0, fs.set (13 + j) (.int v)) := by
    intro fs hfs
    rw [hst]
    match j, hj with
    | 0, _ => cases hfs; rfl
    | 1, _ => cases hfs; rfl
    | 2, _ => cases hfs; rfl
    | 3, _ => cases hfs; rfl
  have hd : parseFieldDescriptor (TX0 (13 + j)).2.2.1 = some .int ∧ (TX0 (13 + j)).2.2.2 = false ∧ (TX0 (13 + j)).1 = RX0 := by
    match j, hj with
    | 0, _ => exact ⟨by decide +kernel, rfl, rfl⟩
    | 1, _ => exact ⟨by decide +kernel, rfl, rfl⟩
    | 2, _ => exact ⟨by decide +kernel, rfl, rfl⟩
    | 3, _ => exact ⟨by decide +kernel, rfl, rfl⟩
  refine va_put (D := D) (ci := 0) (v := .int v) (ty := .int) (C := RX0) (T := TX0) (N := 17) (ref := RX0) (fs := [.ref (ad (ic 4)), .ref (ad (ic 5)), .ref (ad (ic 6)), .ref (ad (ic 7)), .ref (ad (ic 8)), .ref (ad (ic 9)), .ref (ad (ic 10)), .ref (ad (ic 11)), .ref (ad (ic 12)), .ref (ad (ic 13)), .ref (ad (ic 14)), .ref (ad (ic 15)), .ref (ad (ic 16)), .int (gF 0 st), .int (gF 1 st), .int (gF 2 st), .int (gF 3 st)]) hx hb hts hin tyX0 tyX0_ok nmX0 hown h4 h1 h2 h3 6 (wC_at (by decide)) rfl (13 + j) (by omega) hlink (fun _ h9 => by rw [hd.2.2] at h9; exact h9) hd.2.1 hd.1 rfl rfl (by simp; omega) hdg (fun H1 locs1 hP hD hS => ?_)
  have e := wC_set (ad := ad) (ks := ks) (st := st) (st' := st') (k := 6) (by decide) (hset _ rfl) (fun i hi hne => cE_same hi (fun r _ _ => by rw [hst]; rfl) (fun r _ _ => by rw [hst]; rfl) (fun h => absurd h hne))
  rw [e] at hP hD
  exact kk H1 locs1 ⟨hP, hD, hS, h4, h5, h6⟩
theorem ww_iald (hx : p.tables.exec = Jvm.exec) (hb : c.code = cc) (hW : WW D ks ad A s st H locs) (r : Nat) (hr : r < 18) {i : Int32} (hin : vp_in i (iLen r)) (hdg : decode cc pc = .ok (.iaload, 1))
    (kk : W p l e R s m args below meth c H locs cells slots Q (F0 m (pc + 1) ls (.int (gI r st i) :: rest))) : W p l e R s m args below meth c H locs cells slots Q (F0 m pc ls (.int i :: .ref (ad (ic r)) :: rest)) :=
  va_iald hx hb hW.2.2.2.1 hW.1 (ic r) 0 (f := st.1 r) (by rw [wC_at (cE_I (ad := ad) (ks := ks) (st := st) hr).1, (cE_I hr).2]) rfl hin hdg kk
theorem ww_lald (hx : p.tables.exec = Jvm.exec) (hb : c.code = cc) (hW : WW D ks ad A s st H locs) (r : Nat) (hr : r < 17) {i : Int32} (hin : vp_in i (lLen r)) (hdg : decode cc pc = .ok (.laload, 1))
    (kk : W p l e R s m args below meth c H locs cells slots Q (F0 m (pc + 1) ls (.long (gL r st i) :: rest))) : W p l e R s m args below meth c H locs cells slots Q (F0 m pc ls (.int i :: .ref (ad (lc r)) :: rest)) :=
  va_lald hx hb hW.2.2.2.1 hW.1 (lc r) 1 (f := st.2.1 r) (by rw [wC_at (cE_L (ad := ad) (ks := ks) (st := st) hr).1, (cE_L hr).2]) rfl hin hdg kk
theorem ww_iast (hx : p.tables.exec = Jvm.exec) (hb : c.code = cc) (hW : WW D ks ad A s st H locs) (r : Nat) (hr : r < 18) {i v : Int32} (hin : vp_in i (iLen r)) (hst : st' = sI r st i v) (hdg : decode cc pc = .ok (.iastore, 1))
    (kk : ∀ (H1 : Heap) (locs1 : List Loc), WW D ks ad A s st' H1 locs1 → W p l e R s m args below meth c H1 locs1 cells slots Q (F0 m (pc + 1) ls rest)) : W p l e R s m args below meth c H locs cells slots Q (F0 m pc ls (.int v :: .int i :: .ref (ad (ic r)) :: rest)) := by
  obtain ⟨h1, h2, h3, h4, h5, h6⟩ := hW
  refine va_iast hx hb h4 h1 h2 h3 (ic r) 0 (f := st.1 r) (by rw [wC_at (cE_I (ad := ad) (ks := ks) (st := st) hr).1, (cE_I hr).2]) rfl hin hdg (fun H1 locs1 hP hD hS => ?_)
  have e := wC_set (ad := ad) (ks := ks) (st := st) (st' := st') (k := ic r) (e := .inl (ks.1, iLen r, .inl (upd (st.1 r) i.toNatClampNeg v))) (cE_I (ad := ad) (ks := ks) (st := st) hr).1 ((cE_I hr).2.trans (by rw [hst]; simp [sI])) (fun j hj hne => cE_same hj (fun r' hr' e' => by rw [hst]; unfold sI; exact if_neg (fun z => hne (by rw [← e', z]))) (fun r' _ _ => by rw [hst]; rfl) (fun _ k _ => by rw [hst]; rfl))
  rw [e] at hP hD
  exact kk H1 locs1 ⟨hP, hD, hS, h4, h5, h6⟩
theorem ww_last (hx : p.tables.exec = Jvm.exec) (hb : c.code = cc) (hW : WW D ks ad A s st H locs) (r : Nat) (hr : r < 17) {i : Int32} {v : Int64} (hin : vp_in i (lLen r)) (hst : st' = sL r st i v) (hdg : decode cc pc = .ok (.lastore, 1))
    (kk : ∀ (H1 : Heap) (locs1 : List Loc), WW D ks ad A s st' H1 locs1 → W p l e R s m args below meth c H1 locs1 cells slots Q (F0 m (pc + 1) ls rest)) : W p l e R s m args below meth c H locs cells slots Q (F0 m pc ls (.long v :: .int i :: .ref (ad (lc r)) :: rest)) := by
  obtain ⟨h1, h2, h3, h4, h5, h6⟩ := hW
  refine va_last hx hb h4 h1 h2 h3 (lc r) 1 (f := st.2.1 r) (by rw [wC_at (cE_L (ad := ad) (ks := ks) (st := st) hr).1, (cE_L hr).2]) rfl hin hdg (fun H1 locs1 hP hD hS => ?_)
  have e := wC_set (ad := ad) (ks := ks) (st := st) (st' := st') (k := lc r) (e := .inl (ks.2.1, lLen r, .inr (.inl (vp_updL (st.2.1 r) i.toNatClampNeg v)))) (cE_L (ad := ad) (ks := ks) (st := st) hr).1 ((cE_L hr).2.trans (by rw [hst]; simp [sL])) (fun j hj hne => cE_same hj (fun r' _ _ => by rw [hst]; rfl) (fun r' hr' e' => by rw [hst]; unfold sL; exact if_neg (fun z => hne (by rw [← e', z]))) (fun _ k _ => by rw [hst]; rfl))
  rw [e] at hP hD
  exact kk H1 locs1 ⟨hP, hD, hS, h4, h5, h6⟩
theorem ww_aald (hx : p.tables.exec = Jvm.exec) (hb : c.code = cc) (hW : WW D ks ad A s st H locs) {i : Int32} (hin : vp_in i 12) (hdg : decode cc pc = .ok (.aaload, 1))
    (kk : W p l e R s m args below meth c H locs cells slots Q (F0 m (pc + 1) ls (.ref (ad (tc i.toNatClampNeg)) :: rest))) : W p l e R s m args below meth c H locs cells slots Q (F0 m pc ls (.int i :: .ref (ad 1) :: rest)) :=
  va_aldq hx hb hW.2.2.2.1 hW.1 1 2 (f := fun j => some (ad (tc j))) (by rw [wC_at (by decide)]; rfl) rfl hin hdg kk
theorem in15 {i : Int32} (h : vp_in i 12) : i.toNatClampNeg < 15 := by
  have : i.toNatClampNeg < 12 := Nat.not_le.mp fun q => h (Or.inr q)
  omega
theorem ww_copyl (hx : p.tables.exec = Jvm.exec) (hb : c.code = cc) (hml : c.maxLocals = ls.size) {own : String} {index : Nat} (hown : s.vm.findClass own = some m.cls) (hlink : (Cond.methodLink own index arraycopyName).before args s = true) (hnat : (Cond.native arraycopyName).before args s = true) (hstat : (Cond.static arraycopyName).before args s = true) (hini : (Cond.initialized "java/lang/System").before args s = true)
    (hW : WW D ks ad A s st H locs) (r r2 : Nat) (hr : r < 17) (hr2 : r2 < 17) {sp dp n : Int32} (hsp : vp_in sp (lLen r + 1)) (hdp : vp_in dp (lLen r2 + 1)) (hn : vp_in n (lLen r + 1)) (h4 : sp.toNatClampNeg + n.toNatClampNeg ≤ lLen r) (h5 : dp.toNatClampNeg + n.toNatClampNeg ≤ lLen r2) (hst : st' = cL r r2 st sp dp n)
    (hframes : 1 ≤ R.frames) (hlocals : (rest.map fun v => v.category).sum + (nativeFrameWords "java/lang/System" "arraycopy" 5 + 11) ≤ R.locals) (hdg : decode cc pc = .ok (.invokestatic index, 3))
    (kk : ∀ (H1 : Heap) (locs1 : List Loc), WW D ks ad A s st' H1 locs1 → W p l e R s m args below meth c H1 locs1 cells slots Q (F0 m (pc + 3) ls rest)) : W p l e R s m args below meth c H locs cells slots Q (F0 m pc ls (.int n :: .int dp :: .ref (ad (lc r2)) :: .int sp :: .ref (ad (lc r)) :: rest)) := by
  obtain ⟨g1, g2, g3, g4, g5, g6⟩ := hW
  refine va_copyl hx hb hml hown hlink hnat hstat hini g4 g1 g2 g3 (lc r) (lc r2) 1 1 (f := st.2.1 r) (g := st.2.1 r2) (ty := .long) (by rw [wC_at (cE_L (ad := ad) (ks := ks) (st := st) hr).1, (cE_L hr).2]) (by rw [wC_at (cE_L (ad := ad) (ks := ks) (st := st) hr2).1, (cE_L hr2).2]) rfl rfl rfl (fun q => hsp (Or.inl q)) (fun q => hdp (Or.inl q)) (fun q => hn (Or.inl q)) h4 h5 (fun _ _ => rfl) hframes hlocals hdg (fun H1 locs1 hP hD hS => ?_)
  have e := wC_set (ad := ad) (ks := ks) (st := st) (st' := st') (k := lc r2) (e := .inl (ks.2.1, lLen r2, .inr (.inl (va_cpy (st.2.1 r) (st.2.1 r2) sp.toNatClampNeg dp.toNatClampNeg n.toNatClampNeg)))) (cE_L (ad := ad) (ks := ks) (st := st) hr2).1 ((cE_L hr2).2.trans (by rw [hst]; simp [cL])) (fun j hj hne => cE_same hj (fun r' _ _ => by rw [hst]; rfl) (fun r' hr' e' => by rw [hst]; unfold cL; exact if_neg (fun z => hne (by rw [← e', z]))) (fun _ k _ => by rw [hst]; rfl))
  rw [e] at hP hD
  exact kk H1 locs1 ⟨hP, hD, hS, g4, g5, g6⟩
/-- PATTERNS[i] -/
theorem ww_pat (hx : p.tables.exec = Jvm.exec) (hb : c.code = cc) {own : String} {index : Nat} (hW : WW D ks ad A s st H locs) (hown : s.vm.findClass own = some m.cls) (hlink : (Cond.fieldLink own index "Trellis$Table" "PATTERNS" "[J").before args s = true) (hdg : decode cc pc = .ok (.getstatic index, 3))
    (kk : ∀ t : Nat, va_T .long t 6 (fun j => .long (pat j)) A s s.heap → W p l e R s m args below meth c H locs cells slots Q (F0 m (pc + 3) ls (.ref t :: rest))) : W p l e R s m args below meth c H locs cells slots Q (F0 m pc ls rest) := by
  obtain ⟨h1, h2, h3, h4, ⟨t, hZ, hT⟩, h6⟩ := hW
  exact va_gets hx hb hZ h3 hown hlink (fun _ h => h) hdg (kk t hT)
theorem ww_patld (hx : p.tables.exec = Jvm.exec) (hb : c.code = cc) (hW : WW D ks ad A s st H locs) {t : Nat} (hT : va_T .long t 6 (fun j => .long (pat j)) A s s.heap) {i : Int32} (hin : vp_in i 6) (hdg : decode cc pc = .ok (.laload, 1))
    (kk : W p l e R s m args below meth c H locs cells slots Q (F0 m (pc + 1) ls (.long (pat i.toNatClampNeg) :: rest))) : W p l e R s m args below meth c H locs cells slots Q (F0 m pc ls (.int i :: .ref t :: rest)) :=
  va_tl hx hb hT hW.2.2.1 hin rfl hdg kk
/-- who is called: the Diagram, the Orders, the Trellis, a Table -/
theorem WW.recv (hW : WW D ks ad A s st H locs) {q0 ci : Nat} {q : vw_C} {fs : List Value} (hq : q0 < 54) (he : cE ad ks st q0 = .inr (ci, fs)) (hc : vwCl[ci]? = some q) : ∃ cell : Cell, H[ad q0]? = some cell ∧ cell.vm.isStatics = false ∧ s.vm.findClass q.1 = some cell.cls :=
  va_recv (D := D) (tys := tys ks) hW.2.2.2.1 hW.1 hc (by rw [wC_at hq, he])
theorem WW.recvD (hW : WW D ks ad A s st H locs) : ∃ cell : Cell, H[ad 6]? = some cell ∧ cell.vm.isStatics = false ∧ s.vm.findClass RX0 = some cell.cls := hW.recv (q0 := 6) (ci := 0) (q := (RX0, TX0, 17)) (by decide) rfl rfl
theorem WW.recvO (hW : WW D ks ad A s st H locs) : ∃ cell : Cell, H[ad 20]? = some cell ∧ cell.vm.isStatics = false ∧ s.vm.findClass RX1 = some cell.cls := hW.recv (q0 := 20) (ci := 1) (q := (RX1, TX1, 3)) (by decide) rfl rfl
theorem WW.recvX (hW : WW D ks ad A s st H locs) : ∃ cell : Cell, H[ad 0]? = some cell ∧ cell.vm.isStatics = false ∧ s.vm.findClass RX3 = some cell.cls := hW.recv (q0 := 0) (ci := 3) (q := (RX3, TX3, 10)) (by decide) rfl rfl
theorem WW.recvT (hW : WW D ks ad A s st H locs) {t : Nat} (ht : t < 15) : ∃ cell : Cell, H[ad (tc t)]? = some cell ∧ cell.vm.isStatics = false ∧ s.vm.findClass RX2 = some cell.cls := hW.recv (q0 := tc t) (ci := 2) (q := (RX2, TX2, 1)) (cE_T (ad := ad) (ks := ks) (st := st) ht).1 (cE_T ht).2 rfl
end WR
section WCALL
variable {p : Program} {l : Launch} {e : Env} {R : Room} {s : State} {m : MethodId} {args : Array Value} {below : List Frame} {meth : Method} {c : Code} {H : Heap} {locs : List Loc} {cells slots : Nat} {Q : State → Prop}
variable {cc bytes : ByteArray} {pc : Nat} {ls : Array Slot} {rest st0 : List Value} {D : va_G} {ks : KA} {ad : Nat → Nat} {A : Nat → Prop} {st st' : St}
variable {y : MethodName} {maxL nL n index : Nat} {ret : Option FieldType} {ws : List Cond} {rm : Room} {Ts : List Cond} {own C : String} {b : Nat} {As : List Value}
theorem ww_callVi {r : Int32} (S : CallFix p m c cc nL s args Ts own) (hW : WW D ks ad A s st H locs) (hM : CI l D ks y ws rm (.ref b :: As) ad H.size st r st') (cw : CallW R s args own C index y bytes maxL ret ws rm 0 0 n) (hr : ∃ cell : Cell, H[b]? = some cell ∧ cell.vm.isStatics = false ∧ s.vm.findClass C = some cell.cls) (hn : As.length = n) (hsize : ls.size = nL) (hstack : st0 = As.reverse ++ .ref b :: rest) (hw : (rest.map fun v => v.category).sum ≤ 8) (hdg : decode cc pc = .ok (.invokevirtual index, 3)) (hf : cells ≤ R.cells ∧ slots ≤ R.slots)
    (kk : ∀ (H1 : Heap) (locs1 : List Loc), WW D ks ad A s st' H1 locs1 → W p l e R s m args below meth c H1 locs1 cells slots Q (F0 m (pc + 3) ls (.int r :: rest))) : W p l e R s m args below meth c H locs cells slots Q (F0 m pc ls st0) := by
  refine va_calli (va_runV (As := As) (rest := rest) S hM cw ⟨PW.blind _ _ _ _ _ _, hr, fun U hU hWm => ⟨rfl, hW.pre hU hWm⟩⟩ rfl hn hsize hstack (lv_room hw) hdg hf) hW.2.2.1 (fun q _ h => hW.aa q h) hW.aa (fun r1 u t H1 locs1 ht hvm hp hB hz1 hk1 hS => ?_)
  obtain ⟨rfl, rfl⟩ := hp
  exact kk H1 locs1 (hW.back hB ht hS)
theorem ww_callVl {r : Int64} (S : CallFix p m c cc nL s args Ts own) (hW : WW D ks ad A s st H locs) (hM : CJ l D ks y ws rm (.ref b :: As) ad H.size st r st') (cw : CallW R s args own C index y bytes maxL ret ws rm 0 0 n) (hr : ∃ cell : Cell, H[b]? = some cell ∧ cell.vm.isStatics = false ∧ s.vm.findClass C = some cell.cls) (hn : As.length = n) (hsize : ls.size = nL) (hstack : st0 = As.reverse ++ .ref b :: rest) (hw : (rest.map fun v => v.category).sum ≤ 8) (hdg : decode cc pc = .ok (.invokevirtual index, 3)) (hf : cells ≤ R.cells ∧ slots ≤ R.slots)
    (kk : ∀ (H1 : Heap) (locs1 : List Loc), WW D ks ad A s st' H1 locs1 → W p l e R s m args below meth c H1 locs1 cells slots Q (F0 m (pc + 3) ls (.long r :: rest))) : W p l e R s m args below meth c H locs cells slots Q (F0 m pc ls st0) := by
  refine va_calll (va_runV (As := As) (rest := rest) S hM cw ⟨PW.blind _ _ _ _ _ _, hr, fun U hU hWm => ⟨rfl, hW.pre hU hWm⟩⟩ rfl hn hsize hstack (lv_room hw) hdg hf) hW.2.2.1 (fun q _ h => hW.aa q h) hW.aa (fun r1 u t H1 locs1 ht hvm hp hB hz1 hk1 hS => ?_)
  obtain ⟨rfl, rfl⟩ := hp
  exact kk H1 locs1 (hW.back hB ht hS)
theorem ww_callVv (S : CallFix p m c cc nL s args Ts own) (hW : WW D ks ad A s st H locs) (hM : CV l D ks y ws rm (.ref b :: As) ad H.size st st') (cw : CallW R s args own C index y bytes maxL ret ws rm 0 0 n) (hr : ∃ cell : Cell, H[b]? = some cell ∧ cell.vm.isStatics = false ∧ s.vm.findClass C = some cell.cls) (hn : As.length = n) (hsize : ls.size = nL) (hstack : st0 = As.reverse ++ .ref b :: rest) (hw : (rest.map fun v => v.category).sum ≤ 8) (hdg : decode cc pc = .ok (.invokevirtual index, 3)) (hf : cells ≤ R.cells ∧ slots ≤ R.slots)
    (kk : ∀ (H1 : Heap) (locs1 : List Loc), WW D ks ad A s st' H1 locs1 → W p l e R s m args below meth c H1 locs1 cells slots Q (F0 m (pc + 3) ls rest)) : W p l e R s m args below meth c H locs cells slots Q (F0 m pc ls st0) := by
  refine va_callv (va_runV (As := As) (rest := rest) S hM cw ⟨PW.blind _ _ _ _ _ _, hr, fun U hU hWm => ⟨rfl, hW.pre hU hWm⟩⟩ rfl hn hsize hstack (lv_room hw) hdg hf) hW.2.2.1 (fun q _ h => hW.aa q h) hW.aa (fun u t H1 locs1 ht hvm hp hB hz1 hk1 hS => ?_)
  obtain rfl := hp
  exact kk H1 locs1 (hW.back hB ht hS)
theorem ww_callSi {r : Int32} (S : CallFix p m c cc nL s args Ts own) (hW : WW D ks ad A s st H locs) (hM : CI l D ks y ws rm As ad H.size st r st') (cw : CallB R s args own index y bytes maxL ret ws rm 0 0 n ∧ (Cond.static y).before args s = true) (hn : As.length = n) (hsize : ls.size = nL) (hstack : st0 = As.reverse ++ rest) (hw : (rest.map fun v => v.category).sum ≤ 8) (hdg : decode cc pc = .ok (.invokestatic index, 3)) (hf : cells ≤ R.cells ∧ slots ≤ R.slots)
    (kk : ∀ (H1 : Heap) (locs1 : List Loc), WW D ks ad A s st' H1 locs1 → W p l e R s m args below meth c H1 locs1 cells slots Q (F0 m (pc + 3) ls (.int r :: rest))) : W p l e R s m args below meth c H locs cells slots Q (F0 m pc ls st0) := by
  refine va_calli (va_runS (As := As) (rest := rest) S hM cw ⟨PW.blind _ _ _ _ _ _, fun U hU hWm => ⟨rfl, hW.pre hU hWm⟩⟩ rfl hn hsize hstack (lv_room hw) hdg hf) hW.2.2.1 (fun q _ h => hW.aa q h) hW.aa (fun r1 u t H1 locs1 ht hvm hp hB hz1 hk1 hS => ?_)
  obtain ⟨rfl, rfl⟩ := hp
  exact kk H1 locs1 (hW.back hB ht hS)
theorem ww_callSl {r : Int64} (S : CallFix p m c cc nL s args Ts own) (hW : WW D ks ad A s st H locs) (hM : CJ l D ks y ws rm As ad H.size st r st') (cw : CallB R s args own index y bytes maxL ret ws rm 0 0 n ∧ (Cond.static y).before args s = true) (hn : As.length = n) (hsize : ls.size = nL) (hstack : st0 = As.reverse ++ rest) (hw : (rest.map fun v => v.category).sum ≤ 8) (hdg : decode cc pc = .ok (.invokestatic index, 3)) (hf : cells ≤ R.cells ∧ slots ≤ R.slots)
    (kk : ∀ (H1 : Heap) (locs1 : List Loc), WW D ks ad A s st' H1 locs1 → W p l e R s m args below meth c H1 locs1 cells slots Q (F0 m (pc + 3) ls (.long r :: rest))) : W p l e R s m args below meth c H locs cells slots Q (F0 m pc ls st0) := by
  refine va_calll (va_runS (As := As) (rest := rest) S hM cw ⟨PW.blind _ _ _ _ _ _, fun U hU hWm => ⟨rfl, hW.pre hU hWm⟩⟩ rfl hn hsize hstack (lv_room hw) hdg hf) hW.2.2.1 (fun q _ h => hW.aa q h) hW.aa (fun r1 u t H1 locs1 ht hvm hp hB hz1 hk1 hS => ?_)
  obtain ⟨rfl, rfl⟩ := hp
  exact kk H1 locs1 (hW.back hB ht hS)
theorem ww_callSv (S : CallFix p m c cc nL s args Ts own) (hW : WW D ks ad A s st H locs) (hM : CV l D ks y ws rm As ad H.size st st') (cw : CallB R s args own index y bytes maxL ret ws rm 0 0 n ∧ (Cond.static y).before args s = true) (hn : As.length = n) (hsize : ls.size = nL) (hstack : st0 = As.reverse ++ rest) (hw : (rest.map fun v => v.category).sum ≤ 8) (hdg : decode cc pc = .ok (.invokestatic index, 3)) (hf : cells ≤ R.cells ∧ slots ≤ R.slots)
    (kk : ∀ (H1 : Heap) (locs1 : List Loc), WW D ks ad A s st' H1 locs1 → W p l e R s m args below meth c H1 locs1 cells slots Q (F0 m (pc + 3) ls rest)) : W p l e R s m args below meth c H locs cells slots Q (F0 m pc ls st0) := by
  refine va_callv (va_runS (As := As) (rest := rest) S hM cw ⟨PW.blind _ _ _ _ _ _, fun U hU hWm => ⟨rfl, hW.pre hU hWm⟩⟩ rfl hn hsize hstack (lv_room hw) hdg hf) hW.2.2.1 (fun q _ h => hW.aa q h) hW.aa (fun u t H1 locs1 ht hvm hp hB hz1 hk1 hS => ?_)
  obtain rfl := hp
  exact kk H1 locs1 (hW.back hB ht hS)
theorem WW.qi {sz : Nat} {t : State} {v : Int32} (h : WW D ks ad (AA ad sz) s st H locs) (ht : t.heap = H) (hWm : s.WarmedH t.vm) : va_Qi (fun (x : Int32) (u : St) => x = v ∧ u = st) (QW D ks ad sz) (AA ad sz) args s (.returned (some (.int v))) t := ⟨⟨v, st, rfl, ⟨rfl, rfl⟩, by rw [ht]; exact h.1, va_K.moved hWm.alike h.2.2.2.1, h.2.1⟩, h.2.2.1.F ht⟩
theorem WW.ql {sz : Nat} {t : State} {v : Int64} (h : WW D ks ad (AA ad sz) s st H locs) (ht : t.heap = H) (hWm : s.WarmedH t.vm) : va_Ql (fun (x : Int64) (u : St) => x = v ∧ u = st) (QW D ks ad sz) (AA ad sz) args s (.returned (some (.long v))) t := ⟨⟨v, st, rfl, ⟨rfl, rfl⟩, by rw [ht]; exact h.1, va_K.moved hWm.alike h.2.2.2.1, h.2.1⟩, h.2.2.1.F ht⟩
theorem WW.qv {sz : Nat} {t : State} (h : WW D ks ad (AA ad sz) s st H locs) (ht : t.heap = H) (hWm : s.WarmedH t.vm) : va_Qv (fun (u : St) => u = st) (QW D ks ad sz) (AA ad sz) args s (.returned none) t := ⟨⟨st, rfl, rfl, by rw [ht]; exact h.1, va_K.moved hWm.alike h.2.2.2.1, h.2.1⟩, h.2.2.1.F ht⟩
end WCALL
