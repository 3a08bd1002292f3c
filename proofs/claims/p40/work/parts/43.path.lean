/-! PATHS TO 1 and the LONGEST PATH -/
/-- a number for a function, by the order: a comb where it depends on the level's variable -/
noncomputable def gK (comb : Nat → Nat → Nat) (one : Nat) (o : Nat → Nat) : Nat → Nat → Fn → Nat
  | 0, _, f => if f 0 then one else 0
  | k + 1, L, f => if depB f (o L) then comb (gK comb one o k (L + 1) (co (o L) false f)) (gK comb one o k (L + 1) (co (o L) true f)) else gK comb one o k (L + 1) f
section GK
variable {al : Nat → Bool} {lev low high o : Nat → Nat} {D : Nat → Fn} {comb : Nat → Nat → Nat} {one : Nat}
theorem gK_skip (h : DG al lev low high o D) {c : Nat} (hc : ch al c) : ∀ d l, l + d = lvl lev c → gK comb one o (10 - l) l (D c) = gK comb one o (10 - lvl lev c) (lvl lev c) (D c) := by
  intro d
  induction d with
  | zero => intro l hl; rw [show l = lvl lev c by omega]
  | succ d ih =>
    intro l hl
    have h10 := lvl_le h hc
    have hi := DG_ind h hc (l := l) (by omega) (by omega)
    rw [← ih (l + 1) (by omega), show 10 - l = (10 - (l + 1)) + 1 by omega]
    have hb : ¬ depB (D c) (o l) = true := fun z => depB_true.mp z hi
    exact if_neg hb
theorem gK_node (h : DG al lev low high o D) {n : Nat} (hn : al n = true) : gK comb one o 10 0 (D n) = comb (gK comb one o 10 0 (D (low n))) (gK comb one o 10 0 (D (high n))) := by
  obtain ⟨g1, g2, g3, g4, g5, g6, g7, g8, g9⟩ := h.1 n hn
  have e0 := gK_skip (comb := comb) (one := one) h (Or.inr hn : ch al n) (lvl lev n) 0 (by omega)
  have e1 := gK_skip (comb := comb) (one := one) h g4 (lvl lev (low n)) 0 (by omega)
  have e2 := gK_skip (comb := comb) (one := one) h g5 (lvl lev (high n)) 0 (by omega)
  have e3 := gK_skip (comb := comb) (one := one) h g4 (lvl lev (low n) - (lev n + 1)) (lev n + 1) (by omega)
  have e4 := gK_skip (comb := comb) (one := one) h g5 (lvl lev (high n) - (lev n + 1)) (lev n + 1) (by omega)
  rw [lvl_al h hn] at e0
  rw [show gK comb one o 10 0 (D n) = _ from e0, show gK comb one o 10 0 (D (low n)) = _ from e1, show gK comb one o 10 0 (D (high n)) = _ from e2, ← e3, ← e4, show 10 - lev n = (10 - (lev n + 1)) + 1 by omega]
  have hb : depB (D n) (o (lev n)) = true := depB_true.mpr (DG_ndep h hn)
  refine (if_pos hb).trans ?_
  rw [DG_low h hn, DG_high h hn]
theorem gK_const (h : DG al lev low high o D) {c : Nat} (hc : c < 2) : gK comb one o 10 0 (D c) = if c = 1 then one else 0 := by
  have e0 := gK_skip (comb := comb) (one := one) h (Or.inl hc : ch al c) (lvl lev c) 0 (by omega)
  have hl : lvl lev c = 10 := by unfold lvl; rw [if_pos hc]
  rw [hl] at e0
  rw [show gK comb one o 10 0 (D c) = _ from e0, DG_const h hc]
  show (if cst (c == 1) 0 = true then one else 0) = _
  unfold cst
  by_cases q : c = 1
  · rw [if_pos q, if_pos (by rw [q]; rfl)]
  · rw [if_neg q, if_neg (by simpa using q)]
end GK
theorem valueOf_ok {st : St} (hN : NN st) {c : Nat} (hc : c < 2560) : sX0_valueOf st (nI c) = some (nI (v 14 st c)) := by
  unfold sX0_valueOf
  rw [if_neg (by rw [n_0, nI_ltE (by omega) (by omega)]; omega), if_neg (by rw [n_2560, nI_leE (by omega) (by omega)]; omega), gd_in hc (by omega), gI_v hN (by decide) (by omega)]
theorem setValue_ok {st : St} {c : Nat} (h2 : 2 ≤ c) (hc : c < 2560) (x : Int32) : sX0_setValue st (nI c) x = some (sI 14 st (nI c) x) := by
  unfold sX0_setValue
  rw [isNode_ok st (by omega), if_pos ⟨h2, hc⟩, ob_s, if_neg nI1_ne, gd_in hc (by omega), lt_e]
/-- the number of paths to 1, the length of the longest path -/
noncomputable def wy (o : Nat → Nat) (f : Fn) : Nat := gK (fun a b => a + b) 1 o 10 0 f
noncomputable def dpt (o : Nat → Nat) (f : Fn) : Nat := gK (fun a b => 1 + max a b) 0 o 10 0 f
theorem gK_wb (o : Nat → Nat) : ∀ (k L : Nat) (f : Fn), gK (fun a b => a + b) 1 o k L f ≤ 2 ^ k
  | 0, L, f => by
    show (if f 0 then 1 else 0) ≤ _
    split <;> decide
  | k + 1, L, f => by
    have h1 := gK_wb o k (L + 1) f
    have h2 := gK_wb o k (L + 1) (co (o L) false f)
    have h3 := gK_wb o k (L + 1) (co (o L) true f)
    have h4 : 2 ^ (k + 1) = 2 ^ k * 2 := Nat.pow_succ ..
    show (if depB f (o L) then gK (fun a b => a + b) 1 o k (L + 1) (co (o L) false f) + gK (fun a b => a + b) 1 o k (L + 1) (co (o L) true f) else _) ≤ _
    split
    · omega
    · omega
theorem gK_db (o : Nat → Nat) : ∀ (k L : Nat) (f : Fn), gK (fun a b => 1 + max a b) 0 o k L f ≤ k
  | 0, L, f => by
    show (if f 0 then 0 else 0) ≤ _
    split <;> decide
  | k + 1, L, f => by
    have h1 := gK_db o k (L + 1) f
    have h2 := gK_db o k (L + 1) (co (o L) false f)
    have h3 := gK_db o k (L + 1) (co (o L) true f)
    show (if depB f (o L) then 1 + max (gK (fun a b => 1 + max a b) 0 o k (L + 1) (co (o L) false f)) (gK (fun a b => 1 + max a b) 0 o k (L + 1) (co (o L) true f)) else _) ≤ _
    split
    · omega
    · omega
theorem wy_le (o : Nat → Nat) (f : Fn) : wy o f ≤ 1024 := gK_wb o 10 0 f
theorem dpt_le (o : Nat → Nat) (f : Fn) : dpt o f ≤ 10 := gK_db o 10 0 f
theorem imax_nI {a b : Nat} (ha : a < 2147483648) (hb : b < 2147483648) : imax (nI a) (nI b) = nI (max a b) := by
  unfold imax
  by_cases q : a < b
  · rw [if_pos ((nI_ltE ha hb).mpr q), Nat.max_eq_right (by omega)]
  · rw [if_neg (fun z => q ((nI_ltE ha hb).mp z)), Nat.max_eq_left (by omega)]
theorem lo9_eq {st : St} {c : Nat} (h : 2 ≤ c) : lo9 st c = v 9 st c := by unfold lo9; rw [if_neg (by omega)]
theorem hi10_eq {st : St} {c : Nat} (h : 2 ≤ c) : hi10 st c = v 10 st c := by unfold hi10; rw [if_neg (by omega)]
section VL_wy
variable {al : Nat → Bool} {lev low high o : Nat → Nat} {D : Nat → Fn}
theorem wyvals (h : DG al lev low high o D) {x1 : Int32} {many : Nat} (hm : many ≤ 2560) : ∀ (R : List Nat) (st : St), NN st → v 9 st = low → v 10 st = high → OL al low high R → LSr st R → R.length ≤ many → v 14 st 0 = 0 → v 14 st 1 = 1 → ∀ fu, R.length < fu →
    ∃ st', sX0_pathsToOne_L23 fu st x1 (nI many) (nI 0) = sX0_pathsToOne_L23 (fu - R.length) st' x1 (nI many) (nI R.length) ∧ NN st' ∧ Fr [14] st st' ∧ st'.2.2 = st.2.2 ∧ v 14 st' 0 = 0 ∧ v 14 st' 1 = 1 ∧ ∀ m, m ∈ R → v 14 st' m = wy o (D m) := by
  intro R
  induction R with
  | nil =>
    intro st hN _ _ _ _ _ h0 h1 fu _
    exact ⟨st, rfl, hN, Fr.refl _ _, rfl, h0, h1, fun m hm => absurd hm List.not_mem_nil⟩
  | cons n t ih =>
    intro st hN e9 e10 hO hL hlen h0 h1 fu hfu
    rw [List.length_cons] at hlen hfu
    obtain ⟨s1, e1, N1, F1, k1, a0, a1, am⟩ := ih st hN e9 e10 hO.2 hL.2 (by omega) h0 h1 fu (by omega)
    obtain ⟨hal, hnt, hlo, hhi⟩ := hO.1
    obtain ⟨g1, g2, g3, g4, g5, g6, g7, g8, g9⟩ := h.1 n hal
    obtain ⟨q, hq⟩ : ∃ q, fu - t.length = q + 1 := ⟨fu - t.length - 1, by omega⟩
    have y15 : v 15 s1 t.length = n := by rw [F1.vE (by decide)]; exact hL.1
    have y9 : v 9 s1 = low := (F1.vE (by decide)).trans e9
    have y10 : v 10 s1 = high := (F1.vE (by decide)).trans e10
    have val : ∀ c, (c < 2 ∨ c ∈ t) → v 14 s1 c = wy o (D c) := fun c hc => by
      rcases hc with z | z
      · have := gK_const (comb := (fun a b => a + b)) (one := 1) h z
        rw [show wy o (D c) = _ from this]
        by_cases e : c = 1
        · rw [e, a1, if_pos rfl]
        · rw [show c = 0 by omega, a0, if_neg (by omega)]
      · exact am c z
    have c1 : low n < 2560 := by
      rcases g4 with z | z
      · omega
      · exact (h.1 _ z).2.1
    have c2 : high n < 2560 := by
      rcases g5 with z | z
      · omega
      · exact (h.1 _ z).2.1
    have b1 := wy_le o (D (low n))
    have b2 := wy_le o (D (high n))
    have b3 := wy_le o (D n)
    have hnode : wy o (D n) = wy o (D (low n)) + wy o (D (high n)) := gK_node h hal
    have N2 := NN_sI (r := 14) N1 (i := n) (x := wy o (D n)) (by omega) (by omega)
    have F2 := Fr_sI s1 14 (nI n) (nI (wy o (D n)))
    have p2 : ∀ m, v 14 (sI 14 s1 (nI n) (nI (wy o (D n)))) m = if m = n then wy o (D n) else v 14 s1 m := fun m => by
      rw [v_sI (by omega) (by omega)]
      by_cases e : m = n
      · rw [if_pos ⟨rfl, e⟩, if_pos e]
      · rw [if_neg (fun z => e z.2), if_neg e]
    refine ⟨sI 14 s1 (nI n) (nI (wy o (D n))), ?_, N2, F1.trans F2, k1, ?_, ?_, fun m hm => ?_⟩
    · rw [e1, hq, sX0_pathsToOne_L23, if_neg (by rw [nI_leE (by omega) (by omega)]; omega), gd_in (by omega) (by omega), gI_v N1 (by decide) (by omega), y15, lt_e, lowOf_ok N1 g2, ob_s, lo9_eq g1, y9, valueOf_ok N1 c1, ob_s, highOf_ok N1 g2, ob_s, hi10_eq g1, y10, valueOf_ok N1 c2, ob_s, val _ hlo, val _ hhi, nI_addE, ← hnode, setValue_ok g1 g2, ob_s, nI_add1, lt_e, List.length_cons, show fu - (t.length + 1) = q by omega]
    · rw [p2, if_neg (by omega), a0]
    · rw [p2, if_neg (by omega), a1]
    · rw [p2]
      rcases List.mem_cons.mp hm with e | z
      · rw [if_pos e, e]
      · rw [if_neg (fun e => hnt (by rw [← e]; exact z))]
        exact am m z
end VL_wy
theorem pathsToOne_ok {S : List Fn} {o : Nat → Nat} {st : St} {B a : Nat} (h : OS S o st) (hs : SI B st) (hB : B < 2000000000) (ha : a < 12) :
    ∃ st', sX0_pathsToOne st (nI a) = some (nI (wy o (sl S a)), st') ∧ OS S o st' ∧ FQ st st' ∧ SI (B + 1) st' := by
  obtain ⟨al, D, G, rfl⟩ := h
  obtain ⟨s1, R, e1, hl, hR, hL, hO, hr, f1, -, N1, S1⟩ := from_G G hs hB ha ha
  have hD := G.2.1
  have y9 : v 9 s1 = v 9 st := f1.1.vE (by decide)
  have y10 : v 10 s1 = v 10 st := f1.1.vE (by decide)
  have N2 := NN_sI (r := 14) N1 (i := 0) (x := 0) (by omega) (by omega)
  have N3 := NN_sI (r := 14) N2 (i := 1) (x := 1) (by omega) (by omega)
  have F2 := Fr_sI s1 14 (nI 0) (nI 0)
  have F3 := Fr_sI (sI 14 s1 (nI 0) (nI 0)) 14 (nI 1) (nI 1)
  have F23 : Fr [14] s1 (sI 14 (sI 14 s1 (nI 0) (nI 0)) (nI 1) (nI 1)) := F2.trans F3
  have z0 : v 14 (sI 14 (sI 14 s1 (nI 0) (nI 0)) (nI 1) (nI 1)) 0 = 0 := by
    rw [v_sI (by omega) (by omega), if_neg (by omega), v_sI (by omega) (by omega), if_pos ⟨rfl, rfl⟩]
  have z1 : v 14 (sI 14 (sI 14 s1 (nI 0) (nI 0)) (nI 1) (nI 1)) 1 = 1 := by
    rw [v_sI (by omega) (by omega), if_pos ⟨rfl, rfl⟩]
  obtain ⟨s4, e4, N4, F4, k4, a0, a1, am⟩ := wyvals hD (x1 := nI a) hR R (sI 14 (sI 14 s1 (nI 0) (nI 0)) (nI 1) (nI 1)) N3 ((F23.vE (by decide)).trans y9) ((F23.vE (by decide)).trans y10) hO (LSr_same (fun j _ => by rw [F23.vE (by decide)]) hL) (Nat.le_refl _) z0 z1 FU (by show _ < 4000; omega)
  have FF : FQ s1 s4 := ⟨(F23.trans F4).mono (by intro q hq; simp at hq ⊢; omega), fun k h1 h2 => by rw [k4]; rfl⟩
  have y5 : v 5 s4 = v 5 st := (FF.1.vE (by decide)).trans (f1.1.vE (by decide))
  have hc := G.1.1.2.2.2.2.2.2 a ha
  have hc2 : v 5 st a < 2560 := by
    rcases hc with z | z
    · omega
    · exact (hD.1 _ z).2.1
  have val : v 14 s4 (v 5 st a) = wy o (D (v 5 st a)) := by
    rcases hr with z | z
    · have := gK_const (comb := (fun a b => a + b)) (one := 1) hD z
      rw [show wy o (D (v 5 st a)) = _ from this]
      by_cases e : v 5 st a = 1
      · rw [e, a1, if_pos rfl]
      · rw [show v 5 st a = 0 by omega, a0, if_neg (by omega)]
    · exact am _ z
  obtain ⟨q, hq⟩ : ∃ q, FU - R.length = q + 1 := ⟨FU - R.length - 1, by have : FU = 4000 := rfl; omega⟩
  obtain ⟨G', hF⟩ := GD_FQ G (f1.trans FF) N4
  refine ⟨s4, ?_, ⟨al, D, G', hF⟩, f1.trans FF, ?_⟩
  · unfold sX0_pathsToOne
    rw [e1, ob2_s, n_1, n_0, gd_in (by omega) (by omega), lt_e, gd_in (by omega) (by omega), lt_e, e4, hq, sX0_pathsToOne_L23, if_pos (by rw [nI_leE (by omega) (by omega)]; omega), ob_s, gd_in ha (by omega), gI_v N4 (by decide) (by omega), y5, valueOf_ok N4 hc2, ob_s, val, sl_FS ha]
  · have y13 : v 13 s4 = v 13 s1 := (F4.vE (by decide)).trans (F23.vE (by decide))
    have y2 : fv 2 s4 = fv 2 s1 := by unfold fv; rw [k4]; rfl
    unfold SI
    rw [y13, y2]
    exact S1
section VL_dpt
variable {al : Nat → Bool} {lev low high o : Nat → Nat} {D : Nat → Fn}
theorem dptvals (h : DG al lev low high o D) {x1 : Int32} {many : Nat} (hm : many ≤ 2560) : ∀ (R : List Nat) (st : St), NN st → v 9 st = low → v 10 st = high → OL al low high R → LSr st R → R.length ≤ many → v 14 st 0 = 0 → v 14 st 1 = 0 → ∀ fu, R.length < fu →
    ∃ st', sX0_longestPath_L23 fu st x1 (nI many) (nI 0) = sX0_longestPath_L23 (fu - R.length) st' x1 (nI many) (nI R.length) ∧ NN st' ∧ Fr [14] st st' ∧ st'.2.2 = st.2.2 ∧ v 14 st' 0 = 0 ∧ v 14 st' 1 = 0 ∧ ∀ m, m ∈ R → v 14 st' m = dpt o (D m) := by
  intro R
  induction R with
  | nil =>
    intro st hN _ _ _ _ _ h0 h1 fu _
    exact ⟨st, rfl, hN, Fr.refl _ _, rfl, h0, h1, fun m hm => absurd hm List.not_mem_nil⟩
  | cons n t ih =>
    intro st hN e9 e10 hO hL hlen h0 h1 fu hfu
    rw [List.length_cons] at hlen hfu
    obtain ⟨s1, e1, N1, F1, k1, a0, a1, am⟩ := ih st hN e9 e10 hO.2 hL.2 (by omega) h0 h1 fu (by omega)
    obtain ⟨hal, hnt, hlo, hhi⟩ := hO.1
    obtain ⟨g1, g2, g3, g4, g5, g6, g7, g8, g9⟩ := h.1 n hal
    obtain ⟨q, hq⟩ : ∃ q, fu - t.length = q + 1 := ⟨fu - t.length - 1, by omega⟩
    have y15 : v 15 s1 t.length = n := by rw [F1.vE (by decide)]; exact hL.1
    have y9 : v 9 s1 = low := (F1.vE (by decide)).trans e9
    have y10 : v 10 s1 = high := (F1.vE (by decide)).trans e10
    have val : ∀ c, (c < 2 ∨ c ∈ t) → v 14 s1 c = dpt o (D c) := fun c hc => by
      rcases hc with z | z
      · have := gK_const (comb := (fun a b => 1 + max a b)) (one := 0) h z
        rw [show dpt o (D c) = _ from this]
        by_cases e : c = 1
        · rw [e, a1, if_pos rfl]
        · rw [show c = 0 by omega, a0, if_neg (by omega)]
      · exact am c z
    have c1 : low n < 2560 := by
      rcases g4 with z | z
      · omega
      · exact (h.1 _ z).2.1
    have c2 : high n < 2560 := by
      rcases g5 with z | z
      · omega
      · exact (h.1 _ z).2.1
    have b1 := dpt_le o (D (low n))
    have b2 := dpt_le o (D (high n))
    have b3 := dpt_le o (D n)
    have hnode : dpt o (D n) = 1 + max (dpt o (D (low n))) (dpt o (D (high n))) := gK_node h hal
    have N2 := NN_sI (r := 14) N1 (i := n) (x := dpt o (D n)) (by omega) (by omega)
    have F2 := Fr_sI s1 14 (nI n) (nI (dpt o (D n)))
    have p2 : ∀ m, v 14 (sI 14 s1 (nI n) (nI (dpt o (D n)))) m = if m = n then dpt o (D n) else v 14 s1 m := fun m => by
      rw [v_sI (by omega) (by omega)]
      by_cases e : m = n
      · rw [if_pos ⟨rfl, e⟩, if_pos e]
      · rw [if_neg (fun z => e z.2), if_neg e]
    refine ⟨sI 14 s1 (nI n) (nI (dpt o (D n))), ?_, N2, F1.trans F2, k1, ?_, ?_, fun m hm => ?_⟩
    · rw [e1, hq, sX0_longestPath_L23, if_neg (by rw [nI_leE (by omega) (by omega)]; omega), gd_in (by omega) (by omega), gI_v N1 (by decide) (by omega), y15, lt_e, lowOf_ok N1 g2, ob_s, lo9_eq g1, y9, valueOf_ok N1 c1, ob_s, highOf_ok N1 g2, ob_s, hi10_eq g1, y10, valueOf_ok N1 c2, ob_s, val _ hlo, val _ hhi, imax_nI (by omega) (by omega), n_1, nI_addE, ← hnode, setValue_ok g1 g2, ob_s, nI_addE, lt_e, List.length_cons, show fu - (t.length + 1) = q by omega]
    · rw [p2, if_neg (by omega), a0]
    · rw [p2, if_neg (by omega), a1]
    · rw [p2]
      rcases List.mem_cons.mp hm with e | z
      · rw [if_pos e, e]
      · rw [if_neg (fun e => hnt (by rw [← e]; exact z))]
        exact am m z
end VL_dpt
theorem longestPath_ok {S : List Fn} {o : Nat → Nat} {st : St} {B a : Nat} (h : OS S o st) (hs : SI B st) (hB : B < 2000000000) (ha : a < 12) :
    ∃ st', sX0_longestPath st (nI a) = some (nI (dpt o (sl S a)), st') ∧ OS S o st' ∧ FQ st st' ∧ SI (B + 1) st' := by
  obtain ⟨al, D, G, rfl⟩ := h
  obtain ⟨s1, R, e1, hl, hR, hL, hO, hr, f1, -, N1, S1⟩ := from_G G hs hB ha ha
  have hD := G.2.1
  have y9 : v 9 s1 = v 9 st := f1.1.vE (by decide)
  have y10 : v 10 s1 = v 10 st := f1.1.vE (by decide)
  have N2 := NN_sI (r := 14) N1 (i := 0) (x := 0) (by omega) (by omega)
  have N3 := NN_sI (r := 14) N2 (i := 1) (x := 0) (by omega) (by omega)
  have F2 := Fr_sI s1 14 (nI 0) (nI 0)
  have F3 := Fr_sI (sI 14 s1 (nI 0) (nI 0)) 14 (nI 1) (nI 0)
  have F23 : Fr [14] s1 (sI 14 (sI 14 s1 (nI 0) (nI 0)) (nI 1) (nI 0)) := F2.trans F3
  have z0 : v 14 (sI 14 (sI 14 s1 (nI 0) (nI 0)) (nI 1) (nI 0)) 0 = 0 := by
    rw [v_sI (by omega) (by omega), if_neg (by omega), v_sI (by omega) (by omega), if_pos ⟨rfl, rfl⟩]
  have z1 : v 14 (sI 14 (sI 14 s1 (nI 0) (nI 0)) (nI 1) (nI 0)) 1 = 0 := by
    rw [v_sI (by omega) (by omega), if_pos ⟨rfl, rfl⟩]
  obtain ⟨s4, e4, N4, F4, k4, a0, a1, am⟩ := dptvals hD (x1 := nI a) hR R (sI 14 (sI 14 s1 (nI 0) (nI 0)) (nI 1) (nI 0)) N3 ((F23.vE (by decide)).trans y9) ((F23.vE (by decide)).trans y10) hO (LSr_same (fun j _ => by rw [F23.vE (by decide)]) hL) (Nat.le_refl _) z0 z1 FU (by show _ < 4000; omega)
  have FF : FQ s1 s4 := ⟨(F23.trans F4).mono (by intro q hq; simp at hq ⊢; omega), fun k h1 h2 => by rw [k4]; rfl⟩
  have y5 : v 5 s4 = v 5 st := (FF.1.vE (by decide)).trans (f1.1.vE (by decide))
  have hc := G.1.1.2.2.2.2.2.2 a ha
  have hc2 : v 5 st a < 2560 := by
    rcases hc with z | z
    · omega
    · exact (hD.1 _ z).2.1
  have val : v 14 s4 (v 5 st a) = dpt o (D (v 5 st a)) := by
    rcases hr with z | z
    · have := gK_const (comb := (fun a b => 1 + max a b)) (one := 0) hD z
      rw [show dpt o (D (v 5 st a)) = _ from this]
      by_cases e : v 5 st a = 1
      · rw [e, a1, if_pos rfl]
      · rw [show v 5 st a = 0 by omega, a0, if_neg (by omega)]
    · exact am _ z
  obtain ⟨q, hq⟩ : ∃ q, FU - R.length = q + 1 := ⟨FU - R.length - 1, by have : FU = 4000 := rfl; omega⟩
  obtain ⟨G', hF⟩ := GD_FQ G (f1.trans FF) N4
  refine ⟨s4, ?_, ⟨al, D, G', hF⟩, f1.trans FF, ?_⟩
  · unfold sX0_longestPath
    rw [e1, ob2_s, n_1, n_0, gd_in (by omega) (by omega), lt_e, gd_in (by omega) (by omega), lt_e, e4, hq, sX0_longestPath_L23, if_pos (by rw [nI_leE (by omega) (by omega)]; omega), ob_s, gd_in ha (by omega), gI_v N4 (by decide) (by omega), y5, valueOf_ok N4 hc2, ob_s, val, sl_FS ha]
  · have y13 : v 13 s4 = v 13 s1 := (F4.vE (by decide)).trans (F23.vE (by decide))
    have y2 : fv 2 s4 = fv 2 s1 := by unfold fv; rw [k4]; rfl
    unfold SI
    rw [y13, y2]
    exact S1
