/-! turn -/
theorem cofs_congr {S : List Fn} {o o' : Nat → Nat} : ∀ L, (∀ i, i < L → o i = o' i) → cofs S o L = cofs S o' L
  | 0, _ => rfl
  | L + 1, h => by
    show (cofs S o L).flatMap (fun g => [co (o L) false g, co (o L) true g]) = (cofs S o' L).flatMap (fun g => [co (o' L) false g, co (o' L) true g])
    rw [cofs_congr L (fun i hi => h i (by omega)), h L (by omega)]
/-- children written into a node that isn't linked -/
theorem BM_kids {st : St} {al lk : Nat → Bool} {n a b : Nat} (B : BM st al lk) (hn : al n = true) (hk : lk n = false) (ha : ch al a) (hb : ch al b) : BM (sI 10 (sI 9 st (nI n) (nI a)) (nI n) (nI b)) al lk := by
  obtain ⟨hN, ⟨c, hc⟩, hF, ⟨hc1, hc2⟩, hS⟩ := id B
  obtain ⟨g1, g2, g3, g4, g5⟩ := hS.2.1 n hn
  have a1 := ch_lt hS ha
  have b1 := ch_lt hS hb
  have N1 := NN_sI (r := 9) hN (i := n) (x := a) (by omega) (by omega)
  have N2 := NN_sI (r := 10) N1 (i := n) (x := b) (by omega) (by omega)
  have V : ∀ r m, v r (sI 10 (sI 9 st (nI n) (nI a)) (nI n) (nI b)) m = if r = 10 ∧ m = n then b else if r = 9 ∧ m = n then a else v r st m := fun r m => by
    rw [v_sI (by omega) (by omega), v_sI (by omega) (by omega)]
  have hfv : ∀ k, fv k (sI 10 (sI 9 st (nI n) (nI a)) (nI n) (nI b)) = fv k st := fun k => by rw [fv_sI, fv_sI]
  generalize sI 10 (sI 9 st (nI n) (nI a)) (nI n) (nI b) = s1 at N2 V hfv ⊢
  have E : ∀ r, r ≠ 9 → r ≠ 10 → v r s1 = v r st := fun r h1 h2 => by
    funext m
    rw [V, if_neg (fun z => h2 z.1), if_neg (fun z => h1 z.1)]
  have ne : ∀ m, lk m = true → m ≠ n := fun m hm z => by rw [z, hk] at hm; cases hm
  have hbk : ∀ m, m ≠ n → bk s1 m = bk st m := fun m hm => by
    unfold bk
    rw [E 8 (by decide) (by decide), V, V, if_neg (fun z => hm z.2), if_neg (fun z => hm z.2), if_neg (fun z => hm z.2), if_neg (fun z => hm z.2)]
  refine ⟨N2, ⟨c, fun j hj => ?_⟩, FR_same hF (E 11 (by decide) (by decide)) (hfv 0), ⟨fun l hl => ?_, by rw [hfv]; exact hc2⟩, hS.1, fun m hm => ?_, by rw [E 5 (by decide) (by decide)]; exact hS.2.2⟩
  · rw [E 7 (by decide) (by decide), E 11 (by decide) (by decide)]
    refine ⟨(hc j hj).1, fun m => ?_⟩
    rw [(hc j hj).2 m]
    constructor
    · intro z
      exact ⟨z.1, by rw [hbk m (ne m z.1)]; exact z.2⟩
    · intro z
      exact ⟨z.1, by rw [← hbk m (ne m z.1)]; exact z.2⟩
  · rw [E 6 (by decide) (by decide), E 8 (by decide) (by decide)]
    exact hc1 l hl
  · obtain ⟨q1, q2, q3, q4, q5⟩ := hS.2.1 m hm
    rw [E 8 (by decide) (by decide), V, V]
    refine ⟨q1, q2, q3, ?_, ?_⟩
    · rw [if_neg (by omega)]
      split
      · exact ha
      · exact q4
    · split
      · exact hb
      · rw [if_neg (by omega)]
        exact q5
theorem cnt_upd {al : Nat → Bool} {n m : Nat} {w w' : Nat → Nat} (hn : n < 2560) (hal : al n = true) (hw : ∀ i, i ≠ n → w' i = w i) : cnt 2560 (fun i => al i && (w' i == m)) + (if w n = m then 1 else 0) = cnt 2560 (fun i => al i && (w i == m)) + (if w' n = m then 1 else 0) := by
  rw [cnt_gone (al := al) (w := w) hn hal, cnt_gone (al := al) (w := w') hn hal]
  have : cnt 2560 (fun i => setB al n false i && (w' i == m)) = cnt 2560 (fun i => setB al n false i && (w i == m)) := cnt_congr (fun i _ => by
    by_cases e : i = n
    · rw [e, setB_self, Bool.false_and, Bool.false_and]
    · rw [hw i e])
  omega
theorem point_ch {st : St} {al lk : Nat → Bool} {hold : Nat → Nat} {n : Nat} (hN : NN st) (hS : SH st al lk) (hc : ch al n) (hx : ∀ m, al m = true → v 12 st m < 100000) : ∃ st', sX0_point st (nI n) = some st' ∧ NN st' ∧ Fr [12] st st' ∧ st'.2.2 = st.2.2 ∧ ∀ m, v 12 st' m = if m = n ∧ 2 ≤ n then v 12 st n + 1 else v 12 st m := by
  have h1 := ch_lt hS hc
  by_cases h2 : n < 2
  · refine ⟨st, ?_, hN, Fr.refl _ _, rfl, fun m => by rw [if_neg (by omega)]⟩
    unfold sX0_point
    rw [isNode_ok st (by omega), if_neg (by omega), ob_s, if_pos n_0.symm]
  · exact point_ok hN h1 (hx n (hc.resolve_left h2))
section XIT
variable {al0 : Nat → Bool} {lev0 : Nat → Nat} {D0 : Nat → Fn} {o : Nat → Nat} {u : Nat} {rs : List Nat} {S : List Fn} {st : St} {al lk nw : Nat → Bool} {D : Nat → Fn} {ex : List Nat}
theorem XI_half (K : XK al0 lev0 D0 o u rs S) (X : XI al0 lev0 D0 o u rs S st al lk nw D ex) {c : Nat} (hc : dp al0 lev0 u c ∨ c ∈ rs) (b : Bool) : dp al0 lev0 u (hfN st u b c) ∧ D0 (hfN st u b c) = co (o (u + 1)) b (D0 c) ∧ (dp al0 lev0 u c → hfN st u b c = c) := by
  have deep : dp al0 lev0 u c → hfN st u b c = c := fun h => by
    have := (XI_dp K X h).2.2.2
    unfold hfN
    rw [if_neg (by omega)]
  obtain ⟨x1, x2, x3, x4, x6, x7, x8, x9, x10, x11, x12⟩ := id X
  obtain ⟨k1, k2, k3, k4, k5, k6, k7, k8, k9, k10⟩ := id K
  rcases hc with h | h
  · rw [deep h]
    exact ⟨h, ((k4 c h).2 b).symm, fun _ => rfl⟩
  · refine ⟨?_, ?_, deep⟩
    all_goals
      obtain ⟨y1, y2, y3, y4, y5⟩ := x9 c h
      have hal := x1.1.2.2.2.2.1 c y2
      have h2 := (x1.1.2.2.2.2.2.1 c hal).1
      have hl : lv8 st c = u := by
        unfold lv8 lvl
        rw [if_neg (by omega), y3]
      have e9 : lo9 st c = v 9 st c := if_neg (by omega)
      have e10 : hi10 st c = v 10 st c := if_neg (by omega)
      unfold hfN
      rw [if_pos hl, e9, e10]
    · cases b
      · exact y4
      · exact y5
    · have e := (x6 c y2).2.2.2
      rw [y3, osw_u, (x3 c y1).2, (XI_dp K X y4).1, (XI_dp K X y5).1] at e
      rw [e, co_mux_of (k4 _ y4).2 (k4 _ y5).2]
      cases b <;> rfl
theorem XI_pend (K : XK al0 lev0 D0 o u rs S) (X : XI al0 lev0 D0 o u rs S st al lk nw D ex) {n : Nat} (hn : al n = true) (hk : lk n = false) : D n = D0 n ∧ D0 n = mux (o u) (D0 (v 9 st n)) (D0 (v 10 st n)) ∧ v 9 st n ≠ v 10 st n ∧ ¬ indep (D0 n) (o (u + 1)) ∧ D0 n ∈ cofs S (osw o u) u := by
  obtain ⟨x1, x2, x3, x4, x6, x7, x8, x9, x10, x11, x12⟩ := id X
  obtain ⟨k1, k2, k3, k4, k5, k6, k7, k8, k9, k10⟩ := id K
  obtain ⟨y1, y2, y3, y4, y5, y6, y7⟩ := x8 n hn hk
  have dn := (x3 n y2).2
  have dk : ∀ c, dp al0 lev0 u c ∨ c ∈ rs → D c = D0 c := fun c hc => by
    rcases hc with h | h
    · exact (XI_dp K X h).1
    · exact (x3 c (x9 c h).1).2
  have iu : ∀ c, dp al0 lev0 u c ∨ c ∈ rs → indep (D0 c) (o u) := fun c hc => by
    rcases hc with h | h
    · exact (k4 c h).1
    · exact (k5 c h).1
  have e : D0 n = mux (o u) (D0 (v 9 st n)) (D0 (v 10 st n)) := by rw [← dn, y7, dk _ y4, dk _ y5]
  -- one child at least is a raised one
  have hr : v 9 st n ∈ rs ∨ v 10 st n ∈ rs := by
    apply Classical.byContradiction
    intro hno
    apply y6
    have f : ∀ c, dp al0 lev0 u c ∨ c ∈ rs → c ∉ rs → lv8 st c ≠ u := fun c hc hcn => by
      have := (XI_dp K X (hc.resolve_right hcn)).2.2.2
      omega
    exact ⟨f _ y4 (fun z => hno (Or.inl z)), f _ y5 (fun z => hno (Or.inr z))⟩
  refine ⟨dn, e, fun z => ?_, fun hi => ?_, ?_⟩
  · have hc : v 9 st n ∈ rs := by
      rcases hr with h | h
      · exact h
      · rw [z]; exact h
    rw [← z, mux_same] at e
    have h9 := x9 _ hc
    have := k1 n (v 9 st n) (Or.inr y2) (Or.inr h9.1) e
    rw [← this, hk] at h9
    exact absurd h9.2.1 (by decide)
  · have f : ∀ b, indep (co (o u) b (D0 n)) (o (u + 1)) := fun b => indep_co_of hi
    have f0 := f false
    have f1 := f true
    rw [e, co_mux_of (iu _ y4) (iu _ y5)] at f0 f1
    rcases hr with h | h
    · exact (k5 _ h).2 (by simpa using f0)
    · exact (k5 _ h).2 (by simpa using f1)
  · rw [cofs_congr (o := osw o u) (o' := o) u (fun i hi => osw_ne (by omega) (by omega))]
    exact k6 n y2 y3
end XIT
