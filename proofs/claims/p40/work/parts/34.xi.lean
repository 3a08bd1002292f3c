/-! WITHIN exchangeAt, while the upper nodes are turned: what holds of the half-made diagram -/
theorem mux_same (w : Nat) (f : Fn) : mux w f f = f := by
  funext x
  unfold mux
  split <;> rfl
def osw (o : Nat → Nat) (u : Nat) : Nat → Nat := fun i => if i = u then o (u + 1) else if i = u + 1 then o u else o i
theorem osw_u (o : Nat → Nat) (u : Nat) : osw o u u = o (u + 1) := if_pos rfl
theorem osw_l (o : Nat → Nat) (u : Nat) : osw o u (u + 1) = o u := by
  unfold osw
  rw [if_neg (by omega), if_pos rfl]
theorem osw_ne {o : Nat → Nat} {u i : Nat} (h1 : i ≠ u) (h2 : i ≠ u + 1) : osw o u i = o i := by
  unfold osw
  rw [if_neg h1, if_neg h2]
def hR (rs : List Nat) : Nat → Nat := fun m => if m ∈ rs then 1 else 0
/-- const, or an old node below both levels -/
def dp (al0 : Nat → Bool) (lev0 : Nat → Nat) (u c : Nat) : Prop := c < 2 ∨ (al0 c = true ∧ u + 1 < lev0 c)
/-- what is known of the old diagram -/
def XK (al0 : Nat → Bool) (lev0 : Nat → Nat) (D0 : Nat → Fn) (o : Nat → Nat) (u : Nat) (rs : List Nat) (S : List Fn) : Prop :=
  (∀ a b, ch al0 a → ch al0 b → D0 a = D0 b → a = b) ∧ D0 0 = cst false ∧ D0 1 = cst true ∧ (∀ c, dp al0 lev0 u c → indep (D0 c) (o u) ∧ indep (D0 c) (o (u + 1))) ∧ (∀ c, c ∈ rs → indep (D0 c) (o u) ∧ ¬ indep (D0 c) (o (u + 1))) ∧ (∀ n, al0 n = true → lev0 n = u → D0 n ∈ cofs S o u) ∧ o u ≠ o (u + 1) ∧ u + 1 < 10 ∧ cnt 2560 al0 ≤ 1778 ∧ nAt S (osw o u) (u + 1) ≤ 768
def XI (al0 : Nat → Bool) (lev0 : Nat → Nat) (D0 : Nat → Fn) (o : Nat → Nat) (u : Nat) (rs : List Nat) (S : List Fn) (st : St) (al lk nw : Nat → Bool) (D : Nat → Fn) (ex : List Nat) : Prop :=
  BI st al lk (hR rs) ∧ (∀ n, al n = true ↔ al0 n = true ∨ nw n = true) ∧ (∀ n, al0 n = true → nw n = false ∧ D n = D0 n) ∧ (D 0 = cst false ∧ D 1 = cst true) ∧
  (∀ n, lk n = true → v 8 st n < lv8 st (v 9 st n) ∧ v 8 st n < lv8 st (v 10 st n) ∧ v 9 st n ≠ v 10 st n ∧ D n = mux (osw o u (v 8 st n)) (D (v 9 st n)) (D (v 10 st n))) ∧
  (∀ n m, lk n = true → lk m = true → v 8 st n = v 8 st m → v 9 st n = v 9 st m → v 10 st n = v 10 st m → n = m) ∧
  (∀ n, al n = true → lk n = false → v 8 st n = u ∧ al0 n = true ∧ lev0 n = u ∧ (dp al0 lev0 u (v 9 st n) ∨ v 9 st n ∈ rs) ∧ (dp al0 lev0 u (v 10 st n) ∨ v 10 st n ∈ rs) ∧ ¬ isFree st u n ∧ D n = mux (o u) (D (v 9 st n)) (D (v 10 st n))) ∧
  (∀ n, n ∈ rs → al0 n = true ∧ lk n = true ∧ v 8 st n = u ∧ dp al0 lev0 u (v 9 st n) ∧ dp al0 lev0 u (v 10 st n)) ∧
  (∀ n, nw n = true → lk n = true ∧ v 8 st n = u + 1 ∧ D n ∈ nodL S (osw o u) (u + 1) ∧ dp al0 lev0 u (v 9 st n) ∧ dp al0 lev0 u (v 10 st n)) ∧
  (∀ c, al0 c = true → u + 1 < lev0 c → v 8 st c = lev0 c ∧ lk c = true) ∧ ∀ n, al n = true → n ∉ ex → 0 < v 12 st n
section XIS
variable {al0 : Nat → Bool} {lev0 : Nat → Nat} {D0 : Nat → Fn} {o : Nat → Nat} {u : Nat} {rs : List Nat} {S : List Fn} {st : St} {al lk nw : Nat → Bool} {D : Nat → Fn} {ex : List Nat}
theorem XI_dp (K : XK al0 lev0 D0 o u rs S) (X : XI al0 lev0 D0 o u rs S st al lk nw D ex) {c : Nat} (hc : dp al0 lev0 u c) : D c = D0 c ∧ ch al c ∧ ch al0 c ∧ u + 1 < lv8 st c := by
  obtain ⟨x1, x2, x3, ⟨x4, x5⟩, x6, x7, x8, x9, x10, x11, x12⟩ := X
  obtain ⟨k1, k2, k3, k4, k5, k6, k7, k8, k9, k10⟩ := K
  rcases hc with q | ⟨q1, q2⟩
  · refine ⟨?_, Or.inl q, Or.inl q, ?_⟩
    · rcases (show c = 0 ∨ c = 1 by omega) with rfl | rfl
      · rw [x4, k2]
      · rw [x5, k3]
    · unfold lv8 lvl
      rw [if_pos q]
      omega
  · refine ⟨(x3 c q1).2, Or.inr ((x2 c).mpr (Or.inl q1)), Or.inr q1, ?_⟩
    have h2 := (x1.1.2.2.2.2.2.1 c ((x2 c).mpr (Or.inl q1))).1
    unfold lv8 lvl
    rw [if_neg (by omega), (x11 c q1 q2).1]
    exact q2
theorem XI_nw_inj (K : XK al0 lev0 D0 o u rs S) (X : XI al0 lev0 D0 o u rs S st al lk nw D ex) {a b : Nat} (ha : nw a = true) (hb : nw b = true) (e : D a = D b) : a = b := by
  obtain ⟨x1, x2, x3, x4, x6, x7, x8, x9, x10, x11, x12⟩ := id X
  obtain ⟨k1, k2, k3, k4, k5, k6, k7, k8, k9, k10⟩ := id K
  obtain ⟨a1, a2, a3, a4, a5⟩ := x10 a ha
  obtain ⟨b1, b2, b3, b4, b5⟩ := x10 b hb
  have ea := (x6 a a1).2.2.2
  have eb := (x6 b b1).2.2.2
  have p := fun c (hc : dp al0 lev0 u c) => XI_dp K X hc
  rw [a2, osw_l, (p _ a4).1, (p _ a5).1] at ea
  rw [b2, osw_l, (p _ b4).1, (p _ b5).1] at eb
  obtain ⟨e1, e2⟩ := mux_inj (k4 _ a4).1 (k4 _ a5).1 (k4 _ b4).1 (k4 _ b5).1 (ea.symm.trans (e.trans eb))
  exact x7 a b a1 b1 (a2.trans b2.symm) (k1 _ _ (p _ a4).2.2.1 (p _ b4).2.2.1 e1) (k1 _ _ (p _ a5).2.2.1 (p _ b5).2.2.1 e2)
theorem XI_free (K : XK al0 lev0 D0 o u rs S) (X : XI al0 lev0 D0 o u rs S st al lk nw D ex) : cnt 2560 al < 2558 := by
  obtain ⟨x1, x2, x3, x4, x6, x7, x8, x9, x10, x11, x12⟩ := id X
  obtain ⟨k1, k2, k3, k4, k5, k6, k7, k8, k9, k10⟩ := id K
  have h1 := cnt_split 2560 al al0
  have h2 : cnt 2560 (fun i => al i && al0 i) ≤ cnt 2560 al0 := cnt_mono (fun i _ h => by
    cases q : al0 i
    · rw [q] at h; simp at h
    · rfl)
  have h3 : cnt 2560 (fun i => al i && !al0 i) ≤ cnt 2560 nw := cnt_mono (fun i _ h => by
    simp at h
    rcases (x2 i).mp h.1 with q | q
    · rw [h.2] at q; cases q
    · exact q)
  have h4 : cnt 2560 nw ≤ nAt S (osw o u) (u + 1) := by
    obtain ⟨m', g1, g2, g3⟩ := dcount_rep (fun x : Fn => x) (nodL S (osw o u) (u + 1))
    unfold nAt
    rw [← g3, ← cnt_filter]
    have hm : (((List.range 2560).filter nw).map D).Nodup := nodup_map ((range_nodup 2560).filter _) (fun a b ha hb e => XI_nw_inj K X (List.mem_filter.mp ha).2 (List.mem_filter.mp hb).2 e)
    have := nodup_le hm (fun f hf => (g2 f).mpr (by
      obtain ⟨n, hn, rfl⟩ := List.mem_map.mp hf
      exact (x10 n (List.mem_filter.mp hn).2).2.2.1))
    rwa [List.length_map] at this
  omega
/-- make, at the lower level, of two deep ones -/
theorem XI_make (K : XK al0 lev0 D0 o u rs S) (X : XI al0 lev0 D0 o u rs S st al lk nw D ex) {a b : Nat} (ha : dp al0 lev0 u a) (hb : dp al0 lev0 u b) (hg : mux (o u) (D0 a) (D0 b) ∈ cofs S (osw o u) (u + 1)) :
    ∃ (r : Nat) (st' : St) (al' lk' nw' : Nat → Bool) (D' : Nat → Fn) (ex' : List Nat), sX0_make st (nI (u + 1)) (nI a) (nI b) = some (nI r, st') ∧ XI al0 lev0 D0 o u rs S st' al' lk' nw' D' ex' ∧ ch al' r ∧ D' r = mux (o u) (D0 a) (D0 b) ∧ u < lv8 st' r ∧ (∀ m, al m = true → al' m = true ∧ lk' m = lk m ∧ D' m = D m ∧ v 8 st' m = v 8 st m ∧ v 9 st' m = v 9 st m ∧ v 10 st' m = v 10 st m) ∧ (∀ m, m ∈ ex' → m ∈ ex ∨ m = r) ∧ (∀ m, al0 m = true → v 12 st m ≤ v 12 st' m) ∧ ((r = a ∧ r = b) ∨ (al' r = true ∧ v 9 st' r = a ∧ v 10 st' r = b)) ∧ Fr [6, 7, 8, 9, 10, 11, 12] st st' ∧ ∀ k, k ≠ 0 → k ≠ 1 → st'.2.2 k = st.2.2 k := by
  have hfree := XI_free K X
  obtain ⟨x1, x2, x3, x4, x6, x7, x8, x9, x10, x11, x12⟩ := id X
  obtain ⟨k1, k2, k3, k4, k5, k6, k7, k8, k9, k10⟩ := id K
  obtain ⟨pa1, pa2, pa3, pa4⟩ := XI_dp K X ha
  obtain ⟨pb1, pb2, pb3, pb4⟩ := XI_dp K X hb
  obtain ⟨r, st', e1, hm⟩ := make_ok (l := u + 1) (lo := a) (hi := b) x1 (by omega) pa2 pb2 hfree
  rcases hm with ⟨rfl, rfl, rfl⟩ | ⟨h1, h2, h3, h4, h5, rfl⟩ | ⟨h1, h2, h3, h4, h5, h6, h7, h8, h9, h10, h11, h12⟩
  · refine ⟨r, st', al, lk, nw, D, ex, e1, X, pa2, by rw [pa1, mux_same], by omega, fun m hm => ⟨hm, rfl, rfl, rfl, rfl, rfl⟩, fun m hm => Or.inl hm, fun m _ => Nat.le_refl _, Or.inl ⟨rfl, rfl⟩, Fr.refl _ _, fun _ _ _ => rfl⟩
  · have hr := x1.1.2.2.2.2.1 r h2
    have h2r := (x1.1.2.2.2.2.2.1 r hr).1
    refine ⟨r, st', al, lk, nw, D, ex, e1, X, Or.inr hr, ?_, ?_, fun m hm => ⟨hm, rfl, rfl, rfl, rfl, rfl⟩, fun m hm => Or.inl hm, fun m _ => Nat.le_refl _, Or.inr ⟨hr, h4, h5⟩, Fr.refl _ _, fun _ _ _ => rfl⟩
    · have := (x6 r h2).2.2.2
      rw [h3, h4, h5, osw_l, pa1, pb1] at this
      exact this
    · unfold lv8 lvl
      rw [if_neg (by omega), h3]
      omega
  · have ne : ∀ m, al m = true → m ≠ r := fun m hm z => by rw [z, h3] at hm; cases hm
    have nel : ∀ m, lk m = true → m ≠ r := fun m hm => ne m (x1.1.2.2.2.2.1 m hm)
    have nec : ∀ c, ch al c → c ≠ r := fun c hc z => by
      rcases hc with q | q
      · omega
      · exact ne c q z
    have hr0 : al0 r = false := by
      cases q : al0 r
      · rfl
      · rw [(x2 r).mpr (Or.inl q)] at h3; cases h3
    have hrs : r ∉ rs := fun z => by rw [(x9 r z).1] at hr0; cases hr0
    have hH : newH (hR rs) r = hR rs := by
      funext m
      unfold newH hR
      by_cases e : m = r
      · rw [if_pos e, e, if_neg hrs]
      · rw [if_neg e]
    rw [hH] at h6
    have lv : ∀ c, ch al c → lv8 st' c = lv8 st c := fun c hc => by
      unfold lv8 lvl
      rw [(h10 c (nec c hc)).1]
    have Dn : ∀ c, c ≠ r → (fun m => if m = r then mux (o u) (D0 a) (D0 b) else D m) c = D c := fun c hc => if_neg hc
    have Dr : (fun m => if m = r then mux (o u) (D0 a) (D0 b) else D m) r = mux (o u) (D0 a) (D0 b) := if_pos rfl
    generalize hD' : (fun m => if m = r then mux (o u) (D0 a) (D0 b) else D m) = D' at Dn Dr
    have sh := x1.1.2.2.2.2.2.1
    have dpn : ∀ c, dp al0 lev0 u c → ch al c := fun c hc => (XI_dp K X hc).2.1
    have s6 := h6.1.2.2.2.2
    refine ⟨r, st', setB al r true, setB lk r true, setB nw r true, D', r :: ex, e1, ⟨h6, fun m => ?_, fun m hm => ?_, ⟨?_, ?_⟩, fun m hm => ?_, fun m m' hm hm' q1 q2 q3 => ?_, fun m hm hml => ?_, fun m hm => ?_, fun m hm => ?_, fun c hc hc2 => ?_, fun m hm hme => ?_⟩, Or.inr (setB_self _ _ _), Dr, ?_, fun m hm => ?_, fun m hm => ?_, fun m hm => ?_, Or.inr ⟨setB_self _ _ _, h8, h9⟩, h11, h12⟩
    · by_cases e : m = r
      · rw [e, setB_self, setB_self]; simp
      · rw [setB_ne _ _ e, setB_ne _ _ e]
        exact x2 m
    · have e : m ≠ r := fun z => by rw [z, hr0] at hm; cases hm
      rw [setB_ne _ _ e, Dn m e]
      exact x3 m hm
    · rw [Dn 0 (by omega)]; exact x4.1
    · rw [Dn 1 (by omega)]; exact x4.2
    · by_cases e : m = r
      · subst e
        rw [h7, h8, h9, lv a pa2, lv b pb2, Dr, osw_l, Dn a (nec a pa2), Dn b (nec b pb2), pa1, pb1]
        exact ⟨pa4, pb4, h1, rfl⟩
      · rw [setB_ne _ _ e] at hm
        obtain ⟨y1, y2, y3, y4⟩ := x6 m hm
        obtain ⟨z1, z2, z3⟩ := h10 m e
        obtain ⟨w1, w2, w3, w4, w5⟩ := sh m (x1.1.2.2.2.2.1 m hm)
        rw [z1, z2, z3, lv _ w4, lv _ w5, Dn m e, Dn _ (nec _ w4), Dn _ (nec _ w5)]
        exact ⟨y1, y2, y3, y4⟩
    · by_cases e : m = r
      · by_cases e' : m' = r
        · rw [e, e']
        · rw [setB_ne _ _ e'] at hm'
          obtain ⟨z1, z2, z3⟩ := h10 m' e'
          rw [e, h7, z1] at q1
          rw [e, h8, z2] at q2
          rw [e, h9, z3] at q3
          exact (h2 m' hm' q1.symm q2.symm q3.symm).elim
      · rw [setB_ne _ _ e] at hm
        obtain ⟨z1, z2, z3⟩ := h10 m e
        by_cases e' : m' = r
        · rw [e', h7, z1] at q1
          rw [e', h8, z2] at q2
          rw [e', h9, z3] at q3
          exact (h2 m hm q1 q2 q3).elim
        · rw [setB_ne _ _ e'] at hm'
          obtain ⟨y1, y2, y3⟩ := h10 m' e'
          exact x7 m m' hm hm' (by rw [← z1, ← y1]; exact q1) (by rw [← z2, ← y2]; exact q2) (by rw [← z3, ← y3]; exact q3)
    · have e : m ≠ r := fun z => by rw [z, setB_self] at hml; cases hml
      rw [setB_ne _ _ e] at hm hml
      obtain ⟨y1, y2, y3, y4, y5, y6, y7⟩ := x8 m hm hml
      obtain ⟨z1, z2, z3⟩ := h10 m e
      obtain ⟨w1, w2, w3, w4, w5⟩ := sh m hm
      unfold isFree
      rw [z1, z2, z3, lv _ w4, lv _ w5, Dn m e, Dn _ (nec _ w4), Dn _ (nec _ w5)]
      exact ⟨y1, y2, y3, y4, y5, y6, y7⟩
    · obtain ⟨y1, y2, y3, y4, y5⟩ := x9 m hm
      have e := nel m y2
      obtain ⟨z1, z2, z3⟩ := h10 m e
      rw [setB_ne _ _ e, z1, z2, z3]
      exact ⟨y1, y2, y3, y4, y5⟩
    · by_cases e : m = r
      · subst e
        rw [setB_self, h7, h8, h9, Dr]
        refine ⟨rfl, rfl, mem_nodL.mpr ⟨hg, ?_⟩, ha, hb⟩
        rw [osw_l]
        intro hi
        have f1 := hi false
        have f2 := hi true
        rw [co_mux_of (k4 a ha).1 (k4 b hb).1] at f1 f2
        have f3 : D0 a = D0 b := by simpa using f1.trans f2.symm
        exact h1 (k1 a b pa3 pb3 f3)
      · rw [setB_ne _ _ e] at hm
        obtain ⟨y1, y2, y3, y4, y5⟩ := x10 m hm
        obtain ⟨z1, z2, z3⟩ := h10 m e
        rw [setB_ne _ _ e, z1, z2, z3, Dn m e]
        exact ⟨y1, y2, y3, y4, y5⟩
    · obtain ⟨y1, y2⟩ := x11 c hc hc2
      have e := nel c y2
      rw [(h10 c e).1, setB_ne _ _ e]
      exact ⟨y1, y2⟩
    · have e : m ≠ r := fun z => hme (by rw [z]; exact List.mem_cons_self)
      rw [setB_ne _ _ e] at hm
      have y := x12 m hm (fun z => hme (List.mem_cons_of_mem _ z))
      have P := h6.2.1 m (by rw [setB_ne _ _ e]; exact hm)
      have P0 := x1.2.1 m hm
      have hge : refs st al m ≤ refs st' (setB al r true) m := by
        unfold refs
        have c1 : cnt 2560 (fun i => al i && (v 9 st i == m)) ≤ cnt 2560 (fun i => setB al r true i && (v 9 st' i == m)) := cnt_mono (fun i _ h => by
          simp at h
          have ei := ne i h.1
          rw [setB_ne _ _ ei, (h10 i ei).2.1]
          simp [h.1, h.2])
        have c2 : cnt 2560 (fun i => al i && (v 10 st i == m)) ≤ cnt 2560 (fun i => setB al r true i && (v 10 st' i == m)) := cnt_mono (fun i _ h => by
          simp at h
          have ei := ne i h.1
          rw [setB_ne _ _ ei, (h10 i ei).2.2]
          simp [h.1, h.2])
        rw [h11.vE (r := 5) (by decide)]
        omega
      omega
    · have h2r : 2 ≤ r := h4
      unfold lv8 lvl
      rw [if_neg (by omega), h7]
      omega
    · have e := ne m hm
      obtain ⟨z1, z2, z3⟩ := h10 m e
      rw [setB_ne _ _ e, setB_ne _ _ e, Dn m e]
      exact ⟨hm, rfl, rfl, z1, z2, z3⟩
    · rcases List.mem_cons.mp hm with q | q
      · exact Or.inr q
      · exact Or.inl q
    · have hal := (x2 m).mpr (Or.inl hm)
      have e := ne m hal
      have P := h6.2.1 m (by rw [setB_ne _ _ e]; exact hal)
      have P0 := x1.2.1 m hal
      have hge : refs st al m ≤ refs st' (setB al r true) m := by
        unfold refs
        have c1 : cnt 2560 (fun i => al i && (v 9 st i == m)) ≤ cnt 2560 (fun i => setB al r true i && (v 9 st' i == m)) := cnt_mono (fun i _ h => by
          simp at h
          have ei := ne i h.1
          rw [setB_ne _ _ ei, (h10 i ei).2.1]
          simp [h.1, h.2])
        have c2 : cnt 2560 (fun i => al i && (v 10 st i == m)) ≤ cnt 2560 (fun i => setB al r true i && (v 10 st' i == m)) := cnt_mono (fun i _ h => by
          simp at h
          have ei := ne i h.1
          rw [setB_ne _ _ ei, (h10 i ei).2.2]
          simp [h.1, h.2])
        rw [h11.vE (r := 5) (by decide)]
        omega
      omega
end XIS
