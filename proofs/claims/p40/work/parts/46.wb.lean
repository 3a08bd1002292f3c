/-! BUILDING: the diagram while nodes are made -/
section CAP
variable {al : Nat → Bool} {lev low high o : Nat → Nat} {D : Nat → Fn} {S : List Fn}
theorem cap_at (h : DG al lev low high o D) (hC : ∀ n, al n = true → D n ∈ cofs S o (lev n)) (L : Nat) : cnt 2560 (fun n => al n && (lev n == L)) ≤ nAt S o L := by
  obtain ⟨m', g1, g2, g3⟩ := dcount_rep (fun x : Fn => x) (nodL S o L)
  unfold nAt
  rw [← g3, ← cnt_filter]
  have hm : (((List.range 2560).filter (fun n => al n && (lev n == L))).map D).Nodup := nodup_map ((range_nodup 2560).filter _) (fun a b ha hb e => by
    have h1 := (List.mem_filter.mp ha).2
    have h2 := (List.mem_filter.mp hb).2
    simp at h1 h2
    exact DG_inj h (Or.inr h1.1) (Or.inr h2.1) e)
  have := nodup_le hm (fun f hf => (g2 f).mpr (by
    obtain ⟨n, hn, rfl⟩ := List.mem_map.mp hf
    have h1 := (List.mem_filter.mp hn).2
    simp at h1
    refine mem_nodL.mpr ⟨?_, ?_⟩
    · rw [← h1.2]; exact hC n h1.1
    · rw [← h1.2]; exact DG_ndep h h1.1))
  rwa [List.length_map] at this
theorem cap_sum (h : DG al lev low high o D) (hC : ∀ n, al n = true → D n ∈ cofs S o (lev n)) : ∀ k, k ≤ 10 → cnt 2560 (fun n => al n && decide (lev n < k)) ≤ nSum S o k := by
  intro k
  induction k with
  | zero =>
    intro _
    refine Nat.le_of_eq (cnt_zero (fun n _ => ?_))
    simp
  | succ k ih =>
    intro hk
    have h1 := cnt_split 2560 (fun n => al n && decide (lev n < k + 1)) (fun n => lev n == k)
    have h2 : cnt 2560 (fun n => (al n && decide (lev n < k + 1)) && (lev n == k)) = cnt 2560 (fun n => al n && (lev n == k)) := cnt_congr (fun n _ => by
      cases q : (lev n == k)
      · simp
      · have : lev n = k := by simpa using q
        simp [this])
    have h3 : cnt 2560 (fun n => (al n && decide (lev n < k + 1)) && !(lev n == k)) = cnt 2560 (fun n => al n && decide (lev n < k)) := cnt_congr (fun n _ => by
      by_cases q : lev n = k
      · simp [q]
      · have e : decide (lev n < k + 1) = decide (lev n < k) := by
          rw [decide_eq_decide]
          omega
        have e2 : (lev n == k) = false := by simpa using q
        rw [e, e2]
        simp)
    rw [h1, h2, h3]
    have a1 := cap_at h hC k
    have a2 := ih (by omega)
    show _ ≤ nSum S o k + nAt S o k
    omega
theorem cap_all (h : DG al lev low high o D) (hC : ∀ n, al n = true → D n ∈ cofs S o (lev n)) : cnt 2560 al ≤ nAll S o := by
  have h1 := cap_sum h hC 10 (Nat.le_refl _)
  have h2 : cnt 2560 (fun n => al n && decide (lev n < 10)) = cnt 2560 al := cnt_congr (fun n _ => by
    cases q : al n
    · simp
    · have := (h.1 n q).2.2.1
      simp [this])
  rw [h2] at h1
  exact h1
end CAP
def WB (S : List Fn) (o : Nat → Nat) (st : St) (al : Nat → Bool) (D : Nat → Fn) : Prop :=
  BI st al al (fun _ => 0) ∧ DG al (v 8 st) (v 9 st) (v 10 st) o D ∧ (∀ n, al n = true → D n ∈ cofs S o (v 8 st n)) ∧ (∀ i, i < 10 → v 4 st i = o i) ∧ S.length ≤ 13 ∧ ∀ g, g ∈ S → fin10 g
theorem WB_free {S : List Fn} {o : Nat → Nat} {st : St} {al : Nat → Bool} {D : Nat → Fn} (W : WB S o st al D) : cnt 2560 al ≤ 1905 := by
  have h1 := cap_all W.2.1 W.2.2.1
  have h2 := nAll_le W.2.1.2.2.2.2 W.2.2.2.2.2
  have h3 := W.2.2.2.2.1
  omega
/-- what making nodes leaves -/
def FB (st st' : St) : Prop := Fr [6, 7, 8, 9, 10, 11, 12, 16] st st' ∧ ∀ k, k ≠ 0 → k ≠ 1 → st'.2.2 k = st.2.2 k
theorem FB.refl (st : St) : FB st st := ⟨Fr.refl _ _, fun _ _ _ => rfl⟩
theorem FB.trans {a b c : St} (h1 : FB a b) (h2 : FB b c) : FB a c := ⟨h1.1.trans h2.1, fun k h3 h4 => (h2.2 k h3 h4).trans (h1.2 k h3 h4)⟩
/-- what was there stays -/
def KP (st st' : St) (al al' : Nat → Bool) (D D' : Nat → Fn) : Prop := ∀ c, ch al c → ch al' c ∧ D' c = D c ∧ lv8 st' c = lv8 st c ∧ (al c = true → al' c = true ∧ (0 < v 12 st c → 0 < v 12 st' c))
theorem WB_make {S : List Fn} {o : Nat → Nat} {st : St} {al : Nat → Bool} {D : Nat → Fn} {l a b : Nat} (W : WB S o st al D) (hl : l < 10) (ha : ch al a) (hb : ch al b) (la : l < lv8 st a) (lb : l < lv8 st b) (hg : mux (o l) (D a) (D b) ∈ cofs S o l) :
    ∃ (r : Nat) (st' : St) (al' : Nat → Bool) (D' : Nat → Fn), sX0_make st (nI l) (nI a) (nI b) = some (nI r, st') ∧ WB S o st' al' D' ∧ ch al' r ∧ D' r = mux (o l) (D a) (D b) ∧ l ≤ lv8 st' r ∧ KP st st' al al' D D' ∧ (∀ m, al' m = true → al m = true ∨ m = r) ∧ ((r = a ∧ a = b) ∨ ((2 ≤ a → 0 < v 12 st' a) ∧ (2 ≤ b → 0 < v 12 st' b))) ∧ FB st st' ∧ v 16 st' = v 16 st := by
  have hfree := WB_free W
  obtain ⟨w1, w2, w3, w4, w5, w6⟩ := id W
  obtain ⟨r, st', e1, hm⟩ := make_ok (l := l) (lo := a) (hi := b) w1 hl ha hb (by omega)
  have KP0 : KP st st al al D D := fun c hc => ⟨hc, rfl, rfl, fun h => ⟨h, id⟩⟩
  have haI : indep (D a) (o l) := DG_ind w2 ha la hl
  have hbI : indep (D b) (o l) := DG_ind w2 hb lb hl
  rcases hm with ⟨rfl, rfl, rfl⟩ | ⟨h1, h2, h3, h4, h5, rfl⟩ | ⟨h1, h2, h3, h4, h5, h6, h7, h8, h9, h10, h11, h12⟩
  · refine ⟨r, st', al, D, e1, W, ha, ?_, by omega, KP0, fun m hm => Or.inl hm, Or.inl ⟨rfl, rfl⟩, FB.refl _, rfl⟩
    rw [mux_same]
  · have hd := w2.1 r h2
    have pt : ∀ c, 2 ≤ c → (v 9 st' r = c ∨ v 10 st' r = c) → ch al c → 0 < v 12 st' c := fun c hc hq hcc => by
      have hca : al c = true := hcc.resolve_left (by omega)
      have P := w1.2.1 c hca
      have : 0 < refs st' al c := by
        unfold refs
        rcases hq with q | q
        · have := cnt_pos (p := fun m => al m && (v 9 st' m == c)) hd.2.1 (by simp [h2, q])
          omega
        · have := cnt_pos (p := fun m => al m && (v 10 st' m == c)) hd.2.1 (by simp [h2, q])
          omega
      omega
    refine ⟨r, st', al, D, e1, W, Or.inr h2, ?_, ?_, KP0, fun m hm => Or.inl hm, Or.inr ⟨fun q => pt a q (Or.inl h4) ha, fun q => pt b q (Or.inr h5) hb⟩, FB.refl _, rfl⟩
    · have := hd.2.2.2.2.2.2.2.2
      rw [h3, h4, h5] at this
      exact this
    · unfold lv8
      rw [lvl_al w2 h2, h3]
      exact Nat.le_refl _
  · have ne : ∀ m, al m = true → m ≠ r := fun m hm z => by rw [z, h3] at hm; cases hm
    have nec : ∀ c, ch al c → c ≠ r := fun c hc z => by
      rcases hc with q | q
      · omega
      · exact ne c q z
    have hH : newH (fun _ => 0) r = fun _ => 0 := by
      funext m
      unfold newH
      split <;> rfl
    rw [hH] at h6
    have lv : ∀ c, ch al c → lv8 st' c = lv8 st c := fun c hc => by
      unfold lv8 lvl
      rw [(h10 c (nec c hc)).1]
    have Dn : ∀ c, c ≠ r → (fun m => if m = r then mux (o l) (D a) (D b) else D m) c = D c := fun c hc => if_neg hc
    have Dr : (fun m => if m = r then mux (o l) (D a) (D b) else D m) r = mux (o l) (D a) (D b) := if_pos rfl
    generalize hD' : (fun m => if m = r then mux (o l) (D a) (D b) else D m) = D' at Dn Dr
    have chn' : ∀ c, ch al c → ch (setB al r true) c := fun c hc => hc.imp id (fun q => by rw [setB_ne _ _ (ne c q)]; exact q)
    have lvE : ∀ c, ch al c → lvl (v 8 st') c = lvl (v 8 st) c := lv
    have sh := w1.1.2.2.2.2.2.1
    have rge : ∀ m, refs st al m ≤ refs st' (setB al r true) m := fun m => by
      unfold refs
      have c1 : cnt 2560 (fun i => al i && (v 9 st i == m)) ≤ cnt 2560 (fun i => setB al r true i && (v 9 st' i == m)) := cnt_mono (fun i _ h => by
        simp at h
        have ei := ne i h.1
        rw [setB_ne _ _ ei, (h10 i ei).2.1]
        simp [h.1, h.2])
      have c2 : cnt 2560 (fun i => al i && (v 10 st i == m)) ≤ cnt 2560 (fun i => setB al r true i && (v 10 st' i == m)) := cnt_mono (fun i _ h => by
        simp at h
        have ei := ne i h.1
        rw [setB_ne _ _ ei, (h10 i ei).2.2]
        simp [h.1, h.2])
      rw [h11.vE (r := 5) (by decide)]
      omega
    have pt : ∀ c, 2 ≤ c → (v 9 st' r = c ∨ v 10 st' r = c) → ch al c → 0 < v 12 st' c := fun c hc hq hcc => by
      have hca : al c = true := hcc.resolve_left (by omega)
      have P := h6.2.1 c (by rw [setB_ne _ _ (ne c hca)]; exact hca)
      have : 0 < refs st' (setB al r true) c := by
        unfold refs
        rcases hq with q | q
        · have := cnt_pos (p := fun m => setB al r true m && (v 9 st' m == c)) h5 (by simp [setB_self, q])
          omega
        · have := cnt_pos (p := fun m => setB al r true m && (v 10 st' m == c)) h5 (by simp [setB_self, q])
          omega
      omega
    refine ⟨r, st', setB al r true, D', e1, ⟨h6, ⟨fun m hm => ?_, fun m m' hm hm' q1 q2 q3 => ?_, ?_, ?_, w2.2.2.2.2⟩, fun m hm => ?_, fun i hi => ?_, w5, w6⟩, Or.inr (setB_self _ _ _), Dr, ?_, fun c hc => ⟨chn' c hc, Dn c (nec c hc), lv c hc, fun hca => ⟨by rw [setB_ne _ _ (ne c hca)]; exact hca, fun hp => ?_⟩⟩, fun m hm => ?_, Or.inr ⟨fun q => pt a q (Or.inl h8) ha, fun q => pt b q (Or.inr h9) hb⟩, ⟨h11.mono (by intro q hq; simp at hq ⊢; omega), h12⟩, h11.vE (by decide)⟩
    · by_cases e : m = r
      · subst e
        refine ⟨h4, h5, by rw [h7]; exact hl, by rw [h8]; exact chn' a ha, by rw [h9]; exact chn' b hb, ?_, ?_, by rw [h8, h9]; exact h1, ?_⟩
        · rw [h7, h8, lvE a ha]; exact la
        · rw [h7, h9, lvE b hb]; exact lb
        · rw [h7, h8, h9, Dr, Dn a (nec a ha), Dn b (nec b hb)]
      · rw [setB_ne _ _ e] at hm
        obtain ⟨y1, y2, y3, y4, y5, y6, y7, y8, y9⟩ := w2.1 m hm
        obtain ⟨z1, z2, z3⟩ := h10 m e
        unfold DN
        rw [z1, z2, z3, lvE _ y4, lvE _ y5, Dn m e, Dn _ (nec _ y4), Dn _ (nec _ y5)]
        exact ⟨y1, y2, y3, chn' _ y4, chn' _ y5, y6, y7, y8, y9⟩
    · by_cases e : m = r
      · by_cases e' : m' = r
        · rw [e, e']
        · rw [setB_ne _ _ e'] at hm'
          obtain ⟨z1, z2, z3⟩ := h10 m' e'
          rw [e, h7, z1] at q1
          rw [e, h8, z2] at q2
          rw [e, h9, z3] at q3
          exact (h2 m' hm' q1.symm q2.symm q3.symm).elim
      · rw [setB_ne _ _ e] at hm
        obtain ⟨z1, z2, z3⟩ := h10 m e
        by_cases e' : m' = r
        · rw [e', h7, z1] at q1
          rw [e', h8, z2] at q2
          rw [e', h9, z3] at q3
          exact (h2 m hm q1 q2 q3).elim
        · rw [setB_ne _ _ e'] at hm'
          obtain ⟨y1, y2, y3⟩ := h10 m' e'
          exact w2.2.1 m m' hm hm' (by rw [← z1, ← y1]; exact q1) (by rw [← z2, ← y2]; exact q2) (by rw [← z3, ← y3]; exact q3)
    · rw [Dn 0 (by omega)]; exact w2.2.2.1
    · rw [Dn 1 (by omega)]; exact w2.2.2.2.1
    · by_cases e : m = r
      · rw [e, h7, Dr]; exact hg
      · rw [setB_ne _ _ e] at hm
        rw [(h10 m e).1, Dn m e]
        exact w3 m hm
    · rw [h11.vE (r := 4) (by decide)]; exact w4 i hi
    · unfold lv8 lvl
      rw [if_neg (by omega), h7]
      exact Nat.le_refl _
    · have P := h6.2.1 c (by rw [setB_ne _ _ (ne c hca)]; exact hca)
      have P0 := w1.2.1 c hca
      have := rge c
      omega
    · by_cases e : m = r
      · exact Or.inr e
      · rw [setB_ne _ _ e] at hm
        exact Or.inl hm
