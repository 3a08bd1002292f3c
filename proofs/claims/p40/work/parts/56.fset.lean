/-! foldSet; changes of a table by words -/
theorem s_bit : ∀ s, s < 1024 → ∀ i, i < 10 → (((nI s >>> (nI i &&& 31)) &&& (1 : Int32)) = (1 : Int32) ↔ s.testBit i = true) := by decide +kernel
/-- the variables of a set, from one on, quantified one by one -/
def fset (way s : Nat) : Nat → Nat → Fn → Fn
  | 0, _, f => f
  | k + 1, i, f => fset way s k (i + 1) (if s.testBit i then fold1 way i f else f)
theorem fin_fset (way s : Nat) : ∀ (k i : Nat) {f : Fn}, fin10 f → fin10 (fset way s k i f)
  | 0, _, _, h => h
  | k + 1, i, f, h => by
    show fin10 (fset way s k (i + 1) (if s.testBit i then fold1 way i f else f))
    refine fin_fset way s k (i + 1) ?_
    split
    · exact fin_fold1 h way i
    · exact h
theorem foldSet_L {t u way s : Nat} (hs : s < 1024) (hway : way < 3) (htu : u ≠ t) : ∀ (k n i : Nat) (st : St), i + k = 10 → k < n → ∃ st', sX2_foldSet_L3 n st t (nI s) (nI way) u (nI i) = some st' ∧ L2 st st' t u ∧ tb st' t = fset way s k i (tb st t) := by
  intro k
  induction k with
  | zero =>
    intro n i st hi hn
    obtain ⟨n, rfl⟩ : ∃ m, n = m + 1 := ⟨n - 1, by omega⟩
    obtain rfl : i = 10 := by omega
    exact ⟨st, by rw [sX2_foldSet_L3, if_pos (by rw [n_10, nI_leE (by omega) (by omega)]; omega)], L2.refl _ _ _, rfl⟩
  | succ k ih =>
    intro n i st hi hn
    obtain ⟨n, rfl⟩ : ∃ m, n = m + 1 := ⟨n - 1, by omega⟩
    have hi10 : i < 10 := by omega
    rw [sX2_foldSet_L3, if_neg (by rw [n_10, nI_leE (by omega) (by omega)]; omega)]
    by_cases q : s.testBit i = true
    · obtain ⟨s1, e1, g1, g2, g3, g4⟩ := fold_ok st (t := t) (u := u) (v := i) (way := way) hi10 hway htu
      obtain ⟨s2, e2, l2, h2⟩ := ih n (i + 1) s1 (by omega) (by omega)
      refine ⟨s2, ?_, L2.trans ⟨g1, g2, g3⟩ l2, ?_⟩
      · rw [if_neg (fun z => z ((s_bit s hs i hi10).mpr q)), e1, ob_s, nI_add1, lt_e, e2]
      · rw [h2, g4]
        show _ = fset way s k (i + 1) (if s.testBit i = true then fold1 way i (tb st t) else tb st t)
        rw [if_pos q]
    · obtain ⟨s2, e2, l2, h2⟩ := ih n (i + 1) st (by omega) (by omega)
      refine ⟨s2, ?_, l2, ?_⟩
      · rw [if_pos (fun z => q ((s_bit s hs i hi10).mp z)), nI_add1, lt_e, e2]
      · rw [h2]
        show _ = fset way s k (i + 1) (if s.testBit i = true then fold1 way i (tb st t) else tb st t)
        rw [if_neg q]
theorem foldSet_ok (st : St) {t u way s : Nat} (hs : s < 1024) (hway : way < 3) (htu : u ≠ t) : ∃ st', sX2_foldSet st t (nI s) (nI way) u = some st' ∧ L2 st st' t u ∧ tb st' t = fset way s 10 0 (tb st t) := by
  obtain ⟨s1, e1, l1, h1⟩ := foldSet_L hs hway htu 10 FU 0 st rfl (by decide)
  refine ⟨s1, ?_, l1, h1⟩
  unfold sX2_foldSet
  rw [n_0, e1, ob_s]
theorem TS_L2 {S : List Fn} {o : Nat → Nat} {st st' : St} {t u : Nat} (T : TS S o st) (h : L2 st st' t u) (ht : 12 ≤ t) (hu : 12 ≤ u) : TS S o st' := by
  obtain ⟨h1, h2, h3, h4⟩ := T
  have v3 : ∀ r, v r st' = v r st := fun r => by funext i; unfold v; rw [h.1]
  have f3 : ∀ k, fv k st' = fv k st := fun k => by unfold fv; rw [h.2.1]
  have tt : ∀ k, k < 12 → tb st' k = tb st k := fun k hk => h.tbE (by omega) (by omega)
  refine ⟨OS_cong h1 (fun r _ _ => v3 r) (f3 0) (f3 1) ?_, ?_, fun s hs => ?_, h4⟩
  · have hN := OS_nn h1
    unfold NN at hN ⊢
    rw [h.1, h.2.1]
    exact hN
  · rw [h2]
    unfold TB
    exact List.map_congr_left (fun k hk => (tt k (List.mem_range.mp hk)).symm)
  · rw [tt s hs, v3]
    exact h3 s hs
