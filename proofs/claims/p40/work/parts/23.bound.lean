/-! HOW MANY NODES A LEVEL CAN HAVE, in any order -/
def fin10 (f : Fn) : Prop := ∀ x y : Nat, (∀ v, v < 10 → x.testBit v = y.testBit v) → f x = f y
theorem fin_co {f : Fn} (h : fin10 f) (v : Nat) (b : Bool) : fin10 (co v b f) := by
  intro x y hxy
  unfold co
  apply h
  intro u hu
  rw [sw_bit, sw_bit, hxy u hu]
theorem fin_cofs {S : List Fn} {o : Nat → Nat} (h : ∀ g, g ∈ S → fin10 g) : ∀ L g, g ∈ cofs S o L → fin10 g := by
  intro L
  induction L with
  | zero => exact h
  | succ L ih =>
    intro g hg
    obtain ⟨f, b, hf, rfl⟩ := cofs_succ.mp hg
    exact fin_co (ih f hf) _ _
theorem ind_cofs {S : List Fn} {o : Nat → Nat} : ∀ L g, g ∈ cofs S o L → ∀ i, i < L → indep g (o i) := by
  intro L
  induction L with
  | zero => intro g _ i hi; omega
  | succ L ih =>
    intro g hg i hi
    obtain ⟨f, b, hf, rfl⟩ := cofs_succ.mp hg
    by_cases e : i = L
    · subst e
      exact indep_co _ _ _
    · exact indep_co_of (ih f hf i (by omega))
/-- the order has all variables -/
theorem oOK_sur {o : Nat → Nat} (h : oOK o) {v : Nat} (hv : v < 10) : ∃ i, i < 10 ∧ o i = v := by
  apply Classical.byContradiction
  intro hn
  have hno : ∀ i, i < 10 → o i ≠ v := fun i hi e => hn ⟨i, hi, e⟩
  have h1 : ((List.range 10).map o).Nodup := nodup_map (List.nodup_range) (fun a b ha hb e => h.2 a b (List.mem_range.mp ha) (List.mem_range.mp hb) e)
  have h2 := nodup_le (m := (List.range 10).filter (fun w => w != v)) h1 (fun w hw => by
    obtain ⟨i, hi, rfl⟩ := List.mem_map.mp hw
    have hi' := List.mem_range.mp hi
    exact List.mem_filter.mpr ⟨List.mem_range.mpr (h.1 i hi'), by simpa using hno i hi'⟩)
  have h3 : ((List.range 10).filter (fun w => w != v)).length = 9 := by
    rcases (show v = 0 ∨ v = 1 ∨ v = 2 ∨ v = 3 ∨ v = 4 ∨ v = 5 ∨ v = 6 ∨ v = 7 ∨ v = 8 ∨ v = 9 by omega) with rfl | rfl | rfl | rfl | rfl | rfl | rfl | rfl | rfl | rfl <;> rfl
  rw [h3, List.length_map, List.length_range] at h2
  omega
theorem cst_of {o : Nat → Nat} (h : oOK o) {f : Fn} (hf : fin10 f) (hi : ∀ i, i < 10 → indep f (o i)) : f = cst (f 0) := by
  have key : ∀ n, n ≤ 10 → ∀ x, ∃ y, f x = f y ∧ (∀ v, v < n → y.testBit v = false) := by
    intro n
    induction n with
    | zero => intro _ x; exact ⟨x, rfl, fun v hv => by omega⟩
    | succ n ih =>
      intro hn x
      obtain ⟨y, h1, h2⟩ := ih (by omega) x
      obtain ⟨i, hi1, hi2⟩ := oOK_sur h (v := n) (by omega)
      refine ⟨sw n false y, ?_, fun v hv => ?_⟩
      · have := congrFun (hi i hi1 false) y
        rw [hi2] at this
        rw [h1, ← this]
        rfl
      · rw [sw_bit]
        by_cases e : v = n
        · rw [if_pos e]
        · rw [if_neg e]
          exact h2 v (by omega)
  funext x
  obtain ⟨y, h1, h2⟩ := key 10 (Nat.le_refl _) x
  rw [h1]
  show f y = f 0
  exact hf y 0 (fun v hv => by rw [h2 v hv, Nat.zero_testBit])
/-- all functions of the variables from a level on, the last k levels -/
def allF (o : Nat → Nat) : Nat → List Fn
  | 0 => [cst false, cst true]
  | k + 1 => (allF o k).flatMap (fun f => (allF o k).map (fun g => mux (o (9 - k)) f g))
def offD (n : Nat) : List (Nat × Nat) := (List.range n).flatMap (fun i => ((List.range n).filter (fun j => j != i)).map (fun j => (i, j)))
theorem in_allF {S : List Fn} {o : Nat → Nat} (ho : oOK o) (h : ∀ g, g ∈ S → fin10 g) : ∀ k, k ≤ 10 → ∀ g, g ∈ cofs S o (10 - k) → g ∈ allF o k := by
  intro k
  induction k with
  | zero =>
    intro _ g hg
    have := cst_of ho (fin_cofs h 10 g hg) (ind_cofs 10 g hg)
    rw [this]
    unfold allF
    cases g 0 <;> simp
  | succ k ih =>
    intro hk g hg
    have e : 10 - k = 10 - (k + 1) + 1 := by omega
    have h0 : co (o (9 - k)) false g ∈ allF o k := ih (by omega) _ (by
      rw [e]
      exact cofs_succ.mpr ⟨g, false, hg, by rw [show 10 - (k + 1) = 9 - k by omega]⟩)
    have h1 : co (o (9 - k)) true g ∈ allF o k := ih (by omega) _ (by
      rw [e]
      exact cofs_succ.mpr ⟨g, true, hg, by rw [show 10 - (k + 1) = 9 - k by omega]⟩)
    rw [show allF o (k + 1) = (allF o k).flatMap (fun f => (allF o k).map (fun g => mux (o (9 - k)) f g)) from rfl]
    exact List.mem_flatMap.mpr ⟨_, h0, List.mem_map.mpr ⟨_, h1, mux_co _ g⟩⟩
theorem nAt_off {S : List Fn} {o : Nat → Nat} (ho : oOK o) (h : ∀ g, g ∈ S → fin10 g) {k : Nat} (hk : k < 10) : nAt S o (9 - k) ≤ (offD (allF o k).length).length := by
  have key : nAt S o (9 - k) ≤ dcount ((offD (allF o k).length).map (fun p => mux (o (9 - k)) ((allF o k).getD p.1 (cst false)) ((allF o k).getD p.2 (cst false)))) := by
    refine dcount_mono (fun g hg => ?_)
    obtain ⟨h1, h2⟩ := mem_nodL.mp hg
    have e : 10 - k = 9 - k + 1 := by omega
    have f0 : co (o (9 - k)) false g ∈ allF o k := in_allF ho h k (by omega) _ (by
      rw [e]
      exact cofs_succ.mpr ⟨g, false, h1, rfl⟩)
    have f1 : co (o (9 - k)) true g ∈ allF o k := in_allF ho h k (by omega) _ (by
      rw [e]
      exact cofs_succ.mpr ⟨g, true, h1, rfl⟩)
    obtain ⟨i, hi, ei⟩ := List.mem_iff_getElem.mp f0
    obtain ⟨j, hj, ej⟩ := List.mem_iff_getElem.mp f1
    refine List.mem_map.mpr ⟨(i, j), ?_, ?_⟩
    · unfold offD
      refine List.mem_flatMap.mpr ⟨i, List.mem_range.mpr hi, List.mem_map.mpr ⟨j, List.mem_filter.mpr ⟨List.mem_range.mpr hj, ?_⟩, rfl⟩⟩
      have : j ≠ i := by
        intro e2
        subst e2
        exact h2 (indep_of_eq (ei.symm.trans ej))
      simpa using this
    · have e1 : (allF o k).getD i (cst false) = co (o (9 - k)) false g := by
        simp [List.getD, List.getElem?_eq_getElem hi, ei]
      have e2 : (allF o k).getD j (cst false) = co (o (9 - k)) true g := by
        simp [List.getD, List.getElem?_eq_getElem hj, ej]
      show mux (o (9 - k)) ((allF o k).getD i (cst false)) ((allF o k).getD j (cst false)) = g
      rw [e1, e2, mux_co]
  refine Nat.le_trans key (Nat.le_trans (dcount_le _) ?_)
  rw [List.length_map]
  exact Nat.le_refl _
theorem allF_0 (o : Nat → Nat) : (allF o 0).length = 2 := rfl
theorem allF_1 (o : Nat → Nat) : (allF o 1).length = 4 := rfl
theorem allF_2 (o : Nat → Nat) : (allF o 2).length = 16 := rfl
theorem nAt_9 {S : List Fn} {o : Nat → Nat} (ho : oOK o) (h : ∀ g, g ∈ S → fin10 g) : nAt S o 9 ≤ 2 := nAt_off ho h (k := 0) (by omega)
theorem nAt_8 {S : List Fn} {o : Nat → Nat} (ho : oOK o) (h : ∀ g, g ∈ S → fin10 g) : nAt S o 8 ≤ 12 := nAt_off ho h (k := 1) (by omega)
theorem nAt_7 {S : List Fn} {o : Nat → Nat} (ho : oOK o) (h : ∀ g, g ∈ S → fin10 g) : nAt S o 7 ≤ 240 := by
  have := nAt_off ho h (k := 2) (by omega)
  rw [allF_2] at this
  exact Nat.le_trans this (by decide +kernel)
theorem nAt_top (S : List Fn) (o : Nat → Nat) (L : Nat) : nAt S o L ≤ S.length * 2 ^ L := by
  refine Nat.le_trans (dcount_le _) ?_
  unfold nodL
  refine Nat.le_trans (List.length_filter_le _ _) ?_
  rw [cofs_len]
  exact Nat.le_refl _
theorem nAt_768 {S : List Fn} {o : Nat → Nat} (ho : oOK o) (h : ∀ g, g ∈ S → fin10 g) (hS : S.length ≤ 12) {L : Nat} (hL : L < 10) : nAt S o L ≤ 768 := by
  by_cases h7 : L = 7
  · subst h7
    have := nAt_7 ho h
    omega
  · by_cases h8 : L = 8
    · subst h8
      have := nAt_8 ho h
      omega
    · by_cases h9 : L = 9
      · subst h9
        have := nAt_9 ho h
        omega
      · have h1 := nAt_top S o L
        have h2 : 2 ^ L ≤ 2 ^ 6 := Nat.pow_le_pow_right (by omega) (by omega)
        have h3 : S.length * 2 ^ L ≤ 12 * 2 ^ 6 := Nat.mul_le_mul hS h2
        omega
theorem nAll_le {S : List Fn} {o : Nat → Nat} (ho : oOK o) (h : ∀ g, g ∈ S → fin10 g) : nAll S o ≤ S.length * 127 + 254 := by
  have h0 := nAt_top S o 0
  have h1 := nAt_top S o 1
  have h2 := nAt_top S o 2
  have h3 := nAt_top S o 3
  have h4 := nAt_top S o 4
  have h5 := nAt_top S o 5
  have h6 := nAt_top S o 6
  have h7 := nAt_7 ho h
  have h8 := nAt_8 ho h
  have h9 := nAt_9 ho h
  show nSum S o 10 ≤ _
  simp only [nSum]
  omega
