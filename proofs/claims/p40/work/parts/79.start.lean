/-! THE STATE OF A NEW TRELLIS -/
def st0 : St := (fun r i => if r = 4 then (if i < 10 then nI i else nI 0) else if r = 11 then (if 2 ≤ i ∧ i < 2559 then nI (i + 1) else nI 0) else nI 0, fun _ _ => 0, fun k => if k = 0 then nI 2 else nI 0)
def v0 (r i : Nat) : Nat := if r = 4 then (if i < 10 then i else 0) else if r = 11 then (if 2 ≤ i ∧ i < 2559 then i + 1 else 0) else 0
theorem v0_lt (r i : Nat) : v0 r i < 2560 := by
  unfold v0
  split
  · split <;> omega
  · split
    · split <;> omega
    · omega
theorem st0_row (r i : Nat) : st0.1 r i = nI (v0 r i) := by
  unfold st0 v0
  dsimp only
  by_cases h1 : r = 4
  · rw [if_pos h1, if_pos h1]
    by_cases h2 : i < 10
    · rw [if_pos h2, if_pos h2]
    · rw [if_neg h2, if_neg h2]
  · rw [if_neg h1, if_neg h1]
    by_cases h3 : r = 11
    · rw [if_pos h3, if_pos h3]
      by_cases h2 : 2 ≤ i ∧ i < 2559
      · rw [if_pos h2, if_pos h2]
      · rw [if_neg h2, if_neg h2]
    · rw [if_neg h3, if_neg h3]
theorem v_st0 (r i : Nat) : v r st0 i = v0 r i := by
  unfold v
  rw [st0_row, nI_toN (by have := v0_lt r i; omega)]
theorem fv_st0 (k : Nat) : fv k st0 = if k = 0 then 2 else 0 := by
  unfold fv st0
  dsimp only
  split
  · exact nI_toN (by omega)
  · exact nI_toN (by omega)
theorem NN_st0 : NN st0 := by
  refine ⟨fun r i _ => ?_, fun k => ?_⟩
  · rw [st0_row]
    exact nI_nn (by have := v0_lt r i; omega)
  · unfold st0
    dsimp only
    split
    · exact nI_nn (by omega)
    · exact nI_nn (by omega)
theorem tb_st0 (t : Nat) : tb st0 t = cst false := by
  funext x
  exact bt_zero _
def upl : Nat → Nat → List Nat
  | 0, _ => []
  | k + 1, m => m :: upl k (m + 1)
theorem mem_upl : ∀ (k m n : Nat), n ∈ upl k m ↔ m ≤ n ∧ n < m + k
  | 0, m, n => ⟨fun h => absurd h List.not_mem_nil, fun h => by omega⟩
  | k + 1, m, n => by
    show n ∈ m :: upl k (m + 1) ↔ _
    rw [List.mem_cons, mem_upl k (m + 1) n]
    omega
theorem upl_ch : ∀ (k m : Nat), 2 ≤ m → m + k = 2560 → isCh (v 11 st0) (if k = 0 then 0 else m) (upl k m)
  | 0, m, _, _ => by
    show (if 0 = 0 then 0 else m) = 0
    rw [if_pos rfl]
  | k + 1, m, h2, hk => by
    show (if k + 1 = 0 then 0 else m) = m ∧ 2 ≤ m ∧ m < 2560 ∧ isCh (v 11 st0) (v 11 st0 m) (upl k (m + 1))
    refine ⟨if_neg (by omega), h2, by omega, ?_⟩
    have ih := upl_ch k (m + 1) (by omega) (by omega)
    have e : v 11 st0 m = if k = 0 then 0 else m + 1 := by
      rw [v_st0]
      unfold v0
      rw [if_neg (by omega), if_pos rfl]
      by_cases z : k = 0
      · rw [if_neg (by omega), if_pos z]
      · rw [if_pos (by omega), if_neg z]
    rw [e]
    exact ih
def alN : Nat → Bool := fun _ => false
def D0 : Nat → Fn := fun n => cst (n == 1)
theorem K_start : K (TB st0) (fun i => i) 0 st0 := by
  have noal : ∀ n, ¬ alN n = true := fun n h => by cases h
  have hz : ∀ (p : Nat → Bool) N, cnt N (fun n => alN n && p n) = 0 := fun p N => cnt_zero (fun _ _ => rfl)
  have row0 : ∀ r i, r ≠ 4 → r ≠ 11 → v r st0 i = 0 := fun r i h4 h11 => by
    rw [v_st0]
    unfold v0
    rw [if_neg h4, if_neg h11]
  have BMs : BM st0 alN alN := by
    refine ⟨NN_st0, ⟨fun _ => [], fun b _ => ⟨row0 7 b (by decide) (by decide), fun n => ⟨fun h => absurd h List.not_mem_nil, fun h => absurd h.1 (noal n)⟩⟩⟩, ⟨upl 2558 2, ?_, fun n => ?_⟩, ⟨fun l _ => ?_, ?_⟩, ⟨fun n h => h, fun n h => absurd h (noal n), fun s _ => ?_⟩⟩
    · have := upl_ch 2558 2 (by omega) (by omega)
      rw [if_neg (by omega)] at this
      rw [fv_st0, if_pos rfl]
      exact this
    · rw [mem_upl]
      exact ⟨fun h => ⟨h.1, by omega, rfl⟩, fun h => ⟨h.1, by omega⟩⟩
    · rw [row0 6 l (by decide) (by decide), hz]
    · rw [fv_st0, if_neg (by decide)]
      exact (cnt_zero (fun _ _ => rfl)).symm
    · rw [row0 5 s (by decide) (by decide)]
      exact Or.inl (by omega)
  have BIs : BI st0 alN alN (fun _ => 0) := ⟨BMs, fun n h => absurd h (noal n), fun _ => Nat.zero_le _⟩
  have hoOK : oOK (fun i => i) := ⟨fun i h => h, fun _ _ _ _ h => h⟩
  have GDs : GD st0 alN (fun i => i) D0 := by
    refine ⟨BIs, ⟨fun n h => absurd h (noal n), fun n m h => absurd h (noal n), rfl, rfl, hoOK⟩, fun i hi => ?_, fun n h => absurd h (noal n), fun s _ => ?_⟩
    · rw [v_st0]
      unfold v0
      rw [if_pos rfl, if_pos hi]
    · intro x y _
      rfl
  have eFS : FS st0 D0 = TB st0 := by
    unfold FS TB
    refine List.map_congr_left (fun s _ => ?_)
    rw [row0 5 s (by decide) (by decide), tb_st0]
    rfl
  refine ⟨⟨⟨alN, D0, GDs, eFS⟩, rfl, fun s _ => ?_, ?_⟩, ⟨fun n _ => ?_, ?_⟩, fun i _ => row0 2 i (by decide) (by decide)⟩
  · rw [row0 0 s (by decide) (by decide), tb_st0]
    exact ⟨by omega, fun w _ => ⟨fun h => (by rw [Nat.zero_testBit] at h; cases h), fun h => absurd (indep_cst false w) h⟩⟩
  · rw [nAll_cst (b := false) (fun g hg => by
      unfold TB at hg
      obtain ⟨s, -, rfl⟩ := List.mem_map.mp hg
      exact tb_st0 s)]
    omega
  · rw [row0 13 n (by decide) (by decide)]
    exact Nat.zero_le _
  · rw [fv_st0, if_neg (by decide)]
    exact Nat.le_refl _
