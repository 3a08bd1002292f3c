/-! THE FUNCTION OF A FEW VARIABLES ALONE, packed into a long -/
def rk (s p : Nat) : Nat := cnt p (fun w => s.testBit w)
def pd (s i : Nat) : Nat → Nat
  | 0 => 0
  | k + 1 => pd s i k + (if (s.testBit k && i.testBit (rk s k)) = true then 2 ^ k else 0)
theorem pd_lt (s i : Nat) : ∀ k, pd s i k < 2 ^ k
  | 0 => by
    show 0 < 1
    omega
  | k + 1 => by
    have := pd_lt s i k
    show pd s i k + (if (s.testBit k && i.testBit (rk s k)) = true then 2 ^ k else 0) < 2 ^ (k + 1)
    rw [Nat.pow_succ]
    split <;> omega
theorem pd_bit (s i p : Nat) : ∀ k, (pd s i k).testBit p = (decide (p < k) && (s.testBit p && i.testBit (rk s p)))
  | 0 => by rw [show pd s i 0 = 0 from rfl, Nat.zero_testBit, decide_eq_false (by omega), Bool.false_and]
  | k + 1 => by
    have ih := pd_bit s i p k
    have e : pd s i (k + 1) = pd s i k + (if (s.testBit k && i.testBit (rk s k)) = true then 2 ^ k else 0) := rfl
    rw [e]
    by_cases z : p = k
    · subst z
      by_cases q : (s.testBit p && i.testBit (rk s p)) = true
      · rw [if_pos q, add_bit (pd_lt s i p), q]
        simp
      · rw [if_neg q, Nat.add_zero, ih, Bool.eq_false_iff.mpr q]
        simp
    · have h : decide (p < k + 1) = decide (p < k) := by
        rw [decide_eq_decide]
        omega
      by_cases q : (s.testBit k && i.testBit (rk s k)) = true
      · rw [if_pos q, add_bit (pd_lt s i k), ih, h, decide_eq_false z, Bool.false_or]
      · rw [if_neg q, Nat.add_zero, ih, h]
theorem rk_mono (s : Nat) {p k : Nat} (h : p ≤ k) : rk s p ≤ rk s k := by
  obtain ⟨d, rfl⟩ : ∃ d, k = p + d := ⟨k - p, by omega⟩
  unfold rk
  rw [cnt_app]
  omega
theorem rk_lt {s p k : Nat} (h : p < k) (hb : s.testBit p = true) : rk s p < rk s k := by
  have h1 := rk_mono s (show p + 1 ≤ k by omega)
  have h2 : rk s (p + 1) = rk s p + (if s.testBit p = true then 1 else 0) := rfl
  rw [if_pos hb] at h2
  omega
theorem rk_inj {s p q : Nat} (hp : s.testBit p = true) (hq : s.testBit q = true) (e : rk s p = rk s q) : p = q := by
  rcases Nat.lt_trichotomy p q with z | z | z
  · have := rk_lt z hp; omega
  · exact z
  · have := rk_lt z hq; omega
theorem pd_congr {s i j k : Nat} (h : ∀ q, q < rk s k → i.testBit q = j.testBit q) : pd s i k = pd s j k := nat_ext (fun p => by
  rw [pd_bit, pd_bit]
  by_cases hp : p < k
  · cases q : s.testBit p
    · rw [Bool.false_and, Bool.false_and]
    · rw [h _ (rk_lt hp q)]
  · rw [decide_eq_false hp, Bool.false_and, Bool.false_and])
theorem subs_get (s : Nat) : ∀ k, (subs s k).length = 2 ^ rk s k ∧ ∀ j, j < 2 ^ rk s k → (subs s k)[j]? = some (pd s j k)
  | 0 => ⟨rfl, fun j hj => by
    have : j < 1 := hj
    obtain rfl : j = 0 := by omega
    rfl⟩
  | k + 1 => by
    obtain ⟨h1, h2⟩ := subs_get s k
    have er : rk s (k + 1) = rk s k + (if s.testBit k = true then 1 else 0) := rfl
    have es : subs s (k + 1) = if s.testBit k = true then subs s k ++ (subs s k).map (fun x => x + 2 ^ k) else subs s k := rfl
    have ep : ∀ j, pd s j (k + 1) = pd s j k + (if (s.testBit k && j.testBit (rk s k)) = true then 2 ^ k else 0) := fun _ => rfl
    rw [es, er]
    by_cases q : s.testBit k = true
    · rw [if_pos q, if_pos q, Nat.pow_succ]
      refine ⟨by rw [List.length_append, List.length_map, h1]; omega, fun j hj => ?_⟩
      rw [ep, q, Bool.true_and]
      by_cases z : j < 2 ^ rk s k
      · rw [List.getElem?_append_left (by rw [h1]; exact z), h2 j z, Nat.testBit_lt_two_pow z, if_neg Bool.false_ne_true, Nat.add_zero]
      · obtain ⟨j', rfl⟩ : ∃ j', j = 2 ^ rk s k + j' := ⟨j - 2 ^ rk s k, by omega⟩
        have hj' : j' < 2 ^ rk s k := by omega
        rw [List.getElem?_append_right (by rw [h1]; omega), h1, Nat.add_sub_cancel_left, List.getElem?_map, h2 j' hj', Nat.testBit_two_pow_add_eq, Nat.testBit_lt_two_pow hj', if_pos (show (!false) = true from rfl), pd_congr (s := s) (i := 2 ^ rk s k + j') (j := j') (fun q hq => Nat.testBit_two_pow_add_gt hq j')]
        rfl
    · rw [if_neg q, if_neg q, Nat.add_zero]
      refine ⟨h1, fun j hj => ?_⟩
      rw [ep, h2 j hj, Bool.eq_false_iff.mpr q, Bool.false_and, if_neg Bool.false_ne_true, Nat.add_zero]
theorem chn_at {s : Nat} : ∀ (l : List Nat) (j x y : Nat), chn s l = true → l[j]? = some x → l[j + 1]? = some y → (nI x - nI s) &&& nI s = nI y
  | [], j, x, y, _, h, _ => by simp at h
  | [a], j, x, y, _, _, h => by simp at h
  | a :: b :: t, 0, x, y, hc, h1, h2 => by
    have hc' : (decide (((nI a - nI s) &&& nI s) = nI b) && chn s (b :: t)) = true := hc
    rw [Bool.and_eq_true] at hc'
    have e1 : a = x := by simpa using h1
    have e2 : b = y := by simpa using h2
    rw [← e1, ← e2]
    exact of_decide_eq_true hc'.1
  | a :: b :: t, j + 1, x, y, hc, h1, h2 => by
    have hc' : (decide (((nI a - nI s) &&& nI s) = nI b) && chn s (b :: t)) = true := hc
    rw [Bool.and_eq_true] at hc'
    exact chn_at (b :: t) j x y hc'.2 (by simpa using h1) (by simpa using h2)
theorem pd_mod (s i : Nat) : pd s (i % 2 ^ rk s 10) 10 = pd s i 10 := pd_congr (fun q hq => by
  rw [Nat.testBit_mod_two_pow, decide_eq_true hq, Bool.true_and])
theorem pd_0 (s : Nat) : pd s 0 10 = 0 := nat_ext (fun p => by
  rw [pd_bit, Nat.zero_testBit, Nat.zero_testBit, Bool.and_false, Bool.and_false])
theorem pd_full {s : Nat} (hs : s < 1024) : pd s (2 ^ rk s 10 - 1) 10 = s := nat_ext (fun p => by
  rw [pd_bit, Nat.testBit_two_pow_sub_one]
  by_cases hp : p < 10
  · cases q : s.testBit p
    · rw [Bool.false_and, Bool.and_false]
    · rw [decide_eq_true hp, decide_eq_true (rk_lt hp q)]
      rfl
  · rw [decide_eq_false hp, Bool.false_and, big_bit hs (by omega)])
theorem pd_next {s : Nat} (hs : s < 1024) (i : Nat) : (nI (pd s i 10) - nI s) &&& nI s = nI (pd s (i + 1) 10) := by
  have hN : 0 < 2 ^ rk s 10 := Nat.pow_pos (by omega)
  have hj := Nat.mod_lt i hN
  have e1 : (i + 1) % 2 ^ rk s 10 = (i % 2 ^ rk s 10 + 1) % 2 ^ rk s 10 := (Nat.mod_add_mod i _ 1).symm
  rw [← pd_mod s i, ← pd_mod s (i + 1), e1]
  generalize i % 2 ^ rk s 10 = j at hj
  obtain ⟨h1, h2⟩ := subs_get s 10
  by_cases z : j + 1 < 2 ^ rk s 10
  · rw [Nat.mod_eq_of_lt z]
    exact chn_at (subs s 10) j _ _ (subs_chn hs).1 (h2 j hj) (h2 (j + 1) z)
  · have e2 : j + 1 = 2 ^ rk s 10 := by omega
    have e3 : j = 2 ^ rk s 10 - 1 := by omega
    rw [e2, Nat.mod_self, pd_0, e3, pd_full hs, nI_subE (Nat.le_refl _), Nat.sub_self, nI_and, Nat.zero_and]
theorem bt_1 : ∀ j, j < 64 → bt (1 : Int64) j = decide (j = 0) := by decide +kernel
theorem packed_L {st : St} {t s : Nat} (hs : s < 1024) : ∀ (d n i : Nat) (b : Int64), i + d = 64 → d < n → (∀ j, j < 64 → bt b j = (decide (j < i) && tb st t (pd s j 10))) →
    ∃ P, sX2_packed_L8 n st t (nI s) b (nI (pd s i 10)) (nI i) = some P ∧ ∀ j, j < 64 → bt P j = tb st t (pd s j 10) := by
  intro d
  induction d with
  | zero =>
    intro n i b hi hn hb
    obtain ⟨n, rfl⟩ : ∃ m, n = m + 1 := ⟨n - 1, by omega⟩
    refine ⟨b, by rw [sX2_packed_L8, if_pos (by rw [n_64, nI_leE (by omega) (by omega)]; omega)], fun j hj => ?_⟩
    rw [hb j hj, decide_eq_true (by omega), Bool.true_and]
  | succ d ih =>
    intro n i b hi hn hb
    obtain ⟨n, rfl⟩ : ∃ m, n = m + 1 := ⟨n - 1, by omega⟩
    have hx : pd s i 10 < 1024 := pd_lt s i 10
    rw [sX2_packed_L8, if_neg (by rw [n_64, nI_leE (by omega) (by omega)]; omega), tells_ok st t hx, ob_s]
    cases q : tb st t (pd s i 10)
    · rw [if_neg Bool.false_ne_true, if_pos n_0.symm, pd_next hs, lt_e, nI_add1, lt_e]
      refine ih n (i + 1) b (by omega) (by omega) (fun j hj => ?_)
      rw [hb j hj]
      by_cases e : j = i
      · rw [e, q, Bool.and_false, Bool.and_false]
      · have : decide (j < i) = decide (j < i + 1) := by
          rw [decide_eq_decide]
          omega
        rw [this]
    · rw [if_pos rfl, if_neg nI1_ne, lt_e, pd_next hs, lt_e, nI_add1, lt_e]
      refine ih n (i + 1) _ (by omega) (by omega) (fun j hj => ?_)
      rw [bt_or, hb j hj, bt_lshl (show i < 64 by omega) hj, bt_1 _ (by omega)]
      by_cases e : j = i
      · rw [e, q, decide_eq_false (by omega), decide_eq_true (Nat.le_refl i), decide_eq_true (by omega), decide_eq_true (by omega)]
        rfl
      · have h1 : decide (j < i) = decide (j < i + 1) := by
          rw [decide_eq_decide]
          omega
        have h2 : (decide (i ≤ j) && decide (j - i = 0)) = false := by
          by_cases z : i ≤ j
          · rw [decide_eq_false (p := j - i = 0) (by omega), Bool.and_false]
          · rw [decide_eq_false z, Bool.false_and]
        rw [h2, Bool.or_false, h1]
theorem packed_ok (st : St) (t : Nat) {s : Nat} (hs : s < 1024) : ∃ P, sX2_packed st t (nI s) = some P ∧ ∀ j, j < 64 → bt P j = tb st t (pd s j 10) := by
  obtain ⟨P, e, h⟩ := packed_L (st := st) (t := t) hs 64 FU 0 0 (by omega) (by decide) (fun j _ => by rw [bt_zero, decide_eq_false (by omega), Bool.false_and])
  rw [pd_0] at e
  refine ⟨P, ?_, h⟩
  unfold sX2_packed
  rw [n_0, e, ob_s]
