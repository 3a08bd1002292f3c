/-! ASKING A TABLE; sets as ints -/
theorem lg_cmp0 (a b : Int64) : (lg_cmp a b = 0) ↔ a = b := by
  unfold lg_cmp
  by_cases e : a = b
  · rw [if_neg (show ¬ a > b by rw [e]; exact Int64.lt_irrefl), if_pos e]
    exact ⟨fun _ => e, fun _ => rfl⟩
  · rw [if_neg e]
    refine ⟨fun h => ?_, fun h => absurd h e⟩
    by_cases q : a > b
    · rw [if_pos q] at h; exact absurd h (by decide +kernel)
    · rw [if_neg q] at h; exact absurd h (by decide +kernel)
theorem t_hi : ∀ x, x < 1024 → nI x >>> ((6 : Int32) &&& 31) = nI (x / 64) ∧ nI x &&& (63 : Int32) = nI (x % 64) := by decide +kernel
theorem tells_ok (st : St) (t : Nat) {x : Nat} (hx : x < 1024) : sX2_tells st t (nI x) = some (nI (if tb st t x then 1 else 0)) := by
  obtain ⟨h1, h2⟩ := t_hi x hx
  unfold sX2_tells
  rw [if_neg (by rw [n_0, nI_ltE (by omega) (by omega)]; omega), if_neg (by rw [n_1024, nI_leE (by omega) (by omega)]; omega), h1, h2, gd_in (by omega) (by omega), gL_nI (by omega)]
  have hb : tb st t x = bt (st.2.1 t (x / 64)) (x % 64) := by
    unfold tb
    rw [Nat.mod_eq_of_lt hx]
  have hw : lush (st.2.1 t (x / 64)) (nI (x % 64)) &&& (1 : Int64) = if tb st t x then 1 else 0 := by
    refine bt_ext (fun j hj => ?_)
    rw [bt_and, bt_lush (by omega), hb]
    by_cases e : j = 0
    · rw [e, Nat.add_zero, show bt (1 : Int64) 0 = true by decide +kernel, Bool.and_true]
      cases bt (st.2.1 t (x / 64)) (x % 64)
      · exact (bt_zero 0).symm
      · decide +kernel
    · have h1 : ∀ j, j < 64 → j ≠ 0 → bt (1 : Int64) j = false := by decide +kernel
      rw [h1 j hj e, Bool.and_false]
      cases bt (st.2.1 t (x / 64)) (x % 64)
      · exact (bt_zero j).symm
      · exact (h1 j hj e).symm
  rw [hw]
  cases tb st t x
  · rw [if_neg Bool.false_ne_true, if_neg Bool.false_ne_true, if_pos (show ¬ lg_cmp (0 : Int64) (1 : Int64) = 0 by rw [lg_cmp0]; decide +kernel), n_0]
  · rw [if_pos rfl, if_pos rfl, if_neg (show ¬ ¬ lg_cmp (1 : Int64) (1 : Int64) = 0 by rw [lg_cmp0]; exact fun z => z rfl), n_1]
def clr (s v : Nat) : Nat := s &&& (1023 - 2 ^ v)
theorem s_and : ∀ s, s < 1024 → ∀ v, v < 10 → ((nI s &&& nI (2 ^ v)) = 0 ↔ s.testBit v = false) := by decide +kernel
theorem s_clr : ∀ s, s < 1024 → ∀ v, v < 10 → nI s &&& (nI (2 ^ v) ^^^ (-1 : Int32)) = nI (clr s v) := by decide +kernel
theorem s_or : ∀ s, s < 1024 → ∀ v, v < 10 → nI s ||| nI (2 ^ v) = nI (s ||| 2 ^ v) := by decide +kernel
theorem clr_b : ∀ v, v < 10 → ∀ u, u < 10 → (1023 - 2 ^ v).testBit u = decide (u ≠ v) := by decide +kernel
theorem big_bit {s u : Nat} (hs : s < 1024) (hu : 10 ≤ u) : s.testBit u = false := by
  refine Nat.testBit_lt_two_pow (Nat.lt_of_lt_of_le hs ?_)
  exact (show 2 ^ 10 ≤ 2 ^ u from Nat.pow_le_pow_right (by decide) hu)
theorem clr_bit {s v : Nat} (hs : s < 1024) (hv : v < 10) (u : Nat) : (clr s v).testBit u = (s.testBit u && decide (u ≠ v)) := by
  unfold clr
  rw [Nat.testBit_and]
  by_cases h : u < 10
  · rw [clr_b v hv u h]
  · rw [big_bit hs (by omega), Bool.false_and, Bool.false_and]
theorem clr_lt {s v : Nat} (hs : s < 1024) : clr s v < 1024 := Nat.lt_of_le_of_lt Nat.and_le_left hs
theorem or_bit {s v : Nat} (u : Nat) : (s ||| 2 ^ v).testBit u = (s.testBit u || decide (v = u)) := by rw [Nat.testBit_or, Nat.testBit_two_pow]
theorem or_lt {s v : Nat} (hs : s < 1024) (hv : v < 10) : s ||| 2 ^ v < 1024 := by
  refine Nat.or_lt_two_pow (n := 10) hs ?_
  exact Nat.pow_lt_pow_right (by omega) hv
theorem in_subs {s x : Nat} : x ∈ subs s 10 ↔ x < 1024 ∧ ∀ v, x.testBit v = true → s.testBit v = true := mem_subs
theorem zero_subs (s : Nat) : 0 ∈ subs s 10 := in_subs.mpr ⟨by omega, fun v hv => by rw [Nat.zero_testBit] at hv; cases hv⟩
theorem subs_head (s : Nat) : ∀ k, ∃ t, subs s k = 0 :: t
  | 0 => ⟨[], rfl⟩
  | k + 1 => by
    obtain ⟨t, ht⟩ := subs_head s k
    show ∃ u, (if s.testBit k = true then subs s k ++ (subs s k).map (fun x => x + 2 ^ k) else subs s k) = 0 :: u
    rw [ht]
    split
    · exact ⟨_, rfl⟩
    · exact ⟨_, rfl⟩
theorem subs_chn {s : Nat} (hs : s < 1024) : chn s (subs s 10) = true ∧ (1 : Int32) <<< (bcI (nI s) &&& 31) = nI (subs s 10).length := by
  have h := chkS_all s hs
  unfold chkS at h
  rw [Bool.and_eq_true] at h
  exact ⟨h.1, of_decide_eq_true h.2⟩
theorem subs_len (s : Nat) : (subs s 10).length ≤ 1024 := by
  have h := nodup_le (m := List.range 1024) (subs_nodup s 10) (fun x hx => List.mem_range.mpr (in_subs.mp hx).1)
  rwa [List.length_range] at h
