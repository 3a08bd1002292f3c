/-! PARTS against NODES: as many parts depend on a variable as there are nodes at its level, at most -/
theorem bits_ex (q : Nat → Bool) : ∀ n, ∃ x, x < 2 ^ n ∧ ∀ r, r < n → x.testBit r = q r
  | 0 => ⟨0, by show 0 < 1; omega, fun r hr => by omega⟩
  | n + 1 => by
    obtain ⟨x, h1, h2⟩ := bits_ex q n
    cases e : q n
    · refine ⟨x, by rw [Nat.pow_succ]; omega, fun r hr => ?_⟩
      by_cases z : r = n
      · rw [z, e]
        exact Nat.testBit_lt_two_pow h1
      · exact h2 r (by omega)
    · refine ⟨x + 2 ^ n, by rw [Nat.pow_succ]; omega, fun r hr => ?_⟩
      rw [add_bit h1]
      by_cases z : r = n
      · rw [z, e, decide_eq_true rfl]
        rfl
      · rw [decide_eq_false z, Bool.false_or]
        exact h2 r (by omega)
theorem SUP_agree {f : Fn} {s a b : Nat} (h : SUP f s) (hf : fin10 f) (hab : ∀ p, p < 10 → s.testBit p = true → a.testBit p = b.testBit p) : f a = f b := by
  have key : ∀ k, k ≤ 10 → ∃ c, f c = f a ∧ (∀ p, p < k → c.testBit p = b.testBit p) ∧ ∀ p, k ≤ p → c.testBit p = a.testBit p := by
    intro k
    induction k with
    | zero => intro _; exact ⟨a, rfl, fun p hp => by omega, fun p _ => rfl⟩
    | succ k ih =>
      intro hk
      obtain ⟨c, h1, h2, h3⟩ := ih (by omega)
      cases q : s.testBit k
      · have hi : indep f k := Classical.byContradiction (fun z => by
          rw [(h.2 k (by omega)).mpr z] at q
          cases q)
        refine ⟨sw k (b.testBit k) c, ?_, fun p hp => ?_, fun p hp => ?_⟩
        · rw [← h1]
          exact congrFun (hi (b.testBit k)) c
        · rw [sw_bit]
          by_cases z : p = k
          · rw [if_pos z, z]
          · rw [if_neg z]
            exact h2 p (by omega)
        · rw [sw_bit, if_neg (by omega)]
          exact h3 p (by omega)
      · refine ⟨c, h1, fun p hp => ?_, fun p hp => h3 p (by omega)⟩
        by_cases z : p = k
        · rw [z, h3 k (Nat.le_refl _)]
          exact hab k (by omega) q
        · exact h2 p (by omega)
  obtain ⟨c, h1, h2, -⟩ := key 10 (Nat.le_refl _)
  rw [← h1]
  exact hf c b h2
/-- the numbers, within the set, of the variables at the levels above -/
def CLv (s : Nat) (o : Nat → Nat) : Nat → Nat
  | 0 => 0
  | L + 1 => if s.testBit (o L) then CLv s o L ||| 2 ^ rk s (o L) else CLv s o L
theorem CLv_bit (s : Nat) (o : Nat → Nat) (r : Nat) : ∀ L, (CLv s o L).testBit r = true ↔ ∃ i, i < L ∧ s.testBit (o i) = true ∧ rk s (o i) = r
  | 0 => by
    rw [show CLv s o 0 = 0 from rfl, Nat.zero_testBit]
    exact ⟨fun z => (by cases z), fun ⟨i, hi, _⟩ => by omega⟩
  | L + 1 => by
    have ih := CLv_bit s o r L
    have e : CLv s o (L + 1) = if s.testBit (o L) = true then CLv s o L ||| 2 ^ rk s (o L) else CLv s o L := rfl
    rw [e]
    by_cases q : s.testBit (o L) = true
    · rw [if_pos q, or_bit, Bool.or_eq_true, ih]
      constructor
      · rintro (⟨i, h1, h2, h3⟩ | h)
        · exact ⟨i, by omega, h2, h3⟩
        · exact ⟨L, by omega, q, of_decide_eq_true h⟩
      · rintro ⟨i, h1, h2, h3⟩
        by_cases z : i = L
        · right
          rw [← h3, z]
          exact decide_eq_true rfl
        · exact Or.inl ⟨i, by omega, h2, h3⟩
    · rw [if_neg q, ih]
      constructor
      · rintro ⟨i, h1, h2, h3⟩
        exact ⟨i, by omega, h2, h3⟩
      · rintro ⟨i, h1, h2, h3⟩
        by_cases z : i = L
        · rw [z] at h2
          exact absurd h2 q
        · exact ⟨i, by omega, h2, h3⟩
theorem CLv_at {s : Nat} {o : Nat → Nat} {p : Nat} (hp : s.testBit p = true) (L : Nat) : (CLv s o L).testBit (rk s p) = true ↔ ∃ i, i < L ∧ o i = p := by
  rw [CLv_bit]
  constructor
  · rintro ⟨i, h1, h2, h3⟩
    exact ⟨i, h1, rk_inj h2 hp h3⟩
  · rintro ⟨i, h1, rfl⟩
    exact ⟨i, h1, hp, rfl⟩
theorem part_fn {f : Fn} {s L y : Nat} {o : Nat → Nat} {P x : Int64} (hf : fin10 f) (hs : SUP f s) (h6 : rk s 10 ≤ 6) (hP : ∀ j, j < 64 → bt P j = f (pd s j 10))
    (hy : ∀ i i', i < 64 → i' < 64 → (∀ r, r < 6 → i'.testBit r = if upTo (CLv s o L) 6 r then y.testBit r else i.testBit r) → bt x i = bt P i') :
    ∀ j, j < 64 → bt x j = rl o (pd s y 10) L f (pd s j 10) := by
  intro j hj
  obtain ⟨j', hj', hb'⟩ := bits_ex (fun r => if upTo (CLv s o L) 6 r then y.testBit r else j.testBit r) 6
  rw [hy j j' hj hj' hb', hP j' hj']
  obtain ⟨b, h1, h2, h3⟩ := @rl_val o (pd s y 10) f L (pd s j 10)
  rw [h1]
  refine SUP_agree hs hf (fun p hp hsp => ?_)
  have hr := rk_lt hp hsp
  rw [pd_bit, decide_eq_true hp, hsp, Bool.true_and, Bool.true_and, hb' _ (by omega)]
  have hu : upTo (CLv s o L) 6 (rk s p) = (CLv s o L).testBit (rk s p) := by
    unfold upTo
    rw [decide_eq_true (by omega), Bool.true_and]
  show (if upTo (CLv s o L) 6 (rk s p) = true then y.testBit (rk s p) else j.testBit (rk s p)) = b.testBit p
  rw [hu]
  by_cases q : (CLv s o L).testBit (rk s p) = true
  · obtain ⟨i, hi, e⟩ := (CLv_at hsp L).mp q
    have := h2 i hi
    rw [e] at this
    rw [if_pos q, this, pd_bit, decide_eq_true hp, hsp, Bool.true_and, Bool.true_and]
  · rw [if_neg q, h3 p (fun i hi e => q ((CLv_at hsp L).mpr ⟨i, hi, e⟩)), pd_bit, decide_eq_true hp, hsp, Bool.true_and, Bool.true_and]
theorem dep_le {f : Fn} {s L count : Nat} {o : Nat → Nat} {P : Int64} {row : Nat → Int64} (ho : oOK o) (hf : fin10 f) (hs : SUP f s) (h6 : rk s 10 ≤ 6) (hP : ∀ j, j < 64 → bt P j = f (pd s j 10)) (hL : L < 10) (hsL : s.testBit (o L) = true)
    (h : DPl row count (isPart P (upTo (CLv s o L) 6))) : cnt count (fun k => dpB (rk s (o L)) (row k)) ≤ nAt [f, f] o L := by
  obtain ⟨-, h2, h3⟩ := h
  have hex : ∀ k, ∃ g : Fn, k < count → g ∈ cofs [f, f] o L ∧ ∀ j, j < 64 → bt (row k) j = g (pd s j 10) := fun k => by
    by_cases hk : k < count
    · obtain ⟨y, hy⟩ := h2 k hk
      exact ⟨rl o (pd s y 10) L f, fun _ => ⟨rl_mem List.mem_cons_self L, part_fn hf hs h6 hP hy⟩⟩
    · exact ⟨f, fun z => absurd z hk⟩
  obtain ⟨G, hG⟩ := Classical.skolem.mp hex
  obtain ⟨m', g1, g2, g3⟩ := dcount_rep (fun x : Fn => x) (nodL [f, f] o L)
  unfold nAt
  rw [← g3, ← cnt_filter]
  have hnd : (((List.range count).filter (fun k => dpB (rk s (o L)) (row k))).map G).Nodup := nodup_map ((range_nodup count).filter _) (fun a b ha hb e => by
    have ha' := List.mem_range.mp (List.mem_filter.mp ha).1
    have hb' := List.mem_range.mp (List.mem_filter.mp hb).1
    refine h3 a b ha' hb' (bt_ext (fun j hj => ?_))
    rw [(hG a ha').2 j hj, (hG b hb').2 j hj, e])
  have hlen := nodup_le (m := m') hnd (fun g hg => by
    obtain ⟨k, hk, rfl⟩ := List.mem_map.mp hg
    obtain ⟨hk1, hk2⟩ := List.mem_filter.mp hk
    have hk' := List.mem_range.mp hk1
    obtain ⟨c1, c2⟩ := hG k hk'
    refine (g2 _).mpr (mem_nodL.mpr ⟨c1, fun hi => ?_⟩)
    unfold dpB at hk2
    obtain ⟨j, hj, hne⟩ := (@decide_eq_true_iff _ (Classical.propDecidable _)).mp hk2
    have hv : rk s (o L) < 6 := Nat.lt_of_lt_of_le (rk_lt (ho.1 L hL) hsL) h6
    apply hne
    have hfg : fin10 (G k) := fin_cofs (S := [f, f]) (fun g hg => by
      rcases List.mem_cons.mp hg with z | z
      · rw [z]; exact hf
      · rw [List.mem_singleton.mp z]; exact hf) L _ c1
    have key : ∀ b, bt (row k) (sw (rk s (o L)) b j) = G k (pd s j 10) := fun b => by
      rw [c2 _ (sw64 _ hv b j hj)]
      have e1 : G k (pd s (sw (rk s (o L)) b j) 10) = G k (sw (o L) b (pd s j 10)) := hfg _ _ (fun q hq => by
        rw [pd_bit, sw_bit, sw_bit, pd_bit, decide_eq_true hq, Bool.true_and, Bool.true_and]
        by_cases z : q = o L
        · rw [if_pos z, z, hsL, if_pos rfl, Bool.true_and]
        · rw [if_neg z]
          cases w : s.testBit q
          · rw [Bool.false_and, Bool.false_and]
          · rw [if_neg (fun e => z (rk_inj w hsL e))])
      rw [e1]
      exact congrFun (hi b) (pd s j 10)
    rw [key, key])
  rwa [List.length_map] at hlen
