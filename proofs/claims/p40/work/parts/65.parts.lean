/-! THE PARTS of a packed function -/
theorem dn2 : ∀ v, v < 6 → ∀ j, j < 64 → j.testBit v = true → (j - 2 ^ v).testBit v = false := by decide +kernel
theorem dn3 : ∀ v, v < 6 → ∀ j, j < 64 → j.testBit v = false → 2 ^ v ≤ j → (j - 2 ^ v).testBit v = true := by decide +kernel
theorem sw64 : ∀ v, v < 6 → ∀ b, ∀ j, j < 64 → sw v b j < 64 := by decide +kernel
theorem putTo_ok (st : St) (x : Int64) {v : Nat} (hv : v < 6) (b : Bool) : ∃ r, sX1_putTo st x (nI v) (nI (if b then 1 else 0)) = some r ∧ ∀ j, j < 64 → bt r j = bt x (sw v b j) := by
  obtain ⟨r, e, hr⟩ := wordOfVariable_ok st (v := v) (w := 0) (by omega) (by omega)
  have hr' : ∀ j, j < 64 → bt r j = j.testBit v := fun j hj => by
    have := hr j hj
    rwa [show 64 * 0 + j = j by omega] at this
  have hf : 2 ^ v < 64 := Nat.pow_lt_pow_right (a := 2) (by omega) (show v < 6 by omega)
  unfold sX1_putTo
  rw [n_1, far_lt v hv, lt_e, n_0, e, ob_s]
  simp only [b01]
  cases b
  · rw [if_pos rfl, lt_e]
    refine ⟨_, rfl, fun j hj => ?_⟩
    have hlt : j - 2 ^ v < 64 := Nat.lt_of_le_of_lt (Nat.sub_le _ _) hj
    rw [bt_or, bt_and, bt_not _ hj, hr' j hj, bt_lshl hf hj]
    unfold sw
    cases q : j.testBit v
    · rw [if_pos rfl]
      by_cases z : 2 ^ v ≤ j
      · rw [bt_and, bt_not _ hlt, hr' _ hlt, dn3 v hv j hj q z]
        simp
      · rw [decide_eq_false z]
        simp
    · obtain ⟨g1, g2⟩ := hop_dn v hv j hj q
      rw [if_neg (by decide), bt_and, bt_not _ hlt, hr' _ hlt, dn2 v hv j hj q, decide_eq_true g1, ← g2]
      simp
  · rw [if_neg (by decide), lt_e]
    refine ⟨_, rfl, fun j hj => ?_⟩
    rw [bt_or, bt_and, hr' j hj, bt_lush hf]
    unfold sw
    cases q : j.testBit v
    · obtain ⟨g1, g2, g3⟩ := hop_up v hv j hj q
      rw [if_neg (by decide), bt_and, hr' _ g3, g2, ← g1]
      simp
    · rw [if_pos rfl]
      by_cases z : 2 ^ v + j < 64
      · rw [bt_and, hr' _ z, Nat.testBit_two_pow_add_eq, q]
        simp
      · rw [bt_big (x &&& r) (show 64 ≤ 2 ^ v + j by omega)]
        simp
/-- the first n of a row of longs: each is so, none twice -/
def DPl (row : Nat → Int64) (n : Nat) (Q : Int64 → Prop) : Prop := n ≤ 64 ∧ (∀ i, i < n → Q (row i)) ∧ ∀ i j, i < n → j < n → row i = row j → i = j
theorem keep_L {st : St} {made : Nat} {x : Int64} (hm : made ≤ 64) : ∀ (d n i : Nat), i + d = made → d < n → (∀ j, j < i → st.2.1 16 j ≠ x) →
    (sX1_keep_L3 n st (nI made) x (nI i) = some (.inl (nI made, st)) ∧ ∃ j, j < made ∧ st.2.1 16 j = x) ∨ (sX1_keep_L3 n st (nI made) x (nI i) = some (.inr ()) ∧ ∀ j, j < made → st.2.1 16 j ≠ x) := by
  intro d
  induction d with
  | zero =>
    intro n i hi hn h
    obtain ⟨n, rfl⟩ : ∃ m, n = m + 1 := ⟨n - 1, by omega⟩
    exact Or.inr ⟨by rw [sX1_keep_L3, if_pos (by rw [nI_leE (by omega) (by omega)]; omega)], fun j hj => h j (by omega)⟩
  | succ d ih =>
    intro n i hi hn h
    obtain ⟨n, rfl⟩ : ∃ m, n = m + 1 := ⟨n - 1, by omega⟩
    rw [sX1_keep_L3, if_neg (by rw [nI_leE (by omega) (by omega)]; omega), gd_in (show i < 64 by omega) (by omega), gL_nI (by omega)]
    by_cases q : st.2.1 16 i = x
    · rw [if_neg (fun z => z ((lg_cmp0 _ _).mpr q))]
      exact Or.inl ⟨rfl, i, by omega, q⟩
    · rw [if_pos (fun z => q ((lg_cmp0 _ _).mp z)), nI_add1, lt_e]
      refine ih n (i + 1) (by omega) (by omega) (fun j hj => ?_)
      by_cases e : j = i
      · rw [e]; exact q
      · exact h j (by omega)
theorem keep_ok {st : St} {made : Nat} {x : Int64} {Q : Int64 → Prop} (h : DPl (st.2.1 16) made Q) (hx : Q x) : ∃ m' st', sX1_keep st (nI made) x = some (nI m', st') ∧ DPl (st'.2.1 16) m' Q ∧ LT st st' 16 := by
  obtain ⟨h1, h2, h3⟩ := h
  unfold sX1_keep
  rcases keep_L (st := st) (x := x) h1 made FU 0 (by omega) (by show made < 4000; omega) (fun j hj => by omega) with ⟨e, -⟩ | ⟨e, hno⟩
  · rw [n_0, e, obS_l]
    exact ⟨made, st, rfl, ⟨h1, h2, h3⟩, LT.refl _ _⟩
  · rw [n_0, e, obS_r]
    by_cases q : made < 64
    · rw [if_pos (by rw [n_64, nI_ltE (by omega) (by omega)]; exact q), gd_in q (by omega), lt_e, nI_add1]
      refine ⟨made + 1, _, rfl, ⟨by omega, fun i hi => ?_, fun i j hi hj => ?_⟩, LT_sL st 16 made x (by omega)⟩
      · rw [sL_row st 16 made x (by omega)]
        split
        · exact hx
        · exact h2 i (by omega)
      · rw [sL_row st 16 made x (by omega), sL_row st 16 made x (by omega)]
        by_cases e1 : i = made
        · by_cases e2 : j = made
          · intro _; omega
          · rw [if_pos e1, if_neg e2]
            intro z
            exact absurd z.symm (hno j (by omega))
        · by_cases e2 : j = made
          · rw [if_neg e1, if_pos e2]
            intro z
            exact absurd z (hno i (by omega))
          · rw [if_neg e1, if_neg e2]
            exact h3 i j (by omega) (by omega)
    · rw [if_neg (by rw [n_64, nI_ltE (by omega) (by omega)]; exact q)]
      exact ⟨made, st, rfl, ⟨h1, h2, h3⟩, LT.refl _ _⟩
theorem split_L {count u : Nat} {Q Q' : Int64 → Prop} (hu : u < 6) (hQ : ∀ x r b, Q x → (∀ j, j < 64 → bt r j = bt x (sw u b j)) → Q' r) : ∀ (d n i made : Nat) (st : St), i + d = count → d < n → DPl (st.2.1 15) count Q → DPl (st.2.1 16) made Q' →
    ∃ m' st', sX1_splitAll_L5 n st (nI count) (nI u) (nI made) (nI i) = some (st', nI m') ∧ DPl (st'.2.1 16) m' Q' ∧ LT st st' 16 := by
  intro d
  induction d with
  | zero =>
    intro n i made st hi hn h1 h2
    obtain ⟨n, rfl⟩ : ∃ m, n = m + 1 := ⟨n - 1, by omega⟩
    have hc := h1.1
    exact ⟨made, st, by rw [sX1_splitAll_L5, if_pos (by rw [nI_leE (by omega) (by omega)]; omega)], h2, LT.refl _ _⟩
  | succ d ih =>
    intro n i made st hi hn h1 h2
    obtain ⟨n, rfl⟩ : ∃ m, n = m + 1 := ⟨n - 1, by omega⟩
    have hc := h1.1
    have hi' : i < count := by omega
    obtain ⟨r0, e0, b0⟩ := putTo_ok st (st.2.1 15 i) hu false
    rw [if_neg Bool.false_ne_true, ← n_0] at e0
    obtain ⟨m1, s1, e1, d1, l1⟩ := keep_ok h2 (hQ _ r0 false (h1.2.1 i hi') b0)
    have r15 : s1.2.1 15 = st.2.1 15 := l1.2.2 15 (by omega)
    obtain ⟨r1, e2, b1⟩ := putTo_ok s1 (s1.2.1 15 i) hu true
    rw [if_pos rfl, ← n_1] at e2
    obtain ⟨m2, s2, e3, d2, l2⟩ := keep_ok d1 (hQ _ r1 true (by rw [r15]; exact h1.2.1 i hi') b1)
    have r15' : s2.2.1 15 = st.2.1 15 := (l2.2.2 15 (by omega)).trans r15
    obtain ⟨m3, s3, e4, d3, l3⟩ := ih n (i + 1) m2 s2 (by omega) (by omega) (by rw [r15']; exact h1) d2
    refine ⟨m3, s3, ?_, d3, (l1.trans l2).trans l3⟩
    rw [sX1_splitAll_L5, if_neg (by rw [nI_leE (by omega) (by omega)]; omega), gd_in (show i < 64 by omega) (by omega), gL_nI (by omega), e0, ob_s, e1, ob2_s, gd_in (show i < 64 by omega) (by omega), gL_nI (by omega), e2, ob_s, e3, ob2_s, nI_add1, lt_e]
    exact e4
theorem splitAll_ok {st : St} {count u : Nat} {Q Q' : Int64 → Prop} (hu : u < 6) (hQ : ∀ x r b, Q x → (∀ j, j < 64 → bt r j = bt x (sw u b j)) → Q' r) (h : DPl (st.2.1 15) count Q) :
    ∃ m' st', sX1_splitAll st (nI count) (nI u) = some (nI m', st') ∧ DPl (st'.2.1 15) m' Q' ∧ L2 st st' 15 16 := by
  obtain ⟨m, s1, e1, d1, l1⟩ := split_L hu hQ count FU 0 0 st (by omega) (by have := h.1; show count < 4000; omega) h ⟨by omega, fun i hi => by omega, fun i j hi => by omega⟩
  have hm := d1.1
  unfold sX1_splitAll
  rw [n_0, e1, ob2_s, gd_in (by omega) (by omega), gd_in (by omega) (by omega), gd_in (show m < 65 by omega) (by omega), nI_toN (by omega), nI_toN (by omega), if_pos (by omega), lt_e]
  refine ⟨m, _, rfl, ?_, l1.1, l1.2.1, fun x h15 h16 => ?_⟩
  · have row : ∀ i, i < m → (cL 16 15 s1 (nI 0) (nI 0) (nI m)).2.1 15 i = s1.2.1 16 i := fun i hi => by
      unfold cL
      show (if (15 : Nat) = 15 then va_cpy (s1.2.1 16) (s1.2.1 15) (nI 0).toNatClampNeg (nI 0).toNatClampNeg (nI m).toNatClampNeg else s1.2.1 15 : Nat → Int64) i = _
      rw [if_pos rfl, nI_toN (by omega), nI_toN (by omega)]
      unfold va_cpy
      rw [if_pos (by omega), show 0 + (i - 0) = i by omega]
    refine ⟨hm, fun i hi => by rw [row i hi]; exact d1.2.1 i hi, fun i j hi hj => ?_⟩
    rw [row i hi, row j hj]
    exact d1.2.2 i j hi hj
  · unfold cL
    show (if x = 15 then _ else _) = _
    rw [if_neg h15]
    exact l1.2.2 x h16
/-- a part: the function with some variables put to values -/
def isPart (P : Int64) (m : Nat → Bool) (x : Int64) : Prop := ∃ y : Nat, ∀ i i', i < 64 → i' < 64 → (∀ r, r < 6 → i'.testBit r = if m r then y.testBit r else i.testBit r) → bt x i = bt P i'
def upTo (set u : Nat) : Nat → Bool := fun r => decide (r < u) && set.testBit r
theorem six_ext {a b : Nat} (ha : a < 64) (hb : b < 64) (h : ∀ r, r < 6 → a.testBit r = b.testBit r) : a = b := nat_ext (fun r => by
  by_cases q : r < 6
  · exact h r q
  · have e : ∀ x : Nat, x < 64 → x.testBit r = false := fun x hx => Nat.testBit_lt_two_pow (Nat.lt_of_lt_of_le (show x < 2 ^ 6 from hx) (Nat.pow_le_pow_right (n := 2) (by omega) (show 6 ≤ r by omega)))
    rw [e a ha, e b hb])
theorem part_0 (P : Int64) (set : Nat) : isPart P (upTo set 0) P := ⟨0, fun i i' hi hi' h => by
  rw [six_ext hi hi' (fun r hr => by
    have := h r hr
    unfold upTo at this
    rw [decide_eq_false (by omega), Bool.false_and, if_neg Bool.false_ne_true] at this
    exact this.symm)]⟩
theorem part_skip {P x : Int64} {set u : Nat} (hu : set.testBit u = false) (h : isPart P (upTo set u) x) : isPart P (upTo set (u + 1)) x := by
  have e : upTo set (u + 1) = upTo set u := by
    funext r
    unfold upTo
    by_cases z : r = u
    · rw [z, hu, Bool.and_false, Bool.and_false]
    · have : decide (r < u + 1) = decide (r < u) := by
        rw [decide_eq_decide]
        omega
      rw [this]
  rw [e]
  exact h
theorem part_put {P x r : Int64} {set u : Nat} {b : Bool} (hu6 : u < 6) (hu : set.testBit u = true) (h : isPart P (upTo set u) x) (hr : ∀ j, j < 64 → bt r j = bt x (sw u b j)) : isPart P (upTo set (u + 1)) r := by
  obtain ⟨y, hy⟩ := h
  refine ⟨sw u b y, fun i i' hi hi' hh => ?_⟩
  rw [hr i hi]
  refine hy (sw u b i) i' (sw64 u hu6 b i hi) hi' (fun q hq => ?_)
  rw [hh q hq, sw_bit, sw_bit]
  unfold upTo
  by_cases z : q = u
  · rw [z, decide_eq_true (by omega), decide_eq_false (by omega), hu]
    simp
  · have : decide (q < u + 1) = decide (q < u) := by
      rw [decide_eq_decide]
      omega
    rw [this, if_neg z, if_neg z]
theorem set_bit6 : ∀ s, s < 64 → ∀ i, i < 6 → (((nI s >>> (nI i &&& 31)) &&& (1 : Int32)) = (1 : Int32) ↔ s.testBit i = true) := by decide +kernel
theorem partsOf_L {P : Int64} {set : Nat} (hs : set < 64) : ∀ (d n u count : Nat) (st : St), u + d = 6 → d < n → DPl (st.2.1 15) count (isPart P (upTo set u)) →
    ∃ m' st', sX1_partsOf_L13 n st (nI set) (nI count) (nI u) = some (st', nI m') ∧ DPl (st'.2.1 15) m' (isPart P (upTo set 6)) ∧ L2 st st' 15 16 := by
  intro d
  induction d with
  | zero =>
    intro n u count st hi hn h
    obtain ⟨n, rfl⟩ : ∃ m, n = m + 1 := ⟨n - 1, by omega⟩
    obtain rfl : u = 6 := by omega
    exact ⟨count, st, by rw [sX1_partsOf_L13, if_pos (by rw [n_6, nI_leE (by omega) (by omega)]; omega)], h, L2.refl _ _ _⟩
  | succ d ih =>
    intro n u count st hi hn h
    obtain ⟨n, rfl⟩ : ∃ m, n = m + 1 := ⟨n - 1, by omega⟩
    have hu : u < 6 := by omega
    rw [sX1_partsOf_L13, if_neg (by rw [n_6, nI_leE (by omega) (by omega)]; omega)]
    by_cases q : set.testBit u = true
    · obtain ⟨m1, s1, e1, d1, l1⟩ := splitAll_ok (Q' := isPart P (upTo set (u + 1))) hu (fun x r b hx hr => part_put hu q hx hr) h
      obtain ⟨m2, s2, e2, d2, l2⟩ := ih n (u + 1) m1 s1 (by omega) (by omega) d1
      refine ⟨m2, s2, ?_, d2, l1.trans l2⟩
      rw [if_neg (fun z => z ((set_bit6 set hs u hu).mpr q)), e1, ob2_s, nI_add1, lt_e]
      exact e2
    · obtain ⟨m2, s2, e2, d2, l2⟩ := ih n (u + 1) count st (by omega) (by omega) ⟨h.1, fun i hi => part_skip (Bool.eq_false_iff.mpr q) (h.2.1 i hi), h.2.2⟩
      refine ⟨m2, s2, ?_, d2, l2⟩
      rw [if_pos (fun z => q ((set_bit6 set hs u hu).mp z)), nI_add1, lt_e]
      exact e2
theorem partsOf_ok (st : St) (P : Int64) {set : Nat} (hs : set < 64) : ∃ m' st', sX1_partsOf st P (nI set) = some (nI m', st') ∧ DPl (st'.2.1 15) m' (isPart P (upTo set 6)) ∧ L2 st st' 15 16 := by
  have h0 : DPl ((sL 15 st (nI 0) P).2.1 15) 1 (isPart P (upTo set 0)) := by
    refine ⟨by omega, fun i hi => ?_, fun i j hi hj _ => by omega⟩
    rw [sL_row st 15 0 P (by omega), if_pos (by omega)]
    exact part_0 P set
  obtain ⟨m, s1, e1, d1, l1⟩ := partsOf_L hs 6 FU 0 1 _ (by omega) (by decide) h0
  have l0 := LT_sL st 15 0 P (by omega)
  refine ⟨m, s1, ?_, d1, L2.trans ⟨l0.1, l0.2.1, fun x h15 _ => l0.2.2 x h15⟩ l1⟩
  unfold sX1_partsOf
  rw [n_0, n_1, gd_in (by omega) (by omega), lt_e, e1, ob2_s]
/-- a part depends on a variable -/
noncomputable def dpB (u : Nat) (x : Int64) : Bool := @decide (∃ j, j < 64 ∧ bt x (sw u false j) ≠ bt x (sw u true j)) (Classical.propDecidable _)
theorem dependent_L {st : St} {count u : Nat} (hc : count ≤ 64) (hu : u < 6) : ∀ (d n i : Nat), i + d = count → d < n → sX1_dependent_L5 n st (nI count) (nI u) (nI (cnt i (fun k => dpB u (st.2.1 15 k)))) (nI i) = some (nI (cnt count (fun k => dpB u (st.2.1 15 k)))) := by
  intro d
  induction d with
  | zero =>
    intro n i hi hn
    obtain ⟨n, rfl⟩ : ∃ m, n = m + 1 := ⟨n - 1, by omega⟩
    obtain rfl : i = count := by omega
    rw [sX1_dependent_L5, if_pos (by rw [nI_leE (by omega) (by omega)]; omega)]
  | succ d ih =>
    intro n i hi hn
    obtain ⟨n, rfl⟩ : ∃ m, n = m + 1 := ⟨n - 1, by omega⟩
    obtain ⟨r0, e0, b0⟩ := putTo_ok st (st.2.1 15 i) hu false
    obtain ⟨r1, e1, b1⟩ := putTo_ok st (st.2.1 15 i) hu true
    rw [if_neg Bool.false_ne_true, ← n_0] at e0
    rw [if_pos rfl, ← n_1] at e1
    have e : cnt (i + 1) (fun k => dpB u (st.2.1 15 k)) = cnt i (fun k => dpB u (st.2.1 15 k)) + (if dpB u (st.2.1 15 i) = true then 1 else 0) := rfl
    have hs := ih n (i + 1) (by omega) (by omega)
    rw [e] at hs
    rw [sX1_dependent_L5, if_neg (by rw [nI_leE (by omega) (by omega)]; omega), gd_in (show i < 64 by omega) (by omega), gL_nI (by omega), e0, ob_s, gd_in (show i < 64 by omega) (by omega), e1, ob_s]
    by_cases q : r0 = r1
    · have hd : ¬ dpB u (st.2.1 15 i) = true := fun z => by
        unfold dpB at z
        obtain ⟨j, hj, hne⟩ := (@decide_eq_true_iff _ (Classical.propDecidable _)).mp z
        rw [← b0 j hj, ← b1 j hj, q] at hne
        exact hne rfl
      rw [if_neg hd, Nat.add_zero] at hs
      rw [if_pos ((lg_cmp0 _ _).mpr q), nI_add1, lt_e]
      exact hs
    · have hd : dpB u (st.2.1 15 i) = true := by
        unfold dpB
        refine (@decide_eq_true_iff _ (Classical.propDecidable _)).mpr (Classical.byContradiction (fun z => q ?_))
        refine bt_ext (fun j hj => ?_)
        rw [b0 j hj, b1 j hj]
        exact Classical.byContradiction (fun w => z ⟨j, hj, w⟩)
      rw [if_pos hd] at hs
      rw [if_neg (fun z => q ((lg_cmp0 _ _).mp z)), nI_add1, lt_e, nI_add1, lt_e]
      exact hs
theorem dependent_ok {st : St} {count u : Nat} (hc : count ≤ 64) (hu : u < 6) : sX1_dependent st (nI count) (nI u) = some (nI (cnt count (fun k => dpB u (st.2.1 15 k)))) := by
  have h := dependent_L (st := st) hc hu count FU 0 (by omega) (by show count < 4000; omega)
  rw [show cnt 0 (fun k => dpB u (st.2.1 15 k)) = 0 from rfl] at h
  unfold sX1_dependent
  rw [n_0, h, ob_s]
