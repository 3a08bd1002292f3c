/-! WHAT A TABLE DEPENDS ON -/
def SUP (f : Fn) (set : Nat) : Prop := set < 1024 ∧ ∀ w, w < 10 → (set.testBit w = true ↔ ¬ indep f w)
theorem SUP_uniq {f : Fn} {a b : Nat} (ha : SUP f a) (hb : SUP f b) : a = b := nat_ext (fun w => by
  by_cases q : w < 10
  · have h1 := ha.2 w q
    have h2 := hb.2 w q
    cases e1 : a.testBit w
    · cases e2 : b.testBit w
      · rfl
      · rw [e2] at h2; rw [e1] at h1
        exact absurd (h1.mpr (h2.mp rfl)) Bool.false_ne_true
    · cases e2 : b.testBit w
      · rw [e2] at h2; rw [e1] at h1
        exact absurd (h2.mpr (h1.mp rfl)) Bool.false_ne_true
      · rfl
  · rw [big_bit ha.1 (by omega), big_bit hb.1 (by omega)])
theorem sw_not (w x : Nat) : sw w (!x.testBit w) x = x ^^^ 2 ^ w := by
  unfold sw
  rw [if_neg (by cases x.testBit w <;> simp)]
theorem indep_xor {f : Fn} {w : Nat} : indep f w ↔ ∀ x, f x = f (x ^^^ 2 ^ w) := by
  constructor
  · intro h x
    have := congrFun (h (!x.testBit w)) x
    unfold co at this
    rw [sw_not] at this
    exact this.symm
  · intro h b
    funext x
    show f (sw w b x) = f x
    unfold sw
    split
    · rfl
    · exact (h x).symm
theorem moved_L (st : St) {t w : Nat} (hw : w < 10) : ∀ (k n i : Nat), i + k = 16 → k < n → (∀ a j, a < i → j < 64 → tb st t (64 * a + j) = tb st t ((64 * a + j) ^^^ 2 ^ w)) →
    (sX2_isMovedBy_L2 n st t (nI w) (nI i) = some (.inl 1) ∧ ∃ x, tb st t x ≠ tb st t (x ^^^ 2 ^ w)) ∨ (sX2_isMovedBy_L2 n st t (nI w) (nI i) = some (.inr ()) ∧ ∀ a j, a < 16 → j < 64 → tb st t (64 * a + j) = tb st t ((64 * a + j) ^^^ 2 ^ w)) := by
  intro k
  induction k with
  | zero =>
    intro n i hi hn h
    obtain ⟨n, rfl⟩ : ∃ q, n = q + 1 := ⟨n - 1, by omega⟩
    obtain rfl : i = 16 := by omega
    exact Or.inr ⟨by rw [sX2_isMovedBy_L2, if_pos (by rw [w16 (Nat.le_refl _)]; omega)], h⟩
  | succ k ih =>
    intro n i hi hn h
    obtain ⟨n, rfl⟩ : ∃ q, n = q + 1 := ⟨n - 1, by omega⟩
    have hi16 : i < 16 := by omega
    obtain ⟨r, er, hr⟩ := wordAcross_ok st (t := t) hw hi16
    rw [sX2_isMovedBy_L2, if_neg (by rw [w16 (by omega)]; omega), gd_in hi16 (by omega), er, ob_s, gL_nI (by omega)]
    by_cases q : st.2.1 t i = r
    · rw [if_pos ((lg_cmp0 _ _).mpr q), nI_add1, lt_e]
      refine ih n (i + 1) (by omega) (by omega) (fun a j ha hj => ?_)
      by_cases e : a = i
      · rw [e, ← hr j hj, ← q, tb_at st t hi16 hj]
      · exact h a j (by omega) hj
    · rw [if_neg (fun z => q ((lg_cmp0 _ _).mp z))]
      refine Or.inl ⟨rfl, Classical.byContradiction (fun hc => q (bt_ext (fun j hj => ?_)))⟩
      rw [hr j hj, ← tb_at st t hi16 hj]
      exact Classical.byContradiction (fun z => hc ⟨_, z⟩)
theorem isMovedBy_ok (st : St) {t w : Nat} (hw : w < 10) : ∃ b : Bool, sX2_isMovedBy st t (nI w) = some (nI (if b then 1 else 0)) ∧ (b = true ↔ ¬ indep (tb st t) w) := by
  unfold sX2_isMovedBy
  rcases moved_L st (t := t) hw 16 FU 0 rfl (by decide) (fun a j ha => by omega) with ⟨e, x, hx⟩ | ⟨e, h⟩
  · refine ⟨true, ?_, ⟨fun _ hi => hx (indep_xor.mp hi x), fun _ => rfl⟩⟩
    rw [n_0, e, obS_l, if_pos rfl, n_1]
  · refine ⟨false, ?_, ⟨fun z => absurd z Bool.false_ne_true, fun z => absurd ?_ z⟩⟩
    · rw [n_0, e, obS_r, if_neg Bool.false_ne_true]
    · rw [indep_xor]
      have : tb st t = fun x => tb st t (x ^^^ 2 ^ w) := fin_ext (tb_fin st t) (fin_xor (tb_fin st t) w) h
      exact fun x => congrFun this x
theorem dep_L (st : St) {t : Nat} : ∀ (k n i s : Nat), i + k = 10 → k < n → s < 1024 → (∀ w, w < 10 → (s.testBit w = true ↔ w < i ∧ ¬ indep (tb st t) w)) → ∃ s', sX2_dependsOn_L4 n st t (nI s) (nI i) = some (nI s') ∧ SUP (tb st t) s' := by
  intro k
  induction k with
  | zero =>
    intro n i s hi hn hs h
    obtain ⟨n, rfl⟩ : ∃ q, n = q + 1 := ⟨n - 1, by omega⟩
    obtain rfl : i = 10 := by omega
    refine ⟨s, by rw [sX2_dependsOn_L4, if_pos (by rw [n_10, nI_leE (by omega) (by omega)]; omega)], hs, fun w hw => ?_⟩
    rw [h w hw]
    exact ⟨fun z => z.2, fun z => ⟨hw, z⟩⟩
  | succ k ih =>
    intro n i s hi hn hs h
    obtain ⟨n, rfl⟩ : ∃ q, n = q + 1 := ⟨n - 1, by omega⟩
    have hi10 : i < 10 := by omega
    obtain ⟨b, eb, hb⟩ := isMovedBy_ok st (t := t) hi10
    rw [sX2_dependsOn_L4, if_neg (by rw [n_10, nI_leE (by omega) (by omega)]; omega), eb, ob_s]
    cases b
    · rw [if_neg Bool.false_ne_true, if_pos n_0.symm, nI_add1, lt_e]
      refine ih n (i + 1) s (by omega) (by omega) hs (fun w hw => ?_)
      rw [h w hw]
      refine ⟨fun z => ⟨by omega, z.2⟩, fun z => ⟨?_, z.2⟩⟩
      have : w ≠ i := fun e => by
        rw [e] at z
        exact absurd (hb.mpr z.2) Bool.false_ne_true
      omega
    · rw [if_pos rfl, if_neg nI1_ne, bit10 i hi10, s_or s hs i hi10, lt_e, nI_add1, lt_e]
      refine ih n (i + 1) (s ||| 2 ^ i) (by omega) (by omega) (or_lt hs hi10) (fun w hw => ?_)
      rw [or_bit, Bool.or_eq_true, h w hw]
      constructor
      · rintro (z | z)
        · exact ⟨by omega, z.2⟩
        · have := of_decide_eq_true z
          rw [← this]
          exact ⟨by omega, hb.mp rfl⟩
      · rintro ⟨z1, z2⟩
        by_cases e : i = w
        · exact Or.inr (decide_eq_true e)
        · exact Or.inl ⟨by omega, z2⟩
theorem dependsOn_ok (st : St) (t : Nat) : ∃ s, sX2_dependsOn st t = some (nI s) ∧ SUP (tb st t) s := by
  obtain ⟨s, e, h⟩ := dep_L st (t := t) 10 FU 0 0 rfl (by decide) (by omega) (fun w hw => by
    rw [Nat.zero_testBit]
    exact ⟨fun z => absurd z Bool.false_ne_true, fun z => by omega⟩)
  refine ⟨s, ?_, h⟩
  unfold sX2_dependsOn
  rw [n_0, e, ob_s]
