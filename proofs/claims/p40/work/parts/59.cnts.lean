/-! COUNTS of a table: models, changes; the first model, and others -/
theorem cnt64 (f : Nat → Bool) (w : Nat) : cnt (64 * (w + 1)) f = cnt (64 * w) f + cnt 64 (fun j => f (64 * w + j)) := by
  rw [show 64 * (w + 1) = 64 * w + 64 by omega, cnt_app]
theorem count_L (st : St) (t : Nat) : ∀ (k n w : Nat), w + k = 16 → k < n → sX2_count_L4 n st t (nI (cnt (64 * w) (tb st t))) (nI w) = some (nI (cnt 1024 (tb st t))) := by
  intro k
  induction k with
  | zero =>
    intro n w hw hn
    obtain ⟨n, rfl⟩ : ∃ m, n = m + 1 := ⟨n - 1, by omega⟩
    obtain rfl : w = 16 := by omega
    rw [sX2_count_L4, if_pos (by rw [w16 (by omega)]; omega), show 64 * 16 = 1024 by decide]
  | succ k ih =>
    intro n w hw hn
    obtain ⟨n, rfl⟩ : ∃ m, n = m + 1 := ⟨n - 1, by omega⟩
    have h16 : w < 16 := by omega
    have e : cnt 64 (bt (st.2.1 t w)) = cnt 64 (fun j => tb st t (64 * w + j)) := cnt_congr (fun j hj => (tb_at st t h16 hj).symm)
    rw [sX2_count_L4, if_neg (by rw [w16 (by omega)]; omega), gd_in h16 (by omega), gL_nI (by omega), bitCount_64, ob_s, nI_addE, lt_e, nI_add1, lt_e, e, ← cnt64]
    exact ih n (w + 1) (by omega) (by omega)
theorem count_tb (st : St) (t : Nat) : sX2_count st t = some (nI (cnt 1024 (tb st t))) := by
  have h := count_L st t 16 FU 0 (by decide) (by decide)
  rw [Nat.mul_zero] at h
  have z : cnt 0 (tb st t) = 0 := rfl
  rw [z] at h
  unfold sX2_count
  rw [n_0, h, ob_s]
/-- where a function would tell something else with a variable changed -/
def chg (w : Nat) (f : Fn) : Fn := fun x => f x ^^ f (x ^^^ 2 ^ w)
theorem changes_L (st : St) {t v : Nat} (hv : v < 10) : ∀ (k n w : Nat), w + k = 16 → k < n → sX2_changes_L4 n st t (nI v) (nI (cnt (64 * w) (chg v (tb st t)))) (nI w) = some (nI (cnt 1024 (chg v (tb st t)))) := by
  intro k
  induction k with
  | zero =>
    intro n w hw hn
    obtain ⟨n, rfl⟩ : ∃ m, n = m + 1 := ⟨n - 1, by omega⟩
    obtain rfl : w = 16 := by omega
    rw [sX2_changes_L4, if_pos (by rw [w16 (by omega)]; omega), show 64 * 16 = 1024 by decide]
  | succ k ih =>
    intro n w hw hn
    obtain ⟨n, rfl⟩ : ∃ m, n = m + 1 := ⟨n - 1, by omega⟩
    have h16 : w < 16 := by omega
    obtain ⟨r, e1, hr⟩ := wordAcross_ok st (t := t) hv h16
    have e : cnt 64 (bt (st.2.1 t w ^^^ r)) = cnt 64 (fun j => chg v (tb st t) (64 * w + j)) := cnt_congr (fun j hj => by
      rw [bt_xor, hr j hj, ← tb_at st t h16 hj]
      rfl)
    rw [sX2_changes_L4, if_neg (by rw [w16 (by omega)]; omega), gd_in h16 (by omega), e1, ob_s, gL_nI (by omega), bitCount_64, ob_s, nI_addE, lt_e, nI_add1, lt_e, e, ← cnt64]
    exact ih n (w + 1) (by omega) (by omega)
theorem changes_tb (st : St) {t v : Nat} (hv : v < 10) : sX2_changes st t (nI v) = some (nI (cnt 1024 (chg v (tb st t)))) := by
  have h := changes_L st (t := t) hv 16 FU 0 (by decide) (by decide)
  rw [Nat.mul_zero] at h
  have z : cnt 0 (chg v (tb st t)) = 0 := rfl
  rw [z] at h
  unfold sX2_changes
  rw [n_0, h, ob_s]
theorem least_ex {p : Nat → Bool} : ∀ (n i : Nat), i < n → p i = true → ∃ j, j ≤ i ∧ p j = true ∧ ∀ k, k < j → p k = false
  | 0, i, h, _ => by omega
  | n + 1, i, h, hp => by
    by_cases q : ∀ k, k < i → p k = false
    · exact ⟨i, Nat.le_refl _, hp, q⟩
    · obtain ⟨k, hk⟩ := Classical.not_forall.mp q
      obtain ⟨hk1, hk2⟩ := Classical.not_imp.mp hk
      obtain ⟨j, h1, h2, h3⟩ := least_ex n k (by omega) (by simpa using hk2)
      exact ⟨j, by omega, h2, h3⟩
theorem cnt_ones : ∀ (N : Nat) (p : Nat → Bool), (∀ i, i < N → p i = true) → cnt N p = N
  | 0, _, _ => rfl
  | N + 1, p, h => by
    show cnt N p + (if p N then 1 else 0) = N + 1
    rw [cnt_ones N p (fun i hi => h i (by omega)), h N (by omega), if_pos rfl]
/-- the lowest bit of a word, alone -/
theorem tz_ok {w : Int64} {j0 : Nat} (h0 : j0 < 64) (h1 : bt w j0 = true) (h2 : ∀ k, k < j0 → bt w k = false) : cnt 64 (bt ((w ^^^ (-1 : Int64)) &&& (w - (1 : Int64)))) = j0 := by
  have hn : un w % 2 ^ j0 = 0 := Nat.eq_of_testBit_eq (fun i => by
    rw [Nat.testBit_mod_two_pow, Nat.zero_testBit]
    by_cases q : i < j0
    · have := h2 i q
      unfold bt at this
      rw [this, Bool.and_false]
    · rw [decide_eq_false q, Bool.false_and])
  have hp : 0 < 2 ^ j0 := Nat.pow_pos (by omega)
  have hd : 2 ^ j0 * (un w / 2 ^ j0) = un w := by
    have := Nat.div_add_mod (un w) (2 ^ j0)
    omega
  have ho : (un w / 2 ^ j0) % 2 = 1 := by
    have h3 : (un w / 2 ^ j0).testBit 0 = true := by
      rw [Nat.testBit_div_two_pow, Nat.zero_add]
      exact h1
    rw [Nat.testBit_zero] at h3
    exact of_decide_eq_true h3
  generalize hq : un w / 2 ^ j0 = q at hd ho
  have hq1 : q = 2 * (q / 2) + 1 := by omega
  have h1w : un (w - (1 : Int64)) = un w - 1 := by
    have e1 : un (1 : Int64) = 1 := by decide +kernel
    have : 1 ≤ un w := by
      rw [← hd]
      have := Nat.mul_le_mul hp (show 1 ≤ q by omega)
      omega
    rw [un_sub (by rw [e1]; exact this), e1]
  have hm1 : un w - 1 = 2 ^ j0 * (2 * (q / 2)) + (2 ^ j0 - 1) := by
    rw [← hd]
    have : 2 ^ j0 * q = 2 ^ j0 * (2 * (q / 2)) + 2 ^ j0 := by
      rw [hq1, Nat.mul_add, Nat.mul_one]
      congr 3
      omega
    omega
  have hw : un w = 2 ^ j0 * q + 0 := by rw [hd, Nat.add_zero]
  have key : ∀ j, j < 64 → bt ((w ^^^ (-1 : Int64)) &&& (w - (1 : Int64))) j = decide (j < j0) := fun j hj => by
    rw [bt_and, bt_not _ hj]
    have e2 : bt (w - (1 : Int64)) j = if j < j0 then (2 ^ j0 - 1).testBit j else (2 * (q / 2)).testBit (j - j0) := by
      unfold bt
      rw [h1w, hm1]
      exact Nat.testBit_two_pow_mul_add _ (by omega) j
    have e3 : bt w j = if j < j0 then (0 : Nat).testBit j else q.testBit (j - j0) := by
      unfold bt
      rw [hw]
      exact Nat.testBit_two_pow_mul_add _ hp j
    rw [e2, e3]
    by_cases z : j < j0
    · rw [if_pos z, if_pos z, Nat.zero_testBit, Nat.testBit_two_pow_sub_one, decide_eq_true z]
      rfl
    · rw [if_neg z, if_neg z, decide_eq_false z]
      obtain ⟨d, hd'⟩ : ∃ d, j - j0 = d := ⟨_, rfl⟩
      rw [hd']
      cases d with
      | zero =>
        rw [Nat.testBit_zero, Nat.testBit_zero, decide_eq_true ho]
        rfl
      | succ d =>
        rw [Nat.testBit_succ, Nat.testBit_succ, show 2 * (q / 2) / 2 = q / 2 by omega]
        cases (q / 2).testBit d <;> rfl
  rw [cnt_congr key]
  obtain ⟨m, hm⟩ : ∃ m, 64 = j0 + m := ⟨64 - j0, by omega⟩
  rw [hm, cnt_app, cnt_ones j0 _ (fun i hi => decide_eq_true hi), cnt_zero (fun i _ => decide_eq_false (by omega)), Nat.add_zero]
theorem nw5_0 (st : St) (w : Int64) (n : Nat) : sX2_nthInWord_L5 (n + 1) st (nI 0) w (nI 0) = some w := by
  rw [sX2_nthInWord_L5, if_pos (by rw [nI_leE (by omega) (by omega)]; omega)]
theorem nthInWord_0 (st : St) {w : Int64} {j0 : Nat} (h0 : j0 < 64) (h1 : bt w j0 = true) (h2 : ∀ k, k < j0 → bt w k = false) : sX2_nthInWord st w (nI 0) = some (nI j0) := by
  unfold sX2_nthInWord
  rw [n_0, show FU = 3999 + 1 from rfl, nw5_0, ob_s, bitCount_64, ob_s, tz_ok h0 h1 h2]
theorem nth0_L (st : St) (t : Nat) : ∀ (k n w : Nat), w + k = 16 → k < n → (∀ x, x < 64 * w → tb st t x = false) →
    (sX2_nth_L4 n st t (nI 0) (nI w) = some (.inr ()) ∧ ∀ x, x < 1024 → tb st t x = false) ∨ ∃ x, x < 1024 ∧ tb st t x = true ∧ (∀ y, y < x → tb st t y = false) ∧ sX2_nth_L4 n st t (nI 0) (nI w) = some (.inl (nI x)) := by
  intro k
  induction k with
  | zero =>
    intro n w hw hn hz
    obtain ⟨n, rfl⟩ : ∃ m, n = m + 1 := ⟨n - 1, by omega⟩
    obtain rfl : w = 16 := by omega
    exact Or.inl ⟨by rw [sX2_nth_L4, if_pos (by rw [w16 (by omega)]; omega)], fun x hx => hz x (by omega)⟩
  | succ k ih =>
    intro n w hw hn hz
    obtain ⟨n, rfl⟩ : ∃ m, n = m + 1 := ⟨n - 1, by omega⟩
    have h16 : w < 16 := by omega
    have hc := cnt_le 64 (bt (st.2.1 t w))
    rw [sX2_nth_L4, if_neg (by rw [w16 (by omega)]; omega), gd_in h16 (by omega), gL_nI (by omega), bitCount_64, ob_s]
    by_cases q : cnt 64 (bt (st.2.1 t w)) = 0
    · rw [if_pos (by rw [nI_leE (by omega) (by omega)]; omega), nI_subE (by omega), lt_e, nI_add1, lt_e, q, Nat.sub_zero]
      refine ih n (w + 1) (by omega) (by omega) (fun x hx => ?_)
      by_cases z : x < 64 * w
      · exact hz x z
      · have := cnt_none q (i := x - 64 * w) (by omega)
        rw [← tb_at st t h16 (by omega)] at this
        rwa [show 64 * w + (x - 64 * w) = x by omega] at this
    · obtain ⟨i, hi, hp⟩ := cnt_ex (Nat.pos_of_ne_zero q)
      obtain ⟨j, h1, h2, h3⟩ := least_ex 64 i hi hp
      have hj : j < 64 := by omega
      rw [if_neg (by rw [nI_leE (by omega) (by omega)]; omega), gd_in h16 (by omega), nthInWord_0 st hj h2 h3, ob_s, n_64, nI_mulE, nI_addE, Nat.mul_comm]
      refine Or.inr ⟨64 * w + j, by omega, by rw [tb_at st t h16 hj]; exact h2, fun y hy => ?_, rfl⟩
      by_cases z : y < 64 * w
      · exact hz y z
      · have := h3 (y - 64 * w) (by omega)
        rw [← tb_at st t h16 (by omega)] at this
        rwa [show 64 * w + (y - 64 * w) = y by omega] at this
/-- the first model of a function, or -1 -/
def isFirst (f : Fn) (r : Int32) : Prop := (r = -1 ∧ ∀ x, x < 1024 → f x = false) ∨ ∃ x, x < 1024 ∧ f x = true ∧ (∀ y, y < x → f y = false) ∧ r = nI x
theorem first_uniq {f : Fn} {a b : Int32} (ha : isFirst f a) (hb : isFirst f b) : a = b := by
  rcases ha with ⟨a1, a2⟩ | ⟨x, a1, a2, a3, a4⟩
  · rcases hb with ⟨b1, -⟩ | ⟨y, b1, b2, -, -⟩
    · rw [a1, b1]
    · rw [a2 y b1] at b2; cases b2
  · rcases hb with ⟨-, b2⟩ | ⟨y, b1, b2, b3, b4⟩
    · rw [b2 x a1] at a2; cases a2
    · have : x = y := by
        rcases Nat.lt_trichotomy x y with z | z | z
        · rw [b3 x z] at a2; cases a2
        · exact z
        · rw [a3 y z] at b2; cases b2
      rw [a4, b4, this]
theorem nth_0 (st : St) (t : Nat) : ∃ r, sX2_nth st t (nI 0) = some r ∧ isFirst (tb st t) r := by
  unfold sX2_nth
  rcases nth0_L st t 16 FU 0 (by decide) (by decide) (fun x hx => by omega) with ⟨e, h⟩ | ⟨x, h1, h2, h3, e⟩
  · rw [n_0, e, obS_r]
    exact ⟨_, rfl, Or.inl ⟨rfl, h⟩⟩
  · rw [n_0, e, obS_l]
    exact ⟨_, rfl, Or.inr ⟨x, h1, h2, h3, rfl⟩⟩
/-! other models: that they are told, and alike for the same words -/
theorem nw5_st (s1 s2 : St) : ∀ (n : Nat) (a : Int32) (x : Int64) (b : Int32), sX2_nthInWord_L5 n s1 a x b = sX2_nthInWord_L5 n s2 a x b
  | 0, _, _, _ => rfl
  | n + 1, a, x, b => by
    rw [sX2_nthInWord_L5, sX2_nthInWord_L5]
    by_cases q : a ≤ b
    · rw [if_pos q, if_pos q]
    · rw [if_neg q, if_neg q, lt_e, lt_e, lt_e, lt_e]
      exact nw5_st s1 s2 n _ _ _
theorem nw5_tot (st : St) (q : Nat) (hq : q < 2000) : ∀ (d n i : Nat) (x : Int64), i + d = q → d < n → ∃ y, sX2_nthInWord_L5 n st (nI q) x (nI i) = some y := by
  intro d
  induction d with
  | zero =>
    intro n i x hi hn
    obtain ⟨n, rfl⟩ : ∃ m, n = m + 1 := ⟨n - 1, by omega⟩
    exact ⟨x, by rw [sX2_nthInWord_L5, if_pos (by rw [nI_leE (by omega) (by omega)]; omega)]⟩
  | succ d ih =>
    intro n i x hi hn
    obtain ⟨n, rfl⟩ : ∃ m, n = m + 1 := ⟨n - 1, by omega⟩
    rw [sX2_nthInWord_L5, if_neg (by rw [nI_leE (by omega) (by omega)]; omega), lt_e, nI_add1, lt_e]
    exact ih n (i + 1) _ (by omega) (by omega)
theorem nthInWord_tot (st : St) (x : Int64) {q : Nat} (hq : q < 2000) : ∃ r, sX2_nthInWord st x (nI q) = some r := by
  obtain ⟨y, e⟩ := nw5_tot st q hq q FU 0 x (by omega) (by show _ < 4000; omega)
  unfold sX2_nthInWord
  rw [n_0, e, ob_s, bitCount_64, ob_s]
  exact ⟨_, rfl⟩
theorem nthInWord_st (s1 s2 : St) (x : Int64) (q : Int32) : sX2_nthInWord s1 x q = sX2_nthInWord s2 x q := by
  unfold sX2_nthInWord
  rw [nw5_st s1 s2]
  congr 1
theorem nth_tot (st : St) (t : Nat) : ∀ (k n w q : Nat), w + k = 16 → k < n → q < 2000 → ∃ z, sX2_nth_L4 n st t (nI q) (nI w) = some z := by
  intro k
  induction k with
  | zero =>
    intro n w q hw hn hq
    obtain ⟨n, rfl⟩ : ∃ m, n = m + 1 := ⟨n - 1, by omega⟩
    obtain rfl : w = 16 := by omega
    exact ⟨_, by rw [sX2_nth_L4, if_pos (by rw [w16 (by omega)]; omega)]⟩
  | succ k ih =>
    intro n w q hw hn hq
    obtain ⟨n, rfl⟩ : ∃ m, n = m + 1 := ⟨n - 1, by omega⟩
    have h16 : w < 16 := by omega
    have hc := cnt_le 64 (bt (st.2.1 t w))
    rw [sX2_nth_L4, if_neg (by rw [w16 (by omega)]; omega), gd_in h16 (by omega), gL_nI (by omega), bitCount_64, ob_s]
    by_cases z : cnt 64 (bt (st.2.1 t w)) ≤ q
    · rw [if_pos (by rw [nI_leE (by omega) (by omega)]; omega), nI_subE z, lt_e, nI_add1, lt_e]
      exact ih n (w + 1) _ (by omega) (by omega) (by omega)
    · obtain ⟨r, e⟩ := nthInWord_tot st (st.2.1 t w) hq
      rw [if_neg (by rw [nI_leE (by omega) (by omega)]; omega), gd_in h16 (by omega), e, ob_s]
      exact ⟨_, rfl⟩
theorem nth_cong {s1 s2 : St} {t1 t2 : Nat} (h : ∀ w, w < 16 → s1.2.1 t1 w = s2.2.1 t2 w) : ∀ (k n w : Nat) (q : Int32), w + k = 16 → sX2_nth_L4 n s1 t1 q (nI w) = sX2_nth_L4 n s2 t2 q (nI w) := by
  intro k
  induction k with
  | zero =>
    intro n w q hw
    cases n with
    | zero => rfl
    | succ n =>
      obtain rfl : w = 16 := by omega
      rw [sX2_nth_L4, sX2_nth_L4, if_pos (by rw [w16 (by omega)]; omega), if_pos (by rw [w16 (by omega)]; omega)]
  | succ k ih =>
    intro n w q hw
    cases n with
    | zero => rfl
    | succ n =>
      have h16 : w < 16 := by omega
      rw [sX2_nth_L4, sX2_nth_L4, if_neg (by rw [w16 (by omega)]; omega), if_neg (by rw [w16 (by omega)]; omega)]
      simp only [gd_in h16 (show 16 ≤ 2147483648 by omega)]
      rw [gL_nI (by omega), gL_nI (by omega), bitCount_64, bitCount_64, ob_s, ob_s, h w h16]
      by_cases z : nI (cnt 64 (bt (s2.2.1 t2 w))) ≤ q
      · rw [if_pos z, if_pos z, lt_e, lt_e, nI_add1, lt_e, lt_e]
        exact ih n (w + 1) _ (by omega)
      · rw [if_neg z, if_neg z, nthInWord_st s1 s2]
theorem tb_words {s1 s2 : St} {t1 t2 : Nat} (h : tb s1 t1 = tb s2 t2) {w : Nat} (hw : w < 16) : s1.2.1 t1 w = s2.2.1 t2 w :=
  bt_ext (fun j hj => by rw [← tb_at s1 t1 hw hj, ← tb_at s2 t2 hw hj, h])
/-- what a function's model with a number is told as -/
noncomputable def mdl (f : Fn) (q : Nat) : Int32 :=
  @dite Int32 (∃ p : St × Nat, tb p.1 p.2 = f) (Classical.propDecidable _) (fun h => (sX2_nth (Classical.choose h).1 (Classical.choose h).2 (nI q)).getD 0) (fun _ => 0)
theorem nth_ok (st : St) (t : Nat) {q : Nat} (hq : q < 2000) : sX2_nth st t (nI q) = some (mdl (tb st t) q) := by
  have hex : ∃ p : St × Nat, tb p.1 p.2 = tb st t := ⟨(st, t), rfl⟩
  have hs := Classical.choose_spec hex
  have e : sX2_nth (Classical.choose hex).1 (Classical.choose hex).2 (nI q) = sX2_nth st t (nI q) := by
    unfold sX2_nth
    rw [n_0, nth_cong (fun w hw => tb_words hs hw) 16 FU 0 (nI q) (by decide)]
  have hd : mdl (tb st t) q = (sX2_nth (Classical.choose hex).1 (Classical.choose hex).2 (nI q)).getD 0 := by
    unfold mdl
    rw [dif_pos hex]
  obtain ⟨z, hz⟩ := nth_tot st t 16 FU 0 q (by decide) (by decide) hq
  have hs2 : ∃ r, sX2_nth st t (nI q) = some r := by
    unfold sX2_nth
    rw [n_0, hz]
    rcases z with a | c
    · exact ⟨a, by rw [obS_l]⟩
    · exact ⟨_, by rw [obS_r]⟩
  obtain ⟨r, hr⟩ := hs2
  rw [hd, e, hr]
  rfl
theorem mdl_0 {f : Fn} {st : St} {t : Nat} (h : tb st t = f) : isFirst f (mdl f 0) := by
  obtain ⟨r, e, h1⟩ := nth_0 st t
  rw [nth_ok st t (by omega), h] at e
  rw [h, ← Option.some.inj e] at h1
  exact h1
