/-! SETTLING -/
theorem GD_cong {st st' : St} {al : Nat → Bool} {o : Nat → Nat} {D : Nat → Fn} (G : GD st al o D) (hv : ∀ r, 4 ≤ r → r ≤ 12 → v r st' = v r st) (h0 : fv 0 st' = fv 0 st) (h1 : fv 1 st' = fv 1 st) (hn : NN st') : GD st' al o D ∧ FS st' D = FS st D := by
  have e4 := hv 4 (by omega) (by omega)
  have e5 := hv 5 (by omega) (by omega)
  have e6 := hv 6 (by omega) (by omega)
  have e7 := hv 7 (by omega) (by omega)
  have e8 := hv 8 (by omega) (by omega)
  have e9 := hv 9 (by omega) (by omega)
  have e10 := hv 10 (by omega) (by omega)
  have e11 := hv 11 (by omega) (by omega)
  have e12 := hv 12 (by omega) (by omega)
  have eb : bk st' = bk st := by funext n; unfold bk; rw [e8, e9, e10]
  have er : refs st' = refs st := by funext a n; unfold refs; rw [e5, e9, e10]
  obtain ⟨⟨⟨-, hC, hF, hN, hS⟩, hP⟩, hD, ho, hp, hf⟩ := G
  refine ⟨⟨⟨⟨hn, ?_, ?_, ?_, ?_⟩, ?_⟩, ?_, ?_, ?_, ?_⟩, ?_⟩
  · unfold CH; rw [e11, e7, eb]; exact hC
  · unfold FR; rw [e11, h0]; exact hF
  · unfold NC; rw [e6, e8, h1]; exact hN
  · unfold SH; rw [e8, e9, e10, e5]; exact hS
  · unfold PR; rw [e12, er]; exact hP
  · rw [e8, e9, e10]; exact hD
  · rw [e4]; exact ho
  · rw [e12]; exact hp
  · rw [e5]; exact hf
  · unfold FS; rw [e5]
theorem OS_cong {S : List Fn} {o : Nat → Nat} {st st' : St} (h : OS S o st) (hv : ∀ r, 4 ≤ r → r ≤ 12 → v r st' = v r st) (h0 : fv 0 st' = fv 0 st) (h1 : fv 1 st' = fv 1 st) (hn : NN st') : OS S o st' := by
  obtain ⟨al, D, G, rfl⟩ := h
  obtain ⟨G', e⟩ := GD_cong G hv h0 h1 hn
  exact ⟨al, D, G', e⟩
theorem NN_s3 {st : St} (h : NN st) (i x : Int32) : NN (sI 3 st i x) := by
  refine ⟨fun r j hr => ?_, h.2⟩
  have : (sI 3 st i x).1 r = st.1 r := (Fr_sI st 3 i x).1 r (by simp; exact hr)
  rw [this]
  exact h.1 r j hr
theorem OS_s3 {S : List Fn} {o : Nat → Nat} {st : St} (h : OS S o st) (i x : Int32) : OS S o (sI 3 st i x) ∧ FO st (sI 3 st i x) := by
  refine ⟨OS_cong h (fun r h4 _ => (Fr_sI st 3 i x).vE (by simp; omega)) rfl rfl (NN_s3 (OS_nn h) i x), (Fr_sI st 3 i x).mono (by intro q hq; simp at hq ⊢; omega), fun _ _ _ => rfl⟩
theorem heaviest_L (st : St) : ∀ (d i b fu : Nat), i + d = 10 → b < 10 → d < fu → ∃ k, k < 10 ∧ sX3_heaviest_L4 fu st (nI b) (nI i) = some (nI k) := by
  intro d
  induction d with
  | zero =>
    intro i b fu hi hb hfu
    obtain ⟨fu, rfl⟩ : ∃ q, fu = q + 1 := ⟨fu - 1, by omega⟩
    obtain rfl : i = 10 := by omega
    exact ⟨b, hb, by rw [sX3_heaviest_L4, if_pos (by rw [n_10, nI_leE (by omega) (by omega)]; omega)]⟩
  | succ d ih =>
    intro i b fu hi hb hfu
    obtain ⟨fu, rfl⟩ : ∃ q, fu = q + 1 := ⟨fu - 1, by omega⟩
    rw [sX3_heaviest_L4, if_neg (by rw [n_10, nI_leE (by omega) (by omega)]; omega), gd_in (by omega) (by omega), gd_in hb (by omega)]
    by_cases q : (gI 3 st (nI i)) ≤ (gI 3 st (nI b))
    · rw [if_pos q, nI_add1, lt_e]
      exact ih (i + 1) b fu (by omega) hb (by omega)
    · rw [if_neg q, nI_add1, lt_e]
      exact ih (i + 1) i fu (by omega) (by omega) (by omega)
theorem heaviest_ok (st : St) : ∃ k, k < 10 ∧ sX3_heaviest st = some (nI k) := by
  obtain ⟨k, hk, e⟩ := heaviest_L st 9 1 0 FU (by omega) (by omega) (by decide)
  refine ⟨k, hk, ?_⟩
  unfold sX3_heaviest
  rw [n_0, n_1, e, ob_s]
theorem countAt_ok {S : List Fn} {o : Nat → Nat} {st : St} (h : OS S o st) {L : Nat} (hL : L < 10) : sX0_countAt st (nI L) = some (nI (nAt S o L)) := by
  unfold sX0_countAt
  rw [isLevel_ok st (by omega), ob_s, if_pos hL, if_neg (show ¬ nI 1 = 0 by decide +kernel), gd_in hL (by omega), gI_v (OS_nn h) (by decide) (by omega), OS_at h hL]
theorem count_ok {S : List Fn} {o : Nat → Nat} {st : St} (h : OS S o st) : sX0_count st = some (nI (nAll S o)) := by unfold sX0_count; rw [(OS_total h).1]
theorem settle_L1 {S : List Fn} {o : Nat → Nat} {x1 : Int32} : ∀ (d i fu : Nat) (st : St), i + d = 10 → OS S o st → d < fu → ∃ st', sX3_settle_L10 fu st x1 (nI i) = some st' ∧ OS S o st' ∧ FO st st' := by
  intro d
  induction d with
  | zero =>
    intro i fu st hi h hfu
    obtain ⟨fu, rfl⟩ : ∃ q, fu = q + 1 := ⟨fu - 1, by omega⟩
    obtain rfl : i = 10 := by omega
    exact ⟨st, by rw [sX3_settle_L10, if_pos (by rw [n_10, nI_leE (by omega) (by omega)]; omega)], h, FO.refl st⟩
  | succ d ih =>
    intro i fu st hi h hfu
    obtain ⟨fu, rfl⟩ : ∃ q, fu = q + 1 := ⟨fu - 1, by omega⟩
    obtain ⟨k, hk, hw⟩ := oOK_sur (OS_ok h) (show i < 10 by omega)
    obtain ⟨h1, f1⟩ := OS_s3 h (nI i) (nI (nAt S o k))
    obtain ⟨s2, e2, h2, f2⟩ := ih (i + 1) fu _ (by omega) h1 (by omega)
    refine ⟨s2, ?_, h2, f1.trans f2⟩
    rw [sX3_settle_L10, if_neg (by rw [n_10, nI_leE (by omega) (by omega)]; omega), levelOf_ok h hk hw, ob_s, countAt_ok h hk, ob_s, gd_in (by omega) (by omega), lt_e, nI_add1, lt_e, e2]
theorem settle_L2 {S : List Fn} {x1 : Int32} : ∀ (d i fu : Nat) (o : Nat → Nat) (st : St), i + d = 10 → OS S o st → nAll S o ≤ 400 → d < fu → ∃ (o' : Nat → Nat) (st' : St), sX3_settle_L45 fu st x1 (nI i) = some st' ∧ OS S o' st' ∧ nAll S o' ≤ nAll S o ∧ FO st st' := by
  intro d
  induction d with
  | zero =>
    intro i fu o st hi h hT hfu
    obtain ⟨fu, rfl⟩ : ∃ q, fu = q + 1 := ⟨fu - 1, by omega⟩
    obtain rfl : i = 10 := by omega
    exact ⟨o, st, by rw [sX3_settle_L45, if_pos (by rw [n_10, nI_leE (by omega) (by omega)]; omega)], h, Nat.le_refl _, FO.refl st⟩
  | succ d ih =>
    intro i fu o st hi h hT hfu
    obtain ⟨fu, rfl⟩ : ∃ q, fu = q + 1 := ⟨fu - 1, by omega⟩
    obtain ⟨k, hk, hw⟩ := heaviest_ok st
    obtain ⟨h1, f1⟩ := OS_s3 h (nI k) (-1 : Int32)
    obtain ⟨b, o2, s2, e2, -, h2, t2, f2⟩ := siftOne_ok h1 hk hT
    obtain ⟨o3, s3, e3, h3, t3, f3⟩ := ih (i + 1) fu o2 s2 (by omega) h2 (by omega) (by omega)
    refine ⟨o3, s3, ?_, h3, by omega, f1.trans (f2.trans f3)⟩
    rw [sX3_settle_L45, if_neg (by rw [n_10, nI_leE (by omega) (by omega)]; omega), hw, ob_s, gd_in hk (by omega), lt_e, e2, ob2_s, nI_add1, lt_e, e3]
theorem settle_ok {S : List Fn} {o : Nat → Nat} {st : St} (h : OS S o st) (hT : nAll S o ≤ 400) : ∃ (o' : Nat → Nat) (st' : St), sX3_settle st = some (nI (nAll S o - nAll S o'), st') ∧ OS S o' st' ∧ nAll S o' ≤ nAll S o ∧ FO st st' := by
  obtain ⟨s1, e1, h1, f1⟩ := settle_L1 (x1 := nI (nAll S o)) 10 0 FU st (by omega) h (by decide)
  obtain ⟨o2, s2, e2, h2, t2, f2⟩ := settle_L2 (x1 := nI (nAll S o)) 10 0 FU o s1 (by omega) h1 hT (by decide)
  refine ⟨o2, s2, ?_, h2, t2, f1.trans f2⟩
  unfold sX3_settle
  rw [count_ok h, ob_s, n_0, e1, ob_s, e2, ob_s, count_ok h2, ob_s, nI_subE t2]
