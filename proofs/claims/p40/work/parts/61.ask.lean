/-! ASKING: the calls that leave the functions and the order -/
theorem ob3_s {α γ δ β : Type} (a : α) (c : γ) (d : δ) (f : α → γ → δ → Option β) : ob3 (some (a, c, d)) f = f a c d := rfl
theorem or0 (a b : Int64) : a ||| b = 0 ↔ a = 0 ∧ b = 0 := by
  constructor
  · intro h
    have key : ∀ j, (bt a j || bt b j) = false := fun j => by rw [← bt_or, h, bt_zero]
    refine ⟨bt_ext (fun j _ => ?_), bt_ext (fun j _ => ?_)⟩
    · have := key j
      rw [bt_zero]
      cases q : bt a j
      · rfl
      · rw [q] at this; cases this
    · have := key j
      rw [bt_zero]
      cases q : bt b j
      · rfl
      · rw [q, Bool.or_true] at this; cases this
  · rintro ⟨rfl, rfl⟩
    decide +kernel
theorem w0 (a : Int64) : a = 0 ↔ ∀ j, j < 64 → bt a j = false :=
  ⟨fun h j _ => by rw [h]; exact bt_zero j, fun h => bt_ext (fun j hj => by rw [h j hj, bt_zero])⟩
def acc (x : Int64) (P : Nat → Bool) (n : Nat) : Prop := x = 0 ↔ ∀ i, i < n → P i = false
theorem acc_0 (P : Nat → Bool) : acc 0 P (64 * 0) := ⟨fun _ i hi => by omega, fun _ => rfl⟩
theorem acc_step {x y : Int64} {P : Nat → Bool} {w : Nat} (h : acc x P (64 * w)) (hy : ∀ j, j < 64 → bt y j = P (64 * w + j)) : acc (x ||| y) P (64 * (w + 1)) := by
  unfold acc at h ⊢
  rw [or0, h, w0]
  constructor
  · rintro ⟨h1, h2⟩ i hi
    by_cases z : i < 64 * w
    · exact h1 i z
    · have := h2 (i - 64 * w) (by omega)
      rw [hy _ (by omega)] at this
      rwa [show 64 * w + (i - 64 * w) = i by omega] at this
  · intro h'
    exact ⟨fun i hi => h' i (by omega), fun j hj => by rw [hy j hj]; exact h' _ (by omega)⟩
def pO (f g : Fn) : Nat → Bool := fun x => f x && !g x
theorem compare_L {st : St} {a b : Nat} : ∀ (k n w : Nat) (x y z : Int64), w + k = 16 → k < n → acc x (pO (tb st a) (tb st b)) (64 * w) → acc y (pO (tb st b) (tb st a)) (64 * w) → acc z (fM (tb st a) (tb st b)) (64 * w) →
    ∃ x' y' z', sX3_compare_L41 n st a b x y z (nI w) = some (x', y', z') ∧ acc x' (pO (tb st a) (tb st b)) 1024 ∧ acc y' (pO (tb st b) (tb st a)) 1024 ∧ acc z' (fM (tb st a) (tb st b)) 1024 := by
  intro k
  induction k with
  | zero =>
    intro n w x y z hw hn h1 h2 h3
    obtain ⟨n, rfl⟩ : ∃ m, n = m + 1 := ⟨n - 1, by omega⟩
    obtain rfl : w = 16 := by omega
    rw [show 64 * 16 = 1024 by decide] at h1 h2 h3
    exact ⟨x, y, z, by rw [sX3_compare_L41, if_pos (by rw [w16 (by omega)]; omega)], h1, h2, h3⟩
  | succ k ih =>
    intro n w x y z hw hn h1 h2 h3
    obtain ⟨n, rfl⟩ : ∃ m, n = m + 1 := ⟨n - 1, by omega⟩
    have h16 : w < 16 := by omega
    rw [sX3_compare_L41, if_neg (by rw [w16 (by omega)]; omega), gd_in h16 (by omega), gd_in h16 (by omega), lt_e, gd_in h16 (by omega), gd_in h16 (by omega), lt_e, gd_in h16 (by omega), gd_in h16 (by omega), lt_e, nI_add1, lt_e, gL_nI (by omega), gL_nI (by omega)]
    refine ih n (w + 1) _ _ _ (by omega) (by omega) (acc_step h1 (fun j hj => ?_)) (acc_step h2 (fun j hj => ?_)) (acc_step h3 (fun j hj => ?_))
    · rw [bt_and, bt_not _ hj, ← tb_at st a h16 hj, ← tb_at st b h16 hj]; rfl
    · rw [bt_and, bt_not _ hj, ← tb_at st a h16 hj, ← tb_at st b h16 hj]; rfl
    · rw [bt_and, ← tb_at st a h16 hj, ← tb_at st b h16 hj]; rfl
def none1 (P : Nat → Bool) : Prop := ∀ i, i < 1024 → P i = false
/-- what compare tells -/
noncomputable def cmpV (f g : Fn) : Nat :=
  @ite Nat (none1 (pO f g)) (Classical.propDecidable _) (@ite Nat (none1 (pO g f)) (Classical.propDecidable _) 0 1) (@ite Nat (none1 (pO g f)) (Classical.propDecidable _) 2 (@ite Nat (none1 (fM f g)) (Classical.propDecidable _) 3 4))
theorem K_FO {S : List Fn} {o o' : Nat → Nat} {B : Nat} {st st' : St} (k : K S o B st) (h : OS S o' st') (hT : nAll S o' ≤ 400) (F : FO st st') : K S o' B st' := by
  obtain ⟨⟨h1, h2, h3, h4⟩, hI, hZ⟩ := k
  have tt : ∀ k, tb st' k = tb st k := fun k => tb_Fr F.1 k
  refine ⟨⟨h, ?_, fun s hs => ?_, hT⟩, SI_cong hI (F.1.vE (by decide)) ?_, fun i hi => by rw [F.1.vE (r := 2) (by decide)]; exact hZ i hi⟩
  · rw [h2]
    unfold TB
    exact List.map_congr_left (fun k _ => (tt k).symm)
  · rw [tt, F.1.vE (r := 0) (by decide)]
    exact h3 s hs
  · unfold fv
    rw [F.2 2 (by omega) (by omega)]
theorem K_FQ {S : List Fn} {o : Nat → Nat} {B C : Nat} {st st' : St} (k : K S o B st) (h : OS S o st') (F : FQ st st') (hI : SI C st') : K S o C st' := by
  obtain ⟨⟨h1, h2, h3, h4⟩, -, hZ⟩ := k
  have tt : ∀ k, tb st' k = tb st k := fun k => tb_Fr F.1 k
  refine ⟨⟨h, ?_, fun s hs => ?_, h4⟩, hI, fun i hi => by rw [F.1.vE (r := 2) (by decide)]; exact hZ i hi⟩
  · rw [h2]
    unfold TB
    exact List.map_congr_left (fun k _ => (tt k).symm)
  · rw [tt, F.1.vE (r := 0) (by decide)]
    exact h3 s hs
theorem two_le {o : Nat → Nat} (ho : oOK o) {f g : Fn} (hf : fin10 f) (hg : fin10 g) : nAll [f, g] o ≤ 508 := by
  have := nAll_le (S := [f, g]) ho (fun h hh => by
    rcases List.mem_cons.mp hh with z | z
    · rw [z]; exact hf
    · rw [List.mem_singleton.mp z]; exact hg)
  simpa using this
section AK
variable {S : List Fn} {o : Nat → Nat} {B : Nat} {st : St}
theorem compare_K (k : K S o B st) {a b : Nat} (ha : a < 12) (hb : b < 12) : sX3_compare st (nI a) (nI b) = some (nI (cmpV (sl S a) (sl S b))) := by
  obtain ⟨x, y, z, e, h1, h2, h3⟩ := compare_L (st := st) (a := a) (b := b) 16 FU 0 0 0 0 (by decide) (by decide) (acc_0 _) (acc_0 _) (acc_0 _)
  rw [K_sl k ha, K_sl k hb] at h1 h2 h3
  have h1 : x = 0 ↔ none1 (pO (sl S a) (sl S b)) := h1
  have h2 : y = 0 ↔ none1 (pO (sl S b) (sl S a)) := h2
  have h3 : z = 0 ↔ none1 (fM (sl S a) (sl S b)) := h3
  rw [← n_0] at e
  unfold sX3_compare
  rw [slot_ok st ha, ob_s, slot_ok st hb, ob_s, gd_in ha (by omega), gd_in hb (by omega), nI_toN (by omega), nI_toN (by omega), e, ob3_s]
  unfold cmpV
  simp only [lg_cmp0]
  by_cases p1 : x = 0
  · rw [if_neg (fun z => z p1), if_pos (h1.mp p1)]
    by_cases p2 : y = 0
    · rw [if_neg (fun z => z p2), if_pos (h2.mp p2), n_0]
    · rw [if_pos p2, if_neg (fun z => p2 (h2.mpr z)), n_1]
  · rw [if_pos p1, if_neg (fun z => p1 (h1.mpr z))]
    by_cases p2 : y = 0
    · rw [if_neg (fun z => z p2), if_pos (h2.mp p2), n_2]
    · rw [if_pos p2, if_neg (fun z => p2 (h2.mpr z))]
      by_cases p3 : z = 0
      · rw [if_neg (fun z => z p3), if_pos (h3.mp p3)]
        all_goals rfl
      · rw [if_pos p3, if_neg (fun z => p3 (h3.mpr z))]
        all_goals rfl
def pR (u : Nat) (f : Fn) : Nat → Bool := fun x => !f (sw u false x) && f (sw u true x)
def pF (u : Nat) (f : Fn) : Nat → Bool := fun x => f (sw u false x) && !f (sw u true x)
noncomputable def trV (u : Nat) (f : Fn) : Nat :=
  (@ite Nat (none1 (pR u f)) (Classical.propDecidable _) 0 1) + (@ite Nat (none1 (pF u f)) (Classical.propDecidable _) 0 2)
theorem trend_L {st : St} {a u : Nat} (hu : u < 10) : ∀ (k n w : Nat) (x y : Int64), w + k = 16 → k < n → acc x (pR u (tb st a)) (64 * w) → acc y (pF u (tb st a)) (64 * w) →
    ∃ x' y', sX3_trend_L24 n st (nI u) a x y (nI w) = some (x', y') ∧ acc x' (pR u (tb st a)) 1024 ∧ acc y' (pF u (tb st a)) 1024 := by
  intro k
  induction k with
  | zero =>
    intro n w x y hw hn h1 h2
    obtain ⟨n, rfl⟩ : ∃ m, n = m + 1 := ⟨n - 1, by omega⟩
    obtain rfl : w = 16 := by omega
    rw [show 64 * 16 = 1024 by decide] at h1 h2
    exact ⟨x, y, by rw [sX3_trend_L24, if_pos (by rw [w16 (by omega)]; omega)], h1, h2⟩
  | succ k ih =>
    intro n w x y hw hn h1 h2
    obtain ⟨n, rfl⟩ : ∃ m, n = m + 1 := ⟨n - 1, by omega⟩
    have h16 : w < 16 := by omega
    obtain ⟨r1, e1, hr1⟩ := wordWith_ok st (t := a) true hu h16
    obtain ⟨r0, e0, hr0⟩ := wordWith_ok st (t := a) false hu h16
    rw [if_pos rfl, ← n_1] at e1
    rw [if_neg Bool.false_ne_true, ← n_0] at e0
    rw [sX3_trend_L24, if_neg (by rw [w16 (by omega)]; omega), e0, ob_s, e1, ob_s, lt_e, lt_e, nI_add1, lt_e]
    refine ih n (w + 1) _ _ (by omega) (by omega) (acc_step h1 (fun j hj => ?_)) (acc_step h2 (fun j hj => ?_))
    · rw [bt_and, bt_not _ hj, hr1 j hj, hr0 j hj]; rfl
    · rw [bt_and, bt_not _ hj, hr1 j hj, hr0 j hj]; rfl
theorem trend_K (k : K S o B st) {a u : Nat} (ha : a < 12) (hu : u < 10) : sX3_trend st (nI a) (nI u) = some (nI (trV u (sl S a))) := by
  obtain ⟨x, y, e, h1, h2⟩ := trend_L (st := st) (a := a) hu 16 FU 0 0 0 (by decide) (by decide) (acc_0 _) (acc_0 _)
  rw [K_sl k ha] at h1 h2
  have h1 : x = 0 ↔ none1 (pR u (sl S a)) := h1
  have h2 : y = 0 ↔ none1 (pF u (sl S a)) := h2
  rw [← n_0] at e
  unfold sX3_trend
  rw [slot_ok st ha, ob_s, var_ok st hu, ob_s, gd_in ha (by omega), nI_toN (by omega), e, ob2_s]
  unfold trV
  simp only [lg_cmp0]
  by_cases p1 : x = 0
  · rw [if_pos p1, if_pos (h1.mp p1)]
    by_cases p2 : y = 0
    · rw [if_pos p2, if_pos (h2.mp p2)]
      all_goals rfl
    · rw [if_neg p2, if_neg (fun z => p2 (h2.mpr z))]
      all_goals rfl
  · rw [if_neg p1, if_neg (fun z => p1 (h1.mpr z))]
    by_cases p2 : y = 0
    · rw [if_pos p2, if_pos (h2.mp p2)]
      all_goals rfl
    · rw [if_neg p2, if_neg (fun z => p2 (h2.mpr z))]
      all_goals rfl
theorem influence_K (k : K S o B st) {a u : Nat} (ha : a < 12) (hu : u < 10) : sX3_influence st (nI a) (nI u) = some (nI (cnt 1024 (chg u (sl S a)))) := by
  unfold sX3_influence
  rw [slot_ok st ha, ob_s, var_ok st hu, ob_s, gd_in ha (by omega), nI_toN (by omega), changes_tb st hu, ob_s, K_sl k ha]
theorem models_K (k : K S o B st) {a : Nat} (ha : a < 12) : sX3_models st (nI a) = some (nI (cnt 1024 (sl S a))) := by
  unfold sX3_models
  rw [slot_ok st ha, ob_s, gd_in ha (by omega), nI_toN (by omega), count_tb, ob_s, K_sl k ha]
theorem model_K (k : K S o B st) {a q : Nat} (ha : a < 12) (hq : q < 2000) : sX3_model st (nI a) (nI q) = some (mdl (sl S a) q) := by
  unfold sX3_model
  rw [slot_ok st ha, ob_s, if_pos (by rw [n_0, nI_leE (by omega) (by omega)]; omega), gd_in ha (by omega), nI_toN (by omega), nth_ok st a hq, ob_s, K_sl k ha]
theorem support_K (k : K S o B st) {a : Nat} (ha : a < 12) : ∃ s, sX3_support st (nI a) = some (nI s) ∧ SUP (sl S a) s := by
  refine ⟨v 0 st a, ?_, by rw [← K_sl k ha]; exact k.1.2.2.1 a ha⟩
  unfold sX3_support
  rw [slot_ok st ha, ob_s, gd_in ha (by omega), gI_v (OS_nn k.1.1) (by decide) (by omega)]
theorem holds_K (k : K S o B st) {a x : Nat} (ha : a < 12) (hx : x < 1024) : sX3_holds st (nI a) (nI x) = some (nI (if sl S a x then 1 else 0)) := by
  unfold sX3_holds
  rw [slot_ok st ha, ob_s, if_neg (by rw [n_0, nI_ltE (by omega) (by omega)]; omega), if_pos (by rw [n_1024, nI_ltE (by omega) (by omega)]; exact hx), gd_in ha (by omega), nI_toN (by omega), tells_ok st a hx, ob_s, K_sl k ha]
  unfold gb
  rw [if_pos (by cases sl S a x <;> decide +kernel)]
theorem n_991 : (991 : Int32) = nI 991 := by decide +kernel
theorem cheap_L2 (hz : Z st) (hN : NN st) {t x : Nat} : ∀ (d n i : Nat), i + d = 1024 → d < n → sX3_cheapest_L21 n st t (nI x) (nI 0) (nI i) = some (nI x) := by
  intro d
  induction d with
  | zero =>
    intro n i hi hn
    obtain ⟨n, rfl⟩ : ∃ m, n = m + 1 := ⟨n - 1, by omega⟩
    rw [sX3_cheapest_L21, if_pos (by rw [n_1024, nI_leE (by omega) (by omega)]; omega)]
  | succ d ih =>
    intro n i hi hn
    obtain ⟨n, rfl⟩ : ∃ m, n = m + 1 := ⟨n - 1, by omega⟩
    rw [sX3_cheapest_L21, if_neg (by rw [n_1024, nI_leE (by omega) (by omega)]; omega), gd_in (show i < 1024 by omega) (by omega), gI_v hN (by decide) (by omega), hz i (by omega), if_pos (by rw [nI_leE (by omega) (by omega)]; omega), nI_add1, lt_e]
    exact ih n (i + 1) (by omega) (by omega)
theorem cheap_L1 (hz : Z st) (hN : NN st) {t : Nat} : ∀ (d n i : Nat), i + d = 1024 → d < n → (∀ x, x < i → tb st t x = false) → ∃ r, sX3_cheapest_L21 n st t (-1 : Int32) (nI 991) (nI i) = some r ∧ isFirst (tb st t) r := by
  intro d
  induction d with
  | zero =>
    intro n i hi hn h
    obtain ⟨n, rfl⟩ : ∃ m, n = m + 1 := ⟨n - 1, by omega⟩
    exact ⟨-1, by rw [sX3_cheapest_L21, if_pos (by rw [n_1024, nI_leE (by omega) (by omega)]; omega)], Or.inl ⟨rfl, fun x hx => h x (by omega)⟩⟩
  | succ d ih =>
    intro n i hi hn h
    obtain ⟨n, rfl⟩ : ∃ m, n = m + 1 := ⟨n - 1, by omega⟩
    have hi2 : i < 1024 := by omega
    rw [sX3_cheapest_L21, if_neg (by rw [n_1024, nI_leE (by omega) (by omega)]; omega), gd_in hi2 (by omega), gI_v hN (by decide) (by omega), hz i hi2, if_neg (by rw [nI_leE (by omega) (by omega)]; omega), tells_ok st t hi2, ob_s]
    cases q : tb st t i
    · rw [if_neg Bool.false_ne_true, if_pos n_0.symm, nI_add1, lt_e]
      refine ih n (i + 1) (by omega) (by omega) (fun x hx => ?_)
      by_cases e : x = i
      · rw [e]; exact q
      · exact h x (by omega)
    · rw [if_pos rfl, if_neg nI1_ne, gd_in hi2 (by omega), lt_e, nI_add1, lt_e]
      exact ⟨nI i, cheap_L2 hz hN d n (i + 1) (by omega) (by omega), Or.inr ⟨i, hi2, q, h, rfl⟩⟩
theorem cheapest_K (k : K S o B st) {a : Nat} (ha : a < 12) : sX3_cheapest st (nI a) = some (mdl (sl S a) 0) := by
  obtain ⟨r, e, h⟩ := cheap_L1 k.2.2 (OS_nn k.1.1) (t := a) 1024 FU 0 rfl (by decide) (fun x hx => by omega)
  rw [K_sl k ha] at h
  have := first_uniq h (mdl_0 (K_sl k ha))
  unfold sX3_cheapest
  rw [slot_ok st ha, ob_s, gd_in ha (by omega), nI_toN (by omega), n_991, n_0, e, ob_s, this]
theorem from_K (k : K S o B st) (hB : B < 2000000000) {a b : Nat} (ha : a < 12) (hb : b < 12) : ∃ st', sX0_countFrom st (nI a) (nI b) = some (nI (nAll [sl S a, sl S b] o), st') ∧ K S o (B + 1) st' := by
  obtain ⟨st', e, h1, h2, h3⟩ := from_ok k.1.1 k.2.1 hB ha hb
  exact ⟨st', e, K_FQ k h1 h2 h3⟩
theorem size_K (k : K S o B st) (hB : B < 2000000000) {a : Nat} (ha : a < 12) : ∃ st', sX3_size st (nI a) = some (nI (nAll [sl S a, sl S a] o), st') ∧ K S o (B + 1) st' := by
  obtain ⟨st', e, h⟩ := from_K k hB ha ha
  refine ⟨st', ?_, h⟩
  unfold sX3_size
  rw [slot_ok st ha, ob_s, e, ob2_s]
theorem shared_K (k : K S o B st) (hB : B + 3 < 2000000000) {a b : Nat} (ha : a < 12) (hb : b < 12) : ∃ st', sX3_shared st (nI a) (nI b) = some ((nI (nAll [sl S a, sl S a] o) + nI (nAll [sl S b, sl S b] o)) - nI (nAll [sl S a, sl S b] o), st') ∧ K S o (B + 3) st' := by
  obtain ⟨s1, e1, h1⟩ := from_K k (by omega) ha ha
  obtain ⟨s2, e2, h2⟩ := from_K h1 (by omega) hb hb
  obtain ⟨s3, e3, h3⟩ := from_K h2 (by omega) ha hb
  refine ⟨s3, ?_, h3⟩
  unfold sX3_shared
  rw [slot_ok st ha, ob_s, slot_ok st hb, ob_s, e1, ob2_s, e2, ob2_s, e3, ob2_s]
theorem total_K (k : K S o B st) : sX3_total st = some (nI (nAll S o)) := by
  unfold sX3_total
  rw [count_ok k.1.1, ob_s]
theorem lev_ok (st : St) {L : Nat} (hL : L < 10) : sX3_checkLevel st (nI L) (10 : Int32) = some () := by
  unfold sX3_checkLevel
  rw [if_neg (by rw [n_0, nI_ltE (by omega) (by omega)]; omega), if_pos (by rw [n_10, nI_ltE (by omega) (by omega)]; omega)]
theorem nodesAt_K (k : K S o B st) {L : Nat} (hL : L < 10) : sX3_nodesAt st (nI L) = some (nI (nAt S o L)) := by
  unfold sX3_nodesAt
  rw [lev_ok st hL, ob_s, countAt_ok k.1.1 hL, ob_s]
theorem variableAt_K (k : K S o B st) {L : Nat} (hL : L < 10) : sX3_variableAt st (nI L) = some (nI (o L)) := by
  unfold sX3_variableAt sX0_variableOf
  rw [lev_ok st hL, ob_s, isLevel_ok st (by omega), ob_s, if_pos hL, if_neg (show ¬ nI 1 = 0 by decide +kernel), gd_in hL (by omega), gI_v (OS_nn k.1.1) (by decide) (by omega), OS_ord k.1.1 hL, ob_s]
theorem ways_K (k : K S o B st) (hB : B < 2000000000) {a : Nat} (ha : a < 12) : ∃ st', sX3_ways st (nI a) = some (nI (wy o (sl S a)), st') ∧ K S o (B + 1) st' := by
  obtain ⟨st', e, h1, h2, h3⟩ := pathsToOne_ok k.1.1 k.2.1 hB ha
  refine ⟨st', ?_, K_FQ k h1 h2 h3⟩
  unfold sX3_ways
  rw [slot_ok st ha, ob_s, e, ob2_s]
theorem depth_K (k : K S o B st) (hB : B < 2000000000) {a : Nat} (ha : a < 12) : ∃ st', sX3_depth st (nI a) = some (nI (dpt o (sl S a)), st') ∧ K S o (B + 1) st' := by
  obtain ⟨st', e, h1, h2, h3⟩ := longestPath_ok k.1.1 k.2.1 hB ha
  refine ⟨st', ?_, K_FQ k h1 h2 h3⟩
  unfold sX3_depth
  rw [slot_ok st ha, ob_s, e, ob2_s]
theorem swap_K (k : K S o B st) {L : Nat} (hL : L < 9) : ∃ r o' st', sX3_swap st (nI L) = some (r, st') ∧ K S o' B st' := by
  obtain ⟨r, o', st', e, h1, h2, h3⟩ := swap_ok k.1.1 hL k.1.2.2.2
  exact ⟨r, o', st', e, K_FO k h1 h2 h3⟩
theorem sift_K (k : K S o B st) {w : Nat} (hw : w < 10) : ∃ r o' st', sX3_sift st (nI w) = some (r, st') ∧ K S o' B st' := by
  obtain ⟨r, o', st', e, h1, h2, h3⟩ := sift_ok k.1.1 hw k.1.2.2.2
  exact ⟨r, o', st', e, K_FO k h1 h2 h3⟩
theorem wouldSwap_K (k : K S o B st) {L : Nat} (hL : L < 9) : ∃ r st', sX3_wouldSwap st (nI L) = some (r, st') ∧ (r = -1 ∨ ∃ n, n ≤ 400 ∧ r = nI n) ∧ K S o B st' := by
  obtain ⟨r, st', e, h0, h1, h3⟩ := wouldSwap_ok k.1.1 hL
  exact ⟨r, st', e, h0, K_FO k h1 k.1.2.2.2 h3⟩
theorem wouldSift_K (k : K S o B st) {w : Nat} (hw : w < 10) : ∃ b st', sX3_wouldSift st (nI w) = some (nI b, st') ∧ b < 10 ∧ K S o B st' := by
  obtain ⟨b, st', e, h0, h1, h3⟩ := wouldSift_ok k.1.1 hw
  exact ⟨b, st', e, h0, K_FO k h1 k.1.2.2.2 h3⟩
theorem settle_K (k : K S o B st) : ∃ o' st', sX3_settle st = some (nI (nAll S o - nAll S o'), st') ∧ nAll S o' ≤ nAll S o ∧ K S o' B st' := by
  obtain ⟨o', st', e, h1, h2, h3⟩ := settle_ok k.1.1 k.1.2.2.2
  exact ⟨o', st', e, h2, K_FO k h1 (Nat.le_trans h2 k.1.2.2.2) h3⟩
end AK
