/-! THE DIAGRAM BETWEEN CALLS, and the last loops of exchangeAt -/
def GD (st : St) (al : Nat → Bool) (o : Nat → Nat) (D : Nat → Fn) : Prop :=
  BI st al al (fun _ => 0) ∧ DG al (v 8 st) (v 9 st) (v 10 st) o D ∧ (∀ i, i < 10 → v 4 st i = o i) ∧ (∀ n, al n = true → 0 < v 12 st n) ∧ ∀ s, s < 12 → fin10 (D (v 5 st s))
/-- the functions of the slots -/
def FS (st : St) (D : Nat → Fn) : List Fn := (List.range 12).map (fun s => D (v 5 st s))
theorem FS_mem {st : St} {D : Nat → Fn} {g : Fn} : g ∈ FS st D ↔ ∃ s, s < 12 ∧ D (v 5 st s) = g := by
  unfold FS
  rw [List.mem_map]
  constructor
  · rintro ⟨s, h1, h2⟩; exact ⟨s, List.mem_range.mp h1, h2⟩
  · rintro ⟨s, h1, h2⟩; exact ⟨s, List.mem_range.mpr h1, h2⟩
theorem FS_len (st : St) (D : Nat → Fn) : (FS st D).length = 12 := by
  unfold FS
  rw [List.length_map, List.length_range]
theorem FS_fin {st : St} {al : Nat → Bool} {o : Nat → Nat} {D : Nat → Fn} (G : GD st al o D) : ∀ g, g ∈ FS st D → fin10 g := fun g hg => by
  obtain ⟨s, h1, rfl⟩ := FS_mem.mp hg
  exact G.2.2.2.2 s h1
theorem GD_root {st : St} {al : Nat → Bool} {o : Nat → Nat} {D : Nat → Fn} (G : GD st al o D) : ∀ g, g ∈ FS st D → ∃ c, ch al c ∧ D c = g := fun g hg => by
  obtain ⟨s, h1, h2⟩ := FS_mem.mp hg
  exact ⟨_, G.1.1.2.2.2.2.2.2 s h1, h2⟩
theorem GD_refd {st : St} {al : Nat → Bool} {o : Nat → Nat} {D : Nat → Fn} (G : GD st al o D) : ∀ n, al n = true → D n ∈ FS st D ∨ ∃ m, al m = true ∧ (v 9 st m = n ∨ v 10 st m = n) := fun n hn => by
  have h := G.2.2.2.1 n hn
  rw [G.1.2.1 n hn] at h
  dsimp only at h
  unfold refs at h
  have h' : 0 < cnt 2560 (fun m => al m && (v 9 st m == n)) ∨ 0 < cnt 2560 (fun m => al m && (v 10 st m == n)) ∨ 0 < cnt 12 (fun s => v 5 st s == n) := by omega
  rcases h' with q | q | q
  · obtain ⟨m, -, h2⟩ := cnt_ex q
    simp at h2
    exact Or.inr ⟨m, h2.1, Or.inl h2.2⟩
  · obtain ⟨m, -, h2⟩ := cnt_ex q
    simp at h2
    exact Or.inr ⟨m, h2.1, Or.inr h2.2⟩
  · obtain ⟨s, h1, h2⟩ := cnt_ex q
    have : v 5 st s = n := by simpa using h2
    exact Or.inl (FS_mem.mpr ⟨s, h1, by rw [this]⟩)
theorem GD_at {st : St} {al : Nat → Bool} {o : Nat → Nat} {D : Nat → Fn} (G : GD st al o D) {L : Nat} (hL : L < 10) : v 6 st L = nAt (FS st D) o L := by
  rw [G.1.1.2.2.2.1.1 L hL]
  exact DG_count G.2.1 (GD_root G) (GD_refd G) hL
theorem GD_sum {st : St} {al : Nat → Bool} {o : Nat → Nat} {D : Nat → Fn} (G : GD st al o D) : ∀ k, k ≤ 10 → cnt 2560 (fun n => al n && decide (v 8 st n < k)) = nSum (FS st D) o k := by
  intro k
  induction k with
  | zero =>
    intro _
    refine cnt_zero (fun n _ => ?_)
    simp
  | succ k ih =>
    intro hk
    have h1 := cnt_split 2560 (fun n => al n && decide (v 8 st n < k + 1)) (fun n => v 8 st n == k)
    have h2 : cnt 2560 (fun n => (al n && decide (v 8 st n < k + 1)) && (v 8 st n == k)) = cnt 2560 (fun n => al n && (v 8 st n == k)) := cnt_congr (fun n _ => by
      cases q : (v 8 st n == k)
      · simp
      · have : v 8 st n = k := by simpa using q
        simp [this])
    have h3 : cnt 2560 (fun n => (al n && decide (v 8 st n < k + 1)) && !(v 8 st n == k)) = cnt 2560 (fun n => al n && decide (v 8 st n < k)) := cnt_congr (fun n _ => by
      by_cases q : v 8 st n = k
      · simp [q]
      · have e : decide (v 8 st n < k + 1) = decide (v 8 st n < k) := by
          rw [decide_eq_decide]
          omega
        have e2 : (v 8 st n == k) = false := by simpa using q
        rw [e, e2]
        simp)
    rw [h1, h2, h3, ih (by omega), DG_count G.2.1 (GD_root G) (GD_refd G) (show k < 10 by omega)]
    show nAt (FS st D) o k + nSum (FS st D) o k = nSum (FS st D) o k + nAt (FS st D) o k
    omega
theorem GD_all {st : St} {al : Nat → Bool} {o : Nat → Nat} {D : Nat → Fn} (G : GD st al o D) : cnt 2560 al = nAll (FS st D) o ∧ fv 1 st = nAll (FS st D) o ∧ cnt 2560 al ≤ 1778 := by
  have h1 := GD_sum G 10 (Nat.le_refl _)
  have h2 : cnt 2560 (fun n => al n && decide (v 8 st n < 10)) = cnt 2560 al := cnt_congr (fun n _ => by
    cases q : al n
    · simp
    · have := (G.2.1.1 n q).2.2.1
      simp [this])
  rw [h2] at h1
  have h3 := nAll_le G.2.1.2.2.2.2 (FS_fin G)
  rw [FS_len] at h3
  have h4 : nAll (FS st D) o = nSum (FS st D) o 10 := rfl
  refine ⟨h1, ?_, by omega⟩
  rw [G.1.1.2.2.2.1.2, h1]
  rfl
theorem osw_ok {o : Nat → Nat} {u : Nat} (h : oOK o) (hu : u + 1 < 10) : oOK (osw o u) := by
  refine ⟨fun i hi => ?_, fun i j hi hj e => ?_⟩
  · unfold osw
    split
    · exact h.1 _ hu
    · split
      · exact h.1 _ (by omega)
      · exact h.1 _ hi
  · unfold osw at e
    by_cases a1 : i = u
    · rw [if_pos a1] at e
      by_cases b1 : j = u
      · omega
      · rw [if_neg b1] at e
        by_cases b2 : j = u + 1
        · rw [if_pos b2] at e
          have := h.2 _ _ hu (by omega) e
          omega
        · rw [if_neg b2] at e
          have := h.2 _ _ hu hj e
          omega
    · rw [if_neg a1] at e
      by_cases a2 : i = u + 1
      · rw [if_pos a2] at e
        by_cases b1 : j = u
        · rw [if_pos b1] at e
          have := h.2 _ _ (by omega) hu e
          omega
        · rw [if_neg b1] at e
          by_cases b2 : j = u + 1
          · omega
          · rw [if_neg b2] at e
            have := h.2 _ _ (by omega) hj e
            omega
      · rw [if_neg a2] at e
        by_cases b1 : j = u
        · rw [if_pos b1] at e
          have := h.2 _ _ hi hu e
          omega
        · rw [if_neg b1] at e
          by_cases b2 : j = u + 1
          · rw [if_pos b2] at e
            have := h.2 _ _ hi (by omega) e
            omega
          · rw [if_neg b2] at e
            exact h.2 _ _ hi hj e
section XIL
variable {al0 : Nat → Bool} {lev0 : Nat → Nat} {D0 : Nat → Fn} {o : Nat → Nat} {u : Nat} {rs : List Nat} {S : List Fn}
theorem turn_L (K : XK al0 lev0 D0 o u rs S) {ups : Nat} {x2 x4 : Int32} : ∀ (t : List Nat) (i fu : Nat) (st : St) (al lk nw : Nat → Bool) (D : Nat → Fn), XI al0 lev0 D0 o u rs S st al lk nw D [] → t.Nodup → (∀ n, n ∈ t → al n = true ∧ ((lk n = false ∧ v 8 st n = u) ∨ (lk n = true ∧ v 8 st n = u + 1))) → (∀ j, j < t.length → v 15 st (i + j) = t.getD j 0) → i + t.length = ups → ups ≤ 2560 → t.length < fu →
    ∃ (st' : St) (al' lk' nw' : Nat → Bool) (D' : Nat → Fn), sX0_exchangeAt_L88 fu st (nI u) x2 (nI ups) x4 (nI i) = some st' ∧ XI al0 lev0 D0 o u rs S st' al' lk' nw' D' [] ∧ (∀ m, al m = true → al' m = true ∧ D' m = D m ∧ v 8 st' m = v 8 st m ∧ (m ∉ t → lk' m = lk m) ∧ (m ∈ t → lk' m = true)) ∧ Fr [6, 7, 8, 9, 10, 11, 12] st st' ∧ ∀ k, k ≠ 0 → k ≠ 1 → st'.2.2 k = st.2.2 k
  | [], i, fu, st, al, lk, nw, D, X, hd, hn, hl, hi, ha, hfu => by
    obtain ⟨fu, rfl⟩ : ∃ q, fu = q + 1 := ⟨fu - 1, by simp at hfu; omega⟩
    have hi0 : i = ups := hi
    subst hi0
    refine ⟨st, al, lk, nw, D, ?_, X, fun m hm => ⟨hm, rfl, rfl, fun _ => rfl, fun z => absurd z List.not_mem_nil⟩, Fr.refl _ _, fun _ _ _ => rfl⟩
    rw [sX0_exchangeAt_L88, if_pos (by rw [nI_leE (by omega) (by omega)]; omega)]
  | n :: t, i, fu, st, al, lk, nw, D, X, hd, hn, hl, hi, ha, hfu => by
    obtain ⟨fu, rfl⟩ : ∃ q, fu = q + 1 := ⟨fu - 1, by simp at hfu; omega⟩
    simp only [List.length_cons] at hi hfu
    obtain ⟨d1, d2⟩ := List.nodup_cons.mp hd
    obtain ⟨a1, a2⟩ := hn n List.mem_cons_self
    have hN := X.1.1.1
    obtain ⟨g1, g2, -, -, -⟩ := X.1.1.2.2.2.2.2.1 n a1
    have hv : v 15 st i = n := hl 0 (Nat.zero_lt_succ _)
    have ne : ∀ m, m ∈ t → m ≠ n := fun m hm z => d1 (z ▸ hm)
    have hlv : lv8 st n = v 8 st n := by unfold lv8 lvl; rw [if_neg (by omega)]
    have k8 := K.2.2.2.2.2.2.2.1
    rcases a2 with ⟨b1, b2⟩ | ⟨b1, b2⟩
    · obtain ⟨s1, al1, lk1, nw1, D1, e1, X1, l1, z1, F1, f1⟩ := XI_turn K X a1 b1
      obtain ⟨s2, al2, lk2, nw2, D2, e2, X2, z2, F2, f2⟩ := turn_L K t (i + 1) fu s1 al1 lk1 nw1 D1 X1 d2 (fun m hm => by
        obtain ⟨c1, c2⟩ := hn m (List.mem_cons_of_mem _ hm)
        obtain ⟨y1, y2, y3, y4⟩ := z1 m c1
        rw [y2 (ne m hm), y4]
        exact ⟨y1, c2⟩) (fun j hj => by
        rw [F1.vE (by decide), show i + 1 + j = i + (j + 1) by omega, hl (j + 1) (by simp only [List.length_cons]; omega)]
        rfl) (by omega) ha (by omega)
      refine ⟨s2, al2, lk2, nw2, D2, ?_, X2, fun m hm => ?_, F1.trans F2, fun k h0 h1 => (f2 k h0 h1).trans (f1 k h0 h1)⟩
      · rw [sX0_exchangeAt_L88, if_neg (by rw [nI_leE (by omega) (by omega)]; omega), gd_in (by omega) (by omega), gI_v hN (by decide) (by omega), hv, levelAt_ok hN g2, hlv, b2, ob_s, if_neg (fun z => z rfl), gd_in (by omega) (by omega), e1, ob_s, nI_add1, lt_e, e2]
      · obtain ⟨y1, y2, y3, y4⟩ := z1 m hm
        obtain ⟨w1, w2, w3, w4, w5⟩ := z2 m y1
        refine ⟨w1, w2.trans y3, w3.trans y4, fun q => ?_, fun q => ?_⟩
        · rw [w4 (fun z => q (List.mem_cons_of_mem _ z)), y2 (fun z => q (z ▸ List.mem_cons_self))]
        · rcases List.mem_cons.mp q with rfl | q
          · rw [w4 d1]; exact l1
          · exact w5 q
    · obtain ⟨s2, al2, lk2, nw2, D2, e2, X2, z2, F2, f2⟩ := turn_L K t (i + 1) fu st al lk nw D X d2 (fun m hm => hn m (List.mem_cons_of_mem _ hm)) (fun j hj => by
        rw [show i + 1 + j = i + (j + 1) by omega, hl (j + 1) (by simp only [List.length_cons]; omega)]
        rfl) (by omega) ha (by omega)
      refine ⟨s2, al2, lk2, nw2, D2, ?_, X2, fun m hm => ?_, F2, f2⟩
      · rw [sX0_exchangeAt_L88, if_neg (by rw [nI_leE (by omega) (by omega)]; omega), gd_in (by omega) (by omega), gI_v hN (by decide) (by omega), hv, levelAt_ok hN g2, hlv, b2, ob_s, if_pos (by rw [nI_eqE (by omega) (by omega)]; omega), nI_add1, lt_e, e2]
      · obtain ⟨w1, w2, w3, w4, w5⟩ := z2 m hm
        refine ⟨w1, w2, w3, fun q => w4 (fun z => q (List.mem_cons_of_mem _ z)), fun q => ?_⟩
        rcases List.mem_cons.mp q with rfl | q
        · rw [w4 d1]; exact b1
        · exact w5 q
end XIL
/-- what was held is let go -/
theorem drop_L {x1 x2 : Int32} {all : Nat} : ∀ (t : List Nat) (i fu : Nat) (st : St) (al : Nat → Bool), BI st al al (hR t) → DM st al al 0 → t.Nodup → (∀ n, n ∈ t → al n = true) → (∀ j, j < t.length → v 15 st (i + j) = t.getD j 0) → i + t.length = all → all ≤ 2560 → t.length < fu →
    ∃ (st' : St) (al' : Nat → Bool), sX0_exchangeAt_L130 fu st x1 x2 (nI all) (nI i) = some st' ∧ BI st' al' al' (fun _ => 0) ∧ (∀ m, al' m = true → al m = true) ∧ (∀ m, al' m = true → 0 < v 12 st m → 0 < v 12 st' m) ∧ Fr [6, 7, 11, 12] st st' ∧ ∀ k, k ≠ 0 → k ≠ 1 → st'.2.2 k = st.2.2 k
  | [], i, fu, st, al, B, M, hd, hn, hl, hi, ha, hfu => by
    obtain ⟨fu, rfl⟩ : ∃ q, fu = q + 1 := ⟨fu - 1, by simp at hfu; omega⟩
    have hi0 : i = all := hi
    subst hi0
    have e : hR [] = fun _ => 0 := by
      funext m
      unfold hR
      rw [if_neg List.not_mem_nil]
    rw [e] at B
    refine ⟨st, al, ?_, B, fun _ h => h, fun _ _ h => h, Fr.refl _ _, fun _ _ _ => rfl⟩
    rw [sX0_exchangeAt_L130, if_pos (by rw [nI_leE (by omega) (by omega)]; omega)]
  | n :: t, i, fu, st, al, B, M, hd, hn, hl, hi, ha, hfu => by
    obtain ⟨fu, rfl⟩ : ∃ q, fu = q + 1 := ⟨fu - 1, by simp at hfu; omega⟩
    simp only [List.length_cons] at hi hfu
    obtain ⟨d1, d2⟩ := List.nodup_cons.mp hd
    have a1 := hn n List.mem_cons_self
    have hN := B.1.1
    have hv : v 15 st i = n := hl 0 (Nat.zero_lt_succ _)
    obtain ⟨s1, al1, lk1, e1, B1, z1, z2, z3, z4, F1, f1, -⟩ := drop_ok 0 12 0 n st al al (hR (n :: t)) B M (Or.inr ⟨a1, Nat.zero_le _⟩) (fun _ => by unfold hR; rw [if_pos List.mem_cons_self]; exact Nat.le_refl _) (fun m => by
      unfold hR
      split <;> omega) (Nat.zero_le _) (by omega)
    have hlk : lk1 = al1 := by
      funext m
      cases q : al1 m
      · cases q2 : lk1 m
        · rfl
        · rw [B1.1.2.2.2.2.1 m q2] at q; cases q
      · obtain ⟨w1, w2⟩ := z1 m q
        rw [w2, w1]
    have hH : subH (hR (n :: t)) n = hR t := by
      funext m
      unfold subH hR
      by_cases e : m = n
      · subst e
        rw [if_pos rfl, if_pos List.mem_cons_self, if_neg d1]
      · rw [if_neg e]
        simp [e]
    rw [hlk, hH] at B1
    obtain ⟨s2, al2, e2, B2, w1, w2, F2, f2⟩ := drop_L t (i + 1) fu s1 al1 B1 (DM_same M (F1.vE (by decide)) (F1.vE (by decide)) (F1.vE (by decide)) (fun m hm => (z1 m hm).1) (fun m h1 h2 => by rw [h1] at h2; cases h2)) d2 (fun m hm => z3 m (hn m (List.mem_cons_of_mem _ hm)) (by
      rw [hH]
      unfold hR
      rw [if_pos hm]
      exact Nat.zero_lt_one)) (fun j hj => by
      rw [F1.vE (by decide), show i + 1 + j = i + (j + 1) by omega, hl (j + 1) (by simp only [List.length_cons]; omega)]
      rfl) (by omega) ha (by omega)
    refine ⟨s2, al2, ?_, B2, fun m hm => (z1 m (w1 m hm)).1, fun m hm h => w2 m hm (z4 m (w1 m hm) h), F1.trans F2, fun k h0 h1 => (f2 k h0 h1).trans (f1 k h0 h1)⟩
    rw [sX0_exchangeAt_L130, if_neg (by rw [nI_leE (by omega) (by omega)]; omega), gd_in (by omega) (by omega), gI_v hN (by decide) (by omega), hv, show (0 : Int32) = nI 0 from n_0, e1, ob_s, nI_add1, lt_e, e2]
