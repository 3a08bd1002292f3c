/-! ORDERING: levelOf, lift, walk, sifting and settling -/
def OS (S : List Fn) (o : Nat → Nat) (st : St) : Prop := ∃ (al : Nat → Bool) (D : Nat → Fn), GD st al o D ∧ FS st D = S
/-- rows and fields that ordering leaves -/
def FO (st st' : St) : Prop := Fr [3, 4, 6, 7, 8, 9, 10, 11, 12, 15] st st' ∧ ∀ k, k ≠ 0 → k ≠ 1 → st'.2.2 k = st.2.2 k
theorem FO.refl (st : St) : FO st st := ⟨Fr.refl _ _, fun _ _ _ => rfl⟩
theorem FO.trans {a b c : St} (h1 : FO a b) (h2 : FO b c) : FO a c := ⟨h1.1.trans h2.1, fun k h3 h4 => (h2.2 k h3 h4).trans (h1.2 k h3 h4)⟩
theorem OS_nn {S : List Fn} {o : Nat → Nat} {st : St} (h : OS S o st) : NN st := by
  obtain ⟨al, D, G, -⟩ := h
  exact G.1.1.1
theorem OS_ok {S : List Fn} {o : Nat → Nat} {st : St} (h : OS S o st) : oOK o := by
  obtain ⟨al, D, G, -⟩ := h
  exact G.2.1.2.2.2.2
theorem OS_ord {S : List Fn} {o : Nat → Nat} {st : St} (h : OS S o st) {i : Nat} (hi : i < 10) : v 4 st i = o i := by
  obtain ⟨al, D, G, -⟩ := h
  exact G.2.2.1 i hi
theorem OS_total {S : List Fn} {o : Nat → Nat} {st : St} (h : OS S o st) : gF 1 st = nI (nAll S o) ∧ nAll S o ≤ 1778 := by
  obtain ⟨al, D, G, rfl⟩ := h
  obtain ⟨h1, h2, h3⟩ := GD_all G
  exact ⟨by rw [gF_v G.1.1.1, h2], by omega⟩
theorem OS_at {S : List Fn} {o : Nat → Nat} {st : St} (h : OS S o st) {L : Nat} (hL : L < 10) : v 6 st L = nAt S o L := by
  obtain ⟨al, D, G, rfl⟩ := h
  exact GD_at G hL
theorem exch_OS {S : List Fn} {o : Nat → Nat} {st : St} {u : Nat} (h : OS S o st) (hu : u + 1 < 10) : ∃ st', sX0_exchangeAt st (nI u) = some st' ∧ OS S (osw o u) st' ∧ FO st st' := by
  obtain ⟨al, D, G, rfl⟩ := h
  obtain ⟨st', al', D', e, G', h1, -, F, f⟩ := exch_ok G hu
  exact ⟨st', e, ⟨al', D', G', h1⟩, F.mono (by intro q hq; simp at hq ⊢; omega), f⟩
theorem exch_9 (st : St) : sX0_exchangeAt st (nI 9) = some st := by
  unfold sX0_exchangeAt
  rw [nI_add1, lt_e, if_neg (by rw [n_0, nI_ltE (by omega) (by omega)]; omega), if_neg (by rw [n_10, nI_ltE (by omega) (by omega)]; omega)]
theorem levelOf_L {S : List Fn} {o : Nat → Nat} {st : St} (h : OS S o st) {w k : Nat} (hk : k < 10) (hw : o k = w) : ∀ (r i fu : Nat), i + r = k → r < fu → (∀ j, j < i → o j ≠ w) → sX0_levelOf_L2 fu st (nI w) (nI i) = some (.inl (nI k)) := by
  have hN := OS_nn h
  have ho := OS_ok h
  have hw10 : w < 10 := by rw [← hw]; exact ho.1 k hk
  intro r
  induction r with
  | zero =>
    intro i fu hi hfu hj
    obtain ⟨fu, rfl⟩ : ∃ q, fu = q + 1 := ⟨fu - 1, by omega⟩
    obtain rfl : i = k := by omega
    have hx := OS_ord h hk
    rw [sX0_levelOf_L2, if_neg (by rw [n_10, nI_leE (by omega) (by omega)]; omega), gd_in hk (by omega), gI_v hN (by decide) (by omega), hx, hw, if_neg (fun z => z rfl)]
  | succ r ih =>
    intro i fu hi hfu hj
    obtain ⟨fu, rfl⟩ : ∃ q, fu = q + 1 := ⟨fu - 1, by omega⟩
    have hx := OS_ord h (show i < 10 by omega)
    have hne : o i ≠ w := fun z => by
      have := ho.2 i k (by omega) hk (z.trans hw.symm)
      omega
    have hoi := ho.1 i (by omega)
    rw [sX0_levelOf_L2, if_neg (by rw [n_10, nI_leE (by omega) (by omega)]; omega), gd_in (by omega) (by omega), gI_v hN (by decide) (by omega), hx, if_pos (by rw [nI_eqE (by omega) (by omega)]; exact hne), nI_add1, lt_e]
    exact ih (i + 1) fu (by omega) (by omega) (fun j hj' => by
      by_cases e : j = i
      · rw [e]; exact hne
      · exact hj j (by omega))
theorem levelOf_ok {S : List Fn} {o : Nat → Nat} {st : St} (h : OS S o st) {w k : Nat} (hk : k < 10) (hw : o k = w) : sX0_levelOf st (nI w) = some (nI k) := by
  unfold sX0_levelOf
  rw [n_0, levelOf_L h hk hw k 0 FU (by omega) (by show _ < 4000; omega) (fun j hj => by omega), obS_l]
/-- a variable put among the others, at a level -/
def ins (r : Nat → Nat) (w j : Nat) : Nat → Nat := fun i => if i < j then r i else if i = j then w else r (i - 1)
def rest (o : Nat → Nat) (k : Nat) : Nat → Nat := fun i => if i < k then o i else o (i + 1)
theorem ins_rest (o : Nat → Nat) (k : Nat) : ins (rest o k) (o k) k = o := by
  funext i
  unfold ins rest
  by_cases h1 : i < k
  · rw [if_pos h1, if_pos h1]
  · rw [if_neg h1]
    by_cases h2 : i = k
    · rw [if_pos h2, h2]
    · rw [if_neg h2, if_neg (by omega), show i - 1 + 1 = i by omega]
theorem ins_at (r : Nat → Nat) (w j : Nat) : ins r w j j = w := by
  unfold ins
  rw [if_neg (by omega), if_pos rfl]
theorem osw_dn (r : Nat → Nat) (w j : Nat) : osw (ins r w j) j = ins r w (j + 1) := by
  funext i
  unfold osw ins
  by_cases h1 : i = j
  · subst h1
    rw [if_pos rfl, if_neg (by omega), if_neg (by omega), if_pos (by omega)]
    rw [show i + 1 - 1 = i by omega]
  · rw [if_neg h1]
    by_cases h2 : i = j + 1
    · subst h2
      rw [if_pos rfl, if_neg (by omega), if_pos rfl, if_neg (by omega), if_pos rfl]
    · rw [if_neg h2]
      by_cases h3 : i < j
      · rw [if_pos h3, if_pos (by omega)]
      · rw [if_neg h3, if_neg h1, if_neg (by omega), if_neg h2]
theorem osw_up (r : Nat → Nat) (w j : Nat) : osw (ins r w (j + 1)) j = ins r w j := by
  funext i
  unfold osw ins
  by_cases h1 : i = j
  · subst h1
    rw [if_pos rfl, if_neg (by omega), if_pos rfl, if_neg (by omega), if_pos rfl]
  · rw [if_neg h1]
    by_cases h2 : i = j + 1
    · subst h2
      rw [if_pos rfl, if_pos (by omega), if_neg (by omega), if_neg (by omega)]
      rw [show j + 1 - 1 = j by omega]
    · rw [if_neg h2]
      by_cases h3 : i < j
      · rw [if_pos (show i < j + 1 by omega), if_pos h3]
      · rw [if_neg (by omega), if_neg h2, if_neg h3, if_neg h1]
theorem lift_L {S : List Fn} {r : Nat → Nat} {w t : Nat} : ∀ (d k fu : Nat) (st : St), k = t + d → k < 10 → OS S (ins r w k) st → d < fu → ∃ st', sX0_lift_L6 fu st (nI t) (nI k) = some st' ∧ OS S (ins r w t) st' ∧ FO st st'
  | 0, k, fu, st, hk, hk2, h, hfu => by
    obtain ⟨fu, rfl⟩ : ∃ q, fu = q + 1 := ⟨fu - 1, by omega⟩
    obtain rfl : k = t := by omega
    exact ⟨st, by rw [sX0_lift_L6, if_pos (by rw [nI_leE (by omega) (by omega)]; omega)], h, FO.refl st⟩
  | d + 1, k, fu, st, hk, hk2, h, hfu => by
    obtain ⟨fu, rfl⟩ : ∃ q, fu = q + 1 := ⟨fu - 1, by omega⟩
    obtain ⟨k', rfl⟩ : ∃ q, k = q + 1 := ⟨k - 1, by omega⟩
    obtain ⟨s1, e1, h1, f1⟩ := exch_OS (u := k') h (by omega)
    rw [osw_up] at h1
    obtain ⟨s2, e2, h2, f2⟩ := lift_L (t := t) d k' fu s1 (by omega) (by omega) h1 (by omega)
    have em : nI (k' + 1) + (-1 : Int32) = nI k' := by
      rw [← nI_add1, Int32.add_assoc, show (1 : Int32) + (-1 : Int32) = 0 by decide, Int32.add_zero]
    have es : nI (k' + 1) - (1 : Int32) = nI k' := by
      rw [n_1, nI_subE (by omega), show k' + 1 - 1 = k' by omega]
    refine ⟨s2, ?_, h2, f1.trans f2⟩
    rw [sX0_lift_L6, if_neg (by rw [nI_leE (by omega) (by omega)]; omega), if_neg (by rw [n_0, nI_leE (by omega) (by omega)]; omega), es, e1, ob_s, em, lt_e, e2]
theorem lift_ok {S : List Fn} {r : Nat → Nat} {w k t : Nat} {st : St} (h : OS S (ins r w k) st) (hk : k < 10) (ht : t ≤ k) : ∃ st', sX0_lift st (nI w) (nI t) = some st' ∧ OS S (ins r w t) st' ∧ FO st st' := by
  obtain ⟨s1, e1, h1, f1⟩ := lift_L (t := t) (k - t) k FU st (by omega) hk h (by show _ < 4000; omega)
  refine ⟨s1, ?_, h1, f1⟩
  unfold sX0_lift
  rw [levelOf_ok h hk (ins_at r w k), ob_s, e1, ob_s]
/-- the first of the best among the levels from j on, beside what was found so far -/
def bestOf (T : Nat → Nat) : Nat → Nat → Nat → Nat → Nat
  | 0, _, best, _ => best
  | n + 1, j, best, least => if T j < least then bestOf T n (j + 1) j (T j) else bestOf T n (j + 1) best least
theorem bestOf_le (T : Nat → Nat) : ∀ (n j best least : Nat), (best < 10 ∧ (least = 401 ∨ T best = least)) → j + n = 10 → (bestOf T n j best least < 10) ∧ (∀ i, j ≤ i → i < 10 → T i < 401 → T (bestOf T n j best least) ≤ T i) ∧ (least < 401 → T (bestOf T n j best least) ≤ least)
  | 0, j, best, least, hb, hj => ⟨hb.1, fun i h1 h2 => by omega, fun h => by
    show T best ≤ least
    rcases hb.2 with q | q <;> omega⟩
  | n + 1, j, best, least, hb, hj => by
    unfold bestOf
    by_cases q : T j < least
    · rw [if_pos q]
      obtain ⟨a1, a2, a3⟩ := bestOf_le T n (j + 1) j (T j) ⟨by omega, Or.inr rfl⟩ (by omega)
      refine ⟨a1, fun i h1 h2 h3 => ?_, fun h => ?_⟩
      · by_cases e : i = j
        · subst e
          exact a3 h3
        · exact a2 i (by omega) h2 h3
      · have := a3 (by omega)
        omega
    · rw [if_neg q]
      obtain ⟨a1, a2, a3⟩ := bestOf_le T n (j + 1) best least hb (by omega)
      refine ⟨a1, fun i h1 h2 h3 => ?_, a3⟩
      by_cases e : i = j
      · subst e
        have := a3 (by omega)
        omega
      · exact a2 i (by omega) h2 h3
theorem walk_L {S : List Fn} {r : Nat → Nat} {w : Nat} : ∀ (d j best least fu : Nat) (st : St), j + d = 10 → OS S (ins r w (if j < 10 then j else 9)) st → best < 10 → least ≤ 401 → d < fu → ∃ st', sX0_walk_L8 fu st (nI best) (nI least) (nI j) = some (st', nI (bestOf (fun i => nAll S (ins r w i)) d j best least)) ∧ OS S (ins r w 9) st' ∧ FO st st'
  | 0, j, best, least, fu, st, hj, h, hb, hl, hfu => by
    obtain ⟨fu, rfl⟩ : ∃ q, fu = q + 1 := ⟨fu - 1, by omega⟩
    obtain rfl : j = 10 := by omega
    rw [if_neg (by omega)] at h
    exact ⟨st, by rw [sX0_walk_L8, if_pos (by rw [n_10, nI_leE (by omega) (by omega)]; omega)]; rfl, h, FO.refl st⟩
  | d + 1, j, best, least, fu, st, hj, h, hb, hl, hfu => by
    obtain ⟨fu, rfl⟩ : ∃ q, fu = q + 1 := ⟨fu - 1, by omega⟩
    rw [if_pos (by omega)] at h
    obtain ⟨t1, t2⟩ := OS_total h
    -- the step down
    have step : ∃ s1, sX0_exchangeAt st (nI j) = some s1 ∧ OS S (ins r w (if j + 1 < 10 then j + 1 else 9)) s1 ∧ FO st s1 := by
      by_cases q : j + 1 < 10
      · obtain ⟨s1, e1, h1, f1⟩ := exch_OS (u := j) h q
        rw [osw_dn] at h1
        exact ⟨s1, e1, by rw [if_pos q]; exact h1, f1⟩
      · obtain rfl : j = 9 := by omega
        exact ⟨st, exch_9 st, by rw [if_neg (by omega)]; exact h, FO.refl st⟩
    obtain ⟨s1, e1, h1, f1⟩ := step
    have e0 : ¬ (10 : Int32) ≤ nI j := by rw [n_10, nI_leE (by omega) (by omega)]; omega
    by_cases q : nAll S (ins r w j) < least
    · obtain ⟨s2, e2, h2, f2⟩ := walk_L d (j + 1) j (nAll S (ins r w j)) fu s1 (by omega) h1 (by omega) (by omega) (by omega)
      refine ⟨s2, ?_, h2, f1.trans f2⟩
      rw [sX0_walk_L8, if_neg e0, t1, if_neg (by rw [nI_leE (by omega) (by omega)]; omega), lt_e, e1, ob_s, nI_add1, lt_e, e2]
      show some (s2, nI (bestOf _ d (j + 1) j (nAll S (ins r w j)))) = some (s2, nI (if nAll S (ins r w j) < least then _ else _))
      rw [if_pos q]
    · obtain ⟨s2, e2, h2, f2⟩ := walk_L d (j + 1) best least fu s1 (by omega) h1 hb hl (by omega)
      refine ⟨s2, ?_, h2, f1.trans f2⟩
      rw [sX0_walk_L8, if_neg e0, t1, if_pos (by rw [nI_leE (by omega) (by omega)]; omega), e1, ob_s, nI_add1, lt_e, e2]
      show some (s2, nI (bestOf _ d (j + 1) best least)) = some (s2, nI (if nAll S (ins r w j) < least then _ else _))
      rw [if_neg q]
/-- where a variable goes -/
noncomputable def goes (S : List Fn) (r : Nat → Nat) (w : Nat) : Nat := bestOf (fun i => nAll S (ins r w i)) 10 0 0 401
theorem walk_ok {S : List Fn} {r : Nat → Nat} {w : Nat} {st : St} (h : OS S (ins r w 0) st) : ∃ st', sX0_walk st = some (nI (goes S r w), st') ∧ OS S (ins r w 9) st' ∧ FO st st' := by
  obtain ⟨s1, e1, h1, f1⟩ := walk_L 10 0 0 401 FU st rfl (by rw [if_pos (by omega)]; exact h) (by omega) (by omega) (by decide)
  refine ⟨s1, ?_, h1, f1⟩
  unfold sX0_walk
  rw [n_0, n_401, e1, ob2_s]
  rfl
theorem goes_ok {S : List Fn} {r : Nat → Nat} {w k : Nat} (hk : k < 10) (hT : nAll S (ins r w k) ≤ 400) : goes S r w < 10 ∧ nAll S (ins r w (goes S r w)) ≤ nAll S (ins r w k) := by
  obtain ⟨h1, h2, -⟩ := bestOf_le (fun i => nAll S (ins r w i)) 10 0 0 401 ⟨by omega, Or.inl rfl⟩ rfl
  exact ⟨h1, h2 k (Nat.zero_le _) hk (by omega)⟩
/-- sifting one variable: TOTAL gets no greater -/
theorem siftOne_ok {S : List Fn} {o : Nat → Nat} {st : St} {w : Nat} (h : OS S o st) (hw : w < 10) (hT : nAll S o ≤ 400) : ∃ (b : Nat) (o' : Nat → Nat) (st' : St), sX3_siftOne st (nI w) = some (nI b, st') ∧ b < 10 ∧ OS S o' st' ∧ nAll S o' ≤ nAll S o ∧ FO st st' := by
  obtain ⟨k, hk, rfl⟩ := oOK_sur (OS_ok h) hw
  have h0 : OS S (ins (rest o k) (o k) k) st := by rw [ins_rest]; exact h
  obtain ⟨s1, e1, h1, f1⟩ := lift_ok h0 hk (Nat.zero_le _)
  obtain ⟨s2, e2, h2, f2⟩ := walk_ok h1
  obtain ⟨g1, g2⟩ := goes_ok (S := S) (r := rest o k) (w := o k) hk (by rw [ins_rest]; exact hT)
  obtain ⟨s3, e3, h3, f3⟩ := lift_ok (t := goes S (rest o k) (o k)) h2 (by omega) (by omega)
  rw [ins_rest] at g2
  refine ⟨goes S (rest o k) (o k), _, s3, ?_, g1, h3, g2, f1.trans (f2.trans f3)⟩
  unfold sX3_siftOne
  rw [n_0, e1, ob_s, e2, ob2_s, e3, ob_s]
/-- asking where it would go changes nothing -/
theorem wouldSift_ok {S : List Fn} {o : Nat → Nat} {st : St} {w : Nat} (h : OS S o st) (hw : w < 10) : ∃ (b : Nat) (st' : St), sX3_wouldSift st (nI w) = some (nI b, st') ∧ b < 10 ∧ OS S o st' ∧ FO st st' := by
  obtain ⟨k, hk, rfl⟩ := oOK_sur (OS_ok h) hw
  have h0 : OS S (ins (rest o k) (o k) k) st := by rw [ins_rest]; exact h
  obtain ⟨s1, e1, h1, f1⟩ := lift_ok h0 hk (Nat.zero_le _)
  obtain ⟨s2, e2, h2, f2⟩ := walk_ok h1
  obtain ⟨s3, e3, h3, f3⟩ := lift_ok (t := k) h2 (by omega) (by omega)
  rw [ins_rest] at h3
  have hb : goes S (rest o k) (o k) < 10 := (bestOf_le (fun i => nAll S (ins (rest o k) (o k) i)) 10 0 0 401 ⟨by omega, Or.inl rfl⟩ rfl).1
  refine ⟨goes S (rest o k) (o k), s3, ?_, hb, h3, f1.trans (f2.trans f3)⟩
  unfold sX3_wouldSift
  have hc : sX3_checkVariable st (nI (o k)) = some () := by
    unfold sX3_checkVariable
    rw [if_neg (by rw [n_0, nI_ltE (by omega) (by omega)]; omega), if_pos (by rw [n_10, nI_ltE (by omega) (by omega)]; omega)]
  rw [hc, ob_s, levelOf_ok h hk rfl, ob_s, n_0, e1, ob_s, e2, ob2_s, e3, ob_s]
theorem osw_osw (o : Nat → Nat) (u : Nat) : osw (osw o u) u = o := by
  funext i
  unfold osw
  by_cases h1 : i = u
  · rw [if_pos h1, if_neg (by omega), if_pos rfl, h1]
  · rw [if_neg h1]
    by_cases h2 : i = u + 1
    · rw [if_pos h2, if_pos rfl, h2]
    · rw [if_neg h2, if_neg h1, if_neg h2]
theorem checkLevel_ok (st : St) {L : Nat} (hL : L < 9) : sX3_checkLevel st (nI L) (9 : Int32) = some () := by
  unfold sX3_checkLevel
  rw [if_neg (by rw [n_0, nI_ltE (by omega) (by omega)]; omega), if_pos (by rw [n_9, nI_ltE (by omega) (by omega)]; omega)]
theorem swap_ok {S : List Fn} {o : Nat → Nat} {st : St} {L : Nat} (h : OS S o st) (hL : L < 9) (hT : nAll S o ≤ 400) : ∃ (r : Int32) (o' : Nat → Nat) (st' : St), sX3_swap st (nI L) = some (r, st') ∧ OS S o' st' ∧ nAll S o' ≤ 400 ∧ FO st st' := by
  obtain ⟨s1, e1, h1, f1⟩ := exch_OS (u := L) h (by omega)
  obtain ⟨t1, t2⟩ := OS_total h1
  obtain ⟨s2, e2, h2, f2⟩ := exch_OS (u := L) h1 (by omega)
  rw [osw_osw] at h2
  have hc : sX0_count s1 = some (nI (nAll S (osw o L))) := by unfold sX0_count; rw [t1]
  unfold sX3_swap
  rw [checkLevel_ok st hL, ob_s, e1, ob_s, hc, ob_s]
  by_cases q : nAll S (osw o L) ≤ 400
  · refine ⟨nI (nAll S (osw o L)), osw o L, s1, ?_, h1, q, f1⟩
    rw [if_pos (by rw [n_400, nI_leE (by omega) (by omega)]; exact q), ob_s]
  · refine ⟨-1, o, s2, ?_, h2, hT, f1.trans f2⟩
    rw [if_neg (by rw [n_400, nI_leE (by omega) (by omega)]; exact q), e2, ob_s]
theorem wouldSwap_ok {S : List Fn} {o : Nat → Nat} {st : St} {L : Nat} (h : OS S o st) (hL : L < 9) : ∃ (r : Int32) (st' : St), sX3_wouldSwap st (nI L) = some (r, st') ∧ (r = -1 ∨ ∃ n, n ≤ 400 ∧ r = nI n) ∧ OS S o st' ∧ FO st st' := by
  obtain ⟨s1, e1, h1, f1⟩ := exch_OS (u := L) h (by omega)
  obtain ⟨t1, t2⟩ := OS_total h1
  obtain ⟨s2, e2, h2, f2⟩ := exch_OS (u := L) h1 (by omega)
  rw [osw_osw] at h2
  have hc : sX0_count s1 = some (nI (nAll S (osw o L))) := by unfold sX0_count; rw [t1]
  unfold sX3_wouldSwap
  rw [checkLevel_ok st hL, ob_s, e1, ob_s, hc, ob_s, e2, ob_s]
  by_cases q : nAll S (osw o L) ≤ 400
  · exact ⟨_, s2, if_pos (by rw [n_400, nI_leE (by omega) (by omega)]; exact q), Or.inr ⟨_, q, rfl⟩, h2, f1.trans f2⟩
  · exact ⟨_, s2, if_neg (by rw [n_400, nI_leE (by omega) (by omega)]; exact q), Or.inl rfl, h2, f1.trans f2⟩
theorem sift_ok {S : List Fn} {o : Nat → Nat} {st : St} {w : Nat} (h : OS S o st) (hw : w < 10) (hT : nAll S o ≤ 400) : ∃ (r : Int32) (o' : Nat → Nat) (st' : St), sX3_sift st (nI w) = some (r, st') ∧ OS S o' st' ∧ nAll S o' ≤ 400 ∧ FO st st' := by
  obtain ⟨b, o', s1, e1, -, h1, h2, f1⟩ := siftOne_ok h hw hT
  refine ⟨nI b, o', s1, ?_, h1, by omega, f1⟩
  unfold sX3_sift
  have hc : sX3_checkVariable st (nI w) = some () := by
    unfold sX3_checkVariable
    rw [if_neg (by rw [n_0, nI_ltE (by omega) (by omega)]; omega), if_pos (by rw [n_10, nI_ltE (by omega) (by omega)]; omega)]
  rw [hc, ob_s, e1, ob2_s]
