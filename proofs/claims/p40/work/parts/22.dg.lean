/-! DIAGRAMS: nodes by number, each with a function; what makes them canonical, and how many there are at a level -/
def ch (al : Nat → Bool) (c : Nat) : Prop := c < 2 ∨ al c = true
def lvl (lev : Nat → Nat) (c : Nat) : Nat := if c < 2 then 10 else lev c
def oOK (o : Nat → Nat) : Prop := (∀ i, i < 10 → o i < 10) ∧ ∀ i j, i < 10 → j < 10 → o i = o j → i = j
def DN (al : Nat → Bool) (lev low high : Nat → Nat) (o : Nat → Nat) (D : Nat → Fn) (n : Nat) : Prop := 2 ≤ n ∧ n < 2560 ∧ lev n < 10 ∧ ch al (low n) ∧ ch al (high n) ∧ lev n < lvl lev (low n) ∧ lev n < lvl lev (high n) ∧ low n ≠ high n ∧ D n = mux (o (lev n)) (D (low n)) (D (high n))
def DG (al : Nat → Bool) (lev low high : Nat → Nat) (o : Nat → Nat) (D : Nat → Fn) : Prop := (∀ n, al n = true → DN al lev low high o D n) ∧ (∀ n m, al n = true → al m = true → lev n = lev m → low n = low m → high n = high m → n = m) ∧ D 0 = cst false ∧ D 1 = cst true ∧ oOK o
section DGS
variable {al : Nat → Bool} {lev low high : Nat → Nat} {o : Nat → Nat} {D : Nat → Fn}
theorem lvl_le (h : DG al lev low high o D) {c : Nat} (hc : ch al c) : lvl lev c ≤ 10 := by
  unfold lvl
  by_cases h2 : c < 2
  · rw [if_pos h2]
    exact Nat.le_refl _
  · rw [if_neg h2]
    rcases hc with q | q
    · exact absurd q h2
    · have := (h.1 c q).2.2.1
      omega
theorem lvl_al (h : DG al lev low high o D) {n : Nat} (hn : al n = true) : lvl lev n = lev n := by
  unfold lvl
  rw [if_neg (by have := (h.1 n hn).1; omega)]
theorem DG_const (h : DG al lev low high o D) {c : Nat} (hc : c < 2) : D c = cst (c == 1) := by
  rcases (show c = 0 ∨ c = 1 by omega) with rfl | rfl
  · exact h.2.2.1
  · exact h.2.2.2.1
theorem DG_indep (h : DG al lev low high o D) : ∀ (k c l : Nat), ch al c → 10 - lvl lev c ≤ k → l < lvl lev c → l < 10 → indep (D c) (o l) := by
  intro k
  induction k with
  | zero =>
    intro c l hc hk hl hl2
    by_cases h2 : c < 2
    · rw [DG_const h h2]
      exact indep_cst _ _
    · rcases hc with q | q
      · exact absurd q h2
      · have := (h.1 c q).2.2.1
        rw [lvl_al h q] at hk
        omega
  | succ k ih =>
    intro c l hc hk hl hl2
    by_cases h2 : c < 2
    · rw [DG_const h h2]
      exact indep_cst _ _
    · rcases hc with q | q
      · exact absurd q h2
      · obtain ⟨g1, g2, g3, g4, g5, g6, g7, g8, g9⟩ := h.1 c q
        rw [lvl_al h q] at hk hl
        rw [g9]
        have b1 := lvl_le h g4
        have b2 := lvl_le h g5
        refine indep_mux (fun e => ?_) (ih _ l g4 (by omega) (by omega) hl2) (ih _ l g5 (by omega) (by omega) hl2)
        have := h.2.2.2.2.2 l (lev c) hl2 g3 e
        omega
theorem DG_ind (h : DG al lev low high o D) {c l : Nat} (hc : ch al c) (hl : l < lvl lev c) (hl2 : l < 10) : indep (D c) (o l) := DG_indep h _ c l hc (Nat.le_refl _) hl hl2
theorem DG_low (h : DG al lev low high o D) {n : Nat} (hn : al n = true) : co (o (lev n)) false (D n) = D (low n) := by
  obtain ⟨g1, g2, g3, g4, g5, g6, g7, g8, g9⟩ := h.1 n hn
  rw [g9, co_mux_of (DG_ind h g4 g6 g3) (DG_ind h g5 g7 g3)]
  rfl
theorem DG_high (h : DG al lev low high o D) {n : Nat} (hn : al n = true) : co (o (lev n)) true (D n) = D (high n) := by
  obtain ⟨g1, g2, g3, g4, g5, g6, g7, g8, g9⟩ := h.1 n hn
  rw [g9, co_mux_of (DG_ind h g4 g6 g3) (DG_ind h g5 g7 g3)]
  rfl
theorem DG_inj_k (h : DG al lev low high o D) : ∀ (k a b : Nat), ch al a → ch al b → 10 - lvl lev a ≤ k → 10 - lvl lev b ≤ k → D a = D b → a = b := by
  intro k
  induction k with
  | zero =>
    intro a b ha hb hka hkb e
    have two : ∀ c, ch al c → 10 - lvl lev c ≤ 0 → c < 2 := by
      intro c hc hk
      rcases hc with q | q
      · exact q
      · have := (h.1 c q).2.2.1
        rw [lvl_al h q] at hk
        omega
    have a2 := two a ha hka
    have b2 := two b hb hkb
    rw [DG_const h a2, DG_const h b2] at e
    rcases (show a = 0 ∨ a = 1 by omega) with rfl | rfl <;> rcases (show b = 0 ∨ b = 1 by omega) with rfl | rfl
    · rfl
    · exact absurd e cst_ne
    · exact absurd e.symm cst_ne
    · rfl
  | succ k ih =>
    have one : ∀ a b, ch al a → ch al b → 10 - lvl lev a ≤ k + 1 → lvl lev a < lvl lev b → D a = D b → False := by
      intro a b ha hb hka hlt e
      have bb := lvl_le h hb
      rcases ha with q | q
      · unfold lvl at hlt
        rw [if_pos q] at hlt
        have : lvl lev b ≤ 10 := bb
        unfold lvl at this
        omega
      · obtain ⟨g1, g2, g3, g4, g5, g6, g7, g8, g9⟩ := h.1 a q
        rw [lvl_al h q] at hka hlt
        have hi := DG_ind h hb hlt g3
        have e1 := DG_low h q
        have e2 := DG_high h q
        rw [e, hi] at e1 e2
        have b1 := lvl_le h g4
        have b2 := lvl_le h g5
        exact g8 (ih _ _ g4 g5 (by omega) (by omega) (e1.symm.trans e2))
    intro a b ha hb hka hkb e
    rcases Nat.lt_trichotomy (lvl lev a) (lvl lev b) with q | q | q
    · exact (one a b ha hb hka q e).elim
    · rcases ha with a2 | a2
      · rcases hb with b2 | b2
        · rw [DG_const h a2, DG_const h b2] at e
          rcases (show a = 0 ∨ a = 1 by omega) with rfl | rfl <;> rcases (show b = 0 ∨ b = 1 by omega) with rfl | rfl
          · rfl
          · exact absurd e cst_ne
          · exact absurd e.symm cst_ne
          · rfl
        · have := (h.1 b b2).2.2.1
          rw [lvl_al h b2] at q
          unfold lvl at q
          rw [if_pos a2] at q
          omega
      · rcases hb with b2 | b2
        · have := (h.1 a a2).2.2.1
          rw [lvl_al h a2] at q
          unfold lvl at q
          rw [if_pos b2] at q
          omega
        · obtain ⟨g1, g2, g3, g4, g5, g6, g7, g8, g9⟩ := h.1 a a2
          obtain ⟨f1, f2, f3, f4, f5, f6, f7, f8, f9⟩ := h.1 b b2
          rw [lvl_al h a2, lvl_al h b2] at q
          rw [lvl_al h a2] at hka
          have eL : D (low a) = D (low b) := by rw [← DG_low h a2, ← DG_low h b2, e, q]
          have eH : D (high a) = D (high b) := by rw [← DG_high h a2, ← DG_high h b2, e, q]
          have b1 := lvl_le h g4
          have b2' := lvl_le h g5
          have c1 := lvl_le h f4
          have c2 := lvl_le h f5
          exact h.2.1 a b a2 b2 q (ih _ _ g4 f4 (by omega) (by omega) eL) (ih _ _ g5 f5 (by omega) (by omega) eH)
    · exact (one b a hb ha hkb q e.symm).elim
theorem DG_inj (h : DG al lev low high o D) {a b : Nat} (ha : ch al a) (hb : ch al b) (e : D a = D b) : a = b := DG_inj_k h 10 a b ha hb (by omega) (by omega) e
theorem DG_ndep (h : DG al lev low high o D) {n : Nat} (hn : al n = true) : ¬ indep (D n) (o (lev n)) := by
  intro hi
  obtain ⟨g1, g2, g3, g4, g5, g6, g7, g8, g9⟩ := h.1 n hn
  have e1 := DG_low h hn
  have e2 := DG_high h hn
  rw [hi] at e1 e2
  exact g8 (DG_inj h g4 g5 (e1.symm.trans e2))
end DGS
/-! what the nodes of a level are: of the functions S, with the variables above put to values -/
def cofs (S : List Fn) (o : Nat → Nat) : Nat → List Fn
  | 0 => S
  | L + 1 => (cofs S o L).flatMap (fun g => [co (o L) false g, co (o L) true g])
theorem cofs_succ {S : List Fn} {o : Nat → Nat} {L : Nat} {g : Fn} : g ∈ cofs S o (L + 1) ↔ ∃ f b, f ∈ cofs S o L ∧ g = co (o L) b f := by
  rw [show cofs S o (L + 1) = (cofs S o L).flatMap (fun g => [co (o L) false g, co (o L) true g]) from rfl, List.mem_flatMap]
  constructor
  · rintro ⟨f, hf, hg⟩
    rcases List.mem_cons.mp hg with rfl | hg
    · exact ⟨f, false, hf, rfl⟩
    · rcases List.mem_cons.mp hg with rfl | hg
      · exact ⟨f, true, hf, rfl⟩
      · cases hg
  · rintro ⟨f, b, hf, rfl⟩
    refine ⟨f, hf, ?_⟩
    cases b
    · exact List.mem_cons_self
    · exact List.mem_cons_of_mem _ List.mem_cons_self
theorem cofs_len (S : List Fn) (o : Nat → Nat) : ∀ L, (cofs S o L).length = S.length * 2 ^ L
  | 0 => by simp [cofs]
  | L + 1 => by
    have ih := cofs_len S o L
    rw [show cofs S o (L + 1) = (cofs S o L).flatMap (fun g => [co (o L) false g, co (o L) true g]) from rfl, List.length_flatMap]
    have : ((cofs S o L).map (fun g => ([co (o L) false g, co (o L) true g] : List Fn).length)).sum = 2 * (cofs S o L).length := by
      generalize cofs S o L = l
      induction l with
      | nil => rfl
      | cons a l ih =>
        simp only [List.map_cons, List.sum_cons, List.length_cons, List.length_nil] at ih ⊢
        omega
    rw [this, ih, Nat.pow_succ]
    rw [Nat.mul_comm 2, Nat.mul_assoc]
noncomputable def depB (f : Fn) (v : Nat) : Bool := @decide (¬ indep f v) (Classical.propDecidable _)
theorem depB_true {f : Fn} {v : Nat} : depB f v = true ↔ ¬ indep f v := by
  unfold depB
  exact @decide_eq_true_iff _ (Classical.propDecidable _)
noncomputable def nodL (S : List Fn) (o : Nat → Nat) (L : Nat) : List Fn := (cofs S o L).filter (fun g => depB g (o L))
theorem mem_nodL {S : List Fn} {o : Nat → Nat} {L : Nat} {g : Fn} : g ∈ nodL S o L ↔ g ∈ cofs S o L ∧ ¬ indep g (o L) := by
  unfold nodL
  rw [List.mem_filter, depB_true]
/-- how many NODES the functions S have at a level, and at all levels -/
noncomputable def nAt (S : List Fn) (o : Nat → Nat) (L : Nat) : Nat := dcount (nodL S o L)
noncomputable def nSum (S : List Fn) (o : Nat → Nat) : Nat → Nat
  | 0 => 0
  | L + 1 => nSum S o L + nAt S o L
noncomputable def nAll (S : List Fn) (o : Nat → Nat) : Nat := nSum S o 10
section DGC
variable {al : Nat → Bool} {lev low high : Nat → Nat} {o : Nat → Nat} {D : Nat → Fn} {S : List Fn}
/-- every function with the variables above put to values has its node -/
theorem DG_has (h : DG al lev low high o D) (hS : ∀ g, g ∈ S → ∃ c, ch al c ∧ D c = g) : ∀ L, L ≤ 10 → ∀ g, g ∈ cofs S o L → ∃ c, ch al c ∧ D c = g ∧ L ≤ lvl lev c := by
  intro L
  induction L with
  | zero =>
    intro _ g hg
    obtain ⟨c, h1, h2⟩ := hS g hg
    exact ⟨c, h1, h2, Nat.zero_le _⟩
  | succ L ih =>
    intro hL g hg
    obtain ⟨f, b, hf, rfl⟩ := cofs_succ.mp hg
    obtain ⟨c, h1, h2, h3⟩ := ih (by omega) f hf
    by_cases e : lvl lev c = L
    · rcases h1 with q | q
      · unfold lvl at e
        rw [if_pos q] at e
        omega
      · obtain ⟨g1, g2, g3, g4, g5, g6, g7, g8, g9⟩ := h.1 c q
        rw [lvl_al h q] at e
        subst e
        cases b
        · exact ⟨low c, g4, by rw [← h2, DG_low h q], g6⟩
        · exact ⟨high c, g5, by rw [← h2, DG_high h q], g7⟩
    · exact ⟨c, h1, by rw [← h2]; exact (DG_ind h h1 (by omega) (by omega) b).symm, by omega⟩
/-- each node is one of them, if each is pointed to by a node or is a root -/
theorem DG_reach (h : DG al lev low high o D) (hR : ∀ n, al n = true → D n ∈ S ∨ ∃ m, al m = true ∧ (low m = n ∨ high m = n)) : ∀ k n, lev n < k → al n = true → D n ∈ cofs S o (lev n) := by
  have up : ∀ (g : Fn) (l : Nat), g ∈ cofs S o l → ∀ d, (∀ i, l ≤ i → i < l + d → indep g (o i)) → g ∈ cofs S o (l + d) := by
    intro g l hg d
    induction d with
    | zero => intro _; exact hg
    | succ d ih =>
      intro hi
      exact cofs_succ.mpr ⟨g, false, ih (fun i h1 h2 => hi i h1 (by omega)), (hi (l + d) (by omega) (by omega) false).symm⟩
  intro k
  induction k with
  | zero => intro n h1; omega
  | succ k ih =>
    intro n hk hn
    have hl : lvl lev n = lev n := lvl_al h hn
    have hl2 := (h.1 n hn).2.2.1
    rcases hR n hn with q | ⟨m, hm, q⟩
    · have := up (D n) 0 q (lev n) (fun i _ h2 => DG_ind h (Or.inr hn) (by omega) (by omega))
      rwa [Nat.zero_add] at this
    · obtain ⟨g1, g2, g3, g4, g5, g6, g7, g8, g9⟩ := h.1 m hm
      have hlt : lev m < lev n := by
        rcases q with rfl | rfl
        · rw [hl] at g6; exact g6
        · rw [hl] at g7; exact g7
      have h3 := ih m (by omega) hm
      have h4 : D n ∈ cofs S o (lev m + 1) := by
        rcases q with rfl | rfl
        · exact cofs_succ.mpr ⟨D m, false, h3, (DG_low h hm).symm⟩
        · exact cofs_succ.mpr ⟨D m, true, h3, (DG_high h hm).symm⟩
      have := up (D n) (lev m + 1) h4 (lev n - (lev m + 1)) (fun i _ h2 => DG_ind h (Or.inr hn) (by omega) (by omega))
      rwa [show lev m + 1 + (lev n - (lev m + 1)) = lev n by omega] at this
theorem DG_count (h : DG al lev low high o D) (hS : ∀ g, g ∈ S → ∃ c, ch al c ∧ D c = g) (hR : ∀ n, al n = true → D n ∈ S ∨ ∃ m, al m = true ∧ (low m = n ∨ high m = n)) {L : Nat} (hL : L < 10) : cnt 2560 (fun n => al n && (lev n == L)) = nAt S o L := by
  rw [← cnt_filter]
  refine (dcount_eq (f := D) ((range_nodup 2560).filter _) (fun a b ha hb e => ?_) (fun g => ?_)).symm
  · have ha' := (List.mem_filter.mp ha).2
    have hb' := (List.mem_filter.mp hb).2
    simp only [Bool.and_eq_true] at ha' hb'
    exact DG_inj h (Or.inr ha'.1) (Or.inr hb'.1) e
  · rw [mem_nodL]
    constructor
    · rintro ⟨h1, h2⟩
      obtain ⟨c, c1, c2, c3⟩ := DG_has h hS L (by omega) g h1
      have e : lvl lev c = L := by
        rcases Nat.lt_or_ge L (lvl lev c) with q | q
        · exact absurd (by rw [← c2]; exact DG_ind h c1 q hL) h2
        · omega
      have hc : al c = true := by
        rcases c1 with q | q
        · unfold lvl at e
          rw [if_pos q] at e
          omega
        · exact q
      refine ⟨c, List.mem_filter.mpr ⟨List.mem_range.mpr (h.1 c hc).2.1, ?_⟩, c2⟩
      rw [lvl_al h hc] at e
      simp [hc, e]
    · rintro ⟨n, hn, rfl⟩
      have hn' := (List.mem_filter.mp hn).2
      simp only [Bool.and_eq_true, beq_iff_eq] at hn'
      obtain ⟨h1, rfl⟩ := hn'
      exact ⟨DG_reach h hR _ n (Nat.lt_succ_self _) h1, DG_ndep h h1⟩
end DGC
