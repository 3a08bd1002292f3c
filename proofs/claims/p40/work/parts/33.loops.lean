/-! the loops of exchangeAt over the list: raising, sinking -/
def inB (t : List Nat) (m : Nat) : Bool := decide (m ∈ t)
theorem inB_t {t : List Nat} {m : Nat} : inB t m = true ↔ m ∈ t := decide_eq_true_iff
theorem inB_f {t : List Nat} {m : Nat} : inB t m = false ↔ m ∉ t := decide_eq_false_iff_not
def orB (p q : Nat → Bool) : Nat → Bool := fun m => p m || q m
def upH (hold : Nat → Nat) (t : List Nat) : Nat → Nat := fun m => hold m + (if m ∈ t then 1 else 0)
theorem getD_cons_s (n : Nat) (t : List Nat) (j : Nat) : (n :: t).getD (j + 1) 0 = t.getD j 0 := rfl
theorem raise_L {al : Nat → Bool} {u al' : Nat} {x2 x3 : Int32} (hu : u < 10) : ∀ (t : List Nat) (i fu : Nat) (st : St) (lk : Nat → Bool) (hold : Nat → Nat), BI st al lk hold → t.Nodup → (∀ n, n ∈ t → al n = true ∧ lk n = false ∧ hold n < 90) → (∀ j, j < t.length → v 15 st (i + j) = t.getD j 0) → i + t.length = al' → al' ≤ 2560 → t.length < fu →
    ∃ st', sX0_exchangeAt_L33 fu st (nI u) x2 x3 (nI al') (nI i) = some st' ∧ BI st' al (orB lk (inB t)) (upH hold t) ∧ (∀ m, v 8 st' m = if m ∈ t then u else v 8 st m) ∧ (∀ m, v 12 st' m = v 12 st m + (if m ∈ t then 1 else 0)) ∧ Fr [6, 7, 8, 11, 12] st st' ∧ ∀ k, k ≠ 1 → st'.2.2 k = st.2.2 k
  | [], i, fu, st, lk, hold, B, hd, hn, hl, hi, ha, hfu => by
    obtain ⟨fu, rfl⟩ : ∃ q, fu = q + 1 := ⟨fu - 1, by simp at hfu; omega⟩
    have hi0 : i = al' := hi
    subst hi0
    refine ⟨st, ?_, ?_, fun m => by rw [if_neg List.not_mem_nil], fun m => by rw [if_neg List.not_mem_nil]; rfl, Fr.refl _ _, fun _ _ => rfl⟩
    · rw [sX0_exchangeAt_L33, if_pos (by rw [nI_leE (by omega) (by omega)]; omega)]
    · have e1 : orB lk (inB []) = lk := by
        funext m
        unfold orB inB
        simp
      have e2 : upH hold [] = hold := by
        funext m
        unfold upH
        simp
      rw [e1, e2]
      exact B
  | n :: t, i, fu, st, lk, hold, B, hd, hn, hl, hi, ha, hfu => by
    obtain ⟨fu, rfl⟩ : ∃ q, fu = q + 1 := ⟨fu - 1, by simp at hfu; omega⟩
    simp only [List.length_cons] at hi hfu
    obtain ⟨d1, d2⟩ := List.nodup_cons.mp hd
    obtain ⟨a1, a2, a3⟩ := hn n List.mem_cons_self
    have hN := B.1.1
    have hv : v 15 st i = n := hl 0 (Nat.zero_lt_succ _)
    obtain ⟨s1, e1, B1, V8, V12, F1, k1⟩ := raise_ok B a1 a2 hu (by omega)
    have ne : ∀ m, m ∈ t → m ≠ n := fun m hm z => d1 (z ▸ hm)
    obtain ⟨s2, e2, B2, W8, W12, F2, k2⟩ := raise_L hu t (i + 1) fu s1 (setB lk n true) (addH hold n) B1 d2 (fun m hm => by
      obtain ⟨b1, b2, b3⟩ := hn m (List.mem_cons_of_mem _ hm)
      rw [setB_ne _ _ (ne m hm), addH_ne _ (ne m hm)]
      exact ⟨b1, b2, b3⟩) (fun j hj => by
      rw [F1.vE (by decide), show i + 1 + j = i + (j + 1) by omega, hl (j + 1) (by simp only [List.length_cons]; omega)]
      rfl) (by omega) ha (by omega)
    refine ⟨s2, ?_, ?_, fun m => ?_, fun m => ?_, F1.trans F2, fun k hk => (k2 k hk).trans (k1 k hk)⟩
    · rw [sX0_exchangeAt_L33, if_neg (by rw [nI_leE (by omega) (by omega)]; omega), gd_in (by omega) (by omega), gI_v hN (by decide) (by omega), hv, e1, ob_s, nI_add1, lt_e, e2]
    · have q1 : orB (setB lk n true) (inB t) = orB lk (inB (n :: t)) := by
        funext m
        unfold orB
        by_cases e : m = n
        · subst e
          rw [setB_self, inB_t.mpr List.mem_cons_self]
          simp
        · rw [setB_ne _ _ e]
          congr 1
          unfold inB
          simp [e]
      have q2 : upH (addH hold n) t = upH hold (n :: t) := by
        funext m
        unfold upH
        by_cases e : m = n
        · subst e
          rw [addH_self, if_neg d1, if_pos List.mem_cons_self]
        · rw [addH_ne _ e]
          simp [e]
      rw [q1, q2] at B2
      exact B2
    · rw [W8, V8]
      by_cases e : m = n
      · subst e
        rw [if_neg d1, if_pos rfl, if_pos List.mem_cons_self]
      · rw [if_neg e]
        simp [e]
    · rw [W12, V12]
      by_cases e : m = n
      · subst e
        rw [if_neg d1, if_pos rfl, if_pos List.mem_cons_self]
      · rw [if_neg e]
        simp [e]
def frB (st : St) (u n : Nat) : Bool := !(lv8 st (v 9 st n) == u) && !(lv8 st (v 10 st n) == u)
theorem frB_t {st : St} {u n : Nat} : frB st u n = true ↔ isFree st u n := by
  unfold frB isFree
  simp
theorem frB_f {st : St} {u n : Nat} : frB st u n = false ↔ ¬ isFree st u n := by
  rw [← frB_t]
  simp
theorem sink_L {al : Nat → Bool} {u ups : Nat} {x2 x4 : Int32} {hold : Nat → Nat} (hu : u + 1 < 10) : ∀ (t : List Nat) (i fu : Nat) (st : St) (lk : Nat → Bool), BI st al lk hold → t.Nodup → (∀ n, n ∈ t → al n = true ∧ lk n = false) → (∀ n, n ∈ t → ∀ m, m ∈ t → v 9 st n ≠ m ∧ v 10 st n ≠ m) → (∀ j, j < t.length → v 15 st (i + j) = t.getD j 0) → i + t.length = ups → ups ≤ 2560 → t.length < fu →
    ∃ st', sX0_exchangeAt_L61 fu st (nI u) x2 (nI ups) x4 (nI i) = some st' ∧ BI st' al (orB lk (fun m => inB t m && frB st u m)) hold ∧ (∀ m, v 8 st' m = if m ∈ t ∧ frB st u m = true then u + 1 else v 8 st m) ∧ Fr [6, 7, 8, 11] st st' ∧ ∀ k, k ≠ 1 → st'.2.2 k = st.2.2 k
  | [], i, fu, st, lk, B, hd, hn, hc, hl, hi, ha, hfu => by
    obtain ⟨fu, rfl⟩ : ∃ q, fu = q + 1 := ⟨fu - 1, by simp at hfu; omega⟩
    have hi0 : i = ups := hi
    subst hi0
    refine ⟨st, ?_, ?_, fun m => by rw [if_neg (fun z => absurd z.1 List.not_mem_nil)], Fr.refl _ _, fun _ _ => rfl⟩
    · rw [sX0_exchangeAt_L61, if_pos (by rw [nI_leE (by omega) (by omega)]; omega)]
    · have e1 : orB lk (fun m => inB [] m && frB st u m) = lk := by
        funext m
        unfold orB inB
        simp
      rw [e1]
      exact B
  | n :: t, i, fu, st, lk, B, hd, hn, hc, hl, hi, ha, hfu => by
    obtain ⟨fu, rfl⟩ : ∃ q, fu = q + 1 := ⟨fu - 1, by simp at hfu; omega⟩
    simp only [List.length_cons] at hi hfu
    obtain ⟨d1, d2⟩ := List.nodup_cons.mp hd
    obtain ⟨a1, a2⟩ := hn n List.mem_cons_self
    have hN := B.1.1
    have hv : v 15 st i = n := hl 0 (Nat.zero_lt_succ _)
    have ne : ∀ m, m ∈ t → m ≠ n := fun m hm z => d1 (z ▸ hm)
    obtain ⟨s1, e1, hs1⟩ := sink_ok B a1 a2 hu
    -- what the first one leaves, said in one way
    have key : BI s1 al (if frB st u n = true then setB lk n true else lk) hold ∧ (∀ m, v 8 s1 m = if m = n ∧ frB st u n = true then u + 1 else v 8 st m) ∧ Fr [6, 7, 8, 11] st s1 ∧ ∀ k, k ≠ 1 → s1.2.2 k = st.2.2 k := by
      rcases hs1 with ⟨h1, h2, h3, h4, h5⟩ | ⟨h1, rfl⟩
      · have hf := frB_t.mpr h1
        rw [if_pos hf]
        refine ⟨h2, fun m => ?_, h4, h5⟩
        rw [h3]
        by_cases e : m = n
        · rw [if_pos e, if_pos ⟨e, hf⟩]
        · rw [if_neg e, if_neg (fun z => e z.1)]
      · have hf : ¬ frB s1 u n = true := fun z => h1 (frB_t.mp z)
        rw [if_neg hf]
        exact ⟨B, fun m => by rw [if_neg (fun z => hf z.2)], Fr.refl _ _, fun _ _ => rfl⟩
    obtain ⟨B1, V8, F1, k1⟩ := key
    have w9 : v 9 s1 = v 9 st := F1.vE (by decide)
    have w10 : v 10 s1 = v 10 st := F1.vE (by decide)
    have hfr : ∀ m, m ∈ n :: t → frB s1 u m = frB st u m := fun m hm => by
      obtain ⟨q1, q2⟩ := hc m hm n List.mem_cons_self
      have z : ∀ c, c ≠ n → lv8 s1 c = lv8 st c := fun c hcn => by
        unfold lv8 lvl
        rw [V8, if_neg (show ¬ (c = n ∧ frB st u n = true) from fun z => hcn z.1)]
      unfold frB
      rw [w9, w10, z _ q1, z _ q2]
    obtain ⟨s2, e2, B2, W8, F2, k2⟩ := sink_L hu t (i + 1) fu s1 (if frB st u n = true then setB lk n true else lk) B1 d2 (fun m hm => by
      obtain ⟨b1, b2⟩ := hn m (List.mem_cons_of_mem _ hm)
      refine ⟨b1, ?_⟩
      split
      · rw [setB_ne _ _ (ne m hm)]; exact b2
      · exact b2) (fun m hm m' hm' => by
      rw [w9, w10]
      exact hc m (List.mem_cons_of_mem _ hm) m' (List.mem_cons_of_mem _ hm')) (fun j hj => by
      rw [F1.vE (by decide), show i + 1 + j = i + (j + 1) by omega, hl (j + 1) (by simp only [List.length_cons]; omega)]
      rfl) (by omega) ha (by omega)
    refine ⟨s2, ?_, ?_, fun m => ?_, F1.trans F2, fun k hk => (k2 k hk).trans (k1 k hk)⟩
    · rw [sX0_exchangeAt_L61, if_neg (by rw [nI_leE (by omega) (by omega)]; omega), gd_in (by omega) (by omega), gI_v hN (by decide) (by omega), hv, e1, ob_s, nI_add1, lt_e, e2]
    · have q1 : orB (if frB st u n = true then setB lk n true else lk) (fun m => inB t m && frB s1 u m) = orB lk (fun m => inB (n :: t) m && frB st u m) := by
        funext m
        unfold orB
        dsimp only
        by_cases e : m = n
        · subst e
          rw [inB_f.mpr d1, inB_t.mpr List.mem_cons_self, a2]
          cases q : frB st u m
          · rw [if_neg (by decide), a2]
            rfl
          · rw [if_pos rfl, setB_self]
            rfl
        · have h0 : (if frB st u n = true then setB lk n true else lk) m = lk m := by
            split
            · exact setB_ne _ _ e
            · rfl
          rw [h0]
          by_cases hm : m ∈ t
          · rw [inB_t.mpr hm, inB_t.mpr (List.mem_cons_of_mem _ hm), hfr m (List.mem_cons_of_mem _ hm)]
          · rw [inB_f.mpr hm, inB_f.mpr (fun z => by
              rcases List.mem_cons.mp z with q | q
              · exact e q
              · exact hm q)]
            rw [Bool.false_and, Bool.false_and]
      rw [q1] at B2
      exact B2
    · rw [W8, V8]
      by_cases e : m = n
      · subst e
        rw [if_neg (fun z => d1 z.1)]
        by_cases q : frB st u m = true
        · rw [if_pos ⟨rfl, q⟩, if_pos ⟨List.mem_cons_self, q⟩]
        · rw [if_neg (fun z => q z.2), if_neg (fun z => q z.2)]
      · rw [if_neg (show ¬ (m = n ∧ frB st u n = true) from fun z => e z.1)]
        by_cases hm : m ∈ t
        · rw [hfr m (List.mem_cons_of_mem _ hm)]
          by_cases q : frB st u m = true
          · rw [if_pos ⟨hm, q⟩, if_pos ⟨List.mem_cons_of_mem _ hm, q⟩]
          · rw [if_neg (fun z => q z.2), if_neg (fun z => q z.2)]
        · rw [if_neg (fun z => hm z.1), if_neg (fun z => by
            rcases List.mem_cons.mp z.1 with q | q
            · exact e q
            · exact hm q)]
