/-! sizes: of a constant, of all together -/
theorem cofs_cst {b : Bool} {o : Nat → Nat} {S : List Fn} (h : ∀ g, g ∈ S → g = cst b) : ∀ L g, g ∈ cofs S o L → g = cst b
  | 0, g, hg => h g hg
  | L + 1, g, hg => by
    obtain ⟨f, c, h1, h2⟩ := cofs_succ.mp hg
    rw [h2, cofs_cst h L f h1]
    rfl
theorem nAll_cst {b : Bool} {o : Nat → Nat} {S : List Fn} (h : ∀ g, g ∈ S → g = cst b) : nAll S o = 0 := by
  have e : ∀ L, nAt S o L = 0 := fun L => by
    obtain ⟨m', g1, g2, g3⟩ := dcount_rep (fun x : Fn => x) (nodL S o L)
    unfold nAt
    rw [← g3]
    cases m' with
    | nil => rfl
    | cons a t =>
      have ha := mem_nodL.mp ((g2 a).mp List.mem_cons_self)
      rw [cofs_cst h L a ha.1] at ha
      exact absurd (indep_cst b _) ha.2
  have : ∀ k, nSum S o k = 0 := by
    intro k
    induction k with
    | zero => rfl
    | succ k ih =>
      show nSum S o k + nAt S o k = 0
      rw [ih, e]
  exact this 10
theorem cnt_all {f : Nat → Bool} : ∀ N, cnt N f = N → ∀ i, i < N → f i = true
  | 0, _, i, hi => by omega
  | N + 1, h, i, hi => by
    have e : cnt (N + 1) f = cnt N f + (if f N then 1 else 0) := rfl
    have hle := cnt_le N f
    cases q : f N
    · rw [e, q, if_neg Bool.false_ne_true] at h; omega
    · rw [e, q, if_pos rfl] at h
      by_cases hiN : i = N
      · rw [hiN]; exact q
      · exact cnt_all N (by omega) i (by omega)
theorem size_0 {o : Nat → Nat} (ho : oOK o) {f : Fn} (hf : fin10 f) : nAll [f, f] o = 0 ↔ cnt 1024 f % 1024 = 0 := by
  constructor
  · intro h
    have h1 := size_dv ho (S := [f, f]) (f := f) List.mem_cons_self
    have h2 : cnt 10 (fun w => depB f w) = 0 := by
      have : dv f = cnt 10 (fun w => depB f w) := rfl
      omega
    have h3 : f = cst (f 0) := all_indep ho hf (fun i hi => Classical.byContradiction (fun z => by
      have := cnt_none (p := fun w => depB f w) h2 (ho.1 i hi)
      rw [depB_true.mpr z] at this
      cases this))
    rw [h3]
    cases f 0
    · rw [cnt_false]
    · rw [cnt_true]
  · intro h
    have hle := cnt_le 1024 f
    by_cases q : cnt 1024 f = 0
    · refine nAll_cst (b := false) (fun g hg => ?_)
      have e : f = cst false := by
        funext x
        rw [fin_mod hf x]
        exact cnt_none q (Nat.mod_lt _ (by omega))
      rcases List.mem_cons.mp hg with z | z
      · rw [z]; exact e
      · rw [List.mem_singleton.mp z]; exact e
    · have q2 : cnt 1024 f = 1024 := by omega
      refine nAll_cst (b := true) (fun g hg => ?_)
      have e : f = cst true := by
        funext x
        rw [fin_mod hf x]
        exact cnt_all 1024 q2 _ (Nat.mod_lt _ (by omega))
      rcases List.mem_cons.mp hg with z | z
      · rw [z]; exact e
      · rw [List.mem_singleton.mp z]; exact e
theorem cofs_cons {g : Fn} {S : List Fn} {o : Nat → Nat} : ∀ L h, h ∈ cofs (g :: S) o L → h ∈ cofs [g, g] o L ∨ h ∈ cofs S o L
  | 0, h, hh => by
    rcases List.mem_cons.mp hh with z | z
    · exact Or.inl (by rw [z]; exact List.mem_cons_self)
    · exact Or.inr z
  | L + 1, h, hh => by
    obtain ⟨f, c, h1, h2⟩ := cofs_succ.mp hh
    exact (cofs_cons L f h1).imp (fun z => cofs_succ.mpr ⟨f, c, z, h2⟩) (fun z => cofs_succ.mpr ⟨f, c, z, h2⟩)
theorem nAt_cons (g : Fn) (S : List Fn) (o : Nat → Nat) (L : Nat) : nAt (g :: S) o L ≤ nAt [g, g] o L + nAt S o L := by
  obtain ⟨m1, a1, a2, a3⟩ := dcount_rep (fun x : Fn => x) (nodL (g :: S) o L)
  obtain ⟨m2, b1, b2, b3⟩ := dcount_rep (fun x : Fn => x) (nodL [g, g] o L)
  obtain ⟨m3, c1, c2, c3⟩ := dcount_rep (fun x : Fn => x) (nodL S o L)
  unfold nAt
  rw [← a3, ← b3, ← c3, ← List.length_append]
  refine nodup_le a1 (fun h hh => ?_)
  obtain ⟨h1, h2⟩ := mem_nodL.mp ((a2 h).mp hh)
  rcases cofs_cons L h h1 with z | z
  · exact List.mem_append.mpr (Or.inl ((b2 h).mpr (mem_nodL.mpr ⟨z, h2⟩)))
  · exact List.mem_append.mpr (Or.inr ((c2 h).mpr (mem_nodL.mpr ⟨z, h2⟩)))
theorem nAll_cons (g : Fn) (S : List Fn) (o : Nat → Nat) : nAll (g :: S) o ≤ nAll [g, g] o + nAll S o := by
  have : ∀ k, nSum (g :: S) o k ≤ nSum [g, g] o k + nSum S o k := by
    intro k
    induction k with
    | zero => exact Nat.zero_le _
    | succ k ih =>
      have := nAt_cons g S o k
      show nSum (g :: S) o k + nAt (g :: S) o k ≤ (nSum [g, g] o k + nAt [g, g] o k) + (nSum S o k + nAt S o k)
      omega
  exact this 10
/-- the sizes of the functions one by one -/
noncomputable def szs (o : Nat → Nat) : List Fn → Nat
  | [] => 0
  | g :: S => nAll [g, g] o + szs o S
theorem nAll_szs (o : Nat → Nat) : ∀ S, nAll S o ≤ szs o S
  | [] => by
    rw [nAll_cst (b := false) (fun g hg => absurd hg List.not_mem_nil)]
    exact Nat.zero_le _
  | g :: S => by
    have h1 := nAll_cons g S o
    have h2 := nAll_szs o S
    show _ ≤ nAll [g, g] o + szs o S
    omega
theorem dv_le (f : Fn) : dv f ≤ 10 := cnt_le 10 _
