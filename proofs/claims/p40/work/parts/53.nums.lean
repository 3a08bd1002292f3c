/-! the longest path, the size and the support -/
noncomputable def dv (f : Fn) : Nat := cnt 10 (fun w => depB f w)
def cl (p : Nat → Bool) : Nat → Nat → Nat
  | 0, _ => 0
  | k + 1, L => (if p L then 1 else 0) + cl p k (L + 1)
theorem cl_cnt (p : Nat → Bool) : ∀ k L, cnt L p + cl p k L = cnt (L + k) p
  | 0, L => rfl
  | k + 1, L => by
    have h := cl_cnt p k (L + 1)
    have e : cnt (L + 1) p = cnt L p + (if p L then 1 else 0) := rfl
    show cnt L p + ((if p L then 1 else 0) + cl p k (L + 1)) = _
    rw [show L + (k + 1) = L + 1 + k by omega, ← h, e]
    omega
theorem cl_mono {p q : Nat → Bool} (h : ∀ i, p i = true → q i = true) : ∀ k L, cl p k L ≤ cl q k L
  | 0, _ => Nat.le_refl _
  | k + 1, L => by
    have ih := cl_mono h k (L + 1)
    show (if p L then 1 else 0) + cl p k (L + 1) ≤ (if q L then 1 else 0) + cl q k (L + 1)
    by_cases e : p L = true
    · rw [if_pos e, if_pos (h L e)]; omega
    · rw [if_neg e]; omega
theorem dep_co {f : Fn} {w u : Nat} {b : Bool} (h : depB (co w b f) u = true) : depB f u = true := depB_true.mpr (fun z => depB_true.mp h (indep_co_of z))
theorem dpt_cl (o : Nat → Nat) : ∀ (k L : Nat) (f : Fn), gK (fun a b => 1 + max a b) 0 o k L f ≤ cl (fun i => depB f (o i)) k L
  | 0, L, f => by
    show (if f 0 then 0 else 0) ≤ _
    split <;> exact Nat.zero_le _
  | k + 1, L, f => by
    have m : ∀ b, cl (fun i => depB (co (o L) b f) (o i)) k (L + 1) ≤ cl (fun i => depB f (o i)) k (L + 1) := fun b => cl_mono (fun i h => dep_co h) _ _
    have m0 := m false
    have m1 := m true
    have a0 := dpt_cl o k (L + 1) (co (o L) false f)
    have a1 := dpt_cl o k (L + 1) (co (o L) true f)
    have a2 := dpt_cl o k (L + 1) f
    show (if depB f (o L) = true then 1 + max (gK (fun a b => 1 + max a b) 0 o k (L + 1) (co (o L) false f)) (gK (fun a b => 1 + max a b) 0 o k (L + 1) (co (o L) true f)) else gK (fun a b => 1 + max a b) 0 o k (L + 1) f) ≤ (if depB f (o L) = true then 1 else 0) + cl (fun i => depB f (o i)) k (L + 1)
    by_cases q : depB f (o L) = true
    · rw [if_pos q, if_pos q]; omega
    · rw [if_neg q, if_neg q]; omega
theorem perm_le {o : Nat → Nat} (ho : oOK o) (p : Nat → Bool) : cnt 10 (fun i => p (o i)) ≤ cnt 10 p := by
  rw [← cnt_filter, ← cnt_filter]
  have h := nodup_le (l := ((List.range 10).filter (fun i => p (o i))).map o) (m := (List.range 10).filter p) (nodup_map ((range_nodup 10).filter _) (fun a b ha hb e => ho.2 a b (List.mem_range.mp (List.mem_filter.mp ha).1) (List.mem_range.mp (List.mem_filter.mp hb).1) e)) (fun y hy => by
    obtain ⟨x, h1, rfl⟩ := List.mem_map.mp hy
    obtain ⟨h2, h3⟩ := List.mem_filter.mp h1
    exact List.mem_filter.mpr ⟨List.mem_range.mpr (ho.1 x (List.mem_range.mp h2)), h3⟩)
  rwa [List.length_map] at h
theorem perm_ge {o : Nat → Nat} (ho : oOK o) (p : Nat → Bool) : cnt 10 p ≤ cnt 10 (fun i => p (o i)) := by
  rw [← cnt_filter, ← cnt_filter]
  have h := nodup_le (l := (List.range 10).filter p) (m := ((List.range 10).filter (fun i => p (o i))).map o) ((range_nodup 10).filter _) (fun y hy => by
    obtain ⟨h2, h3⟩ := List.mem_filter.mp hy
    obtain ⟨i, hi, rfl⟩ := oOK_sur ho (List.mem_range.mp h2)
    exact List.mem_map.mpr ⟨i, List.mem_filter.mpr ⟨List.mem_range.mpr hi, h3⟩, rfl⟩)
  rwa [List.length_map] at h
theorem dpt_dv {o : Nat → Nat} (ho : oOK o) (f : Fn) : dpt o f ≤ dv f := by
  have h1 := dpt_cl o 10 0 f
  have h2 := cl_cnt (fun i => depB f (o i)) 10 0
  have h3 := perm_le ho (fun w => depB f w)
  have h4 : cnt 0 (fun i => depB f (o i)) = 0 := rfl
  rw [h4] at h2
  have h5 : dpt o f = gK (fun a b => 1 + max a b) 0 o 10 0 f := rfl
  have h6 : dv f = cnt 10 (fun w => depB f w) := rfl
  have h7 : (0 : Nat) + 10 = 10 := rfl
  rw [h7] at h2
  omega
theorem bc_all : ∀ s, s < 1024 → bcI (nI s) = nI (cnt 10 (fun w => s.testBit w)) := by decide +kernel
theorem SUP_dv {f : Fn} {set : Nat} (h : SUP f set) : cnt 10 (fun w => set.testBit w) = dv f := by
  unfold dv
  refine cnt_congr (fun w hw => ?_)
  have := h.2 w hw
  cases q : depB f w
  · cases e : set.testBit w
    · rfl
    · rw [e] at this
      have := depB_true.mpr (this.mp rfl)
      rw [q] at this
      cases this
  · have h2 := depB_true.mp q
    exact this.mpr h2
theorem nAt_dep {S : List Fn} {o : Nat → Nat} {f : Fn} (hf : f ∈ S) {L : Nat} (hd : ¬ indep f (o L)) (ho : oOK o) (hL : L < 10) : 1 ≤ nAt S o L := by
  have ex : ∃ x, ¬ indep (rl o x L f) (o L) := Classical.byContradiction (fun hc => hd (by
    rw [indep_xor]
    intro a
    have e : ∀ x, rl o x L f x = f x := fun x => by
      obtain ⟨b, h1, h2, h3⟩ := @rl_val o x f L x
      rw [h1]
      congr 1
      refine nat_ext (fun w => ?_)
      by_cases p : ∀ i, i < L → o i ≠ w
      · exact h3 w p
      · obtain ⟨i, hi⟩ := Classical.not_forall.mp p
        obtain ⟨hi1, hi2⟩ := Classical.not_imp.mp hi
        rw [← Classical.not_not.mp hi2]
        exact h2 i hi1
    have hi : indep (rl o a L f) (o L) := Classical.byContradiction (fun z => hc ⟨a, z⟩)
    have h5 := indep_xor.mp hi a
    have h6 : rl o (a ^^^ 2 ^ o L) L f = rl o a L f := rl_cong L (fun i hi => by
      rw [Nat.testBit_xor, Nat.testBit_two_pow, decide_eq_false (fun z => by have := ho.2 L i hL (by omega) z; omega), Bool.xor_false])
    have h7 := e (a ^^^ 2 ^ o L)
    rw [h6] at h7
    rw [← e a, h5, h7]))
  obtain ⟨x, hx⟩ := ex
  obtain ⟨m', g1, g2, g3⟩ := dcount_rep (fun x : Fn => x) (nodL S o L)
  unfold nAt
  rw [← g3]
  have : rl o x L f ∈ m' := (g2 _).mpr (mem_nodL.mpr ⟨rl_mem hf L, hx⟩)
  exact List.length_pos_of_mem this
theorem size_dv {o : Nat → Nat} (ho : oOK o) {S : List Fn} {f : Fn} (hf : f ∈ S) : dv f ≤ nAll S o := by
  have h1 := perm_ge ho (fun w => depB f w)
  have h2 : ∀ k, k ≤ 10 → cnt k (fun i => depB f (o i)) ≤ nSum S o k := by
    intro k
    induction k with
    | zero => intro _; exact Nat.zero_le _
    | succ k ih =>
      intro hk
      have a := ih (by omega)
      show cnt k (fun i => depB f (o i)) + (if depB f (o k) = true then 1 else 0) ≤ nSum S o k + nAt S o k
      by_cases q : depB f (o k) = true
      · rw [if_pos q]
        have := nAt_dep hf (depB_true.mp q) ho (by omega)
        omega
      · rw [if_neg q]; omega
  exact Nat.le_trans h1 (h2 10 (Nat.le_refl _))
