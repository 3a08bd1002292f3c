/-! NUMBERS of models, paths, variables -/
theorem xx (x w : Nat) : (x ^^^ 2 ^ w) ^^^ 2 ^ w = x := by rw [Nat.xor_assoc, Nat.xor_self, Nat.xor_zero]
theorem x_lt {x w : Nat} (hx : x < 1024) (hw : w < 10) : x ^^^ 2 ^ w < 1024 := Nat.xor_lt_two_pow (n := 10) hx (Nat.pow_lt_pow_right (by omega) hw)
theorem flip_le {f : Fn} {w : Nat} (hw : w < 10) : cnt 1024 (fun x => f (x ^^^ 2 ^ w)) ≤ cnt 1024 f := by
  rw [← cnt_filter, ← cnt_filter]
  have h := nodup_le (l := ((List.range 1024).filter (fun x => f (x ^^^ 2 ^ w))).map (fun x => x ^^^ 2 ^ w)) (m := (List.range 1024).filter f) (nodup_map ((range_nodup 1024).filter _) (fun a b _ _ e => by
    have := congrArg (fun z => z ^^^ 2 ^ w) e
    simp only [xx] at this
    exact this)) (fun y hy => by
    obtain ⟨x, h1, rfl⟩ := List.mem_map.mp hy
    obtain ⟨h2, h3⟩ := List.mem_filter.mp h1
    exact List.mem_filter.mpr ⟨List.mem_range.mpr (x_lt (List.mem_range.mp h2) hw), h3⟩)
  rwa [List.length_map] at h
theorem flip_eq {f : Fn} {w : Nat} (hw : w < 10) : cnt 1024 (fun x => f (x ^^^ 2 ^ w)) = cnt 1024 f := by
  refine Nat.le_antisymm (flip_le hw) ?_
  have h := flip_le (f := fun x => f (x ^^^ 2 ^ w)) hw
  simp only [xx] at h
  exact h
theorem cnt_pair {p q a b : Nat → Bool} : ∀ N, (∀ i, i < N → (p i).toNat + (q i).toNat = (a i).toNat + (b i).toNat) → cnt N p + cnt N q = cnt N a + cnt N b
  | 0, _ => rfl
  | N + 1, h => by
    have ih := cnt_pair N (fun i hi => h i (by omega))
    have h0 := h N (by omega)
    have e : ∀ p : Nat → Bool, cnt (N + 1) p = cnt N p + (p N).toNat := fun p => by
      show cnt N p + (if p N then 1 else 0) = _
      cases p N <;> rfl
    rw [e, e, e, e]
    omega
theorem co_sum {f : Fn} {w : Nat} (hw : w < 10) : cnt 1024 (co w false f) + cnt 1024 (co w true f) = 2 * cnt 1024 f := by
  have h := cnt_pair (p := co w false f) (q := co w true f) (a := f) (b := fun x => f (x ^^^ 2 ^ w)) 1024 (fun i _ => by
    unfold co sw
    cases q : i.testBit w
    · simp
    · simp; omega)
  rw [flip_eq hw] at h
  omega
theorem all_indep {f : Fn} {o : Nat → Nat} (ho : oOK o) (hf : fin10 f) (h : ∀ i, i < 10 → indep f (o i)) : f = cst (f 0) := by
  have e : ∀ L, L ≤ 10 → rl o 0 L f = f := by
    intro L
    induction L with
    | zero => intro _; rfl
    | succ L ih =>
      intro hL
      show co (o L) _ (rl o 0 L f) = f
      rw [ih (by omega)]
      exact h L (by omega) _
  rw [← rl_all (x := 0) ho hf, e 10 (Nat.le_refl _)]
theorem cnt_true : cnt 1024 (cst true) = 1024 := by decide +kernel
theorem cnt_false : cnt 1024 (cst false) = 0 := by decide +kernel
theorem wy_mo {o : Nat → Nat} (ho : oOK o) : ∀ (k L : Nat) (f : Fn), L + k = 10 → fin10 f → (∀ i, i < L → indep f (o i)) → gK (fun a b => a + b) 1 o k L f * 2 ^ L ≤ cnt 1024 f ∧ (gK (fun a b => a + b) 1 o k L f = 0 → cnt 1024 f = 0)
  | 0, L, f, hL, hf, hi => by
    have hL : L = 10 := by omega
    subst hL
    have e := all_indep ho hf hi
    show (if f 0 then 1 else 0) * 2 ^ 10 ≤ _ ∧ ((if f 0 then 1 else 0) = 0 → _)
    cases q : f 0
    · rw [q] at e
      rw [e, cnt_false]
      simp
    · rw [q] at e
      rw [e, cnt_true]
      simp
  | k + 1, L, f, hL, hf, hi => by
    have hol := ho.1 L (by omega)
    have hp : 2 ^ (L + 1) = 2 ^ L * 2 := Nat.pow_succ ..
    have ind : ∀ b, ∀ i, i < L + 1 → indep (co (o L) b f) (o i) := fun b i h => by
      by_cases e : i = L
      · rw [e]; exact indep_co _ _ _
      · exact indep_co_of (hi i (by omega))
    by_cases q : depB f (o L) = true
    · obtain ⟨a1, a2⟩ := wy_mo ho k (L + 1) (co (o L) false f) (by omega) (fin_co hf _ _) (ind false)
      obtain ⟨b1, b2⟩ := wy_mo ho k (L + 1) (co (o L) true f) (by omega) (fin_co hf _ _) (ind true)
      have hs := co_sum (f := f) hol
      have e : gK (fun a b => a + b) 1 o (k + 1) L f = gK (fun a b => a + b) 1 o k (L + 1) (co (o L) false f) + gK (fun a b => a + b) 1 o k (L + 1) (co (o L) true f) := if_pos q
      rw [e]
      generalize gK (fun a b => a + b) 1 o k (L + 1) (co (o L) false f) = A at *
      generalize gK (fun a b => a + b) 1 o k (L + 1) (co (o L) true f) = E at *
      rw [hp] at a1 b1
      refine ⟨?_, fun z => ?_⟩
      · rw [Nat.add_mul]
        rw [← Nat.mul_assoc] at a1 b1
        omega
      · have := a2 (by omega)
        have := b2 (by omega)
        omega
    · have hd : indep f (o L) := Classical.byContradiction (fun z => q (depB_true.mpr z))
      obtain ⟨a1, a2⟩ := wy_mo ho k (L + 1) f (by omega) hf (fun i h => by
        by_cases e : i = L
        · rw [e]; exact hd
        · exact hi i (by omega))
      have e : gK (fun a b => a + b) 1 o (k + 1) L f = gK (fun a b => a + b) 1 o k (L + 1) f := if_neg q
      rw [e]
      refine ⟨?_, a2⟩
      rw [hp, ← Nat.mul_assoc] at a1
      omega
theorem wy_models {o : Nat → Nat} (ho : oOK o) {f : Fn} (hf : fin10 f) : wy o f ≤ cnt 1024 f ∧ (wy o f = 0 ↔ cnt 1024 f = 0) := by
  obtain ⟨h1, h2⟩ := wy_mo ho 10 0 f rfl hf (fun i hi => by omega)
  have h1' : wy o f ≤ cnt 1024 f := by
    have : gK (fun a b => a + b) 1 o 10 0 f * 2 ^ 0 = gK (fun a b => a + b) 1 o 10 0 f := Nat.mul_one _
    rw [this] at h1
    exact h1
  exact ⟨h1', ⟨h2, fun z => by omega⟩⟩
