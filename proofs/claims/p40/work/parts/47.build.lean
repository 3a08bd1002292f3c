/-! build -/
def rl (o : Nat → Nat) (x : Nat) : Nat → Fn → Fn
  | 0, f => f
  | L + 1, f => co (o L) (x.testBit (o L)) (rl o x L f)
theorem rl_mem {S : List Fn} {o : Nat → Nat} {x : Nat} {f : Fn} (hf : f ∈ S) : ∀ L, rl o x L f ∈ cofs S o L
  | 0 => hf
  | L + 1 => cofs_succ.mpr ⟨_, _, rl_mem hf L, rfl⟩
theorem rl_indep {o : Nat → Nat} {x w : Nat} {f : Fn} (hf : indep f w) : ∀ L, indep (rl o x L f) w
  | 0 => hf
  | L + 1 => indep_co_of (rl_indep hf L)
theorem rl_cong {o : Nat → Nat} {x y : Nat} {f : Fn} : ∀ L, (∀ i, i < L → x.testBit (o i) = y.testBit (o i)) → rl o x L f = rl o y L f
  | 0, _ => rfl
  | L + 1, h => by
    show co (o L) (x.testBit (o L)) (rl o x L f) = co (o L) (y.testBit (o L)) (rl o y L f)
    rw [h L (by omega), rl_cong L (fun i hi => h i (by omega))]
theorem rl_val {o : Nat → Nat} {x : Nat} {f : Fn} : ∀ L a, ∃ b, rl o x L f a = f b ∧ (∀ i, i < L → b.testBit (o i) = x.testBit (o i)) ∧ ∀ w, (∀ i, i < L → o i ≠ w) → b.testBit w = a.testBit w
  | 0, a => ⟨a, rfl, fun i hi => by omega, fun _ _ => rfl⟩
  | L + 1, a => by
    obtain ⟨b, h1, h2, h3⟩ := @rl_val o x f L (sw (o L) (x.testBit (o L)) a)
    refine ⟨b, h1, fun i hi => ?_, fun w hw => ?_⟩
    · by_cases q : i < L
      · exact h2 i q
      · have e : i = L := by omega
        subst e
        by_cases p : ∀ k, k < i → o k ≠ o i
        · rw [h3 _ p, sw_bit, if_pos rfl]
        · obtain ⟨k, hk⟩ := Classical.not_forall.mp p
          obtain ⟨hk1, hk2⟩ := Classical.not_imp.mp hk
          have hk3 : o k = o i := Classical.not_not.mp hk2
          rw [← hk3]
          exact h2 k hk1
    · rw [h3 w (fun i hi => hw i (by omega)), sw_bit, if_neg (fun e => hw L (by omega) e.symm)]
theorem rl_all {o : Nat → Nat} {x : Nat} {f : Fn} (ho : oOK o) (hf : fin10 f) : rl o x 10 f = cst (f x) := by
  funext a
  obtain ⟨b, h1, h2, -⟩ := @rl_val o x f 10 a
  rw [h1]
  refine hf b x (fun w hw => ?_)
  obtain ⟨k, hk, rfl⟩ := oOK_sur ho hw
  exact h2 k hk
theorem rl_step {o : Nat → Nat} {x l : Nat} {f : Fn} (ho : oOK o) (hl : l < 10) (hx : x.testBit (o l) = false) : mux (o l) (rl o x (l + 1) f) (rl o (x ||| 2 ^ o l) (l + 1) f) = rl o x l f := by
  have e : rl o (x ||| 2 ^ o l) l f = rl o x l f := rl_cong l (fun i hi => by
    rw [or_bit, decide_eq_false (fun z => by have := ho.2 l i hl (by omega) z; omega), Bool.or_false])
  show mux (o l) (co (o l) (x.testBit (o l)) (rl o x l f)) (co (o l) ((x ||| 2 ^ o l).testBit (o l)) (rl o (x ||| 2 ^ o l) l f)) = _
  rw [e, hx, or_bit, decide_eq_true rfl, Bool.or_true, mux_co]
theorem tb_Fr {rs : List Nat} {st st' : St} (h : Fr rs st st') (t : Nat) : tb st' t = tb st t := by
  unfold tb
  rw [h.2]
theorem build_L1 {s t1 : Nat} (hs : s < 1024) : ∀ (t : List Nat) (x i fu : Nat) (st : St), chn s (x :: t) = true → (x :: t).Nodup → (∀ y, y ∈ x :: t → y < 1024) → NN st → i + (t.length + 1) = (subs s 10).length → t.length + 1 < fu →
    ∃ st', sX0_build_L18 fu st t1 (nI s) (nI x) (nI i) = some st' ∧ NN st' ∧ Fr [16] st st' ∧ st'.2.2 = st.2.2 ∧ (∀ y, y ∈ x :: t → v 16 st' y = if tb st t1 y then 1 else 0) ∧ ∀ y, y ∉ x :: t → v 16 st' y = v 16 st y := by
  have hlen := subs_len s
  have hbc := (subs_chn hs).2
  intro t
  induction t with
  | nil =>
    intro x i fu st hc hd hb hN hi hfu
    obtain ⟨fu, rfl⟩ : ∃ q, fu = q + 2 := ⟨fu - 2, by simp at hfu; omega⟩
    have hx := hb x List.mem_cons_self
    simp at hi
    have N1 := NN_sI (r := 16) hN (i := x) (x := if tb st t1 x then 1 else 0) (by omega) (by split <;> omega)
    have F1 := Fr_sI st 16 (nI x) (nI (if tb st t1 x then 1 else 0))
    refine ⟨sI 16 st (nI x) (nI (if tb st t1 x then 1 else 0)), ?_, N1, F1, rfl, fun y hy => ?_, fun y hy => ?_⟩
    · rw [sX0_build_L18, bitCount_bc, ob_s, hbc, if_neg (by rw [nI_leE (by omega) (by omega)]; omega), tells_ok st t1 hx, ob_s]
      have stop : ∀ (s' : St) (z : Int32), sX0_build_L18 (fu + 1) s' t1 (nI s) z (nI (i + 1)) = some s' := fun s' z => by
        rw [sX0_build_L18, bitCount_bc, ob_s, hbc, if_pos (by rw [nI_leE (by omega) (by omega)]; omega)]
      cases tb st t1 x
      · rw [if_neg Bool.false_ne_true, if_pos n_0.symm, gd_in hx (by omega), n_0, lt_e, lt_e, nI_add1, lt_e, stop]
      · rw [if_pos rfl, if_neg nI1_ne, gd_in hx (by omega), n_1, lt_e, lt_e, nI_addE, lt_e, stop]
    · rw [List.mem_singleton] at hy
      rw [v_sI (by omega) (by split <;> omega), if_pos ⟨rfl, hy⟩, hy]
    · rw [v_sI (by omega) (by split <;> omega), if_neg (fun z => hy (by rw [z.2]; exact List.mem_cons_self))]
  | cons y t ih =>
    intro x i fu st hc hd hb hN hi hfu
    obtain ⟨fu, rfl⟩ : ∃ q, fu = q + 1 := ⟨fu - 1, by omega⟩
    have hx := hb x List.mem_cons_self
    rw [List.length_cons] at hi hfu
    unfold chn at hc
    rw [Bool.and_eq_true] at hc
    have hnx := of_decide_eq_true hc.1
    have hd2 := List.nodup_cons.mp hd
    have N1 := NN_sI (r := 16) hN (i := x) (x := if tb st t1 x then 1 else 0) (by omega) (by split <;> omega)
    have F1 := Fr_sI st 16 (nI x) (nI (if tb st t1 x then 1 else 0))
    obtain ⟨s2, e2, N2, F2, k2, a2, b2⟩ := ih y (i + 1) fu (sI 16 st (nI x) (nI (if tb st t1 x then 1 else 0))) hc.2 hd2.2 (fun z hz => hb z (List.mem_cons_of_mem _ hz)) N1 (by omega) (by omega)
    refine ⟨s2, ?_, N2, F1.trans F2, k2, fun z hz => ?_, fun z hz => ?_⟩
    · rw [sX0_build_L18, bitCount_bc, ob_s, hbc, if_neg (by rw [nI_leE (by omega) (by omega)]; omega), tells_ok st t1 hx, ob_s]
      revert e2
      cases tb st t1 x
      · intro e2
        rw [if_neg Bool.false_ne_true] at e2
        rw [if_neg Bool.false_ne_true, if_pos n_0.symm, gd_in hx (by omega), n_0, lt_e, hnx, lt_e, nI_add1, lt_e, e2]
      · intro e2
        rw [if_pos rfl] at e2
        rw [if_pos rfl, if_neg nI1_ne, gd_in hx (by omega), n_1, lt_e, hnx, lt_e, nI_addE, lt_e, e2]
    · rcases List.mem_cons.mp hz with e | hz
      · rw [e, b2 x hd2.1, v_sI (by omega) (by split <;> omega), if_pos ⟨rfl, rfl⟩]
      · rw [a2 z hz, tb_Fr F1]
    · rw [b2 z (fun q => hz (List.mem_cons_of_mem _ q)), v_sI (by omega) (by split <;> omega), if_neg (fun q => hz (by rw [q.2]; exact List.mem_cons_self))]
theorem WB_cong {S : List Fn} {o : Nat → Nat} {st st' : St} {al : Nat → Bool} {D : Nat → Fn} (W : WB S o st al D) (hv : ∀ r, 4 ≤ r → r ≤ 12 → v r st' = v r st) (h0 : fv 0 st' = fv 0 st) (h1 : fv 1 st' = fv 1 st) (hn : NN st') : WB S o st' al D := by
  have e4 := hv 4 (by omega) (by omega)
  have e5 := hv 5 (by omega) (by omega)
  have e6 := hv 6 (by omega) (by omega)
  have e7 := hv 7 (by omega) (by omega)
  have e8 := hv 8 (by omega) (by omega)
  have e9 := hv 9 (by omega) (by omega)
  have e10 := hv 10 (by omega) (by omega)
  have e11 := hv 11 (by omega) (by omega)
  have e12 := hv 12 (by omega) (by omega)
  have eb : bk st' = bk st := by funext n; unfold bk; rw [e8, e9, e10]
  have er : refs st' = refs st := by funext a n; unfold refs; rw [e5, e9, e10]
  obtain ⟨⟨⟨-, hC, hF, hN, hS⟩, hP⟩, hD, hc, ho, hl⟩ := W
  refine ⟨⟨⟨hn, ?_, ?_, ?_, ?_⟩, ?_⟩, ?_, ?_, ?_, hl⟩
  · unfold CH; rw [e11, e7, eb]; exact hC
  · unfold FR; rw [e11, h0]; exact hF
  · unfold NC; rw [e6, e8, h1]; exact hN
  · unfold SH; rw [e8, e9, e10, e5]; exact hS
  · unfold PR; rw [e12, er]; exact hP
  · rw [e8, e9, e10]; exact hD
  · rw [e8]; exact hc
  · rw [e4]; exact ho
