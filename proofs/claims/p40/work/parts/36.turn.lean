/-! turn, whole: one more upper node asks the other variable first -/
section XIU
variable {al0 : Nat → Bool} {lev0 : Nat → Nat} {D0 : Nat → Fn} {o : Nat → Nat} {u : Nat} {rs : List Nat} {S : List Fn} {st : St} {al lk nw : Nat → Bool} {D : Nat → Fn}
theorem XI_turn (K : XK al0 lev0 D0 o u rs S) (X : XI al0 lev0 D0 o u rs S st al lk nw D []) {n : Nat} (hn : al n = true) (hk : lk n = false) :
    ∃ (st' : St) (al' lk' nw' : Nat → Bool) (D' : Nat → Fn), sX0_turn st (nI n) (nI u) = some st' ∧ XI al0 lev0 D0 o u rs S st' al' lk' nw' D' [] ∧ lk' n = true ∧ (∀ m, al m = true → al' m = true ∧ (m ≠ n → lk' m = lk m) ∧ D' m = D m ∧ v 8 st' m = v 8 st m) ∧ Fr [6, 7, 8, 9, 10, 11, 12] st st' ∧ ∀ k, k ≠ 0 → k ≠ 1 → st'.2.2 k = st.2.2 k := by
  obtain ⟨x1, x2, x3, x4, x6, x7, x8, x9, x10, x11, x12⟩ := id X
  obtain ⟨k1, k2, k3, k4, k5, k6, k7, k8, k9, k10⟩ := id K
  obtain ⟨y1, y2, y3, y4, y5, y6, y7⟩ := x8 n hn hk
  obtain ⟨p1, p2, p3, p4, p5⟩ := XI_pend K X hn hk
  have hN := x1.1.1
  have hS := x1.1.2.2.2.2
  obtain ⟨g1, g2, g3, g4, g5⟩ := hS.2.1 n hn
  have c9 := ch_lt hS g4
  have c10 := ch_lt hS g5
  have el : lo9 st n = v 9 st n := if_neg (by omega)
  have eh : hi10 st n = v 10 st n := if_neg (by omega)
  obtain ⟨ha0, ea0, fa0⟩ := XI_half K X y4 false
  obtain ⟨hb0, eb0, fb0⟩ := XI_half K X y5 false
  have hg0 : mux (o u) (D0 (hfN st u false (v 9 st n))) (D0 (hfN st u false (v 10 st n))) = co (o (u + 1)) false (D0 n) := by
    rw [ea0, eb0, p2, co_mux_ne (Ne.symm k7)]
  obtain ⟨r0, st1, al1, lk1, nw1, D1, ex1, e1, X1, cr0, dr0, lr0, z1, w1, m1, q1, F1, f1⟩ := XI_make K X ha0 hb0 (by rw [hg0]; exact cofs_succ.mpr ⟨D0 n, false, p5, by rw [osw_u]⟩)
  obtain ⟨t1, t2, t3, t4, t5, t6⟩ := z1 n hn
  have hN1 := X1.1.1.1
  obtain ⟨ha1, ea1, fa1⟩ := XI_half K X1 y4 true
  obtain ⟨hb1, eb1, fb1⟩ := XI_half K X1 y5 true
  have hg1 : mux (o u) (D0 (hfN st1 u true (v 9 st n))) (D0 (hfN st1 u true (v 10 st n))) = co (o (u + 1)) true (D0 n) := by
    rw [ea1, eb1, p2, co_mux_ne (Ne.symm k7)]
  obtain ⟨r1, st2, al2, lk2, nw2, D2, ex2, e2, X2, cr1, dr1, lr1, z2, w2, m2, q2, F2, f2⟩ := XI_make K X1 ha1 hb1 (by rw [hg1]; exact cofs_succ.mpr ⟨D0 n, true, p5, by rw [osw_u]⟩)
  obtain ⟨s1, s2, s3, s4, s5, s6⟩ := z2 n t1
  rw [hg0] at dr0
  rw [hg1] at dr1
  obtain ⟨X21, X22, X23, X24, X26, X27, X28, X29, X210, X211, X212⟩ := id X2
  have hN2 := X21.1.1
  have hS2 := X21.1.2.2.2.2
  have cr0' : ch al2 r0 := cr0.imp id (fun h => (z2 r0 h).1)
  have D2r0 : D2 r0 = co (o (u + 1)) false (D0 n) := by
    rcases cr0 with h | h
    · rcases (show r0 = 0 ∨ r0 = 1 by omega) with rfl | rfl
      · rw [X24.1, ← X1.2.2.2.1.1]; exact dr0
      · rw [X24.2, ← X1.2.2.2.1.2]; exact dr0
    · rw [(z2 r0 h).2.2.1]; exact dr0
  have hne : r0 ≠ r1 := fun h => by
    apply p4
    apply indep_of_eq
    rw [← D2r0, ← dr1, h]
  have l8 : ∀ c, ch al c → lv8 st2 c = lv8 st c := fun c hc => by
    rcases hc with h | h
    · unfold lv8 lvl
      rw [if_pos h, if_pos h]
    · unfold lv8 lvl
      rw [(z2 c (z1 c h).1).2.2.2.1, (z1 c h).2.2.2.1]
  have lr0' : u < lv8 st2 r0 := by
    rcases cr0 with h | h
    · unfold lv8 lvl
      rw [if_pos h]
      omega
    · have : lv8 st2 r0 = lv8 st1 r0 := by
        unfold lv8 lvl
        rw [(z2 r0 h).2.2.2.1]
      omega
  have n8 : v 8 st2 n = u := by rw [s4, t4, y1]
  have n9 : v 9 st2 n = v 9 st n := by rw [s5, t5]
  have n10 : v 10 st2 n = v 10 st n := by rw [s6, t6]
  have hk2 : lk2 n = false := by rw [s2, t2]; exact hk
  have hn2 : al2 n = true := s1
  have nr0 : r0 ≠ n := fun h => by rw [h] at lr0'; unfold lv8 lvl at lr0'; rw [if_neg (by omega), n8] at lr0'; omega
  have nr1 : r1 ≠ n := fun h => by rw [h] at lr1; unfold lv8 lvl at lr1; rw [if_neg (by omega), n8] at lr1; omega
  have small : ∀ m, al2 m = true → v 12 st2 m < 90000 := fun m hm => by
    have a1 := X21.2.1 m hm
    have a2 := refs_le st2 al2 m
    have a3 := X21.2.2 m
    omega
  -- the pointers of the two new children
  obtain ⟨st3, e3, N3, F3, f3, V3⟩ := point_ch (hold := hR rs) hN2 hS2 cr0' (fun m hm => by have := small m hm; omega)
  have hS3 : SH st3 al2 lk2 := SH_same hS2 (F3.vE (by decide)) (F3.vE (by decide)) (F3.vE (by decide)) (F3.vE (by decide))
  obtain ⟨st4, e4, N4, F4, f4, V4⟩ := point_ch (hold := hR rs) N3 hS3 cr1 (fun m hm => by
    have a := small m hm
    have b := small
    rw [V3]
    split
    · rename_i z
      rw [z.1] at a
      omega
    · omega)
  have B4 : BM st4 al2 lk2 := BM_12 (BM_12 X21.1 N3 F3 f3) N4 F4 f4
  have V12 : ∀ m, al2 m = true → v 12 st4 m = v 12 st2 m + (if r0 = m then 1 else 0) + (if r1 = m then 1 else 0) := fun m hm => by
    have h2 := (hS2.2.1 m hm).1
    rw [V4, V3 m, V3 r1]
    by_cases q1 : m = r1
    · subst q1
      rw [if_pos ⟨rfl, h2⟩, if_neg (show ¬ (m = r0 ∧ 2 ≤ r0) from fun z => hne z.1.symm), if_neg hne, if_pos rfl]
    · rw [if_neg (show ¬ (m = r1 ∧ 2 ≤ r1) from fun z => q1 z.1), if_neg (show ¬ r1 = m from fun z => q1 z.symm)]
      by_cases q0 : m = r0
      · subst q0
        rw [if_pos ⟨rfl, h2⟩, if_pos rfl]
      · rw [if_neg (show ¬ (m = r0 ∧ 2 ≤ r0) from fun z => q0 z.1), if_neg (show ¬ r0 = m from fun z => q0 z.symm), Nat.add_zero]
  -- they are written
  have br0 := ch_lt hS2 cr0'
  have br1 := ch_lt hS2 cr1
  have B5 := BM_kids B4 hn2 hk2 cr0' cr1
  have W5 : ∀ r m, v r (sI 10 (sI 9 st4 (nI n) (nI r0)) (nI n) (nI r1)) m = if r = 10 ∧ m = n then r1 else if r = 9 ∧ m = n then r0 else v r st4 m := fun r m => by
    rw [v_sI (by omega) (by omega), v_sI (by omega) (by omega)]
  have f5 : (sI 10 (sI 9 st4 (nI n) (nI r0)) (nI n) (nI r1)).2.2 = st4.2.2 := rfl
  have F5 : Fr [9, 10] st4 (sI 10 (sI 9 st4 (nI n) (nI r0)) (nI n) (nI r1)) := ((Fr_sI st4 9 _ _).mono (by intro q hq; simp at hq ⊢; omega)).trans ((Fr_sI (sI 9 st4 (nI n) (nI r0)) 10 _ _).mono (by intro q hq; simp at hq ⊢; omega))
  generalize hs5 : sI 10 (sI 9 st4 (nI n) (nI r0)) (nI n) (nI r1) = st5 at B5 W5 f5 F5
  obtain ⟨st6, e6, B6, F6, f6⟩ := link_ok B5 hn2 hk2
  have A8 : v 8 st6 = v 8 st2 := by rw [F6.vE (by decide), F5.vE (by decide), F4.vE (by decide), F3.vE (by decide)]
  have A5 : v 5 st6 = v 5 st2 := by rw [F6.vE (by decide), F5.vE (by decide), F4.vE (by decide), F3.vE (by decide)]
  have A9 : ∀ m, v 9 st6 m = if m = n then r0 else v 9 st2 m := fun m => by
    rw [F6.vE (by decide), W5, F4.vE (by decide), F3.vE (by decide), if_neg (by omega)]
    by_cases e : m = n
    · rw [if_pos ⟨rfl, e⟩, if_pos e]
    · rw [if_neg (fun z => e z.2), if_neg e]
  have A10 : ∀ m, v 10 st6 m = if m = n then r1 else v 10 st2 m := fun m => by
    rw [F6.vE (by decide), W5, F4.vE (by decide), F3.vE (by decide)]
    by_cases e : m = n
    · rw [if_pos ⟨rfl, e⟩, if_pos e]
    · rw [if_neg (show ¬ (10 = 10 ∧ m = n) from fun z => e z.2), if_neg (by omega), if_neg e]
  have A12 : ∀ m, al2 m = true → v 12 st6 m = v 12 st2 m + (if r0 = m then 1 else 0) + (if r1 = m then 1 else 0) := fun m hm => by
    rw [F6.vE (by decide), F5.vE (by decide)]
    exact V12 m hm
  have L8 : ∀ c, lv8 st6 c = lv8 st2 c := fun c => by unfold lv8; rw [A8]
  have hlh : v 9 st n ≠ v 10 st n := p3
  have R6 : ∀ m, refs st6 al2 m + (if v 9 st n = m then 1 else 0) + (if v 10 st n = m then 1 else 0) = refs st2 al2 m + (if r0 = m then 1 else 0) + (if r1 = m then 1 else 0) := fun m => by
    have a := cnt_upd (al := al2) (m := m) (w := v 9 st2) (w' := v 9 st6) g2 hn2 (fun i hi => by rw [A9, if_neg hi])
    have b := cnt_upd (al := al2) (m := m) (w := v 10 st2) (w' := v 10 st6) g2 hn2 (fun i hi => by rw [A10, if_neg hi])
    rw [A9, if_pos rfl, n9] at a
    rw [A10, if_pos rfl, n10] at b
    unfold refs
    rw [A5]
    omega
  have hRle : ∀ m, hR rs m ≤ 1 := fun m => by unfold hR; split <;> omega
  have P6 : PR st6 al2 (addH (addH (hR rs) (v 9 st n)) (v 10 st n)) := by
    refine ⟨fun m hm => ?_, fun m => ?_⟩
    · have a := R6 m
      have b := X21.2.1 m hm
      rw [A12 m hm, b]
      unfold addH
      by_cases q10 : m = v 10 st n
      · have q9 : ¬ m = v 9 st n := fun z => hlh (z.symm.trans q10)
        rw [if_pos q10, if_neg q9]
        rw [if_neg (show ¬ v 9 st n = m from fun z => q9 z.symm), if_pos (show v 10 st n = m from q10.symm)] at a
        omega
      · rw [if_neg q10]
        rw [if_neg (show ¬ v 10 st n = m from fun z => q10 z.symm)] at a
        by_cases q9 : m = v 9 st n
        · rw [if_pos q9]
          rw [if_pos (show v 9 st n = m from q9.symm)] at a
          omega
        · rw [if_neg q9]
          rw [if_neg (show ¬ v 9 st n = m from fun z => q9 z.symm)] at a
          omega
    · have := hRle m
      unfold addH
      split <;> split <;> omega
  have lkn : ∀ m, lk2 m = true → m ≠ n := fun m hm z => by rw [z, hk2] at hm; cases hm
  have DM6 : DM st6 al2 (setB lk2 n true) u := by
    refine ⟨fun m hm _ => ?_, fun m hm hml => ?_⟩
    · rw [A8, A9, A10, L8, L8]
      by_cases e : m = n
      · subst e
        rw [if_pos rfl, if_pos rfl, n8]
        exact ⟨lr0', lr1, hne⟩
      · rw [setB_ne _ _ e] at hm
        rw [if_neg e, if_neg e]
        obtain ⟨q1, q2, q3, -⟩ := X26 m hm
        exact ⟨q1, q2, q3⟩
    · have e : m ≠ n := fun z => by rw [z, setB_self] at hml; cases hml
      rw [setB_ne _ _ e] at hml
      rw [A8]
      exact (X28 m hm hml).1
  have kid : ∀ c, dp al0 lev0 u c ∨ c ∈ rs → c ≠ n ∧ (c < 2 ∨ (setB lk2 n true c = true ∧ u ≤ v 8 st6 c)) := fun c hc => by
    rcases hc with h | h
    · rcases h with q | ⟨qa, qb⟩
      · exact ⟨by omega, Or.inl q⟩
      · obtain ⟨ya, yb⟩ := X211 c qa qb
        have e := lkn c yb
        refine ⟨e, Or.inr ⟨by rw [setB_ne _ _ e]; exact yb, ?_⟩⟩
        rw [A8, ya]
        omega
    · obtain ⟨ya, yb, yc, -, -⟩ := X29 c h
      have e := lkn c yb
      refine ⟨e, Or.inr ⟨by rw [setB_ne _ _ e]; exact yb, ?_⟩⟩
      rw [A8, yc]
      exact Nat.le_refl _
  -- whatever points to a node counts
  have r9 : ∀ m c, al2 m = true → v 9 st6 m = c → 1 ≤ refs st6 al2 c := fun m c hm e => by
    have := cnt_pos (N := 2560) (p := fun i => al2 i && (v 9 st6 i == c)) (hS2.2.1 m hm).2.1 (by simp [hm, e])
    unfold refs
    omega
  have r10 : ∀ m c, al2 m = true → v 10 st6 m = c → 1 ≤ refs st6 al2 c := fun m c hm e => by
    have := cnt_pos (N := 2560) (p := fun i => al2 i && (v 10 st6 i == c)) (hS2.2.1 m hm).2.1 (by simp [hm, e])
    unfold refs
    omega
  have hn9 : v 9 st6 n = r0 := by rw [A9, if_pos rfl]
  have hn10 : v 10 st6 n = r1 := by rw [A10, if_pos rfl]
  have old1 : ∀ m, al1 m = true → m ≠ n → v 9 st6 m = v 9 st1 m ∧ v 10 st6 m = v 10 st1 m := fun m hm e => by
    rw [A9, A10, if_neg e, if_neg e]
    exact ⟨(z2 m hm).2.2.2.2.1, (z2 m hm).2.2.2.2.2⟩
  have cnt9 : 2 ≤ v 9 st n → 1 ≤ refs st6 al2 (v 9 st n) ∨ v 9 st n ∈ rs := fun _ => by
    rcases y4 with h | h
    · refine Or.inl ?_
      rw [fa0 h] at q1
      rcases q1 with ⟨h1, -⟩ | ⟨h1, h2, -⟩
      · exact r9 n _ hn2 (by rw [hn9]; exact h1)
      · exact r9 r0 _ (z2 r0 h1).1 (by rw [(old1 r0 h1 nr0).1]; exact h2)
    · exact Or.inr h
  have cnt10 : 2 ≤ v 10 st n → 1 ≤ refs st6 al2 (v 10 st n) ∨ v 10 st n ∈ rs := fun _ => by
    rcases y5 with h | h
    · refine Or.inl ?_
      rw [fb0 h] at q1
      rcases q1 with ⟨-, h1⟩ | ⟨h1, -, h2⟩
      · exact r9 n _ hn2 (by rw [hn9]; exact h1)
      · exact r10 r0 _ (z2 r0 h1).1 (by rw [(old1 r0 h1 nr0).2]; exact h2)
    · exact Or.inr h
  have g4' : ch al2 (v 9 st n) := g4.imp id (fun h => (z2 _ (z1 _ h).1).1)
  have g5' : ch al2 (v 10 st n) := g5.imp id (fun h => (z2 _ (z1 _ h).1).1)
  have hRin : ∀ c, c ∈ rs → hR rs c = 1 := fun c hc => if_pos hc
  obtain ⟨st7, al7, lk7, e7, B7, -, -, -, NG7, F7, f7, nf7⟩ := drop_ok u 12 0 (v 9 st n) st6 al2 (setB lk2 n true) _ ⟨B6, P6⟩ DM6 (kid _ y4).2 (fun _ => by rw [addH_ne _ hlh, addH_self]; omega) (fun m => by
    have := hRle m
    unfold addH
    split <;> split <;> omega) (Nat.zero_le _) (by omega)
  obtain ⟨nf7a, nf7b⟩ := nf7 (by
    by_cases h2 : v 9 st n < 2
    · exact Or.inl h2
    · refine Or.inr ?_
      rw [P6.1 _ (g4'.resolve_left h2), addH_ne _ hlh, addH_self]
      rcases cnt9 (by omega) with h | h
      · omega
      · have := hRin _ h
        omega)
  have nf7a := nf7a.symm
  subst nf7a
  subst nf7b
  have b8 : v 8 st7 = v 8 st6 := F7.vE (by decide)
  have b9 : v 9 st7 = v 9 st6 := F7.vE (by decide)
  have b10 : v 10 st7 = v 10 st6 := F7.vE (by decide)
  have b5 : v 5 st7 = v 5 st6 := F7.vE (by decide)
  have DM7 : DM st7 al2 (setB lk2 n true) u := DM_same DM6 b8 b9 b10 (fun m h => h) (fun m h1 h2 => ⟨h1, h2⟩)
  have hh10 : subH (addH (addH (hR rs) (v 9 st n)) (v 10 st n)) (v 9 st n) (v 10 st n) = hR rs (v 10 st n) + 1 := by
    rw [subH_ne _ (Ne.symm hlh), addH_self, addH_ne _ (Ne.symm hlh)]
  obtain ⟨st8, al8, lk8, e8, B8, -, -, -, NG8, F8, f8, nf8⟩ := drop_ok u 12 0 (v 10 st n) st7 al2 (setB lk2 n true) _ B7 DM7 (by rw [b8]; exact (kid _ y5).2) (fun _ => by rw [hh10]; omega) (fun m => by
    have := hRle m
    unfold subH addH
    split <;> split <;> omega) (Nat.zero_le _) (by omega)
  obtain ⟨nf8a, nf8b⟩ := nf8 (by
    by_cases h2 : v 10 st n < 2
    · exact Or.inl h2
    · refine Or.inr ?_
      rw [B7.2.1 _ (g5'.resolve_left h2), hh10, refs_same b5 b9 b10]
      rcases cnt10 (by omega) with h | h
      · omega
      · have := hRin _ h
        omega)
  have nf8a := nf8a.symm
  subst nf8a
  subst nf8b
  have hfin : subH (subH (addH (addH (hR rs) (v 9 st n)) (v 10 st n)) (v 9 st n)) (v 10 st n) = hR rs := by
    funext m
    unfold subH addH
    by_cases q10 : m = v 10 st n
    · have q9 : ¬ m = v 9 st n := fun z => hlh (z.symm.trans q10)
      rw [if_pos q10, if_neg q9, if_pos q10, if_neg q9]
      omega
    · rw [if_neg q10, if_neg q10]
      by_cases q9 : m = v 9 st n
      · rw [if_pos q9, if_pos q9]
        omega
      · rw [if_neg q9, if_neg q9]
  rw [hfin] at B8
  have h8 : v 8 st8 = v 8 st2 := (F8.vE (by decide)).trans (b8.trans A8)
  have h9 : ∀ m, v 9 st8 m = if m = n then r0 else v 9 st2 m := fun m => by rw [F8.vE (by decide), b9, A9]
  have h10 : ∀ m, v 10 st8 m = if m = n then r1 else v 10 st2 m := fun m => by rw [F8.vE (by decide), b10, A10]
  have hl8 : ∀ c, lv8 st8 c = lv8 st2 c := fun c => by unfold lv8; rw [h8]
  have D2n : D2 n = D0 n := (X23 n y2).2
  have eqn : D2 n = mux (o (u + 1)) (D2 r0) (D2 r1) := by rw [D2n, D2r0, dr1, mux_co]
  refine ⟨st8, al2, setB lk2 n true, nw2, D2, ?_, ⟨B8, X22, X23, X24, fun m hm => ?_, fun m m' hm hm' q1 q2 q3 => ?_, fun m hm hml => ?_, fun m hm => ?_, fun m hm => ?_, fun c hc hc2 => ?_, fun m hm _ => ?_⟩, setB_self _ _ _, fun m hm => ?_, ?_, fun k hk0 hk1 => ?_⟩
  · unfold sX0_turn
    have h0 : sX0_half st (nI (v 9 st n)) (nI u) (0 : Int32) = some (nI (hfN st u false (v 9 st n))) := by rw [n_0]; exact half_ok hN c9 (by omega) false
    have h0' : sX0_half st (nI (v 10 st n)) (nI u) (0 : Int32) = some (nI (hfN st u false (v 10 st n))) := by rw [n_0]; exact half_ok hN c10 (by omega) false
    have h1 : sX0_half st1 (nI (v 9 st n)) (nI u) (1 : Int32) = some (nI (hfN st1 u true (v 9 st n))) := by rw [n_1]; exact half_ok hN1 c9 (by omega) true
    have h1' : sX0_half st1 (nI (v 10 st n)) (nI u) (1 : Int32) = some (nI (hfN st1 u true (v 10 st n))) := by rw [n_1]; exact half_ok hN1 c10 (by omega) true
    rw [isNode_ok st (by omega), if_pos (show 2 ≤ n ∧ n < 2560 from ⟨g1, g2⟩), ob_s, if_pos nI1_ne, lowOf_ok hN g2, el, ob_s, highOf_ok hN g2, eh, ob_s, h0, ob_s, h0', ob_s, nI_add1, e1, ob2_s, h1, ob_s, h1', ob_s, e2, ob2_s, e3, ob_s, e4, ob_s, gd_in (by omega) (by omega), lt_e, gd_in (by omega) (by omega), lt_e, hs5, e6, ob_s, n_0, e7, ob_s, e8, ob_s]
  · rw [h8, h9, h10, hl8, hl8]
    by_cases e : m = n
    · subst e
      rw [if_pos rfl, if_pos rfl, n8, osw_u]
      exact ⟨lr0', lr1, hne, eqn⟩
    · rw [setB_ne _ _ e] at hm
      rw [if_neg e, if_neg e]
      exact X26 m hm
  · -- a linked one with the same children tells the same
    have same : ∀ i, lk2 i = true → v 8 st2 i = u → v 9 st2 i = r0 → v 10 st2 i = r1 → False := fun i hi i8 i9 i10 => by
      have ei := (X26 i hi).2.2.2
      rw [i8, i9, i10, osw_u, ← eqn] at ei
      have hali := hS2.1 i hi
      have hold : al0 i = true := by
        rcases (X22 i).mp hali with h | h
        · exact h
        · have := (X210 i h).2.1
          omega
      rw [(X23 i hold).2, D2n] at ei
      exact lkn i hi (k1 i n (Or.inr hold) (Or.inr y2) ei)
    rw [h8] at q1
    rw [h9, h9] at q2
    rw [h10, h10] at q3
    by_cases e : m = n
    · by_cases e' : m' = n
      · rw [e, e']
      · rw [setB_ne _ _ e'] at hm'
        rw [if_pos e, if_neg e'] at q2 q3
        rw [e, n8] at q1
        exact (same m' hm' q1.symm q2.symm q3.symm).elim
    · rw [setB_ne _ _ e] at hm
      by_cases e' : m' = n
      · rw [if_neg e, if_pos e'] at q2 q3
        rw [e', n8] at q1
        exact (same m hm q1 q2 q3).elim
      · rw [setB_ne _ _ e'] at hm'
        rw [if_neg e, if_neg e'] at q2 q3
        exact X27 m m' hm hm' q1 q2 q3
  · have e : m ≠ n := fun z => by rw [z, setB_self] at hml; cases hml
    rw [setB_ne _ _ e] at hml
    obtain ⟨a1, a2, a3, a4, a5, a6, a7⟩ := X28 m hm hml
    unfold isFree
    rw [h8, h9, h10, if_neg e, if_neg e, hl8, hl8]
    exact ⟨a1, a2, a3, a4, a5, a6, a7⟩
  · obtain ⟨a1, a2, a3, a4, a5⟩ := X29 m hm
    have e := lkn m a2
    rw [h8, h9, h10, if_neg e, if_neg e, setB_ne _ _ e]
    exact ⟨a1, a2, a3, a4, a5⟩
  · obtain ⟨a1, a2, a3, a4, a5⟩ := X210 m hm
    have e := lkn m a1
    rw [h8, h9, h10, if_neg e, if_neg e, setB_ne _ _ e]
    exact ⟨a1, a2, a3, a4, a5⟩
  · obtain ⟨a1, a2⟩ := X211 c hc hc2
    rw [h8, setB_ne _ _ (lkn c a2)]
    exact ⟨a1, a2⟩
  · refine NG8 m hm (NG7 m hm ?_)
    rw [A12 m hm]
    by_cases q0 : r0 = m
    · rw [if_pos q0]; omega
    · by_cases qq : r1 = m
      · rw [if_pos qq]; omega
      · have : m ∉ ex2 := fun z => by
          rcases w2 m z with h | h
          · rcases w1 m h with h' | h'
            · exact absurd h' List.not_mem_nil
            · exact q0 h'.symm
          · exact qq h.symm
        have := X212 m hm this
        omega
  · obtain ⟨a1, a2, a3, a4, a5, a6⟩ := z1 m hm
    obtain ⟨b1, b2, b3, b4, b5, b6⟩ := z2 m a1
    refine ⟨b1, fun e => by rw [setB_ne _ _ e, b2, a2], by rw [b3, a3], by rw [h8, b4, a4]⟩
  · exact F1.trans (F2.trans ((F3.mono (by intro q hq; simp at hq ⊢; omega)).trans ((F4.mono (by intro q hq; simp at hq ⊢; omega)).trans ((F5.mono (by intro q hq; simp at hq ⊢; omega)).trans ((F6.mono (by intro q hq; simp at hq ⊢; omega)).trans ((F7.mono (by intro q hq; simp at hq ⊢; omega)).trans (F8.mono (by intro q hq; simp at hq ⊢; omega))))))))
  · rw [f8 k hk0 hk1, f7 k hk0 hk1, f6 k hk1, f5, f4, f3, f2 k hk0 hk1, f1 k hk0 hk1]
end XIU
