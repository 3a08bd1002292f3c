/-! raise, sinkIfFree, half; and their loops over the list -/
/-- a node that isn't linked comes to another level -/
theorem BM_lev {st : St} {al lk : Nat → Bool} {n u : Nat} (B : BM st al lk) (hn : al n = true) (hk : lk n = false) (hu : u < 10) : BM (sI 8 st (nI n) (nI u)) al lk := by
  obtain ⟨hN, ⟨c, hc⟩, hF, ⟨hc1, hc2⟩, hS⟩ := id B
  obtain ⟨g1, g2, g3, g4, g5⟩ := hS.2.1 n hn
  have F := Fr_sI st 8 (nI n) (nI u)
  have V8 : ∀ m, v 8 (sI 8 st (nI n) (nI u)) m = if m = n then u else v 8 st m := fun m => by
    rw [v_sI (by omega) (by omega)]
    by_cases e : m = n
    · rw [if_pos ⟨rfl, e⟩, if_pos e]
    · rw [if_neg (fun z => e z.2), if_neg e]
  generalize hs : sI 8 st (nI n) (nI u) = s1 at F V8 ⊢
  have e5 : v 5 s1 = v 5 st := F.vE (by decide)
  have e6 : v 6 s1 = v 6 st := F.vE (by decide)
  have e7 : v 7 s1 = v 7 st := F.vE (by decide)
  have e9 : v 9 s1 = v 9 st := F.vE (by decide)
  have e10 : v 10 s1 = v 10 st := F.vE (by decide)
  have e11 : v 11 s1 = v 11 st := F.vE (by decide)
  have hfv : ∀ k, fv k s1 = fv k st := fun k => by rw [← hs, fv_sI]
  have hne : ∀ m, lk m = true → m ≠ n := fun m hm z => by rw [z, hk] at hm; cases hm
  have hbk : ∀ m, m ≠ n → bk s1 m = bk st m := fun m hm => by unfold bk; rw [V8, if_neg hm, e9, e10]
  refine ⟨by rw [← hs]; exact NN_sI hN (by omega) (by omega), ⟨c, fun b hb => ?_⟩, FR_same hF e11 (hfv 0), ⟨fun l hl => ?_, by rw [hfv]; exact hc2⟩, hS.1, fun m hm => ?_, by rw [e5]; exact hS.2.2⟩
  · rw [e7, e11]
    refine ⟨(hc b hb).1, fun m => ?_⟩
    rw [(hc b hb).2 m]
    constructor
    · intro z
      exact ⟨z.1, by rw [hbk m (hne m z.1)]; exact z.2⟩
    · intro z
      exact ⟨z.1, by rw [← hbk m (hne m z.1)]; exact z.2⟩
  · rw [e6, hc1 l hl]
    refine cnt_congr (fun m _ => ?_)
    cases q : lk m
    · rw [Bool.false_and, Bool.false_and]
    · rw [V8, if_neg (hne m q)]
  · obtain ⟨q1, q2, q3, q4, q5⟩ := hS.2.1 m hm
    rw [V8, e9, e10]
    refine ⟨q1, q2, ?_, q4, q5⟩
    split
    · exact hu
    · exact q3
theorem raise_ok {st : St} {al lk : Nat → Bool} {hold : Nat → Nat} {n u : Nat} (B : BI st al lk hold) (hn : al n = true) (hk : lk n = false) (hu : u < 10) (hh : hold n < 100) : ∃ st', sX0_raise st (nI n) (nI u) = some st' ∧ BI st' al (setB lk n true) (addH hold n) ∧ (∀ m, v 8 st' m = if m = n then u else v 8 st m) ∧ (∀ m, v 12 st' m = if m = n then v 12 st n + 1 else v 12 st m) ∧ Fr [6, 7, 8, 11, 12] st st' ∧ ∀ k, k ≠ 1 → st'.2.2 k = st.2.2 k := by
  obtain ⟨hBM, hP⟩ := id B
  have hN := hBM.1
  obtain ⟨g1, g2, g3, g4, g5⟩ := hBM.2.2.2.2.2.1 n hn
  have hp := hP.1 n hn
  have hr := refs_le st al n
  have B1 := BM_lev hBM hn hk hu
  have F1 := Fr_sI st 8 (nI n) (nI u)
  have V8 : ∀ m, v 8 (sI 8 st (nI n) (nI u)) m = if m = n then u else v 8 st m := fun m => by
    rw [v_sI (by omega) (by omega)]
    by_cases e : m = n
    · rw [if_pos ⟨rfl, e⟩, if_pos e]
    · rw [if_neg (fun z => e z.2), if_neg e]
  have hfv1 : (sI 8 st (nI n) (nI u)).2.2 = st.2.2 := rfl
  have pre : sX0_raise st (nI n) (nI u) = ob (sX0_link (sI 12 (sI 8 st (nI n) (nI u)) (nI n) (nI (v 12 (sI 8 st (nI n) (nI u)) n + 1))) (nI n)) (fun st_6 => some st_6) := by
    unfold sX0_raise
    rw [isNode_ok st (by omega), if_pos (show 2 ≤ n ∧ n < 2560 from ⟨g1, g2⟩), ob_s, if_pos nI1_ne, gd_in (by omega) (by omega), lt_e, gd_in (by omega) (by omega), gd_in (by omega) (by omega), gI_v B1.1 (by decide) (by omega), nI_add1, lt_e]
  rw [pre]
  generalize sI 8 st (nI n) (nI u) = s1 at B1 F1 V8 hfv1 ⊢
  have e12 : v 12 s1 = v 12 st := F1.vE (by decide)
  have hx : v 12 s1 n + 1 < 2147483648 := by rw [e12]; omega
  have F2 := Fr_sI s1 12 (nI n) (nI (v 12 s1 n + 1))
  have N2 := NN_sI (r := 12) B1.1 (i := n) (x := v 12 s1 n + 1) (by omega) hx
  have V12 : ∀ m, v 12 (sI 12 s1 (nI n) (nI (v 12 s1 n + 1))) m = if m = n then v 12 st n + 1 else v 12 st m := fun m => by
    rw [v_sI (by omega) hx, e12]
    by_cases e : m = n
    · rw [if_pos ⟨rfl, e⟩, if_pos e]
    · rw [if_neg (fun z => e z.2), if_neg e]
  have hfv2 : (sI 12 s1 (nI n) (nI (v 12 s1 n + 1))).2.2 = s1.2.2 := rfl
  generalize sI 12 s1 (nI n) (nI (v 12 s1 n + 1)) = s2 at F2 N2 V12 hfv2 ⊢
  have B2 : BM s2 al lk := BM_12 B1 N2 F2 hfv2
  obtain ⟨s3, e3, B3, F3, k3⟩ := link_ok B2 hn hk
  have FA : Fr [6, 7, 8, 11, 12] st s3 := (F1.mono (by intro q hq; simp at hq ⊢; omega)).trans ((F2.mono (by intro q hq; simp at hq ⊢; omega)).trans (F3.mono (by intro q hq; simp at hq ⊢; omega)))
  have a5 : v 5 s3 = v 5 st := FA.vE (by decide)
  have a9 : v 9 s3 = v 9 st := FA.vE (by decide)
  have a10 : v 10 s3 = v 10 st := FA.vE (by decide)
  have a12 : v 12 s3 = v 12 s2 := F3.vE (by decide)
  refine ⟨s3, by rw [e3, ob_s], ⟨B3, fun m hm => ?_, fun m => ?_⟩, fun m => ?_, fun m => by rw [a12]; exact V12 m, FA, fun k hk1 => by rw [k3 k hk1, hfv2, hfv1]⟩
  · rw [refs_same a5 a9 a10, a12, V12]
    by_cases e : m = n
    · subst e
      rw [if_pos rfl, addH_self, hp]
      omega
    · rw [if_neg e, addH_ne _ e]
      exact hP.1 m hm
  · have := hP.2 m
    unfold addH
    split
    · rename_i e; subst e; omega
    · omega
  · rw [F3.vE (by decide), F2.vE (by decide), V8]
theorem levelAt_ok {st : St} (hN : NN st) {c : Nat} (hc : c < 2560) : sX0_levelAt st (nI c) = some (nI (lv8 st c)) := by
  unfold sX0_levelAt lv8 lvl
  rw [isNode_ok st (by omega)]
  by_cases h2 : c < 2
  · rw [if_neg (by omega), ob_s, if_pos n_0.symm, if_pos h2]
    rfl
  · rw [if_pos (show 2 ≤ c ∧ c < 2560 by omega), ob_s, if_neg nI1_ne, gd_in (by omega) (by omega), gI_v hN (by decide) (by omega), if_neg h2]
def lo9 (st : St) (c : Nat) : Nat := if c < 2 then c else v 9 st c
def hi10 (st : St) (c : Nat) : Nat := if c < 2 then c else v 10 st c
theorem lowOf_ok {st : St} (hN : NN st) {c : Nat} (hc : c < 2560) : sX0_lowOf st (nI c) = some (nI (lo9 st c)) := by
  unfold sX0_lowOf lo9
  rw [isNode_ok st (by omega)]
  by_cases h2 : c < 2
  · rw [if_neg (by omega), ob_s, if_pos n_0.symm, if_pos h2]
  · rw [if_pos (show 2 ≤ c ∧ c < 2560 by omega), ob_s, if_neg nI1_ne, gd_in (by omega) (by omega), gI_v hN (by decide) (by omega), if_neg h2]
theorem highOf_ok {st : St} (hN : NN st) {c : Nat} (hc : c < 2560) : sX0_highOf st (nI c) = some (nI (hi10 st c)) := by
  unfold sX0_highOf hi10
  rw [isNode_ok st (by omega)]
  by_cases h2 : c < 2
  · rw [if_neg (by omega), ob_s, if_pos n_0.symm, if_pos h2]
  · rw [if_pos (show 2 ≤ c ∧ c < 2560 by omega), ob_s, if_neg nI1_ne, gd_in (by omega) (by omega), gI_v hN (by decide) (by omega), if_neg h2]
/-- half of a node: its child, if it lies at the level, otherwise itself -/
def hfN (st : St) (u : Nat) (b : Bool) (c : Nat) : Nat := if lv8 st c = u then (if b then hi10 st c else lo9 st c) else c
theorem lv8_lt {st : St} (c : Nat) : lv8 st c < 2147483648 := by
  unfold lv8 lvl
  split
  · omega
  · exact v_lt _ _ _
theorem half_ok {st : St} (hN : NN st) {c u : Nat} (hc : c < 2560) (hu : u < 2147483648) (b : Bool) : sX0_half st (nI c) (nI u) (nI (if b then 1 else 0)) = some (nI (hfN st u b c)) := by
  unfold sX0_half hfN
  have := lv8_lt (st := st) c
  rw [levelAt_ok hN hc, ob_s]
  by_cases e : lv8 st c = u
  · rw [if_pos (show nI (lv8 st c) = nI u by rw [e]), if_pos e]
    cases b
    · rw [if_pos (show nI (if false = true then 1 else 0) = (0 : Int32) from n_0.symm), lowOf_ok hN hc, ob_s]
      rfl
    · rw [if_neg (show ¬ nI (if true = true then 1 else 0) = (0 : Int32) from nI1_ne), highOf_ok hN hc, ob_s]
      rfl
  · rw [if_neg (show ¬ nI (lv8 st c) = nI u by rw [nI_eqE this hu]; exact e), if_neg e]
/-- sinkIfFree -/
def isFree (st : St) (u n : Nat) : Prop := lv8 st (v 9 st n) ≠ u ∧ lv8 st (v 10 st n) ≠ u
theorem sink_ok {st : St} {al lk : Nat → Bool} {hold : Nat → Nat} {n u : Nat} (B : BI st al lk hold) (hn : al n = true) (hk : lk n = false) (hu : u + 1 < 10) : ∃ st', sX0_sinkIfFree st (nI n) (nI u) = some st' ∧ ((isFree st u n ∧ BI st' al (setB lk n true) hold ∧ (∀ m, v 8 st' m = if m = n then u + 1 else v 8 st m) ∧ Fr [6, 7, 8, 11] st st' ∧ ∀ k, k ≠ 1 → st'.2.2 k = st.2.2 k) ∨ (¬ isFree st u n ∧ st' = st)) := by
  obtain ⟨hBM, hP⟩ := id B
  have hN := hBM.1
  have hS := hBM.2.2.2.2
  obtain ⟨g1, g2, g3, g4, g5⟩ := hS.2.1 n hn
  have c9 := ch_lt hS g4
  have c10 := ch_lt hS g5
  have q9 := lv8_lt (st := st) (v 9 st n)
  have q10 := lv8_lt (st := st) (v 10 st n)
  have el : lo9 st n = v 9 st n := if_neg (by omega)
  have eh : hi10 st n = v 10 st n := if_neg (by omega)
  unfold sX0_sinkIfFree
  rw [isNode_ok st (by omega), if_pos (show 2 ≤ n ∧ n < 2560 from ⟨g1, g2⟩), ob_s, if_neg nI1_ne, lowOf_ok hN g2, el, ob_s, levelAt_ok hN c9, ob_s]
  by_cases e1 : lv8 st (v 9 st n) = u
  · rw [if_pos (show nI (lv8 st (v 9 st n)) = nI u by rw [e1])]
    exact ⟨st, rfl, Or.inr ⟨fun z => z.1 e1, rfl⟩⟩
  · rw [if_neg (show ¬ nI (lv8 st (v 9 st n)) = nI u by rw [nI_eqE q9 (by omega)]; exact e1), highOf_ok hN g2, eh, ob_s, levelAt_ok hN c10, ob_s]
    by_cases e2 : lv8 st (v 10 st n) = u
    · rw [if_pos (show nI (lv8 st (v 10 st n)) = nI u by rw [e2])]
      exact ⟨st, rfl, Or.inr ⟨fun z => z.2 e2, rfl⟩⟩
    · rw [if_neg (show ¬ nI (lv8 st (v 10 st n)) = nI u by rw [nI_eqE q10 (by omega)]; exact e2), gd_in (by omega) (by omega), nI_add1, lt_e]
      have B1 := BM_lev hBM hn hk hu
      have F1 := Fr_sI st 8 (nI n) (nI (u + 1))
      have V8 : ∀ m, v 8 (sI 8 st (nI n) (nI (u + 1))) m = if m = n then u + 1 else v 8 st m := fun m => by
        rw [v_sI (by omega) (by omega)]
        by_cases e : m = n
        · rw [if_pos ⟨rfl, e⟩, if_pos e]
        · rw [if_neg (fun z => e z.2), if_neg e]
      have hfv1 : (sI 8 st (nI n) (nI (u + 1))).2.2 = st.2.2 := rfl
      generalize sI 8 st (nI n) (nI (u + 1)) = s1 at B1 F1 V8 hfv1 ⊢
      obtain ⟨s3, e3, B3, F3, k3⟩ := link_ok B1 hn hk
      have FA : Fr [6, 7, 8, 11] st s3 := (F1.mono (by intro q hq; simp at hq ⊢; omega)).trans (F3.mono (by intro q hq; simp at hq ⊢; omega))
      exact ⟨s3, by rw [e3, ob_s], Or.inl ⟨⟨e1, e2⟩, ⟨B3, PR_same hP (FA.vE (by decide)) (FA.vE (by decide)) (FA.vE (by decide)) (FA.vE (by decide))⟩, fun m => by rw [F3.vE (by decide)]; exact V8 m, FA, fun k hk1 => by rw [k3 k hk1, hfv1]⟩⟩
