/-! build, whole; setRoot -/
theorem build_ok {S : List Fn} {o : Nat → Nat} {st : St} {al : Nat → Bool} {D : Nat → Fn} {t1 set : Nat} (W : WB S o st al D) (hp : ∀ n, al n = true → 0 < v 12 st n) (hf : tb st t1 ∈ S) (hs : set < 1024) (hset : ∀ w, w < 10 → set.testBit w = false → indep (tb st t1) w) :
    ∃ (r : Nat) (st' : St) (al' : Nat → Bool) (D' : Nat → Fn), sX0_build st t1 (nI set) = some (nI r, st') ∧ WB S o st' al' D' ∧ ch al' r ∧ D' r = tb st t1 ∧ KP st st' al al' D D' ∧ (∀ n, al' n = true → 0 < v 12 st' n ∨ n = r) ∧ FB st st' := by
  have ho := W.2.1.2.2.2.2
  have hfin := W.2.2.2.2.2 _ hf
  have hlen := subs_len set
  obtain ⟨t, ht⟩ := subs_head set 10
  obtain ⟨s1, e1, N1, F1, k1, a1, -⟩ := build_L1 (t1 := t1) hs t 0 0 FU st (by rw [← ht]; exact (subs_chn hs).1) (by rw [← ht]; exact subs_nodup set 10) (fun y hy => by rw [← ht] at hy; exact (in_subs.mp hy).1) W.1.1.1 (by rw [ht, List.length_cons]; omega) (by rw [ht, List.length_cons] at hlen; show _ < 4000; omega)
  have f0 : fv 0 s1 = fv 0 st := by unfold fv; rw [k1]
  have f1 : fv 1 s1 = fv 1 st := by unfold fv; rw [k1]
  have W1 : WB S o s1 al D := WB_cong W (fun r _ h12 => F1.vE (by simp; omega)) f0 f1 N1
  have hw2 := W.2.1
  have K1 : KP st s1 al al D D := fun c hc => ⟨hc, rfl, by unfold lv8; rw [F1.vE (r := 8) (by decide)], fun h => ⟨h, fun z => by rw [F1.vE (r := 12) (by decide)]; exact z⟩⟩
  have L1 : LI S o (tb st t1) 10 set s1 al D := by
    refine ⟨W1, fun x hx => ?_, fun n hn => Or.inl ?_⟩
    · have h1 := a1 x (by rw [← ht]; exact hx)
      unfold RW
      rw [rl_all ho hfin, h1]
      cases q : tb st t1 x
      · rw [if_neg Bool.false_ne_true]
        exact ⟨Or.inl (by omega), hw2.2.2.1, by unfold lv8 lvl; rw [if_pos (by omega)]; exact Nat.le_refl _⟩
      · rw [if_pos rfl]
        exact ⟨Or.inl (by omega), hw2.2.2.2.1, by unfold lv8 lvl; rw [if_pos (by omega)]; exact Nat.le_refl _⟩
    · rw [F1.vE (r := 12) (by decide)]; exact hp n hn
  obtain ⟨s2, al2, D2, rest, e2, L2, K2, F2⟩ := build_L2 hf hset 10 set FU s1 al D (Nat.le_refl _) hs (fun _ _ => rfl) L1 (by decide)
  obtain ⟨h1, h2, h3⟩ := L2.2.1 0 (zero_subs rest)
  refine ⟨v 16 s2 0, s2, al2, D2, ?_, L2.1, h1, h2, KP_trans K1 K2, fun n hn => ?_, FB.trans ⟨F1.mono (by intro q hq; simp at hq ⊢; omega), fun k _ _ => by rw [k1]⟩ F2⟩
  · unfold sX0_build
    rw [if_neg (by rw [n_0, nI_ltE (by omega) (by omega)]; omega), if_pos (by rw [n_1024, nI_ltE (by omega) (by omega)]; exact hs), show (9 : Int32) = nI 10 + (-1 : Int32) by decide +kernel, show (0 : Int32) = nI 0 from n_0, e1, ob_s, e2, ob_s, gd_in (by omega) (by omega), gI_v L2.1.1.1.1 (by decide) (by omega)]
  · rcases L2.2.2 n hn with q | ⟨x, hx, q⟩
    · exact Or.inl q
    · obtain ⟨g1, g2, g3⟩ := L2.2.1 x hx
      refine Or.inr ?_
      rw [← q]
      exact DG_inj L2.1.2.1 g1 h1 (g2.trans h2.symm)
theorem setRoot_ok {o : Nat → Nat} {st : St} {al : Nat → Bool} {D : Nat → Fn} {r s : Nat} (B : BI st al al (fun _ => 0)) (hD : DG al (v 8 st) (v 9 st) (v 10 st) o D) (hord : ∀ i, i < 10 → v 4 st i = o i) (hr : ch al r) (hp : ∀ n, al n = true → 0 < v 12 st n ∨ n = r) (hs : s < 12) (hfin : ∀ k, k < 12 → fin10 (D (v 5 st k))) (hfr : fin10 (D r)) :
    ∃ (st' : St) (al' : Nat → Bool), sX0_setRoot st (nI s) (nI r) = some st' ∧ GD st' al' o D ∧ FS st' D = (FS st D).set s (D r) ∧ Fr [5, 6, 7, 11, 12] st st' ∧ ∀ k, k ≠ 0 → k ≠ 1 → st'.2.2 k = st.2.2 k := by
  obtain ⟨⟨hN, hC, hF, hNC, hS⟩, hP, hh⟩ := id B
  have hr2 : r < 2560 := ch_lt hS hr
  have hb := hS.2.2 s hs
  have hb2 := ch_lt hS hb
  have h100 : v 12 st r < 100000 ∨ r < 2 := by
    rcases hr with q | q
    · exact Or.inr q
    · refine Or.inl ?_
      have := hP r q
      have := refs_le st al r
      dsimp only at *
      omega
  have hpoint : ∃ st', sX0_point st (nI r) = some st' ∧ NN st' ∧ Fr [12] st st' ∧ st'.2.2 = st.2.2 ∧ ∀ m, 2 ≤ m → v 12 st' m = if m = r then v 12 st r + 1 else v 12 st m := by
    by_cases h2 : r < 2
    · refine ⟨st, ?_, hN, Fr.refl _ _, rfl, fun m hm => by rw [if_neg (by omega)]⟩
      unfold sX0_point
      rw [isNode_ok st (by omega), ob_s, if_neg (show ¬ (2 ≤ r ∧ r < 2560) by omega), if_pos n_0.symm]
    · obtain ⟨s1, e1, n1, f1, k1, v1⟩ := point_ok hN hr2 (h100.resolve_right h2)
      refine ⟨s1, e1, n1, f1, k1, fun m hm => ?_⟩
      rw [v1]
      by_cases e : m = r
      · rw [if_pos ⟨e, by omega⟩, if_pos e]
      · rw [if_neg (fun z => e z.1), if_neg e]
  obtain ⟨s1, e1, N1, F1, k1, v1⟩ := hpoint
  have y5 : v 5 s1 = v 5 st := F1.vE (by decide)
  have N2 := NN_sI (r := 5) N1 (i := s) (x := r) (by omega) (by omega)
  have F2 := Fr_sI s1 5 (nI s) (nI r)
  have p5 : ∀ k, v 5 (sI 5 s1 (nI s) (nI r)) k = if k = s then r else v 5 st k := fun k => by
    rw [v_sI (by omega) (by omega), y5]
    by_cases e : k = s
    · rw [if_pos ⟨rfl, e⟩, if_pos e]
    · rw [if_neg (fun z => e z.2), if_neg e]
  have k2 : (sI 5 s1 (nI s) (nI r)).2.2 = st.2.2 := k1
  have F12 : Fr [5, 12] st (sI 5 s1 (nI s) (nI r)) := (F1.mono (by intro q hq; simp at hq ⊢; omega)).trans (F2.mono (by intro q hq; simp at hq ⊢; omega))
  have v12 : ∀ m, 2 ≤ m → v 12 (sI 5 s1 (nI s) (nI r)) m = if m = r then v 12 st r + 1 else v 12 st m := fun m hm => by
    rw [F2.vE (r := 12) (by decide)]; exact v1 m hm
  have pre : sX0_setRoot st (nI s) (nI r) = (ob (sX0_drop 12 (sI 5 s1 (nI s) (nI r)) (nI (v 5 st s)) (nI 0)) fun st_5 => some st_5) := by
    unfold sX0_setRoot
    rw [e1, ob_s, gd_in hs (by omega), gI_v N1 (by decide) (by omega), y5, lt_e, gd_in hs (by omega), lt_e, n_0]
  rw [pre]
  generalize sI 5 s1 (nI s) (nI r) = s2 at N2 F2 p5 k2 F12 v12
  have a4 : v 4 s2 = v 4 st := F12.vE (by decide)
  have a6 : v 6 s2 = v 6 st := F12.vE (by decide)
  have a7 : v 7 s2 = v 7 st := F12.vE (by decide)
  have a8 : v 8 s2 = v 8 st := F12.vE (by decide)
  have a9 : v 9 s2 = v 9 st := F12.vE (by decide)
  have a10 : v 10 s2 = v 10 st := F12.vE (by decide)
  have a11 : v 11 s2 = v 11 st := F12.vE (by decide)
  have f0 : fv 0 s2 = fv 0 st := by unfold fv; rw [k2]
  have f1 : fv 1 s2 = fv 1 st := by unfold fv; rw [k2]
  have eb : bk s2 = bk st := by funext n; unfold bk; rw [a8, a9, a10]
  have BM2 : BM s2 al al := by
    refine ⟨N2, ?_, ?_, ?_, hS.1, ?_, fun k hk => ?_⟩
    · unfold CH; rw [a11, a7, eb]; exact hC
    · unfold FR; rw [a11, f0]; exact hF
    · unfold NC; rw [a6, a8, f1]; exact hNC
    · rw [a8, a9, a10]; exact hS.2.1
    · rw [p5]
      split
      · exact hr
      · exact hS.2.2 k hk
  have cntE : ∀ n, cnt 12 (fun k => v 5 s2 k == n) + (if v 5 st s = n then 1 else 0) = cnt 12 (fun k => v 5 st k == n) + (if r = n then 1 else 0) := fun n => by
    by_cases e1 : v 5 st s = n
    · by_cases e2 : r = n
      · rw [if_pos e1, if_pos e2]
        rw [cnt_congr (q := fun k => v 5 st k == n) (fun k _ => by
          rw [p5]
          by_cases e : k = s
          · rw [if_pos e, e, e1, e2]
          · rw [if_neg e])]
      · rw [if_pos e1, if_neg e2]
        have := cnt_add (N := 12) (i := s) (p := fun k => v 5 s2 k == n) (q := fun k => v 5 st k == n) hs (by simp [p5, e2]) (by simp [e1]) (fun j _ hj => by rw [p5, if_neg hj])
        omega
    · by_cases e2 : r = n
      · rw [if_neg e1, if_pos e2]
        have := cnt_add (N := 12) (i := s) (p := fun k => v 5 st k == n) (q := fun k => v 5 s2 k == n) hs (by simp [e1]) (by simp [p5, e2]) (fun j _ hj => by rw [p5, if_neg hj])
        omega
      · rw [if_neg e1, if_neg e2]
        rw [cnt_congr (q := fun k => v 5 st k == n) (fun k _ => by
          rw [p5]
          by_cases e : k = s
          · rw [if_pos e, e]
            have h1 : (r == n) = false := by simpa using e2
            have h2 : (v 5 st s == n) = false := by simpa using e1
            rw [h1, h2]
          · rw [if_neg e])]
  have B2 : BI s2 al al (fun m => if m = v 5 st s then 1 else 0) := by
    refine ⟨BM2, fun n hn => ?_, fun n => by dsimp only; split <;> omega⟩
    have P := hP n hn
    have h2 := (hS.2.1 n hn).1
    have c := cntE n
    dsimp only at P ⊢
    rw [v12 n h2]
    unfold refs at P ⊢
    rw [a9, a10]
    have hA : (if n = r then v 12 st r + 1 else v 12 st n) = v 12 st n + (if r = n then 1 else 0) := by
      by_cases e : n = r
      · rw [if_pos e, if_pos e.symm, e]
      · rw [if_neg e, if_neg (fun z => e z.symm), Nat.add_zero]
    have hB : (if n = v 5 st s then 1 else 0) = (if v 5 st s = n then 1 else 0) := by
      by_cases e : n = v 5 st s
      · rw [if_pos e, if_pos e.symm]
      · rw [if_neg e, if_neg (fun z => e z.symm)]
    rw [hA, hB]
    generalize (if r = n then 1 else 0) = A at c ⊢
    generalize (if v 5 st s = n then 1 else 0) = E at c ⊢
    omega
  have hM : DM s2 al al 0 := by
    refine ⟨fun n hn _ => ?_, fun n h1 h2 => by rw [h1] at h2; cases h2⟩
    obtain ⟨g1, g2, g3, g4, g5, g6, g7, g8, g9⟩ := hD.1 n hn
    unfold lv8
    rw [a8, a9, a10]
    exact ⟨g6, g7, g8⟩
  obtain ⟨s3, al3, lk3, e3, q1, q2, q3, q4, q5, q6, q7, q8⟩ := drop_ok 0 12 0 (v 5 st s) s2 al al _ B2 hM (hb.imp id (fun z => ⟨z, Nat.zero_le _⟩)) (fun _ => by rw [if_pos rfl]; exact Nat.le_refl _) (fun m => by split <;> omega) (Nat.zero_le _) (by omega)
  have elk : lk3 = al3 := by
    funext m
    cases q : al3 m
    · cases w : lk3 m
      · rfl
      · have := q1.1.2.2.2.2.1 m w
        rw [q] at this
        cases this
    · rw [(q2 m q).2]; exact (q2 m q).1
  rw [elk] at q1
  have eH : subH (fun m => if m = v 5 st s then 1 else 0) (v 5 st s) = fun _ => 0 := by
    funext m
    unfold subH
    dsimp only
    by_cases e : m = v 5 st s
    · rw [if_pos e, if_pos e]
    · rw [if_neg e, if_neg e]
  rw [eH] at q1
  have b4 : v 4 s3 = v 4 st := (q6.vE (by decide)).trans a4
  have b5 : v 5 s3 = v 5 s2 := q6.vE (by decide)
  have b8 : v 8 s3 = v 8 st := (q6.vE (by decide)).trans a8
  have b9 : v 9 s3 = v 9 st := (q6.vE (by decide)).trans a9
  have b10 : v 10 s3 = v 10 st := (q6.vE (by decide)).trans a10
  refine ⟨s3, al3, by rw [e3, ob_s], ⟨q1, ⟨fun n hn => ?_, fun n m hn hm => ?_, hD.2.2⟩, fun i hi => by rw [b4]; exact hord i hi, fun n hn => ?_, fun k hk => ?_⟩, ?_, ?_, fun k h1 h2 => ?_⟩
  · obtain ⟨g1, g2, g3, g4, g5, g6⟩ := hD.1 n (q2 n hn).1
    have s4 := q1.1.2.2.2.2.2.1 n hn
    rw [b9, b10] at s4
    rw [b8, b9, b10]
    exact ⟨g1, g2, g3, s4.2.2.2.1, s4.2.2.2.2, g6⟩
  · rw [b8, b9, b10]
    exact hD.2.1 n m (q2 n hn).1 (q2 m hm).1
  · have hal := (q2 n hn).1
    refine q5 n hn ?_
    rw [v12 n (hS.2.1 n hal).1]
    rcases hp n hal with z | z
    · split
      · omega
      · exact z
    · rw [if_pos z]; omega
  · rw [b5, p5]
    split
    · exact hfr
    · exact hfin k hk
  · unfold FS
    rw [b5]
    refine List.ext_getElem (by simp) (fun i h1 h2 => ?_)
    rw [List.getElem_set]
    simp only [List.getElem_map, List.getElem_range, p5]
    by_cases e : i = s
    · rw [if_pos e, if_pos e.symm]
    · rw [if_neg e, if_neg (fun z => e z.symm)]
  · exact (F12.mono (by intro q hq; simp at hq ⊢; omega)).trans (q6.mono (by intro q hq; simp at hq ⊢; omega))
  · rw [q7 k h1 h2, k2]
