/-! unlink, make -/
theorem cnt_sub {N i : Nat} {p q : Nat → Bool} (hi : i < N) (hp : p i = true) (hq : q i = false) (h : ∀ j, j < N → j ≠ i → p j = q j) : cnt N q = cnt N p - 1 := by
  have := cnt_add (p := q) (q := p) hi hq hp (fun j hj hne => (h j hj hne).symm)
  omega
/-- what unlink leaves, out of the state s1 in which the chain has been mended -/
def UNr (s1 : St) (l : Nat) : St := sF 1 (sI 6 s1 (nI l) (nI (v 6 s1 l - 1))) (nI (fv 1 s1 - 1))
theorem un_tail {s1 : St} {n : Nat} (hN : NN s1) (hn : n < 2560) (hl : v 8 s1 n < 10) (hc : 0 < v 6 s1 (v 8 s1 n)) (hf : 0 < fv 1 s1) :
    (gd (nI n) 2560 <| gd (gI 8 s1 (nI n)) 10 <| gd (gI 8 s1 (nI n)) 10 <| lt (sI 6 s1 (gI 8 s1 (nI n)) ((gI 6 s1 (gI 8 s1 (nI n))) - (1 : Int32))) fun st_22 => lt (sF 1 st_22 ((gF 1 st_22) - (1 : Int32))) fun st_23 => some st_23) = some (UNr s1 (v 8 s1 n)) := by
  have h6 := v_lt 6 s1 (v 8 s1 n)
  rw [gd_in hn (by omega), gI_v hN (by decide) (by omega), gd_in hl (by omega), gd_in hl (by omega), gI_v hN (by decide) (by omega), n_1, nI_subE (by omega), lt_e, gF_v (NN_sI hN (by omega) (by omega)), fv_sI, nI_subE (by omega), lt_e]
  rfl
theorem unlink_ok {st : St} {al lk : Nat → Bool} {n : Nat} (B : BM st al lk) (hk : lk n = true) : ∃ st', sX0_unlink st (nI n) = some st' ∧ BM st' al (setB lk n false) ∧ Fr [6, 7, 11] st st' ∧ ∀ k, k ≠ 1 → st'.2.2 k = st.2.2 k := by
  obtain ⟨hN, ⟨c, hc⟩, ⟨fl, hf1, hf2⟩, ⟨hc1, hc2⟩, hS⟩ := id B
  have hn := hS.1 n hk
  obtain ⟨g1, g2, g3, g4, g5⟩ := hS.2.1 n hn
  have hb : bk st n < 640 := bkn_lt g3 _ _
  have hmem : n ∈ c (bk st n) := ((hc _ hb).2 n).mpr ⟨hk, rfl⟩
  have h6 : 0 < v 6 st (v 8 st n) := by
    rw [hc1 _ g3]
    exact cnt_pos g2 (by simp [hk])
  have h1 : 0 < fv 1 st := by
    rw [hc2]
    exact cnt_pos g2 hk
  obtain ⟨s, t, hst⟩ := List.append_of_mem hmem
  have hch := (hc _ hb).1
  have hnd := isCh_nodup hch
  have hlen := isCh_len hch
  rw [hst] at hch hnd hlen
  -- the state in which the chain is mended
  have key : ∃ s1, sX0_unlink st (nI n) = some (UNr s1 (v 8 st n)) ∧ NN s1 ∧ Fr [7, 11] st s1 ∧ s1.2.2 = st.2.2 ∧ isCh (v 11 s1) (v 7 s1 (bk st n)) (s ++ t) ∧ (∀ j, j ≠ bk st n → v 7 s1 j = v 7 st j) ∧ ∀ m, m ∉ c (bk st n) → v 11 s1 m = v 11 st m := by
    have pre : ∀ r, sX0_unlink st (nI n) = r ↔ (if ¬ nI (v 7 st (bk st n)) = nI n then (ob (sX0_unlink_L69 FU st (nI n) (nI (v 7 st (bk st n))) (0 : Int32)) fun st_21 => gd (nI n) 2560 <| gd (gI 8 st_21 (nI n)) 10 <| gd (gI 8 st_21 (nI n)) 10 <| lt (sI 6 st_21 (gI 8 st_21 (nI n)) ((gI 6 st_21 (gI 8 st_21 (nI n))) - (1 : Int32))) fun st_22 => lt (sF 1 st_22 ((gF 1 st_22) - (1 : Int32))) fun st_23 => some st_23) else (ob (sX0_unlink_L69 FU (sI 7 st (nI (bk st n)) (nI (v 11 st n))) (nI n) (nI (v 7 st (bk st n))) (0 : Int32)) fun st_25 => gd (nI n) 2560 <| gd (gI 8 st_25 (nI n)) 10 <| gd (gI 8 st_25 (nI n)) 10 <| lt (sI 6 st_25 (gI 8 st_25 (nI n)) ((gI 6 st_25 (gI 8 st_25 (nI n))) - (1 : Int32))) fun st_26 => lt (sF 1 st_26 ((gF 1 st_26) - (1 : Int32))) fun st_27 => some st_27)) = r := by
      intro r
      unfold sX0_unlink
      rw [isNode_ok st (by omega), if_pos (show 2 ≤ n ∧ n < 2560 from ⟨g1, g2⟩), ob_s, if_neg nI1_ne, gd_in g2 (by omega), gI_v hN (by decide) (by omega), isLevel_ok st (by omega), if_pos g3, ob_s, if_pos nI1_ne, gd_in g2 (by omega), gd_in g2 (by omega), gd_in g2 (by omega), gI_v hN (by decide) (by omega), gI_v hN (by decide) (by omega), bucketOf_ok, ob_s, show bkn (v 8 st n) (v 9 st n) (v 10 st n) = bk st n from rfl, gd_in hb (by omega), gI_v hN (by decide) (by omega), lt_e, gd_in g2 (by omega), gd_in hb (by omega), gI_v hN (by decide) (by omega), lt_e]
    cases s with
    | nil =>
      have hhd : v 7 st (bk st n) = n := hch.1
      have hx := v_lt 11 st n
      refine ⟨sI 7 st (nI (bk st n)) (nI (v 11 st n)), (pre _).mpr ?_, NN_sI hN (by omega) hx, ⟨fun r hr => (Fr_sI st 7 _ _).1 r (fun z => hr (by rw [List.mem_singleton.mp z]; decide)), rfl⟩, rfl, ?_, fun j hj => ?_, fun m _ => ?_⟩
      · have e8 : v 8 (sI 7 st (nI (bk st n)) (nI (v 11 st n))) = v 8 st := (Fr_sI st 7 _ _).vE (by decide)
        have e6 : v 6 (sI 7 st (nI (bk st n)) (nI (v 11 st n))) = v 6 st := (Fr_sI st 7 _ _).vE (by decide)
        have := un_tail (s1 := sI 7 st (nI (bk st n)) (nI (v 11 st n))) (n := n) (NN_sI hN (by omega) hx) g2 (by rw [e8]; exact g3) (by rw [e8, e6]; exact h6) (by rw [fv_sI]; exact h1)
        rw [e8] at this
        rw [if_neg (by rw [hhd]; exact fun z => z rfl), hhd]
        have hL : sX0_unlink_L69 FU (sI 7 st (nI (bk st n)) (nI (v 11 st n))) (nI n) (nI n) (0 : Int32) = some (sI 7 st (nI (bk st n)) (nI (v 11 st n))) := by
          rw [show FU = 3999 + 1 from rfl, sX0_unlink_L69, if_neg (show ¬ (2560 : Int32) ≤ 0 by decide), isNode_ok _ (by omega), if_pos (show 2 ≤ n ∧ n < 2560 from ⟨g1, g2⟩), ob_s, if_neg nI1_ne, if_pos rfl]
        rw [hL]
        exact this
      · have e7 : v 7 (sI 7 st (nI (bk st n)) (nI (v 11 st n))) (bk st n) = v 11 st n := by rw [v_sI (by omega) hx, if_pos ⟨rfl, rfl⟩]
        have e11 : v 11 (sI 7 st (nI (bk st n)) (nI (v 11 st n))) = v 11 st := (Fr_sI st 7 _ _).vE (by decide)
        rw [e7, e11]
        exact hch.2.2.2
      · rw [v_sI (by omega) hx, if_neg (fun z => hj z.2)]
      · exact congrFun ((Fr_sI st 7 (nI (bk st n)) (nI (v 11 st n))).vE (r := 11) (by decide)) m
    | cons p s =>
      have hhd : v 7 st (bk st n) = p := hch.1
      have hp2 := hch.2.1
      have hp3 := hch.2.2.1
      have hx := v_lt 11 st n
      have hns : n ∉ p :: s := fun z => by
        rw [List.cons_append] at hnd
        have hd : ((p :: s) ++ n :: t).Nodup := hnd
        exact (List.nodup_append.mp hd).2.2 n z n List.mem_cons_self rfl
      have hlast : lastD p s < 2560 := by
        have h1 := lastD_mem s p
        exact (isCh_mem hch (List.mem_append_left _ h1)).2
      simp only [List.length_append, List.length_cons] at hlen
      have F := Fr_sI st 11 (nI (lastD p s)) (nI (v 11 st n))
      have hch2 : isCh (v 11 st) p (p :: (s ++ n :: t)) := by rw [hhd] at hch; exact hch
      refine ⟨sI 11 st (nI (lastD p s)) (nI (v 11 st n)), (pre _).mpr ?_, NN_sI hN (by omega) hx, ⟨fun r hr => F.1 r (fun z => hr (by rw [List.mem_singleton.mp z]; decide)), rfl⟩, rfl, ?_, fun j hj => congrFun (F.vE (r := 7) (by decide)) j, fun m hm => ?_⟩
      · have e8 : v 8 (sI 11 st (nI (lastD p s)) (nI (v 11 st n))) = v 8 st := F.vE (by decide)
        have e6 : v 6 (sI 11 st (nI (lastD p s)) (nI (v 11 st n))) = v 6 st := F.vE (by decide)
        have := un_tail (s1 := sI 11 st (nI (lastD p s)) (nI (v 11 st n))) (n := n) (NN_sI hN (by omega) hx) g2 (by rw [e8]; exact g3) (by rw [e8, e6]; exact h6) (by rw [fv_sI]; exact h1)
        rw [e8] at this
        rw [if_pos (by rw [hhd, nI_eqE (by omega) (by omega)]; exact fun z => hns (z ▸ List.mem_cons_self)), hhd]
        have hL := unlink_L (t := t) s p 0 FU st hN hch2 hns (by omega) (by show s.length + 2 < 4000; omega) g1 g2
        rw [show (0 : Int32) = nI 0 from n_0, hL]
        exact this
      · have e7 : v 7 (sI 11 st (nI (lastD p s)) (nI (v 11 st n))) (bk st n) = p := by rw [F.vE (by decide), hhd]
        rw [e7]
        refine isCh_cut s p p hch2 hnd (fun m hm => ?_) ?_
        · rw [v_sI (by omega) hx, if_neg (fun z => hm z.2)]
        · rw [v_sI (by omega) hx, if_pos ⟨rfl, rfl⟩]
      · rw [v_sI (by omega) hx, if_neg (fun z => hm (by
          rw [z.2, hst]
          exact List.mem_append_left _ (lastD_mem s p)))]
  obtain ⟨s1, e1, k1, k2, k3, k4, k5, k6⟩ := key
  have e5 : v 5 s1 = v 5 st := k2.vE (by decide)
  have e6 : v 6 s1 = v 6 st := k2.vE (by decide)
  have e8 : v 8 s1 = v 8 st := k2.vE (by decide)
  have e9 : v 9 s1 = v 9 st := k2.vE (by decide)
  have e10 : v 10 s1 = v 10 st := k2.vE (by decide)
  have ef : ∀ k, fv k s1 = fv k st := fun k => by unfold fv; rw [k3]
  have hx6 := v_lt 6 st (v 8 st n)
  have hx1 := fv_lt 1 st
  have FU6 : Fr [6] s1 (UNr s1 (v 8 st n)) := ⟨fun r hr => (Fr_sI s1 6 _ _).1 r hr, rfl⟩
  have FA : Fr [6, 7, 11] st (UNr s1 (v 8 st n)) := (k2.mono (fun r hr => by
    rcases List.mem_cons.mp hr with rfl | hr
    · decide
    · rw [List.mem_singleton.mp hr]; decide)).trans (FU6.mono (fun r hr => by rw [List.mem_singleton.mp hr]; decide))
  have u5 : v 5 (UNr s1 (v 8 st n)) = v 5 st := FA.vE (by decide)
  have u8 : v 8 (UNr s1 (v 8 st n)) = v 8 st := FA.vE (by decide)
  have u9 : v 9 (UNr s1 (v 8 st n)) = v 9 st := FA.vE (by decide)
  have u10 : v 10 (UNr s1 (v 8 st n)) = v 10 st := FA.vE (by decide)
  have u7 : v 7 (UNr s1 (v 8 st n)) = v 7 s1 := FU6.vE (by decide)
  have u11 : v 11 (UNr s1 (v 8 st n)) = v 11 s1 := FU6.vE (by decide)
  have hfld : ∀ k, k ≠ 1 → (UNr s1 (v 8 st n)).2.2 k = st.2.2 k := fun k hk1 => by
    rw [← k3]
    exact if_neg hk1
  have hbk : ∀ m, bk (UNr s1 (v 8 st n)) m = bk st m := fun m => by unfold bk; rw [u8, u9, u10]
  refine ⟨_, e1, ⟨NN_sF (NN_sI k1 (by omega) (by rw [e6]; omega)) (by rw [ef]; omega), ?_, ?_, ?_, ?_⟩, FA, hfld⟩
  · refine ⟨fun j => if j = bk st n then s ++ t else c j, fun j hj => ?_⟩
    dsimp only
    rw [u7, u11]
    by_cases e : j = bk st n
    · subst e
      rw [if_pos rfl]
      refine ⟨k4, fun m => ?_⟩
      have hm := (hc _ hb).2 m
      rw [hst] at hm
      rw [hbk]
      by_cases em : m = n
      · subst em
        rw [setB_self]
        constructor
        · intro z
          have hd := List.nodup_append.mp hnd
          rcases List.mem_append.mp z with q | q
          · exact absurd rfl (hd.2.2 m q m List.mem_cons_self)
          · exact absurd q (List.nodup_cons.mp hd.2.1).1
        · intro z
          exact absurd z.1 (by decide)
      · rw [setB_ne _ _ em, ← hm]
        simp [em]
    · rw [if_neg e, k5 j e]
      refine ⟨isCh_same (hc j hj).1 (fun m hm => k6 m (fun z => ?_)), fun m => ?_⟩
      · have z1 := (((hc _ hb).2 m).mp z).2
        have z2 := (((hc j hj).2 m).mp hm).2
        exact e (z2.symm.trans z1)
      · rw [hbk, (hc j hj).2 m]
        by_cases em : m = n
        · subst em
          rw [setB_self]
          constructor
          · intro z
            exact absurd z.2.symm e
          · intro z
            exact absurd z.1 (by decide)
        · rw [setB_ne _ _ em]
  · refine ⟨fl, ?_, hf2⟩
    have f0 : fv 0 (UNr s1 (v 8 st n)) = fv 0 st := by unfold fv; rw [hfld 0 (by decide)]
    rw [f0, u11]
    refine isCh_same hf1 (fun m hm => k6 m (fun z => ?_))
    have z1 := hS.1 m (((hc _ hb).2 m).mp z).1
    have z2 := ((hf2 m).mp hm).2.2
    rw [z1] at z2
    cases z2
  · constructor
    · intro l hl
      rw [u8]
      have : v 6 (UNr s1 (v 8 st n)) l = if l = v 8 st n then v 6 st (v 8 st n) - 1 else v 6 st l := by
        unfold UNr
        rw [v_sF, v_sI (by omega) (by rw [e6]; omega), e6]
        by_cases e : l = v 8 st n
        · rw [if_pos ⟨rfl, e⟩, if_pos e]
        · rw [if_neg (fun z => e z.2), if_neg e]
      rw [this]
      by_cases e : l = v 8 st n
      · subst e
        rw [if_pos rfl, hc1 _ g3]
        refine (cnt_sub (i := n) g2 (by simp [hk]) (by rw [setB_self]; rfl) (fun j _ hj => by rw [setB_ne _ _ hj])).symm
      · rw [if_neg e, hc1 l hl]
        refine cnt_congr (fun j _ => ?_)
        by_cases ej : j = n
        · subst ej
          rw [setB_self]
          simp [hk]
          exact fun z => e z.symm
        · rw [setB_ne _ _ ej]
    · have : fv 1 (UNr s1 (v 8 st n)) = fv 1 st - 1 := by
        unfold UNr
        rw [fv_sF (by rw [ef]; omega), if_pos rfl, ef]
      rw [this, hc2]
      exact (cnt_sub (i := n) g2 hk (setB_self _ _ _) (fun j _ hj => (setB_ne _ _ hj).symm)).symm
  · refine ⟨fun m hm => ?_, by rw [u8, u9, u10]; exact hS.2.1, by rw [u5]; exact hS.2.2⟩
    by_cases em : m = n
    · rw [em]; exact hn
    · rw [setB_ne _ _ em] at hm
      exact hS.1 m hm
