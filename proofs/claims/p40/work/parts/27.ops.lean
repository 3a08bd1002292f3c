/-! WHAT THE DIAGRAM'S SMALL METHODS DO TO ITS MEMORY -/
theorem CH_same {st st' : St} {lk : Nat → Bool} (h : CH st lk) (e7 : v 7 st' = v 7 st) (e8 : v 8 st' = v 8 st) (e9 : v 9 st' = v 9 st) (e10 : v 10 st' = v 10 st) (e11 : v 11 st' = v 11 st) : CH st' lk := by
  obtain ⟨c, hc⟩ := h
  refine ⟨c, fun b hb => ?_⟩
  have hbk : ∀ n, bk st' n = bk st n := fun n => by unfold bk; rw [e8, e9, e10]
  rw [e7, e11]
  refine ⟨(hc b hb).1, fun n => ?_⟩
  rw [hbk]
  exact (hc b hb).2 n
theorem FR_same {st st' : St} {al : Nat → Bool} (h : FR st al) (e11 : v 11 st' = v 11 st) (e0 : fv 0 st' = fv 0 st) : FR st' al := by
  obtain ⟨fl, h1, h2⟩ := h
  exact ⟨fl, by rw [e11, e0]; exact h1, h2⟩
theorem NC_same {st st' : St} {lk : Nat → Bool} (h : NC st lk) (e6 : v 6 st' = v 6 st) (e8 : v 8 st' = v 8 st) (e1 : fv 1 st' = fv 1 st) : NC st' lk := by
  unfold NC
  rw [e6, e8, e1]
  exact h
theorem refs_same {st st' : St} (e5 : v 5 st' = v 5 st) (e9 : v 9 st' = v 9 st) (e10 : v 10 st' = v 10 st) (al : Nat → Bool) (n : Nat) : refs st' al n = refs st al n := by
  unfold refs
  rw [e5, e9, e10]
theorem PR_same {st st' : St} {al : Nat → Bool} {hold : Nat → Nat} (h : PR st al hold) (e5 : v 5 st' = v 5 st) (e9 : v 9 st' = v 9 st) (e10 : v 10 st' = v 10 st) (e12 : v 12 st' = v 12 st) : PR st' al hold := by
  refine ⟨fun n hn => ?_, h.2⟩
  rw [e12, refs_same e5 e9 e10]
  exact h.1 n hn
theorem SH_same {st st' : St} {al lk : Nat → Bool} (h : SH st al lk) (e5 : v 5 st' = v 5 st) (e8 : v 8 st' = v 8 st) (e9 : v 9 st' = v 9 st) (e10 : v 10 st' = v 10 st) : SH st' al lk := by
  unfold SH
  rw [e5, e8, e9, e10]
  exact h
/-- rows that the diagram's memory doesn't lie in -/
theorem BM_same {st st' : St} {al lk : Nat → Bool} (h : BM st al lk) (hN : NN st') (e5 : v 5 st' = v 5 st) (e6 : v 6 st' = v 6 st) (e7 : v 7 st' = v 7 st) (e8 : v 8 st' = v 8 st) (e9 : v 9 st' = v 9 st) (e10 : v 10 st' = v 10 st) (e11 : v 11 st' = v 11 st) (f0 : fv 0 st' = fv 0 st) (f1 : fv 1 st' = fv 1 st) : BM st' al lk := by
  obtain ⟨h1, h2, h3, h4, h6⟩ := h
  exact ⟨hN, CH_same h2 e7 e8 e9 e10 e11, FR_same h3 e11 f0, NC_same h4 e6 e8 f1, SH_same h6 e5 e8 e9 e10⟩
theorem isCh_head {nx : Nat → Nat} {l : List Nat} {a : Nat} (h : isCh nx a l) : a < 2560 := by
  cases l with
  | nil =>
    have : a = 0 := h
    omega
  | cons b t =>
    obtain ⟨h1, -, h2, -⟩ := h
    omega
/-- link -/
def LKr (st : St) (n : Nat) : St := sF 1 (sI 6 (sI 7 (sI 11 st (nI n) (nI (v 7 st (bk st n)))) (nI (bk st n)) (nI n)) (nI (v 8 st n)) (nI (v 6 st (v 8 st n) + 1))) (nI (fv 1 st + 1))
theorem lk_v {st : St} {n : Nat} (hn : n < 2560) (hl : v 8 st n < 10) (hb : bk st n < 640) (hc : v 6 st (v 8 st n) < 10000) (h7 : v 7 st (bk st n) < 2560) (r j : Nat) : v r (LKr st n) j = if r = 6 ∧ j = v 8 st n then v 6 st (v 8 st n) + 1 else if r = 7 ∧ j = bk st n then n else if r = 11 ∧ j = n then v 7 st (bk st n) else v r st j := by
  unfold LKr
  rw [v_sF, v_sI (by omega) (by omega), v_sI (by omega) (by omega), v_sI (by omega) (by omega)]
theorem lk_Fr (st : St) (n : Nat) : Fr [6, 7, 11] st (LKr st n) := by
  refine ⟨fun r hr => ?_, rfl⟩
  have h6 : r ≠ 6 := fun e => hr (by rw [e]; decide)
  have h7 : r ≠ 7 := fun e => hr (by rw [e]; decide)
  have h11 : r ≠ 11 := fun e => hr (by rw [e]; decide)
  unfold LKr sF sI
  show (if r = 6 then _ else _) = _
  rw [if_neg h6]
  show (if r = 7 then _ else _) = _
  rw [if_neg h7]
  show (if r = 11 then _ else _) = _
  rw [if_neg h11]
theorem lk_fld (st : St) (n k : Nat) (hk : k ≠ 1) : (LKr st n).2.2 k = st.2.2 k := if_neg hk
theorem link_ok {st : St} {al lk : Nat → Bool} {n : Nat} (B : BM st al lk) (hn : al n = true) (hk : lk n = false) : ∃ st', sX0_link st (nI n) = some st' ∧ BM st' al (setB lk n true) ∧ Fr [6, 7, 11] st st' ∧ ∀ k, k ≠ 1 → st'.2.2 k = st.2.2 k := by
  obtain ⟨hN, ⟨c, hc⟩, ⟨fl, hf1, hf2⟩, ⟨hc1, hc2⟩, hS⟩ := id B
  obtain ⟨g1, g2, g3, g4, g5⟩ := hS.2.1 n hn
  have hb : bk st n < 640 := bkn_lt g3 _ _
  have h6 : v 6 st (v 8 st n) < 10000 := by
    rw [hc1 _ g3]
    exact Nat.lt_of_le_of_lt (cnt_le _ _) (by omega)
  have h1 : fv 1 st < 10000 := by
    rw [hc2]
    exact Nat.lt_of_le_of_lt (cnt_le _ _) (by omega)
  have h7 : v 7 st (bk st n) < 2560 := isCh_head (hc _ hb).1
  have hV := lk_v g2 g3 hb h6 h7
  have hnl : ∀ b, b < 640 → n ∉ c b := fun b hb' hm => by
    have := ((hc b hb').2 n).mp hm
    rw [hk] at this
    exact absurd this.1 (by decide)
  have hnf : n ∉ fl := fun hm => by
    have := (hf2 n).mp hm
    rw [hn] at this
    exact absurd this.2.2 (by decide)
  have e5 : v 5 (LKr st n) = v 5 st := (lk_Fr st n).vE (by decide)
  have e8 : v 8 (LKr st n) = v 8 st := (lk_Fr st n).vE (by decide)
  have e9 : v 9 (LKr st n) = v 9 st := (lk_Fr st n).vE (by decide)
  have e10 : v 10 (LKr st n) = v 10 st := (lk_Fr st n).vE (by decide)
  have hbk : ∀ m, bk (LKr st n) m = bk st m := fun m => by unfold bk; rw [e8, e9, e10]
  have h11 : ∀ m, m ≠ n → v 11 (LKr st n) m = v 11 st m := fun m hm => by
    rw [hV, if_neg (by omega), if_neg (by omega), if_neg (fun z => hm z.2)]
  have hNN : NN (LKr st n) := NN_sF (NN_sI (NN_sI (NN_sI hN (by omega) (by omega)) (by omega) (by omega)) (by omega) (by omega)) (by omega)
  refine ⟨LKr st n, link_eq hN ⟨g1, g2⟩ g3 h6 h1 h7, ⟨hNN, ?_, ?_, ?_, ?_⟩, lk_Fr st n, lk_fld st n⟩
  · refine ⟨fun j => if j = bk st n then n :: c j else c j, fun j hj => ?_⟩
    dsimp only
    by_cases e : j = bk st n
    · subst e
      rw [if_pos rfl]
      have e7 : v 7 (LKr st n) (bk st n) = n := by rw [hV, if_neg (by omega), if_pos ⟨rfl, rfl⟩]
      refine ⟨⟨e7, g1, g2, ?_⟩, fun m => ?_⟩
      · have : v 11 (LKr st n) n = v 7 st (bk st n) := by rw [hV, if_neg (by omega), if_neg (by omega), if_pos ⟨rfl, rfl⟩]
        rw [this]
        exact isCh_same (hc _ hb).1 (fun m hm => h11 m (fun z => hnl _ hb (z ▸ hm)))
      · rw [List.mem_cons, (hc _ hb).2 m, hbk]
        by_cases em : m = n
        · subst em
          rw [setB_self]
          simp
        · rw [setB_ne _ _ em]
          simp [em]
    · rw [if_neg e]
      have e7 : v 7 (LKr st n) j = v 7 st j := by rw [hV, if_neg (by omega), if_neg (fun z => e z.2), if_neg (by omega)]
      rw [e7]
      refine ⟨isCh_same (hc j hj).1 (fun m hm => h11 m (fun z => hnl _ hj (z ▸ hm))), fun m => ?_⟩
      rw [(hc j hj).2 m, hbk]
      by_cases em : m = n
      · subst em
        rw [setB_self, hk]
        simp
        exact fun z => e z.symm
      · rw [setB_ne _ _ em]
  · refine ⟨fl, ?_, hf2⟩
    have : fv 0 (LKr st n) = fv 0 st := by unfold fv; rw [lk_fld st n 0 (by decide)]
    rw [this]
    exact isCh_same hf1 (fun m hm => h11 m (fun z => hnf (z ▸ hm)))
  · constructor
    · intro l hl
      rw [hV]
      by_cases e : l = v 8 st n
      · subst e
        rw [if_pos ⟨rfl, rfl⟩, hc1 _ g3, e8]
        refine (cnt_add (i := n) g2 ?_ ?_ (fun j _ hj => ?_)).symm
        · rw [hk]
          rfl
        · rw [setB_self]
          simp
        · rw [setB_ne _ _ hj]
      · rw [if_neg (fun z => e z.2), if_neg (by omega), if_neg (by omega), hc1 l hl, e8]
        refine cnt_congr (fun j _ => ?_)
        by_cases ej : j = n
        · subst ej
          rw [setB_self, hk]
          simp
          exact fun z => e z.symm
        · rw [setB_ne _ _ ej]
    · have : fv 1 (LKr st n) = fv 1 st + 1 := by
        unfold LKr
        rw [fv_sF (by omega), if_pos rfl]
      rw [this, hc2]
      refine (cnt_add (i := n) g2 hk (setB_self _ _ _) (fun j _ hj => (setB_ne _ _ hj).symm)).symm
  · refine ⟨fun m hm => ?_, by rw [e8, e9, e10]; exact hS.2.1, by rw [e5]; exact hS.2.2⟩
    by_cases em : m = n
    · rw [em]
      exact hn
    · rw [setB_ne _ _ em] at hm
      exact hS.1 m hm
/-- point -/
def addH (h : Nat → Nat) (n : Nat) : Nat → Nat := fun m => if m = n then h m + 1 else h m
def subH (h : Nat → Nat) (n : Nat) : Nat → Nat := fun m => if m = n then h m - 1 else h m
theorem addH_self (h : Nat → Nat) (n : Nat) : addH h n n = h n + 1 := if_pos rfl
theorem addH_ne (h : Nat → Nat) {n m : Nat} (e : m ≠ n) : addH h n m = h m := if_neg e
theorem subH_self (h : Nat → Nat) (n : Nat) : subH h n n = h n - 1 := if_pos rfl
theorem subH_ne (h : Nat → Nat) {n m : Nat} (e : m ≠ n) : subH h n m = h m := if_neg e
theorem point_ok {st : St} {n : Nat} (hN : NN st) (hn : n < 2560) (hx : v 12 st n < 100000) : ∃ st', sX0_point st (nI n) = some st' ∧ NN st' ∧ Fr [12] st st' ∧ st'.2.2 = st.2.2 ∧ ∀ m, v 12 st' m = if m = n ∧ 2 ≤ n then v 12 st n + 1 else v 12 st m := by
  unfold sX0_point
  rw [isNode_ok st (by omega), ob_s]
  by_cases h2 : n < 2
  · rw [if_neg (by omega : ¬ (2 ≤ n ∧ n < 2560)), if_pos (by decide)]
    exact ⟨st, rfl, hN, Fr.refl _ _, rfl, fun m => by rw [if_neg (by omega)]⟩
  · rw [if_pos (show 2 ≤ n ∧ n < 2560 by omega), if_neg nI1_ne, gd_in (by omega) (by omega), gd_in (by omega) (by omega), gI_v hN (by decide) (by omega), n_1, nI_addE, lt_e]
    refine ⟨_, rfl, NN_sI hN (by omega) (by omega), Fr_sI st 12 (nI n) (nI (v 12 st n + 1)), rfl, fun m => ?_⟩
    rw [v_sI (by omega) (by omega)]
    by_cases e : m = n
    · rw [if_pos ⟨rfl, e⟩, if_pos ⟨e, by omega⟩]
    · rw [if_neg (fun z => e z.2), if_neg (fun z => e z.1)]
theorem BM_12 {st st' : St} {al lk : Nat → Bool} (h : BM st al lk) (hN : NN st') (F : Fr [12] st st') (f : st'.2.2 = st.2.2) : BM st' al lk :=
  BM_same h hN (F.vE (by decide)) (F.vE (by decide)) (F.vE (by decide)) (F.vE (by decide)) (F.vE (by decide)) (F.vE (by decide)) (F.vE (by decide)) (by unfold fv; rw [f]) (by unfold fv; rw [f])
/-- a node cut out of a chain -/
def lastD : Nat → List Nat → Nat
  | p, [] => p
  | _, q :: s => lastD q s
theorem lastD_mem : ∀ (s : List Nat) (p : Nat), lastD p s ∈ p :: s
  | [], _ => List.mem_cons_self
  | q :: s, _ => List.mem_cons_of_mem _ (lastD_mem s q)
theorem isCh_cut {nx ny : Nat → Nat} {n : Nat} {t : List Nat} : ∀ (s : List Nat) (p a : Nat), isCh nx a (p :: (s ++ n :: t)) → (p :: (s ++ n :: t)).Nodup → (∀ m, m ≠ lastD p s → ny m = nx m) → ny (lastD p s) = nx n → isCh ny a (p :: (s ++ t))
  | [], p, a, h, hd, e1, e2 => by
    obtain ⟨h1, h2, h3, h4, h5, h6, h7⟩ := h
    refine ⟨h1, h2, h3, ?_⟩
    have e2' : ny p = nx n := e2
    rw [e2']
    refine isCh_same h7 (fun m hm => e1 m (fun z => ?_))
    have z' : m = p := z
    subst z'
    exact (List.nodup_cons.mp hd).1 (List.mem_cons_of_mem _ hm)
  | q :: s, p, a, h, hd, e1, e2 => by
    obtain ⟨h1, h2, h3, h4⟩ := h
    obtain ⟨d1, d2⟩ := List.nodup_cons.mp hd
    refine ⟨h1, h2, h3, ?_⟩
    have hp : p ≠ lastD q s := fun z => d1 (by
      have := lastD_mem s q
      rw [← z] at this
      rcases List.mem_cons.mp this with r | r
      · exact List.mem_append_left _ (r ▸ List.mem_cons_self)
      · exact List.mem_append_left _ (List.mem_cons_of_mem _ r))
    rw [e1 p hp]
    exact isCh_cut s q (nx p) h4 d2 e1 e2
theorem unlink_L {n : Nat} {t : List Nat} : ∀ (s : List Nat) (p k fu : Nat) (st : St), NN st → isCh (v 11 st) p (p :: (s ++ n :: t)) → n ∉ p :: s → k + s.length + 1 < 2560 → s.length + 2 < fu → 2 ≤ n → n < 2560 → sX0_unlink_L69 fu st (nI n) (nI p) (nI k) = some (sI 11 st (nI (lastD p s)) (nI (v 11 st n)))
  | [], p, k, fu, st, hN, h, hn, hk, hfu, n1, n2 => by
    obtain ⟨fu, rfl⟩ : ∃ m, fu = m + 2 := ⟨fu - 2, by omega⟩
    obtain ⟨h1, h2, h3, h4, h5, h6, h7⟩ := h
    have hpn : p ≠ n := fun z => hn (z ▸ List.mem_cons_self)
    have hk0 : k + 1 < 2560 := hk
    have e1 : ¬ (2560 : Int32) ≤ nI k := by
      rw [n_2560, nI_leE (by omega) (by omega)]
      omega
    have e2 : ¬ (2560 : Int32) ≤ nI (k + 1) := by
      rw [n_2560, nI_leE (by omega) (by omega)]
      omega
    rw [sX0_unlink_L69, if_neg e1, isNode_ok st (by omega), if_pos (show 2 ≤ p ∧ p < 2560 from ⟨h2, h3⟩), ob_s, if_neg nI1_ne, if_neg (by rw [nI_eqE (by omega) (by omega)]; exact hpn), gd_in (by omega) (by omega), gI_v hN (by decide) (by omega), h4, lt_e, if_neg (fun z => z rfl), gd_in n2 (by omega), gd_in (by omega) (by omega), gI_v hN (by decide) (by omega), lt_e, nI_add1, lt_e, sX0_unlink_L69, if_neg e2, isNode_ok _ (by omega), if_pos (show 2 ≤ n ∧ n < 2560 from ⟨n1, n2⟩), ob_s, if_neg nI1_ne, if_pos rfl]
    rfl
  | q :: s, p, k, fu, st, hN, h, hn, hk, hfu, n1, n2 => by
    obtain ⟨fu, rfl⟩ : ∃ m, fu = m + 1 := ⟨fu - 1, by omega⟩
    obtain ⟨h1, h2, h3, h4⟩ := h
    have hq : v 11 st p = q := h4.1
    have hpn : p ≠ n := fun z => hn (z ▸ List.mem_cons_self)
    have hqn : q ≠ n := fun z => hn (z ▸ List.mem_cons_of_mem _ List.mem_cons_self)
    have hq2 := h4.2.2.1
    simp only [List.length_cons] at hk hfu
    have e1 : ¬ (2560 : Int32) ≤ nI k := by
      rw [n_2560, nI_leE (by omega) (by omega)]
      omega
    rw [sX0_unlink_L69, if_neg e1, isNode_ok st (by omega), if_pos (show 2 ≤ p ∧ p < 2560 from ⟨h2, h3⟩), ob_s, if_neg nI1_ne, if_neg (by rw [nI_eqE (by omega) (by omega)]; exact hpn), gd_in (by omega) (by omega), gI_v hN (by decide) (by omega), hq, lt_e, if_pos (by rw [nI_eqE (by omega) (by omega)]; exact hqn), nI_add1, lt_e]
    rw [hq] at h4
    exact unlink_L s q (k + 1) fu st hN h4 (fun z => hn (List.mem_cons_of_mem _ z)) (by omega) (by omega) n1 n2
