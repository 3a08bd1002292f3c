/-! drop: a node loses a pointer; it is freed with all that nothing else points to -/
def lv8 (st : St) (c : Nat) : Nat := lvl (v 8 st) c
/-- children of linked nodes, from a level on, lie deeper; what isn't linked lies at that level -/
def DM (st : St) (al lk : Nat → Bool) (u : Nat) : Prop := (∀ n, lk n = true → u ≤ v 8 st n → v 8 st n < lv8 st (v 9 st n) ∧ v 8 st n < lv8 st (v 10 st n) ∧ v 9 st n ≠ v 10 st n) ∧ ∀ n, al n = true → lk n = false → v 8 st n = u
theorem DM_same {st st' : St} {al al' lk lk' : Nat → Bool} {u : Nat} (h : DM st al lk u) (e8 : v 8 st' = v 8 st) (e9 : v 9 st' = v 9 st) (e10 : v 10 st' = v 10 st) (h1 : ∀ n, lk' n = true → lk n = true) (h2 : ∀ n, al' n = true → lk' n = false → al n = true ∧ lk n = false) : DM st' al' lk' u := by
  unfold DM lv8
  rw [e8, e9, e10]
  exact ⟨fun n hn => h.1 n (h1 n hn), fun n ha hl => h.2 n (h2 n ha hl).1 (h2 n ha hl).2⟩
def dropP (st st' : St) (al lk al' lk' : Nat → Bool) (hold : Nat → Nat) (n : Nat) : Prop :=
  BI st' al' lk' (subH hold n) ∧ (∀ m, al' m = true → al m = true ∧ lk' m = lk m) ∧ (∀ m, al m = true → al' m = false → lk m = true ∧ lv8 st n ≤ v 8 st m) ∧ (∀ m, al m = true → 0 < subH hold n m → al' m = true) ∧ (∀ m, al' m = true → 0 < v 12 st m → 0 < v 12 st' m) ∧ Fr [6, 7, 11, 12] st st' ∧ (∀ k, k ≠ 0 → k ≠ 1 → st'.2.2 k = st.2.2 k) ∧ (n < 2 ∨ 2 ≤ v 12 st n → al' = al ∧ lk' = lk)
theorem cnt_gone {al : Nat → Bool} {f : Nat} {w : Nat → Nat} {n : Nat} (hf : f < 2560) (hal : al f = true) : cnt 2560 (fun m => al m && (w m == n)) = cnt 2560 (fun m => setB al f false m && (w m == n)) + (if w f = n then 1 else 0) := by
  by_cases e : w f = n
  · rw [if_pos e]
    refine cnt_add (i := f) hf (by rw [setB_self]; rfl) (by rw [hal]; simp [e]) (fun j _ hj => ?_)
    rw [setB_ne _ _ hj]
  · rw [if_neg e, Nat.add_zero]
    refine cnt_congr (fun j _ => ?_)
    by_cases ej : j = f
    · subst ej
      rw [setB_self, hal]
      simp [e]
    · rw [setB_ne _ _ ej]
theorem cnt_none {N : Nat} {p : Nat → Bool} (h : cnt N p = 0) {i : Nat} (hi : i < N) : p i = false := by
  cases q : p i
  · rfl
  · have := cnt_pos hi q
    omega
theorem drop_ok (u : Nat) : ∀ (fu d n : Nat) (st : St) (al lk : Nat → Bool) (hold : Nat → Nat), BI st al lk hold → DM st al lk u → (n < 2 ∨ (lk n = true ∧ u ≤ v 8 st n)) → (2 ≤ n → 1 ≤ hold n) → (∀ m, hold m + fu ≤ 60) → d ≤ lv8 st n → 12 ≤ fu + d → ∃ st' al' lk', sX0_drop fu st (nI n) (nI d) = some st' ∧ dropP st st' al lk al' lk' hold n := by
  intro fu
  induction fu with
  | zero =>
    intro d n st al lk hold B _ hn _ _ hd hfu
    have : lv8 st n ≤ 10 := by
      unfold lv8 lvl
      rcases hn with q | q
      · rw [if_pos q]; exact Nat.le_refl _
      · split
        · exact Nat.le_refl _
        · have := (B.1.2.2.2.2.2.1 n (B.1.2.2.2.2.1 n q.1)).2.2.1
          omega
    omega
  | succ fu ih =>
    intro d n st al lk hold B hM hn hh hB hd hfu
    obtain ⟨hBM, hP⟩ := id B
    obtain ⟨hN, hC, hF, hNC, hS⟩ := id hBM
    by_cases h2 : n < 2
    · refine ⟨st, al, lk, ?_, ⟨hBM, fun m hm => ?_, fun m => ?_⟩, fun m hm => ⟨hm, rfl⟩, fun m h1 h3 => ?_, fun m hm _ => hm, fun m _ h => h, Fr.refl _ _, fun _ _ _ => rfl, fun _ => ⟨rfl, rfl⟩⟩
      · rw [sX0_drop, isNode_ok st (by omega), if_neg (by omega)]
        rfl
      · rw [subH_ne _ (fun e => by have := (hS.2.1 m hm).1; omega)]
        exact hP.1 m hm
      · have := hP.2 m
        unfold subH
        split <;> omega
      · rw [h1] at h3; cases h3
    · obtain ⟨hl, hu⟩ := hn.resolve_left h2
      have hal := hS.1 n hl
      obtain ⟨g1, g2, g3, g4, g5⟩ := hS.2.1 n hal
      have hlv : lv8 st n = v 8 st n := by unfold lv8 lvl; rw [if_neg h2]
      have hp := hP.1 n hal
      have hr := refs_le st al n
      have hn1 := hh (by omega)
      have hn2 := hP.2 n
      have hpos : 1 ≤ v 12 st n := by omega
      have hx : v 12 st n - 1 < 2147483648 := by omega
      have N5 := NN_sI (r := 12) hN (i := n) (x := v 12 st n - 1) (by omega) hx
      have F5 := Fr_sI st 12 (nI n) (nI (v 12 st n - 1))
      have p5 : ∀ m, v 12 (sI 12 st (nI n) (nI (v 12 st n - 1))) m = if m = n then v 12 st n - 1 else v 12 st m := fun m => by
        rw [v_sI (by omega) hx]
        by_cases e : m = n
        · rw [if_pos ⟨rfl, e⟩, if_pos e]
        · rw [if_neg (fun z => e z.2), if_neg e]
      have B5 : BM (sI 12 st (nI n) (nI (v 12 st n - 1))) al lk := BM_12 hBM N5 F5 rfl
      generalize hs5 : sI 12 st (nI n) (nI (v 12 st n - 1)) = s5 at N5 F5 p5 B5
      have pre : sX0_drop (fu + 1) st (nI n) (nI d) = if nI (v 12 s5 n) ≤ 0 then (ob (sX0_unlink s5 (nI n)) fun st_7 => gd (nI n) 2560 <| lt (sI 11 st_7 (nI n) (gF 0 st_7)) fun st_9 => lt (sF 0 st_9 (nI n)) fun st_10 => gd (nI n) 2560 <| ob (sX0_drop fu st_10 (gI 9 st_10 (nI n)) (nI d + (1 : Int32))) fun st_11 => gd (nI n) 2560 <| ob (sX0_drop fu st_11 (gI 10 st_11 (nI n)) (nI d + (1 : Int32))) fun st_13 => some st_13) else some s5 := by
        rw [sX0_drop, isNode_ok st (by omega), if_pos (show 2 ≤ n ∧ n < 2560 from ⟨g1, g2⟩), ob_s, if_neg nI1_ne, if_pos (show nI d ≤ (10 : Int32) by rw [n_10, nI_leE (by omega) (by omega)]; omega), gd_in g2 (by omega), gd_in g2 (by omega), gI_v hN (by decide) (by omega), show nI (v 12 st n) - (1 : Int32) = nI (v 12 st n - 1) by rw [n_1, nI_subE hpos], lt_e, hs5, gd_in g2 (by omega), gI_v N5 (by decide) (by omega)]
      rw [pre, p5, if_pos rfl]
      have z5 : ∀ x, x < 100000 → ((nI x ≤ 0) ↔ x = 0) := fun x hx => by
        rw [n_0, nI_leE (by omega) (by omega)]
        omega
      by_cases hz : v 12 st n - 1 = 0
      · rw [if_pos ((z5 _ (by omega)).mpr hz)]
        have r0 : refs st al n = 0 := by omega
        have h1' : hold n = 1 := by omega
        obtain ⟨s7, e7, B7, F7, k7⟩ := unlink_ok B5 hl
        have x0 := fv_lt 0 s7
        have hNN7 := B7.1
        have F75 : Fr [6, 7, 11, 12] st s7 := (F5.mono (by intro r hr; simp at hr ⊢; omega)).trans (F7.mono (by intro r hr; simp at hr ⊢; omega))
        -- the node is put ahead of the free ones
        generalize hs10 : sF 0 (sI 11 s7 (nI n) (nI (fv 0 s7))) (nI n) = s10
        have N10 : NN s10 := by rw [← hs10]; exact NN_sF (NN_sI hNN7 (by omega) x0) (by omega)
        have F10 : Fr [11] s7 s10 := by rw [← hs10]; exact ⟨fun r hr => (Fr_sI s7 11 _ _).1 r hr, rfl⟩
        have FA : Fr [6, 7, 11, 12] st s10 := F75.trans (F10.mono (by intro r hr; simp at hr ⊢; omega))
        have v11 : ∀ m, v 11 s10 m = if m = n then fv 0 s7 else v 11 s7 m := fun m => by
          rw [← hs10, v_sF, v_sI (by omega) x0]
          by_cases e : m = n
          · rw [if_pos ⟨rfl, e⟩, if_pos e]
          · rw [if_neg (fun z => e z.2), if_neg e]
        have f0 : fv 0 s10 = n := by rw [← hs10, fv_sF (by omega), if_pos rfl]
        have fk : ∀ k, k ≠ 0 → s10.2.2 k = s7.2.2 k := fun k hk => by rw [← hs10]; exact if_neg hk
        have a5 : v 5 s10 = v 5 st := FA.vE (by decide)
        have a8 : v 8 s10 = v 8 st := FA.vE (by decide)
        have a9 : v 9 s10 = v 9 st := FA.vE (by decide)
        have a10 : v 10 s10 = v 10 st := FA.vE (by decide)
        have b8 : v 8 s7 = v 8 st := F75.vE (by decide)
        have b9 : v 9 s7 = v 9 st := F75.vE (by decide)
        have b10 : v 10 s7 = v 10 st := F75.vE (by decide)
        have b5 : v 5 s7 = v 5 st := F75.vE (by decide)
        -- nothing points to it
        have nl : ∀ m, al m = true → v 9 st m ≠ n := fun m hm e => by
          have h := cnt_none (p := fun m => al m && (v 9 st m == n)) (by unfold refs at r0; omega) ((hS.2.1 m hm).2.1)
          simp [hm, e] at h
        have nh : ∀ m, al m = true → v 10 st m ≠ n := fun m hm e => by
          have h := cnt_none (p := fun m => al m && (v 10 st m == n)) (by unfold refs at r0; omega) ((hS.2.1 m hm).2.1)
          simp [hm, e] at h
        have nr : ∀ s, s < 12 → v 5 st s ≠ n := fun s hs e => by
          have h := cnt_none (p := fun s => v 5 st s == n) (by unfold refs at r0; omega) hs
          simp [e] at h
        have chs : ∀ c, ch al c → c ≠ n → ch (setB al n false) c := fun c hc hne => by
          rcases hc with q | q
          · exact Or.inl q
          · exact Or.inr (by rw [setB_ne _ _ hne]; exact q)
        obtain ⟨-, ⟨c7, hc7⟩, ⟨fl, hf1, hf2⟩, ⟨hn1', hn2'⟩, hS7⟩ := id B7
        have nlk : setB lk n false n = false := setB_self _ _ _
        have B10 : BM s10 (setB al n false) (setB lk n false) := by
          refine ⟨N10, ⟨c7, fun b hb => ?_⟩, ⟨n :: fl, ⟨f0, g1, g2, ?_⟩, fun m => ?_⟩, ⟨fun l' hl' => ?_, ?_⟩, fun m hm => ?_, fun m hm => ?_, fun s hs => ?_⟩
          · rw [F10.vE (r := 7) (by decide)]
            refine ⟨isCh_same (hc7 b hb).1 (fun m hm => ?_), fun m => ?_⟩
            · rw [v11, if_neg]
              intro e
              have := (((hc7 b hb).2 m).mp hm).1
              rw [e, nlk] at this
              cases this
            · rw [(hc7 b hb).2 m]
              unfold bk
              rw [F10.vE (r := 8) (by decide), F10.vE (r := 9) (by decide), F10.vE (r := 10) (by decide)]
          · rw [v11, if_pos rfl]
            refine isCh_same hf1 (fun m hm => ?_)
            rw [v11, if_neg]
            intro e
            have := ((hf2 m).mp hm).2.2
            rw [e, hal] at this
            cases this
          · rw [List.mem_cons, hf2 m]
            by_cases e : m = n
            · subst e
              rw [setB_self]
              simp [g1, g2]
            · rw [setB_ne _ _ e]
              simp [e]
          · rw [F10.vE (r := 6) (by decide), F10.vE (r := 8) (by decide)]
            exact hn1' l' hl'
          · have : fv 1 s10 = fv 1 s7 := by unfold fv; rw [fk 1 (by decide)]
            rw [this]
            exact hn2'
          · by_cases e : m = n
            · rw [e, setB_self] at hm; cases hm
            · rw [setB_ne _ _ e] at hm ⊢
              exact hS.1 m hm
          · have e : m ≠ n := fun e => by rw [e, setB_self] at hm; cases hm
            rw [setB_ne _ _ e] at hm
            obtain ⟨q1, q2, q3, q4, q5⟩ := hS.2.1 m hm
            rw [a8, a9, a10]
            exact ⟨q1, q2, q3, chs _ q4 (nl m hm), chs _ q5 (nh m hm)⟩
          · rw [a5]
            exact chs _ (hS.2.2 s hs) (nr s hs)
        obtain ⟨m1, m2, m3⟩ := hM.1 n hl hu
        have p10 : ∀ m, m ≠ n → v 12 s10 m = v 12 st m := fun m hm => by
          rw [F10.vE (r := 12) (by decide), F7.vE (r := 12) (by decide), p5, if_neg hm]
        have P10 : PR s10 (setB al n false) (addH (addH (newH hold n) (v 9 st n)) (v 10 st n)) := by
          refine ⟨fun m hm => ?_, fun m => ?_⟩
          · have e : m ≠ n := fun e => by rw [e, setB_self] at hm; cases hm
            rw [setB_ne _ _ e] at hm
            have E : refs st al m = refs s10 (setB al n false) m + (if v 9 st n = m then 1 else 0) + (if v 10 st n = m then 1 else 0) := by
              unfold refs
              rw [a5, a9, a10, cnt_gone (al := al) (w := v 9 st) g2 hal, cnt_gone (al := al) (w := v 10 st) g2 hal]
              omega
            have hpm := hP.1 m hm
            have hnw : newH hold n m = hold m := if_neg e
            rw [p10 m e, hpm, E]
            unfold addH
            by_cases c1 : m = v 10 st n
            · have c2 : ¬ m = v 9 st n := fun z => m3 (z.symm.trans c1)
              rw [if_pos c1, if_neg c2, hnw, if_pos (show v 10 st n = m from c1.symm), if_neg (show ¬ v 9 st n = m from fun z => c2 z.symm)]
              omega
            · rw [if_neg c1, if_neg (show ¬ v 10 st n = m from fun z => c1 z.symm)]
              by_cases c2 : m = v 9 st n
              · rw [if_pos c2, if_pos (show v 9 st n = m from c2.symm), hnw]
                omega
              · rw [if_neg c2, if_neg (show ¬ v 9 st n = m from fun z => c2 z.symm), hnw]
                omega
          · have := hB m
            unfold addH newH
            split <;> split <;> split <;> omega
        have DM10 : DM s10 (setB al n false) (setB lk n false) u := DM_same hM a8 a9 a10 (fun m hm => by
          by_cases e : m = n
          · rw [e, setB_self] at hm; cases hm
          · rwa [setB_ne _ _ e] at hm) (fun m h1 h3 => by
          by_cases e : m = n
          · rw [e, setB_self] at h1; cases h1
          · rw [setB_ne _ _ e] at h1 h3
            exact ⟨h1, h3⟩)
        have kid : ∀ c, ch al c → v 8 st n < lv8 st c → c < 2 ∨ (setB lk n false c = true ∧ u ≤ v 8 s10 c) := fun c hc hlt => by
          by_cases q : c < 2
          · exact Or.inl q
          · have qa := hc.resolve_left q
            have q8 : lv8 st c = v 8 st c := by unfold lv8 lvl; rw [if_neg q]
            rw [q8] at hlt
            have qn : c ≠ n := fun z => by rw [z] at hlt; omega
            refine Or.inr ⟨?_, by rw [a8]; omega⟩
            rw [setB_ne _ _ qn]
            cases ql : lk c
            · have := hM.2 c qa ql
              omega
            · rfl
        have lv10 : ∀ c, lv8 s10 c = lv8 st c := fun c => by unfold lv8; rw [a8]
        obtain ⟨s11, al1, lk1, e11, B11, w1, w2, w3, w4, F11, w5, -⟩ := ih (d + 1) (v 9 st n) s10 (setB al n false) (setB lk n false) (addH (addH (newH hold n) (v 9 st n)) (v 10 st n)) ⟨B10, P10⟩ DM10 (kid _ g4 m1) (fun _ => by rw [addH_ne _ m3, addH_self]; omega) (fun m => by
          have := hB m
          unfold addH newH
          by_cases c1 : m = v 10 st n
          · have c2 : ¬ m = v 9 st n := fun z => m3 (z.symm.trans c1)
            rw [if_pos c1, if_neg c2]
            split <;> omega
          · rw [if_neg c1]
            split <;> split <;> omega) (by rw [lv10]; omega) (by omega)
        have c8 : v 8 s11 = v 8 st := (F11.vE (by decide)).trans a8
        have c9 : v 9 s11 = v 9 st := (F11.vE (by decide)).trans a9
        have c10 : v 10 s11 = v 10 st := (F11.vE (by decide)).trans a10
        have DM11 : DM s11 al1 lk1 u := DM_same DM10 (F11.vE (by decide)) (F11.vE (by decide)) (F11.vE (by decide)) (fun m hm => by
          have q := w1 m (B11.1.2.2.2.2.1 m hm)
          rw [← q.2]; exact hm) (fun m h1 h3 => ⟨(w1 m h1).1, by rw [← (w1 m h1).2]; exact h3⟩)
        have hhi : 2 ≤ v 10 st n → subH (addH (addH (newH hold n) (v 9 st n)) (v 10 st n)) (v 9 st n) (v 10 st n) = newH hold n (v 10 st n) + 1 := fun _ => by
          rw [subH_ne _ (Ne.symm m3), addH_self, addH_ne _ (Ne.symm m3)]
        have kid2 : v 10 st n < 2 ∨ (lk1 (v 10 st n) = true ∧ u ≤ v 8 s11 (v 10 st n)) := by
          rcases kid _ g5 m2 with q | q
          · exact Or.inl q
          · by_cases q2 : v 10 st n < 2
            · exact Or.inl q2
            · have qa := B10.2.2.2.2.1 _ q.1
              have qb := w3 _ qa (by rw [hhi (by omega)]; omega)
              refine Or.inr ⟨by rw [(w1 _ qb).2]; exact q.1, by rw [c8, ← a8]; exact q.2⟩
        obtain ⟨s13, al2, lk2, e13, B13, y1, y2, y3, y4, F13, y5, -⟩ := ih (d + 1) (v 10 st n) s11 al1 lk1 (subH (addH (addH (newH hold n) (v 9 st n)) (v 10 st n)) (v 9 st n)) B11 DM11 kid2 (fun q => by rw [hhi q]; omega) (fun m => by
          have := hB m
          unfold subH addH newH
          by_cases c1 : m = v 10 st n
          · have c2 : ¬ m = v 9 st n := fun z => m3 (z.symm.trans c1)
            rw [if_neg c2, if_pos c1, if_neg c2]
            split <;> omega
          · rw [if_neg c1]
            split <;> split <;> omega) (by
          have : lv8 s11 (v 10 st n) = lv8 st (v 10 st n) := by unfold lv8; rw [c8]
          rw [this]
          omega) (by omega)
        have hfin : subH (subH (addH (addH (newH hold n) (v 9 st n)) (v 10 st n)) (v 9 st n)) (v 10 st n) = subH hold n := by
          funext m
          unfold subH addH newH
          by_cases c1 : m = v 10 st n
          · have c2 : ¬ m = v 9 st n := fun z => m3 (z.symm.trans c1)
            rw [if_pos c1, if_neg c2, if_pos c1, if_neg c2]
            by_cases c3 : m = n
            · rw [if_pos c3, if_pos c3, c3]; omega
            · rw [if_neg c3, if_neg c3]; omega
          · rw [if_neg c1, if_neg c1]
            by_cases c2 : m = v 9 st n
            · rw [if_pos c2, if_pos c2]
              by_cases c3 : m = n
              · rw [if_pos c3, if_pos c3, c3]; omega
              · rw [if_neg c3, if_neg c3]; omega
            · rw [if_neg c2, if_neg c2]
              by_cases c3 : m = n
              · rw [if_pos c3, if_pos c3, c3]; omega
              · rw [if_neg c3, if_neg c3]
        rw [hfin] at B13
        have FB : Fr [6, 7, 11, 12] st s13 := FA.trans (F11.trans F13)
        refine ⟨s13, al2, lk2, ?_, B13, fun m hm => ?_, fun m h1 h3 => ?_, fun m h1 h3 => ?_, fun m hm h3 => ?_, FB, fun k k0 k1 => ?_, fun z => by omega⟩
        · rw [e7, ob_s, gd_in g2 (by omega), gF_v hNN7, lt_e, lt_e, hs10, gd_in g2 (by omega), gI_v N10 (by decide) (by omega), a9, nI_add1, e11, ob_s, gd_in g2 (by omega), gI_v B11.1.1 (by decide) (by omega), c10, e13, ob_s]
        · obtain ⟨q1, q2⟩ := y1 m hm
          obtain ⟨q3, q4⟩ := w1 m q1
          have e : m ≠ n := fun e => by rw [e, setB_self] at q3; cases q3
          rw [setB_ne _ _ e] at q3 q4
          exact ⟨q3, q2.trans q4⟩
        · rw [hlv]
          by_cases e : m = n
          · rw [e]
            exact ⟨hl, Nat.le_refl _⟩
          · have q1 : setB al n false m = true := by rw [setB_ne _ _ e]; exact h1
            cases q2 : al1 m
            · obtain ⟨q3, q4⟩ := w2 m q1 q2
              rw [setB_ne _ _ e] at q3
              rw [a8, lv10] at q4
              exact ⟨q3, by omega⟩
            · obtain ⟨q3, q4⟩ := y2 m q2 h3
              have q5 := (w1 m q2).2
              rw [setB_ne _ _ e] at q5
              have q6 : lv8 s11 (v 10 st n) = lv8 st (v 10 st n) := by unfold lv8; rw [c8]
              rw [c8, q6] at q4
              exact ⟨q5 ▸ q3, by omega⟩
        · have e : m ≠ n := fun e => by
            rw [e, subH_self, h1'] at h3
            omega
          have h3' : 0 < hold m := by rwa [subH_ne _ e] at h3
          have q1 : setB al n false m = true := by rw [setB_ne _ _ e]; exact h1
          have q2 : al1 m = true := w3 m q1 (by
            unfold subH addH newH
            by_cases c1 : m = v 10 st n
            · have c2 : ¬ m = v 9 st n := fun z => m3 (z.symm.trans c1)
              rw [if_neg c2, if_pos c1, if_neg c2, if_neg e]; omega
            · rw [if_neg c1]
              by_cases c2 : m = v 9 st n
              · rw [if_pos c2, if_pos c2, if_neg e]; omega
              · rw [if_neg c2, if_neg c2, if_neg e]; omega)
          exact y3 m q2 (by rw [hfin, subH_ne _ e]; exact h3')
        · obtain ⟨q1, -⟩ := y1 m hm
          obtain ⟨q3, -⟩ := w1 m q1
          have e : m ≠ n := fun e => by rw [e, setB_self] at q3; cases q3
          exact y4 m hm (w4 m q1 (by rw [p10 m e]; exact h3))
        · rw [y5 k k0 k1, w5 k k0 k1, fk k k0, k7 k k1, ← hs5]
          rfl
      · rw [if_neg (fun z => hz ((z5 _ (by omega)).mp z))]
        refine ⟨s5, al, lk, rfl, ⟨B5, fun m hm => ?_, fun m => ?_⟩, fun m hm => ⟨hm, rfl⟩, fun m h1 h3 => ?_, fun m hm _ => hm, fun m hm h3 => ?_, F5.mono (by intro r hr; simp at hr ⊢; omega), fun k _ _ => by rw [← hs5]; rfl, fun _ => ⟨rfl, rfl⟩⟩
        · rw [refs_same (F5.vE (by decide)) (F5.vE (by decide)) (F5.vE (by decide)), p5]
          by_cases e : m = n
          · subst e
            rw [if_pos rfl, subH_self, hp]
            omega
          · rw [if_neg e, subH_ne _ e]
            exact hP.1 m hm
        · have := hP.2 m
          unfold subH
          split <;> omega
        · rw [h1] at h3; cases h3
        · rw [p5]
          split
          · omega
          · exact h3
