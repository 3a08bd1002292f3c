/-! make -/
theorem obS_r {α γ β : Type} (c : γ) (f : α → Option β) (g : γ → Option β) : obS (some (.inr c)) f g = g c := rfl
theorem obS_l {α γ β : Type} (a : α) (f : α → Option β) (g : γ → Option β) : obS (some (.inl a)) f g = f a := rfl
theorem make_L {l lo hi : Nat} (hlo : lo < 2147483648) (hhi : hi < 2147483648) : ∀ (t : List Nat) (a k fu : Nat) (st : St), NN st → isCh (v 11 st) a t → k + t.length ≤ 2558 → t.length < fu →
    (∃ m, m ∈ t ∧ v 9 st m = lo ∧ v 10 st m = hi ∧ sX0_make_L30 fu st (nI l) (nI lo) (nI hi) (nI a) (nI k) = some (.inl (nI m, st))) ∨ ((∀ m, m ∈ t → ¬ (v 9 st m = lo ∧ v 10 st m = hi)) ∧ sX0_make_L30 fu st (nI l) (nI lo) (nI hi) (nI a) (nI k) = some (.inr ()))
  | [], a, k, fu, st, hN, h, hk, hfu => by
    obtain ⟨fu, rfl⟩ : ∃ m, fu = m + 1 := ⟨fu - 1, by simp at hfu; omega⟩
    have ha : a = 0 := h
    subst ha
    refine Or.inr ⟨fun m hm => absurd hm List.not_mem_nil, ?_⟩
    have e1 : ¬ (2560 : Int32) ≤ nI k := by
      have hk0 : k ≤ 2558 := hk
      rw [n_2560, nI_leE (by omega) (by omega)]
      omega
    rw [sX0_make_L30, if_neg e1, isNode_ok st (by omega), if_neg (by omega)]
    rfl
  | b :: t, a, k, fu, st, hN, h, hk, hfu => by
    obtain ⟨fu, rfl⟩ : ∃ m, fu = m + 1 := ⟨fu - 1, by simp at hfu; omega⟩
    obtain ⟨h1, h2, h3, h4⟩ := h
    subst h1
    simp only [List.length_cons] at hk hfu
    have e1 : ¬ (2560 : Int32) ≤ nI k := by
      rw [n_2560, nI_leE (by omega) (by omega)]
      omega
    have x9 := v_lt 9 st a
    have x10 := v_lt 10 st a
    have red : sX0_make_L30 (fu + 1) st (nI l) (nI lo) (nI hi) (nI a) (nI k) = if ¬ nI (v 9 st a) = nI lo then sX0_make_L30 fu st (nI l) (nI lo) (nI hi) (nI (v 11 st a)) (nI (k + 1)) else if ¬ nI (v 10 st a) = nI hi then sX0_make_L30 fu st (nI l) (nI lo) (nI hi) (nI (v 11 st a)) (nI (k + 1)) else some (.inl (nI a, st)) := by
      rw [sX0_make_L30, if_neg e1, isNode_ok st (by omega), if_pos (show 2 ≤ a ∧ a < 2560 from ⟨h2, h3⟩), ob_s, if_neg nI1_ne, gd_in (by omega) (by omega), gd_in (by omega) (by omega), gd_in (by omega) (by omega), gI_v hN (by decide) (by omega), gI_v hN (by decide) (by omega), gI_v hN (by decide) (by omega), lt_e, nI_add1, lt_e]
    rw [red]
    have ih := make_L (l := l) hlo hhi t (v 11 st a) (k + 1) fu st hN h4 (by omega) (by omega)
    have go : (∃ m, m ∈ t ∧ v 9 st m = lo ∧ v 10 st m = hi ∧ sX0_make_L30 fu st (nI l) (nI lo) (nI hi) (nI (v 11 st a)) (nI (k + 1)) = some (.inl (nI m, st))) ∨ ((∀ m, m ∈ t → ¬ (v 9 st m = lo ∧ v 10 st m = hi)) ∧ sX0_make_L30 fu st (nI l) (nI lo) (nI hi) (nI (v 11 st a)) (nI (k + 1)) = some (.inr ())) → ¬ (v 9 st a = lo ∧ v 10 st a = hi) → (∃ m, m ∈ a :: t ∧ v 9 st m = lo ∧ v 10 st m = hi ∧ sX0_make_L30 fu st (nI l) (nI lo) (nI hi) (nI (v 11 st a)) (nI (k + 1)) = some (.inl (nI m, st))) ∨ ((∀ m, m ∈ a :: t → ¬ (v 9 st m = lo ∧ v 10 st m = hi)) ∧ sX0_make_L30 fu st (nI l) (nI lo) (nI hi) (nI (v 11 st a)) (nI (k + 1)) = some (.inr ())) := by
      intro q hne
      rcases q with ⟨m, m1, m2, m3, m4⟩ | ⟨m1, m2⟩
      · exact Or.inl ⟨m, List.mem_cons_of_mem _ m1, m2, m3, m4⟩
      · refine Or.inr ⟨fun m hm => ?_, m2⟩
        rcases List.mem_cons.mp hm with rfl | q
        · exact hne
        · exact m1 m q
    by_cases c1 : v 9 st a = lo
    · rw [if_neg (by rw [c1]; exact fun z => z rfl)]
      by_cases c2 : v 10 st a = hi
      · rw [if_neg (by rw [c2]; exact fun z => z rfl)]
        exact Or.inl ⟨a, List.mem_cons_self, c1, c2, rfl⟩
      · rw [if_pos (by rw [nI_eqE (by omega) (by omega)]; exact c2)]
        exact go ih (fun z => c2 z.2)
    · rw [if_pos (by rw [nI_eqE (by omega) (by omega)]; exact c1)]
      exact go ih (fun z => c1 z.1)
theorem ch_mono {al al' : Nat → Bool} (h : ∀ n, al n = true → al' n = true) {c : Nat} (hc : ch al c) : ch al' c := hc.imp id (h c)
theorem ch_lt {st : St} {al lk : Nat → Bool} (h : SH st al lk) {c : Nat} (hc : ch al c) : c < 2560 := by
  rcases hc with q | q
  · omega
  · exact (h.2.1 c q).2.1
/-- a new node's fields are written -/
def MKs (st : St) (f l lo hi : Nat) : St := sI 12 (sI 10 (sI 9 (sI 8 (sF 0 st (nI (v 11 st f))) (nI f) (nI l)) (nI f) (nI lo)) (nI f) (nI hi)) (nI f) (nI 0)
theorem mk_v {st : St} {f l lo hi : Nat} (hf : f < 2560) (hl : l < 10) (h1 : lo < 2560) (h2 : hi < 2560) (r j : Nat) : v r (MKs st f l lo hi) j = if r = 12 ∧ j = f then 0 else if r = 10 ∧ j = f then hi else if r = 9 ∧ j = f then lo else if r = 8 ∧ j = f then l else v r st j := by
  unfold MKs
  rw [v_sI (by omega) (by omega), v_sI (by omega) (by omega), v_sI (by omega) (by omega), v_sI (by omega) (by omega), v_sF]
theorem mk_Fr (st : St) (f l lo hi : Nat) : Fr [8, 9, 10, 12] st (MKs st f l lo hi) := by
  refine ⟨fun r hr => ?_, rfl⟩
  have h8 : r ≠ 8 := fun e => hr (by rw [e]; decide)
  have h9 : r ≠ 9 := fun e => hr (by rw [e]; decide)
  have h10 : r ≠ 10 := fun e => hr (by rw [e]; decide)
  have h12 : r ≠ 12 := fun e => hr (by rw [e]; decide)
  unfold MKs sF sI
  show (if r = 12 then _ else _) = _
  rw [if_neg h12]
  show (if r = 10 then _ else _) = _
  rw [if_neg h10]
  show (if r = 9 then _ else _) = _
  rw [if_neg h9]
  show (if r = 8 then _ else _) = _
  rw [if_neg h8]
theorem mk_f0 {st : St} {f l lo hi : Nat} : fv 0 (MKs st f l lo hi) = v 11 st f := by
  have x11 := v_lt 11 st f
  unfold MKs
  rw [fv_sI, fv_sI, fv_sI, fv_sI, fv_sF x11, if_pos rfl]
theorem mk_f1 {st : St} {f l lo hi : Nat} : fv 1 (MKs st f l lo hi) = fv 1 st := by
  have x11 := v_lt 11 st f
  unfold MKs
  rw [fv_sI, fv_sI, fv_sI, fv_sI, fv_sF x11, if_neg (by decide)]
theorem mk_fld {st : St} {f l lo hi k : Nat} (hk : k ≠ 0) : (MKs st f l lo hi).2.2 k = st.2.2 k := by
  have e : (MKs st f l lo hi).2.2 = (sF 0 st (nI (v 11 st f))).2.2 := by
    unfold MKs sI
    rfl
  rw [e]
  unfold sF
  exact if_neg hk
theorem free_ex {st : St} {al : Nat → Bool} (h : FR st al) (hc : cnt 2560 al < 2558) (h2 : ∀ n, al n = true → 2 ≤ n) : 2 ≤ fv 0 st ∧ fv 0 st < 2560 ∧ al (fv 0 st) = false := by
  obtain ⟨fl, h3, h4⟩ := h
  cases fl with
  | nil =>
    have hall : ∀ n, 2 ≤ n → n < 2560 → al n = true := by
      intro n g1 g2
      cases hn : al n
      · exact absurd ((h4 n).mpr ⟨g1, g2, hn⟩) List.not_mem_nil
      · rfl
    have e : cnt 2560 al = cnt 2560 (fun n => decide (2 ≤ n)) := cnt_congr (fun n hn => by
      by_cases q : 2 ≤ n
      · rw [hall n q hn]; simp [q]
      · cases hx : al n
        · simp [q]
        · exact absurd (h2 n hx) q)
    have e2 : cnt 2560 (fun n => decide (2 ≤ n)) = 2558 := by decide +kernel
    omega
  | cons b t =>
    have hb := (h4 b).mp List.mem_cons_self
    obtain ⟨g1, -, -, -⟩ := h3
    rw [g1]
    exact hb
theorem cnt_new {al : Nat → Bool} {f : Nat} {w w' : Nat → Nat} {n : Nat} (hf : f < 2560) (hal : al f = false) (hw : ∀ m, m ≠ f → w' m = w m) : cnt 2560 (fun m => setB al f true m && (w' m == n)) = cnt 2560 (fun m => al m && (w m == n)) + (if w' f = n then 1 else 0) := by
  by_cases e : w' f = n
  · rw [if_pos e]
    refine cnt_add (i := f) hf (by rw [hal]; rfl) (by rw [setB_self]; simp [e]) (fun j _ hj => ?_)
    rw [setB_ne _ _ hj, hw j hj]
  · rw [if_neg e, Nat.add_zero]
    refine cnt_congr (fun j _ => ?_)
    by_cases ej : j = f
    · subst ej
      rw [setB_self, hal]
      simp [e]
    · rw [setB_ne _ _ ej, hw j ej]
theorem refs_out {st : St} {al lk : Nat → Bool} (h : SH st al lk) {f : Nat} (hf : al f = false) (h2 : 2 ≤ f) : refs st al f = 0 := by
  have key : ∀ c, ch al c → (c == f) = false := fun c hc => by
    have : c ≠ f := fun e => by
      subst e
      rcases hc with q | q
      · omega
      · rw [hf] at q; cases q
    simpa using this
  unfold refs
  rw [cnt_zero, cnt_zero, cnt_zero]
  · intro s hs
    exact key _ (h.2.2 s hs)
  · intro m _
    cases hm : al m
    · rfl
    · rw [key _ (h.2.1 m hm).2.2.2.2]; rfl
  · intro m _
    cases hm : al m
    · rfl
    · rw [key _ (h.2.1 m hm).2.2.2.1]; rfl
def newH (hold : Nat → Nat) (r : Nat) : Nat → Nat := fun m => if m = r then 0 else hold m
/-- what make leaves: the state as it was, or a new node -/
def MKp (st st' : St) (al lk : Nat → Bool) (hold : Nat → Nat) (l lo hi r : Nat) : Prop :=
  (r = lo ∧ lo = hi ∧ st' = st) ∨ (lo ≠ hi ∧ lk r = true ∧ v 8 st r = l ∧ v 9 st r = lo ∧ v 10 st r = hi ∧ st' = st) ∨
  (lo ≠ hi ∧ (∀ m, lk m = true → v 8 st m = l → v 9 st m = lo → v 10 st m = hi → False) ∧ al r = false ∧ 2 ≤ r ∧ r < 2560 ∧ BI st' (setB al r true) (setB lk r true) (newH hold r) ∧ v 8 st' r = l ∧ v 9 st' r = lo ∧ v 10 st' r = hi ∧ (∀ m, m ≠ r → v 8 st' m = v 8 st m ∧ v 9 st' m = v 9 st m ∧ v 10 st' m = v 10 st m) ∧ Fr [6, 7, 8, 9, 10, 11, 12] st st' ∧ ∀ k, k ≠ 0 → k ≠ 1 → st'.2.2 k = st.2.2 k)
theorem make_ok {st : St} {al lk : Nat → Bool} {hold : Nat → Nat} {l lo hi : Nat} (B : BI st al lk hold) (hl : l < 10) (h1 : ch al lo) (h2 : ch al hi) (hfree : cnt 2560 al < 2558) : ∃ r st', sX0_make st (nI l) (nI lo) (nI hi) = some (nI r, st') ∧ MKp st st' al lk hold l lo hi r := by
  obtain ⟨⟨hN, ⟨c, hc⟩, hF, ⟨hc1, hc2⟩, hS⟩, hP⟩ := id B
  have a1 := ch_lt hS h1
  have a2 := ch_lt hS h2
  unfold sX0_make
  by_cases e : lo = hi
  · subst e
    exact ⟨lo, st, if_pos rfl, Or.inl ⟨rfl, rfl, rfl⟩⟩
  · have hb : bkn l lo hi < 640 := bkn_lt hl _ _
    rw [if_neg (by rw [nI_eqE (by omega) (by omega)]; exact e), isLevel_ok st (by omega), if_pos hl, ob_s, if_pos nI1_ne, bucketOf_ok, ob_s, gd_in hb (by omega), gI_v hN (by decide) (by omega), lt_e]
    have hlen := isCh_len (hc _ hb).1
    have hL := make_L (l := l) (lo := lo) (hi := hi) (by omega) (by omega) (c (bkn l lo hi)) (v 7 st (bkn l lo hi)) 0 FU st hN (hc _ hb).1 (by omega) (by show _ < 4000; omega)
    rw [show (0 : Int32) = nI 0 from n_0]
    rcases hL with ⟨m, m1, m2, m3, m4⟩ | ⟨m1, m4⟩
    · rw [m4]
      refine ⟨m, st, rfl, Or.inr (Or.inl ⟨e, ?_⟩)⟩
      obtain ⟨k1, k2⟩ := ((hc _ hb).2 m).mp m1
      refine ⟨k1, ?_, m2, m3, rfl⟩
      unfold bk bkn at k2
      rw [m2, m3] at k2
      have := (bq_eq lo hi).2
      omega
    · rw [m4]
      obtain ⟨f1, f2, f3⟩ := free_ex hF hfree (fun n hn => (hS.2.1 n hn).1)
      generalize hfe : fv 0 st = f at f1 f2 f3
      have hlkf : lk f = false := by
        cases q : lk f
        · rfl
        · rw [hS.1 f q] at f3; cases f3
      have V := mk_v (st := st) (f := f) (l := l) (lo := lo) (hi := hi) f2 hl a1 a2
      have F5 := mk_Fr st f l lo hi
      have x11 := v_lt 11 st f
      have N5 : NN (MKs st f l lo hi) := NN_sI (NN_sI (NN_sI (NN_sI (NN_sF hN x11) (by omega) (by omega)) (by omega) (by omega)) (by omega) (by omega)) (by omega) (by omega)
      have hlof : lo ≠ f := fun z => by
        rcases h1 with q | q
        · omega
        · rw [z, f3] at q; cases q
      have hhif : hi ≠ f := fun z => by
        rcases h2 with q | q
        · omega
        · rw [z, f3] at q; cases q
      have s8 : ∀ m, m ≠ f → v 8 (MKs st f l lo hi) m = v 8 st m := fun m hm => by rw [V, if_neg (by omega), if_neg (by omega), if_neg (by omega), if_neg (fun z => hm z.2)]
      have s9 : ∀ m, m ≠ f → v 9 (MKs st f l lo hi) m = v 9 st m := fun m hm => by rw [V, if_neg (by omega), if_neg (by omega), if_neg (fun z => hm z.2), if_neg (by omega)]
      have s10 : ∀ m, m ≠ f → v 10 (MKs st f l lo hi) m = v 10 st m := fun m hm => by rw [V, if_neg (by omega), if_neg (fun z => hm z.2), if_neg (by omega), if_neg (by omega)]
      have s12 : ∀ m, v 12 (MKs st f l lo hi) m = if m = f then 0 else v 12 st m := fun m => by
        rw [V]
        by_cases q : m = f
        · rw [if_pos ⟨rfl, q⟩, if_pos q]
        · rw [if_neg (fun z => q z.2), if_neg (by omega), if_neg (by omega), if_neg (by omega), if_neg q]
      have f8 : v 8 (MKs st f l lo hi) f = l := by rw [V, if_neg (by omega), if_neg (by omega), if_neg (by omega), if_pos ⟨rfl, rfl⟩]
      have f9 : v 9 (MKs st f l lo hi) f = lo := by rw [V, if_neg (by omega), if_neg (by omega), if_pos ⟨rfl, rfl⟩]
      have f10 : v 10 (MKs st f l lo hi) f = hi := by rw [V, if_neg (by omega), if_pos ⟨rfl, rfl⟩]
      have mono : ∀ n, al n = true → setB al f true n = true := fun n hn => by
        by_cases q : n = f
        · rw [q, setB_self]
        · rw [setB_ne _ _ q]; exact hn
      have hne : ∀ m, lk m = true → m ≠ f := fun m hm z => by rw [z, hlkf] at hm; cases hm
      have hbk : ∀ m, m ≠ f → bk (MKs st f l lo hi) m = bk st m := fun m hm => by unfold bk; rw [s8 m hm, s9 m hm, s10 m hm]
      have f0 : fv 0 (MKs st f l lo hi) = v 11 st f := mk_f0
      have B5 : BM (MKs st f l lo hi) (setB al f true) lk := by
        refine ⟨N5, ⟨c, fun b hb' => ?_⟩, ?_, ⟨fun l' hl' => ?_, ?_⟩, fun m hm => mono m (hS.1 m hm), fun m hm => ?_, fun s hs => ?_⟩
        · rw [F5.vE (r := 11) (by decide), F5.vE (r := 7) (by decide)]
          refine ⟨(hc b hb').1, fun m => ?_⟩
          rw [(hc b hb').2 m]
          constructor
          · intro z
            exact ⟨z.1, by rw [hbk m (hne m z.1)]; exact z.2⟩
          · intro z
            exact ⟨z.1, by rw [← hbk m (hne m z.1)]; exact z.2⟩
        · obtain ⟨fl, g1, g2⟩ := hF
          rw [hfe] at g1
          cases fl with
          | nil =>
            have : f = 0 := g1
            omega
          | cons b t =>
            obtain ⟨g3, g4, g5, g6⟩ := id g1
            subst g3
            refine ⟨t, by rw [f0, F5.vE (r := 11) (by decide)]; exact g6, fun m => ?_⟩
            have hnd := List.nodup_cons.mp (isCh_nodup g1)
            have gm := g2 m
            by_cases q : m = f
            · subst q
              rw [setB_self]
              constructor
              · intro z; exact absurd z hnd.1
              · intro z; exact absurd z.2.2 (by decide)
            · rw [setB_ne _ _ q, ← gm, List.mem_cons]
              simp [q]
        · rw [F5.vE (r := 6) (by decide), hc1 l' hl']
          refine cnt_congr (fun m _ => ?_)
          cases q : lk m
          · rw [Bool.false_and, Bool.false_and]
          · rw [s8 m (hne m q)]
        · rw [mk_f1]
          exact hc2
        · by_cases q : m = f
          · subst q
            rw [f8, f9, f10]
            exact ⟨f1, f2, hl, ch_mono mono h1, ch_mono mono h2⟩
          · rw [setB_ne _ _ q] at hm
            obtain ⟨g1, g2, g3, g4, g5⟩ := hS.2.1 m hm
            rw [s8 m q, s9 m q, s10 m q]
            exact ⟨g1, g2, g3, ch_mono mono g4, ch_mono mono g5⟩
        · rw [F5.vE (r := 5) (by decide)]
          exact ch_mono mono (hS.2.2 s hs)
      obtain ⟨s6, e6, B6, F6, g6⟩ := link_ok B5 (setB_self al f true) hlkf
      have hp : ∀ n, n < 2560 → v 12 st n < 90000 ∨ al n = false := fun n hn => by
        cases q : al n
        · exact Or.inr rfl
        · have := hP.1 n q
          have r1 := refs_le st al n
          have r2 := hP.2 n
          exact Or.inl (by omega)
      have p6 : ∀ m, v 12 s6 m = if m = f then 0 else v 12 st m := fun m => by rw [F6.vE (r := 12) (by decide), s12]
      have q1 : v 12 s6 lo < 100000 ∨ lo < 2 := by
        rcases h1 with q | q
        · exact Or.inr q
        · rw [p6, if_neg hlof]
          rcases hp lo a1 with z | z
          · exact Or.inl (by omega)
          · rw [q] at z; cases z
      have P7 : ∃ s7, sX0_point s6 (nI lo) = some s7 ∧ NN s7 ∧ Fr [12] s6 s7 ∧ s7.2.2 = s6.2.2 ∧ ∀ m, v 12 s7 m = if m = lo ∧ 2 ≤ lo then v 12 s6 lo + 1 else v 12 s6 m := by
        rcases q1 with q | q
        · exact point_ok B6.1 a1 q
        · refine ⟨s6, ?_, B6.1, Fr.refl _ _, rfl, fun m => by rw [if_neg (by omega)]⟩
          unfold sX0_point
          rw [isNode_ok s6 (by omega), if_neg (by omega)]
          rfl
      obtain ⟨s7, e7, N7, F7, g7, p7⟩ := P7
      have q2 : v 12 s7 hi < 100000 ∨ hi < 2 := by
        rcases h2 with q | q
        · exact Or.inr q
        · rw [p7, if_neg (fun z => e z.1.symm), p6, if_neg hhif]
          rcases hp hi a2 with z | z
          · exact Or.inl (by omega)
          · rw [q] at z; cases z
      have P8 : ∃ s', sX0_point s7 (nI hi) = some s' ∧ NN s' ∧ Fr [12] s7 s' ∧ s'.2.2 = s7.2.2 ∧ ∀ m, v 12 s' m = if m = hi ∧ 2 ≤ hi then v 12 s7 hi + 1 else v 12 s7 m := by
        rcases q2 with q | q
        · exact point_ok N7 a2 q
        · refine ⟨s7, ?_, N7, Fr.refl _ _, rfl, fun m => by rw [if_neg (by omega)]⟩
          unfold sX0_point
          rw [isNode_ok s7 (by omega), if_neg (by omega)]
          rfl
      obtain ⟨s', e8, N8, F8, g8, p8⟩ := P8
      have B8 : BM s' (setB al f true) (setB lk f true) := BM_12 (BM_12 B6 N7 F7 g7) N8 F8 g8
      have FA : Fr [6, 7, 8, 9, 10, 11, 12] st s' := by
        refine ((F5.mono ?_).trans (F6.mono ?_)).trans ((F7.mono ?_).trans (F8.mono ?_)) <;> intro r hr <;> simp at hr ⊢ <;> omega
      have G : ∀ r, r ∉ [6, 7, 11, 12] → v r s' = v r (MKs st f l lo hi) := fun r hr => by
        rw [F8.vE (fun z => hr (by rw [List.mem_singleton.mp z]; decide)), F7.vE (fun z => hr (by rw [List.mem_singleton.mp z]; decide)), F6.vE (fun z => hr (by simp at z ⊢; omega))]
      refine ⟨f, s', ?_, Or.inr (Or.inr ⟨e, ?_, f3, f1, f2, ⟨B8, ?_, ?_⟩, ?_, ?_, ?_, fun m hm => ⟨?_, ?_, ?_⟩, FA, fun k k0 k1 => ?_⟩)⟩
      · have e6' : sX0_link (sI 12 (sI 10 (sI 9 (sI 8 (sF 0 st (nI (v 11 st f))) (nI f) (nI l)) (nI f) (nI lo)) (nI f) (nI hi)) (nI f) (nI 0)) (nI f) = some s6 := e6
        rw [obS_r, gF_v hN, hfe, isNode_ok st (by omega), if_pos (show 2 ≤ f ∧ f < 2560 from ⟨f1, f2⟩), ob_s, if_pos (show ¬ nI 1 = nI 0 by decide), lt_e, gd_in f2 (by omega), gI_v hN (by decide) (by omega), lt_e, gd_in f2 (by omega), lt_e, gd_in f2 (by omega), lt_e, gd_in f2 (by omega), lt_e, gd_in f2 (by omega), lt_e, e6', ob_s, e7, ob_s, e8, ob_s]
      · intro m k1 k2 k3 k4
        refine m1 m (((hc _ hb).2 m).mpr ⟨k1, ?_⟩) ⟨k3, k4⟩
        unfold bk
        rw [k2, k3, k4]
      · intro n hn
        have r5 : v 5 s' = v 5 st := FA.vE (by decide)
        have E : refs s' (setB al f true) n = refs st al n + (if lo = n then 1 else 0) + (if hi = n then 1 else 0) := by
          unfold refs
          rw [G 9 (by decide), G 10 (by decide), r5, cnt_new f2 f3 s9, cnt_new f2 f3 s10, f9, f10]
          omega
        rw [E, p8 n]
        by_cases qf : n = f
        · subst qf
          rw [refs_out hS f3 f1, if_neg (show ¬ (n = hi ∧ 2 ≤ hi) from fun z => hhif z.1.symm), p7 n, if_neg (show ¬ (n = lo ∧ 2 ≤ lo) from fun z => hlof z.1.symm), p6 n, if_pos rfl, if_neg hlof, if_neg hhif]
          unfold newH
          rw [if_pos rfl]
        · have hn' : al n = true := by rwa [setB_ne _ _ qf] at hn
          have h2n := (hS.2.1 n hn').1
          have hpn := hP.1 n hn'
          have hnw : newH hold f n = hold n := if_neg qf
          rw [hnw]
          by_cases u1 : n = hi
          · subst u1
            rw [if_pos (show n = n ∧ 2 ≤ n from ⟨rfl, h2n⟩), p7 n, if_neg (show ¬ (n = lo ∧ 2 ≤ lo) from fun z => e z.1.symm), p6 n, if_neg qf, if_neg e, if_pos rfl, hpn]
            omega
          · rw [if_neg (show ¬ (n = hi ∧ 2 ≤ hi) from fun z => u1 z.1), if_neg (show ¬ hi = n from fun z => u1 z.symm), p7 n]
            by_cases u2 : n = lo
            · subst u2
              rw [if_pos (show n = n ∧ 2 ≤ n from ⟨rfl, h2n⟩), p6 n, if_neg qf, if_pos rfl, hpn]
              omega
            · rw [if_neg (show ¬ (n = lo ∧ 2 ≤ lo) from fun z => u2 z.1), if_neg (show ¬ lo = n from fun z => u2 z.symm), p6 n, if_neg qf, hpn]
              omega
      · intro n
        unfold newH
        split
        · omega
        · exact hP.2 n
      · rw [G 8 (by decide), f8]
      · rw [G 9 (by decide), f9]
      · rw [G 10 (by decide), f10]
      · rw [G 8 (by decide), s8 m hm]
      · rw [G 9 (by decide), s9 m hm]
      · rw [G 10 (by decide), s10 m hm]
      · rw [g8, g7, g6 k k1]
        exact mk_fld k0
