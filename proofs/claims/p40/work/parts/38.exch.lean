/-! exchangeAt: the order's two variables are exchanged, each slot's function stays -/
theorem exch_ok {st : St} {al : Nat → Bool} {o : Nat → Nat} {D : Nat → Fn} {u : Nat} (G : GD st al o D) (hu : u + 1 < 10) :
    ∃ (st' : St) (al' : Nat → Bool) (D' : Nat → Fn), sX0_exchangeAt st (nI u) = some st' ∧ GD st' al' (osw o u) D' ∧ FS st' D' = FS st D ∧ (∀ s, s < 12 → D' (v 5 st' s) = D (v 5 st s)) ∧ Fr [4, 6, 7, 8, 9, 10, 11, 12, 15] st st' ∧ ∀ k, k ≠ 0 → k ≠ 1 → st'.2.2 k = st.2.2 k := by
  obtain ⟨B0, DG0, hord, NG0, hfin⟩ := id G
  have ho := DG0.2.2.2.2
  have hS0 := B0.1.2.2.2.2
  obtain ⟨t1, t2, t3⟩ := GD_all G
  have cu := B0.1.2.2.2.1.1 u (by omega)
  have cl := B0.1.2.2.2.1.1 (u + 1) hu
  have csum : v 6 st u + v 6 st (u + 1) ≤ 1778 := by
    have h1 := cnt_split 2560 al (fun n => v 8 st n == u)
    have h2 : cnt 2560 (fun n => al n && (v 8 st n == u + 1)) ≤ cnt 2560 (fun n => al n && !(v 8 st n == u)) := cnt_mono (fun n _ h => by
      simp at h
      simp [h.1, h.2])
    omega
  -- the two levels are taken out
  obtain ⟨us, s1, e1, us1, us2, us3, B1, F1, f1, l1, l1', c1⟩ := take_ok (m := 0) B0.1 (show u < 10 by omega) (by omega)
  rw [Nat.zero_add] at e1
  have a8 : v 8 s1 = v 8 st := F1.vE (by decide)
  obtain ⟨rs, s2, e2, rs1, rs2, rs3, B2, F2, f2, l2, l2', c2⟩ := take_ok (m := us.length) B1 hu (by rw [c1 _ (by omega)]; omega)
  rw [c1 (u + 1) (by omega)] at rs3
  have F12 : Fr [6, 7, 15] st s2 := F1.trans F2
  have b8 : v 8 s2 = v 8 st := F12.vE (by decide)
  have b9 : v 9 s2 = v 9 st := F12.vE (by decide)
  have b10 : v 10 s2 = v 10 st := F12.vE (by decide)
  have b5 : v 5 s2 = v 5 st := F12.vE (by decide)
  have b12 : v 12 s2 = v 12 st := F12.vE (by decide)
  have usm : ∀ n, n ∈ us ↔ al n = true ∧ v 8 st n = u := us2
  have rsm : ∀ n, n ∈ rs ↔ al n = true ∧ v 8 st n = u + 1 := fun n => by
    rw [rs2, offL_t, a8]
    constructor
    · intro z; exact ⟨z.1.1, z.2⟩
    · intro z; exact ⟨⟨z.1, by omega⟩, z.2⟩
  generalize hlk2 : offL s1 (offL st al u) (u + 1) = lk2 at B2
  have lk2t : ∀ n, lk2 n = true ↔ al n = true ∧ v 8 st n ≠ u ∧ v 8 st n ≠ u + 1 := fun n => by
    rw [← hlk2, offL_t, offL_t, a8]
    constructor
    · intro z; exact ⟨z.1.1, z.1.2, z.2⟩
    · intro z; exact ⟨⟨z.1, z.2.1⟩, z.2.2⟩
  have lk2f : ∀ n, n ∈ us ∨ n ∈ rs → lk2 n = false := fun n h => by
    cases q : lk2 n
    · rfl
    · have := (lk2t n).mp q
      rcases h with h | h
      · exact absurd ((usm n).mp h).2 this.2.1
      · exact absurd ((rsm n).mp h).2 this.2.2
  have P2 : PR s2 al (fun _ => 0) := PR_same B0.2 b5 b9 b10 b12
  have hlen : us.length + rs.length ≤ 1778 := by omega
  -- the lower nodes are raised
  obtain ⟨s3, e3, B3, V83, V123, F3, f3⟩ := raise_L (x2 := nI (u + 1)) (x3 := nI us.length) (al' := us.length + rs.length) (show u < 10 by omega) rs us.length FU s2 lk2 (fun _ => 0) ⟨B2, P2⟩ rs1 (fun n hn => ⟨((rsm n).mp hn).1, lk2f n (Or.inr hn), by omega⟩) l2 rfl (by omega) (by show _ < 4000; omega)
  have hH : upH (fun _ => 0) rs = hR rs := by
    funext m
    unfold upH hR
    rw [Nat.zero_add]
  rw [hH] at B3
  rw [b8] at V83
  generalize hlk3 : orB lk2 (inB rs) = lk3 at B3
  have lk3t : ∀ n, lk3 n = true ↔ al n = true ∧ v 8 st n ≠ u := fun n => by
    rw [← hlk3]
    unfold orB
    rw [Bool.or_eq_true, lk2t, inB_t, rsm]
    constructor
    · rintro (z | z)
      · exact ⟨z.1, z.2.1⟩
      · exact ⟨z.1, by omega⟩
    · intro z
      by_cases q : v 8 st n = u + 1
      · exact Or.inr ⟨z.1, q⟩
      · exact Or.inl ⟨z.1, z.2, q⟩
  have lk3f : ∀ n, n ∈ us → lk3 n = false := fun n h => by
    cases q : lk3 n
    · rfl
    · exact absurd ((usm n).mp h).2 ((lk3t n).mp q).2
  have g9 : v 9 s3 = v 9 st := (F3.vE (by decide)).trans b9
  have g10 : v 10 s3 = v 10 st := (F3.vE (by decide)).trans b10
  have g5 : v 5 s3 = v 5 st := (F3.vE (by decide)).trans b5
  -- children of the upper ones are no upper ones
  have lowr : ∀ n, al n = true → ∀ m, m ∈ us → v 8 st n = u → v 9 st n ≠ m ∧ v 10 st n ≠ m := fun n hn m hm hl => by
    obtain ⟨q1, q2, q3, q4, q5, q6, q7, q8, q9⟩ := DG0.1 n hn
    obtain ⟨w1, w2⟩ := (usm m).mp hm
    have hml := lvl_al DG0 w1
    refine ⟨fun z => ?_, fun z => ?_⟩
    · rw [z, hml] at q6; omega
    · rw [z, hml] at q7; omega
  obtain ⟨s4, e4, B4, V84, F4, f4⟩ := sink_L (x2 := nI (u + 1)) (x4 := nI (us.length + rs.length)) (ups := us.length) hu us 0 FU s3 lk3 B3 us1 (fun n hn => ⟨((usm n).mp hn).1, lk3f n hn⟩) (fun n hn m hm => by
    rw [g9, g10]
    exact lowr n ((usm n).mp hn).1 m hm ((usm n).mp hn).2) (fun j hj => by
    rw [F3.vE (by decide), l2' _ (by omega)]
    exact l1 j hj) (by omega) (by omega) (by show _ < 4000; omega)
  generalize hlk4 : orB lk3 (fun m => inB us m && frB s3 u m) = lk4 at B4
  have lk4t : ∀ n, lk4 n = true ↔ lk3 n = true ∨ (n ∈ us ∧ frB s3 u n = true) := fun n => by
    rw [← hlk4]
    unfold orB
    rw [Bool.or_eq_true, Bool.and_eq_true, inB_t]
  have h9 : v 9 s4 = v 9 st := (F4.vE (by decide)).trans g9
  have h10 : v 10 s4 = v 10 st := (F4.vE (by decide)).trans g10
  have h5 : v 5 s4 = v 5 st := (F4.vE (by decide)).trans g5
  have v3 : ∀ n, v 8 s3 n = if v 8 st n = u + 1 ∧ al n = true then u else v 8 st n := fun n => by
    rw [V83]
    by_cases q : n ∈ rs
    · obtain ⟨w1, w2⟩ := (rsm n).mp q
      rw [if_pos q, if_pos ⟨w2, w1⟩]
    · rw [if_neg q, if_neg (fun z => q ((rsm n).mpr ⟨z.2, z.1⟩))]
  -- the level of each now
  have v4s : ∀ n, n ∈ us → frB s3 u n = true → v 8 s4 n = u + 1 := fun n h1 h2 => by rw [V84, if_pos ⟨h1, h2⟩]
  have v4r : ∀ n, n ∈ rs → v 8 s4 n = u := fun n h => by
    obtain ⟨w1, w2⟩ := (rsm n).mp h
    rw [V84, if_neg (fun z => by have := ((usm n).mp z.1).2; omega), v3, if_pos ⟨w2, w1⟩]
  have v4p : ∀ n, n ∈ us → frB s3 u n = false → v 8 s4 n = u := fun n h1 h2 => by
    obtain ⟨w1, w2⟩ := (usm n).mp h1
    rw [V84, if_neg (fun z => by rw [h2] at z; exact absurd z.2 (by decide)), v3, if_neg (by omega)]
    exact w2
  have v4o : ∀ n, al n = true → v 8 st n ≠ u → v 8 st n ≠ u + 1 → v 8 s4 n = v 8 st n := fun n h1 h2 h3 => by
    rw [V84, if_neg (fun z => h2 ((usm n).mp z.1).2), v3, if_neg (fun z => h3 z.1)]
  have hdp : ∀ c, ch al c → u + 1 < lvl (v 8 st) c → dp al (v 8 st) u c := fun c hc hl => by
    rcases hc with q | q
    · exact Or.inl q
    · rw [lvl_al DG0 q] at hl
      exact Or.inr ⟨q, hl⟩
  have lvd : ∀ c, dp al (v 8 st) u c → u + 1 < lv8 s4 c ∧ lv8 s4 c = lvl (v 8 st) c ∧ lv8 s3 c = lvl (v 8 st) c := fun c hc => by
    unfold lv8 lvl
    rcases hc with q | ⟨q1, q2⟩
    · rw [if_pos q, if_pos q, if_pos q]
      exact ⟨by omega, rfl, rfl⟩
    · have := (hS0.2.1 c q1).1
      rw [if_neg (by omega), if_neg (by omega), if_neg (by omega), v4o c q1 (by omega) (by omega), v3, if_neg (by omega)]
      exact ⟨q2, rfl, rfl⟩
  have lvr : ∀ c, c ∈ rs → lv8 s4 c = u ∧ lv8 s3 c = u := fun c hc => by
    obtain ⟨w1, w2⟩ := (rsm c).mp hc
    have := (hS0.2.1 c w1).1
    unfold lv8 lvl
    rw [if_neg (by omega), if_neg (by omega), v4r c hc, v3, if_pos ⟨w2, w1⟩]
    exact ⟨rfl, rfl⟩
  have kid : ∀ n, n ∈ us → ∀ c, ch al c → u < lvl (v 8 st) c → dp al (v 8 st) u c ∨ c ∈ rs := fun n _ c hc hl => by
    by_cases q : u + 1 < lvl (v 8 st) c
    · exact Or.inl (hdp c hc q)
    · refine Or.inr ?_
      rcases hc with h | h
      · unfold lvl at q
        rw [if_pos h] at q
        omega
      · rw [lvl_al DG0 h] at q hl
        exact (rsm c).mpr ⟨h, by omega⟩
  have fr3 : ∀ n, n ∈ us → (frB s3 u n = true ↔ dp al (v 8 st) u (v 9 st n) ∧ dp al (v 8 st) u (v 10 st n)) := fun n hn => by
    obtain ⟨w1, w2⟩ := (usm n).mp hn
    obtain ⟨q1, q2, q3, q4, q5, q6, q7, q8, q9⟩ := DG0.1 n w1
    rw [w2] at q6 q7
    rw [frB_t]
    unfold isFree
    rw [g9, g10]
    constructor
    · rintro ⟨z1, z2⟩
      exact ⟨(kid n hn _ q4 q6).resolve_right (fun z => z1 (lvr _ z).2), (kid n hn _ q5 q7).resolve_right (fun z => z2 (lvr _ z).2)⟩
    · rintro ⟨z1, z2⟩
      have x1 := lvd _ z1
      have x2 := lvd _ z2
      exact ⟨by omega, by omega⟩
  have K : XK al (v 8 st) D o u rs (FS st D) := by
    refine ⟨fun a b ha hb e => DG_inj DG0 ha hb e, DG0.2.2.1, DG0.2.2.2.1, fun c hc => ?_, fun c hc => ?_, fun n hn hl => ?_, fun e => ?_, hu, t3, nAt_768 (osw_ok ho hu) (FS_fin G) (by rw [FS_len]; exact Nat.le_refl _) hu⟩
    · have hcc : ch al c := hc.imp id (fun z => z.1)
      have hl : u + 1 < lvl (v 8 st) c := by
        rcases hc with q | ⟨q1, q2⟩
        · unfold lvl
          rw [if_pos q]
          omega
        · rw [lvl_al DG0 q1]; exact q2
      exact ⟨DG_ind DG0 hcc (by omega) (by omega), DG_ind DG0 hcc hl hu⟩
    · obtain ⟨w1, w2⟩ := (rsm c).mp hc
      refine ⟨DG_ind DG0 (Or.inr w1) (by rw [lvl_al DG0 w1]; omega) (by omega), ?_⟩
      have := DG_ndep DG0 w1
      rw [w2] at this
      exact this
    · have := DG_reach DG0 (GD_refd G) _ n (Nat.lt_succ_self _) hn
      rw [hl] at this
      exact this
    · have := ho.2 u (u + 1) (by omega) hu e
      omega
  have X : XI al (v 8 st) D o u rs (FS st D) s4 al lk4 (fun _ => false) D [] := by
    have lkal : ∀ n, lk4 n = true → al n = true := B4.1.2.2.2.2.1
    refine ⟨B4, fun n => by simp, fun n _ => ⟨rfl, rfl⟩, ⟨DG0.2.2.1, DG0.2.2.2.1⟩, fun n hn => ?_, fun n m hn hm q1 q2 q3 => ?_, fun n hn hl => ?_, fun n hn => ?_, (fun n hn => by cases hn), fun c hc hc2 => ⟨v4o c hc (by omega) (by omega), (lk4t c).mpr (Or.inl ((lk3t c).mpr ⟨hc, by omega⟩))⟩, fun n hn _ => ?_⟩
    · have hal := lkal n hn
      obtain ⟨q1, q2, q3, q4, q5, q6, q7, q8, q9⟩ := DG0.1 n hal
      rw [h9, h10]
      by_cases e1 : v 8 st n = u
      · have hus := (usm n).mpr ⟨hal, e1⟩
        have hfr : frB s3 u n = true := by
          rcases (lk4t n).mp hn with z | z
          · exact absurd e1 ((lk3t n).mp z).2
          · exact z.2
        obtain ⟨w1, w2⟩ := (fr3 n hus).mp hfr
        rw [v4s n hus hfr, osw_l]
        rw [e1] at q9
        exact ⟨(lvd _ w1).1, (lvd _ w2).1, q8, q9⟩
      · by_cases e2 : v 8 st n = u + 1
        · have hrs := (rsm n).mpr ⟨hal, e2⟩
          rw [v4r n hrs, osw_u]
          rw [e2] at q6 q7 q9
          have w1 := (lvd _ (hdp _ q4 q6)).1
          have w2 := (lvd _ (hdp _ q5 q7)).1
          exact ⟨by omega, by omega, q8, q9⟩
        · rw [v4o n hal e1 e2, osw_ne e1 e2]
          have key : ∀ c, ch al c → v 8 st n < lvl (v 8 st) c → v 8 st n < lv8 s4 c := fun c hc hl => by
            by_cases z : u + 1 < lvl (v 8 st) c
            · rw [(lvd c (hdp c hc z)).2.1]; exact hl
            · rcases hc with h | h
              · unfold lvl at z
                rw [if_pos h] at z
                omega
              · rw [lvl_al DG0 h] at hl z
                have h2 := (hS0.2.1 c h).1
                unfold lv8 lvl
                rw [if_neg (by omega)]
                by_cases w1 : v 8 st c = u
                · have hc' := (usm c).mpr ⟨h, w1⟩
                  cases w2 : frB s3 u c
                  · rw [v4p c hc' w2]; omega
                  · rw [v4s c hc' w2]; omega
                · by_cases w2 : v 8 st c = u + 1
                  · rw [v4r c ((rsm c).mpr ⟨h, w2⟩)]; omega
                  · rw [v4o c h w1 w2]; exact hl
          exact ⟨key _ q4 q6, key _ q5 q7, q8, q9⟩
    · rw [h9] at q2
      rw [h10] at q3
      have aln := lkal n hn
      have alm := lkal m hm
      obtain ⟨-, -, -, -, -, -, -, -, en⟩ := DG0.1 n aln
      obtain ⟨-, -, -, -, -, -, -, -, em⟩ := DG0.1 m alm
      -- the old levels are the same, too
      have old : ∀ n, lk4 n = true → v 8 st n = if v 8 s4 n = u then u + 1 else if v 8 s4 n = u + 1 then u else v 8 s4 n := fun n hn => by
        have hal := lkal n hn
        by_cases e1 : v 8 st n = u
        · have hus := (usm n).mpr ⟨hal, e1⟩
          have hfr : frB s3 u n = true := by
            rcases (lk4t n).mp hn with z | z
            · exact absurd e1 ((lk3t n).mp z).2
            · exact z.2
          rw [v4s n hus hfr, if_neg (by omega), if_pos rfl, e1]
        · by_cases e2 : v 8 st n = u + 1
          · rw [v4r n ((rsm n).mpr ⟨hal, e2⟩), if_pos rfl, e2]
          · rw [v4o n hal e1 e2, if_neg e1, if_neg e2]
      have el : v 8 st n = v 8 st m := by rw [old n hn, old m hm, q1]
      exact DG0.2.1 n m aln alm el q2 q3
    · have e1 : v 8 st n = u := by
        apply Classical.byContradiction
        intro z
        rw [(lk4t n).mpr (Or.inl ((lk3t n).mpr ⟨hn, z⟩))] at hl
        cases hl
      have hus := (usm n).mpr ⟨hn, e1⟩
      have hfr : frB s3 u n = false := by
        cases q : frB s3 u n
        · rfl
        · rw [(lk4t n).mpr (Or.inr ⟨hus, q⟩)] at hl
          cases hl
      obtain ⟨q1, q2, q3, q4, q5, q6, q7, q8, q9⟩ := DG0.1 n hn
      rw [e1] at q6 q7 q9
      rw [h9, h10]
      refine ⟨v4p n hus hfr, hn, e1, kid n hus _ q4 q6, kid n hus _ q5 q7, fun z => ?_, q9⟩
      have : frB s3 u n = true := (fr3 n hus).mpr (by
        unfold isFree at z
        rw [h9, h10] at z
        exact ⟨(kid n hus _ q4 q6).resolve_right (fun y => z.1 (lvr _ y).1), (kid n hus _ q5 q7).resolve_right (fun y => z.2 (lvr _ y).1)⟩)
      rw [hfr] at this
      cases this
    · obtain ⟨w1, w2⟩ := (rsm n).mp hn
      obtain ⟨q1, q2, q3, q4, q5, q6, q7, q8, q9⟩ := DG0.1 n w1
      rw [w2] at q6 q7
      rw [h9, h10]
      exact ⟨w1, (lk4t n).mpr (Or.inl ((lk3t n).mpr ⟨w1, by omega⟩)), v4r n hn, hdp _ q4 q6, hdp _ q5 q7⟩
    · rw [F4.vE (by decide), V123, b12]
      have := NG0 n hn
      omega
  obtain ⟨s5, al5, lk5, nw5, D5, e5, X5, z5, F5, f5⟩ := turn_L K (x2 := nI (u + 1)) (x4 := nI (us.length + rs.length)) (ups := us.length) us 0 FU s4 al lk4 (fun _ => false) D X us1 (fun n hn => by
    refine ⟨((usm n).mp hn).1, ?_⟩
    cases q : frB s3 u n
    · refine Or.inl ⟨?_, v4p n hn q⟩
      cases q2 : lk4 n
      · rfl
      · rcases (lk4t n).mp q2 with z | z
        · rw [lk3f n hn] at z; cases z
        · rw [q] at z; exact absurd z.2 (by decide)
    · exact Or.inr ⟨(lk4t n).mpr (Or.inr ⟨hn, q⟩), v4s n hn q⟩) (fun j hj => by
    rw [F4.vE (by decide), F3.vE (by decide), l2' _ (by omega)]
    exact l1 j hj) (by omega) (by omega) (by show _ < 4000; omega)
  obtain ⟨Y1, Y2, Y3, Y4, Y6, Y7, Y8, Y9, Y10, Y11, Y12⟩ := id X5
  -- nothing is pending any more
  have all5 : lk5 = al5 := by
    funext n
    cases q : al5 n
    · cases q2 : lk5 n
      · rfl
      · rw [Y1.1.2.2.2.2.1 n q2] at q; cases q
    · rcases (Y2 n).mp q with z | z
      · obtain ⟨w1, w2, w3, w4, w5⟩ := z5 n z
        by_cases e : n ∈ us
        · exact w5 e
        · rw [w4 e]
          exact (lk4t n).mpr (Or.inl ((lk3t n).mpr ⟨z, fun y => e ((usm n).mpr ⟨z, y⟩)⟩))
      · exact (Y10 n z).1
  rw [all5] at Y1 Y6 Y7
  have M5 : DM s5 al5 al5 0 := ⟨fun n hn _ => ⟨(Y6 n hn).1, (Y6 n hn).2.1, (Y6 n hn).2.2.1⟩, fun n h1 h2 => by rw [h1] at h2; cases h2⟩
  obtain ⟨s6, al6, e6, B6, w6, N6, F6, f6⟩ := drop_L (x1 := nI u) (x2 := nI (u + 1)) (all := us.length + rs.length) rs us.length FU s5 al5 Y1 M5 rs1 (fun n hn => (Y2 n).mpr (Or.inl ((rsm n).mp hn).1)) (fun j hj => by
    rw [F5.vE (by decide), F4.vE (by decide), F3.vE (by decide)]
    exact l2 j hj) rfl (by omega) (by show _ < 4000; omega)
  -- the order
  have F46 : Fr [6, 7, 8, 9, 10, 11, 12, 15] st s6 := (F12.mono (by intro q hq; simp at hq ⊢; omega)).trans ((F3.mono (by intro q hq; simp at hq ⊢; omega)).trans ((F4.mono (by intro q hq; simp at hq ⊢; omega)).trans ((F5.mono (by intro q hq; simp at hq ⊢; omega)).trans (F6.mono (by intro q hq; simp at hq ⊢; omega)))))
  have o4 : v 4 s6 = v 4 st := F46.vE (by decide)
  have N6' := B6.1.1
  have xu := v_lt 4 st u
  have xl := v_lt 4 st (u + 1)
  have N7 := NN_sI (r := 4) N6' (i := u) (x := v 4 st (u + 1)) (by omega) xl
  have N8 := NN_sI (r := 4) N7 (i := u + 1) (x := v 4 st u) (by omega) xu
  have V4 : ∀ j, v 4 (sI 4 (sI 4 s6 (nI u) (nI (v 4 st (u + 1)))) (nI (u + 1)) (nI (v 4 st u))) j = if j = u + 1 then v 4 st u else if j = u then v 4 st (u + 1) else v 4 st j := fun j => by
    rw [v_sI (by omega) xu, v_sI (by omega) xl, o4]
    by_cases q1 : j = u + 1
    · rw [if_pos ⟨rfl, q1⟩, if_pos q1]
    · rw [if_neg (fun z => q1 z.2), if_neg q1]
      by_cases q2 : j = u
      · rw [if_pos ⟨rfl, q2⟩, if_pos q2]
      · rw [if_neg (fun z => q2 z.2), if_neg q2]
  have F8 : Fr [4] s6 (sI 4 (sI 4 s6 (nI u) (nI (v 4 st (u + 1)))) (nI (u + 1)) (nI (v 4 st u))) := (Fr_sI s6 4 _ _).trans (Fr_sI (sI 4 s6 (nI u) (nI (v 4 st (u + 1)))) 4 _ _)
  have f8 : (sI 4 (sI 4 s6 (nI u) (nI (v 4 st (u + 1)))) (nI (u + 1)) (nI (v 4 st u))).2.2 = s6.2.2 := rfl
  generalize hs8 : sI 4 (sI 4 s6 (nI u) (nI (v 4 st (u + 1)))) (nI (u + 1)) (nI (v 4 st u)) = s8 at N8 V4 F8 f8
  have FA : Fr [4, 6, 7, 8, 9, 10, 11, 12, 15] st s8 := (F46.mono (by intro q hq; simp at hq ⊢; omega)).trans (F8.mono (by intro q hq; simp at hq ⊢; omega))
  have k8 : v 8 s8 = v 8 s5 := (F8.vE (by decide)).trans (F6.vE (by decide))
  have k9 : v 9 s8 = v 9 s5 := (F8.vE (by decide)).trans (F6.vE (by decide))
  have k10 : v 10 s8 = v 10 s5 := (F8.vE (by decide)).trans (F6.vE (by decide))
  have k5 : v 5 s8 = v 5 st := FA.vE (by decide)
  have B8 : BI s8 al6 al6 (fun _ => 0) := ⟨BM_same B6.1 N8 (F8.vE (by decide)) (F8.vE (by decide)) (F8.vE (by decide)) (F8.vE (by decide)) (F8.vE (by decide)) (F8.vE (by decide)) (F8.vE (by decide)) (by unfold fv; rw [f8]) (by unfold fv; rw [f8]), PR_same B6.2 (F8.vE (by decide)) (F8.vE (by decide)) (F8.vE (by decide)) (F8.vE (by decide))⟩
  have Dk : ∀ s, s < 12 → D5 (v 5 st s) = D (v 5 st s) := fun s hs => by
    rcases hS0.2.2 s hs with q | q
    · rcases (show v 5 st s = 0 ∨ v 5 st s = 1 by omega) with z | z
      · rw [z, Y4.1, DG0.2.2.1]
      · rw [z, Y4.2, DG0.2.2.2.1]
    · exact (z5 _ q).2.1
  have hroots : ∀ s, s < 12 → D5 (v 5 s8 s) = D (v 5 st s) := fun s hs => by rw [k5]; exact Dk s hs
  refine ⟨s8, al6, D5, ?_, ⟨B8, ⟨fun n hn => ?_, fun n m hn hm q1 q2 q3 => ?_, Y4.1, Y4.2, osw_ok ho hu⟩, fun i hi => ?_, fun n hn => ?_, fun s hs => by rw [hroots s hs]; exact hfin s hs⟩, ?_, hroots, FA, fun k h0 h1 => ?_⟩
  · unfold sX0_exchangeAt
    have x0 : ¬ nI u < (0 : Int32) := by rw [n_0, nI_ltE (by omega) (by omega)]; omega
    have x1 : nI (u + 1) < (10 : Int32) := by rw [n_10, nI_ltE (by omega) (by omega)]; omega
    have y1 : sX0_takeAll st (nI u) (0 : Int32) = some (nI us.length, s1) := by rw [n_0]; exact e1
    have y4 : sX0_exchangeAt_L61 FU s3 (nI u) (nI (u + 1)) (nI us.length) (nI (us.length + rs.length)) (0 : Int32) = some s4 := by rw [n_0]; exact e4
    have y5 : sX0_exchangeAt_L88 FU s4 (nI u) (nI (u + 1)) (nI us.length) (nI (us.length + rs.length)) (0 : Int32) = some s5 := by rw [n_0]; exact e5
    rw [nI_add1, lt_e, if_neg x0, if_pos x1, y1, ob2_s, e2, ob2_s, e3, ob_s, y4, ob_s, y5, ob_s, e6, ob_s, gd_in (by omega) (by omega), gI_v N6' (by decide) (by omega), o4, lt_e, gd_in (by omega) (by omega), gd_in (by omega) (by omega), gI_v N6' (by decide) (by omega), o4, lt_e, gd_in (by omega) (by omega), hs8, lt_e]
  · have hal := w6 n hn
    obtain ⟨q1, q2, q3, q4, q5⟩ := B8.1.2.2.2.2.2.1 n hn
    obtain ⟨r1, r2, r3, r4⟩ := Y6 n hal
    have e9 : v 9 s8 n = v 9 s5 n := by rw [k9]
    have e10 : v 10 s8 n = v 10 s5 n := by rw [k10]
    refine ⟨q1, q2, q3, q4, q5, ?_, ?_, ?_, ?_⟩
    · rw [k8, k9]; exact r1
    · rw [k8, k10]; exact r2
    · rw [k9, k10]; exact r3
    · rw [k8, k9, k10]; exact r4
  · rw [k8] at q1
    rw [k9] at q2
    rw [k10] at q3
    exact Y7 n m (w6 n hn) (w6 m hm) q1 q2 q3
  · rw [V4]
    unfold osw
    by_cases q1 : i = u + 1
    · rw [if_pos q1, if_neg (by omega), if_pos q1, hord u (by omega)]
    · rw [if_neg q1]
      by_cases q2 : i = u
      · rw [if_pos q2, if_pos q2, hord _ hu]
      · rw [if_neg q2, if_neg q2, if_neg q1, hord i hi]
  · rw [F8.vE (by decide)]
    exact N6 n hn (Y12 n (w6 n hn) List.not_mem_nil)
  · unfold FS
    refine List.map_congr_left (fun s hs => hroots s (List.mem_range.mp hs))
  · rw [f8, f6 k h0 h1, f5 k h0 h1, f4 k h1, f3 k h1, f2 k h1, f1 k h1]
