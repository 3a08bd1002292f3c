/-! THE LAW ON STATES, from its first loop on -/
theorem neg_no {n : Nat} (h : n < 2147483648) : ¬ nI n < (-1 : Int32) := fun z => by
  have := Int32.lt_iff_toInt_lt.mp z
  rw [nI_toInt h, show (-1 : Int32).toInt = -1 by decide +kernel] at this
  omega
section LW
variable {S : List Fn} {B : Nat} {st : St} {xL : Nat} {xs : Nat → Int32}
theorem law_L51 : ∀ (d n i : Nat) (o : Nat → Nat) (C : Nat) (s1 : St), i + d = 6 → d < n → K S o C s1 → C + 100 * d < 1000000000 →
    ∃ o' st', sL_law_L51 xL xs n s1 (nI i) = some st' ∧ K S o' (C + 100 * d) st' := by
  intro d
  induction d with
  | zero =>
    intro n i o C s1 hi hn k hC
    obtain ⟨n, rfl⟩ : ∃ m, n = m + 1 := ⟨n - 1, by omega⟩
    obtain rfl : i = 6 := by omega
    exact ⟨o, s1, by rw [sL_law_L51, if_pos (by rw [n_6, nI_leE (by omega) (by omega)]; omega)], k⟩
  | succ d ih =>
    intro n i o C s1 hi hn k hC
    obtain ⟨n, rfl⟩ : ∃ m, n = m + 1 := ⟨n - 1, by omega⟩
    obtain ⟨x3, hx3⟩ : ∃ x, x = cellV xL xs (nI (3 + i)) := ⟨_, rfl⟩
    obtain ⟨a, ea, ha⟩ : ∃ r, sL_below s1 x3 (2 : Int32) = some (nI r) ∧ r < 2 := below_ok s1 x3 (n := 2) (by omega) (by omega)
    have base : sL_law_L51 xL xs (n + 1) s1 (nI i) = if ¬ nI a = 0 then (
        ob (sL_below s1 (x3 >>> ((1 : Int32) &&& 31)) (10 : Int32)) fun r_7 =>
        ob2 (sX3_sift s1 r_7) fun r_10 st_8 =>
        ob2 (sL_isSound st_8) fun r_13 st_11 =>
        if ¬ r_13 = 0 then (
          lt (nI i + 1) fun x2_15 =>
          sL_law_L51 xL xs n st_11 x2_15)
        else (
          none))
      else (
        ob (sL_below s1 (x3 >>> ((1 : Int32) &&& 31)) (9 : Int32)) fun r_17 =>
        ob2 (sX3_swap s1 r_17) fun r_20 st_18 =>
        ob2 (sL_isSound st_18) fun r_23 st_21 =>
        if ¬ r_23 = 0 then (
          lt (nI i + 1) fun x2_25 =>
          sL_law_L51 xL xs n st_21 x2_25)
        else (
          none)) := by
      rw [sL_law_L51, if_neg (by rw [n_6, nI_leE (by omega) (by omega)]; omega), n_3, nI_addE, gd_in (by omega) (by omega), ← hx3, lt_e, ea, ob_s]
    rw [base]
    have one : ¬ (1 : Int32) = 0 := by decide +kernel
    by_cases c : nI a = 0
    · rw [if_neg (fun z => z c)]
      obtain ⟨r, er, hr⟩ : ∃ r, sL_below s1 (x3 >>> ((1 : Int32) &&& 31)) (9 : Int32) = some (nI r) ∧ r < 9 := below_ok s1 _ (n := 9) (by omega) (by omega)
      obtain ⟨q, o2, s2, e2, k2⟩ := swap_K k hr
      obtain ⟨s3, e3, k3⟩ := isSound_K k2 (by omega)
      obtain ⟨o4, s4, e4, k4⟩ := ih n (i + 1) o2 (C + 100) s3 (by omega) (by omega) (K_le k3 (by omega)) (by omega)
      refine ⟨o4, s4, ?_, by rw [show C + 100 * (d + 1) = C + 100 + 100 * d by omega]; exact k4⟩
      rw [er, ob_s, e2, ob2_s, e3, ob2_s, if_pos one, nI_add1, lt_e]
      exact e4
    · rw [if_pos c]
      obtain ⟨r, er, hr⟩ : ∃ r, sL_below s1 (x3 >>> ((1 : Int32) &&& 31)) (10 : Int32) = some (nI r) ∧ r < 10 := below_ok s1 _ (n := 10) (by omega) (by omega)
      obtain ⟨q, o2, s2, e2, k2⟩ := sift_K k hr
      obtain ⟨s3, e3, k3⟩ := isSound_K k2 (by omega)
      obtain ⟨o4, s4, e4, k4⟩ := ih n (i + 1) o2 (C + 100) s3 (by omega) (by omega) (K_le k3 (by omega)) (by omega)
      refine ⟨o4, s4, ?_, by rw [show C + 100 * (d + 1) = C + 100 + 100 * d by omega]; exact k4⟩
      rw [er, ob_s, e2, ob2_s, e3, ob2_s, if_pos one, nI_add1, lt_e]
      exact e4
/-- the last stretch: models, total, settling, and all once more -/
theorem tail_K {o : Nat → Nat} (k : K S o B st) (hB : B + 300 < 1000000000) : ∃ (r1 r2 r3 : Int32) (T : Nat) (o' : Nat → Nat) (T' : Nat) (s2 s3 : St),
    sX3_models st (0 : Int32) = some r1 ∧ sX3_models st (1 : Int32) = some r2 ∧ sX3_models st (2 : Int32) = some r3 ∧ sX3_total st = some (nI T) ∧ sX3_settle st = some (nI (T - T'), s2) ∧ T' ≤ T ∧ T ≤ 400 ∧ sX3_total s2 = some (nI T') ∧
    sL_isSound s2 = some ((1 : Int32), s3) ∧ sX3_models s3 (0 : Int32) = some r1 ∧ sX3_models s3 (1 : Int32) = some r2 ∧ sX3_models s3 (2 : Int32) = some r3 := by
  obtain ⟨o', s2, e2, h2, k2⟩ := settle_K k
  obtain ⟨s3, e3, k3⟩ := isSound_K k2 (by omega)
  exact ⟨_, _, _, nAll S o, o', nAll S o', s2, s3, models_K k (a := 0) (by omega), models_K k (a := 1) (by omega), models_K k (a := 2) (by omega), total_K k, e2, h2, k.1.2.2.2, total_K k2, e3, models_K k3 (a := 0) (by omega), models_K k3 (a := 1) (by omega), models_K k3 (a := 2) (by omega)⟩
theorem law_K {o : Nat → Nat} (k : K S o B st) (hB : B < 1000000) : ∃ st', sL_law xL xs st = some st' := by
  obtain ⟨o1, s1, e1, k1⟩ := law_L51 (xL := xL) (xs := xs) 6 FU 0 o B st (by omega) (by decide) k (by omega)
  obtain ⟨a28, e28, h28⟩ : ∃ r, sL_below s1 (cellV xL xs (9 : Int32)) (10 : Int32) = some (nI r) ∧ r < 10 := below_ok s1 _ (n := 10) (by omega) (by omega)
  obtain ⟨a30, e30, h30⟩ : ∃ r, sL_below s1 (cellV xL xs (10 : Int32)) (10 : Int32) = some (nI r) ∧ r < 10 := below_ok s1 _ (n := 10) (by omega) (by omega)
  obtain ⟨a32, e32, h32⟩ : ∃ r, sL_below s1 (cellV xL xs (11 : Int32)) (1024 : Int32) = some (nI r) ∧ r < 1024 := below_ok s1 _ (n := 1024) (by omega) (by omega)
  obtain ⟨dg, hdg⟩ := digest_K S o1
  obtain ⟨s2, e2, k2⟩ := hdg s1 _ k1 (by omega)
  obtain ⟨a37, e37, h37⟩ : ∃ r, sL_below s2 (cellV xL xs (13 : Int32)) (9 : Int32) = some (nI r) ∧ r < 9 := below_ok s2 _ (n := 9) (by omega) (by omega)
  obtain ⟨r40, s3, e3, h40, k3⟩ := wouldSwap_K k2 h37
  have c40 : ¬ r40 < (-1 : Int32) := by
    rcases h40 with rfl | ⟨n, hn, rfl⟩
    · decide +kernel
    · exact neg_no (by omega)
  obtain ⟨b44, s4, e4, h44, k4⟩ := wouldSift_K k3 h30
  obtain ⟨r48, s5, e5, h48, k5⟩ : ∃ r st', sX3_leastSize s4 (0 : Int32) = some (r, st') ∧ (r = -1 ∨ ∃ n, n ≤ nAll [sl S 0, sl S 0] o1 ∧ r = nI n) ∧ K S o1 _ st' := leastSize_K k4 (a := 0) (by omega)
  obtain ⟨s6, e6, k6⟩ : ∃ st', sX3_size s5 (0 : Int32) = some (nI (nAll [sl S 0, sl S 0] o1), st') ∧ K S o1 (_ + 1) st' := size_K k5 (by omega) (a := 0) (by omega)
  have b51 : nAll [sl S 0, sl S 0] o1 ≤ 508 := two_le (OS_ok k5.1.1) (K_fin k5 (by omega)) (K_fin k5 (by omega))
  have c51 : ¬ nI (nAll [sl S 0, sl S 0] o1) < r48 := by
    rcases h48 with rfl | ⟨n, hn, rfl⟩
    · exact neg_no (by omega)
    · rw [nI_ltE (by omega) (by omega)]
      omega
  obtain ⟨s7, e7, k7⟩ := hdg s6 _ k6 (by omega)
  have c55 : lg_cmp dg dg = 0 := (lg_cmp0 _ _).mpr rfl
  obtain ⟨a58, e58, h58⟩ : ∃ r, sL_below s7 (cellV xL xs (12 : Int32)) (16 : Int32) = some (nI r) ∧ r < 16 := below_ok s7 _ (n := 16) (by omega) (by omega)
  obtain ⟨r61, S1, s8, e8, c61, k8⟩ := first_K k7 (by omega) h58 h28 h30
  obtain ⟨r65, S2, s9, e9, c65, k9⟩ := second_K k8 (by omega) h28
  obtain ⟨r69, S3, s10, e10, c69, k10⟩ := third_K k9 (by omega) h32 h28
  obtain ⟨r73, S4, s11, e11, c73, k11⟩ := fourth_K k10 (by omega)
  have e76 : sX3_cheapest s11 (2 : Int32) = some (mdl (sl S4 2) 0) := cheapest_K k11 (a := 2) (by omega)
  have e78 : sX3_model s11 (2 : Int32) (0 : Int32) = some (mdl (sl S4 2) 0) := model_K k11 (a := 2) (q := 0) (by omega) (by omega)
  have e81 : sX3_models s11 (2 : Int32) = some (nI (cnt 1024 (sl S4 2))) := models_K k11 (a := 2) (by omega)
  have b81 := cnt_le 1024 (sl S4 2)
  obtain ⟨s12, e12, k12⟩ := isSound_K k11 (by omega)
  obtain ⟨r1, r2, r3, T, o', T', s13, s14, t1, t2, t3, t4, t5, t6, t7, t8, t9, t10, t11, t12⟩ := tail_K k12 (by omega)
  have one : ¬ (1 : Int32) = 0 := by decide +kernel
  have cT : nI T - nI (T - T') = nI T' := by
    rw [nI_subE (Nat.sub_le _ _)]
    congr 1
    omega
  have e1' : sL_law_L51 xL xs FU st (0 : Int32) = some s1 := by rw [n_0]; exact e1
  refine ⟨s14, ?_⟩
  unfold sL_law
  rw [e1', ob_s, e28, ob_s, e30, ob_s, e32, ob_s, e2, ob2_s, e37, ob_s, e3, ob2_s, if_neg c40, e4, ob2_s, if_neg (nI_pos (by omega)), e5, ob2_s, e6, ob2_s, if_neg c51, e7, ob2_s, if_pos c55, e58, ob_s, e8, ob2_s, if_neg c61, e9, ob2_s, if_neg c65, e10, ob2_s, if_neg c69, e11, ob2_s, if_pos c73, e76, ob_s, e78, ob_s, if_neg (fun z => z rfl), e81, ob_s]
  by_cases c81 : nI (cnt 1024 (sl S4 2)) ≤ 0
  · rw [if_pos c81, e12, ob2_s, if_pos one, t1, ob_s, t2, ob_s, t3, ob_s, lt_e, t4, ob_s, t5, ob2_s, if_neg (nI_pos (by omega)), t8, ob_s, cT, if_neg (fun z => z rfl), t9, ob2_s, if_neg one, t10, ob_s, t11, ob_s, t12, ob_s, if_neg (fun z => z rfl)]
  · have hpos : 0 < cnt 1024 (sl S4 2) := by
      rw [n_0, nI_leE (by omega) (by omega)] at c81
      omega
    obtain ⟨y, hy, hfy⟩ := cnt_ex hpos
    rcases mdl_0 (K_sl k11 (a := 2) (by omega)) with ⟨-, hno⟩ | ⟨x, hx, hfx, -, hm⟩
    · rw [hno y hy] at hfy
      cases hfy
    · have e115 : sX3_holds s11 (2 : Int32) (nI x) = some (nI (if sl S4 2 x then 1 else 0)) := holds_K k11 (a := 2) (by omega) hx
      rw [hfx, if_pos rfl] at e115
      rw [if_neg c81, hm, e115, ob_s, if_neg nI1_ne, e12, ob2_s, if_pos one, t1, ob_s, t2, ob_s, t3, ob_s, lt_e, t4, ob_s, t5, ob2_s, if_neg (nI_pos (by omega)), t8, ob_s, cT, if_neg (fun z => z rfl), t9, ob2_s, if_neg one, t10, ob_s, t11, ob_s, t12, ob_s, if_neg (fun z => z rfl)]
end LW
