/-! THE LAW ON STATES: each of its checks answers as it should -/
theorem n_3 : (3 : Int32) = nI 3 := by decide +kernel
theorem neg1_lt : (-1 : Int32) < 0 := by decide +kernel
theorem neg1_nge : ¬ (0 : Int32) ≤ -1 := by decide +kernel
theorem nI_z {n : Nat} (h : n < 2147483648) : (nI n = (0 : Int32)) = (n = 0) := by rw [n_0, nI_eqE h (by omega)]
theorem nI_o {n : Nat} (h : n < 2147483648) : (nI n = (1 : Int32)) = (n = 1) := by rw [n_1, nI_eqE h (by omega)]
theorem gz_ne {α : Type} {y : Int32} {x : Option α} (h : ¬ y = 0) : gz y x = x := by unfold gz; rw [if_neg h]
theorem nI_div {a n : Nat} (ha : a < 2147483648) (hn : n < 2147483648) : nI a / nI n = nI (a / n) := by
  apply Int32.toInt_inj.mp
  have h1 : nI n ≠ -1 := fun e => by
    have h2 := congrArg Int32.toInt e
    rw [nI_toInt hn, show (-1 : Int32).toInt = -1 by decide +kernel] at h2
    omega
  rw [Int32.toInt_div_of_ne_right _ _ h1, nI_toInt ha, nI_toInt hn, nI_toInt (Nat.lt_of_le_of_lt (Nat.div_le_self _ _) ha)]
  exact (Int.ofNat_tdiv a n).symm
theorem nI_rem {a n : Nat} (ha : a < 2147483648) (hn : n < 2147483648) : nI a - nI a / nI n * nI n = nI (a % n) := by
  rw [nI_div ha hn, nI_mulE, nI_subE (Nat.div_mul_le_self a n)]
  congr 1
  have := Nat.mod_add_div a n
  rw [Nat.mul_comm (a / n) n]
  omega
theorem and31 (x : Int32) : ∃ k, k < 2147483648 ∧ x &&& (2147483647 : Int32) = nI k := by
  refine ⟨(x.toBitVec &&& 2147483647#32).toNat, ?_, ?_⟩
  · rw [BitVec.toNat_and]
    exact Nat.lt_of_le_of_lt Nat.and_le_right (by decide)
  · apply Int32.toBitVec_inj.mp
    show x.toBitVec &&& 2147483647#32 = BitVec.ofNat 32 _
    rw [BitVec.ofNat_toNat, BitVec.setWidth_eq]
theorem below_ok (st : St) (x : Int32) {n : Nat} (h0 : 0 < n) (hn : n ≤ 1024) : ∃ r, sL_below st x (nI n) = some (nI r) ∧ r < n := by
  obtain ⟨a, ha, e⟩ := and31 x
  refine ⟨a % n, ?_, Nat.mod_lt _ h0⟩
  unfold sL_below
  rw [gz_ne (by rw [nI_z (by omega)]; omega), e, nI_rem ha (by omega)]
theorem sl_ne {S : List Fn} {s k : Nat} {f : Fn} (h : k ≠ s) : sl (S.set s f) k = sl S k := by
  unfold sl
  rw [List.getD_eq_getElem?_getD, List.getD_eq_getElem?_getD, List.getElem?_set_ne (Ne.symm h)]
theorem sl_eq {S : List Fn} {s : Nat} {f : Fn} (h : S.length = 12) (hs : s < 12) : sl (S.set s f) s = f := by
  unfold sl
  rw [List.getD_eq_getElem?_getD, List.getElem?_set_self (by rw [h]; exact hs)]
  rfl
theorem first_K {S : List Fn} {o : Nat → Nat} {B : Nat} {st : St} (k : K S o B st) (hB : B + 20 < 2000000000) {m v w : Nat} (hm : m < 16) (hv : v < 10) (hw : w < 10) : ∃ r S' st', sL_first st (nI m) (nI v) (nI w) = some (r, st') ∧ ¬ r = 0 ∧ K S' o (B + 12) st' := by
  have hl := K_len k
  have e15 : (15 : Int32) - nI m = nI (15 - m) := by rw [n_15, nI_subE (show m ≤ 15 by omega)]
  obtain ⟨q1, s1, e1, p1⟩ : ∃ q st', sX3_apply st (3 : Int32) (0 : Int32) (1 : Int32) (nI m) = some (q, st') ∧ PL (S) 3 (fA m (sl S 0) (sl S 1)) o (B + 0) q st' := apply_K k (by omega) (s := 3) (a := 0) (b := 1) (by omega) (by omega) (by omega) hm
  rcases Or.symm p1 with ⟨rfl, k1⟩ | ⟨m1, hm1, rfl, k1⟩
  · exact ⟨2, _, s1, by unfold sL_first; rw [e1, ob2_s, if_pos neg1_lt], by decide, K_le k1 (by omega)⟩
  obtain ⟨S1, hS1⟩ : ∃ T, T = S.set 3 (fA m (sl S 0) (sl S 1)) := ⟨_, rfl⟩
  rw [← hS1] at k1
  have hl1 : S1.length = 12 := K_len k1
  have h1_0 : sl S1 0 = sl S 0 := by rw [hS1, sl_ne (by decide)]
  have h1_1 : sl S1 1 = sl S 1 := by rw [hS1, sl_ne (by decide)]
  have h1_3 : sl S1 3 = fA m (sl S 0) (sl S 1) := by rw [hS1, sl_eq hl (by decide)]
  obtain ⟨q2, s2, e2, p2⟩ : ∃ q st', sX3_apply s1 (4 : Int32) (0 : Int32) (1 : Int32) (nI (15 - m)) = some (q, st') ∧ PL (S1) 4 (fA (15 - m) (sl S1 0) (sl S1 1)) o (B + 1) q st' := apply_K k1 (by omega) (s := 4) (a := 0) (b := 1) (by omega) (by omega) (by omega) (by omega)
  rcases Or.symm p2 with ⟨rfl, k2⟩ | ⟨m2, hm2, rfl, k2⟩
  · exact ⟨2, _, s2, by unfold sL_first; rw [e1, ob2_s, if_neg (nI_pos hm1), e15, e2, ob2_s, if_pos neg1_lt], by decide, K_le k2 (by omega)⟩
  obtain ⟨S2, hS2⟩ : ∃ T, T = S1.set 4 (fA (15 - m) (sl S1 0) (sl S1 1)) := ⟨_, rfl⟩
  rw [← hS2] at k2
  have hl2 : S2.length = 12 := K_len k2
  have h2_0 : sl S2 0 = sl S 0 := by rw [hS2, sl_ne (by decide), h1_0]
  have h2_1 : sl S2 1 = sl S 1 := by rw [hS2, sl_ne (by decide), h1_1]
  have h2_3 : sl S2 3 = fA m (sl S 0) (sl S 1) := by rw [hS2, sl_ne (by decide), h1_3]
  have h2_4 : sl S2 4 = fA (15 - m) (sl S 0) (sl S 1) := by rw [hS2, sl_eq hl1 (by decide), h1_0, h1_1]
  obtain ⟨q3, s3, e3, p3⟩ : ∃ q st', sX3_exchange s2 (5 : Int32) (0 : Int32) (nI v) (nI w) = some (q, st') ∧ PL (S2) 5 (crs v w (sl S2 0)) o (B + 2) q st' := exchange_K k2 (by omega) (s := 5) (a := 0) (by omega) (by omega) hv hw
  rcases Or.symm p3 with ⟨rfl, k3⟩ | ⟨m3, hm3, rfl, k3⟩
  · exact ⟨2, _, s3, by unfold sL_first; rw [e1, ob2_s, if_neg (nI_pos hm1), e15, e2, ob2_s, if_neg (nI_pos hm2), e3, ob2_s, if_pos neg1_lt], by decide, K_le k3 (by omega)⟩
  obtain ⟨S3, hS3⟩ : ∃ T, T = S2.set 5 (crs v w (sl S2 0)) := ⟨_, rfl⟩
  rw [← hS3] at k3
  have hl3 : S3.length = 12 := K_len k3
  have h3_0 : sl S3 0 = sl S 0 := by rw [hS3, sl_ne (by decide), h2_0]
  have h3_1 : sl S3 1 = sl S 1 := by rw [hS3, sl_ne (by decide), h2_1]
  have h3_3 : sl S3 3 = fA m (sl S 0) (sl S 1) := by rw [hS3, sl_ne (by decide), h2_3]
  have h3_4 : sl S3 4 = fA (15 - m) (sl S 0) (sl S 1) := by rw [hS3, sl_ne (by decide), h2_4]
  have h3_5 : sl S3 5 = crs v w (sl S 0) := by rw [hS3, sl_eq hl2 (by decide), h2_0]
  obtain ⟨q4, s4, e4, p4⟩ : ∃ q st', sX3_exchange s3 (5 : Int32) (5 : Int32) (nI w) (nI v) = some (q, st') ∧ PL (S3) 5 (crs w v (sl S3 5)) o (B + 3) q st' := exchange_K k3 (by omega) (s := 5) (a := 5) (by omega) (by omega) hw hv
  rcases Or.symm p4 with ⟨rfl, k4⟩ | ⟨m4, hm4, rfl, k4⟩
  · exact ⟨2, _, s4, by unfold sL_first; rw [e1, ob2_s, if_neg (nI_pos hm1), e15, e2, ob2_s, if_neg (nI_pos hm2), e3, ob2_s, if_neg (nI_pos hm3), e4, ob2_s, if_neg neg1_nge], by decide, K_le k4 (by omega)⟩
  obtain ⟨S4, hS4⟩ : ∃ T, T = S3.set 5 (crs w v (sl S3 5)) := ⟨_, rfl⟩
  rw [← hS4] at k4
  have hl4 : S4.length = 12 := K_len k4
  have h4_0 : sl S4 0 = sl S 0 := by rw [hS4, sl_ne (by decide), h3_0]
  have h4_1 : sl S4 1 = sl S 1 := by rw [hS4, sl_ne (by decide), h3_1]
  have h4_3 : sl S4 3 = fA m (sl S 0) (sl S 1) := by rw [hS4, sl_ne (by decide), h3_3]
  have h4_4 : sl S4 4 = fA (15 - m) (sl S 0) (sl S 1) := by rw [hS4, sl_ne (by decide), h3_4]
  have h4_5 : sl S4 5 = sl S 0 := by rw [hS4, sl_eq hl3 (by decide), h3_5, crs_twice]
  have c1 : cnt 1024 (fA m (sl S 0) (sl S 1)) + cnt 1024 (fA (15 - m) (sl S 0) (sl S 1)) = 1024 := morgan_models hm _ _
  have c2 : cmpV (fA m (sl S 0) (sl S 1)) (fA (15 - m) (sl S 0) (sl S 1)) < 4 := morgan_cmp hm _ _
  have x1 : sX3_models s4 (3 : Int32) = some (nI (cnt 1024 (sl S4 3))) := models_K k4 (a := 3) (by omega)
  have x2 : sX3_models s4 (4 : Int32) = some (nI (cnt 1024 (sl S4 4))) := models_K k4 (a := 4) (by omega)
  have x3 : sX3_compare s4 (3 : Int32) (4 : Int32) = some (nI (cmpV (sl S4 3) (sl S4 4))) := compare_K k4 (a := 3) (b := 4) (by omega) (by omega)
  have x4 : sX3_compare s4 (5 : Int32) (0 : Int32) = some (nI (cmpV (sl S4 5) (sl S4 0))) := compare_K k4 (a := 5) (b := 0) (by omega) (by omega)
  rw [h4_3] at x1
  rw [h4_4] at x2
  rw [h4_3, h4_4] at x3
  rw [h4_5, h4_0, cmp_self] at x4
  refine ⟨1, S4, s4, ?_, by decide, K_le k4 (by omega)⟩
  unfold sL_first
  rw [e1, ob2_s, if_neg (nI_pos hm1), e15, e2, ob2_s, if_neg (nI_pos hm2), e3, ob2_s, if_neg (nI_pos hm3), e4, ob2_s, if_pos (nI_pos' hm4), x1, ob_s, x2, ob_s, nI_addE, c1, if_neg (fun z => z n_1024.symm), x3, ob_s, c_4, if_neg (by rw [nI_leE (by omega) (by omega)]; omega), x4, ob_s, if_neg (fun z => z n_0.symm)]
theorem second_K {S : List Fn} {o : Nat → Nat} {B : Nat} {st : St} (k : K S o B st) (hB : B + 20 < 2000000000) {v : Nat} (hv : v < 10) : ∃ r S' st', sL_second st (nI v) = some (r, st') ∧ ¬ r = 0 ∧ K S' o (B + 12) st' := by
  have hl := K_len k
  obtain ⟨q1, s1, e1, p1⟩ : ∃ q st', sX3_put st (6 : Int32) (0 : Int32) (nI v) (0 : Int32) = some (q, st') ∧ PL (S) 6 (co v false (sl S 0)) o (B + 0) q st' := put_K k (by omega) (s := 6) (a := 0) (by omega) (by omega) hv false
  rcases Or.symm p1 with ⟨rfl, k1⟩ | ⟨m1, hm1, rfl, k1⟩
  · exact ⟨2, _, s1, by unfold sL_second; rw [e1, ob2_s, if_pos neg1_lt], by decide, K_le k1 (by omega)⟩
  obtain ⟨S1, hS1⟩ : ∃ T, T = S.set 6 (co v false (sl S 0)) := ⟨_, rfl⟩
  rw [← hS1] at k1
  have hl1 : S1.length = 12 := K_len k1
  have h1_0 : sl S1 0 = sl S 0 := by rw [hS1, sl_ne (by decide)]
  have h1_1 : sl S1 1 = sl S 1 := by rw [hS1, sl_ne (by decide)]
  have h1_6 : sl S1 6 = co v false (sl S 0) := by rw [hS1, sl_eq hl (by decide)]
  obtain ⟨q2, s2, e2, p2⟩ : ∃ q st', sX3_put s1 (7 : Int32) (0 : Int32) (nI v) (1 : Int32) = some (q, st') ∧ PL (S1) 7 (co v true (sl S1 0)) o (B + 1) q st' := put_K k1 (by omega) (s := 7) (a := 0) (by omega) (by omega) hv true
  rcases Or.symm p2 with ⟨rfl, k2⟩ | ⟨m2, hm2, rfl, k2⟩
  · exact ⟨2, _, s2, by unfold sL_second; rw [e1, ob2_s, if_neg (nI_pos hm1), e2, ob2_s, if_pos neg1_lt], by decide, K_le k2 (by omega)⟩
  obtain ⟨S2, hS2⟩ : ∃ T, T = S1.set 7 (co v true (sl S1 0)) := ⟨_, rfl⟩
  rw [← hS2] at k2
  have hl2 : S2.length = 12 := K_len k2
  have h2_0 : sl S2 0 = sl S 0 := by rw [hS2, sl_ne (by decide), h1_0]
  have h2_1 : sl S2 1 = sl S 1 := by rw [hS2, sl_ne (by decide), h1_1]
  have h2_6 : sl S2 6 = co v false (sl S 0) := by rw [hS2, sl_ne (by decide), h1_6]
  have h2_7 : sl S2 7 = co v true (sl S 0) := by rw [hS2, sl_eq hl1 (by decide), h1_0]
  obtain ⟨q3, s3, e3, p3⟩ : ∃ q st', sX3_variable s2 (8 : Int32) (nI v) = some (q, st') ∧ PL (S2) 8 (fV v) o (B + 2) q st' := variable_K k2 (by omega) (s := 8) (by omega) hv
  rcases Or.symm p3 with ⟨rfl, k3⟩ | ⟨m3, hm3, rfl, k3⟩
  · exact ⟨2, _, s3, by unfold sL_second; rw [e1, ob2_s, if_neg (nI_pos hm1), e2, ob2_s, if_neg (nI_pos hm2), e3, ob2_s, if_pos neg1_lt], by decide, K_le k3 (by omega)⟩
  obtain ⟨S3, hS3⟩ : ∃ T, T = S2.set 8 (fV v) := ⟨_, rfl⟩
  rw [← hS3] at k3
  have hl3 : S3.length = 12 := K_len k3
  have h3_0 : sl S3 0 = sl S 0 := by rw [hS3, sl_ne (by decide), h2_0]
  have h3_1 : sl S3 1 = sl S 1 := by rw [hS3, sl_ne (by decide), h2_1]
  have h3_6 : sl S3 6 = co v false (sl S 0) := by rw [hS3, sl_ne (by decide), h2_6]
  have h3_7 : sl S3 7 = co v true (sl S 0) := by rw [hS3, sl_ne (by decide), h2_7]
  have h3_8 : sl S3 8 = fV v := by rw [hS3, sl_eq hl2 (by decide)]
  obtain ⟨q4, s4, e4, p4⟩ : ∃ q st', sX3_choose s3 (9 : Int32) (8 : Int32) (7 : Int32) (6 : Int32) = some (q, st') ∧ PL (S3) 9 (fC (sl S3 8) (sl S3 7) (sl S3 6)) o (B + 3) q st' := choose_K k3 (by omega) (s := 9) (a := 8) (b := 7) (c := 6) (by omega) (by omega) (by omega) (by omega)
  rcases Or.symm p4 with ⟨rfl, k4⟩ | ⟨m4, hm4, rfl, k4⟩
  · exact ⟨2, _, s4, by unfold sL_second; rw [e1, ob2_s, if_neg (nI_pos hm1), e2, ob2_s, if_neg (nI_pos hm2), e3, ob2_s, if_neg (nI_pos hm3), e4, ob2_s, if_neg neg1_nge], by decide, K_le k4 (by omega)⟩
  obtain ⟨S4, hS4⟩ : ∃ T, T = S3.set 9 (fC (sl S3 8) (sl S3 7) (sl S3 6)) := ⟨_, rfl⟩
  rw [← hS4] at k4
  have hl4 : S4.length = 12 := K_len k4
  have h4_0 : sl S4 0 = sl S 0 := by rw [hS4, sl_ne (by decide), h3_0]
  have h4_1 : sl S4 1 = sl S 1 := by rw [hS4, sl_ne (by decide), h3_1]
  have h4_6 : sl S4 6 = co v false (sl S 0) := by rw [hS4, sl_ne (by decide), h3_6]
  have h4_7 : sl S4 7 = co v true (sl S 0) := by rw [hS4, sl_ne (by decide), h3_7]
  have h4_8 : sl S4 8 = fV v := by rw [hS4, sl_ne (by decide), h3_8]
  have h4_9 : sl S4 9 = sl S 0 := by rw [hS4, sl_eq hl3 (by decide), h3_6, h3_7, h3_8, put_back]
  have x1 : sX3_compare s4 (9 : Int32) (0 : Int32) = some (nI (cmpV (sl S4 9) (sl S4 0))) := compare_K k4 (a := 9) (b := 0) (by omega) (by omega)
  rw [h4_9, h4_0, cmp_self] at x1
  obtain ⟨t5, x2, k5⟩ : ∃ st', sX3_size s4 (8 : Int32) = some (nI (nAll [sl S4 8, sl S4 8] o), st') ∧ K S4 o (B + 4 + 1) st' := size_K k4 (by omega) (a := 8) (by omega)
  rw [h4_8, size_V (OS_ok k4.1.1) hv] at x2
  obtain ⟨q6, s6, e6, p6⟩ : ∃ q st', sX3_compose t5 (9 : Int32) (0 : Int32) (nI v) (8 : Int32) = some (q, st') ∧ PL S4 9 (fK v (sl S4 0) (sl S4 8)) o (B + 4 + 1) q st' := compose_K k5 (by omega) (s := 9) (a := 0) (b := 8) (by omega) (by omega) hv (by omega)
  rcases Or.symm p6 with ⟨rfl, k6⟩ | ⟨m6, hm6, rfl, k6⟩
  · exact ⟨2, _, s6, by unfold sL_second; rw [e1, ob2_s, if_neg (nI_pos hm1), e2, ob2_s, if_neg (nI_pos hm2), e3, ob2_s, if_neg (nI_pos hm3), e4, ob2_s, if_pos (nI_pos' hm4), x1, ob_s, if_neg (fun z => z n_0.symm), x2, ob2_s, if_neg (fun z => z n_1.symm), e6, ob2_s, if_neg neg1_nge], by decide, K_le k6 (by omega)⟩
  rw [h4_0, h4_8, compose_self] at k6
  obtain ⟨S6, hS6⟩ : ∃ T, T = S4.set 9 (sl S 0) := ⟨_, rfl⟩
  rw [← hS6] at k6
  have g9 : sl S6 9 = sl S 0 := by rw [hS6, sl_eq hl4 (by decide)]
  have g0 : sl S6 0 = sl S 0 := by rw [hS6, sl_ne (by decide), h4_0]
  have g6 : sl S6 6 = co v false (sl S 0) := by rw [hS6, sl_ne (by decide), h4_6]
  have g7 : sl S6 7 = co v true (sl S 0) := by rw [hS6, sl_ne (by decide), h4_7]
  have y1 : sX3_compare s6 (9 : Int32) (0 : Int32) = some (nI (cmpV (sl S6 9) (sl S6 0))) := compare_K k6 (a := 9) (b := 0) (by omega) (by omega)
  rw [g9, g0, cmp_self] at y1
  have y2 : sX3_influence s6 (0 : Int32) (nI v) = some (nI (cnt 1024 (chg v (sl S6 0)))) := influence_K k6 (a := 0) (by omega) hv
  rw [g0] at y2
  have y3 : sX3_compare s6 (6 : Int32) (7 : Int32) = some (nI (cmpV (sl S6 6) (sl S6 7))) := compare_K k6 (a := 6) (b := 7) (by omega) (by omega)
  rw [g6, g7] at y3
  have y4 : sX3_trend s6 (0 : Int32) (nI v) = some (nI (trV v (sl S6 0))) := trend_K k6 (a := 0) (by omega) hv
  rw [g0] at y4
  have b1 := cnt_le 1024 (chg v (sl S 0))
  have b2 := cmp_le (co v false (sl S 0)) (co v true (sl S 0))
  have b3 := tr_le v (sl S 0)
  have z1 := chg_0 v (sl S 0)
  have z2 := tr_1 v (sl S 0)
  refine ⟨1, S6, s6, ?_, by decide, K_le k6 (by omega)⟩
  unfold sL_second
  rw [e1, ob2_s, if_neg (nI_pos hm1), e2, ob2_s, if_neg (nI_pos hm2), e3, ob2_s, if_neg (nI_pos hm3), e4, ob2_s, if_pos (nI_pos' hm4), x1, ob_s, if_neg (fun z => z n_0.symm), x2, ob2_s, if_neg (fun z => z n_1.symm), e6, ob2_s, if_pos (nI_pos' hm6), y1, ob_s, if_neg (fun z => z n_0.symm), y2, ob_s]
  by_cases c1 : cnt 1024 (chg v (sl S 0)) = 0
  · have c2 : cmpV (co v false (sl S 0)) (co v true (sl S 0)) = 0 := Classical.byContradiction (fun z => (z1.mpr z) c1)
    have c3 : ¬ trV v (sl S 0) = 1 := fun z => by have := z2.mp z; omega
    rw [if_pos (by rw [nI_z (by omega)]; exact c1), y3, ob_s, if_pos (by rw [nI_z (by omega)]; exact c2), y4, ob_s, if_pos (by rw [nI_o (by omega)]; exact c3), ob_s, if_pos (by rw [nI_o (by omega)]; omega)]
  · have c2 : ¬ cmpV (co v false (sl S 0)) (co v true (sl S 0)) = 0 := z1.mp c1
    rw [if_neg (by rw [nI_z (by omega)]; exact c1), y3, ob_s, if_neg (by rw [nI_z (by omega)]; exact c2), y4, ob_s]
    by_cases c3 : trV v (sl S 0) = 1
    · rw [if_neg (by rw [nI_o (by omega)]; exact fun z => z c3), ob_s, if_neg (by rw [nI_o (by omega)]; exact fun z => z (z2.mp c3))]
    · rw [if_pos (by rw [nI_o (by omega)]; exact c3), ob_s, if_pos (by rw [nI_o (by omega)]; exact fun z => c3 (z2.mpr z))]
theorem third_K {S : List Fn} {o : Nat → Nat} {B : Nat} {st : St} (k : K S o B st) (hB : B + 20 < 2000000000) {set v : Nat} (hset : set < 1024) (hv : v < 10) : ∃ r S' st', sL_third st (nI set) (nI v) = some (r, st') ∧ ¬ r = 0 ∧ K S' o (B + 12) st' := by
  have hl := K_len k
  obtain ⟨q1, s1, e1, p1⟩ : ∃ q st', sX3_quantify st (6 : Int32) (0 : Int32) (nI set) (1 : Int32) = some (q, st') ∧ PL (S) 6 (fset 1 set 10 0 (sl S 0)) o (B + 0) q st' := quantify_K k (by omega) (s := 6) (a := 0) (way := 1) (by omega) (by omega) hset (by omega)
  rcases Or.symm p1 with ⟨rfl, k1⟩ | ⟨m1, hm1, rfl, k1⟩
  · exact ⟨2, _, s1, by unfold sL_third; rw [e1, ob2_s, if_pos neg1_lt], by decide, K_le k1 (by omega)⟩
  obtain ⟨S1, hS1⟩ : ∃ T, T = S.set 6 (fset 1 set 10 0 (sl S 0)) := ⟨_, rfl⟩
  rw [← hS1] at k1
  have hl1 : S1.length = 12 := K_len k1
  have h1_0 : sl S1 0 = sl S 0 := by rw [hS1, sl_ne (by decide)]
  have h1_1 : sl S1 1 = sl S 1 := by rw [hS1, sl_ne (by decide)]
  have h1_6 : sl S1 6 = fset 1 set 10 0 (sl S 0) := by rw [hS1, sl_eq hl (by decide)]
  obtain ⟨q2, s2, e2, p2⟩ : ∃ q st', sX3_apply s1 (7 : Int32) (0 : Int32) (0 : Int32) (1 : Int32) = some (q, st') ∧ PL (S1) 7 (fA 1 (sl S1 0) (sl S1 0)) o (B + 1) q st' := apply_K k1 (by omega) (s := 7) (a := 0) (b := 0) (m := 1) (by omega) (by omega) (by omega) (by omega)
  rcases Or.symm p2 with ⟨rfl, k2⟩ | ⟨m2, hm2, rfl, k2⟩
  · exact ⟨2, _, s2, by unfold sL_third; rw [e1, ob2_s, if_neg (nI_pos hm1), e2, ob2_s, if_pos neg1_lt], by decide, K_le k2 (by omega)⟩
  obtain ⟨S2, hS2⟩ : ∃ T, T = S1.set 7 (fA 1 (sl S1 0) (sl S1 0)) := ⟨_, rfl⟩
  rw [← hS2] at k2
  have hl2 : S2.length = 12 := K_len k2
  have h2_0 : sl S2 0 = sl S 0 := by rw [hS2, sl_ne (by decide), h1_0]
  have h2_1 : sl S2 1 = sl S 1 := by rw [hS2, sl_ne (by decide), h1_1]
  have h2_6 : sl S2 6 = fset 1 set 10 0 (sl S 0) := by rw [hS2, sl_ne (by decide), h1_6]
  have h2_7 : sl S2 7 = fA 1 (sl S 0) (sl S 0) := by rw [hS2, sl_eq hl1 (by decide), h1_0]
  obtain ⟨q3, s3, e3, p3⟩ : ∃ q st', sX3_quantify s2 (7 : Int32) (7 : Int32) (nI set) (0 : Int32) = some (q, st') ∧ PL (S2) 7 (fset 0 set 10 0 (sl S2 7)) o (B + 2) q st' := quantify_K k2 (by omega) (s := 7) (a := 7) (way := 0) (by omega) (by omega) hset (by omega)
  rcases Or.symm p3 with ⟨rfl, k3⟩ | ⟨m3, hm3, rfl, k3⟩
  · exact ⟨2, _, s3, by unfold sL_third; rw [e1, ob2_s, if_neg (nI_pos hm1), e2, ob2_s, if_neg (nI_pos hm2), e3, ob2_s, if_pos neg1_lt], by decide, K_le k3 (by omega)⟩
  obtain ⟨S3, hS3⟩ : ∃ T, T = S2.set 7 (fset 0 set 10 0 (sl S2 7)) := ⟨_, rfl⟩
  rw [← hS3] at k3
  have hl3 : S3.length = 12 := K_len k3
  have h3_0 : sl S3 0 = sl S 0 := by rw [hS3, sl_ne (by decide), h2_0]
  have h3_1 : sl S3 1 = sl S 1 := by rw [hS3, sl_ne (by decide), h2_1]
  have h3_6 : sl S3 6 = fset 1 set 10 0 (sl S 0) := by rw [hS3, sl_ne (by decide), h2_6]
  have h3_7 : sl S3 7 = fset 0 set 10 0 (fA 1 (sl S 0) (sl S 0)) := by rw [hS3, sl_eq hl2 (by decide), h2_7]
  obtain ⟨q4, s4, e4, p4⟩ : ∃ q st', sX3_apply s3 (7 : Int32) (7 : Int32) (7 : Int32) (1 : Int32) = some (q, st') ∧ PL (S3) 7 (fA 1 (sl S3 7) (sl S3 7)) o (B + 3) q st' := apply_K k3 (by omega) (s := 7) (a := 7) (b := 7) (m := 1) (by omega) (by omega) (by omega) (by omega)
  rcases Or.symm p4 with ⟨rfl, k4⟩ | ⟨m4, hm4, rfl, k4⟩
  · exact ⟨2, _, s4, by unfold sL_third; rw [e1, ob2_s, if_neg (nI_pos hm1), e2, ob2_s, if_neg (nI_pos hm2), e3, ob2_s, if_neg (nI_pos hm3), e4, ob2_s, if_neg neg1_nge], by decide, K_le k4 (by omega)⟩
  obtain ⟨S4, hS4⟩ : ∃ T, T = S3.set 7 (fA 1 (sl S3 7) (sl S3 7)) := ⟨_, rfl⟩
  rw [← hS4] at k4
  have hl4 : S4.length = 12 := K_len k4
  have h4_0 : sl S4 0 = sl S 0 := by rw [hS4, sl_ne (by decide), h3_0]
  have h4_1 : sl S4 1 = sl S 1 := by rw [hS4, sl_ne (by decide), h3_1]
  have h4_6 : sl S4 6 = fset 1 set 10 0 (sl S 0) := by rw [hS4, sl_ne (by decide), h3_6]
  have h4_7 : sl S4 7 = fset 1 set 10 0 (sl S 0) := by rw [hS4, sl_eq hl3 (by decide), h3_7, all_any]
  have x1 : sX3_compare s4 (6 : Int32) (7 : Int32) = some (nI (cmpV (sl S4 6) (sl S4 7))) := compare_K k4 (a := 6) (b := 7) (by omega) (by omega)
  rw [h4_6, h4_7, cmp_self] at x1
  obtain ⟨t, x2, hsup⟩ : ∃ t, sX3_support s4 (6 : Int32) = some (nI t) ∧ SUP (sl S4 6) t := support_K k4 (a := 6) (by omega)
  rw [h4_6] at hsup
  have ht : t &&& set = 0 := fset_sup hset hsup
  have e0 : sl S4 0 = sl S 0 := h4_0
  have e1' : sl S4 1 = sl S 1 := h4_1
  obtain ⟨q5, s5, e5, p5⟩ : ∃ q st', sX3_apply s4 (6 : Int32) (0 : Int32) (1 : Int32) (8 : Int32) = some (q, st') ∧ PL S4 6 (fA 8 (sl S4 0) (sl S4 1)) o (B + 4) q st' := apply_K k4 (by omega) (s := 6) (a := 0) (b := 1) (m := 8) (by omega) (by omega) (by omega) (by omega)
  rcases Or.symm p5 with ⟨rfl, k5⟩ | ⟨m5, hm5, rfl, k5⟩
  · exact ⟨2, _, s5, by unfold sL_third; rw [e1, ob2_s, if_neg (nI_pos hm1), e2, ob2_s, if_neg (nI_pos hm2), e3, ob2_s, if_neg (nI_pos hm3), e4, ob2_s, if_pos (nI_pos' hm4), x1, ob_s, if_neg (fun z => z n_0.symm), x2, ob_s, nI_and, ht, if_neg (fun z => z n_0.symm), e5, ob2_s, if_pos neg1_lt], by decide, K_le k5 (by omega)⟩
  rw [fA_8, h4_0, h4_1] at k5
  obtain ⟨S5, hS5⟩ : ∃ T, T = S4.set 6 (fM (sl S 0) (sl S 1)) := ⟨_, rfl⟩
  rw [← hS5] at k5
  have hl5 : S5.length = 12 := K_len k5
  have g6 : sl S5 6 = fM (sl S 0) (sl S 1) := by rw [hS5, sl_eq hl4 (by decide)]
  have g0 : sl S5 0 = sl S 0 := by rw [hS5, sl_ne (by decide), h4_0]
  have g1 : sl S5 1 = sl S 1 := by rw [hS5, sl_ne (by decide), h4_1]
  obtain ⟨q6, s6, e6, p6⟩ : ∃ q st', sX3_quantify s5 (6 : Int32) (6 : Int32) (nI set) (0 : Int32) = some (q, st') ∧ PL S5 6 (fset 0 set 10 0 (sl S5 6)) o (B + 4 + 1) q st' := quantify_K k5 (by omega) (s := 6) (a := 6) (way := 0) (by omega) (by omega) hset (by omega)
  rcases Or.symm p6 with ⟨rfl, k6⟩ | ⟨m6, hm6, rfl, k6⟩
  · exact ⟨2, _, s6, by unfold sL_third; rw [e1, ob2_s, if_neg (nI_pos hm1), e2, ob2_s, if_neg (nI_pos hm2), e3, ob2_s, if_neg (nI_pos hm3), e4, ob2_s, if_pos (nI_pos' hm4), x1, ob_s, if_neg (fun z => z n_0.symm), x2, ob_s, nI_and, ht, if_neg (fun z => z n_0.symm), e5, ob2_s, if_neg (nI_pos hm5), e6, ob2_s, if_pos neg1_lt], by decide, K_le k6 (by omega)⟩
  rw [g6] at k6
  obtain ⟨S6, hS6⟩ : ∃ T, T = S5.set 6 (fset 0 set 10 0 (fM (sl S 0) (sl S 1))) := ⟨_, rfl⟩
  rw [← hS6] at k6
  have hl6 : S6.length = 12 := K_len k6
  have j6 : sl S6 6 = fset 0 set 10 0 (fM (sl S 0) (sl S 1)) := by rw [hS6, sl_eq hl5 (by decide)]
  have j0 : sl S6 0 = sl S 0 := by rw [hS6, sl_ne (by decide), g0]
  have j1 : sl S6 1 = sl S 1 := by rw [hS6, sl_ne (by decide), g1]
  obtain ⟨q7, s7, e7, p7⟩ : ∃ q st', sX3_meet s6 (7 : Int32) (0 : Int32) (1 : Int32) (nI set) = some (q, st') ∧ PL S6 7 (fset 0 set 10 0 (fM (sl S6 0) (sl S6 1))) o (B + 4 + 1 + 1) q st' := meet_K k6 (by omega) (s := 7) (a := 0) (b := 1) (by omega) (by omega) (by omega) hset
  rcases Or.symm p7 with ⟨rfl, k7⟩ | ⟨m7, hm7, rfl, k7⟩
  · exact ⟨2, _, s7, by unfold sL_third; rw [e1, ob2_s, if_neg (nI_pos hm1), e2, ob2_s, if_neg (nI_pos hm2), e3, ob2_s, if_neg (nI_pos hm3), e4, ob2_s, if_pos (nI_pos' hm4), x1, ob_s, if_neg (fun z => z n_0.symm), x2, ob_s, nI_and, ht, if_neg (fun z => z n_0.symm), e5, ob2_s, if_neg (nI_pos hm5), e6, ob2_s, if_neg (nI_pos hm6), e7, ob2_s, if_neg neg1_nge], by decide, K_le k7 (by omega)⟩
  rw [j0, j1] at k7
  obtain ⟨S7, hS7⟩ : ∃ T, T = S6.set 7 (fset 0 set 10 0 (fM (sl S 0) (sl S 1))) := ⟨_, rfl⟩
  rw [← hS7] at k7
  have hl7 : S7.length = 12 := K_len k7
  have l7 : sl S7 7 = fset 0 set 10 0 (fM (sl S 0) (sl S 1)) := by rw [hS7, sl_eq hl6 (by decide)]
  have l6 : sl S7 6 = fset 0 set 10 0 (fM (sl S 0) (sl S 1)) := by rw [hS7, sl_ne (by decide), j6]
  have l0 : sl S7 0 = sl S 0 := by rw [hS7, sl_ne (by decide), j0]
  have y1 : sX3_compare s7 (6 : Int32) (7 : Int32) = some (nI (cmpV (sl S7 6) (sl S7 7))) := compare_K k7 (a := 6) (b := 7) (by omega) (by omega)
  rw [l6, l7, cmp_self] at y1
  obtain ⟨q8, s8, e8, p8⟩ : ∃ q st', sX3_quantify s7 (6 : Int32) (0 : Int32) (nI (2 ^ v)) (2 : Int32) = some (q, st') ∧ PL S7 6 (fset 2 (2 ^ v) 10 0 (sl S7 0)) o (B + 4 + 1 + 1 + 1) q st' := quantify_K k7 (by omega) (s := 6) (a := 0) (way := 2) (by omega) (by omega) (Nat.pow_lt_pow_right (a := 2) (by omega) (show v < 10 from hv)) (by omega)
  rcases Or.symm p8 with ⟨rfl, k8⟩ | ⟨m8, hm8, rfl, k8⟩
  · exact ⟨2, _, s8, by unfold sL_third; rw [e1, ob2_s, if_neg (nI_pos hm1), e2, ob2_s, if_neg (nI_pos hm2), e3, ob2_s, if_neg (nI_pos hm3), e4, ob2_s, if_pos (nI_pos' hm4), x1, ob_s, if_neg (fun z => z n_0.symm), x2, ob_s, nI_and, ht, if_neg (fun z => z n_0.symm), e5, ob2_s, if_neg (nI_pos hm5), e6, ob2_s, if_neg (nI_pos hm6), e7, ob2_s, if_pos (nI_pos' hm7), y1, ob_s, if_neg (fun z => z n_0.symm), bit10 v hv, e8, ob2_s, if_neg neg1_nge], by decide, K_le k8 (by omega)⟩
  rw [l0, odd_two hv] at k8
  obtain ⟨S8, hS8⟩ : ∃ T, T = S7.set 6 (chg v (sl S 0)) := ⟨_, rfl⟩
  rw [← hS8] at k8
  have r6 : sl S8 6 = chg v (sl S 0) := by rw [hS8, sl_eq hl7 (by decide)]
  have r0 : sl S8 0 = sl S 0 := by rw [hS8, sl_ne (by decide), l0]
  have w1 : sX3_models s8 (6 : Int32) = some (nI (cnt 1024 (sl S8 6))) := models_K k8 (a := 6) (by omega)
  rw [r6] at w1
  have w2 : sX3_influence s8 (0 : Int32) (nI v) = some (nI (cnt 1024 (chg v (sl S8 0)))) := influence_K k8 (a := 0) (by omega) hv
  rw [r0] at w2
  exact ⟨1, S8, s8, by unfold sL_third; rw [e1, ob2_s, if_neg (nI_pos hm1), e2, ob2_s, if_neg (nI_pos hm2), e3, ob2_s, if_neg (nI_pos hm3), e4, ob2_s, if_pos (nI_pos' hm4), x1, ob_s, if_neg (fun z => z n_0.symm), x2, ob_s, nI_and, ht, if_neg (fun z => z n_0.symm), e5, ob2_s, if_neg (nI_pos hm5), e6, ob2_s, if_neg (nI_pos hm6), e7, ob2_s, if_pos (nI_pos' hm7), y1, ob_s, if_neg (fun z => z n_0.symm), bit10 v hv, e8, ob2_s, if_pos (nI_pos' hm8), w1, ob_s, w2, ob_s, if_neg (fun z => z rfl)], by decide, K_le k8 (by omega)⟩
theorem fourth_K {S : List Fn} {o : Nat → Nat} {B : Nat} {st : St} (k : K S o B st) (hB : B + 20 < 2000000000) : ∃ r S' st', sL_fourth st = some (r, st') ∧ ¬ r = 0 ∧ K S' o (B + 12) st' := by
  have hl := K_len k
  have x0 : sX3_models st (1 : Int32) = some (nI (cnt 1024 (sl S 1))) := models_K k (a := 1) (by omega)
  have b0 := cnt_le 1024 (sl S 1)
  by_cases c : cnt 1024 (sl S 1) = 0
  · exact ⟨1, S, st, by unfold sL_fourth; rw [x0, ob_s, if_neg (by rw [nI_z (by omega)]; exact fun z => z c)], by decide, K_le k (by omega)⟩
  · have c' : ¬ nI (cnt 1024 (sl S 1)) = (0 : Int32) := by rw [nI_z (by omega)]; exact c
    obtain ⟨q1, s1, f, e1, p1, hf⟩ : ∃ q st' f, sX3_press st (6 : Int32) (0 : Int32) (1 : Int32) = some (q, st') ∧ PL S 6 f o B q st' ∧ ∀ x, sl S 1 x = true → f x = sl S 0 x := press_K k (by omega) (s := 6) (a := 0) (b := 1) (by omega) (by omega) (by omega) c
    rcases Or.symm p1 with ⟨rfl, k1⟩ | ⟨m1, hm1, rfl, k1⟩
    · exact ⟨2, _, s1, by unfold sL_fourth; rw [x0, ob_s, if_pos c', e1, ob2_s, if_pos neg1_lt], by decide, K_le k1 (by omega)⟩
    obtain ⟨S1, hS1⟩ : ∃ T, T = S.set 6 f := ⟨_, rfl⟩
    rw [← hS1] at k1
    have hl1 : S1.length = 12 := K_len k1
    have h6 : sl S1 6 = f := by rw [hS1, sl_eq hl (by decide)]
    have h0 : sl S1 0 = sl S 0 := by rw [hS1, sl_ne (by decide)]
    have h1 : sl S1 1 = sl S 1 := by rw [hS1, sl_ne (by decide)]
    obtain ⟨q2, s2, e2, p2⟩ : ∃ q st', sX3_apply s1 (7 : Int32) (6 : Int32) (1 : Int32) (8 : Int32) = some (q, st') ∧ PL S1 7 (fA 8 (sl S1 6) (sl S1 1)) o (B + 1) q st' := apply_K k1 (by omega) (s := 7) (a := 6) (b := 1) (m := 8) (by omega) (by omega) (by omega) (by omega)
    rcases Or.symm p2 with ⟨rfl, k2⟩ | ⟨m2, hm2, rfl, k2⟩
    · exact ⟨2, _, s2, by unfold sL_fourth; rw [x0, ob_s, if_pos c', e1, ob2_s, if_neg (nI_pos hm1), e2, ob2_s, if_pos neg1_lt], by decide, K_le k2 (by omega)⟩
    rw [h6, h1] at k2
    obtain ⟨S2, hS2⟩ : ∃ T, T = S1.set 7 (fA 8 f (sl S 1)) := ⟨_, rfl⟩
    rw [← hS2] at k2
    have hl2 : S2.length = 12 := K_len k2
    have g7 : sl S2 7 = fA 8 f (sl S 1) := by rw [hS2, sl_eq hl1 (by decide)]
    have g0 : sl S2 0 = sl S 0 := by rw [hS2, sl_ne (by decide), h0]
    have g1 : sl S2 1 = sl S 1 := by rw [hS2, sl_ne (by decide), h1]
    obtain ⟨q3, s3, e3, p3⟩ : ∃ q st', sX3_apply s2 (9 : Int32) (0 : Int32) (1 : Int32) (8 : Int32) = some (q, st') ∧ PL S2 9 (fA 8 (sl S2 0) (sl S2 1)) o (B + 1 + 1) q st' := apply_K k2 (by omega) (s := 9) (a := 0) (b := 1) (m := 8) (by omega) (by omega) (by omega) (by omega)
    rcases Or.symm p3 with ⟨rfl, k3⟩ | ⟨m3, hm3, rfl, k3⟩
    · exact ⟨2, _, s3, by unfold sL_fourth; rw [x0, ob_s, if_pos c', e1, ob2_s, if_neg (nI_pos hm1), e2, ob2_s, if_neg (nI_pos hm2), e3, ob2_s, if_neg neg1_nge], by decide, K_le k3 (by omega)⟩
    rw [g0, g1] at k3
    obtain ⟨S3, hS3⟩ : ∃ T, T = S2.set 9 (fA 8 (sl S 0) (sl S 1)) := ⟨_, rfl⟩
    rw [← hS3] at k3
    have j9 : sl S3 9 = fA 8 (sl S 0) (sl S 1) := by rw [hS3, sl_eq hl2 (by decide)]
    have j7 : sl S3 7 = fA 8 f (sl S 1) := by rw [hS3, sl_ne (by decide), g7]
    have w1 : sX3_compare s3 (7 : Int32) (9 : Int32) = some (nI (cmpV (sl S3 7) (sl S3 9))) := compare_K k3 (a := 7) (b := 9) (by omega) (by omega)
    rw [j7, j9, press_cmp hf] at w1
    exact ⟨1, S3, s3, by unfold sL_fourth; rw [x0, ob_s, if_pos c', e1, ob2_s, if_neg (nI_pos hm1), e2, ob2_s, if_neg (nI_pos hm2), e3, ob2_s, if_pos (nI_pos' hm3), w1, ob_s, if_neg (fun z => z n_0.symm)], by decide, K_le k3 (by omega)⟩
