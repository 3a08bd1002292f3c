/-! WORDS: a long by its bits -/
def un (w : Int64) : Nat := w.toBitVec.toNat
def bt (w : Int64) (j : Nat) : Bool := (un w).testBit j
theorem un_lt (w : Int64) : un w < 18446744073709551616 := w.toBitVec.isLt
theorem un_inj {a b : Int64} (h : un a = un b) : a = b := Int64.toBitVec_inj.mp (BitVec.eq_of_toNat_eq h)
theorem bt_big (w : Int64) {j : Nat} (h : 64 ≤ j) : bt w j = false := by
  unfold bt
  exact Nat.testBit_lt_two_pow (Nat.lt_of_lt_of_le (un_lt w) (Nat.pow_le_pow_right (n := 2) (by omega) h))
theorem bt_ext {a b : Int64} (h : ∀ j, j < 64 → bt a j = bt b j) : a = b := by
  apply un_inj
  apply Nat.eq_of_testBit_eq
  intro j
  rcases Nat.lt_or_ge j 64 with q | q
  · exact h j q
  · exact (bt_big a q).trans (bt_big b q).symm
theorem bt_and (a b : Int64) (j : Nat) : bt (a &&& b) j = (bt a j && bt b j) := by
  unfold bt un
  rw [Int64.toBitVec_and, BitVec.toNat_and, Nat.testBit_and]
theorem bt_or (a b : Int64) (j : Nat) : bt (a ||| b) j = (bt a j || bt b j) := by
  unfold bt un
  rw [Int64.toBitVec_or, BitVec.toNat_or, Nat.testBit_or]
theorem bt_xor (a b : Int64) (j : Nat) : bt (a ^^^ b) j = (bt a j ^^ bt b j) := by
  unfold bt un
  rw [Int64.toBitVec_xor, BitVec.toNat_xor, Nat.testBit_xor]
theorem un_neg1 : un (-1) = 18446744073709551615 := by decide +kernel
theorem bt_neg1 {j : Nat} (h : j < 64) : bt (-1) j = true := by
  unfold bt
  rw [un_neg1, show (18446744073709551615 : Nat) = 2 ^ 64 - 1 by decide]
  rw [Nat.testBit_two_pow_sub_one]
  simpa using h
theorem bt_zero (j : Nat) : bt 0 j = false := by
  unfold bt
  rw [show un 0 = 0 by decide +kernel, Nat.zero_testBit]
theorem bt_not (a : Int64) {j : Nat} (h : j < 64) : bt (a ^^^ (-1)) j = !bt a j := by
  rw [bt_xor, bt_neg1 h]
  cases bt a j <;> rfl
theorem sh63 : ∀ k, k < 64 → ((nI k).toInt64.toUInt64 &&& Int64.toUInt64 63).toNat % 64 = k := by decide +kernel
theorem sh63s : ∀ k, k < 64 → ((nI k).toInt64 &&& 63).toBitVec.smod 64 = BitVec.ofNat 64 k := by decide +kernel
theorem un_lush {x : Int64} {k : Nat} (h : k < 64) : un (lush x (nI k)) = un x >>> k := by
  unfold lush un
  show ((x.toUInt64 >>> ((nI k).toInt64.toUInt64 &&& Int64.toUInt64 63)).toBitVec).toNat = _
  have := UInt64.toNat_shiftRight x.toUInt64 ((nI k).toInt64.toUInt64 &&& Int64.toUInt64 63)
  rw [sh63 k h] at this
  exact this
theorem bt_lush {x : Int64} {k : Nat} (h : k < 64) (j : Nat) : bt (lush x (nI k)) j = bt x (k + j) := by
  unfold bt
  rw [un_lush h, Nat.testBit_shiftRight]
theorem un_lshl {x : Int64} {k : Nat} (h : k < 64) : un (lshl x (nI k)) = (un x <<< k) % 18446744073709551616 := by
  unfold lshl un
  have e : (x <<< ((nI k).toInt64 &&& 63)).toBitVec = x.toBitVec <<< (((nI k).toInt64 &&& 63).toBitVec.smod 64) := rfl
  rw [e, sh63s k h]
  show (x.toBitVec <<< (BitVec.ofNat 64 k).toNat).toNat = _
  rw [BitVec.toNat_shiftLeft, BitVec.toNat_ofNat, Nat.mod_eq_of_lt (Nat.lt_trans h (by decide))]
theorem bt_lshl {x : Int64} {k : Nat} (h : k < 64) {j : Nat} (hj : j < 64) : bt (lshl x (nI k)) j = (decide (k ≤ j) && bt x (j - k)) := by
  unfold bt
  rw [un_lshl h, show (18446744073709551616 : Nat) = 2 ^ 64 by decide, Nat.testBit_mod_two_pow, Nat.testBit_shiftLeft]
  simp [hj]
theorem pat_bit : ∀ v, v < 6 → ∀ j, j < 64 → bt (pat v) j = j.testBit v := by decide +kernel
theorem far_lt : ∀ v, v < 6 → (nI 1 <<< (nI v &&& 31)) = nI (2 ^ v) := by decide +kernel
theorem hop_up : ∀ v, v < 6 → ∀ j, j < 64 → j.testBit v = false → 2 ^ v + j = j ^^^ (2 ^ v) ∧ (2 ^ v + j).testBit v = true ∧ 2 ^ v + j < 64 := by decide +kernel
theorem hop_dn : ∀ v, v < 6 → ∀ j, j < 64 → j.testBit v = true → 2 ^ v ≤ j ∧ j - 2 ^ v = j ^^^ (2 ^ v) := by decide +kernel
/-- the words' bits as a function -/
def tb (st : St) (t : Nat) : Fn := fun x => bt (st.2.1 t (x % 1024 / 64)) (x % 64)
theorem tb_at (st : St) (t : Nat) {w j : Nat} (hw : w < 16) (hj : j < 64) : tb st t (64 * w + j) = bt (st.2.1 t w) j := by
  unfold tb
  rw [show (64 * w + j) % 1024 / 64 = w by omega, show (64 * w + j) % 64 = j by omega]
theorem low10 {x y : Nat} (h : ∀ v, v < 10 → x.testBit v = y.testBit v) : x % 1024 = y % 1024 := by
  apply Nat.eq_of_testBit_eq
  intro i
  rw [show (1024 : Nat) = 2 ^ 10 by decide, Nat.testBit_mod_two_pow, Nat.testBit_mod_two_pow]
  by_cases hi : i < 10
  · rw [h i hi]
  · simp [hi]
theorem tb_fin (st : St) (t : Nat) : fin10 (tb st t) := by
  intro x y h
  have e := low10 h
  unfold tb
  rw [e, show x % 64 = y % 64 by omega]
theorem mod10_bit (x : Nat) {v : Nat} (h : v < 10) : (x % 1024).testBit v = x.testBit v := by
  rw [show (1024 : Nat) = 2 ^ 10 by decide, Nat.testBit_mod_two_pow]
  simp [h]
theorem fin_mod {f : Fn} (h : fin10 f) (x : Nat) : f x = f (x % 1024) := h _ _ (fun v hv => (mod10_bit x hv).symm)
/-- two functions of ten variables that tell the same for 0 to 1023 -/
theorem fin_ext {f g : Fn} (hf : fin10 f) (hg : fin10 g) (h : ∀ w j, w < 16 → j < 64 → f (64 * w + j) = g (64 * w + j)) : f = g := by
  funext x
  rw [fin_mod hf, fin_mod hg]
  have := h (x % 1024 / 64) (x % 1024 % 64) (by omega) (by omega)
  rwa [show 64 * (x % 1024 / 64) + x % 1024 % 64 = x % 1024 by omega] at this
theorem split_bit (w j v : Nat) (hj : j < 64) : (64 * w + j).testBit v = if v < 6 then j.testBit v else w.testBit (v - 6) := by
  rw [show 64 * w + j = 2 ^ 6 * w + j by omega, Nat.testBit_two_pow_mul_add _ (show j < 2 ^ 6 from hj)]
theorem split_xor (w j v : Nat) (hj : j < 64) : (64 * w + j) ^^^ (2 ^ v) = if v < 6 then 64 * w + (j ^^^ 2 ^ v) else 64 * (w ^^^ 2 ^ (v - 6)) + j := by
  apply Nat.eq_of_testBit_eq
  intro i
  by_cases hv : v < 6
  · rw [if_pos hv]
    have hlt : j ^^^ 2 ^ v < 64 := Nat.xor_lt_two_pow (n := 6) hj (Nat.pow_lt_pow_right (by omega) hv)
    rw [Nat.testBit_xor, split_bit w j i hj, split_bit w _ i hlt, Nat.testBit_two_pow]
    by_cases hi : i < 6
    · rw [if_pos hi, if_pos hi, Nat.testBit_xor, Nat.testBit_two_pow]
    · rw [if_neg hi, if_neg hi]
      have : ¬ v = i := by omega
      simp [this]
  · rw [if_neg hv, Nat.testBit_xor, split_bit w j i hj, split_bit _ j i hj, Nat.testBit_two_pow]
    by_cases hi : i < 6
    · rw [if_pos hi, if_pos hi]
      have : ¬ v = i := by omega
      simp [this]
    · rw [if_neg hi, if_neg hi, Nat.testBit_xor, Nat.testBit_two_pow]
      congr 1
      simp only [decide_eq_decide]
      omega
theorem wov_far : ∀ v, v < 10 → 6 ≤ v → ∀ w, w < 16 → (nI w >>> ((nI v - nI 6) &&& 31)) &&& nI 1 = nI (if w.testBit (v - 6) then 1 else 0) := by decide +kernel
theorem wordOfVariable_ok (st : St) {v w : Nat} (hv : v < 10) (hw : w < 16) : ∃ r, sX2_wordOfVariable st (nI v) (nI w) = some r ∧ ∀ j, j < 64 → bt r j = (64 * w + j).testBit v := by
  unfold sX2_wordOfVariable
  simp only [n_0, n_6, n_1]
  rw [if_neg (by rw [nI_ltE (by omega) (by omega)]; omega)]
  by_cases h6 : 6 ≤ v
  · rw [if_pos (by rw [nI_leE (by omega) (by omega)]; exact h6), wov_far v hv h6 w hw]
    cases hb : w.testBit (v - 6)
    · refine ⟨0, ?_, fun j hj => ?_⟩
      · rw [if_pos]
        decide +kernel
      · rw [bt_zero, split_bit w j v hj, if_neg (by omega), hb]
    · refine ⟨-1, ?_, fun j hj => ?_⟩
      · rw [if_neg]
        exact fun h => h rfl
      · rw [bt_neg1 hj, split_bit w j v hj, if_neg (by omega), hb]
  · rw [if_neg (by rw [nI_leE (by omega) (by omega)]; exact h6), gd_in (by omega) (by omega), nI_toN (by omega)]
    refine ⟨_, rfl, fun j hj => ?_⟩
    rw [pat_bit v (by omega) j hj, split_bit w j v hj, if_pos (by omega)]
theorem wa_far : ∀ v, v < 10 → 6 ≤ v → ∀ w, w < 16 → nI w ^^^ (nI 1 <<< ((nI v - nI 6) &&& 31)) = nI (w ^^^ 2 ^ (v - 6)) ∧ w ^^^ 2 ^ (v - 6) < 16 := by decide +kernel
theorem wordAcross_ok (st : St) {t v w : Nat} (hv : v < 10) (hw : w < 16) : ∃ r, sX2_wordAcross st t (nI v) (nI w) = some r ∧ ∀ j, j < 64 → bt r j = tb st t ((64 * w + j) ^^^ 2 ^ v) := by
  unfold sX2_wordAcross
  simp only [n_0, n_6, n_1, n_16, lt]
  rw [if_neg (by rw [nI_ltE (by omega) (by omega)]; omega)]
  by_cases h6 : 6 ≤ v
  · obtain ⟨e1, e2⟩ := wa_far v hv h6 w hw
    rw [if_pos (by rw [nI_leE (by omega) (by omega)]; exact h6), e1]
    rw [if_neg (by rw [nI_ltE (by omega) (by omega)]; omega), if_neg (by rw [nI_leE (by omega) (by omega)]; omega), gd_in e2 (by omega), gL_nI (by omega)]
    refine ⟨_, rfl, fun j hj => ?_⟩
    rw [split_xor w j v hj, if_neg (by omega), tb_at st t e2 hj]
  · rw [if_neg (by rw [nI_leE (by omega) (by omega)]; exact h6), gd_in (by omega) (by omega), gd_in hw (by omega), gd_in hw (by omega), far_lt v (by omega), nI_toN (by omega), gL_nI (by omega)]
    refine ⟨_, rfl, fun j hj => ?_⟩
    have hf : 2 ^ v < 64 := Nat.pow_lt_pow_right (a := 2) (by omega) (show v < 6 by omega)
    rw [split_xor w j v hj, if_pos (by omega), bt_or, bt_and, bt_lush hf, bt_and, bt_lshl hf hj, pat_bit v (by omega) j hj]
    cases hb : j.testBit v
    · obtain ⟨g1, g2, g3⟩ := hop_up v (by omega) j hj hb
      rw [pat_bit v (by omega) _ g3, g2, ← g1, tb_at st t hw g3]
      simp
    · obtain ⟨g1, g2⟩ := hop_dn v (by omega) j hj hb
      have hx : j ^^^ 2 ^ v < 64 := Nat.xor_lt_two_pow (n := 6) hj (Nat.pow_lt_pow_right (by omega) (by omega))
      rw [tb_at st t hw hx, ← g2]
      by_cases h64 : 2 ^ v + j < 64
      · rw [pat_bit v (by omega) _ h64]
        have : (2 ^ v + j).testBit v = false := by
          rw [Nat.testBit_two_pow_add_eq, hb]
          rfl
        rw [this]
        simp [g1]
      · rw [bt_big _ (by omega)]
        simp [g1]
