/-! ISSOUND ON STATES -/
def r12 (n : Nat) : UInt64 := FP.ddiv (FP.i2d (nI n)) (4622945017495814144 : UInt64)
def mOK (n : Nat) : Bool := decide (r12 n &&& 0x7fffffffffffffff ≤ 0x7ff0000000000000) && decide (Op.cmpValue (FP.dcmp (r12 n) (r12 n)) CmpOp.l = 0)
theorem mOK_a : ∀ a, a < 16 → ∀ b, b < 64 → mOK (64 * a + b) = true := by decide +kernel
theorem mOK_b : ∀ a, a < 16 → ∀ b, b < 64 → mOK (64 * (16 + a) + b) = true := by decide +kernel
theorem mOK_c : ∀ a, a < 16 → ∀ b, b < 64 → mOK (64 * (32 + a) + b) = true := by decide +kernel
theorem mOK_d : ∀ a, a < 16 → ∀ b, b < 64 → mOK (64 * (48 + a) + b) = true := by decide +kernel
theorem mOK_e : ∀ a, a < 16 → ∀ b, b < 64 → mOK (64 * (64 + a) + b) = true := by decide +kernel
theorem mOK_f : ∀ a, a < 16 → ∀ b, b < 64 → mOK (64 * (80 + a) + b) = true := by decide +kernel
theorem mOK_all {n : Nat} (h : n < 6144) : mOK n = true := by
  obtain ⟨a, b, hb, rfl⟩ : ∃ a b, b < 64 ∧ n = 64 * a + b := ⟨n / 64, n % 64, Nat.mod_lt _ (by omega), by omega⟩
  by_cases h1 : a < 16
  · exact mOK_a a h1 b hb
  by_cases h2 : a < 32
  · have := mOK_b (a - 16) (by omega) b hb
    rwa [show 16 + (a - 16) = a by omega] at this
  by_cases h3 : a < 48
  · have := mOK_c (a - 32) (by omega) b hb
    rwa [show 32 + (a - 32) = a by omega] at this
  by_cases h4 : a < 64
  · have := mOK_d (a - 48) (by omega) b hb
    rwa [show 48 + (a - 48) = a by omega] at this
  by_cases h5 : a < 80
  · have := mOK_e (a - 64) (by omega) b hb
    rwa [show 64 + (a - 64) = a by omega] at this
  · have := mOK_f (a - 80) (by omega) b hb
    rwa [show 80 + (a - 80) = a by omega] at this
theorem gn_ok {α : Type} {n : Nat} (h : n < 6144) (x : Option α) : gn (r12 n) x = x := by
  have := mOK_all h
  unfold mOK at this
  rw [Bool.and_eq_true] at this
  unfold gn
  rw [if_pos (of_decide_eq_true this.1)]
theorem cmp12 {n : Nat} (h : n < 6144) : Op.cmpValue (FP.dcmp (r12 n) (r12 n)) CmpOp.l = 0 := by
  have := mOK_all h
  unfold mOK at this
  rw [Bool.and_eq_true] at this
  exact of_decide_eq_true this.2
def ssum (g : Nat → Nat) : Nat → Nat
  | 0 => 0
  | n + 1 => ssum g n + g n
theorem ssum_front (g : Nat → Nat) : ∀ n, ssum g (n + 1) = g 0 + ssum (fun j => g (j + 1)) n
  | 0 => by
    show 0 + g 0 = g 0 + 0
    omega
  | n + 1 => by
    show ssum g (n + 1) + g (n + 1) = g 0 + (ssum (fun j => g (j + 1)) n + g (n + 1))
    rw [ssum_front g n]
    omega
theorem ssum_le {g : Nat → Nat} {c : Nat} (h : ∀ i, g i ≤ c) : ∀ n, ssum g n ≤ n * c
  | 0 => Nat.zero_le _
  | n + 1 => by
    have := ssum_le h n
    have := h n
    show ssum g n + g n ≤ (n + 1) * c
    rw [Nat.add_mul, Nat.one_mul]
    omega
noncomputable def sz1 (S : List Fn) (o : Nat → Nat) (j : Nat) : Nat := nAll [sl S j, sl S j] o
theorem szs_ssum (o : Nat → Nat) : ∀ S : List Fn, szs o S = ssum (sz1 S o) S.length
  | [] => rfl
  | g :: S => by
    rw [List.length_cons, ssum_front]
    show nAll [g, g] o + szs o S = sz1 (g :: S) o 0 + ssum (fun j => sz1 (g :: S) o (j + 1)) S.length
    rw [szs_ssum o S]
    rfl
section SND
variable {S : List Fn} {o : Nat → Nat} {B : Nat} {st : St}
theorem sz1_le (k : K S o B st) (j : Nat) : sz1 S o j ≤ 508 := by
  unfold sz1
  by_cases h : j < 12
  · exact two_le (OS_ok k.1.1) (K_fin k h) (K_fin k h)
  · have hl := K_len k
    have e : sl S j = cst false := by
      unfold sl
      rw [List.getD_eq_getElem?_getD, List.getElem?_eq_none (by omega)]
      rfl
    rw [e, nAll_cst (b := false) (fun g hg => by
      rcases List.mem_cons.mp hg with z | z
      · exact z
      · exact List.mem_singleton.mp z)]
    omega
theorem mean_L (k0 : K S o B st) : ∀ (d n i : Nat) (C : Nat) (s1 : St), i + d = 12 → d < n → K S o C s1 → C + d < 2000000000 →
    ∃ st', sX3_meanSize_L4 n s1 (nI (ssum (sz1 S o) i)) (nI i) = some (st', nI (ssum (sz1 S o) 12)) ∧ K S o (C + d) st' := by
  intro d
  induction d with
  | zero =>
    intro n i C s1 hi hn k hC
    obtain ⟨n, rfl⟩ : ∃ m, n = m + 1 := ⟨n - 1, by omega⟩
    obtain rfl : i = 12 := by omega
    exact ⟨s1, by rw [sX3_meanSize_L4, if_pos (by rw [n_12, nI_leE (by omega) (by omega)]; omega)], k⟩
  | succ d ih =>
    intro n i C s1 hi hn k hC
    obtain ⟨n, rfl⟩ : ∃ m, n = m + 1 := ⟨n - 1, by omega⟩
    obtain ⟨s2, e2, k2⟩ := from_K k (by omega) (a := i) (b := i) (by omega) (by omega)
    obtain ⟨s3, e3, k3⟩ := ih n (i + 1) (C + 1) s2 (by omega) (by omega) k2 (by omega)
    refine ⟨s3, ?_, by rw [show C + (d + 1) = C + 1 + d by omega]; exact k3⟩
    have e4 : ssum (sz1 S o) (i + 1) = ssum (sz1 S o) i + nAll [sl S i, sl S i] o := rfl
    rw [sX3_meanSize_L4, if_neg (by rw [n_12, nI_leE (by omega) (by omega)]; omega), e2, ob2_s, nI_addE, ← e4, lt_e, nI_add1, lt_e]
    exact e3
theorem ssum_12 (k : K S o B st) : ssum (sz1 S o) 12 ≤ 6096 := by
  have := ssum_le (g := sz1 S o) (c := 508) (sz1_le k) 12
  omega
theorem mean_K (k : K S o B st) (hB : B + 12 < 2000000000) : ∃ st', sX3_meanSize st = some (r12 (ssum (sz1 S o) 12), st') ∧ K S o (B + 12) st' := by
  obtain ⟨s1, e1, k1⟩ := mean_L k 12 FU 0 B st (by omega) (by decide) k hB
  have h12 := ssum_12 k
  have e0 : ssum (sz1 S o) 0 = 0 := rfl
  rw [e0] at e1
  refine ⟨s1, ?_, k1⟩
  have e2 : FP.ddiv (FP.i2d (nI (ssum (sz1 S o) 12))) (4622945017495814144 : UInt64) = r12 (ssum (sz1 S o) 12) := rfl
  unfold sX3_meanSize
  rw [n_0, e1, ob2_s, e2, gn_ok (by omega)]
theorem sound_L4 (k : K S o B st) : ∀ (d n i : Nat), i + d = 10 → d < n → sL_isSound_L4 n st (nI (nSum S o i)) (nI i) = some (nI (nAll S o)) := by
  intro d
  induction d with
  | zero =>
    intro n i hi hn
    obtain ⟨n, rfl⟩ : ∃ m, n = m + 1 := ⟨n - 1, by omega⟩
    obtain rfl : i = 10 := by omega
    rw [sL_isSound_L4, if_pos (by rw [n_10, nI_leE (by omega) (by omega)]; omega)]
    rfl
  | succ d ih =>
    intro n i hi hn
    obtain ⟨n, rfl⟩ : ∃ m, n = m + 1 := ⟨n - 1, by omega⟩
    have e4 : nSum S o (i + 1) = nSum S o i + nAt S o i := rfl
    rw [sL_isSound_L4, if_neg (by rw [n_10, nI_leE (by omega) (by omega)]; omega), nodesAt_K k (by omega), ob_s, nI_addE, ← e4, lt_e, nI_add1, lt_e]
    exact ih n (i + 1) (by omega) (by omega)
theorem sound_L45 {x1 : Int32} : ∀ (d n i : Nat) (C : Nat) (s1 : St), i + d = 12 → d < n → K S o C s1 → C + 7 * d < 2000000000 →
    ∃ st', sL_isSound_L45 n s1 x1 (nI (ssum (sz1 S o) i)) (nI i) = some (.inr (st', nI (ssum (sz1 S o) 12))) ∧ K S o (C + 7 * d) st' := by
  intro d
  induction d with
  | zero =>
    intro n i C s1 hi hn k hC
    obtain ⟨n, rfl⟩ : ∃ m, n = m + 1 := ⟨n - 1, by omega⟩
    obtain rfl : i = 12 := by omega
    exact ⟨s1, by rw [sL_isSound_L45, if_pos (by rw [n_12, nI_leE (by omega) (by omega)]; omega)], k⟩
  | succ d ih =>
    intro n i C s1 hi hn k hC
    obtain ⟨n, rfl⟩ : ∃ m, n = m + 1 := ⟨n - 1, by omega⟩
    have hi12 : i < 12 := by omega
    have ho := OS_ok k.1.1
    have hf := K_fin k hi12
    obtain ⟨s2, e2, k2⟩ := size_K k (by omega) hi12
    obtain ⟨t, e3, h3⟩ := support_K k2 hi12
    have e4 : sJ6_bitCount_0f7a4 s2 (nI t) = some (nI (dv (sl S i))) := by
      rw [bitCount_bc, bc_all t h3.1, SUP_dv h3]
    obtain ⟨s3, e5, k3⟩ := shared_K k2 (by omega) hi12 hi12
    rw [nI_addE, nI_subE (Nat.le_add_left _ _), Nat.add_sub_cancel] at e5
    obtain ⟨s4, e6, k4⟩ := depth_K k3 (by omega) hi12
    obtain ⟨s5, e7, k5⟩ := ways_K k4 (by omega) hi12
    have e8 := models_K k5 hi12
    obtain ⟨s6, e9, k6⟩ := ways_K k5 (by omega) hi12
    have e10 := models_K k6 hi12
    obtain ⟨s7, e11, k7⟩ := ih n (i + 1) (C + 7) s6 (by omega) (by omega) (by rw [show C + 7 = C + 1 + 3 + 1 + 1 + 1 by omega]; exact k6) (by omega)
    refine ⟨s7, ?_, by rw [show C + 7 * (d + 1) = C + 7 + 7 * d by omega]; exact k7⟩
    have f1 := size_dv ho (S := [sl S i, sl S i]) (f := sl S i) List.mem_cons_self
    have f2 := dpt_dv ho (sl S i)
    obtain ⟨f3, f4⟩ := wy_models ho hf
    have f5 := size_0 ho hf
    have b1 := cnt_le 1024 (sl S i)
    have b2 : nAll [sl S i, sl S i] o ≤ 508 := two_le ho hf hf
    have b3 := dv_le (sl S i)
    have es : ssum (sz1 S o) (i + 1) = ssum (sz1 S o) i + nAll [sl S i, sl S i] o := rfl
    rw [sL_isSound_L45, if_neg (by rw [n_12, nI_leE (by omega) (by omega)]; omega), e2, ob2_s, nI_addE, ← es, lt_e, e3, ob_s, e4, ob_s,
      if_neg (by rw [nI_ltE (by omega) (by omega)]; omega), e5, ob2_s, if_neg (fun z => z rfl), e6, ob2_s, if_neg (by rw [nI_ltE (by omega) (by omega)]; omega), e7, ob2_s, e8, ob_s,
      if_neg (by rw [nI_ltE (by omega) (by omega)]; omega), e9, ob2_s]
    have g10 : ¬ (1024 : Int32) = 0 := by decide +kernel
    by_cases c1 : wy o (sl S i) = 0
    · have c2 : cnt 1024 (sl S i) = 0 := f4.mp c1
      have c3 : nAll [sl S i, sl S i] o = 0 := f5.mpr (by rw [c2])
      rw [if_neg (by rw [nI_z (by omega)]; exact fun z => z c1), e10, ob_s, if_neg (by rw [nI_z (by omega)]; exact fun z => z c2), if_neg (by rw [nI_z (by omega)]; exact fun z => z c3), ob_s, gz_ne g10, n_1024, nI_rem (by omega) (by omega), if_neg (by rw [nI_z (by omega)]; omega), nI_add1, lt_e]
      exact e11
    · have c2 : ¬ cnt 1024 (sl S i) = 0 := fun z => c1 (f4.mpr z)
      rw [if_pos (by rw [nI_z (by omega)]; exact c1), e10, ob_s, if_pos (by rw [nI_z (by omega)]; exact c2)]
      by_cases c3 : nAll [sl S i, sl S i] o = 0
      · have c4 := f5.mp c3
        rw [if_neg (by rw [nI_z (by omega)]; exact fun z => z c3), ob_s, gz_ne g10, n_1024, nI_rem (by omega) (by omega), if_neg (by rw [nI_z (by omega)]; omega), nI_add1, lt_e]
        exact e11
      · have c4 : ¬ cnt 1024 (sl S i) % 1024 = 0 := fun z => c3 (f5.mpr z)
        rw [if_pos (by rw [nI_z (by omega)]; exact c3), ob_s, gz_ne g10, n_1024, nI_rem (by omega) (by omega), if_pos (by rw [nI_z (by omega)]; exact c4), nI_add1, lt_e]
        exact e11
theorem isSound_K (k : K S o B st) (hB : B + 96 < 2000000000) : ∃ st', sL_isSound st = some ((1 : Int32), st') ∧ K S o (B + 96) st' := by
  obtain ⟨s1, e1, k1⟩ := sound_L45 (x1 := nI (nAll S o)) 12 FU 0 B st (by omega) (by decide) k (by omega)
  have e0 : ssum (sz1 S o) 0 = 0 := rfl
  rw [e0] at e1
  obtain ⟨s2, e2, k2⟩ := mean_K k1 (by omega)
  have e3 := sound_L4 k 10 FU 0 (by omega) (by decide)
  have e4 : nSum S o 0 = 0 := rfl
  rw [e4] at e3
  have h12 := ssum_12 k
  have hT := k.1.2.2.2
  have hge : nAll S o ≤ ssum (sz1 S o) 12 := by
    have h1 := nAll_szs o S
    rw [szs_ssum, K_len k] at h1
    exact h1
  have e5 : FP.ddiv (FP.i2d (nI (ssum (sz1 S o) 12))) (4622945017495814144 : UInt64) = r12 (ssum (sz1 S o) 12) := rfl
  have e6 : sL_isSound_L4 FU st (0 : Int32) (0 : Int32) = some (nI (nAll S o)) := by rw [n_0]; exact e3
  have e7 : sL_isSound_L45 FU st (nI (nAll S o)) (0 : Int32) (0 : Int32) = some (.inr (s1, nI (ssum (sz1 S o) 12))) := by rw [n_0]; exact e1
  refine ⟨s2, ?_, by rw [show B + 96 = B + 7 * 12 + 12 by omega]; exact k2⟩
  unfold sL_isSound
  rw [e6, ob_s, total_K k, ob_s, if_neg (fun z => z rfl), if_pos (by rw [n_400, nI_leE (by omega) (by omega)]; exact hT), e7, obS_r, lt_e, lt_e, if_neg (by rw [nI_ltE (by omega) (by omega)]; omega), e2, ob2_s, e5, gn_ok (by omega), cmp12 (by omega), if_neg (fun z => z rfl)]
end SND
