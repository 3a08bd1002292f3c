/-! THE CHECKSUM: a number of the functions and the order alone -/
noncomputable def spv (f : Fn) : Nat := @dite Nat (∃ s, SUP f s) (Classical.propDecidable _) (fun h => Classical.choose h) (fun _ => 0)
theorem spv_ok {f : Fn} {s : Nat} (h : SUP f s) : spv f = s := by
  have hex : ∃ s, SUP f s := ⟨s, h⟩
  have e : spv f = Classical.choose hex := by
    unfold spv
    rw [dif_pos hex]
  rw [e]
  exact SUP_uniq (Classical.choose_spec hex) h
theorem n_7 : (7 : Int32) = nI 7 := by decide +kernel
theorem n_100 : (100 : Int32) = nI 100 := by decide +kernel
theorem n_11 : (11 : Int32) = nI 11 := by decide +kernel
section DG1
variable {S : List Fn} {o : Nat → Nat}
theorem spv_K {B : Nat} {st : St} (k : K S o B st) {a : Nat} (ha : a < 12) : sX3_support st (nI a) = some (nI (spv (sl S a))) := by
  obtain ⟨s, e, h⟩ := support_K k ha
  rw [e, spv_ok h]
theorem dslot_K {a : Nat} (ha : a < 12) (d : Int64) : ∃ r, ∀ st B, K S o B st → B + 3 < 2000000000 → ∃ st', sX3_digestOfSlot st d (nI a) = some (r, st') ∧ K S o (B + 3) st' := by
  apply Exists.intro
  intro st B k hB
  obtain ⟨s1, e1, k1⟩ := size_K k (by omega) ha
  obtain ⟨s2, e2, k2⟩ := ways_K k1 (by omega) ha
  obtain ⟨s3, e3, k3⟩ := depth_K k2 (by omega) ha
  refine ⟨s3, ?_, k3⟩
  unfold sX3_digestOfSlot
  rw [models_K k ha, ob_s, lt_e, spv_K k ha, ob_s, lt_e, e1, ob2_s, lt_e, e2, ob2_s, lt_e, e3, ob2_s, lt_e, cheapest_K k3 ha, ob_s, lt_e, n_0, model_K k3 ha (by omega), ob_s, lt_e, n_7, model_K k3 ha (by omega), ob_s, lt_e, n_100, model_K k3 ha (by omega), ob_s, lt_e]
theorem dg18 : ∀ (k i : Nat) (d : Int64), i + k = 10 → ∃ r, ∀ st B n, K S o B st → k < n → sX3_digest_L18 n st d (nI i) = some r := by
  intro k
  induction k with
  | zero =>
    intro i d hi
    obtain rfl : i = 10 := by omega
    refine ⟨d, fun st B n h hn => ?_⟩
    obtain ⟨n, rfl⟩ : ∃ m, n = m + 1 := ⟨n - 1, by omega⟩
    rw [sX3_digest_L18, if_pos (by rw [n_10, nI_leE (by omega) (by omega)]; omega)]
  | succ k ih =>
    intro i d hi
    obtain ⟨r, hr⟩ := ih (i + 1) ((((d * (31 : Int64)) + (nI (o i)).toInt64) * (31 : Int64)) + (nI (nAt S o i)).toInt64) (by omega)
    refine ⟨r, fun st B n h hn => ?_⟩
    obtain ⟨n, rfl⟩ : ∃ m, n = m + 1 := ⟨n - 1, by omega⟩
    rw [sX3_digest_L18, if_neg (by rw [n_10, nI_leE (by omega) (by omega)]; omega), variableAt_K h (by omega), ob_s, lt_e, nodesAt_K h (by omega), ob_s, lt_e, nI_add1, lt_e]
    exact hr st B n h (by omega)
theorem dg58 : ∀ (k i : Nat) (d : Int64), i + k = 12 → ∃ r, ∀ st B n, K S o B st → B + 3 * k < 2000000000 → k < n → ∃ st', sX3_digest_L58 n st d (nI i) = some (st', r) ∧ K S o (B + 3 * k) st' := by
  intro k
  induction k with
  | zero =>
    intro i d hi
    obtain rfl : i = 12 := by omega
    refine ⟨d, fun st B n h hB hn => ⟨st, ?_, h⟩⟩
    obtain ⟨n, rfl⟩ : ∃ m, n = m + 1 := ⟨n - 1, by omega⟩
    rw [sX3_digest_L58, if_pos (by rw [n_12, nI_leE (by omega) (by omega)]; omega)]
  | succ k ih =>
    intro i d hi
    obtain ⟨d1, h1⟩ := dslot_K (S := S) (o := o) (a := i) (by omega) d
    obtain ⟨r, hr⟩ := ih (i + 1) d1 (by omega)
    refine ⟨r, fun st B n h hB hn => ?_⟩
    obtain ⟨n, rfl⟩ : ∃ m, n = m + 1 := ⟨n - 1, by omega⟩
    obtain ⟨s1, e1, k1⟩ := h1 st B h (by omega)
    obtain ⟨s2, e2, k2⟩ := hr s1 (B + 3) n k1 (by omega) (by omega)
    refine ⟨s2, ?_, by rw [show B + 3 * (k + 1) = B + 3 + 3 * k by omega]; exact k2⟩
    rw [sX3_digest_L58, if_neg (by rw [n_12, nI_leE (by omega) (by omega)]; omega), e1, ob2_s, nI_add1, lt_e, e2]
theorem dg79 : ∀ (k i : Nat) (d : Int64), i + k = 11 → ∃ r, ∀ st B n, K S o B st → B + 3 * k < 2000000000 → k < n → ∃ st', sX3_digest_L79 n st d (nI i) = some (st', r) ∧ K S o (B + 3 * k) st' := by
  intro k
  induction k with
  | zero =>
    intro i d hi
    obtain rfl : i = 11 := by omega
    refine ⟨d, fun st B n h hB hn => ⟨st, ?_, h⟩⟩
    obtain ⟨n, rfl⟩ : ∃ m, n = m + 1 := ⟨n - 1, by omega⟩
    rw [sX3_digest_L79, if_pos (by rw [n_11, nI_leE (by omega) (by omega)]; omega)]
  | succ k ih =>
    intro i d hi
    obtain ⟨r, hr⟩ := ih (i + 1) ((((d * (31 : Int64)) + (nI (cmpV (sl S i) (sl S (i + 1)))).toInt64) * (31 : Int64)) + ((nI (nAll [sl S i, sl S i] o) + nI (nAll [sl S (i + 1), sl S (i + 1)] o)) - nI (nAll [sl S i, sl S (i + 1)] o)).toInt64) (by omega)
    refine ⟨r, fun st B n h hB hn => ?_⟩
    obtain ⟨n, rfl⟩ : ∃ m, n = m + 1 := ⟨n - 1, by omega⟩
    obtain ⟨s1, e1, k1⟩ := shared_K h (by omega) (a := i) (b := i + 1) (by omega) (by omega)
    obtain ⟨s2, e2, k2⟩ := hr s1 (B + 3) n k1 (by omega) (by omega)
    refine ⟨s2, ?_, by rw [show B + 3 * (k + 1) = B + 3 + 3 * k by omega]; exact k2⟩
    rw [sX3_digest_L79, if_neg (by rw [n_11, nI_leE (by omega) (by omega)]; omega), nI_add1, compare_K h (by omega) (by omega), ob_s, lt_e, e1, ob2_s, lt_e, lt_e, e2]
theorem dg134 {a : Nat} (ha : a < 12) : ∀ (k i : Nat) (d : Int64), i + k = 10 → ∃ r, ∀ st B n, K S o B st → k < n → sX3_digest_L134 n st d (nI a) (nI i) = some r := by
  intro k
  induction k with
  | zero =>
    intro i d hi
    obtain rfl : i = 10 := by omega
    refine ⟨d, fun st B n h hn => ?_⟩
    obtain ⟨n, rfl⟩ : ∃ m, n = m + 1 := ⟨n - 1, by omega⟩
    rw [sX3_digest_L134, if_pos (by rw [n_10, nI_leE (by omega) (by omega)]; omega)]
  | succ k ih =>
    intro i d hi
    obtain ⟨r, hr⟩ := ih (i + 1) ((((d * (31 : Int64)) + (nI (trV i (sl S a))).toInt64) * (31 : Int64)) + (nI (cnt 1024 (chg i (sl S a)))).toInt64) (by omega)
    refine ⟨r, fun st B n h hn => ?_⟩
    obtain ⟨n, rfl⟩ : ∃ m, n = m + 1 := ⟨n - 1, by omega⟩
    rw [sX3_digest_L134, if_neg (by rw [n_10, nI_leE (by omega) (by omega)]; omega), trend_K h ha (by omega), ob_s, lt_e, influence_K h ha (by omega), ob_s, lt_e, nI_add1, lt_e]
    exact hr st B n h (by omega)
theorem dg125 : ∀ (k i : Nat) (d : Int64), i + k = 12 → ∃ r, ∀ st B n, K S o B st → k < n → sX3_digest_L125 n st d (nI i) = some r := by
  intro k
  induction k with
  | zero =>
    intro i d hi
    obtain rfl : i = 12 := by omega
    refine ⟨d, fun st B n h hn => ?_⟩
    obtain ⟨n, rfl⟩ : ∃ m, n = m + 1 := ⟨n - 1, by omega⟩
    rw [sX3_digest_L125, if_pos (by rw [n_12, nI_leE (by omega) (by omega)]; omega)]
  | succ k ih =>
    intro i d hi
    obtain ⟨d1, h1⟩ := dg134 (S := S) (o := o) (a := i) (by omega) 10 0 d (by omega)
    obtain ⟨r, hr⟩ := ih (i + 1) d1 (by omega)
    refine ⟨r, fun st B n h hn => ?_⟩
    obtain ⟨n, rfl⟩ : ∃ m, n = m + 1 := ⟨n - 1, by omega⟩
    rw [sX3_digest_L125, if_neg (by rw [n_12, nI_leE (by omega) (by omega)]; omega), n_0, h1 st B FU h (by decide), ob_s, nI_add1, lt_e]
    exact hr st B n h (by omega)
theorem digest_K (S : List Fn) (o : Nat → Nat) : ∃ r, ∀ st B, K S o B st → B + 69 < 2000000000 → ∃ st', sX3_digest st = some (r, st') ∧ K S o (B + 69) st' := by
  obtain ⟨d1, h1⟩ := dg18 (S := S) (o := o) 10 0 (((58029 : Int64) * (31 : Int64)) + (nI (nAll S o)).toInt64) (by omega)
  obtain ⟨d2, h2⟩ := dg58 (S := S) (o := o) 12 0 d1 (by omega)
  obtain ⟨d3, h3⟩ := dg79 (S := S) (o := o) 11 0 d2 (by omega)
  obtain ⟨d4, h4⟩ := dg125 (S := S) (o := o) 12 0 d3 (by omega)
  refine ⟨d4, fun st B k hB => ?_⟩
  obtain ⟨s1, e1, k1⟩ := h2 st B FU k (by omega) (by decide)
  obtain ⟨s2, e2, k2⟩ := h3 s1 (B + 3 * 12) FU k1 (by omega) (by decide)
  refine ⟨s2, ?_, k2⟩
  unfold sX3_digest
  rw [total_K k, ob_s, lt_e, n_0, h1 st B FU k (by decide), ob_s, e1, ob2_s, e2, ob2_s, h4 s2 _ FU k2 (by decide), ob_s]
end DG1
