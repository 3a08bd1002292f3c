/-! NUMBERS: small whole numbers as ints -/
theorem nI_ltE {a b : Nat} (ha : a < 2147483648) (hb : b < 2147483648) : (nI a < nI b) = (a < b) := by
  apply propext
  constructor
  · intro h
    rcases Nat.lt_or_ge a b with q | q
    · exact q
    · exact absurd h (nI_nlt q ha)
  · intro h
    exact nI_lt h hb
theorem nI_leE {a b : Nat} (ha : a < 2147483648) (hb : b < 2147483648) : (nI a ≤ nI b) = (a ≤ b) := by
  apply propext
  constructor
  · intro h
    rcases Nat.lt_or_ge b a with q | q
    · exact absurd h (nI_ge q ha)
    · exact q
  · intro h
    exact nI_le h hb
theorem nI_eqE {a b : Nat} (ha : a < 2147483648) (hb : b < 2147483648) : (nI a = nI b) = (a = b) := by
  apply propext
  constructor
  · intro h
    have h1 := nI_clamp (n := a) ha
    have h2 := nI_clamp (n := b) hb
    rw [← h1, ← h2, h]
  · intro h
    rw [h]
theorem nI_addE (a b : Nat) : nI a + nI b = nI (a + b) := (Int32.ofNat_add a b).symm
theorem nI_mulE (a b : Nat) : nI a * nI b = nI (a * b) := (Int32.ofNat_mul a b).symm
theorem nI_subE {a b : Nat} (h : b ≤ a) : nI a - nI b = nI (a - b) := (Int32.ofNat_sub a b h).symm
theorem nI_toN {a : Nat} (ha : a < 2147483648) : (nI a).toNatClampNeg = a := nI_clamp ha
theorem gd_in {α : Type} {i n : Nat} {x : Option α} (h : i < n) (hn : n ≤ 2147483648) : gd (nI i) n x = x := by
  unfold gd
  rw [if_pos]
  rw [nI_toInt (by omega)]
  omega
theorem gI_nI {r i : Nat} {st : St} (h : i < 2147483648) : gI r st (nI i) = st.1 r i := by
  unfold gI
  rw [nI_toN h]
theorem gL_nI {r i : Nat} {st : St} (h : i < 2147483648) : gL r st (nI i) = st.2.1 r i := by
  unfold gL
  rw [nI_toN h]
theorem sI_nI {r i : Nat} {st : St} {v : Int32} (h : i < 2147483648) : sI r st (nI i) v = (fun a => if a = r then upd (st.1 r) i v else st.1 a, st.2) := by
  unfold sI
  rw [nI_toN h]
theorem n_0 : (0 : Int32) = nI 0 := by decide +kernel
theorem n_1 : (1 : Int32) = nI 1 := by decide +kernel
theorem n_2 : (2 : Int32) = nI 2 := by decide +kernel
theorem n_6 : (6 : Int32) = nI 6 := by decide +kernel
theorem n_9 : (9 : Int32) = nI 9 := by decide +kernel
theorem n_10 : (10 : Int32) = nI 10 := by decide +kernel
theorem n_12 : (12 : Int32) = nI 12 := by decide +kernel
theorem n_15 : (15 : Int32) = nI 15 := by decide +kernel
theorem n_16 : (16 : Int32) = nI 16 := by decide +kernel
theorem n_64 : (64 : Int32) = nI 64 := by decide +kernel
theorem n_400 : (400 : Int32) = nI 400 := by decide +kernel
theorem n_401 : (401 : Int32) = nI 401 := by decide +kernel
theorem n_640 : (640 : Int32) = nI 640 := by decide +kernel
theorem n_1024 : (1024 : Int32) = nI 1024 := by decide +kernel
theorem n_2560 : (2560 : Int32) = nI 2560 := by decide +kernel
theorem isNode_ok (st : St) {n : Nat} (hn : n < 2147483648) : sX0_isNode st (nI n) = some (nI (if 2 ≤ n ∧ n < 2560 then 1 else 0)) := by
  unfold sX0_isNode
  simp only [n_2, n_2560, nI_ltE hn (by omega : 2 < 2147483648), nI_leE (by omega : 2560 < 2147483648) hn]
  by_cases h1 : n < 2
  · rw [if_pos h1, if_neg (by omega)]
    rfl
  · rw [if_neg h1]
    by_cases h2 : 2560 ≤ n
    · rw [if_pos h2, if_neg (by omega)]
      rfl
    · rw [if_neg h2, if_pos (by omega)]
      rfl
theorem isLevel_ok (st : St) {n : Nat} (hn : n < 2147483648) : sX0_isLevel st (nI n) = some (nI (if n < 10 then 1 else 0)) := by
  unfold sX0_isLevel
  simp only [n_0, n_10, nI_ltE hn (by omega : 0 < 2147483648), nI_leE (by omega : 10 < 2147483648) hn]
  rw [if_neg (by omega)]
  by_cases h2 : 10 ≤ n
  · rw [if_pos h2, if_neg (by omega)]
  · rw [if_neg h2, if_pos (by omega)]
    rfl
