/-! THE STATE OF A TRELLIS AND ITS WORLD. A state: int rows by number, long rows by number, int fields by number.
int rows: 0 supports 1 costs 2 costOf 3 weights 4 order 5 roots 6 counts 7 buckets 8 levels 9 lows 10 highs 11 nexts 12 pointers 13 stamps 14 values 15 list 16 rows 17 least
long rows: 0 to 11 the functions' words, 12 work, 13 aid, 14 spare, 15 parts, 16 fresh. Int fields: 0 free 1 nodes 2 stamp 3 listed.
cells: 0 the Trellis, 1 functions, 2 to 5 int rows 0 to 3, 6 the Diagram, 7 to 19 int rows 4 to 16, 20 the Orders, 21 int row 17, 22 parts, 23 fresh, 24 to 38 the Tables, 39 to 53 their words -/
abbrev St : Type := (Nat → Nat → Int32) × (Nat → Nat → Int64) × (Nat → Int32)
abbrev KA : Type := ClassId × ClassId × ClassId
def gI (r : Nat) (st : St) (i : Int32) : Int32 := st.1 r i.toNatClampNeg
def sI (r : Nat) (st : St) (i v : Int32) : St := (fun a => if a = r then upd (st.1 r) i.toNatClampNeg v else st.1 a, st.2)
def gL (r : Nat) (st : St) (i : Int32) : Int64 := st.2.1 r i.toNatClampNeg
def sL (r : Nat) (st : St) (i : Int32) (v : Int64) : St := (st.1, (fun a => if a = r then vp_updL (st.2.1 r) i.toNatClampNeg v else st.2.1 a), st.2.2)
def gF (k : Nat) (st : St) : Int32 := st.2.2 k
def sF (k : Nat) (st : St) (v : Int32) : St := (st.1, st.2.1, fun a => if a = k then v else st.2.2 a)
def cL (r r2 : Nat) (st : St) (sp dp n : Int32) : St := (st.1, (fun a => if a = r2 then va_cpy (st.2.1 r) (st.2.1 r2) sp.toNatClampNeg dp.toNatClampNeg n.toNatClampNeg else st.2.1 a), st.2.2)
/-- lengths, cells -/
def iLen (r : Nat) : Nat := match r with | 0 => 12 | 1 => 10 | 2 => 1024 | 3 => 10 | 4 => 10 | 5 => 12 | 6 => 10 | 7 => 640 | 16 => 1024 | 17 => 64 | _ => 2560
def lLen (r : Nat) : Nat := if r < 15 then 16 else 64
def ic (r : Nat) : Nat := if r < 4 then r + 2 else if r < 17 then r + 3 else 21
def lc (r : Nat) : Nat := if r < 15 then r + 39 else r + 7
def tc (t : Nat) : Nat := t + 24
def pat (j : Nat) : Int64 := match j with | 0 => -6148914691236517206 | 1 => -3689348814741910324 | 2 => -1085102592571150096 | 3 => -71777214294589696 | 4 => -281470681808896 | _ => -4294967296
def cE (ad : Nat → Nat) (ks : KA) (st : St) (k : Nat) : va_E :=
  if k < 24 then (match k with
    | 0 => .inr (3, [.ref (ad 1), .ref (ad (ic 0)), .ref (ad 6), .ref (ad 20), .ref (ad (tc 12)), .ref (ad (tc 13)), .ref (ad (tc 14)), .ref (ad (ic 1)), .ref (ad (ic 2)), .ref (ad (ic 3))])
    | 1 => .inl (ks.2.2, 12, .inr (.inr (.inr (.inr (fun j => some (ad (tc j)))))))
    | 6 => .inr (0, [.ref (ad (ic 4)), .ref (ad (ic 5)), .ref (ad (ic 6)), .ref (ad (ic 7)), .ref (ad (ic 8)), .ref (ad (ic 9)), .ref (ad (ic 10)), .ref (ad (ic 11)), .ref (ad (ic 12)), .ref (ad (ic 13)), .ref (ad (ic 14)), .ref (ad (ic 15)), .ref (ad (ic 16)), .int (gF 0 st), .int (gF 1 st), .int (gF 2 st), .int (gF 3 st)])
    | 20 => .inr (1, [.ref (ad (ic 17)), .ref (ad (lc 15)), .ref (ad (lc 16))])
    | 22 => .inl (ks.2.1, 64, .inr (.inl (st.2.1 15)))
    | 23 => .inl (ks.2.1, 64, .inr (.inl (st.2.1 16)))
    | 21 => .inl (ks.1, 64, .inl (st.1 17))
    | k => if k < 6 then .inl (ks.1, iLen (k - 2), .inl (st.1 (k - 2))) else .inl (ks.1, iLen (k - 3), .inl (st.1 (k - 3))))
  else if k < 39 then .inr (2, [.ref (ad (lc (k - 24)))])
  else .inl (ks.2.1, 16, .inr (.inl (st.2.1 (k - 39))))
def wC (ad : Nat → Nat) (ks : KA) (st : St) : va_W := (List.range 54).map (fun k => (ad k, cE ad ks st k))
theorem wC_at {ad : Nat → Nat} {ks : KA} {st : St} {k : Nat} (hk : k < 54) : (wC ad ks st)[k]? = some (ad k, cE ad ks st k) := by
  unfold wC
  rw [List.getElem?_map, List.getElem?_range hk]
  rfl
theorem wC_len {ad : Nat → Nat} {ks : KA} {st : St} : (wC ad ks st).length = 54 := by simp [wC]
theorem wC_set {ad : Nat → Nat} {ks : KA} {st st' : St} {k : Nat} {e : va_E} (hk : k < 54) (he : cE ad ks st' k = e) (ho : ∀ j, j < 54 → j ≠ k → cE ad ks st' j = cE ad ks st j) : (wC ad ks st).set k (ad k, e) = wC ad ks st' := by
  apply List.ext_getElem?
  intro j
  by_cases hj : j < 54
  · by_cases hjk : j = k
    · subst hjk
      rw [List.getElem?_set_self (by rw [wC_len]; exact hj), wC_at hj, he]
    · rw [List.getElem?_set_ne (Ne.symm hjk), wC_at hj, wC_at hj, ho j hj hjk]
  · rw [List.getElem?_eq_none (by rw [List.length_set, wC_len]; omega), List.getElem?_eq_none (by rw [wC_len]; omega)]
theorem cE_I {ad : Nat → Nat} {ks : KA} {st : St} {r : Nat} (hr : r < 18) : ic r < 54 ∧ cE ad ks st (ic r) = .inl (ks.1, iLen r, .inl (st.1 r)) := by
  refine ⟨by unfold ic; split <;> (try split) <;> omega, ?_⟩
  rcases (show r = 0 ∨ r = 1 ∨ r = 2 ∨ r = 3 ∨ r = 4 ∨ r = 5 ∨ r = 6 ∨ r = 7 ∨ r = 8 ∨ r = 9 ∨ r = 10 ∨ r = 11 ∨ r = 12 ∨ r = 13 ∨ r = 14 ∨ r = 15 ∨ r = 16 ∨ r = 17 by omega) with rfl | rfl | rfl | rfl | rfl | rfl | rfl | rfl | rfl | rfl | rfl | rfl | rfl | rfl | rfl | rfl | rfl | rfl <;> rfl
theorem cE_T {ad : Nat → Nat} {ks : KA} {st : St} {t : Nat} (ht : t < 15) : tc t < 54 ∧ cE ad ks st (tc t) = .inr (2, [.ref (ad (lc t))]) := by
  unfold tc
  refine ⟨by omega, ?_⟩
  unfold cE
  rw [if_neg (by omega), if_pos (by omega), show t + 24 - 24 = t by omega]
theorem cE_L {ad : Nat → Nat} {ks : KA} {st : St} {r : Nat} (hr : r < 17) : lc r < 54 ∧ cE ad ks st (lc r) = .inl (ks.2.1, lLen r, .inr (.inl (st.2.1 r))) := by
  by_cases h : r < 15
  · unfold lc lLen
    rw [if_pos h, if_pos h]
    refine ⟨by omega, ?_⟩
    unfold cE
    rw [if_neg (by omega), if_neg (by omega), show r + 39 - 39 = r by omega]
  · refine ⟨by unfold lc; rw [if_neg h]; omega, ?_⟩
    rcases (show r = 15 ∨ r = 16 by omega) with rfl | rfl <;> rfl
/-- one cell of the world apart from all others, by its number: what each cell reads of the state -/
theorem cE_same {ad : Nat → Nat} {ks : KA} {st st' : St} {j : Nat} (hj : j < 54) (hI : ∀ r, r < 18 → ic r = j → st'.1 r = st.1 r) (hL : ∀ r, r < 17 → lc r = j → st'.2.1 r = st.2.1 r) (hF : j = 6 → ∀ k, k < 4 → gF k st' = gF k st) : cE ad ks st' j = cE ad ks st j := by
  by_cases h39 : 39 ≤ j
  · have h1 := hL (j - 39) (by omega) (by unfold lc; rw [if_pos (by omega)]; omega)
    unfold cE
    rw [if_neg (by omega), if_neg (by omega), if_neg (by omega), if_neg (by omega), h1]
  · by_cases h24 : 24 ≤ j
    · unfold cE
      rw [if_neg (by omega), if_pos (by omega), if_neg (by omega), if_pos (by omega)]
    · have hj24 : j = 0 ∨ j = 1 ∨ j = 2 ∨ j = 3 ∨ j = 4 ∨ j = 5 ∨ j = 6 ∨ j = 7 ∨ j = 8 ∨ j = 9 ∨ j = 10 ∨ j = 11 ∨ j = 12 ∨ j = 13 ∨ j = 14 ∨ j = 15 ∨ j = 16 ∨ j = 17 ∨ j = 18 ∨ j = 19 ∨ j = 20 ∨ j = 21 ∨ j = 22 ∨ j = 23 := by omega
      rcases hj24 with rfl | rfl | rfl | rfl | rfl | rfl | rfl | rfl | rfl | rfl | rfl | rfl | rfl | rfl | rfl | rfl | rfl | rfl | rfl | rfl | rfl | rfl | rfl | rfl
      · rfl
      · rfl
      · exact (cE_I (r := 0) (by decide)).2.trans ((congrArg (fun f => (Sum.inl (ks.1, iLen 0, Sum.inl f) : va_E)) (hI 0 (by decide) rfl)).trans (cE_I (r := 0) (by decide)).2.symm)
      · exact (cE_I (r := 1) (by decide)).2.trans ((congrArg (fun f => (Sum.inl (ks.1, iLen 1, Sum.inl f) : va_E)) (hI 1 (by decide) rfl)).trans (cE_I (r := 1) (by decide)).2.symm)
      · exact (cE_I (r := 2) (by decide)).2.trans ((congrArg (fun f => (Sum.inl (ks.1, iLen 2, Sum.inl f) : va_E)) (hI 2 (by decide) rfl)).trans (cE_I (r := 2) (by decide)).2.symm)
      · exact (cE_I (r := 3) (by decide)).2.trans ((congrArg (fun f => (Sum.inl (ks.1, iLen 3, Sum.inl f) : va_E)) (hI 3 (by decide) rfl)).trans (cE_I (r := 3) (by decide)).2.symm)
      · show (Sum.inr _ : va_E) = Sum.inr _
        rw [hF rfl 0 (by decide), hF rfl 1 (by decide), hF rfl 2 (by decide), hF rfl 3 (by decide)]
      · exact (cE_I (r := 4) (by decide)).2.trans ((congrArg (fun f => (Sum.inl (ks.1, iLen 4, Sum.inl f) : va_E)) (hI 4 (by decide) rfl)).trans (cE_I (r := 4) (by decide)).2.symm)
      · exact (cE_I (r := 5) (by decide)).2.trans ((congrArg (fun f => (Sum.inl (ks.1, iLen 5, Sum.inl f) : va_E)) (hI 5 (by decide) rfl)).trans (cE_I (r := 5) (by decide)).2.symm)
      · exact (cE_I (r := 6) (by decide)).2.trans ((congrArg (fun f => (Sum.inl (ks.1, iLen 6, Sum.inl f) : va_E)) (hI 6 (by decide) rfl)).trans (cE_I (r := 6) (by decide)).2.symm)
      · exact (cE_I (r := 7) (by decide)).2.trans ((congrArg (fun f => (Sum.inl (ks.1, iLen 7, Sum.inl f) : va_E)) (hI 7 (by decide) rfl)).trans (cE_I (r := 7) (by decide)).2.symm)
      · exact (cE_I (r := 8) (by decide)).2.trans ((congrArg (fun f => (Sum.inl (ks.1, iLen 8, Sum.inl f) : va_E)) (hI 8 (by decide) rfl)).trans (cE_I (r := 8) (by decide)).2.symm)
      · exact (cE_I (r := 9) (by decide)).2.trans ((congrArg (fun f => (Sum.inl (ks.1, iLen 9, Sum.inl f) : va_E)) (hI 9 (by decide) rfl)).trans (cE_I (r := 9) (by decide)).2.symm)
      · exact (cE_I (r := 10) (by decide)).2.trans ((congrArg (fun f => (Sum.inl (ks.1, iLen 10, Sum.inl f) : va_E)) (hI 10 (by decide) rfl)).trans (cE_I (r := 10) (by decide)).2.symm)
      · exact (cE_I (r := 11) (by decide)).2.trans ((congrArg (fun f => (Sum.inl (ks.1, iLen 11, Sum.inl f) : va_E)) (hI 11 (by decide) rfl)).trans (cE_I (r := 11) (by decide)).2.symm)
      · exact (cE_I (r := 12) (by decide)).2.trans ((congrArg (fun f => (Sum.inl (ks.1, iLen 12, Sum.inl f) : va_E)) (hI 12 (by decide) rfl)).trans (cE_I (r := 12) (by decide)).2.symm)
      · exact (cE_I (r := 13) (by decide)).2.trans ((congrArg (fun f => (Sum.inl (ks.1, iLen 13, Sum.inl f) : va_E)) (hI 13 (by decide) rfl)).trans (cE_I (r := 13) (by decide)).2.symm)
      · exact (cE_I (r := 14) (by decide)).2.trans ((congrArg (fun f => (Sum.inl (ks.1, iLen 14, Sum.inl f) : va_E)) (hI 14 (by decide) rfl)).trans (cE_I (r := 14) (by decide)).2.symm)
      · exact (cE_I (r := 15) (by decide)).2.trans ((congrArg (fun f => (Sum.inl (ks.1, iLen 15, Sum.inl f) : va_E)) (hI 15 (by decide) rfl)).trans (cE_I (r := 15) (by decide)).2.symm)
      · exact (cE_I (r := 16) (by decide)).2.trans ((congrArg (fun f => (Sum.inl (ks.1, iLen 16, Sum.inl f) : va_E)) (hI 16 (by decide) rfl)).trans (cE_I (r := 16) (by decide)).2.symm)
      · rfl
      · exact (cE_I (r := 17) (by decide)).2.trans ((congrArg (fun f => (Sum.inl (ks.1, iLen 17, Sum.inl f) : va_E)) (hI 17 (by decide) rfl)).trans (cE_I (r := 17) (by decide)).2.symm)
      · exact (cE_L (r := 15) (by decide)).2.trans ((congrArg (fun f => (Sum.inl (ks.2.1, lLen 15, Sum.inr (Sum.inl f)) : va_E)) (hL 15 (by decide) rfl)).trans (cE_L (r := 15) (by decide)).2.symm)
      · exact (cE_L (r := 16) (by decide)).2.trans ((congrArg (fun f => (Sum.inl (ks.2.1, lLen 16, Sum.inr (Sum.inl f)) : va_E)) (hL 16 (by decide) rfl)).trans (cE_L (r := 16) (by decide)).2.symm)
theorem ic_inj {r r' : Nat} (h : r < 18) (h' : r' < 18) (e : ic r = ic r') : r = r' := by
  unfold ic at e
  split at e <;> split at e <;> (try split at e) <;> (try split at e) <;> omega
theorem lc_inj {r r' : Nat} (h : r < 17) (h' : r' < 17) (e : lc r = lc r') : r = r' := by
  unfold lc at e
  split at e <;> split at e <;> omega
theorem ic_lc {r r' : Nat} (h : r < 18) (h' : r' < 17) : ic r ≠ lc r' := by
  intro e
  unfold ic lc at e
  split at e <;> (try split at e) <;> (try split at e) <;> omega
theorem ic_6 {r : Nat} (h : r < 18) : ic r ≠ 6 := by
  intro e
  unfold ic at e
  split at e <;> (try split at e) <;> omega
theorem lc_6 {r : Nat} : lc r ≠ 6 := by
  intro e
  unfold lc at e
  split at e <;> omega
