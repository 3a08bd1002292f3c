/-! TABLES: what the methods of a Table do to the functions -/
theorem b01 (b : Bool) : (nI (if b then 1 else 0) = nI 0) = (b = false) := by
  rw [nI_eqE (by split <;> omega) (by omega)]
  cases b <;> simp
theorem wordWith_ok (st : St) {t v w : Nat} (b : Bool) (hv : v < 10) (hw : w < 16) : ∃ r, sX2_wordWith st t (nI v) (nI (if b then 1 else 0)) (nI w) = some r ∧ ∀ j, j < 64 → bt r j = tb st t (sw v b (64 * w + j)) := by
  obtain ⟨r1, e1, h1⟩ := wordOfVariable_ok st hv hw
  obtain ⟨r2, e2, h2⟩ := wordAcross_ok st (t := t) hv hw
  unfold sX2_wordWith
  rw [e1, e2]
  simp only [ob, lt, n_0, b01, gd_in hw (show 16 ≤ 2147483648 by omega), gL_nI (show w < 2147483648 by omega)]
  cases b
  · refine ⟨_, if_pos rfl, fun j hj => ?_⟩
    simp only [bt_or, bt_and, bt_not _ hj, h1 j hj, h2 j hj]
    rw [← tb_at st t hw hj]
    unfold sw
    cases (64 * w + j).testBit v <;> simp
  · refine ⟨_, if_neg (by simp), fun j hj => ?_⟩
    rw [bt_or, bt_and, bt_and, bt_not _ hj, h1 j hj, h2 j hj, ← tb_at st t hw hj]
    unfold sw
    cases (64 * w + j).testBit v <;> simp
theorem tbl1 : ∀ k, k < 16 → ((nI k &&& (1 : Int32)) = 0 ↔ k.testBit 0 = false) := by decide +kernel
theorem tbl2 : ∀ k, k < 16 → ((nI k &&& (2 : Int32)) = 0 ↔ k.testBit 1 = false) := by decide +kernel
theorem tbl4 : ∀ k, k < 16 → ((nI k &&& (4 : Int32)) = 0 ↔ k.testBit 2 = false) := by decide +kernel
theorem tbl8 : ∀ k, k < 16 → ((nI k &&& (8 : Int32)) = 0 ↔ k.testBit 3 = false) := by decide +kernel
def tblV (k : Nat) (x y : Bool) : Bool := k.testBit ((if x then 2 else 0) + (if y then 1 else 0))
theorem wordByTable_ok (st : St) (x y : Int64) {k : Nat} (hk : k < 16) : ∃ r, sX2_wordByTable st x y (nI k) = some r ∧ ∀ j, j < 64 → bt r j = tblV k (bt x j) (bt y j) := by
  unfold sX2_wordByTable
  simp only [lt, tbl1 k hk, tbl2 k hk, tbl4 k hk, tbl8 k hk]
  cases h0 : k.testBit 0 <;> cases h1 : k.testBit 1 <;> cases h2 : k.testBit 2 <;> cases h3 : k.testBit 3 <;> simp only [if_true, if_false, Bool.true_eq_false, reduceCtorEq] <;> (refine ⟨_, rfl, fun j hj => ?_⟩) <;> simp only [bt_or, bt_and, bt_not _ hj, bt_zero, tblV] <;> cases bt x j <;> cases bt y j <;> simp [h0, h1, h2, h3]
/-- one long row alone has changed -/
def LT (st st' : St) (t : Nat) : Prop := st'.1 = st.1 ∧ st'.2.2 = st.2.2 ∧ ∀ u, u ≠ t → st'.2.1 u = st.2.1 u
theorem LT.refl (st : St) (t : Nat) : LT st st t := ⟨rfl, rfl, fun _ _ => rfl⟩
theorem LT.trans {a b c : St} {t : Nat} (h1 : LT a b t) (h2 : LT b c t) : LT a c t := ⟨h2.1.trans h1.1, h2.2.1.trans h1.2.1, fun u hu => (h2.2.2 u hu).trans (h1.2.2 u hu)⟩
theorem LT.tbE {a b : St} {t u : Nat} (h : LT a b t) (hu : u ≠ t) : tb b u = tb a u := by
  unfold tb
  rw [h.2.2 u hu]
theorem LT_sL (st : St) (t w : Nat) (v : Int64) (hw : w < 2147483648) : LT st (sL t st (nI w) v) t := by
  unfold sL
  refine ⟨rfl, rfl, fun u hu => ?_⟩
  show (if u = t then _ else _) = _
  rw [if_neg hu]
theorem sL_row (st : St) (t w : Nat) (v : Int64) (hw : w < 2147483648) (i : Nat) : (sL t st (nI w) v).2.1 t i = if i = w then v else st.2.1 t i := by
  unfold sL
  show ((if t = t then _ else _ : Nat → Int64)) i = _
  rw [if_pos rfl, nI_toN hw]
  rfl
/-- the words of a row have been written from w on, by a function G -/
def Fill (st st' : St) (t w : Nat) (G : Nat → Nat → Bool) : Prop := LT st st' t ∧ (∀ i, i < w → st'.2.1 t i = st.2.1 t i) ∧ ∀ i j, w ≤ i → i < 16 → j < 64 → bt (st'.2.1 t i) j = G i j
theorem Fill.step {st st' : St} {t w : Nat} {G : Nat → Nat → Bool} {v : Int64} (hw : w < 16) (hv : ∀ j, j < 64 → bt v j = G w j) (h : Fill (sL t st (nI w) v) st' t (w + 1) G) : Fill st st' t w G := by
  obtain ⟨h1, h2, h3⟩ := h
  refine ⟨(LT_sL st t w v (by omega)).trans h1, fun i hi => ?_, fun i j h4 h5 h6 => ?_⟩
  · rw [h2 i (by omega), sL_row st t w v (by omega), if_neg (by omega)]
  · by_cases e : i = w
    · subst e
      rw [h2 i (by omega), sL_row st t i v (by omega), if_pos rfl]
      exact hv j h6
    · exact h3 i j (by omega) h5 h6
theorem Fill.done (st : St) (t : Nat) (G : Nat → Nat → Bool) : Fill st st t 16 G := ⟨LT.refl _ _, fun _ _ => rfl, fun i j h1 h2 => by omega⟩
theorem Fill.tbE {st st' : St} {t : Nat} {G : Nat → Nat → Bool} {g : Fn} (h : Fill st st' t 0 G) (hg : fin10 g) (e : ∀ i j, i < 16 → j < 64 → G i j = g (64 * i + j)) : tb st' t = g := by
  refine fin_ext (tb_fin st' t) hg (fun w j hw hj => ?_)
  rw [tb_at st' t hw hj, h.2.2 w j (Nat.zero_le _) hw hj, e w j hw hj]
theorem copy_ok (st : St) (t f : Nat) : ∃ st', sX2_copy st t f = some st' ∧ LT st st' t ∧ tb st' t = tb st f := by
  unfold sX2_copy
  simp only [n_0, n_16, lt]
  rw [gd_in (by omega) (by omega), gd_in (by omega) (by omega), gd_in (by omega) (by omega), nI_toN (by omega), nI_toN (by omega), if_pos (by omega)]
  refine ⟨_, rfl, ⟨rfl, rfl, fun u hu => ?_⟩, ?_⟩
  · unfold cL
    show (if u = t then _ else _) = _
    rw [if_neg hu]
  · refine fin_ext (tb_fin _ t) (tb_fin _ f) (fun w j hw hj => ?_)
    rw [tb_at _ t hw hj, tb_at _ f hw hj]
    unfold cL
    show bt ((if t = t then _ else _ : Nat → Int64) w) j = _
    rw [if_pos rfl, nI_toN (by omega), nI_toN (by omega)]
    unfold va_cpy
    rw [if_pos (by omega), show 0 + (w - 0) = w by omega]
theorem w16 {w : Nat} (h : w ≤ 16) : ((16 : Int32) ≤ nI w) = (16 ≤ w) := by
  rw [n_16, nI_leE (by omega) (by omega)]
def way2 (way : Nat) (x y : Bool) : Bool := if way = 0 then x || y else if way = 1 then x && y else x ^^ y
theorem fold_L {t u v way : Nat} (hv : v < 10) (hway : way < 3) (htu : u ≠ t) : ∀ (k n w : Nat) (st : St), w + k = 16 → k < n → ∃ st', sX2_fold_L8 n st t (nI v) (nI way) u (nI w) = some st' ∧ Fill st st' t w (fun i j => way2 way (tb st u (64 * i + j)) (tb st u ((64 * i + j) ^^^ 2 ^ v))) := by
  intro k
  induction k with
  | zero =>
    intro n w st hw hn
    obtain ⟨n, rfl⟩ : ∃ m, n = m + 1 := ⟨n - 1, by omega⟩
    obtain rfl : w = 16 := by omega
    refine ⟨st, ?_, Fill.done _ _ _⟩
    rw [sX2_fold_L8, if_pos (by rw [w16 (by omega)]; omega)]
  | succ k ih =>
    intro n w st hw hn
    obtain ⟨n, rfl⟩ : ∃ m, n = m + 1 := ⟨n - 1, by omega⟩
    obtain ⟨r, e1, h1⟩ := wordAcross_ok st (t := u) (v := v) (w := w) hv (by omega)
    have key : ∀ x : Int64, (∀ j, j < 64 → bt x j = way2 way (tb st u (64 * w + j)) (tb st u ((64 * w + j) ^^^ 2 ^ v))) → ∃ st', sX2_fold_L8 n (sL t st (nI w) x) t (nI v) (nI way) u (nI w + 1) = some st' ∧ Fill st st' t w (fun i j => way2 way (tb st u (64 * i + j)) (tb st u ((64 * i + j) ^^^ 2 ^ v))) := by
      intro x hx
      rw [n_1, nI_addE]
      obtain ⟨st', e, hF⟩ := ih n (w + 1) (sL t st (nI w) x) (by omega) (by omega)
      rw [(LT_sL st t w x (by omega)).tbE htu] at hF
      exact ⟨st', e, hF.step (by omega) hx⟩
    rw [sX2_fold_L8, if_neg (by rw [w16 (by omega)]; omega)]
    simp only [gd_in (show w < 16 by omega) (show 16 ≤ 2147483648 by omega), e1, ob, lt, gL_nI (show w < 2147483648 by omega), n_0]
    rcases (show way = 0 ∨ way = 1 ∨ way = 2 by omega) with rfl | rfl | rfl
    · rw [if_neg (by simp)]
      refine key _ (fun j hj => ?_)
      rw [bt_or, h1 j hj, ← tb_at st u (by omega) hj]
      rfl
    · rw [if_pos (by decide +kernel), if_neg (by decide +kernel)]
      refine key _ (fun j hj => ?_)
      rw [bt_and, h1 j hj, ← tb_at st u (by omega) hj]
      rfl
    · rw [if_pos (by decide +kernel), if_pos (by decide +kernel)]
      refine key _ (fun j hj => ?_)
      rw [bt_xor, h1 j hj, ← tb_at st u (by omega) hj]
      rfl
/-- a function with one variable quantified -/
def fold1 (way v : Nat) (f : Fn) : Fn := fun x => way2 way (f x) (f (x ^^^ 2 ^ v))
theorem fin_xor {f : Fn} (h : fin10 f) (v : Nat) : fin10 (fun x => f (x ^^^ 2 ^ v)) := by
  intro x y hxy
  apply h
  intro i hi
  rw [Nat.testBit_xor, Nat.testBit_xor, hxy i hi]
theorem fin_fold1 {f : Fn} (h : fin10 f) (way v : Nat) : fin10 (fold1 way v f) := by
  intro x y hxy
  unfold fold1
  have e := fin_xor h v x y hxy
  have e' : f (x ^^^ 2 ^ v) = f (y ^^^ 2 ^ v) := e
  rw [h x y hxy, e']
theorem fold_ok (st : St) {t u v way : Nat} (hv : v < 10) (hway : way < 3) (htu : u ≠ t) : ∃ st', sX2_fold st t (nI v) (nI way) u = some st' ∧ st'.1 = st.1 ∧ st'.2.2 = st.2.2 ∧ (∀ x, x ≠ t → x ≠ u → st'.2.1 x = st.2.1 x) ∧ tb st' t = fold1 way v (tb st t) := by
  obtain ⟨st1, e1, h1, h2⟩ := copy_ok st u t
  obtain ⟨st2, e2, h3⟩ := fold_L hv hway htu 16 FU 0 st1 (by omega) (by decide)
  unfold sX2_fold
  rw [e1]
  simp only [ob, n_0]
  rw [e2]
  refine ⟨st2, rfl, h3.1.1.trans h1.1, h3.1.2.1.trans h1.2.1, fun x hx1 hx2 => (h3.1.2.2 x hx1).trans (h1.2.2 x hx2), ?_⟩
  rw [h2] at h3
  exact h3.tbE (fin_fold1 (tb_fin st t) way v) (fun i j _ _ => rfl)
