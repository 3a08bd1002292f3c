/-! TABLES: lean, crossed, foldSet -/
/-- all but two tables, and all rows and fields, stay -/
def L2 (st st' : St) (t u : Nat) : Prop := st'.1 = st.1 ∧ st'.2.2 = st.2.2 ∧ ∀ x, x ≠ t → x ≠ u → st'.2.1 x = st.2.1 x
theorem L2.refl (st : St) (t u : Nat) : L2 st st t u := ⟨rfl, rfl, fun _ _ _ => rfl⟩
theorem L2.trans {a b c : St} {t u : Nat} (h1 : L2 a b t u) (h2 : L2 b c t u) : L2 a c t u := ⟨h2.1.trans h1.1, h2.2.1.trans h1.2.1, fun x a b => (h2.2.2 x a b).trans (h1.2.2 x a b)⟩
theorem L2.tbE {a b : St} {t u x : Nat} (h : L2 a b t u) (h1 : x ≠ t) (h2 : x ≠ u) : tb b x = tb a x := by
  unfold tb
  rw [h.2.2 x h1 h2]
def lean1 (w : Nat) (there f : Fn) : Fn := fun x => if there x then f x else f (x ^^^ 2 ^ w)
theorem fin_lean {g f : Fn} (hg : fin10 g) (hf : fin10 f) (w : Nat) : fin10 (lean1 w g f) := by
  intro x y hxy
  unfold lean1
  have e : f (x ^^^ 2 ^ w) = f (y ^^^ 2 ^ w) := fin_xor hf w x y hxy
  rw [hg x y hxy, hf x y hxy, e]
theorem lean_L {t t1 u w : Nat} (hw : w < 10) (htu : u ≠ t) (h1 : t1 ≠ t) : ∀ (k n i : Nat) (st : St), i + k = 16 → k < n → ∃ st', sX2_lean_L8 n st t t1 (nI w) u (nI i) = some st' ∧ Fill st st' t i (fun a j => lean1 w (tb st t1) (tb st u) (64 * a + j)) := by
  intro k
  induction k with
  | zero =>
    intro n i st hi hn
    obtain ⟨n, rfl⟩ : ∃ m, n = m + 1 := ⟨n - 1, by omega⟩
    obtain rfl : i = 16 := by omega
    refine ⟨st, ?_, Fill.done _ _ _⟩
    rw [sX2_lean_L8, if_pos (by rw [w16 (by omega)]; omega)]
  | succ k ih =>
    intro n i st hi hn
    obtain ⟨n, rfl⟩ : ∃ m, n = m + 1 := ⟨n - 1, by omega⟩
    have hi16 : i < 16 := by omega
    obtain ⟨r, e1, hr⟩ := wordAcross_ok st (t := u) (v := w) (w := i) hw hi16
    rw [sX2_lean_L8, if_neg (by rw [w16 (by omega)]; omega), gd_in hi16 (by omega), gL_nI (by omega), lt_e, gd_in hi16 (by omega), e1, ob_s, gd_in hi16 (by omega), gL_nI (by omega), lt_e, nI_add1, lt_e]
    obtain ⟨st', e, hF⟩ := ih n (i + 1) (sL t st (nI i) ((st.2.1 u i &&& st.2.1 t1 i) ||| (r &&& (st.2.1 t1 i ^^^ (-1 : Int64))))) (by omega) (by omega)
    rw [(LT_sL st t i _ (by omega)).tbE htu, (LT_sL st t i _ (by omega)).tbE h1] at hF
    refine ⟨st', e, hF.step hi16 (fun j hj => ?_)⟩
    rw [bt_or, bt_and, bt_and, bt_not _ hj, hr j hj, ← tb_at st u hi16 hj, ← tb_at st t1 hi16 hj]
    unfold lean1
    cases tb st t1 (64 * i + j) <;> simp
theorem lean_ok (st : St) {t t1 u w : Nat} (hw : w < 10) (htu : u ≠ t) (h1 : t1 ≠ t) (h2 : t1 ≠ u) : ∃ st', sX2_lean st t t1 (nI w) u = some st' ∧ L2 st st' t u ∧ tb st' t = lean1 w (tb st t1) (tb st t) := by
  obtain ⟨s1, e1, g1, g2⟩ := copy_ok st u t
  obtain ⟨s2, e2, h3⟩ := lean_L hw htu h1 16 FU 0 s1 (by omega) (by decide)
  refine ⟨s2, ?_, ⟨h3.1.1.trans g1.1, h3.1.2.1.trans g1.2.1, fun x hx1 hx2 => (h3.1.2.2 x hx1).trans (g1.2.2 x hx2)⟩, ?_⟩
  · unfold sX2_lean
    rw [e1, ob_s, n_0, e2, ob_s]
  · rw [g2, g1.tbE h2] at h3
    exact h3.tbE (fin_lean (tb_fin st t1) (tb_fin st t) w) (fun i j _ _ => rfl)
/-- two variables' values exchanged -/
def crs (a b : Nat) (f : Fn) : Fn := fun x => if x.testBit a = x.testBit b then f x else f ((x ^^^ 2 ^ b) ^^^ 2 ^ a)
theorem fin_crs {f : Fn} (hf : fin10 f) {a b : Nat} (ha : a < 10) (hb : b < 10) : fin10 (crs a b f) := by
  intro x y hxy
  unfold crs
  have e : f ((x ^^^ 2 ^ b) ^^^ 2 ^ a) = f ((y ^^^ 2 ^ b) ^^^ 2 ^ a) := fin_xor (fin_xor hf a) b x y hxy
  rw [hxy a ha, hxy b hb, hf x y hxy, e]
theorem crossed_L1 {t t1 u a : Nat} {x3 : Int32} (ha : a < 10) (h1 : t1 ≠ u) : ∀ (k n i : Nat) (st : St), i + k = 16 → k < n → ∃ st', sX2_crossed_L3 n st t t1 (nI a) x3 u (nI i) = some st' ∧ Fill st st' u i (fun p j => tb st t1 ((64 * p + j) ^^^ 2 ^ a)) := by
  intro k
  induction k with
  | zero =>
    intro n i st hi hn
    obtain ⟨n, rfl⟩ : ∃ m, n = m + 1 := ⟨n - 1, by omega⟩
    obtain rfl : i = 16 := by omega
    refine ⟨st, ?_, Fill.done _ _ _⟩
    rw [sX2_crossed_L3, if_pos (by rw [w16 (by omega)]; omega)]
  | succ k ih =>
    intro n i st hi hn
    obtain ⟨n, rfl⟩ : ∃ m, n = m + 1 := ⟨n - 1, by omega⟩
    have hi16 : i < 16 := by omega
    obtain ⟨r, e1, hr⟩ := wordAcross_ok st (t := t1) (v := a) (w := i) ha hi16
    rw [sX2_crossed_L3, if_neg (by rw [w16 (by omega)]; omega), e1, ob_s, gd_in hi16 (by omega), lt_e, nI_add1, lt_e]
    obtain ⟨st', e, hF⟩ := ih n (i + 1) (sL u st (nI i) r) (by omega) (by omega)
    rw [(LT_sL st u i _ (by omega)).tbE h1] at hF
    exact ⟨st', e, hF.step hi16 hr⟩
theorem crossed_L2 {t t1 u a b : Nat} (ha : a < 10) (hb : b < 10) (h1 : t1 ≠ t) (h2 : u ≠ t) : ∀ (k n i : Nat) (st : St), i + k = 16 → k < n → ∃ st', sX2_crossed_L34 n st t t1 (nI a) (nI b) u (nI i) = some st' ∧ Fill st st' t i (fun p j => if (64 * p + j).testBit a = (64 * p + j).testBit b then tb st t1 (64 * p + j) else tb st u ((64 * p + j) ^^^ 2 ^ b)) := by
  intro k
  induction k with
  | zero =>
    intro n i st hi hn
    obtain ⟨n, rfl⟩ : ∃ m, n = m + 1 := ⟨n - 1, by omega⟩
    obtain rfl : i = 16 := by omega
    refine ⟨st, ?_, Fill.done _ _ _⟩
    rw [sX2_crossed_L34, if_pos (by rw [w16 (by omega)]; omega)]
  | succ k ih =>
    intro n i st hi hn
    obtain ⟨n, rfl⟩ : ∃ m, n = m + 1 := ⟨n - 1, by omega⟩
    have hi16 : i < 16 := by omega
    obtain ⟨ra, ea, hra⟩ := wordOfVariable_ok st ha hi16
    obtain ⟨rb, eb, hrb⟩ := wordOfVariable_ok st hb hi16
    obtain ⟨r, e1, hr⟩ := wordAcross_ok st (t := u) (v := b) (w := i) hb hi16
    rw [sX2_crossed_L34, if_neg (by rw [w16 (by omega)]; omega), ea, ob_s, eb, ob_s, lt_e, gd_in hi16 (by omega), e1, ob_s, gd_in hi16 (by omega), gL_nI (by omega), lt_e, nI_add1, lt_e]
    obtain ⟨st', e, hF⟩ := ih n (i + 1) (sL t st (nI i) ((st.2.1 t1 i &&& ((ra ^^^ rb) ^^^ (-1 : Int64))) ||| (r &&& (ra ^^^ rb)))) (by omega) (by omega)
    rw [(LT_sL st t i _ (by omega)).tbE h1, (LT_sL st t i _ (by omega)).tbE h2] at hF
    refine ⟨st', e, hF.step hi16 (fun j hj => ?_)⟩
    rw [bt_or, bt_and, bt_and, bt_not _ hj, bt_xor, hra j hj, hrb j hj, hr j hj, ← tb_at st t1 hi16 hj]
    cases (64 * i + j).testBit a <;> cases (64 * i + j).testBit b <;> simp
theorem crossed_ok (st : St) {t t1 u a b : Nat} (ha : a < 10) (hb : b < 10) (h1 : t1 ≠ t) (h2 : u ≠ t) (h3 : t1 ≠ u) : ∃ st', sX2_crossed st t t1 (nI a) (nI b) u = some st' ∧ L2 st st' t u ∧ tb st' t = crs a b (tb st t1) := by
  obtain ⟨s1, e1, g1⟩ := crossed_L1 (t := t) (x3 := nI b) ha h3 16 FU 0 st (by omega) (by decide)
  obtain ⟨s2, e2, g2⟩ := crossed_L2 ha hb h1 h2 16 FU 0 s1 (by omega) (by decide)
  have g3 : tb s1 u = fun x => tb st t1 (x ^^^ 2 ^ a) := g1.tbE (fin_xor (tb_fin st t1) a) (fun i j _ _ => rfl)
  refine ⟨s2, ?_, ⟨g2.1.1.trans g1.1.1, g2.1.2.1.trans g1.1.2.1, fun x hx1 hx2 => (g2.1.2.2 x hx1).trans (g1.1.2.2 x hx2)⟩, ?_⟩
  · unfold sX2_crossed
    rw [n_0, e1, ob_s, e2, ob_s]
  · rw [g3, g1.1.tbE h3] at g2
    exact g2.tbE (fin_crs (tb_fin st t1) ha hb) (fun i j _ _ => rfl)
