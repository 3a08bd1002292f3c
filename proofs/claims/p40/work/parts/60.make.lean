/-! MAKING: the calls that put a function into a slot -/
def Z (st : St) : Prop := ∀ i, i < 1024 → v 2 st i = 0
/-- the state between calls of the law: functions, order, how many stamps at most; no costs -/
def K (S : List Fn) (o : Nat → Nat) (B : Nat) (st : St) : Prop := TS S o st ∧ SI B st ∧ Z st
/-- what a call that puts f into s leaves -/
def PL (S : List Fn) (s : Nat) (f : Fn) (o : Nat → Nat) (B : Nat) (q : Int32) (st' : St) : Prop :=
  (∃ n, n < 2147483648 ∧ q = nI n ∧ K (S.set s f) o (B + 1) st') ∨ (q = -1 ∧ K S o (B + 1) st')
/-- all but the tables behind the slots' stays -/
def G12 (st st' : St) : Prop := st'.1 = st.1 ∧ st'.2.2 = st.2.2 ∧ ∀ x, x < 12 → st'.2.1 x = st.2.1 x
theorem G12.tbE {a b : St} (h : G12 a b) {x : Nat} (hx : x < 12) : tb b x = tb a x := by
  unfold tb
  rw [h.2.2 x hx]
theorem LT.g {a b : St} {t : Nat} (h : LT a b t) (ht : 12 ≤ t) : G12 a b := ⟨h.1, h.2.1, fun x hx => h.2.2 x (by omega)⟩
theorem L2.g {a b : St} {t u : Nat} (h : L2 a b t u) (ht : 12 ≤ t) (hu : 12 ≤ u) : G12 a b := ⟨h.1, h.2.1, fun x hx => h.2.2 x (by omega) (by omega)⟩
theorem G12.trans {a b c : St} (h1 : G12 a b) (h2 : G12 b c) : G12 a c := ⟨h2.1.trans h1.1, h2.2.1.trans h1.2.1, fun x hx => (h2.2.2 x hx).trans (h1.2.2 x hx)⟩
theorem G12.refl (a : St) : G12 a a := ⟨rfl, rfl, fun _ _ => rfl⟩
theorem K_g {S : List Fn} {o : Nat → Nat} {B : Nat} {st st' : St} (k : K S o B st) (h : G12 st st') : K S o B st' := by
  obtain ⟨⟨h1, h2, h3, h4⟩, hI, hZ⟩ := k
  have v3 : ∀ r, v r st' = v r st := fun r => by funext i; unfold v; rw [h.1]
  have f3 : ∀ k, fv k st' = fv k st := fun k => by unfold fv; rw [h.2.1]
  have tt : ∀ k, k < 12 → tb st' k = tb st k := fun k hk => h.tbE hk
  refine ⟨⟨OS_cong h1 (fun r _ _ => v3 r) (f3 0) (f3 1) ?_, ?_, fun s hs => ?_, h4⟩, SI_cong hI (v3 13) (f3 2), fun i hi => by rw [v3]; exact hZ i hi⟩
  · have hN := OS_nn h1
    unfold NN at hN ⊢
    rw [h.1, h.2.1]
    exact hN
  · rw [h2]
    unfold TB
    exact List.map_congr_left (fun k hk => (tt k (List.mem_range.mp hk)).symm)
  · rw [tt s hs, v3]
    exact h3 s hs
theorem K_len {S : List Fn} {o : Nat → Nat} {B : Nat} {st : St} (k : K S o B st) : S.length = 12 := by
  rw [k.1.2.1]
  unfold TB
  rw [List.length_map, List.length_range]
theorem K_sl {S : List Fn} {o : Nat → Nat} {B : Nat} {st : St} (k : K S o B st) {a : Nat} (ha : a < 12) : tb st a = sl S a := by
  rw [k.1.2.1, TB_at ha]
theorem K_fin {S : List Fn} {o : Nat → Nat} {B : Nat} {st : St} (k : K S o B st) {a : Nat} (ha : a < 12) : fin10 (sl S a) := by
  rw [← K_sl k ha]
  exact tb_fin st a
theorem K_le {S : List Fn} {o : Nat → Nat} {B C : Nat} {st : St} (k : K S o B st) (h : B ≤ C) : K S o C st := ⟨k.1, SI_le k.2.1 h, k.2.2⟩
theorem place_K {S : List Fn} {o : Nat → Nat} {B : Nat} {st st1 : St} {s : Nat} {f : Fn} (k : K S o B st) (h : G12 st st1) (hf : tb st1 12 = f) (hB : B < 2000000000) (hs : s < 12) :
    ∃ q st', sX3_place st1 (nI s) = some (q, st') ∧ PL S s f o B q st' := by
  have k1 := K_g k h
  obtain ⟨q, st', e, I, F, c⟩ := place_ok k1.1 k1.2.1 hB hs
  have hz : Z st' := fun i hi => by rw [F.1 2 (Or.inr rfl)]; exact k1.2.2 i hi
  rw [hf] at c
  refine ⟨q, st', e, ?_⟩
  rcases c with ⟨c1, c2⟩ | ⟨c1, c2⟩
  · have h400 : nAll [tb st1 12, tb st1 12] o ≤ 508 := by
      have := nAll_le (S := [tb st1 12, tb st1 12]) (OS_ok c2.1) (fun g hg => by
        rcases List.mem_cons.mp hg with z | z
        · rw [z]; exact tb_fin _ _
        · rw [List.mem_singleton.mp z]; exact tb_fin _ _)
      simpa using this
    rw [hf] at h400
    exact Or.inl ⟨_, by omega, c1, c2, I, hz⟩
  · exact Or.inr ⟨c1, c2, I, hz⟩
theorem slot_ok (st : St) {s : Nat} (h : s < 12) : sX3_checkSlot st (nI s) = some () := by
  unfold sX3_checkSlot
  rw [if_neg (by rw [n_0, nI_ltE (by omega) (by omega)]; omega), if_pos (by rw [n_12, nI_ltE (by omega) (by omega)]; exact h)]
theorem var_ok (st : St) {s : Nat} (h : s < 10) : sX3_checkVariable st (nI s) = some () := by
  unfold sX3_checkVariable
  rw [if_neg (by rw [n_0, nI_ltE (by omega) (by omega)]; omega), if_pos (by rw [n_10, nI_ltE (by omega) (by omega)]; exact h)]
theorem set_ok (st : St) {s : Nat} (h : s < 1024) : sX3_checkSet st (nI s) = some () := by
  unfold sX3_checkSet
  rw [if_neg (by rw [n_0, nI_ltE (by omega) (by omega)]; omega), if_pos (by rw [n_1024, nI_ltE (by omega) (by omega)]; exact h)]
theorem variable_L {x1 : Int32} {a : Nat} (ha : a < 10) : ∀ (k n w : Nat) (st : St), w + k = 16 → k < n → ∃ st', sX3_variable_L10 n st x1 (nI a) (nI w) = some st' ∧ Fill st st' 12 w (fun i j => (64 * i + j).testBit a) := by
  intro k
  induction k with
  | zero =>
    intro n w st hw hn
    obtain ⟨n, rfl⟩ : ∃ m, n = m + 1 := ⟨n - 1, by omega⟩
    obtain rfl : w = 16 := by omega
    refine ⟨st, ?_, Fill.done _ _ _⟩
    rw [sX3_variable_L10, if_pos (by rw [w16 (by omega)]; omega)]
  | succ k ih =>
    intro n w st hw hn
    obtain ⟨n, rfl⟩ : ∃ m, n = m + 1 := ⟨n - 1, by omega⟩
    have h16 : w < 16 := by omega
    obtain ⟨r, e1, hr⟩ := wordOfVariable_ok st ha h16
    rw [sX3_variable_L10, if_neg (by rw [w16 (by omega)]; omega), e1, ob_s, gd_in h16 (by omega), lt_e, nI_add1, lt_e]
    obtain ⟨st', e, hF⟩ := ih n (w + 1) (sL 12 st (nI w) r) (by omega) (by omega)
    refine ⟨st', e, hF.step h16 (fun j hj => ?_)⟩
    exact hr j hj
theorem apply_L {x1 : Int32} {a b m : Nat} (ha : a < 12) (hb : b < 12) (hm : m < 16) : ∀ (k n w : Nat) (st : St), w + k = 16 → k < n → ∃ st', sX3_apply_L59 n st x1 (nI m) a b (nI w) = some st' ∧ Fill st st' 12 w (fun i j => tblV m (tb st a (64 * i + j)) (tb st b (64 * i + j))) := by
  intro k
  induction k with
  | zero =>
    intro n w st hw hn
    obtain ⟨n, rfl⟩ : ∃ m, n = m + 1 := ⟨n - 1, by omega⟩
    obtain rfl : w = 16 := by omega
    refine ⟨st, ?_, Fill.done _ _ _⟩
    rw [sX3_apply_L59, if_pos (by rw [w16 (by omega)]; omega)]
  | succ k ih =>
    intro n w st hw hn
    obtain ⟨n, rfl⟩ : ∃ m, n = m + 1 := ⟨n - 1, by omega⟩
    have h16 : w < 16 := by omega
    obtain ⟨r, e1, hr⟩ := wordByTable_ok st (st.2.1 a w) (st.2.1 b w) hm
    rw [sX3_apply_L59, if_neg (by rw [w16 (by omega)]; omega), gd_in h16 (by omega), gd_in h16 (by omega), gL_nI (by omega), gL_nI (by omega), e1, ob_s, gd_in h16 (by omega), lt_e, nI_add1, lt_e]
    obtain ⟨st', e, hF⟩ := ih n (w + 1) (sL 12 st (nI w) r) (by omega) (by omega)
    rw [(LT_sL st 12 w _ (by omega)).tbE (u := a) (by omega)] at hF
    rw [(LT_sL st 12 w _ (by omega)).tbE (u := b) (by omega)] at hF
    refine ⟨st', e, hF.step h16 (fun j hj => ?_)⟩
    rw [hr j hj, ← tb_at st a h16 hj, ← tb_at st b h16 hj]
theorem choose_L {x1 : Int32} {a b c : Nat} (ha : a < 12) (hb : b < 12) (hc : c < 12) : ∀ (k n w : Nat) (st : St), w + k = 16 → k < n → ∃ st', sX3_choose_L54 n st x1 a b c (nI w) = some st' ∧ Fill st st' 12 w (fun i j => if tb st a (64 * i + j) then tb st b (64 * i + j) else tb st c (64 * i + j)) := by
  intro k
  induction k with
  | zero =>
    intro n w st hw hn
    obtain ⟨n, rfl⟩ : ∃ m, n = m + 1 := ⟨n - 1, by omega⟩
    obtain rfl : w = 16 := by omega
    refine ⟨st, ?_, Fill.done _ _ _⟩
    rw [sX3_choose_L54, if_pos (by rw [w16 (by omega)]; omega)]
  | succ k ih =>
    intro n w st hw hn
    obtain ⟨n, rfl⟩ : ∃ m, n = m + 1 := ⟨n - 1, by omega⟩
    have h16 : w < 16 := by omega
    rw [sX3_choose_L54, if_neg (by rw [w16 (by omega)]; omega), gd_in h16 (by omega), gd_in h16 (by omega), gd_in h16 (by omega), gd_in h16 (by omega), gd_in h16 (by omega), gL_nI (by omega), gL_nI (by omega), gL_nI (by omega), lt_e, nI_add1, lt_e]
    obtain ⟨st', e, hF⟩ := ih n (w + 1) (sL 12 st (nI w) ((st.2.1 a w &&& st.2.1 b w) ||| ((st.2.1 a w ^^^ (-1 : Int64)) &&& st.2.1 c w))) (by omega) (by omega)
    rw [(LT_sL st 12 w _ (by omega)).tbE (u := a) (by omega)] at hF
    rw [(LT_sL st 12 w _ (by omega)).tbE (u := b) (by omega)] at hF
    rw [(LT_sL st 12 w _ (by omega)).tbE (u := c) (by omega)] at hF
    refine ⟨st', e, hF.step h16 (fun j hj => ?_)⟩
    rw [bt_or, bt_and, bt_and, bt_not _ hj, ← tb_at st a h16 hj, ← tb_at st b h16 hj, ← tb_at st c h16 hj]
    cases tb st a (64 * w + j) <;> simp
theorem put_L {x1 : Int32} {a u : Nat} {p : Bool} (ha : a < 12) (hu : u < 10) : ∀ (k n w : Nat) (st : St), w + k = 16 → k < n → ∃ st', sX3_put_L23 n st x1 (nI u) (nI (if p then 1 else 0)) a (nI w) = some st' ∧ Fill st st' 12 w (fun i j => tb st a (sw u p (64 * i + j))) := by
  intro k
  induction k with
  | zero =>
    intro n w st hw hn
    obtain ⟨n, rfl⟩ : ∃ m, n = m + 1 := ⟨n - 1, by omega⟩
    obtain rfl : w = 16 := by omega
    refine ⟨st, ?_, Fill.done _ _ _⟩
    rw [sX3_put_L23, if_pos (by rw [w16 (by omega)]; omega)]
  | succ k ih =>
    intro n w st hw hn
    obtain ⟨n, rfl⟩ : ∃ m, n = m + 1 := ⟨n - 1, by omega⟩
    have h16 : w < 16 := by omega
    obtain ⟨r, e1, hr⟩ := wordWith_ok st (t := a) p hu h16
    rw [sX3_put_L23, if_neg (by rw [w16 (by omega)]; omega), e1, ob_s, gd_in h16 (by omega), lt_e, nI_add1, lt_e]
    obtain ⟨st', e, hF⟩ := ih n (w + 1) (sL 12 st (nI w) r) (by omega) (by omega)
    rw [(LT_sL st 12 w _ (by omega)).tbE (u := a) (by omega)] at hF
    refine ⟨st', e, hF.step h16 (fun j hj => ?_)⟩
    exact hr j hj
theorem compose_L {x1 : Int32} {a u b : Nat} (ha : a < 12) (hb : b < 12) (hu : u < 10) : ∀ (k n w : Nat) (st : St), w + k = 16 → k < n → ∃ st', sX3_compose_L40 n st x1 (nI u) a b (nI w) = some st' ∧ Fill st st' 12 w (fun i j => if tb st b (64 * i + j) then tb st a (sw u true (64 * i + j)) else tb st a (sw u false (64 * i + j))) := by
  intro k
  induction k with
  | zero =>
    intro n w st hw hn
    obtain ⟨n, rfl⟩ : ∃ m, n = m + 1 := ⟨n - 1, by omega⟩
    obtain rfl : w = 16 := by omega
    refine ⟨st, ?_, Fill.done _ _ _⟩
    rw [sX3_compose_L40, if_pos (by rw [w16 (by omega)]; omega)]
  | succ k ih =>
    intro n w st hw hn
    obtain ⟨n, rfl⟩ : ∃ m, n = m + 1 := ⟨n - 1, by omega⟩
    have h16 : w < 16 := by omega
    obtain ⟨r1, e1, hr1⟩ := wordWith_ok st (t := a) true hu h16
    obtain ⟨r0, e0, hr0⟩ := wordWith_ok st (t := a) false hu h16
    rw [if_pos rfl, ← n_1] at e1
    rw [if_neg Bool.false_ne_true, ← n_0] at e0
    rw [sX3_compose_L40, if_neg (by rw [w16 (by omega)]; omega), gd_in h16 (by omega), e1, ob_s, gd_in h16 (by omega), e0, ob_s, gd_in h16 (by omega), gL_nI (by omega), lt_e, nI_add1, lt_e]
    obtain ⟨st', e, hF⟩ := ih n (w + 1) (sL 12 st (nI w) ((st.2.1 b w &&& r1) ||| ((st.2.1 b w ^^^ (-1 : Int64)) &&& r0))) (by omega) (by omega)
    rw [(LT_sL st 12 w _ (by omega)).tbE (u := b) (by omega)] at hF
    rw [(LT_sL st 12 w _ (by omega)).tbE (u := a) (by omega)] at hF
    refine ⟨st', e, hF.step h16 (fun j hj => ?_)⟩
    rw [bt_or, bt_and, bt_and, bt_not _ hj, hr1 j hj, hr0 j hj, ← tb_at st b h16 hj]
    cases tb st b (64 * w + j) <;> simp
theorem meet_L {x1 x4 : Int32} {a b : Nat} (ha : a < 12) (hb : b < 12) : ∀ (k n w : Nat) (st : St), w + k = 16 → k < n → ∃ st', sX3_meet_L42 n st x1 x4 a b (nI w) = some st' ∧ Fill st st' 12 w (fun i j => tb st a (64 * i + j) && tb st b (64 * i + j)) := by
  intro k
  induction k with
  | zero =>
    intro n w st hw hn
    obtain ⟨n, rfl⟩ : ∃ m, n = m + 1 := ⟨n - 1, by omega⟩
    obtain rfl : w = 16 := by omega
    refine ⟨st, ?_, Fill.done _ _ _⟩
    rw [sX3_meet_L42, if_pos (by rw [w16 (by omega)]; omega)]
  | succ k ih =>
    intro n w st hw hn
    obtain ⟨n, rfl⟩ : ∃ m, n = m + 1 := ⟨n - 1, by omega⟩
    have h16 : w < 16 := by omega
    rw [sX3_meet_L42, if_neg (by rw [w16 (by omega)]; omega), gd_in h16 (by omega), gd_in h16 (by omega), gd_in h16 (by omega), gL_nI (by omega), gL_nI (by omega), lt_e, nI_add1, lt_e]
    obtain ⟨st', e, hF⟩ := ih n (w + 1) (sL 12 st (nI w) (st.2.1 a w &&& st.2.1 b w)) (by omega) (by omega)
    rw [(LT_sL st 12 w _ (by omega)).tbE (u := a) (by omega)] at hF
    rw [(LT_sL st 12 w _ (by omega)).tbE (u := b) (by omega)] at hF
    refine ⟨st', e, hF.step h16 (fun j hj => ?_)⟩
    rw [bt_and, ← tb_at st a h16 hj, ← tb_at st b h16 hj]
/-! the makers' functions -/
def fV (a : Nat) : Fn := fun x => x.testBit a
def fA (m : Nat) (f g : Fn) : Fn := fun x => tblV m (f x) (g x)
def fC (f g h : Fn) : Fn := fun x => if f x then g x else h x
def fK (u : Nat) (f g : Fn) : Fn := fun x => if g x then f (sw u true x) else f (sw u false x)
def fM (f g : Fn) : Fn := fun x => f x && g x
theorem fin_V {a : Nat} (ha : a < 10) : fin10 (fV a) := fun x y h => h a ha
theorem fin_A (m : Nat) {f g : Fn} (hf : fin10 f) (hg : fin10 g) : fin10 (fA m f g) := fun x y h => by unfold fA; rw [hf x y h, hg x y h]
theorem fin_C {f g h : Fn} (hf : fin10 f) (hg : fin10 g) (hh : fin10 h) : fin10 (fC f g h) := fun x y e => by unfold fC; rw [hf x y e, hg x y e, hh x y e]
theorem fin_M {f g : Fn} (hf : fin10 f) (hg : fin10 g) : fin10 (fM f g) := fun x y h => by unfold fM; rw [hf x y h, hg x y h]
theorem fin_K {f g : Fn} (hf : fin10 f) (hg : fin10 g) (u : Nat) : fin10 (fK u f g) := fun x y h => by
  have h1 : f (sw u true x) = f (sw u true y) := fin_co hf u true x y h
  have h0 : f (sw u false x) = f (sw u false y) := fin_co hf u false x y h
  unfold fK
  rw [hg x y h, h1, h0]
section MK
variable {S : List Fn} {o : Nat → Nat} {B : Nat} {st : St} {s : Nat}
theorem variable_K (k : K S o B st) (hB : B < 2000000000) (hs : s < 12) {a : Nat} (ha : a < 10) : ∃ q st', sX3_variable st (nI s) (nI a) = some (q, st') ∧ PL S s (fV a) o B q st' := by
  obtain ⟨s1, e1, F⟩ := variable_L (x1 := nI s) ha 16 FU 0 st (by decide) (by decide)
  obtain ⟨q, st', e, P⟩ := place_K k (F.1.g (by omega)) (F.tbE (fin_V ha) (fun _ _ _ _ => rfl)) hB hs
  refine ⟨q, st', ?_, P⟩
  unfold sX3_variable
  rw [slot_ok st hs, ob_s, var_ok st ha, ob_s, n_0, e1, ob_s, e, ob2_s]
theorem apply_K (k : K S o B st) (hB : B < 2000000000) (hs : s < 12) {a b m : Nat} (ha : a < 12) (hb : b < 12) (hm : m < 16) : ∃ q st', sX3_apply st (nI s) (nI a) (nI b) (nI m) = some (q, st') ∧ PL S s (fA m (sl S a) (sl S b)) o B q st' := by
  obtain ⟨s1, e1, F⟩ := apply_L (x1 := nI s) ha hb hm 16 FU 0 st (by decide) (by decide)
  rw [K_sl k ha, K_sl k hb] at F
  obtain ⟨q, st', e, P⟩ := place_K k (F.1.g (by omega)) (F.tbE (fin_A m (K_fin k ha) (K_fin k hb)) (fun _ _ _ _ => rfl)) hB hs
  refine ⟨q, st', ?_, P⟩
  unfold sX3_apply
  rw [slot_ok st hs, ob_s, slot_ok st ha, ob_s, slot_ok st hb, ob_s, if_neg (by rw [n_0, nI_ltE (by omega) (by omega)]; omega), if_pos (by rw [n_15, nI_leE (by omega) (by omega)]; omega), gd_in ha (by omega), gd_in hb (by omega), nI_toN (by omega), nI_toN (by omega), n_0, e1, ob_s, e, ob2_s]
theorem choose_K (k : K S o B st) (hB : B < 2000000000) (hs : s < 12) {a b c : Nat} (ha : a < 12) (hb : b < 12) (hc : c < 12) : ∃ q st', sX3_choose st (nI s) (nI a) (nI b) (nI c) = some (q, st') ∧ PL S s (fC (sl S a) (sl S b) (sl S c)) o B q st' := by
  obtain ⟨s1, e1, F⟩ := choose_L (x1 := nI s) ha hb hc 16 FU 0 st (by decide) (by decide)
  rw [K_sl k ha, K_sl k hb, K_sl k hc] at F
  obtain ⟨q, st', e, P⟩ := place_K k (F.1.g (by omega)) (F.tbE (fin_C (K_fin k ha) (K_fin k hb) (K_fin k hc)) (fun _ _ _ _ => rfl)) hB hs
  refine ⟨q, st', ?_, P⟩
  unfold sX3_choose
  rw [slot_ok st hs, ob_s, slot_ok st ha, ob_s, slot_ok st hb, ob_s, slot_ok st hc, ob_s, gd_in ha (by omega), gd_in hb (by omega), gd_in hc (by omega), nI_toN (by omega), nI_toN (by omega), nI_toN (by omega), n_0, e1, ob_s, e, ob2_s]
theorem put_K (k : K S o B st) (hB : B < 2000000000) (hs : s < 12) {a u : Nat} (ha : a < 12) (hu : u < 10) (p : Bool) : ∃ q st', sX3_put st (nI s) (nI a) (nI u) (nI (if p then 1 else 0)) = some (q, st') ∧ PL S s (co u p (sl S a)) o B q st' := by
  obtain ⟨s1, e1, F⟩ := put_L (x1 := nI s) (p := p) ha hu 16 FU 0 st (by decide) (by decide)
  rw [K_sl k ha] at F
  obtain ⟨q, st', e, P⟩ := place_K k (F.1.g (by omega)) (F.tbE (g := co u p (sl S a)) (fin_co (K_fin k ha) u p) (fun _ _ _ _ => rfl)) hB hs
  refine ⟨q, st', ?_, P⟩
  unfold sX3_put
  rw [slot_ok st hs, ob_s, slot_ok st ha, ob_s, var_ok st hu, ob_s, gd_in ha (by omega), nI_toN (a := a) (by omega), n_0, e1, ob_s, e, ob2_s]
theorem compose_K (k : K S o B st) (hB : B < 2000000000) (hs : s < 12) {a u b : Nat} (ha : a < 12) (hu : u < 10) (hb : b < 12) : ∃ q st', sX3_compose st (nI s) (nI a) (nI u) (nI b) = some (q, st') ∧ PL S s (fK u (sl S a) (sl S b)) o B q st' := by
  obtain ⟨s1, e1, F⟩ := compose_L (x1 := nI s) ha hb hu 16 FU 0 st (by decide) (by decide)
  rw [K_sl k ha, K_sl k hb] at F
  obtain ⟨q, st', e, P⟩ := place_K k (F.1.g (by omega)) (F.tbE (fin_K (K_fin k ha) (K_fin k hb) u) (fun _ _ _ _ => rfl)) hB hs
  refine ⟨q, st', ?_, P⟩
  unfold sX3_compose
  rw [slot_ok st hs, ob_s, slot_ok st ha, ob_s, var_ok st hu, ob_s, slot_ok st hb, ob_s, gd_in ha (by omega), gd_in hb (by omega), nI_toN (by omega), nI_toN (by omega), n_0, e1, ob_s, e, ob2_s]
theorem quantify_K (k : K S o B st) (hB : B < 2000000000) (hs : s < 12) {a set way : Nat} (ha : a < 12) (hset : set < 1024) (hw : way < 3) : ∃ q st', sX3_quantify st (nI s) (nI a) (nI set) (nI way) = some (q, st') ∧ PL S s (fset way set 10 0 (sl S a)) o B q st' := by
  obtain ⟨s1, e1, L1, h1⟩ := copy_ok st 12 a
  obtain ⟨s2, e2, L2', h2⟩ := foldSet_ok s1 (t := 12) (u := 14) hset hw (by omega)
  rw [h1, K_sl k ha] at h2
  obtain ⟨q, st', e, P⟩ := place_K k ((L1.g (by omega)).trans (L2'.g (by omega) (by omega))) h2 hB hs
  refine ⟨q, st', ?_, P⟩
  unfold sX3_quantify
  rw [slot_ok st hs, ob_s, slot_ok st ha, ob_s, set_ok st hset, ob_s, if_neg (by rw [n_0, nI_ltE (by omega) (by omega)]; omega), if_pos (by rw [n_2, nI_leE (by omega) (by omega)]; omega), gd_in ha (by omega), nI_toN (by omega), e1, ob_s, e2, ob_s, e, ob2_s]
theorem meet_K (k : K S o B st) (hB : B < 2000000000) (hs : s < 12) {a b set : Nat} (ha : a < 12) (hb : b < 12) (hset : set < 1024) : ∃ q st', sX3_meet st (nI s) (nI a) (nI b) (nI set) = some (q, st') ∧ PL S s (fset 0 set 10 0 (fM (sl S a) (sl S b))) o B q st' := by
  obtain ⟨s1, e1, F⟩ := meet_L (x1 := nI s) (x4 := nI set) ha hb 16 FU 0 st (by decide) (by decide)
  rw [K_sl k ha, K_sl k hb] at F
  have h1 := F.tbE (g := fM (sl S a) (sl S b)) (fin_M (K_fin k ha) (K_fin k hb)) (fun _ _ _ _ => rfl)
  obtain ⟨s2, e2, L2', h2⟩ := foldSet_ok s1 (t := 12) (u := 14) (way := 0) hset (by omega) (by omega)
  rw [h1] at h2
  obtain ⟨q, st', e, P⟩ := place_K k ((F.1.g (by omega)).trans (L2'.g (by omega) (by omega))) h2 hB hs
  refine ⟨q, st', ?_, P⟩
  unfold sX3_meet
  rw [slot_ok st hs, ob_s, slot_ok st ha, ob_s, slot_ok st hb, ob_s, set_ok st hset, ob_s, gd_in ha (by omega), gd_in hb (by omega), nI_toN (by omega), nI_toN (by omega), n_0, e1, ob_s, e2, ob_s, e, ob2_s]
theorem exchange_K (k : K S o B st) (hB : B < 2000000000) (hs : s < 12) {a u w : Nat} (ha : a < 12) (hu : u < 10) (hw : w < 10) : ∃ q st', sX3_exchange st (nI s) (nI a) (nI u) (nI w) = some (q, st') ∧ PL S s (crs u w (sl S a)) o B q st' := by
  obtain ⟨s1, e1, L1, h1⟩ := crossed_ok st (t := 12) (t1 := a) (u := 14) hu hw (by omega) (by omega) (by omega)
  rw [K_sl k ha] at h1
  obtain ⟨q, st', e, P⟩ := place_K k (L1.g (by omega) (by omega)) h1 hB hs
  refine ⟨q, st', ?_, P⟩
  unfold sX3_exchange
  rw [slot_ok st hs, ob_s, slot_ok st ha, ob_s, var_ok st hu, ob_s, var_ok st hw, ob_s, gd_in ha (by omega), nI_toN (by omega), e1, ob_s, e, ob2_s]
theorem press_L {x1 : Int32} {f g : Fn} : ∀ (d n : Nat) (st : St), K S o B st → (∀ x, g x = true → tb st 13 x = true ∧ tb st 12 x = f x) → d ≤ 10 → d < n → ∃ st', sX3_press_L64 n st x1 (nI d + (-1 : Int32)) = some st' ∧ G12 st st' ∧ ∀ x, g x = true → tb st' 12 x = f x := by
  intro d
  induction d with
  | zero =>
    intro n st k h hd hn
    obtain ⟨n, rfl⟩ : ∃ m, n = m + 1 := ⟨n - 1, by omega⟩
    exact ⟨st, by rw [sX3_press_L64, if_pos (by decide +kernel)], G12.refl _, fun x hx => (h x hx).2⟩
  | succ d ih =>
    intro n st k h hd hn
    obtain ⟨n, rfl⟩ : ∃ m, n = m + 1 := ⟨n - 1, by omega⟩
    have ho := OS_ok k.1.1
    have hod := ho.1 d (by omega)
    have e9 : nI (d + 1) + (-1 : Int32) = nI d := by
      rw [← nI_addE, ← n_1, Int32.add_assoc, show (1 : Int32) + (-1 : Int32) = 0 by decide +kernel, Int32.add_zero]
    have ev : sX0_variableOf st (nI d) = some (nI (o d)) := by
      unfold sX0_variableOf
      rw [isLevel_ok st (by omega), ob_s, if_pos (show d < 10 by omega), if_neg (show ¬ nI 1 = 0 by decide +kernel), gd_in (show d < 10 by omega) (by omega), gI_v (OS_nn k.1.1) (by decide) (by omega), OS_ord k.1.1 (by omega)]
    obtain ⟨s1, e1, L1, h1⟩ := lean_ok st (t := 12) (t1 := 13) (u := 14) hod (by omega) (by omega) (by omega)
    obtain ⟨s2, e2, a1, a2, a3, h2⟩ := fold_ok s1 (t := 13) (u := 14) (way := 0) hod (by omega) (by omega)
    have L2' : L2 s1 s2 13 14 := ⟨a1, a2, a3⟩
    have g2 : G12 st s2 := (L1.g (by omega) (by omega)).trans (L2'.g (by omega) (by omega))
    have hh : ∀ x, g x = true → tb s2 13 x = true ∧ tb s2 12 x = f x := fun x hx => by
      obtain ⟨q1, q2⟩ := h x hx
      rw [h2, L1.tbE (by omega) (by omega), L2'.tbE (by omega) (by omega), h1]
      unfold fold1 way2 lean1
      rw [if_pos rfl, if_pos q1, q1]
      exact ⟨rfl, q2⟩
    obtain ⟨s3, e3, g3, h3⟩ := ih n s2 (K_g k g2) hh (by omega) (by omega)
    refine ⟨s3, ?_, g2.trans g3, h3⟩
    rw [sX3_press_L64, e9, if_neg (by rw [n_0, nI_ltE (by omega) (by omega)]; omega), ev, ob_s, e1, ob_s, n_0, e2, ob_s, lt_e]
    exact e3
theorem press_K (k : K S o B st) (hB : B < 2000000000) (hs : s < 12) {a b : Nat} (ha : a < 12) (hb : b < 12) (hm : cnt 1024 (sl S b) ≠ 0) : ∃ q st' f, sX3_press st (nI s) (nI a) (nI b) = some (q, st') ∧ PL S s f o B q st' ∧ ∀ x, sl S b x = true → f x = sl S a x := by
  obtain ⟨s1, e1, L1, h1⟩ := copy_ok st 12 a
  obtain ⟨s2, e2, L2', h2⟩ := copy_ok s1 13 b
  have g2 : G12 st s2 := (L1.g (by omega)).trans (L2'.g (by omega))
  have hh : ∀ x, sl S b x = true → tb s2 13 x = true ∧ tb s2 12 x = sl S a x := fun x hx => by
    rw [h2, L1.tbE (by omega), L2'.tbE (by omega), h1, K_sl k ha, K_sl k hb]
    exact ⟨hx, rfl⟩
  obtain ⟨s3, e3, g3, h3⟩ := press_L (x1 := nI s) 10 FU s2 (K_g k g2) hh (by omega) (by decide)
  obtain ⟨q, st', e, P⟩ := place_K k (g2.trans g3) rfl hB hs
  refine ⟨q, st', _, ?_, P, h3⟩
  have hc := count_tb st b
  rw [K_sl k hb] at hc
  have hle := cnt_le 1024 (sl S b)
  unfold sX3_press
  rw [slot_ok st hs, ob_s, slot_ok st ha, ob_s, slot_ok st hb, ob_s, gd_in hb (by omega), nI_toN (a := b) (by omega), hc, ob_s, if_pos (by rw [n_0, nI_eqE (by omega) (by omega)]; exact hm), gd_in ha (by omega), nI_toN (a := a) (by omega), e1, ob_s, gd_in hb (by omega), e2, ob_s, show (9 : Int32) = nI 10 + (-1 : Int32) by decide +kernel, e3, ob_s, e, ob2_s]
end MK
