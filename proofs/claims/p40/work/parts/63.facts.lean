/-! FACTS of functions that the law asks for -/
theorem cnt_not (p : Nat → Bool) : ∀ N, cnt N p + cnt N (fun i => !p i) = N
  | 0 => rfl
  | N + 1 => by
    have ih := cnt_not p N
    show (cnt N p + (if p N then 1 else 0)) + (cnt N (fun i => !p i) + (if (!p N) then 1 else 0)) = N + 1
    cases p N
    · rw [if_neg Bool.false_ne_true, if_pos (show (!false) = true from rfl)]; omega
    · rw [if_pos rfl, if_neg (show ¬ (!true) = true from Bool.false_ne_true)]; omega
theorem tbl_not : ∀ k, k < 16 → ∀ x y : Bool, tblV (15 - k) x y = !tblV k x y := by decide +kernel
theorem fA_not {k : Nat} (hk : k < 16) (f g : Fn) : fA (15 - k) f g = fun x => !fA k f g x := by
  funext x
  unfold fA
  exact tbl_not k hk _ _
theorem morgan_models {k : Nat} (hk : k < 16) (f g : Fn) : cnt 1024 (fA k f g) + cnt 1024 (fA (15 - k) f g) = 1024 := by
  rw [fA_not hk]
  exact cnt_not _ _
theorem cmp_lt {f g : Fn} (h : none1 (fM f g)) : cmpV f g < 4 := by
  unfold cmpV
  rw [if_pos h]
  split
  · split <;> omega
  · split <;> omega
theorem morgan_cmp {k : Nat} (hk : k < 16) (f g : Fn) : cmpV (fA k f g) (fA (15 - k) f g) < 4 := cmp_lt (fun x _ => by
  rw [fA_not hk]
  show (fA k f g x && !fA k f g x) = false
  cases fA k f g x <;> rfl)
theorem pO_self (f : Fn) : none1 (pO f f) := fun x _ => by
  show (f x && !f x) = false
  cases f x <;> rfl
theorem cmp_self (f : Fn) : cmpV f f = 0 := by
  unfold cmpV
  rw [if_pos (pO_self f), if_pos (pO_self f)]
theorem cmp_0 {f g : Fn} : cmpV f g = 0 ↔ none1 (pO f g) ∧ none1 (pO g f) := by
  unfold cmpV
  constructor
  · intro h
    by_cases p : none1 (pO f g)
    · rw [if_pos p] at h
      by_cases q : none1 (pO g f)
      · exact ⟨p, q⟩
      · rw [if_neg q] at h; omega
    · rw [if_neg p] at h
      by_cases q : none1 (pO g f)
      · rw [if_pos q] at h; omega
      · rw [if_neg q] at h
        by_cases r : none1 (fM f g)
        · rw [if_pos r] at h; omega
        · rw [if_neg r] at h; omega
  · rintro ⟨p, q⟩
    rw [if_pos p, if_pos q]
theorem cmp_1 {f g : Fn} : cmpV f g = 1 ↔ none1 (pO f g) ∧ ¬ none1 (pO g f) := by
  unfold cmpV
  constructor
  · intro h
    by_cases p : none1 (pO f g)
    · rw [if_pos p] at h
      by_cases q : none1 (pO g f)
      · rw [if_pos q] at h; omega
      · exact ⟨p, q⟩
    · rw [if_neg p] at h
      by_cases q : none1 (pO g f)
      · rw [if_pos q] at h; omega
      · rw [if_neg q] at h
        by_cases r : none1 (fM f g)
        · rw [if_pos r] at h; omega
        · rw [if_neg r] at h; omega
  · rintro ⟨p, q⟩
    rw [if_pos p, if_neg q]
theorem cmp_eq {f g : Fn} (h : ∀ x, f x = g x) : cmpV f g = 0 := by
  have : f = g := funext h
  rw [this]
  exact cmp_self g
theorem cmp_0x {f g : Fn} : cmpV f g = 0 ↔ ∀ x, x < 1024 → f x = g x := by
  rw [cmp_0]
  constructor
  · rintro ⟨p, q⟩ x hx
    have h1 : (f x && !g x) = false := p x hx
    have h2 : (g x && !f x) = false := q x hx
    revert h1 h2
    cases f x <;> cases g x <;> decide
  · intro h
    refine ⟨fun x hx => ?_, fun x hx => ?_⟩
    · show (f x && !g x) = false
      rw [h x hx]
      cases g x <;> rfl
    · show (g x && !f x) = false
      rw [h x hx]
      cases g x <;> rfl
theorem cmp_le (f g : Fn) : cmpV f g ≤ 4 := by
  unfold cmpV
  split
  · split <;> omega
  · split
    · omega
    · split <;> omega
theorem crs_twice (u w : Nat) (f : Fn) : crs w u (crs u w f) = f := by
  funext x
  unfold crs
  by_cases h : x.testBit w = x.testBit u
  · rw [if_pos h, if_pos h.symm]
  · have hne : u ≠ w := fun e => h (by rw [e])
    have hu : ((x ^^^ 2 ^ u) ^^^ 2 ^ w).testBit u = !x.testBit u := by
      rw [Nat.testBit_xor, Nat.testBit_xor, Nat.testBit_two_pow, Nat.testBit_two_pow, decide_eq_true rfl, decide_eq_false (fun e => hne e.symm)]
      cases x.testBit u <;> rfl
    have hw : ((x ^^^ 2 ^ u) ^^^ 2 ^ w).testBit w = !x.testBit w := by
      rw [Nat.testBit_xor, Nat.testBit_xor, Nat.testBit_two_pow, Nat.testBit_two_pow, decide_eq_true rfl, decide_eq_false hne]
      cases x.testBit w <;> rfl
    rw [if_neg h, if_neg (by
      rw [hu, hw]
      intro e
      apply h
      cases e1 : x.testBit u <;> cases e2 : x.testBit w <;> rw [e1, e2] at e <;> first | rfl | cases e), xx, xx]
theorem put_back (u : Nat) (f : Fn) : fC (fV u) (co u true f) (co u false f) = f := mux_co u f
theorem compose_self (u : Nat) (f : Fn) : fK u f (fV u) = f := mux_co u f
theorem co_at (u : Nat) (f : Fn) (x : Nat) : co u (x.testBit u) f x = f x := by
  unfold co
  rw [sw_self]
theorem co_not (u : Nat) (f : Fn) (x : Nat) : co u (!x.testBit u) f x = f (x ^^^ 2 ^ u) := by
  unfold co
  rw [sw_not]
theorem chg_0 (u : Nat) (f : Fn) : cnt 1024 (chg u f) ≠ 0 ↔ cmpV (co u false f) (co u true f) ≠ 0 := by
  have key : cnt 1024 (chg u f) = 0 ↔ cmpV (co u false f) (co u true f) = 0 := by
    rw [cmp_0x]
    constructor
    · intro h x hx
      have h1 : (f x ^^ f (x ^^^ 2 ^ u)) = false := cnt_none h hx
      have h2 : f x = f (x ^^^ 2 ^ u) := by
        cases e1 : f x <;> cases e2 : f (x ^^^ 2 ^ u) <;> rw [e1, e2] at h1 <;> first | rfl | cases h1
      have a := co_at u f x
      have b := co_not u f x
      cases e : x.testBit u
      · rw [e] at a b
        rw [a, h2]
        exact b.symm
      · rw [e] at a b
        rw [a, h2]
        exact b
    · intro h
      refine cnt_zero (fun x hx => ?_)
      have a := co_at u f x
      have b := co_not u f x
      have h1 := h x hx
      show (f x ^^ f (x ^^^ 2 ^ u)) = false
      rw [← a, ← b]
      cases e : x.testBit u
      · show (co u false f x ^^ co u true f x) = false
        rw [h1]
        cases co u true f x <;> rfl
      · show (co u true f x ^^ co u false f x) = false
        rw [h1]
        cases co u true f x <;> rfl
  exact not_congr key
theorem tr_1 (u : Nat) (f : Fn) : trV u f = 1 ↔ cmpV (co u false f) (co u true f) = 1 := by
  have e1 : pF u f = pO (co u false f) (co u true f) := rfl
  have e2 : pR u f = pO (co u true f) (co u false f) := by
    funext x
    exact Bool.and_comm _ _
  rw [cmp_1, ← e1, ← e2]
  unfold trV
  by_cases p : none1 (pR u f)
  · rw [if_pos p]
    by_cases q : none1 (pF u f)
    · rw [if_pos q]
      exact ⟨fun z => by omega, fun z => absurd p z.2⟩
    · rw [if_neg q]
      exact ⟨fun z => by omega, fun z => absurd p z.2⟩
  · rw [if_neg p]
    by_cases q : none1 (pF u f)
    · rw [if_pos q]
      exact ⟨fun _ => ⟨q, p⟩, fun _ => rfl⟩
    · rw [if_neg q]
      exact ⟨fun z => by omega, fun z => absurd z.1 q⟩
theorem tr_le (u : Nat) (f : Fn) : trV u f ≤ 3 := by
  unfold trV
  split <;> split <;> omega
/-! one variable alone has one node -/
theorem co_V {u w : Nat} (h : w ≠ u) (b : Bool) : co w b (fV u) = fV u := by
  funext x
  unfold co fV
  rw [sw_bit, if_neg (fun e => h e.symm)]
theorem co_Vs (u : Nat) (b : Bool) : co u b (fV u) = cst b := by
  funext x
  unfold co fV
  rw [sw_bit, if_pos rfl]
  rfl
theorem cofs_V {u : Nat} {o : Nat → Nat} : ∀ L g, g ∈ cofs [fV u, fV u] o L → g = fV u ∨ ∃ b, g = cst b
  | 0, g, h => by
    rcases List.mem_cons.mp h with z | z
    · exact Or.inl z
    · exact Or.inl (List.mem_singleton.mp z)
  | L + 1, g, h => by
    obtain ⟨f, b, h1, h2⟩ := cofs_succ.mp h
    rcases cofs_V L f h1 with z | ⟨c, z⟩
    · rw [h2, z]
      by_cases e : o L = u
      · rw [e, co_Vs]
        exact Or.inr ⟨b, rfl⟩
      · exact Or.inl (co_V e b)
    · rw [h2, z]
      exact Or.inr ⟨c, rfl⟩
theorem nAt_V {u : Nat} {o : Nat → Nat} (L : Nat) : nAt [fV u, fV u] o L ≤ if (o L == u) = true then 1 else 0 := by
  obtain ⟨m', g1, g2, g3⟩ := dcount_rep (fun x : Fn => x) (nodL [fV u, fV u] o L)
  unfold nAt
  rw [← g3]
  have key : ∀ g, g ∈ m' → g = fV u ∧ o L = u := fun g hg => by
    obtain ⟨h1, h2⟩ := mem_nodL.mp ((g2 g).mp hg)
    rcases cofs_V L g h1 with z | ⟨b, z⟩
    · refine ⟨z, Classical.byContradiction (fun e => h2 ?_)⟩
      rw [z]
      exact fun b => co_V e b
    · rw [z] at h2
      exact absurd (indep_cst b _) h2
  by_cases e : o L = u
  · rw [if_pos (by rw [e]; exact beq_self_eq_true u)]
    have := nodup_le (m := [fV u]) g1 (fun g hg => by rw [(key g hg).1]; exact List.mem_singleton.mpr rfl)
    exact this
  · rw [if_neg (by simpa using e)]
    cases m' with
    | nil => exact Nat.le_refl _
    | cons a t => exact absurd (key a List.mem_cons_self).2 e
theorem cnt_one {u : Nat} (hu : u < 10) : cnt 10 (fun w => w == u) = 1 := by
  have h : ∀ u, u < 10 → cnt 10 (fun w => w == u) = 1 := by decide
  exact h u hu
theorem size_V {o : Nat → Nat} (ho : oOK o) {u : Nat} (hu : u < 10) : nAll [fV u, fV u] o = 1 := by
  have h1 := size_dv ho (S := [fV u, fV u]) (f := fV u) List.mem_cons_self
  have h2 : 1 ≤ dv (fV u) := by
    have hd : depB (fV u) u = true := depB_true.mpr (fun z => by
      have h0 := z false
      rw [co_Vs] at h0
      have h1 := z true
      rw [co_Vs] at h1
      exact cst_ne (h0.trans h1.symm))
    exact cnt_pos (p := fun w => depB (fV u) w) hu hd
  have h3 : ∀ k, nSum [fV u, fV u] o k ≤ cnt k (fun i => o i == u) := by
    intro k
    induction k with
    | zero => exact Nat.zero_le _
    | succ k ih =>
      have := nAt_V (u := u) (o := o) k
      show nSum [fV u, fV u] o k + nAt [fV u, fV u] o k ≤ cnt k (fun i => o i == u) + (if (o k == u) = true then 1 else 0)
      omega
  have h4 := perm_le ho (fun w => w == u)
  rw [cnt_one hu] at h4
  have h5 : nAll [fV u, fV u] o = nSum [fV u, fV u] o 10 := rfl
  have h6 := h3 10
  omega
/-! quantifying -/
def fN (f : Fn) : Fn := fun x => !f x
theorem tbl1_not : ∀ x : Bool, tblV 1 x x = !x := by decide
theorem fA_1 (f : Fn) : fA 1 f f = fN f := by
  funext x
  exact tbl1_not (f x)
theorem tbl8_and : ∀ x y : Bool, tblV 8 x y = (x && y) := by decide
theorem fA_8 (f g : Fn) : fA 8 f g = fM f g := by
  funext x
  exact tbl8_and (f x) (g x)
theorem fN_fN (f : Fn) : fN (fN f) = f := by
  funext x
  show (!(!f x)) = f x
  cases f x <;> rfl
theorem fold_dual (w : Nat) (f : Fn) : fold1 0 w (fN f) = fN (fold1 1 w f) := by
  funext x
  show way2 0 (!f x) (!f (x ^^^ 2 ^ w)) = !way2 1 (f x) (f (x ^^^ 2 ^ w))
  cases f x <;> cases f (x ^^^ 2 ^ w) <;> rfl
theorem fset_dual (s : Nat) : ∀ (k i : Nat) (f : Fn), fset 0 s k i (fN f) = fN (fset 1 s k i f)
  | 0, _, _ => rfl
  | k + 1, i, f => by
    show fset 0 s k (i + 1) (if s.testBit i = true then fold1 0 i (fN f) else fN f) = fN (fset 1 s k (i + 1) (if s.testBit i = true then fold1 1 i f else f))
    by_cases q : s.testBit i = true
    · rw [if_pos q, if_pos q, fold_dual, fset_dual s k]
    · rw [if_neg q, if_neg q, fset_dual s k]
theorem all_any (s : Nat) (f : Fn) : fA 1 (fset 0 s 10 0 (fA 1 f f)) (fset 0 s 10 0 (fA 1 f f)) = fset 1 s 10 0 f := by
  rw [fA_1, fA_1, fset_dual, fN_fN]
theorem way_comm (way : Nat) (x y : Bool) : way2 way x y = way2 way y x := by
  unfold way2
  split
  · exact Bool.or_comm _ _
  · split
    · exact Bool.and_comm _ _
    · exact Bool.xor_comm _ _
theorem xor_swap (x a b : Nat) : (x ^^^ a) ^^^ b = (x ^^^ b) ^^^ a := by
  rw [Nat.xor_assoc, Nat.xor_comm a b, ← Nat.xor_assoc]
theorem ind_fold (way w : Nat) (f : Fn) : indep (fold1 way w f) w := indep_xor.mpr (fun x => by
  unfold fold1
  rw [xx, way_comm])
theorem ind_fold_of {way w u : Nat} {f : Fn} (h : indep f u) : indep (fold1 way w f) u := indep_xor.mpr (fun x => by
  have h1 := indep_xor.mp h
  unfold fold1
  rw [← h1 x, xor_swap, ← h1 (x ^^^ 2 ^ w)])
theorem fset_ind {way s w : Nat} : ∀ (k i : Nat) (f : Fn), (indep f w ∨ (i ≤ w ∧ w < i + k ∧ s.testBit w = true)) → indep (fset way s k i f) w
  | 0, _, f, h => by
    rcases h with h | ⟨h1, h2, -⟩
    · exact h
    · omega
  | k + 1, i, f, h => by
    show indep (fset way s k (i + 1) (if s.testBit i = true then fold1 way i f else f)) w
    apply fset_ind k (i + 1)
    rcases h with h | ⟨h1, h2, h3⟩
    · left
      split
      · exact ind_fold_of h
      · exact h
    · by_cases e : i = w
      · left
        rw [e, if_pos h3]
        exact ind_fold way w f
      · exact Or.inr ⟨by omega, by omega, h3⟩
theorem fset_sup {way s t : Nat} {f : Fn} (hs : s < 1024) (h : SUP (fset way s 10 0 f) t) : t &&& s = 0 := by
  refine nat_ext (fun w => ?_)
  rw [Nat.testBit_and, Nat.zero_testBit]
  by_cases hw : w < 10
  · cases q : s.testBit w
    · exact Bool.and_false _
    · have := fset_ind (way := way) (s := s) (w := w) 10 0 f (Or.inr ⟨Nat.zero_le _, by omega, q⟩)
      cases e : t.testBit w
      · rfl
      · exact absurd this ((h.2 w hw).mp e)
  · rw [big_bit hs (by omega), Bool.and_false]
theorem nI_and (a b : Nat) : nI a &&& nI b = nI (a &&& b) := by
  apply Int32.toBitVec_inj.mp
  show BitVec.ofNat 32 a &&& BitVec.ofNat 32 b = BitVec.ofNat 32 (a &&& b)
  apply BitVec.eq_of_toNat_eq
  rw [BitVec.toNat_and, BitVec.toNat_ofNat, BitVec.toNat_ofNat, BitVec.toNat_ofNat, Nat.and_mod_two_pow]
theorem fset_one {way w : Nat} : ∀ (k i : Nat) (f : Fn), i + k = 10 → w < 10 → fset way (2 ^ w) k i f = if i ≤ w then fold1 way w f else f
  | 0, i, f, hi, hw => by rw [if_neg (by omega)]; rfl
  | k + 1, i, f, hi, hw => by
    show fset way (2 ^ w) k (i + 1) (if (2 ^ w).testBit i = true then fold1 way i f else f) = _
    rw [fset_one k (i + 1) _ (by omega) hw, Nat.testBit_two_pow]
    by_cases e : w = i
    · rw [if_neg (by omega), decide_eq_true e, if_pos rfl, if_pos (by omega), e]
    · rw [decide_eq_false e, if_neg Bool.false_ne_true]
      by_cases q : i ≤ w
      · rw [if_pos q, if_pos (by omega)]
      · rw [if_neg q, if_neg (by omega)]
theorem odd_two {w : Nat} (hw : w < 10) (f : Fn) : fset 2 (2 ^ w) 10 0 f = chg w f := by
  rw [fset_one 10 0 f rfl hw, if_pos (Nat.zero_le _)]
  rfl
theorem press_cmp {f g p : Fn} (h : ∀ x, g x = true → p x = f x) : cmpV (fA 8 p g) (fA 8 f g) = 0 := by
  rw [fA_8, fA_8]
  refine cmp_eq (fun x => ?_)
  show (p x && g x) = (f x && g x)
  cases q : g x
  · rw [Bool.and_false, Bool.and_false]
  · rw [h x q]
