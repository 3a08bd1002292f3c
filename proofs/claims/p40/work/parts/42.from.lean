/-! HOW MANY NODES two slots have -/
section DGA
variable {al : Nat → Bool} {lev low high o : Nat → Nat} {D : Nat → Fn} {S : List Fn}
theorem DG_sum (h : DG al lev low high o D) (hS : ∀ g, g ∈ S → ∃ c, ch al c ∧ D c = g) (hR : ∀ n, al n = true → D n ∈ S ∨ ∃ m, al m = true ∧ (low m = n ∨ high m = n)) : ∀ k, k ≤ 10 → cnt 2560 (fun n => al n && decide (lev n < k)) = nSum S o k := by
  intro k
  induction k with
  | zero =>
    intro _
    refine cnt_zero (fun n _ => ?_)
    simp
  | succ k ih =>
    intro hk
    have h1 := cnt_split 2560 (fun n => al n && decide (lev n < k + 1)) (fun n => lev n == k)
    have h2 : cnt 2560 (fun n => (al n && decide (lev n < k + 1)) && (lev n == k)) = cnt 2560 (fun n => al n && (lev n == k)) := cnt_congr (fun n _ => by
      cases q : (lev n == k)
      · simp
      · have : lev n = k := by simpa using q
        simp [this])
    have h3 : cnt 2560 (fun n => (al n && decide (lev n < k + 1)) && !(lev n == k)) = cnt 2560 (fun n => al n && decide (lev n < k)) := cnt_congr (fun n _ => by
      by_cases q : lev n = k
      · simp [q]
      · have e : decide (lev n < k + 1) = decide (lev n < k) := by
          rw [decide_eq_decide]
          omega
        have e2 : (lev n == k) = false := by simpa using q
        rw [e, e2]
        simp)
    rw [h1, h2, h3, ih (by omega), DG_count h hS hR (show k < 10 by omega)]
    show nAt S o k + nSum S o k = nSum S o k + nAt S o k
    omega
theorem DG_all (h : DG al lev low high o D) (hS : ∀ g, g ∈ S → ∃ c, ch al c ∧ D c = g) (hR : ∀ n, al n = true → D n ∈ S ∨ ∃ m, al m = true ∧ (low m = n ∨ high m = n)) : cnt 2560 al = nAll S o := by
  have h1 := DG_sum h hS hR 10 (Nat.le_refl _)
  have h2 : cnt 2560 (fun n => al n && decide (lev n < 10)) = cnt 2560 al := cnt_congr (fun n _ => by
    cases q : al n
    · simp
    · have := (h.1 n q).2.2.1
      simp [this])
  rw [h2] at h1
  exact h1
/-- what is closed below is a diagram itself -/
theorem DG_sub (h : DG al lev low high o D) {R : List Nat} (hR : ∀ m, m ∈ R → al m = true ∧ (low m < 2 ∨ low m ∈ R) ∧ (high m < 2 ∨ high m ∈ R)) : DG (fun m => decide (m ∈ R)) lev low high o D := by
  obtain ⟨h1, h2, h3⟩ := h
  refine ⟨fun n hn => ?_, fun n m hn hm => h2 n m (hR n (of_decide_eq_true hn)).1 (hR m (of_decide_eq_true hm)).1, h3⟩
  obtain ⟨a1, a2, a3⟩ := hR n (of_decide_eq_true hn)
  obtain ⟨b1, b2, b3, b4, b5, b6⟩ := h1 n a1
  exact ⟨b1, b2, b3, a2.imp id (fun z => decide_eq_true z), a3.imp id (fun z => decide_eq_true z), b6⟩
end DGA
theorem cnt_list {R : List Nat} (h : R.Nodup) (hb : ∀ m, m ∈ R → m < 2560) : cnt 2560 (fun m => decide (m ∈ R)) = R.length := by
  rw [← cnt_filter]
  refine Nat.le_antisymm (nodup_le ((range_nodup 2560).filter _) (fun a ha => ?_)) (nodup_le h (fun a ha => ?_))
  · exact of_decide_eq_true (List.mem_filter.mp ha).2
  · exact List.mem_filter.mpr ⟨List.mem_range.mpr (hb a ha), decide_eq_true ha⟩
/-- stamps: none above the last one -/
def SI (B : Nat) (st : St) : Prop := (∀ n, n < 2560 → v 13 st n ≤ fv 2 st) ∧ fv 2 st ≤ B
/-- what asking leaves -/
def FQ (st st' : St) : Prop := Fr [13, 14, 15] st st' ∧ ∀ k, k ≠ 2 → k ≠ 3 → st'.2.2 k = st.2.2 k
theorem FQ.refl (st : St) : FQ st st := ⟨Fr.refl _ _, fun _ _ _ => rfl⟩
theorem FQ.trans {a b c : St} (h1 : FQ a b) (h2 : FQ b c) : FQ a c := ⟨h1.1.trans h2.1, fun k h3 h4 => (h2.2 k h3 h4).trans (h1.2 k h3 h4)⟩
theorem GD_FQ {st st' : St} {al : Nat → Bool} {o : Nat → Nat} {D : Nat → Fn} (G : GD st al o D) (f : FQ st st') (hn : NN st') : GD st' al o D ∧ FS st' D = FS st D := by
  refine GD_cong G (fun r h4 h12 => f.1.vE (by simp; omega)) ?_ ?_ hn
  · unfold fv; rw [f.2 0 (by omega) (by omega)]
  · unfold fv; rw [f.2 1 (by omega) (by omega)]
theorem from_G {st : St} {al : Nat → Bool} {o : Nat → Nat} {D : Nat → Fn} {B a b : Nat} (G : GD st al o D) (hs : SI B st) (hB : B < 2000000000) (ha : a < 12) (hb : b < 12) :
    ∃ (st' : St) (R : List Nat), sX0_countFrom st (nI a) (nI b) = some (nI R.length, st') ∧ R.length = nAll [D (v 5 st a), D (v 5 st b)] o ∧ R.length ≤ 2560 ∧ LSr st' R ∧ OL al (v 9 st) (v 10 st) R ∧ (v 5 st a < 2 ∨ v 5 st a ∈ R) ∧ FQ st st' ∧ v 14 st' = v 14 st ∧ NN st' ∧ SI (B + 1) st' := by
  obtain ⟨⟨⟨hN, -, -, -, hS⟩, -⟩, hD, -, -, -⟩ := id G
  have f2 : fv 2 st ≤ B := hs.2
  have N1 := NN_sF (k := 2) hN (x := fv 2 st + 1) (by omega)
  have N2 := NN_sF (k := 3) N1 (x := 0) (by omega)
  have z2 : fv 2 (sF 3 (sF 2 st (nI (fv 2 st + 1))) (nI 0)) = fv 2 st + 1 := by rw [fv_sF (by omega), if_neg (by decide), fv_sF (by omega), if_pos rfl]
  have z3 : fv 3 (sF 3 (sF 2 st (nI (fv 2 st + 1))) (nI 0)) = 0 := by rw [fv_sF (by omega), if_pos rfl]
  have zv : ∀ r, v r (sF 3 (sF 2 st (nI (fv 2 st + 1))) (nI 0)) = v r st := fun r => rfl
  have zF : FQ st (sF 3 (sF 2 st (nI (fv 2 st + 1))) (nI 0)) := ⟨⟨fun _ _ => rfl, rfl⟩, fun k h1 h2 => (if_neg h2 : _).trans (if_neg h1)⟩
  have pre : sX0_countFrom st (nI a) (nI b) = (gd (nI a) 12 <| ob (sX0_collect 12 (sF 3 (sF 2 st (nI (fv 2 st + 1))) (nI 0)) (gI 5 (sF 3 (sF 2 st (nI (fv 2 st + 1))) (nI 0)) (nI a)) (0 : Int32)) fun st_3 => gd (nI b) 12 <| ob (sX0_collect 12 st_3 (gI 5 st_3 (nI b)) (0 : Int32)) fun st_5 => some ((gF 3 st_5), st_5)) := by
    unfold sX0_countFrom
    rw [gF_v hN, nI_add1, lt_e, show (0 : Int32) = nI 0 from n_0, lt_e]
  rw [pre]
  generalize sF 3 (sF 2 st (nI (fv 2 st + 1))) (nI 0) = s2 at N2 z2 z3 zv zF
  have M2 : MK s2 (fun _ => false) := fun n hn => by
    rw [z2, zv]
    have := hs.1 n hn
    constructor
    · intro e; omega
    · intro e; cases e
  obtain ⟨s3, M3, X1, e3, N3, F3, k3, hM3, g3, L3, O3, m3, c3, r3, t3⟩ := collect_ok hD 12 0 (v 5 st a) s2 (fun _ => false) [] N2 (zv 8) (zv 9) (zv 10) (hS.2.2 a ha) M2 z3 trivial trivial (fun m hm => absurd hm List.not_mem_nil) (fun m _ hm => by cases hm) (Nat.zero_le _) (by omega)
  have y2 : fv 2 s3 = fv 2 st + 1 := by rw [← z2]; unfold fv; rw [k3 2 (by omega)]
  have y5 : v 5 s3 = v 5 st := (F3.vE (by decide)).trans (zv 5)
  obtain ⟨s5, M5, X2, e5, N5, F5, k5, hM5, g5, L5, O5, m5, c5, r5, t5⟩ := collect_ok hD 12 0 (v 5 st b) s3 M3 (X1 ++ []) N3 ((F3.vE (by decide)).trans (zv 8)) ((F3.vE (by decide)).trans (zv 9)) ((F3.vE (by decide)).trans (zv 10)) (hS.2.2 b hb) hM3 g3 L3 O3 (fun m hm => (m3 m).mpr (Or.inr (by simpa using hm))) (fun m _ hm _ => by
    rcases (m3 m).mp hm with z | z
    · cases z
    · simpa using z) (Nat.zero_le _) (by omega)
  have FF : FQ s2 s5 := ⟨(F3.trans F5).mono (by intro q hq; simp at hq ⊢; omega), fun k h1 h2 => (k5 k h2).trans (k3 k h2)⟩
  have hcl : ∀ m, m ∈ X2 ++ (X1 ++ []) → al m = true ∧ (v 9 st m < 2 ∨ v 9 st m ∈ X2 ++ (X1 ++ [])) ∧ (v 10 st m < 2 ∨ v 10 st m ∈ X2 ++ (X1 ++ [])) := fun m hm => ⟨OL_al O5 m hm, (OL_low O5 m hm).1, (OL_low O5 m hm).2⟩
  have hlt : ∀ m, m ∈ X2 ++ (X1 ++ []) → m < 2560 := fun m hm => (hD.1 m (OL_al O5 m hm)).2.1
  have hlen := cnt_list (OL_nodup O5) hlt
  have hall := DG_all (S := [D (v 5 st a), D (v 5 st b)]) (DG_sub hD hcl) (fun g hg => by
    rcases List.mem_cons.mp hg with e | hg
    · refine ⟨v 5 st a, ?_, e.symm⟩
      exact c3.imp id (fun z => decide_eq_true (List.mem_append.mpr (Or.inr z)))
    · rcases List.mem_cons.mp hg with e | hg
      · exact ⟨v 5 st b, c5.imp id (fun z => decide_eq_true z), e.symm⟩
      · exact absurd hg List.not_mem_nil) (fun n hn => by
    rcases List.mem_append.mp (of_decide_eq_true hn) with z | z
    · rcases (r5 n z).2 with e | ⟨q, h1, h2⟩
      · exact Or.inl (by rw [e]; simp)
      · exact Or.inr ⟨q, decide_eq_true (List.mem_append.mpr (Or.inl h1)), h2⟩
    · rcases (r3 n (by simpa using z)).2 with e | ⟨q, h1, h2⟩
      · exact Or.inl (by rw [e]; simp)
      · exact Or.inr ⟨q, decide_eq_true (List.mem_append.mpr (Or.inr (by simpa using h1))), h2⟩)
  rw [hlen] at hall
  refine ⟨s5, X2 ++ (X1 ++ []), ?_, hall, ?_, L5, O5, ?_, zF.trans FF, ?_, N5, ?_, ?_⟩
  · rw [gd_in ha (by omega), gI_v N2 (by decide) (by omega), zv, n_0, e3, ob_s, gd_in hb (by omega), gI_v N3 (by decide) (by omega), y5, e5, ob_s, gF_v N5, g5]
  · rw [← hlen]; exact cnt_le _ _
  · exact c3.imp id (fun z => List.mem_append.mpr (Or.inr z))
  · rw [F5.vE (by decide), F3.vE (by decide), zv]
  · intro n hn
    have y5' : fv 2 s5 = fv 2 st + 1 := by rw [← y2]; unfold fv; rw [k5 2 (by omega)]
    have := hs.1 n hn
    rcases t5 n with z | z
    · rcases t3 n with z' | z'
      · rw [z, z', zv]; omega
      · rw [z, z', z2]; omega
    · rw [z, y2]; omega
  · have y5' : fv 2 s5 = fv 2 st + 1 := by rw [← y2]; unfold fv; rw [k5 2 (by omega)]
    omega
/-- the function of a slot -/
def sl (S : List Fn) (a : Nat) : Fn := S.getD a (cst false)
theorem sl_FS {st : St} {D : Nat → Fn} {a : Nat} (ha : a < 12) : sl (FS st D) a = D (v 5 st a) := by
  unfold sl FS
  rw [List.getD_eq_getElem?_getD, List.getElem?_map, List.getElem?_range ha]
  rfl
theorem from_ok {S : List Fn} {o : Nat → Nat} {st : St} {B a b : Nat} (h : OS S o st) (hs : SI B st) (hB : B < 2000000000) (ha : a < 12) (hb : b < 12) :
    ∃ st', sX0_countFrom st (nI a) (nI b) = some (nI (nAll [sl S a, sl S b] o), st') ∧ OS S o st' ∧ FQ st st' ∧ SI (B + 1) st' := by
  obtain ⟨al, D, G, rfl⟩ := h
  obtain ⟨st', R, e, hl, -, -, -, -, f, -, n, s⟩ := from_G G hs hB ha hb
  obtain ⟨G', hF⟩ := GD_FQ G f n
  rw [sl_FS ha, sl_FS hb, ← hl]
  exact ⟨st', e, ⟨al, D, G', hF⟩, f, s⟩
