/-! PLACING a function in a slot -/
def FP (st st' : St) : Prop := Fr [5, 6, 7, 8, 9, 10, 11, 12, 16] st st' ∧ ∀ k, k ≠ 0 → k ≠ 1 → st'.2.2 k = st.2.2 k
theorem bset_ok {S : List Fn} {o : Nat → Nat} {st : St} {t1 set s : Nat} (h : OS S o st) (hs : s < 12) (hset : SUP (tb st t1) set) :
    ∃ (r : Nat) (st1 st2 : St), sX0_build st t1 (nI set) = some (nI r, st1) ∧ sX0_setRoot st1 (nI s) (nI r) = some st2 ∧ OS (S.set s (tb st t1)) o st2 ∧ FP st st2 := by
  obtain ⟨al, D, G, rfl⟩ := h
  have W : WB (FS st D ++ [tb st t1]) o st al D := by
    refine ⟨G.1, G.2.1, fun n hn => ?_, G.2.2.1, ?_, fun g hg => ?_⟩
    · refine DG_reach G.2.1 (fun m hm => ?_) (v 8 st n + 1) n (Nat.lt_succ_self _) hn
      exact (GD_refd G m hm).imp (fun z => List.mem_append.mpr (Or.inl z)) id
    · rw [List.length_append, FS_len]; exact Nat.le_refl _
    · rcases List.mem_append.mp hg with z | z
      · exact FS_fin G g z
      · rw [List.mem_singleton.mp z]; exact tb_fin st t1
  obtain ⟨r, s1, al1, D1, e1, W1, cr, dr, K1, hp1, F1⟩ := build_ok W G.2.2.2.1 (List.mem_append.mpr (Or.inr (List.mem_singleton.mpr rfl))) hset.1 (fun w hw hb => Classical.byContradiction (fun z => by rw [(hset.2 w hw).mpr z] at hb; cases hb))
  have y5 : v 5 s1 = v 5 st := F1.1.vE (by decide)
  have hro := G.1.1.2.2.2.2.2.2
  have hD5 : ∀ k, k < 12 → D1 (v 5 s1 k) = D (v 5 st k) := fun k hk => by rw [y5]; exact (K1 _ (hro k hk)).2.1
  obtain ⟨s2, al2, e2, G2, h2, F2, f2⟩ := setRoot_ok W1.1 W1.2.1 W1.2.2.2.1 cr hp1 hs (fun k hk => by rw [hD5 k hk]; exact G.2.2.2.2 k hk) (by rw [dr]; exact tb_fin st t1)
  refine ⟨r, s1, s2, e1, e2, ⟨al2, D1, G2, ?_⟩, (F1.1.mono (by intro q hq; simp at hq ⊢; omega)).trans (F2.mono (by intro q hq; simp at hq ⊢; omega)), fun k a b => (f2 k a b).trans (F1.2 k a b)⟩
  rw [h2, dr]
  congr 1
  unfold FS
  refine List.map_congr_left (fun k hk => hD5 k (List.mem_range.mp hk))
def TB (st : St) : List Fn := (List.range 12).map (fun s => tb st s)
/-- between calls -/
def TS (S : List Fn) (o : Nat → Nat) (st : St) : Prop := OS S o st ∧ S = TB st ∧ (∀ s, s < 12 → SUP (tb st s) (v 0 st s)) ∧ nAll S o ≤ 400
theorem TB_at {st : St} {k : Nat} (hk : k < 12) : sl (TB st) k = tb st k := by
  unfold sl TB
  rw [List.getD_eq_getElem?_getD, List.getElem?_map, List.getElem?_range hk]
  rfl
theorem TB_set {st st' : St} {s : Nat} {f : Fn} (h : ∀ k, k < 12 → tb st' k = if k = s then f else tb st k) : TB st' = (TB st).set s f := by
  unfold TB
  refine List.ext_getElem (by simp) (fun i h1 h2 => ?_)
  rw [List.getElem_set]
  simp only [List.getElem_map, List.getElem_range]
  rw [h i (by simpa using h1)]
  by_cases e : i = s
  · rw [if_pos e, if_pos e.symm]
  · rw [if_neg e, if_neg (fun z => e z.symm)]
theorem SI_cong {B : Nat} {st st' : St} (h : SI B st) (e : v 13 st' = v 13 st) (f : fv 2 st' = fv 2 st) : SI B st' := by
  unfold SI
  rw [e, f]
  exact h
theorem SI_le {B C : Nat} {st : St} (h : SI B st) (hBC : B ≤ C) : SI C st := ⟨h.1, Nat.le_trans h.2 hBC⟩
/-- what placing leaves: the costs, the other tables -/
def FT (s : Nat) (st st' : St) : Prop := (∀ r, r = 1 ∨ r = 2 → v r st' = v r st) ∧ ∀ k, k ≠ s → tb st' k = tb st k
theorem place_ok {S : List Fn} {o : Nat → Nat} {st : St} {s B : Nat} (T : TS S o st) (hI : SI B st) (hB : B < 2000000000) (hs : s < 12) :
    ∃ (q : Int32) (st' : St), sX3_place st (nI s) = some (q, st') ∧ SI (B + 1) st' ∧ FT s st st' ∧ ((q = nI (nAll [tb st 12, tb st 12] o) ∧ TS (S.set s (tb st 12)) o st') ∨ (q = -1 ∧ TS S o st')) := by
  obtain ⟨hO, hTB, hsup, hT⟩ := T
  obtain ⟨set, e1, hset⟩ := dependsOn_ok st 12
  obtain ⟨r, s1, s2, e2, e3, O2, F2⟩ := bset_ok hO hs hset
  have hlenS : S.length = 12 := by rw [hTB]; unfold TB; rw [List.length_map, List.length_range]
  have t2 : ∀ k, tb s2 k = tb st k := fun k => tb_Fr F2.1 k
  have b13 : v 13 s2 = v 13 st := F2.1.vE (by decide)
  have b0 : v 0 s2 = v 0 st := F2.1.vE (by decide)
  have bf2 : fv 2 s2 = fv 2 st := by unfold fv; rw [F2.2 2 (by omega) (by omega)]
  have cl : (nI s).toNatClampNeg = s := nI_toN (by omega)
  by_cases q : nAll (S.set s (tb st 12)) o ≤ 400
  · obtain ⟨s3, e4, L3, c3⟩ := copy_ok s2 s 12
    have v3 : ∀ r, v r s3 = v r s2 := fun r => by funext i; unfold v; rw [L3.1]
    have f3 : ∀ k, fv k s3 = fv k s2 := fun k => by unfold fv; rw [L3.2.1]
    have N3 : NN s3 := by
      have h := OS_nn O2
      unfold NN at h ⊢
      rw [L3.1, L3.2.1]
      exact h
    have N4 := NN_sI (r := 0) N3 (i := s) (x := set) (by omega) (by have := hset.1; omega)
    have F4 := Fr_sI s3 0 (nI s) (nI set)
    have O4 : OS (S.set s (tb st 12)) o (sI 0 s3 (nI s) (nI set)) := OS_cong O2 (fun r h4 _ => by rw [F4.vE (by simp; omega), v3]) (f3 0) (f3 1) N4
    have I4 : SI B (sI 0 s3 (nI s) (nI set)) := SI_cong hI (by rw [F4.vE (by decide), v3, b13]) ((f3 2).trans bf2)
    obtain ⟨s5, e5, O5, F5, I5⟩ := from_ok O4 I4 hB hs hs
    have hsl : sl (S.set s (tb st 12)) s = tb st 12 := by
      unfold sl
      rw [List.getD_eq_getElem?_getD, List.getElem?_set_self (by rw [hlenS]; exact hs)]
      rfl
    rw [hsl] at e5
    have t5 : ∀ k, tb s5 k = if k = s then tb st 12 else tb st k := fun k => by
      rw [tb_Fr F5.1 k, tb_Fr F4 k]
      by_cases e : k = s
      · rw [if_pos e, e, c3, t2]
      · rw [if_neg e, L3.tbE e, t2]
    have v05 : ∀ k, v 0 s5 k = if k = s then set else v 0 st k := fun k => by
      rw [F5.1.vE (by decide), v_sI (by omega) (by have := hset.1; omega), v3, b0]
      by_cases e : k = s
      · rw [if_pos ⟨rfl, e⟩, if_pos e]
      · rw [if_neg (fun z => e z.2), if_neg e]
    refine ⟨nI (nAll [tb st 12, tb st 12] o), s5, ?_, I5, ⟨fun r hr => ?_, fun k hk => by rw [t5, if_neg hk]⟩, Or.inl ⟨rfl, O5, ?_, fun k hk => ?_, q⟩⟩
    · unfold sX3_place
      rw [e1, ob_s, e2, ob2_s, e3, ob_s, count_ok O2, ob_s, if_pos (by rw [n_400, nI_leE (by have := (OS_total O2).2; omega) (by omega)]; exact q), gd_in hs (by omega), cl, e4, ob_s, gd_in hs (by omega), lt_e, e5, ob2_s]
    · rw [F5.1.vE (by simp; omega), F4.vE (by simp; omega), v3, F2.1.vE (by simp; omega)]
    · rw [hTB, ← TB_set (fun k _ => t5 k)]
    · rw [t5, v05]
      by_cases e : k = s
      · rw [if_pos e, if_pos e]; exact hset
      · rw [if_neg e, if_neg e]; exact hsup k hk
  · have hv0 := (hsup s hs).1
    obtain ⟨r2, s3, s4, e4, e5, O4, F4⟩ := bset_ok (t1 := s) (set := v 0 st s) O2 hs (by rw [t2]; exact hsup s hs)
    have t4 : ∀ k, tb s4 k = tb st k := fun k => (tb_Fr F4.1 k).trans (t2 k)
    have hback : (S.set s (tb st 12)).set s (tb s2 s) = S := by
      rw [List.set_set, t2, hTB]
      have := TB_set (st := st) (st' := st) (s := s) (f := tb st s) (fun k _ => by
        by_cases e : k = s
        · rw [if_pos e, e]
        · rw [if_neg e])
      exact this.symm
    rw [hback] at O4
    refine ⟨-1, s4, ?_, SI_le (SI_cong hI ((F4.1.vE (by decide)).trans b13) (by rw [← bf2]; unfold fv; rw [F4.2 2 (by omega) (by omega)])) (by omega), ⟨fun r hr => ?_, fun k _ => t4 k⟩, Or.inr ⟨rfl, O4, ?_, fun k hk => ?_, hT⟩⟩
    · unfold sX3_place
      rw [e1, ob_s, e2, ob2_s, e3, ob_s, count_ok O2, ob_s, if_neg (by rw [n_400, nI_leE (by have := (OS_total O2).2; omega) (by omega)]; exact q), gd_in hs (by omega), gd_in hs (by omega), cl, gI_v (OS_nn O2) (by decide) (by omega), b0, e4, ob2_s, e5, ob_s]
    · rw [F4.1.vE (by simp; omega), F2.1.vE (by simp; omega)]
    · rw [hTB]
      unfold TB
      exact List.map_congr_left (fun k _ => (t4 k).symm)
    · rw [t4, F4.1.vE (r := 0) (by decide), b0]
      exact hsup k hk
