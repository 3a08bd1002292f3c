/-! COLLECTING the nodes below a root -/
def MK (st : St) (M : Nat → Bool) : Prop := ∀ n, n < 2560 → (v 13 st n = fv 2 st ↔ M n = true)
/-- the list, its last entry first -/
def LSr (st : St) : List Nat → Prop
  | [] => True
  | n :: t => v 15 st t.length = n ∧ LSr st t
theorem LSr_same {st st' : St} : ∀ {R : List Nat}, (∀ j, j < R.length → v 15 st' j = v 15 st j) → LSr st R → LSr st' R
  | [], _, _ => trivial
  | n :: t, h, hl => ⟨(h _ (by rw [List.length_cons]; omega)).trans hl.1, LSr_same (R := t) (fun j hj => h j (by rw [List.length_cons]; omega)) hl.2⟩
/-- each once, and what a node points to behind it -/
def OL (al : Nat → Bool) (low high : Nat → Nat) : List Nat → Prop
  | [] => True
  | n :: t => (al n = true ∧ n ∉ t ∧ (low n < 2 ∨ low n ∈ t) ∧ (high n < 2 ∨ high n ∈ t)) ∧ OL al low high t
theorem OL_nodup {al : Nat → Bool} {low high : Nat → Nat} : ∀ {R : List Nat}, OL al low high R → R.Nodup
  | [], _ => List.nodup_nil
  | _ :: _, h => List.nodup_cons.mpr ⟨h.1.2.1, OL_nodup h.2⟩
theorem OL_al {al : Nat → Bool} {low high : Nat → Nat} : ∀ {R : List Nat}, OL al low high R → ∀ m, m ∈ R → al m = true
  | [], _, _, hm => absurd hm List.not_mem_nil
  | n :: t, h, m, hm => by
    rcases List.mem_cons.mp hm with q | q
    · rw [q]; exact h.1.1
    · exact OL_al h.2 m q
theorem OL_low {al : Nat → Bool} {low high : Nat → Nat} : ∀ {R : List Nat}, OL al low high R → ∀ m, m ∈ R → (low m < 2 ∨ low m ∈ R) ∧ (high m < 2 ∨ high m ∈ R)
  | [], _, _, hm => absurd hm List.not_mem_nil
  | n :: t, h, m, hm => by
    have up : ∀ c, (c < 2 ∨ c ∈ t) → (c < 2 ∨ c ∈ n :: t) := fun c hc => hc.imp id (List.mem_cons_of_mem _)
    rcases List.mem_cons.mp hm with q | q
    · rw [q]; exact ⟨up _ h.1.2.2.1, up _ h.1.2.2.2⟩
    · exact ⟨up _ (OL_low h.2 m q).1, up _ (OL_low h.2 m q).2⟩
section COLL
variable {al : Nat → Bool} {lev low high o : Nat → Nat} {D : Nat → Fn}
theorem collect_ok (h : DG al lev low high o D) : ∀ (fu d c : Nat) (st : St) (M : Nat → Bool) (R : List Nat), NN st → v 8 st = lev → v 9 st = low → v 10 st = high → ch al c → MK st M → fv 3 st = R.length → LSr st R → OL al low high R → (∀ m, m ∈ R → M m = true) → (∀ m, al m = true → M m = true → lvl lev c ≤ lev m → m ∈ R) → d ≤ lvl lev c → 12 ≤ fu + d →
    ∃ (st' : St) (M' : Nat → Bool) (X : List Nat), sX0_collect fu st (nI c) (nI d) = some st' ∧ NN st' ∧ Fr [13, 15] st st' ∧ (∀ k, k ≠ 3 → st'.2.2 k = st.2.2 k) ∧ MK st' M' ∧ fv 3 st' = (X ++ R).length ∧ LSr st' (X ++ R) ∧ OL al low high (X ++ R) ∧ (∀ m, M' m = true ↔ M m = true ∨ m ∈ X) ∧ (c < 2 ∨ c ∈ X ++ R) ∧ (∀ m, m ∈ X → lvl lev c ≤ lev m ∧ (m = c ∨ ∃ q, q ∈ X ∧ (low q = m ∨ high q = m))) ∧ ∀ n, v 13 st' n = v 13 st n ∨ v 13 st' n = fv 2 st := by
  intro fu
  induction fu with
  | zero =>
    intro d c st M R _ _ _ _ hc _ _ _ _ _ _ hd hfu
    have := lvl_le h hc
    omega
  | succ fu ih =>
    intro d c st M R hN e8 e9 e10 hc hM hf hL hO hRM hMR hd hfu
    have hl10 := lvl_le h hc
    by_cases h2 : c < 2
    · refine ⟨st, M, [], ?_, hN, Fr.refl _ _, fun _ _ => rfl, hM, hf, hL, hO, fun m => by simp, Or.inl h2, fun m hm => absurd hm List.not_mem_nil, fun n => Or.inl rfl⟩
      rw [sX0_collect, isNode_ok st (by omega), if_neg (by omega), ob_s, if_pos n_0.symm]
    · have hal : al c = true := hc.resolve_left h2
      obtain ⟨g1, g2, g3, g4, g5, g6, g7, g8, g9⟩ := h.1 c hal
      have hlc := lvl_al h hal
      rw [hlc] at hd hl10
      have f2 := fv_lt 2 st
      by_cases q : v 13 st c = fv 2 st
      · have hMc := (hM c g2).mp q
        refine ⟨st, M, [], ?_, hN, Fr.refl _ _, fun _ _ => rfl, hM, hf, hL, hO, fun m => by simp, Or.inr (hMR c hal hMc (by omega)), fun m hm => absurd hm List.not_mem_nil, fun n => Or.inl rfl⟩
        rw [sX0_collect, isNode_ok st (by omega), if_pos ⟨g1, g2⟩, ob_s, if_neg nI1_ne, if_neg (show ¬ (10 : Int32) < nI d by rw [n_10, nI_ltE (by omega) (by omega)]; omega), gd_in g2 (by omega), gI_v hN (by decide) (by omega), gF_v hN, q, if_neg (fun z => z rfl)]
      · have hMc : M c = false := by
          cases e : M c
          · rfl
          · exact absurd ((hM c g2).mpr e) q
        -- it is stamped
        have N6 : NN (sI 13 st (nI c) (nI (fv 2 st))) := NN_sI hN (by omega) f2
        have F6 := Fr_sI st 13 (nI c) (nI (fv 2 st))
        have p6 : ∀ m, v 13 (sI 13 st (nI c) (nI (fv 2 st))) m = if m = c then fv 2 st else v 13 st m := fun m => by
          rw [v_sI (by omega) f2]
          by_cases e : m = c
          · rw [if_pos ⟨rfl, e⟩, if_pos e]
          · rw [if_neg (fun z => e z.2), if_neg e]
        have k6 : ∀ k, (sI 13 st (nI c) (nI (fv 2 st))).2.2 k = st.2.2 k := fun _ => rfl
        have pre : sX0_collect (fu + 1) st (nI c) (nI d) = (ob (sX0_collect fu (sI 13 st (nI c) (nI (fv 2 st))) (gI 9 (sI 13 st (nI c) (nI (fv 2 st))) (nI c)) (nI d + (1 : Int32))) fun st_7 => gd (nI c) 2560 <| ob (sX0_collect fu st_7 (gI 10 st_7 (nI c)) (nI d + (1 : Int32))) fun st_9 => if (2560 : Int32) ≤ (gF 3 st_9) then (some st_9) else (gd (gF 3 st_9) 2560 <| lt (sI 15 st_9 (gF 3 st_9) (nI c)) fun st_12 => lt (sF 3 st_12 ((gF 3 st_12) + (1 : Int32))) fun st_13 => some st_13)) := by
          rw [sX0_collect, isNode_ok st (by omega), if_pos (show 2 ≤ c ∧ c < 2560 from ⟨g1, g2⟩), ob_s, if_neg nI1_ne, if_neg (show ¬ (10 : Int32) < nI d by rw [n_10, nI_ltE (by omega) (by omega)]; omega), gd_in g2 (by omega), if_pos (show ¬ gI 13 st (nI c) = gF 2 st by rw [gI_v hN (by decide) (by omega), gF_v hN, nI_eqE (v_lt _ _ _) f2]; exact q), gd_in g2 (by omega), gF_v hN, lt_e, gd_in g2 (by omega)]
        rw [pre]
        generalize sI 13 st (nI c) (nI (fv 2 st)) = s6 at N6 F6 p6 k6
        have a8 : v 8 s6 = lev := (F6.vE (by decide)).trans e8
        have a9 : v 9 s6 = low := (F6.vE (by decide)).trans e9
        have a10 : v 10 s6 = high := (F6.vE (by decide)).trans e10
        have a15 : v 15 s6 = v 15 st := F6.vE (by decide)
        have a2 : fv 2 s6 = fv 2 st := by unfold fv; rw [k6]
        have a3 : fv 3 s6 = fv 3 st := by unfold fv; rw [k6]
        have M6 : MK s6 (setB M c true) := fun n hn => by
          rw [p6, a2]
          by_cases e : n = c
          · rw [if_pos e, e, setB_self]; simp
          · rw [if_neg e, setB_ne _ _ e]; exact hM n hn
        obtain ⟨s7, M7, X1, e7, N7, F7, k7, hM7, f7, L7, O7, m7, c7, r7, t7⟩ := ih (d + 1) (low c) s6 (setB M c true) R N6 a8 a9 a10 g4 M6 (a3.trans hf) (LSr_same (fun j _ => by rw [a15]) hL) hO (fun m hm => by
            unfold setB; split
            · rfl
            · exact hRM m hm) (fun m hm1 hm2 hm3 => by
            have hne : m ≠ c := fun e => by rw [e] at hm3; omega
            rw [setB_ne _ _ hne] at hm2
            exact hMR m hm1 hm2 (by omega)) (by omega) (by omega)
        have b8 : v 8 s7 = lev := (F7.vE (by decide)).trans a8
        have b9 : v 9 s7 = low := (F7.vE (by decide)).trans a9
        have b10 : v 10 s7 = high := (F7.vE (by decide)).trans a10
        have b2 : fv 2 s7 = fv 2 st := by rw [← a2]; unfold fv; rw [k7 2 (by omega)]
        obtain ⟨s9, M9, X2, e9', N9, F9, k9, hM9, f9, L9, O9, m9, c9, r9, t9⟩ := ih (d + 1) (high c) s7 M7 (X1 ++ R) N7 b8 b9 b10 g5 hM7 f7 L7 O7 (fun m hm => by
            rw [m7]
            rcases List.mem_append.mp hm with z | z
            · exact Or.inr z
            · refine Or.inl ?_
              unfold setB; split
              · rfl
              · exact hRM m z) (fun m hm1 hm2 hm3 => by
            have hne : m ≠ c := fun e => by rw [e] at hm3; omega
            rcases (m7 m).mp hm2 with z | z
            · rw [setB_ne _ _ hne] at z
              exact List.mem_append.mpr (Or.inr (hMR m hm1 z (by omega)))
            · exact List.mem_append.mpr (Or.inl z)) (by omega) (by omega)
        have d2 : fv 2 s9 = fv 2 st := by rw [← b2]; unfold fv; rw [k9 2 (by omega)]
        have hcn : c ∉ X2 ++ (X1 ++ R) := fun z => by
          rcases List.mem_append.mp z with z | z
          · have := (r9 c z).1; omega
          · rcases List.mem_append.mp z with z | z
            · have := (r7 c z).1; omega
            · have := hRM c z
              rw [hMc] at this
              cases this
        have Oc : OL al low high (c :: (X2 ++ (X1 ++ R))) := ⟨⟨hal, hcn, c7.imp id (fun z => List.mem_append.mpr (Or.inr z)), c9⟩, O9⟩
        have hx : c :: (X2 ++ X1) ++ R = c :: (X2 ++ (X1 ++ R)) := by simp
        have hlen : (c :: (X2 ++ (X1 ++ R))).length ≤ 2560 := by
          have := nodup_le (l := c :: (X2 ++ (X1 ++ R))) (m := List.range 2560) (OL_nodup Oc) (fun x hx => List.mem_range.mpr (h.1 x (OL_al Oc x hx)).2.1)
          rw [List.length_range] at this
          exact this
        rw [List.length_cons] at hlen
        have v93 : fv 3 s9 < 2560 := by omega
        rw [gI_v N6 (by decide) (by omega), a9, nI_add1, e7, ob_s, gd_in g2 (by omega), gI_v N7 (by decide) (by omega), b10, e9', ob_s, gF_v N9, if_neg (show ¬ (2560 : Int32) ≤ nI (fv 3 s9) by rw [n_2560, nI_leE (by omega) (by omega)]; omega), gd_in v93 (by omega), lt_e]
        have N12 := NN_sI (r := 15) N9 (i := fv 3 s9) (x := c) (by omega) (by omega)
        have F12 := Fr_sI s9 15 (nI (fv 3 s9)) (nI c)
        have z3 : gF 3 (sI 15 s9 (nI (fv 3 s9)) (nI c)) = nI (fv 3 s9) := by rw [gF_v N12, fv_sI]
        rw [z3, nI_add1, lt_e]
        have N13 := NN_sF (k := 3) N12 (x := fv 3 s9 + 1) (by omega)
        refine ⟨_, M9, c :: (X2 ++ X1), rfl, N13, ?_, fun k hk => ?_, fun n hn => ?_, ?_, ?_, ?_, fun m => ?_, Or.inr (List.mem_cons_self), fun m hm => ?_, fun n => ?_⟩
        · exact (F6.mono (by intro q hq; simp at hq ⊢; omega)).trans (F7.trans (F9.trans (F12.mono (by intro q hq; simp at hq ⊢; omega))))
        · exact (if_neg hk : _).trans ((k9 k hk).trans ((k7 k hk).trans (k6 k)))
        · rw [v_sF, F12.vE (by decide), fv_sF (by omega), if_neg (by decide), fv_sI]
          exact hM9 n hn
        · rw [fv_sF (by omega), if_pos rfl, f9]
          simp
        · rw [hx]
          refine ⟨?_, LSr_same (fun j hj => ?_) L9⟩
          · rw [v_sF, v_sI (by omega) (by omega), if_pos ⟨rfl, f9.symm⟩]
          · rw [v_sF, v_sI (by omega) (by omega), if_neg (fun z => by omega)]
        · rw [hx]; exact Oc
        · rw [m9, m7, List.mem_cons, List.mem_append]
          by_cases e : m = c
          · rw [e, setB_self]; simp
          · rw [setB_ne _ _ e]
            simp only [e, false_or]
            rw [or_assoc]
            exact or_congr Iff.rfl Or.comm
        · rw [hlc]
          rcases List.mem_cons.mp hm with e | hm
          · rw [e]; exact ⟨Nat.le_refl _, Or.inl rfl⟩
          · refine ⟨?_, Or.inr ?_⟩
            · rcases List.mem_append.mp hm with z | z
              · have := (r9 m z).1; omega
              · have := (r7 m z).1; omega
            · rcases List.mem_append.mp hm with z | z
              · rcases (r9 m z).2 with e | ⟨q, h1, h2⟩
                · exact ⟨c, List.mem_cons_self, Or.inr e.symm⟩
                · exact ⟨q, List.mem_cons_of_mem _ (List.mem_append.mpr (Or.inl h1)), h2⟩
              · rcases (r7 m z).2 with e | ⟨q, h1, h2⟩
                · exact ⟨c, List.mem_cons_self, Or.inl e.symm⟩
                · exact ⟨q, List.mem_cons_of_mem _ (List.mem_append.mpr (Or.inr h1)), h2⟩
        · rw [v_sF, F12.vE (by decide)]
          rcases t9 n with z | z
          · rw [z]
            rcases t7 n with z | z
            · rw [z, p6]
              split
              · exact Or.inr rfl
              · exact Or.inl rfl
            · rw [z, a2]; exact Or.inr rfl
          · rw [z, b2]; exact Or.inr rfl
end COLL
