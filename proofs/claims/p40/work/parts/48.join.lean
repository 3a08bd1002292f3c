/-! build: joining level by level -/
theorem WB_16 {S : List Fn} {o : Nat → Nat} {st : St} {al : Nat → Bool} {D : Nat → Fn} (W : WB S o st al D) {x r : Nat} (hx : x < 1024) (hr : r < 2560) : WB S o (sI 16 st (nI x) (nI r)) al D :=
  WB_cong W (fun q h4 h12 => (Fr_sI st 16 (nI x) (nI r)).vE (by simp; omega)) rfl rfl (NN_sI W.1.1.1 (by omega) (by omega))
/-- a row's entry: the node of f with the variables of the first levels put as in x -/
def RW (o : Nat → Nat) (f : Fn) (L : Nat) (st : St) (al : Nat → Bool) (D : Nat → Fn) (x : Nat) : Prop := ch al (v 16 st x) ∧ D (v 16 st x) = rl o x L f ∧ L ≤ lv8 st (v 16 st x)
theorem RW_keep {o : Nat → Nat} {f : Fn} {L : Nat} {st st' : St} {al al' : Nat → Bool} {D D' : Nat → Fn} {x : Nat} (h : RW o f L st al D x) (K : KP st st' al al' D D') (e : v 16 st' x = v 16 st x) : RW o f L st' al' D' x := by
  obtain ⟨h1, h2, h3⟩ := h
  obtain ⟨k1, k2, k3, -⟩ := K _ h1
  unfold RW
  rw [e, k2, k3]
  exact ⟨k1, h2, h3⟩
def JI (S : List Fn) (o : Nat → Nat) (f : Fn) (l rest : Nat) (st : St) (al : Nat → Bool) (D : Nat → Fn) (Q : List Nat) : Prop :=
  WB S o st al D ∧ (∀ x, x ∈ subs rest 10 → x ∉ Q → RW o f l st al D x) ∧ (∀ x, x ∈ Q → RW o f (l + 1) st al D x ∧ RW o f (l + 1) st al D (x ||| 2 ^ o l)) ∧
  ∀ n, al n = true → 0 < v 12 st n ∨ (∃ x, x ∈ subs rest 10 ∧ x ∉ Q ∧ v 16 st x = n) ∨ ∃ x, x ∈ Q ∧ (v 16 st x = n ∨ v 16 st (x ||| 2 ^ o l) = n)
theorem KP_16 {st st' : St} {al al' : Nat → Bool} {D D' : Nat → Fn} (K : KP st st' al al' D D') (i x : Int32) : KP st (sI 16 st' i x) al al' D D' := fun c hc => by
  obtain ⟨k1, k2, k3, k4⟩ := K c hc
  have F := Fr_sI st' 16 i x
  refine ⟨k1, k2, ?_, fun h => ?_⟩
  · rw [← k3]; unfold lv8; rw [F.vE (r := 8) (by decide)]
  · rw [F.vE (r := 12) (by decide)]; exact k4 h
theorem KP_refl (st : St) (al : Nat → Bool) (D : Nat → Fn) : KP st st al al D D := fun c hc => ⟨hc, rfl, rfl, fun h => ⟨h, id⟩⟩
theorem KP_trans {a b c : St} {p q r : Nat → Bool} {D E F : Nat → Fn} (h1 : KP a b p q D E) (h2 : KP b c q r E F) : KP a c p r D F := fun n hn => by
  obtain ⟨k1, k2, k3, k4⟩ := h1 n hn
  obtain ⟨l1, l2, l3, l4⟩ := h2 n k1
  exact ⟨l1, l2.trans k2, l3.trans k3, fun z => ⟨(l4 (k4 z).1).1, fun w => (l4 (k4 z).1).2 ((k4 z).2 w)⟩⟩
section JOIN
variable {S : List Fn} {o : Nat → Nat} {f : Fn} {l rest : Nat}
theorem JI_step (hf : f ∈ S) (hl : l < 10) (hrest : rest.testBit (o l) = false) {st : St} {al : Nat → Bool} {D : Nat → Fn} {x : Nat} {t : List Nat} (J : JI S o f l rest st al D (x :: t)) (hd : (x :: t).Nodup) (hm : ∀ y, y ∈ x :: t → y ∈ subs rest 10) :
    ∃ (r : Nat) (st1 : St) (al' : Nat → Bool) (D' : Nat → Fn), sX0_make st (nI l) (nI (v 16 st x)) (nI (v 16 st (x ||| 2 ^ o l))) = some (nI r, st1) ∧ r < 2560 ∧ NN st1 ∧ JI S o f l rest (sI 16 st1 (nI x) (nI r)) al' D' t ∧ KP st (sI 16 st1 (nI x) (nI r)) al al' D D' ∧ FB st (sI 16 st1 (nI x) (nI r)) := by
  obtain ⟨W, J1, J2, J3⟩ := id J
  have ho := W.2.1.2.2.2.2
  obtain ⟨⟨ra, da, la⟩, ⟨rb, db, lb⟩⟩ := J2 x List.mem_cons_self
  have hxs := hm x List.mem_cons_self
  obtain ⟨hx, hxb⟩ := in_subs.mp hxs
  have nobit : ∀ y, y ∈ subs rest 10 → y.testBit (o l) = false := fun y hy => by
    cases q : y.testBit (o l)
    · rfl
    · have := (in_subs.mp hy).2 _ q
      rw [hrest] at this
      cases this
  have hst := rl_step (f := f) ho hl (nobit x hxs)
  have hg : mux (o l) (D (v 16 st x)) (D (v 16 st (x ||| 2 ^ o l))) = rl o x l f := by rw [da, db]; exact hst
  obtain ⟨r, st1, al', D', e1, W1, cr, dr, lr, K, hnew, hpt, FB1, e16⟩ := WB_make W hl ra rb (by omega) (by omega) (by rw [hg]; exact rl_mem hf l)
  have hr : r < 2560 := by
    rcases cr with q | q
    · omega
    · exact (W1.2.1.1 r q).2.1
  have F2 := Fr_sI st1 16 (nI x) (nI r)
  have p16 : ∀ y, v 16 (sI 16 st1 (nI x) (nI r)) y = if y = x then r else v 16 st y := fun y => by
    rw [v_sI (by omega) (by omega), e16]
    by_cases e : y = x
    · rw [if_pos ⟨rfl, e⟩, if_pos e]
    · rw [if_neg (fun z => e z.2), if_neg e]
  have hd2 := List.nodup_cons.mp hd
  have orne : ∀ y, y ||| 2 ^ o l ≠ x := fun y e => by
    have h1 := nobit x hxs
    rw [← e, or_bit, decide_eq_true rfl, Bool.or_true] at h1
    cases h1
  have K2 := KP_16 K (nI x) (nI r)
  have e12 : v 12 (sI 16 st1 (nI x) (nI r)) = v 12 st1 := F2.vE (by decide)
  refine ⟨r, st1, al', D', e1, hr, W1.1.1.1, ⟨WB_16 W1 hx hr, fun y hy hyt => ?_, fun y hy => ?_, fun n hn => ?_⟩, K2, FB1.trans ⟨F2.mono (by intro q hq; simp at hq ⊢; omega), fun _ _ _ => rfl⟩⟩
  · by_cases e : y = x
    · unfold RW
      rw [p16, if_pos e, e]
      refine ⟨cr, dr.trans hg, ?_⟩
      unfold lv8
      rw [F2.vE (r := 8) (by decide)]
      exact lr
    · exact RW_keep (J1 y hy (fun z => by
        rcases List.mem_cons.mp z with q | q
        · exact e q
        · exact hyt q)) K2 (by rw [p16, if_neg e])
  · have e : y ≠ x := fun z => hd2.1 (by rw [← z]; exact hy)
    obtain ⟨q1, q2⟩ := J2 y (List.mem_cons_of_mem _ hy)
    exact ⟨RW_keep q1 K2 (by rw [p16, if_neg e]), RW_keep q2 K2 (by rw [p16, if_neg (orne y)])⟩
  · by_cases en : n = r
    · exact Or.inr (Or.inl ⟨x, hxs, hd2.1, by rw [p16, if_pos rfl, en]⟩)
    · have hal : al n = true := (hnew n hn).resolve_right en
      have h2 : 2 ≤ n := (W.2.1.1 n hal).1
      rw [e12]
      rcases J3 n hal with q | ⟨y, y1, y2, y3⟩ | ⟨y, y1, y2⟩
      · exact Or.inl (((K n (Or.inr hal)).2.2.2 hal).2 q)
      · have e : y ≠ x := fun z => y2 (by rw [z]; exact List.mem_cons_self)
        exact Or.inr (Or.inl ⟨y, y1, fun z => y2 (List.mem_cons_of_mem _ z), by rw [p16, if_neg e]; exact y3⟩)
      · rcases List.mem_cons.mp y1 with e | y1
        · rw [e] at y2
          rcases hpt with ⟨z1, z2⟩ | ⟨z1, z2⟩
          · exfalso
            rcases y2 with w | w
            · exact en (by rw [z1, w])
            · exact en (by rw [z1, z2, w])
          · rcases y2 with w | w
            · rw [w] at z1; exact Or.inl (z1 h2)
            · rw [w] at z2; exact Or.inl (z2 h2)
        · have e : y ≠ x := fun z => hd2.1 (by rw [← z]; exact y1)
          refine Or.inr (Or.inr ⟨y, y1, ?_⟩)
          rw [p16, if_neg e, p16, if_neg (orne y)]
          exact y2
theorem join_L (hf : f ∈ S) (hl : l < 10) (hs : rest < 1024) (hrest : rest.testBit (o l) = false) : ∀ (t : List Nat) (x i fu : Nat) (st : St) (al : Nat → Bool) (D : Nat → Fn), JI S o f l rest st al D (x :: t) → chn rest (x :: t) = true → (x :: t).Nodup → (∀ y, y ∈ x :: t → y ∈ subs rest 10) → i + (t.length + 1) = (subs rest 10).length → t.length + 1 < fu →
    ∃ (st' : St) (al' : Nat → Bool) (D' : Nat → Fn), sX0_join_L6 fu st (nI l) (nI (2 ^ o l)) (nI rest) (nI x) (nI i) = some st' ∧ JI S o f l rest st' al' D' [] ∧ KP st st' al al' D D' ∧ FB st st' := by
  have hlen := subs_len rest
  have hbc := (subs_chn hs).2
  intro t
  induction t with
  | nil =>
    intro x i fu st al D J hc hd hm hi hfu
    obtain ⟨fu, rfl⟩ : ∃ q, fu = q + 2 := ⟨fu - 2, by simp at hfu; omega⟩
    simp at hi
    have hx := (in_subs.mp (hm x List.mem_cons_self)).1
    have ho := J.1.2.1.2.2.2.2
    have hol := ho.1 l hl
    have hxo := or_lt hx hol
    have hN := J.1.1.1.1
    obtain ⟨r, st1, al', D', e1, hr, N1, J1, K1, F1⟩ := JI_step hf hl hrest J hd hm
    refine ⟨sI 16 st1 (nI x) (nI r), al', D', ?_, J1, K1, F1⟩
    rw [sX0_join_L6, bitCount_bc, ob_s, hbc, if_neg (by rw [nI_leE (by omega) (by omega)]; omega), gd_in hx (by omega), s_or x hx (o l) hol, gd_in hxo (by omega), gI_v hN (by decide) (by omega), gI_v hN (by decide) (by omega), e1, ob2_s, gd_in hx (by omega), lt_e, lt_e, nI_add1, lt_e, sX0_join_L6, bitCount_bc, ob_s, hbc, if_pos (by rw [nI_leE (by omega) (by omega)]; omega)]
  | cons y t ih =>
    intro x i fu st al D J hc hd hm hi hfu
    obtain ⟨fu, rfl⟩ : ∃ q, fu = q + 1 := ⟨fu - 1, by omega⟩
    rw [List.length_cons] at hi hfu
    unfold chn at hc
    rw [Bool.and_eq_true] at hc
    have hnx := of_decide_eq_true hc.1
    have hx := (in_subs.mp (hm x List.mem_cons_self)).1
    have ho := J.1.2.1.2.2.2.2
    have hol := ho.1 l hl
    have hxo := or_lt hx hol
    have hN := J.1.1.1.1
    obtain ⟨r, st1, al1, D1, e1, hr, N1, J1, K1, F1⟩ := JI_step hf hl hrest J hd hm
    obtain ⟨s2, al2, D2, e2, J2, K2, F2⟩ := ih y (i + 1) fu _ al1 D1 J1 hc.2 (List.nodup_cons.mp hd).2 (fun z hz => hm z (List.mem_cons_of_mem _ hz)) (by omega) (by omega)
    refine ⟨s2, al2, D2, ?_, J2, KP_trans K1 K2, F1.trans F2⟩
    rw [sX0_join_L6, bitCount_bc, ob_s, hbc, if_neg (by rw [nI_leE (by omega) (by omega)]; omega), gd_in hx (by omega), s_or x hx (o l) hol, gd_in hxo (by omega), gI_v hN (by decide) (by omega), gI_v hN (by decide) (by omega), e1, ob2_s, gd_in hx (by omega), lt_e, hnx, lt_e, nI_add1, lt_e, e2]
/-- before the level j: the rows of all subsets of what is left -/
def LI (S : List Fn) (o : Nat → Nat) (f : Fn) (j rest : Nat) (st : St) (al : Nat → Bool) (D : Nat → Fn) : Prop :=
  WB S o st al D ∧ (∀ x, x ∈ subs rest 10 → RW o f j st al D x) ∧ ∀ n, al n = true → 0 < v 12 st n ∨ ∃ x, x ∈ subs rest 10 ∧ v 16 st x = n
theorem LI_skip {st : St} {al : Nat → Bool} {D : Nat → Fn} (h : LI S o f (l + 1) rest st al D) (hi : indep f (o l)) : LI S o f l rest st al D := by
  refine ⟨h.1, fun x hx => ?_, h.2.2⟩
  obtain ⟨h1, h2, h3⟩ := h.2.1 x hx
  refine ⟨h1, ?_, by omega⟩
  rw [h2]
  exact rl_indep hi l _
theorem LI_JI {st : St} {al : Nat → Bool} {D : Nat → Fn} (h : LI S o f (l + 1) rest st al D) (hl : l < 10) (hs : rest < 1024) (hb : rest.testBit (o l) = true) : JI S o f l (clr rest (o l)) st al D (subs (clr rest (o l)) 10) := by
  have hol := h.1.2.1.2.2.2.2.1 l hl
  have up : ∀ x, x ∈ subs (clr rest (o l)) 10 → x ∈ subs rest 10 ∧ x ||| 2 ^ o l ∈ subs rest 10 := fun x hx => by
    obtain ⟨h1, h2⟩ := in_subs.mp hx
    have h3 : ∀ w, x.testBit w = true → rest.testBit w = true := fun w hw => by
      have := h2 w hw
      rw [clr_bit hs hol, Bool.and_eq_true] at this
      exact this.1
    refine ⟨in_subs.mpr ⟨h1, h3⟩, in_subs.mpr ⟨or_lt h1 hol, fun w hw => ?_⟩⟩
    rw [or_bit, Bool.or_eq_true] at hw
    rcases hw with q | q
    · exact h3 w q
    · rw [← of_decide_eq_true q]; exact hb
  refine ⟨h.1, fun x hx hn => absurd hx hn, fun x hx => ⟨h.2.1 x (up x hx).1, h.2.1 _ (up x hx).2⟩, fun n hn => ?_⟩
  rcases h.2.2 n hn with q | ⟨x, hx, q⟩
  · exact Or.inl q
  · refine Or.inr (Or.inr ⟨clr x (o l), ?_, ?_⟩)
    · obtain ⟨h1, h2⟩ := in_subs.mp hx
      refine in_subs.mpr ⟨clr_lt h1, fun w hw => ?_⟩
      rw [clr_bit h1 hol, Bool.and_eq_true] at hw
      rw [clr_bit hs hol, h2 w hw.1, Bool.true_and]
      exact hw.2
    · have h1 := (in_subs.mp hx).1
      cases q2 : x.testBit (o l)
      · refine Or.inl ?_
        rw [← q]
        congr 1
        refine nat_ext (fun w => ?_)
        rw [clr_bit h1 hol]
        by_cases e : w = o l
        · rw [e, q2]; rfl
        · rw [decide_eq_true e, Bool.and_true]
      · refine Or.inr ?_
        rw [← q]
        congr 1
        refine nat_ext (fun w => ?_)
        rw [or_bit, clr_bit h1 hol]
        by_cases e : w = o l
        · rw [e, q2]; simp
        · rw [decide_eq_true e, Bool.and_true, decide_eq_false (fun z => e z.symm), Bool.or_false]
theorem JI_LI {st : St} {al : Nat → Bool} {D : Nat → Fn} (h : JI S o f l rest st al D []) : LI S o f l rest st al D := by
  refine ⟨h.1, fun x hx => h.2.1 x hx List.not_mem_nil, fun n hn => ?_⟩
  rcases h.2.2.2 n hn with q | ⟨x, h1, -, h3⟩ | ⟨x, h1, -⟩
  · exact Or.inl q
  · exact Or.inr ⟨x, h1, h3⟩
  · exact absurd h1 List.not_mem_nil
end JOIN
theorem dn1 : ∀ l, l < 10 → nI (l + 1) + (-1 : Int32) = nI l := by decide +kernel
theorem build_L2 {S : List Fn} {o : Nat → Nat} {f : Fn} {set : Nat} (hf : f ∈ S) (hset : ∀ w, w < 10 → set.testBit w = false → indep f w) : ∀ (j rest fu : Nat) (st : St) (al : Nat → Bool) (D : Nat → Fn), j ≤ 10 → rest < 1024 → (∀ i, i < j → rest.testBit (o i) = set.testBit (o i)) → LI S o f j rest st al D → j < fu →
    ∃ (st' : St) (al' : Nat → Bool) (D' : Nat → Fn) (rest' : Nat), sX0_build_L67 fu st (nI rest) (nI j + (-1 : Int32)) = some st' ∧ LI S o f 0 rest' st' al' D' ∧ KP st st' al al' D D' ∧ FB st st' := by
  intro j
  induction j with
  | zero =>
    intro rest fu st al D _ _ _ h hfu
    obtain ⟨fu, rfl⟩ : ∃ q, fu = q + 1 := ⟨fu - 1, by omega⟩
    refine ⟨st, al, D, rest, ?_, h, KP_refl _ _ _, FB.refl _⟩
    rw [sX0_build_L67, if_pos (by decide +kernel)]
  | succ l ih =>
    intro rest fu st al D hj hs hr h hfu
    obtain ⟨fu, rfl⟩ : ∃ q, fu = q + 1 := ⟨fu - 1, by omega⟩
    have hl : l < 10 := by omega
    have hol := h.1.2.1.2.2.2.2.1 l hl
    have hN := h.1.1.1.1
    have hord := h.1.2.2.2.1 l hl
    have pre : sX0_build_L67 (fu + 1) st (nI rest) (nI (l + 1) + (-1 : Int32)) = if (nI rest &&& nI (2 ^ o l)) = 0 then sX0_build_L67 fu st (nI rest) (nI l + (-1 : Int32)) else (lt ((nI rest &&& (nI (2 ^ o l) ^^^ (-1 : Int32)))) fun x4_20 => ob (sX0_join st (nI l) (nI (2 ^ o l)) x4_20) fun st_21 => lt (nI l + (-1)) fun x5_23 => sX0_build_L67 fu st_21 x4_20 x5_23) := by
      rw [sX0_build_L67, dn1 l hl, if_neg (by rw [n_0, nI_ltE (by omega) (by omega)]; omega), gd_in hl (by omega), gI_v hN (by decide) (by omega), hord, bit10 _ hol, lt_e, lt_e]
    rw [pre]
    by_cases q : rest.testBit (o l) = false
    · rw [if_pos ((s_and rest hs _ hol).mpr q)]
      exact ih rest fu st al D (by omega) hs (fun i hi => hr i (by omega)) (LI_skip h (hset _ hol (by rw [← hr l (by omega)]; exact q))) (by omega)
    · rw [if_neg (fun z => q ((s_and rest hs _ hol).mp z)), s_clr rest hs _ hol, lt_e]
      have hb : rest.testBit (o l) = true := by cases w : rest.testBit (o l); exact absurd w q; rfl
      have hc := clr_lt (v := o l) hs
      have J := LI_JI h hl hs hb
      obtain ⟨t, ht⟩ := subs_head (clr rest (o l)) 10
      have hch := (subs_chn hc).1
      have hnd := subs_nodup (clr rest (o l)) 10
      have hlen := subs_len (clr rest (o l))
      rw [ht] at J hch hnd hlen
      rw [List.length_cons] at hlen
      obtain ⟨s1, al1, D1, e1, J1, K1, F1⟩ := join_L hf hl hc (by rw [clr_bit hs hol]; simp) t 0 0 FU st al D J hch hnd (fun y hy => by rw [ht]; exact hy) (by rw [ht, List.length_cons]; omega) (by show _ < 4000; omega)
      obtain ⟨s2, al2, D2, rest', e2, h2, K2, F2⟩ := ih (clr rest (o l)) fu s1 al1 D1 (by omega) hc (fun i hi => by
        rw [clr_bit hs hol, hr i (by omega), decide_eq_true (show o i ≠ o l from fun z => by have := h.1.2.1.2.2.2.2.2 i l (by omega) hl z; omega), Bool.and_true]) (JI_LI J1) (by omega)
      refine ⟨s2, al2, D2, rest', ?_, h2, KP_trans K1 K2, F1.trans F2⟩
      unfold sX0_join
      rw [n_0, e1, ob_s, ob_s, lt_e, e2]
