/-! THE LEAST SIZE is no greater than the size -/
theorem imin_nI {a b : Nat} (ha : a < 2147483648) (hb : b < 2147483648) : imin (nI a) (nI b) = nI (min a b) := by
  unfold imin
  by_cases q : b < a
  · rw [if_pos ((nI_ltE hb ha).mpr q), Nat.min_eq_right (by omega)]
  · rw [if_neg (fun z => q ((nI_ltE hb ha).mp z)), Nat.min_eq_left (by omega)]
theorem n_1000 : (1000 : Int32) = nI 1000 := by decide +kernel
/-- what asking for the least size leaves -/
def LO (st st' : St) : Prop := (∀ r, r ≠ 17 → st'.1 r = st.1 r) ∧ st'.2.2 = st.2.2 ∧ ∀ x, x ≠ 15 → x ≠ 16 → st'.2.1 x = st.2.1 x
theorem LO.refl (st : St) : LO st st := ⟨fun _ _ => rfl, rfl, fun _ _ _ => rfl⟩
theorem LO.trans {a b c : St} (h1 : LO a b) (h2 : LO b c) : LO a c := ⟨fun r hr => (h2.1 r hr).trans (h1.1 r hr), h2.2.1.trans h1.2.1, fun x h3 h4 => (h2.2.2 x h3 h4).trans (h1.2.2 x h3 h4)⟩
theorem LO_s17 (st : St) (i x : Int32) : LO st (sI 17 st i x) := ⟨fun r hr => (Fr_sI st 17 i x).1 r (by simpa using hr), rfl, fun _ _ _ => rfl⟩
theorem LO_L2 {st st' : St} (h : L2 st st' 15 16) : LO st st' := ⟨fun r _ => by rw [h.1], h.2.1, h.2.2⟩
theorem v17_L2 {st st' : St} (h : L2 st st' 15 16) (r i : Nat) : v r st' i = v r st i := by
  unfold v
  rw [h.1]
theorem NN_L2 {st st' : St} (h : L2 st st' 15 16) (hN : NN st) : NN st' := by
  unfold NN at hN ⊢
  rw [h.1, h.2.1]
  exact hN
theorem K_LO {S : List Fn} {o : Nat → Nat} {B : Nat} {st st' : St} (k : K S o B st) (h : LO st st') (hN : NN st') : K S o B st' := by
  obtain ⟨⟨h1, h2, h3, h4⟩, hI, hZ⟩ := k
  have v3 : ∀ r, r ≠ 17 → v r st' = v r st := fun r hr => by funext i; unfold v; rw [h.1 r hr]
  have f3 : ∀ k, fv k st' = fv k st := fun k => by unfold fv; rw [h.2.1]
  have tt : ∀ k, k < 12 → tb st' k = tb st k := fun k hk => by unfold tb; rw [h.2.2 k (by omega) (by omega)]
  refine ⟨⟨OS_cong h1 (fun r _ h12 => v3 r (by omega)) (f3 0) (f3 1) hN, ?_, fun s hs => ?_, h4⟩, SI_cong hI (v3 13 (by omega)) (f3 2), fun i hi => by rw [v3 2 (by omega)]; exact hZ i hi⟩
  · rw [h2]
    unfold TB
    exact List.map_congr_left (fun k hk => (tt k (List.mem_range.mp hk)).symm)
  · rw [tt s hs, v3 0 (by omega)]
    exact h3 s hs
theorem fill_L {N : Nat} (hN : N ≤ 64) {P : Int64} : ∀ (d n i : Nat) (st : St), i + d = N → d < n → NN st → ∃ st', sX1_leastNodes_L13 n st P (nI N) (nI i) = some st' ∧ LO st st' ∧ NN st' ∧ ∀ j, (i ≤ j → j < N → v 17 st' j = 1000) ∧ (j < i → v 17 st' j = v 17 st j) := by
  intro d
  induction d with
  | zero =>
    intro n i st hi hn hNN
    obtain ⟨n, rfl⟩ : ∃ m, n = m + 1 := ⟨n - 1, by omega⟩
    exact ⟨st, by rw [sX1_leastNodes_L13, if_pos (by rw [nI_leE (by omega) (by omega)]; omega)], LO.refl _, hNN, fun j => ⟨fun h1 h2 => by omega, fun _ => rfl⟩⟩
  | succ d ih =>
    intro n i st hi hn hNN
    obtain ⟨n, rfl⟩ : ∃ m, n = m + 1 := ⟨n - 1, by omega⟩
    obtain ⟨st', e, h1, h2, h3⟩ := ih n (i + 1) (sI 17 st (nI i) (nI 1000)) (by omega) (by omega) (NN_sI hNN (by omega) (by omega))
    refine ⟨st', ?_, (LO_s17 st _ _).trans h1, h2, fun j => ⟨fun g1 g2 => ?_, fun g => ?_⟩⟩
    · rw [sX1_leastNodes_L13, if_neg (by rw [nI_leE (by omega) (by omega)]; omega), gd_in (show i < 64 by omega) (by omega), n_1000, lt_e, nI_add1, lt_e]
      exact e
    · by_cases z : j = i
      · rw [(h3 j).2 (by omega), v_sI (by omega) (by omega), if_pos ⟨rfl, z⟩]
      · exact (h3 j).1 (by omega) g2
    · rw [(h3 j).2 (by omega), v_sI (by omega) (by omega), if_neg (fun z => by omega)]
theorem pow_le {a b : Nat} (h : a ≤ b) : 2 ^ a ≤ 2 ^ b := Nat.pow_le_pow_right (by omega) h
theorem inner_L {m set count : Nat} {P : Int64} (hm : m ≤ 6) (hset : set < 2 ^ m) (hc : count ≤ 64) : ∀ (d n u : Nat) (st : St), u + d = 6 → d < n → NN st → (∀ j, j < 2 ^ m → v 17 st j ≤ 1000) →
    ∃ st', sX1_leastNodes_L65 n st P (nI (2 ^ m)) (nI set) (nI count) (nI u) = some st' ∧ LO st st' ∧ st'.2.1 = st.2.1 ∧ NN st' ∧ (∀ j, j < 2 ^ m → v 17 st' j ≤ v 17 st j) ∧ v 17 st' set = v 17 st set ∧
      ∀ w, u ≤ w → w < m → set.testBit w = false → v 17 st' (set ||| 2 ^ w) ≤ v 17 st set + cnt count (fun k => dpB w (st.2.1 15 k)) := by
  have hm64 : 2 ^ m ≤ 64 := pow_le hm
  intro d
  induction d with
  | zero =>
    intro n u st hi hn hN hE
    obtain ⟨n, rfl⟩ : ∃ m, n = m + 1 := ⟨n - 1, by omega⟩
    obtain rfl : u = 6 := by omega
    exact ⟨st, by rw [sX1_leastNodes_L65, if_pos (by rw [n_6, nI_leE (by omega) (by omega)]; omega)], LO.refl _, rfl, hN, fun _ _ => Nat.le_refl _, rfl, fun w h1 h2 => by omega⟩
  | succ d ih =>
    intro n u st hi hn hN hE
    obtain ⟨n, rfl⟩ : ∃ m, n = m + 1 := ⟨n - 1, by omega⟩
    have hu6 : u < 6 := by omega
    have hf : 2 ^ u < 64 := Nat.pow_lt_pow_right (a := 2) (by omega) (show u < 6 by omega)
    rw [sX1_leastNodes_L65, if_neg (by rw [n_6, nI_leE (by omega) (by omega)]; omega), n_1, far_lt u hu6]
    by_cases hum : u < m
    · have hlt : 2 ^ u < 2 ^ m := Nat.pow_lt_pow_right (a := 2) (by omega) hum
      have hor : set ||| 2 ^ u < 2 ^ m := Nat.or_lt_two_pow hset hlt
      rw [if_neg (by rw [nI_leE (by omega) (by omega)]; omega), s_or set (by omega) u (by omega), lt_e]
      by_cases q : set.testBit u = true
      · have heq : set ||| 2 ^ u = set := nat_ext (fun r => by
          rw [or_bit]
          by_cases z : u = r
          · rw [← z, q]; rfl
          · rw [decide_eq_false z, Bool.or_false])
        obtain ⟨st', e, g1, g2, g3, g4, g5, g6⟩ := ih n (u + 1) st (by omega) (by omega) hN hE
        refine ⟨st', ?_, g1, g2, g3, g4, g5, fun w h1 h2 h3 => ?_⟩
        · rw [heq, if_pos rfl, nI_addE, lt_e]
          exact e
        · refine g6 w ?_ h2 h3
          by_cases z : w = u
          · rw [z, q] at h3; cases h3
          · omega
      · have hne : set ||| 2 ^ u ≠ set := fun e => q (by
          rw [← e, or_bit, decide_eq_true rfl, Bool.or_true])
        have hv1 : v 17 st (set ||| 2 ^ u) ≤ 1000 := hE _ hor
        have hv2 : v 17 st set ≤ 1000 := hE _ hset
        have hcn := cnt_le count (fun k => dpB u (st.2.1 15 k))
        have hmin : min (v 17 st (set ||| 2 ^ u)) (v 17 st set + cnt count (fun k => dpB u (st.2.1 15 k))) ≤ 1000 := Nat.le_trans (Nat.min_le_left _ _) hv1
        have hN1 := NN_sI (r := 17) hN (i := set ||| 2 ^ u) (x := min (v 17 st (set ||| 2 ^ u)) (v 17 st set + cnt count (fun k => dpB u (st.2.1 15 k)))) (by omega) (by omega)
        have vs : ∀ j, v 17 (sI 17 st (nI (set ||| 2 ^ u)) (nI (min (v 17 st (set ||| 2 ^ u)) (v 17 st set + cnt count (fun k => dpB u (st.2.1 15 k)))))) j = if j = set ||| 2 ^ u then min (v 17 st (set ||| 2 ^ u)) (v 17 st set + cnt count (fun k => dpB u (st.2.1 15 k))) else v 17 st j := fun j => by
          rw [v_sI (by omega) (by omega)]
          by_cases z : j = set ||| 2 ^ u
          · rw [if_pos ⟨rfl, z⟩, if_pos z]
          · rw [if_neg (fun y => z y.2), if_neg z]
        have hmono : ∀ j, j < 2 ^ m → v 17 (sI 17 st (nI (set ||| 2 ^ u)) (nI (min (v 17 st (set ||| 2 ^ u)) (v 17 st set + cnt count (fun k => dpB u (st.2.1 15 k)))))) j ≤ v 17 st j := fun j _ => by
          rw [vs]
          split
          · rename_i z
            rw [z]
            exact Nat.min_le_left _ _
          · exact Nat.le_refl _
        obtain ⟨st', e, g1, g2, g3, g4, g5, g6⟩ := ih n (u + 1) _ (by omega) (by omega) hN1 (fun j hj => Nat.le_trans (hmono j hj) (hE j hj))
        have hset' : v 17 (sI 17 st (nI (set ||| 2 ^ u)) (nI (min (v 17 st (set ||| 2 ^ u)) (v 17 st set + cnt count (fun k => dpB u (st.2.1 15 k)))))) set = v 17 st set := by rw [vs, if_neg (fun z => hne z.symm)]
        refine ⟨st', ?_, (LO_s17 st _ _).trans g1, g2, g3, fun j hj => Nat.le_trans (g4 j hj) (hmono j hj), g5.trans hset', fun w h1 h2 h3 => ?_⟩
        · rw [if_neg (fun z => hne (by rwa [nI_eqE (by omega) (by omega)] at z)), gd_in (show set ||| 2 ^ u < 64 by omega) (by omega), gd_in (show set < 64 by omega) (by omega), dependent_ok hc hu6, ob_s, gd_in (show set ||| 2 ^ u < 64 by omega) (by omega), gI_v hN (by decide) (by omega), gI_v hN (by decide) (by omega), nI_addE, imin_nI (by omega) (by omega), lt_e, nI_addE, lt_e]
          exact e
        · by_cases z : w = u
          · rw [z]
            have := g4 _ hor
            rw [vs, if_pos rfl] at this
            exact Nat.le_trans this (Nat.min_le_right _ _)
          · have := g6 w (by omega) h2 h3
            rw [hset'] at this
            exact this
    · have hge : 2 ^ m ≤ 2 ^ u := pow_le (by omega)
      rw [if_pos (by rw [nI_leE (by omega) (by omega)]; exact hge)]
      exact ⟨st, rfl, LO.refl _, rfl, hN, fun _ _ => Nat.le_refl _, rfl, fun w h1 h2 => by omega⟩
theorem CLv_lt {s : Nat} {o : Nat → Nat} (ho : oOK o) : ∀ L, L ≤ 10 → CLv s o L < 2 ^ rk s 10
  | 0, _ => Nat.pow_pos (by omega)
  | L + 1, h => by
    have ih := CLv_lt (s := s) ho L (by omega)
    show (if s.testBit (o L) = true then CLv s o L ||| 2 ^ rk s (o L) else CLv s o L) < _
    split
    · rename_i q
      exact Nat.or_lt_two_pow ih (Nat.pow_lt_pow_right (a := 2) (by omega) (rk_lt (ho.1 L (by omega)) q))
    · exact ih
theorem rk_sur (s : Nat) : ∀ k r, r < rk s k → ∃ p, p < k ∧ s.testBit p = true ∧ rk s p = r
  | 0, r, h => absurd h (Nat.not_lt_zero _)
  | k + 1, r, h => by
    have e : rk s (k + 1) = rk s k + (if s.testBit k = true then 1 else 0) := rfl
    by_cases z : r < rk s k
    · obtain ⟨p, h1, h2, h3⟩ := rk_sur s k r z
      exact ⟨p, by omega, h2, h3⟩
    · by_cases q : s.testBit k = true
      · rw [if_pos q] at e
        exact ⟨k, by omega, q, by omega⟩
      · rw [if_neg q] at e
        omega
theorem CLv_full {s : Nat} {o : Nat → Nat} (ho : oOK o) : CLv s o 10 = 2 ^ rk s 10 - 1 := nat_ext (fun r => by
  rw [Nat.testBit_two_pow_sub_one]
  by_cases q : r < rk s 10
  · obtain ⟨p, h1, h2, h3⟩ := rk_sur s 10 r q
    obtain ⟨i, hi, e⟩ := oOK_sur ho h1
    rw [decide_eq_true q]
    exact (CLv_bit s o r 10).mpr ⟨i, hi, by rw [e]; exact h2, by rw [e]; exact h3⟩
  · rw [decide_eq_false q]
    cases z : (CLv s o 10).testBit r
    · rfl
    · obtain ⟨i, h1, h2, h3⟩ := (CLv_bit s o r 10).mp z
      have := rk_lt (ho.1 i h1) h2
      omega)
theorem CLv_step {s : Nat} {o : Nat → Nat} (L : Nat) : CLv s o L ≤ CLv s o (L + 1) := by
  show _ ≤ (if s.testBit (o L) = true then CLv s o L ||| 2 ^ rk s (o L) else CLv s o L)
  split
  · exact Nat.left_le_or
  · exact Nat.le_refl _
theorem CLv_mono {s : Nat} {o : Nat → Nat} {i : Nat} : ∀ d, CLv s o i ≤ CLv s o (i + d)
  | 0 => Nat.le_refl _
  | d + 1 => Nat.le_trans (CLv_mono d) (CLv_step (i + d))
theorem CLv_new {s : Nat} {o : Nat → Nat} (ho : oOK o) {L : Nat} (hL : L < 10) (q : s.testBit (o L) = true) : (CLv s o L).testBit (rk s (o L)) = false := by
  cases z : (CLv s o L).testBit (rk s (o L))
  · rfl
  · obtain ⟨i, h1, h2⟩ := (CLv_at q L).mp z
    have := ho.2 i L (by omega) hL h2
    omega
theorem CLv_strict {s : Nat} {o : Nat → Nat} (ho : oOK o) {i L : Nat} (hi : i < L) (hL : L ≤ 10) (q : s.testBit (o i) = true) : CLv s o i < CLv s o L := by
  have h1 : CLv s o (i + 1) ≤ CLv s o L := by
    have := CLv_mono (s := s) (o := o) (i := i + 1) (L - (i + 1))
    rwa [show i + 1 + (L - (i + 1)) = L by omega] at this
  refine Nat.lt_of_lt_of_le (Nat.lt_of_le_of_ne (CLv_step i) (fun e => ?_)) h1
  have h2 := CLv_new ho (show i < 10 by omega) q
  rw [e, (CLv_bit s o _ (i + 1)).mpr ⟨i, by omega, q, rfl⟩] at h2
  cases h2
/-- what is known of the least numbers when all sets below one are done -/
def IL (f : Fn) (s : Nat) (o : Nat → Nat) (set : Nat) (st : St) : Prop := ∀ L, L ≤ 10 → (∀ i, i < L → s.testBit (o i) = true → CLv s o i < set) → v 17 st (CLv s o L) ≤ nSum [f, f] o L
theorem outer_L {f : Fn} {s : Nat} {o : Nat → Nat} {P : Int64} (ho : oOK o) (hf : fin10 f) (hs : SUP f s) (h6 : rk s 10 ≤ 6) (hP : ∀ j, j < 64 → bt P j = f (pd s j 10)) : ∀ (d n set : Nat) (st : St), set + d = 2 ^ rk s 10 → d < n → NN st → (∀ j, j < 2 ^ rk s 10 → v 17 st j ≤ 1000) → IL f s o set st →
    ∃ st', sX1_leastNodes_L46 n st P (nI (2 ^ rk s 10)) (nI set) = some st' ∧ LO st st' ∧ NN st' ∧ IL f s o (2 ^ rk s 10) st' := by
  have hm64 : 2 ^ rk s 10 ≤ 64 := pow_le h6
  intro d
  induction d with
  | zero =>
    intro n set st hi hn hN hE h
    obtain ⟨n, rfl⟩ : ∃ m, n = m + 1 := ⟨n - 1, by omega⟩
    obtain rfl : set = 2 ^ rk s 10 := by omega
    exact ⟨st, by rw [sX1_leastNodes_L46, if_pos (by rw [nI_leE (by omega) (by omega)]; omega)], LO.refl _, hN, h⟩
  | succ d ih =>
    intro n set st hi hn hN hE h
    obtain ⟨n, rfl⟩ : ∃ m, n = m + 1 := ⟨n - 1, by omega⟩
    have hset : set < 2 ^ rk s 10 := by omega
    obtain ⟨count, s1, e1, d1, l1⟩ := partsOf_ok st P (set := set) (by omega)
    have hE1 : ∀ j, j < 2 ^ rk s 10 → v 17 s1 j ≤ 1000 := fun j hj => by rw [v17_L2 l1]; exact hE j hj
    obtain ⟨s2, e2, g1, g2, g3, g4, g5, g6⟩ := inner_L (P := P) h6 hset d1.1 6 FU 0 s1 (by omega) (by decide) (NN_L2 l1 hN) hE1
    have hI : IL f s o (set + 1) s2 := by
      intro L
      induction L with
      | zero =>
        intro _ _
        have h0 := h 0 (by omega) (fun i hi => by omega)
        have := g4 (CLv s o 0) (CLv_lt ho 0 (by omega))
        rw [v17_L2 l1] at this
        exact Nat.le_trans this h0
      | succ L ihL =>
        intro hL hall
        have old : ∀ L', L' ≤ 10 → (∀ i, i < L' → s.testBit (o i) = true → CLv s o i < set) → v 17 s2 (CLv s o L') ≤ nSum [f, f] o L' := fun L' hL' hh => by
          have := g4 (CLv s o L') (CLv_lt ho L' hL')
          rw [v17_L2 l1] at this
          exact Nat.le_trans this (h L' hL' hh)
        have eS : nSum [f, f] o (L + 1) = nSum [f, f] o L + nAt [f, f] o L := rfl
        by_cases q : s.testBit (o L) = true
        · have eC : CLv s o (L + 1) = CLv s o L ||| 2 ^ rk s (o L) := if_pos q
          have hle := hall L (by omega) q
          have hbelow : ∀ i, i < L → s.testBit (o i) = true → CLv s o i < CLv s o L := fun i hi hb => CLv_strict ho hi (by omega) hb
          by_cases z : CLv s o L = set
          · have hold := old L (by omega) (fun i hi hb => by rw [← z]; exact hbelow i hi hb)
            have hst := g6 (rk s (o L)) (Nat.zero_le _) (rk_lt (ho.1 L (by omega)) q) (by rw [← z]; exact CLv_new ho (by omega) q)
            have hd := dep_le (row := s1.2.1 15) (count := count) ho hf hs h6 hP (show L < 10 by omega) q (by rw [z]; exact d1)
            have hb := h L (by omega) (fun i hi hb => by rw [← z]; exact hbelow i hi hb)
            rw [eC, eS]
            rw [v17_L2 l1, ← z] at hst
            exact Nat.le_trans hst (Nat.add_le_add hb hd)
          · refine old (L + 1) hL (fun i hi hb => ?_)
            by_cases y : i = L
            · rw [y]; omega
            · have := hbelow i (by omega) hb
              omega
        · have eC : CLv s o (L + 1) = CLv s o L := if_neg q
          rw [eC, eS]
          exact Nat.le_trans (ihL (by omega) (fun i hi hb => hall i (by omega) hb)) (Nat.le_add_right _ _)
    obtain ⟨s3, e3, k1, k2, k3⟩ := ih n (set + 1) s2 (by omega) (by omega) g3 (fun j hj => Nat.le_trans (g4 j hj) (hE1 j hj)) hI
    refine ⟨s3, ?_, ((LO_L2 l1).trans g1).trans k1, k2, k3⟩
    rw [sX1_leastNodes_L46, if_neg (by rw [nI_leE (by omega) (by omega)]; omega), e1, ob2_s, n_0, e2, ob_s, nI_add1, lt_e]
    exact e3
theorem leastNodes_ok {f : Fn} {s : Nat} {o : Nat → Nat} {P : Int64} {st : St} (ho : oOK o) (hf : fin10 f) (hs : SUP f s) (h6 : rk s 10 ≤ 6) (hP : ∀ j, j < 64 → bt P j = f (pd s j 10)) (hN : NN st) :
    ∃ n st', sX1_leastNodes st P (nI (rk s 10)) = some (nI n, st') ∧ n ≤ nAll [f, f] o ∧ LO st st' ∧ NN st' := by
  have hm64 : 2 ^ rk s 10 ≤ 64 := pow_le h6
  have hpos : 0 < 2 ^ rk s 10 := Nat.pow_pos (by omega)
  obtain ⟨s1, e1, a1, a2, a3⟩ := fill_L (N := 2 ^ rk s 10) hm64 (P := P) (2 ^ rk s 10 - 1) FU 1 st (by omega) (by show _ < 4000; omega) hN
  have hN2 := NN_sI (r := 17) a2 (i := 0) (x := 0) (by omega) (by omega)
  have vs : ∀ j, v 17 (sI 17 s1 (nI 0) (nI 0)) j = if j = 0 then 0 else v 17 s1 j := fun j => by
    rw [v_sI (by omega) (by omega)]
    by_cases z : j = 0
    · rw [if_pos ⟨rfl, z⟩, if_pos z]
    · rw [if_neg (fun y => z y.2), if_neg z]
  obtain ⟨s3, e3, b1, b2, b3⟩ := outer_L ho hf hs h6 hP (2 ^ rk s 10) FU 0 (sI 17 s1 (nI 0) (nI 0)) (by omega) (by show _ < 4000; omega) hN2 (fun j hj => by
    rw [vs]
    split
    · omega
    · rw [(a3 j).1 (by omega) hj]; omega) (fun L hL hall => by
      have hz : CLv s o L = 0 := by
        cases L with
        | zero => rfl
        | succ L =>
          refine nat_ext (fun r => ?_)
          rw [Nat.zero_testBit]
          cases z : (CLv s o (L + 1)).testBit r
          · rfl
          · obtain ⟨i, h1, h2, h3⟩ := (CLv_bit s o r (L + 1)).mp z
            exact absurd (hall i h1 h2) (Nat.not_lt_zero _)
      rw [hz, vs, if_pos rfl]
      exact Nat.zero_le _)
  have hfin := b3 10 (Nat.le_refl _) (fun i hi _ => CLv_lt ho i (by omega))
  rw [CLv_full ho] at hfin
  refine ⟨v 17 s3 (2 ^ rk s 10 - 1), s3, ?_, hfin, (a1.trans (LO_s17 s1 _ _)).trans b1, b2⟩
  unfold sX1_leastNodes
  rw [n_6, imin_nI (by omega) (by omega), Nat.min_eq_left h6, bit10 (rk s 10) (by omega), lt_e, n_1, e1, ob_s, n_0, gd_in (by omega) (by omega), lt_e, e3, ob_s, nI_subE (by omega), gd_in (by omega) (by omega), gI_v b2 (by decide) (by omega)]
theorem leastSize_K {S : List Fn} {o : Nat → Nat} {B : Nat} {st : St} (k : K S o B st) {a : Nat} (ha : a < 12) : ∃ r st', sX3_leastSize st (nI a) = some (r, st') ∧ (r = -1 ∨ ∃ n, n ≤ nAll [sl S a, sl S a] o ∧ r = nI n) ∧ K S o B st' := by
  have hs := k.1.2.2.1 a ha
  rw [K_sl k ha] at hs
  have hN := OS_nn k.1.1
  have e : cnt 10 (fun w => (v 0 st a).testBit w) = rk (v 0 st a) 10 := rfl
  have hb : sJ6_bitCount_0f7a4 st (nI (v 0 st a)) = some (nI (rk (v 0 st a) 10)) := by
    rw [bitCount_bc, bc_all _ hs.1, e]
  have hle : rk (v 0 st a) 10 ≤ 10 := cnt_le 10 _
  by_cases q : rk (v 0 st a) 10 ≤ 6
  · obtain ⟨P, e1, hP⟩ := packed_ok st a hs.1
    rw [K_sl k ha] at hP
    obtain ⟨n, st', e2, h1, h2, h3⟩ := leastNodes_ok (OS_ok k.1.1) (K_fin k ha) hs q hP hN
    refine ⟨nI n, st', ?_, Or.inr ⟨n, h1, rfl⟩, K_LO k h2 h3⟩
    unfold sX3_leastSize
    rw [slot_ok st ha, ob_s, gd_in ha (by omega), gI_v hN (by decide) (by omega), lt_e, hb, ob_s, n_6, if_pos (by rw [nI_leE (by omega) (by omega)]; exact q), gd_in ha (by omega), nI_toN (a := a) (by omega), e1, ob_s, e2, ob2_s]
  · refine ⟨-1, st, ?_, Or.inl rfl, k⟩
    unfold sX3_leastSize
    rw [slot_ok st ha, ob_s, gd_in ha (by omega), gI_v hN (by decide) (by omega), lt_e, hb, ob_s, n_6, if_neg (by rw [nI_leE (by omega) (by omega)]; exact q)]
