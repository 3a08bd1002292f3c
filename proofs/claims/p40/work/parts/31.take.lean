/-! takeAll: the nodes of a level, out of their buckets into the list -/
theorem take_L {x1 x4 : Int32} : ∀ (t : List Nat) (a m k fu : Nat) (st : St), NN st → isCh (v 11 st) a t → m + t.length ≤ 2560 → k + t.length ≤ 2558 → t.length < fu → ∃ st', sX0_takeAll_L39 fu st x1 (nI m) x4 (nI a) (nI k) = some (st', nI (m + t.length)) ∧ NN st' ∧ Fr [15] st st' ∧ st'.2.2 = st.2.2 ∧ (∀ i, i < t.length → v 15 st' (m + i) = t.getD i 0) ∧ ∀ j, j < m → v 15 st' j = v 15 st j
  | [], a, m, k, fu, st, hN, h, hm, hk, hfu => by
    obtain ⟨fu, rfl⟩ : ∃ q, fu = q + 1 := ⟨fu - 1, by simp at hfu; omega⟩
    have ha : a = 0 := h
    subst ha
    have hk0 : k ≤ 2558 := hk
    have hm0 : m ≤ 2560 := hm
    refine ⟨st, ?_, hN, Fr.refl _ _, rfl, fun i hi => absurd hi (Nat.not_lt_zero i), fun _ _ => rfl⟩
    have e1 : ¬ (2560 : Int32) ≤ nI k := by
      rw [n_2560, nI_leE (by omega) (by omega)]
      omega
    rw [sX0_takeAll_L39, if_neg e1, isNode_ok st (by omega), if_neg (by omega), ob_s, if_pos n_0.symm]
    rfl
  | b :: t, a, m, k, fu, st, hN, h, hm, hk, hfu => by
    obtain ⟨fu, rfl⟩ : ∃ q, fu = q + 1 := ⟨fu - 1, by simp at hfu; omega⟩
    obtain ⟨h1, h2, h3, h4⟩ := h
    subst h1
    simp only [List.length_cons] at hm hk hfu
    have e1 : ¬ (2560 : Int32) ≤ nI k := by
      rw [n_2560, nI_leE (by omega) (by omega)]
      omega
    have e2 : ¬ (2560 : Int32) ≤ nI m := by
      rw [n_2560, nI_leE (by omega) (by omega)]
      omega
    have N1 := NN_sI (r := 15) hN (i := m) (x := a) (by omega) (by omega)
    have F1 := Fr_sI st 15 (nI m) (nI a)
    have h11 : v 11 (sI 15 st (nI m) (nI a)) = v 11 st := F1.vE (by decide)
    obtain ⟨st', e, g1, g2, g3, g4, g5⟩ := take_L t (v 11 st a) (m + 1) (k + 1) fu (sI 15 st (nI m) (nI a)) N1 (by rw [h11]; exact h4) (by omega) (by omega) (by omega)
    refine ⟨st', ?_, g1, F1.trans g2, g3, fun i hi => ?_, fun j hj => ?_⟩
    · rw [sX0_takeAll_L39, if_neg e1, isNode_ok st (by omega), if_pos (show 2 ≤ a ∧ a < 2560 from ⟨h2, h3⟩), ob_s, if_neg nI1_ne, if_neg e2, gd_in (by omega) (by omega), lt_e, nI_add1, lt_e, gd_in (by omega) (by omega), gI_v N1 (by decide) (by omega), h11, lt_e, nI_add1, lt_e, e, List.length_cons, show m + (t.length + 1) = m + 1 + t.length by omega]
    · cases i with
      | zero =>
        rw [Nat.add_zero, g5 m (by omega), v_sI (by omega) (by omega), if_pos ⟨rfl, rfl⟩]
        rfl
      | succ i =>
        simp only [List.length_cons] at hi
        rw [show m + (i + 1) = m + 1 + i by omega, g4 i (by omega)]
        rfl
    · rw [g5 j (by omega), v_sI (by omega) (by omega), if_neg (by omega)]
def cat (c : Nat → List Nat) : Nat → Nat → List Nat
  | _, 0 => []
  | b, r + 1 => c b ++ cat c (b + 1) r
theorem mem_cat (c : Nat → List Nat) (n : Nat) : ∀ (r b : Nat), n ∈ cat c b r ↔ ∃ j, b ≤ j ∧ j < b + r ∧ n ∈ c j
  | 0, b => by
    constructor
    · intro h; exact absurd h List.not_mem_nil
    · rintro ⟨j, h1, h2, -⟩; omega
  | r + 1, b => by
    show n ∈ c b ++ cat c (b + 1) r ↔ _
    rw [List.mem_append, mem_cat c n r (b + 1)]
    constructor
    · rintro (h | ⟨j, h1, h2, h3⟩)
      · exact ⟨b, Nat.le_refl _, by omega, h⟩
      · exact ⟨j, by omega, by omega, h3⟩
    · rintro ⟨j, h1, h2, h3⟩
      by_cases e : j = b
      · subst e; exact Or.inl h3
      · exact Or.inr ⟨j, by omega, by omega, h3⟩
theorem cat_nodup (c : Nat → List Nat) (hd : ∀ j, (c j).Nodup) (hx : ∀ i j n, n ∈ c i → n ∈ c j → i = j) : ∀ (r b : Nat), (cat c b r).Nodup
  | 0, _ => List.nodup_nil
  | r + 1, b => by
    show (c b ++ cat c (b + 1) r).Nodup
    refine List.nodup_append.mpr ⟨hd b, cat_nodup c hd hx r (b + 1), fun x hx1 y hy e => ?_⟩
    subst e
    obtain ⟨j, h1, h2, h3⟩ := (mem_cat c x r (b + 1)).mp hy
    have := hx b j x hx1 h3
    omega
theorem getD_app (s t : List Nat) (i : Nat) : (s ++ t).getD i 0 = if i < s.length then s.getD i 0 else t.getD (i - s.length) 0 := by
  by_cases h : i < s.length
  · rw [if_pos h]
    simp [List.getD, List.getElem?_append_left h]
  · rw [if_neg h]
    simp [List.getD, List.getElem?_append_right (Nat.le_of_not_lt h)]
theorem take_B {L : Nat} (hL : L < 10) {c : Nat → List Nat} : ∀ (r b m fu : Nat) (st : St), NN st → b + r = (L + 1) * 64 → (∀ j, b ≤ j → j < b + r → isCh (v 11 st) (v 7 st j) (c j)) → m + (cat c b r).length ≤ 2560 → r < fu → ∃ st', sX0_takeAll_L8 fu st (nI L) (nI m) (nI b) = some (st', nI (m + (cat c b r).length)) ∧ NN st' ∧ Fr [7, 15] st st' ∧ st'.2.2 = st.2.2 ∧ (∀ i, i < (cat c b r).length → v 15 st' (m + i) = (cat c b r).getD i 0) ∧ (∀ j, j < m → v 15 st' j = v 15 st j) ∧ ∀ j, v 7 st' j = if b ≤ j ∧ j < b + r then 0 else v 7 st j
  | 0, b, m, fu, st, hN, hb, hc, hm, hfu => by
    obtain ⟨fu, rfl⟩ : ∃ q, fu = q + 1 := ⟨fu - 1, by omega⟩
    refine ⟨st, ?_, hN, Fr.refl _ _, rfl, fun i hi => absurd hi (Nat.not_lt_zero i), fun _ _ => rfl, fun j => by rw [if_neg (by omega)]⟩
    have e1 : (nI L + (1 : Int32)) * (64 : Int32) ≤ nI b := by
      rw [nI_add1, n_64, nI_mulE, nI_leE (by omega) (by omega)]
      omega
    rw [sX0_takeAll_L8, if_pos e1]
    rfl
  | r + 1, b, m, fu, st, hN, hb, hc, hm, hfu => by
    obtain ⟨fu, rfl⟩ : ∃ q, fu = q + 1 := ⟨fu - 1, by omega⟩
    have hcat : cat c b (r + 1) = c b ++ cat c (b + 1) r := rfl
    rw [hcat, List.length_append] at hm
    have e1 : ¬ (nI L + (1 : Int32)) * (64 : Int32) ≤ nI b := by
      rw [nI_add1, n_64, nI_mulE, nI_leE (by omega) (by omega)]
      omega
    have N1 := NN_sI (r := 7) hN (i := b) (x := 0) (by omega) (by omega)
    have F1 := Fr_sI st 7 (nI b) (nI 0)
    have h11 : v 11 (sI 7 st (nI b) (nI 0)) = v 11 st := F1.vE (by decide)
    have hcb := hc b (Nat.le_refl _) (by omega)
    have hlen := isCh_len hcb
    have hx := v_lt 7 st b
    obtain ⟨s2, e2, g1, g2, g3, g4, g5⟩ := take_L (x1 := nI L) (x4 := nI b) (c b) (v 7 st b) m 0 FU (sI 7 st (nI b) (nI 0)) N1 (by rw [h11]; exact hcb) (by omega) (by omega) (by show _ < 4000; omega)
    have v7 : ∀ j, v 7 s2 j = if j = b then 0 else v 7 st j := fun j => by
      rw [g2.vE (by decide), v_sI (by omega) (by omega)]
      by_cases e : j = b
      · rw [if_pos ⟨rfl, e⟩, if_pos e]
      · rw [if_neg (fun z => e z.2), if_neg e]
    have v11 : v 11 s2 = v 11 st := (g2.vE (by decide)).trans h11
    obtain ⟨st', e3, k1, k2, k3, k4, k5, k6⟩ := take_B hL r (b + 1) (m + (c b).length) fu s2 g1 (by omega) (fun j h1 h2 => by
      rw [v11, v7, if_neg (by omega)]
      exact hc j (by omega) (by omega)) (by omega) (by omega)
    have FA : Fr [7, 15] st st' := (F1.mono (by intro q hq; simp at hq ⊢; omega)).trans ((g2.mono (by intro q hq; simp at hq ⊢; omega)).trans k2)
    refine ⟨st', ?_, k1, FA, k3.trans g3, fun i hi => ?_, fun j hj => ?_, fun j => ?_⟩
    · rw [sX0_takeAll_L8, if_neg e1, gd_in (by omega) (by omega), gI_v hN (by decide) (by omega), lt_e, gd_in (by omega) (by omega), show (0 : Int32) = nI 0 from n_0, lt_e, e2, ob2_s, nI_add1, lt_e, e3, hcat, List.length_append, Nat.add_assoc]
    · rw [hcat] at hi ⊢
      rw [List.length_append] at hi
      rw [getD_app]
      by_cases q : i < (c b).length
      · rw [if_pos q, k5 _ (by omega), g4 i q]
      · rw [if_neg q, show m + i = m + (c b).length + (i - (c b).length) by omega, k4 _ (by omega)]
    · rw [k5 j (by omega), g5 j hj]
      exact congrFun (F1.vE (r := 15) (by decide)) j
    · rw [k6, v7]
      by_cases q : b + 1 ≤ j ∧ j < b + 1 + r
      · rw [if_pos q, if_pos (by omega)]
      · rw [if_neg q]
        by_cases q2 : j = b
        · rw [if_pos q2, if_pos (by omega)]
        · rw [if_neg q2, if_neg (by omega)]
/-- the linked nodes without those of a level -/
def offL (st : St) (lk : Nat → Bool) (L : Nat) : Nat → Bool := fun n => lk n && !(v 8 st n == L)
theorem offL_t {st : St} {lk : Nat → Bool} {L n : Nat} : offL st lk L n = true ↔ lk n = true ∧ v 8 st n ≠ L := by
  unfold offL
  simp
theorem take_ok {st : St} {al lk : Nat → Bool} {L m : Nat} (B : BM st al lk) (hL : L < 10) (hm : m + v 6 st L ≤ 2560) : ∃ (ns : List Nat) (st' : St), sX0_takeAll st (nI L) (nI m) = some (nI (m + ns.length), st') ∧ ns.Nodup ∧ (∀ n, n ∈ ns ↔ lk n = true ∧ v 8 st n = L) ∧ ns.length = v 6 st L ∧ BM st' al (offL st lk L) ∧ Fr [6, 7, 15] st st' ∧ (∀ k, k ≠ 1 → st'.2.2 k = st.2.2 k) ∧ (∀ i, i < ns.length → v 15 st' (m + i) = ns.getD i 0) ∧ (∀ j, j < m → v 15 st' j = v 15 st j) ∧ ∀ l, l ≠ L → v 6 st' l = v 6 st l := by
  obtain ⟨hN, ⟨c, hc⟩, ⟨fl, hf1, hf2⟩, ⟨hc1, hc2⟩, hS⟩ := id B
  -- chains within the row of buckets alone
  have hbl : ∀ n, lk n = true → bk st n < 640 := fun n hn => bkn_lt (hS.2.1 n (hS.1 n hn)).2.2.1 _ _
  have hq := fun n => (bq_eq (v 9 st n) (v 10 st n)).2
  generalize hcc : (fun j => if j < 640 then c j else []) = c'
  have hc' : ∀ j, j < 640 → c' j = c j := fun j hj => by rw [← hcc]; exact if_pos hj
  have hcn : ∀ j n, n ∈ c' j → lk n = true ∧ bk st n = j := fun j n hn => by
    by_cases q : j < 640
    · rw [hc' j q] at hn
      exact ((hc j q).2 n).mp hn
    · rw [← hcc] at hn
      have : n ∈ (if j < 640 then c j else []) := hn
      rw [if_neg q] at this
      exact absurd this List.not_mem_nil
  have hnd : (cat c' (L * 64) 64).Nodup := cat_nodup c' (fun j => by
    by_cases q : j < 640
    · rw [hc' j q]; exact isCh_nodup (hc j q).1
    · rw [← hcc]
      show (if j < 640 then c j else []).Nodup
      rw [if_neg q]
      exact List.nodup_nil) (fun i j n h1 h2 => (hcn i n h1).2.symm.trans (hcn j n h2).2) 64 (L * 64)
  have hmem : ∀ n, n ∈ cat c' (L * 64) 64 ↔ lk n = true ∧ v 8 st n = L := fun n => by
    rw [mem_cat]
    constructor
    · rintro ⟨j, h1, h2, h3⟩
      obtain ⟨g1, g2⟩ := hcn j n h3
      refine ⟨g1, ?_⟩
      have := hq n
      unfold bk bkn at g2
      omega
    · rintro ⟨h1, h2⟩
      have q := hbl n h1
      refine ⟨bk st n, ?_, ?_, by rw [hc' _ q]; exact ((hc _ q).2 n).mpr ⟨h1, rfl⟩⟩
      · unfold bk bkn; have := hq n; omega
      · unfold bk bkn; have := hq n; omega
  have hlen : (cat c' (L * 64) 64).length = v 6 st L := by
    rw [hc1 L hL, ← cnt_filter]
    have e1 := nodup_le (m := (List.range 2560).filter (fun n => lk n && (v 8 st n == L))) hnd (fun n hn => by
      obtain ⟨h1, h2⟩ := (hmem n).mp hn
      exact List.mem_filter.mpr ⟨List.mem_range.mpr (hS.2.1 n (hS.1 n h1)).2.1, by simp [h1, h2]⟩)
    have e2 := nodup_le (m := cat c' (L * 64) 64) (l := (List.range 2560).filter (fun n => lk n && (v 8 st n == L))) ((range_nodup 2560).filter _) (fun n hn => by
      have h := (List.mem_filter.mp hn).2
      simp at h
      exact (hmem n).mpr h)
    omega
  obtain ⟨s1, e1, k1, k2, k3, k4, k5, k6⟩ := take_B hL (c := c') 64 (L * 64) m FU st hN (by omega) (fun j h1 h2 => by
    rw [hc' j (by omega)]
    exact (hc j (by omega)).1) (by omega) (by decide)
  have h6 : v 6 s1 = v 6 st := k2.vE (by decide)
  have f1 : ∀ k, fv k s1 = fv k st := fun k => by unfold fv; rw [k3]
  have hle : v 6 st L ≤ fv 1 st := by
    rw [hc1 L hL, hc2]
    exact cnt_mono (fun n _ h => by
      cases q : lk n
      · rw [q] at h; cases h
      · rfl)
  have hx6 := v_lt 6 st L
  have hx1 := fv_lt 1 st
  have N2 : NN (sF 1 s1 (nI (fv 1 st - v 6 st L))) := NN_sF k1 (by omega)
  generalize hs2 : sI 6 (sF 1 s1 (nI (fv 1 st - v 6 st L))) (nI L) (nI 0) = s2
  have N3 : NN s2 := by rw [← hs2]; exact NN_sI N2 (by omega) (by omega)
  have F2 : Fr [6] s1 s2 := by rw [← hs2]; exact ⟨fun r hr => (Fr_sI (sF 1 s1 (nI (fv 1 st - v 6 st L))) 6 (nI L) (nI 0)).1 r hr, rfl⟩
  have FA : Fr [6, 7, 15] st s2 := (k2.mono (by intro q hq; simp at hq ⊢; omega)).trans (F2.mono (by intro q hq; simp at hq ⊢; omega))
  have a5 : v 5 s2 = v 5 st := FA.vE (by decide)
  have a8 : v 8 s2 = v 8 st := FA.vE (by decide)
  have a9 : v 9 s2 = v 9 st := FA.vE (by decide)
  have a10 : v 10 s2 = v 10 st := FA.vE (by decide)
  have a11 : v 11 s2 = v 11 st := FA.vE (by decide)
  have a7 : ∀ j, v 7 s2 j = if L * 64 ≤ j ∧ j < L * 64 + 64 then 0 else v 7 st j := fun j => by rw [F2.vE (by decide)]; exact k6 j
  have a6 : ∀ l, v 6 s2 l = if l = L then 0 else v 6 st l := fun l => by
    rw [← hs2, v_sI (by omega) (by omega), v_sF, h6]
    by_cases e : l = L
    · rw [if_pos ⟨rfl, e⟩, if_pos e]
    · rw [if_neg (fun z => e z.2), if_neg e]
  have b1 : fv 1 s2 = fv 1 st - v 6 st L := by rw [← hs2, fv_sI, fv_sF (by omega), if_pos rfl]
  have bk' : ∀ k, k ≠ 1 → s2.2.2 k = st.2.2 k := fun k hk => by
    rw [← k3, ← hs2]
    exact if_neg hk
  have hbk : ∀ n, bk s2 n = bk st n := fun n => by unfold bk; rw [a8, a9, a10]
  have hsp : cnt 2560 lk = cnt 2560 (fun n => lk n && (v 8 st n == L)) + cnt 2560 (offL st lk L) := cnt_split 2560 lk (fun n => v 8 st n == L)
  refine ⟨cat c' (L * 64) 64, s2, ?_, hnd, hmem, hlen, ⟨N3, ⟨fun j => if L * 64 ≤ j ∧ j < L * 64 + 64 then [] else c j, fun j hj => ?_⟩, ⟨fl, ?_, hf2⟩, ⟨fun l hl => ?_, ?_⟩, fun n hn => hS.1 n (offL_t.mp hn).1, ?_, ?_⟩, FA, bk', fun i hi => ?_, fun j hj => ?_, fun l hl => by rw [a6, if_neg hl]⟩
  · unfold sX0_takeAll
    rw [n_64, nI_mulE, lt_e, e1, ob2_s, gd_in hL (by omega), gF_v k1, gI_v k1 (by decide) (by omega), h6, f1, nI_subE hle, lt_e, gd_in hL (by omega), n_0, hs2, lt_e]
  · dsimp only
    rw [a7, a11]
    by_cases q : L * 64 ≤ j ∧ j < L * 64 + 64
    · rw [if_pos q, if_pos q]
      refine ⟨rfl, fun n => ⟨fun z => absurd z List.not_mem_nil, fun z => ?_⟩⟩
      obtain ⟨z1, z2⟩ := offL_t.mp z.1
      have z3 := z.2
      rw [hbk] at z3
      unfold bk bkn at z3
      have := hq n
      omega
    · rw [if_neg q, if_neg q]
      refine ⟨(hc j hj).1, fun n => ?_⟩
      rw [(hc j hj).2 n, hbk, offL_t]
      constructor
      · intro z
        refine ⟨⟨z.1, fun e => q ?_⟩, z.2⟩
        have z3 := z.2
        unfold bk bkn at z3
        have := hq n
        omega
      · intro z
        exact ⟨z.1.1, z.2⟩
  · rw [a11]
    have : fv 0 s2 = fv 0 st := by unfold fv; rw [bk' 0 (by decide)]
    rw [this]
    exact hf1
  · rw [a6, a8]
    by_cases e : l = L
    · subst e
      rw [if_pos rfl]
      refine (cnt_zero (fun n _ => ?_)).symm
      unfold offL
      cases q : (v 8 st n == l)
      · simp
      · simp
    · rw [if_neg e, hc1 l hl]
      refine cnt_congr (fun n _ => ?_)
      unfold offL
      cases q : lk n
      · simp
      · cases q2 : (v 8 st n == l)
        · simp
        · have : v 8 st n = l := by simpa using q2
          simp [this, e]
  · rw [b1, hc1 L hL, hc2]
    omega
  · rw [a8, a9, a10]
    exact hS.2.1
  · rw [a5]
    exact hS.2.2
  · rw [F2.vE (by decide)]
    exact k4 i hi
  · rw [F2.vE (by decide)]
    exact k5 j hj
