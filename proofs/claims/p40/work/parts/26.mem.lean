/-! THE STATE BY WHOLE NUMBERS; the diagram's memory: chains of nodes, free places, counts, pointers -/
theorem ob_s {α β : Type} (a : α) (f : α → Option β) : ob (some a) f = f a := rfl
theorem ob2_s {α γ β : Type} (a : α) (c : γ) (f : α → γ → Option β) : ob2 (some (a, c)) f = f a c := rfl
theorem lt_e {α β : Type} (a : α) (f : α → β) : lt a f = f a := rfl
theorem nI_add1 (a : Nat) : nI a + (1 : Int32) = nI (a + 1) := by rw [n_1, nI_addE]
theorem nI1_ne : ¬ nI 1 = (0 : Int32) := by decide
def v (r : Nat) (st : St) (i : Nat) : Nat := (st.1 r i).toNatClampNeg
def fv (k : Nat) (st : St) : Nat := (st.2.2 k).toNatClampNeg
def NN (st : St) : Prop := (∀ r i, r ≠ 3 → 0 ≤ (st.1 r i).toInt) ∧ ∀ k, 0 ≤ (st.2.2 k).toInt
theorem tn_lt (x : Int32) : x.toNatClampNeg < 2147483648 := by
  have h : x.toNatClampNeg = x.toInt.toNat := rfl
  have := Int32.toInt_lt x
  omega
theorem nI_ofN {x : Int32} (h : 0 ≤ x.toInt) : x = nI x.toNatClampNeg := by
  apply Int32.toInt_inj.mp
  rw [nI_toInt (tn_lt x)]
  have : x.toNatClampNeg = x.toInt.toNat := rfl
  omega
theorem v_lt (r : Nat) (st : St) (i : Nat) : v r st i < 2147483648 := tn_lt _
theorem fv_lt (k : Nat) (st : St) : fv k st < 2147483648 := tn_lt _
theorem nI_v {st : St} (h : NN st) {r : Nat} (hr : r ≠ 3) (i : Nat) : st.1 r i = nI (v r st i) := nI_ofN (h.1 r i hr)
theorem gI_v {st : St} (h : NN st) {r i : Nat} (hr : r ≠ 3) (hi : i < 2147483648) : gI r st (nI i) = nI (v r st i) := by rw [gI_nI hi, nI_v h hr]
theorem gF_v {st : St} (h : NN st) (k : Nat) : gF k st = nI (fv k st) := nI_ofN (h.2 k)
theorem nI_nn {x : Nat} (h : x < 2147483648) : 0 ≤ (nI x).toInt := by rw [nI_toInt h]; omega
theorem NN_sI {st : St} (h : NN st) {r i x : Nat} (hi : i < 2147483648) (hx : x < 2147483648) : NN (sI r st (nI i) (nI x)) := by
  refine ⟨fun r' j hr => ?_, h.2⟩
  rw [sI_nI hi]
  show 0 ≤ ((if r' = r then upd (st.1 r) i (nI x) else st.1 r') j).toInt
  by_cases e : r' = r
  · rw [if_pos e]
    unfold upd
    by_cases e2 : j = i
    · rw [if_pos e2]
      exact nI_nn hx
    · rw [if_neg e2]
      exact h.1 r j (e ▸ hr)
  · rw [if_neg e]
    exact h.1 r' j hr
theorem NN_sF {st : St} (h : NN st) {k x : Nat} (hx : x < 2147483648) : NN (sF k st (nI x)) := by
  refine ⟨h.1, fun k' => ?_⟩
  show 0 ≤ (if k' = k then nI x else st.2.2 k').toInt
  by_cases e : k' = k
  · rw [if_pos e]
    exact nI_nn hx
  · rw [if_neg e]
    exact h.2 k'
theorem v_sI {st : St} {r i x : Nat} (hi : i < 2147483648) (hx : x < 2147483648) (r' j : Nat) : v r' (sI r st (nI i) (nI x)) j = if r' = r ∧ j = i then x else v r' st j := by
  unfold v
  rw [sI_nI hi]
  show ((if r' = r then upd (st.1 r) i (nI x) else st.1 r') j).toNatClampNeg = _
  by_cases e : r' = r
  · rw [if_pos e]
    unfold upd
    by_cases e2 : j = i
    · rw [if_pos e2, if_pos ⟨e, e2⟩, nI_toN hx]
    · rw [if_neg e2, if_neg (fun z => e2 z.2), e]
  · rw [if_neg e, if_neg (fun z => e z.1)]
theorem fv_sI (st : St) (r : Nat) (i x : Int32) (k : Nat) : fv k (sI r st i x) = fv k st := rfl
theorem v_sF (st : St) (k : Nat) (x : Int32) (r j : Nat) : v r (sF k st x) j = v r st j := rfl
theorem fv_sF {st : St} {k x : Nat} (hx : x < 2147483648) (k' : Nat) : fv k' (sF k st (nI x)) = if k' = k then x else fv k' st := by
  unfold fv
  show (if k' = k then nI x else st.2.2 k').toNatClampNeg = _
  by_cases e : k' = k
  · rw [if_pos e, if_pos e, nI_toN hx]
  · rw [if_neg e, if_neg e]
/-- rows beside these are as they were, and all tables -/
def Fr (rs : List Nat) (st st' : St) : Prop := (∀ r, r ∉ rs → st'.1 r = st.1 r) ∧ st'.2.1 = st.2.1
theorem Fr.vE {rs : List Nat} {st st' : St} (h : Fr rs st st') {r : Nat} (hr : r ∉ rs) : v r st' = v r st := by
  funext i
  unfold v
  rw [h.1 r hr]
theorem Fr.refl (rs : List Nat) (st : St) : Fr rs st st := ⟨fun _ _ => rfl, rfl⟩
theorem Fr.trans {rs : List Nat} {a b c : St} (h1 : Fr rs a b) (h2 : Fr rs b c) : Fr rs a c := ⟨fun r hr => (h2.1 r hr).trans (h1.1 r hr), h2.2.trans h1.2⟩
theorem Fr.mono {rs rs' : List Nat} {a b : St} (h : Fr rs a b) (hs : ∀ r, r ∈ rs → r ∈ rs') : Fr rs' a b := ⟨fun r hr => h.1 r (fun z => hr (hs r z)), h.2⟩
theorem Fr_sI (st : St) (r : Nat) (i x : Int32) : Fr [r] st (sI r st i x) := ⟨fun r' hr => if_neg (fun e => hr (by rw [e]; exact List.mem_cons_self)), rfl⟩
theorem Fr_sF (st : St) (k : Nat) (x : Int32) : Fr [] st (sF k st x) := ⟨fun _ _ => rfl, rfl⟩
/-- a chain, out of a row of nexts -/
def isCh (nx : Nat → Nat) : Nat → List Nat → Prop
  | a, [] => a = 0
  | a, b :: t => a = b ∧ 2 ≤ b ∧ b < 2560 ∧ isCh nx (nx b) t
theorem isCh_same {nx ny : Nat → Nat} : ∀ {l : List Nat} {a : Nat}, isCh nx a l → (∀ n, n ∈ l → ny n = nx n) → isCh ny a l
  | [], _, h, _ => h
  | b :: t, a, h, e => by
    obtain ⟨h1, h2, h3, h4⟩ := h
    refine ⟨h1, h2, h3, ?_⟩
    rw [e b List.mem_cons_self]
    exact isCh_same h4 (fun n hn => e n (List.mem_cons_of_mem _ hn))
theorem isCh_det {nx : Nat → Nat} : ∀ {l m : List Nat} {a : Nat}, isCh nx a l → isCh nx a m → l = m
  | [], [], _, _, _ => rfl
  | [], b :: t, a, h, h2 => by
    obtain ⟨h3, h4, -⟩ := h2
    have : a = 0 := h
    omega
  | b :: t, [], a, h, h2 => by
    obtain ⟨h3, h4, -⟩ := h
    have : a = 0 := h2
    omega
  | b :: t, c :: u, a, h, h2 => by
    obtain ⟨h3, -, -, h4⟩ := h
    obtain ⟨g3, -, -, g4⟩ := h2
    subst h3
    subst g3
    rw [isCh_det h4 g4]
theorem isCh_mem {nx : Nat → Nat} : ∀ {l : List Nat} {a n : Nat}, isCh nx a l → n ∈ l → 2 ≤ n ∧ n < 2560
  | b :: t, a, n, h, hn => by
    obtain ⟨h1, h2, h3, h4⟩ := h
    rcases List.mem_cons.mp hn with rfl | q
    · exact ⟨h2, h3⟩
    · exact isCh_mem h4 q
theorem isCh_from {nx : Nat → Nat} : ∀ {s t : List Nat} {a n : Nat}, isCh nx a (s ++ n :: t) → isCh nx n (n :: t)
  | [], _, _, _, h => ⟨rfl, h.2.1, h.2.2.1, h.2.2.2⟩
  | _ :: _, _, _, _, h => isCh_from h.2.2.2
theorem isCh_nodup {nx : Nat → Nat} : ∀ {l : List Nat} {a : Nat}, isCh nx a l → l.Nodup
  | [], _, _ => List.nodup_nil
  | b :: t, a, h => by
    refine List.nodup_cons.mpr ⟨fun hb => ?_, isCh_nodup h.2.2.2⟩
    obtain ⟨s, u, rfl⟩ := List.append_of_mem hb
    have h1 : isCh nx b (b :: u) := isCh_from h.2.2.2
    have h2 : isCh nx b (b :: (s ++ b :: u)) := ⟨rfl, h.2.1, h.2.2.1, h.2.2.2⟩
    have := congrArg List.length (isCh_det h1 h2)
    simp only [List.length_cons, List.length_append] at this
    omega
theorem isCh_len {nx : Nat → Nat} {l : List Nat} {a : Nat} (h : isCh nx a l) : l.length ≤ 2558 := by
  have h1 := nodup_le (m := (List.range 2558).map (fun i => i + 2)) (isCh_nodup h) (fun n hn => by
    obtain ⟨h2, h3⟩ := isCh_mem h hn
    exact List.mem_map.mpr ⟨n - 2, List.mem_range.mpr (by omega), by omega⟩)
  rwa [List.length_map, List.length_range] at h1
/-- the bucket of a node -/
theorem and63 (x : Int32) : ∃ k, k < 64 ∧ x &&& (63 : Int32) = nI k := by
  refine ⟨(x.toBitVec &&& 63#32).toNat, ?_, ?_⟩
  · rw [BitVec.toNat_and]
    exact Nat.lt_of_le_of_lt Nat.and_le_right (by decide)
  · apply Int32.toBitVec_inj.mp
    show x.toBitVec &&& 63#32 = BitVec.ofNat 32 _
    rw [BitVec.ofNat_toNat, BitVec.setWidth_eq]
def bq (a b : Nat) : Nat := ((iush ((nI a * (-1640531535 : Int32)) + (nI b * (-2048144789 : Int32))) (20 : Int32)) &&& (63 : Int32)).toNatClampNeg
theorem bq_eq (a b : Nat) : (iush ((nI a * (-1640531535 : Int32)) + (nI b * (-2048144789 : Int32))) (20 : Int32)) &&& (63 : Int32) = nI (bq a b) ∧ bq a b < 64 := by
  obtain ⟨k, h1, h2⟩ := and63 (iush ((nI a * (-1640531535 : Int32)) + (nI b * (-2048144789 : Int32))) (20 : Int32))
  unfold bq
  rw [h2, nI_toN (by omega)]
  exact ⟨rfl, h1⟩
def bkn (l a b : Nat) : Nat := l * 64 + bq a b
theorem bucketOf_ok (st : St) (l a b : Nat) : sX0_bucketOf st (nI l) (nI a) (nI b) = some (nI (bkn l a b)) := by
  unfold sX0_bucketOf
  simp only [lt]
  rw [(bq_eq a b).1, n_64, nI_mulE, nI_addE]
  rfl
theorem bkn_lt {l : Nat} (h : l < 10) (a b : Nat) : bkn l a b < 640 := by
  have := (bq_eq a b).2
  unfold bkn
  omega
def bk (st : St) (n : Nat) : Nat := bkn (v 8 st n) (v 9 st n) (v 10 st n)
def setB (p : Nat → Bool) (n : Nat) (b : Bool) : Nat → Bool := fun m => if m = n then b else p m
theorem setB_self (p : Nat → Bool) (n : Nat) (b : Bool) : setB p n b n = b := if_pos rfl
theorem setB_ne (p : Nat → Bool) {n m : Nat} (b : Bool) (h : m ≠ n) : setB p n b m = p m := if_neg h
def CH (st : St) (lk : Nat → Bool) : Prop := ∃ c : Nat → List Nat, ∀ b, b < 640 → isCh (v 11 st) (v 7 st b) (c b) ∧ ∀ n, n ∈ c b ↔ lk n = true ∧ bk st n = b
def FR (st : St) (al : Nat → Bool) : Prop := ∃ fl, isCh (v 11 st) (fv 0 st) fl ∧ ∀ n, n ∈ fl ↔ 2 ≤ n ∧ n < 2560 ∧ al n = false
def NC (st : St) (lk : Nat → Bool) : Prop := (∀ l, l < 10 → v 6 st l = cnt 2560 (fun n => lk n && (v 8 st n == l))) ∧ fv 1 st = cnt 2560 lk
def refs (st : St) (al : Nat → Bool) (n : Nat) : Nat := cnt 2560 (fun m => al m && (v 9 st m == n)) + cnt 2560 (fun m => al m && (v 10 st m == n)) + cnt 12 (fun s => v 5 st s == n)
def PR (st : St) (al : Nat → Bool) (hold : Nat → Nat) : Prop := (∀ n, al n = true → v 12 st n = refs st al n + hold n) ∧ ∀ n, hold n ≤ 100
def SH (st : St) (al lk : Nat → Bool) : Prop := (∀ n, lk n = true → al n = true) ∧ (∀ n, al n = true → 2 ≤ n ∧ n < 2560 ∧ v 8 st n < 10 ∧ ch al (v 9 st n) ∧ ch al (v 10 st n)) ∧ ∀ s, s < 12 → ch al (v 5 st s)
def BM (st : St) (al lk : Nat → Bool) : Prop := NN st ∧ CH st lk ∧ FR st al ∧ NC st lk ∧ SH st al lk
def BI (st : St) (al lk : Nat → Bool) (hold : Nat → Nat) : Prop := BM st al lk ∧ PR st al hold
theorem refs_le (st : St) (al : Nat → Bool) (n : Nat) : refs st al n ≤ 5132 := by
  unfold refs
  have h1 := cnt_le 2560 (fun m => al m && (v 9 st m == n))
  have h2 := cnt_le 2560 (fun m => al m && (v 10 st m == n))
  have h3 := cnt_le 12 (fun s => v 5 st s == n)
  omega
theorem link_eq {st : St} {n : Nat} (hN : NN st) (hn : 2 ≤ n ∧ n < 2560) (hl : v 8 st n < 10) (hc : v 6 st (v 8 st n) < 10000) (hf : fv 1 st < 10000) (hb : v 7 st (bk st n) < 2560) :
    sX0_link st (nI n) = some (sF 1 (sI 6 (sI 7 (sI 11 st (nI n) (nI (v 7 st (bk st n)))) (nI (bk st n)) (nI n)) (nI (v 8 st n)) (nI (v 6 st (v 8 st n) + 1))) (nI (fv 1 st + 1))) := by
  have h8 : bk st n < 640 := bkn_lt hl _ _
  have N1 := NN_sI (r := 11) hN (i := n) (x := v 7 st (bk st n)) (by omega) (by omega)
  have N2 := NN_sI (r := 7) N1 (i := bk st n) (x := n) (by omega) (by omega)
  have N3 := NN_sI (r := 6) N2 (i := v 8 st n) (x := v 6 st (v 8 st n) + 1) (by omega) (by omega)
  have e8 : gI 8 (sI 7 (sI 11 st (nI n) (nI (v 7 st (bk st n)))) (nI (bk st n)) (nI n)) (nI n) = nI (v 8 st n) := by
    rw [gI_v N2 (by decide) (by omega), v_sI (by omega) (by omega), if_neg (by omega), v_sI (by omega) (by omega), if_neg (by omega)]
  have e6 : gI 6 (sI 7 (sI 11 st (nI n) (nI (v 7 st (bk st n)))) (nI (bk st n)) (nI n)) (nI (v 8 st n)) = nI (v 6 st (v 8 st n)) := by
    rw [gI_v N2 (by decide) (by omega), v_sI (by omega) (by omega), if_neg (by omega), v_sI (by omega) (by omega), if_neg (by omega)]
  have hbk : bkn (v 8 st n) (v 9 st n) (v 10 st n) = bk st n := rfl
  unfold sX0_link
  rw [isNode_ok st (by omega), if_pos (show 2 ≤ n ∧ n < 2560 from hn), ob_s, if_neg nI1_ne, gd_in (by omega) (by omega), gI_v hN (by decide) (by omega), isLevel_ok st (by omega), if_pos hl, ob_s, if_pos nI1_ne, gd_in (by omega) (by omega), gd_in (by omega) (by omega), gd_in (by omega) (by omega), gI_v hN (by decide) (by omega), gI_v hN (by decide) (by omega), bucketOf_ok, ob_s, hbk, gd_in h8 (by omega), gd_in (by omega) (by omega), gI_v hN (by decide) (by omega), lt_e, gd_in h8 (by omega), lt_e, gd_in (by omega) (by omega), e8, gd_in hl (by omega), gd_in hl (by omega), e6, n_1, nI_addE, lt_e, gF_v N3, nI_addE, lt_e, fv_sI, fv_sI, fv_sI]
