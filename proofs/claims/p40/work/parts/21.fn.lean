/-! FUNCTIONS OF TEN VARIABLES, counting, lists without doubles -/
abbrev Fn : Type := Nat → Bool
/-- an assignment with a variable put to a value -/
def sw (v : Nat) (b : Bool) (x : Nat) : Nat := if x.testBit v = b then x else x ^^^ (2 ^ v)
def co (v : Nat) (b : Bool) (f : Fn) : Fn := fun x => f (sw v b x)
def mux (v : Nat) (f g : Fn) : Fn := fun x => if x.testBit v then g x else f x
def indep (f : Fn) (v : Nat) : Prop := ∀ b, co v b f = f
def cst (b : Bool) : Fn := fun _ => b
theorem sw_bit (v : Nat) (b : Bool) (x u : Nat) : (sw v b x).testBit u = if u = v then b else x.testBit u := by
  unfold sw
  by_cases h : x.testBit v = b
  · rw [if_pos h]
    by_cases hu : u = v
    · rw [if_pos hu, hu, h]
    · rw [if_neg hu]
  · rw [if_neg h, Nat.testBit_xor, Nat.testBit_two_pow]
    by_cases hu : u = v
    · subst hu
      rw [if_pos rfl]
      simp only [decide_true]
      cases hx : x.testBit u <;> cases b <;> simp_all
    · rw [if_neg hu]
      have : ¬ v = u := fun e => hu e.symm
      simp [this]
theorem sw_self (v x : Nat) : sw v (x.testBit v) x = x := by
  unfold sw
  rw [if_pos rfl]
theorem nat_ext {x y : Nat} (h : ∀ u, x.testBit u = y.testBit u) : x = y := Nat.eq_of_testBit_eq h
theorem sw_sw (v : Nat) (a b : Bool) (x : Nat) : sw v b (sw v a x) = sw v b x := by
  apply nat_ext
  intro u
  rw [sw_bit, sw_bit, sw_bit]
  by_cases h : u = v
  · rw [if_pos h, if_pos h]
  · rw [if_neg h, if_neg h, if_neg h]
theorem sw_comm {u v : Nat} (h : u ≠ v) (a b : Bool) (x : Nat) : sw u a (sw v b x) = sw v b (sw u a x) := by
  apply nat_ext
  intro w
  rw [sw_bit, sw_bit, sw_bit, sw_bit]
  by_cases h1 : w = u
  · have h2 : ¬ w = v := fun e => h (h1.symm.trans e)
    rw [if_pos h1, if_neg h2, if_pos h1]
  · by_cases h2 : w = v
    · rw [if_neg h1, if_pos h2, if_pos h2]
    · rw [if_neg h1, if_neg h2, if_neg h2, if_neg h1]
theorem co_co (v : Nat) (a b : Bool) (f : Fn) : co v a (co v b f) = co v b f := by
  funext x
  unfold co
  rw [sw_sw]
theorem co_comm {u v : Nat} (h : u ≠ v) (a b : Bool) (f : Fn) : co u a (co v b f) = co v b (co u a f) := by
  funext x
  unfold co
  rw [sw_comm (Ne.symm h)]
theorem mux_co (v : Nat) (f : Fn) : mux v (co v false f) (co v true f) = f := by
  funext x
  unfold mux co
  cases h : x.testBit v
  · have := sw_self v x
    rw [h] at this
    simp [this]
  · have := sw_self v x
    rw [h] at this
    simp [this]
theorem co_mux (v : Nat) (b : Bool) (f g : Fn) : co v b (mux v f g) = co v b (if b then g else f) := by
  funext x
  unfold co mux
  rw [sw_bit, if_pos rfl]
  cases b <;> rfl
theorem co_mux_ne {u v : Nat} (h : u ≠ v) (a : Bool) (f g : Fn) : co u a (mux v f g) = mux v (co u a f) (co u a g) := by
  funext x
  unfold co mux
  rw [sw_bit, if_neg (Ne.symm h)]
theorem indep_cst (b : Bool) (v : Nat) : indep (cst b) v := fun _ => rfl
theorem co_mux_of {v : Nat} {b : Bool} {f g : Fn} (hf : indep f v) (hg : indep g v) : co v b (mux v f g) = if b then g else f := by
  rw [co_mux]
  cases b
  · exact hf false
  · exact hg true
theorem indep_mux {u v : Nat} (h : u ≠ v) {f g : Fn} (hf : indep f u) (hg : indep g u) : indep (mux v f g) u := by
  intro a
  rw [co_mux_ne h, hf a, hg a]
theorem indep_of_eq {f : Fn} {v : Nat} (h : co v false f = co v true f) : indep f v := by
  have key : ∀ b, co v b f = co v true f := fun b => by cases b <;> simp [h]
  have h3 : mux v (co v true f) (co v true f) = co v true f := by
    funext x
    unfold mux
    split <;> rfl
  have hf : f = co v true f := by
    have := mux_co v f
    rw [h, h3] at this
    exact this.symm
  intro b
  rw [key b, ← hf]
theorem indep_co (v : Nat) (b : Bool) (f : Fn) : indep (co v b f) v := fun a => co_co v a b f
theorem indep_co_of {u v : Nat} {b : Bool} {f : Fn} (h : indep f u) : indep (co v b f) u := by
  by_cases e : u = v
  · subst e
    exact indep_co u b f
  · intro a
    rw [co_comm e, h a]
theorem mux_inj {v : Nat} {f g f' g' : Fn} (hf : indep f v) (hg : indep g v) (hf' : indep f' v) (hg' : indep g' v) (e : mux v f g = mux v f' g') : f = f' ∧ g = g' := by
  have h0 := congrArg (co v false) e
  have h1 := congrArg (co v true) e
  rw [co_mux_of hf hg, co_mux_of hf' hg'] at h0 h1
  exact ⟨by simpa using h0, by simpa using h1⟩
theorem cst_ne : cst false ≠ cst true := fun e => by
  have := congrFun e 0
  cases this
/-! counting -/
def cnt : Nat → (Nat → Bool) → Nat
  | 0, _ => 0
  | n + 1, p => cnt n p + (if p n then 1 else 0)
theorem cnt_congr {N : Nat} {p q : Nat → Bool} (h : ∀ i, i < N → p i = q i) : cnt N p = cnt N q := by
  induction N with
  | zero => rfl
  | succ N ih =>
    unfold cnt
    rw [ih (fun i hi => h i (by omega)), h N (by omega)]
theorem cnt_le (N : Nat) (p : Nat → Bool) : cnt N p ≤ N := by
  induction N with
  | zero => exact Nat.le_refl 0
  | succ N ih =>
    unfold cnt
    split <;> omega
theorem cnt_mono {N : Nat} {p q : Nat → Bool} (h : ∀ i, i < N → p i = true → q i = true) : cnt N p ≤ cnt N q := by
  induction N with
  | zero => exact Nat.le_refl 0
  | succ N ih =>
    have h1 := ih (fun i hi => h i (by omega))
    have h2 := h N (by omega)
    unfold cnt
    cases hp : p N
    · simp only [Bool.false_eq_true, if_false]
      omega
    · rw [h2 hp]
      simp only [if_true]
      omega
theorem cnt_add {N i : Nat} {p q : Nat → Bool} (hi : i < N) (hp : p i = false) (hq : q i = true) (h : ∀ j, j < N → j ≠ i → p j = q j) : cnt N q = cnt N p + 1 := by
  induction N with
  | zero => omega
  | succ N ih =>
    unfold cnt
    by_cases e : i = N
    · subst e
      rw [cnt_congr (p := p) (q := q) (fun j hj => h j (by omega) (by omega)), hp, hq]
      simp
    · rw [ih (by omega) (fun j hj hne => h j (by omega) hne), h N (by omega) (fun z => e z.symm)]
      omega
theorem cnt_pos {N i : Nat} {p : Nat → Bool} (hi : i < N) (hp : p i = true) : 0 < cnt N p := by
  induction N with
  | zero => omega
  | succ N ih =>
    unfold cnt
    by_cases e : i = N
    · subst e
      rw [hp]
      simp
    · have := ih (by omega)
      omega
theorem cnt_ex {N : Nat} {p : Nat → Bool} (h : 0 < cnt N p) : ∃ i, i < N ∧ p i = true := by
  induction N with
  | zero => simp [cnt] at h
  | succ N ih =>
    unfold cnt at h
    cases hp : p N
    · rw [hp] at h
      simp at h
      obtain ⟨i, h1, h2⟩ := ih h
      exact ⟨i, by omega, h2⟩
    · exact ⟨N, by omega, hp⟩
theorem cnt_zero {N : Nat} {p : Nat → Bool} (h : ∀ i, i < N → p i = false) : cnt N p = 0 := by
  rcases Nat.eq_zero_or_pos (cnt N p) with e | e
  · exact e
  · obtain ⟨i, h1, h2⟩ := cnt_ex e
    rw [h i h1] at h2
    cases h2
theorem cnt_filter (N : Nat) (p : Nat → Bool) : ((List.range N).filter p).length = cnt N p := by
  induction N with
  | zero => rfl
  | succ N ih =>
    rw [List.range_succ, List.filter_append, List.length_append, ih]
    show _ = cnt N p + (if p N then 1 else 0)
    cases hp : p N <;> simp [hp]
theorem cnt_split (N : Nat) (p q : Nat → Bool) : cnt N p = cnt N (fun i => p i && q i) + cnt N (fun i => p i && !q i) := by
  induction N with
  | zero => rfl
  | succ N ih =>
    have key : ∀ a b : Bool, (if a = true then 1 else 0 : Nat) = (if (a && b) = true then 1 else 0) + (if (a && !b) = true then 1 else 0) := by decide
    have := key (p N) (q N)
    simp only [cnt]
    omega
/-! how many different things stand in a list -/
noncomputable def dcount {α : Type} : List α → Nat
  | [] => 0
  | a :: l => @ite Nat (a ∈ l) (Classical.propDecidable _) (dcount l) (dcount l + 1)
theorem dcount_le {α : Type} : ∀ l : List α, dcount l ≤ l.length
  | [] => Nat.le_refl 0
  | a :: l => by
    have := dcount_le l
    unfold dcount
    by_cases h : a ∈ l
    · rw [if_pos h]
      simp only [List.length_cons]
      omega
    · rw [if_neg h]
      simp only [List.length_cons]
      omega
/-- a list without doubles that stands for all of another's members, one by one -/
theorem dcount_rep {α β : Type} (f : β → α) : ∀ (l : List α), ∃ l' : List α, l'.Nodup ∧ (∀ a, a ∈ l' ↔ a ∈ l) ∧ l'.length = dcount l
  | [] => ⟨[], List.nodup_nil, fun _ => Iff.rfl, rfl⟩
  | a :: l => by
    obtain ⟨l', h1, h2, h3⟩ := dcount_rep f l
    by_cases h : a ∈ l
    · refine ⟨l', h1, fun x => ?_, by unfold dcount; rw [if_pos h, h3]⟩
      rw [h2, List.mem_cons]
      constructor
      · exact Or.inr
      · rintro (rfl | hx)
        · exact h
        · exact hx
    · refine ⟨a :: l', List.nodup_cons.mpr ⟨fun z => h ((h2 a).mp z), h1⟩, fun x => by rw [List.mem_cons, List.mem_cons, h2], ?_⟩
      unfold dcount
      rw [if_neg h, List.length_cons, h3]
theorem nodup_le {α : Type} : ∀ {l m : List α}, l.Nodup → (∀ a, a ∈ l → a ∈ m) → l.length ≤ m.length
  | [], _, _, _ => Nat.zero_le _
  | a :: l, m, hl, h => by
    obtain ⟨h1, h2⟩ := List.nodup_cons.mp hl
    obtain ⟨s, t, rfl⟩ := List.append_of_mem (h a List.mem_cons_self)
    have : l.length ≤ (s ++ t).length := nodup_le h2 (fun b hb => by
      have hb' := h b (List.mem_cons_of_mem _ hb)
      rcases List.mem_append.mp hb' with q | q
      · exact List.mem_append_left _ q
      · rcases List.mem_cons.mp q with rfl | q
        · exact absurd hb h1
        · exact List.mem_append_right _ q)
    simp only [List.length_append, List.length_cons] at this ⊢
    omega
theorem nodup_map {α β : Type} {f : α → β} : ∀ {l : List α}, l.Nodup → (∀ a b, a ∈ l → b ∈ l → f a = f b → a = b) → (l.map f).Nodup
  | [], _, _ => List.nodup_nil
  | a :: l, hl, h => by
    obtain ⟨h1, h2⟩ := List.nodup_cons.mp hl
    rw [List.map_cons]
    refine List.nodup_cons.mpr ⟨fun z => ?_, nodup_map h2 (fun x y hx hy e => h x y (List.mem_cons_of_mem _ hx) (List.mem_cons_of_mem _ hy) e)⟩
    obtain ⟨b, hb, e⟩ := List.mem_map.mp z
    have := h b a (List.mem_cons_of_mem _ hb) List.mem_cons_self e
    subst this
    exact h1 hb
theorem dcount_eq {α β : Type} {f : β → α} {l : List β} {m : List α} (hl : l.Nodup) (hi : ∀ a b, a ∈ l → b ∈ l → f a = f b → a = b) (h : ∀ g, g ∈ m ↔ ∃ n, n ∈ l ∧ f n = g) : dcount m = l.length := by
  obtain ⟨m', h1, h2, h3⟩ := dcount_rep (fun x : α => x) m
  have hm : (l.map f).Nodup := nodup_map hl hi
  have e1 : (l.map f).length ≤ m'.length := nodup_le hm (fun a ha => (h2 a).mpr ((h a).mpr (by
    obtain ⟨b, hb, e⟩ := List.mem_map.mp ha
    exact ⟨b, hb, e⟩)))
  have e2 : m'.length ≤ (l.map f).length := nodup_le h1 (fun a ha => by
    obtain ⟨n, hn, e⟩ := (h a).mp ((h2 a).mp ha)
    exact List.mem_map.mpr ⟨n, hn, e⟩)
  rw [List.length_map] at e1 e2
  omega
theorem dcount_mono {α : Type} {l m : List α} (h : ∀ a, a ∈ l → a ∈ m) : dcount l ≤ dcount m := by
  obtain ⟨l', h1, h2, h3⟩ := dcount_rep (fun x : α => x) l
  obtain ⟨m', g1, g2, g3⟩ := dcount_rep (fun x : α => x) m
  rw [← h3, ← g3]
  exact nodup_le h1 (fun a ha => (g2 a).mpr (h a ((h2 a).mp ha)))
theorem range_nodup (N : Nat) : (List.range N).Nodup := List.nodup_range
