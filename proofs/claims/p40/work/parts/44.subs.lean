/-! THE SUBSETS of a set, in the order in which they are walked -/
def subs (s : Nat) : Nat → List Nat
  | 0 => [0]
  | k + 1 => if s.testBit k then subs s k ++ (subs s k).map (fun x => x + 2 ^ k) else subs s k
theorem add_bit {y k : Nat} (hy : y < 2 ^ k) (v : Nat) : (y + 2 ^ k).testBit v = (decide (v = k) || y.testBit v) := by
  have h := Nat.two_pow_add_eq_or_of_lt hy 1
  rw [Nat.mul_one] at h
  rw [Nat.add_comm, h, Nat.testBit_or, Nat.testBit_two_pow]
  have : decide (k = v) = decide (v = k) := by rw [decide_eq_decide]; exact eq_comm
  rw [this]
theorem mem_subs {s : Nat} : ∀ {k x : Nat}, x ∈ subs s k ↔ x < 2 ^ k ∧ ∀ v, x.testBit v = true → s.testBit v = true
  | 0, x => by
    show x ∈ [0] ↔ _
    rw [List.mem_singleton]
    constructor
    · rintro rfl
      exact ⟨by decide, fun v hv => by rw [Nat.zero_testBit] at hv; cases hv⟩
    · intro h
      have : x < 1 := h.1
      omega
  | k + 1, x => by
    have ih := fun x => @mem_subs s k x
    have hp : 2 ^ (k + 1) = 2 ^ k * 2 := Nat.pow_succ ..
    show x ∈ (if s.testBit k = true then subs s k ++ (subs s k).map (fun x => x + 2 ^ k) else subs s k) ↔ _
    by_cases q : s.testBit k = true
    · rw [if_pos q, List.mem_append, List.mem_map, ih]
      constructor
      · rintro (h | ⟨y, h1, rfl⟩)
        · exact ⟨by omega, h.2⟩
        · rw [ih] at h1
          refine ⟨by omega, fun v hv => ?_⟩
          rw [add_bit h1.1] at hv
          by_cases e : v = k
          · rw [e]; exact q
          · rw [decide_eq_false e, Bool.false_or] at hv
            exact h1.2 v hv
      · rintro ⟨h1, h2⟩
        by_cases hx : x < 2 ^ k
        · exact Or.inl ⟨hx, h2⟩
        · refine Or.inr ⟨x - 2 ^ k, ?_, by omega⟩
          rw [ih]
          refine ⟨by omega, fun v hv => h2 v ?_⟩
          have := add_bit (show x - 2 ^ k < 2 ^ k by omega) v
          rw [show x - 2 ^ k + 2 ^ k = x by omega] at this
          rw [this, hv, Bool.or_true]
    · rw [if_neg q, ih]
      constructor
      · intro h; exact ⟨by omega, h.2⟩
      · rintro ⟨h1, h2⟩
        refine ⟨?_, h2⟩
        refine Nat.lt_of_not_le (fun hle => q (h2 k ?_))
        have := add_bit (show x - 2 ^ k < 2 ^ k by omega) k
        rw [show x - 2 ^ k + 2 ^ k = x by omega] at this
        rw [this]
        simp
theorem subs_nodup (s : Nat) : ∀ k, (subs s k).Nodup
  | 0 => by show [0].Nodup; exact List.nodup_cons.mpr ⟨List.not_mem_nil, List.nodup_nil⟩
  | k + 1 => by
    have ih := subs_nodup s k
    show (if s.testBit k = true then subs s k ++ (subs s k).map (fun x => x + 2 ^ k) else subs s k).Nodup
    split
    · refine List.nodup_append.mpr ⟨ih, nodup_map ih (fun a b _ _ e => by omega), fun a ha b hb => ?_⟩
      obtain ⟨y, h1, rfl⟩ := List.mem_map.mp hb
      have := (mem_subs.mp ha).1
      omega
    · exact ih
/-- the walk's step and the count, as ints -/
def chn (s : Nat) : List Nat → Bool
  | [] => true
  | [_] => true
  | x :: y :: t => decide (((nI x - nI s) &&& nI s) = nI y) && chn s (y :: t)
def bcI (x0 : Int32) : Int32 :=
  let a := x0 - ((iush x0 (1 : Int32)) &&& (1431655765 : Int32))
  let b := (a &&& (858993459 : Int32)) + ((iush a (2 : Int32)) &&& (858993459 : Int32))
  let c := (b + (iush b (4 : Int32))) &&& (252645135 : Int32)
  let d := c + (iush c (8 : Int32))
  (d + (iush d (16 : Int32))) &&& (63 : Int32)
theorem bitCount_bc (st : St) (x : Int32) : sJ6_bitCount_0f7a4 st x = some (bcI x) := rfl
def chkS (s : Nat) : Bool := chn s (subs s 10) && decide ((1 : Int32) <<< (bcI (nI s) &&& 31) = nI (subs s 10).length)
theorem chkS_all : ∀ s, s < 1024 → chkS s = true := by decide +kernel
theorem bit10 : ∀ v, v < 10 → (1 : Int32) <<< (nI v &&& 31) = nI (2 ^ v) := by decide +kernel
