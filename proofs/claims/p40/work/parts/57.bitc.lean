/-! BITS of a long, counted byte by byte -/
def vb : List Nat → Nat
  | [] => 0
  | b :: t => b + 256 * vb t
theorem by_bit {a m : Nat} (ha : a < 256) (u : Nat) : (a + 256 * m).testBit u = if u < 8 then a.testBit u else m.testBit (u - 8) := by
  rw [show a + 256 * m = 2 ^ 8 * m + a by omega]
  exact Nat.testBit_two_pow_mul_add m (show a < 2 ^ 8 from ha) u
theorem land_lt {a c : Nat} (ha : a < 256) : a &&& c < 256 := Nat.lt_of_le_of_lt Nat.and_le_left ha
theorem land_by {a c m d : Nat} (ha : a < 256) (hc : c < 256) : (a + 256 * m) &&& (c + 256 * d) = (a &&& c) + 256 * (m &&& d) := by
  refine nat_ext (fun u => ?_)
  rw [Nat.testBit_and, by_bit ha, by_bit hc, by_bit (land_lt ha)]
  by_cases q : u < 8
  · rw [if_pos q, if_pos q, if_pos q, Nat.testBit_and]
  · rw [if_neg q, if_neg q, if_neg q, Nat.testBit_and]
def rp (c : Nat) : Nat → Nat
  | 0 => 0
  | k + 1 => c + 256 * rp c k
def p1 (b : Nat) : Nat := b - (b / 2 &&& 85)
def p2 (b : Nat) : Nat := (b &&& 51) + (b / 4 &&& 51)
def p3 (b : Nat) : Nat := (b + b / 16) &&& 15
def pc8 (b : Nat) : Nat := cnt 8 (fun j => b.testBit j)
theorem pc_b : ∀ b, b < 256 → p1 b < 256 ∧ p2 (p1 b) < 256 ∧ p2 (p1 b) % 16 ≤ 4 ∧ p2 (p1 b) / 16 ≤ 4 ∧ p3 (p2 (p1 b)) = pc8 b ∧ (b / 2 &&& 85) ≤ b := by decide +kernel
theorem m1 : ∀ b, b < 256 → ∀ e, e < 2 → (b / 2 + 128 * e) &&& 85 = b / 2 &&& 85 := by decide +kernel
theorem m2 : ∀ b, b < 256 → ∀ e, e < 4 → (b / 4 + 64 * e) &&& 51 = b / 4 &&& 51 := by decide +kernel
theorem m3 : ∀ b, b < 256 → ∀ e, e ≤ 4 → b % 16 ≤ 4 → b / 16 ≤ 4 → (b + b / 16 + 16 * e) &&& 15 = p3 b := by decide +kernel
theorem st1 : ∀ l : List Nat, (∀ b, b ∈ l → b < 256) → vb l - (vb l / 2 &&& rp 85 l.length) = vb (l.map p1) ∧ (vb l / 2 &&& rp 85 l.length) ≤ vb l
  | [], _ => ⟨rfl, Nat.le_refl _⟩
  | b :: t, h => by
    have hb := h b List.mem_cons_self
    obtain ⟨i1, i2⟩ := st1 t (fun x hx => h x (List.mem_cons_of_mem _ hx))
    have hp := (pc_b b hb).2.2.2.2.2
    have e : (b + 256 * vb t) / 2 &&& (85 + 256 * rp 85 t.length) = (b / 2 &&& 85) + 256 * (vb t / 2 &&& rp 85 t.length) := by
      rw [show (b + 256 * vb t) / 2 = (b / 2 + 128 * (vb t % 2)) + 256 * (vb t / 2) by omega, land_by (by omega) (by omega), m1 b hb _ (Nat.mod_lt _ (by omega))]
    show (b + 256 * vb t) - ((b + 256 * vb t) / 2 &&& (85 + 256 * rp 85 t.length)) = p1 b + 256 * vb (t.map p1) ∧ ((b + 256 * vb t) / 2 &&& (85 + 256 * rp 85 t.length)) ≤ b + 256 * vb t
    rw [e, ← i1]
    unfold p1
    omega
theorem st2 : ∀ l : List Nat, (∀ b, b ∈ l → b < 256) → (vb l &&& rp 51 l.length) + (vb l / 4 &&& rp 51 l.length) = vb (l.map p2)
  | [], _ => rfl
  | b :: t, h => by
    have hb := h b List.mem_cons_self
    have i1 := st2 t (fun x hx => h x (List.mem_cons_of_mem _ hx))
    have e : (b + 256 * vb t) / 4 &&& (51 + 256 * rp 51 t.length) = (b / 4 &&& 51) + 256 * (vb t / 4 &&& rp 51 t.length) := by
      rw [show (b + 256 * vb t) / 4 = (b / 4 + 64 * (vb t % 4)) + 256 * (vb t / 4) by omega, land_by (by omega) (by omega), m2 b hb _ (Nat.mod_lt _ (by omega))]
    show ((b + 256 * vb t) &&& (51 + 256 * rp 51 t.length)) + ((b + 256 * vb t) / 4 &&& (51 + 256 * rp 51 t.length)) = p2 b + 256 * vb (t.map p2)
    rw [e, land_by hb (by omega), ← i1]
    unfold p2
    omega
theorem vb_mod : ∀ l : List Nat, (∀ b, b ∈ l → b < 256 ∧ b % 16 ≤ 4 ∧ b / 16 ≤ 4) → vb l % 16 ≤ 4
  | [], _ => by decide
  | b :: t, h => by
    have hb := h b List.mem_cons_self
    show (b + 256 * vb t) % 16 ≤ 4
    omega
theorem st3 : ∀ l : List Nat, (∀ b, b ∈ l → b < 256 ∧ b % 16 ≤ 4 ∧ b / 16 ≤ 4) → (vb l + vb l / 16) &&& rp 15 l.length = vb (l.map p3)
  | [], _ => rfl
  | b :: t, h => by
    obtain ⟨hb, h4, h5⟩ := h b List.mem_cons_self
    have i1 := st3 t (fun x hx => h x (List.mem_cons_of_mem _ hx))
    have hm := vb_mod t (fun x hx => h x (List.mem_cons_of_mem _ hx))
    show ((b + 256 * vb t) + (b + 256 * vb t) / 16) &&& (15 + 256 * rp 15 t.length) = p3 b + 256 * vb (t.map p3)
    rw [show (b + 256 * vb t) + (b + 256 * vb t) / 16 = (b + b / 16 + 16 * (vb t % 16)) + 256 * (vb t + vb t / 16) by omega, land_by (by omega) (by omega), m3 b hb _ hm h4 h5, i1]
