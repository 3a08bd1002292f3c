/-! BITS of a long: the last steps; the whole count; counts of a table -/
theorem b_d {x y n : Nat} (e : n = x + 256 * y) (h : x < 256) : n / 256 = y := by omega
theorem b_s {x x' y y' a b : Nat} (e : x = a + 256 * x') (f : y = b + 256 * y') : x + y = (a + b) + 256 * (x' + y') := by omega
theorem b_fin {x y X Y : Nat} (h : x + y ≤ 64) : ((x + 256 * X) + (y + 256 * Y)) % 128 = x + y := by omega
theorem d65 (n : Nat) : n / 65536 = n / 256 / 256 := by omega
theorem d42 (n : Nat) : n / 4294967296 = n / 256 / 256 / 256 / 256 := by omega
theorem q8 {a b : Nat} (ha : a ≤ 8) (hb : b ≤ 8) : a + b ≤ 16 := by omega
theorem q16 {a b : Nat} (ha : a ≤ 16) (hb : b ≤ 16) : a + b ≤ 32 := by omega
theorem q32 {a b : Nat} (ha : a ≤ 32) (hb : b ≤ 32) : a + b ≤ 64 := by omega
theorem l256 {a : Nat} (ha : a ≤ 64) : a < 256 := by omega
theorem l64 {a : Nat} (ha : a ≤ 32) : a ≤ 64 := by omega
theorem l32 {a : Nat} (ha : a ≤ 16) : a ≤ 32 := by omega
theorem l16 {a : Nat} (ha : a ≤ 8) : a ≤ 16 := by omega
theorem st4 {a b c d e f g h n0 n1 n2 n3 n4 n5 n6 n7 n8 : Nat} (ha : a ≤ 8) (hb : b ≤ 8) (hc : c ≤ 8) (hd : d ≤ 8) (he : e ≤ 8) (hf : f ≤ 8) (hg : g ≤ 8) (hh : h ≤ 8)
    (e0 : n0 = a + 256 * n1) (e1 : n1 = b + 256 * n2) (e2 : n2 = c + 256 * n3) (e3 : n3 = d + 256 * n4) (e4 : n4 = e + 256 * n5) (e5 : n5 = f + 256 * n6) (e6 : n6 = g + 256 * n7) (e7 : n7 = h + 256 * n8) :
    (n0 + n0 / 256 + (n0 + n0 / 256) / 65536 + (n0 + n0 / 256 + (n0 + n0 / 256) / 65536) / 4294967296) % 128 = a + b + (c + d) + (e + f + (g + h)) := by
  have s0 := b_s e0 e1
  have s1 := b_s e1 e2
  have s2 := b_s e2 e3
  have s3 := b_s e3 e4
  have s4 := b_s e4 e5
  have s5 := b_s e5 e6
  have s6 := b_s e6 e7
  have t0 := b_s s0 s2
  have t1 := b_s s1 s3
  have t2 := b_s s2 s4
  have t3 := b_s s3 s5
  have t4 := b_s s4 s6
  have hab := q8 ha hb
  have hbc := q8 hb hc
  have hcd := q8 hc hd
  have hde := q8 hd he
  have hef := q8 he hf
  have hfg := q8 hf hg
  have hgh := q8 hg hh
  have habcd := q16 hab hcd
  have hbcde := q16 hbc hde
  have hcdef := q16 hcd hef
  have hdefg := q16 hde hfg
  have hefgh := q16 hef hgh
  have c0 : n0 / 256 = n1 := b_d e0 (l256 (l64 (l32 (l16 ha))))
  have c1 : (n0 + n1) / 65536 = n2 + n3 := by
    rw [d65, b_d s0 (l256 (l64 (l32 hab))), b_d s1 (l256 (l64 (l32 hbc)))]
  have c2 : (n0 + n1 + (n2 + n3)) / 4294967296 = n4 + n5 + (n6 + n7) := by
    rw [d42, b_d t0 (l256 (l64 habcd)), b_d t1 (l256 (l64 hbcde)), b_d t2 (l256 (l64 hcdef)), b_d t3 (l256 (l64 hdefg))]
  rw [c0, c1, c2, t0, t4]
  exact b_fin (q32 habcd hefgh)
def bys : Nat → Nat → List Nat
  | 0, _ => []
  | k + 1, n => (n % 256) :: bys k (n / 256)
def sm : List Nat → Nat
  | [] => 0
  | a :: t => a + sm t
theorem bys_len : ∀ k n, (bys k n).length = k
  | 0, _ => rfl
  | k + 1, n => by
    show (bys k (n / 256)).length + 1 = k + 1
    rw [bys_len k]
theorem bys_lt : ∀ k n b, b ∈ bys k n → b < 256
  | 0, _, b, h => absurd h List.not_mem_nil
  | k + 1, n, b, h => by
    rcases List.mem_cons.mp h with z | z
    · rw [z]; exact Nat.mod_lt _ (by decide)
    · exact bys_lt k _ b z
theorem vb_bys : ∀ k n, n < 256 ^ k → vb (bys k n) = n
  | 0, n, h => by
    have : n < 1 := h
    show 0 = n
    omega
  | k + 1, n, h => by
    have h2 : n / 256 < 256 ^ k := Nat.div_lt_of_lt_mul (by rw [Nat.mul_comm, ← Nat.pow_succ]; exact h)
    show n % 256 + 256 * vb (bys k (n / 256)) = n
    rw [vb_bys k _ h2]
    omega
theorem cnt_app (f : Nat → Bool) (a : Nat) : ∀ b, cnt (a + b) f = cnt a f + cnt b (fun j => f (a + j))
  | 0 => rfl
  | b + 1 => by
    show cnt (a + b) f + (if f (a + b) then 1 else 0) = cnt a f + (cnt b (fun j => f (a + j)) + (if f (a + b) then 1 else 0))
    rw [cnt_app f a b]
    omega
theorem cnt_bys : ∀ k n, cnt (8 * k) (fun j => n.testBit j) = sm ((bys k n).map pc8)
  | 0, _ => rfl
  | k + 1, n => by
    have hn : n = n % 256 + 256 * (n / 256) := by omega
    have hl : n % 256 < 256 := Nat.mod_lt _ (by decide)
    rw [show 8 * (k + 1) = 8 + 8 * k by omega, cnt_app]
    show _ = pc8 (n % 256) + sm ((bys k (n / 256)).map pc8)
    rw [← cnt_bys k (n / 256)]
    congr 1
    · unfold pc8
      refine cnt_congr (fun j hj => ?_)
      rw [hn, by_bit hl, if_pos hj]
      congr 1
      omega
    · refine cnt_congr (fun j _ => ?_)
      rw [hn, by_bit hl, if_neg (by omega)]
      congr 1 <;> omega
theorem vb_cc (c : Nat) : ∀ l : List Nat, (∀ b, b ∈ l → c * b ≤ 255) → c * vb l < 256 ^ l.length
  | [], _ => by
    show c * 0 < 1
    omega
  | b :: t, h => by
    have ih := vb_cc c t (fun x hx => h x (List.mem_cons_of_mem _ hx))
    have hb := h b List.mem_cons_self
    show c * (b + 256 * vb t) < 256 ^ (t.length + 1)
    rw [Nat.mul_add, Nat.mul_left_comm, Nat.pow_succ]
    omega
theorem un_sub {a b : Int64} (h : un b ≤ un a) : un (a - b) = un a - un b := by
  show (a.toBitVec - b.toBitVec).toNat = _
  exact BitVec.toNat_sub_of_le (BitVec.le_def.mpr h)
theorem p264 : (18446744073709551616 : Nat) = 2 ^ 64 := by decide
theorem un_add {a b : Int64} (h : un a + un b < 18446744073709551616) : un (a + b) = un a + un b := by
  show (a.toBitVec + b.toBitVec).toNat = _
  rw [BitVec.toNat_add, ← p264]
  exact Nat.mod_eq_of_lt h
theorem un_and (a b : Int64) : un (a &&& b) = un a &&& un b := by
  unfold un
  rw [Int64.toBitVec_and, BitVec.toNat_and]
theorem un_sh {x : Int64} {k : Nat} (h : k < 64) : un (lush x (nI k)) = un x / 2 ^ k := by
  rw [un_lush h, Nat.shiftRight_eq_div_pow]
theorem lu1 (x : Int64) : un (lush x (1 : Int32)) = un x / 2 := by
  rw [n_1, un_sh (by omega)]
theorem c_4 : (4 : Int32) = nI 4 := by decide +kernel
theorem c_8 : (8 : Int32) = nI 8 := by decide +kernel
theorem c_32 : (32 : Int32) = nI 32 := by decide +kernel
theorem lu2 (x : Int64) : un (lush x (2 : Int32)) = un x / 4 := by
  rw [n_2, un_sh (by omega)]
theorem lu4 (x : Int64) : un (lush x (4 : Int32)) = un x / 16 := by
  rw [c_4, un_sh (by omega)]
theorem lu8 (x : Int64) : un (lush x (8 : Int32)) = un x / 256 := by
  rw [c_8, un_sh (by omega)]
theorem lu16 (x : Int64) : un (lush x (16 : Int32)) = un x / 65536 := by
  rw [n_16, un_sh (by omega)]
theorem lu32 (x : Int64) : un (lush x (32 : Int32)) = un x / 4294967296 := by
  rw [c_32, un_sh (by omega)]
theorem m55 : un (6148914691236517205 : Int64) = rp 85 8 := by decide +kernel
theorem m33 : un (3689348814741910323 : Int64) = rp 51 8 := by decide +kernel
theorem m0f : un (1085102592571150095 : Int64) = rp 15 8 := by decide +kernel
theorem p256 : (256 : Nat) ^ 8 = 18446744073709551616 := by decide +kernel
theorem to32 (x : Int64) : x.toInt32 &&& (127 : Int32) = nI (un x % 128) := by
  apply Int32.toBitVec_inj.mp
  show (x.toBitVec.signExtend 32) &&& 127#32 = BitVec.ofNat 32 (un x % 128)
  rw [BitVec.signExtend_eq_setWidth_of_le _ (by decide)]
  apply BitVec.eq_of_toNat_eq
  rw [BitVec.toNat_and, BitVec.toNat_setWidth, BitVec.toNat_ofNat]
  show (un x % 2 ^ 32) &&& (2 ^ 7 - 1) = un x % 128 % 2 ^ 32
  rw [Nat.and_two_pow_sub_one_eq_mod]
  omega
theorem len_s {l : List Nat} {k : Nat} (h : l.length = k + 1) : ∃ a t, l = a :: t ∧ t.length = k := by
  cases l with
  | nil => simp at h
  | cons a t => exact ⟨a, t, rfl, by simpa using h⟩
theorem len_0 {l : List Nat} (h : l.length = 0) : l = [] := List.length_eq_zero_iff.mp h
theorem last_ok {l : List Nat} (hl : l.length = 8) (h : ∀ b, b ∈ l → b ≤ 8) {n : Nat} (hn : n = vb l) :
    (n + n / 256 + (n + n / 256) / 65536 + (n + n / 256 + (n + n / 256) / 65536) / 4294967296) % 128 = sm l := by
  obtain ⟨a0, l1, rfl, h1⟩ := len_s hl
  obtain ⟨a1, l2, rfl, h2⟩ := len_s h1
  obtain ⟨a2, l3, rfl, h3⟩ := len_s h2
  obtain ⟨a3, l4, rfl, h4⟩ := len_s h3
  obtain ⟨a4, l5, rfl, h5⟩ := len_s h4
  obtain ⟨a5, l6, rfl, h6⟩ := len_s h5
  obtain ⟨a6, l7, rfl, h7⟩ := len_s h6
  obtain ⟨a7, l8, rfl, h8⟩ := len_s h7
  obtain rfl := len_0 h8
  have g : ∀ b, b ∈ [a0, a1, a2, a3, a4, a5, a6, a7] → b ≤ 8 := h
  have k := st4 (g a0 (by simp)) (g a1 (by simp)) (g a2 (by simp)) (g a3 (by simp)) (g a4 (by simp)) (g a5 (by simp)) (g a6 (by simp)) (g a7 (by simp))
    (n0 := n) (n1 := vb [a1, a2, a3, a4, a5, a6, a7]) (n2 := vb [a2, a3, a4, a5, a6, a7]) (n3 := vb [a3, a4, a5, a6, a7]) (n4 := vb [a4, a5, a6, a7]) (n5 := vb [a5, a6, a7]) (n6 := vb [a6, a7]) (n7 := vb [a7]) (n8 := 0) hn rfl rfl rfl rfl rfl rfl rfl
  rw [k]
  show a0 + a1 + (a2 + a3) + (a4 + a5 + (a6 + a7)) = a0 + (a1 + (a2 + (a3 + (a4 + (a5 + (a6 + (a7 + 0)))))))
  clear k g h hn
  omega
theorem bitCount_64 (st : St) (x : Int64) : sJ13_bitCount_95d88 st x = some (nI (cnt 64 (bt x))) := by
  obtain ⟨l, hl, hlen, hb, hc⟩ : ∃ l : List Nat, vb l = un x ∧ l.length = 8 ∧ (∀ b, b ∈ l → b < 256) ∧ sm (l.map pc8) = cnt 64 (bt x) :=
    ⟨bys 8 (un x), vb_bys 8 _ (by rw [p256]; exact un_lt x), bys_len 8 _, bys_lt 8 _, (cnt_bys 8 (un x)).symm⟩
  have b1 : ∀ b, b ∈ l.map p1 → b < 256 := fun b hb' => by
    obtain ⟨a, ha, rfl⟩ := List.mem_map.mp hb'
    exact (pc_b a (hb a ha)).1
  have b2 : ∀ b, b ∈ (l.map p1).map p2 → b < 256 ∧ b % 16 ≤ 4 ∧ b / 16 ≤ 4 := fun b hb' => by
    obtain ⟨a', ha', rfl⟩ := List.mem_map.mp hb'
    obtain ⟨a, ha, rfl⟩ := List.mem_map.mp ha'
    have := pc_b a (hb a ha)
    exact ⟨this.2.1, this.2.2.1, this.2.2.2.1⟩
  have b3 : ((l.map p1).map p2).map p3 = l.map pc8 := by
    rw [List.map_map, List.map_map]
    exact List.map_congr_left (fun a ha => (pc_b a (hb a ha)).2.2.2.2.1)
  have b4 : ∀ b, b ∈ l.map pc8 → b ≤ 8 := fun b hb' => by
    obtain ⟨a, ha, rfl⟩ := List.mem_map.mp hb'
    exact cnt_le 8 _
  have len1 : (l.map p1).length = 8 := by rw [List.length_map]; exact hlen
  have len2 : ((l.map p1).map p2).length = 8 := by rw [List.length_map]; exact len1
  have len4 : (l.map pc8).length = 8 := by rw [List.length_map]; exact hlen
  unfold sJ13_bitCount_95d88
  rw [lt_e]
  generalize e1 : x - (lush x (1 : Int32) &&& (6148914691236517205 : Int64)) = x1
  have u1 : un x1 = vb (l.map p1) := by
    obtain ⟨i1, i2⟩ := st1 l hb
    rw [hl, hlen] at i1 i2
    rw [← e1, un_sub (by rw [un_and, m55, lu1]; exact i2), un_and, m55, lu1]
    exact i1
  rw [lt_e]
  generalize e2 : (x1 &&& (3689348814741910323 : Int64)) + (lush x1 (2 : Int32) &&& (3689348814741910323 : Int64)) = x2
  have u2 : un x2 = vb ((l.map p1).map p2) := by
    have i1 := st2 (l.map p1) b1
    rw [len1, ← u1] at i1
    have i2 := vb_cc 1 ((l.map p1).map p2) (fun b hb' => by have := (b2 b hb').1; omega)
    rw [len2, p256, Nat.one_mul] at i2
    rw [← e2, un_add (by rw [un_and, un_and, m33, lu2, i1]; exact i2), un_and, un_and, m33, lu2]
    exact i1
  rw [lt_e]
  generalize e3 : (x2 + lush x2 (4 : Int32)) &&& (1085102592571150095 : Int64) = x3
  have u3 : un x3 = vb (l.map pc8) := by
    have i1 := st3 ((l.map p1).map p2) b2
    rw [len2, ← u2, b3] at i1
    have i2 := vb_cc 2 ((l.map p1).map p2) (fun b hb' => by have := b2 b hb'; omega)
    rw [len2, p256, ← u2] at i2
    rw [← e3, un_and, m0f, un_add (by rw [lu4]; omega), lu4]
    exact i1
  have i16 : 16 * un x3 < 18446744073709551616 := by
    have i2 := vb_cc 16 (l.map pc8) (fun b hb' => by have := b4 b hb'; omega)
    rw [len4, p256, ← u3] at i2
    exact i2
  rw [lt_e]
  generalize e4 : x3 + lush x3 (8 : Int32) = x4
  have u4 : un x4 = un x3 + un x3 / 256 := by
    rw [← e4, un_add (by rw [lu8]; omega), lu8]
  rw [lt_e]
  generalize e5 : x4 + lush x4 (16 : Int32) = x5
  have u5 : un x5 = un x4 + un x4 / 65536 := by
    rw [← e5, un_add (by rw [lu16]; omega), lu16]
  rw [lt_e]
  generalize e6 : x5 + lush x5 (32 : Int32) = x6
  have u6 : un x6 = un x5 + un x5 / 4294967296 := by
    rw [← e6, un_add (by rw [lu32]; omega), lu32]
  rw [to32, u6, u5, u4, last_ok len4 b4 u3, hc]
