/-! THE CONSTRUCTOR OF TRELLIS, whole, laid by wip/p40/ctorb.py -/
def bR (aD : Nat → Nat) (kI kL : ClassId) (qS qD qO o1 o2 o3 qc qo qw t12 w12 t13 w13 t14 w14 : Nat) : va_W := [(qS, .inl (kI, 12, .inl (fun _ => 0))), (qD, .inr (0, [.ref (aD 0), .ref (aD 1), .ref (aD 2), .ref (aD 3), .ref (aD 4), .ref (aD 5), .ref (aD 6), .ref (aD 7), .ref (aD 8), .ref (aD 9), .ref (aD 10), .ref (aD 11), .ref (aD 12), .int 2, .int 0, .int 0, .int 0])), (aD 0, .inl (kI, 10, .inl (fo 10))), (aD 1, .inl (kI, 12, .inl (fun _ => 0))), (aD 2, .inl (kI, 10, .inl (fun _ => 0))), (aD 3, .inl (kI, 640, .inl (fun _ => 0))), (aD 4, .inl (kI, 2560, .inl (fun _ => 0))), (aD 5, .inl (kI, 2560, .inl (fun _ => 0))), (aD 6, .inl (kI, 2560, .inl (fun _ => 0))), (aD 7, .inl (kI, 2560, .inl (fnx 2559))), (aD 8, .inl (kI, 2560, .inl (fun _ => 0))), (aD 9, .inl (kI, 2560, .inl (fun _ => 0))), (aD 10, .inl (kI, 2560, .inl (fun _ => 0))), (aD 11, .inl (kI, 2560, .inl (fun _ => 0))), (aD 12, .inl (kI, 1024, .inl (fun _ => 0))), (qO, .inr (1, [.ref o1, .ref o2, .ref o3])), (o1, .inl (kI, 64, .inl (fun _ => 0))), (o2, .inl (kL, 64, .inr (.inl (fun _ => 0)))), (o3, .inl (kL, 64, .inr (.inl (fun _ => 0)))), (t12, .inr (2, [.ref w12])), (w12, .inl (kL, 16, .inr (.inl (fun _ => 0)))), (t13, .inr (2, [.ref w13])), (w13, .inl (kL, 16, .inr (.inl (fun _ => 0)))), (t14, .inr (2, [.ref w14])), (w14, .inl (kL, 16, .inr (.inl (fun _ => 0)))), (qc, .inl (kI, 10, .inl (fun _ => 0))), (qo, .inl (kI, 1024, .inl (fun _ => 0))), (qw, .inl (kI, 10, .inl (fun _ => 0)))]
def bW (aD : Nat → Nat) (kF kI kL : ClassId) (h0 qF qS qD qO o1 o2 o3 qc qo qw t0 w0 t1 w1 t2 w2 t3 w3 t4 w4 t5 w5 t6 w6 t7 w7 t8 w8 t9 w9 t10 w10 t11 w11 t12 w12 t13 w13 t14 w14 : Nat) : va_W := (h0, .inr (3, [.ref qF, .ref qS, .ref qD, .ref qO, .ref t12, .ref t13, .ref t14, .ref qc, .ref qo, .ref qw])) :: (qF, .inl (kF, 12, .inr (.inr (.inr (.inr (va_up (va_up (va_up (va_up (va_up (va_up (va_up (va_up (va_up (va_up (va_up (va_up (fun _ => none) 0 (some t0)) 1 (some t1)) 2 (some t2)) 3 (some t3)) 4 (some t4)) 5 (some t5)) 6 (some t6)) 7 (some t7)) 8 (some t8)) 9 (some t9)) 10 (some t10)) 11 (some t11))))))) :: ((((((((((((bR aD kI kL qS qD qO o1 o2 o3 qc qo qw t12 w12 t13 w13 t14 w14 ++ [(t0, .inr (2, [.ref w0])), (w0, .inl (kL, 16, .inr (.inl (fun _ => 0))))]) ++ [(t1, .inr (2, [.ref w1])), (w1, .inl (kL, 16, .inr (.inl (fun _ => 0))))]) ++ [(t2, .inr (2, [.ref w2])), (w2, .inl (kL, 16, .inr (.inl (fun _ => 0))))]) ++ [(t3, .inr (2, [.ref w3])), (w3, .inl (kL, 16, .inr (.inl (fun _ => 0))))]) ++ [(t4, .inr (2, [.ref w4])), (w4, .inl (kL, 16, .inr (.inl (fun _ => 0))))]) ++ [(t5, .inr (2, [.ref w5])), (w5, .inl (kL, 16, .inr (.inl (fun _ => 0))))]) ++ [(t6, .inr (2, [.ref w6])), (w6, .inl (kL, 16, .inr (.inl (fun _ => 0))))]) ++ [(t7, .inr (2, [.ref w7])), (w7, .inl (kL, 16, .inr (.inl (fun _ => 0))))]) ++ [(t8, .inr (2, [.ref w8])), (w8, .inl (kL, 16, .inr (.inl (fun _ => 0))))]) ++ [(t9, .inr (2, [.ref w9])), (w9, .inl (kL, 16, .inr (.inl (fun _ => 0))))]) ++ [(t10, .inr (2, [.ref w10])), (w10, .inl (kL, 16, .inr (.inl (fun _ => 0))))]) ++ [(t11, .inr (2, [.ref w11])), (w11, .inl (kL, 16, .inr (.inl (fun _ => 0))))])
def bX (aD : Nat → Nat) (kF kI kL : ClassId) (h0 qF qS qD qO o1 o2 o3 qc qo qw t0 w0 t1 w1 t2 w2 t3 w3 t4 w4 t5 w5 t6 w6 t7 w7 t8 w8 t9 w9 t10 w10 t11 w11 t12 w12 t13 w13 t14 w14 : Nat) : va_W := [(h0, .inr (3, [.ref qF, .ref qS, .ref qD, .ref qO, .ref t12, .ref t13, .ref t14, .ref qc, .ref qo, .ref qw])), (qF, .inl (kF, 12, .inr (.inr (.inr (.inr (va_up (va_up (va_up (va_up (va_up (va_up (va_up (va_up (va_up (va_up (va_up (va_up (fun _ => none) 0 (some t0)) 1 (some t1)) 2 (some t2)) 3 (some t3)) 4 (some t4)) 5 (some t5)) 6 (some t6)) 7 (some t7)) 8 (some t8)) 9 (some t9)) 10 (some t10)) 11 (some t11))))))), (qS, .inl (kI, 12, .inl (fun _ => 0))), (qD, .inr (0, [.ref (aD 0), .ref (aD 1), .ref (aD 2), .ref (aD 3), .ref (aD 4), .ref (aD 5), .ref (aD 6), .ref (aD 7), .ref (aD 8), .ref (aD 9), .ref (aD 10), .ref (aD 11), .ref (aD 12), .int 2, .int 0, .int 0, .int 0])), (aD 0, .inl (kI, 10, .inl (fo 10))), (aD 1, .inl (kI, 12, .inl (fun _ => 0))), (aD 2, .inl (kI, 10, .inl (fun _ => 0))), (aD 3, .inl (kI, 640, .inl (fun _ => 0))), (aD 4, .inl (kI, 2560, .inl (fun _ => 0))), (aD 5, .inl (kI, 2560, .inl (fun _ => 0))), (aD 6, .inl (kI, 2560, .inl (fun _ => 0))), (aD 7, .inl (kI, 2560, .inl (fnx 2559))), (aD 8, .inl (kI, 2560, .inl (fun _ => 0))), (aD 9, .inl (kI, 2560, .inl (fun _ => 0))), (aD 10, .inl (kI, 2560, .inl (fun _ => 0))), (aD 11, .inl (kI, 2560, .inl (fun _ => 0))), (aD 12, .inl (kI, 1024, .inl (fun _ => 0))), (qO, .inr (1, [.ref o1, .ref o2, .ref o3])), (o1, .inl (kI, 64, .inl (fun _ => 0))), (o2, .inl (kL, 64, .inr (.inl (fun _ => 0)))), (o3, .inl (kL, 64, .inr (.inl (fun _ => 0)))), (t12, .inr (2, [.ref w12])), (w12, .inl (kL, 16, .inr (.inl (fun _ => 0)))), (t13, .inr (2, [.ref w13])), (w13, .inl (kL, 16, .inr (.inl (fun _ => 0)))), (t14, .inr (2, [.ref w14])), (w14, .inl (kL, 16, .inr (.inl (fun _ => 0)))), (qc, .inl (kI, 10, .inl (fun _ => 0))), (qo, .inl (kI, 1024, .inl (fun _ => 0))), (qw, .inl (kI, 10, .inl (fun _ => 0))), (t0, .inr (2, [.ref w0])), (w0, .inl (kL, 16, .inr (.inl (fun _ => 0)))), (t1, .inr (2, [.ref w1])), (w1, .inl (kL, 16, .inr (.inl (fun _ => 0)))), (t2, .inr (2, [.ref w2])), (w2, .inl (kL, 16, .inr (.inl (fun _ => 0)))), (t3, .inr (2, [.ref w3])), (w3, .inl (kL, 16, .inr (.inl (fun _ => 0)))), (t4, .inr (2, [.ref w4])), (w4, .inl (kL, 16, .inr (.inl (fun _ => 0)))), (t5, .inr (2, [.ref w5])), (w5, .inl (kL, 16, .inr (.inl (fun _ => 0)))), (t6, .inr (2, [.ref w6])), (w6, .inl (kL, 16, .inr (.inl (fun _ => 0)))), (t7, .inr (2, [.ref w7])), (w7, .inl (kL, 16, .inr (.inl (fun _ => 0)))), (t8, .inr (2, [.ref w8])), (w8, .inl (kL, 16, .inr (.inl (fun _ => 0)))), (t9, .inr (2, [.ref w9])), (w9, .inl (kL, 16, .inr (.inl (fun _ => 0)))), (t10, .inr (2, [.ref w10])), (w10, .inl (kL, 16, .inr (.inl (fun _ => 0)))), (t11, .inr (2, [.ref w11])), (w11, .inl (kL, 16, .inr (.inl (fun _ => 0))))]
theorem bW_X (aD : Nat → Nat) (kF kI kL : ClassId) (h0 qF qS qD qO o1 o2 o3 qc qo qw t0 w0 t1 w1 t2 w2 t3 w3 t4 w4 t5 w5 t6 w6 t7 w7 t8 w8 t9 w9 t10 w10 t11 w11 t12 w12 t13 w13 t14 w14 : Nat) : bW aD kF kI kL h0 qF qS qD qO o1 o2 o3 qc qo qw t0 w0 t1 w1 t2 w2 t3 w3 t4 w4 t5 w5 t6 w6 t7 w7 t8 w8 t9 w9 t10 w10 t11 w11 t12 w12 t13 w13 t14 w14 = bX aD kF kI kL h0 qF qS qD qO o1 o2 o3 qc qo qw t0 w0 t1 w1 t2 w2 t3 w3 t4 w4 t5 w5 t6 w6 t7 w7 t8 w8 t9 w9 t10 w10 t11 w11 t12 w12 t13 w13 t14 w14 := rfl
def bA (aD : Nat → Nat) (h0 qF qS qD qO o1 o2 o3 qc qo qw t0 w0 t1 w1 t2 w2 t3 w3 t4 w4 t5 w5 t6 w6 t7 w7 t8 w8 t9 w9 t10 w10 t11 w11 t12 w12 t13 w13 t14 w14 : Nat) : Nat → Nat := (fun k => match k with | 0 => h0 | 1 => qF | 2 => qS | 3 => qc | 4 => qo | 5 => qw | 6 => qD | 7 => (aD 0) | 8 => (aD 1) | 9 => (aD 2) | 10 => (aD 3) | 11 => (aD 4) | 12 => (aD 5) | 13 => (aD 6) | 14 => (aD 7) | 15 => (aD 8) | 16 => (aD 9) | 17 => (aD 10) | 18 => (aD 11) | 19 => (aD 12) | 20 => qO | 21 => o1 | 22 => o2 | 23 => o3 | 24 => t0 | 25 => t1 | 26 => t2 | 27 => t3 | 28 => t4 | 29 => t5 | 30 => t6 | 31 => t7 | 32 => t8 | 33 => t9 | 34 => t10 | 35 => t11 | 36 => t12 | 37 => t13 | 38 => t14 | 39 => w0 | 40 => w1 | 41 => w2 | 42 => w3 | 43 => w4 | 44 => w5 | 45 => w6 | 46 => w7 | 47 => w8 | 48 => w9 | 49 => w10 | 50 => w11 | 51 => w12 | 52 => w13 | _ => w14)
section BW
variable {D : va_G} {A : Nat → Prop} {H : Heap} {aD : Nat → Nat} {kF kI kL : ClassId} {h0 qF qS qD qO o1 o2 o3 qc qo qw t0 w0 t1 w1 t2 w2 t3 w3 t4 w4 t5 w5 t6 w6 t7 w7 t8 w8 t9 w9 t10 w10 t11 w11 t12 w12 t13 w13 t14 w14 : Nat}
set_option maxHeartbeats 8000000 in
theorem bX_D (hD : va_D A (bX aD kF kI kL h0 qF qS qD qO o1 o2 o3 qc qo qw t0 w0 t1 w1 t2 w2 t3 w3 t4 w4 t5 w5 t6 w6 t7 w7 t8 w8 t9 w9 t10 w10 t11 w11 t12 w12 t13 w13 t14 w14)) : va_D A (wC (bA aD h0 qF qS qD qO o1 o2 o3 qc qo qw t0 w0 t1 w1 t2 w2 t3 w3 t4 w4 t5 w5 t6 w6 t7 w7 t8 w8 t9 w9 t10 w10 t11 w11 t12 w12 t13 w13 t14 w14) (kI, kL, kF) st0) := by
  refine wC_D hD [0, 1, 2, 27, 28, 29, 3, 4, 5, 6, 7, 8, 9, 10, 11, 12, 13, 14, 15, 16, 17, 18, 19, 20, 30, 32, 34, 36, 38, 40, 42, 44, 46, 48, 50, 52, 21, 23, 25, 31, 33, 35, 37, 39, 41, 43, 45, 47, 49, 51, 53, 22, 24, 26] (by decide) (fun k hk => ?_)
  rcases (show k = 0 ∨ k = 1 ∨ k = 2 ∨ k = 3 ∨ k = 4 ∨ k = 5 ∨ k = 6 ∨ k = 7 ∨ k = 8 ∨ k = 9 ∨ k = 10 ∨ k = 11 ∨ k = 12 ∨ k = 13 ∨ k = 14 ∨ k = 15 ∨ k = 16 ∨ k = 17 ∨ k = 18 ∨ k = 19 ∨ k = 20 ∨ k = 21 ∨ k = 22 ∨ k = 23 ∨ k = 24 ∨ k = 25 ∨ k = 26 ∨ k = 27 ∨ k = 28 ∨ k = 29 ∨ k = 30 ∨ k = 31 ∨ k = 32 ∨ k = 33 ∨ k = 34 ∨ k = 35 ∨ k = 36 ∨ k = 37 ∨ k = 38 ∨ k = 39 ∨ k = 40 ∨ k = 41 ∨ k = 42 ∨ k = 43 ∨ k = 44 ∨ k = 45 ∨ k = 46 ∨ k = 47 ∨ k = 48 ∨ k = 49 ∨ k = 50 ∨ k = 51 ∨ k = 52 ∨ k = 53 by omega) with rfl | rfl | rfl | rfl | rfl | rfl | rfl | rfl | rfl | rfl | rfl | rfl | rfl | rfl | rfl | rfl | rfl | rfl | rfl | rfl | rfl | rfl | rfl | rfl | rfl | rfl | rfl | rfl | rfl | rfl | rfl | rfl | rfl | rfl | rfl | rfl | rfl | rfl | rfl | rfl | rfl | rfl | rfl | rfl | rfl | rfl | rfl | rfl | rfl | rfl | rfl | rfl | rfl | rfl
  · exact ⟨_, rfl⟩
  · exact ⟨_, rfl⟩
  · exact ⟨_, rfl⟩
  · exact ⟨_, rfl⟩
  · exact ⟨_, rfl⟩
  · exact ⟨_, rfl⟩
  · exact ⟨_, rfl⟩
  · exact ⟨_, rfl⟩
  · exact ⟨_, rfl⟩
  · exact ⟨_, rfl⟩
  · exact ⟨_, rfl⟩
  · exact ⟨_, rfl⟩
  · exact ⟨_, rfl⟩
  · exact ⟨_, rfl⟩
  · exact ⟨_, rfl⟩
  · exact ⟨_, rfl⟩
  · exact ⟨_, rfl⟩
  · exact ⟨_, rfl⟩
  · exact ⟨_, rfl⟩
  · exact ⟨_, rfl⟩
  · exact ⟨_, rfl⟩
  · exact ⟨_, rfl⟩
  · exact ⟨_, rfl⟩
  · exact ⟨_, rfl⟩
  · exact ⟨_, rfl⟩
  · exact ⟨_, rfl⟩
  · exact ⟨_, rfl⟩
  · exact ⟨_, rfl⟩
  · exact ⟨_, rfl⟩
  · exact ⟨_, rfl⟩
  · exact ⟨_, rfl⟩
  · exact ⟨_, rfl⟩
  · exact ⟨_, rfl⟩
  · exact ⟨_, rfl⟩
  · exact ⟨_, rfl⟩
  · exact ⟨_, rfl⟩
  · exact ⟨_, rfl⟩
  · exact ⟨_, rfl⟩
  · exact ⟨_, rfl⟩
  · exact ⟨_, rfl⟩
  · exact ⟨_, rfl⟩
  · exact ⟨_, rfl⟩
  · exact ⟨_, rfl⟩
  · exact ⟨_, rfl⟩
  · exact ⟨_, rfl⟩
  · exact ⟨_, rfl⟩
  · exact ⟨_, rfl⟩
  · exact ⟨_, rfl⟩
  · exact ⟨_, rfl⟩
  · exact ⟨_, rfl⟩
  · exact ⟨_, rfl⟩
  · exact ⟨_, rfl⟩
  · exact ⟨_, rfl⟩
  · exact ⟨_, rfl⟩
set_option maxHeartbeats 8000000 in
theorem bX_P (hP : va_P D vwCl (bX aD kF kI kL h0 qF qS qD qO o1 o2 o3 qc qo qw t0 w0 t1 w1 t2 w2 t3 w3 t4 w4 t5 w5 t6 w6 t7 w7 t8 w8 t9 w9 t10 w10 t11 w11 t12 w12 t13 w13 t14 w14) H) : va_P D vwCl (wC (bA aD h0 qF qS qD qO o1 o2 o3 qc qo qw t0 w0 t1 w1 t2 w2 t3 w3 t4 w4 t5 w5 t6 w6 t7 w7 t8 w8 t9 w9 t10 w10 t11 w11 t12 w12 t13 w13 t14 w14) (kI, kL, kF) st0) H := by
  refine wC_P (fun k hk => ?_)
  rcases (show k = 0 ∨ k = 1 ∨ k = 2 ∨ k = 3 ∨ k = 4 ∨ k = 5 ∨ k = 6 ∨ k = 7 ∨ k = 8 ∨ k = 9 ∨ k = 10 ∨ k = 11 ∨ k = 12 ∨ k = 13 ∨ k = 14 ∨ k = 15 ∨ k = 16 ∨ k = 17 ∨ k = 18 ∨ k = 19 ∨ k = 20 ∨ k = 21 ∨ k = 22 ∨ k = 23 ∨ k = 24 ∨ k = 25 ∨ k = 26 ∨ k = 27 ∨ k = 28 ∨ k = 29 ∨ k = 30 ∨ k = 31 ∨ k = 32 ∨ k = 33 ∨ k = 34 ∨ k = 35 ∨ k = 36 ∨ k = 37 ∨ k = 38 ∨ k = 39 ∨ k = 40 ∨ k = 41 ∨ k = 42 ∨ k = 43 ∨ k = 44 ∨ k = 45 ∨ k = 46 ∨ k = 47 ∨ k = 48 ∨ k = 49 ∨ k = 50 ∨ k = 51 ∨ k = 52 ∨ k = 53 by omega) with rfl | rfl | rfl | rfl | rfl | rfl | rfl | rfl | rfl | rfl | rfl | rfl | rfl | rfl | rfl | rfl | rfl | rfl | rfl | rfl | rfl | rfl | rfl | rfl | rfl | rfl | rfl | rfl | rfl | rfl | rfl | rfl | rfl | rfl | rfl | rfl | rfl | rfl | rfl | rfl | rfl | rfl | rfl | rfl | rfl | rfl | rfl | rfl | rfl | rfl | rfl | rfl | rfl | rfl
  · exact hP 0 _ rfl
  · show va_at D vwCl (qF, .inl (kF, 12, .inr (.inr (.inr (.inr (fun j => some (bA aD h0 qF qS qD qO o1 o2 o3 qc qo qw t0 w0 t1 w1 t2 w2 t3 w3 t4 w4 t5 w5 t6 w6 t7 w7 t8 w8 t9 w9 t10 w10 t11 w11 t12 w12 t13 w13 t14 w14 (tc j)))))))) H
    refine at_q (hP 1 _ rfl) (fun j hj => ?_)
    rcases (show j = 0 ∨ j = 1 ∨ j = 2 ∨ j = 3 ∨ j = 4 ∨ j = 5 ∨ j = 6 ∨ j = 7 ∨ j = 8 ∨ j = 9 ∨ j = 10 ∨ j = 11 by omega) with rfl | rfl | rfl | rfl | rfl | rfl | rfl | rfl | rfl | rfl | rfl | rfl <;> rfl
  · show va_at D vwCl (qS, .inl (kI, 12, .inl (st0.1 0))) H
    exact at_i (hP 2 _ rfl) (fun j hj => by rw [st0_row]; exact n_0)
  · show va_at D vwCl (qc, .inl (kI, 10, .inl (st0.1 1))) H
    exact at_i (hP 27 _ rfl) (fun j hj => by rw [st0_row]; exact n_0)
  · show va_at D vwCl (qo, .inl (kI, 1024, .inl (st0.1 2))) H
    exact at_i (hP 28 _ rfl) (fun j hj => by rw [st0_row]; exact n_0)
  · show va_at D vwCl (qw, .inl (kI, 10, .inl (st0.1 3))) H
    exact at_i (hP 29 _ rfl) (fun j hj => by rw [st0_row]; exact n_0)
  · exact hP 3 _ rfl
  · show va_at D vwCl ((aD 0), .inl (kI, 10, .inl (st0.1 4))) H
    exact at_i (hP 4 _ rfl) (fun j hj => by rw [st0_row]; unfold fo v0; rw [if_pos hj, if_pos rfl, if_pos hj])
  · show va_at D vwCl ((aD 1), .inl (kI, 12, .inl (st0.1 5))) H
    exact at_i (hP 5 _ rfl) (fun j hj => by rw [st0_row]; exact n_0)
  · show va_at D vwCl ((aD 2), .inl (kI, 10, .inl (st0.1 6))) H
    exact at_i (hP 6 _ rfl) (fun j hj => by rw [st0_row]; exact n_0)
  · show va_at D vwCl ((aD 3), .inl (kI, 640, .inl (st0.1 7))) H
    exact at_i (hP 7 _ rfl) (fun j hj => by rw [st0_row]; exact n_0)
  · show va_at D vwCl ((aD 4), .inl (kI, 2560, .inl (st0.1 8))) H
    exact at_i (hP 8 _ rfl) (fun j hj => by rw [st0_row]; exact n_0)
  · show va_at D vwCl ((aD 5), .inl (kI, 2560, .inl (st0.1 9))) H
    exact at_i (hP 9 _ rfl) (fun j hj => by rw [st0_row]; exact n_0)
  · show va_at D vwCl ((aD 6), .inl (kI, 2560, .inl (st0.1 10))) H
    exact at_i (hP 10 _ rfl) (fun j hj => by rw [st0_row]; exact n_0)
  · show va_at D vwCl ((aD 7), .inl (kI, 2560, .inl (st0.1 11))) H
    exact at_i (hP 11 _ rfl) (fun j hj => st0_nx j)
  · show va_at D vwCl ((aD 8), .inl (kI, 2560, .inl (st0.1 12))) H
    exact at_i (hP 12 _ rfl) (fun j hj => by rw [st0_row]; exact n_0)
  · show va_at D vwCl ((aD 9), .inl (kI, 2560, .inl (st0.1 13))) H
    exact at_i (hP 13 _ rfl) (fun j hj => by rw [st0_row]; exact n_0)
  · show va_at D vwCl ((aD 10), .inl (kI, 2560, .inl (st0.1 14))) H
    exact at_i (hP 14 _ rfl) (fun j hj => by rw [st0_row]; exact n_0)
  · show va_at D vwCl ((aD 11), .inl (kI, 2560, .inl (st0.1 15))) H
    exact at_i (hP 15 _ rfl) (fun j hj => by rw [st0_row]; exact n_0)
  · show va_at D vwCl ((aD 12), .inl (kI, 1024, .inl (st0.1 16))) H
    exact at_i (hP 16 _ rfl) (fun j hj => by rw [st0_row]; exact n_0)
  · exact hP 17 _ rfl
  · show va_at D vwCl (o1, .inl (kI, 64, .inl (st0.1 17))) H
    exact at_i (hP 18 _ rfl) (fun j hj => by rw [st0_row]; exact n_0)
  · show va_at D vwCl (o2, .inl (kL, 64, .inr (.inl (st0.2.1 15)))) H
    exact at_l (hP 19 _ rfl) (fun _ _ => rfl)
  · show va_at D vwCl (o3, .inl (kL, 64, .inr (.inl (st0.2.1 16)))) H
    exact at_l (hP 20 _ rfl) (fun _ _ => rfl)
  · exact hP 30 _ rfl
  · exact hP 32 _ rfl
  · exact hP 34 _ rfl
  · exact hP 36 _ rfl
  · exact hP 38 _ rfl
  · exact hP 40 _ rfl
  · exact hP 42 _ rfl
  · exact hP 44 _ rfl
  · exact hP 46 _ rfl
  · exact hP 48 _ rfl
  · exact hP 50 _ rfl
  · exact hP 52 _ rfl
  · exact hP 21 _ rfl
  · exact hP 23 _ rfl
  · exact hP 25 _ rfl
  · show va_at D vwCl (w0, .inl (kL, 16, .inr (.inl (st0.2.1 0)))) H
    exact at_l (hP 31 _ rfl) (fun _ _ => rfl)
  · show va_at D vwCl (w1, .inl (kL, 16, .inr (.inl (st0.2.1 1)))) H
    exact at_l (hP 33 _ rfl) (fun _ _ => rfl)
  · show va_at D vwCl (w2, .inl (kL, 16, .inr (.inl (st0.2.1 2)))) H
    exact at_l (hP 35 _ rfl) (fun _ _ => rfl)
  · show va_at D vwCl (w3, .inl (kL, 16, .inr (.inl (st0.2.1 3)))) H
    exact at_l (hP 37 _ rfl) (fun _ _ => rfl)
  · show va_at D vwCl (w4, .inl (kL, 16, .inr (.inl (st0.2.1 4)))) H
    exact at_l (hP 39 _ rfl) (fun _ _ => rfl)
  · show va_at D vwCl (w5, .inl (kL, 16, .inr (.inl (st0.2.1 5)))) H
    exact at_l (hP 41 _ rfl) (fun _ _ => rfl)
  · show va_at D vwCl (w6, .inl (kL, 16, .inr (.inl (st0.2.1 6)))) H
    exact at_l (hP 43 _ rfl) (fun _ _ => rfl)
  · show va_at D vwCl (w7, .inl (kL, 16, .inr (.inl (st0.2.1 7)))) H
    exact at_l (hP 45 _ rfl) (fun _ _ => rfl)
  · show va_at D vwCl (w8, .inl (kL, 16, .inr (.inl (st0.2.1 8)))) H
    exact at_l (hP 47 _ rfl) (fun _ _ => rfl)
  · show va_at D vwCl (w9, .inl (kL, 16, .inr (.inl (st0.2.1 9)))) H
    exact at_l (hP 49 _ rfl) (fun _ _ => rfl)
  · show va_at D vwCl (w10, .inl (kL, 16, .inr (.inl (st0.2.1 10)))) H
    exact at_l (hP 51 _ rfl) (fun _ _ => rfl)
  · show va_at D vwCl (w11, .inl (kL, 16, .inr (.inl (st0.2.1 11)))) H
    exact at_l (hP 53 _ rfl) (fun _ _ => rfl)
  · show va_at D vwCl (w12, .inl (kL, 16, .inr (.inl (st0.2.1 12)))) H
    exact at_l (hP 22 _ rfl) (fun _ _ => rfl)
  · show va_at D vwCl (w13, .inl (kL, 16, .inr (.inl (st0.2.1 13)))) H
    exact at_l (hP 24 _ rfl) (fun _ _ => rfl)
  · show va_at D vwCl (w14, .inl (kL, 16, .inr (.inl (st0.2.1 14)))) H
    exact at_l (hP 26 _ rfl) (fun _ _ => rfl)
end BW
