/-! WHAT EACH METHOD ANSWERS AND LEAVES, laid by wip/p40/gen.py out of the listing; some: it goes through -/
def FU : Nat := 4000
/-- Trellis$Diagram.count()I -/
def sX0_count (st : St)  : Option (Int32) :=
  some (gF 1 st)
/-- Trellis$Diagram.isLevel(I)Z -/
def sX0_isLevel (st : St) (x0 : Int32) : Option (Int32) :=
  if x0 < 0 then (
    some (0 : Int32))
  else (
    if (10 : Int32) ≤ x0 then (
      some (0 : Int32))
    else (
      some (1 : Int32)))
/-- Trellis$Diagram.countAt(I)I -/
def sX0_countAt (st : St) (x1 : Int32) : Option (Int32) :=
  ob (sX0_isLevel st x1) fun r_2 =>
  if r_2 = 0 then (
    some (0 : Int32))
  else (
    gd x1 10 <|
    some (gI 6 st x1))
/-- Trellis$Diagram.variableOf(I)I -/
def sX0_variableOf (st : St) (x1 : Int32) : Option (Int32) :=
  ob (sX0_isLevel st x1) fun r_2 =>
  if r_2 = 0 then (
    some (0 : Int32))
  else (
    gd x1 10 <|
    some (gI 4 st x1))
/-- Trellis$Diagram.levelOf(I)I -/
def sX0_levelOf_L2 : Nat → St → Int32 → Int32 → Option ((Int32) ⊕ (Unit))
  | 0, _, _, _ => none
  | n + 1, st, x1, x2 =>
    if (10 : Int32) ≤ x2 then (
      some (.inr ()))
    else (
      gd x2 10 <|
      if ¬ (gI 4 st x2) = x1 then (
        lt (x2 + 1) fun x2_3 =>
        sX0_levelOf_L2 n st x1 x2_3)
      else (
        some (.inl x2)))
def sX0_levelOf (st : St) (x1 : Int32) : Option (Int32) :=
  obS (sX0_levelOf_L2 FU st x1 (0 : Int32)) (fun a => some a) fun _ =>
    some (0 : Int32)
/-- Trellis$Diagram.isNode(I)Z -/
def sX0_isNode (st : St) (x0 : Int32) : Option (Int32) :=
  if x0 < (2 : Int32) then (
    some (0 : Int32))
  else (
    if (2560 : Int32) ≤ x0 then (
      some (0 : Int32))
    else (
      some (1 : Int32)))
/-- Trellis$Diagram.levelAt(I)I -/
def sX0_levelAt (st : St) (x1 : Int32) : Option (Int32) :=
  ob (sX0_isNode st x1) fun r_2 =>
  if r_2 = 0 then (
    some (10 : Int32))
  else (
    gd x1 2560 <|
    some (gI 8 st x1))
/-- Trellis$Diagram.lowOf(I)I -/
def sX0_lowOf (st : St) (x1 : Int32) : Option (Int32) :=
  ob (sX0_isNode st x1) fun r_2 =>
  if r_2 = 0 then (
    some x1)
  else (
    gd x1 2560 <|
    some (gI 9 st x1))
/-- Trellis$Diagram.highOf(I)I -/
def sX0_highOf (st : St) (x1 : Int32) : Option (Int32) :=
  ob (sX0_isNode st x1) fun r_2 =>
  if r_2 = 0 then (
    some x1)
  else (
    gd x1 2560 <|
    some (gI 10 st x1))
/-- Trellis$Diagram.bucketOf(III)I -/
def sX0_bucketOf (st : St) (x0 : Int32) (x1 : Int32) (x2 : Int32) : Option (Int32) :=
  lt (((x1 * (-1640531535 : Int32)) + (x2 * (-2048144789 : Int32)))) fun x3_1 =>
  some ((x0 * (64 : Int32)) + ((iush x3_1 (20 : Int32)) &&& (63 : Int32)))
/-- Trellis$Diagram.link(I)V -/
def sX0_link (st : St) (x1 : Int32) : Option (St) :=
  ob (sX0_isNode st x1) fun r_2 =>
  if r_2 = 0 then (
    some st)
  else (
    gd x1 2560 <|
    ob (sX0_isLevel st (gI 8 st x1)) fun r_5 =>
    if ¬ r_5 = 0 then (
      gd x1 2560 <|
      gd x1 2560 <|
      gd x1 2560 <|
      ob (sX0_bucketOf st (gI 8 st x1) (gI 9 st x1) (gI 10 st x1)) fun r_8 =>
      gd r_8 640 <|
      gd x1 2560 <|
      lt (sI 11 st x1 (gI 7 st r_8)) fun st_9 =>
      gd r_8 640 <|
      lt (sI 7 st_9 r_8 x1) fun st_10 =>
      gd x1 2560 <|
      gd (gI 8 st_10 x1) 10 <|
      gd (gI 8 st_10 x1) 10 <|
      lt (sI 6 st_10 (gI 8 st_10 x1) ((gI 6 st_10 (gI 8 st_10 x1)) + (1 : Int32))) fun st_11 =>
      lt (sF 1 st_11 ((gF 1 st_11) + (1 : Int32))) fun st_12 =>
      some st_12)
    else (
      some st))
/-- Trellis$Diagram.unlink(I)V -/
def sX0_unlink_L69 : Nat → St → Int32 → Int32 → Int32 → Option (St)
  | 0, _, _, _, _ => none
  | n + 1, st, x1, x3, x4 =>
    if (2560 : Int32) ≤ x4 then (
      some st)
    else (
      ob (sX0_isNode st x3) fun r_13 =>
      if r_13 = 0 then (
        some st)
      else (
        if x3 = x1 then (
          some st)
        else (
          gd x3 2560 <|
          lt ((gI 11 st x3)) fun x5_16 =>
          if ¬ x5_16 = x1 then (
            lt (x4 + 1) fun x4_18 =>
            sX0_unlink_L69 n st x1 x5_16 x4_18)
          else (
            gd x1 2560 <|
            gd x3 2560 <|
            lt (sI 11 st x3 (gI 11 st x1)) fun st_19 =>
            lt (x4 + 1) fun x4_20 =>
            sX0_unlink_L69 n st_19 x1 x5_16 x4_20))))
def sX0_unlink (st : St) (x1 : Int32) : Option (St) :=
  ob (sX0_isNode st x1) fun r_2 =>
  if r_2 = 0 then (
    some st)
  else (
    gd x1 2560 <|
    ob (sX0_isLevel st (gI 8 st x1)) fun r_5 =>
    if ¬ r_5 = 0 then (
      gd x1 2560 <|
      gd x1 2560 <|
      gd x1 2560 <|
      ob (sX0_bucketOf st (gI 8 st x1) (gI 9 st x1) (gI 10 st x1)) fun r_8 =>
      gd r_8 640 <|
      lt ((gI 7 st r_8)) fun x3_9 =>
      if ¬ x3_9 = x1 then (
        ob (sX0_unlink_L69 FU st x1 x3_9 (0 : Int32)) fun st_21 =>
        gd x1 2560 <|
        gd (gI 8 st_21 x1) 10 <|
        gd (gI 8 st_21 x1) 10 <|
        lt (sI 6 st_21 (gI 8 st_21 x1) ((gI 6 st_21 (gI 8 st_21 x1)) - (1 : Int32))) fun st_22 =>
        lt (sF 1 st_22 ((gF 1 st_22) - (1 : Int32))) fun st_23 =>
        some st_23)
      else (
        gd x1 2560 <|
        gd r_8 640 <|
        lt (sI 7 st r_8 (gI 11 st x1)) fun st_24 =>
        ob (sX0_unlink_L69 FU st_24 x1 x3_9 (0 : Int32)) fun st_25 =>
        gd x1 2560 <|
        gd (gI 8 st_25 x1) 10 <|
        gd (gI 8 st_25 x1) 10 <|
        lt (sI 6 st_25 (gI 8 st_25 x1) ((gI 6 st_25 (gI 8 st_25 x1)) - (1 : Int32))) fun st_26 =>
        lt (sF 1 st_26 ((gF 1 st_26) - (1 : Int32))) fun st_27 =>
        some st_27))
    else (
      some st))
/-- Trellis$Diagram.point(I)V -/
def sX0_point (st : St) (x1 : Int32) : Option (St) :=
  ob (sX0_isNode st x1) fun r_2 =>
  if r_2 = 0 then (
    some st)
  else (
    gd x1 2560 <|
    gd x1 2560 <|
    lt (sI 12 st x1 ((gI 12 st x1) + (1 : Int32))) fun st_4 =>
    some st_4)
/-- Trellis$Diagram.make(III)I -/
def sX0_make_L30 : Nat → St → Int32 → Int32 → Int32 → Int32 → Int32 → Option ((Int32 × St) ⊕ (Unit))
  | 0, _, _, _, _, _, _ => none
  | n + 1, st, x1, x2, x3, x4, x5 =>
    if (2560 : Int32) ≤ x5 then (
      some (.inr ()))
    else (
      ob (sX0_isNode st x4) fun r_10 =>
      if r_10 = 0 then (
        some (.inr ()))
      else (
        gd x4 2560 <|
        if ¬ (gI 9 st x4) = x2 then (
          gd x4 2560 <|
          lt ((gI 11 st x4)) fun x4_13 =>
          lt (x5 + 1) fun x5_14 =>
          sX0_make_L30 n st x1 x2 x3 x4_13 x5_14)
        else (
          gd x4 2560 <|
          if ¬ (gI 10 st x4) = x3 then (
            gd x4 2560 <|
            lt ((gI 11 st x4)) fun x4_16 =>
            lt (x5 + 1) fun x5_17 =>
            sX0_make_L30 n st x1 x2 x3 x4_16 x5_17)
          else (
            some (.inl (x4, st))))))
def sX0_make (st : St) (x1 : Int32) (x2 : Int32) (x3 : Int32) : Option (Int32 × St) :=
  if x2 = x3 then (
    some (x2, st))
  else (
    ob (sX0_isLevel st x1) fun r_3 =>
    if ¬ r_3 = 0 then (
      ob (sX0_bucketOf st x1 x2 x3) fun r_6 =>
      gd r_6 640 <|
      lt ((gI 7 st r_6)) fun x4_7 =>
      obS (sX0_make_L30 FU st x1 x2 x3 x4_7 (0 : Int32)) (fun a => some a) fun _ =>
        ob (sX0_isNode st (gF 0 st)) fun r_21 =>
        if ¬ r_21 = 0 then (
          lt ((gF 0 st)) fun x4_23 =>
          gd x4_23 2560 <|
          lt (sF 0 st (gI 11 st x4_23)) fun st_24 =>
          gd x4_23 2560 <|
          lt (sI 8 st_24 x4_23 x1) fun st_25 =>
          gd x4_23 2560 <|
          lt (sI 9 st_25 x4_23 x2) fun st_26 =>
          gd x4_23 2560 <|
          lt (sI 10 st_26 x4_23 x3) fun st_27 =>
          gd x4_23 2560 <|
          lt (sI 12 st_27 x4_23 (0 : Int32)) fun st_28 =>
          ob (sX0_link st_28 x4_23) fun st_29 =>
          ob (sX0_point st_29 x2) fun st_31 =>
          ob (sX0_point st_31 x3) fun st_33 =>
          some (x4_23, st_33))
        else (
          some ((0 : Int32), st)))
    else (
      some (x2, st)))
/-- Trellis$Diagram.drop(LTrellis$Diagram;II)V -/
def sX0_drop : Nat → St → Int32 → Int32 → Option (St)
  | 0, _, _, _ => none
  | n + 1, st, x1, x2 =>
    ob (sX0_isNode st x1) fun r_2 =>
    if r_2 = 0 then (
      some st)
    else (
      if x2 ≤ (10 : Int32) then (
        gd x1 2560 <|
        gd x1 2560 <|
        lt (sI 12 st x1 ((gI 12 st x1) - (1 : Int32))) fun st_5 =>
        gd x1 2560 <|
        if (gI 12 st_5 x1) ≤ 0 then (
          ob (sX0_unlink st_5 x1) fun st_7 =>
          gd x1 2560 <|
          lt (sI 11 st_7 x1 (gF 0 st_7)) fun st_9 =>
          lt (sF 0 st_9 x1) fun st_10 =>
          gd x1 2560 <|
          ob (sX0_drop n st_10 (gI 9 st_10 x1) (x2 + (1 : Int32))) fun st_11 =>
          gd x1 2560 <|
          ob (sX0_drop n st_11 (gI 10 st_11 x1) (x2 + (1 : Int32))) fun st_13 =>
          some st_13)
        else (
          some st_5))
      else (
        some st))
/-- java/lang/Integer.bitCount(I)I -/
def sJ6_bitCount_0f7a4 (st : St) (x0 : Int32) : Option (Int32) :=
  lt ((x0 - ((iush x0 (1 : Int32)) &&& (1431655765 : Int32)))) fun x0_1 =>
  lt (((x0_1 &&& (858993459 : Int32)) + ((iush x0_1 (2 : Int32)) &&& (858993459 : Int32)))) fun x0_2 =>
  lt (((x0_2 + (iush x0_2 (4 : Int32))) &&& (252645135 : Int32))) fun x0_3 =>
  lt ((x0_3 + (iush x0_3 (8 : Int32)))) fun x0_4 =>
  lt ((x0_4 + (iush x0_4 (16 : Int32)))) fun x0_5 =>
  some (x0_5 &&& (63 : Int32))
/-- Trellis$Table.tells(I)Z -/
def sX2_tells (st : St) (t0 : Nat) (x1 : Int32) : Option (Int32) :=
  if x1 < 0 then (
    some (0 : Int32))
  else (
    if (1024 : Int32) ≤ x1 then (
      some (0 : Int32))
    else (
      gd (x1 >>> ((6 : Int32) &&& 31)) 16 <|
      if ¬ (lg_cmp ((lush (gL t0 st (x1 >>> ((6 : Int32) &&& 31))) (x1 &&& (63 : Int32))) &&& (1 : Int64)) (1 : Int64)) = 0 then (
        some (0 : Int32))
      else (
        some (1 : Int32))))
/-- Trellis$Diagram.join(III)V -/
def sX0_join_L6 : Nat → St → Int32 → Int32 → Int32 → Int32 → Int32 → Option (St)
  | 0, _, _, _, _, _, _ => none
  | n + 1, st, x1, x2, x3, x4, x5 =>
    ob (sJ6_bitCount_0f7a4 st x3) fun r_2 =>
    if ((1 : Int32) <<< (r_2 &&& 31)) ≤ x5 then (
      some st)
    else (
      gd x4 1024 <|
      gd (x4 ||| x2) 1024 <|
      ob2 (sX0_make st x1 (gI 16 st x4) (gI 16 st (x4 ||| x2))) fun r_6 st_4 =>
      gd x4 1024 <|
      lt (sI 16 st_4 x4 r_6) fun st_7 =>
      lt (((x4 - x3) &&& x3)) fun x4_8 =>
      lt (x5 + 1) fun x5_9 =>
      sX0_join_L6 n st_7 x1 x2 x3 x4_8 x5_9)
def sX0_join (st : St) (x1 : Int32) (x2 : Int32) (x3 : Int32) : Option (St) :=
  ob (sX0_join_L6 FU st x1 x2 x3 (0 : Int32) (0 : Int32)) fun st_10 =>
  some st_10
/-- Trellis$Diagram.build(LTrellis$Table;I)I -/
def sX0_build_L18 : Nat → St → Nat → Int32 → Int32 → Int32 → Option (St)
  | 0, _, _, _, _, _ => none
  | n + 1, st, t1, x2, x3, x4 =>
    ob (sJ6_bitCount_0f7a4 st x2) fun r_4 =>
    if ((1 : Int32) <<< (r_4 &&& 31)) ≤ x4 then (
      some st)
    else (
      ob (sX2_tells st t1 x3) fun r_7 =>
      if r_7 = 0 then (
        gd x3 1024 <|
        lt (sI 16 st x3 (0 : Int32)) fun st_9 =>
        lt (((x3 - x2) &&& x2)) fun x3_10 =>
        lt (x4 + 1) fun x4_11 =>
        sX0_build_L18 n st_9 t1 x2 x3_10 x4_11)
      else (
        gd x3 1024 <|
        lt (sI 16 st x3 (1 : Int32)) fun st_12 =>
        lt (((x3 - x2) &&& x2)) fun x3_13 =>
        lt (x4 + 1) fun x4_14 =>
        sX0_build_L18 n st_12 t1 x2 x3_13 x4_14))
def sX0_build_L67 : Nat → St → Int32 → Int32 → Option (St)
  | 0, _, _, _ => none
  | n + 1, st, x4, x5 =>
    if x5 < 0 then (
      some st)
    else (
      gd x5 10 <|
      lt (((1 : Int32) <<< ((gI 4 st x5) &&& 31))) fun x6_17 =>
      if (x4 &&& x6_17) = 0 then (
        lt (x5 + (-1)) fun x5_19 =>
        sX0_build_L67 n st x4 x5_19)
      else (
        lt ((x4 &&& (x6_17 ^^^ (-1 : Int32)))) fun x4_20 =>
        ob (sX0_join st x5 x6_17 x4_20) fun st_21 =>
        lt (x5 + (-1)) fun x5_23 =>
        sX0_build_L67 n st_21 x4_20 x5_23))
def sX0_build (st : St) (t1 : Nat) (x2 : Int32) : Option (Int32 × St) :=
  if x2 < 0 then (
    some ((0 : Int32), st))
  else (
    if x2 < (1024 : Int32) then (
      ob (sX0_build_L18 FU st t1 x2 (0 : Int32) (0 : Int32)) fun st_15 =>
      ob (sX0_build_L67 FU st_15 x2 (9 : Int32)) fun st_24 =>
      gd (0 : Int32) 1024 <|
      some ((gI 16 st_24 (0 : Int32)), st_24))
    else (
      some ((0 : Int32), st)))
/-- Trellis$Diagram.setRoot(II)V -/
def sX0_setRoot (st : St) (x1 : Int32) (x2 : Int32) : Option (St) :=
  ob (sX0_point st x2) fun st_1 =>
  gd x1 12 <|
  lt ((gI 5 st_1 x1)) fun x3_3 =>
  gd x1 12 <|
  lt (sI 5 st_1 x1 x2) fun st_4 =>
  ob (sX0_drop 12 st_4 x3_3 (0 : Int32)) fun st_5 =>
  some st_5
/-- Trellis$Diagram.collect(LTrellis$Diagram;II)V -/
def sX0_collect : Nat → St → Int32 → Int32 → Option (St)
  | 0, _, _, _ => none
  | n + 1, st, x1, x2 =>
    ob (sX0_isNode st x1) fun r_2 =>
    if r_2 = 0 then (
      some st)
    else (
      if (10 : Int32) < x2 then (
        some st)
      else (
        gd x1 2560 <|
        if ¬ (gI 13 st x1) = (gF 2 st) then (
          gd x1 2560 <|
          lt (sI 13 st x1 (gF 2 st)) fun st_6 =>
          gd x1 2560 <|
          ob (sX0_collect n st_6 (gI 9 st_6 x1) (x2 + (1 : Int32))) fun st_7 =>
          gd x1 2560 <|
          ob (sX0_collect n st_7 (gI 10 st_7 x1) (x2 + (1 : Int32))) fun st_9 =>
          if (2560 : Int32) ≤ (gF 3 st_9) then (
            some st_9)
          else (
            gd (gF 3 st_9) 2560 <|
            lt (sI 15 st_9 (gF 3 st_9) x1) fun st_12 =>
            lt (sF 3 st_12 ((gF 3 st_12) + (1 : Int32))) fun st_13 =>
            some st_13))
        else (
          some st)))
/-- Trellis$Diagram.countFrom(II)I -/
def sX0_countFrom (st : St) (x1 : Int32) (x2 : Int32) : Option (Int32 × St) :=
  lt (sF 2 st ((gF 2 st) + (1 : Int32))) fun st_1 =>
  lt (sF 3 st_1 (0 : Int32)) fun st_2 =>
  gd x1 12 <|
  ob (sX0_collect 12 st_2 (gI 5 st_2 x1) (0 : Int32)) fun st_3 =>
  gd x2 12 <|
  ob (sX0_collect 12 st_3 (gI 5 st_3 x2) (0 : Int32)) fun st_5 =>
  some ((gF 3 st_5), st_5)
/-- Trellis$Diagram.valueOf(I)I -/
def sX0_valueOf (st : St) (x1 : Int32) : Option (Int32) :=
  if x1 < 0 then (
    some (0 : Int32))
  else (
    if (2560 : Int32) ≤ x1 then (
      some (0 : Int32))
    else (
      gd x1 2560 <|
      some (gI 14 st x1)))
/-- Trellis$Diagram.setValue(II)V -/
def sX0_setValue (st : St) (x1 : Int32) (x2 : Int32) : Option (St) :=
  ob (sX0_isNode st x1) fun r_2 =>
  if r_2 = 0 then (
    some st)
  else (
    gd x1 2560 <|
    lt (sI 14 st x1 x2) fun st_4 =>
    some st_4)
/-- Trellis$Diagram.pathsToOne(I)I -/
def sX0_pathsToOne_L23 : Nat → St → Int32 → Int32 → Int32 → Option (St)
  | 0, _, _, _, _ => none
  | n + 1, st, x1, x2, x3 =>
    if x2 ≤ x3 then (
      some st)
    else (
      gd x3 2560 <|
      lt ((gI 15 st x3)) fun x4_7 =>
      ob (sX0_lowOf st x4_7) fun r_9 =>
      ob (sX0_valueOf st r_9) fun r_11 =>
      ob (sX0_highOf st x4_7) fun r_13 =>
      ob (sX0_valueOf st r_13) fun r_15 =>
      ob (sX0_setValue st x4_7 (r_11 + r_15)) fun st_16 =>
      lt (x3 + 1) fun x3_18 =>
      sX0_pathsToOne_L23 n st_16 x1 x2 x3_18)
def sX0_pathsToOne (st : St) (x1 : Int32) : Option (Int32 × St) :=
  ob2 (sX0_countFrom st x1 x1) fun r_3 st_1 =>
  gd (0 : Int32) 2560 <|
  lt (sI 14 st_1 (0 : Int32) (0 : Int32)) fun st_4 =>
  gd (1 : Int32) 2560 <|
  lt (sI 14 st_4 (1 : Int32) (1 : Int32)) fun st_5 =>
  ob (sX0_pathsToOne_L23 FU st_5 x1 r_3 (0 : Int32)) fun st_19 =>
  gd x1 12 <|
  ob (sX0_valueOf st_19 (gI 5 st_19 x1)) fun r_21 =>
  some (r_21, st_19)
/-- Trellis$Diagram.longestPath(I)I -/
def sX0_longestPath_L23 : Nat → St → Int32 → Int32 → Int32 → Option (St)
  | 0, _, _, _, _ => none
  | n + 1, st, x1, x2, x3 =>
    if x2 ≤ x3 then (
      some st)
    else (
      gd x3 2560 <|
      lt ((gI 15 st x3)) fun x4_7 =>
      ob (sX0_lowOf st x4_7) fun r_9 =>
      ob (sX0_valueOf st r_9) fun r_11 =>
      ob (sX0_highOf st x4_7) fun r_13 =>
      ob (sX0_valueOf st r_13) fun r_15 =>
      ob (sX0_setValue st x4_7 ((1 : Int32) + (imax r_11 r_15))) fun st_16 =>
      lt (x3 + 1) fun x3_18 =>
      sX0_longestPath_L23 n st_16 x1 x2 x3_18)
def sX0_longestPath (st : St) (x1 : Int32) : Option (Int32 × St) :=
  ob2 (sX0_countFrom st x1 x1) fun r_3 st_1 =>
  gd (0 : Int32) 2560 <|
  lt (sI 14 st_1 (0 : Int32) (0 : Int32)) fun st_4 =>
  gd (1 : Int32) 2560 <|
  lt (sI 14 st_4 (1 : Int32) (0 : Int32)) fun st_5 =>
  ob (sX0_longestPath_L23 FU st_5 x1 r_3 (0 : Int32)) fun st_19 =>
  gd x1 12 <|
  ob (sX0_valueOf st_19 (gI 5 st_19 x1)) fun r_21 =>
  some (r_21, st_19)
/-- Trellis$Diagram.takeAll(II)I -/
def sX0_takeAll_L39 : Nat → St → Int32 → Int32 → Int32 → Int32 → Int32 → Option (St × Int32)
  | 0, _, _, _, _, _, _ => none
  | n + 1, st, x1, x3, x4, x5, x6 =>
    if (2560 : Int32) ≤ x6 then (
      some (st, x3))
    else (
      ob (sX0_isNode st x5) fun r_7 =>
      if r_7 = 0 then (
        some (st, x3))
      else (
        if (2560 : Int32) ≤ x3 then (
          some (st, x3))
        else (
          gd x3 2560 <|
          lt (sI 15 st x3 x5) fun st_10 =>
          lt (x3 + 1) fun x3_11 =>
          gd x5 2560 <|
          lt ((gI 11 st_10 x5)) fun x5_12 =>
          lt (x6 + 1) fun x6_13 =>
          sX0_takeAll_L39 n st_10 x1 x3_11 x4 x5_12 x6_13)))
def sX0_takeAll_L8 : Nat → St → Int32 → Int32 → Int32 → Option (St × Int32)
  | 0, _, _, _, _ => none
  | n + 1, st, x1, x3, x4 =>
    if ((x1 + (1 : Int32)) * (64 : Int32)) ≤ x4 then (
      some (st, x3))
    else (
      gd x4 640 <|
      lt ((gI 7 st x4)) fun x5_3 =>
      gd x4 640 <|
      lt (sI 7 st x4 (0 : Int32)) fun st_4 =>
      ob2 (sX0_takeAll_L39 FU st_4 x1 x3 x4 x5_3 (0 : Int32)) fun st_14 x3_15 =>
      lt (x4 + 1) fun x4_16 =>
      sX0_takeAll_L8 n st_14 x1 x3_15 x4_16)
def sX0_takeAll (st : St) (x1 : Int32) (x2 : Int32) : Option (Int32 × St) :=
  lt ((x1 * (64 : Int32))) fun x4_1 =>
  ob2 (sX0_takeAll_L8 FU st x1 x2 x4_1) fun st_17 x3_18 =>
  gd x1 10 <|
  lt (sF 1 st_17 ((gF 1 st_17) - (gI 6 st_17 x1))) fun st_19 =>
  gd x1 10 <|
  lt (sI 6 st_19 x1 (0 : Int32)) fun st_20 =>
  some (x3_18, st_20)
/-- Trellis$Diagram.raise(II)V -/
def sX0_raise (st : St) (x1 : Int32) (x2 : Int32) : Option (St) :=
  ob (sX0_isNode st x1) fun r_2 =>
  if ¬ r_2 = 0 then (
    gd x1 2560 <|
    lt (sI 8 st x1 x2) fun st_4 =>
    gd x1 2560 <|
    gd x1 2560 <|
    lt (sI 12 st_4 x1 ((gI 12 st_4 x1) + (1 : Int32))) fun st_5 =>
    ob (sX0_link st_5 x1) fun st_6 =>
    some st_6)
  else (
    some st)
/-- Trellis$Diagram.sinkIfFree(II)V -/
def sX0_sinkIfFree (st : St) (x1 : Int32) (x2 : Int32) : Option (St) :=
  ob (sX0_isNode st x1) fun r_2 =>
  if r_2 = 0 then (
    some st)
  else (
    ob (sX0_lowOf st x1) fun r_5 =>
    ob (sX0_levelAt st r_5) fun r_7 =>
    if r_7 = x2 then (
      some st)
    else (
      ob (sX0_highOf st x1) fun r_10 =>
      ob (sX0_levelAt st r_10) fun r_12 =>
      if r_12 = x2 then (
        some st)
      else (
        gd x1 2560 <|
        lt (sI 8 st x1 (x2 + (1 : Int32))) fun st_14 =>
        ob (sX0_link st_14 x1) fun st_15 =>
        some st_15)))
/-- Trellis$Diagram.half(IIZ)I -/
def sX0_half (st : St) (x1 : Int32) (x2 : Int32) (x3 : Int32) : Option (Int32) :=
  ob (sX0_levelAt st x1) fun r_2 =>
  if r_2 = x2 then (
    if x3 = 0 then (
      ob (sX0_lowOf st x1) fun r_6 =>
      some r_6)
    else (
      ob (sX0_highOf st x1) fun r_8 =>
      some r_8))
  else (
    some x1)
/-- Trellis$Diagram.turn(II)V -/
def sX0_turn (st : St) (x1 : Int32) (x2 : Int32) : Option (St) :=
  ob (sX0_isNode st x1) fun r_2 =>
  if ¬ r_2 = 0 then (
    ob (sX0_lowOf st x1) fun r_5 =>
    ob (sX0_highOf st x1) fun r_7 =>
    ob (sX0_half st r_5 x2 (0 : Int32)) fun r_9 =>
    ob (sX0_half st r_7 x2 (0 : Int32)) fun r_11 =>
    ob2 (sX0_make st (x2 + (1 : Int32)) r_9 r_11) fun r_14 st_12 =>
    ob (sX0_half st_12 r_5 x2 (1 : Int32)) fun r_16 =>
    ob (sX0_half st_12 r_7 x2 (1 : Int32)) fun r_18 =>
    ob2 (sX0_make st_12 (x2 + (1 : Int32)) r_16 r_18) fun r_21 st_19 =>
    ob (sX0_point st_19 r_14) fun st_22 =>
    ob (sX0_point st_22 r_21) fun st_24 =>
    gd x1 2560 <|
    lt (sI 9 st_24 x1 r_14) fun st_26 =>
    gd x1 2560 <|
    lt (sI 10 st_26 x1 r_21) fun st_27 =>
    ob (sX0_link st_27 x1) fun st_28 =>
    ob (sX0_drop 12 st_28 r_5 (0 : Int32)) fun st_30 =>
    ob (sX0_drop 12 st_30 r_7 (0 : Int32)) fun st_32 =>
    some st_32)
  else (
    some st)
/-- Trellis$Diagram.exchangeAt(I)V -/
def sX0_exchangeAt_L33 : Nat → St → Int32 → Int32 → Int32 → Int32 → Int32 → Option (St)
  | 0, _, _, _, _, _, _ => none
  | n + 1, st, x1, x2, x3, x4, x5 =>
    if x4 ≤ x5 then (
      some st)
    else (
      gd x5 2560 <|
      ob (sX0_raise st (gI 15 st x5) x1) fun st_11 =>
      lt (x5 + 1) fun x5_13 =>
      sX0_exchangeAt_L33 n st_11 x1 x2 x3 x4 x5_13)
def sX0_exchangeAt_L61 : Nat → St → Int32 → Int32 → Int32 → Int32 → Int32 → Option (St)
  | 0, _, _, _, _, _, _ => none
  | n + 1, st, x1, x2, x3, x4, x5 =>
    if x3 ≤ x5 then (
      some st)
    else (
      gd x5 2560 <|
      ob (sX0_sinkIfFree st (gI 15 st x5) x1) fun st_16 =>
      lt (x5 + 1) fun x5_18 =>
      sX0_exchangeAt_L61 n st_16 x1 x2 x3 x4 x5_18)
def sX0_exchangeAt_L88 : Nat → St → Int32 → Int32 → Int32 → Int32 → Int32 → Option (St)
  | 0, _, _, _, _, _, _ => none
  | n + 1, st, x1, x2, x3, x4, x5 =>
    if x3 ≤ x5 then (
      some st)
    else (
      gd x5 2560 <|
      ob (sX0_levelAt st (gI 15 st x5)) fun r_22 =>
      if ¬ r_22 = x1 then (
        lt (x5 + 1) fun x5_24 =>
        sX0_exchangeAt_L88 n st x1 x2 x3 x4 x5_24)
      else (
        gd x5 2560 <|
        ob (sX0_turn st (gI 15 st x5) x1) fun st_25 =>
        lt (x5 + 1) fun x5_27 =>
        sX0_exchangeAt_L88 n st_25 x1 x2 x3 x4 x5_27))
def sX0_exchangeAt_L130 : Nat → St → Int32 → Int32 → Int32 → Int32 → Option (St)
  | 0, _, _, _, _, _ => none
  | n + 1, st, x1, x2, x4, x5 =>
    if x4 ≤ x5 then (
      some st)
    else (
      gd x5 2560 <|
      ob (sX0_drop 12 st (gI 15 st x5) (0 : Int32)) fun st_30 =>
      lt (x5 + 1) fun x5_32 =>
      sX0_exchangeAt_L130 n st_30 x1 x2 x4 x5_32)
def sX0_exchangeAt (st : St) (x1 : Int32) : Option (St) :=
  lt ((x1 + (1 : Int32))) fun x2_1 =>
  if x1 < 0 then (
    some st)
  else (
    if x2_1 < (10 : Int32) then (
      ob2 (sX0_takeAll st x1 (0 : Int32)) fun r_6 st_4 =>
      ob2 (sX0_takeAll st_4 x2_1 r_6) fun r_9 st_7 =>
      ob (sX0_exchangeAt_L33 FU st_7 x1 x2_1 r_6 r_9 r_6) fun st_14 =>
      ob (sX0_exchangeAt_L61 FU st_14 x1 x2_1 r_6 r_9 (0 : Int32)) fun st_19 =>
      ob (sX0_exchangeAt_L88 FU st_19 x1 x2_1 r_6 r_9 (0 : Int32)) fun st_28 =>
      ob (sX0_exchangeAt_L130 FU st_28 x1 x2_1 r_9 r_6) fun st_33 =>
      gd x1 10 <|
      lt ((gI 4 st_33 x1)) fun x5_34 =>
      gd x2_1 10 <|
      gd x1 10 <|
      lt (sI 4 st_33 x1 (gI 4 st_33 x2_1)) fun st_35 =>
      gd x2_1 10 <|
      lt (sI 4 st_35 x2_1 x5_34) fun st_36 =>
      some st_36)
    else (
      some st))
/-- Trellis$Diagram.lift(II)V -/
def sX0_lift_L6 : Nat → St → Int32 → Int32 → Option (St)
  | 0, _, _, _ => none
  | n + 1, st, x2, x3 =>
    if x3 ≤ x2 then (
      some st)
    else (
      if x3 ≤ 0 then (
        some st)
      else (
        ob (sX0_exchangeAt st (x3 - (1 : Int32))) fun st_5 =>
        lt (x3 + (-1)) fun x3_7 =>
        sX0_lift_L6 n st_5 x2 x3_7))
def sX0_lift (st : St) (x1 : Int32) (x2 : Int32) : Option (St) :=
  ob (sX0_levelOf st x1) fun r_2 =>
  ob (sX0_lift_L6 FU st x2 r_2) fun st_8 =>
  some st_8
/-- Trellis$Diagram.walk()I -/
def sX0_walk_L8 : Nat → St → Int32 → Int32 → Int32 → Option (St × Int32)
  | 0, _, _, _, _ => none
  | n + 1, st, x1, x2, x3 =>
    if (10 : Int32) ≤ x3 then (
      some (st, x1))
    else (
      if x2 ≤ (gF 1 st) then (
        ob (sX0_exchangeAt st x3) fun st_3 =>
        lt (x3 + 1) fun x3_5 =>
        sX0_walk_L8 n st_3 x1 x2 x3_5)
      else (
        lt ((gF 1 st)) fun x2_6 =>
        ob (sX0_exchangeAt st x3) fun st_7 =>
        lt (x3 + 1) fun x3_9 =>
        sX0_walk_L8 n st_7 x3 x2_6 x3_9))
def sX0_walk (st : St)  : Option (Int32 × St) :=
  ob2 (sX0_walk_L8 FU st (0 : Int32) (401 : Int32) (0 : Int32)) fun st_10 x1_11 =>
  some (x1_11, st_10)
/-- Trellis$Table.wordOfVariable(II)J -/
def sX2_wordOfVariable (st : St) (x0 : Int32) (x1 : Int32) : Option (Int64) :=
  if x0 < 0 then (
    if ¬ ((x1 >>> ((x0 - (6 : Int32)) &&& 31)) &&& (1 : Int32)) = (1 : Int32) then (
      some (0 : Int64))
    else (
      some (-1 : Int64)))
  else (
    if (6 : Int32) ≤ x0 then (
      if ¬ ((x1 >>> ((x0 - (6 : Int32)) &&& 31)) &&& (1 : Int32)) = (1 : Int32) then (
        some (0 : Int64))
      else (
        some (-1 : Int64)))
    else (
      gd x0 6 <|
      some (pat x0.toNatClampNeg)))
/-- Trellis$Orders.putTo(JIZ)J -/
def sX1_putTo (st : St) (x0 : Int64) (x2 : Int32) (x3 : Int32) : Option (Int64) :=
  lt (((1 : Int32) <<< (x2 &&& 31))) fun x4_1 =>
  ob (sX2_wordOfVariable st x2 (0 : Int32)) fun r_3 =>
  if x3 = 0 then (
    lt ((x0 &&& (r_3 ^^^ (-1 : Int64)))) fun x7_5 =>
    some (x7_5 ||| (lshl x7_5 x4_1)))
  else (
    lt ((x0 &&& r_3)) fun x7_6 =>
    some (x7_6 ||| (lush x7_6 x4_1)))
/-- Trellis$Orders.keep(IJ)I -/
def sX1_keep_L3 : Nat → St → Int32 → Int64 → Int32 → Option ((Int32 × St) ⊕ (Unit))
  | 0, _, _, _, _ => none
  | n + 1, st, x1, x2, x4 =>
    if x1 ≤ x4 then (
      some (.inr ()))
    else (
      gd x4 64 <|
      if ¬ (lg_cmp (gL 16 st x4) x2) = 0 then (
        lt (x4 + 1) fun x4_3 =>
        sX1_keep_L3 n st x1 x2 x4_3)
      else (
        some (.inl (x1, st))))
def sX1_keep (st : St) (x1 : Int32) (x2 : Int64) : Option (Int32 × St) :=
  obS (sX1_keep_L3 FU st x1 x2 (0 : Int32)) (fun a => some a) fun _ =>
    if x1 < (64 : Int32) then (
      gd x1 64 <|
      lt (sL 16 st x1 x2) fun st_7 =>
      some ((x1 + (1 : Int32)), st_7))
    else (
      some (x1, st))
/-- Trellis$Orders.splitAll(II)I -/
def sX1_splitAll_L5 : Nat → St → Int32 → Int32 → Int32 → Int32 → Option (St × Int32)
  | 0, _, _, _, _, _ => none
  | n + 1, st, x1, x2, x3, x4 =>
    if x1 ≤ x4 then (
      some (st, x3))
    else (
      gd x4 64 <|
      ob (sX1_putTo st (gL 15 st x4) x2 (0 : Int32)) fun r_3 =>
      ob2 (sX1_keep st x3 r_3) fun r_6 st_4 =>
      gd x4 64 <|
      ob (sX1_putTo st_4 (gL 15 st_4 x4) x2 (1 : Int32)) fun r_8 =>
      ob2 (sX1_keep st_4 r_6 r_8) fun r_11 st_9 =>
      lt (x4 + 1) fun x4_12 =>
      sX1_splitAll_L5 n st_9 x1 x2 r_11 x4_12)
def sX1_splitAll (st : St) (x1 : Int32) (x2 : Int32) : Option (Int32 × St) :=
  ob2 (sX1_splitAll_L5 FU st x1 x2 (0 : Int32) (0 : Int32)) fun st_13 x3_14 =>
  gd (0 : Int32) 65 <|
  gd (0 : Int32) 65 <|
  gd x3_14 65 <|
  if (0 : Int32).toNatClampNeg + x3_14.toNatClampNeg ≤ 64 ∧ (0 : Int32).toNatClampNeg + x3_14.toNatClampNeg ≤ 64 then (
  lt (cL 16 15 st_13 (0 : Int32) (0 : Int32) x3_14) fun st_15 =>
    some (x3_14, st_15))
  else none
/-- Trellis$Orders.partsOf(JI)I -/
def sX1_partsOf_L13 : Nat → St → Int32 → Int32 → Int32 → Option (St × Int32)
  | 0, _, _, _, _ => none
  | n + 1, st, x3, x4, x5 =>
    if (6 : Int32) ≤ x5 then (
      some (st, x4))
    else (
      if ¬ ((x3 >>> (x5 &&& 31)) &&& (1 : Int32)) = (1 : Int32) then (
        lt (x5 + 1) fun x5_4 =>
        sX1_partsOf_L13 n st x3 x4 x5_4)
      else (
        ob2 (sX1_splitAll st x4 x5) fun r_7 st_5 =>
        lt (x5 + 1) fun x5_8 =>
        sX1_partsOf_L13 n st_5 x3 r_7 x5_8))
def sX1_partsOf (st : St) (x1 : Int64) (x3 : Int32) : Option (Int32 × St) :=
  gd (0 : Int32) 64 <|
  lt (sL 15 st (0 : Int32) x1) fun st_1 =>
  ob2 (sX1_partsOf_L13 FU st_1 x3 (1 : Int32) (0 : Int32)) fun st_9 x4_10 =>
  some (x4_10, st_9)
/-- Trellis$Orders.dependent(II)I -/
def sX1_dependent_L5 : Nat → St → Int32 → Int32 → Int32 → Int32 → Option (Int32)
  | 0, _, _, _, _, _ => none
  | n + 1, st, x1, x2, x3, x4 =>
    if x1 ≤ x4 then (
      some x3)
    else (
      gd x4 64 <|
      ob (sX1_putTo st (gL 15 st x4) x2 (0 : Int32)) fun r_3 =>
      gd x4 64 <|
      ob (sX1_putTo st (gL 15 st x4) x2 (1 : Int32)) fun r_5 =>
      if (lg_cmp r_3 r_5) = 0 then (
        lt (x4 + 1) fun x4_7 =>
        sX1_dependent_L5 n st x1 x2 x3 x4_7)
      else (
        lt (x3 + 1) fun x3_8 =>
        lt (x4 + 1) fun x4_9 =>
        sX1_dependent_L5 n st x1 x2 x3_8 x4_9))
def sX1_dependent (st : St) (x1 : Int32) (x2 : Int32) : Option (Int32) :=
  ob (sX1_dependent_L5 FU st x1 x2 (0 : Int32) (0 : Int32)) fun x3_10 =>
  some x3_10
/-- Trellis$Orders.leastNodes(JI)I -/
def sX1_leastNodes_L13 : Nat → St → Int64 → Int32 → Int32 → Option (St)
  | 0, _, _, _, _ => none
  | n + 1, st, x1, x4, x5 =>
    if x4 ≤ x5 then (
      some st)
    else (
      gd x5 64 <|
      lt (sI 17 st x5 (1000 : Int32)) fun st_3 =>
      lt (x5 + 1) fun x5_4 =>
      sX1_leastNodes_L13 n st_3 x1 x4 x5_4)
def sX1_leastNodes_L65 : Nat → St → Int64 → Int32 → Int32 → Int32 → Int32 → Option (St)
  | 0, _, _, _, _, _, _ => none
  | n + 1, st, x1, x4, x5, x6, x7 =>
    if (6 : Int32) ≤ x7 then (
      some st)
    else (
      if x4 ≤ ((1 : Int32) <<< (x7 &&& 31)) then (
        some st)
      else (
        lt ((x5 ||| ((1 : Int32) <<< (x7 &&& 31)))) fun x8_13 =>
        if x8_13 = x5 then (
          lt (x7 + 1) fun x7_15 =>
          sX1_leastNodes_L65 n st x1 x4 x5 x6 x7_15)
        else (
          gd x8_13 64 <|
          gd x5 64 <|
          ob (sX1_dependent st x6 x7) fun r_17 =>
          gd x8_13 64 <|
          lt (sI 17 st x8_13 (imin (gI 17 st x8_13) ((gI 17 st x5) + r_17))) fun st_18 =>
          lt (x7 + 1) fun x7_19 =>
          sX1_leastNodes_L65 n st_18 x1 x4 x5 x6 x7_19)))
def sX1_leastNodes_L46 : Nat → St → Int64 → Int32 → Int32 → Option (St)
  | 0, _, _, _, _ => none
  | n + 1, st, x1, x4, x5 =>
    if x4 ≤ x5 then (
      some st)
    else (
      ob2 (sX1_partsOf st x1 x5) fun r_10 st_8 =>
      ob (sX1_leastNodes_L65 FU st_8 x1 x4 x5 r_10 (0 : Int32)) fun st_20 =>
      lt (x5 + 1) fun x5_21 =>
      sX1_leastNodes_L46 n st_20 x1 x4 x5_21)
def sX1_leastNodes (st : St) (x1 : Int64) (x3 : Int32) : Option (Int32 × St) :=
  lt (((1 : Int32) <<< ((imin x3 (6 : Int32)) &&& 31))) fun x4_1 =>
  ob (sX1_leastNodes_L13 FU st x1 x4_1 (1 : Int32)) fun st_5 =>
  gd (0 : Int32) 64 <|
  lt (sI 17 st_5 (0 : Int32) (0 : Int32)) fun st_6 =>
  ob (sX1_leastNodes_L46 FU st_6 x1 x4_1 (0 : Int32)) fun st_22 =>
  gd (x4_1 - (1 : Int32)) 64 <|
  some ((gI 17 st_22 (x4_1 - (1 : Int32))), st_22)
/-- Trellis$Table.wordByTable(JJI)J -/
def sX2_wordByTable (st : St) (x0 : Int64) (x2 : Int64) (x4 : Int32) : Option (Int64) :=
  if (x4 &&& (1 : Int32)) = 0 then (
    if (x4 &&& (2 : Int32)) = 0 then (
      if (x4 &&& (4 : Int32)) = 0 then (
        if (x4 &&& (8 : Int32)) = 0 then (
          some (0 : Int64))
        else (
          lt (((0 : Int64) ||| (x0 &&& x2))) fun x5_5 =>
          some x5_5))
      else (
        lt (((0 : Int64) ||| (x0 &&& (x2 ^^^ (-1 : Int64))))) fun x5_6 =>
        if (x4 &&& (8 : Int32)) = 0 then (
          some x5_6)
        else (
          lt ((x5_6 ||| (x0 &&& x2))) fun x5_8 =>
          some x5_8)))
    else (
      lt (((0 : Int64) ||| ((x0 ^^^ (-1 : Int64)) &&& x2))) fun x5_9 =>
      if (x4 &&& (4 : Int32)) = 0 then (
        if (x4 &&& (8 : Int32)) = 0 then (
          some x5_9)
        else (
          lt ((x5_9 ||| (x0 &&& x2))) fun x5_12 =>
          some x5_12))
      else (
        lt ((x5_9 ||| (x0 &&& (x2 ^^^ (-1 : Int64))))) fun x5_13 =>
        if (x4 &&& (8 : Int32)) = 0 then (
          some x5_13)
        else (
          lt ((x5_13 ||| (x0 &&& x2))) fun x5_15 =>
          some x5_15))))
  else (
    lt (((0 : Int64) ||| ((x0 ^^^ (-1 : Int64)) &&& (x2 ^^^ (-1 : Int64))))) fun x5_16 =>
    if (x4 &&& (2 : Int32)) = 0 then (
      if (x4 &&& (4 : Int32)) = 0 then (
        if (x4 &&& (8 : Int32)) = 0 then (
          some x5_16)
        else (
          lt ((x5_16 ||| (x0 &&& x2))) fun x5_20 =>
          some x5_20))
      else (
        lt ((x5_16 ||| (x0 &&& (x2 ^^^ (-1 : Int64))))) fun x5_21 =>
        if (x4 &&& (8 : Int32)) = 0 then (
          some x5_21)
        else (
          lt ((x5_21 ||| (x0 &&& x2))) fun x5_23 =>
          some x5_23)))
    else (
      lt ((x5_16 ||| ((x0 ^^^ (-1 : Int64)) &&& x2))) fun x5_24 =>
      if (x4 &&& (4 : Int32)) = 0 then (
        if (x4 &&& (8 : Int32)) = 0 then (
          some x5_24)
        else (
          lt ((x5_24 ||| (x0 &&& x2))) fun x5_27 =>
          some x5_27))
      else (
        lt ((x5_24 ||| (x0 &&& (x2 ^^^ (-1 : Int64))))) fun x5_28 =>
        if (x4 &&& (8 : Int32)) = 0 then (
          some x5_28)
        else (
          lt ((x5_28 ||| (x0 &&& x2))) fun x5_30 =>
          some x5_30))))
/-- Trellis$Table.wordAcross(II)J -/
def sX2_wordAcross (st : St) (t0 : Nat) (x1 : Int32) (x2 : Int32) : Option (Int64) :=
  if x1 < 0 then (
    lt ((x2 ^^^ ((1 : Int32) <<< ((x1 - (6 : Int32)) &&& 31)))) fun x3_2 =>
    if x3_2 < 0 then (
      some (0 : Int64))
    else (
      if (16 : Int32) ≤ x3_2 then (
        some (0 : Int64))
      else (
        gd x3_2 16 <|
        some (gL t0 st x3_2))))
  else (
    if (6 : Int32) ≤ x1 then (
      lt ((x2 ^^^ ((1 : Int32) <<< ((x1 - (6 : Int32)) &&& 31)))) fun x3_6 =>
      if x3_6 < 0 then (
        some (0 : Int64))
      else (
        if (16 : Int32) ≤ x3_6 then (
          some (0 : Int64))
        else (
          gd x3_6 16 <|
          some (gL t0 st x3_6))))
    else (
      lt (((1 : Int32) <<< (x1 &&& 31))) fun x3_9 =>
      gd x1 6 <|
      lt ((pat x1.toNatClampNeg)) fun x4_11 =>
      gd x2 16 <|
      gd x2 16 <|
      some ((lush ((gL t0 st x2) &&& x4_11) x3_9) ||| ((lshl (gL t0 st x2) x3_9) &&& x4_11))))
/-- Trellis$Table.wordWith(IZI)J -/
def sX2_wordWith (st : St) (t0 : Nat) (x1 : Int32) (x2 : Int32) (x3 : Int32) : Option (Int64) :=
  ob (sX2_wordOfVariable st x1 x3) fun r_2 =>
  if x2 = 0 then (
    lt ((r_2 ^^^ (-1 : Int64))) fun x6_4 =>
    gd x3 16 <|
    ob (sX2_wordAcross st t0 x1 x3) fun r_6 =>
    some (((gL t0 st x3) &&& x6_4) ||| (r_6 &&& (x6_4 ^^^ (-1 : Int64)))))
  else (
    gd x3 16 <|
    ob (sX2_wordAcross st t0 x1 x3) fun r_8 =>
    some (((gL t0 st x3) &&& r_2) ||| (r_8 &&& (r_2 ^^^ (-1 : Int64)))))
/-- Trellis$Table.copy(LTrellis$Table;)V -/
def sX2_copy (st : St) (t0 : Nat) (t1 : Nat) : Option (St) :=
  gd (0 : Int32) 17 <|
  gd (0 : Int32) 17 <|
  gd (16 : Int32) 17 <|
  if (0 : Int32).toNatClampNeg + (16 : Int32).toNatClampNeg ≤ 16 ∧ (0 : Int32).toNatClampNeg + (16 : Int32).toNatClampNeg ≤ 16 then (
  lt (cL t1 t0 st (0 : Int32) (0 : Int32) (16 : Int32)) fun st_1 =>
    some st_1)
  else none
/-- java/lang/Long.bitCount(J)I -/
def sJ13_bitCount_95d88 (st : St) (x0 : Int64) : Option (Int32) :=
  lt ((x0 - ((lush x0 (1 : Int32)) &&& (6148914691236517205 : Int64)))) fun x0_1 =>
  lt (((x0_1 &&& (3689348814741910323 : Int64)) + ((lush x0_1 (2 : Int32)) &&& (3689348814741910323 : Int64)))) fun x0_2 =>
  lt (((x0_2 + (lush x0_2 (4 : Int32))) &&& (1085102592571150095 : Int64))) fun x0_3 =>
  lt ((x0_3 + (lush x0_3 (8 : Int32)))) fun x0_4 =>
  lt ((x0_4 + (lush x0_4 (16 : Int32)))) fun x0_5 =>
  lt ((x0_5 + (lush x0_5 (32 : Int32)))) fun x0_6 =>
  some (x0_6.toInt32 &&& (127 : Int32))
/-- Trellis$Table.count()I -/
def sX2_count_L4 : Nat → St → Nat → Int32 → Int32 → Option (Int32)
  | 0, _, _, _, _ => none
  | n + 1, st, t0, x1, x2 =>
    if (16 : Int32) ≤ x2 then (
      some x1)
    else (
      gd x2 16 <|
      ob (sJ13_bitCount_95d88 st (gL t0 st x2)) fun r_3 =>
      lt ((x1 + r_3)) fun x1_4 =>
      lt (x2 + 1) fun x2_5 =>
      sX2_count_L4 n st t0 x1_4 x2_5)
def sX2_count (st : St) (t0 : Nat) : Option (Int32) :=
  ob (sX2_count_L4 FU st t0 (0 : Int32) (0 : Int32)) fun x1_6 =>
  some x1_6
/-- Trellis$Table.nthInWord(JI)I -/
def sX2_nthInWord_L5 : Nat → St → Int32 → Int64 → Int32 → Option (Int64)
  | 0, _, _, _, _ => none
  | n + 1, st, x2, x3, x5 =>
    if x2 ≤ x5 then (
      some x3)
    else (
      lt ((x3 &&& (x3 - (1 : Int64)))) fun x3_2 =>
      lt (x5 + 1) fun x5_3 =>
      sX2_nthInWord_L5 n st x2 x3_2 x5_3)
def sX2_nthInWord (st : St) (x0 : Int64) (x2 : Int32) : Option (Int32) :=
  ob (sX2_nthInWord_L5 FU st x2 x0 (0 : Int32)) fun x3_4 =>
  ob (sJ13_bitCount_95d88 st ((x3_4 ^^^ (-1 : Int64)) &&& (x3_4 - (1 : Int64)))) fun r_6 =>
  some r_6
/-- Trellis$Table.nth(I)I -/
def sX2_nth_L4 : Nat → St → Nat → Int32 → Int32 → Option ((Int32) ⊕ (Unit))
  | 0, _, _, _, _ => none
  | n + 1, st, t0, x2, x3 =>
    if (16 : Int32) ≤ x3 then (
      some (.inr ()))
    else (
      gd x3 16 <|
      ob (sJ13_bitCount_95d88 st (gL t0 st x3)) fun r_3 =>
      if r_3 ≤ x2 then (
        lt ((x2 - r_3)) fun x2_5 =>
        lt (x3 + 1) fun x3_6 =>
        sX2_nth_L4 n st t0 x2_5 x3_6)
      else (
        gd x3 16 <|
        ob (sX2_nthInWord st (gL t0 st x3) x2) fun r_8 =>
        some (.inl ((x3 * (64 : Int32)) + r_8))))
def sX2_nth (st : St) (t0 : Nat) (x1 : Int32) : Option (Int32) :=
  obS (sX2_nth_L4 FU st t0 x1 (0 : Int32)) (fun a => some a) fun _ =>
    some (-1 : Int32)
/-- Trellis$Table.changes(I)I -/
def sX2_changes_L4 : Nat → St → Nat → Int32 → Int32 → Int32 → Option (Int32)
  | 0, _, _, _, _, _ => none
  | n + 1, st, t0, x1, x2, x3 =>
    if (16 : Int32) ≤ x3 then (
      some x2)
    else (
      gd x3 16 <|
      ob (sX2_wordAcross st t0 x1 x3) fun r_3 =>
      ob (sJ13_bitCount_95d88 st ((gL t0 st x3) ^^^ r_3)) fun r_5 =>
      lt ((x2 + r_5)) fun x2_6 =>
      lt (x3 + 1) fun x3_7 =>
      sX2_changes_L4 n st t0 x1 x2_6 x3_7)
def sX2_changes (st : St) (t0 : Nat) (x1 : Int32) : Option (Int32) :=
  ob (sX2_changes_L4 FU st t0 x1 (0 : Int32) (0 : Int32)) fun x2_8 =>
  some x2_8
/-- Trellis$Table.isMovedBy(I)Z -/
def sX2_isMovedBy_L2 : Nat → St → Nat → Int32 → Int32 → Option ((Int32) ⊕ (Unit))
  | 0, _, _, _, _ => none
  | n + 1, st, t0, x1, x2 =>
    if (16 : Int32) ≤ x2 then (
      some (.inr ()))
    else (
      gd x2 16 <|
      ob (sX2_wordAcross st t0 x1 x2) fun r_3 =>
      if (lg_cmp (gL t0 st x2) r_3) = 0 then (
        lt (x2 + 1) fun x2_5 =>
        sX2_isMovedBy_L2 n st t0 x1 x2_5)
      else (
        some (.inl (1 : Int32))))
def sX2_isMovedBy (st : St) (t0 : Nat) (x1 : Int32) : Option (Int32) :=
  obS (sX2_isMovedBy_L2 FU st t0 x1 (0 : Int32)) (fun a => some a) fun _ =>
    some (0 : Int32)
/-- Trellis$Table.dependsOn()I -/
def sX2_dependsOn_L4 : Nat → St → Nat → Int32 → Int32 → Option (Int32)
  | 0, _, _, _, _ => none
  | n + 1, st, t0, x1, x2 =>
    if (10 : Int32) ≤ x2 then (
      some x1)
    else (
      ob (sX2_isMovedBy st t0 x2) fun r_3 =>
      if r_3 = 0 then (
        lt (x2 + 1) fun x2_5 =>
        sX2_dependsOn_L4 n st t0 x1 x2_5)
      else (
        lt ((x1 ||| ((1 : Int32) <<< (x2 &&& 31)))) fun x1_6 =>
        lt (x2 + 1) fun x2_7 =>
        sX2_dependsOn_L4 n st t0 x1_6 x2_7))
def sX2_dependsOn (st : St) (t0 : Nat) : Option (Int32) :=
  ob (sX2_dependsOn_L4 FU st t0 (0 : Int32) (0 : Int32)) fun x1_8 =>
  some x1_8
/-- Trellis$Table.fold(IILTrellis$Table;)V -/
def sX2_fold_L8 : Nat → St → Nat → Int32 → Int32 → Nat → Int32 → Option (St)
  | 0, _, _, _, _, _, _ => none
  | n + 1, st, t0, x1, x2, t3, x4 =>
    if (16 : Int32) ≤ x4 then (
      some st)
    else (
      gd x4 16 <|
      lt ((gL t3 st x4)) fun x5_4 =>
      ob (sX2_wordAcross st t3 x1 x4) fun r_6 =>
      if ¬ x2 = 0 then (
        if ¬ x2 = (1 : Int32) then (
          gd x4 16 <|
          lt (sL t0 st x4 (x5_4 ^^^ r_6)) fun st_9 =>
          lt (x4 + 1) fun x4_10 =>
          sX2_fold_L8 n st_9 t0 x1 x2 t3 x4_10)
        else (
          gd x4 16 <|
          lt (sL t0 st x4 (x5_4 &&& r_6)) fun st_11 =>
          lt (x4 + 1) fun x4_12 =>
          sX2_fold_L8 n st_11 t0 x1 x2 t3 x4_12))
      else (
        gd x4 16 <|
        lt (sL t0 st x4 (x5_4 ||| r_6)) fun st_13 =>
        lt (x4 + 1) fun x4_14 =>
        sX2_fold_L8 n st_13 t0 x1 x2 t3 x4_14))
def sX2_fold (st : St) (t0 : Nat) (x1 : Int32) (x2 : Int32) (t3 : Nat) : Option (St) :=
  ob (sX2_copy st t3 t0) fun st_1 =>
  ob (sX2_fold_L8 FU st_1 t0 x1 x2 t3 (0 : Int32)) fun st_15 =>
  some st_15
/-- Trellis$Table.foldSet(IILTrellis$Table;)V -/
def sX2_foldSet_L3 : Nat → St → Nat → Int32 → Int32 → Nat → Int32 → Option (St)
  | 0, _, _, _, _, _, _ => none
  | n + 1, st, t0, x1, x2, t3, x4 =>
    if (10 : Int32) ≤ x4 then (
      some st)
    else (
      if ¬ ((x1 >>> (x4 &&& 31)) &&& (1 : Int32)) = (1 : Int32) then (
        lt (x4 + 1) fun x4_3 =>
        sX2_foldSet_L3 n st t0 x1 x2 t3 x4_3)
      else (
        ob (sX2_fold st t0 x4 x2 t3) fun st_4 =>
        lt (x4 + 1) fun x4_6 =>
        sX2_foldSet_L3 n st_4 t0 x1 x2 t3 x4_6))
def sX2_foldSet (st : St) (t0 : Nat) (x1 : Int32) (x2 : Int32) (t3 : Nat) : Option (St) :=
  ob (sX2_foldSet_L3 FU st t0 x1 x2 t3 (0 : Int32)) fun st_7 =>
  some st_7
/-- Trellis$Table.lean(LTrellis$Table;ILTrellis$Table;)V -/
def sX2_lean_L8 : Nat → St → Nat → Nat → Int32 → Nat → Int32 → Option (St)
  | 0, _, _, _, _, _, _ => none
  | n + 1, st, t0, t1, x2, t3, x4 =>
    if (16 : Int32) ≤ x4 then (
      some st)
    else (
      gd x4 16 <|
      lt ((gL t1 st x4)) fun x5_4 =>
      gd x4 16 <|
      ob (sX2_wordAcross st t3 x2 x4) fun r_6 =>
      gd x4 16 <|
      lt (sL t0 st x4 (((gL t3 st x4) &&& x5_4) ||| (r_6 &&& (x5_4 ^^^ (-1 : Int64))))) fun st_7 =>
      lt (x4 + 1) fun x4_8 =>
      sX2_lean_L8 n st_7 t0 t1 x2 t3 x4_8)
def sX2_lean (st : St) (t0 : Nat) (t1 : Nat) (x2 : Int32) (t3 : Nat) : Option (St) :=
  ob (sX2_copy st t3 t0) fun st_1 =>
  ob (sX2_lean_L8 FU st_1 t0 t1 x2 t3 (0 : Int32)) fun st_9 =>
  some st_9
/-- Trellis$Table.crossed(LTrellis$Table;IILTrellis$Table;)V -/
def sX2_crossed_L3 : Nat → St → Nat → Nat → Int32 → Int32 → Nat → Int32 → Option (St)
  | 0, _, _, _, _, _, _, _ => none
  | n + 1, st, t0, t1, x2, x3, t4, x5 =>
    if (16 : Int32) ≤ x5 then (
      some st)
    else (
      ob (sX2_wordAcross st t1 x2 x5) fun r_3 =>
      gd x5 16 <|
      lt (sL t4 st x5 r_3) fun st_4 =>
      lt (x5 + 1) fun x5_5 =>
      sX2_crossed_L3 n st_4 t0 t1 x2 x3 t4 x5_5)
def sX2_crossed_L34 : Nat → St → Nat → Nat → Int32 → Int32 → Nat → Int32 → Option (St)
  | 0, _, _, _, _, _, _, _ => none
  | n + 1, st, t0, t1, x2, x3, t4, x5 =>
    if (16 : Int32) ≤ x5 then (
      some st)
    else (
      ob (sX2_wordOfVariable st x2 x5) fun r_9 =>
      ob (sX2_wordOfVariable st x3 x5) fun r_11 =>
      lt ((r_9 ^^^ r_11)) fun x6_12 =>
      gd x5 16 <|
      ob (sX2_wordAcross st t4 x3 x5) fun r_14 =>
      gd x5 16 <|
      lt (sL t0 st x5 (((gL t1 st x5) &&& (x6_12 ^^^ (-1 : Int64))) ||| (r_14 &&& x6_12))) fun st_15 =>
      lt (x5 + 1) fun x5_16 =>
      sX2_crossed_L34 n st_15 t0 t1 x2 x3 t4 x5_16)
def sX2_crossed (st : St) (t0 : Nat) (t1 : Nat) (x2 : Int32) (x3 : Int32) (t4 : Nat) : Option (St) :=
  ob (sX2_crossed_L3 FU st t0 t1 x2 x3 t4 (0 : Int32)) fun st_6 =>
  ob (sX2_crossed_L34 FU st_6 t0 t1 x2 x3 t4 (0 : Int32)) fun st_17 =>
  some st_17
/-- Trellis$Table.packed(I)J -/
def sX2_packed_L8 : Nat → St → Nat → Int32 → Int64 → Int32 → Int32 → Option (Int64)
  | 0, _, _, _, _, _, _ => none
  | n + 1, st, t0, x1, x2, x4, x5 =>
    if (64 : Int32) ≤ x5 then (
      some x2)
    else (
      ob (sX2_tells st t0 x4) fun r_3 =>
      if r_3 = 0 then (
        lt (((x4 - x1) &&& x1)) fun x4_5 =>
        lt (x5 + 1) fun x5_6 =>
        sX2_packed_L8 n st t0 x1 x2 x4_5 x5_6)
      else (
        lt ((x2 ||| (lshl (1 : Int64) x5))) fun x2_7 =>
        lt (((x4 - x1) &&& x1)) fun x4_8 =>
        lt (x5 + 1) fun x5_9 =>
        sX2_packed_L8 n st t0 x1 x2_7 x4_8 x5_9))
def sX2_packed (st : St) (t0 : Nat) (x1 : Int32) : Option (Int64) :=
  ob (sX2_packed_L8 FU st t0 x1 (0 : Int64) (0 : Int32) (0 : Int32)) fun x2_10 =>
  some x2_10
/-- Trellis.checkSlot(I)V -/
def sX3_checkSlot (st : St) (x0 : Int32) : Option (Unit) :=
  if x0 < 0 then (
    none)
  else (
    if x0 < (12 : Int32) then (
      some ())
    else (
      none))
/-- Trellis.checkVariable(I)V -/
def sX3_checkVariable (st : St) (x0 : Int32) : Option (Unit) :=
  if x0 < 0 then (
    none)
  else (
    if x0 < (10 : Int32) then (
      some ())
    else (
      none))
/-- Trellis.place(I)I -/
def sX3_place (st : St) (x1 : Int32) : Option (Int32 × St) :=
  ob (sX2_dependsOn st 12) fun r_2 =>
  ob2 (sX0_build st 12 r_2) fun r_5 st_3 =>
  ob (sX0_setRoot st_3 x1 r_5) fun st_6 =>
  ob (sX0_count st_6) fun r_9 =>
  if r_9 ≤ (400 : Int32) then (
    gd x1 12 <|
    ob (sX2_copy st_6 x1.toNatClampNeg 12) fun st_12 =>
    gd x1 12 <|
    lt (sI 0 st_12 x1 r_2) fun st_14 =>
    ob2 (sX0_countFrom st_14 x1 x1) fun r_17 st_15 =>
    some (r_17, st_15))
  else (
    gd x1 12 <|
    gd x1 12 <|
    ob2 (sX0_build st_6 x1.toNatClampNeg (gI 0 st_6 x1)) fun r_21 st_19 =>
    ob (sX0_setRoot st_19 x1 r_21) fun st_22 =>
    some ((-1 : Int32), st_22))
/-- Trellis.variable(II)I -/
def sX3_variable_L10 : Nat → St → Int32 → Int32 → Int32 → Option (St)
  | 0, _, _, _, _ => none
  | n + 1, st, x1, x2, x3 =>
    if (16 : Int32) ≤ x3 then (
      some st)
    else (
      ob (sX2_wordOfVariable st x2 x3) fun r_5 =>
      gd x3 16 <|
      lt (sL 12 st x3 r_5) fun st_6 =>
      lt (x3 + 1) fun x3_7 =>
      sX3_variable_L10 n st_6 x1 x2 x3_7)
def sX3_variable (st : St) (x1 : Int32) (x2 : Int32) : Option (Int32 × St) :=
  ob (sX3_checkSlot st x1) fun _ =>
  ob (sX3_checkVariable st x2) fun _ =>
  ob (sX3_variable_L10 FU st x1 x2 (0 : Int32)) fun st_8 =>
  ob2 (sX3_place st_8 x1) fun r_11 st_9 =>
  some (r_11, st_9)
/-- Trellis.apply(IIII)I -/
def sX3_apply_L59 : Nat → St → Int32 → Int32 → Nat → Nat → Int32 → Option (St)
  | 0, _, _, _, _, _, _ => none
  | n + 1, st, x1, x4, t5, t6, x7 =>
    if (16 : Int32) ≤ x7 then (
      some st)
    else (
      gd x7 16 <|
      gd x7 16 <|
      ob (sX2_wordByTable st (gL t5 st x7) (gL t6 st x7) x4) fun r_10 =>
      gd x7 16 <|
      lt (sL 12 st x7 r_10) fun st_11 =>
      lt (x7 + 1) fun x7_12 =>
      sX3_apply_L59 n st_11 x1 x4 t5 t6 x7_12)
def sX3_apply (st : St) (x1 : Int32) (x2 : Int32) (x3 : Int32) (x4 : Int32) : Option (Int32 × St) :=
  ob (sX3_checkSlot st x1) fun _ =>
  ob (sX3_checkSlot st x2) fun _ =>
  ob (sX3_checkSlot st x3) fun _ =>
  if x4 < 0 then (
    none)
  else (
    if x4 ≤ (15 : Int32) then (
      gd x2 12 <|
      gd x3 12 <|
      ob (sX3_apply_L59 FU st x1 x4 x2.toNatClampNeg x3.toNatClampNeg (0 : Int32)) fun st_13 =>
      ob2 (sX3_place st_13 x1) fun r_16 st_14 =>
      some (r_16, st_14))
    else (
      none))
/-- Trellis.choose(IIII)I -/
def sX3_choose_L54 : Nat → St → Int32 → Nat → Nat → Nat → Int32 → Option (St)
  | 0, _, _, _, _, _, _ => none
  | n + 1, st, x1, t5, t6, t7, x8 =>
    if (16 : Int32) ≤ x8 then (
      some st)
    else (
      gd x8 16 <|
      gd x8 16 <|
      gd x8 16 <|
      gd x8 16 <|
      gd x8 16 <|
      lt (sL 12 st x8 (((gL t5 st x8) &&& (gL t6 st x8)) ||| (((gL t5 st x8) ^^^ (-1 : Int64)) &&& (gL t7 st x8)))) fun st_9 =>
      lt (x8 + 1) fun x8_10 =>
      sX3_choose_L54 n st_9 x1 t5 t6 t7 x8_10)
def sX3_choose (st : St) (x1 : Int32) (x2 : Int32) (x3 : Int32) (x4 : Int32) : Option (Int32 × St) :=
  ob (sX3_checkSlot st x1) fun _ =>
  ob (sX3_checkSlot st x2) fun _ =>
  ob (sX3_checkSlot st x3) fun _ =>
  ob (sX3_checkSlot st x4) fun _ =>
  gd x2 12 <|
  gd x3 12 <|
  gd x4 12 <|
  ob (sX3_choose_L54 FU st x1 x2.toNatClampNeg x3.toNatClampNeg x4.toNatClampNeg (0 : Int32)) fun st_11 =>
  ob2 (sX3_place st_11 x1) fun r_14 st_12 =>
  some (r_14, st_12)
/-- Trellis.put(IIIZ)I -/
def sX3_put_L23 : Nat → St → Int32 → Int32 → Int32 → Nat → Int32 → Option (St)
  | 0, _, _, _, _, _, _ => none
  | n + 1, st, x1, x3, x4, t5, x6 =>
    if (16 : Int32) ≤ x6 then (
      some st)
    else (
      ob (sX2_wordWith st t5 x3 x4 x6) fun r_7 =>
      gd x6 16 <|
      lt (sL 12 st x6 r_7) fun st_8 =>
      lt (x6 + 1) fun x6_9 =>
      sX3_put_L23 n st_8 x1 x3 x4 t5 x6_9)
def sX3_put (st : St) (x1 : Int32) (x2 : Int32) (x3 : Int32) (x4 : Int32) : Option (Int32 × St) :=
  ob (sX3_checkSlot st x1) fun _ =>
  ob (sX3_checkSlot st x2) fun _ =>
  ob (sX3_checkVariable st x3) fun _ =>
  gd x2 12 <|
  ob (sX3_put_L23 FU st x1 x3 x4 x2.toNatClampNeg (0 : Int32)) fun st_10 =>
  ob2 (sX3_place st_10 x1) fun r_13 st_11 =>
  some (r_13, st_11)
/-- Trellis.compose(IIII)I -/
def sX3_compose_L40 : Nat → St → Int32 → Int32 → Nat → Nat → Int32 → Option (St)
  | 0, _, _, _, _, _, _ => none
  | n + 1, st, x1, x3, t5, t6, x7 =>
    if (16 : Int32) ≤ x7 then (
      some st)
    else (
      gd x7 16 <|
      ob (sX2_wordWith st t5 x3 (1 : Int32) x7) fun r_9 =>
      gd x7 16 <|
      ob (sX2_wordWith st t5 x3 (0 : Int32) x7) fun r_11 =>
      gd x7 16 <|
      lt (sL 12 st x7 (((gL t6 st x7) &&& r_9) ||| (((gL t6 st x7) ^^^ (-1 : Int64)) &&& r_11))) fun st_12 =>
      lt (x7 + 1) fun x7_13 =>
      sX3_compose_L40 n st_12 x1 x3 t5 t6 x7_13)
def sX3_compose (st : St) (x1 : Int32) (x2 : Int32) (x3 : Int32) (x4 : Int32) : Option (Int32 × St) :=
  ob (sX3_checkSlot st x1) fun _ =>
  ob (sX3_checkSlot st x2) fun _ =>
  ob (sX3_checkVariable st x3) fun _ =>
  ob (sX3_checkSlot st x4) fun _ =>
  gd x2 12 <|
  gd x4 12 <|
  ob (sX3_compose_L40 FU st x1 x3 x2.toNatClampNeg x4.toNatClampNeg (0 : Int32)) fun st_14 =>
  ob2 (sX3_place st_14 x1) fun r_17 st_15 =>
  some (r_17, st_15)
/-- Trellis.checkSet(I)V -/
def sX3_checkSet (st : St) (x0 : Int32) : Option (Unit) :=
  if x0 < 0 then (
    none)
  else (
    if x0 < (1024 : Int32) then (
      some ())
    else (
      none))
/-- Trellis.quantify(IIII)I -/
def sX3_quantify (st : St) (x1 : Int32) (x2 : Int32) (x3 : Int32) (x4 : Int32) : Option (Int32 × St) :=
  ob (sX3_checkSlot st x1) fun _ =>
  ob (sX3_checkSlot st x2) fun _ =>
  ob (sX3_checkSet st x3) fun _ =>
  if x4 < 0 then (
    none)
  else (
    if x4 ≤ (2 : Int32) then (
      gd x2 12 <|
      ob (sX2_copy st 12 x2.toNatClampNeg) fun st_7 =>
      ob (sX2_foldSet st_7 12 x3 x4 14) fun st_9 =>
      ob2 (sX3_place st_9 x1) fun r_13 st_11 =>
      some (r_13, st_11))
    else (
      none))
/-- Trellis.meet(IIII)I -/
def sX3_meet_L42 : Nat → St → Int32 → Int32 → Nat → Nat → Int32 → Option (St)
  | 0, _, _, _, _, _, _ => none
  | n + 1, st, x1, x4, t5, t6, x7 =>
    if (16 : Int32) ≤ x7 then (
      some st)
    else (
      gd x7 16 <|
      gd x7 16 <|
      gd x7 16 <|
      lt (sL 12 st x7 ((gL t5 st x7) &&& (gL t6 st x7))) fun st_8 =>
      lt (x7 + 1) fun x7_9 =>
      sX3_meet_L42 n st_8 x1 x4 t5 t6 x7_9)
def sX3_meet (st : St) (x1 : Int32) (x2 : Int32) (x3 : Int32) (x4 : Int32) : Option (Int32 × St) :=
  ob (sX3_checkSlot st x1) fun _ =>
  ob (sX3_checkSlot st x2) fun _ =>
  ob (sX3_checkSlot st x3) fun _ =>
  ob (sX3_checkSet st x4) fun _ =>
  gd x2 12 <|
  gd x3 12 <|
  ob (sX3_meet_L42 FU st x1 x4 x2.toNatClampNeg x3.toNatClampNeg (0 : Int32)) fun st_10 =>
  ob (sX2_foldSet st_10 12 x4 (0 : Int32) 14) fun st_11 =>
  ob2 (sX3_place st_11 x1) fun r_15 st_13 =>
  some (r_15, st_13)
/-- Trellis.exchange(IIII)I -/
def sX3_exchange (st : St) (x1 : Int32) (x2 : Int32) (x3 : Int32) (x4 : Int32) : Option (Int32 × St) :=
  ob (sX3_checkSlot st x1) fun _ =>
  ob (sX3_checkSlot st x2) fun _ =>
  ob (sX3_checkVariable st x3) fun _ =>
  ob (sX3_checkVariable st x4) fun _ =>
  gd x2 12 <|
  ob (sX2_crossed st 12 x2.toNatClampNeg x3 x4 14) fun st_6 =>
  ob2 (sX3_place st_6 x1) fun r_10 st_8 =>
  some (r_10, st_8)
/-- Trellis.press(III)I -/
def sX3_press_L64 : Nat → St → Int32 → Int32 → Option (St)
  | 0, _, _, _ => none
  | n + 1, st, x1, x4 =>
    if x4 < 0 then (
      some st)
    else (
      ob (sX0_variableOf st x4) fun r_16 =>
      ob (sX2_lean st 12 13 r_16 14) fun st_17 =>
      ob (sX2_fold st_17 13 r_16 (0 : Int32) 14) fun st_19 =>
      lt (x4 + (-1)) fun x4_21 =>
      sX3_press_L64 n st_19 x1 x4_21)
def sX3_press (st : St) (x1 : Int32) (x2 : Int32) (x3 : Int32) : Option (Int32 × St) :=
  ob (sX3_checkSlot st x1) fun _ =>
  ob (sX3_checkSlot st x2) fun _ =>
  ob (sX3_checkSlot st x3) fun _ =>
  gd x3 12 <|
  ob (sX2_count st x3.toNatClampNeg) fun r_6 =>
  if ¬ r_6 = 0 then (
    gd x2 12 <|
    ob (sX2_copy st 12 x2.toNatClampNeg) fun st_9 =>
    gd x3 12 <|
    ob (sX2_copy st_9 13 x3.toNatClampNeg) fun st_12 =>
    ob (sX3_press_L64 FU st_12 x1 (9 : Int32)) fun st_22 =>
    ob2 (sX3_place st_22 x1) fun r_25 st_23 =>
    some (r_25, st_23))
  else (
    none)
/-- Trellis.holds(II)Z -/
def sX3_holds (st : St) (x1 : Int32) (x2 : Int32) : Option (Int32) :=
  ob (sX3_checkSlot st x1) fun _ =>
  if x2 < 0 then (
    none)
  else (
    if x2 < (1024 : Int32) then (
      gd x1 12 <|
      ob (sX2_tells st x1.toNatClampNeg x2) fun r_6 =>
      gb r_6 <|
      some r_6)
    else (
      none))
/-- Trellis.models(I)I -/
def sX3_models (st : St) (x1 : Int32) : Option (Int32) :=
  ob (sX3_checkSlot st x1) fun _ =>
  gd x1 12 <|
  ob (sX2_count st x1.toNatClampNeg) fun r_4 =>
  some r_4
/-- Trellis.model(II)I -/
def sX3_model (st : St) (x1 : Int32) (x2 : Int32) : Option (Int32) :=
  ob (sX3_checkSlot st x1) fun _ =>
  if 0 ≤ x2 then (
    gd x1 12 <|
    ob (sX2_nth st x1.toNatClampNeg x2) fun r_5 =>
    some r_5)
  else (
    none)
/-- Trellis.support(I)I -/
def sX3_support (st : St) (x1 : Int32) : Option (Int32) :=
  ob (sX3_checkSlot st x1) fun _ =>
  gd x1 12 <|
  some (gI 0 st x1)
/-- Trellis.compare(II)I -/
def sX3_compare_L41 : Nat → St → Nat → Nat → Int64 → Int64 → Int64 → Int32 → Option (Int64 × Int64 × Int64)
  | 0, _, _, _, _, _, _, _ => none
  | n + 1, st, t3, t4, x5, x7, x9, x11 =>
    if (16 : Int32) ≤ x11 then (
      some (x5, x7, x9))
    else (
      gd x11 16 <|
      gd x11 16 <|
      lt ((x5 ||| ((gL t3 st x11) &&& ((gL t4 st x11) ^^^ (-1 : Int64))))) fun x5_6 =>
      gd x11 16 <|
      gd x11 16 <|
      lt ((x7 ||| ((gL t4 st x11) &&& ((gL t3 st x11) ^^^ (-1 : Int64))))) fun x7_7 =>
      gd x11 16 <|
      gd x11 16 <|
      lt ((x9 ||| ((gL t3 st x11) &&& (gL t4 st x11)))) fun x9_8 =>
      lt (x11 + 1) fun x11_9 =>
      sX3_compare_L41 n st t3 t4 x5_6 x7_7 x9_8 x11_9)
def sX3_compare (st : St) (x1 : Int32) (x2 : Int32) : Option (Int32) :=
  ob (sX3_checkSlot st x1) fun _ =>
  ob (sX3_checkSlot st x2) fun _ =>
  gd x1 12 <|
  gd x2 12 <|
  ob3 (sX3_compare_L41 FU st x1.toNatClampNeg x2.toNatClampNeg (0 : Int64) (0 : Int64) (0 : Int64) (0 : Int32)) fun x5_10 x7_11 x9_12 =>
  if ¬ (lg_cmp x5_10 (0 : Int64)) = 0 then (
    if ¬ (lg_cmp x7_11 (0 : Int64)) = 0 then (
      if ¬ (lg_cmp x9_12 (0 : Int64)) = 0 then (
        some (4 : Int32))
      else (
        some (3 : Int32)))
    else (
      some (2 : Int32)))
  else (
    if ¬ (lg_cmp x7_11 (0 : Int64)) = 0 then (
      some (1 : Int32))
    else (
      some (0 : Int32)))
/-- Trellis.trend(II)I -/
def sX3_trend_L24 : Nat → St → Int32 → Nat → Int64 → Int64 → Int32 → Option (Int64 × Int64)
  | 0, _, _, _, _, _, _ => none
  | n + 1, st, x2, t3, x4, x6, x8 =>
    if (16 : Int32) ≤ x8 then (
      some (x4, x6))
    else (
      ob (sX2_wordWith st t3 x2 (0 : Int32) x8) fun r_6 =>
      ob (sX2_wordWith st t3 x2 (1 : Int32) x8) fun r_8 =>
      lt ((x4 ||| ((r_6 ^^^ (-1 : Int64)) &&& r_8))) fun x4_9 =>
      lt ((x6 ||| (r_6 &&& (r_8 ^^^ (-1 : Int64))))) fun x6_10 =>
      lt (x8 + 1) fun x8_11 =>
      sX3_trend_L24 n st x2 t3 x4_9 x6_10 x8_11)
def sX3_trend (st : St) (x1 : Int32) (x2 : Int32) : Option (Int32) :=
  ob (sX3_checkSlot st x1) fun _ =>
  ob (sX3_checkVariable st x2) fun _ =>
  gd x1 12 <|
  ob2 (sX3_trend_L24 FU st x2 x1.toNatClampNeg (0 : Int64) (0 : Int64) (0 : Int32)) fun x4_12 x6_13 =>
  if (lg_cmp x4_12 (0 : Int64)) = 0 then (
    if (lg_cmp x6_13 (0 : Int64)) = 0 then (
      some ((0 : Int32) + (0 : Int32)))
    else (
      some ((0 : Int32) + (2 : Int32))))
  else (
    if (lg_cmp x6_13 (0 : Int64)) = 0 then (
      some ((1 : Int32) + (0 : Int32)))
    else (
      some ((1 : Int32) + (2 : Int32))))
/-- Trellis.influence(II)I -/
def sX3_influence (st : St) (x1 : Int32) (x2 : Int32) : Option (Int32) :=
  ob (sX3_checkSlot st x1) fun _ =>
  ob (sX3_checkVariable st x2) fun _ =>
  gd x1 12 <|
  ob (sX2_changes st x1.toNatClampNeg x2) fun r_5 =>
  some r_5
/-- Trellis.cheapest(I)I -/
def sX3_cheapest_L21 : Nat → St → Nat → Int32 → Int32 → Int32 → Option (Int32)
  | 0, _, _, _, _, _ => none
  | n + 1, st, t2, x3, x4, x5 =>
    if (1024 : Int32) ≤ x5 then (
      some x3)
    else (
      gd x5 1024 <|
      if x4 ≤ (gI 2 st x5) then (
        lt (x5 + 1) fun x5_5 =>
        sX3_cheapest_L21 n st t2 x3 x4 x5_5)
      else (
        ob (sX2_tells st t2 x5) fun r_7 =>
        if r_7 = 0 then (
          lt (x5 + 1) fun x5_9 =>
          sX3_cheapest_L21 n st t2 x3 x4 x5_9)
        else (
          gd x5 1024 <|
          lt ((gI 2 st x5)) fun x4_10 =>
          lt (x5 + 1) fun x5_11 =>
          sX3_cheapest_L21 n st t2 x5 x4_10 x5_11)))
def sX3_cheapest (st : St) (x1 : Int32) : Option (Int32) :=
  ob (sX3_checkSlot st x1) fun _ =>
  gd x1 12 <|
  ob (sX3_cheapest_L21 FU st x1.toNatClampNeg (-1 : Int32) (991 : Int32) (0 : Int32)) fun x3_12 =>
  some x3_12
/-- Trellis.size(I)I -/
def sX3_size (st : St) (x1 : Int32) : Option (Int32 × St) :=
  ob (sX3_checkSlot st x1) fun _ =>
  ob2 (sX0_countFrom st x1 x1) fun r_4 st_2 =>
  some (r_4, st_2)
/-- Trellis.total()I -/
def sX3_total (st : St)  : Option (Int32) :=
  ob (sX0_count st) fun r_2 =>
  some r_2
/-- Trellis.checkLevel(II)V -/
def sX3_checkLevel (st : St) (x0 : Int32) (x1 : Int32) : Option (Unit) :=
  if x0 < 0 then (
    none)
  else (
    if x0 < x1 then (
      some ())
    else (
      none))
/-- Trellis.nodesAt(I)I -/
def sX3_nodesAt (st : St) (x1 : Int32) : Option (Int32) :=
  ob (sX3_checkLevel st x1 (10 : Int32)) fun _ =>
  ob (sX0_countAt st x1) fun r_3 =>
  some r_3
/-- Trellis.shared(II)I -/
def sX3_shared (st : St) (x1 : Int32) (x2 : Int32) : Option (Int32 × St) :=
  ob (sX3_checkSlot st x1) fun _ =>
  ob (sX3_checkSlot st x2) fun _ =>
  ob2 (sX0_countFrom st x1 x1) fun r_5 st_3 =>
  ob2 (sX0_countFrom st_3 x2 x2) fun r_8 st_6 =>
  ob2 (sX0_countFrom st_6 x1 x2) fun r_11 st_9 =>
  some (((r_5 + r_8) - r_11), st_9)
/-- Trellis.ways(I)I -/
def sX3_ways (st : St) (x1 : Int32) : Option (Int32 × St) :=
  ob (sX3_checkSlot st x1) fun _ =>
  ob2 (sX0_pathsToOne st x1) fun r_4 st_2 =>
  some (r_4, st_2)
/-- Trellis.depth(I)I -/
def sX3_depth (st : St) (x1 : Int32) : Option (Int32 × St) :=
  ob (sX3_checkSlot st x1) fun _ =>
  ob2 (sX0_longestPath st x1) fun r_4 st_2 =>
  some (r_4, st_2)
/-- Trellis.leastSize(I)I -/
def sX3_leastSize (st : St) (x1 : Int32) : Option (Int32 × St) :=
  ob (sX3_checkSlot st x1) fun _ =>
  gd x1 12 <|
  lt ((gI 0 st x1)) fun x2_2 =>
  ob (sJ6_bitCount_0f7a4 st x2_2) fun r_4 =>
  if r_4 ≤ (6 : Int32) then (
    gd x1 12 <|
    ob (sX2_packed st x1.toNatClampNeg x2_2) fun r_8 =>
    ob2 (sX1_leastNodes st r_8 r_4) fun r_11 st_9 =>
    some (r_11, st_9))
  else (
    some ((-1 : Int32), st))
/-- Trellis.variableAt(I)I -/
def sX3_variableAt (st : St) (x1 : Int32) : Option (Int32) :=
  ob (sX3_checkLevel st x1 (10 : Int32)) fun _ =>
  ob (sX0_variableOf st x1) fun r_3 =>
  some r_3
/-- Trellis.swap(I)I -/
def sX3_swap (st : St) (x1 : Int32) : Option (Int32 × St) :=
  ob (sX3_checkLevel st x1 (9 : Int32)) fun _ =>
  ob (sX0_exchangeAt st x1) fun st_2 =>
  ob (sX0_count st_2) fun r_5 =>
  if r_5 ≤ (400 : Int32) then (
    ob (sX0_count st_2) fun r_8 =>
    some (r_8, st_2))
  else (
    ob (sX0_exchangeAt st_2 x1) fun st_9 =>
    some ((-1 : Int32), st_9))
/-- Trellis.siftOne(I)I -/
def sX3_siftOne (st : St) (x1 : Int32) : Option (Int32 × St) :=
  ob (sX0_lift st x1 (0 : Int32)) fun st_1 =>
  ob2 (sX0_walk st_1) fun r_5 st_3 =>
  ob (sX0_lift st_3 x1 r_5) fun st_6 =>
  some (r_5, st_6)
/-- Trellis.sift(I)I -/
def sX3_sift (st : St) (x1 : Int32) : Option (Int32 × St) :=
  ob (sX3_checkVariable st x1) fun _ =>
  ob2 (sX3_siftOne st x1) fun r_4 st_2 =>
  some (r_4, st_2)
/-- Trellis.heaviest()I -/
def sX3_heaviest_L4 : Nat → St → Int32 → Int32 → Option (Int32)
  | 0, _, _, _ => none
  | n + 1, st, x1, x2 =>
    if (10 : Int32) ≤ x2 then (
      some x1)
    else (
      gd x2 10 <|
      gd x1 10 <|
      if (gI 3 st x2) ≤ (gI 3 st x1) then (
        lt (x2 + 1) fun x2_3 =>
        sX3_heaviest_L4 n st x1 x2_3)
      else (
        lt (x2 + 1) fun x2_4 =>
        sX3_heaviest_L4 n st x2 x2_4))
def sX3_heaviest (st : St)  : Option (Int32) :=
  ob (sX3_heaviest_L4 FU st (0 : Int32) (1 : Int32)) fun x1_5 =>
  some x1_5
/-- Trellis.settle()I -/
def sX3_settle_L10 : Nat → St → Int32 → Int32 → Option (St)
  | 0, _, _, _ => none
  | n + 1, st, x1, x2 =>
    if (10 : Int32) ≤ x2 then (
      some st)
    else (
      ob (sX0_levelOf st x2) fun r_5 =>
      ob (sX0_countAt st r_5) fun r_7 =>
      gd x2 10 <|
      lt (sI 3 st x2 r_7) fun st_8 =>
      lt (x2 + 1) fun x2_9 =>
      sX3_settle_L10 n st_8 x1 x2_9)
def sX3_settle_L45 : Nat → St → Int32 → Int32 → Option (St)
  | 0, _, _, _ => none
  | n + 1, st, x1, x2 =>
    if (10 : Int32) ≤ x2 then (
      some st)
    else (
      ob (sX3_heaviest st) fun r_13 =>
      gd r_13 10 <|
      lt (sI 3 st r_13 (-1 : Int32)) fun st_14 =>
      ob2 (sX3_siftOne st_14 r_13) fun r_17 st_15 =>
      lt (x2 + 1) fun x2_18 =>
      sX3_settle_L45 n st_15 x1 x2_18)
def sX3_settle (st : St)  : Option (Int32 × St) :=
  ob (sX0_count st) fun r_2 =>
  ob (sX3_settle_L10 FU st r_2 (0 : Int32)) fun st_10 =>
  ob (sX3_settle_L45 FU st_10 r_2 (0 : Int32)) fun st_19 =>
  ob (sX0_count st_19) fun r_21 =>
  some ((r_2 - r_21), st_19)
/-- Trellis.wouldSwap(I)I -/
def sX3_wouldSwap (st : St) (x1 : Int32) : Option (Int32 × St) :=
  ob (sX3_checkLevel st x1 (9 : Int32)) fun _ =>
  ob (sX0_exchangeAt st x1) fun st_2 =>
  ob (sX0_count st_2) fun r_5 =>
  ob (sX0_exchangeAt st_2 x1) fun st_6 =>
  if r_5 ≤ (400 : Int32) then (
    some (r_5, st_6))
  else (
    some ((-1 : Int32), st_6))
/-- Trellis.wouldSift(I)I -/
def sX3_wouldSift (st : St) (x1 : Int32) : Option (Int32 × St) :=
  ob (sX3_checkVariable st x1) fun _ =>
  ob (sX0_levelOf st x1) fun r_3 =>
  ob (sX0_lift st x1 (0 : Int32)) fun st_4 =>
  ob2 (sX0_walk st_4) fun r_8 st_6 =>
  ob (sX0_lift st_6 x1 r_3) fun st_9 =>
  some (r_8, st_9)
/-- Trellis.digestOfSlot(JI)J -/
def sX3_digestOfSlot (st : St) (x1 : Int64) (x3 : Int32) : Option (Int64 × St) :=
  ob (sX3_models st x3) fun r_2 =>
  lt (((x1 * (31 : Int64)) + r_2.toInt64)) fun x4_3 =>
  ob (sX3_support st x3) fun r_5 =>
  lt (((x4_3 * (31 : Int64)) + r_5.toInt64)) fun x4_6 =>
  ob2 (sX3_size st x3) fun r_9 st_7 =>
  lt (((x4_6 * (31 : Int64)) + r_9.toInt64)) fun x4_10 =>
  ob2 (sX3_ways st_7 x3) fun r_13 st_11 =>
  lt (((x4_10 * (31 : Int64)) + r_13.toInt64)) fun x4_14 =>
  ob2 (sX3_depth st_11 x3) fun r_17 st_15 =>
  lt (((x4_14 * (31 : Int64)) + r_17.toInt64)) fun x4_18 =>
  ob (sX3_cheapest st_15 x3) fun r_20 =>
  lt (((x4_18 * (31 : Int64)) + r_20.toInt64)) fun x4_21 =>
  ob (sX3_model st_15 x3 (0 : Int32)) fun r_23 =>
  lt (((x4_21 * (31 : Int64)) + r_23.toInt64)) fun x4_24 =>
  ob (sX3_model st_15 x3 (7 : Int32)) fun r_26 =>
  lt (((x4_24 * (31 : Int64)) + r_26.toInt64)) fun x4_27 =>
  ob (sX3_model st_15 x3 (100 : Int32)) fun r_29 =>
  lt (((x4_27 * (31 : Int64)) + r_29.toInt64)) fun x4_30 =>
  some (x4_30, st_15)
/-- Trellis.digest()J -/
def sX3_digest_L18 : Nat → St → Int64 → Int32 → Option (Int64)
  | 0, _, _, _ => none
  | n + 1, st, x1, x3 =>
    if (10 : Int32) ≤ x3 then (
      some x1)
    else (
      ob (sX3_variableAt st x3) fun r_6 =>
      lt (((x1 * (31 : Int64)) + r_6.toInt64)) fun x1_7 =>
      ob (sX3_nodesAt st x3) fun r_9 =>
      lt (((x1_7 * (31 : Int64)) + r_9.toInt64)) fun x1_10 =>
      lt (x3 + 1) fun x3_11 =>
      sX3_digest_L18 n st x1_10 x3_11)
def sX3_digest_L58 : Nat → St → Int64 → Int32 → Option (St × Int64)
  | 0, _, _, _ => none
  | n + 1, st, x1, x3 =>
    if (12 : Int32) ≤ x3 then (
      some (st, x1))
    else (
      ob2 (sX3_digestOfSlot st x1 x3) fun r_16 st_14 =>
      lt (x3 + 1) fun x3_17 =>
      sX3_digest_L58 n st_14 r_16 x3_17)
def sX3_digest_L79 : Nat → St → Int64 → Int32 → Option (St × Int64)
  | 0, _, _, _ => none
  | n + 1, st, x1, x3 =>
    if (11 : Int32) ≤ x3 then (
      some (st, x1))
    else (
      ob (sX3_compare st x3 (x3 + (1 : Int32))) fun r_22 =>
      lt (((x1 * (31 : Int64)) + r_22.toInt64)) fun x1_23 =>
      ob2 (sX3_shared st x3 (x3 + (1 : Int32))) fun r_26 st_24 =>
      lt (((x1_23 * (31 : Int64)) + r_26.toInt64)) fun x1_27 =>
      lt (x3 + 1) fun x3_28 =>
      sX3_digest_L79 n st_24 x1_27 x3_28)
def sX3_digest_L134 : Nat → St → Int64 → Int32 → Int32 → Option (Int64)
  | 0, _, _, _, _ => none
  | n + 1, st, x1, x3, x4 =>
    if (10 : Int32) ≤ x4 then (
      some x1)
    else (
      ob (sX3_trend st x3 x4) fun r_34 =>
      lt (((x1 * (31 : Int64)) + r_34.toInt64)) fun x1_35 =>
      ob (sX3_influence st x3 x4) fun r_37 =>
      lt (((x1_35 * (31 : Int64)) + r_37.toInt64)) fun x1_38 =>
      lt (x4 + 1) fun x4_39 =>
      sX3_digest_L134 n st x1_38 x3 x4_39)
def sX3_digest_L125 : Nat → St → Int64 → Int32 → Option (Int64)
  | 0, _, _, _ => none
  | n + 1, st, x1, x3 =>
    if (12 : Int32) ≤ x3 then (
      some x1)
    else (
      ob (sX3_digest_L134 FU st x1 x3 (0 : Int32)) fun x1_40 =>
      lt (x3 + 1) fun x3_41 =>
      sX3_digest_L125 n st x1_40 x3_41)
def sX3_digest (st : St)  : Option (Int64 × St) :=
  ob (sX3_total st) fun r_2 =>
  lt ((((58029 : Int64) * (31 : Int64)) + r_2.toInt64)) fun x1_3 =>
  ob (sX3_digest_L18 FU st x1_3 (0 : Int32)) fun x1_12 =>
  ob2 (sX3_digest_L58 FU st x1_12 (0 : Int32)) fun st_18 x1_19 =>
  ob2 (sX3_digest_L79 FU st_18 x1_19 (0 : Int32)) fun st_29 x1_30 =>
  ob (sX3_digest_L125 FU st_29 x1_30 (0 : Int32)) fun x1_42 =>
  some (x1_42, st_29)
