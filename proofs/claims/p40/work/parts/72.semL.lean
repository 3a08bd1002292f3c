/-! WHAT THE LAW'S METHODS ANSWER AND LEAVE, laid by wip/p40/gen2.py -/
/-- Trellis.meanSize()D -/
def sX3_meanSize_L4 : Nat → St → Int32 → Int32 → Option (St × Int32)
  | 0, _, _, _ => none
  | n + 1, st, x1, x2 =>
    if (12 : Int32) ≤ x2 then (
      some (st, x1))
    else (
      ob2 (sX0_countFrom st x2 x2) fun r_4 st_2 =>
      lt ((x1 + r_4)) fun x1_5 =>
      lt (x2 + 1) fun x2_6 =>
      sX3_meanSize_L4 n st_2 x1_5 x2_6)
def sX3_meanSize (st : St)  : Option (UInt64 × St) :=
  ob2 (sX3_meanSize_L4 FU st (0 : Int32) (0 : Int32)) fun st_7 x1_8 =>
  gn (FP.ddiv (FP.i2d x1_8) (4622945017495814144 : UInt64)) <|
  some ((FP.ddiv (FP.i2d x1_8) (4622945017495814144 : UInt64)), st_7)
/-- TrellisLaw.below(II)I -/
def sL_below (st : St) (x0 : Int32) (x1 : Int32) : Option (Int32) :=
  gz x1 <|
  some ((x0 &&& (2147483647 : Int32)) - (x0 &&& (2147483647 : Int32)) / x1 * x1)
/-- TrellisLaw.has(II)Z -/
def sL_has (st : St) (x0 : Int32) (x1 : Int32) : Option (Int32) :=
  if ¬ ((x0 >>> (x1 &&& 31)) &&& (1 : Int32)) = (1 : Int32) then (
    some (0 : Int32))
  else (
    some (1 : Int32))
/-- TrellisLaw.isSound(LTrellis;)Z -/
def sL_isSound_L4 : Nat → St → Int32 → Int32 → Option (Int32)
  | 0, _, _, _ => none
  | n + 1, st, x1, x2 =>
    if (10 : Int32) ≤ x2 then (
      some x1)
    else (
      ob (sX3_nodesAt st x2) fun r_3 =>
      lt ((x1 + r_3)) fun x1_4 =>
      lt (x2 + 1) fun x2_5 =>
      sL_isSound_L4 n st x1_4 x2_5)
def sL_isSound_L45 : Nat → St → Int32 → Int32 → Int32 → Option ((Int32 × St) ⊕ (St × Int32))
  | 0, _, _, _, _ => none
  | n + 1, st, x1, x2, x3 =>
    if (12 : Int32) ≤ x3 then (
      some (.inr (st, x2)))
    else (
      ob2 (sX3_size st x3) fun r_14 st_12 =>
      lt ((x2 + r_14)) fun x2_15 =>
      ob (sX3_support st_12 x3) fun r_17 =>
      ob (sJ6_bitCount_0f7a4 st_12 r_17) fun r_19 =>
      if r_14 < r_19 then (
        some (.inl ((0 : Int32), st_12)))
      else (
        ob2 (sX3_shared st_12 x3 x3) fun r_23 st_21 =>
        if ¬ r_23 = r_14 then (
          some (.inl ((0 : Int32), st_21)))
        else (
          ob2 (sX3_depth st_21 x3) fun r_27 st_25 =>
          if r_19 < r_27 then (
            some (.inl ((0 : Int32), st_25)))
          else (
            ob2 (sX3_ways st_25 x3) fun r_31 st_29 =>
            ob (sX3_models st_29 x3) fun r_33 =>
            if r_33 < r_31 then (
              some (.inl ((0 : Int32), st_29)))
            else (
              ob2 (sX3_ways st_29 x3) fun r_37 st_35 =>
              if ¬ r_37 = 0 then (
                ob (sX3_models st_35 x3) fun r_40 =>
                if ¬ r_40 = 0 then (
                  if ¬ r_14 = 0 then (
                    ob (sX3_models st_35 x3) fun r_45 =>
                    gz (1024 : Int32) <|
                    if ¬ (r_45 - r_45 / (1024 : Int32) * (1024 : Int32)) = 0 then (
                      lt (x3 + 1) fun x3_48 =>
                      sL_isSound_L45 n st_35 x1 x2_15 x3_48)
                    else (
                      some (.inl ((0 : Int32), st_35))))
                  else (
                    ob (sX3_models st_35 x3) fun r_51 =>
                    gz (1024 : Int32) <|
                    if ¬ (r_51 - r_51 / (1024 : Int32) * (1024 : Int32)) = 0 then (
                      some (.inl ((0 : Int32), st_35)))
                    else (
                      lt (x3 + 1) fun x3_55 =>
                      sL_isSound_L45 n st_35 x1 x2_15 x3_55)))
                else (
                  some (.inl ((0 : Int32), st_35))))
              else (
                ob (sX3_models st_35 x3) fun r_58 =>
                if ¬ r_58 = 0 then (
                  some (.inl ((0 : Int32), st_35)))
                else (
                  if ¬ r_14 = 0 then (
                    ob (sX3_models st_35 x3) fun r_64 =>
                    gz (1024 : Int32) <|
                    if ¬ (r_64 - r_64 / (1024 : Int32) * (1024 : Int32)) = 0 then (
                      lt (x3 + 1) fun x3_67 =>
                      sL_isSound_L45 n st_35 x1 x2_15 x3_67)
                    else (
                      some (.inl ((0 : Int32), st_35))))
                  else (
                    ob (sX3_models st_35 x3) fun r_70 =>
                    gz (1024 : Int32) <|
                    if ¬ (r_70 - r_70 / (1024 : Int32) * (1024 : Int32)) = 0 then (
                      some (.inl ((0 : Int32), st_35)))
                    else (
                      lt (x3 + 1) fun x3_74 =>
                      sL_isSound_L45 n st_35 x1 x2_15 x3_74)))))))))
def sL_isSound (st : St)  : Option (Int32 × St) :=
  ob (sL_isSound_L4 FU st (0 : Int32) (0 : Int32)) fun x1_6 =>
  ob (sX3_total st) fun r_8 =>
  if ¬ x1_6 = r_8 then (
    some ((0 : Int32), st))
  else (
    if x1_6 ≤ (400 : Int32) then (
      obS (sL_isSound_L45 FU st x1_6 (0 : Int32) (0 : Int32)) (fun a => some a) fun v_78 =>
        lt v_78.1 fun st_75 =>
        lt v_78.2 fun x2_76 =>
        if x2_76 < x1_6 then (
          some ((0 : Int32), st_75))
        else (
          ob2 (sX3_meanSize st_75) fun r_82 st_80 =>
          gn (FP.ddiv (FP.i2d x2_76) (4622945017495814144 : UInt64)) <|
          if ¬ (Op.cmpValue (FP.dcmp r_82 (FP.ddiv (FP.i2d x2_76) (4622945017495814144 : UInt64))) CmpOp.l) = 0 then (
            some ((0 : Int32), st_80))
          else (
            some ((1 : Int32), st_80))))
    else (
      some ((0 : Int32), st)))
/-- TrellisLaw.first(LTrellis;III)I -/
def sL_first (st : St) (x1 : Int32) (x2 : Int32) (x3 : Int32) : Option (Int32 × St) :=
  ob2 (sX3_apply st (3 : Int32) (0 : Int32) (1 : Int32) x1) fun r_3 st_1 =>
  if r_3 < 0 then (
    some ((2 : Int32), st_1))
  else (
    ob2 (sX3_apply st_1 (4 : Int32) (0 : Int32) (1 : Int32) ((15 : Int32) - x1)) fun r_7 st_5 =>
    if r_7 < 0 then (
      some ((2 : Int32), st_5))
    else (
      ob2 (sX3_exchange st_5 (5 : Int32) (0 : Int32) x2 x3) fun r_11 st_9 =>
      if r_11 < 0 then (
        some ((2 : Int32), st_9))
      else (
        ob2 (sX3_exchange st_9 (5 : Int32) (5 : Int32) x3 x2) fun r_15 st_13 =>
        if 0 ≤ r_15 then (
          ob (sX3_models st_13 (3 : Int32)) fun r_18 =>
          ob (sX3_models st_13 (4 : Int32)) fun r_20 =>
          if ¬ (r_18 + r_20) = (1024 : Int32) then (
            some ((0 : Int32), st_13))
          else (
            ob (sX3_compare st_13 (3 : Int32) (4 : Int32)) fun r_23 =>
            if (4 : Int32) ≤ r_23 then (
              some ((0 : Int32), st_13))
            else (
              ob (sX3_compare st_13 (5 : Int32) (0 : Int32)) fun r_26 =>
              if ¬ r_26 = 0 then (
                some ((0 : Int32), st_13))
              else (
                some ((1 : Int32), st_13)))))
        else (
          some ((2 : Int32), st_13)))))
/-- TrellisLaw.second(LTrellis;I)I -/
def sL_second (st : St) (x1 : Int32) : Option (Int32 × St) :=
  ob2 (sX3_put st (6 : Int32) (0 : Int32) x1 (0 : Int32)) fun r_3 st_1 =>
  if r_3 < 0 then (
    some ((2 : Int32), st_1))
  else (
    ob2 (sX3_put st_1 (7 : Int32) (0 : Int32) x1 (1 : Int32)) fun r_7 st_5 =>
    if r_7 < 0 then (
      some ((2 : Int32), st_5))
    else (
      ob2 (sX3_variable st_5 (8 : Int32) x1) fun r_11 st_9 =>
      if r_11 < 0 then (
        some ((2 : Int32), st_9))
      else (
        ob2 (sX3_choose st_9 (9 : Int32) (8 : Int32) (7 : Int32) (6 : Int32)) fun r_15 st_13 =>
        if 0 ≤ r_15 then (
          ob (sX3_compare st_13 (9 : Int32) (0 : Int32)) fun r_18 =>
          if ¬ r_18 = 0 then (
            ob2 (sX3_compose st_13 (9 : Int32) (0 : Int32) x1 (8 : Int32)) fun r_22 st_20 =>
            if 0 ≤ r_22 then (
              ob (sX3_compare st_20 (9 : Int32) (0 : Int32)) fun r_25 =>
              if ¬ r_25 = 0 then (
                some ((0 : Int32), st_20))
              else (
                ob (sX3_influence st_20 (0 : Int32) x1) fun r_29 =>
                if r_29 = 0 then (
                  ob (sX3_compare st_20 (6 : Int32) (7 : Int32)) fun r_32 =>
                  if r_32 = 0 then (
                    some ((0 : Int32), st_20))
                  else (
                    some ((0 : Int32), st_20)))
                else (
                  ob (sX3_compare st_20 (6 : Int32) (7 : Int32)) fun r_39 =>
                  if r_39 = 0 then (
                    some ((0 : Int32), st_20))
                  else (
                    some ((0 : Int32), st_20)))))
            else (
              some ((2 : Int32), st_20)))
          else (
            ob2 (sX3_size st_13 (8 : Int32)) fun r_47 st_45 =>
            if ¬ r_47 = (1 : Int32) then (
              ob2 (sX3_compose st_45 (9 : Int32) (0 : Int32) x1 (8 : Int32)) fun r_51 st_49 =>
              if 0 ≤ r_51 then (
                ob (sX3_compare st_49 (9 : Int32) (0 : Int32)) fun r_54 =>
                if ¬ r_54 = 0 then (
                  some ((0 : Int32), st_49))
                else (
                  ob (sX3_influence st_49 (0 : Int32) x1) fun r_58 =>
                  if r_58 = 0 then (
                    ob (sX3_compare st_49 (6 : Int32) (7 : Int32)) fun r_61 =>
                    if r_61 = 0 then (
                      some ((0 : Int32), st_49))
                    else (
                      some ((0 : Int32), st_49)))
                  else (
                    ob (sX3_compare st_49 (6 : Int32) (7 : Int32)) fun r_68 =>
                    if r_68 = 0 then (
                      some ((0 : Int32), st_49))
                    else (
                      some ((0 : Int32), st_49)))))
              else (
                some ((2 : Int32), st_49)))
            else (
              ob2 (sX3_compose st_45 (9 : Int32) (0 : Int32) x1 (8 : Int32)) fun r_76 st_74 =>
              if 0 ≤ r_76 then (
                ob (sX3_compare st_74 (9 : Int32) (0 : Int32)) fun r_79 =>
                if ¬ r_79 = 0 then (
                  some ((0 : Int32), st_74))
                else (
                  ob (sX3_influence st_74 (0 : Int32) x1) fun r_83 =>
                  if r_83 = 0 then (
                    ob (sX3_compare st_74 (6 : Int32) (7 : Int32)) fun r_86 =>
                    if r_86 = 0 then (
                      ob (sX3_trend st_74 (0 : Int32) x1) fun r_91 =>
                      if ¬ r_91 = (1 : Int32) then (
                        ob (sX3_compare st_74 (6 : Int32) (7 : Int32)) fun r_94 =>
                        if ¬ r_94 = (1 : Int32) then (
                          some ((1 : Int32), st_74))
                        else (
                          some ((0 : Int32), st_74)))
                      else (
                        ob (sX3_compare st_74 (6 : Int32) (7 : Int32)) fun r_99 =>
                        if ¬ r_99 = (1 : Int32) then (
                          some ((0 : Int32), st_74))
                        else (
                          some ((1 : Int32), st_74))))
                    else (
                      some ((0 : Int32), st_74)))
                  else (
                    ob (sX3_compare st_74 (6 : Int32) (7 : Int32)) fun r_106 =>
                    if r_106 = 0 then (
                      some ((0 : Int32), st_74))
                    else (
                      ob (sX3_trend st_74 (0 : Int32) x1) fun r_113 =>
                      if ¬ r_113 = (1 : Int32) then (
                        ob (sX3_compare st_74 (6 : Int32) (7 : Int32)) fun r_116 =>
                        if ¬ r_116 = (1 : Int32) then (
                          some ((1 : Int32), st_74))
                        else (
                          some ((0 : Int32), st_74)))
                      else (
                        ob (sX3_compare st_74 (6 : Int32) (7 : Int32)) fun r_121 =>
                        if ¬ r_121 = (1 : Int32) then (
                          some ((0 : Int32), st_74))
                        else (
                          some ((1 : Int32), st_74)))))))
              else (
                some ((2 : Int32), st_74)))))
        else (
          some ((2 : Int32), st_13)))))
/-- TrellisLaw.third(LTrellis;II)I -/
def sL_third (st : St) (x1 : Int32) (x2 : Int32) : Option (Int32 × St) :=
  ob2 (sX3_quantify st (6 : Int32) (0 : Int32) x1 (1 : Int32)) fun r_3 st_1 =>
  if r_3 < 0 then (
    some ((2 : Int32), st_1))
  else (
    ob2 (sX3_apply st_1 (7 : Int32) (0 : Int32) (0 : Int32) (1 : Int32)) fun r_7 st_5 =>
    if r_7 < 0 then (
      some ((2 : Int32), st_5))
    else (
      ob2 (sX3_quantify st_5 (7 : Int32) (7 : Int32) x1 (0 : Int32)) fun r_11 st_9 =>
      if r_11 < 0 then (
        some ((2 : Int32), st_9))
      else (
        ob2 (sX3_apply st_9 (7 : Int32) (7 : Int32) (7 : Int32) (1 : Int32)) fun r_15 st_13 =>
        if 0 ≤ r_15 then (
          ob (sX3_compare st_13 (6 : Int32) (7 : Int32)) fun r_18 =>
          if ¬ r_18 = 0 then (
            ob2 (sX3_apply st_13 (6 : Int32) (0 : Int32) (1 : Int32) (8 : Int32)) fun r_22 st_20 =>
            if r_22 < 0 then (
              some ((2 : Int32), st_20))
            else (
              ob2 (sX3_quantify st_20 (6 : Int32) (6 : Int32) x1 (0 : Int32)) fun r_26 st_24 =>
              if r_26 < 0 then (
                some ((2 : Int32), st_24))
              else (
                ob2 (sX3_meet st_24 (7 : Int32) (0 : Int32) (1 : Int32) x1) fun r_30 st_28 =>
                if 0 ≤ r_30 then (
                  ob (sX3_compare st_28 (6 : Int32) (7 : Int32)) fun r_33 =>
                  if ¬ r_33 = 0 then (
                    ob2 (sX3_quantify st_28 (6 : Int32) (0 : Int32) ((1 : Int32) <<< (x2 &&& 31)) (2 : Int32)) fun r_37 st_35 =>
                    if 0 ≤ r_37 then (
                      some ((0 : Int32), st_35))
                    else (
                      some ((2 : Int32), st_35)))
                  else (
                    ob2 (sX3_quantify st_28 (6 : Int32) (0 : Int32) ((1 : Int32) <<< (x2 &&& 31)) (2 : Int32)) fun r_42 st_40 =>
                    if 0 ≤ r_42 then (
                      some ((0 : Int32), st_40))
                    else (
                      some ((2 : Int32), st_40))))
                else (
                  some ((2 : Int32), st_28)))))
          else (
            ob (sX3_support st_13 (6 : Int32)) fun r_46 =>
            if ¬ (r_46 &&& x1) = 0 then (
              ob2 (sX3_apply st_13 (6 : Int32) (0 : Int32) (1 : Int32) (8 : Int32)) fun r_50 st_48 =>
              if r_50 < 0 then (
                some ((2 : Int32), st_48))
              else (
                ob2 (sX3_quantify st_48 (6 : Int32) (6 : Int32) x1 (0 : Int32)) fun r_54 st_52 =>
                if r_54 < 0 then (
                  some ((2 : Int32), st_52))
                else (
                  ob2 (sX3_meet st_52 (7 : Int32) (0 : Int32) (1 : Int32) x1) fun r_58 st_56 =>
                  if 0 ≤ r_58 then (
                    ob (sX3_compare st_56 (6 : Int32) (7 : Int32)) fun r_61 =>
                    if ¬ r_61 = 0 then (
                      ob2 (sX3_quantify st_56 (6 : Int32) (0 : Int32) ((1 : Int32) <<< (x2 &&& 31)) (2 : Int32)) fun r_65 st_63 =>
                      if 0 ≤ r_65 then (
                        some ((0 : Int32), st_63))
                      else (
                        some ((2 : Int32), st_63)))
                    else (
                      ob2 (sX3_quantify st_56 (6 : Int32) (0 : Int32) ((1 : Int32) <<< (x2 &&& 31)) (2 : Int32)) fun r_70 st_68 =>
                      if 0 ≤ r_70 then (
                        some ((0 : Int32), st_68))
                      else (
                        some ((2 : Int32), st_68))))
                  else (
                    some ((2 : Int32), st_56)))))
            else (
              ob2 (sX3_apply st_13 (6 : Int32) (0 : Int32) (1 : Int32) (8 : Int32)) fun r_75 st_73 =>
              if r_75 < 0 then (
                some ((2 : Int32), st_73))
              else (
                ob2 (sX3_quantify st_73 (6 : Int32) (6 : Int32) x1 (0 : Int32)) fun r_79 st_77 =>
                if r_79 < 0 then (
                  some ((2 : Int32), st_77))
                else (
                  ob2 (sX3_meet st_77 (7 : Int32) (0 : Int32) (1 : Int32) x1) fun r_83 st_81 =>
                  if 0 ≤ r_83 then (
                    ob (sX3_compare st_81 (6 : Int32) (7 : Int32)) fun r_86 =>
                    if ¬ r_86 = 0 then (
                      ob2 (sX3_quantify st_81 (6 : Int32) (0 : Int32) ((1 : Int32) <<< (x2 &&& 31)) (2 : Int32)) fun r_90 st_88 =>
                      if 0 ≤ r_90 then (
                        some ((0 : Int32), st_88))
                      else (
                        some ((2 : Int32), st_88)))
                    else (
                      ob2 (sX3_quantify st_81 (6 : Int32) (0 : Int32) ((1 : Int32) <<< (x2 &&& 31)) (2 : Int32)) fun r_95 st_93 =>
                      if 0 ≤ r_95 then (
                        ob (sX3_models st_93 (6 : Int32)) fun r_99 =>
                        ob (sX3_influence st_93 (0 : Int32) x2) fun r_101 =>
                        if ¬ r_99 = r_101 then (
                          some ((0 : Int32), st_93))
                        else (
                          some ((1 : Int32), st_93)))
                      else (
                        some ((2 : Int32), st_93))))
                  else (
                    some ((2 : Int32), st_81)))))))
        else (
          some ((2 : Int32), st_13)))))
/-- TrellisLaw.fourth(LTrellis;)I -/
def sL_fourth (st : St)  : Option (Int32 × St) :=
  ob (sX3_models st (1 : Int32)) fun r_2 =>
  if ¬ r_2 = 0 then (
    ob2 (sX3_press st (6 : Int32) (0 : Int32) (1 : Int32)) fun r_6 st_4 =>
    if r_6 < 0 then (
      some ((2 : Int32), st_4))
    else (
      ob2 (sX3_apply st_4 (7 : Int32) (6 : Int32) (1 : Int32) (8 : Int32)) fun r_10 st_8 =>
      if r_10 < 0 then (
        some ((2 : Int32), st_8))
      else (
        ob2 (sX3_apply st_8 (9 : Int32) (0 : Int32) (1 : Int32) (8 : Int32)) fun r_14 st_12 =>
        if 0 ≤ r_14 then (
          ob (sX3_compare st_12 (7 : Int32) (9 : Int32)) fun r_17 =>
          if ¬ r_17 = 0 then (
            some ((0 : Int32), st_12))
          else (
            some ((1 : Int32), st_12)))
        else (
          some ((2 : Int32), st_12)))))
  else (
    some ((1 : Int32), st))
/-- TrellisLaw.law([I)Z -/
def sL_law_L51 (xL : Nat) (xs : Nat → Int32) : Nat → St → Int32 → Option (St)
  | 0, _, _ => none
  | n + 1, st, x2 =>
    if (6 : Int32) ≤ x2 then (
      some st)
    else (
      gd ((3 : Int32) + x2) 16 <|
      lt ((cellV xL xs ((3 : Int32) + x2))) fun x3_2 =>
      ob (sL_below st x3_2 (2 : Int32)) fun r_4 =>
      if ¬ r_4 = 0 then (
        ob (sL_below st (x3_2 >>> ((1 : Int32) &&& 31)) (10 : Int32)) fun r_7 =>
        ob2 (sX3_sift st r_7) fun r_10 st_8 =>
        ob2 (sL_isSound st_8) fun r_13 st_11 =>
        if ¬ r_13 = 0 then (
          lt (x2 + 1) fun x2_15 =>
          sL_law_L51 xL xs n st_11 x2_15)
        else (
          none))
      else (
        ob (sL_below st (x3_2 >>> ((1 : Int32) &&& 31)) (9 : Int32)) fun r_17 =>
        ob2 (sX3_swap st r_17) fun r_20 st_18 =>
        ob2 (sL_isSound st_18) fun r_23 st_21 =>
        if ¬ r_23 = 0 then (
          lt (x2 + 1) fun x2_25 =>
          sL_law_L51 xL xs n st_21 x2_25)
        else (
          none)))
def sL_law (xL : Nat) (xs : Nat → Int32) (st : St)  : Option (St) :=
  ob (sL_law_L51 xL xs FU st (0 : Int32)) fun st_26 =>
  ob (sL_below st_26 (cellV xL xs (9 : Int32)) (10 : Int32)) fun r_28 =>
  ob (sL_below st_26 (cellV xL xs (10 : Int32)) (10 : Int32)) fun r_30 =>
  ob (sL_below st_26 (cellV xL xs (11 : Int32)) (1024 : Int32)) fun r_32 =>
  ob2 (sX3_digest st_26) fun r_35 st_33 =>
  ob (sL_below st_33 (cellV xL xs (13 : Int32)) (9 : Int32)) fun r_37 =>
  ob2 (sX3_wouldSwap st_33 r_37) fun r_40 st_38 =>
  if r_40 < (-1 : Int32) then (
    none)
  else (
    ob2 (sX3_wouldSift st_38 r_30) fun r_44 st_42 =>
    if r_44 < 0 then (
      none)
    else (
      ob2 (sX3_leastSize st_42 (0 : Int32)) fun r_48 st_46 =>
      ob2 (sX3_size st_46 (0 : Int32)) fun r_51 st_49 =>
      if r_51 < r_48 then (
        none)
      else (
        ob2 (sX3_digest st_49) fun r_55 st_53 =>
        if (lg_cmp r_55 r_35) = 0 then (
          ob (sL_below st_53 (cellV xL xs (12 : Int32)) (16 : Int32)) fun r_58 =>
          ob2 (sL_first st_53 r_58 r_28 r_30) fun r_61 st_59 =>
          if r_61 = 0 then (
            none)
          else (
            ob2 (sL_second st_59 r_28) fun r_65 st_63 =>
            if r_65 = 0 then (
              none)
            else (
              ob2 (sL_third st_63 r_32 r_28) fun r_69 st_67 =>
              if r_69 = 0 then (
                none)
              else (
                ob2 (sL_fourth st_67) fun r_73 st_71 =>
                if ¬ r_73 = 0 then (
                  ob (sX3_cheapest st_71 (2 : Int32)) fun r_76 =>
                  ob (sX3_model st_71 (2 : Int32) (0 : Int32)) fun r_78 =>
                  if ¬ r_76 = r_78 then (
                    none)
                  else (
                    ob (sX3_models st_71 (2 : Int32)) fun r_81 =>
                    if r_81 ≤ 0 then (
                      ob2 (sL_isSound st_71) fun r_85 st_83 =>
                      if ¬ r_85 = 0 then (
                        ob (sX3_models st_83 (0 : Int32)) fun r_88 =>
                        ob (sX3_models st_83 (1 : Int32)) fun r_90 =>
                        ob (sX3_models st_83 (2 : Int32)) fun r_92 =>
                        lt (((r_88 + r_90) + r_92)) fun x8_93 =>
                        ob (sX3_total st_83) fun r_95 =>
                        ob2 (sX3_settle st_83) fun r_98 st_96 =>
                        if r_98 < 0 then (
                          none)
                        else (
                          ob (sX3_total st_96) fun r_101 =>
                          if ¬ r_101 = (r_95 - r_98) then (
                            none)
                          else (
                            ob2 (sL_isSound st_96) fun r_105 st_103 =>
                            if r_105 = 0 then (
                              none)
                            else (
                              ob (sX3_models st_103 (0 : Int32)) fun r_108 =>
                              ob (sX3_models st_103 (1 : Int32)) fun r_110 =>
                              ob (sX3_models st_103 (2 : Int32)) fun r_112 =>
                              if ¬ ((r_108 + r_110) + r_112) = x8_93 then (
                                none)
                              else (
                                some st_103)))))
                      else (
                        none))
                    else (
                      ob (sX3_holds st_71 (2 : Int32) r_76) fun r_115 =>
                      if r_115 = 0 then (
                        none)
                      else (
                        ob2 (sL_isSound st_71) fun r_119 st_117 =>
                        if ¬ r_119 = 0 then (
                          ob (sX3_models st_117 (0 : Int32)) fun r_122 =>
                          ob (sX3_models st_117 (1 : Int32)) fun r_124 =>
                          ob (sX3_models st_117 (2 : Int32)) fun r_126 =>
                          lt (((r_122 + r_124) + r_126)) fun x8_127 =>
                          ob (sX3_total st_117) fun r_129 =>
                          ob2 (sX3_settle st_117) fun r_132 st_130 =>
                          if r_132 < 0 then (
                            none)
                          else (
                            ob (sX3_total st_130) fun r_135 =>
                            if ¬ r_135 = (r_129 - r_132) then (
                              none)
                            else (
                              ob2 (sL_isSound st_130) fun r_139 st_137 =>
                              if r_139 = 0 then (
                                none)
                              else (
                                ob (sX3_models st_137 (0 : Int32)) fun r_142 =>
                                ob (sX3_models st_137 (1 : Int32)) fun r_144 =>
                                ob (sX3_models st_137 (2 : Int32)) fun r_146 =>
                                if ¬ ((r_142 + r_144) + r_146) = x8_127 then (
                                  none)
                                else (
                                  some st_137)))))
                        else (
                          none)))))
                else (
                  none)))))
        else (
          none))))
