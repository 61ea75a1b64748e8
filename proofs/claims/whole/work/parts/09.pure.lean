def f_X8_append_L3 : Nat → Mem → Int32 → Int32 → Option (Mem)
  | 0, _, _, _ => none
  | n + 1, M_h, x1, x2 =>
    if x2 < 0 then (
      some M_h
    ) else (
      if (400 : Int32) ≤ (M_h 1 0) then (
        some M_h
      ) else (
        if (M_h 1 0) < 0 ∨ 400 ≤ ((M_h 1 0)).toNatClampNeg then none else
        wr (upA M_h 0 (M_h 1 0) (vp_nar .byte ((x1 >>> (x2 &&& 31))).toInt8.toInt32)) fun M_h_29 =>
        wr (upS M_h_29 1 ((M_h_29 1 0) + (1 : Int32))) fun M_h_37 =>
        f_X8_append_L3 n M_h_37 x1 (x2 + (-8 : Int32))
      )
    )
def f_X8_append (M_h : Mem) (p1 : Int32) : Option (Mem) :=
  f_X8_append_L3 FU M_h p1 (24 : Int32)
def f_X11_feed (M_h_now : Mem) (M_h_now_tape : Mem) (p1 : Int32) (p2 : Int32) (p3 : Int32) (p4 : Int32) (p5 : Int32) : Option (Int32 × Mem) :=
  if ((M_h_now_tape 1 0) + (20 : Int32)) ≤ (400 : Int32) then (
    Option.bind (f_X8_append M_h_now_tape p1) fun M_h_now_tape_28 =>
    Option.bind (f_X8_append M_h_now_tape_28 p2) fun M_h_now_tape_34 =>
    Option.bind (f_X8_append M_h_now_tape_34 p3) fun M_h_now_tape_40 =>
    Option.bind (f_X8_append M_h_now_tape_40 p4) fun M_h_now_tape_47 =>
    Option.bind (f_X8_append M_h_now_tape_47 p5) fun M_h_now_tape_54 =>
    some ((M_h_now_tape_54 1 0), M_h_now_tape_54)
  ) else (
    some ((-1 : Int32), M_h_now_tape)
  )
def f_X11_end (M_h_now : Mem) (M_h_now_tape : Mem) (p1 : Int32) : Option (Int32 × Mem) :=
  if p1 < 0 then (
    some ((-1 : Int32), M_h_now_tape)
  ) else (
    if p1 ≤ (M_h_now_tape 1 0) then (
      wr (upS M_h_now_tape 1 p1) fun M_h_now_tape_28 =>
      some (p1, M_h_now_tape_28)
    ) else (
      some ((-1 : Int32), M_h_now_tape)
    )
  )
def f_X3_copyFrom (M_a1 : Mem) (M_h : Mem) : Option (Mem) :=
  wr (upS M_h 0 (M_a1 0 0)) fun M_h_5 =>
  wr (upR M_h_5 1 (rowc 16 (M_a1 1) (M_h_5 1))) fun M_h_16 =>
  wr (upR M_h_16 2 (rowc 16 (M_a1 2) (M_h_16 2))) fun M_h_27 =>
  wr (upR M_h_27 3 (rowc 16 (M_a1 3) (M_h_27 3))) fun M_h_38 =>
  wr (upR M_h_38 4 (rowc 64 (M_a1 4) (M_h_38 4))) fun M_h_49 =>
  wr (upR M_h_49 5 (rowc 64 (M_a1 5) (M_h_49 5))) fun M_h_60 =>
  wr (upR M_h_60 6 (rowc 64 (M_a1 6) (M_h_60 6))) fun M_h_71 =>
  wr (upR M_h_71 7 (rowc 64 (M_a1 7) (M_h_71 7))) fun M_h_82 =>
  some M_h_82
def f_X4_begin (M_h : Mem) (M_h_text : Mem) : Option (Mem × Mem) :=
  wr (upS M_h_text 0 (0 : Int32)) fun M_h_text_5 =>
  wr (upS M_h 2 (0 : Int32)) fun M_h_10 =>
  wr (upS M_h_10 3 (-1 : Int32)) fun M_h_15 =>
  wr (upS M_h_15 4 (-1 : Int32)) fun M_h_20 =>
  wr (upS M_h_20 5 (0 : Int32)) fun M_h_25 =>
  wr (upS M_h_25 6 (0 : Int32)) fun M_h_30 =>
  wr (upS M_h_30 7 (0 : Int32)) fun M_h_35 =>
  some (M_h_35, M_h_text_5)
def f_X11_within (p0 : Int32) (p1 : Int32) (p2 : Int32) : Option (Int32) :=
  if p0 < p1 then (
    some (0 : Int32)
  ) else (
    if p2 < p0 then (
      some (0 : Int32)
    ) else (
      some (1 : Int32)
    )
  )
def f_X3_putLine (M_h : Mem) (p1 : Int32) (p2 : Int32) (p3 : Int32) (p4 : Int32) : Option (Mem) :=
  if p1 < 0 then (
    some M_h
  ) else (
    if (16 : Int32) ≤ p1 then (
      some M_h
    ) else (
      if p1 < 0 ∨ 16 ≤ (p1).toNatClampNeg then none else
      wr (upA M_h 1 p1 p2) fun M_h_16 =>
      wr (upA M_h_16 2 p1 p3) fun M_h_23 =>
      wr (upA M_h_23 3 p1 (if (4 : Int32) < p4 then (4 : Int32) else p4)) fun M_h_35 =>
      wr (upS M_h_35 0 (p1 + (1 : Int32))) fun M_h_40 =>
      some M_h_40
    )
  )
def f_X4_keepLine (M_h : Mem) (M_h_text : Mem) (p1 : Int32) : Option (Mem × Mem) :=
  Option.bind (f_X3_putLine M_h_text (M_h 6 0) (M_h 11 0) p1 (M_h 7 0)) fun M_h_text_17 =>
  wr (upS M_h 6 ((M_h 6 0) + (1 : Int32))) fun M_h_27 =>
  wr (upS M_h_27 5 (8 : Int32)) fun M_h_33 =>
  some (M_h_33, M_h_text_17)
def f_X4_takeAction (M_h : Mem) (M_h_at : Mem) (M_h_text : Mem) : Option (Int32 × Mem × Mem) :=
  Option.bind (f_X11_within (M_h_at 1 0) (6 : Int32) (8 : Int32)) fun r11 =>
  if r11 = 0 then (
    some ((0 : Int32), M_h, M_h_text)
  ) else (
    wr (upS M_h 11 (M_h_at 1 0)) fun M_h_27 =>
    if (M_h_27 11 0) = (8 : Int32) then (
      bd2 (f_X4_keepLine M_h_27 M_h_text (0 : Int32)) fun M_h_41 M_h_text_41 =>
      some ((1 : Int32), M_h_41, M_h_text_41)
    ) else (
      wr (upS M_h_27 5 (7 : Int32)) fun M_h_50 =>
      some ((1 : Int32), M_h_50, M_h_text)
    )
  )
def f_X4_takeAmount (M_h : Mem) (M_h_at : Mem) (M_h_text : Mem) : Option (Int32 × Mem × Mem) :=
  if (M_h_at 1 0) = (12 : Int32) then (
    bd2 (f_X4_keepLine M_h M_h_text (M_h_at 4 0)) fun M_h_22 M_h_text_22 =>
    some ((1 : Int32), M_h_22, M_h_text_22)
  ) else (
    some ((0 : Int32), M_h, M_h_text)
  )
def f_X4_takeComparison_L38 (M_h : Mem) (M_h_at : Mem) : Option (Int32 × Mem) :=
    wr (upS M_h 10 (M_h_at 1 0)) fun M_h_46 =>
    wr (upS M_h_46 5 (4 : Int32)) fun M_h_51 =>
    some ((1 : Int32), M_h_51)
def f_X4_takeComparison (M_h : Mem) (M_h_at : Mem) : Option (Int32 × Mem) :=
  if (M_h_at 1 0) = (60 : Int32) then (
    f_X4_takeComparison_L38 M_h M_h_at
  ) else (
    if (M_h_at 1 0) = (62 : Int32) then (
      f_X4_takeComparison_L38 M_h M_h_at
    ) else (
      if (M_h_at 1 0) = (61 : Int32) then (
        f_X4_takeComparison_L38 M_h M_h_at
      ) else (
        some ((0 : Int32), M_h)
      )
    )
  )
def f_X3_putTest_L41 (M_h : Mem) (x4 : Int32) (x5 : Int32) (x6 : Int32) (x7 : Int32) (s0 : Int32) (s1 : Int32) : Option (Mem) :=
    if s1 < 0 ∨ 64 ≤ (s1).toNatClampNeg then none else
    wr (upA M_h 4 s1 s0) fun M_h_41 =>
    if x7 < 0 ∨ 64 ≤ (x7).toNatClampNeg then none else
    wr (upA M_h_41 5 x7 x4) fun M_h_50 =>
    wr (upA M_h_50 6 x7 x5) fun M_h_59 =>
    wr (upA M_h_59 7 x7 x6) fun M_h_68 =>
    some M_h_68
def f_X3_putTest (M_h : Mem) (p1 : Int32) (p2 : Int32) (p3 : Int32) (p4 : Int32) (p5 : Int32) (p6 : Int32) : Option (Mem) :=
  if p1 < 0 then (
    some M_h
  ) else (
    if (16 : Int32) ≤ p1 then (
      some M_h
    ) else (
      if p2 < 0 then (
        some M_h
      ) else (
        if (4 : Int32) ≤ p2 then (
          some M_h
        ) else (
          if p3 = 0 then (
            f_X3_putTest_L41 M_h p4 p5 p6 ((p1 * (4 : Int32)) + p2) (0 : Int32) ((p1 * (4 : Int32)) + p2)
          ) else (
            f_X3_putTest_L41 M_h p4 p5 p6 ((p1 * (4 : Int32)) + p2) (1 : Int32) ((p1 * (4 : Int32)) + p2)
          )
        )
      )
    )
  )
def f_X4_keepTest (M_h : Mem) (M_h_text : Mem) (p1 : Int32) (p2 : Int32) : Option (Mem × Mem) :=
  Option.bind (f_X3_putTest M_h_text (M_h 6 0) (M_h 7 0) (M_h 8 0) (M_h 9 0) p1 p2) fun M_h_text_22 =>
  wr (upS M_h 7 ((M_h 7 0) + (1 : Int32))) fun M_h_32 =>
  wr (upS M_h_32 5 (5 : Int32)) fun M_h_37 =>
  some (M_h_37, M_h_text_22)
def f_X4_takeLimit (M_h : Mem) (M_h_at : Mem) (M_h_text : Mem) : Option (Int32 × Mem × Mem) :=
  if (M_h_at 1 0) = (12 : Int32) then (
    bd2 (f_X4_keepTest M_h M_h_text (M_h 10 0) (M_h_at 4 0)) fun M_h_26 M_h_text_26 =>
    some ((1 : Int32), M_h_26, M_h_text_26)
  ) else (
    some ((0 : Int32), M_h, M_h_text)
  )
def f_X4_takeLineEnd (M_h : Mem) (M_h_at : Mem) : Option (Int32 × Mem) :=
  wr (upS M_h 5 (0 : Int32)) fun M_h_2 =>
  if (M_h_at 1 0) = (59 : Int32) then (
    some ((1 : Int32), M_h_2)
  ) else (
    some ((0 : Int32), M_h_2)
  )
def f_X4_noteExcess (M_h : Mem) (M_h_at : Mem) : Option (Mem) :=
  if (M_h 4 0) = (-1 : Int32) then (
    wr (upS M_h 4 (M_h_at 2 0)) fun M_h_16 =>
    some M_h_16
  ) else (
    some M_h
  )
def f_X4_takeLineStart_L13 (M_h : Mem) (M_h_at : Mem) (M_h_text : Mem) : Option (Int32 × Mem × Mem) :=
    wr (upS M_h 7 (0 : Int32)) fun M_h_15 =>
    if (M_h_at 1 0) = (9 : Int32) then (
      wr (upS M_h_15 5 (1 : Int32)) fun M_h_32 =>
      some ((1 : Int32), M_h_32, M_h_text)
    ) else (
      bd3 (f_X4_takeAction M_h_15 M_h_at M_h_text) fun r38 M_h_38 M_h_text_38 =>
      if ¬ (r38 = 0 ∨ r38 = 1) then none else
      some (r38, M_h_38, M_h_text_38)
    )
def f_X4_takeLineStart (M_h : Mem) (M_h_at : Mem) (M_h_text : Mem) : Option (Int32 × Mem × Mem) :=
  if (M_h 6 0) < (16 : Int32) then (
    f_X4_takeLineStart_L13 M_h M_h_at M_h_text
  ) else (
    Option.bind (f_X4_noteExcess M_h M_h_at) fun M_h_10 =>
    f_X4_takeLineStart_L13 M_h_10 M_h_at M_h_text
  )
def f_X4_takeSubject (M_h : Mem) (M_h_at : Mem) (M_h_text : Mem) : Option (Int32 × Mem × Mem) :=
  Option.bind (f_X11_within (M_h_at 1 0) (1 : Int32) (5 : Int32)) fun r9 =>
  if r9 = 0 then (
    some ((0 : Int32), M_h, M_h_text)
  ) else (
    wr (upS M_h 9 (M_h_at 1 0)) fun M_h_25 =>
    if (M_h_25 9 0) = (1 : Int32) then (
      bd2 (f_X4_keepTest M_h_25 M_h_text (61 : Int32) (1 : Int32)) fun M_h_40 M_h_text_40 =>
      some ((1 : Int32), M_h_40, M_h_text_40)
    ) else (
      wr (upS M_h_25 5 (3 : Int32)) fun M_h_48 =>
      some ((1 : Int32), M_h_48, M_h_text)
    )
  )
def f_X4_takeTestEnd (M_h : Mem) (M_h_at : Mem) : Option (Int32 × Mem) :=
  if (M_h_at 1 0) = (10 : Int32) then (
    wr (upS M_h 5 (1 : Int32)) fun M_h_14 =>
    some ((1 : Int32), M_h_14)
  ) else (
    wr (upS M_h 5 (6 : Int32)) fun M_h_22 =>
    if (M_h_at 1 0) = (58 : Int32) then (
      some ((1 : Int32), M_h_22)
    ) else (
      some ((0 : Int32), M_h_22)
    )
  )
def f_X4_takeTestStart_L30 (M_h : Mem) (M_h_at : Mem) (M_h_text : Mem) (s0 : Int32) : Option (Int32 × Mem × Mem) :=
    if ¬ (s0 = 0 ∨ s0 = 1) then none else
    wr (upS M_h 8 s0) fun M_h_30 =>
    if (M_h_30 8 0) = 0 then (
      bd3 (f_X4_takeSubject M_h_30 M_h_at M_h_text) fun r48 M_h_48 M_h_text_48 =>
      if ¬ (r48 = 0 ∨ r48 = 1) then none else
      some (r48, M_h_48, M_h_text_48)
    ) else (
      wr (upS M_h_30 5 (2 : Int32)) fun M_h_42 =>
      some ((1 : Int32), M_h_42, M_h_text)
    )
def f_X4_takeTestStart_L12 (M_h : Mem) (M_h_at : Mem) (M_h_text : Mem) : Option (Int32 × Mem × Mem) :=
    if (M_h_at 1 0) = (11 : Int32) then (
      f_X4_takeTestStart_L30 M_h M_h_at M_h_text (1 : Int32)
    ) else (
      f_X4_takeTestStart_L30 M_h M_h_at M_h_text (0 : Int32)
    )
def f_X4_takeTestStart (M_h : Mem) (M_h_at : Mem) (M_h_text : Mem) : Option (Int32 × Mem × Mem) :=
  if (M_h 7 0) < (4 : Int32) then (
    f_X4_takeTestStart_L12 M_h M_h_at M_h_text
  ) else (
    Option.bind (f_X4_noteExcess M_h M_h_at) fun M_h_9 =>
    f_X4_takeTestStart_L12 M_h_9 M_h_at M_h_text
  )
def f_X4_take (M_h : Mem) (M_h_at : Mem) (M_h_text : Mem) : Option (Int32 × Mem × Mem) :=
  if (M_h 5 0) = (0 : Int32) then (
    bd3 (f_X4_takeLineStart M_h M_h_at M_h_text) fun r53 M_h_53 M_h_text_53 =>
    if ¬ (r53 = 0 ∨ r53 = 1) then none else
    some (r53, M_h_53, M_h_text_53)
  ) else (
    if (M_h 5 0) = (1 : Int32) then (
      bd3 (f_X4_takeTestStart M_h M_h_at M_h_text) fun r58 M_h_58 M_h_text_58 =>
      if ¬ (r58 = 0 ∨ r58 = 1) then none else
      some (r58, M_h_58, M_h_text_58)
    ) else (
      if (M_h 5 0) = (2 : Int32) then (
        bd3 (f_X4_takeSubject M_h M_h_at M_h_text) fun r63 M_h_63 M_h_text_63 =>
        if ¬ (r63 = 0 ∨ r63 = 1) then none else
        some (r63, M_h_63, M_h_text_63)
      ) else (
        if (M_h 5 0) = (3 : Int32) then (
          bd2 (f_X4_takeComparison M_h M_h_at) fun r68 M_h_68 =>
          if ¬ (r68 = 0 ∨ r68 = 1) then none else
          some (r68, M_h_68, M_h_text)
        ) else (
          if (M_h 5 0) = (4 : Int32) then (
            bd3 (f_X4_takeLimit M_h M_h_at M_h_text) fun r73 M_h_73 M_h_text_73 =>
            if ¬ (r73 = 0 ∨ r73 = 1) then none else
            some (r73, M_h_73, M_h_text_73)
          ) else (
            if (M_h 5 0) = (5 : Int32) then (
              bd2 (f_X4_takeTestEnd M_h M_h_at) fun r78 M_h_78 =>
              if ¬ (r78 = 0 ∨ r78 = 1) then none else
              some (r78, M_h_78, M_h_text)
            ) else (
              if (M_h 5 0) = (6 : Int32) then (
                bd3 (f_X4_takeAction M_h M_h_at M_h_text) fun r83 M_h_83 M_h_text_83 =>
                if ¬ (r83 = 0 ∨ r83 = 1) then none else
                some (r83, M_h_83, M_h_text_83)
              ) else (
                if (M_h 5 0) = (7 : Int32) then (
                  bd3 (f_X4_takeAmount M_h M_h_at M_h_text) fun r88 M_h_88 M_h_text_88 =>
                  if ¬ (r88 = 0 ∨ r88 = 1) then none else
                  some (r88, M_h_88, M_h_text_88)
                ) else (
                  bd2 (f_X4_takeLineEnd M_h M_h_at) fun r93 M_h_93 =>
                  if ¬ (r93 = 0 ∨ r93 = 1) then none else
                  some (r93, M_h_93, M_h_text)
                )
              )
            )
          )
        )
      )
    )
  )
def f_X8_copyFrom (M_a1 : Mem) (M_h : Mem) : Option (Mem) :=
  wr (upS M_h 1 (M_a1 1 0)) fun M_h_5 =>
  if ¬ ((List.range 400).all (fun i => fits .byte (.int (M_a1 0 i)))) then none else
  wr (upR M_h_5 0 (va_cpy (M_a1 0) (M_h_5 0) ((0 : Int32)).toNatClampNeg ((0 : Int32)).toNatClampNeg ((400 : Int32)).toNatClampNeg)) fun M_h_21 =>
  some M_h_21
def f_X9_begin (M_a1 : Mem) (M_h : Mem) (M_h_tape : Mem) : Option (Mem × Mem) :=
  Option.bind (f_X8_copyFrom M_a1 M_h_tape) fun M_h_tape_5 =>
  wr (upS M_h 3 (0 : Int32)) fun M_h_10 =>
  some (M_h_10, M_h_tape_5)
def f_X9_isBlank (p0 : Int32) : Option (Int32) :=
  if p0 = (10 : Int32) then (
    some (1 : Int32)
  ) else (
    if p0 = (32 : Int32) then (
      some (1 : Int32)
    ) else (
      some (0 : Int32)
    )
  )
def f_X9_isDigit (p0 : Int32) : Option (Int32) :=
  Option.bind (f_X11_within p0 (48 : Int32) (57 : Int32)) fun r5 =>
  if ¬ (r5 = 0 ∨ r5 = 1) then none else
  some r5
def f_X9_isLetter (p0 : Int32) : Option (Int32) :=
  Option.bind (f_X11_within p0 (97 : Int32) (122 : Int32)) fun r5 =>
  if ¬ (r5 = 0 ∨ r5 = 1) then none else
  some r5
def f_X9_stepNumber_L77 (M_h : Mem) (M_h_tape : Mem) : Option (Mem) :=
    if (3 : Int32) < ((M_h 3 0) - (M_h 2 0)) then (
      wr (upS M_h 1 (13 : Int32)) fun M_h_98 =>
      some M_h_98
    ) else (
      wr (upS M_h 1 (12 : Int32)) fun M_h_98 =>
      some M_h_98
    )
def f_X9_stepNumber_L5 : Nat → Mem → Mem → Option (Mem)
  | 0, _, _ => none
  | n + 1, M_h, M_h_tape =>
    if (M_h_tape 1 0) ≤ (M_h 3 0) then (
      f_X9_stepNumber_L77 M_h M_h_tape
    ) else (
      if (M_h 3 0) < 0 ∨ 400 ≤ ((M_h 3 0)).toNatClampNeg then none else
      Option.bind (f_X9_isDigit (M_h_tape 0 ((M_h 3 0)).toNatClampNeg)) fun r31 =>
      if r31 = 0 then (
        f_X9_stepNumber_L77 M_h M_h_tape
      ) else (
        wr (upS M_h 4 (((M_h 4 0) * (10 : Int32)) + ((M_h_tape 0 ((M_h 3 0)).toNatClampNeg) - (48 : Int32)))) fun M_h_61 =>
        wr (upS M_h_61 3 ((M_h_61 3 0) + (1 : Int32))) fun M_h_71 =>
        f_X9_stepNumber_L5 n M_h_71 M_h_tape
      )
    )
def f_X9_stepNumber (M_h : Mem) (M_h_tape : Mem) : Option (Mem) :=
  wr (upS M_h 4 (0 : Int32)) fun M_h_2 =>
  f_X9_stepNumber_L5 FU M_h_2 M_h_tape
def f_X9_isWord_L20 (k1 : Nat) : Nat → Mem → Mem → Int32 → Option (Int32)
  | 0, _, _, _ => none
  | n + 1, M_h, M_h_tape, x2 =>
    if (slen k1) ≤ x2 then (
      some (1 : Int32)
    ) else (
      if ((M_h 2 0) + x2) < 0 ∨ 400 ≤ (((M_h 2 0) + x2)).toNatClampNeg then none else
      if x2 < 0 ∨ slenN k1 ≤ (x2).toNatClampNeg then none else
      if (M_h_tape 0 (((M_h 2 0) + x2)).toNatClampNeg) = (sch k1 (x2).toNatClampNeg) then (
        f_X9_isWord_L20 k1 n M_h M_h_tape (x2 + (1 : Int32))
      ) else (
        some (0 : Int32)
      )
    )
def f_X9_isWord (M_h : Mem) (M_h_tape : Mem) (k1 : Nat) : Option (Int32) :=
  if ((M_h 3 0) - (M_h 2 0)) = (slen k1) then (
    f_X9_isWord_L20 k1 FU M_h M_h_tape (0 : Int32)
  ) else (
    some (0 : Int32)
  )
def f_X9_wordToken (M_h : Mem) (M_h_tape : Mem) : Option (Int32) :=
  if (M_h 2 0) < 0 ∨ 400 ≤ ((M_h 2 0)).toNatClampNeg then none else
  if (M_h_tape 0 ((M_h 2 0)).toNatClampNeg) = (97 : Int32) then (
    Option.bind (f_X9_isWord M_h M_h_tape 1) fun r148 =>
    if r148 = 0 then (
      some (13 : Int32)
    ) else (
      some (10 : Int32)
    )
  ) else (
    if (M_h_tape 0 ((M_h 2 0)).toNatClampNeg) = (98 : Int32) then (
      some (13 : Int32)
    ) else (
      if (M_h_tape 0 ((M_h 2 0)).toNatClampNeg) = (99 : Int32) then (
        some (13 : Int32)
      ) else (
        if (M_h_tape 0 ((M_h 2 0)).toNatClampNeg) = (100 : Int32) then (
          some (13 : Int32)
        ) else (
          if (M_h_tape 0 ((M_h 2 0)).toNatClampNeg) = (101 : Int32) then (
            some (13 : Int32)
          ) else (
            if (M_h_tape 0 ((M_h 2 0)).toNatClampNeg) = (102 : Int32) then (
              some (13 : Int32)
            ) else (
              if (M_h_tape 0 ((M_h 2 0)).toNatClampNeg) = (103 : Int32) then (
                some (13 : Int32)
              ) else (
                if (M_h_tape 0 ((M_h 2 0)).toNatClampNeg) = (104 : Int32) then (
                  some (13 : Int32)
                ) else (
                  if (M_h_tape 0 ((M_h 2 0)).toNatClampNeg) = (105 : Int32) then (
                    Option.bind (f_X9_isWord M_h M_h_tape 0) fun r131 =>
                    if r131 = 0 then (
                      some (13 : Int32)
                    ) else (
                      some (9 : Int32)
                    )
                  ) else (
                    if (M_h_tape 0 ((M_h 2 0)).toNatClampNeg) = (106 : Int32) then (
                      some (13 : Int32)
                    ) else (
                      if (M_h_tape 0 ((M_h 2 0)).toNatClampNeg) = (107 : Int32) then (
                        some (13 : Int32)
                      ) else (
                        if (M_h_tape 0 ((M_h 2 0)).toNatClampNeg) = (108 : Int32) then (
                          Option.bind (f_X9_isWord M_h M_h_tape 5) fun r213 =>
                          if r213 = 0 then (
                            some (13 : Int32)
                          ) else (
                            some (5 : Int32)
                          )
                        ) else (
                          if (M_h_tape 0 ((M_h 2 0)).toNatClampNeg) = (109 : Int32) then (
                            some (13 : Int32)
                          ) else (
                            if (M_h_tape 0 ((M_h 2 0)).toNatClampNeg) = (110 : Int32) then (
                              Option.bind (f_X9_isWord M_h M_h_tape 7) fun r246 =>
                              if r246 = 0 then (
                                Option.bind (f_X9_isWord M_h M_h_tape 8) fun r258 =>
                                if r258 = 0 then (
                                  some (13 : Int32)
                                ) else (
                                  some (8 : Int32)
                                )
                              ) else (
                                some (11 : Int32)
                              )
                            ) else (
                              if (M_h_tape 0 ((M_h 2 0)).toNatClampNeg) = (111 : Int32) then (
                                some (13 : Int32)
                              ) else (
                                if (M_h_tape 0 ((M_h 2 0)).toNatClampNeg) = (112 : Int32) then (
                                  Option.bind (f_X9_isWord M_h M_h_tape 6) fun r229 =>
                                  if r229 = 0 then (
                                    some (13 : Int32)
                                  ) else (
                                    some (7 : Int32)
                                  )
                                ) else (
                                  if (M_h_tape 0 ((M_h 2 0)).toNatClampNeg) = (113 : Int32) then (
                                    some (13 : Int32)
                                  ) else (
                                    if (M_h_tape 0 ((M_h 2 0)).toNatClampNeg) = (114 : Int32) then (
                                      Option.bind (f_X9_isWord M_h M_h_tape 3) fun r181 =>
                                      if r181 = 0 then (
                                        some (13 : Int32)
                                      ) else (
                                        some (2 : Int32)
                                      )
                                    ) else (
                                      if (M_h_tape 0 ((M_h 2 0)).toNatClampNeg) = (115 : Int32) then (
                                        Option.bind (f_X9_isWord M_h M_h_tape 9) fun r275 =>
                                        if r275 = 0 then (
                                          Option.bind (f_X9_isWord M_h M_h_tape 10) fun r286 =>
                                          if r286 = 0 then (
                                            some (13 : Int32)
                                          ) else (
                                            some (6 : Int32)
                                          )
                                        ) else (
                                          some (4 : Int32)
                                        )
                                      ) else (
                                        if (M_h_tape 0 ((M_h 2 0)).toNatClampNeg) = (116 : Int32) then (
                                          some (13 : Int32)
                                        ) else (
                                          if (M_h_tape 0 ((M_h 2 0)).toNatClampNeg) = (117 : Int32) then (
                                            some (13 : Int32)
                                          ) else (
                                            if (M_h_tape 0 ((M_h 2 0)).toNatClampNeg) = (118 : Int32) then (
                                              some (13 : Int32)
                                            ) else (
                                              if (M_h_tape 0 ((M_h 2 0)).toNatClampNeg) = (119 : Int32) then (
                                                Option.bind (f_X9_isWord M_h M_h_tape 2) fun r165 =>
                                                if r165 = 0 then (
                                                  some (13 : Int32)
                                                ) else (
                                                  some (1 : Int32)
                                                )
                                              ) else (
                                                if (M_h_tape 0 ((M_h 2 0)).toNatClampNeg) = (120 : Int32) then (
                                                  some (13 : Int32)
                                                ) else (
                                                  if (M_h_tape 0 ((M_h 2 0)).toNatClampNeg) = (121 : Int32) then (
                                                    Option.bind (f_X9_isWord M_h M_h_tape 4) fun r197 =>
                                                    if r197 = 0 then (
                                                      some (13 : Int32)
                                                    ) else (
                                                      some (3 : Int32)
                                                    )
                                                  ) else (
                                                    some (13 : Int32)
                                                  )
                                                )
                                              )
                                            )
                                          )
                                        )
                                      )
                                    )
                                  )
                                )
                              )
                            )
                          )
                        )
                      )
                    )
                  )
                )
              )
            )
          )
        )
      )
    )
  )
def f_X9_stepWord_L0 : Nat → Mem → Mem → Option (Mem)
  | 0, _, _ => none
  | n + 1, M_h, M_h_tape =>
    if (M_h_tape 1 0) ≤ (M_h 3 0) then (
      Option.bind (f_X9_wordToken M_h M_h_tape) fun r47 =>
      wr (upS M_h 1 r47) fun M_h_50 =>
      some M_h_50
    ) else (
      if (M_h 3 0) < 0 ∨ 400 ≤ ((M_h 3 0)).toNatClampNeg then none else
      Option.bind (f_X9_isLetter (M_h_tape 0 ((M_h 3 0)).toNatClampNeg)) fun r26 =>
      if r26 = 0 then (
        Option.bind (f_X9_wordToken M_h M_h_tape) fun r47 =>
        wr (upS M_h 1 r47) fun M_h_50 =>
        some M_h_50
      ) else (
        wr (upS M_h 3 ((M_h 3 0) + (1 : Int32))) fun M_h_39 =>
        f_X9_stepWord_L0 n M_h_39 M_h_tape
      )
    )
def f_X9_stepWord (M_h : Mem) (M_h_tape : Mem) : Option (Mem) :=
  f_X9_stepWord_L0 FU M_h M_h_tape
def f_X9_step_L45 (M_h : Mem) (M_h_tape : Mem) : Option (Mem) :=
    wr (upS M_h 2 (M_h 3 0)) fun M_h_50 =>
    if (M_h_50 3 0) < (M_h_tape 1 0) then (
      if (M_h_50 3 0) < 0 ∨ 400 ≤ ((M_h_50 3 0)).toNatClampNeg then none else
      Option.bind (f_X9_isLetter (M_h_tape 0 ((M_h_50 3 0)).toNatClampNeg)) fun r87 =>
      if r87 = 0 then (
        Option.bind (f_X9_isDigit (M_h_tape 0 ((M_h_50 3 0)).toNatClampNeg)) fun r101 =>
        if r101 = 0 then (
          Option.bind (f_X11_within (M_h_tape 0 ((M_h_50 3 0)).toNatClampNeg) (58 : Int32) (62 : Int32)) fun r120 =>
          if r120 = 0 then (
            wr (upS M_h_50 1 (13 : Int32)) fun M_h_132 =>
            wr (upS M_h_132 3 ((M_h_132 3 0) + (1 : Int32))) fun M_h_142 =>
            some M_h_142
          ) else (
            wr (upS M_h_50 1 (M_h_tape 0 ((M_h_50 3 0)).toNatClampNeg)) fun M_h_132 =>
            wr (upS M_h_132 3 ((M_h_132 3 0) + (1 : Int32))) fun M_h_142 =>
            some M_h_142
          )
        ) else (
          Option.bind (f_X9_stepNumber M_h_50 M_h_tape) fun M_h_108 =>
          some M_h_108
        )
      ) else (
        Option.bind (f_X9_stepWord M_h_50 M_h_tape) fun M_h_94 =>
        some M_h_94
      )
    ) else (
      wr (upS M_h_50 1 (0 : Int32)) fun M_h_69 =>
      some M_h_69
    )
def f_X9_step_L0 : Nat → Mem → Mem → Option (Mem)
  | 0, _, _ => none
  | n + 1, M_h, M_h_tape =>
    if (M_h_tape 1 0) ≤ (M_h 3 0) then (
      f_X9_step_L45 M_h M_h_tape
    ) else (
      if (M_h 3 0) < 0 ∨ 400 ≤ ((M_h 3 0)).toNatClampNeg then none else
      Option.bind (f_X9_isBlank (M_h_tape 0 ((M_h 3 0)).toNatClampNeg)) fun r26 =>
      if r26 = 0 then (
        f_X9_step_L45 M_h M_h_tape
      ) else (
        wr (upS M_h 3 ((M_h 3 0) + (1 : Int32))) fun M_h_39 =>
        f_X9_step_L0 n M_h_39 M_h_tape
      )
    )
def f_X9_step (M_h : Mem) (M_h_tape : Mem) : Option (Mem) :=
  f_X9_step_L0 FU M_h M_h_tape
def f_X4_read_L48 (K14 : Mem → Mem → Mem → Mem → Mem → Int32 → Option (Mem × Mem × Mem × Mem)) (M_a1 : Mem) (M_h : Mem) (M_h_at : Mem) (M_h_at_tape : Mem) (M_h_text : Mem) (x2 : Int32) : Option (Mem × Mem × Mem × Mem) :=
    bd3 (f_X4_take M_h M_h_at M_h_text) fun r49 M_h_49 M_h_text_49 =>
    if r49 = 0 then (
      wr (upS M_h_49 2 (1 : Int32)) fun M_h_57 =>
      wr (upS M_h_57 3 (M_h_at 2 0)) fun M_h_68 =>
      some (M_h_68, M_h_at, M_h_at_tape, M_h_text_49)
    ) else (
      K14 M_a1 M_h_49 M_h_at M_h_at_tape M_h_text_49 (x2 + (1 : Int32))
    )
def f_X4_read_L78 (M_a1 : Mem) (M_h : Mem) (M_h_at : Mem) (M_h_at_tape : Mem) (M_h_text : Mem) : Option (Mem × Mem × Mem × Mem) :=
    if (M_h 4 0) = (-1 : Int32) then (
      some (M_h, M_h_at, M_h_at_tape, M_h_text)
    ) else (
      wr (upS M_h 2 (3 : Int32)) fun M_h_88 =>
      wr (upS M_h_88 3 (M_h_88 4 0)) fun M_h_96 =>
      some (M_h_96, M_h_at, M_h_at_tape, M_h_text)
    )
def f_X4_read_L14 : Nat → Mem → Mem → Mem → Mem → Mem → Int32 → Option (Mem × Mem × Mem × Mem)
  | 0, _, _, _, _, _, _ => none
  | n + 1, M_a1, M_h, M_h_at, M_h_at_tape, M_h_text, x2 =>
    if (400 : Int32) < x2 then (
      f_X4_read_L78 M_a1 M_h M_h_at M_h_at_tape M_h_text
    ) else (
      Option.bind (f_X9_step M_h_at M_h_at_tape) fun M_h_at_25 =>
      if (M_h_at_25 1 0) = 0 then (
        if (M_h 5 0) = 0 then (
          f_X4_read_L78 M_a1 M_h M_h_at_25 M_h_at_tape M_h_text
        ) else (
          f_X4_read_L48 (f_X4_read_L14 n) M_a1 M_h M_h_at_25 M_h_at_tape M_h_text x2
        )
      ) else (
        f_X4_read_L48 (f_X4_read_L14 n) M_a1 M_h M_h_at_25 M_h_at_tape M_h_text x2
      )
    )
def f_X4_read (M_a1 : Mem) (M_h : Mem) (M_h_at : Mem) (M_h_at_tape : Mem) (M_h_text : Mem) : Option (Mem × Mem × Mem × Mem) :=
  bd2 (f_X4_begin M_h M_h_text) fun M_h_1 M_h_text_1 =>
  bd2 (f_X9_begin M_a1 M_h_at M_h_at_tape) fun M_h_at_9 M_h_at_tape_9 =>
  f_X4_read_L14 FU M_a1 M_h_1 M_h_at_9 M_h_at_tape_9 M_h_text_1 (0 : Int32)
def f_X11_decree (M_h_now : Mem) (M_h_now_law : Mem) (M_h_now_tape : Mem) (M_h_reader : Mem) (M_h_reader_at : Mem) (M_h_reader_at_tape : Mem) (M_h_reader_text : Mem) : Option (Int32 × Mem × Mem × Mem × Mem × Mem × Mem × Mem) :=
  bd4 (f_X4_read M_h_now_tape M_h_reader M_h_reader_at M_h_reader_at_tape M_h_reader_text) fun M_h_reader_11 M_h_reader_at_11 M_h_reader_at_tape_11 M_h_reader_text_11 =>
  wr (upS M_h_now_tape 1 (0 : Int32)) fun M_h_now_tape_22 =>
  wr (upS M_h_now 7 (M_h_reader_11 2 0)) fun M_h_now_36 =>
  wr (upS M_h_now_36 8 (M_h_reader_11 3 0)) fun M_h_now_50 =>
  if (M_h_reader_11 2 0) = 0 then (
    Option.bind (f_X3_copyFrom M_h_reader_text_11 M_h_now_law) fun M_h_now_law_79 =>
    some ((M_h_now_law_79 0 0), M_h_now_50, M_h_now_law_79, M_h_now_tape_22, M_h_reader_11, M_h_reader_at_11, M_h_reader_at_tape_11, M_h_reader_text_11)
  ) else (
    some ((-1 : Int32), M_h_now_50, M_h_now_law, M_h_now_tape_22, M_h_reader_11, M_h_reader_at_11, M_h_reader_at_tape_11, M_h_reader_text_11)
  )
def f_X11_fault (M_h_now : Mem) (p1 : Int32) : Option (Int32) :=
  if p1 = (0 : Int32) then (
    some (M_h_now 7 0)
  ) else (
    if p1 = (1 : Int32) then (
      some (M_h_now 8 0)
    ) else (
      some (-1 : Int32)
    )
  )
def f_X2_enter_L38 (M_h : Mem) (s0 : Int32) (s1 : Int32) : Option (Int32 × Mem) :=
    if s1 < 0 ∨ 8 ≤ (s1).toNatClampNeg then none else
    wr (upA M_h 2 s1 s0) fun M_h_38 =>
    wr (upS M_h_38 0 ((M_h_38 0 0) + (1 : Int32))) fun M_h_46 =>
    some (((M_h_46 0 0) - (1 : Int32)), M_h_46)
def f_X2_enter (M_h : Mem) (p1 : Int32) (p2 : Int32) : Option (Int32 × Mem) :=
  if (M_h 0 0) < (8 : Int32) then (
    if (M_h 0 0) < 0 ∨ 8 ≤ ((M_h 0 0)).toNatClampNeg then none else
    wr (upA M_h 1 (M_h 0 0) p1) fun M_h_20 =>
    if p2 = 0 then (
      f_X2_enter_L38 M_h_20 (0 : Int32) (M_h_20 0 0)
    ) else (
      f_X2_enter_L38 M_h_20 (1 : Int32) (M_h_20 0 0)
    )
  ) else (
    some ((-1 : Int32), M_h)
  )
def f_X11_citizen (M_h_now : Mem) (M_h_now_people : Mem) (p1 : Int32) (p2 : Int32) : Option (Int32 × Mem) :=
  Option.bind (f_X11_within p1 (0 : Int32) (9 : Int32)) fun r4 =>
  if r4 = 0 then (
    some ((-1 : Int32), M_h_now_people)
  ) else (
    bd2 (f_X2_enter M_h_now_people p1 p2) fun r21 M_h_now_people_21 =>
    some (r21, M_h_now_people_21)
  )
def f_X6_greatest (p0 : Int32) : Option (Int32) :=
  if p0 = (0 : Int32) then (
    some (2400 : Int32)
  ) else (
    if p0 = (1 : Int32) then (
      some (2400 : Int32)
    ) else (
      if p0 = (2 : Int32) then (
        some (12000 : Int32)
      ) else (
        if p0 = (3 : Int32) then (
          some (9 : Int32)
        ) else (
          some (-1 : Int32)
        )
      )
    )
  )
def f_X6_change (M_h : Mem) (p1 : Int32) (p2 : Int32) : Option (Int32 × Mem) :=
  Option.bind (f_X6_greatest p1) fun r3 =>
  Option.bind (f_X11_within p2 (0 : Int32) r3) fun r6 =>
  if r6 = 0 then (
    some ((0 : Int32), M_h)
  ) else (
    if p1 = (0 : Int32) then (
      wr (upS M_h 0 p2) fun M_h_42 =>
      some ((1 : Int32), M_h_42)
    ) else (
      if p1 = (1 : Int32) then (
        wr (upS M_h 1 p2) fun M_h_50 =>
        some ((1 : Int32), M_h_50)
      ) else (
        if p1 = (2 : Int32) then (
          wr (upS M_h 2 p2) fun M_h_58 =>
          some ((1 : Int32), M_h_58)
        ) else (
          wr (upS M_h 3 p2) fun M_h_66 =>
          some ((1 : Int32), M_h_66)
        )
      )
    )
  )
def f_X11_rule (M_h_now : Mem) (M_h_now_rules : Mem) (p1 : Int32) (p2 : Int32) : Option (Int32 × Mem) :=
  bd2 (f_X6_change M_h_now_rules p1 p2) fun r9 M_h_now_rules_9 =>
  if ¬ (r9 = 0 ∨ r9 = 1) then none else
  some (r9, M_h_now_rules_9)
def f_X2_greatestRest_L4 : Nat → Mem → Int32 → Int32 → Option (Int32)
  | 0, _, _, _ => none
  | n + 1, M_h, x1, x2 =>
    if (M_h 0 0) ≤ x2 then (
      some x1
    ) else (
      if x2 < 0 ∨ 8 ≤ (x2).toNatClampNeg then none else
      if x1 < 0 ∨ 8 ≤ (x1).toNatClampNeg then none else
      if (M_h 9 (x2).toNatClampNeg) ≤ (M_h 9 (x1).toNatClampNeg) then (
        f_X2_greatestRest_L4 n M_h x1 (x2 + (1 : Int32))
      ) else (
        f_X2_greatestRest_L4 n M_h x2 (x2 + (1 : Int32))
      )
    )
def f_X2_greatestRest (M_h : Mem) : Option (Int32) :=
  f_X2_greatestRest_L4 FU M_h (0 : Int32) (1 : Int32)
def f_X2_takeSlips_L74 : Nat → Mem → Int32 → Int32 → Option (Mem)
  | 0, _, _, _ => none
  | n + 1, M_h, x3, x4 =>
    if (M_h 0 0) ≤ x4 then (
      wr (upR M_h 3 (rowc 8 (M_h 4) (M_h 3))) fun M_h_129 =>
      some M_h_129
    ) else (
      if x3 ≤ 0 then (
        wr (upR M_h 3 (rowc 8 (M_h 4) (M_h 3))) fun M_h_129 =>
        some M_h_129
      ) else (
        Option.bind (f_X2_greatestRest M_h) fun r88 =>
        if r88 < 0 ∨ 8 ≤ (r88).toNatClampNeg then none else
        wr (upA M_h 4 r88 ((M_h 4 (r88).toNatClampNeg) + (1 : Int32))) fun M_h_103 =>
        wr (upA M_h_103 9 r88 (-1 : Int32)) fun M_h_111 =>
        f_X2_takeSlips_L74 n M_h_111 (x3 + (-1 : Int32)) (x4 + (1 : Int32))
      )
    )
def f_X2_takeSlips_L10 : Nat → Mem → Int32 → Int32 → Int32 → Int32 → Option (Mem)
  | 0, _, _, _, _, _ => none
  | n + 1, M_h, x1, x2, x3, x4 =>
    if (M_h 0 0) ≤ x4 then (
      f_X2_takeSlips_L74 FU M_h x3 (0 : Int32)
    ) else (
      if x4 < 0 ∨ 8 ≤ (x4).toNatClampNeg then none else
      if x2 = 0 then none else
      wr (upA M_h 4 x4 ((x1 * (M_h 8 (x4).toNatClampNeg)) / x2)) fun M_h_36 =>
      if x2 = 0 then none else
      wr (upA M_h_36 9 x4 ((x1 * (M_h_36 8 (x4).toNatClampNeg)) - (x1 * (M_h_36 8 (x4).toNatClampNeg)) / x2 * x2)) fun M_h_54 =>
      f_X2_takeSlips_L10 n M_h_54 x1 x2 (x3 - (M_h_54 4 (x4).toNatClampNeg)) (x4 + (1 : Int32))
    )
def f_X2_takeSlips (M_h : Mem) (p1 : Int32) (p2 : Int32) : Option (Mem) :=
  if 0 < p2 then (
    f_X2_takeSlips_L10 FU M_h p1 p2 p1 (0 : Int32)
  ) else (
    some M_h
  )
def f_X3_agrees (p0 : Int32) (p1 : Int32) (p2 : Int32) : Option (Int32) :=
  if p1 = (60 : Int32) then (
    if p2 ≤ p0 then (
      some (0 : Int32)
    ) else (
      some (1 : Int32)
    )
  ) else (
    if p1 = (62 : Int32) then (
      if p0 ≤ p2 then (
        some (0 : Int32)
      ) else (
        some (1 : Int32)
      )
    ) else (
      if p0 = p2 then (
        some (1 : Int32)
      ) else (
        some (0 : Int32)
      )
    )
  )
def f_X3_subjectOf (M_a1 : Mem) (p0 : Int32) (p2 : Int32) (p3 : Int32) (p4 : Int32) : Option (Int32) :=
  if p0 = (2 : Int32) then (
    if p2 < 0 ∨ 8 ≤ (p2).toNatClampNeg then none else
    some (M_a1 1 (p2).toNatClampNeg)
  ) else (
    if p0 = (3 : Int32) then (
      some p3
    ) else (
      if p0 = (4 : Int32) then (
        if p2 < 0 ∨ 8 ≤ (p2).toNatClampNeg then none else
        some (M_a1 4 (p2).toNatClampNeg)
      ) else (
        if p0 = (5 : Int32) then (
          some p4
        ) else (
          if p2 < 0 ∨ 8 ≤ (p2).toNatClampNeg then none else
          some (M_a1 2 (p2).toNatClampNeg)
        )
      )
    )
  )
def f_X3_allHold_L9 : Nat → Mem → Mem → Int32 → Int32 → Int32 → Int32 → Int32 → Int32 → Option (Int32)
  | 0, _, _, _, _, _, _, _, _ => none
  | n + 1, M_a2, M_h, x1, x3, x4, x5, x6, x7 =>
    if x1 < 0 ∨ 16 ≤ (x1).toNatClampNeg then none else
    if (x6 + (M_h 3 (x1).toNatClampNeg)) ≤ x7 then (
      some (1 : Int32)
    ) else (
      if x7 < 0 ∨ 64 ≤ (x7).toNatClampNeg then none else
      Option.bind (f_X3_subjectOf M_a2 (M_h 5 (x7).toNatClampNeg) x3 x4 x5) fun r36 =>
      Option.bind (f_X3_agrees r36 (M_h 6 (x7).toNatClampNeg) (M_h 7 (x7).toNatClampNeg)) fun r57 =>
      if (M_h 4 (x7).toNatClampNeg) = (1 : Int32) then (
        if r57 = (1 : Int32) then (
          some (0 : Int32)
        ) else (
          f_X3_allHold_L9 n M_a2 M_h x1 x3 x4 x5 x6 (x7 + (1 : Int32))
        )
      ) else (
        if r57 = (0 : Int32) then (
          some (0 : Int32)
        ) else (
          f_X3_allHold_L9 n M_a2 M_h x1 x3 x4 x5 x6 (x7 + (1 : Int32))
        )
      )
    )
def f_X3_allHold (M_a2 : Mem) (M_h : Mem) (p1 : Int32) (p3 : Int32) (p4 : Int32) (p5 : Int32) : Option (Int32) :=
  f_X3_allHold_L9 FU M_a2 M_h p1 p3 p4 p5 (p1 * (4 : Int32)) (p1 * (4 : Int32))
def f_X3_shareFor_L6 : Nat → Mem → Mem → Int32 → Int32 → Int32 → Int32 → Int32 → Option (Int32)
  | 0, _, _, _, _, _, _, _ => none
  | n + 1, M_a1, M_h, x2, x3, x4, x5, x6 =>
    if (M_h 0 0) ≤ x6 then (
      some x5
    ) else (
      Option.bind (f_X3_allHold M_a1 M_h x6 x2 x3 x4) fun r23 =>
      if r23 = 0 then (
        f_X3_shareFor_L6 n M_a1 M_h x2 x3 x4 x5 (x6 + (1 : Int32))
      ) else (
        if x6 < 0 ∨ 16 ≤ (x6).toNatClampNeg then none else
        if (M_h 1 (x6).toNatClampNeg) = (8 : Int32) then (
          some (0 : Int32)
        ) else (
          if (M_h 1 (x6).toNatClampNeg) = (6 : Int32) then (
            f_X3_shareFor_L6 n M_a1 M_h x2 x3 x4 (M_h 2 (x6).toNatClampNeg) (x6 + (1 : Int32))
          ) else (
            f_X3_shareFor_L6 n M_a1 M_h x2 x3 x4 (x5 + (M_h 2 (x6).toNatClampNeg)) (x6 + (1 : Int32))
          )
        )
      )
    )
def f_X3_shareFor (M_a1 : Mem) (M_h : Mem) (p2 : Int32) (p3 : Int32) (p4 : Int32) : Option (Int32) :=
  f_X3_shareFor_L6 FU M_a1 M_h p2 p3 p4 (0 : Int32) (0 : Int32)
def f_X7_shareOf (M_h : Mem) (M_h_law : Mem) (M_h_people : Mem) (p1 : Int32) : Option (Int32) :=
  Option.bind (f_X3_shareFor M_h_people M_h_law p1 (M_h 9 0) (M_h 12 0)) fun r17 =>
  some r17
def f_X7_shareOut_L4 : Nat → Mem → Mem → Mem → Int32 → Int32 → Int32 → Option (Int32 × Mem × Mem)
  | 0, _, _, _, _, _, _ => none
  | n + 1, M_h, M_h_law, M_h_people, x1, x2, x3 =>
    if (M_h_people 0 0) ≤ x3 then (
      if x2 = 0 then (
        some ((0 : Int32), M_h, M_h_people)
      ) else (
        Option.bind (f_X2_takeSlips M_h_people x1 x2) fun M_h_people_59 =>
        wr (upS M_h 11 x1) fun M_h_64 =>
        some ((1 : Int32), M_h_64, M_h_people_59)
      )
    ) else (
      Option.bind (f_X7_shareOf M_h M_h_law M_h_people x3) fun r25 =>
      if x3 < 0 ∨ 8 ≤ (x3).toNatClampNeg then none else
      wr (upA M_h_people 8 x3 r25) fun M_h_people_28 =>
      f_X7_shareOut_L4 n M_h M_h_law M_h_people_28 x1 (x2 + (M_h_people_28 8 (x3).toNatClampNeg)) (x3 + (1 : Int32))
    )
def f_X7_shareOut (M_h : Mem) (M_h_law : Mem) (M_h_people : Mem) (p1 : Int32) : Option (Int32 × Mem × Mem) :=
  f_X7_shareOut_L4 FU M_h M_h_law M_h_people p1 (0 : Int32) (0 : Int32)
def f_X11_give (M_h_now : Mem) (M_h_now_law : Mem) (M_h_now_people : Mem) (p1 : Int32) : Option (Int32 × Mem × Mem) :=
  if (M_h_now 10 0) = 0 then (
    if 0 < (M_h_now 11 0) then (
      some ((0 : Int32), M_h_now, M_h_now_people)
    ) else (
      Option.bind (f_X11_within p1 (1 : Int32) (400 : Int32)) fun r25 =>
      if r25 = 0 then (
        some ((0 : Int32), M_h_now, M_h_now_people)
      ) else (
        bd3 (f_X7_shareOut M_h_now M_h_now_law M_h_now_people p1) fun r38 M_h_now_38 M_h_now_people_38 =>
        if ¬ (r38 = 0 ∨ r38 = 1) then none else
        some (r38, M_h_now_38, M_h_now_people_38)
      )
    )
  ) else (
    some ((0 : Int32), M_h_now, M_h_now_people)
  )
def f_X2_has (M_h : Mem) (p1 : Int32) : Option (Int32) :=
  Option.bind (f_X11_within p1 (0 : Int32) ((M_h 0 0) - (1 : Int32))) fun r8 =>
  if ¬ (r8 = 0 ∨ r8 = 1) then none else
  some r8
def f_X2_areTwo (M_h : Mem) (p1 : Int32) (p2 : Int32) : Option (Int32) :=
  Option.bind (f_X2_has M_h p1) fun r2 =>
  if r2 = 0 then (
    some (0 : Int32)
  ) else (
    Option.bind (f_X2_has M_h p2) fun r10 =>
    if r10 = 0 then (
      some (0 : Int32)
    ) else (
      if p1 = p2 then (
        some (0 : Int32)
      ) else (
        some (1 : Int32)
      )
    )
  )
def f_X2_pay (M_h : Mem) (p1 : Int32) (p2 : Int32) (p3 : Int32) : Option (Mem) :=
  if p1 < 0 ∨ 8 ≤ (p1).toNatClampNeg then none else
  wr (upA M_h 5 p1 ((M_h 5 (p1).toNatClampNeg) - p3)) fun M_h_9 =>
  if p2 < 0 ∨ 8 ≤ (p2).toNatClampNeg then none else
  wr (upA M_h_9 5 p2 ((M_h_9 5 (p2).toNatClampNeg) + p3)) fun M_h_19 =>
  some M_h_19
def f_X0_room (M_h : Mem) (p1 : Int32) : Option (Int32) :=
  if p1 < 0 ∨ 12 ≤ (p1).toNatClampNeg then none else
  some ((M_h 2 (p1).toNatClampNeg) - (((M_h 2 (p1).toNatClampNeg) * (M_h 5 (p1).toNatClampNeg)) / (10 : Int32)))
def f_X0_roomOn_L4 : Nat → Mem → Int32 → Int32 → Int32 → Option (Int32)
  | 0, _, _, _, _ => none
  | n + 1, M_h, x1, x2, x3 =>
    if (M_h 0 0) ≤ x3 then (
      some x2
    ) else (
      if x3 < 0 ∨ 12 ≤ (x3).toNatClampNeg then none else
      if (M_h 6 (x3).toNatClampNeg) = x1 then (
        Option.bind (f_X0_room M_h x3) fun r25 =>
        f_X0_roomOn_L4 n M_h x1 (x2 + r25) (x3 + (1 : Int32))
      ) else (
        f_X0_roomOn_L4 n M_h x1 (x2 + (0 : Int32)) (x3 + (1 : Int32))
      )
    )
def f_X0_roomOn (M_h : Mem) (p1 : Int32) : Option (Int32) :=
  f_X0_roomOn_L4 FU M_h p1 (0 : Int32) (0 : Int32)
def f_X7_freeSlips (M_h : Mem) (M_h_cargo : Mem) (M_h_people : Mem) (p1 : Int32) : Option (Int32) :=
  if p1 < 0 ∨ 8 ≤ (p1).toNatClampNeg then none else
  Option.bind (f_X0_roomOn M_h_cargo p1) fun r14 =>
  some ((M_h_people 3 (p1).toNatClampNeg) - r14)
def f_X11_sell (M_h_now : Mem) (M_h_now_cargo : Mem) (M_h_now_people : Mem) (p1 : Int32) (p2 : Int32) (p3 : Int32) (p4 : Int32) : Option (Int32 × Mem) :=
  if (M_h_now 10 0) = 0 then (
    Option.bind (f_X2_areTwo M_h_now_people p1 p2) fun r19 =>
    if r19 = 0 then (
      some ((0 : Int32), M_h_now_people)
    ) else (
      Option.bind (f_X11_within p4 (0 : Int32) (10000 : Int32)) fun r31 =>
      if r31 = 0 then (
        some ((0 : Int32), M_h_now_people)
      ) else (
        Option.bind (f_X7_freeSlips M_h_now M_h_now_cargo M_h_now_people p1) fun r46 =>
        Option.bind (f_X11_within p3 (1 : Int32) r46) fun r49 =>
        if r49 = 0 then (
          some ((0 : Int32), M_h_now_people)
        ) else (
          if p1 < 0 ∨ 8 ≤ (p1).toNatClampNeg then none else
          wr (upA M_h_now_people 3 p1 ((M_h_now_people 3 (p1).toNatClampNeg) - p3)) fun M_h_now_people_72 =>
          if p2 < 0 ∨ 8 ≤ (p2).toNatClampNeg then none else
          wr (upA M_h_now_people_72 3 p2 ((M_h_now_people_72 3 (p2).toNatClampNeg) + p3)) fun M_h_now_people_88 =>
          Option.bind (f_X2_pay M_h_now_people_88 p2 p1 p4) fun M_h_now_people_100 =>
          some ((1 : Int32), M_h_now_people_100)
        )
      )
    )
  ) else (
    some ((0 : Int32), M_h_now_people)
  )
def f_X0_takeOff (M_h : Mem) (p1 : Int32) : Option (Mem) :=
  if p1 < 0 ∨ 12 ≤ (p1).toNatClampNeg then none else
  wr (upA M_h 6 p1 (-1 : Int32)) fun M_h_6 =>
  wr (upA M_h_6 7 p1 (-1 : Int32)) fun M_h_13 =>
  some M_h_13
def f_X0_enter (M_h : Mem) (p1 : Int32) (p2 : Int32) (p3 : Int32) (p4 : Int32) : Option (Int32 × Mem) :=
  if (M_h 0 0) < (12 : Int32) then (
    if (M_h 0 0) < 0 ∨ 12 ≤ ((M_h 0 0)).toNatClampNeg then none else
    wr (upA M_h 1 (M_h 0 0) p1) fun M_h_20 =>
    if (M_h_20 0 0) < 0 ∨ 12 ≤ ((M_h_20 0 0)).toNatClampNeg then none else
    wr (upA M_h_20 2 (M_h_20 0 0) p2) fun M_h_30 =>
    if (M_h_30 0 0) < 0 ∨ 12 ≤ ((M_h_30 0 0)).toNatClampNeg then none else
    wr (upA M_h_30 3 (M_h_30 0 0) p3) fun M_h_40 =>
    if (M_h_40 0 0) < 0 ∨ 12 ≤ ((M_h_40 0 0)).toNatClampNeg then none else
    wr (upA M_h_40 4 (M_h_40 0 0) p4) fun M_h_51 =>
    if (M_h_51 0 0) < 0 ∨ 12 ≤ ((M_h_51 0 0)).toNatClampNeg then none else
    wr (upA M_h_51 5 (M_h_51 0 0) (0 : Int32)) fun M_h_61 =>
    if (M_h_61 0 0) < 0 ∨ 12 ≤ ((M_h_61 0 0)).toNatClampNeg then none else
    wr (upA M_h_61 9 (M_h_61 0 0) (2 : Int32)) fun M_h_71 =>
    Option.bind (f_X0_takeOff M_h_71 (M_h_71 0 0)) fun M_h_77 =>
    wr (upS M_h_77 0 ((M_h_77 0 0) + (1 : Int32))) fun M_h_87 =>
    some (((M_h_87 0 0) - (1 : Int32)), M_h_87)
  ) else (
    some ((-1 : Int32), M_h)
  )
def f_X11_bale (M_h_now : Mem) (M_h_now_cargo : Mem) (M_h_now_people : Mem) (p1 : Int32) (p2 : Int32) (p3 : Int32) (p4 : Int32) : Option (Int32 × Mem) :=
  if (M_h_now 10 0) = 0 then (
    Option.bind (f_X2_has M_h_now_people p1) fun r18 =>
    if r18 = 0 then (
      some ((-1 : Int32), M_h_now_cargo)
    ) else (
      Option.bind (f_X11_within p2 (1 : Int32) (40 : Int32)) fun r30 =>
      if r30 = 0 then (
        some ((-1 : Int32), M_h_now_cargo)
      ) else (
        Option.bind (f_X11_within p3 (1 : Int32) (200 : Int32)) fun r41 =>
        if r41 = 0 then (
          some ((-1 : Int32), M_h_now_cargo)
        ) else (
          Option.bind (f_X11_within p4 (1 : Int32) (1000 : Int32)) fun r53 =>
          if r53 = 0 then (
            some ((-1 : Int32), M_h_now_cargo)
          ) else (
            bd2 (f_X0_enter M_h_now_cargo p1 p2 p3 p4) fun r73 M_h_now_cargo_73 =>
            some (r73, M_h_now_cargo_73)
          )
        )
      )
    )
  ) else (
    some ((-1 : Int32), M_h_now_cargo)
  )
def f_X0_has (M_h : Mem) (p1 : Int32) : Option (Int32) :=
  Option.bind (f_X11_within p1 (0 : Int32) ((M_h 0 0) - (1 : Int32))) fun r8 =>
  if ¬ (r8 = 0 ∨ r8 = 1) then none else
  some r8
def f_X0_waits (M_h : Mem) (p1 : Int32) : Option (Int32) :=
  Option.bind (f_X0_has M_h p1) fun r2 =>
  if r2 = 0 then (
    some (0 : Int32)
  ) else (
    if p1 < 0 ∨ 12 ≤ (p1).toNatClampNeg then none else
    if (M_h 6 (p1).toNatClampNeg) = (-1 : Int32) then (
      some (1 : Int32)
    ) else (
      some (0 : Int32)
    )
  )
def f_X11_press (M_h_now : Mem) (M_h_now_cargo : Mem) (p1 : Int32) (p2 : Int32) : Option (Int32 × Mem) :=
  if (M_h_now 10 0) = 0 then (
    Option.bind (f_X0_waits M_h_now_cargo p1) fun r18 =>
    if r18 = 0 then (
      some ((0 : Int32), M_h_now_cargo)
    ) else (
      Option.bind (f_X11_within p2 (0 : Int32) (3 : Int32)) fun r27 =>
      if r27 = 0 then (
        some ((0 : Int32), M_h_now_cargo)
      ) else (
        if p1 < 0 ∨ 12 ≤ (p1).toNatClampNeg then none else
        wr (upA M_h_now_cargo 5 p1 p2) fun M_h_now_cargo_47 =>
        some ((1 : Int32), M_h_now_cargo_47)
      )
    )
  ) else (
    some ((0 : Int32), M_h_now_cargo)
  )
def f_X7_layBale (M_h : Mem) (M_h_cargo : Mem) (M_h_people : Mem) (p1 : Int32) (p2 : Int32) (p3 : Int32) : Option (Int32 × Mem) :=
  Option.bind (f_X0_waits M_h_cargo p1) fun r5 =>
  if r5 = 0 then (
    some ((0 : Int32), M_h_cargo)
  ) else (
    Option.bind (f_X2_has M_h_people p2) fun r16 =>
    if r16 = 0 then (
      some ((0 : Int32), M_h_cargo)
    ) else (
      Option.bind (f_X0_room M_h_cargo p1) fun r29 =>
      Option.bind (f_X7_freeSlips M_h M_h_cargo M_h_people p2) fun r34 =>
      if r29 ≤ r34 then (
        if p1 < 0 ∨ 12 ≤ (p1).toNatClampNeg then none else
        wr (upA M_h_cargo 6 p1 p2) fun M_h_cargo_51 =>
        wr (upA M_h_cargo_51 7 p1 p3) fun M_h_cargo_61 =>
        some ((1 : Int32), M_h_cargo_61)
      ) else (
        some ((0 : Int32), M_h_cargo)
      )
    )
  )
def f_X11_lade (M_h_now : Mem) (M_h_now_cargo : Mem) (M_h_now_people : Mem) (p1 : Int32) (p2 : Int32) (p3 : Int32) : Option (Int32 × Mem) :=
  if (M_h_now 10 0) = 0 then (
    Option.bind (f_X11_within p3 (0 : Int32) (1 : Int32)) fun r13 =>
    if r13 = 0 then (
      some ((0 : Int32), M_h_now_cargo)
    ) else (
      bd2 (f_X7_layBale M_h_now M_h_now_cargo M_h_now_people p1 p2 p3) fun r28 M_h_now_cargo_28 =>
      if ¬ (r28 = 0 ∨ r28 = 1) then none else
      some (r28, M_h_now_cargo_28)
    )
  ) else (
    some ((0 : Int32), M_h_now_cargo)
  )
def f_X0_lies (M_h : Mem) (p1 : Int32) : Option (Int32) :=
  Option.bind (f_X0_has M_h p1) fun r2 =>
  if r2 = 0 then (
    some (0 : Int32)
  ) else (
    if p1 < 0 ∨ 12 ≤ (p1).toNatClampNeg then none else
    if (M_h 6 (p1).toNatClampNeg) = (-1 : Int32) then (
      some (0 : Int32)
    ) else (
      some (1 : Int32)
    )
  )
def f_X11_unlade (M_h_now : Mem) (M_h_now_cargo : Mem) (p1 : Int32) : Option (Int32 × Mem) :=
  if (M_h_now 10 0) = 0 then (
    Option.bind (f_X0_lies M_h_now_cargo p1) fun r18 =>
    if r18 = 0 then (
      some ((0 : Int32), M_h_now_cargo)
    ) else (
      Option.bind (f_X0_takeOff M_h_now_cargo p1) fun M_h_now_cargo_34 =>
      some ((1 : Int32), M_h_now_cargo_34)
    )
  ) else (
    some ((0 : Int32), M_h_now_cargo)
  )
def f_X0_keepPlan_L30 : Nat → Mem → Mem → Int32 → Option (Mem)
  | 0, _, _, _ => none
  | n + 1, M_a1, M_h, x2 =>
    if (M_a1 0 0) ≤ x2 then (
      some M_h
    ) else (
      if x2 < 0 ∨ 12 ≤ (x2).toNatClampNeg then none else
      if (M_a1 1 (x2).toNatClampNeg) < 0 ∨ 12 ≤ ((M_a1 1 (x2).toNatClampNeg)).toNatClampNeg then none else
      wr (upA M_h 9 (M_a1 1 (x2).toNatClampNeg) (M_a1 11 (x2).toNatClampNeg)) fun M_h_54 =>
      f_X0_keepPlan_L30 n M_a1 M_h_54 (x2 + (1 : Int32))
    )
def f_X0_keepPlan_L7 : Nat → Mem → Mem → Int32 → Option (Mem)
  | 0, _, _, _ => none
  | n + 1, M_a1, M_h, x2 =>
    if (M_h 0 0) ≤ x2 then (
      f_X0_keepPlan_L30 FU M_a1 M_h (0 : Int32)
    ) else (
      if x2 < 0 ∨ 12 ≤ (x2).toNatClampNeg then none else
      wr (upA M_h 9 x2 (2 : Int32)) fun M_h_21 =>
      f_X0_keepPlan_L7 n M_a1 M_h_21 (x2 + (1 : Int32))
    )
def f_X0_keepPlan (M_a1 : Mem) (M_h : Mem) : Option (Mem) :=
  wr (upS M_h 8 (1 : Int32)) fun M_h_2 =>
  f_X0_keepPlan_L7 FU M_a1 M_h_2 (0 : Int32)
def f_X0_waiting_L4 : Nat → Mem → Int32 → Int32 → Option (Int32)
  | 0, _, _, _ => none
  | n + 1, M_h, x1, x2 =>
    if (M_h 0 0) ≤ x2 then (
      some x1
    ) else (
      Option.bind (f_X0_waits M_h x2) fun r15 =>
      if r15 = 0 then (
        f_X0_waiting_L4 n M_h (x1 + (0 : Int32)) (x2 + (1 : Int32))
      ) else (
        f_X0_waiting_L4 n M_h (x1 + (1 : Int32)) (x2 + (1 : Int32))
      )
    )
def f_X0_waiting (M_h : Mem) : Option (Int32) :=
  f_X0_waiting_L4 FU M_h (0 : Int32) (0 : Int32)
def f_X0_weightOn_L4 : Nat → Mem → Int32 → Int32 → Int32 → Option (Int32)
  | 0, _, _, _, _ => none
  | n + 1, M_h, x1, x2, x3 =>
    if (M_h 0 0) ≤ x3 then (
      some x2
    ) else (
      if x3 < 0 ∨ 12 ≤ (x3).toNatClampNeg then none else
      if (M_h 7 (x3).toNatClampNeg) = x1 then (
        f_X0_weightOn_L4 n M_h x1 (x2 + (M_h 3 (x3).toNatClampNeg)) (x3 + (1 : Int32))
      ) else (
        f_X0_weightOn_L4 n M_h x1 (x2 + (0 : Int32)) (x3 + (1 : Int32))
      )
    )
def f_X0_weightOn (M_h : Mem) (p1 : Int32) : Option (Int32) :=
  f_X0_weightOn_L4 FU M_h p1 (0 : Int32) (0 : Int32)
def f_X0_ladenWeight (M_h : Mem) : Option (Int32) :=
  Option.bind (f_X0_weightOn M_h (0 : Int32)) fun r2 =>
  Option.bind (f_X0_weightOn M_h (1 : Int32)) fun r7 =>
  some (r2 + r7)
def f_X0_tilt (M_h : Mem) : Option (Int32) :=
  Option.bind (f_X0_weightOn M_h (0 : Int32)) fun r2 =>
  Option.bind (f_X0_weightOn M_h (1 : Int32)) fun r7 =>
  some (r2 - r7)
def f_X0_value (M_h : Mem) (p1 : Int32) : Option (Int32) :=
  if p1 < 0 ∨ 12 ≤ (p1).toNatClampNeg then none else
  some ((M_h 4 (p1).toNatClampNeg) - (((M_h 4 (p1).toNatClampNeg) * (M_h 5 (p1).toNatClampNeg)) / (20 : Int32)))
def f_X1_gather_L144 : Nat → Mem → Mem → Int32 → Option (Mem)
  | 0, _, _, _ => none
  | n + 1, M_a1, M_h, x2 =>
    if x2 < 0 then (
      some M_h
    ) else (
      if (x2 + (1 : Int32)) < 0 ∨ 13 ≤ ((x2 + (1 : Int32))).toNatClampNeg then none else
      if x2 < 0 ∨ 12 ≤ (x2).toNatClampNeg then none else
      if x2 < 0 ∨ 13 ≤ (x2).toNatClampNeg then none else
      wr (upA M_h 6 x2 ((M_h 6 ((x2 + (1 : Int32))).toNatClampNeg) + (M_h 3 (x2).toNatClampNeg))) fun M_h_168 =>
      wr (upA M_h_168 7 x2 ((M_h_168 7 ((x2 + (1 : Int32))).toNatClampNeg) + (M_h_168 4 (x2).toNatClampNeg))) fun M_h_189 =>
      wr (upA M_h_189 8 x2 ((M_h_189 8 ((x2 + (1 : Int32))).toNatClampNeg) + (M_h_189 5 (x2).toNatClampNeg))) fun M_h_210 =>
      f_X1_gather_L144 n M_a1 M_h_210 (x2 + (-1 : Int32))
    )
def f_X1_gather_L7 : Nat → Mem → Mem → Int32 → Option (Mem)
  | 0, _, _, _ => none
  | n + 1, M_a1, M_h, x2 =>
    if (M_a1 0 0) ≤ x2 then (
      if (M_h 0 0) < 0 ∨ 13 ≤ ((M_h 0 0)).toNatClampNeg then none else
      wr (upA M_h 6 (M_h 0 0) (0 : Int32)) fun M_h_116 =>
      if (M_h_116 0 0) < 0 ∨ 13 ≤ ((M_h_116 0 0)).toNatClampNeg then none else
      wr (upA M_h_116 7 (M_h_116 0 0) (0 : Int32)) fun M_h_126 =>
      if (M_h_126 0 0) < 0 ∨ 13 ≤ ((M_h_126 0 0)).toNatClampNeg then none else
      wr (upA M_h_126 8 (M_h_126 0 0) (0 : Int32)) fun M_h_136 =>
      f_X1_gather_L144 FU M_a1 M_h_136 ((M_h_136 0 0) - (1 : Int32))
    ) else (
      Option.bind (f_X0_waits M_a1 x2) fun r17 =>
      if r17 = 0 then (
        f_X1_gather_L7 n M_a1 M_h (x2 + (1 : Int32))
      ) else (
        if (M_h 0 0) < 0 ∨ 12 ≤ ((M_h 0 0)).toNatClampNeg then none else
        wr (upA M_h 1 (M_h 0 0) x2) fun M_h_32 =>
        if x2 < 0 ∨ 12 ≤ (x2).toNatClampNeg then none else
        if (M_h_32 0 0) < 0 ∨ 12 ≤ ((M_h_32 0 0)).toNatClampNeg then none else
        wr (upA M_h_32 2 (M_h_32 0 0) (M_a1 1 (x2).toNatClampNeg)) fun M_h_47 =>
        Option.bind (f_X0_room M_a1 x2) fun r58 =>
        if (M_h_47 0 0) < 0 ∨ 12 ≤ ((M_h_47 0 0)).toNatClampNeg then none else
        wr (upA M_h_47 3 (M_h_47 0 0) r58) fun M_h_61 =>
        Option.bind (f_X0_value M_a1 x2) fun r72 =>
        if (M_h_61 0 0) < 0 ∨ 12 ≤ ((M_h_61 0 0)).toNatClampNeg then none else
        wr (upA M_h_61 4 (M_h_61 0 0) r72) fun M_h_75 =>
        if (M_h_75 0 0) < 0 ∨ 12 ≤ ((M_h_75 0 0)).toNatClampNeg then none else
        wr (upA M_h_75 5 (M_h_75 0 0) (M_a1 3 (x2).toNatClampNeg)) fun M_h_90 =>
        wr (upS M_h_90 0 ((M_h_90 0 0) + (1 : Int32))) fun M_h_98 =>
        f_X1_gather_L7 n M_a1 M_h_98 (x2 + (1 : Int32))
      )
    )
def f_X1_gather (M_a1 : Mem) (M_h : Mem) : Option (Mem) :=
  wr (upS M_h 0 (0 : Int32)) fun M_h_2 =>
  f_X1_gather_L7 FU M_a1 M_h_2 (0 : Int32)
def f_X1_isHopeless (M_h : Mem) (p1 : Int32) (p2 : Int32) (p3 : Int32) (p4 : Int32) (p5 : Int32) : Option (Int32) :=
  if (M_h 13 0) < p5 then (
    some (1 : Int32)
  ) else (
    if p1 < 0 ∨ 13 ≤ (p1).toNatClampNeg then none else
    if ((if 0 ≤ p4 then p4 else 0 - p4) - (M_h 8 (p1).toNatClampNeg)) ≤ (M_h 12 0) then (
      if (M_h 14 0) = 0 then (
        some (0 : Int32)
      ) else (
        if (p2 + (M_h 7 (p1).toNatClampNeg)) < (M_h 15 0) then (
          some (1 : Int32)
        ) else (
          if (p2 + (M_h 7 (p1).toNatClampNeg)) = (M_h 15 0) then (
            if (p3 + (M_h 6 (p1).toNatClampNeg)) < (M_h 16 0) then (
              some (0 : Int32)
            ) else (
              some (1 : Int32)
            )
          ) else (
            some (0 : Int32)
          )
        )
      )
    ) else (
      some (1 : Int32)
    )
  )
def f_X1_keep (M_h : Mem) (p1 : Int32) (p2 : Int32) : Option (Mem) :=
  wr (upS M_h 14 (1 : Int32)) fun M_h_2 =>
  wr (upS M_h_2 15 p1) fun M_h_7 =>
  wr (upS M_h_7 16 p2) fun M_h_12 =>
  wr (upR M_h_12 11 (rowc 12 (M_h_12 10) (M_h_12 11))) fun M_h_23 =>
  some M_h_23
def f_X1_layFrom : Nat → Mem → Int32 → Int32 → Int32 → Int32 → Int32 → Option (Mem)
  | 0, _, _, _, _, _, _ => none
  | n + 1, M_a0, p1, p2, p3, p4, p5 =>
    if (M_a0 0 0) < p1 then (
      some M_a0
    ) else (
      Option.bind (f_X1_isHopeless M_a0 p1 p2 p3 p4 p5) fun r16 =>
      if r16 = 0 then (
        if p1 = (M_a0 0 0) then (
          Option.bind (f_X1_keep M_a0 p2 p3) fun M_a0_34 =>
          some M_a0_34
        ) else (
          if p1 < 0 ∨ 12 ≤ (p1).toNatClampNeg then none else
          if (M_a0 2 (p1).toNatClampNeg) < 0 ∨ 8 ≤ ((M_a0 2 (p1).toNatClampNeg)).toNatClampNeg then none else
          if (M_a0 9 ((M_a0 2 (p1).toNatClampNeg)).toNatClampNeg) < (M_a0 3 (p1).toNatClampNeg) then (
            wr (upA M_a0 10 p1 (2 : Int32)) fun M_a0_181 =>
            Option.bind (f_X1_layFrom n M_a0_181 (p1 + (1 : Int32)) p2 p3 p4 p5) fun M_a0_192 =>
            some M_a0_192
          ) else (
            wr (upA M_a0 9 (M_a0 2 (p1).toNatClampNeg) ((M_a0 9 ((M_a0 2 (p1).toNatClampNeg)).toNatClampNeg) - (M_a0 3 (p1).toNatClampNeg))) fun M_a0_88 =>
            wr (upA M_a0_88 10 p1 (0 : Int32)) fun M_a0_95 =>
            Option.bind (f_X1_layFrom n M_a0_95 (p1 + (1 : Int32)) (p2 + (M_a0_95 4 (p1).toNatClampNeg)) (p3 + (M_a0 3 (p1).toNatClampNeg)) (p4 + (M_a0_95 5 (p1).toNatClampNeg)) (p5 + (M_a0 5 (p1).toNatClampNeg))) fun M_a0_123 =>
            wr (upA M_a0_123 10 p1 (1 : Int32)) fun M_a0_132 =>
            Option.bind (f_X1_layFrom n M_a0_132 (p1 + (1 : Int32)) (p2 + (M_a0_132 4 (p1).toNatClampNeg)) (p3 + (M_a0 3 (p1).toNatClampNeg)) (p4 - (M_a0_132 5 (p1).toNatClampNeg)) (p5 + (M_a0 5 (p1).toNatClampNeg))) fun M_a0_160 =>
            wr (upA M_a0_160 9 (M_a0 2 (p1).toNatClampNeg) ((M_a0_160 9 ((M_a0 2 (p1).toNatClampNeg)).toNatClampNeg) + (M_a0 3 (p1).toNatClampNeg))) fun M_a0_174 =>
            wr (upA M_a0_174 10 p1 (2 : Int32)) fun M_a0_181 =>
            Option.bind (f_X1_layFrom n M_a0_181 (p1 + (1 : Int32)) p2 p3 p4 p5) fun M_a0_192 =>
            some M_a0_192
          )
        )
      ) else (
        some M_a0
      )
    )
def f_X1_start_L29 : Nat → Mem → Mem → Mem → Mem → Mem → Int32 → Option (Mem)
  | 0, _, _, _, _, _, _ => none
  | n + 1, M_a1, M_a1_cargo, M_a1_people, M_a1_rules, M_h, x2 =>
    if (M_a1_people 0 0) ≤ x2 then (
      Option.bind (f_X1_gather M_a1_cargo M_h) fun M_h_62 =>
      Option.bind (f_X0_tilt M_a1_cargo) fun r73 =>
      Option.bind (f_X0_ladenWeight M_a1_cargo) fun r80 =>
      Option.bind (f_X1_layFrom 16 M_h_62 (0 : Int32) (0 : Int32) (0 : Int32) r73 r80) fun M_h_83 =>
      some M_h_83
    ) else (
      Option.bind (f_X7_freeSlips M_a1 M_a1_cargo M_a1_people x2) fun r47 =>
      if x2 < 0 ∨ 8 ≤ (x2).toNatClampNeg then none else
      wr (upA M_h 9 x2 r47) fun M_h_50 =>
      f_X1_start_L29 n M_a1 M_a1_cargo M_a1_people M_a1_rules M_h_50 (x2 + (1 : Int32))
    )
def f_X1_start (M_a1 : Mem) (M_a1_cargo : Mem) (M_a1_people : Mem) (M_a1_rules : Mem) (M_h : Mem) : Option (Mem) :=
  wr (upS M_h 12 (M_a1_rules 0 0)) fun M_h_8 =>
  wr (upS M_h_8 13 (M_a1_rules 1 0)) fun M_h_19 =>
  wr (upS M_h_19 14 (0 : Int32)) fun M_h_24 =>
  f_X1_start_L29 FU M_a1 M_a1_cargo M_a1_people M_a1_rules M_h_24 (0 : Int32)
def f_X11_best (M_h_now : Mem) (M_h_now_cargo : Mem) (M_h_now_people : Mem) (M_h_now_rules : Mem) (M_h_search : Mem) : Option (Int32 × Mem × Mem) :=
  if (M_h_now 10 0) = 0 then (
    Option.bind (f_X0_waiting M_h_now_cargo) fun r17 =>
    if r17 ≤ (9 : Int32) then (
      Option.bind (f_X1_start M_h_now M_h_now_cargo M_h_now_people M_h_now_rules M_h_search) fun M_h_search_35 =>
      if (M_h_search_35 14 0) = 0 then (
        some ((-1 : Int32), M_h_now_cargo, M_h_search_35)
      ) else (
        Option.bind (f_X0_keepPlan M_h_search_35 M_h_now_cargo) fun M_h_now_cargo_61 =>
        some ((M_h_search_35 15 0), M_h_now_cargo_61, M_h_search_35)
      )
    ) else (
      some ((-1 : Int32), M_h_now_cargo, M_h_search)
    )
  ) else (
    some ((-1 : Int32), M_h_now_cargo, M_h_search)
  )
def f_X11_bestSide (M_h_now : Mem) (M_h_now_cargo : Mem) (p1 : Int32) : Option (Int32) :=
  if (M_h_now_cargo 8 0) = 0 then (
    some (-1 : Int32)
  ) else (
    Option.bind (f_X0_has M_h_now_cargo p1) fun r21 =>
    if r21 = 0 then (
      some (-1 : Int32)
    ) else (
      if p1 < 0 ∨ 12 ≤ (p1).toNatClampNeg then none else
      some (M_h_now_cargo 9 (p1).toNatClampNeg)
    )
  )
def f_X11_ladeBest_L29 : Nat → Mem → Mem → Mem → Int32 → Int32 → Option (Int32 × Mem)
  | 0, _, _, _, _, _ => none
  | n + 1, M_h_now, M_h_now_cargo, M_h_now_people, x1, x2 =>
    if (M_h_now_cargo 0 0) ≤ x2 then (
      some (x1, M_h_now_cargo)
    ) else (
      if x2 < 0 ∨ 12 ≤ (x2).toNatClampNeg then none else
      if (M_h_now_cargo 9 (x2).toNatClampNeg) = (2 : Int32) then (
        f_X11_ladeBest_L29 n M_h_now M_h_now_cargo M_h_now_people x1 (x2 + (1 : Int32))
      ) else (
        bd2 (f_X7_layBale M_h_now M_h_now_cargo M_h_now_people x2 (M_h_now_cargo 1 (x2).toNatClampNeg) (M_h_now_cargo 9 (x2).toNatClampNeg)) fun r79 M_h_now_cargo_79 =>
        if r79 = 0 then (
          f_X11_ladeBest_L29 n M_h_now M_h_now_cargo_79 M_h_now_people x1 (x2 + (1 : Int32))
        ) else (
          f_X11_ladeBest_L29 n M_h_now M_h_now_cargo_79 M_h_now_people (x1 + (1 : Int32)) (x2 + (1 : Int32))
        )
      )
    )
def f_X11_ladeBest (M_h_now : Mem) (M_h_now_cargo : Mem) (M_h_now_people : Mem) : Option (Int32 × Mem) :=
  if (M_h_now 10 0) = 0 then (
    if (M_h_now_cargo 8 0) = 0 then (
      some ((-1 : Int32), M_h_now_cargo)
    ) else (
      f_X11_ladeBest_L29 FU M_h_now M_h_now_cargo M_h_now_people (0 : Int32) (0 : Int32)
    )
  ) else (
    some ((-1 : Int32), M_h_now_cargo)
  )
def f_X6_bears (M_h : Mem) (p1 : Int32) (p2 : Int32) : Option (Int32) :=
  if (M_h 0 0) < (if 0 ≤ p1 then p1 else 0 - p1) then (
    some (0 : Int32)
  ) else (
    if (M_h 1 0) < p2 then (
      some (0 : Int32)
    ) else (
      some (1 : Int32)
    )
  )
def f_X11_sail (M_h_now : Mem) (M_h_now_cargo : Mem) (M_h_now_rules : Mem) : Option (Int32 × Mem) :=
  if (M_h_now 10 0) = 0 then (
    Option.bind (f_X0_tilt M_h_now_cargo) fun r24 =>
    Option.bind (f_X0_ladenWeight M_h_now_cargo) fun r34 =>
    Option.bind (f_X6_bears M_h_now_rules r24 r34) fun r37 =>
    if r37 = 0 then (
      some ((0 : Int32), M_h_now)
    ) else (
      wr (upS M_h_now 10 (1 : Int32)) fun M_h_now_50 =>
      some ((1 : Int32), M_h_now_50)
    )
  ) else (
    some ((0 : Int32), M_h_now)
  )
def f_X0_judged_L5 : Nat → Mem → Int32 → Int32 → Int32 → Int32 → Option (Int32)
  | 0, _, _, _, _, _ => none
  | n + 1, M_h, x1, x2, x3, x4 =>
    if (M_h 0 0) ≤ x4 then (
      some x3
    ) else (
      Option.bind (f_X0_lies M_h x4) fun r17 =>
      if r17 = 0 then (
        f_X0_judged_L5 n M_h x1 x2 x3 (x4 + (1 : Int32))
      ) else (
        if ((x1 >>> (x4 &&& 31)) &&& (1 : Int32)) = (1 : Int32) then (
          Option.bind (f_X0_value M_h x4) fun r37 =>
          f_X0_judged_L5 n M_h x1 x2 (x3 + r37) (x4 + (1 : Int32))
        ) else (
          f_X0_judged_L5 n M_h x1 x2 (x3 + x2) (x4 + (1 : Int32))
        )
      )
    )
def f_X0_judged (M_h : Mem) (p1 : Int32) (p2 : Int32) : Option (Int32) :=
  f_X0_judged_L5 FU M_h p1 p2 (0 : Int32) (0 : Int32)
def f_X11_board (M_h_now : Mem) (M_h_now_cargo : Mem) (M_h_now_rules : Mem) (p1 : Int32) (p2 : Int32) (p3 : Int32) (p4 : Int32) : Option (Int32) :=
  if p2 < 0 then (
    some (-1 : Int32)
  ) else (
    if p3 < p2 then (
      some (-1 : Int32)
    ) else (
      if p3 ≤ (1000 : Int32) then (
        if p4 = (0 : Int32) then (
          Option.bind (f_X0_judged M_h_now_cargo p1 p2) fun r57 =>
          some r57
        ) else (
          if p4 = (1 : Int32) then (
            Option.bind (f_X0_judged M_h_now_cargo p1 p3) fun r70 =>
            some r70
          ) else (
            if p4 = (2 : Int32) then (
              Option.bind (f_X0_judged M_h_now_cargo p1 p2) fun r83 =>
              if r83 ≤ (M_h_now_rules 2 0) then (
                some (0 : Int32)
              ) else (
                some (1 : Int32)
              )
            ) else (
              some (-1 : Int32)
            )
          )
        )
      ) else (
        some (-1 : Int32)
      )
    )
  )
def f_X5_enter (M_h : Mem) (p1 : Int32) (p2 : Int32) (p3 : Int32) (p4 : Int32) : Option (Int32 × Mem) :=
  if (M_h 0 0) < (20 : Int32) then (
    if (M_h 0 0) < 0 ∨ 20 ≤ ((M_h 0 0)).toNatClampNeg then none else
    wr (upA M_h 1 (M_h 0 0) p1) fun M_h_20 =>
    if (M_h_20 0 0) < 0 ∨ 20 ≤ ((M_h_20 0 0)).toNatClampNeg then none else
    wr (upA M_h_20 2 (M_h_20 0 0) p2) fun M_h_30 =>
    if (M_h_30 0 0) < 0 ∨ 20 ≤ ((M_h_30 0 0)).toNatClampNeg then none else
    wr (upA M_h_30 3 (M_h_30 0 0) p3) fun M_h_40 =>
    if (M_h_40 0 0) < 0 ∨ 20 ≤ ((M_h_40 0 0)).toNatClampNeg then none else
    wr (upA M_h_40 4 (M_h_40 0 0) p4) fun M_h_51 =>
    wr (upS M_h_51 0 ((M_h_51 0 0) + (1 : Int32))) fun M_h_59 =>
    some (((M_h_59 0 0) - (1 : Int32)), M_h_59)
  ) else (
    some ((-1 : Int32), M_h)
  )
def f_X11_loan (M_h_now : Mem) (M_h_now_debts : Mem) (M_h_now_people : Mem) (p1 : Int32) (p2 : Int32) (p3 : Int32) (p4 : Int32) : Option (Int32 × Mem × Mem) :=
  if (M_h_now 10 0) = 0 then (
    Option.bind (f_X2_areTwo M_h_now_people p1 p2) fun r19 =>
    if r19 = 0 then (
      some ((-1 : Int32), M_h_now_debts, M_h_now_people)
    ) else (
      Option.bind (f_X11_within p3 (1 : Int32) (10000 : Int32)) fun r32 =>
      if r32 = 0 then (
        some ((-1 : Int32), M_h_now_debts, M_h_now_people)
      ) else (
        Option.bind (f_X11_within p4 (0 : Int32) (100 : Int32)) fun r43 =>
        if r43 = 0 then (
          some ((-1 : Int32), M_h_now_debts, M_h_now_people)
        ) else (
          bd2 (f_X5_enter M_h_now_debts p1 p2 p3 p4) fun r63 M_h_now_debts_63 =>
          if r63 = (-1 : Int32) then (
            some (r63, M_h_now_debts_63, M_h_now_people)
          ) else (
            Option.bind (f_X2_pay M_h_now_people p1 p2 p3) fun M_h_now_people_84 =>
            some (r63, M_h_now_debts_63, M_h_now_people_84)
          )
        )
      )
    )
  ) else (
    some ((-1 : Int32), M_h_now_debts, M_h_now_people)
  )
def f_X0_dropAll (M_h : Mem) : Option (Mem) :=
  wr (upS M_h 0 (0 : Int32)) fun M_h_2 =>
  wr (upS M_h_2 8 (0 : Int32)) fun M_h_7 =>
  some M_h_7
def f_X10_isCell (p0 : Int32) (p1 : Int32) : Option (Int32) :=
  Option.bind (f_X11_within p0 (0 : Int32) (198 : Int32)) fun r5 =>
  if r5 = 0 then (
    some (0 : Int32)
  ) else (
    Option.bind (f_X11_within p1 (0 : Int32) (8 : Int32)) fun r15 =>
    if r15 = 0 then (
      some (0 : Int32)
    ) else (
      some (1 : Int32)
    )
  )
def f_X10_put (M_h : Mem) (p1 : Int32) (p2 : Int32) (p3 : Int32) : Option (Mem) :=
  Option.bind (f_X10_isCell p1 p2) fun r2 =>
  if r2 = 0 then (
    some M_h
  ) else (
    if ((p1 * (9 : Int32)) + p2) < 0 ∨ 1791 ≤ (((p1 * (9 : Int32)) + p2)).toNatClampNeg then none else
    wr (upA M_h 0 ((p1 * (9 : Int32)) + p2) p3) fun M_h_19 =>
    some M_h_19
  )
def f_X10_open (M_a3 : Mem) (M_h : Mem) (p1 : Int32) (p2 : Int32) : Option (Mem) :=
  Option.bind (f_X10_put M_h p1 (0 : Int32) p2) fun M_h_4 =>
  Option.bind (f_X0_waiting M_a3) fun r15 =>
  Option.bind (f_X10_put M_h_4 p1 (1 : Int32) ((M_a3 0 0) - r15)) fun M_h_19 =>
  Option.bind (f_X0_judged M_a3 (-1 : Int32) (0 : Int32)) fun r28 =>
  Option.bind (f_X10_put M_h_19 p1 (2 : Int32) r28) fun M_h_31 =>
  Option.bind (f_X0_ladenWeight M_a3) fun r38 =>
  Option.bind (f_X10_put M_h_31 p1 (3 : Int32) r38) fun M_h_41 =>
  some M_h_41
def f_X2_dropSlips_L2 : Nat → Mem → Int32 → Option (Mem)
  | 0, _, _ => none
  | n + 1, M_h, x1 =>
    if (M_h 0 0) ≤ x1 then (
      some M_h
    ) else (
      if x1 < 0 ∨ 8 ≤ (x1).toNatClampNeg then none else
      wr (upA M_h 3 x1 (0 : Int32)) fun M_h_16 =>
      f_X2_dropSlips_L2 n M_h_16 (x1 + (1 : Int32))
    )
def f_X2_dropSlips (M_h : Mem) : Option (Mem) :=
  f_X2_dropSlips_L2 FU M_h (0 : Int32)
def f_X0_ladenRoom_L4 : Nat → Mem → Int32 → Int32 → Option (Int32)
  | 0, _, _, _ => none
  | n + 1, M_h, x1, x2 =>
    if (M_h 0 0) ≤ x2 then (
      some x1
    ) else (
      Option.bind (f_X0_lies M_h x2) fun r15 =>
      if r15 = 0 then (
        f_X0_ladenRoom_L4 n M_h (x1 + (0 : Int32)) (x2 + (1 : Int32))
      ) else (
        Option.bind (f_X0_room M_h x2) fun r23 =>
        f_X0_ladenRoom_L4 n M_h (x1 + r23) (x2 + (1 : Int32))
      )
    )
def f_X0_ladenRoom (M_h : Mem) : Option (Int32) :=
  f_X0_ladenRoom_L4 FU M_h (0 : Int32) (0 : Int32)
def f_X10_raise (M_h : Mem) (p1 : Int32) (p2 : Int32) (p3 : Int32) : Option (Mem) :=
  Option.bind (f_X10_isCell p1 p2) fun r2 =>
  if r2 = 0 then (
    some M_h
  ) else (
    if ((p1 * (9 : Int32)) + p2) < 0 ∨ 1791 ≤ (((p1 * (9 : Int32)) + p2)).toNatClampNeg then none else
    wr (upA M_h 0 ((p1 * (9 : Int32)) + p2) ((M_h 0 (((p1 * (9 : Int32)) + p2)).toNatClampNeg) + p3)) fun M_h_22 =>
    some M_h_22
  )
def f_X7_landBale_L78 (M_h : Mem) (M_h_cargo : Mem) (M_h_ledger : Mem) (M_h_people : Mem) (M_h_rules : Mem) (x3 : Int32) (x4 : Int32) (x5 : Int32) (x6 : Int32) (x7 : Int32) : Option (Mem × Mem × Mem) :=
    wr (upS M_h 13 ((M_h 13 0) + x6)) fun M_h_86 =>
    if x4 < 0 ∨ 8 ≤ (x4).toNatClampNeg then none else
    wr (upA M_h_people 5 x4 ((M_h_people 5 (x4).toNatClampNeg) + x7)) fun M_h_people_103 =>
    wr (upA M_h_people_103 7 x4 ((M_h_people_103 7 (x4).toNatClampNeg) + x7)) fun M_h_people_118 =>
    if x3 < 0 ∨ 8 ≤ (x3).toNatClampNeg then none else
    wr (upA M_h_people_118 5 x3 ((M_h_people_118 5 (x3).toNatClampNeg) + ((x5 - x6) - x7))) fun M_h_people_138 =>
    wr (upA M_h_people_138 6 x3 ((M_h_people_138 6 (x3).toNatClampNeg) + x5)) fun M_h_people_152 =>
    Option.bind (f_X10_raise M_h_ledger (M_h_86 9 0) (5 : Int32) x5) fun M_h_ledger_164 =>
    Option.bind (f_X10_raise M_h_ledger_164 (M_h_86 9 0) (6 : Int32) x6) fun M_h_ledger_179 =>
    Option.bind (f_X10_raise M_h_ledger_179 (M_h_86 9 0) (7 : Int32) x7) fun M_h_ledger_194 =>
    some (M_h_86, M_h_ledger_194, M_h_people_152)
def f_X7_landBale (M_h : Mem) (M_h_cargo : Mem) (M_h_ledger : Mem) (M_h_people : Mem) (M_h_rules : Mem) (p1 : Int32) (p2 : Int32) : Option (Mem × Mem × Mem) :=
  if p1 < 0 ∨ 12 ≤ (p1).toNatClampNeg then none else
  Option.bind (f_X0_value M_h_cargo p1) fun r26 =>
  if (M_h_cargo 6 (p1).toNatClampNeg) = (M_h_cargo 1 (p1).toNatClampNeg) then (
    f_X7_landBale_L78 M_h M_h_cargo M_h_ledger M_h_people M_h_rules (M_h_cargo 1 (p1).toNatClampNeg) (M_h_cargo 6 (p1).toNatClampNeg) ((r26 * p2) / (100 : Int32)) (((r26 * p2) / (100 : Int32)) / (10 : Int32)) (0 : Int32)
  ) else (
    Option.bind (f_X0_room M_h_cargo p1) fun r64 =>
    f_X7_landBale_L78 M_h M_h_cargo M_h_ledger M_h_people M_h_rules (M_h_cargo 1 (p1).toNatClampNeg) (M_h_cargo 6 (p1).toNatClampNeg) ((r26 * p2) / (100 : Int32)) (((r26 * p2) / (100 : Int32)) / (10 : Int32)) (if (((r26 * p2) / (100 : Int32)) - (((r26 * p2) / (100 : Int32)) / (10 : Int32))) < ((M_h_rules 3 0) * r64) then (((r26 * p2) / (100 : Int32)) - (((r26 * p2) / (100 : Int32)) / (10 : Int32))) else ((M_h_rules 3 0) * r64))
  )
def f_X7_landBales_L40 : Nat → Mem → Mem → Mem → Mem → Mem → Int32 → Int32 → Option (Mem × Mem × Mem)
  | 0, _, _, _, _, _, _, _ => none
  | n + 1, M_h, M_h_cargo, M_h_ledger, M_h_people, M_h_rules, x2, x3 =>
    if (M_h_cargo 0 0) ≤ x3 then (
      some (M_h, M_h_ledger, M_h_people)
    ) else (
      Option.bind (f_X0_lies M_h_cargo x3) fun r56 =>
      if r56 = 0 then (
        f_X7_landBales_L40 n M_h M_h_cargo M_h_ledger M_h_people M_h_rules x2 (x3 + (1 : Int32))
      ) else (
        bd3 (f_X7_landBale M_h M_h_cargo M_h_ledger M_h_people M_h_rules x3 x2) fun M_h_65 M_h_ledger_65 M_h_people_65 =>
        f_X7_landBales_L40 n M_h_65 M_h_cargo M_h_ledger_65 M_h_people_65 M_h_rules x2 (x3 + (1 : Int32))
      )
    )
def f_X7_landBales_L24 (M_h : Mem) (M_h_cargo : Mem) (M_h_ledger : Mem) (M_h_people : Mem) (M_h_rules : Mem) (s0 : Int32) : Option (Mem × Mem × Mem) :=
    Option.bind (f_X10_put M_h_ledger (M_h 9 0) (4 : Int32) s0) fun M_h_ledger_35 =>
    f_X7_landBales_L40 FU M_h M_h_cargo M_h_ledger_35 M_h_people M_h_rules s0 (0 : Int32)
def f_X7_landBales (M_h : Mem) (M_h_cargo : Mem) (M_h_ledger : Mem) (M_h_people : Mem) (M_h_rules : Mem) : Option (Mem × Mem × Mem) :=
  Option.bind (f_X0_ladenRoom M_h_cargo) fun r6 =>
  if ((100 : Int32) + r6) ≤ 0 then (
    f_X7_landBales_L24 M_h M_h_cargo M_h_ledger M_h_people M_h_rules (0 : Int32)
  ) else (
    if ((100 : Int32) + r6) = 0 then none else
    f_X7_landBales_L24 M_h M_h_cargo M_h_ledger M_h_people M_h_rules ((20000 : Int32) / ((100 : Int32) + r6))
  )
def f_X5_owed (M_h : Mem) (p1 : Int32) : Option (Int32) :=
  if p1 < 0 ∨ 20 ≤ (p1).toNatClampNeg then none else
  some ((M_h 3 (p1).toNatClampNeg) + (((M_h 3 (p1).toNatClampNeg) * (M_h 4 (p1).toNatClampNeg)) / (100 : Int32)))
def f_X7_repayLoans_L2 : Nat → Mem → Mem → Mem → Int32 → Option (Mem)
  | 0, _, _, _, _ => none
  | n + 1, M_h, M_h_debts, M_h_people, x1 =>
    if (M_h_debts 0 0) ≤ x1 then (
      some M_h_people
    ) else (
      if x1 < 0 ∨ 20 ≤ (x1).toNatClampNeg then none else
      Option.bind (f_X5_owed M_h_debts x1) fun r40 =>
      Option.bind (f_X2_pay M_h_people (M_h_debts 2 (x1).toNatClampNeg) (M_h_debts 1 (x1).toNatClampNeg) r40) fun M_h_people_43 =>
      f_X7_repayLoans_L2 n M_h M_h_debts M_h_people_43 (x1 + (1 : Int32))
    )
def f_X7_repayLoans (M_h : Mem) (M_h_debts : Mem) (M_h_people : Mem) : Option (Mem) :=
  f_X7_repayLoans_L2 FU M_h M_h_debts M_h_people (0 : Int32)
def f_X7_closeYear_L58 (M_h : Mem) (M_h_cargo : Mem) (M_h_debts : Mem) (M_h_ledger : Mem) (M_h_people : Mem) (M_h_rules : Mem) : Option (Mem × Mem × Mem × Mem × Mem) :=
    Option.bind (f_X2_dropSlips M_h_people) fun M_h_people_62 =>
    Option.bind (f_X0_dropAll M_h_cargo) fun M_h_cargo_69 =>
    wr (upS M_h_debts 0 (0 : Int32)) fun M_h_debts_77 =>
    wr (upS M_h 11 (0 : Int32)) fun M_h_82 =>
    wr (upS M_h_82 10 (0 : Int32)) fun M_h_87 =>
    wr (upS M_h_87 9 ((M_h_87 9 0) + (1 : Int32))) fun M_h_97 =>
    some (M_h_97, M_h_cargo_69, M_h_debts_77, M_h_ledger, M_h_people_62)
def f_X7_closeYear (M_h : Mem) (M_h_cargo : Mem) (M_h_debts : Mem) (M_h_ledger : Mem) (M_h_people : Mem) (M_h_rules : Mem) (p1 : Int32) : Option (Mem × Mem × Mem × Mem × Mem) :=
  Option.bind (f_X10_open M_h_cargo M_h_ledger (M_h 9 0) (M_h 11 0)) fun M_h_ledger_16 =>
  if p1 = 0 then (
    bd3 (f_X7_landBales M_h M_h_cargo M_h_ledger_16 M_h_people M_h_rules) fun M_h_51 M_h_ledger_51 M_h_people_51 =>
    Option.bind (f_X7_repayLoans M_h_51 M_h_debts M_h_people_51) fun M_h_people_55 =>
    f_X7_closeYear_L58 M_h_51 M_h_cargo M_h_debts M_h_ledger_51 M_h_people_55 M_h_rules
  ) else (
    wr (upS M_h 12 ((M_h 12 0) + (1 : Int32))) fun M_h_30 =>
    Option.bind (f_X10_put M_h_ledger_16 (M_h_30 9 0) (8 : Int32) (1 : Int32)) fun M_h_ledger_44 =>
    f_X7_closeYear_L58 M_h_30 M_h_cargo M_h_debts M_h_ledger_44 M_h_people M_h_rules
  )
def f_X11_ends (M_h_now : Mem) (M_h_now_cargo : Mem) (M_h_now_debts : Mem) (M_h_now_ledger : Mem) (M_h_now_people : Mem) (M_h_now_rules : Mem) (p1 : Int32) : Option (Int32 × Mem × Mem × Mem × Mem × Mem) :=
  if (M_h_now 10 0) = 0 then (
    some ((-1 : Int32), M_h_now, M_h_now_cargo, M_h_now_debts, M_h_now_ledger, M_h_now_people)
  ) else (
    if (M_h_now 9 0) < (199 : Int32) then (
      bd5 (f_X7_closeYear M_h_now M_h_now_cargo M_h_now_debts M_h_now_ledger M_h_now_people M_h_now_rules p1) fun M_h_now_30 M_h_now_cargo_30 M_h_now_debts_30 M_h_now_ledger_30 M_h_now_people_30 =>
      some ((M_h_now_30 9 0), M_h_now_30, M_h_now_cargo_30, M_h_now_debts_30, M_h_now_ledger_30, M_h_now_people_30)
    ) else (
      some ((-1 : Int32), M_h_now, M_h_now_cargo, M_h_now_debts, M_h_now_ledger, M_h_now_people)
    )
  )
def f_X11_tell (M_h_now : Mem) (M_h_now_cargo : Mem) (M_h_now_law : Mem) (M_h_now_people : Mem) (p1 : Int32) (p2 : Int32) : Option (Int32) :=
  Option.bind (f_X2_has M_h_now_people p1) fun r10 =>
  if r10 = 0 then (
    some (-1000000000 : Int32)
  ) else (
    if p2 = (0 : Int32) then (
      if p1 < 0 ∨ 8 ≤ (p1).toNatClampNeg then none else
      some (M_h_now_people 1 (p1).toNatClampNeg)
    ) else (
      if p2 = (1 : Int32) then (
        if p1 < 0 ∨ 8 ≤ (p1).toNatClampNeg then none else
        some (M_h_now_people 2 (p1).toNatClampNeg)
      ) else (
        if p2 = (2 : Int32) then (
          Option.bind (f_X7_shareOf M_h_now M_h_now_law M_h_now_people p1) fun r87 =>
          some r87
        ) else (
          if p2 = (3 : Int32) then (
            if p1 < 0 ∨ 8 ≤ (p1).toNatClampNeg then none else
            some (M_h_now_people 3 (p1).toNatClampNeg)
          ) else (
            if p2 = (4 : Int32) then (
              Option.bind (f_X7_freeSlips M_h_now M_h_now_cargo M_h_now_people p1) fun r103 =>
              some r103
            ) else (
              if p2 = (5 : Int32) then (
                if p1 < 0 ∨ 8 ≤ (p1).toNatClampNeg then none else
                some (M_h_now_people 5 (p1).toNatClampNeg)
              ) else (
                if p2 = (6 : Int32) then (
                  if p1 < 0 ∨ 8 ≤ (p1).toNatClampNeg then none else
                  some (M_h_now_people 6 (p1).toNatClampNeg)
                ) else (
                  if p2 = (7 : Int32) then (
                    if p1 < 0 ∨ 8 ≤ (p1).toNatClampNeg then none else
                    some (M_h_now_people 7 (p1).toNatClampNeg)
                  ) else (
                    some (-1000000000 : Int32)
                  )
                )
              )
            )
          )
        )
      )
    )
  )
def f_X11_about (M_h_now : Mem) (M_h_now_cargo : Mem) (p1 : Int32) (p2 : Int32) : Option (Int32) :=
  Option.bind (f_X0_has M_h_now_cargo p1) fun r10 =>
  if r10 = 0 then (
    some (-1 : Int32)
  ) else (
    if p2 = (0 : Int32) then (
      if p1 < 0 ∨ 12 ≤ (p1).toNatClampNeg then none else
      some (M_h_now_cargo 1 (p1).toNatClampNeg)
    ) else (
      if p2 = (1 : Int32) then (
        if p1 < 0 ∨ 12 ≤ (p1).toNatClampNeg then none else
        some (M_h_now_cargo 2 (p1).toNatClampNeg)
      ) else (
        if p2 = (2 : Int32) then (
          if p1 < 0 ∨ 12 ≤ (p1).toNatClampNeg then none else
          some (M_h_now_cargo 3 (p1).toNatClampNeg)
        ) else (
          if p2 = (3 : Int32) then (
            if p1 < 0 ∨ 12 ≤ (p1).toNatClampNeg then none else
            some (M_h_now_cargo 4 (p1).toNatClampNeg)
          ) else (
            if p2 = (4 : Int32) then (
              if p1 < 0 ∨ 12 ≤ (p1).toNatClampNeg then none else
              some (M_h_now_cargo 5 (p1).toNatClampNeg)
            ) else (
              if p2 = (5 : Int32) then (
                Option.bind (f_X0_room M_h_now_cargo p1) fun r105 =>
                some r105
              ) else (
                if p2 = (6 : Int32) then (
                  Option.bind (f_X0_value M_h_now_cargo p1) fun r111 =>
                  some r111
                ) else (
                  if p2 = (7 : Int32) then (
                    if p1 < 0 ∨ 12 ≤ (p1).toNatClampNeg then none else
                    some (M_h_now_cargo 6 (p1).toNatClampNeg)
                  ) else (
                    if p2 = (8 : Int32) then (
                      if p1 < 0 ∨ 12 ≤ (p1).toNatClampNeg then none else
                      some (M_h_now_cargo 7 (p1).toNatClampNeg)
                    ) else (
                      some (-1 : Int32)
                    )
                  )
                )
              )
            )
          )
        )
      )
    )
  )
def f_X10_entry (M_h : Mem) (p1 : Int32) (p2 : Int32) : Option (Int32) :=
  Option.bind (f_X10_isCell p1 p2) fun r2 =>
  if r2 = 0 then (
    some (-1 : Int32)
  ) else (
    if ((p1 * (9 : Int32)) + p2) < 0 ∨ 1791 ≤ (((p1 * (9 : Int32)) + p2)).toNatClampNeg then none else
    some (M_h 0 (((p1 * (9 : Int32)) + p2)).toNatClampNeg)
  )
def f_X11_book (M_h_now : Mem) (M_h_now_ledger : Mem) (p1 : Int32) (p2 : Int32) : Option (Int32) :=
  Option.bind (f_X11_within p1 (0 : Int32) ((M_h_now 9 0) - (1 : Int32))) fun r11 =>
  if r11 = 0 then (
    some (-1 : Int32)
  ) else (
    Option.bind (f_X11_within p2 (0 : Int32) (8 : Int32)) fun r21 =>
    if r21 = 0 then (
      some (-1 : Int32)
    ) else (
      Option.bind (f_X10_entry M_h_now_ledger p1 p2) fun r38 =>
      some r38
    )
  )
def f_X11_count (M_h_now : Mem) (M_h_now_cargo : Mem) (M_h_now_debts : Mem) (M_h_now_law : Mem) (M_h_now_people : Mem) (p1 : Int32) : Option (Int32) :=
  if p1 = (0 : Int32) then (
    some (M_h_now_people 0 0)
  ) else (
    if p1 = (1 : Int32) then (
      some (M_h_now_cargo 0 0)
    ) else (
      if p1 = (2 : Int32) then (
        Option.bind (f_X0_waiting M_h_now_cargo) fun r95 =>
        some ((M_h_now_cargo 0 0) - r95)
      ) else (
        if p1 = (3 : Int32) then (
          some (M_h_now_debts 0 0)
        ) else (
          if p1 = (4 : Int32) then (
            some (M_h_now 9 0)
          ) else (
            if p1 = (5 : Int32) then (
              if (M_h_now 10 0) = 0 then (
                some (0 : Int32)
              ) else (
                some (1 : Int32)
              )
            ) else (
              if p1 = (6 : Int32) then (
                some (M_h_now_law 0 0)
              ) else (
                if p1 = (7 : Int32) then (
                  Option.bind (f_X0_tilt M_h_now_cargo) fun r153 =>
                  some r153
                ) else (
                  if p1 = (8 : Int32) then (
                    Option.bind (f_X0_ladenWeight M_h_now_cargo) fun r164 =>
                    some r164
                  ) else (
                    if p1 = (9 : Int32) then (
                      some (M_h_now 13 0)
                    ) else (
                      some (-1000000000 : Int32)
                    )
                  )
                )
              )
            )
          )
        )
      )
    )
  )
def f_X12_isIn (p0 : Int32) (p1 : Int32) (p2 : Int32) : Option (Int32) :=
  if p0 < p1 then (
    some (0 : Int32)
  ) else (
    if p2 < p0 then (
      some (0 : Int32)
    ) else (
      some (1 : Int32)
    )
  )
def f_X12_feed_L74 (K21 : Mem → Int32 → Int32 → Int32 → Int32 → Int32 → Int32 → Option (Int32 × Mem)) (M_h : Mem) (x1 : Int32) (x2 : Int32) (x3 : Int32) (x4 : Int32) (x5 : Int32) (x6 : Int32) (s0 : Int32) : Option (Int32 × Mem) :=
    if ((2390 : Int32) + (M_h 0 ((12 : Int32)).toNatClampNeg)) < 0 ∨ 11160 ≤ (((2390 : Int32) + (M_h 0 ((12 : Int32)).toNatClampNeg))).toNatClampNeg then none else
    wr (upA M_h 0 ((2390 : Int32) + (M_h 0 ((12 : Int32)).toNatClampNeg)) ((s0 >>> (((24 : Int32) - ((8 : Int32) * (x6 - x6 / (4 : Int32) * (4 : Int32)))) &&& 31)) &&& (255 : Int32))) fun M_h_108 =>
    wr (upA M_h_108 0 (12 : Int32) ((M_h_108 0 ((12 : Int32)).toNatClampNeg) + (1 : Int32))) fun M_h_119 =>
    K21 M_h_119 x1 x2 x3 x4 x5 (x6 + (1 : Int32))
def f_X12_feed_L21 : Nat → Mem → Int32 → Int32 → Int32 → Int32 → Int32 → Int32 → Option (Int32 × Mem)
  | 0, _, _, _, _, _, _, _ => none
  | n + 1, M_h, x1, x2, x3, x4, x5, x6 =>
    if (20 : Int32) ≤ x6 then (
      some ((M_h 0 ((12 : Int32)).toNatClampNeg), M_h)
    ) else (
      if (4 : Int32) ≤ x6 then (
        if (8 : Int32) ≤ x6 then (
          if (12 : Int32) ≤ x6 then (
            if (16 : Int32) ≤ x6 then (
              f_X12_feed_L74 (f_X12_feed_L21 n) M_h x1 x2 x3 x4 x5 x6 x5
            ) else (
              f_X12_feed_L74 (f_X12_feed_L21 n) M_h x1 x2 x3 x4 x5 x6 x4
            )
          ) else (
            f_X12_feed_L74 (f_X12_feed_L21 n) M_h x1 x2 x3 x4 x5 x6 x3
          )
        ) else (
          f_X12_feed_L74 (f_X12_feed_L21 n) M_h x1 x2 x3 x4 x5 x6 x2
        )
      ) else (
        f_X12_feed_L74 (f_X12_feed_L21 n) M_h x1 x2 x3 x4 x5 x6 x1
      )
    )
def f_X12_feed (M_h : Mem) (p1 : Int32) (p2 : Int32) (p3 : Int32) (p4 : Int32) (p5 : Int32) : Option (Int32 × Mem) :=
  if ((M_h 0 ((12 : Int32)).toNatClampNeg) + (20 : Int32)) ≤ (400 : Int32) then (
    f_X12_feed_L21 FU M_h p1 p2 p3 p4 p5 (0 : Int32)
  ) else (
    some ((-1 : Int32), M_h)
  )
def f_X12_end (M_h : Mem) (p1 : Int32) : Option (Int32 × Mem) :=
  if p1 < 0 then (
    some ((-1 : Int32), M_h)
  ) else (
    if p1 ≤ (M_h 0 ((12 : Int32)).toNatClampNeg) then (
      wr (upA M_h 0 (12 : Int32) p1) fun M_h_24 =>
      some (p1, M_h_24)
    ) else (
      some ((-1 : Int32), M_h)
    )
  )
def f_X12_byteAt (M_h : Mem) (p1 : Int32) : Option (Int32) :=
  if (M_h 2 0) ≤ p1 then (
    some (-1 : Int32)
  ) else (
    if ((2390 : Int32) + p1) < 0 ∨ 11160 ≤ (((2390 : Int32) + p1)).toNatClampNeg then none else
    some (M_h 0 (((2390 : Int32) + p1)).toNatClampNeg)
  )
def f_X12_isLetter (p0 : Int32) : Option (Int32) :=
  if p0 < (97 : Int32) then (
    some (0 : Int32)
  ) else (
    if (122 : Int32) < p0 then (
      some (0 : Int32)
    ) else (
      some (1 : Int32)
    )
  )
def f_X12_isDigit (p0 : Int32) : Option (Int32) :=
  if p0 < (48 : Int32) then (
    some (0 : Int32)
  ) else (
    if (57 : Int32) < p0 then (
      some (0 : Int32)
    ) else (
      some (1 : Int32)
    )
  )
def f_X12_three (p0 : Int32) (p1 : Int32) (p2 : Int32) : Option (Int64) :=
  some (((((((32 : Int64) * ((p0 - (96 : Int32))).toInt64) + (p1).toInt64) - (96 : Int64)) * (32 : Int64)) + (p2).toInt64) - (96 : Int64))
def f_X12_four (p0 : Int32) (p1 : Int32) (p2 : Int32) (p3 : Int32) : Option (Int64) :=
  Option.bind (f_X12_three p0 p1 p2) fun r3 =>
  some (((r3 * (32 : Int64)) + (p3).toInt64) - (96 : Int64))
def f_X12_wordOf (p0 : Int64) : Option (Int32) :=
  Option.bind (f_X12_four (119 : Int32) (105 : Int32) (100 : Int32) (111 : Int32)) fun r9 =>
  if (lg_cmp p0 (((r9 * (32 : Int64)) + (119 : Int64)) - (96 : Int64))) = 0 then (
    some (1 : Int32)
  ) else (
    Option.bind (f_X12_four (114 : Int32) (97 : Int32) (110 : Int32) (107 : Int32)) fun r39 =>
    if (lg_cmp p0 r39) = 0 then (
      some (2 : Int32)
    ) else (
      Option.bind (f_X12_four (121 : Int32) (101 : Int32) (97 : Int32) (114 : Int32)) fun r57 =>
      if (lg_cmp p0 r57) = 0 then (
        some (3 : Int32)
      ) else (
        Option.bind (f_X12_four (115 : Int32) (108 : Int32) (105 : Int32) (112 : Int32)) fun r75 =>
        if (lg_cmp p0 (((r75 * (32 : Int64)) + (115 : Int64)) - (96 : Int64))) = 0 then (
          some (4 : Int32)
        ) else (
          Option.bind (f_X12_four (108 : Int32) (111 : Int32) (115 : Int32) (116 : Int32)) fun r105 =>
          if (lg_cmp p0 r105) = 0 then (
            some (5 : Int32)
          ) else (
            Option.bind (f_X12_four (115 : Int32) (104 : Int32) (97 : Int32) (114 : Int32)) fun r123 =>
            if (lg_cmp p0 (((r123 * (32 : Int64)) + (101 : Int64)) - (96 : Int64))) = 0 then (
              some (20 : Int32)
            ) else (
              Option.bind (f_X12_four (112 : Int32) (108 : Int32) (117 : Int32) (115 : Int32)) fun r154 =>
              if (lg_cmp p0 r154) = 0 then (
                some (21 : Int32)
              ) else (
                Option.bind (f_X12_four (110 : Int32) (111 : Int32) (110 : Int32) (101 : Int32)) fun r173 =>
                if (lg_cmp p0 r173) = 0 then (
                  some (22 : Int32)
                ) else (
                  if (lg_cmp p0 (294 : Int64)) = 0 then (
                    some (30 : Int32)
                  ) else (
                    Option.bind (f_X12_three (97 : Int32) (110 : Int32) (100 : Int32)) fun r201 =>
                    if (lg_cmp p0 r201) = 0 then (
                      some (31 : Int32)
                    ) else (
                      Option.bind (f_X12_three (110 : Int32) (111 : Int32) (116 : Int32)) fun r218 =>
                      if (lg_cmp p0 r218) = 0 then (
                        some (32 : Int32)
                      ) else (
                        some (99 : Int32)
                      )
                    )
                  )
                )
              )
            )
          )
        )
      )
    )
  )
def f_X12_isSignByte (p0 : Int32) : Option (Int32) :=
  if p0 = (58 : Int32) then (
    some (1 : Int32)
  ) else (
    if p0 = (59 : Int32) then (
      some (1 : Int32)
    ) else (
      if p0 = (60 : Int32) then (
        some (1 : Int32)
      ) else (
        if p0 = (62 : Int32) then (
          some (1 : Int32)
        ) else (
          if p0 = (61 : Int32) then (
            some (1 : Int32)
          ) else (
            some (0 : Int32)
          )
        )
      )
    )
  )
def f_X12_advance_L161 (M_h : Mem) (s0 : Int32) : Option (Mem) :=
    wr (upS M_h 8 s0) fun M_h_161 =>
    if (M_h_161 8 0) = (99 : Int32) then (
      wr (upS M_h_161 5 (4 : Int32)) fun M_h_179 =>
      some M_h_179
    ) else (
      wr (upS M_h_161 5 (3 : Int32)) fun M_h_179 =>
      some M_h_179
    )
def f_X12_advance_L77 : Nat → Mem → Int64 → Option (Mem)
  | 0, _, _ => none
  | n + 1, M_h, x2 =>
    Option.bind (f_X12_byteAt M_h (M_h 3 0)) fun r82 =>
    Option.bind (f_X12_isLetter r82) fun r85 =>
    if r85 = 0 then (
      if ((M_h 3 0) - (M_h 4 0)) ≤ (5 : Int32) then (
        Option.bind (f_X12_wordOf x2) fun r158 =>
        f_X12_advance_L161 M_h r158
      ) else (
        f_X12_advance_L161 M_h (99 : Int32)
      )
    ) else (
      if (6 : Int32) ≤ ((M_h 3 0) - (M_h 4 0)) then (
        wr (upS M_h 3 ((M_h 3 0) + (1 : Int32))) fun M_h_132 =>
        f_X12_advance_L77 n M_h_132 x2
      ) else (
        Option.bind (f_X12_byteAt M_h (M_h 3 0)) fun r115 =>
        wr (upS M_h 3 ((M_h 3 0) + (1 : Int32))) fun M_h_132 =>
        f_X12_advance_L77 n M_h_132 ((((32 : Int64) * x2) + (r115).toInt64) - (96 : Int64))
      )
    )
def f_X12_advance_L197 : Nat → Mem → Option (Mem)
  | 0, _ => none
  | n + 1, M_h =>
    Option.bind (f_X12_byteAt M_h (M_h 3 0)) fun r202 =>
    Option.bind (f_X12_isDigit r202) fun r205 =>
    if r205 = 0 then (
      if ((M_h 3 0) - (M_h 4 0)) ≤ (3 : Int32) then (
        wr (upS M_h 5 (1 : Int32)) fun M_h_279 =>
        some M_h_279
      ) else (
        wr (upS M_h 5 (4 : Int32)) fun M_h_279 =>
        some M_h_279
      )
    ) else (
      if (3 : Int32) ≤ ((M_h 3 0) - (M_h 4 0)) then (
        wr (upS M_h 3 ((M_h 3 0) + (1 : Int32))) fun M_h_254 =>
        f_X12_advance_L197 n M_h_254
      ) else (
        Option.bind (f_X12_byteAt M_h (M_h 3 0)) fun r237 =>
        wr (upS M_h 6 ((((10 : Int32) * (M_h 6 0)) + r237) - (48 : Int32))) fun M_h_244 =>
        wr (upS M_h_244 3 ((M_h_244 3 0) + (1 : Int32))) fun M_h_254 =>
        f_X12_advance_L197 n M_h_254
      )
    )
def f_X12_advance_L0 : Nat → Mem → Option (Mem)
  | 0, _ => none
  | n + 1, M_h =>
    Option.bind (f_X12_byteAt M_h (M_h 3 0)) fun r5 =>
    if r5 = (10 : Int32) then (
      wr (upS M_h 3 ((M_h 3 0) + (1 : Int32))) fun M_h_33 =>
      f_X12_advance_L0 n M_h_33
    ) else (
      Option.bind (f_X12_byteAt M_h (M_h 3 0)) fun r18 =>
      if r18 = (32 : Int32) then (
        wr (upS M_h 3 ((M_h 3 0) + (1 : Int32))) fun M_h_33 =>
        f_X12_advance_L0 n M_h_33
      ) else (
        wr (upS M_h 4 (M_h 3 0)) fun M_h_44 =>
        Option.bind (f_X12_byteAt M_h_44 (M_h_44 3 0)) fun r52 =>
        if 0 ≤ r52 then (
          Option.bind (f_X12_isLetter r52) fun r69 =>
          if r69 = 0 then (
            Option.bind (f_X12_isDigit r52) fun r186 =>
            if r186 = 0 then (
              wr (upS M_h_44 3 ((M_h_44 3 0) + (1 : Int32))) fun M_h_292 =>
              wr (upS M_h_292 7 r52) fun M_h_297 =>
              Option.bind (f_X12_isSignByte r52) fun r302 =>
              if r302 = 0 then (
                wr (upS M_h_297 5 (4 : Int32)) fun M_h_313 =>
                some M_h_313
              ) else (
                wr (upS M_h_297 5 (2 : Int32)) fun M_h_313 =>
                some M_h_313
              )
            ) else (
              wr (upS M_h_44 6 (0 : Int32)) fun M_h_194 =>
              f_X12_advance_L197 FU M_h_194
            )
          ) else (
            f_X12_advance_L77 FU M_h_44 (0 : Int64)
          )
        ) else (
          wr (upS M_h_44 5 (0 : Int32)) fun M_h_62 =>
          some M_h_62
        )
      )
    )
def f_X12_advance (M_h : Mem) : Option (Mem) :=
  f_X12_advance_L0 FU M_h
def f_X12_stops (M_h : Mem) : Option (Mem) :=
  if (M_h 9 0) = 0 then (
    wr (upS M_h 9 (1 : Int32)) fun M_h_10 =>
    wr (upA M_h_10 0 (13 : Int32) (1 : Int32)) fun M_h_20 =>
    wr (upA M_h_20 0 (14 : Int32) (M_h_20 4 0)) fun M_h_31 =>
    some M_h_31
  ) else (
    some M_h
  )
def f_X12_tooMany (M_h : Mem) : Option (Mem) :=
  if (M_h 9 0) = 0 then (
    if (M_h 0 ((13 : Int32)).toNatClampNeg) = 0 then (
      wr (upA M_h 0 (13 : Int32) (3 : Int32)) fun M_h_25 =>
      wr (upA M_h_25 0 (14 : Int32) (M_h_25 4 0)) fun M_h_36 =>
      some M_h_36
    ) else (
      some M_h
    )
  ) else (
    some M_h
  )
def f_X12_takes (M_h : Mem) (p1 : Int32) : Option (Int32 × Mem) :=
  if (M_h 9 0) = 0 then (
    if (M_h 5 0) = (3 : Int32) then (
      if (M_h 8 0) = p1 then (
        Option.bind (f_X12_advance M_h) fun M_h_26 =>
        some ((1 : Int32), M_h_26)
      ) else (
        some ((0 : Int32), M_h)
      )
    ) else (
      some ((0 : Int32), M_h)
    )
  ) else (
    some ((0 : Int32), M_h)
  )
def f_X12_must (M_h : Mem) (p1 : Int32) : Option (Mem) :=
  if (M_h 9 0) = 0 then (
    if (M_h 5 0) = (2 : Int32) then (
      if (M_h 7 0) = p1 then (
        Option.bind (f_X12_advance M_h) fun M_h_24 =>
        some M_h_24
      ) else (
        Option.bind (f_X12_stops M_h) fun M_h_31 =>
        some M_h_31
      )
    ) else (
      Option.bind (f_X12_stops M_h) fun M_h_31 =>
      some M_h_31
    )
  ) else (
    Option.bind (f_X12_stops M_h) fun M_h_31 =>
    some M_h_31
  )
def f_X12_numbered (M_h : Mem) : Option (Int32 × Mem) :=
  if (M_h 9 0) = 0 then (
    if (M_h 5 0) = (1 : Int32) then (
      Option.bind (f_X12_advance M_h) fun M_h_21 =>
      some ((M_h 6 0), M_h_21)
    ) else (
      Option.bind (f_X12_stops M_h) fun M_h_28 =>
      some ((M_h 6 0), M_h_28)
    )
  ) else (
    Option.bind (f_X12_stops M_h) fun M_h_28 =>
    some ((M_h 6 0), M_h_28)
  )
def f_X12_aTest_L19 (M_h : Mem) (s0 : Int32) (s1 : Int32) : Option (Mem) :=
    if s1 < 0 ∨ 4 ≤ (s1).toNatClampNeg then none else
    wr (upA M_h 12 s1 s0) fun M_h_19 =>
    wr (upA M_h_19 12 (1 : Int32) (M_h_19 8 0)) fun M_h_29 =>
    wr (upA M_h_29 12 (2 : Int32) (61 : Int32)) fun M_h_37 =>
    wr (upA M_h_37 12 (3 : Int32) (1 : Int32)) fun M_h_44 =>
    if (M_h_44 9 0) = 0 then (
      if (M_h_44 5 0) = (3 : Int32) then (
        Option.bind (f_X12_isIn (M_h_44 8 0) (1 : Int32) (5 : Int32)) fun r66 =>
        if r66 = 0 then (
          Option.bind (f_X12_stops M_h_44) fun M_h_73 =>
          some M_h_73
        ) else (
          Option.bind (f_X12_advance M_h_44) fun M_h_78 =>
          if (M_h_78 12 ((1 : Int32)).toNatClampNeg) = (1 : Int32) then (
            some M_h_78
          ) else (
            wr (upA M_h_78 12 (2 : Int32) (M_h_78 7 0)) fun M_h_101 =>
            if (M_h_101 5 0) = (2 : Int32) then (
              if (M_h_101 7 0) = (58 : Int32) then (
                Option.bind (f_X12_stops M_h_101) fun M_h_129 =>
                some M_h_129
              ) else (
                if (M_h_101 7 0) = (59 : Int32) then (
                  Option.bind (f_X12_stops M_h_101) fun M_h_129 =>
                  some M_h_129
                ) else (
                  Option.bind (f_X12_advance M_h_101) fun M_h_134 =>
                  bd2 (f_X12_numbered M_h_134) fun r143 M_h_143 =>
                  wr (upA M_h_143 12 (3 : Int32) r143) fun M_h_146 =>
                  some M_h_146
                )
              )
            ) else (
              Option.bind (f_X12_stops M_h_101) fun M_h_129 =>
              some M_h_129
            )
          )
        )
      ) else (
        Option.bind (f_X12_stops M_h_44) fun M_h_73 =>
        some M_h_73
      )
    ) else (
      Option.bind (f_X12_stops M_h_44) fun M_h_73 =>
      some M_h_73
    )
def f_X12_aTest (M_h : Mem) : Option (Mem) :=
  bd2 (f_X12_takes M_h (32 : Int32)) fun r8 M_h_8 =>
  if r8 = 0 then (
    f_X12_aTest_L19 M_h_8 (0 : Int32) (0 : Int32)
  ) else (
    f_X12_aTest_L19 M_h_8 (1 : Int32) (0 : Int32)
  )
def f_X12_puts (M_h : Mem) (p1 : Int32) (p2 : Int32) : Option (Mem) :=
  if (16 : Int32) ≤ (M_h 10 0) then (
    some M_h
  ) else (
    if (((19 : Int32) * (M_h 10 0)) + p1) < 0 ∨ 304 ≤ ((((19 : Int32) * (M_h 10 0)) + p1)).toNatClampNeg then none else
    wr (upA M_h 11 (((19 : Int32) * (M_h 10 0)) + p1) p2) fun M_h_23 =>
    some M_h_23
  )
def f_X12_aLine_L45 (K26 : Mem → Int32 → Int32 → Option (Mem)) : Nat → Mem → Int32 → Int32 → Option (Mem)
  | 0, _, _, _ => none
  | n + 1, M_h, x1, x3 =>
    if (4 : Int32) ≤ x3 then (
      bd2 (f_X12_takes M_h (31 : Int32)) fun r84 M_h_84 =>
      K26 M_h_84 (x1 + (1 : Int32)) r84
    ) else (
      if (4 : Int32) ≤ x1 then (
        bd2 (f_X12_takes M_h (31 : Int32)) fun r84 M_h_84 =>
        K26 M_h_84 (x1 + (1 : Int32)) r84
      ) else (
        if x3 < 0 ∨ 4 ≤ (x3).toNatClampNeg then none else
        Option.bind (f_X12_puts M_h (((1 : Int32) + ((4 : Int32) * x1)) + x3) (M_h 12 (x3).toNatClampNeg)) fun M_h_69 =>
        f_X12_aLine_L45 K26 n M_h_69 x1 (x3 + (1 : Int32))
      )
    )
def f_X12_aLine_L154 (M_h : Mem) (x1 : Int32) (x2 : Int32) (s0 : Int32) : Option (Mem) :=
    Option.bind (f_X12_must M_h (59 : Int32)) fun M_h_158 =>
    Option.bind (f_X12_puts M_h_158 (0 : Int32) x1) fun M_h_164 =>
    Option.bind (f_X12_puts M_h_164 (17 : Int32) x2) fun M_h_171 =>
    Option.bind (f_X12_puts M_h_171 (18 : Int32) s0) fun M_h_178 =>
    wr (upS M_h_178 10 ((M_h_178 10 0) + (1 : Int32))) fun M_h_188 =>
    some M_h_188
def f_X12_aLine_L97 (M_h : Mem) (x1 : Int32) : Option (Mem) :=
    if (M_h 9 0) = 0 then (
      if (M_h 5 0) = (3 : Int32) then (
        Option.bind (f_X12_isIn (M_h 8 0) (20 : Int32) (22 : Int32)) fun r120 =>
        if r120 = 0 then (
          Option.bind (f_X12_stops M_h) fun M_h_127 =>
          some M_h_127
        ) else (
          Option.bind (f_X12_advance M_h) fun M_h_137 =>
          if (M_h 8 0) = (22 : Int32) then (
            f_X12_aLine_L154 M_h_137 x1 (M_h 8 0) (0 : Int32)
          ) else (
            bd2 (f_X12_numbered M_h_137) fun r151 M_h_151 =>
            f_X12_aLine_L154 M_h_151 x1 (M_h 8 0) r151
          )
        )
      ) else (
        Option.bind (f_X12_stops M_h) fun M_h_127 =>
        some M_h_127
      )
    ) else (
      Option.bind (f_X12_stops M_h) fun M_h_127 =>
      some M_h_127
    )
def f_X12_aLine_L26 : Nat → Mem → Int32 → Int32 → Option (Mem)
  | 0, _, _, _ => none
  | n + 1, M_h, x1, x2 =>
    if x2 = 0 then (
      Option.bind (f_X12_must M_h (58 : Int32)) fun M_h_94 =>
      f_X12_aLine_L97 M_h_94 x1
    ) else (
      if x1 ≤ (3 : Int32) then (
        Option.bind (f_X12_aTest M_h) fun M_h_40 =>
        f_X12_aLine_L45 (f_X12_aLine_L26 n) FU M_h_40 x1 (0 : Int32)
      ) else (
        Option.bind (f_X12_tooMany M_h) fun M_h_36 =>
        Option.bind (f_X12_aTest M_h_36) fun M_h_40 =>
        f_X12_aLine_L45 (f_X12_aLine_L26 n) FU M_h_40 x1 (0 : Int32)
      )
    )
def f_X12_aLine_L13 (M_h : Mem) : Option (Mem) :=
    bd2 (f_X12_takes M_h (30 : Int32)) fun r18 M_h_18 =>
    if r18 = 0 then (
      f_X12_aLine_L97 M_h_18 (0 : Int32)
    ) else (
      f_X12_aLine_L26 FU M_h_18 (0 : Int32) (1 : Int32)
    )
def f_X12_aLine (M_h : Mem) : Option (Mem) :=
  if (M_h 10 0) < (16 : Int32) then (
    f_X12_aLine_L13 M_h
  ) else (
    Option.bind (f_X12_tooMany M_h) fun M_h_10 =>
    f_X12_aLine_L13 M_h_10
  )
def f_X12_decree_L89 : Nat → Mem → Int32 → Option (Int32 × Mem)
  | 0, _, _ => none
  | n + 1, M_h, x1 =>
    if (304 : Int32) ≤ x1 then (
      wr (upA M_h 0 (7 : Int32) (M_h 10 0)) fun M_h_128 =>
      some ((M_h_128 10 0), M_h_128)
    ) else (
      if x1 < 0 ∨ 304 ≤ (x1).toNatClampNeg then none else
      if ((2080 : Int32) + x1) < 0 ∨ 11160 ≤ (((2080 : Int32) + x1)).toNatClampNeg then none else
      wr (upA M_h 0 ((2080 : Int32) + x1) (M_h 11 (x1).toNatClampNeg)) fun M_h_111 =>
      f_X12_decree_L89 n M_h_111 (x1 + (1 : Int32))
    )
def f_X12_decree_L75 (M_h : Mem) : Option (Int32 × Mem) :=
    if (M_h 0 ((13 : Int32)).toNatClampNeg) = 0 then (
      f_X12_decree_L89 FU M_h (0 : Int32)
    ) else (
      some ((-1 : Int32), M_h)
    )
def f_X12_decree_L54 : Nat → Mem → Option (Int32 × Mem)
  | 0, _ => none
  | n + 1, M_h =>
    if (M_h 9 0) = 0 then (
      if (M_h 5 0) = 0 then (
        f_X12_decree_L75 M_h
      ) else (
        Option.bind (f_X12_aLine M_h) fun M_h_69 =>
        f_X12_decree_L54 n M_h_69
      )
    ) else (
      f_X12_decree_L75 M_h
    )
def f_X12_decree (M_h : Mem) : Option (Int32 × Mem) :=
  wr (upS M_h 2 (M_h 0 ((12 : Int32)).toNatClampNeg)) fun M_h_8 =>
  wr (upA M_h_8 0 (12 : Int32) (0 : Int32)) fun M_h_18 =>
  wr (upS M_h_18 3 (0 : Int32)) fun M_h_21 =>
  wr (upA M_h_21 0 (13 : Int32) (0 : Int32)) fun M_h_31 =>
  wr (upA M_h_31 0 (14 : Int32) (-1 : Int32)) fun M_h_39 =>
  wr (upS M_h_39 9 (0 : Int32)) fun M_h_42 =>
  wr (upS M_h_42 10 (0 : Int32)) fun M_h_47 =>
  Option.bind (f_X12_advance M_h_47) fun M_h_51 =>
  f_X12_decree_L54 FU M_h_51
def f_X12_fault (M_h : Mem) (p1 : Int32) : Option (Int32) :=
  if p1 = 0 then (
    some (M_h 0 ((13 : Int32)).toNatClampNeg)
  ) else (
    if p1 = (1 : Int32) then (
      some (M_h 0 ((14 : Int32)).toNatClampNeg)
    ) else (
      some (-1 : Int32)
    )
  )
def f_X12_isCitizen (M_h : Mem) (p1 : Int32) : Option (Int32) :=
  Option.bind (f_X12_isIn p1 (0 : Int32) ((M_h 0 ((3 : Int32)).toNatClampNeg) - (1 : Int32))) fun r10 =>
  if ¬ (r10 = 0 ∨ r10 = 1) then none else
  some r10
def f_X12_of (M_h : Mem) (p1 : Int32) (p2 : Int32) : Option (Int32) :=
  if (((20 : Int32) + ((8 : Int32) * p1)) + p2) < 0 ∨ 11160 ≤ ((((20 : Int32) + ((8 : Int32) * p1)) + p2)).toNatClampNeg then none else
  some (M_h 0 ((((20 : Int32) + ((8 : Int32) * p1)) + p2)).toNatClampNeg)
def f_X12_adds (M_h : Mem) (p1 : Int32) (p2 : Int32) (p3 : Int32) : Option (Mem) :=
  if (((20 : Int32) + ((8 : Int32) * p1)) + p2) < 0 ∨ 11160 ≤ ((((20 : Int32) + ((8 : Int32) * p1)) + p2)).toNatClampNeg then none else
  wr (upA M_h 0 (((20 : Int32) + ((8 : Int32) * p1)) + p2) ((M_h 0 ((((20 : Int32) + ((8 : Int32) * p1)) + p2)).toNatClampNeg) + p3)) fun M_h_17 =>
  some M_h_17
def f_X12_citizen_L43 : Nat → Mem → Int32 → Int32 → Int32 → Int32 → Option (Int32 × Mem)
  | 0, _, _, _, _, _ => none
  | n + 1, M_h, x1, x2, x3, x4 =>
    if (8 : Int32) ≤ x4 then (
      if ((20 : Int32) + ((8 : Int32) * x3)) < 0 ∨ 11160 ≤ (((20 : Int32) + ((8 : Int32) * x3))).toNatClampNeg then none else
      wr (upA M_h 0 ((20 : Int32) + ((8 : Int32) * x3)) x1) fun M_h_84 =>
      if x2 = 0 then (
        if (((20 : Int32) + ((8 : Int32) * x3)) + (1 : Int32)) < 0 ∨ 11160 ≤ ((((20 : Int32) + ((8 : Int32) * x3)) + (1 : Int32))).toNatClampNeg then none else
        wr (upA M_h_84 0 (((20 : Int32) + ((8 : Int32) * x3)) + (1 : Int32)) (0 : Int32)) fun M_h_107 =>
        some (x3, M_h_107)
      ) else (
        if (((20 : Int32) + ((8 : Int32) * x3)) + (1 : Int32)) < 0 ∨ 11160 ≤ ((((20 : Int32) + ((8 : Int32) * x3)) + (1 : Int32))).toNatClampNeg then none else
        wr (upA M_h_84 0 (((20 : Int32) + ((8 : Int32) * x3)) + (1 : Int32)) (1 : Int32)) fun M_h_107 =>
        some (x3, M_h_107)
      )
    ) else (
      if (((20 : Int32) + ((8 : Int32) * x3)) + x4) < 0 ∨ 11160 ≤ ((((20 : Int32) + ((8 : Int32) * x3)) + x4)).toNatClampNeg then none else
      wr (upA M_h 0 (((20 : Int32) + ((8 : Int32) * x3)) + x4) (0 : Int32)) fun M_h_65 =>
      f_X12_citizen_L43 n M_h_65 x1 x2 x3 (x4 + (1 : Int32))
    )
def f_X12_citizen (M_h : Mem) (p1 : Int32) (p2 : Int32) : Option (Int32 × Mem) :=
  if (M_h 0 ((3 : Int32)).toNatClampNeg) = (8 : Int32) then (
    some ((-1 : Int32), M_h)
  ) else (
    Option.bind (f_X12_isIn p1 (0 : Int32) (9 : Int32)) fun r15 =>
    if r15 = 0 then (
      some ((-1 : Int32), M_h)
    ) else (
      wr (upA M_h 0 (3 : Int32) ((M_h 0 ((3 : Int32)).toNatClampNeg) + (1 : Int32))) fun M_h_39 =>
      f_X12_citizen_L43 FU M_h_39 p1 p2 (M_h 0 ((3 : Int32)).toNatClampNeg) (0 : Int32)
    )
  )
def f_X12_mostOf (p0 : Int32) : Option (Int32) :=
  if p0 = (2 : Int32) then (
    some (12000 : Int32)
  ) else (
    if p0 = (3 : Int32) then (
      some (9 : Int32)
    ) else (
      some (2400 : Int32)
    )
  )
def f_X12_rule (M_h : Mem) (p1 : Int32) (p2 : Int32) : Option (Int32 × Mem) :=
  Option.bind (f_X12_isIn p1 (0 : Int32) (3 : Int32)) fun r3 =>
  if r3 = 0 then (
    some ((0 : Int32), M_h)
  ) else (
    Option.bind (f_X12_mostOf p1) fun r12 =>
    Option.bind (f_X12_isIn p2 (0 : Int32) r12) fun r15 =>
    if r15 = 0 then (
      some ((0 : Int32), M_h)
    ) else (
      if ((8 : Int32) + p1) < 0 ∨ 11160 ≤ (((8 : Int32) + p1)).toNatClampNeg then none else
      wr (upA M_h 0 ((8 : Int32) + p1) p2) fun M_h_32 =>
      some ((1 : Int32), M_h_32)
    )
  )
def f_X12_asked (M_h : Mem) (p1 : Int32) (p2 : Int32) : Option (Int32) :=
  if p2 = (1 : Int32) then (
    Option.bind (f_X12_of M_h p1 (1 : Int32)) fun r35 =>
    some r35
  ) else (
    if p2 = (2 : Int32) then (
      Option.bind (f_X12_of M_h p1 (0 : Int32)) fun r42 =>
      some r42
    ) else (
      if p2 = (3 : Int32) then (
        some (M_h 0 ((0 : Int32)).toNatClampNeg)
      ) else (
        if p2 = (4 : Int32) then (
          Option.bind (f_X12_of M_h p1 (3 : Int32)) fun r56 =>
          some r56
        ) else (
          some (M_h 0 ((6 : Int32)).toNatClampNeg)
        )
      )
    )
  )
def f_X12_holds_L147 (K5 : Mem → Int32 → Int32 → Int32 → Int32 → Option (Int32)) (M_h : Mem) (x1 : Int32) (x2 : Int32) (x4 : Int32) (s0 : Int32) (s1 : Int32) : Option (Int32) :=
    if s1 = s0 then (
      K5 M_h x1 x2 (0 : Int32) (x4 + (1 : Int32))
    ) else (
      K5 M_h x1 x2 (1 : Int32) (x4 + (1 : Int32))
    )
def f_X12_holds_L127 (K5 : Mem → Int32 → Int32 → Int32 → Int32 → Option (Int32)) (M_h : Mem) (x1 : Int32) (x2 : Int32) (x4 : Int32) (x5 : Int32) (s0 : Int32) : Option (Int32) :=
    if x5 < 0 ∨ 11160 ≤ (x5).toNatClampNeg then none else
    if (M_h 0 (x5).toNatClampNeg) = (1 : Int32) then (
      f_X12_holds_L147 K5 M_h x1 x2 x4 (1 : Int32) s0
    ) else (
      f_X12_holds_L147 K5 M_h x1 x2 x4 (0 : Int32) s0
    )
def f_X12_holds_L5 : Nat → Mem → Int32 → Int32 → Int32 → Int32 → Option (Int32)
  | 0, _, _, _, _, _ => none
  | n + 1, M_h, x1, x2, x3, x4 =>
    if x2 < 0 ∨ 11160 ≤ (x2).toNatClampNeg then none else
    if (M_h 0 (x2).toNatClampNeg) ≤ x4 then (
      if ¬ (x3 = 0 ∨ x3 = 1) then none else
      some x3
    ) else (
      if x3 = 0 then (
        if ¬ (x3 = 0 ∨ x3 = 1) then none else
        some x3
      ) else (
        if (((x2 + (1 : Int32)) + ((4 : Int32) * x4)) + (1 : Int32)) < 0 ∨ 11160 ≤ ((((x2 + (1 : Int32)) + ((4 : Int32) * x4)) + (1 : Int32))).toNatClampNeg then none else
        Option.bind (f_X12_asked M_h x1 (M_h 0 ((((x2 + (1 : Int32)) + ((4 : Int32) * x4)) + (1 : Int32))).toNatClampNeg)) fun r41 =>
        if (((x2 + (1 : Int32)) + ((4 : Int32) * x4)) + (3 : Int32)) < 0 ∨ 11160 ≤ ((((x2 + (1 : Int32)) + ((4 : Int32) * x4)) + (3 : Int32))).toNatClampNeg then none else
        if (((x2 + (1 : Int32)) + ((4 : Int32) * x4)) + (2 : Int32)) < 0 ∨ 11160 ≤ ((((x2 + (1 : Int32)) + ((4 : Int32) * x4)) + (2 : Int32))).toNatClampNeg then none else
        if (M_h 0 ((((x2 + (1 : Int32)) + ((4 : Int32) * x4)) + (2 : Int32))).toNatClampNeg) = (60 : Int32) then (
          if (M_h 0 ((((x2 + (1 : Int32)) + ((4 : Int32) * x4)) + (3 : Int32))).toNatClampNeg) ≤ r41 then (
            f_X12_holds_L127 (f_X12_holds_L5 n) M_h x1 x2 x4 ((x2 + (1 : Int32)) + ((4 : Int32) * x4)) (0 : Int32)
          ) else (
            f_X12_holds_L127 (f_X12_holds_L5 n) M_h x1 x2 x4 ((x2 + (1 : Int32)) + ((4 : Int32) * x4)) (1 : Int32)
          )
        ) else (
          if (M_h 0 ((((x2 + (1 : Int32)) + ((4 : Int32) * x4)) + (2 : Int32))).toNatClampNeg) = (62 : Int32) then (
            if r41 ≤ (M_h 0 ((((x2 + (1 : Int32)) + ((4 : Int32) * x4)) + (3 : Int32))).toNatClampNeg) then (
              f_X12_holds_L127 (f_X12_holds_L5 n) M_h x1 x2 x4 ((x2 + (1 : Int32)) + ((4 : Int32) * x4)) (0 : Int32)
            ) else (
              f_X12_holds_L127 (f_X12_holds_L5 n) M_h x1 x2 x4 ((x2 + (1 : Int32)) + ((4 : Int32) * x4)) (1 : Int32)
            )
          ) else (
            if r41 = (M_h 0 ((((x2 + (1 : Int32)) + ((4 : Int32) * x4)) + (3 : Int32))).toNatClampNeg) then (
              f_X12_holds_L127 (f_X12_holds_L5 n) M_h x1 x2 x4 ((x2 + (1 : Int32)) + ((4 : Int32) * x4)) (1 : Int32)
            ) else (
              f_X12_holds_L127 (f_X12_holds_L5 n) M_h x1 x2 x4 ((x2 + (1 : Int32)) + ((4 : Int32) * x4)) (0 : Int32)
            )
          )
        )
      )
    )
def f_X12_holds (M_h : Mem) (p1 : Int32) (p2 : Int32) : Option (Int32) :=
  f_X12_holds_L5 FU M_h p1 p2 (1 : Int32) (0 : Int32)
def f_X12_share_L4 : Nat → Mem → Int32 → Int32 → Int32 → Option (Int32)
  | 0, _, _, _, _ => none
  | n + 1, M_h, x1, x2, x3 =>
    if (M_h 0 ((7 : Int32)).toNatClampNeg) ≤ x3 then (
      some x2
    ) else (
      Option.bind (f_X12_holds M_h x1 ((2080 : Int32) + ((19 : Int32) * x3))) fun r29 =>
      if r29 = 0 then (
        f_X12_share_L4 n M_h x1 x2 (x3 + (1 : Int32))
      ) else (
        if (((2080 : Int32) + ((19 : Int32) * x3)) + (17 : Int32)) < 0 ∨ 11160 ≤ ((((2080 : Int32) + ((19 : Int32) * x3)) + (17 : Int32))).toNatClampNeg then none else
        if (M_h 0 ((((2080 : Int32) + ((19 : Int32) * x3)) + (17 : Int32))).toNatClampNeg) = (22 : Int32) then (
          some (0 : Int32)
        ) else (
          if (M_h 0 ((((2080 : Int32) + ((19 : Int32) * x3)) + (17 : Int32))).toNatClampNeg) = (20 : Int32) then (
            if (((2080 : Int32) + ((19 : Int32) * x3)) + (18 : Int32)) < 0 ∨ 11160 ≤ ((((2080 : Int32) + ((19 : Int32) * x3)) + (18 : Int32))).toNatClampNeg then none else
            f_X12_share_L4 n M_h x1 (M_h 0 ((((2080 : Int32) + ((19 : Int32) * x3)) + (18 : Int32))).toNatClampNeg) (x3 + (1 : Int32))
          ) else (
            if (((2080 : Int32) + ((19 : Int32) * x3)) + (18 : Int32)) < 0 ∨ 11160 ≤ ((((2080 : Int32) + ((19 : Int32) * x3)) + (18 : Int32))).toNatClampNeg then none else
            f_X12_share_L4 n M_h x1 (x2 + (M_h 0 ((((2080 : Int32) + ((19 : Int32) * x3)) + (18 : Int32))).toNatClampNeg)) (x3 + (1 : Int32))
          )
        )
      )
    )
def f_X12_share (M_h : Mem) (p1 : Int32) : Option (Int32) :=
  f_X12_share_L4 FU M_h p1 (0 : Int32) (0 : Int32)
def f_X12_give_L140 (K130 : Mem → Int32 → Int32 → Option (Int32 × Mem)) : Nat → Mem → Int32 → Int32 → Int32 → Int32 → Option (Int32 × Mem)
  | 0, _, _, _, _, _ => none
  | n + 1, M_h, x1, x3, x4, x5 =>
    if (M_h 0 ((3 : Int32)).toNatClampNeg) ≤ x5 then (
      if x4 < 0 ∨ 8 ≤ (x4).toNatClampNeg then none else
      wr (upA M_h 14 x4 ((M_h 14 (x4).toNatClampNeg) + (1 : Int32))) fun M_h_188 =>
      wr (upA M_h_188 13 x4 (-1 : Int32)) fun M_h_196 =>
      K130 M_h_196 x1 (x3 + (-1 : Int32))
    ) else (
      if x5 < 0 ∨ 8 ≤ (x5).toNatClampNeg then none else
      if x4 < 0 ∨ 8 ≤ (x4).toNatClampNeg then none else
      if (M_h 13 (x5).toNatClampNeg) ≤ (M_h 13 (x4).toNatClampNeg) then (
        f_X12_give_L140 K130 n M_h x1 x3 x4 (x5 + (1 : Int32))
      ) else (
        f_X12_give_L140 K130 n M_h x1 x3 x5 (x5 + (1 : Int32))
      )
    )
def f_X12_give_L206 : Nat → Mem → Int32 → Int32 → Option (Int32 × Mem)
  | 0, _, _, _ => none
  | n + 1, M_h, x1, x4 =>
    if (M_h 0 ((3 : Int32)).toNatClampNeg) ≤ x4 then (
      wr (upA M_h 0 (2 : Int32) x1) fun M_h_273 =>
      some ((1 : Int32), M_h_273)
    ) else (
      if x4 < 0 ∨ 8 ≤ (x4).toNatClampNeg then none else
      if (((20 : Int32) + ((8 : Int32) * x4)) + (2 : Int32)) < 0 ∨ 11160 ≤ ((((20 : Int32) + ((8 : Int32) * x4)) + (2 : Int32))).toNatClampNeg then none else
      wr (upA M_h 0 (((20 : Int32) + ((8 : Int32) * x4)) + (2 : Int32)) (M_h 14 (x4).toNatClampNeg)) fun M_h_238 =>
      if (((20 : Int32) + ((8 : Int32) * x4)) + (3 : Int32)) < 0 ∨ 11160 ≤ ((((20 : Int32) + ((8 : Int32) * x4)) + (3 : Int32))).toNatClampNeg then none else
      wr (upA M_h_238 0 (((20 : Int32) + ((8 : Int32) * x4)) + (3 : Int32)) (M_h_238 14 (x4).toNatClampNeg)) fun M_h_260 =>
      f_X12_give_L206 n M_h_260 x1 (x4 + (1 : Int32))
    )
def f_X12_give_L130 : Nat → Mem → Int32 → Int32 → Option (Int32 × Mem)
  | 0, _, _, _ => none
  | n + 1, M_h, x1, x3 =>
    if x3 ≤ 0 then (
      f_X12_give_L206 FU M_h x1 (0 : Int32)
    ) else (
      f_X12_give_L140 (f_X12_give_L130 n) FU M_h x1 x3 (0 : Int32) (1 : Int32)
    )
def f_X12_give_L69 : Nat → Mem → Int32 → Int32 → Int32 → Int32 → Option (Int32 × Mem)
  | 0, _, _, _, _, _ => none
  | n + 1, M_h, x1, x2, x3, x4 =>
    if (M_h 0 ((3 : Int32)).toNatClampNeg) ≤ x4 then (
      f_X12_give_L130 FU M_h x1 x3
    ) else (
      Option.bind (f_X12_share M_h x4) fun r90 =>
      if x2 = 0 then none else
      if x4 < 0 ∨ 8 ≤ (x4).toNatClampNeg then none else
      wr (upA M_h 14 x4 ((x1 * r90) / x2)) fun M_h_96 =>
      Option.bind (f_X12_share M_h_96 x4) fun r107 =>
      if x2 = 0 then none else
      wr (upA M_h_96 13 x4 ((x1 * r107) - (x1 * r107) / x2 * x2)) fun M_h_113 =>
      f_X12_give_L69 n M_h_113 x1 x2 (x3 - (M_h_113 14 (x4).toNatClampNeg)) (x4 + (1 : Int32))
    )
def f_X12_give_L4 : Nat → Mem → Int32 → Int32 → Int32 → Option (Int32 × Mem)
  | 0, _, _, _, _ => none
  | n + 1, M_h, x1, x2, x3 =>
    if (M_h 0 ((3 : Int32)).toNatClampNeg) ≤ x3 then (
      if (M_h 0 ((1 : Int32)).toNatClampNeg) = (1 : Int32) then (
        some ((0 : Int32), M_h)
      ) else (
        if 0 < (M_h 0 ((2 : Int32)).toNatClampNeg) then (
          some ((0 : Int32), M_h)
        ) else (
          Option.bind (f_X12_isIn x1 (1 : Int32) (400 : Int32)) fun r52 =>
          if r52 = 0 then (
            some ((0 : Int32), M_h)
          ) else (
            if x2 = 0 then (
              some ((0 : Int32), M_h)
            ) else (
              f_X12_give_L69 FU M_h x1 x2 x1 (0 : Int32)
            )
          )
        )
      )
    ) else (
      Option.bind (f_X12_share M_h x3) fun r17 =>
      f_X12_give_L4 n M_h x1 (x2 + r17) (x3 + (1 : Int32))
    )
def f_X12_give (M_h : Mem) (p1 : Int32) : Option (Int32 × Mem) :=
  f_X12_give_L4 FU M_h p1 (0 : Int32) (0 : Int32)
def f_X12_its (M_h : Mem) (p1 : Int32) (p2 : Int32) : Option (Int32) :=
  if (((90 : Int32) + ((9 : Int32) * p1)) + p2) < 0 ∨ 11160 ≤ ((((90 : Int32) + ((9 : Int32) * p1)) + p2)).toNatClampNeg then none else
  some (M_h 0 ((((90 : Int32) + ((9 : Int32) * p1)) + p2)).toNatClampNeg)
def f_X12_sets (M_h : Mem) (p1 : Int32) (p2 : Int32) (p3 : Int32) : Option (Mem) :=
  if (((90 : Int32) + ((9 : Int32) * p1)) + p2) < 0 ∨ 11160 ≤ ((((90 : Int32) + ((9 : Int32) * p1)) + p2)).toNatClampNeg then none else
  wr (upA M_h 0 (((90 : Int32) + ((9 : Int32) * p1)) + p2) p3) fun M_h_14 =>
  some M_h_14
def f_X12_isBale (M_h : Mem) (p1 : Int32) : Option (Int32) :=
  Option.bind (f_X12_isIn p1 (0 : Int32) ((M_h 0 ((4 : Int32)).toNatClampNeg) - (1 : Int32))) fun r10 =>
  if ¬ (r10 = 0 ∨ r10 = 1) then none else
  some r10
def f_X12_lies (M_h : Mem) (p1 : Int32) : Option (Int32) :=
  Option.bind (f_X12_its M_h p1 (5 : Int32)) fun r3 =>
  if r3 < 0 then (
    some (0 : Int32)
  ) else (
    some (1 : Int32)
  )
def f_X12_room (M_h : Mem) (p1 : Int32) : Option (Int32) :=
  Option.bind (f_X12_its M_h p1 (1 : Int32)) fun r3 =>
  Option.bind (f_X12_its M_h p1 (1 : Int32)) fun r9 =>
  Option.bind (f_X12_its M_h p1 (4 : Int32)) fun r15 =>
  some (r3 - ((r9 * r15) / (10 : Int32)))
def f_X12_value (M_h : Mem) (p1 : Int32) : Option (Int32) :=
  Option.bind (f_X12_its M_h p1 (3 : Int32)) fun r3 =>
  Option.bind (f_X12_its M_h p1 (3 : Int32)) fun r9 =>
  Option.bind (f_X12_its M_h p1 (4 : Int32)) fun r15 =>
  some (r3 - ((r9 * r15) / (20 : Int32)))
def f_X12_free_L9 : Nat → Mem → Int32 → Int32 → Int32 → Option (Int32)
  | 0, _, _, _, _ => none
  | n + 1, M_h, x1, x2, x3 =>
    if (M_h 0 ((4 : Int32)).toNatClampNeg) ≤ x3 then (
      some x2
    ) else (
      Option.bind (f_X12_its M_h x3 (5 : Int32)) fun r22 =>
      if r22 = x1 then (
        Option.bind (f_X12_room M_h x3) fun r32 =>
        f_X12_free_L9 n M_h x1 (x2 - r32) (x3 + (1 : Int32))
      ) else (
        f_X12_free_L9 n M_h x1 x2 (x3 + (1 : Int32))
      )
    )
def f_X12_free (M_h : Mem) (p1 : Int32) : Option (Int32) :=
  Option.bind (f_X12_of M_h p1 (2 : Int32)) fun r3 =>
  f_X12_free_L9 FU M_h p1 r3 (0 : Int32)
def f_X12_sell (M_h : Mem) (p1 : Int32) (p2 : Int32) (p3 : Int32) (p4 : Int32) : Option (Int32 × Mem) :=
  if (M_h 0 ((1 : Int32)).toNatClampNeg) = (1 : Int32) then (
    some ((0 : Int32), M_h)
  ) else (
    Option.bind (f_X12_isCitizen M_h p1) fun r12 =>
    if r12 = 0 then (
      some ((0 : Int32), M_h)
    ) else (
      Option.bind (f_X12_isCitizen M_h p2) fun r20 =>
      if r20 = 0 then (
        some ((0 : Int32), M_h)
      ) else (
        if p1 = p2 then (
          some ((0 : Int32), M_h)
        ) else (
          if p3 < (1 : Int32) then (
            some ((0 : Int32), M_h)
          ) else (
            Option.bind (f_X12_free M_h p1) fun r39 =>
            if r39 < p3 then (
              some ((0 : Int32), M_h)
            ) else (
              Option.bind (f_X12_isIn p4 (0 : Int32) (10000 : Int32)) fun r51 =>
              if r51 = 0 then (
                some ((0 : Int32), M_h)
              ) else (
                Option.bind (f_X12_adds M_h p1 (2 : Int32) (-p3)) fun M_h_64 =>
                Option.bind (f_X12_adds M_h_64 p2 (2 : Int32) p3) fun M_h_71 =>
                Option.bind (f_X12_adds M_h_71 p1 (4 : Int32) p4) fun M_h_79 =>
                Option.bind (f_X12_adds M_h_79 p2 (4 : Int32) (-p4)) fun M_h_88 =>
                some ((1 : Int32), M_h_88)
              )
            )
          )
        )
      )
    )
  )
def f_X12_bale (M_h : Mem) (p1 : Int32) (p2 : Int32) (p3 : Int32) (p4 : Int32) : Option (Int32 × Mem) :=
  if (M_h 0 ((1 : Int32)).toNatClampNeg) = (1 : Int32) then (
    some ((-1 : Int32), M_h)
  ) else (
    if (M_h 0 ((4 : Int32)).toNatClampNeg) = (12 : Int32) then (
      some ((-1 : Int32), M_h)
    ) else (
      Option.bind (f_X12_isCitizen M_h p1) fun r23 =>
      if r23 = 0 then (
        some ((-1 : Int32), M_h)
      ) else (
        Option.bind (f_X12_isIn p2 (1 : Int32) (40 : Int32)) fun r33 =>
        if r33 = 0 then (
          some ((-1 : Int32), M_h)
        ) else (
          Option.bind (f_X12_isIn p3 (1 : Int32) (200 : Int32)) fun r44 =>
          if r44 = 0 then (
            some ((-1 : Int32), M_h)
          ) else (
            Option.bind (f_X12_isIn p4 (1 : Int32) (1000 : Int32)) fun r56 =>
            if r56 = 0 then (
              some ((-1 : Int32), M_h)
            ) else (
              wr (upA M_h 0 (4 : Int32) ((M_h 0 ((4 : Int32)).toNatClampNeg) + (1 : Int32))) fun M_h_81 =>
              Option.bind (f_X12_sets M_h_81 (M_h 0 ((4 : Int32)).toNatClampNeg) (0 : Int32) p1) fun M_h_87 =>
              Option.bind (f_X12_sets M_h_87 (M_h 0 ((4 : Int32)).toNatClampNeg) (1 : Int32) p2) fun M_h_95 =>
              Option.bind (f_X12_sets M_h_95 (M_h 0 ((4 : Int32)).toNatClampNeg) (2 : Int32) p3) fun M_h_103 =>
              Option.bind (f_X12_sets M_h_103 (M_h 0 ((4 : Int32)).toNatClampNeg) (3 : Int32) p4) fun M_h_112 =>
              Option.bind (f_X12_sets M_h_112 (M_h 0 ((4 : Int32)).toNatClampNeg) (4 : Int32) (0 : Int32)) fun M_h_120 =>
              Option.bind (f_X12_sets M_h_120 (M_h 0 ((4 : Int32)).toNatClampNeg) (5 : Int32) (-1 : Int32)) fun M_h_128 =>
              Option.bind (f_X12_sets M_h_128 (M_h 0 ((4 : Int32)).toNatClampNeg) (6 : Int32) (-1 : Int32)) fun M_h_137 =>
              Option.bind (f_X12_sets M_h_137 (M_h 0 ((4 : Int32)).toNatClampNeg) (7 : Int32) (2 : Int32)) fun M_h_146 =>
              some ((M_h 0 ((4 : Int32)).toNatClampNeg), M_h_146)
            )
          )
        )
      )
    )
  )
def f_X12_press (M_h : Mem) (p1 : Int32) (p2 : Int32) : Option (Int32 × Mem) :=
  if (M_h 0 ((1 : Int32)).toNatClampNeg) = (1 : Int32) then (
    some ((0 : Int32), M_h)
  ) else (
    Option.bind (f_X12_isBale M_h p1) fun r12 =>
    if r12 = 0 then (
      some ((0 : Int32), M_h)
    ) else (
      Option.bind (f_X12_lies M_h p1) fun r20 =>
      if r20 = 0 then (
        Option.bind (f_X12_isIn p2 (0 : Int32) (3 : Int32)) fun r29 =>
        if r29 = 0 then (
          some ((0 : Int32), M_h)
        ) else (
          Option.bind (f_X12_sets M_h p1 (4 : Int32) p2) fun M_h_41 =>
          some ((1 : Int32), M_h_41)
        )
      ) else (
        some ((0 : Int32), M_h)
      )
    )
  )
def f_X12_lade (M_h : Mem) (p1 : Int32) (p2 : Int32) (p3 : Int32) : Option (Int32 × Mem) :=
  if (M_h 0 ((1 : Int32)).toNatClampNeg) = (1 : Int32) then (
    some ((0 : Int32), M_h)
  ) else (
    Option.bind (f_X12_isBale M_h p1) fun r12 =>
    if r12 = 0 then (
      some ((0 : Int32), M_h)
    ) else (
      Option.bind (f_X12_lies M_h p1) fun r20 =>
      if r20 = 0 then (
        Option.bind (f_X12_isCitizen M_h p2) fun r28 =>
        if r28 = 0 then (
          some ((0 : Int32), M_h)
        ) else (
          Option.bind (f_X12_isIn p3 (0 : Int32) (1 : Int32)) fun r37 =>
          if r37 = 0 then (
            some ((0 : Int32), M_h)
          ) else (
            Option.bind (f_X12_room M_h p1) fun r45 =>
            Option.bind (f_X12_free M_h p2) fun r50 =>
            if r45 ≤ r50 then (
              Option.bind (f_X12_sets M_h p1 (5 : Int32) p2) fun M_h_62 =>
              Option.bind (f_X12_sets M_h_62 p1 (6 : Int32) p3) fun M_h_70 =>
              some ((1 : Int32), M_h_70)
            ) else (
              some ((0 : Int32), M_h)
            )
          )
        )
      ) else (
        some ((0 : Int32), M_h)
      )
    )
  )
def f_X12_unlade (M_h : Mem) (p1 : Int32) : Option (Int32 × Mem) :=
  if (M_h 0 ((1 : Int32)).toNatClampNeg) = (1 : Int32) then (
    some ((0 : Int32), M_h)
  ) else (
    Option.bind (f_X12_isBale M_h p1) fun r12 =>
    if r12 = 0 then (
      some ((0 : Int32), M_h)
    ) else (
      Option.bind (f_X12_lies M_h p1) fun r20 =>
      if r20 = 0 then (
        some ((0 : Int32), M_h)
      ) else (
        Option.bind (f_X12_sets M_h p1 (5 : Int32) (-1 : Int32)) fun M_h_32 =>
        Option.bind (f_X12_sets M_h_32 p1 (6 : Int32) (-1 : Int32)) fun M_h_40 =>
        some ((1 : Int32), M_h_40)
      )
    )
  )
def f_X12_tilt_L4 : Nat → Mem → Int32 → Int32 → Option (Int32)
  | 0, _, _, _ => none
  | n + 1, M_h, x1, x2 =>
    if (M_h 0 ((4 : Int32)).toNatClampNeg) ≤ x2 then (
      some x1
    ) else (
      Option.bind (f_X12_lies M_h x2) fun r16 =>
      if r16 = 0 then (
        f_X12_tilt_L4 n M_h x1 (x2 + (1 : Int32))
      ) else (
        Option.bind (f_X12_its M_h x2 (6 : Int32)) fun r27 =>
        if r27 = 0 then (
          Option.bind (f_X12_its M_h x2 (2 : Int32)) fun r36 =>
          f_X12_tilt_L4 n M_h (x1 + r36) (x2 + (1 : Int32))
        ) else (
          Option.bind (f_X12_its M_h x2 (2 : Int32)) fun r45 =>
          f_X12_tilt_L4 n M_h (x1 + (-r45)) (x2 + (1 : Int32))
        )
      )
    )
def f_X12_tilt (M_h : Mem) : Option (Int32) :=
  f_X12_tilt_L4 FU M_h (0 : Int32) (0 : Int32)
def f_X12_weight_L4 : Nat → Mem → Int32 → Int32 → Option (Int32)
  | 0, _, _, _ => none
  | n + 1, M_h, x1, x2 =>
    if (M_h 0 ((4 : Int32)).toNatClampNeg) ≤ x2 then (
      some x1
    ) else (
      Option.bind (f_X12_lies M_h x2) fun r16 =>
      if r16 = 0 then (
        f_X12_weight_L4 n M_h x1 (x2 + (1 : Int32))
      ) else (
        Option.bind (f_X12_its M_h x2 (2 : Int32)) fun r26 =>
        f_X12_weight_L4 n M_h (x1 + r26) (x2 + (1 : Int32))
      )
    )
def f_X12_weight (M_h : Mem) : Option (Int32) :=
  f_X12_weight_L4 FU M_h (0 : Int32) (0 : Int32)
def f_X12_bears (M_h : Mem) (p1 : Int32) (p2 : Int32) : Option (Int32) :=
  Option.bind (f_X12_isIn p1 (-(M_h 0 ((8 : Int32)).toNatClampNeg)) (M_h 0 ((8 : Int32)).toNatClampNeg)) fun r16 =>
  if r16 = 0 then (
    some (0 : Int32)
  ) else (
    if (M_h 0 ((9 : Int32)).toNatClampNeg) < p2 then (
      some (0 : Int32)
    ) else (
      some (1 : Int32)
    )
  )
def f_X12_turns_L4 : Nat → Mem → Int32 → Option (Int32 × Mem)
  | 0, _, _ => none
  | n + 1, M_h, x2 =>
    if x2 < 0 then (
      some ((0 : Int32), M_h)
    ) else (
      if x2 < 0 ∨ 12 ≤ (x2).toNatClampNeg then none else
      if (2 : Int32) ≤ (M_h 16 (x2).toNatClampNeg) then (
        wr (upA M_h 16 x2 (0 : Int32)) fun M_h_36 =>
        f_X12_turns_L4 n M_h_36 (x2 + (-1 : Int32))
      ) else (
        wr (upA M_h 16 x2 ((M_h 16 (x2).toNatClampNeg) + (1 : Int32))) fun M_h_27 =>
        some ((1 : Int32), M_h_27)
      )
    )
def f_X12_turns (M_h : Mem) (p1 : Int32) : Option (Int32 × Mem) :=
  f_X12_turns_L4 FU M_h (p1 - (1 : Int32))
def f_X12_can_L161 (K55 : Mem → Int32 → Int32 → Int32 → Int32 → Int32 → Option (Int32 × Mem)) (M_h : Mem) (x1 : Int32) (x3 : Int32) (x4 : Int32) (x5 : Int32) (x6 : Int32) (s0 : Int32) (s1 : Int32) : Option (Int32 × Mem) :=
    Option.bind (f_X12_its M_h x6 (2 : Int32)) fun r168 =>
    Option.bind (f_X12_value M_h x6) fun r181 =>
    wr (upS M_h 19 ((M_h 19 0) + r181)) fun M_h_185 =>
    Option.bind (f_X12_room M_h_185 x6) fun r196 =>
    wr (upS M_h_185 20 ((M_h_185 20 0) + r196)) fun M_h_200 =>
    K55 M_h_200 x1 (s1 + s0) (x3 + r168) x4 (x5 + (1 : Int32))
def f_X12_can_L130 (K55 : Mem → Int32 → Int32 → Int32 → Int32 → Int32 → Option (Int32 × Mem)) (M_h : Mem) (x1 : Int32) (x2 : Int32) (x3 : Int32) (x5 : Int32) (x6 : Int32) (s0 : Int32) : Option (Int32 × Mem) :=
    if x5 < 0 ∨ 12 ≤ (x5).toNatClampNeg then none else
    if (M_h 16 (x5).toNatClampNeg) = 0 then (
      Option.bind (f_X12_its M_h x6 (2 : Int32)) fun r147 =>
      f_X12_can_L161 K55 M_h x1 x3 s0 x5 x6 r147 x2
    ) else (
      Option.bind (f_X12_its M_h x6 (2 : Int32)) fun r157 =>
      f_X12_can_L161 K55 M_h x1 x3 s0 x5 x6 (-r157) x2
    )
def f_X12_can_L55 : Nat → Mem → Int32 → Int32 → Int32 → Int32 → Int32 → Option (Int32 × Mem)
  | 0, _, _, _, _, _, _ => none
  | n + 1, M_h, x1, x2, x3, x4, x5 =>
    if x1 ≤ x5 then (
      if x4 = 0 then (
        some ((0 : Int32), M_h)
      ) else (
        Option.bind (f_X12_bears M_h x2 x3) fun r217 =>
        if r217 = 0 then (
          some ((0 : Int32), M_h)
        ) else (
          some ((1 : Int32), M_h)
        )
      )
    ) else (
      if x5 < 0 ∨ 12 ≤ (x5).toNatClampNeg then none else
      if (M_h 16 (x5).toNatClampNeg) = (2 : Int32) then (
        f_X12_can_L55 n M_h x1 x2 x3 x4 (x5 + (1 : Int32))
      ) else (
        Option.bind (f_X12_its M_h (M_h 15 (x5).toNatClampNeg) (0 : Int32)) fun r92 =>
        if r92 < 0 ∨ 8 ≤ (r92).toNatClampNeg then none else
        Option.bind (f_X12_room M_h (M_h 15 (x5).toNatClampNeg)) fun r100 =>
        wr (upA M_h 18 r92 ((M_h 18 (r92).toNatClampNeg) - r100)) fun M_h_104 =>
        if x4 = 0 then (
          f_X12_can_L130 (f_X12_can_L55 n) M_h_104 x1 x2 x3 x5 (M_h 15 (x5).toNatClampNeg) (0 : Int32)
        ) else (
          Option.bind (f_X12_its M_h_104 (M_h 15 (x5).toNatClampNeg) (0 : Int32)) fun r118 =>
          if r118 < 0 ∨ 8 ≤ (r118).toNatClampNeg then none else
          if (M_h_104 18 (r118).toNatClampNeg) < 0 then (
            f_X12_can_L130 (f_X12_can_L55 n) M_h_104 x1 x2 x3 x5 (M_h 15 (x5).toNatClampNeg) (0 : Int32)
          ) else (
            f_X12_can_L130 (f_X12_can_L55 n) M_h_104 x1 x2 x3 x5 (M_h 15 (x5).toNatClampNeg) (1 : Int32)
          )
        )
      )
    )
def f_X12_can_L2 : Nat → Mem → Int32 → Int32 → Option (Int32 × Mem)
  | 0, _, _, _ => none
  | n + 1, M_h, x1, x2 =>
    if (M_h 0 ((3 : Int32)).toNatClampNeg) ≤ x2 then (
      Option.bind (f_X12_tilt M_h) fun r30 =>
      Option.bind (f_X12_weight M_h) fun r35 =>
      wr (upS M_h 19 (0 : Int32)) fun M_h_41 =>
      wr (upS M_h_41 20 (0 : Int32)) fun M_h_46 =>
      f_X12_can_L55 FU M_h_46 x1 r30 r35 (1 : Int32) (0 : Int32)
    ) else (
      Option.bind (f_X12_free M_h x2) fun r19 =>
      if x2 < 0 ∨ 8 ≤ (x2).toNatClampNeg then none else
      wr (upA M_h 18 x2 r19) fun M_h_22 =>
      f_X12_can_L2 n M_h_22 x1 (x2 + (1 : Int32))
    )
def f_X12_can (M_h : Mem) (p1 : Int32) : Option (Int32 × Mem) :=
  f_X12_can_L2 FU M_h p1 (0 : Int32)
def f_X12_best_L139 (K89 : Mem → Int32 → Int32 → Int32 → Int32 → Option (Int32 × Mem)) : Nat → Mem → Int32 → Int32 → Int32 → Int32 → Option (Int32 × Mem)
  | 0, _, _, _, _, _ => none
  | n + 1, M_h, x1, x2, x3, x5 =>
    if x1 ≤ x5 then (
      bd2 (f_X12_turns M_h x1) fun r167 M_h_167 =>
      K89 M_h_167 x1 x2 x3 r167
    ) else (
      if x5 < 0 ∨ 12 ≤ (x5).toNatClampNeg then none else
      wr (upA M_h 17 x5 (M_h 16 (x5).toNatClampNeg)) fun M_h_158 =>
      f_X12_best_L139 K89 n M_h_158 x1 x2 x3 (x5 + (1 : Int32))
    )
def f_X12_best_L217 : Nat → Mem → Int32 → Int32 → Int32 → Option (Int32 × Mem)
  | 0, _, _, _, _ => none
  | n + 1, M_h, x1, x2, x5 =>
    if x1 ≤ x5 then (
      some (x2, M_h)
    ) else (
      if x5 < 0 ∨ 12 ≤ (x5).toNatClampNeg then none else
      Option.bind (f_X12_sets M_h (M_h 15 (x5).toNatClampNeg) (7 : Int32) (M_h 17 (x5).toNatClampNeg)) fun M_h_240 =>
      f_X12_best_L217 n M_h_240 x1 x2 (x5 + (1 : Int32))
    )
def f_X12_best_L192 : Nat → Mem → Int32 → Int32 → Int32 → Option (Int32 × Mem)
  | 0, _, _, _, _ => none
  | n + 1, M_h, x1, x2, x5 =>
    if (12 : Int32) ≤ x5 then (
      f_X12_best_L217 FU M_h x1 x2 (0 : Int32)
    ) else (
      Option.bind (f_X12_sets M_h x5 (7 : Int32) (2 : Int32)) fun M_h_205 =>
      f_X12_best_L192 n M_h_205 x1 x2 (x5 + (1 : Int32))
    )
def f_X12_best_L89 : Nat → Mem → Int32 → Int32 → Int32 → Int32 → Option (Int32 × Mem)
  | 0, _, _, _, _, _ => none
  | n + 1, M_h, x1, x2, x3, x4 =>
    if x4 = 0 then (
      if 0 ≤ x2 then (
        wr (upA M_h 0 (16 : Int32) (1 : Int32)) fun M_h_188 =>
        f_X12_best_L192 FU M_h_188 x1 x2 (0 : Int32)
      ) else (
        some ((-1 : Int32), M_h)
      )
    ) else (
      bd2 (f_X12_can M_h x1) fun r96 M_h_96 =>
      if r96 = 0 then (
        bd2 (f_X12_turns M_h_96 x1) fun r167 M_h_167 =>
        f_X12_best_L89 n M_h_167 x1 x2 x3 r167
      ) else (
        if x2 < (M_h_96 19 0) then (
          f_X12_best_L139 (f_X12_best_L89 n) FU M_h_96 x1 (M_h_96 19 0) (M_h_96 20 0) (0 : Int32)
        ) else (
          if (M_h_96 19 0) = x2 then (
            if x3 ≤ (M_h_96 20 0) then (
              bd2 (f_X12_turns M_h_96 x1) fun r167 M_h_167 =>
              f_X12_best_L89 n M_h_167 x1 x2 x3 r167
            ) else (
              f_X12_best_L139 (f_X12_best_L89 n) FU M_h_96 x1 (M_h_96 19 0) (M_h_96 20 0) (0 : Int32)
            )
          ) else (
            bd2 (f_X12_turns M_h_96 x1) fun r167 M_h_167 =>
            f_X12_best_L89 n M_h_167 x1 x2 x3 r167
          )
        )
      )
    )
def f_X12_best_L66 : Nat → Mem → Int32 → Int32 → Int32 → Int32 → Option (Int32 × Mem)
  | 0, _, _, _, _, _ => none
  | n + 1, M_h, x1, x2, x3, x4 =>
    if x1 ≤ x4 then (
      f_X12_best_L89 FU M_h x1 x2 x3 (1 : Int32)
    ) else (
      if x4 < 0 ∨ 12 ≤ (x4).toNatClampNeg then none else
      wr (upA M_h 16 x4 (0 : Int32)) fun M_h_79 =>
      f_X12_best_L66 n M_h_79 x1 x2 x3 (x4 + (1 : Int32))
    )
def f_X12_best_L4 : Nat → Mem → Int32 → Int32 → Option (Int32 × Mem)
  | 0, _, _, _ => none
  | n + 1, M_h, x1, x2 =>
    if (M_h 0 ((4 : Int32)).toNatClampNeg) ≤ x2 then (
      if (M_h 0 ((1 : Int32)).toNatClampNeg) = (1 : Int32) then (
        some ((-1 : Int32), M_h)
      ) else (
        if x1 ≤ (9 : Int32) then (
          f_X12_best_L66 FU M_h x1 (-1 : Int32) (0 : Int32) (0 : Int32)
        ) else (
          some ((-1 : Int32), M_h)
        )
      )
    ) else (
      Option.bind (f_X12_lies M_h x2) fun r16 =>
      if r16 = 0 then (
        if x1 < 0 ∨ 12 ≤ (x1).toNatClampNeg then none else
        wr (upA M_h 15 x1 x2) fun M_h_31 =>
        f_X12_best_L4 n M_h_31 (x1 + (1 : Int32)) (x2 + (1 : Int32))
      ) else (
        f_X12_best_L4 n M_h x1 (x2 + (1 : Int32))
      )
    )
def f_X12_best (M_h : Mem) : Option (Int32 × Mem) :=
  f_X12_best_L4 FU M_h (0 : Int32) (0 : Int32)
def f_X12_bestSide (M_h : Mem) (p1 : Int32) : Option (Int32) :=
  if (M_h 0 ((16 : Int32)).toNatClampNeg) = (1 : Int32) then (
    Option.bind (f_X12_isBale M_h p1) fun r13 =>
    if r13 = 0 then (
      some (-1 : Int32)
    ) else (
      Option.bind (f_X12_its M_h p1 (7 : Int32)) fun r23 =>
      some r23
    )
  ) else (
    some (-1 : Int32)
  )
def f_X12_ladeBest_L26 : Nat → Mem → Int32 → Int32 → Option (Int32 × Mem)
  | 0, _, _, _ => none
  | n + 1, M_h, x1, x2 =>
    if (M_h 0 ((4 : Int32)).toNatClampNeg) ≤ x2 then (
      some (x1, M_h)
    ) else (
      Option.bind (f_X12_its M_h x2 (7 : Int32)) fun r40 =>
      if (2 : Int32) ≤ r40 then (
        f_X12_ladeBest_L26 n M_h x1 (x2 + (1 : Int32))
      ) else (
        Option.bind (f_X12_its M_h x2 (0 : Int32)) fun r52 =>
        Option.bind (f_X12_its M_h x2 (7 : Int32)) fun r59 =>
        bd2 (f_X12_lade M_h x2 r52 r59) fun r62 M_h_62 =>
        if r62 = 0 then (
          f_X12_ladeBest_L26 n M_h_62 x1 (x2 + (1 : Int32))
        ) else (
          f_X12_ladeBest_L26 n M_h_62 (x1 + (1 : Int32)) (x2 + (1 : Int32))
        )
      )
    )
def f_X12_ladeBest (M_h : Mem) : Option (Int32 × Mem) :=
  if (M_h 0 ((16 : Int32)).toNatClampNeg) = 0 then (
    some ((-1 : Int32), M_h)
  ) else (
    if (M_h 0 ((1 : Int32)).toNatClampNeg) = (1 : Int32) then (
      some ((-1 : Int32), M_h)
    ) else (
      f_X12_ladeBest_L26 FU M_h (0 : Int32) (0 : Int32)
    )
  )
def f_X12_sail (M_h : Mem) : Option (Int32 × Mem) :=
  if (M_h 0 ((1 : Int32)).toNatClampNeg) = (1 : Int32) then (
    some ((0 : Int32), M_h)
  ) else (
    Option.bind (f_X12_tilt M_h) fun r12 =>
    Option.bind (f_X12_weight M_h) fun r16 =>
    Option.bind (f_X12_bears M_h r12 r16) fun r19 =>
    if r19 = 0 then (
      some ((0 : Int32), M_h)
    ) else (
      wr (upA M_h 0 (1 : Int32) (1 : Int32)) fun M_h_33 =>
      some ((1 : Int32), M_h_33)
    )
  )
def f_X12_board_L94 (K37 : Mem → Int32 → Int32 → Int32 → Int32 → Int32 → Int32 → Int32 → Option (Int32)) (M_h : Mem) (x1 : Int32) (x2 : Int32) (x3 : Int32) (x4 : Int32) (x6 : Int32) (x7 : Int32) (x8 : Int32) (s0 : Int32) (s1 : Int32) : Option (Int32) :=
    if x8 = 0 then (
      K37 M_h x1 x2 x3 x4 (s1 + s0) (x6 + x3) (x7 + (1 : Int32))
    ) else (
      Option.bind (f_X12_value M_h x7) fun r107 =>
      K37 M_h x1 x2 x3 x4 (s1 + s0) (x6 + r107) (x7 + (1 : Int32))
    )
def f_X12_board_L75 (K37 : Mem → Int32 → Int32 → Int32 → Int32 → Int32 → Int32 → Int32 → Option (Int32)) (M_h : Mem) (x1 : Int32) (x2 : Int32) (x3 : Int32) (x4 : Int32) (x5 : Int32) (x6 : Int32) (x7 : Int32) (s0 : Int32) : Option (Int32) :=
    if s0 = 0 then (
      f_X12_board_L94 K37 M_h x1 x2 x3 x4 x6 x7 s0 x2 x5
    ) else (
      Option.bind (f_X12_value M_h x7) fun r87 =>
      f_X12_board_L94 K37 M_h x1 x2 x3 x4 x6 x7 s0 r87 x5
    )
def f_X12_board_L37 : Nat → Mem → Int32 → Int32 → Int32 → Int32 → Int32 → Int32 → Int32 → Option (Int32)
  | 0, _, _, _, _, _, _, _, _ => none
  | n + 1, M_h, x1, x2, x3, x4, x5, x6, x7 =>
    if (M_h 0 ((4 : Int32)).toNatClampNeg) ≤ x7 then (
      if x4 = 0 then (
        some x5
      ) else (
        if x4 = (1 : Int32) then (
          some x6
        ) else (
          if x5 ≤ (M_h 0 ((10 : Int32)).toNatClampNeg) then (
            some (0 : Int32)
          ) else (
            some (1 : Int32)
          )
        )
      )
    ) else (
      Option.bind (f_X12_lies M_h x7) fun r51 =>
      if r51 = 0 then (
        f_X12_board_L37 n M_h x1 x2 x3 x4 x5 x6 (x7 + (1 : Int32))
      ) else (
        if ((x1 >>> (x7 &&& 31)) &&& (1 : Int32)) = (1 : Int32) then (
          f_X12_board_L75 (f_X12_board_L37 n) M_h x1 x2 x3 x4 x5 x6 x7 (1 : Int32)
        ) else (
          f_X12_board_L75 (f_X12_board_L37 n) M_h x1 x2 x3 x4 x5 x6 x7 (0 : Int32)
        )
      )
    )
def f_X12_board (M_h : Mem) (p1 : Int32) (p2 : Int32) (p3 : Int32) (p4 : Int32) : Option (Int32) :=
  if p2 < 0 then (
    some (-1 : Int32)
  ) else (
    if p3 < p2 then (
      some (-1 : Int32)
    ) else (
      if (1000 : Int32) < p3 then (
        some (-1 : Int32)
      ) else (
        Option.bind (f_X12_isIn p4 (0 : Int32) (2 : Int32)) fun r20 =>
        if r20 = 0 then (
          some (-1 : Int32)
        ) else (
          f_X12_board_L37 FU M_h p1 p2 p3 p4 (0 : Int32) (0 : Int32) (0 : Int32)
        )
      )
    )
  )
def f_X12_loan (M_h : Mem) (p1 : Int32) (p2 : Int32) (p3 : Int32) (p4 : Int32) : Option (Int32 × Mem) :=
  if (M_h 0 ((1 : Int32)).toNatClampNeg) = (1 : Int32) then (
    some ((-1 : Int32), M_h)
  ) else (
    if (M_h 0 ((5 : Int32)).toNatClampNeg) = (20 : Int32) then (
      some ((-1 : Int32), M_h)
    ) else (
      Option.bind (f_X12_isCitizen M_h p1) fun r23 =>
      if r23 = 0 then (
        some ((-1 : Int32), M_h)
      ) else (
        Option.bind (f_X12_isCitizen M_h p2) fun r31 =>
        if r31 = 0 then (
          some ((-1 : Int32), M_h)
        ) else (
          if p1 = p2 then (
            some ((-1 : Int32), M_h)
          ) else (
            Option.bind (f_X12_isIn p3 (1 : Int32) (10000 : Int32)) fun r47 =>
            if r47 = 0 then (
              some ((-1 : Int32), M_h)
            ) else (
              Option.bind (f_X12_isIn p4 (0 : Int32) (100 : Int32)) fun r58 =>
              if r58 = 0 then (
                some ((-1 : Int32), M_h)
              ) else (
                if ((200 : Int32) + ((4 : Int32) * (M_h 0 ((5 : Int32)).toNatClampNeg))) < 0 ∨ 11160 ≤ (((200 : Int32) + ((4 : Int32) * (M_h 0 ((5 : Int32)).toNatClampNeg)))).toNatClampNeg then none else
                wr (upA M_h 0 ((200 : Int32) + ((4 : Int32) * (M_h 0 ((5 : Int32)).toNatClampNeg))) p1) fun M_h_87 =>
                if (((200 : Int32) + ((4 : Int32) * (M_h 0 ((5 : Int32)).toNatClampNeg))) + (1 : Int32)) < 0 ∨ 11160 ≤ ((((200 : Int32) + ((4 : Int32) * (M_h 0 ((5 : Int32)).toNatClampNeg))) + (1 : Int32))).toNatClampNeg then none else
                wr (upA M_h_87 0 (((200 : Int32) + ((4 : Int32) * (M_h 0 ((5 : Int32)).toNatClampNeg))) + (1 : Int32)) p2) fun M_h_97 =>
                if (((200 : Int32) + ((4 : Int32) * (M_h 0 ((5 : Int32)).toNatClampNeg))) + (2 : Int32)) < 0 ∨ 11160 ≤ ((((200 : Int32) + ((4 : Int32) * (M_h 0 ((5 : Int32)).toNatClampNeg))) + (2 : Int32))).toNatClampNeg then none else
                wr (upA M_h_97 0 (((200 : Int32) + ((4 : Int32) * (M_h 0 ((5 : Int32)).toNatClampNeg))) + (2 : Int32)) p3) fun M_h_107 =>
                if (((200 : Int32) + ((4 : Int32) * (M_h 0 ((5 : Int32)).toNatClampNeg))) + (3 : Int32)) < 0 ∨ 11160 ≤ ((((200 : Int32) + ((4 : Int32) * (M_h 0 ((5 : Int32)).toNatClampNeg))) + (3 : Int32))).toNatClampNeg then none else
                wr (upA M_h_107 0 (((200 : Int32) + ((4 : Int32) * (M_h 0 ((5 : Int32)).toNatClampNeg))) + (3 : Int32)) p4) fun M_h_118 =>
                Option.bind (f_X12_adds M_h_118 p1 (4 : Int32) (-p3)) fun M_h_124 =>
                Option.bind (f_X12_adds M_h_124 p2 (4 : Int32) p3) fun M_h_131 =>
                wr (upA M_h_131 0 (5 : Int32) ((M_h_131 0 ((5 : Int32)).toNatClampNeg) + (1 : Int32))) fun M_h_143 =>
                some (((M_h_143 0 ((5 : Int32)).toNatClampNeg) - (1 : Int32)), M_h_143)
              )
            )
          )
        )
      )
    )
  )
def f_X12_comes_L78 (M_h : Mem) (x3 : Int32) (x4 : Int32) (x5 : Int32) (x6 : Int32) (x7 : Int32) (x8 : Int32) : Option (Mem) :=
    Option.bind (f_X12_adds M_h x4 (5 : Int32) x6) fun M_h_84 =>
    Option.bind (f_X12_adds M_h_84 x4 (4 : Int32) ((x6 - x7) - x8)) fun M_h_99 =>
    Option.bind (f_X12_adds M_h_99 x5 (4 : Int32) x8) fun M_h_108 =>
    Option.bind (f_X12_adds M_h_108 x5 (6 : Int32) x8) fun M_h_118 =>
    wr (upA M_h_118 0 (15 : Int32) ((M_h_118 0 ((15 : Int32)).toNatClampNeg) + x7)) fun M_h_132 =>
    if (x3 + (5 : Int32)) < 0 ∨ 11160 ≤ ((x3 + (5 : Int32))).toNatClampNeg then none else
    wr (upA M_h_132 0 (x3 + (5 : Int32)) ((M_h_132 0 ((x3 + (5 : Int32))).toNatClampNeg) + x6)) fun M_h_145 =>
    if (x3 + (6 : Int32)) < 0 ∨ 11160 ≤ ((x3 + (6 : Int32))).toNatClampNeg then none else
    wr (upA M_h_145 0 (x3 + (6 : Int32)) ((M_h_145 0 ((x3 + (6 : Int32))).toNatClampNeg) + x7)) fun M_h_159 =>
    if (x3 + (7 : Int32)) < 0 ∨ 11160 ≤ ((x3 + (7 : Int32))).toNatClampNeg then none else
    wr (upA M_h_159 0 (x3 + (7 : Int32)) ((M_h_159 0 ((x3 + (7 : Int32))).toNatClampNeg) + x8)) fun M_h_173 =>
    some M_h_173
def f_X12_comes_L59 (M_h : Mem) (x3 : Int32) (x4 : Int32) (x5 : Int32) (x6 : Int32) (x7 : Int32) (s0 : Int32) : Option (Mem) :=
    if s0 ≤ (x6 - x7) then (
      f_X12_comes_L78 M_h x3 x4 x5 x6 x7 s0
    ) else (
      f_X12_comes_L78 M_h x3 x4 x5 x6 x7 (x6 - x7)
    )
def f_X12_comes (M_h : Mem) (p1 : Int32) (p2 : Int32) (p3 : Int32) : Option (Mem) :=
  Option.bind (f_X12_its M_h p1 (0 : Int32)) fun r3 =>
  Option.bind (f_X12_its M_h p1 (5 : Int32)) fun r11 =>
  Option.bind (f_X12_value M_h p1) fun r18 =>
  if r11 = r3 then (
    f_X12_comes_L59 M_h p3 r3 r11 ((r18 * p2) / (100 : Int32)) (((r18 * p2) / (100 : Int32)) / (10 : Int32)) (0 : Int32)
  ) else (
    Option.bind (f_X12_room M_h p1) fun r55 =>
    f_X12_comes_L59 M_h p3 r3 r11 ((r18 * p2) / (100 : Int32)) (((r18 * p2) / (100 : Int32)) / (10 : Int32)) ((M_h 0 ((11 : Int32)).toNatClampNeg) * r55)
  )
def f_X12_paysBack (M_h : Mem) (p1 : Int32) : Option (Mem) :=
  if (((200 : Int32) + ((4 : Int32) * p1)) + (2 : Int32)) < 0 ∨ 11160 ≤ ((((200 : Int32) + ((4 : Int32) * p1)) + (2 : Int32))).toNatClampNeg then none else
  if (((200 : Int32) + ((4 : Int32) * p1)) + (3 : Int32)) < 0 ∨ 11160 ≤ ((((200 : Int32) + ((4 : Int32) * p1)) + (3 : Int32))).toNatClampNeg then none else
  if ((200 : Int32) + ((4 : Int32) * p1)) < 0 ∨ 11160 ≤ (((200 : Int32) + ((4 : Int32) * p1))).toNatClampNeg then none else
  Option.bind (f_X12_adds M_h (M_h 0 (((200 : Int32) + ((4 : Int32) * p1))).toNatClampNeg) (4 : Int32) ((M_h 0 ((((200 : Int32) + ((4 : Int32) * p1)) + (2 : Int32))).toNatClampNeg) + (((M_h 0 ((((200 : Int32) + ((4 : Int32) * p1)) + (2 : Int32))).toNatClampNeg) * (M_h 0 ((((200 : Int32) + ((4 : Int32) * p1)) + (3 : Int32))).toNatClampNeg)) / (100 : Int32)))) fun M_h_47 =>
  if (((200 : Int32) + ((4 : Int32) * p1)) + (1 : Int32)) < 0 ∨ 11160 ≤ ((((200 : Int32) + ((4 : Int32) * p1)) + (1 : Int32))).toNatClampNeg then none else
  Option.bind (f_X12_adds M_h_47 (M_h_47 0 ((((200 : Int32) + ((4 : Int32) * p1)) + (1 : Int32))).toNatClampNeg) (4 : Int32) (-((M_h 0 ((((200 : Int32) + ((4 : Int32) * p1)) + (2 : Int32))).toNatClampNeg) + (((M_h 0 ((((200 : Int32) + ((4 : Int32) * p1)) + (2 : Int32))).toNatClampNeg) * (M_h 0 ((((200 : Int32) + ((4 : Int32) * p1)) + (3 : Int32))).toNatClampNeg)) / (100 : Int32))))) fun M_h_62 =>
  some M_h_62
def f_X12_ends_L348 : Nat → Mem → Int32 → Option (Int32 × Mem)
  | 0, _, _ => none
  | n + 1, M_h, x5 =>
    if (M_h 0 ((3 : Int32)).toNatClampNeg) ≤ x5 then (
      some ((M_h 0 ((0 : Int32)).toNatClampNeg), M_h)
    ) else (
      if (((20 : Int32) + ((8 : Int32) * x5)) + (2 : Int32)) < 0 ∨ 11160 ≤ ((((20 : Int32) + ((8 : Int32) * x5)) + (2 : Int32))).toNatClampNeg then none else
      wr (upA M_h 0 (((20 : Int32) + ((8 : Int32) * x5)) + (2 : Int32)) (0 : Int32)) fun M_h_374 =>
      f_X12_ends_L348 n M_h_374 (x5 + (1 : Int32))
    )
def f_X12_ends_L297 (M_h : Mem) (s0 : Int32) (s1 : Int32) (s2 : Int32) : Option (Int32 × Mem) :=
    if s2 < 0 ∨ 11160 ≤ (s2).toNatClampNeg then none else
    wr (upA M_h 0 s2 (s1 + s0)) fun M_h_298 =>
    wr (upA M_h_298 0 (0 : Int32) ((M_h_298 0 ((0 : Int32)).toNatClampNeg) + (1 : Int32))) fun M_h_308 =>
    wr (upA M_h_308 0 (1 : Int32) (0 : Int32)) fun M_h_315 =>
    wr (upA M_h_315 0 (2 : Int32) (0 : Int32)) fun M_h_322 =>
    wr (upA M_h_322 0 (4 : Int32) (0 : Int32)) fun M_h_329 =>
    wr (upA M_h_329 0 (5 : Int32) (0 : Int32)) fun M_h_336 =>
    wr (upA M_h_336 0 (16 : Int32) (0 : Int32)) fun M_h_344 =>
    f_X12_ends_L348 FU M_h_344 (0 : Int32)
def f_X12_ends_L280 (M_h : Mem) (x1 : Int32) : Option (Int32 × Mem) :=
    if x1 = 0 then (
      f_X12_ends_L297 M_h (0 : Int32) (M_h 0 ((6 : Int32)).toNatClampNeg) (6 : Int32)
    ) else (
      f_X12_ends_L297 M_h (1 : Int32) (M_h 0 ((6 : Int32)).toNatClampNeg) (6 : Int32)
    )
def f_X12_ends_L253 : Nat → Mem → Int32 → Int32 → Option (Int32 × Mem)
  | 0, _, _, _ => none
  | n + 1, M_h, x1, x5 =>
    if (M_h 0 ((5 : Int32)).toNatClampNeg) ≤ x5 then (
      f_X12_ends_L280 M_h x1
    ) else (
      if x1 = 0 then (
        Option.bind (f_X12_paysBack M_h x5) fun M_h_271 =>
        f_X12_ends_L253 n M_h_271 x1 (x5 + (1 : Int32))
      ) else (
        f_X12_ends_L280 M_h x1
      )
    )
def f_X12_ends_L211 : Nat → Mem → Int32 → Int32 → Int32 → Int32 → Option (Int32 × Mem)
  | 0, _, _, _, _, _ => none
  | n + 1, M_h, x1, x2, x4, x5 =>
    if (M_h 0 ((4 : Int32)).toNatClampNeg) ≤ x5 then (
      f_X12_ends_L253 FU M_h x1 (0 : Int32)
    ) else (
      if x1 = 0 then (
        Option.bind (f_X12_lies M_h x5) fun r229 =>
        if r229 = 0 then (
          f_X12_ends_L211 n M_h x1 x2 x4 (x5 + (1 : Int32))
        ) else (
          Option.bind (f_X12_comes M_h x5 x4 x2) fun M_h_241 =>
          f_X12_ends_L211 n M_h_241 x1 x2 x4 (x5 + (1 : Int32))
        )
      ) else (
        f_X12_ends_L253 FU M_h x1 (0 : Int32)
      )
    )
def f_X12_ends_L196 (M_h : Mem) (x1 : Int32) (x2 : Int32) (s0 : Int32) : Option (Int32 × Mem) :=
    if (x2 + (4 : Int32)) < 0 ∨ 11160 ≤ ((x2 + (4 : Int32))).toNatClampNeg then none else
    wr (upA M_h 0 (x2 + (4 : Int32)) s0) fun M_h_207 =>
    f_X12_ends_L211 FU M_h_207 x1 x2 s0 (0 : Int32)
def f_X12_ends_L95 : Nat → Mem → Int32 → Int32 → Int32 → Int32 → Option (Int32 × Mem)
  | 0, _, _, _, _, _ => none
  | n + 1, M_h, x1, x2, x3, x4 =>
    if (M_h 0 ((4 : Int32)).toNatClampNeg) ≤ x4 then (
      if x1 = 0 then (
        if ((100 : Int32) + x3) = 0 then none else
        f_X12_ends_L196 M_h x1 x2 ((20000 : Int32) / ((100 : Int32) + x3))
      ) else (
        f_X12_ends_L196 M_h x1 x2 (0 : Int32)
      )
    ) else (
      Option.bind (f_X12_lies M_h x4) fun r109 =>
      if r109 = 0 then (
        f_X12_ends_L95 n M_h x1 x2 x3 (x4 + (1 : Int32))
      ) else (
        if (x2 + (1 : Int32)) < 0 ∨ 11160 ≤ ((x2 + (1 : Int32))).toNatClampNeg then none else
        wr (upA M_h 0 (x2 + (1 : Int32)) ((M_h 0 ((x2 + (1 : Int32))).toNatClampNeg) + (1 : Int32))) fun M_h_129 =>
        if (x2 + (2 : Int32)) < 0 ∨ 11160 ≤ ((x2 + (2 : Int32))).toNatClampNeg then none else
        Option.bind (f_X12_value M_h_129 x4) fun r142 =>
        wr (upA M_h_129 0 (x2 + (2 : Int32)) ((M_h_129 0 ((x2 + (2 : Int32))).toNatClampNeg) + r142)) fun M_h_146 =>
        if (x2 + (3 : Int32)) < 0 ∨ 11160 ≤ ((x2 + (3 : Int32))).toNatClampNeg then none else
        Option.bind (f_X12_its M_h_146 x4 (2 : Int32)) fun r160 =>
        wr (upA M_h_146 0 (x2 + (3 : Int32)) ((M_h_146 0 ((x2 + (3 : Int32))).toNatClampNeg) + r160)) fun M_h_164 =>
        Option.bind (f_X12_room M_h_164 x4) fun r169 =>
        f_X12_ends_L95 n M_h_164 x1 x2 (x3 + r169) (x4 + (1 : Int32))
      )
    )
def f_X12_ends_L39 : Nat → Mem → Int32 → Int32 → Int32 → Option (Int32 × Mem)
  | 0, _, _, _, _ => none
  | n + 1, M_h, x1, x2, x3 =>
    if (9 : Int32) ≤ x3 then (
      if x2 < 0 ∨ 11160 ≤ (x2).toNatClampNeg then none else
      wr (upA M_h 0 x2 (M_h 0 ((2 : Int32)).toNatClampNeg)) fun M_h_71 =>
      if x1 = 0 then (
        if (x2 + (8 : Int32)) < 0 ∨ 11160 ≤ ((x2 + (8 : Int32))).toNatClampNeg then none else
        wr (upA M_h_71 0 (x2 + (8 : Int32)) (0 : Int32)) fun M_h_89 =>
        f_X12_ends_L95 FU M_h_89 x1 x2 (0 : Int32) (0 : Int32)
      ) else (
        if (x2 + (8 : Int32)) < 0 ∨ 11160 ≤ ((x2 + (8 : Int32))).toNatClampNeg then none else
        wr (upA M_h_71 0 (x2 + (8 : Int32)) (1 : Int32)) fun M_h_89 =>
        f_X12_ends_L95 FU M_h_89 x1 x2 (0 : Int32) (0 : Int32)
      )
    ) else (
      if (x2 + x3) < 0 ∨ 11160 ≤ ((x2 + x3)).toNatClampNeg then none else
      wr (upA M_h 0 (x2 + x3) (0 : Int32)) fun M_h_53 =>
      f_X12_ends_L39 n M_h_53 x1 x2 (x3 + (1 : Int32))
    )
def f_X12_ends (M_h : Mem) (p1 : Int32) : Option (Int32 × Mem) :=
  if (M_h 0 ((1 : Int32)).toNatClampNeg) = 0 then (
    some ((-1 : Int32), M_h)
  ) else (
    if (M_h 0 ((0 : Int32)).toNatClampNeg) = (199 : Int32) then (
      some ((-1 : Int32), M_h)
    ) else (
      f_X12_ends_L39 FU M_h p1 ((280 : Int32) + ((9 : Int32) * (M_h 0 ((0 : Int32)).toNatClampNeg))) (0 : Int32)
    )
  )
def f_X12_tell (M_h : Mem) (p1 : Int32) (p2 : Int32) : Option (Int32) :=
  Option.bind (f_X12_isCitizen M_h p1) fun r2 =>
  if r2 = 0 then (
    some (-1000000000 : Int32)
  ) else (
    if p2 = (0 : Int32) then (
      Option.bind (f_X12_of M_h p1 p2) fun r63 =>
      some r63
    ) else (
      if p2 = (1 : Int32) then (
        Option.bind (f_X12_of M_h p1 p2) fun r63 =>
        some r63
      ) else (
        if p2 = (2 : Int32) then (
          Option.bind (f_X12_share M_h p1) fun r69 =>
          some r69
        ) else (
          if p2 = (3 : Int32) then (
            Option.bind (f_X12_of M_h p1 (2 : Int32)) fun r76 =>
            some r76
          ) else (
            if p2 = (4 : Int32) then (
              Option.bind (f_X12_free M_h p1) fun r82 =>
              some r82
            ) else (
              if p2 = (5 : Int32) then (
                Option.bind (f_X12_of M_h p1 (p2 - (1 : Int32))) fun r91 =>
                some r91
              ) else (
                if p2 = (6 : Int32) then (
                  Option.bind (f_X12_of M_h p1 (p2 - (1 : Int32))) fun r91 =>
                  some r91
                ) else (
                  if p2 = (7 : Int32) then (
                    Option.bind (f_X12_of M_h p1 (p2 - (1 : Int32))) fun r91 =>
                    some r91
                  ) else (
                    some (-1000000000 : Int32)
                  )
                )
              )
            )
          )
        )
      )
    )
  )
def f_X12_about (M_h : Mem) (p1 : Int32) (p2 : Int32) : Option (Int32) :=
  Option.bind (f_X12_isBale M_h p1) fun r2 =>
  if r2 = 0 then (
    some (-1 : Int32)
  ) else (
    if p2 = (0 : Int32) then (
      Option.bind (f_X12_its M_h p1 p2) fun r63 =>
      some r63
    ) else (
      if p2 = (1 : Int32) then (
        Option.bind (f_X12_its M_h p1 p2) fun r63 =>
        some r63
      ) else (
        if p2 = (2 : Int32) then (
          Option.bind (f_X12_its M_h p1 p2) fun r63 =>
          some r63
        ) else (
          if p2 = (3 : Int32) then (
            Option.bind (f_X12_its M_h p1 p2) fun r63 =>
            some r63
          ) else (
            if p2 = (4 : Int32) then (
              Option.bind (f_X12_its M_h p1 p2) fun r63 =>
              some r63
            ) else (
              if p2 = (5 : Int32) then (
                Option.bind (f_X12_room M_h p1) fun r69 =>
                some r69
              ) else (
                if p2 = (6 : Int32) then (
                  Option.bind (f_X12_value M_h p1) fun r75 =>
                  some r75
                ) else (
                  if p2 = (7 : Int32) then (
                    Option.bind (f_X12_its M_h p1 (p2 - (2 : Int32))) fun r84 =>
                    some r84
                  ) else (
                    if p2 = (8 : Int32) then (
                      Option.bind (f_X12_its M_h p1 (p2 - (2 : Int32))) fun r84 =>
                      some r84
                    ) else (
                      some (-1 : Int32)
                    )
                  )
                )
              )
            )
          )
        )
      )
    )
  )
def f_X12_book (M_h : Mem) (p1 : Int32) (p2 : Int32) : Option (Int32) :=
  Option.bind (f_X12_isIn p1 (0 : Int32) ((M_h 0 ((0 : Int32)).toNatClampNeg) - (1 : Int32))) fun r10 =>
  if r10 = 0 then (
    some (-1 : Int32)
  ) else (
    Option.bind (f_X12_isIn p2 (0 : Int32) (8 : Int32)) fun r20 =>
    if r20 = 0 then (
      some (-1 : Int32)
    ) else (
      if (((280 : Int32) + ((9 : Int32) * p1)) + p2) < 0 ∨ 11160 ≤ ((((280 : Int32) + ((9 : Int32) * p1)) + p2)).toNatClampNeg then none else
      some (M_h 0 ((((280 : Int32) + ((9 : Int32) * p1)) + p2)).toNatClampNeg)
    )
  )
def f_X12_count_L4 : Nat → Mem → Int32 → Int32 → Int32 → Option (Int32)
  | 0, _, _, _, _ => none
  | n + 1, M_h, x1, x2, x3 =>
    if (M_h 0 ((4 : Int32)).toNatClampNeg) ≤ x3 then (
      if x1 = (0 : Int32) then (
        some (M_h 0 ((3 : Int32)).toNatClampNeg)
      ) else (
        if x1 = (1 : Int32) then (
          some (M_h 0 ((4 : Int32)).toNatClampNeg)
        ) else (
          if x1 = (2 : Int32) then (
            some x2
          ) else (
            if x1 = (3 : Int32) then (
              some (M_h 0 ((5 : Int32)).toNatClampNeg)
            ) else (
              if x1 = (4 : Int32) then (
                some (M_h 0 ((0 : Int32)).toNatClampNeg)
              ) else (
                if x1 = (5 : Int32) then (
                  some (M_h 0 ((1 : Int32)).toNatClampNeg)
                ) else (
                  if x1 = (6 : Int32) then (
                    some (M_h 0 ((7 : Int32)).toNatClampNeg)
                  ) else (
                    if x1 = (7 : Int32) then (
                      Option.bind (f_X12_tilt M_h) fun r138 =>
                      some r138
                    ) else (
                      if x1 = (8 : Int32) then (
                        Option.bind (f_X12_weight M_h) fun r143 =>
                        some r143
                      ) else (
                        if x1 = (9 : Int32) then (
                          some (M_h 0 ((15 : Int32)).toNatClampNeg)
                        ) else (
                          some (-1000000000 : Int32)
                        )
                      )
                    )
                  )
                )
              )
            )
          )
        )
      )
    ) else (
      Option.bind (f_X12_lies M_h x3) fun r17 =>
      if r17 = 0 then (
        f_X12_count_L4 n M_h x1 (x2 + (0 : Int32)) (x3 + (1 : Int32))
      ) else (
        f_X12_count_L4 n M_h x1 (x2 + (1 : Int32)) (x3 + (1 : Int32))
      )
    )
def f_X12_count (M_h : Mem) (p1 : Int32) : Option (Int32) :=
  f_X12_count_L4 FU M_h p1 (0 : Int32) (0 : Int32)
def f_X12_image_L20 : Nat → Mem → Int32 → Int32 → Option (Int32 × Mem)
  | 0, _, _, _ => none
  | n + 1, M_h, x1, x2 =>
    if (2790 : Int32) ≤ x2 then (
      some ((1 : Int32), M_h)
    ) else (
      if x2 < 0 ∨ 11160 ≤ (x2).toNatClampNeg then none else
      if (((2790 : Int32) * (x1 + (1 : Int32))) + x2) < 0 ∨ 11160 ≤ ((((2790 : Int32) * (x1 + (1 : Int32))) + x2)).toNatClampNeg then none else
      wr (upA M_h 0 (((2790 : Int32) * (x1 + (1 : Int32))) + x2) (M_h 0 (x2).toNatClampNeg)) fun M_h_46 =>
      f_X12_image_L20 n M_h_46 x1 (x2 + (1 : Int32))
    )
def f_X12_image (M_h : Mem) (p1 : Int32) : Option (Int32 × Mem) :=
  Option.bind (f_X12_isIn p1 (0 : Int32) (2 : Int32)) fun r3 =>
  if r3 = 0 then (
    some ((0 : Int32), M_h)
  ) else (
    if p1 < 0 ∨ 3 ≤ (p1).toNatClampNeg then none else
    wr (upA M_h 1 p1 (vp_nar .boolean (1 : Int32))) fun M_h_17 =>
    f_X12_image_L20 FU M_h_17 p1 (0 : Int32)
  )
def f_X12_again_L22 : Nat → Mem → Int32 → Int32 → Option (Int32 × Mem)
  | 0, _, _, _ => none
  | n + 1, M_h, x1, x2 =>
    if (2790 : Int32) ≤ x2 then (
      some ((1 : Int32), M_h)
    ) else (
      if (((2790 : Int32) * (x1 + (1 : Int32))) + x2) < 0 ∨ 11160 ≤ ((((2790 : Int32) * (x1 + (1 : Int32))) + x2)).toNatClampNeg then none else
      if x2 < 0 ∨ 11160 ≤ (x2).toNatClampNeg then none else
      wr (upA M_h 0 x2 (M_h 0 ((((2790 : Int32) * (x1 + (1 : Int32))) + x2)).toNatClampNeg)) fun M_h_48 =>
      f_X12_again_L22 n M_h_48 x1 (x2 + (1 : Int32))
    )
def f_X12_again (M_h : Mem) (p1 : Int32) : Option (Int32 × Mem) :=
  Option.bind (f_X12_isIn p1 (0 : Int32) (2 : Int32)) fun r3 =>
  if r3 = 0 then (
    some ((0 : Int32), M_h)
  ) else (
    if p1 < 0 ∨ 3 ≤ (p1).toNatClampNeg then none else
    if (M_h 1 (p1).toNatClampNeg) = 0 then (
      some ((0 : Int32), M_h)
    ) else (
      f_X12_again_L22 FU M_h p1 (0 : Int32)
    )
  )
def f_X0_copyFrom (M_a1 : Mem) (M_h : Mem) : Option (Mem) :=
  wr (upS M_h 0 (M_a1 0 0)) fun M_h_5 =>
  if ¬ ((M_a1 8 0) = 0 ∨ (M_a1 8 0) = 1) then none else
  wr (upS M_h_5 8 (M_a1 8 0)) fun M_h_13 =>
  wr (upR M_h_13 1 (rowc 12 (M_a1 1) (M_h_13 1))) fun M_h_24 =>
  wr (upR M_h_24 2 (rowc 12 (M_a1 2) (M_h_24 2))) fun M_h_35 =>
  wr (upR M_h_35 3 (rowc 12 (M_a1 3) (M_h_35 3))) fun M_h_46 =>
  wr (upR M_h_46 4 (rowc 12 (M_a1 4) (M_h_46 4))) fun M_h_57 =>
  wr (upR M_h_57 5 (rowc 12 (M_a1 5) (M_h_57 5))) fun M_h_68 =>
  wr (upR M_h_68 6 (rowc 12 (M_a1 6) (M_h_68 6))) fun M_h_79 =>
  wr (upR M_h_79 7 (rowc 12 (M_a1 7) (M_h_79 7))) fun M_h_90 =>
  wr (upR M_h_90 9 (rowc 12 (M_a1 9) (M_h_90 9))) fun M_h_101 =>
  some M_h_101
def f_X2_copyFrom (M_a1 : Mem) (M_h : Mem) : Option (Mem) :=
  wr (upS M_h 0 (M_a1 0 0)) fun M_h_5 =>
  wr (upR M_h_5 1 (rowc 8 (M_a1 1) (M_h_5 1))) fun M_h_16 =>
  wr (upR M_h_16 2 (rowc 8 (M_a1 2) (M_h_16 2))) fun M_h_27 =>
  wr (upR M_h_27 3 (rowc 8 (M_a1 3) (M_h_27 3))) fun M_h_38 =>
  wr (upR M_h_38 4 (rowc 8 (M_a1 4) (M_h_38 4))) fun M_h_49 =>
  wr (upR M_h_49 5 (rowc 8 (M_a1 5) (M_h_49 5))) fun M_h_60 =>
  wr (upR M_h_60 6 (rowc 8 (M_a1 6) (M_h_60 6))) fun M_h_71 =>
  wr (upR M_h_71 7 (rowc 8 (M_a1 7) (M_h_71 7))) fun M_h_82 =>
  some M_h_82
def f_X5_copyFrom (M_a1 : Mem) (M_h : Mem) : Option (Mem) :=
  wr (upS M_h 0 (M_a1 0 0)) fun M_h_5 =>
  wr (upR M_h_5 1 (rowc 20 (M_a1 1) (M_h_5 1))) fun M_h_16 =>
  wr (upR M_h_16 2 (rowc 20 (M_a1 2) (M_h_16 2))) fun M_h_27 =>
  wr (upR M_h_27 3 (rowc 20 (M_a1 3) (M_h_27 3))) fun M_h_38 =>
  wr (upR M_h_38 4 (rowc 20 (M_a1 4) (M_h_38 4))) fun M_h_49 =>
  some M_h_49
def f_X6_copyFrom (M_a1 : Mem) (M_h : Mem) : Option (Mem) :=
  wr (upS M_h 0 (M_a1 0 0)) fun M_h_5 =>
  wr (upS M_h_5 1 (M_a1 1 0)) fun M_h_13 =>
  wr (upS M_h_13 2 (M_a1 2 0)) fun M_h_21 =>
  wr (upS M_h_21 3 (M_a1 3 0)) fun M_h_29 =>
  some M_h_29
def f_X10_copyFrom (M_a1 : Mem) (M_h : Mem) : Option (Mem) :=
  wr (upR M_h 0 (rowc 1791 (M_a1 0) (M_h 0))) fun M_h_8 =>
  some M_h_8
def f_X7_copyFrom (M_a1 : Mem) (M_a1_cargo : Mem) (M_a1_debts : Mem) (M_a1_law : Mem) (M_a1_ledger : Mem) (M_a1_people : Mem) (M_a1_rules : Mem) (M_a1_tape : Mem) (M_h : Mem) (M_h_cargo : Mem) (M_h_debts : Mem) (M_h_law : Mem) (M_h_ledger : Mem) (M_h_people : Mem) (M_h_rules : Mem) (M_h_tape : Mem) : Option (Mem × Mem × Mem × Mem × Mem × Mem × Mem × Mem) :=
  Option.bind (f_X8_copyFrom M_a1_tape M_h_tape) fun M_h_tape_8 =>
  Option.bind (f_X3_copyFrom M_a1_law M_h_law) fun M_h_law_19 =>
  Option.bind (f_X2_copyFrom M_a1_people M_h_people) fun M_h_people_30 =>
  Option.bind (f_X6_copyFrom M_a1_rules M_h_rules) fun M_h_rules_41 =>
  Option.bind (f_X0_copyFrom M_a1_cargo M_h_cargo) fun M_h_cargo_52 =>
  Option.bind (f_X5_copyFrom M_a1_debts M_h_debts) fun M_h_debts_63 =>
  Option.bind (f_X10_copyFrom M_a1_ledger M_h_ledger) fun M_h_ledger_74 =>
  wr (upS M_h 7 (M_a1 7 0)) fun M_h_82 =>
  wr (upS M_h_82 8 (M_a1 8 0)) fun M_h_90 =>
  wr (upS M_h_90 9 (M_a1 9 0)) fun M_h_98 =>
  if ¬ ((M_a1 10 0) = 0 ∨ (M_a1 10 0) = 1) then none else
  wr (upS M_h_98 10 (M_a1 10 0)) fun M_h_106 =>
  wr (upS M_h_106 11 (M_a1 11 0)) fun M_h_114 =>
  wr (upS M_h_114 12 (M_a1 12 0)) fun M_h_122 =>
  wr (upS M_h_122 13 (M_a1 13 0)) fun M_h_130 =>
  some (M_h_130, M_h_cargo_52, M_h_debts_63, M_h_law_19, M_h_ledger_74, M_h_people_30, M_h_rules_41, M_h_tape_8)
