set_option maxHeartbeats 4000000 in
set_option maxRecDepth 100000 in
theorem c_X8_append (l : Launch) (dC : Nat → ClassId) (dI : Nat → Nat → Nat) (cyB cyI cyZ cyO : ClassId) (h h_bytes : Nat) (sz : Nat) (M_h : Mem) (p1 : Int32) (R_h : Mem) (hf : f_X8_append M_h p1 = some R_h) : Met l yX8_append wsX8_append ({ frames := 0, cells := 0, slots := 0, locals := 0 } : Room) (PW dC dI cyB cyI cyZ cyO ([.ref h, .int p1] : List Value) (wX8 cyB cyI cyZ cyO h h_bytes M_h) sz) (QW dC dI none (wX8 cyB cyI cyZ cyO h h_bytes R_h) (va_A (wX8 cyB cyI cyZ cyO h h_bytes M_h) sz)) 0 0 (va_A (wX8 cyB cyI cyZ cyO h h_bytes M_h) sz) := by
  refine Met.ofW (cc := cX8_append) (maxL := 3) (ret := none) (by decide) rfl ?_
  intro p e s m args below meth c s₁ B hml hv
  obtain ⟨rfl, hsz, hP, hCx, hD0⟩ := hv
  have hK := hCx.1
  have hN := hCx.2
  have hx := B.exec
  have hb := B.bytes
  have hr := B.returns
  have hts := atoms_spec (ws := wsX8_append) B.pre
  have hown : s.vm.findClass RX8 = some m.cls := findClass_of_methodNamed B.named
  have hlocks := B.notSynchronized
  have hin8 : ∀ w ∈ u_ws RX8 TX8 2, w ∈ wsX8_append := fun w h => List.mem_cons_of_mem _ (List.mem_append_right _ h)
  have kf9 := hts (.fieldLink RX8 9 "HoldSlips$Tape" "bytes" "[B") (by decide +kernel)
  have kf15 := hts (.fieldLink RX8 15 "HoldSlips$Tape" "length" "I") (by decide +kernel)
  subst hsz
  have hD := hD0.self (sz := s.heap.size)
  generalize hAe : va_A (wX8 cyB cyI cyZ cyO h h_bytes M_h) s.heap.size = A at hD ⊢
  have hA : ∀ q : Nat, s.heap.size ≤ q → A q := fun q h => by rw [← hAe]; exact Or.inr h
  have hS : va_S A s.heap s.heap [] := va_S.rf
  have hl := lv_entry ([.ref h, .int p1] : List Value) (n := 3) (Nat.le_of_ble_eq_true rfl)
  rw [lg_entry_eq]
  generalize (lg_sl ([.ref h, .int p1] : List Value) ++ List.replicate (3 - (lg_sl ([.ref h, .int p1] : List Value)).length) Slot.unset).toArray = ls at hl ⊢
  have hl : lv_has ls 3 [(0, .ref h), (1, .int p1)] := hl
  have L3 : ∀ (n : Nat), ∀ (M_h : Mem) (x1 : Int32) (x2 : Int32) (H : Heap) (locs : List Loc) (ls : Array Slot), f_X8_append_L3 n M_h x1 x2 = some R_h → va_P (dC, dI) vwCl (wX8 cyB cyI cyZ cyO h h_bytes M_h) H → va_D A (wX8 cyB cyI cyZ cyO h h_bytes M_h) → va_S A s.heap H locs → lv_has ls 3 [(0, .ref h), (1, .int x1), (2, .int x2)] → W p l e (headSpec wsX8_append ({ frames := 0, cells := 0, slots := 0, locals := 0 } : Room)).room s m ([.ref h, .int p1] : List Value).toArray below meth c H locs 0 0 (MQ below (QW dC dI none (wX8 cyB cyI cyZ cyO h h_bytes R_h) A) ([.ref h, .int p1] : List Value).toArray s 0 0 A) (F0 m 3 ls []) := by
    intro n
    induction n with
    | zero => intro M_h x1 x2 H locs ls hf hP hD hS hl; rw [f_X8_append_L3] at hf; cases hf
    | succ n ih =>
      intro M_h x1 x2 H locs ls hf hP hD hS hl
      rw [f_X8_append_L3] at hf
      refine lv_iload_n hx hb dX8_append_3 rfl (lv_at hl 2 rfl) ?_
      refine lv_if_lt (tgt := 46) hx hb dX8_append_4 (by decide) (fun hc4 => ?_) (fun hc4 => ?_)
      · rw [if_pos hc4] at hf
        have hq := Option.some.inj hf
        subst hq
        exact W.vret hx hb hr (fun t ht hW => ⟨rfl, by rw [ht]; exact hP, hD, hS.F ht⟩) hS.2.2 dX8_append_46
      · rw [if_neg hc4] at hf
        refine lv_aload_n hx hb dX8_append_7 rfl (lv_at hl 0 rfl) ?_
        refine va_get (D := (dC, dI)) (ci := 8) (v := .int (M_h 1 0)) (C := RX8) (T := TX8) (N := 2) hx hb hts hin8 hown hK hP 0 rfl rfl 1 (by decide) kf15 (fun _ h9 => h9) rfl dX8_append_8 ?_
        refine lv_sipush (v := (400 : Int32)) hx hb dX8_append_11 (by decide) ?_
        refine lv_icmp_ge (tgt := 46) hx hb dX8_append_14 (by decide) (fun hc14 => ?_) (fun hc14 => ?_)
        · rw [if_pos hc14] at hf
          have hq := Option.some.inj hf
          subst hq
          exact W.vret hx hb hr (fun t ht hW => ⟨rfl, by rw [ht]; exact hP, hD, hS.F ht⟩) hS.2.2 dX8_append_46
        · rw [if_neg hc14] at hf
          refine lv_aload_n hx hb dX8_append_17 rfl (lv_at hl 0 rfl) ?_
          refine va_get (D := (dC, dI)) (ci := 8) (v := .ref h_bytes) (C := RX8) (T := TX8) (N := 2) hx hb hts hin8 hown hK hP 0 rfl rfl 0 (by decide) kf9 (fun _ h9 => h9) rfl dX8_append_18 ?_
          refine lv_aload_n hx hb dX8_append_21 rfl (lv_at hl 0 rfl) ?_
          refine va_get (D := (dC, dI)) (ci := 8) (v := .int (M_h 1 0)) (C := RX8) (T := TX8) (N := 2) hx hb hts hin8 hown hK hP 0 rfl rfl 1 (by decide) kf15 (fun _ h9 => h9) rfl dX8_append_22 ?_
          refine lv_iload_n hx hb dX8_append_25 rfl (lv_at hl 1 rfl) ?_
          refine lv_iload_n hx hb dX8_append_26 rfl (lv_at hl 2 rfl) ?_
          refine lv_ishr hx hb dX8_append_27 ?_
          refine lv_i2b (v := ((x1 >>> (x2 &&& 31))).toInt8.toInt32) hx hb dX8_append_28 rfl ?_
          have hi29 := if_no hf
          rw [if_neg hi29] at hf
          refine va_bast hx hb hK hP hD hS 1 0 rfl rfl hi29 dX8_append_29 (fun H locs hP hD hS => ?_)
          obtain ⟨M_h_29, eM_h_29, hf⟩ := wr_some hf
          have hP : va_P (dC, dI) vwCl (wX8 cyB cyI cyZ cyO h h_bytes M_h_29) H := by rw [eM_h_29]; exact hP
          have hD : va_D A (wX8 cyB cyI cyZ cyO h h_bytes M_h_29) := by rw [eM_h_29]; exact hD
          refine lv_aload_n hx hb dX8_append_30 rfl (lv_at hl 0 rfl) ?_
          refine lv_dup hx hb dX8_append_31 rfl ?_
          refine va_get (D := (dC, dI)) (ci := 8) (v := .int (M_h_29 1 0)) (C := RX8) (T := TX8) (N := 2) hx hb hts hin8 hown hK hP 0 rfl rfl 1 (by decide) kf15 (fun _ h9 => h9) rfl dX8_append_32 ?_
          refine lv_iconst (v := (1 : Int32)) hx hb dX8_append_35 (by decide) ?_
          refine lv_iadd hx hb dX8_append_36 ?_
          refine va_put (D := (dC, dI)) (ci := 8) (v := .int ((M_h_29 1 0) + (1 : Int32))) (ty := .int) (C := RX8) (T := TX8) (N := 2) hx hb hts hin8 tyX8 tyX8_ok nmX8 hown hK hP hD hS 0 rfl rfl 1 (by decide) kf15 (fun _ h9 => h9) rfl (by decide +kernel) rfl rfl (Nat.le_of_ble_eq_true rfl) dX8_append_37 (fun H locs hP hD hS => ?_)
          obtain ⟨M_h_37, eM_h_37, hf⟩ := wr_some hf
          have hP : va_P (dC, dI) vwCl (wX8 cyB cyI cyZ cyO h h_bytes M_h_37) H := by rw [eM_h_37]; exact hP
          have hD : va_D A (wX8 cyB cyI cyZ cyO h h_bytes M_h_37) := by rw [eM_h_37]; exact hD
          refine lv_iinc (v := (x2 + (-8 : Int32))) (lv' := [(2, .int (x2 + (-8 : Int32))), (0, .ref h), (1, .int x1)]) hx hb dX8_append_40 hl (k := 2) rfl rfl (by decide) rfl (fun ls hl => ?_)
          refine lv_goto (tgt := 3) hx hb dX8_append_43 (by decide) ?_
          exact ih M_h_37 x1 (x2 + (-8 : Int32)) _ _ ls hf hP hD hS (lv_sub hl [1, 2, 0] rfl)
  rw [f_X8_append] at hf
  refine lv_bipush (v := (24 : Int32)) hx hb dX8_append_0 (by decide) ?_
  refine lv_istore_n (lv' := [(2, .int (24 : Int32)), (0, .ref h), (1, .int p1)]) hx hb dX8_append_2 rfl hl (by decide) rfl (fun ls hl => ?_)
  exact L3 FU M_h p1 (24 : Int32) _ _ ls hf hP hD hS (lv_sub hl [1, 2, 0] rfl)
set_option maxHeartbeats 4000000 in
set_option maxRecDepth 100000 in
theorem c_X3_copyFrom (l : Launch) (dC : Nat → ClassId) (dI : Nat → Nat → Nat) (cyB cyI cyZ cyO : ClassId) (a1 a1_action a1_amount a1_tests a1_negated a1_subject a1_sign a1_limit h h_action h_amount h_tests h_negated h_subject h_sign h_limit : Nat) (sz : Nat) (M_a1 : Mem) (M_h : Mem) (R_h : Mem) (hf : f_X3_copyFrom M_a1 M_h = some R_h) : Met l yX3_copyFrom wsX3_copyFrom ({ frames := 2, cells := 0, slots := 0, locals := 81 } : Room) (PW dC dI cyB cyI cyZ cyO ([.ref h, .ref a1] : List Value) ((wX3 cyB cyI cyZ cyO a1 a1_action a1_amount a1_tests a1_negated a1_subject a1_sign a1_limit M_a1) ++ (wX3 cyB cyI cyZ cyO h h_action h_amount h_tests h_negated h_subject h_sign h_limit M_h)) sz) (QW dC dI none ((wX3 cyB cyI cyZ cyO a1 a1_action a1_amount a1_tests a1_negated a1_subject a1_sign a1_limit M_a1) ++ (wX3 cyB cyI cyZ cyO h h_action h_amount h_tests h_negated h_subject h_sign h_limit R_h)) (va_A ((wX3 cyB cyI cyZ cyO a1 a1_action a1_amount a1_tests a1_negated a1_subject a1_sign a1_limit M_a1) ++ (wX3 cyB cyI cyZ cyO h h_action h_amount h_tests h_negated h_subject h_sign h_limit M_h)) sz)) 0 0 (va_A ((wX3 cyB cyI cyZ cyO a1 a1_action a1_amount a1_tests a1_negated a1_subject a1_sign a1_limit M_a1) ++ (wX3 cyB cyI cyZ cyO h h_action h_amount h_tests h_negated h_subject h_sign h_limit M_h)) sz) := by
  refine Met.ofW (cc := cX3_copyFrom) (maxL := 2) (ret := none) (by decide) rfl ?_
  intro p e s m args below meth c s₁ B hml hv
  obtain ⟨rfl, hsz, hP, hCx, hD0⟩ := hv
  have hK := hCx.1
  have hN := hCx.2
  have hx := B.exec
  have hb := B.bytes
  have hr := B.returns
  have hts := atoms_spec (ws := wsX3_copyFrom) B.pre
  have hown : s.vm.findClass RX3 = some m.cls := findClass_of_methodNamed B.named
  have hlocks := B.notSynchronized
  have hin3 : ∀ w ∈ u_ws RX3 TX3 8, w ∈ wsX3_copyFrom := fun w h => List.mem_cons_of_mem _ (List.mem_append_right _ h)
  have kf9 := hts (.fieldLink RX3 9 "HoldSlips$Decree" "lines" "I") (by decide +kernel)
  have kf15 := hts (.fieldLink RX3 15 "HoldSlips$Decree" "action" "[I") (by decide +kernel)
  have kf19 := hts (.fieldLink RX3 19 "HoldSlips$Decree" "amount" "[I") (by decide +kernel)
  have kf22 := hts (.fieldLink RX3 22 "HoldSlips$Decree" "tests" "[I") (by decide +kernel)
  have kf25 := hts (.fieldLink RX3 25 "HoldSlips$Decree" "negated" "[I") (by decide +kernel)
  have kf28 := hts (.fieldLink RX3 28 "HoldSlips$Decree" "subject" "[I") (by decide +kernel)
  have kf31 := hts (.fieldLink RX3 31 "HoldSlips$Decree" "sign" "[I") (by decide +kernel)
  have kf34 := hts (.fieldLink RX3 34 "HoldSlips$Decree" "limit" "[I") (by decide +kernel)
  subst hsz
  have hD := hD0.self (sz := s.heap.size)
  generalize hAe : va_A ((wX3 cyB cyI cyZ cyO a1 a1_action a1_amount a1_tests a1_negated a1_subject a1_sign a1_limit M_a1) ++ (wX3 cyB cyI cyZ cyO h h_action h_amount h_tests h_negated h_subject h_sign h_limit M_h)) s.heap.size = A at hD ⊢
  have hA : ∀ q : Nat, s.heap.size ≤ q → A q := fun q h => by rw [← hAe]; exact Or.inr h
  have hS : va_S A s.heap s.heap [] := va_S.rf
  have hl := lv_entry ([.ref h, .ref a1] : List Value) (n := 2) (Nat.le_of_ble_eq_true rfl)
  rw [lg_entry_eq]
  generalize (lg_sl ([.ref h, .ref a1] : List Value) ++ List.replicate (2 - (lg_sl ([.ref h, .ref a1] : List Value)).length) Slot.unset).toArray = ls at hl ⊢
  have hl : lv_has ls 2 [(0, .ref h), (1, .ref a1)] := hl
  rw [f_X3_copyFrom] at hf
  refine lv_aload_n hx hb dX3_copyFrom_0 rfl (lv_at hl 0 rfl) ?_
  refine lv_aload_n hx hb dX3_copyFrom_1 rfl (lv_at hl 1 rfl) ?_
  refine va_get (D := (dC, dI)) (ci := 3) (v := .int (M_a1 0 0)) (C := RX3) (T := TX3) (N := 8) hx hb hts hin3 hown hK hP 0 rfl rfl 0 (by decide) kf9 (fun _ h9 => h9) rfl dX3_copyFrom_2 ?_
  refine va_put (D := (dC, dI)) (ci := 3) (v := .int (M_a1 0 0)) (ty := .int) (C := RX3) (T := TX3) (N := 8) hx hb hts hin3 tyX3 tyX3_ok nmX3 hown hK hP hD hS 8 rfl rfl 0 (by decide) kf9 (fun _ h9 => h9) rfl (by decide +kernel) rfl rfl (Nat.le_of_ble_eq_true rfl) dX3_copyFrom_5 (fun H locs hP hD hS => ?_)
  obtain ⟨M_h_5, eM_h_5, hf⟩ := wr_some hf
  have hP : va_P (dC, dI) vwCl ((wX3 cyB cyI cyZ cyO a1 a1_action a1_amount a1_tests a1_negated a1_subject a1_sign a1_limit M_a1) ++ (wX3 cyB cyI cyZ cyO h h_action h_amount h_tests h_negated h_subject h_sign h_limit M_h_5)) H := by rw [eM_h_5]; exact hP
  have hD : va_D A ((wX3 cyB cyI cyZ cyO a1 a1_action a1_amount a1_tests a1_negated a1_subject a1_sign a1_limit M_a1) ++ (wX3 cyB cyI cyZ cyO h h_action h_amount h_tests h_negated h_subject h_sign h_limit M_h_5)) := by rw [eM_h_5]; exact hD
  refine lv_aload_n hx hb dX3_copyFrom_8 rfl (lv_at hl 1 rfl) ?_
  refine va_get (D := (dC, dI)) (ci := 3) (v := .ref a1_action) (C := RX3) (T := TX3) (N := 8) hx hb hts hin3 hown hK hP 0 rfl rfl 1 (by decide) kf15 (fun _ h9 => h9) rfl dX3_copyFrom_9 ?_
  refine lv_aload_n hx hb dX3_copyFrom_12 rfl (lv_at hl 0 rfl) ?_
  refine va_get (D := (dC, dI)) (ci := 3) (v := .ref h_action) (C := RX3) (T := TX3) (N := 8) hx hb hts hin3 hown hK hP 8 rfl rfl 1 (by decide) kf15 (fun _ h9 => h9) rfl dX3_copyFrom_13 ?_
  obtain ⟨M_h_16, eM_h_16, hf⟩ := wr_some hf
  have hPc := hP.sub (ws' := ([(a1_action, .inl (cyI, 16, .inl (M_a1 1))), (h_action, .inl (cyI, 16, .inl (M_h_5 1)))] : va_W)) [1, 9] rfl
  have hDc := hD.sub (ws' := ([(a1_action, .inl (cyI, 16, .inl (M_a1 1))), (h_action, .inl (cyI, 16, .inl (M_h_5 1)))] : va_W)) [1, 9] (by decide) rfl
  refine wr_callv (wc := ([(a1_action, .inl (cyI, 16, .inl (M_a1 1))), (h_action, .inl (cyI, 16, .inl (M_h_5 1)))] : va_W)) (wr := ([(a1, .inr (3, [.int (M_a1 0 0), .ref a1_action, .ref a1_amount, .ref a1_tests, .ref a1_negated, .ref a1_subject, .ref a1_sign, .ref a1_limit])), (a1_amount, .inl (cyI, 16, .inl (M_a1 2))), (a1_tests, .inl (cyI, 16, .inl (M_a1 3))), (a1_negated, .inl (cyI, 64, .inl (M_a1 4))), (a1_subject, .inl (cyI, 64, .inl (M_a1 5))), (a1_sign, .inl (cyI, 64, .inl (M_a1 6))), (a1_limit, .inl (cyI, 64, .inl (M_a1 7))), (h, .inr (3, [.int (M_h_5 0 0), .ref h_action, .ref h_amount, .ref h_tests, .ref h_negated, .ref h_subject, .ref h_sign, .ref h_limit])), (h_amount, .inl (cyI, 16, .inl (M_h_5 2))), (h_tests, .inl (cyI, 16, .inl (M_h_5 3))), (h_negated, .inl (cyI, 64, .inl (M_h_5 4))), (h_subject, .inl (cyI, 64, .inl (M_h_5 5))), (h_sign, .inl (cyI, 64, .inl (M_h_5 6))), (h_limit, .inl (cyI, 64, .inl (M_h_5 7)))] : va_W)) (w1 := ([(a1_action, .inl (cyI, 16, .inl (M_a1 1))), (h_action, .inl (cyI, 16, .inl ((upR M_h_5 1 (rowc 16 (M_a1 1) (M_h_5 1))) 1)))] : va_W)) (ws' := ((wX3 cyB cyI cyZ cyO a1 a1_action a1_amount a1_tests a1_negated a1_subject a1_sign a1_limit M_a1) ++ (wX3 cyB cyI cyZ cyO h h_action h_amount h_tests h_negated h_subject h_sign h_limit (upR M_h_5 1 (rowc 16 (M_a1 1) (M_h_5 1)))))) hP hD hS hA [1, 9] [0, 2, 3, 4, 5, 6, 7, 8, 10, 11, 12, 13, 14, 15] [0, 14, 1, 2, 3, 4, 5, 6, 7, 15, 8, 9, 10, 11, 12, 13] rfl rfl (by decide) (by decide) rfl (by decide) (va_runSN (As := [.ref a1_action, .ref h_action]) (rest := []) ⟨hx, hb, hml, hown, hts⟩ (c_X11_copyRow l dC dI cyB cyI cyZ cyO a1_action h_action _ 16 (M_a1 1) (M_h_5 1) (by decide)) ⟨va_cnB 2 hts gX3_copyFrom_X11_copyRow_n37 rfl rfl rfl (hN _ (by decide +kernel : Cond.methodLinkNest RX3 37 yX11_copyRow "HoldSlips" ∈ nw_all)) (hts (.initialized RX11) (by decide +kernel)) (by decide +kernel) ⟨Nat.le_of_ble_eq_true rfl, Nat.le_of_ble_eq_true rfl⟩, hts (.static yX11_copyRow) (by decide +kernel), trivial⟩ ⟨PW.blind, fun U hU hW => ⟨rfl, by rw [hU], by rw [hU]; exact hPc, hCx.warm hW, hDc.weaken (fun _ _ _ _ => trivial)⟩⟩ rfl rfl hl.1 rfl (lv_room (Nat.le_of_ble_eq_true rfl)) dX3_copyFrom_16 ⟨Nat.zero_le _, Nat.zero_le _⟩) (fun H locs hP hD hS => ?_)
  rw [← eM_h_16] at hP hD
  refine lv_aload_n hx hb dX3_copyFrom_19 rfl (lv_at hl 1 rfl) ?_
  refine va_get (D := (dC, dI)) (ci := 3) (v := .ref a1_amount) (C := RX3) (T := TX3) (N := 8) hx hb hts hin3 hown hK hP 0 rfl rfl 2 (by decide) kf19 (fun _ h9 => h9) rfl dX3_copyFrom_20 ?_
  refine lv_aload_n hx hb dX3_copyFrom_23 rfl (lv_at hl 0 rfl) ?_
  refine va_get (D := (dC, dI)) (ci := 3) (v := .ref h_amount) (C := RX3) (T := TX3) (N := 8) hx hb hts hin3 hown hK hP 8 rfl rfl 2 (by decide) kf19 (fun _ h9 => h9) rfl dX3_copyFrom_24 ?_
  obtain ⟨M_h_27, eM_h_27, hf⟩ := wr_some hf
  have hPc := hP.sub (ws' := ([(a1_amount, .inl (cyI, 16, .inl (M_a1 2))), (h_amount, .inl (cyI, 16, .inl (M_h_16 2)))] : va_W)) [2, 10] rfl
  have hDc := hD.sub (ws' := ([(a1_amount, .inl (cyI, 16, .inl (M_a1 2))), (h_amount, .inl (cyI, 16, .inl (M_h_16 2)))] : va_W)) [2, 10] (by decide) rfl
  refine wr_callv (wc := ([(a1_amount, .inl (cyI, 16, .inl (M_a1 2))), (h_amount, .inl (cyI, 16, .inl (M_h_16 2)))] : va_W)) (wr := ([(a1, .inr (3, [.int (M_a1 0 0), .ref a1_action, .ref a1_amount, .ref a1_tests, .ref a1_negated, .ref a1_subject, .ref a1_sign, .ref a1_limit])), (a1_action, .inl (cyI, 16, .inl (M_a1 1))), (a1_tests, .inl (cyI, 16, .inl (M_a1 3))), (a1_negated, .inl (cyI, 64, .inl (M_a1 4))), (a1_subject, .inl (cyI, 64, .inl (M_a1 5))), (a1_sign, .inl (cyI, 64, .inl (M_a1 6))), (a1_limit, .inl (cyI, 64, .inl (M_a1 7))), (h, .inr (3, [.int (M_h_16 0 0), .ref h_action, .ref h_amount, .ref h_tests, .ref h_negated, .ref h_subject, .ref h_sign, .ref h_limit])), (h_action, .inl (cyI, 16, .inl (M_h_16 1))), (h_tests, .inl (cyI, 16, .inl (M_h_16 3))), (h_negated, .inl (cyI, 64, .inl (M_h_16 4))), (h_subject, .inl (cyI, 64, .inl (M_h_16 5))), (h_sign, .inl (cyI, 64, .inl (M_h_16 6))), (h_limit, .inl (cyI, 64, .inl (M_h_16 7)))] : va_W)) (w1 := ([(a1_amount, .inl (cyI, 16, .inl (M_a1 2))), (h_amount, .inl (cyI, 16, .inl ((upR M_h_16 2 (rowc 16 (M_a1 2) (M_h_16 2))) 2)))] : va_W)) (ws' := ((wX3 cyB cyI cyZ cyO a1 a1_action a1_amount a1_tests a1_negated a1_subject a1_sign a1_limit M_a1) ++ (wX3 cyB cyI cyZ cyO h h_action h_amount h_tests h_negated h_subject h_sign h_limit (upR M_h_16 2 (rowc 16 (M_a1 2) (M_h_16 2)))))) hP hD hS hA [2, 10] [0, 1, 3, 4, 5, 6, 7, 8, 9, 11, 12, 13, 14, 15] [0, 1, 14, 2, 3, 4, 5, 6, 7, 8, 15, 9, 10, 11, 12, 13] rfl rfl (by decide) (by decide) rfl (by decide) (va_runSN (As := [.ref a1_amount, .ref h_amount]) (rest := []) ⟨hx, hb, hml, hown, hts⟩ (c_X11_copyRow l dC dI cyB cyI cyZ cyO a1_amount h_amount _ 16 (M_a1 2) (M_h_16 2) (by decide)) ⟨va_cnB 2 hts gX3_copyFrom_X11_copyRow_n37 rfl rfl rfl (hN _ (by decide +kernel : Cond.methodLinkNest RX3 37 yX11_copyRow "HoldSlips" ∈ nw_all)) (hts (.initialized RX11) (by decide +kernel)) (by decide +kernel) ⟨Nat.le_of_ble_eq_true rfl, Nat.le_of_ble_eq_true rfl⟩, hts (.static yX11_copyRow) (by decide +kernel), trivial⟩ ⟨PW.blind, fun U hU hW => ⟨rfl, by rw [hU], by rw [hU]; exact hPc, hCx.warm hW, hDc.weaken (fun _ _ _ _ => trivial)⟩⟩ rfl rfl hl.1 rfl (lv_room (Nat.le_of_ble_eq_true rfl)) dX3_copyFrom_27 ⟨Nat.zero_le _, Nat.zero_le _⟩) (fun H locs hP hD hS => ?_)
  rw [← eM_h_27] at hP hD
  refine lv_aload_n hx hb dX3_copyFrom_30 rfl (lv_at hl 1 rfl) ?_
  refine va_get (D := (dC, dI)) (ci := 3) (v := .ref a1_tests) (C := RX3) (T := TX3) (N := 8) hx hb hts hin3 hown hK hP 0 rfl rfl 3 (by decide) kf22 (fun _ h9 => h9) rfl dX3_copyFrom_31 ?_
  refine lv_aload_n hx hb dX3_copyFrom_34 rfl (lv_at hl 0 rfl) ?_
  refine va_get (D := (dC, dI)) (ci := 3) (v := .ref h_tests) (C := RX3) (T := TX3) (N := 8) hx hb hts hin3 hown hK hP 8 rfl rfl 3 (by decide) kf22 (fun _ h9 => h9) rfl dX3_copyFrom_35 ?_
  obtain ⟨M_h_38, eM_h_38, hf⟩ := wr_some hf
  have hPc := hP.sub (ws' := ([(a1_tests, .inl (cyI, 16, .inl (M_a1 3))), (h_tests, .inl (cyI, 16, .inl (M_h_27 3)))] : va_W)) [3, 11] rfl
  have hDc := hD.sub (ws' := ([(a1_tests, .inl (cyI, 16, .inl (M_a1 3))), (h_tests, .inl (cyI, 16, .inl (M_h_27 3)))] : va_W)) [3, 11] (by decide) rfl
  refine wr_callv (wc := ([(a1_tests, .inl (cyI, 16, .inl (M_a1 3))), (h_tests, .inl (cyI, 16, .inl (M_h_27 3)))] : va_W)) (wr := ([(a1, .inr (3, [.int (M_a1 0 0), .ref a1_action, .ref a1_amount, .ref a1_tests, .ref a1_negated, .ref a1_subject, .ref a1_sign, .ref a1_limit])), (a1_action, .inl (cyI, 16, .inl (M_a1 1))), (a1_amount, .inl (cyI, 16, .inl (M_a1 2))), (a1_negated, .inl (cyI, 64, .inl (M_a1 4))), (a1_subject, .inl (cyI, 64, .inl (M_a1 5))), (a1_sign, .inl (cyI, 64, .inl (M_a1 6))), (a1_limit, .inl (cyI, 64, .inl (M_a1 7))), (h, .inr (3, [.int (M_h_27 0 0), .ref h_action, .ref h_amount, .ref h_tests, .ref h_negated, .ref h_subject, .ref h_sign, .ref h_limit])), (h_action, .inl (cyI, 16, .inl (M_h_27 1))), (h_amount, .inl (cyI, 16, .inl (M_h_27 2))), (h_negated, .inl (cyI, 64, .inl (M_h_27 4))), (h_subject, .inl (cyI, 64, .inl (M_h_27 5))), (h_sign, .inl (cyI, 64, .inl (M_h_27 6))), (h_limit, .inl (cyI, 64, .inl (M_h_27 7)))] : va_W)) (w1 := ([(a1_tests, .inl (cyI, 16, .inl (M_a1 3))), (h_tests, .inl (cyI, 16, .inl ((upR M_h_27 3 (rowc 16 (M_a1 3) (M_h_27 3))) 3)))] : va_W)) (ws' := ((wX3 cyB cyI cyZ cyO a1 a1_action a1_amount a1_tests a1_negated a1_subject a1_sign a1_limit M_a1) ++ (wX3 cyB cyI cyZ cyO h h_action h_amount h_tests h_negated h_subject h_sign h_limit (upR M_h_27 3 (rowc 16 (M_a1 3) (M_h_27 3)))))) hP hD hS hA [3, 11] [0, 1, 2, 4, 5, 6, 7, 8, 9, 10, 12, 13, 14, 15] [0, 1, 2, 14, 3, 4, 5, 6, 7, 8, 9, 15, 10, 11, 12, 13] rfl rfl (by decide) (by decide) rfl (by decide) (va_runSN (As := [.ref a1_tests, .ref h_tests]) (rest := []) ⟨hx, hb, hml, hown, hts⟩ (c_X11_copyRow l dC dI cyB cyI cyZ cyO a1_tests h_tests _ 16 (M_a1 3) (M_h_27 3) (by decide)) ⟨va_cnB 2 hts gX3_copyFrom_X11_copyRow_n37 rfl rfl rfl (hN _ (by decide +kernel : Cond.methodLinkNest RX3 37 yX11_copyRow "HoldSlips" ∈ nw_all)) (hts (.initialized RX11) (by decide +kernel)) (by decide +kernel) ⟨Nat.le_of_ble_eq_true rfl, Nat.le_of_ble_eq_true rfl⟩, hts (.static yX11_copyRow) (by decide +kernel), trivial⟩ ⟨PW.blind, fun U hU hW => ⟨rfl, by rw [hU], by rw [hU]; exact hPc, hCx.warm hW, hDc.weaken (fun _ _ _ _ => trivial)⟩⟩ rfl rfl hl.1 rfl (lv_room (Nat.le_of_ble_eq_true rfl)) dX3_copyFrom_38 ⟨Nat.zero_le _, Nat.zero_le _⟩) (fun H locs hP hD hS => ?_)
  rw [← eM_h_38] at hP hD
  refine lv_aload_n hx hb dX3_copyFrom_41 rfl (lv_at hl 1 rfl) ?_
  refine va_get (D := (dC, dI)) (ci := 3) (v := .ref a1_negated) (C := RX3) (T := TX3) (N := 8) hx hb hts hin3 hown hK hP 0 rfl rfl 4 (by decide) kf25 (fun _ h9 => h9) rfl dX3_copyFrom_42 ?_
  refine lv_aload_n hx hb dX3_copyFrom_45 rfl (lv_at hl 0 rfl) ?_
  refine va_get (D := (dC, dI)) (ci := 3) (v := .ref h_negated) (C := RX3) (T := TX3) (N := 8) hx hb hts hin3 hown hK hP 8 rfl rfl 4 (by decide) kf25 (fun _ h9 => h9) rfl dX3_copyFrom_46 ?_
  obtain ⟨M_h_49, eM_h_49, hf⟩ := wr_some hf
  have hPc := hP.sub (ws' := ([(a1_negated, .inl (cyI, 64, .inl (M_a1 4))), (h_negated, .inl (cyI, 64, .inl (M_h_38 4)))] : va_W)) [4, 12] rfl
  have hDc := hD.sub (ws' := ([(a1_negated, .inl (cyI, 64, .inl (M_a1 4))), (h_negated, .inl (cyI, 64, .inl (M_h_38 4)))] : va_W)) [4, 12] (by decide) rfl
  refine wr_callv (wc := ([(a1_negated, .inl (cyI, 64, .inl (M_a1 4))), (h_negated, .inl (cyI, 64, .inl (M_h_38 4)))] : va_W)) (wr := ([(a1, .inr (3, [.int (M_a1 0 0), .ref a1_action, .ref a1_amount, .ref a1_tests, .ref a1_negated, .ref a1_subject, .ref a1_sign, .ref a1_limit])), (a1_action, .inl (cyI, 16, .inl (M_a1 1))), (a1_amount, .inl (cyI, 16, .inl (M_a1 2))), (a1_tests, .inl (cyI, 16, .inl (M_a1 3))), (a1_subject, .inl (cyI, 64, .inl (M_a1 5))), (a1_sign, .inl (cyI, 64, .inl (M_a1 6))), (a1_limit, .inl (cyI, 64, .inl (M_a1 7))), (h, .inr (3, [.int (M_h_38 0 0), .ref h_action, .ref h_amount, .ref h_tests, .ref h_negated, .ref h_subject, .ref h_sign, .ref h_limit])), (h_action, .inl (cyI, 16, .inl (M_h_38 1))), (h_amount, .inl (cyI, 16, .inl (M_h_38 2))), (h_tests, .inl (cyI, 16, .inl (M_h_38 3))), (h_subject, .inl (cyI, 64, .inl (M_h_38 5))), (h_sign, .inl (cyI, 64, .inl (M_h_38 6))), (h_limit, .inl (cyI, 64, .inl (M_h_38 7)))] : va_W)) (w1 := ([(a1_negated, .inl (cyI, 64, .inl (M_a1 4))), (h_negated, .inl (cyI, 64, .inl ((upR M_h_38 4 (rowc 64 (M_a1 4) (M_h_38 4))) 4)))] : va_W)) (ws' := ((wX3 cyB cyI cyZ cyO a1 a1_action a1_amount a1_tests a1_negated a1_subject a1_sign a1_limit M_a1) ++ (wX3 cyB cyI cyZ cyO h h_action h_amount h_tests h_negated h_subject h_sign h_limit (upR M_h_38 4 (rowc 64 (M_a1 4) (M_h_38 4)))))) hP hD hS hA [4, 12] [0, 1, 2, 3, 5, 6, 7, 8, 9, 10, 11, 13, 14, 15] [0, 1, 2, 3, 14, 4, 5, 6, 7, 8, 9, 10, 15, 11, 12, 13] rfl rfl (by decide) (by decide) rfl (by decide) (va_runSN (As := [.ref a1_negated, .ref h_negated]) (rest := []) ⟨hx, hb, hml, hown, hts⟩ (c_X11_copyRow l dC dI cyB cyI cyZ cyO a1_negated h_negated _ 64 (M_a1 4) (M_h_38 4) (by decide)) ⟨va_cnB 2 hts gX3_copyFrom_X11_copyRow_n37 rfl rfl rfl (hN _ (by decide +kernel : Cond.methodLinkNest RX3 37 yX11_copyRow "HoldSlips" ∈ nw_all)) (hts (.initialized RX11) (by decide +kernel)) (by decide +kernel) ⟨Nat.le_of_ble_eq_true rfl, Nat.le_of_ble_eq_true rfl⟩, hts (.static yX11_copyRow) (by decide +kernel), trivial⟩ ⟨PW.blind, fun U hU hW => ⟨rfl, by rw [hU], by rw [hU]; exact hPc, hCx.warm hW, hDc.weaken (fun _ _ _ _ => trivial)⟩⟩ rfl rfl hl.1 rfl (lv_room (Nat.le_of_ble_eq_true rfl)) dX3_copyFrom_49 ⟨Nat.zero_le _, Nat.zero_le _⟩) (fun H locs hP hD hS => ?_)
  rw [← eM_h_49] at hP hD
  refine lv_aload_n hx hb dX3_copyFrom_52 rfl (lv_at hl 1 rfl) ?_
  refine va_get (D := (dC, dI)) (ci := 3) (v := .ref a1_subject) (C := RX3) (T := TX3) (N := 8) hx hb hts hin3 hown hK hP 0 rfl rfl 5 (by decide) kf28 (fun _ h9 => h9) rfl dX3_copyFrom_53 ?_
  refine lv_aload_n hx hb dX3_copyFrom_56 rfl (lv_at hl 0 rfl) ?_
  refine va_get (D := (dC, dI)) (ci := 3) (v := .ref h_subject) (C := RX3) (T := TX3) (N := 8) hx hb hts hin3 hown hK hP 8 rfl rfl 5 (by decide) kf28 (fun _ h9 => h9) rfl dX3_copyFrom_57 ?_
  obtain ⟨M_h_60, eM_h_60, hf⟩ := wr_some hf
  have hPc := hP.sub (ws' := ([(a1_subject, .inl (cyI, 64, .inl (M_a1 5))), (h_subject, .inl (cyI, 64, .inl (M_h_49 5)))] : va_W)) [5, 13] rfl
  have hDc := hD.sub (ws' := ([(a1_subject, .inl (cyI, 64, .inl (M_a1 5))), (h_subject, .inl (cyI, 64, .inl (M_h_49 5)))] : va_W)) [5, 13] (by decide) rfl
  refine wr_callv (wc := ([(a1_subject, .inl (cyI, 64, .inl (M_a1 5))), (h_subject, .inl (cyI, 64, .inl (M_h_49 5)))] : va_W)) (wr := ([(a1, .inr (3, [.int (M_a1 0 0), .ref a1_action, .ref a1_amount, .ref a1_tests, .ref a1_negated, .ref a1_subject, .ref a1_sign, .ref a1_limit])), (a1_action, .inl (cyI, 16, .inl (M_a1 1))), (a1_amount, .inl (cyI, 16, .inl (M_a1 2))), (a1_tests, .inl (cyI, 16, .inl (M_a1 3))), (a1_negated, .inl (cyI, 64, .inl (M_a1 4))), (a1_sign, .inl (cyI, 64, .inl (M_a1 6))), (a1_limit, .inl (cyI, 64, .inl (M_a1 7))), (h, .inr (3, [.int (M_h_49 0 0), .ref h_action, .ref h_amount, .ref h_tests, .ref h_negated, .ref h_subject, .ref h_sign, .ref h_limit])), (h_action, .inl (cyI, 16, .inl (M_h_49 1))), (h_amount, .inl (cyI, 16, .inl (M_h_49 2))), (h_tests, .inl (cyI, 16, .inl (M_h_49 3))), (h_negated, .inl (cyI, 64, .inl (M_h_49 4))), (h_sign, .inl (cyI, 64, .inl (M_h_49 6))), (h_limit, .inl (cyI, 64, .inl (M_h_49 7)))] : va_W)) (w1 := ([(a1_subject, .inl (cyI, 64, .inl (M_a1 5))), (h_subject, .inl (cyI, 64, .inl ((upR M_h_49 5 (rowc 64 (M_a1 5) (M_h_49 5))) 5)))] : va_W)) (ws' := ((wX3 cyB cyI cyZ cyO a1 a1_action a1_amount a1_tests a1_negated a1_subject a1_sign a1_limit M_a1) ++ (wX3 cyB cyI cyZ cyO h h_action h_amount h_tests h_negated h_subject h_sign h_limit (upR M_h_49 5 (rowc 64 (M_a1 5) (M_h_49 5)))))) hP hD hS hA [5, 13] [0, 1, 2, 3, 4, 6, 7, 8, 9, 10, 11, 12, 14, 15] [0, 1, 2, 3, 4, 14, 5, 6, 7, 8, 9, 10, 11, 15, 12, 13] rfl rfl (by decide) (by decide) rfl (by decide) (va_runSN (As := [.ref a1_subject, .ref h_subject]) (rest := []) ⟨hx, hb, hml, hown, hts⟩ (c_X11_copyRow l dC dI cyB cyI cyZ cyO a1_subject h_subject _ 64 (M_a1 5) (M_h_49 5) (by decide)) ⟨va_cnB 2 hts gX3_copyFrom_X11_copyRow_n37 rfl rfl rfl (hN _ (by decide +kernel : Cond.methodLinkNest RX3 37 yX11_copyRow "HoldSlips" ∈ nw_all)) (hts (.initialized RX11) (by decide +kernel)) (by decide +kernel) ⟨Nat.le_of_ble_eq_true rfl, Nat.le_of_ble_eq_true rfl⟩, hts (.static yX11_copyRow) (by decide +kernel), trivial⟩ ⟨PW.blind, fun U hU hW => ⟨rfl, by rw [hU], by rw [hU]; exact hPc, hCx.warm hW, hDc.weaken (fun _ _ _ _ => trivial)⟩⟩ rfl rfl hl.1 rfl (lv_room (Nat.le_of_ble_eq_true rfl)) dX3_copyFrom_60 ⟨Nat.zero_le _, Nat.zero_le _⟩) (fun H locs hP hD hS => ?_)
  rw [← eM_h_60] at hP hD
  refine lv_aload_n hx hb dX3_copyFrom_63 rfl (lv_at hl 1 rfl) ?_
  refine va_get (D := (dC, dI)) (ci := 3) (v := .ref a1_sign) (C := RX3) (T := TX3) (N := 8) hx hb hts hin3 hown hK hP 0 rfl rfl 6 (by decide) kf31 (fun _ h9 => h9) rfl dX3_copyFrom_64 ?_
  refine lv_aload_n hx hb dX3_copyFrom_67 rfl (lv_at hl 0 rfl) ?_
  refine va_get (D := (dC, dI)) (ci := 3) (v := .ref h_sign) (C := RX3) (T := TX3) (N := 8) hx hb hts hin3 hown hK hP 8 rfl rfl 6 (by decide) kf31 (fun _ h9 => h9) rfl dX3_copyFrom_68 ?_
  obtain ⟨M_h_71, eM_h_71, hf⟩ := wr_some hf
  have hPc := hP.sub (ws' := ([(a1_sign, .inl (cyI, 64, .inl (M_a1 6))), (h_sign, .inl (cyI, 64, .inl (M_h_60 6)))] : va_W)) [6, 14] rfl
  have hDc := hD.sub (ws' := ([(a1_sign, .inl (cyI, 64, .inl (M_a1 6))), (h_sign, .inl (cyI, 64, .inl (M_h_60 6)))] : va_W)) [6, 14] (by decide) rfl
  refine wr_callv (wc := ([(a1_sign, .inl (cyI, 64, .inl (M_a1 6))), (h_sign, .inl (cyI, 64, .inl (M_h_60 6)))] : va_W)) (wr := ([(a1, .inr (3, [.int (M_a1 0 0), .ref a1_action, .ref a1_amount, .ref a1_tests, .ref a1_negated, .ref a1_subject, .ref a1_sign, .ref a1_limit])), (a1_action, .inl (cyI, 16, .inl (M_a1 1))), (a1_amount, .inl (cyI, 16, .inl (M_a1 2))), (a1_tests, .inl (cyI, 16, .inl (M_a1 3))), (a1_negated, .inl (cyI, 64, .inl (M_a1 4))), (a1_subject, .inl (cyI, 64, .inl (M_a1 5))), (a1_limit, .inl (cyI, 64, .inl (M_a1 7))), (h, .inr (3, [.int (M_h_60 0 0), .ref h_action, .ref h_amount, .ref h_tests, .ref h_negated, .ref h_subject, .ref h_sign, .ref h_limit])), (h_action, .inl (cyI, 16, .inl (M_h_60 1))), (h_amount, .inl (cyI, 16, .inl (M_h_60 2))), (h_tests, .inl (cyI, 16, .inl (M_h_60 3))), (h_negated, .inl (cyI, 64, .inl (M_h_60 4))), (h_subject, .inl (cyI, 64, .inl (M_h_60 5))), (h_limit, .inl (cyI, 64, .inl (M_h_60 7)))] : va_W)) (w1 := ([(a1_sign, .inl (cyI, 64, .inl (M_a1 6))), (h_sign, .inl (cyI, 64, .inl ((upR M_h_60 6 (rowc 64 (M_a1 6) (M_h_60 6))) 6)))] : va_W)) (ws' := ((wX3 cyB cyI cyZ cyO a1 a1_action a1_amount a1_tests a1_negated a1_subject a1_sign a1_limit M_a1) ++ (wX3 cyB cyI cyZ cyO h h_action h_amount h_tests h_negated h_subject h_sign h_limit (upR M_h_60 6 (rowc 64 (M_a1 6) (M_h_60 6)))))) hP hD hS hA [6, 14] [0, 1, 2, 3, 4, 5, 7, 8, 9, 10, 11, 12, 13, 15] [0, 1, 2, 3, 4, 5, 14, 6, 7, 8, 9, 10, 11, 12, 15, 13] rfl rfl (by decide) (by decide) rfl (by decide) (va_runSN (As := [.ref a1_sign, .ref h_sign]) (rest := []) ⟨hx, hb, hml, hown, hts⟩ (c_X11_copyRow l dC dI cyB cyI cyZ cyO a1_sign h_sign _ 64 (M_a1 6) (M_h_60 6) (by decide)) ⟨va_cnB 2 hts gX3_copyFrom_X11_copyRow_n37 rfl rfl rfl (hN _ (by decide +kernel : Cond.methodLinkNest RX3 37 yX11_copyRow "HoldSlips" ∈ nw_all)) (hts (.initialized RX11) (by decide +kernel)) (by decide +kernel) ⟨Nat.le_of_ble_eq_true rfl, Nat.le_of_ble_eq_true rfl⟩, hts (.static yX11_copyRow) (by decide +kernel), trivial⟩ ⟨PW.blind, fun U hU hW => ⟨rfl, by rw [hU], by rw [hU]; exact hPc, hCx.warm hW, hDc.weaken (fun _ _ _ _ => trivial)⟩⟩ rfl rfl hl.1 rfl (lv_room (Nat.le_of_ble_eq_true rfl)) dX3_copyFrom_71 ⟨Nat.zero_le _, Nat.zero_le _⟩) (fun H locs hP hD hS => ?_)
  rw [← eM_h_71] at hP hD
  refine lv_aload_n hx hb dX3_copyFrom_74 rfl (lv_at hl 1 rfl) ?_
  refine va_get (D := (dC, dI)) (ci := 3) (v := .ref a1_limit) (C := RX3) (T := TX3) (N := 8) hx hb hts hin3 hown hK hP 0 rfl rfl 7 (by decide) kf34 (fun _ h9 => h9) rfl dX3_copyFrom_75 ?_
  refine lv_aload_n hx hb dX3_copyFrom_78 rfl (lv_at hl 0 rfl) ?_
  refine va_get (D := (dC, dI)) (ci := 3) (v := .ref h_limit) (C := RX3) (T := TX3) (N := 8) hx hb hts hin3 hown hK hP 8 rfl rfl 7 (by decide) kf34 (fun _ h9 => h9) rfl dX3_copyFrom_79 ?_
  obtain ⟨M_h_82, eM_h_82, hf⟩ := wr_some hf
  have hPc := hP.sub (ws' := ([(a1_limit, .inl (cyI, 64, .inl (M_a1 7))), (h_limit, .inl (cyI, 64, .inl (M_h_71 7)))] : va_W)) [7, 15] rfl
  have hDc := hD.sub (ws' := ([(a1_limit, .inl (cyI, 64, .inl (M_a1 7))), (h_limit, .inl (cyI, 64, .inl (M_h_71 7)))] : va_W)) [7, 15] (by decide) rfl
  refine wr_callv (wc := ([(a1_limit, .inl (cyI, 64, .inl (M_a1 7))), (h_limit, .inl (cyI, 64, .inl (M_h_71 7)))] : va_W)) (wr := ([(a1, .inr (3, [.int (M_a1 0 0), .ref a1_action, .ref a1_amount, .ref a1_tests, .ref a1_negated, .ref a1_subject, .ref a1_sign, .ref a1_limit])), (a1_action, .inl (cyI, 16, .inl (M_a1 1))), (a1_amount, .inl (cyI, 16, .inl (M_a1 2))), (a1_tests, .inl (cyI, 16, .inl (M_a1 3))), (a1_negated, .inl (cyI, 64, .inl (M_a1 4))), (a1_subject, .inl (cyI, 64, .inl (M_a1 5))), (a1_sign, .inl (cyI, 64, .inl (M_a1 6))), (h, .inr (3, [.int (M_h_71 0 0), .ref h_action, .ref h_amount, .ref h_tests, .ref h_negated, .ref h_subject, .ref h_sign, .ref h_limit])), (h_action, .inl (cyI, 16, .inl (M_h_71 1))), (h_amount, .inl (cyI, 16, .inl (M_h_71 2))), (h_tests, .inl (cyI, 16, .inl (M_h_71 3))), (h_negated, .inl (cyI, 64, .inl (M_h_71 4))), (h_subject, .inl (cyI, 64, .inl (M_h_71 5))), (h_sign, .inl (cyI, 64, .inl (M_h_71 6)))] : va_W)) (w1 := ([(a1_limit, .inl (cyI, 64, .inl (M_a1 7))), (h_limit, .inl (cyI, 64, .inl ((upR M_h_71 7 (rowc 64 (M_a1 7) (M_h_71 7))) 7)))] : va_W)) (ws' := ((wX3 cyB cyI cyZ cyO a1 a1_action a1_amount a1_tests a1_negated a1_subject a1_sign a1_limit M_a1) ++ (wX3 cyB cyI cyZ cyO h h_action h_amount h_tests h_negated h_subject h_sign h_limit (upR M_h_71 7 (rowc 64 (M_a1 7) (M_h_71 7)))))) hP hD hS hA [7, 15] [0, 1, 2, 3, 4, 5, 6, 8, 9, 10, 11, 12, 13, 14] [0, 1, 2, 3, 4, 5, 6, 14, 7, 8, 9, 10, 11, 12, 13, 15] rfl rfl (by decide) (by decide) rfl (by decide) (va_runSN (As := [.ref a1_limit, .ref h_limit]) (rest := []) ⟨hx, hb, hml, hown, hts⟩ (c_X11_copyRow l dC dI cyB cyI cyZ cyO a1_limit h_limit _ 64 (M_a1 7) (M_h_71 7) (by decide)) ⟨va_cnB 2 hts gX3_copyFrom_X11_copyRow_n37 rfl rfl rfl (hN _ (by decide +kernel : Cond.methodLinkNest RX3 37 yX11_copyRow "HoldSlips" ∈ nw_all)) (hts (.initialized RX11) (by decide +kernel)) (by decide +kernel) ⟨Nat.le_of_ble_eq_true rfl, Nat.le_of_ble_eq_true rfl⟩, hts (.static yX11_copyRow) (by decide +kernel), trivial⟩ ⟨PW.blind, fun U hU hW => ⟨rfl, by rw [hU], by rw [hU]; exact hPc, hCx.warm hW, hDc.weaken (fun _ _ _ _ => trivial)⟩⟩ rfl rfl hl.1 rfl (lv_room (Nat.le_of_ble_eq_true rfl)) dX3_copyFrom_82 ⟨Nat.zero_le _, Nat.zero_le _⟩) (fun H locs hP hD hS => ?_)
  rw [← eM_h_82] at hP hD
  have hq := Option.some.inj hf
  subst hq
  exact W.vret hx hb hr (fun t ht hW => ⟨rfl, by rw [ht]; exact hP, hD, hS.F ht⟩) hS.2.2 dX3_copyFrom_85
set_option maxHeartbeats 4000000 in
set_option maxRecDepth 100000 in
theorem c_X11_within (l : Launch) (dC : Nat → ClassId) (dI : Nat → Nat → Nat) (cyB cyI cyZ cyO : ClassId) (p0 : Int32) (p1 : Int32) (p2 : Int32) (r : Int32) (hf : f_X11_within p0 p1 p2 = some r) : Met l yX11_within wsX11_within ({ frames := 0, cells := 0, slots := 0, locals := 0 } : Room) (PR dC dI cyB cyI cyZ cyO ([.int p0, .int p1, .int p2] : List Value) ([] : va_W)) (QR (some (.int r))) 0 0 (fun _ => False) := by
  refine Met.ofW (cc := cX11_within) (maxL := 3) (ret := (some .boolean)) (by decide) rfl ?_
  intro p e s m args below meth c s₁ B hml hv
  obtain ⟨rfl, hP, hCx⟩ := hv
  have hK := hCx.1
  have hN := hCx.2
  have hx := B.exec
  have hb := B.bytes
  have hr := B.returns
  have hts := atoms_spec (ws := wsX11_within) B.pre
  have hown : s.vm.findClass RX11 = some m.cls := findClass_of_methodNamed B.named
  have hlocks := B.notSynchronized
  have hl := lv_entry ([.int p0, .int p1, .int p2] : List Value) (n := 3) (Nat.le_of_ble_eq_true rfl)
  rw [lg_entry_eq]
  generalize (lg_sl ([.int p0, .int p1, .int p2] : List Value) ++ List.replicate (3 - (lg_sl ([.int p0, .int p1, .int p2] : List Value)).length) Slot.unset).toArray = ls at hl ⊢
  have hl : lv_has ls 3 [(0, .int p0), (1, .int p1), (2, .int p2)] := hl
  rw [f_X11_within] at hf
  refine lv_iload_n hx hb dX11_within_0 rfl (lv_at hl 0 rfl) ?_
  refine lv_iload_n hx hb dX11_within_1 rfl (lv_at hl 1 rfl) ?_
  refine lv_icmp_lt (tgt := 14) hx hb dX11_within_2 (by decide) (fun hc2 => ?_) (fun hc2 => ?_)
  · rw [if_pos hc2] at hf
    refine lv_iconst (v := (0 : Int32)) hx hb dX11_within_14 (by decide) ?_
    have hq := Option.some.inj hf
    subst hq
    exact W.zret (v := (0 : Int32)) hx hb hr rfl (fun t ht hW => ⟨rfl, ht⟩) (fun q h => by cases h) dX11_within_15
  · rw [if_neg hc2] at hf
    refine lv_iload_n hx hb dX11_within_5 rfl (lv_at hl 0 rfl) ?_
    refine lv_iload_n hx hb dX11_within_6 rfl (lv_at hl 2 rfl) ?_
    refine lv_icmp_gt (tgt := 14) hx hb dX11_within_7 (by decide) (fun hc7 => ?_) (fun hc7 => ?_)
    · rw [if_pos hc7] at hf
      refine lv_iconst (v := (0 : Int32)) hx hb dX11_within_14 (by decide) ?_
      have hq := Option.some.inj hf
      subst hq
      exact W.zret (v := (0 : Int32)) hx hb hr rfl (fun t ht hW => ⟨rfl, ht⟩) (fun q h => by cases h) dX11_within_15
    · rw [if_neg hc7] at hf
      refine lv_iconst (v := (1 : Int32)) hx hb dX11_within_10 (by decide) ?_
      refine lv_goto (tgt := 15) hx hb dX11_within_11 (by decide) ?_
      have hq := Option.some.inj hf
      subst hq
      exact W.zret (v := (1 : Int32)) hx hb hr rfl (fun t ht hW => ⟨rfl, ht⟩) (fun q h => by cases h) dX11_within_15
set_option maxHeartbeats 4000000 in
set_option maxRecDepth 100000 in
theorem c_X3_putLine (l : Launch) (dC : Nat → ClassId) (dI : Nat → Nat → Nat) (cyB cyI cyZ cyO : ClassId) (h h_action h_amount h_tests h_negated h_subject h_sign h_limit : Nat) (sz : Nat) (M_h : Mem) (p1 : Int32) (p2 : Int32) (p3 : Int32) (p4 : Int32) (R_h : Mem) (hf : f_X3_putLine M_h p1 p2 p3 p4 = some R_h) : Met l yX3_putLine wsX3_putLine ({ frames := 1, cells := 0, slots := 0, locals := 30 } : Room) (PW dC dI cyB cyI cyZ cyO ([.ref h, .int p1, .int p2, .int p3, .int p4] : List Value) (wX3 cyB cyI cyZ cyO h h_action h_amount h_tests h_negated h_subject h_sign h_limit M_h) sz) (QW dC dI none (wX3 cyB cyI cyZ cyO h h_action h_amount h_tests h_negated h_subject h_sign h_limit R_h) (va_A (wX3 cyB cyI cyZ cyO h h_action h_amount h_tests h_negated h_subject h_sign h_limit M_h) sz)) 0 0 (va_A (wX3 cyB cyI cyZ cyO h h_action h_amount h_tests h_negated h_subject h_sign h_limit M_h) sz) := by
  refine Met.ofW (cc := cX3_putLine) (maxL := 5) (ret := none) (by decide) rfl ?_
  intro p e s m args below meth c s₁ B hml hv
  obtain ⟨rfl, hsz, hP, hCx, hD0⟩ := hv
  have hK := hCx.1
  have hN := hCx.2
  have hx := B.exec
  have hb := B.bytes
  have hr := B.returns
  have hts := atoms_spec (ws := wsX3_putLine) B.pre
  have hown : s.vm.findClass RX3 = some m.cls := findClass_of_methodNamed B.named
  have hlocks := B.notSynchronized
  have hin3 : ∀ w ∈ u_ws RX3 TX3 8, w ∈ wsX3_putLine := fun w h => List.mem_cons_of_mem _ (List.mem_append_right _ h)
  have kf9 := hts (.fieldLink RX3 9 "HoldSlips$Decree" "lines" "I") (by decide +kernel)
  have kf15 := hts (.fieldLink RX3 15 "HoldSlips$Decree" "action" "[I") (by decide +kernel)
  have kf19 := hts (.fieldLink RX3 19 "HoldSlips$Decree" "amount" "[I") (by decide +kernel)
  have kf22 := hts (.fieldLink RX3 22 "HoldSlips$Decree" "tests" "[I") (by decide +kernel)
  subst hsz
  have hD := hD0.self (sz := s.heap.size)
  generalize hAe : va_A (wX3 cyB cyI cyZ cyO h h_action h_amount h_tests h_negated h_subject h_sign h_limit M_h) s.heap.size = A at hD ⊢
  have hA : ∀ q : Nat, s.heap.size ≤ q → A q := fun q h => by rw [← hAe]; exact Or.inr h
  have hS : va_S A s.heap s.heap [] := va_S.rf
  have hl := lv_entry ([.ref h, .int p1, .int p2, .int p3, .int p4] : List Value) (n := 5) (Nat.le_of_ble_eq_true rfl)
  rw [lg_entry_eq]
  generalize (lg_sl ([.ref h, .int p1, .int p2, .int p3, .int p4] : List Value) ++ List.replicate (5 - (lg_sl ([.ref h, .int p1, .int p2, .int p3, .int p4] : List Value)).length) Slot.unset).toArray = ls at hl ⊢
  have hl : lv_has ls 5 [(0, .ref h), (1, .int p1), (2, .int p2), (3, .int p3), (4, .int p4)] := hl
  rw [f_X3_putLine] at hf
  refine lv_iload_n hx hb dX3_putLine_0 rfl (lv_at hl 1 rfl) ?_
  refine lv_if_lt (tgt := 43) hx hb dX3_putLine_1 (by decide) (fun hc1 => ?_) (fun hc1 => ?_)
  · rw [if_pos hc1] at hf
    have hq := Option.some.inj hf
    subst hq
    exact W.vret hx hb hr (fun t ht hW => ⟨rfl, by rw [ht]; exact hP, hD, hS.F ht⟩) hS.2.2 dX3_putLine_43
  · rw [if_neg hc1] at hf
    refine lv_iload_n hx hb dX3_putLine_4 rfl (lv_at hl 1 rfl) ?_
    refine lv_bipush (v := (16 : Int32)) hx hb dX3_putLine_5 (by decide) ?_
    refine lv_icmp_ge (tgt := 43) hx hb dX3_putLine_7 (by decide) (fun hc7 => ?_) (fun hc7 => ?_)
    · rw [if_pos hc7] at hf
      have hq := Option.some.inj hf
      subst hq
      exact W.vret hx hb hr (fun t ht hW => ⟨rfl, by rw [ht]; exact hP, hD, hS.F ht⟩) hS.2.2 dX3_putLine_43
    · rw [if_neg hc7] at hf
      refine lv_aload_n hx hb dX3_putLine_10 rfl (lv_at hl 0 rfl) ?_
      refine va_get (D := (dC, dI)) (ci := 3) (v := .ref h_action) (C := RX3) (T := TX3) (N := 8) hx hb hts hin3 hown hK hP 0 rfl rfl 1 (by decide) kf15 (fun _ h9 => h9) rfl dX3_putLine_11 ?_
      refine lv_iload_n hx hb dX3_putLine_14 rfl (lv_at hl 1 rfl) ?_
      refine lv_iload_n hx hb dX3_putLine_15 rfl (lv_at hl 2 rfl) ?_
      have hi16 := if_no hf
      rw [if_neg hi16] at hf
      refine va_iast hx hb hK hP hD hS 1 1 rfl rfl hi16 dX3_putLine_16 (fun H locs hP hD hS => ?_)
      obtain ⟨M_h_16, eM_h_16, hf⟩ := wr_some hf
      have hP : va_P (dC, dI) vwCl (wX3 cyB cyI cyZ cyO h h_action h_amount h_tests h_negated h_subject h_sign h_limit M_h_16) H := by rw [eM_h_16]; exact hP
      have hD : va_D A (wX3 cyB cyI cyZ cyO h h_action h_amount h_tests h_negated h_subject h_sign h_limit M_h_16) := by rw [eM_h_16]; exact hD
      refine lv_aload_n hx hb dX3_putLine_17 rfl (lv_at hl 0 rfl) ?_
      refine va_get (D := (dC, dI)) (ci := 3) (v := .ref h_amount) (C := RX3) (T := TX3) (N := 8) hx hb hts hin3 hown hK hP 0 rfl rfl 2 (by decide) kf19 (fun _ h9 => h9) rfl dX3_putLine_18 ?_
      refine lv_iload_n hx hb dX3_putLine_21 rfl (lv_at hl 1 rfl) ?_
      refine lv_iload_n hx hb dX3_putLine_22 rfl (lv_at hl 3 rfl) ?_
      refine va_iast hx hb hK hP hD hS 2 1 rfl rfl hi16 dX3_putLine_23 (fun H locs hP hD hS => ?_)
      obtain ⟨M_h_23, eM_h_23, hf⟩ := wr_some hf
      have hP : va_P (dC, dI) vwCl (wX3 cyB cyI cyZ cyO h h_action h_amount h_tests h_negated h_subject h_sign h_limit M_h_23) H := by rw [eM_h_23]; exact hP
      have hD : va_D A (wX3 cyB cyI cyZ cyO h h_action h_amount h_tests h_negated h_subject h_sign h_limit M_h_23) := by rw [eM_h_23]; exact hD
      refine lv_aload_n hx hb dX3_putLine_24 rfl (lv_at hl 0 rfl) ?_
      refine va_get (D := (dC, dI)) (ci := 3) (v := .ref h_tests) (C := RX3) (T := TX3) (N := 8) hx hb hts hin3 hown hK hP 0 rfl rfl 3 (by decide) kf22 (fun _ h9 => h9) rfl dX3_putLine_25 ?_
      refine lv_iload_n hx hb dX3_putLine_28 rfl (lv_at hl 1 rfl) ?_
      refine lv_iload hx hb dX3_putLine_29 (lv_at hl 4 rfl) ?_
      refine lv_iconst (v := (4 : Int32)) hx hb dX3_putLine_31 (by decide) ?_
      refine va_mmin hx hb (hml.trans hl.1.symm) hown (hts (.methodLink RX3 41 Lib.Math.min.name) (by decide +kernel)) (hts (.static Lib.Math.min.name) (by decide +kernel)) (hts (.initialized "java/lang/Math") (by decide +kernel)) (hts (.code Lib.Math.min.name Lib.Math.min.code 2 (some .int)) (by decide +kernel)) (Nat.le_of_ble_eq_true rfl) (Nat.le_of_ble_eq_true rfl) (Nat.zero_le _) (Nat.zero_le _) dX3_putLine_32 ?_
      refine va_iast hx hb hK hP hD hS 3 1 rfl rfl hi16 dX3_putLine_35 (fun H locs hP hD hS => ?_)
      obtain ⟨M_h_35, eM_h_35, hf⟩ := wr_some hf
      have hP : va_P (dC, dI) vwCl (wX3 cyB cyI cyZ cyO h h_action h_amount h_tests h_negated h_subject h_sign h_limit M_h_35) H := by rw [eM_h_35]; exact hP
      have hD : va_D A (wX3 cyB cyI cyZ cyO h h_action h_amount h_tests h_negated h_subject h_sign h_limit M_h_35) := by rw [eM_h_35]; exact hD
      refine lv_aload_n hx hb dX3_putLine_36 rfl (lv_at hl 0 rfl) ?_
      refine lv_iload_n hx hb dX3_putLine_37 rfl (lv_at hl 1 rfl) ?_
      refine lv_iconst (v := (1 : Int32)) hx hb dX3_putLine_38 (by decide) ?_
      refine lv_iadd hx hb dX3_putLine_39 ?_
      refine va_put (D := (dC, dI)) (ci := 3) (v := .int (p1 + (1 : Int32))) (ty := .int) (C := RX3) (T := TX3) (N := 8) hx hb hts hin3 tyX3 tyX3_ok nmX3 hown hK hP hD hS 0 rfl rfl 0 (by decide) kf9 (fun _ h9 => h9) rfl (by decide +kernel) rfl rfl (Nat.le_of_ble_eq_true rfl) dX3_putLine_40 (fun H locs hP hD hS => ?_)
      obtain ⟨M_h_40, eM_h_40, hf⟩ := wr_some hf
      have hP : va_P (dC, dI) vwCl (wX3 cyB cyI cyZ cyO h h_action h_amount h_tests h_negated h_subject h_sign h_limit M_h_40) H := by rw [eM_h_40]; exact hP
      have hD : va_D A (wX3 cyB cyI cyZ cyO h h_action h_amount h_tests h_negated h_subject h_sign h_limit M_h_40) := by rw [eM_h_40]; exact hD
      have hq := Option.some.inj hf
      subst hq
      exact W.vret hx hb hr (fun t ht hW => ⟨rfl, by rw [ht]; exact hP, hD, hS.F ht⟩) hS.2.2 dX3_putLine_43
set_option maxHeartbeats 4000000 in
set_option maxRecDepth 100000 in
theorem c_X3_putTest (l : Launch) (dC : Nat → ClassId) (dI : Nat → Nat → Nat) (cyB cyI cyZ cyO : ClassId) (h h_action h_amount h_tests h_negated h_subject h_sign h_limit : Nat) (sz : Nat) (M_h : Mem) (p1 : Int32) (p2 : Int32) (p3 : Int32) (p4 : Int32) (p5 : Int32) (p6 : Int32) (R_h : Mem) (hf : f_X3_putTest M_h p1 p2 p3 p4 p5 p6 = some R_h) : Met l yX3_putTest wsX3_putTest ({ frames := 0, cells := 0, slots := 0, locals := 0 } : Room) (PW dC dI cyB cyI cyZ cyO ([.ref h, .int p1, .int p2, .int p3, .int p4, .int p5, .int p6] : List Value) (wX3 cyB cyI cyZ cyO h h_action h_amount h_tests h_negated h_subject h_sign h_limit M_h) sz) (QW dC dI none (wX3 cyB cyI cyZ cyO h h_action h_amount h_tests h_negated h_subject h_sign h_limit R_h) (va_A (wX3 cyB cyI cyZ cyO h h_action h_amount h_tests h_negated h_subject h_sign h_limit M_h) sz)) 0 0 (va_A (wX3 cyB cyI cyZ cyO h h_action h_amount h_tests h_negated h_subject h_sign h_limit M_h) sz) := by
  refine Met.ofW (cc := cX3_putTest) (maxL := 8) (ret := none) (by decide) rfl ?_
  intro p e s m args below meth c s₁ B hml hv
  obtain ⟨rfl, hsz, hP, hCx, hD0⟩ := hv
  have hK := hCx.1
  have hN := hCx.2
  have hx := B.exec
  have hb := B.bytes
  have hr := B.returns
  have hts := atoms_spec (ws := wsX3_putTest) B.pre
  have hown : s.vm.findClass RX3 = some m.cls := findClass_of_methodNamed B.named
  have hlocks := B.notSynchronized
  have hin3 : ∀ w ∈ u_ws RX3 TX3 8, w ∈ wsX3_putTest := fun w h => List.mem_cons_of_mem _ (List.mem_append_right _ h)
  have kf25 := hts (.fieldLink RX3 25 "HoldSlips$Decree" "negated" "[I") (by decide +kernel)
  have kf28 := hts (.fieldLink RX3 28 "HoldSlips$Decree" "subject" "[I") (by decide +kernel)
  have kf31 := hts (.fieldLink RX3 31 "HoldSlips$Decree" "sign" "[I") (by decide +kernel)
  have kf34 := hts (.fieldLink RX3 34 "HoldSlips$Decree" "limit" "[I") (by decide +kernel)
  subst hsz
  have hD := hD0.self (sz := s.heap.size)
  generalize hAe : va_A (wX3 cyB cyI cyZ cyO h h_action h_amount h_tests h_negated h_subject h_sign h_limit M_h) s.heap.size = A at hD ⊢
  have hA : ∀ q : Nat, s.heap.size ≤ q → A q := fun q h => by rw [← hAe]; exact Or.inr h
  have hS : va_S A s.heap s.heap [] := va_S.rf
  have hl := lv_entry ([.ref h, .int p1, .int p2, .int p3, .int p4, .int p5, .int p6] : List Value) (n := 8) (Nat.le_of_ble_eq_true rfl)
  rw [lg_entry_eq]
  generalize (lg_sl ([.ref h, .int p1, .int p2, .int p3, .int p4, .int p5, .int p6] : List Value) ++ List.replicate (8 - (lg_sl ([.ref h, .int p1, .int p2, .int p3, .int p4, .int p5, .int p6] : List Value)).length) Slot.unset).toArray = ls at hl ⊢
  have hl : lv_has ls 8 [(0, .ref h), (1, .int p1), (2, .int p2), (3, .int p3), (4, .int p4), (5, .int p5), (6, .int p6)] := hl
  have L41 : ∀ (M_h : Mem) (x4 : Int32) (x5 : Int32) (x6 : Int32) (x7 : Int32) (s0 : Int32) (s1 : Int32) (H : Heap) (locs : List Loc) (ls : Array Slot), f_X3_putTest_L41 M_h x4 x5 x6 x7 s0 s1 = some R_h → va_P (dC, dI) vwCl (wX3 cyB cyI cyZ cyO h h_action h_amount h_tests h_negated h_subject h_sign h_limit M_h) H → va_D A (wX3 cyB cyI cyZ cyO h h_action h_amount h_tests h_negated h_subject h_sign h_limit M_h) → va_S A s.heap H locs → lv_has ls 8 [(0, .ref h), (4, .int x4), (5, .int x5), (6, .int x6), (7, .int x7)] → W p l e (headSpec wsX3_putTest ({ frames := 0, cells := 0, slots := 0, locals := 0 } : Room)).room s m ([.ref h, .int p1, .int p2, .int p3, .int p4, .int p5, .int p6] : List Value).toArray below meth c H locs 0 0 (MQ below (QW dC dI none (wX3 cyB cyI cyZ cyO h h_action h_amount h_tests h_negated h_subject h_sign h_limit R_h) A) ([.ref h, .int p1, .int p2, .int p3, .int p4, .int p5, .int p6] : List Value).toArray s 0 0 A) (F0 m 41 ls [.int s0, .int s1, .ref h_negated]) := by
    intro  M_h x4 x5 x6 x7 s0 s1 H locs ls hf hP hD hS hl
    rw [f_X3_putTest_L41] at hf
    have hi41 := if_no hf
    rw [if_neg hi41] at hf
    refine va_iast hx hb hK hP hD hS 4 1 rfl rfl hi41 dX3_putTest_41 (fun H locs hP hD hS => ?_)
    obtain ⟨M_h_41, eM_h_41, hf⟩ := wr_some hf
    have hP : va_P (dC, dI) vwCl (wX3 cyB cyI cyZ cyO h h_action h_amount h_tests h_negated h_subject h_sign h_limit M_h_41) H := by rw [eM_h_41]; exact hP
    have hD : va_D A (wX3 cyB cyI cyZ cyO h h_action h_amount h_tests h_negated h_subject h_sign h_limit M_h_41) := by rw [eM_h_41]; exact hD
    refine lv_aload_n hx hb dX3_putTest_42 rfl (lv_at hl 0 rfl) ?_
    refine va_get (D := (dC, dI)) (ci := 3) (v := .ref h_subject) (C := RX3) (T := TX3) (N := 8) hx hb hts hin3 hown hK hP 0 rfl rfl 5 (by decide) kf28 (fun _ h9 => h9) rfl dX3_putTest_43 ?_
    refine lv_iload hx hb dX3_putTest_46 (lv_at hl 4 rfl) ?_
    refine lv_iload hx hb dX3_putTest_48 (lv_at hl 1 rfl) ?_
    have hi50 := if_no hf
    rw [if_neg hi50] at hf
    refine va_iast hx hb hK hP hD hS 5 1 rfl rfl hi50 dX3_putTest_50 (fun H locs hP hD hS => ?_)
    obtain ⟨M_h_50, eM_h_50, hf⟩ := wr_some hf
    have hP : va_P (dC, dI) vwCl (wX3 cyB cyI cyZ cyO h h_action h_amount h_tests h_negated h_subject h_sign h_limit M_h_50) H := by rw [eM_h_50]; exact hP
    have hD : va_D A (wX3 cyB cyI cyZ cyO h h_action h_amount h_tests h_negated h_subject h_sign h_limit M_h_50) := by rw [eM_h_50]; exact hD
    refine lv_aload_n hx hb dX3_putTest_51 rfl (lv_at hl 0 rfl) ?_
    refine va_get (D := (dC, dI)) (ci := 3) (v := .ref h_sign) (C := RX3) (T := TX3) (N := 8) hx hb hts hin3 hown hK hP 0 rfl rfl 6 (by decide) kf31 (fun _ h9 => h9) rfl dX3_putTest_52 ?_
    refine lv_iload hx hb dX3_putTest_55 (lv_at hl 4 rfl) ?_
    refine lv_iload hx hb dX3_putTest_57 (lv_at hl 2 rfl) ?_
    refine va_iast hx hb hK hP hD hS 6 1 rfl rfl hi50 dX3_putTest_59 (fun H locs hP hD hS => ?_)
    obtain ⟨M_h_59, eM_h_59, hf⟩ := wr_some hf
    have hP : va_P (dC, dI) vwCl (wX3 cyB cyI cyZ cyO h h_action h_amount h_tests h_negated h_subject h_sign h_limit M_h_59) H := by rw [eM_h_59]; exact hP
    have hD : va_D A (wX3 cyB cyI cyZ cyO h h_action h_amount h_tests h_negated h_subject h_sign h_limit M_h_59) := by rw [eM_h_59]; exact hD
    refine lv_aload_n hx hb dX3_putTest_60 rfl (lv_at hl 0 rfl) ?_
    refine va_get (D := (dC, dI)) (ci := 3) (v := .ref h_limit) (C := RX3) (T := TX3) (N := 8) hx hb hts hin3 hown hK hP 0 rfl rfl 7 (by decide) kf34 (fun _ h9 => h9) rfl dX3_putTest_61 ?_
    refine lv_iload hx hb dX3_putTest_64 (lv_at hl 4 rfl) ?_
    refine lv_iload hx hb dX3_putTest_66 (lv_at hl 3 rfl) ?_
    refine va_iast hx hb hK hP hD hS 7 1 rfl rfl hi50 dX3_putTest_68 (fun H locs hP hD hS => ?_)
    obtain ⟨M_h_68, eM_h_68, hf⟩ := wr_some hf
    have hP : va_P (dC, dI) vwCl (wX3 cyB cyI cyZ cyO h h_action h_amount h_tests h_negated h_subject h_sign h_limit M_h_68) H := by rw [eM_h_68]; exact hP
    have hD : va_D A (wX3 cyB cyI cyZ cyO h h_action h_amount h_tests h_negated h_subject h_sign h_limit M_h_68) := by rw [eM_h_68]; exact hD
    have hq := Option.some.inj hf
    subst hq
    exact W.vret hx hb hr (fun t ht hW => ⟨rfl, by rw [ht]; exact hP, hD, hS.F ht⟩) hS.2.2 dX3_putTest_69
  rw [f_X3_putTest] at hf
  refine lv_iload_n hx hb dX3_putTest_0 rfl (lv_at hl 1 rfl) ?_
  refine lv_if_lt (tgt := 69) hx hb dX3_putTest_1 (by decide) (fun hc1 => ?_) (fun hc1 => ?_)
  · rw [if_pos hc1] at hf
    have hq := Option.some.inj hf
    subst hq
    exact W.vret hx hb hr (fun t ht hW => ⟨rfl, by rw [ht]; exact hP, hD, hS.F ht⟩) hS.2.2 dX3_putTest_69
  · rw [if_neg hc1] at hf
    refine lv_iload_n hx hb dX3_putTest_4 rfl (lv_at hl 1 rfl) ?_
    refine lv_bipush (v := (16 : Int32)) hx hb dX3_putTest_5 (by decide) ?_
    refine lv_icmp_ge (tgt := 69) hx hb dX3_putTest_7 (by decide) (fun hc7 => ?_) (fun hc7 => ?_)
    · rw [if_pos hc7] at hf
      have hq := Option.some.inj hf
      subst hq
      exact W.vret hx hb hr (fun t ht hW => ⟨rfl, by rw [ht]; exact hP, hD, hS.F ht⟩) hS.2.2 dX3_putTest_69
    · rw [if_neg hc7] at hf
      refine lv_iload_n hx hb dX3_putTest_10 rfl (lv_at hl 2 rfl) ?_
      refine lv_if_lt (tgt := 69) hx hb dX3_putTest_11 (by decide) (fun hc11 => ?_) (fun hc11 => ?_)
      · rw [if_pos hc11] at hf
        have hq := Option.some.inj hf
        subst hq
        exact W.vret hx hb hr (fun t ht hW => ⟨rfl, by rw [ht]; exact hP, hD, hS.F ht⟩) hS.2.2 dX3_putTest_69
      · rw [if_neg hc11] at hf
        refine lv_iload_n hx hb dX3_putTest_14 rfl (lv_at hl 2 rfl) ?_
        refine lv_iconst (v := (4 : Int32)) hx hb dX3_putTest_15 (by decide) ?_
        refine lv_icmp_ge (tgt := 69) hx hb dX3_putTest_16 (by decide) (fun hc16 => ?_) (fun hc16 => ?_)
        · rw [if_pos hc16] at hf
          have hq := Option.some.inj hf
          subst hq
          exact W.vret hx hb hr (fun t ht hW => ⟨rfl, by rw [ht]; exact hP, hD, hS.F ht⟩) hS.2.2 dX3_putTest_69
        · rw [if_neg hc16] at hf
          refine lv_iload_n hx hb dX3_putTest_19 rfl (lv_at hl 1 rfl) ?_
          refine lv_iconst (v := (4 : Int32)) hx hb dX3_putTest_20 (by decide) ?_
          refine lv_imul hx hb dX3_putTest_21 ?_
          refine lv_iload_n hx hb dX3_putTest_22 rfl (lv_at hl 2 rfl) ?_
          refine lv_iadd hx hb dX3_putTest_23 ?_
          refine lv_istore (lv' := [(7, .int ((p1 * (4 : Int32)) + p2)), (0, .ref h), (1, .int p1), (2, .int p2), (3, .int p3), (4, .int p4), (5, .int p5), (6, .int p6)]) hx hb dX3_putTest_24 hl (by decide) rfl (fun ls hl => ?_)
          refine lv_aload_n hx hb dX3_putTest_26 rfl (lv_at hl 1 rfl) ?_
          refine va_get (D := (dC, dI)) (ci := 3) (v := .ref h_negated) (C := RX3) (T := TX3) (N := 8) hx hb hts hin3 hown hK hP 0 rfl rfl 4 (by decide) kf25 (fun _ h9 => h9) rfl dX3_putTest_27 ?_
          refine lv_iload hx hb dX3_putTest_30 (lv_at hl 0 rfl) ?_
          refine lv_iload_n hx hb dX3_putTest_32 rfl (lv_at hl 4 rfl) ?_
          refine lv_if_eq (tgt := 40) hx hb dX3_putTest_33 (by decide) (fun hc33 => ?_) (fun hc33 => ?_)
          · rw [if_pos hc33] at hf
            refine lv_iconst (v := (0 : Int32)) hx hb dX3_putTest_40 (by decide) ?_
            exact L41 M_h p4 p5 p6 ((p1 * (4 : Int32)) + p2) (0 : Int32) ((p1 * (4 : Int32)) + p2) _ _ ls hf hP hD hS (lv_sub hl [1, 5, 6, 7, 0] rfl)
          · rw [if_neg hc33] at hf
            refine lv_iconst (v := (1 : Int32)) hx hb dX3_putTest_36 (by decide) ?_
            refine lv_goto (tgt := 41) hx hb dX3_putTest_37 (by decide) ?_
            exact L41 M_h p4 p5 p6 ((p1 * (4 : Int32)) + p2) (1 : Int32) ((p1 * (4 : Int32)) + p2) _ _ ls hf hP hD hS (lv_sub hl [1, 5, 6, 7, 0] rfl)
set_option maxHeartbeats 4000000 in
set_option maxRecDepth 100000 in
theorem c_X8_copyFrom (l : Launch) (dC : Nat → ClassId) (dI : Nat → Nat → Nat) (cyB cyI cyZ cyO : ClassId) (a1 a1_bytes h h_bytes : Nat) (sz : Nat) (M_a1 : Mem) (M_h : Mem) (R_h : Mem) (hf : f_X8_copyFrom M_a1 M_h = some R_h) : Met l yX8_copyFrom wsX8_copyFrom ({ frames := 1, cells := 0, slots := 0, locals := 60 } : Room) (PW dC dI cyB cyI cyZ cyO ([.ref h, .ref a1] : List Value) ((wX8 cyB cyI cyZ cyO a1 a1_bytes M_a1) ++ (wX8 cyB cyI cyZ cyO h h_bytes M_h)) sz) (QW dC dI none ((wX8 cyB cyI cyZ cyO a1 a1_bytes M_a1) ++ (wX8 cyB cyI cyZ cyO h h_bytes R_h)) (va_A ((wX8 cyB cyI cyZ cyO a1 a1_bytes M_a1) ++ (wX8 cyB cyI cyZ cyO h h_bytes M_h)) sz)) 0 0 (va_A ((wX8 cyB cyI cyZ cyO a1 a1_bytes M_a1) ++ (wX8 cyB cyI cyZ cyO h h_bytes M_h)) sz) := by
  refine Met.ofW (cc := cX8_copyFrom) (maxL := 2) (ret := none) (by decide) rfl ?_
  intro p e s m args below meth c s₁ B hml hv
  obtain ⟨rfl, hsz, hP, hCx, hD0⟩ := hv
  have hK := hCx.1
  have hN := hCx.2
  have hx := B.exec
  have hb := B.bytes
  have hr := B.returns
  have hts := atoms_spec (ws := wsX8_copyFrom) B.pre
  have hown : s.vm.findClass RX8 = some m.cls := findClass_of_methodNamed B.named
  have hlocks := B.notSynchronized
  have hin8 : ∀ w ∈ u_ws RX8 TX8 2, w ∈ wsX8_copyFrom := fun w h => List.mem_cons_of_mem _ (List.mem_append_right _ h)
  have kf9 := hts (.fieldLink RX8 9 "HoldSlips$Tape" "bytes" "[B") (by decide +kernel)
  have kf15 := hts (.fieldLink RX8 15 "HoldSlips$Tape" "length" "I") (by decide +kernel)
  subst hsz
  have hD := hD0.self (sz := s.heap.size)
  generalize hAe : va_A ((wX8 cyB cyI cyZ cyO a1 a1_bytes M_a1) ++ (wX8 cyB cyI cyZ cyO h h_bytes M_h)) s.heap.size = A at hD ⊢
  have hA : ∀ q : Nat, s.heap.size ≤ q → A q := fun q h => by rw [← hAe]; exact Or.inr h
  have hS : va_S A s.heap s.heap [] := va_S.rf
  have hl := lv_entry ([.ref h, .ref a1] : List Value) (n := 2) (Nat.le_of_ble_eq_true rfl)
  rw [lg_entry_eq]
  generalize (lg_sl ([.ref h, .ref a1] : List Value) ++ List.replicate (2 - (lg_sl ([.ref h, .ref a1] : List Value)).length) Slot.unset).toArray = ls at hl ⊢
  have hl : lv_has ls 2 [(0, .ref h), (1, .ref a1)] := hl
  rw [f_X8_copyFrom] at hf
  refine lv_aload_n hx hb dX8_copyFrom_0 rfl (lv_at hl 0 rfl) ?_
  refine lv_aload_n hx hb dX8_copyFrom_1 rfl (lv_at hl 1 rfl) ?_
  refine va_get (D := (dC, dI)) (ci := 8) (v := .int (M_a1 1 0)) (C := RX8) (T := TX8) (N := 2) hx hb hts hin8 hown hK hP 0 rfl rfl 1 (by decide) kf15 (fun _ h9 => h9) rfl dX8_copyFrom_2 ?_
  refine va_put (D := (dC, dI)) (ci := 8) (v := .int (M_a1 1 0)) (ty := .int) (C := RX8) (T := TX8) (N := 2) hx hb hts hin8 tyX8 tyX8_ok nmX8 hown hK hP hD hS 2 rfl rfl 1 (by decide) kf15 (fun _ h9 => h9) rfl (by decide +kernel) rfl rfl (Nat.le_of_ble_eq_true rfl) dX8_copyFrom_5 (fun H locs hP hD hS => ?_)
  obtain ⟨M_h_5, eM_h_5, hf⟩ := wr_some hf
  have hP : va_P (dC, dI) vwCl ((wX8 cyB cyI cyZ cyO a1 a1_bytes M_a1) ++ (wX8 cyB cyI cyZ cyO h h_bytes M_h_5)) H := by rw [eM_h_5]; exact hP
  have hD : va_D A ((wX8 cyB cyI cyZ cyO a1 a1_bytes M_a1) ++ (wX8 cyB cyI cyZ cyO h h_bytes M_h_5)) := by rw [eM_h_5]; exact hD
  refine lv_aload_n hx hb dX8_copyFrom_8 rfl (lv_at hl 1 rfl) ?_
  refine va_get (D := (dC, dI)) (ci := 8) (v := .ref a1_bytes) (C := RX8) (T := TX8) (N := 2) hx hb hts hin8 hown hK hP 0 rfl rfl 0 (by decide) kf9 (fun _ h9 => h9) rfl dX8_copyFrom_9 ?_
  refine lv_iconst (v := (0 : Int32)) hx hb dX8_copyFrom_12 (by decide) ?_
  refine lv_aload_n hx hb dX8_copyFrom_13 rfl (lv_at hl 0 rfl) ?_
  refine va_get (D := (dC, dI)) (ci := 8) (v := .ref h_bytes) (C := RX8) (T := TX8) (N := 2) hx hb hts hin8 hown hK hP 2 rfl rfl 0 (by decide) kf9 (fun _ h9 => h9) rfl dX8_copyFrom_14 ?_
  refine lv_iconst (v := (0 : Int32)) hx hb dX8_copyFrom_17 (by decide) ?_
  refine lv_sipush (v := (400 : Int32)) hx hb dX8_copyFrom_18 (by decide) ?_
  have hfit21 := Decidable.not_not.mp (if_no hf)
  rw [if_neg (not_not_intro hfit21)] at hf
  refine va_copyi hx hb (hml.trans hl.1.symm) hown (hts (.methodLink RX8 19 arraycopyName) (by decide +kernel)) (hts (.native arraycopyName) (by decide +kernel)) (hts (.static arraycopyName) (by decide +kernel)) (hts (.initialized "java/lang/System") (by decide +kernel)) hK hP hD hS 1 3 0 0 rfl rfl rfl rfl rfl (by decide) (by decide) (by decide) (by decide) (by decide) (fun i hi => (by have := List.all_eq_true.mp hfit21 i (List.mem_range.mpr hi); simpa using this)) (Nat.le_of_ble_eq_true rfl) (Nat.le_of_ble_eq_true rfl) dX8_copyFrom_21 (fun H locs hP hD hS => ?_)
  obtain ⟨M_h_21, eM_h_21, hf⟩ := wr_some hf
  have hP : va_P (dC, dI) vwCl ((wX8 cyB cyI cyZ cyO a1 a1_bytes M_a1) ++ (wX8 cyB cyI cyZ cyO h h_bytes M_h_21)) H := by rw [eM_h_21]; exact hP
  have hD : va_D A ((wX8 cyB cyI cyZ cyO a1 a1_bytes M_a1) ++ (wX8 cyB cyI cyZ cyO h h_bytes M_h_21)) := by rw [eM_h_21]; exact hD
  have hq := Option.some.inj hf
  subst hq
  exact W.vret hx hb hr (fun t ht hW => ⟨rfl, by rw [ht]; exact hP, hD, hS.F ht⟩) hS.2.2 dX8_copyFrom_24
set_option maxHeartbeats 4000000 in
set_option maxRecDepth 100000 in
theorem c_X2_enter (l : Launch) (dC : Nat → ClassId) (dI : Nat → Nat → Nat) (cyB cyI cyZ cyO : ClassId) (h h_rank h_widow h_slips h_given h_silver h_returns h_rents h_share h_rest : Nat) (sz : Nat) (M_h : Mem) (p1 : Int32) (p2 : Int32) (r : Int32) (R_h : Mem) (hf : f_X2_enter M_h p1 p2 = some (r, R_h)) : Met l yX2_enter wsX2_enter ({ frames := 0, cells := 0, slots := 0, locals := 0 } : Room) (PW dC dI cyB cyI cyZ cyO ([.ref h, .int p1, .int p2] : List Value) (wX2 cyB cyI cyZ cyO h h_rank h_widow h_slips h_given h_silver h_returns h_rents h_share h_rest M_h) sz) (QW dC dI (some (.int r)) (wX2 cyB cyI cyZ cyO h h_rank h_widow h_slips h_given h_silver h_returns h_rents h_share h_rest R_h) (va_A (wX2 cyB cyI cyZ cyO h h_rank h_widow h_slips h_given h_silver h_returns h_rents h_share h_rest M_h) sz)) 0 0 (va_A (wX2 cyB cyI cyZ cyO h h_rank h_widow h_slips h_given h_silver h_returns h_rents h_share h_rest M_h) sz) := by
  refine Met.ofW (cc := cX2_enter) (maxL := 3) (ret := (some .int)) (by decide) rfl ?_
  intro p e s m args below meth c s₁ B hml hv
  obtain ⟨rfl, hsz, hP, hCx, hD0⟩ := hv
  have hK := hCx.1
  have hN := hCx.2
  have hx := B.exec
  have hb := B.bytes
  have hr := B.returns
  have hts := atoms_spec (ws := wsX2_enter) B.pre
  have hown : s.vm.findClass RX2 = some m.cls := findClass_of_methodNamed B.named
  have hlocks := B.notSynchronized
  have hin2 : ∀ w ∈ u_ws RX2 TX2 10, w ∈ wsX2_enter := fun w h => List.mem_cons_of_mem _ (List.mem_append_right _ h)
  have kf9 := hts (.fieldLink RX2 9 "HoldSlips$Citizens" "number" "I") (by decide +kernel)
  have kf15 := hts (.fieldLink RX2 15 "HoldSlips$Citizens" "rank" "[I") (by decide +kernel)
  have kf19 := hts (.fieldLink RX2 19 "HoldSlips$Citizens" "widow" "[I") (by decide +kernel)
  subst hsz
  have hD := hD0.self (sz := s.heap.size)
  generalize hAe : va_A (wX2 cyB cyI cyZ cyO h h_rank h_widow h_slips h_given h_silver h_returns h_rents h_share h_rest M_h) s.heap.size = A at hD ⊢
  have hA : ∀ q : Nat, s.heap.size ≤ q → A q := fun q h => by rw [← hAe]; exact Or.inr h
  have hS : va_S A s.heap s.heap [] := va_S.rf
  have hl := lv_entry ([.ref h, .int p1, .int p2] : List Value) (n := 3) (Nat.le_of_ble_eq_true rfl)
  rw [lg_entry_eq]
  generalize (lg_sl ([.ref h, .int p1, .int p2] : List Value) ++ List.replicate (3 - (lg_sl ([.ref h, .int p1, .int p2] : List Value)).length) Slot.unset).toArray = ls at hl ⊢
  have hl : lv_has ls 3 [(0, .ref h), (1, .int p1), (2, .int p2)] := hl
  have L38 : ∀ (M_h : Mem) (s0 : Int32) (s1 : Int32) (H : Heap) (locs : List Loc) (ls : Array Slot), f_X2_enter_L38 M_h s0 s1 = some (r, R_h) → va_P (dC, dI) vwCl (wX2 cyB cyI cyZ cyO h h_rank h_widow h_slips h_given h_silver h_returns h_rents h_share h_rest M_h) H → va_D A (wX2 cyB cyI cyZ cyO h h_rank h_widow h_slips h_given h_silver h_returns h_rents h_share h_rest M_h) → va_S A s.heap H locs → lv_has ls 3 [(0, .ref h)] → W p l e (headSpec wsX2_enter ({ frames := 0, cells := 0, slots := 0, locals := 0 } : Room)).room s m ([.ref h, .int p1, .int p2] : List Value).toArray below meth c H locs 0 0 (MQ below (QW dC dI (some (.int r)) (wX2 cyB cyI cyZ cyO h h_rank h_widow h_slips h_given h_silver h_returns h_rents h_share h_rest R_h) A) ([.ref h, .int p1, .int p2] : List Value).toArray s 0 0 A) (F0 m 38 ls [.int s0, .int s1, .ref h_widow]) := by
    intro  M_h s0 s1 H locs ls hf hP hD hS hl
    rw [f_X2_enter_L38] at hf
    have hi38 := if_no hf
    rw [if_neg hi38] at hf
    refine va_iast hx hb hK hP hD hS 2 1 rfl rfl hi38 dX2_enter_38 (fun H locs hP hD hS => ?_)
    obtain ⟨M_h_38, eM_h_38, hf⟩ := wr_some hf
    have hP : va_P (dC, dI) vwCl (wX2 cyB cyI cyZ cyO h h_rank h_widow h_slips h_given h_silver h_returns h_rents h_share h_rest M_h_38) H := by rw [eM_h_38]; exact hP
    have hD : va_D A (wX2 cyB cyI cyZ cyO h h_rank h_widow h_slips h_given h_silver h_returns h_rents h_share h_rest M_h_38) := by rw [eM_h_38]; exact hD
    refine lv_aload_n hx hb dX2_enter_39 rfl (lv_at hl 0 rfl) ?_
    refine lv_dup hx hb dX2_enter_40 rfl ?_
    refine va_get (D := (dC, dI)) (ci := 2) (v := .int (M_h_38 0 0)) (C := RX2) (T := TX2) (N := 10) hx hb hts hin2 hown hK hP 0 rfl rfl 0 (by decide) kf9 (fun _ h9 => h9) rfl dX2_enter_41 ?_
    refine lv_iconst (v := (1 : Int32)) hx hb dX2_enter_44 (by decide) ?_
    refine lv_iadd hx hb dX2_enter_45 ?_
    refine va_put (D := (dC, dI)) (ci := 2) (v := .int ((M_h_38 0 0) + (1 : Int32))) (ty := .int) (C := RX2) (T := TX2) (N := 10) hx hb hts hin2 tyX2 tyX2_ok nmX2 hown hK hP hD hS 0 rfl rfl 0 (by decide) kf9 (fun _ h9 => h9) rfl (by decide +kernel) rfl rfl (Nat.le_of_ble_eq_true rfl) dX2_enter_46 (fun H locs hP hD hS => ?_)
    obtain ⟨M_h_46, eM_h_46, hf⟩ := wr_some hf
    have hP : va_P (dC, dI) vwCl (wX2 cyB cyI cyZ cyO h h_rank h_widow h_slips h_given h_silver h_returns h_rents h_share h_rest M_h_46) H := by rw [eM_h_46]; exact hP
    have hD : va_D A (wX2 cyB cyI cyZ cyO h h_rank h_widow h_slips h_given h_silver h_returns h_rents h_share h_rest M_h_46) := by rw [eM_h_46]; exact hD
    refine lv_aload_n hx hb dX2_enter_49 rfl (lv_at hl 0 rfl) ?_
    refine va_get (D := (dC, dI)) (ci := 2) (v := .int (M_h_46 0 0)) (C := RX2) (T := TX2) (N := 10) hx hb hts hin2 hown hK hP 0 rfl rfl 0 (by decide) kf9 (fun _ h9 => h9) rfl dX2_enter_50 ?_
    refine lv_iconst (v := (1 : Int32)) hx hb dX2_enter_53 (by decide) ?_
    refine lv_isub hx hb dX2_enter_54 ?_
    obtain ⟨hq0, hq1⟩ := pj2 hf
    subst hq0
    subst hq1
    exact W.iret (v := ((M_h_46 0 0) - (1 : Int32))) hx hb hr (fun t ht hW => ⟨rfl, by rw [ht]; exact hP, hD, hS.F ht⟩) hS.2.2 dX2_enter_55
  rw [f_X2_enter] at hf
  refine lv_aload_n hx hb dX2_enter_0 rfl (lv_at hl 0 rfl) ?_
  refine va_get (D := (dC, dI)) (ci := 2) (v := .int (M_h 0 0)) (C := RX2) (T := TX2) (N := 10) hx hb hts hin2 hown hK hP 0 rfl rfl 0 (by decide) kf9 (fun _ h9 => h9) rfl dX2_enter_1 ?_
  refine lv_bipush (v := (8 : Int32)) hx hb dX2_enter_4 (by decide) ?_
  refine lv_icmp_lt (tgt := 11) hx hb dX2_enter_6 (by decide) (fun hc6 => ?_) (fun hc6 => ?_)
  · rw [if_pos hc6] at hf
    refine lv_aload_n hx hb dX2_enter_11 rfl (lv_at hl 0 rfl) ?_
    refine va_get (D := (dC, dI)) (ci := 2) (v := .ref h_rank) (C := RX2) (T := TX2) (N := 10) hx hb hts hin2 hown hK hP 0 rfl rfl 1 (by decide) kf15 (fun _ h9 => h9) rfl dX2_enter_12 ?_
    refine lv_aload_n hx hb dX2_enter_15 rfl (lv_at hl 0 rfl) ?_
    refine va_get (D := (dC, dI)) (ci := 2) (v := .int (M_h 0 0)) (C := RX2) (T := TX2) (N := 10) hx hb hts hin2 hown hK hP 0 rfl rfl 0 (by decide) kf9 (fun _ h9 => h9) rfl dX2_enter_16 ?_
    refine lv_iload_n hx hb dX2_enter_19 rfl (lv_at hl 1 rfl) ?_
    have hi20 := if_no hf
    rw [if_neg hi20] at hf
    refine va_iast hx hb hK hP hD hS 1 1 rfl rfl hi20 dX2_enter_20 (fun H locs hP hD hS => ?_)
    obtain ⟨M_h_20, eM_h_20, hf⟩ := wr_some hf
    have hP : va_P (dC, dI) vwCl (wX2 cyB cyI cyZ cyO h h_rank h_widow h_slips h_given h_silver h_returns h_rents h_share h_rest M_h_20) H := by rw [eM_h_20]; exact hP
    have hD : va_D A (wX2 cyB cyI cyZ cyO h h_rank h_widow h_slips h_given h_silver h_returns h_rents h_share h_rest M_h_20) := by rw [eM_h_20]; exact hD
    refine lv_aload_n hx hb dX2_enter_21 rfl (lv_at hl 0 rfl) ?_
    refine va_get (D := (dC, dI)) (ci := 2) (v := .ref h_widow) (C := RX2) (T := TX2) (N := 10) hx hb hts hin2 hown hK hP 0 rfl rfl 2 (by decide) kf19 (fun _ h9 => h9) rfl dX2_enter_22 ?_
    refine lv_aload_n hx hb dX2_enter_25 rfl (lv_at hl 0 rfl) ?_
    refine va_get (D := (dC, dI)) (ci := 2) (v := .int (M_h_20 0 0)) (C := RX2) (T := TX2) (N := 10) hx hb hts hin2 hown hK hP 0 rfl rfl 0 (by decide) kf9 (fun _ h9 => h9) rfl dX2_enter_26 ?_
    refine lv_iload_n hx hb dX2_enter_29 rfl (lv_at hl 2 rfl) ?_
    refine lv_if_eq (tgt := 37) hx hb dX2_enter_30 (by decide) (fun hc30 => ?_) (fun hc30 => ?_)
    · rw [if_pos hc30] at hf
      refine lv_iconst (v := (0 : Int32)) hx hb dX2_enter_37 (by decide) ?_
      exact L38 M_h_20 (0 : Int32) (M_h_20 0 0) _ _ ls hf hP hD hS (lv_sub hl [0] rfl)
    · rw [if_neg hc30] at hf
      refine lv_iconst (v := (1 : Int32)) hx hb dX2_enter_33 (by decide) ?_
      refine lv_goto (tgt := 38) hx hb dX2_enter_34 (by decide) ?_
      exact L38 M_h_20 (1 : Int32) (M_h_20 0 0) _ _ ls hf hP hD hS (lv_sub hl [0] rfl)
  · rw [if_neg hc6] at hf
    refine lv_iconst (v := (-1 : Int32)) hx hb dX2_enter_9 (by decide) ?_
    obtain ⟨hq0, hq1⟩ := pj2 hf
    subst hq0
    subst hq1
    exact W.iret (v := (-1 : Int32)) hx hb hr (fun t ht hW => ⟨rfl, by rw [ht]; exact hP, hD, hS.F ht⟩) hS.2.2 dX2_enter_10
set_option maxHeartbeats 4000000 in
set_option maxRecDepth 100000 in
theorem c_X6_greatest (l : Launch) (dC : Nat → ClassId) (dI : Nat → Nat → Nat) (cyB cyI cyZ cyO : ClassId) (p0 : Int32) (r : Int32) (hf : f_X6_greatest p0 = some r) : Met l yX6_greatest wsX6_greatest ({ frames := 0, cells := 0, slots := 0, locals := 0 } : Room) (PR dC dI cyB cyI cyZ cyO ([.int p0] : List Value) ([] : va_W)) (QR (some (.int r))) 0 0 (fun _ => False) := by
  refine Met.ofW (cc := cX6_greatest) (maxL := 1) (ret := (some .int)) (by decide) rfl ?_
  intro p e s m args below meth c s₁ B hml hv
  obtain ⟨rfl, hP, hCx⟩ := hv
  have hK := hCx.1
  have hN := hCx.2
  have hx := B.exec
  have hb := B.bytes
  have hr := B.returns
  have hts := atoms_spec (ws := wsX6_greatest) B.pre
  have hown : s.vm.findClass RX6 = some m.cls := findClass_of_methodNamed B.named
  have hlocks := B.notSynchronized
  have hl := lv_entry ([.int p0] : List Value) (n := 1) (Nat.le_of_ble_eq_true rfl)
  rw [lg_entry_eq]
  generalize (lg_sl ([.int p0] : List Value) ++ List.replicate (1 - (lg_sl ([.int p0] : List Value)).length) Slot.unset).toArray = ls at hl ⊢
  have hl : lv_has ls 1 [(0, .int p0)] := hl
  rw [f_X6_greatest] at hf
  refine lv_iload_n hx hb dX6_greatest_0 rfl (lv_at hl 0 rfl) ?_
  by_cases hs1_0 : p0 = (0 : Int32)
  · rw [if_pos hs1_0] at hf
    refine lv_tableIn (off := 31) (tgt := 32) hx hb dX6_greatest_1 (by rw [hs1_0]; decide) (by rw [hs1_0]; decide) (by rw [hs1_0]; rfl) (by decide) ?_
    refine lv_sipush (v := (2400 : Int32)) hx hb dX6_greatest_32 (by decide) ?_
    have hq := Option.some.inj hf
    subst hq
    exact W.iret (v := (2400 : Int32)) hx hb hr (fun t ht hW => ⟨rfl, ht⟩) (fun q h => by cases h) dX6_greatest_35
  · rw [if_neg hs1_0] at hf
    by_cases hs1_1 : p0 = (1 : Int32)
    · rw [if_pos hs1_1] at hf
      refine lv_tableIn (off := 35) (tgt := 36) hx hb dX6_greatest_1 (by rw [hs1_1]; decide) (by rw [hs1_1]; decide) (by rw [hs1_1]; rfl) (by decide) ?_
      refine lv_sipush (v := (2400 : Int32)) hx hb dX6_greatest_36 (by decide) ?_
      have hq := Option.some.inj hf
      subst hq
      exact W.iret (v := (2400 : Int32)) hx hb hr (fun t ht hW => ⟨rfl, ht⟩) (fun q h => by cases h) dX6_greatest_39
    · rw [if_neg hs1_1] at hf
      by_cases hs1_2 : p0 = (2 : Int32)
      · rw [if_pos hs1_2] at hf
        refine lv_tableIn (off := 39) (tgt := 40) hx hb dX6_greatest_1 (by rw [hs1_2]; decide) (by rw [hs1_2]; decide) (by rw [hs1_2]; rfl) (by decide) ?_
        refine lv_sipush (v := (12000 : Int32)) hx hb dX6_greatest_40 (by decide) ?_
        have hq := Option.some.inj hf
        subst hq
        exact W.iret (v := (12000 : Int32)) hx hb hr (fun t ht hW => ⟨rfl, ht⟩) (fun q h => by cases h) dX6_greatest_43
      · rw [if_neg hs1_2] at hf
        by_cases hs1_3 : p0 = (3 : Int32)
        · rw [if_pos hs1_3] at hf
          refine lv_tableIn (off := 43) (tgt := 44) hx hb dX6_greatest_1 (by rw [hs1_3]; decide) (by rw [hs1_3]; decide) (by rw [hs1_3]; rfl) (by decide) ?_
          refine lv_bipush (v := (9 : Int32)) hx hb dX6_greatest_44 (by decide) ?_
          have hq := Option.some.inj hf
          subst hq
          exact W.iret (v := (9 : Int32)) hx hb hr (fun t ht hW => ⟨rfl, ht⟩) (fun q h => by cases h) dX6_greatest_46
        · rw [if_neg hs1_3] at hf
          refine lv_tableOut (tgt := 47) hx hb dX6_greatest_1 (by have z0 := lv_neT hs1_0 (show (0 : Int32).toInt = 0 by decide); have z1 := lv_neT hs1_1 (show (1 : Int32).toInt = 1 by decide); have z2 := lv_neT hs1_2 (show (2 : Int32).toInt = 2 by decide); have z3 := lv_neT hs1_3 (show (3 : Int32).toInt = 3 by decide); omega) (by decide) ?_
          refine lv_iconst (v := (-1 : Int32)) hx hb dX6_greatest_47 (by decide) ?_
          have hq := Option.some.inj hf
          subst hq
          exact W.iret (v := (-1 : Int32)) hx hb hr (fun t ht hW => ⟨rfl, ht⟩) (fun q h => by cases h) dX6_greatest_48
set_option maxHeartbeats 4000000 in
set_option maxRecDepth 100000 in
theorem c_X6_change (l : Launch) (dC : Nat → ClassId) (dI : Nat → Nat → Nat) (cyB cyI cyZ cyO : ClassId) (h : Nat) (sz : Nat) (M_h : Mem) (p1 : Int32) (p2 : Int32) (r : Int32) (R_h : Mem) (hf : f_X6_change M_h p1 p2 = some (r, R_h)) : Met l yX6_change wsX6_change ({ frames := 1, cells := 0, slots := 0, locals := 22 } : Room) (PW dC dI cyB cyI cyZ cyO ([.ref h, .int p1, .int p2] : List Value) (wX6 cyB cyI cyZ cyO h M_h) sz) (QW dC dI (some (.int r)) (wX6 cyB cyI cyZ cyO h R_h) (va_A (wX6 cyB cyI cyZ cyO h M_h) sz)) 0 0 (va_A (wX6 cyB cyI cyZ cyO h M_h) sz) := by
  refine Met.ofW (cc := cX6_change) (maxL := 3) (ret := (some .boolean)) (by decide) rfl ?_
  intro p e s m args below meth c s₁ B hml hv
  obtain ⟨rfl, hsz, hP, hCx, hD0⟩ := hv
  have hK := hCx.1
  have hN := hCx.2
  have hx := B.exec
  have hb := B.bytes
  have hr := B.returns
  have hts := atoms_spec (ws := wsX6_change) B.pre
  have hown : s.vm.findClass RX6 = some m.cls := findClass_of_methodNamed B.named
  have hlocks := B.notSynchronized
  have hin6 : ∀ w ∈ u_ws RX6 TX6 4, w ∈ wsX6_change := fun w h => List.mem_cons_of_mem _ (List.mem_append_right _ h)
  have kf9 := hts (.fieldLink RX6 9 "HoldSlips$Rules" "bound" "I") (by decide +kernel)
  have kf15 := hts (.fieldLink RX6 15 "HoldSlips$Rules" "load" "I") (by decide +kernel)
  have kf18 := hts (.fieldLink RX6 18 "HoldSlips$Rules" "permit" "I") (by decide +kernel)
  have kf21 := hts (.fieldLink RX6 21 "HoldSlips$Rules" "rent" "I") (by decide +kernel)
  subst hsz
  have hD := hD0.self (sz := s.heap.size)
  generalize hAe : va_A (wX6 cyB cyI cyZ cyO h M_h) s.heap.size = A at hD ⊢
  have hA : ∀ q : Nat, s.heap.size ≤ q → A q := fun q h => by rw [← hAe]; exact Or.inr h
  have hS : va_S A s.heap s.heap [] := va_S.rf
  have hl := lv_entry ([.ref h, .int p1, .int p2] : List Value) (n := 3) (Nat.le_of_ble_eq_true rfl)
  rw [lg_entry_eq]
  generalize (lg_sl ([.ref h, .int p1, .int p2] : List Value) ++ List.replicate (3 - (lg_sl ([.ref h, .int p1, .int p2] : List Value)).length) Slot.unset).toArray = ls at hl ⊢
  have hl : lv_has ls 3 [(0, .ref h), (1, .int p1), (2, .int p2)] := hl
  rw [f_X6_change] at hf
  refine lv_iload_n hx hb dX6_change_0 rfl (lv_at hl 2 rfl) ?_
  refine lv_iconst (v := (0 : Int32)) hx hb dX6_change_1 (by decide) ?_
  refine lv_iload_n hx hb dX6_change_2 rfl (lv_at hl 1 rfl) ?_
  obtain ⟨r3, h3, hf⟩ := bd1_some hf
  have hPc := hP.sub (ws' := ([] : va_W)) [] rfl
  refine ro_calli (va_runS (As := [.int p1]) (rest := [.int (0 : Int32), .int p2]) ⟨hx, hb, hml, hown, hts⟩ (c_X6_greatest l dC dI cyB cyI cyZ cyO p1 r3 h3) (va_cwS 1 hts gX6_change_X6_greatest rfl rfl rfl (by decide +kernel) ⟨Nat.le_of_ble_eq_true rfl, Nat.le_of_ble_eq_true rfl⟩) ⟨PR.blind, fun U hU hW => ⟨rfl, by rw [hU]; exact hPc, hCx.warm hW⟩⟩ rfl rfl hl.1 rfl (lv_room (Nat.le_of_ble_eq_true rfl)) dX6_change_3 ⟨Nat.zero_le _, Nat.zero_le _⟩) ?_
  obtain ⟨r6, h6, hf⟩ := bd1_some hf
  have hPc := hP.sub (ws' := ([] : va_W)) [] rfl
  refine ro_calli (va_runSN (As := [.int p2, .int (0 : Int32), .int r3]) (rest := []) ⟨hx, hb, hml, hown, hts⟩ (c_X11_within l dC dI cyB cyI cyZ cyO p2 (0 : Int32) r3 r6 h6) ⟨va_cnB 3 hts gX6_change_X11_within_n28 rfl rfl rfl (hN _ (by decide +kernel : Cond.methodLinkNest RX6 28 yX11_within "HoldSlips" ∈ nw_all)) (hts (.initialized RX11) (by decide +kernel)) (by decide +kernel) ⟨Nat.le_of_ble_eq_true rfl, Nat.le_of_ble_eq_true rfl⟩, hts (.static yX11_within) (by decide +kernel), trivial⟩ ⟨PR.blind, fun U hU hW => ⟨rfl, by rw [hU]; exact hPc, hCx.warm hW⟩⟩ rfl rfl hl.1 rfl (lv_room (Nat.le_of_ble_eq_true rfl)) dX6_change_6 ⟨Nat.zero_le _, Nat.zero_le _⟩) ?_
  refine lv_if_ne (tgt := 14) hx hb dX6_change_9 (by decide) (fun hc9 => ?_) (fun hc9 => ?_)
  · rw [if_neg hc9] at hf
    refine lv_iload_n hx hb dX6_change_14 rfl (lv_at hl 1 rfl) ?_
    by_cases hs15_0 : p1 = (0 : Int32)
    · rw [if_pos hs15_0] at hf
      refine lv_tableIn (off := 25) (tgt := 40) hx hb dX6_change_15 (by rw [hs15_0]; decide) (by rw [hs15_0]; decide) (by rw [hs15_0]; rfl) (by decide) ?_
      refine lv_aload_n hx hb dX6_change_40 rfl (lv_at hl 0 rfl) ?_
      refine lv_iload_n hx hb dX6_change_41 rfl (lv_at hl 2 rfl) ?_
      refine va_put (D := (dC, dI)) (ci := 6) (v := .int p2) (ty := .int) (C := RX6) (T := TX6) (N := 4) hx hb hts hin6 tyX6 tyX6_ok nmX6 hown hK hP hD hS 0 rfl rfl 0 (by decide) kf9 (fun _ h9 => h9) rfl (by decide +kernel) rfl rfl (Nat.le_of_ble_eq_true rfl) dX6_change_42 (fun H locs hP hD hS => ?_)
      obtain ⟨M_h_42, eM_h_42, hf⟩ := wr_some hf
      have hP : va_P (dC, dI) vwCl (wX6 cyB cyI cyZ cyO h M_h_42) H := by rw [eM_h_42]; exact hP
      have hD : va_D A (wX6 cyB cyI cyZ cyO h M_h_42) := by rw [eM_h_42]; exact hD
      refine lv_goto (tgt := 69) hx hb dX6_change_45 (by decide) ?_
      refine lv_iconst (v := (1 : Int32)) hx hb dX6_change_69 (by decide) ?_
      obtain ⟨hq0, hq1⟩ := pj2 hf
      subst hq0
      subst hq1
      exact W.zret (v := (1 : Int32)) hx hb hr rfl (fun t ht hW => ⟨rfl, by rw [ht]; exact hP, hD, hS.F ht⟩) hS.2.2 dX6_change_70
    · rw [if_neg hs15_0] at hf
      by_cases hs15_1 : p1 = (1 : Int32)
      · rw [if_pos hs15_1] at hf
        refine lv_tableIn (off := 33) (tgt := 48) hx hb dX6_change_15 (by rw [hs15_1]; decide) (by rw [hs15_1]; decide) (by rw [hs15_1]; rfl) (by decide) ?_
        refine lv_aload_n hx hb dX6_change_48 rfl (lv_at hl 0 rfl) ?_
        refine lv_iload_n hx hb dX6_change_49 rfl (lv_at hl 2 rfl) ?_
        refine va_put (D := (dC, dI)) (ci := 6) (v := .int p2) (ty := .int) (C := RX6) (T := TX6) (N := 4) hx hb hts hin6 tyX6 tyX6_ok nmX6 hown hK hP hD hS 0 rfl rfl 1 (by decide) kf15 (fun _ h9 => h9) rfl (by decide +kernel) rfl rfl (Nat.le_of_ble_eq_true rfl) dX6_change_50 (fun H locs hP hD hS => ?_)
        obtain ⟨M_h_50, eM_h_50, hf⟩ := wr_some hf
        have hP : va_P (dC, dI) vwCl (wX6 cyB cyI cyZ cyO h M_h_50) H := by rw [eM_h_50]; exact hP
        have hD : va_D A (wX6 cyB cyI cyZ cyO h M_h_50) := by rw [eM_h_50]; exact hD
        refine lv_goto (tgt := 69) hx hb dX6_change_53 (by decide) ?_
        refine lv_iconst (v := (1 : Int32)) hx hb dX6_change_69 (by decide) ?_
        obtain ⟨hq0, hq1⟩ := pj2 hf
        subst hq0
        subst hq1
        exact W.zret (v := (1 : Int32)) hx hb hr rfl (fun t ht hW => ⟨rfl, by rw [ht]; exact hP, hD, hS.F ht⟩) hS.2.2 dX6_change_70
      · rw [if_neg hs15_1] at hf
        by_cases hs15_2 : p1 = (2 : Int32)
        · rw [if_pos hs15_2] at hf
          refine lv_tableIn (off := 41) (tgt := 56) hx hb dX6_change_15 (by rw [hs15_2]; decide) (by rw [hs15_2]; decide) (by rw [hs15_2]; rfl) (by decide) ?_
          refine lv_aload_n hx hb dX6_change_56 rfl (lv_at hl 0 rfl) ?_
          refine lv_iload_n hx hb dX6_change_57 rfl (lv_at hl 2 rfl) ?_
          refine va_put (D := (dC, dI)) (ci := 6) (v := .int p2) (ty := .int) (C := RX6) (T := TX6) (N := 4) hx hb hts hin6 tyX6 tyX6_ok nmX6 hown hK hP hD hS 0 rfl rfl 2 (by decide) kf18 (fun _ h9 => h9) rfl (by decide +kernel) rfl rfl (Nat.le_of_ble_eq_true rfl) dX6_change_58 (fun H locs hP hD hS => ?_)
          obtain ⟨M_h_58, eM_h_58, hf⟩ := wr_some hf
          have hP : va_P (dC, dI) vwCl (wX6 cyB cyI cyZ cyO h M_h_58) H := by rw [eM_h_58]; exact hP
          have hD : va_D A (wX6 cyB cyI cyZ cyO h M_h_58) := by rw [eM_h_58]; exact hD
          refine lv_goto (tgt := 69) hx hb dX6_change_61 (by decide) ?_
          refine lv_iconst (v := (1 : Int32)) hx hb dX6_change_69 (by decide) ?_
          obtain ⟨hq0, hq1⟩ := pj2 hf
          subst hq0
          subst hq1
          exact W.zret (v := (1 : Int32)) hx hb hr rfl (fun t ht hW => ⟨rfl, by rw [ht]; exact hP, hD, hS.F ht⟩) hS.2.2 dX6_change_70
        · rw [if_neg hs15_2] at hf
          refine lv_tableOut (tgt := 64) hx hb dX6_change_15 (by have z0 := lv_neT hs15_0 (show (0 : Int32).toInt = 0 by decide); have z1 := lv_neT hs15_1 (show (1 : Int32).toInt = 1 by decide); have z2 := lv_neT hs15_2 (show (2 : Int32).toInt = 2 by decide); omega) (by decide) ?_
          refine lv_aload_n hx hb dX6_change_64 rfl (lv_at hl 0 rfl) ?_
          refine lv_iload_n hx hb dX6_change_65 rfl (lv_at hl 2 rfl) ?_
          refine va_put (D := (dC, dI)) (ci := 6) (v := .int p2) (ty := .int) (C := RX6) (T := TX6) (N := 4) hx hb hts hin6 tyX6 tyX6_ok nmX6 hown hK hP hD hS 0 rfl rfl 3 (by decide) kf21 (fun _ h9 => h9) rfl (by decide +kernel) rfl rfl (Nat.le_of_ble_eq_true rfl) dX6_change_66 (fun H locs hP hD hS => ?_)
          obtain ⟨M_h_66, eM_h_66, hf⟩ := wr_some hf
          have hP : va_P (dC, dI) vwCl (wX6 cyB cyI cyZ cyO h M_h_66) H := by rw [eM_h_66]; exact hP
          have hD : va_D A (wX6 cyB cyI cyZ cyO h M_h_66) := by rw [eM_h_66]; exact hD
          refine lv_iconst (v := (1 : Int32)) hx hb dX6_change_69 (by decide) ?_
          obtain ⟨hq0, hq1⟩ := pj2 hf
          subst hq0
          subst hq1
          exact W.zret (v := (1 : Int32)) hx hb hr rfl (fun t ht hW => ⟨rfl, by rw [ht]; exact hP, hD, hS.F ht⟩) hS.2.2 dX6_change_70
  · rw [if_pos hc9] at hf
    refine lv_iconst (v := (0 : Int32)) hx hb dX6_change_12 (by decide) ?_
    obtain ⟨hq0, hq1⟩ := pj2 hf
    subst hq0
    subst hq1
    exact W.zret (v := (0 : Int32)) hx hb hr rfl (fun t ht hW => ⟨rfl, by rw [ht]; exact hP, hD, hS.F ht⟩) hS.2.2 dX6_change_13
set_option maxHeartbeats 4000000 in
set_option maxRecDepth 100000 in
theorem c_X2_greatestRest (l : Launch) (dC : Nat → ClassId) (dI : Nat → Nat → Nat) (cyB cyI cyZ cyO : ClassId) (h h_rank h_widow h_slips h_given h_silver h_returns h_rents h_share h_rest : Nat) (M_h : Mem) (r : Int32) (hf : f_X2_greatestRest M_h = some r) : Met l yX2_greatestRest wsX2_greatestRest ({ frames := 0, cells := 0, slots := 0, locals := 0 } : Room) (PR dC dI cyB cyI cyZ cyO ([.ref h] : List Value) (wX2 cyB cyI cyZ cyO h h_rank h_widow h_slips h_given h_silver h_returns h_rents h_share h_rest M_h)) (QR (some (.int r))) 0 0 (fun _ => False) := by
  refine Met.ofW (cc := cX2_greatestRest) (maxL := 3) (ret := (some .int)) (by decide) rfl ?_
  intro p e s m args below meth c s₁ B hml hv
  obtain ⟨rfl, hP, hCx⟩ := hv
  have hK := hCx.1
  have hN := hCx.2
  have hx := B.exec
  have hb := B.bytes
  have hr := B.returns
  have hts := atoms_spec (ws := wsX2_greatestRest) B.pre
  have hown : s.vm.findClass RX2 = some m.cls := findClass_of_methodNamed B.named
  have hlocks := B.notSynchronized
  have hin2 : ∀ w ∈ u_ws RX2 TX2 10, w ∈ wsX2_greatestRest := fun w h => List.mem_cons_of_mem _ (List.mem_append_right _ h)
  have kf9 := hts (.fieldLink RX2 9 "HoldSlips$Citizens" "number" "I") (by decide +kernel)
  have kf40 := hts (.fieldLink RX2 40 "HoldSlips$Citizens" "rest" "[I") (by decide +kernel)
  have hl := lv_entry ([.ref h] : List Value) (n := 3) (Nat.le_of_ble_eq_true rfl)
  rw [lg_entry_eq]
  generalize (lg_sl ([.ref h] : List Value) ++ List.replicate (3 - (lg_sl ([.ref h] : List Value)).length) Slot.unset).toArray = ls at hl ⊢
  have hl : lv_has ls 3 [(0, .ref h)] := hl
  have L4 : ∀ (n : Nat), ∀ (x1 : Int32) (x2 : Int32) (ls : Array Slot), f_X2_greatestRest_L4 n M_h x1 x2 = some r → lv_has ls 3 [(0, .ref h), (1, .int x1), (2, .int x2)] → W p l e (headSpec wsX2_greatestRest ({ frames := 0, cells := 0, slots := 0, locals := 0 } : Room)).room s m ([.ref h] : List Value).toArray below meth c s.heap [] 0 0 (MQ below (QR (some (.int r))) ([.ref h] : List Value).toArray s 0 0 (fun _ => False)) (F0 m 4 ls []) := by
    intro n
    induction n with
    | zero => intro x1 x2 ls hf hl; rw [f_X2_greatestRest_L4] at hf; cases hf
    | succ n ih =>
      intro x1 x2 ls hf hl
      rw [f_X2_greatestRest_L4] at hf
      refine lv_iload_n hx hb dX2_greatestRest_4 rfl (lv_at hl 2 rfl) ?_
      refine lv_aload_n hx hb dX2_greatestRest_5 rfl (lv_at hl 0 rfl) ?_
      refine va_get (D := (dC, dI)) (ci := 2) (v := .int (M_h 0 0)) (C := RX2) (T := TX2) (N := 10) hx hb hts hin2 hown hK hP 0 rfl rfl 0 (by decide) kf9 (fun _ h9 => h9) rfl dX2_greatestRest_6 ?_
      refine lv_icmp_ge (tgt := 35) hx hb dX2_greatestRest_9 (by decide) (fun hc9 => ?_) (fun hc9 => ?_)
      · rw [if_pos hc9] at hf
        refine lv_iload_n hx hb dX2_greatestRest_35 rfl (lv_at hl 1 rfl) ?_
        have hq := Option.some.inj hf
        subst hq
        exact W.iret (v := x1) hx hb hr (fun t ht hW => ⟨rfl, ht⟩) (fun q h => by cases h) dX2_greatestRest_36
      · rw [if_neg hc9] at hf
        refine lv_aload_n hx hb dX2_greatestRest_12 rfl (lv_at hl 0 rfl) ?_
        refine va_get (D := (dC, dI)) (ci := 2) (v := .ref h_rest) (C := RX2) (T := TX2) (N := 10) hx hb hts hin2 hown hK hP 0 rfl rfl 9 (by decide) kf40 (fun _ h9 => h9) rfl dX2_greatestRest_13 ?_
        refine lv_iload_n hx hb dX2_greatestRest_16 rfl (lv_at hl 2 rfl) ?_
        have hi17 := if_no hf
        rw [if_neg hi17] at hf
        refine va_iald hx hb hK hP 9 1 rfl rfl hi17 dX2_greatestRest_17 ?_
        refine lv_aload_n hx hb dX2_greatestRest_18 rfl (lv_at hl 0 rfl) ?_
        refine va_get (D := (dC, dI)) (ci := 2) (v := .ref h_rest) (C := RX2) (T := TX2) (N := 10) hx hb hts hin2 hown hK hP 0 rfl rfl 9 (by decide) kf40 (fun _ h9 => h9) rfl dX2_greatestRest_19 ?_
        refine lv_iload_n hx hb dX2_greatestRest_22 rfl (lv_at hl 1 rfl) ?_
        have hi23 := if_no hf
        rw [if_neg hi23] at hf
        refine va_iald hx hb hK hP 9 1 rfl rfl hi23 dX2_greatestRest_23 ?_
        refine lv_icmp_le (tgt := 29) hx hb dX2_greatestRest_24 (by decide) (fun hc24 => ?_) (fun hc24 => ?_)
        · rw [if_pos hc24] at hf
          refine lv_iinc (v := (x2 + (1 : Int32))) (lv' := [(2, .int (x2 + (1 : Int32))), (0, .ref h), (1, .int x1)]) hx hb dX2_greatestRest_29 hl (k := 2) rfl rfl (by decide) rfl (fun ls hl => ?_)
          refine lv_goto (tgt := 4) hx hb dX2_greatestRest_32 (by decide) ?_
          exact ih x1 (x2 + (1 : Int32)) ls hf (lv_sub hl [1, 2, 0] rfl)
        · rw [if_neg hc24] at hf
          refine lv_iload_n hx hb dX2_greatestRest_27 rfl (lv_at hl 2 rfl) ?_
          refine lv_istore_n (lv' := [(1, .int x2), (0, .ref h), (2, .int x2)]) hx hb dX2_greatestRest_28 rfl hl (by decide) rfl (fun ls hl => ?_)
          refine lv_iinc (v := (x2 + (1 : Int32))) (lv' := [(2, .int (x2 + (1 : Int32))), (1, .int x2), (0, .ref h)]) hx hb dX2_greatestRest_29 hl (k := 2) rfl rfl (by decide) rfl (fun ls hl => ?_)
          refine lv_goto (tgt := 4) hx hb dX2_greatestRest_32 (by decide) ?_
          exact ih x2 (x2 + (1 : Int32)) ls hf (lv_sub hl [2, 1, 0] rfl)
  rw [f_X2_greatestRest] at hf
  refine lv_iconst (v := (0 : Int32)) hx hb dX2_greatestRest_0 (by decide) ?_
  refine lv_istore_n (lv' := [(1, .int (0 : Int32)), (0, .ref h)]) hx hb dX2_greatestRest_1 rfl hl (by decide) rfl (fun ls hl => ?_)
  refine lv_iconst (v := (1 : Int32)) hx hb dX2_greatestRest_2 (by decide) ?_
  refine lv_istore_n (lv' := [(2, .int (1 : Int32)), (1, .int (0 : Int32)), (0, .ref h)]) hx hb dX2_greatestRest_3 rfl hl (by decide) rfl (fun ls hl => ?_)
  exact L4 FU (0 : Int32) (1 : Int32) ls hf (lv_sub hl [2, 1, 0] rfl)
set_option maxHeartbeats 4000000 in
set_option maxRecDepth 100000 in
theorem c_X2_takeSlips (l : Launch) (dC : Nat → ClassId) (dI : Nat → Nat → Nat) (cyB cyI cyZ cyO : ClassId) (h h_rank h_widow h_slips h_given h_silver h_returns h_rents h_share h_rest : Nat) (sz : Nat) (M_h : Mem) (p1 : Int32) (p2 : Int32) (R_h : Mem) (hf : f_X2_takeSlips M_h p1 p2 = some R_h) : Met l yX2_takeSlips wsX2_takeSlips ({ frames := 2, cells := 0, slots := 0, locals := 81 } : Room) (PW dC dI cyB cyI cyZ cyO ([.ref h, .int p1, .int p2] : List Value) (wX2 cyB cyI cyZ cyO h h_rank h_widow h_slips h_given h_silver h_returns h_rents h_share h_rest M_h) sz) (QW dC dI none (wX2 cyB cyI cyZ cyO h h_rank h_widow h_slips h_given h_silver h_returns h_rents h_share h_rest R_h) (va_A (wX2 cyB cyI cyZ cyO h h_rank h_widow h_slips h_given h_silver h_returns h_rents h_share h_rest M_h) sz)) 0 0 (va_A (wX2 cyB cyI cyZ cyO h h_rank h_widow h_slips h_given h_silver h_returns h_rents h_share h_rest M_h) sz) := by
  refine Met.ofW (cc := cX2_takeSlips) (maxL := 6) (ret := none) (by decide) rfl ?_
  intro p e s m args below meth c s₁ B hml hv
  obtain ⟨rfl, hsz, hP, hCx, hD0⟩ := hv
  have hK := hCx.1
  have hN := hCx.2
  have hx := B.exec
  have hb := B.bytes
  have hr := B.returns
  have hts := atoms_spec (ws := wsX2_takeSlips) B.pre
  have hown : s.vm.findClass RX2 = some m.cls := findClass_of_methodNamed B.named
  have hlocks := B.notSynchronized
  have hin2 : ∀ w ∈ u_ws RX2 TX2 10, w ∈ wsX2_takeSlips := fun w h => List.mem_cons_of_mem _ (List.mem_append_right _ h)
  have kf9 := hts (.fieldLink RX2 9 "HoldSlips$Citizens" "number" "I") (by decide +kernel)
  have kf22 := hts (.fieldLink RX2 22 "HoldSlips$Citizens" "slips" "[I") (by decide +kernel)
  have kf25 := hts (.fieldLink RX2 25 "HoldSlips$Citizens" "given" "[I") (by decide +kernel)
  have kf37 := hts (.fieldLink RX2 37 "HoldSlips$Citizens" "share" "[I") (by decide +kernel)
  have kf40 := hts (.fieldLink RX2 40 "HoldSlips$Citizens" "rest" "[I") (by decide +kernel)
  subst hsz
  have hD := hD0.self (sz := s.heap.size)
  generalize hAe : va_A (wX2 cyB cyI cyZ cyO h h_rank h_widow h_slips h_given h_silver h_returns h_rents h_share h_rest M_h) s.heap.size = A at hD ⊢
  have hA : ∀ q : Nat, s.heap.size ≤ q → A q := fun q h => by rw [← hAe]; exact Or.inr h
  have hS : va_S A s.heap s.heap [] := va_S.rf
  have hl := lv_entry ([.ref h, .int p1, .int p2] : List Value) (n := 6) (Nat.le_of_ble_eq_true rfl)
  rw [lg_entry_eq]
  generalize (lg_sl ([.ref h, .int p1, .int p2] : List Value) ++ List.replicate (6 - (lg_sl ([.ref h, .int p1, .int p2] : List Value)).length) Slot.unset).toArray = ls at hl ⊢
  have hl : lv_has ls 6 [(0, .ref h), (1, .int p1), (2, .int p2)] := hl
  have L74 : ∀ (n : Nat), ∀ (M_h : Mem) (x3 : Int32) (x4 : Int32) (H : Heap) (locs : List Loc) (ls : Array Slot), f_X2_takeSlips_L74 n M_h x3 x4 = some R_h → va_P (dC, dI) vwCl (wX2 cyB cyI cyZ cyO h h_rank h_widow h_slips h_given h_silver h_returns h_rents h_share h_rest M_h) H → va_D A (wX2 cyB cyI cyZ cyO h h_rank h_widow h_slips h_given h_silver h_returns h_rents h_share h_rest M_h) → va_S A s.heap H locs → lv_has ls 6 [(0, .ref h), (3, .int x3), (4, .int x4)] → W p l e (headSpec wsX2_takeSlips ({ frames := 2, cells := 0, slots := 0, locals := 81 } : Room)).room s m ([.ref h, .int p1, .int p2] : List Value).toArray below meth c H locs 0 0 (MQ below (QW dC dI none (wX2 cyB cyI cyZ cyO h h_rank h_widow h_slips h_given h_silver h_returns h_rents h_share h_rest R_h) A) ([.ref h, .int p1, .int p2] : List Value).toArray s 0 0 A) (F0 m 74 ls []) := by
    intro n
    induction n with
    | zero => intro M_h x3 x4 H locs ls hf hP hD hS hl; rw [f_X2_takeSlips_L74] at hf; cases hf
    | succ n ih =>
      intro M_h x3 x4 H locs ls hf hP hD hS hl
      rw [f_X2_takeSlips_L74] at hf
      refine lv_iload hx hb dX2_takeSlips_74 (lv_at hl 2 rfl) ?_
      refine lv_aload_n hx hb dX2_takeSlips_76 rfl (lv_at hl 0 rfl) ?_
      refine va_get (D := (dC, dI)) (ci := 2) (v := .int (M_h 0 0)) (C := RX2) (T := TX2) (N := 10) hx hb hts hin2 hown hK hP 0 rfl rfl 0 (by decide) kf9 (fun _ h9 => h9) rfl dX2_takeSlips_77 ?_
      refine lv_icmp_ge (tgt := 121) hx hb dX2_takeSlips_80 (by decide) (fun hc80 => ?_) (fun hc80 => ?_)
      · rw [if_pos hc80] at hf
        refine lv_aload_n hx hb dX2_takeSlips_121 rfl (lv_at hl 0 rfl) ?_
        refine va_get (D := (dC, dI)) (ci := 2) (v := .ref h_given) (C := RX2) (T := TX2) (N := 10) hx hb hts hin2 hown hK hP 0 rfl rfl 4 (by decide) kf25 (fun _ h9 => h9) rfl dX2_takeSlips_122 ?_
        refine lv_aload_n hx hb dX2_takeSlips_125 rfl (lv_at hl 0 rfl) ?_
        refine va_get (D := (dC, dI)) (ci := 2) (v := .ref h_slips) (C := RX2) (T := TX2) (N := 10) hx hb hts hin2 hown hK hP 0 rfl rfl 3 (by decide) kf22 (fun _ h9 => h9) rfl dX2_takeSlips_126 ?_
        obtain ⟨M_h_129, eM_h_129, hf⟩ := wr_some hf
        have hPc := hP.sub (ws' := ([(h_given, .inl (cyI, 8, .inl (M_h 4))), (h_slips, .inl (cyI, 8, .inl (M_h 3)))] : va_W)) [4, 3] rfl
        have hDc := hD.sub (ws' := ([(h_given, .inl (cyI, 8, .inl (M_h 4))), (h_slips, .inl (cyI, 8, .inl (M_h 3)))] : va_W)) [4, 3] (by decide) rfl
        refine wr_callv (wc := ([(h_given, .inl (cyI, 8, .inl (M_h 4))), (h_slips, .inl (cyI, 8, .inl (M_h 3)))] : va_W)) (wr := ([(h, .inr (2, [.int (M_h 0 0), .ref h_rank, .ref h_widow, .ref h_slips, .ref h_given, .ref h_silver, .ref h_returns, .ref h_rents, .ref h_share, .ref h_rest])), (h_rank, .inl (cyI, 8, .inl (M_h 1))), (h_widow, .inl (cyI, 8, .inl (M_h 2))), (h_silver, .inl (cyI, 8, .inl (M_h 5))), (h_returns, .inl (cyI, 8, .inl (M_h 6))), (h_rents, .inl (cyI, 8, .inl (M_h 7))), (h_share, .inl (cyI, 8, .inl (M_h 8))), (h_rest, .inl (cyI, 8, .inl (M_h 9)))] : va_W)) (w1 := ([(h_given, .inl (cyI, 8, .inl (M_h 4))), (h_slips, .inl (cyI, 8, .inl ((upR M_h 3 (rowc 8 (M_h 4) (M_h 3))) 3)))] : va_W)) (ws' := (wX2 cyB cyI cyZ cyO h h_rank h_widow h_slips h_given h_silver h_returns h_rents h_share h_rest (upR M_h 3 (rowc 8 (M_h 4) (M_h 3))))) hP hD hS hA [4, 3] [0, 1, 2, 5, 6, 7, 8, 9] [0, 1, 2, 9, 8, 3, 4, 5, 6, 7] rfl rfl (by decide) (by decide) rfl (by decide) (va_runSN (As := [.ref h_given, .ref h_slips]) (rest := []) ⟨hx, hb, hml, hown, hts⟩ (c_X11_copyRow l dC dI cyB cyI cyZ cyO h_given h_slips _ 8 (M_h 4) (M_h 3) (by decide)) ⟨va_cnB 2 hts gX2_takeSlips_X11_copyRow_n43 rfl rfl rfl (hN _ (by decide +kernel : Cond.methodLinkNest RX2 43 yX11_copyRow "HoldSlips" ∈ nw_all)) (hts (.initialized RX11) (by decide +kernel)) (by decide +kernel) ⟨Nat.le_of_ble_eq_true rfl, Nat.le_of_ble_eq_true rfl⟩, hts (.static yX11_copyRow) (by decide +kernel), trivial⟩ ⟨PW.blind, fun U hU hW => ⟨rfl, by rw [hU], by rw [hU]; exact hPc, hCx.warm hW, hDc.weaken (fun _ _ _ _ => trivial)⟩⟩ rfl rfl hl.1 rfl (lv_room (Nat.le_of_ble_eq_true rfl)) dX2_takeSlips_129 ⟨Nat.zero_le _, Nat.zero_le _⟩) (fun H locs hP hD hS => ?_)
        rw [← eM_h_129] at hP hD
        have hq := Option.some.inj hf
        subst hq
        exact W.vret hx hb hr (fun t ht hW => ⟨rfl, by rw [ht]; exact hP, hD, hS.F ht⟩) hS.2.2 dX2_takeSlips_132
      · rw [if_neg hc80] at hf
        refine lv_iload_n hx hb dX2_takeSlips_83 rfl (lv_at hl 1 rfl) ?_
        refine lv_if_le (tgt := 121) hx hb dX2_takeSlips_84 (by decide) (fun hc84 => ?_) (fun hc84 => ?_)
        · rw [if_pos hc84] at hf
          refine lv_aload_n hx hb dX2_takeSlips_121 rfl (lv_at hl 0 rfl) ?_
          refine va_get (D := (dC, dI)) (ci := 2) (v := .ref h_given) (C := RX2) (T := TX2) (N := 10) hx hb hts hin2 hown hK hP 0 rfl rfl 4 (by decide) kf25 (fun _ h9 => h9) rfl dX2_takeSlips_122 ?_
          refine lv_aload_n hx hb dX2_takeSlips_125 rfl (lv_at hl 0 rfl) ?_
          refine va_get (D := (dC, dI)) (ci := 2) (v := .ref h_slips) (C := RX2) (T := TX2) (N := 10) hx hb hts hin2 hown hK hP 0 rfl rfl 3 (by decide) kf22 (fun _ h9 => h9) rfl dX2_takeSlips_126 ?_
          obtain ⟨M_h_129, eM_h_129, hf⟩ := wr_some hf
          have hPc := hP.sub (ws' := ([(h_given, .inl (cyI, 8, .inl (M_h 4))), (h_slips, .inl (cyI, 8, .inl (M_h 3)))] : va_W)) [4, 3] rfl
          have hDc := hD.sub (ws' := ([(h_given, .inl (cyI, 8, .inl (M_h 4))), (h_slips, .inl (cyI, 8, .inl (M_h 3)))] : va_W)) [4, 3] (by decide) rfl
          refine wr_callv (wc := ([(h_given, .inl (cyI, 8, .inl (M_h 4))), (h_slips, .inl (cyI, 8, .inl (M_h 3)))] : va_W)) (wr := ([(h, .inr (2, [.int (M_h 0 0), .ref h_rank, .ref h_widow, .ref h_slips, .ref h_given, .ref h_silver, .ref h_returns, .ref h_rents, .ref h_share, .ref h_rest])), (h_rank, .inl (cyI, 8, .inl (M_h 1))), (h_widow, .inl (cyI, 8, .inl (M_h 2))), (h_silver, .inl (cyI, 8, .inl (M_h 5))), (h_returns, .inl (cyI, 8, .inl (M_h 6))), (h_rents, .inl (cyI, 8, .inl (M_h 7))), (h_share, .inl (cyI, 8, .inl (M_h 8))), (h_rest, .inl (cyI, 8, .inl (M_h 9)))] : va_W)) (w1 := ([(h_given, .inl (cyI, 8, .inl (M_h 4))), (h_slips, .inl (cyI, 8, .inl ((upR M_h 3 (rowc 8 (M_h 4) (M_h 3))) 3)))] : va_W)) (ws' := (wX2 cyB cyI cyZ cyO h h_rank h_widow h_slips h_given h_silver h_returns h_rents h_share h_rest (upR M_h 3 (rowc 8 (M_h 4) (M_h 3))))) hP hD hS hA [4, 3] [0, 1, 2, 5, 6, 7, 8, 9] [0, 1, 2, 9, 8, 3, 4, 5, 6, 7] rfl rfl (by decide) (by decide) rfl (by decide) (va_runSN (As := [.ref h_given, .ref h_slips]) (rest := []) ⟨hx, hb, hml, hown, hts⟩ (c_X11_copyRow l dC dI cyB cyI cyZ cyO h_given h_slips _ 8 (M_h 4) (M_h 3) (by decide)) ⟨va_cnB 2 hts gX2_takeSlips_X11_copyRow_n43 rfl rfl rfl (hN _ (by decide +kernel : Cond.methodLinkNest RX2 43 yX11_copyRow "HoldSlips" ∈ nw_all)) (hts (.initialized RX11) (by decide +kernel)) (by decide +kernel) ⟨Nat.le_of_ble_eq_true rfl, Nat.le_of_ble_eq_true rfl⟩, hts (.static yX11_copyRow) (by decide +kernel), trivial⟩ ⟨PW.blind, fun U hU hW => ⟨rfl, by rw [hU], by rw [hU]; exact hPc, hCx.warm hW, hDc.weaken (fun _ _ _ _ => trivial)⟩⟩ rfl rfl hl.1 rfl (lv_room (Nat.le_of_ble_eq_true rfl)) dX2_takeSlips_129 ⟨Nat.zero_le _, Nat.zero_le _⟩) (fun H locs hP hD hS => ?_)
          rw [← eM_h_129] at hP hD
          have hq := Option.some.inj hf
          subst hq
          exact W.vret hx hb hr (fun t ht hW => ⟨rfl, by rw [ht]; exact hP, hD, hS.F ht⟩) hS.2.2 dX2_takeSlips_132
        · rw [if_neg hc84] at hf
          refine lv_aload_n hx hb dX2_takeSlips_87 rfl (lv_at hl 0 rfl) ?_
          obtain ⟨r88, h88, hf⟩ := bd1_some hf
          refine ro_calli (va_runV (As := []) (rest := []) ⟨hx, hb, hml, hown, hts⟩ (c_X2_greatestRest l dC dI cyB cyI cyZ cyO h h_rank h_widow h_slips h_given h_silver h_returns h_rents h_share h_rest M_h r88 h88) (cwV 0 hts gX2_takeSlips_X2_greatestRest rfl rfl rfl (by decide +kernel) ⟨Nat.le_of_ble_eq_true rfl, Nat.le_of_ble_eq_true rfl⟩) ⟨PR.blind, va_recv hK hP (ci := 2) (q0 := 0) rfl rfl, fun U hU hW => ⟨rfl, by rw [hU]; exact hP, hCx.warm hW⟩⟩ rfl rfl hl.1 rfl (lv_room (Nat.le_of_ble_eq_true rfl)) dX2_takeSlips_88 ⟨Nat.zero_le _, Nat.zero_le _⟩) ?_
          refine lv_istore (lv' := [(5, .int r88), (0, .ref h), (3, .int x3), (4, .int x4)]) hx hb dX2_takeSlips_91 hl (by decide) rfl (fun ls hl => ?_)
          refine lv_aload_n hx hb dX2_takeSlips_93 rfl (lv_at hl 1 rfl) ?_
          refine va_get (D := (dC, dI)) (ci := 2) (v := .ref h_given) (C := RX2) (T := TX2) (N := 10) hx hb hts hin2 hown hK hP 0 rfl rfl 4 (by decide) kf25 (fun _ h9 => h9) rfl dX2_takeSlips_94 ?_
          refine lv_iload hx hb dX2_takeSlips_97 (lv_at hl 0 rfl) ?_
          refine lv_dup2_11 hx hb dX2_takeSlips_99 rfl rfl ?_
          have hi100 := if_no hf
          rw [if_neg hi100] at hf
          refine va_iald hx hb hK hP 4 1 rfl rfl hi100 dX2_takeSlips_100 ?_
          refine lv_iconst (v := (1 : Int32)) hx hb dX2_takeSlips_101 (by decide) ?_
          refine lv_iadd hx hb dX2_takeSlips_102 ?_
          refine va_iast hx hb hK hP hD hS 4 1 rfl rfl hi100 dX2_takeSlips_103 (fun H locs hP hD hS => ?_)
          obtain ⟨M_h_103, eM_h_103, hf⟩ := wr_some hf
          have hP : va_P (dC, dI) vwCl (wX2 cyB cyI cyZ cyO h h_rank h_widow h_slips h_given h_silver h_returns h_rents h_share h_rest M_h_103) H := by rw [eM_h_103]; exact hP
          have hD : va_D A (wX2 cyB cyI cyZ cyO h h_rank h_widow h_slips h_given h_silver h_returns h_rents h_share h_rest M_h_103) := by rw [eM_h_103]; exact hD
          refine lv_aload_n hx hb dX2_takeSlips_104 rfl (lv_at hl 1 rfl) ?_
          refine va_get (D := (dC, dI)) (ci := 2) (v := .ref h_rest) (C := RX2) (T := TX2) (N := 10) hx hb hts hin2 hown hK hP 0 rfl rfl 9 (by decide) kf40 (fun _ h9 => h9) rfl dX2_takeSlips_105 ?_
          refine lv_iload hx hb dX2_takeSlips_108 (lv_at hl 0 rfl) ?_
          refine lv_iconst (v := (-1 : Int32)) hx hb dX2_takeSlips_110 (by decide) ?_
          refine va_iast hx hb hK hP hD hS 9 1 rfl rfl hi100 dX2_takeSlips_111 (fun H locs hP hD hS => ?_)
          obtain ⟨M_h_111, eM_h_111, hf⟩ := wr_some hf
          have hP : va_P (dC, dI) vwCl (wX2 cyB cyI cyZ cyO h h_rank h_widow h_slips h_given h_silver h_returns h_rents h_share h_rest M_h_111) H := by rw [eM_h_111]; exact hP
          have hD : va_D A (wX2 cyB cyI cyZ cyO h h_rank h_widow h_slips h_given h_silver h_returns h_rents h_share h_rest M_h_111) := by rw [eM_h_111]; exact hD
          refine lv_iinc (v := (x3 + (-1 : Int32))) (lv' := [(3, .int (x3 + (-1 : Int32))), (5, .int r88), (0, .ref h), (4, .int x4)]) hx hb dX2_takeSlips_112 hl (k := 2) rfl rfl (by decide) rfl (fun ls hl => ?_)
          refine lv_iinc (v := (x4 + (1 : Int32))) (lv' := [(4, .int (x4 + (1 : Int32))), (3, .int (x3 + (-1 : Int32))), (5, .int r88), (0, .ref h)]) hx hb dX2_takeSlips_115 hl (k := 3) rfl rfl (by decide) rfl (fun ls hl => ?_)
          refine lv_goto (tgt := 74) hx hb dX2_takeSlips_118 (by decide) ?_
          exact ih M_h_111 (x3 + (-1 : Int32)) (x4 + (1 : Int32)) _ _ ls hf hP hD hS (lv_sub hl [3, 1, 0] rfl)
  have L10 : ∀ (n : Nat), ∀ (M_h : Mem) (x1 : Int32) (x2 : Int32) (x3 : Int32) (x4 : Int32) (H : Heap) (locs : List Loc) (ls : Array Slot), f_X2_takeSlips_L10 n M_h x1 x2 x3 x4 = some R_h → va_P (dC, dI) vwCl (wX2 cyB cyI cyZ cyO h h_rank h_widow h_slips h_given h_silver h_returns h_rents h_share h_rest M_h) H → va_D A (wX2 cyB cyI cyZ cyO h h_rank h_widow h_slips h_given h_silver h_returns h_rents h_share h_rest M_h) → va_S A s.heap H locs → lv_has ls 6 [(0, .ref h), (1, .int x1), (2, .int x2), (3, .int x3), (4, .int x4)] → W p l e (headSpec wsX2_takeSlips ({ frames := 2, cells := 0, slots := 0, locals := 81 } : Room)).room s m ([.ref h, .int p1, .int p2] : List Value).toArray below meth c H locs 0 0 (MQ below (QW dC dI none (wX2 cyB cyI cyZ cyO h h_rank h_widow h_slips h_given h_silver h_returns h_rents h_share h_rest R_h) A) ([.ref h, .int p1, .int p2] : List Value).toArray s 0 0 A) (F0 m 10 ls []) := by
    intro n
    induction n with
    | zero => intro M_h x1 x2 x3 x4 H locs ls hf hP hD hS hl; rw [f_X2_takeSlips_L10] at hf; cases hf
    | succ n ih =>
      intro M_h x1 x2 x3 x4 H locs ls hf hP hD hS hl
      rw [f_X2_takeSlips_L10] at hf
      refine lv_iload hx hb dX2_takeSlips_10 (lv_at hl 4 rfl) ?_
      refine lv_aload_n hx hb dX2_takeSlips_12 rfl (lv_at hl 0 rfl) ?_
      refine va_get (D := (dC, dI)) (ci := 2) (v := .int (M_h 0 0)) (C := RX2) (T := TX2) (N := 10) hx hb hts hin2 hown hK hP 0 rfl rfl 0 (by decide) kf9 (fun _ h9 => h9) rfl dX2_takeSlips_13 ?_
      refine lv_icmp_ge (tgt := 71) hx hb dX2_takeSlips_16 (by decide) (fun hc16 => ?_) (fun hc16 => ?_)
      · rw [if_pos hc16] at hf
        refine lv_iconst (v := (0 : Int32)) hx hb dX2_takeSlips_71 (by decide) ?_
        refine lv_istore (lv' := [(4, .int (0 : Int32)), (0, .ref h), (1, .int x1), (2, .int x2), (3, .int x3)]) hx hb dX2_takeSlips_72 hl (by decide) rfl (fun ls hl => ?_)
        exact L74 FU M_h x3 (0 : Int32) _ _ ls hf hP hD hS (lv_sub hl [1, 4, 0] rfl)
      · rw [if_neg hc16] at hf
        refine lv_aload_n hx hb dX2_takeSlips_19 rfl (lv_at hl 0 rfl) ?_
        refine va_get (D := (dC, dI)) (ci := 2) (v := .ref h_given) (C := RX2) (T := TX2) (N := 10) hx hb hts hin2 hown hK hP 0 rfl rfl 4 (by decide) kf25 (fun _ h9 => h9) rfl dX2_takeSlips_20 ?_
        refine lv_iload hx hb dX2_takeSlips_23 (lv_at hl 4 rfl) ?_
        refine lv_iload_n hx hb dX2_takeSlips_25 rfl (lv_at hl 1 rfl) ?_
        refine lv_aload_n hx hb dX2_takeSlips_26 rfl (lv_at hl 0 rfl) ?_
        refine va_get (D := (dC, dI)) (ci := 2) (v := .ref h_share) (C := RX2) (T := TX2) (N := 10) hx hb hts hin2 hown hK hP 0 rfl rfl 8 (by decide) kf37 (fun _ h9 => h9) rfl dX2_takeSlips_27 ?_
        refine lv_iload hx hb dX2_takeSlips_30 (lv_at hl 4 rfl) ?_
        have hi32 := if_no hf
        rw [if_neg hi32] at hf
        refine va_iald hx hb hK hP 8 1 rfl rfl hi32 dX2_takeSlips_32 ?_
        refine lv_imul hx hb dX2_takeSlips_33 ?_
        refine lv_iload_n hx hb dX2_takeSlips_34 rfl (lv_at hl 2 rfl) ?_
        have hz35 := if_no hf
        rw [if_neg hz35] at hf
        refine lv_idiv hx hb dX2_takeSlips_35 hz35 ?_
        refine va_iast hx hb hK hP hD hS 4 1 rfl rfl hi32 dX2_takeSlips_36 (fun H locs hP hD hS => ?_)
        obtain ⟨M_h_36, eM_h_36, hf⟩ := wr_some hf
        have hP : va_P (dC, dI) vwCl (wX2 cyB cyI cyZ cyO h h_rank h_widow h_slips h_given h_silver h_returns h_rents h_share h_rest M_h_36) H := by rw [eM_h_36]; exact hP
        have hD : va_D A (wX2 cyB cyI cyZ cyO h h_rank h_widow h_slips h_given h_silver h_returns h_rents h_share h_rest M_h_36) := by rw [eM_h_36]; exact hD
        refine lv_aload_n hx hb dX2_takeSlips_37 rfl (lv_at hl 0 rfl) ?_
        refine va_get (D := (dC, dI)) (ci := 2) (v := .ref h_rest) (C := RX2) (T := TX2) (N := 10) hx hb hts hin2 hown hK hP 0 rfl rfl 9 (by decide) kf40 (fun _ h9 => h9) rfl dX2_takeSlips_38 ?_
        refine lv_iload hx hb dX2_takeSlips_41 (lv_at hl 4 rfl) ?_
        refine lv_iload_n hx hb dX2_takeSlips_43 rfl (lv_at hl 1 rfl) ?_
        refine lv_aload_n hx hb dX2_takeSlips_44 rfl (lv_at hl 0 rfl) ?_
        refine va_get (D := (dC, dI)) (ci := 2) (v := .ref h_share) (C := RX2) (T := TX2) (N := 10) hx hb hts hin2 hown hK hP 0 rfl rfl 8 (by decide) kf37 (fun _ h9 => h9) rfl dX2_takeSlips_45 ?_
        refine lv_iload hx hb dX2_takeSlips_48 (lv_at hl 4 rfl) ?_
        refine va_iald hx hb hK hP 8 1 rfl rfl hi32 dX2_takeSlips_50 ?_
        refine lv_imul hx hb dX2_takeSlips_51 ?_
        refine lv_iload_n hx hb dX2_takeSlips_52 rfl (lv_at hl 2 rfl) ?_
        have hz53 := if_no hf
        rw [if_neg hz53] at hf
        refine lv_irem hx hb dX2_takeSlips_53 hz53 ?_
        refine va_iast hx hb hK hP hD hS 9 1 rfl rfl hi32 dX2_takeSlips_54 (fun H locs hP hD hS => ?_)
        obtain ⟨M_h_54, eM_h_54, hf⟩ := wr_some hf
        have hP : va_P (dC, dI) vwCl (wX2 cyB cyI cyZ cyO h h_rank h_widow h_slips h_given h_silver h_returns h_rents h_share h_rest M_h_54) H := by rw [eM_h_54]; exact hP
        have hD : va_D A (wX2 cyB cyI cyZ cyO h h_rank h_widow h_slips h_given h_silver h_returns h_rents h_share h_rest M_h_54) := by rw [eM_h_54]; exact hD
        refine lv_iload_n hx hb dX2_takeSlips_55 rfl (lv_at hl 3 rfl) ?_
        refine lv_aload_n hx hb dX2_takeSlips_56 rfl (lv_at hl 0 rfl) ?_
        refine va_get (D := (dC, dI)) (ci := 2) (v := .ref h_given) (C := RX2) (T := TX2) (N := 10) hx hb hts hin2 hown hK hP 0 rfl rfl 4 (by decide) kf25 (fun _ h9 => h9) rfl dX2_takeSlips_57 ?_
        refine lv_iload hx hb dX2_takeSlips_60 (lv_at hl 4 rfl) ?_
        refine va_iald hx hb hK hP 4 1 rfl rfl hi32 dX2_takeSlips_62 ?_
        refine lv_isub hx hb dX2_takeSlips_63 ?_
        refine lv_istore_n (lv' := [(3, .int (x3 - (M_h_54 4 (x4).toNatClampNeg))), (0, .ref h), (1, .int x1), (2, .int x2), (4, .int x4)]) hx hb dX2_takeSlips_64 rfl hl (by decide) rfl (fun ls hl => ?_)
        refine lv_iinc (v := (x4 + (1 : Int32))) (lv' := [(4, .int (x4 + (1 : Int32))), (3, .int (x3 - (M_h_54 4 (x4).toNatClampNeg))), (0, .ref h), (1, .int x1), (2, .int x2)]) hx hb dX2_takeSlips_65 hl (k := 4) rfl rfl (by decide) rfl (fun ls hl => ?_)
        refine lv_goto (tgt := 10) hx hb dX2_takeSlips_68 (by decide) ?_
        exact ih M_h_54 x1 x2 (x3 - (M_h_54 4 (x4).toNatClampNeg)) (x4 + (1 : Int32)) _ _ ls hf hP hD hS (lv_sub hl [2, 3, 4, 1, 0] rfl)
  rw [f_X2_takeSlips] at hf
  refine lv_iload_n hx hb dX2_takeSlips_0 rfl (lv_at hl 2 rfl) ?_
  refine lv_if_gt (tgt := 5) hx hb dX2_takeSlips_1 (by decide) (fun hc1 => ?_) (fun hc1 => ?_)
  · rw [if_pos hc1] at hf
    refine lv_iload_n hx hb dX2_takeSlips_5 rfl (lv_at hl 1 rfl) ?_
    refine lv_istore_n (lv' := [(3, .int p1), (0, .ref h), (1, .int p1), (2, .int p2)]) hx hb dX2_takeSlips_6 rfl hl (by decide) rfl (fun ls hl => ?_)
    refine lv_iconst (v := (0 : Int32)) hx hb dX2_takeSlips_7 (by decide) ?_
    refine lv_istore (lv' := [(4, .int (0 : Int32)), (3, .int p1), (0, .ref h), (1, .int p1), (2, .int p2)]) hx hb dX2_takeSlips_8 hl (by decide) rfl (fun ls hl => ?_)
    exact L10 FU M_h p1 p2 p1 (0 : Int32) _ _ ls hf hP hD hS (lv_sub hl [2, 3, 4, 1, 0] rfl)
  · rw [if_neg hc1] at hf
    have hq := Option.some.inj hf
    subst hq
    exact W.vret hx hb hr (fun t ht hW => ⟨rfl, by rw [ht]; exact hP, hD, hS.F ht⟩) hS.2.2 dX2_takeSlips_4
set_option maxHeartbeats 4000000 in
set_option maxRecDepth 100000 in
theorem c_X3_agrees (l : Launch) (dC : Nat → ClassId) (dI : Nat → Nat → Nat) (cyB cyI cyZ cyO : ClassId) (p0 : Int32) (p1 : Int32) (p2 : Int32) (r : Int32) (hf : f_X3_agrees p0 p1 p2 = some r) : Met l yX3_agrees wsX3_agrees ({ frames := 0, cells := 0, slots := 0, locals := 0 } : Room) (PR dC dI cyB cyI cyZ cyO ([.int p0, .int p1, .int p2] : List Value) ([] : va_W)) (QR (some (.int r))) 0 0 (fun _ => False) := by
  refine Met.ofW (cc := cX3_agrees) (maxL := 3) (ret := (some .boolean)) (by decide) rfl ?_
  intro p e s m args below meth c s₁ B hml hv
  obtain ⟨rfl, hP, hCx⟩ := hv
  have hK := hCx.1
  have hN := hCx.2
  have hx := B.exec
  have hb := B.bytes
  have hr := B.returns
  have hts := atoms_spec (ws := wsX3_agrees) B.pre
  have hown : s.vm.findClass RX3 = some m.cls := findClass_of_methodNamed B.named
  have hlocks := B.notSynchronized
  have hl := lv_entry ([.int p0, .int p1, .int p2] : List Value) (n := 3) (Nat.le_of_ble_eq_true rfl)
  rw [lg_entry_eq]
  generalize (lg_sl ([.int p0, .int p1, .int p2] : List Value) ++ List.replicate (3 - (lg_sl ([.int p0, .int p1, .int p2] : List Value)).length) Slot.unset).toArray = ls at hl ⊢
  have hl : lv_has ls 3 [(0, .int p0), (1, .int p1), (2, .int p2)] := hl
  rw [f_X3_agrees] at hf
  refine lv_iload_n hx hb dX3_agrees_0 rfl (lv_at hl 1 rfl) ?_
  by_cases hs1_0 : p1 = (60 : Int32)
  · rw [if_pos hs1_0] at hf
    refine lv_lookup (off := 27) (tgt := 28) hx hb dX3_agrees_1 (by decide) (by rw [hs1_0]; rfl) (by decide) ?_
    refine lv_iload_n hx hb dX3_agrees_28 rfl (lv_at hl 0 rfl) ?_
    refine lv_iload_n hx hb dX3_agrees_29 rfl (lv_at hl 2 rfl) ?_
    refine lv_icmp_ge (tgt := 37) hx hb dX3_agrees_30 (by decide) (fun hc30 => ?_) (fun hc30 => ?_)
    · rw [if_pos hc30] at hf
      refine lv_iconst (v := (0 : Int32)) hx hb dX3_agrees_37 (by decide) ?_
      have hq := Option.some.inj hf
      subst hq
      exact W.zret (v := (0 : Int32)) hx hb hr rfl (fun t ht hW => ⟨rfl, ht⟩) (fun q h => by cases h) dX3_agrees_38
    · rw [if_neg hc30] at hf
      refine lv_iconst (v := (1 : Int32)) hx hb dX3_agrees_33 (by decide) ?_
      refine lv_goto (tgt := 38) hx hb dX3_agrees_34 (by decide) ?_
      have hq := Option.some.inj hf
      subst hq
      exact W.zret (v := (1 : Int32)) hx hb hr rfl (fun t ht hW => ⟨rfl, ht⟩) (fun q h => by cases h) dX3_agrees_38
  · rw [if_neg hs1_0] at hf
    by_cases hs1_1 : p1 = (62 : Int32)
    · rw [if_pos hs1_1] at hf
      refine lv_lookup (off := 38) (tgt := 39) hx hb dX3_agrees_1 (by decide) (by rw [hs1_1]; rfl) (by decide) ?_
      refine lv_iload_n hx hb dX3_agrees_39 rfl (lv_at hl 0 rfl) ?_
      refine lv_iload_n hx hb dX3_agrees_40 rfl (lv_at hl 2 rfl) ?_
      refine lv_icmp_le (tgt := 48) hx hb dX3_agrees_41 (by decide) (fun hc41 => ?_) (fun hc41 => ?_)
      · rw [if_pos hc41] at hf
        refine lv_iconst (v := (0 : Int32)) hx hb dX3_agrees_48 (by decide) ?_
        have hq := Option.some.inj hf
        subst hq
        exact W.zret (v := (0 : Int32)) hx hb hr rfl (fun t ht hW => ⟨rfl, ht⟩) (fun q h => by cases h) dX3_agrees_49
      · rw [if_neg hc41] at hf
        refine lv_iconst (v := (1 : Int32)) hx hb dX3_agrees_44 (by decide) ?_
        refine lv_goto (tgt := 49) hx hb dX3_agrees_45 (by decide) ?_
        have hq := Option.some.inj hf
        subst hq
        exact W.zret (v := (1 : Int32)) hx hb hr rfl (fun t ht hW => ⟨rfl, ht⟩) (fun q h => by cases h) dX3_agrees_49
    · rw [if_neg hs1_1] at hf
      refine lv_lookup (off := 49) (tgt := 50) hx hb dX3_agrees_1 (by decide) (by rw [lv_osw hs1_0 (show (60 : Int32).toInt = 60 by decide), lv_osw hs1_1 (show (62 : Int32).toInt = 62 by decide)]; rfl) (by decide) ?_
      refine lv_iload_n hx hb dX3_agrees_50 rfl (lv_at hl 0 rfl) ?_
      refine lv_iload_n hx hb dX3_agrees_51 rfl (lv_at hl 2 rfl) ?_
      refine lv_icmp_ne (tgt := 59) hx hb dX3_agrees_52 (by decide) (fun hc52 => ?_) (fun hc52 => ?_)
      · rw [if_neg hc52] at hf
        refine lv_iconst (v := (0 : Int32)) hx hb dX3_agrees_59 (by decide) ?_
        have hq := Option.some.inj hf
        subst hq
        exact W.zret (v := (0 : Int32)) hx hb hr rfl (fun t ht hW => ⟨rfl, ht⟩) (fun q h => by cases h) dX3_agrees_60
      · rw [if_pos hc52] at hf
        refine lv_iconst (v := (1 : Int32)) hx hb dX3_agrees_55 (by decide) ?_
        refine lv_goto (tgt := 60) hx hb dX3_agrees_56 (by decide) ?_
        have hq := Option.some.inj hf
        subst hq
        exact W.zret (v := (1 : Int32)) hx hb hr rfl (fun t ht hW => ⟨rfl, ht⟩) (fun q h => by cases h) dX3_agrees_60
set_option maxHeartbeats 4000000 in
set_option maxRecDepth 100000 in
theorem c_X3_subjectOf (l : Launch) (dC : Nat → ClassId) (dI : Nat → Nat → Nat) (cyB cyI cyZ cyO : ClassId) (a1 a1_rank a1_widow a1_slips a1_given a1_silver a1_returns a1_rents a1_share a1_rest : Nat) (M_a1 : Mem) (p0 : Int32) (p2 : Int32) (p3 : Int32) (p4 : Int32) (r : Int32) (hf : f_X3_subjectOf M_a1 p0 p2 p3 p4 = some r) : Met l yX3_subjectOf wsX3_subjectOf ({ frames := 0, cells := 0, slots := 0, locals := 0 } : Room) (PR dC dI cyB cyI cyZ cyO ([.int p0, .ref a1, .int p2, .int p3, .int p4] : List Value) (wX2 cyB cyI cyZ cyO a1 a1_rank a1_widow a1_slips a1_given a1_silver a1_returns a1_rents a1_share a1_rest M_a1)) (QR (some (.int r))) 0 0 (fun _ => False) := by
  refine Met.ofW (cc := cX3_subjectOf) (maxL := 5) (ret := (some .int)) (by decide) rfl ?_
  intro p e s m args below meth c s₁ B hml hv
  obtain ⟨rfl, hP, hCx⟩ := hv
  have hK := hCx.1
  have hN := hCx.2
  have hx := B.exec
  have hb := B.bytes
  have hr := B.returns
  have hts := atoms_spec (ws := wsX3_subjectOf) B.pre
  have hown : s.vm.findClass RX3 = some m.cls := findClass_of_methodNamed B.named
  have hlocks := B.notSynchronized
  have hin2 : ∀ w ∈ u_ws RX2 TX2 10, w ∈ wsX3_subjectOf := fun w h => List.mem_cons_of_mem _ (List.mem_append_right _ h)
  have kf59 := hts (.fieldLink RX3 59 "HoldSlips$Citizens" "rank" "[I") (by decide +kernel)
  have kf64 := hts (.fieldLink RX3 64 "HoldSlips$Citizens" "given" "[I") (by decide +kernel)
  have kf67 := hts (.fieldLink RX3 67 "HoldSlips$Citizens" "widow" "[I") (by decide +kernel)
  have hl := lv_entry ([.int p0, .ref a1, .int p2, .int p3, .int p4] : List Value) (n := 5) (Nat.le_of_ble_eq_true rfl)
  rw [lg_entry_eq]
  generalize (lg_sl ([.int p0, .ref a1, .int p2, .int p3, .int p4] : List Value) ++ List.replicate (5 - (lg_sl ([.int p0, .ref a1, .int p2, .int p3, .int p4] : List Value)).length) Slot.unset).toArray = ls at hl ⊢
  have hl : lv_has ls 5 [(0, .int p0), (1, .ref a1), (2, .int p2), (3, .int p3), (4, .int p4)] := hl
  rw [f_X3_subjectOf] at hf
  refine lv_iload_n hx hb dX3_subjectOf_0 rfl (lv_at hl 0 rfl) ?_
  by_cases hs1_0 : p0 = (2 : Int32)
  · rw [if_pos hs1_0] at hf
    refine lv_tableIn (off := 31) (tgt := 32) hx hb dX3_subjectOf_1 (by rw [hs1_0]; decide) (by rw [hs1_0]; decide) (by rw [hs1_0]; rfl) (by decide) ?_
    refine lv_aload_n hx hb dX3_subjectOf_32 rfl (lv_at hl 1 rfl) ?_
    refine va_get (D := (dC, dI)) (ci := 2) (v := .ref a1_rank) (C := RX2) (T := TX2) (N := 10) hx hb hts hin2 hown hK hP 0 rfl rfl 1 (by decide) kf59 (fun _ h9 => h9) rfl dX3_subjectOf_33 ?_
    refine lv_iload_n hx hb dX3_subjectOf_36 rfl (lv_at hl 2 rfl) ?_
    have hi37 := if_no hf
    rw [if_neg hi37] at hf
    refine va_iald hx hb hK hP 1 1 rfl rfl hi37 dX3_subjectOf_37 ?_
    have hq := Option.some.inj hf
    subst hq
    exact W.iret (v := (M_a1 1 (p2).toNatClampNeg)) hx hb hr (fun t ht hW => ⟨rfl, ht⟩) (fun q h => by cases h) dX3_subjectOf_38
  · rw [if_neg hs1_0] at hf
    by_cases hs1_1 : p0 = (3 : Int32)
    · rw [if_pos hs1_1] at hf
      refine lv_tableIn (off := 38) (tgt := 39) hx hb dX3_subjectOf_1 (by rw [hs1_1]; decide) (by rw [hs1_1]; decide) (by rw [hs1_1]; rfl) (by decide) ?_
      refine lv_iload_n hx hb dX3_subjectOf_39 rfl (lv_at hl 3 rfl) ?_
      have hq := Option.some.inj hf
      subst hq
      exact W.iret (v := p3) hx hb hr (fun t ht hW => ⟨rfl, ht⟩) (fun q h => by cases h) dX3_subjectOf_40
    · rw [if_neg hs1_1] at hf
      by_cases hs1_2 : p0 = (4 : Int32)
      · rw [if_pos hs1_2] at hf
        refine lv_tableIn (off := 40) (tgt := 41) hx hb dX3_subjectOf_1 (by rw [hs1_2]; decide) (by rw [hs1_2]; decide) (by rw [hs1_2]; rfl) (by decide) ?_
        refine lv_aload_n hx hb dX3_subjectOf_41 rfl (lv_at hl 1 rfl) ?_
        refine va_get (D := (dC, dI)) (ci := 2) (v := .ref a1_given) (C := RX2) (T := TX2) (N := 10) hx hb hts hin2 hown hK hP 0 rfl rfl 4 (by decide) kf64 (fun _ h9 => h9) rfl dX3_subjectOf_42 ?_
        refine lv_iload_n hx hb dX3_subjectOf_45 rfl (lv_at hl 2 rfl) ?_
        have hi46 := if_no hf
        rw [if_neg hi46] at hf
        refine va_iald hx hb hK hP 4 1 rfl rfl hi46 dX3_subjectOf_46 ?_
        have hq := Option.some.inj hf
        subst hq
        exact W.iret (v := (M_a1 4 (p2).toNatClampNeg)) hx hb hr (fun t ht hW => ⟨rfl, ht⟩) (fun q h => by cases h) dX3_subjectOf_47
      · rw [if_neg hs1_2] at hf
        by_cases hs1_3 : p0 = (5 : Int32)
        · rw [if_pos hs1_3] at hf
          refine lv_tableIn (off := 47) (tgt := 48) hx hb dX3_subjectOf_1 (by rw [hs1_3]; decide) (by rw [hs1_3]; decide) (by rw [hs1_3]; rfl) (by decide) ?_
          refine lv_iload hx hb dX3_subjectOf_48 (lv_at hl 4 rfl) ?_
          have hq := Option.some.inj hf
          subst hq
          exact W.iret (v := p4) hx hb hr (fun t ht hW => ⟨rfl, ht⟩) (fun q h => by cases h) dX3_subjectOf_50
        · rw [if_neg hs1_3] at hf
          refine lv_tableOut (tgt := 51) hx hb dX3_subjectOf_1 (by have z0 := lv_neT hs1_0 (show (2 : Int32).toInt = 2 by decide); have z1 := lv_neT hs1_1 (show (3 : Int32).toInt = 3 by decide); have z2 := lv_neT hs1_2 (show (4 : Int32).toInt = 4 by decide); have z3 := lv_neT hs1_3 (show (5 : Int32).toInt = 5 by decide); omega) (by decide) ?_
          refine lv_aload_n hx hb dX3_subjectOf_51 rfl (lv_at hl 1 rfl) ?_
          refine va_get (D := (dC, dI)) (ci := 2) (v := .ref a1_widow) (C := RX2) (T := TX2) (N := 10) hx hb hts hin2 hown hK hP 0 rfl rfl 2 (by decide) kf67 (fun _ h9 => h9) rfl dX3_subjectOf_52 ?_
          refine lv_iload_n hx hb dX3_subjectOf_55 rfl (lv_at hl 2 rfl) ?_
          have hi56 := if_no hf
          rw [if_neg hi56] at hf
          refine va_iald hx hb hK hP 2 1 rfl rfl hi56 dX3_subjectOf_56 ?_
          have hq := Option.some.inj hf
          subst hq
          exact W.iret (v := (M_a1 2 (p2).toNatClampNeg)) hx hb hr (fun t ht hW => ⟨rfl, ht⟩) (fun q h => by cases h) dX3_subjectOf_57
set_option maxHeartbeats 4000000 in
set_option maxRecDepth 100000 in
theorem c_X3_allHold (l : Launch) (dC : Nat → ClassId) (dI : Nat → Nat → Nat) (cyB cyI cyZ cyO : ClassId) (a2 a2_rank a2_widow a2_slips a2_given a2_silver a2_returns a2_rents a2_share a2_rest h h_action h_amount h_tests h_negated h_subject h_sign h_limit : Nat) (M_a2 : Mem) (M_h : Mem) (p1 : Int32) (p3 : Int32) (p4 : Int32) (p5 : Int32) (r : Int32) (hf : f_X3_allHold M_a2 M_h p1 p3 p4 p5 = some r) : Met l yX3_allHold wsX3_allHold ({ frames := 1, cells := 0, slots := 0, locals := 24 } : Room) (PR dC dI cyB cyI cyZ cyO ([.ref h, .int p1, .ref a2, .int p3, .int p4, .int p5] : List Value) ((wX2 cyB cyI cyZ cyO a2 a2_rank a2_widow a2_slips a2_given a2_silver a2_returns a2_rents a2_share a2_rest M_a2) ++ (wX3 cyB cyI cyZ cyO h h_action h_amount h_tests h_negated h_subject h_sign h_limit M_h))) (QR (some (.int r))) 0 0 (fun _ => False) := by
  refine Met.ofW (cc := cX3_allHold) (maxL := 9) (ret := (some .boolean)) (by decide) rfl ?_
  intro p e s m args below meth c s₁ B hml hv
  obtain ⟨rfl, hP, hCx⟩ := hv
  have hK := hCx.1
  have hN := hCx.2
  have hx := B.exec
  have hb := B.bytes
  have hr := B.returns
  have hts := atoms_spec (ws := wsX3_allHold) B.pre
  have hown : s.vm.findClass RX3 = some m.cls := findClass_of_methodNamed B.named
  have hlocks := B.notSynchronized
  have hin3 : ∀ w ∈ u_ws RX3 TX3 8, w ∈ wsX3_allHold := fun w h => List.mem_cons_of_mem _ (List.mem_append_left _ (List.mem_append_right _ h))
  have kf22 := hts (.fieldLink RX3 22 "HoldSlips$Decree" "tests" "[I") (by decide +kernel)
  have kf25 := hts (.fieldLink RX3 25 "HoldSlips$Decree" "negated" "[I") (by decide +kernel)
  have kf28 := hts (.fieldLink RX3 28 "HoldSlips$Decree" "subject" "[I") (by decide +kernel)
  have kf31 := hts (.fieldLink RX3 31 "HoldSlips$Decree" "sign" "[I") (by decide +kernel)
  have kf34 := hts (.fieldLink RX3 34 "HoldSlips$Decree" "limit" "[I") (by decide +kernel)
  have hl := lv_entry ([.ref h, .int p1, .ref a2, .int p3, .int p4, .int p5] : List Value) (n := 9) (Nat.le_of_ble_eq_true rfl)
  rw [lg_entry_eq]
  generalize (lg_sl ([.ref h, .int p1, .ref a2, .int p3, .int p4, .int p5] : List Value) ++ List.replicate (9 - (lg_sl ([.ref h, .int p1, .ref a2, .int p3, .int p4, .int p5] : List Value)).length) Slot.unset).toArray = ls at hl ⊢
  have hl : lv_has ls 9 [(0, .ref h), (1, .int p1), (2, .ref a2), (3, .int p3), (4, .int p4), (5, .int p5)] := hl
  have L9 : ∀ (n : Nat), ∀ (x1 : Int32) (x3 : Int32) (x4 : Int32) (x5 : Int32) (x6 : Int32) (x7 : Int32) (ls : Array Slot), f_X3_allHold_L9 n M_a2 M_h x1 x3 x4 x5 x6 x7 = some r → lv_has ls 9 [(0, .ref h), (1, .int x1), (2, .ref a2), (3, .int x3), (4, .int x4), (5, .int x5), (6, .int x6), (7, .int x7)] → W p l e (headSpec wsX3_allHold ({ frames := 1, cells := 0, slots := 0, locals := 24 } : Room)).room s m ([.ref h, .int p1, .ref a2, .int p3, .int p4, .int p5] : List Value).toArray below meth c s.heap [] 0 0 (MQ below (QR (some (.int r))) ([.ref h, .int p1, .ref a2, .int p3, .int p4, .int p5] : List Value).toArray s 0 0 (fun _ => False)) (F0 m 9 ls []) := by
    intro n
    induction n with
    | zero => intro x1 x3 x4 x5 x6 x7 ls hf hl; rw [f_X3_allHold_L9] at hf; cases hf
    | succ n ih =>
      intro x1 x3 x4 x5 x6 x7 ls hf hl
      rw [f_X3_allHold_L9] at hf
      refine lv_iload hx hb dX3_allHold_9 (lv_at hl 7 rfl) ?_
      refine lv_iload hx hb dX3_allHold_11 (lv_at hl 6 rfl) ?_
      refine lv_aload_n hx hb dX3_allHold_13 rfl (lv_at hl 0 rfl) ?_
      refine va_get (D := (dC, dI)) (ci := 3) (v := .ref h_tests) (C := RX3) (T := TX3) (N := 8) hx hb hts hin3 hown hK hP 10 rfl rfl 3 (by decide) kf22 (fun _ h9 => h9) rfl dX3_allHold_14 ?_
      refine lv_iload_n hx hb dX3_allHold_17 rfl (lv_at hl 1 rfl) ?_
      have hi18 := if_no hf
      rw [if_neg hi18] at hf
      refine va_iald hx hb hK hP 13 1 rfl rfl hi18 dX3_allHold_18 ?_
      refine lv_iadd hx hb dX3_allHold_19 ?_
      refine lv_icmp_ge (tgt := 87) hx hb dX3_allHold_20 (by decide) (fun hc20 => ?_) (fun hc20 => ?_)
      · rw [if_pos hc20] at hf
        refine lv_iconst (v := (1 : Int32)) hx hb dX3_allHold_87 (by decide) ?_
        have hq := Option.some.inj hf
        subst hq
        exact W.zret (v := (1 : Int32)) hx hb hr rfl (fun t ht hW => ⟨rfl, ht⟩) (fun q h => by cases h) dX3_allHold_88
      · rw [if_neg hc20] at hf
        refine lv_aload_n hx hb dX3_allHold_23 rfl (lv_at hl 0 rfl) ?_
        refine va_get (D := (dC, dI)) (ci := 3) (v := .ref h_subject) (C := RX3) (T := TX3) (N := 8) hx hb hts hin3 hown hK hP 10 rfl rfl 5 (by decide) kf28 (fun _ h9 => h9) rfl dX3_allHold_24 ?_
        refine lv_iload hx hb dX3_allHold_27 (lv_at hl 7 rfl) ?_
        have hi29 := if_no hf
        rw [if_neg hi29] at hf
        refine va_iald hx hb hK hP 15 1 rfl rfl hi29 dX3_allHold_29 ?_
        refine lv_aload_n hx hb dX3_allHold_30 rfl (lv_at hl 2 rfl) ?_
        refine lv_iload_n hx hb dX3_allHold_31 rfl (lv_at hl 3 rfl) ?_
        refine lv_iload hx hb dX3_allHold_32 (lv_at hl 4 rfl) ?_
        refine lv_iload hx hb dX3_allHold_34 (lv_at hl 5 rfl) ?_
        obtain ⟨r36, h36, hf⟩ := bd1_some hf
        have hPc := hP.sub (ws' := (wX2 cyB cyI cyZ cyO a2 a2_rank a2_widow a2_slips a2_given a2_silver a2_returns a2_rents a2_share a2_rest M_a2)) [0, 1, 2, 3, 4, 5, 6, 7, 8, 9] rfl
        refine ro_calli (va_runS (As := [.int (M_h 5 (x7).toNatClampNeg), .ref a2, .int x3, .int x4, .int x5]) (rest := []) ⟨hx, hb, hml, hown, hts⟩ (c_X3_subjectOf l dC dI cyB cyI cyZ cyO a2 a2_rank a2_widow a2_slips a2_given a2_silver a2_returns a2_rents a2_share a2_rest M_a2 (M_h 5 (x7).toNatClampNeg) x3 x4 x5 r36 h36) (va_cwS 5 hts gX3_allHold_X3_subjectOf rfl rfl rfl (by decide +kernel) ⟨Nat.le_of_ble_eq_true rfl, Nat.le_of_ble_eq_true rfl⟩) ⟨PR.blind, fun U hU hW => ⟨rfl, by rw [hU]; exact hPc, hCx.warm hW⟩⟩ rfl rfl hl.1 rfl (lv_room (Nat.le_of_ble_eq_true rfl)) dX3_allHold_36 ⟨Nat.zero_le _, Nat.zero_le _⟩) ?_
        refine lv_istore (lv' := [(8, .int r36), (0, .ref h), (1, .int x1), (2, .ref a2), (3, .int x3), (4, .int x4), (5, .int x5), (6, .int x6), (7, .int x7)]) hx hb dX3_allHold_39 hl (by decide) rfl (fun ls hl => ?_)
        refine lv_iload hx hb dX3_allHold_41 (lv_at hl 0 rfl) ?_
        refine lv_aload_n hx hb dX3_allHold_43 rfl (lv_at hl 1 rfl) ?_
        refine va_get (D := (dC, dI)) (ci := 3) (v := .ref h_sign) (C := RX3) (T := TX3) (N := 8) hx hb hts hin3 hown hK hP 10 rfl rfl 6 (by decide) kf31 (fun _ h9 => h9) rfl dX3_allHold_44 ?_
        refine lv_iload hx hb dX3_allHold_47 (lv_at hl 8 rfl) ?_
        refine va_iald hx hb hK hP 16 1 rfl rfl hi29 dX3_allHold_49 ?_
        refine lv_aload_n hx hb dX3_allHold_50 rfl (lv_at hl 1 rfl) ?_
        refine va_get (D := (dC, dI)) (ci := 3) (v := .ref h_limit) (C := RX3) (T := TX3) (N := 8) hx hb hts hin3 hown hK hP 10 rfl rfl 7 (by decide) kf34 (fun _ h9 => h9) rfl dX3_allHold_51 ?_
        refine lv_iload hx hb dX3_allHold_54 (lv_at hl 8 rfl) ?_
        refine va_iald hx hb hK hP 17 1 rfl rfl hi29 dX3_allHold_56 ?_
        obtain ⟨r57, h57, hf⟩ := bd1_some hf
        have hPc := hP.sub (ws' := ([] : va_W)) [] rfl
        refine ro_calli (va_runS (As := [.int r36, .int (M_h 6 (x7).toNatClampNeg), .int (M_h 7 (x7).toNatClampNeg)]) (rest := []) ⟨hx, hb, hml, hown, hts⟩ (c_X3_agrees l dC dI cyB cyI cyZ cyO r36 (M_h 6 (x7).toNatClampNeg) (M_h 7 (x7).toNatClampNeg) r57 h57) (va_cwS 3 hts gX3_allHold_X3_agrees rfl rfl rfl (by decide +kernel) ⟨Nat.le_of_ble_eq_true rfl, Nat.le_of_ble_eq_true rfl⟩) ⟨PR.blind, fun U hU hW => ⟨rfl, by rw [hU]; exact hPc, hCx.warm hW⟩⟩ rfl rfl hl.1 rfl (lv_room (Nat.le_of_ble_eq_true rfl)) dX3_allHold_57 ⟨Nat.zero_le _, Nat.zero_le _⟩) ?_
        refine lv_aload_n hx hb dX3_allHold_60 rfl (lv_at hl 1 rfl) ?_
        refine va_get (D := (dC, dI)) (ci := 3) (v := .ref h_negated) (C := RX3) (T := TX3) (N := 8) hx hb hts hin3 hown hK hP 10 rfl rfl 4 (by decide) kf25 (fun _ h9 => h9) rfl dX3_allHold_61 ?_
        refine lv_iload hx hb dX3_allHold_64 (lv_at hl 8 rfl) ?_
        refine va_iald hx hb hK hP 14 1 rfl rfl hi29 dX3_allHold_66 ?_
        refine lv_iconst (v := (1 : Int32)) hx hb dX3_allHold_67 (by decide) ?_
        refine lv_icmp_ne (tgt := 75) hx hb dX3_allHold_68 (by decide) (fun hc68 => ?_) (fun hc68 => ?_)
        · rw [if_neg hc68] at hf
          refine lv_iconst (v := (0 : Int32)) hx hb dX3_allHold_75 (by decide) ?_
          refine lv_icmp_ne (tgt := 81) hx hb dX3_allHold_76 (by decide) (fun hc76 => ?_) (fun hc76 => ?_)
          · rw [if_neg hc76] at hf
            refine lv_iinc (v := (x7 + (1 : Int32))) (lv' := [(7, .int (x7 + (1 : Int32))), (8, .int r36), (0, .ref h), (1, .int x1), (2, .ref a2), (3, .int x3), (4, .int x4), (5, .int x5), (6, .int x6)]) hx hb dX3_allHold_81 hl (k := 8) rfl rfl (by decide) rfl (fun ls hl => ?_)
            refine lv_goto (tgt := 9) hx hb dX3_allHold_84 (by decide) ?_
            exact ih x1 x3 x4 x5 x6 (x7 + (1 : Int32)) ls hf (lv_sub hl [2, 3, 4, 5, 6, 7, 8, 0] rfl)
          · rw [if_pos hc76] at hf
            refine lv_iconst (v := (0 : Int32)) hx hb dX3_allHold_79 (by decide) ?_
            have hq := Option.some.inj hf
            subst hq
            exact W.zret (v := (0 : Int32)) hx hb hr rfl (fun t ht hW => ⟨rfl, ht⟩) (fun q h => by cases h) dX3_allHold_80
        · rw [if_pos hc68] at hf
          refine lv_iconst (v := (1 : Int32)) hx hb dX3_allHold_71 (by decide) ?_
          refine lv_goto (tgt := 76) hx hb dX3_allHold_72 (by decide) ?_
          refine lv_icmp_ne (tgt := 81) hx hb dX3_allHold_76 (by decide) (fun hc76 => ?_) (fun hc76 => ?_)
          · rw [if_neg hc76] at hf
            refine lv_iinc (v := (x7 + (1 : Int32))) (lv' := [(7, .int (x7 + (1 : Int32))), (8, .int r36), (0, .ref h), (1, .int x1), (2, .ref a2), (3, .int x3), (4, .int x4), (5, .int x5), (6, .int x6)]) hx hb dX3_allHold_81 hl (k := 8) rfl rfl (by decide) rfl (fun ls hl => ?_)
            refine lv_goto (tgt := 9) hx hb dX3_allHold_84 (by decide) ?_
            exact ih x1 x3 x4 x5 x6 (x7 + (1 : Int32)) ls hf (lv_sub hl [2, 3, 4, 5, 6, 7, 8, 0] rfl)
          · rw [if_pos hc76] at hf
            refine lv_iconst (v := (0 : Int32)) hx hb dX3_allHold_79 (by decide) ?_
            have hq := Option.some.inj hf
            subst hq
            exact W.zret (v := (0 : Int32)) hx hb hr rfl (fun t ht hW => ⟨rfl, ht⟩) (fun q h => by cases h) dX3_allHold_80
  rw [f_X3_allHold] at hf
  refine lv_iload_n hx hb dX3_allHold_0 rfl (lv_at hl 1 rfl) ?_
  refine lv_iconst (v := (4 : Int32)) hx hb dX3_allHold_1 (by decide) ?_
  refine lv_imul hx hb dX3_allHold_2 ?_
  refine lv_istore (lv' := [(6, .int (p1 * (4 : Int32))), (0, .ref h), (1, .int p1), (2, .ref a2), (3, .int p3), (4, .int p4), (5, .int p5)]) hx hb dX3_allHold_3 hl (by decide) rfl (fun ls hl => ?_)
  refine lv_iload hx hb dX3_allHold_5 (lv_at hl 0 rfl) ?_
  refine lv_istore (lv' := [(7, .int (p1 * (4 : Int32))), (6, .int (p1 * (4 : Int32))), (0, .ref h), (1, .int p1), (2, .ref a2), (3, .int p3), (4, .int p4), (5, .int p5)]) hx hb dX3_allHold_7 hl (by decide) rfl (fun ls hl => ?_)
  exact L9 FU p1 p3 p4 p5 (p1 * (4 : Int32)) (p1 * (4 : Int32)) ls hf (lv_sub hl [2, 3, 4, 5, 6, 7, 1, 0] rfl)
set_option maxHeartbeats 4000000 in
set_option maxRecDepth 100000 in
theorem c_X3_shareFor (l : Launch) (dC : Nat → ClassId) (dI : Nat → Nat → Nat) (cyB cyI cyZ cyO : ClassId) (a1 a1_rank a1_widow a1_slips a1_given a1_silver a1_returns a1_rents a1_share a1_rest h h_action h_amount h_tests h_negated h_subject h_sign h_limit : Nat) (M_a1 : Mem) (M_h : Mem) (p2 : Int32) (p3 : Int32) (p4 : Int32) (r : Int32) (hf : f_X3_shareFor M_a1 M_h p2 p3 p4 = some r) : Met l yX3_shareFor wsX3_shareFor ({ frames := 2, cells := 0, slots := 0, locals := 52 } : Room) (PR dC dI cyB cyI cyZ cyO ([.ref h, .ref a1, .int p2, .int p3, .int p4] : List Value) ((wX2 cyB cyI cyZ cyO a1 a1_rank a1_widow a1_slips a1_given a1_silver a1_returns a1_rents a1_share a1_rest M_a1) ++ (wX3 cyB cyI cyZ cyO h h_action h_amount h_tests h_negated h_subject h_sign h_limit M_h))) (QR (some (.int r))) 0 0 (fun _ => False) := by
  refine Met.ofW (cc := cX3_shareFor) (maxL := 7) (ret := (some .int)) (by decide) rfl ?_
  intro p e s m args below meth c s₁ B hml hv
  obtain ⟨rfl, hP, hCx⟩ := hv
  have hK := hCx.1
  have hN := hCx.2
  have hx := B.exec
  have hb := B.bytes
  have hr := B.returns
  have hts := atoms_spec (ws := wsX3_shareFor) B.pre
  have hown : s.vm.findClass RX3 = some m.cls := findClass_of_methodNamed B.named
  have hlocks := B.notSynchronized
  have hin3 : ∀ w ∈ u_ws RX3 TX3 8, w ∈ wsX3_shareFor := fun w h => List.mem_cons_of_mem _ (List.mem_append_left _ (List.mem_append_right _ h))
  have kf9 := hts (.fieldLink RX3 9 "HoldSlips$Decree" "lines" "I") (by decide +kernel)
  have kf15 := hts (.fieldLink RX3 15 "HoldSlips$Decree" "action" "[I") (by decide +kernel)
  have kf19 := hts (.fieldLink RX3 19 "HoldSlips$Decree" "amount" "[I") (by decide +kernel)
  have hl := lv_entry ([.ref h, .ref a1, .int p2, .int p3, .int p4] : List Value) (n := 7) (Nat.le_of_ble_eq_true rfl)
  rw [lg_entry_eq]
  generalize (lg_sl ([.ref h, .ref a1, .int p2, .int p3, .int p4] : List Value) ++ List.replicate (7 - (lg_sl ([.ref h, .ref a1, .int p2, .int p3, .int p4] : List Value)).length) Slot.unset).toArray = ls at hl ⊢
  have hl : lv_has ls 7 [(0, .ref h), (1, .ref a1), (2, .int p2), (3, .int p3), (4, .int p4)] := hl
  have L6 : ∀ (n : Nat), ∀ (x2 : Int32) (x3 : Int32) (x4 : Int32) (x5 : Int32) (x6 : Int32) (ls : Array Slot), f_X3_shareFor_L6 n M_a1 M_h x2 x3 x4 x5 x6 = some r → lv_has ls 7 [(0, .ref h), (1, .ref a1), (2, .int x2), (3, .int x3), (4, .int x4), (5, .int x5), (6, .int x6)] → W p l e (headSpec wsX3_shareFor ({ frames := 2, cells := 0, slots := 0, locals := 52 } : Room)).room s m ([.ref h, .ref a1, .int p2, .int p3, .int p4] : List Value).toArray below meth c s.heap [] 0 0 (MQ below (QR (some (.int r))) ([.ref h, .ref a1, .int p2, .int p3, .int p4] : List Value).toArray s 0 0 (fun _ => False)) (F0 m 6 ls []) := by
    intro n
    induction n with
    | zero => intro x2 x3 x4 x5 x6 ls hf hl; rw [f_X3_shareFor_L6] at hf; cases hf
    | succ n ih =>
      intro x2 x3 x4 x5 x6 ls hf hl
      rw [f_X3_shareFor_L6] at hf
      refine lv_iload hx hb dX3_shareFor_6 (lv_at hl 6 rfl) ?_
      refine lv_aload_n hx hb dX3_shareFor_8 rfl (lv_at hl 0 rfl) ?_
      refine va_get (D := (dC, dI)) (ci := 3) (v := .int (M_h 0 0)) (C := RX3) (T := TX3) (N := 8) hx hb hts hin3 hown hK hP 10 rfl rfl 0 (by decide) kf9 (fun _ h9 => h9) rfl dX3_shareFor_9 ?_
      refine lv_icmp_ge (tgt := 86) hx hb dX3_shareFor_12 (by decide) (fun hc12 => ?_) (fun hc12 => ?_)
      · rw [if_pos hc12] at hf
        refine lv_iload hx hb dX3_shareFor_86 (lv_at hl 5 rfl) ?_
        have hq := Option.some.inj hf
        subst hq
        exact W.iret (v := x5) hx hb hr (fun t ht hW => ⟨rfl, ht⟩) (fun q h => by cases h) dX3_shareFor_88
      · rw [if_neg hc12] at hf
        refine lv_aload_n hx hb dX3_shareFor_15 rfl (lv_at hl 0 rfl) ?_
        refine lv_iload hx hb dX3_shareFor_16 (lv_at hl 6 rfl) ?_
        refine lv_aload_n hx hb dX3_shareFor_18 rfl (lv_at hl 1 rfl) ?_
        refine lv_iload_n hx hb dX3_shareFor_19 rfl (lv_at hl 2 rfl) ?_
        refine lv_iload_n hx hb dX3_shareFor_20 rfl (lv_at hl 3 rfl) ?_
        refine lv_iload hx hb dX3_shareFor_21 (lv_at hl 4 rfl) ?_
        obtain ⟨r23, h23, hf⟩ := bd1_some hf
        refine ro_calli (va_runV (As := [.int x6, .ref a1, .int x2, .int x3, .int x4]) (rest := []) ⟨hx, hb, hml, hown, hts⟩ (c_X3_allHold l dC dI cyB cyI cyZ cyO a1 a1_rank a1_widow a1_slips a1_given a1_silver a1_returns a1_rents a1_share a1_rest h h_action h_amount h_tests h_negated h_subject h_sign h_limit M_a1 M_h x6 x2 x3 x4 r23 h23) (cwV 5 hts gX3_shareFor_X3_allHold rfl rfl rfl (by decide +kernel) ⟨Nat.le_of_ble_eq_true rfl, Nat.le_of_ble_eq_true rfl⟩) ⟨PR.blind, va_recv hK hP (ci := 3) (q0 := 10) rfl rfl, fun U hU hW => ⟨rfl, by rw [hU]; exact hP, hCx.warm hW⟩⟩ rfl rfl hl.1 rfl (lv_room (Nat.le_of_ble_eq_true rfl)) dX3_shareFor_23 ⟨Nat.zero_le _, Nat.zero_le _⟩) ?_
        refine lv_if_ne (tgt := 32) hx hb dX3_shareFor_26 (by decide) (fun hc26 => ?_) (fun hc26 => ?_)
        · rw [if_neg hc26] at hf
          refine lv_aload_n hx hb dX3_shareFor_32 rfl (lv_at hl 0 rfl) ?_
          refine va_get (D := (dC, dI)) (ci := 3) (v := .ref h_action) (C := RX3) (T := TX3) (N := 8) hx hb hts hin3 hown hK hP 10 rfl rfl 1 (by decide) kf15 (fun _ h9 => h9) rfl dX3_shareFor_33 ?_
          refine lv_iload hx hb dX3_shareFor_36 (lv_at hl 6 rfl) ?_
          have hi38 := if_no hf
          rw [if_neg hi38] at hf
          refine va_iald hx hb hK hP 11 1 rfl rfl hi38 dX3_shareFor_38 ?_
          refine lv_bipush (v := (8 : Int32)) hx hb dX3_shareFor_39 (by decide) ?_
          refine lv_icmp_ne (tgt := 46) hx hb dX3_shareFor_41 (by decide) (fun hc41 => ?_) (fun hc41 => ?_)
          · rw [if_neg hc41] at hf
            refine lv_aload_n hx hb dX3_shareFor_46 rfl (lv_at hl 0 rfl) ?_
            refine va_get (D := (dC, dI)) (ci := 3) (v := .ref h_action) (C := RX3) (T := TX3) (N := 8) hx hb hts hin3 hown hK hP 10 rfl rfl 1 (by decide) kf15 (fun _ h9 => h9) rfl dX3_shareFor_47 ?_
            refine lv_iload hx hb dX3_shareFor_50 (lv_at hl 6 rfl) ?_
            refine va_iald hx hb hK hP 11 1 rfl rfl hi38 dX3_shareFor_52 ?_
            refine lv_bipush (v := (6 : Int32)) hx hb dX3_shareFor_53 (by decide) ?_
            refine lv_icmp_ne (tgt := 68) hx hb dX3_shareFor_55 (by decide) (fun hc55 => ?_) (fun hc55 => ?_)
            · rw [if_neg hc55] at hf
              refine lv_iload hx hb dX3_shareFor_68 (lv_at hl 5 rfl) ?_
              refine lv_aload_n hx hb dX3_shareFor_70 rfl (lv_at hl 0 rfl) ?_
              refine va_get (D := (dC, dI)) (ci := 3) (v := .ref h_amount) (C := RX3) (T := TX3) (N := 8) hx hb hts hin3 hown hK hP 10 rfl rfl 2 (by decide) kf19 (fun _ h9 => h9) rfl dX3_shareFor_71 ?_
              refine lv_iload hx hb dX3_shareFor_74 (lv_at hl 6 rfl) ?_
              refine va_iald hx hb hK hP 12 1 rfl rfl hi38 dX3_shareFor_76 ?_
              refine lv_iadd hx hb dX3_shareFor_77 ?_
              refine lv_istore (lv' := [(5, .int (x5 + (M_h 2 (x6).toNatClampNeg))), (0, .ref h), (1, .ref a1), (2, .int x2), (3, .int x3), (4, .int x4), (6, .int x6)]) hx hb dX3_shareFor_78 hl (by decide) rfl (fun ls hl => ?_)
              refine lv_iinc (v := (x6 + (1 : Int32))) (lv' := [(6, .int (x6 + (1 : Int32))), (5, .int (x5 + (M_h 2 (x6).toNatClampNeg))), (0, .ref h), (1, .ref a1), (2, .int x2), (3, .int x3), (4, .int x4)]) hx hb dX3_shareFor_80 hl (k := 6) rfl rfl (by decide) rfl (fun ls hl => ?_)
              refine lv_goto (tgt := 6) hx hb dX3_shareFor_83 (by decide) ?_
              exact ih x2 x3 x4 (x5 + (M_h 2 (x6).toNatClampNeg)) (x6 + (1 : Int32)) ls hf (lv_sub hl [2, 3, 4, 5, 6, 1, 0] rfl)
            · rw [if_pos hc55] at hf
              refine lv_aload_n hx hb dX3_shareFor_58 rfl (lv_at hl 0 rfl) ?_
              refine va_get (D := (dC, dI)) (ci := 3) (v := .ref h_amount) (C := RX3) (T := TX3) (N := 8) hx hb hts hin3 hown hK hP 10 rfl rfl 2 (by decide) kf19 (fun _ h9 => h9) rfl dX3_shareFor_59 ?_
              refine lv_iload hx hb dX3_shareFor_62 (lv_at hl 6 rfl) ?_
              refine va_iald hx hb hK hP 12 1 rfl rfl hi38 dX3_shareFor_64 ?_
              refine lv_goto (tgt := 78) hx hb dX3_shareFor_65 (by decide) ?_
              refine lv_istore (lv' := [(5, .int (M_h 2 (x6).toNatClampNeg)), (0, .ref h), (1, .ref a1), (2, .int x2), (3, .int x3), (4, .int x4), (6, .int x6)]) hx hb dX3_shareFor_78 hl (by decide) rfl (fun ls hl => ?_)
              refine lv_iinc (v := (x6 + (1 : Int32))) (lv' := [(6, .int (x6 + (1 : Int32))), (5, .int (M_h 2 (x6).toNatClampNeg)), (0, .ref h), (1, .ref a1), (2, .int x2), (3, .int x3), (4, .int x4)]) hx hb dX3_shareFor_80 hl (k := 6) rfl rfl (by decide) rfl (fun ls hl => ?_)
              refine lv_goto (tgt := 6) hx hb dX3_shareFor_83 (by decide) ?_
              exact ih x2 x3 x4 (M_h 2 (x6).toNatClampNeg) (x6 + (1 : Int32)) ls hf (lv_sub hl [2, 3, 4, 5, 6, 1, 0] rfl)
          · rw [if_pos hc41] at hf
            refine lv_iconst (v := (0 : Int32)) hx hb dX3_shareFor_44 (by decide) ?_
            have hq := Option.some.inj hf
            subst hq
            exact W.iret (v := (0 : Int32)) hx hb hr (fun t ht hW => ⟨rfl, ht⟩) (fun q h => by cases h) dX3_shareFor_45
        · rw [if_pos hc26] at hf
          refine lv_goto (tgt := 80) hx hb dX3_shareFor_29 (by decide) ?_
          refine lv_iinc (v := (x6 + (1 : Int32))) (lv' := [(6, .int (x6 + (1 : Int32))), (0, .ref h), (1, .ref a1), (2, .int x2), (3, .int x3), (4, .int x4), (5, .int x5)]) hx hb dX3_shareFor_80 hl (k := 6) rfl rfl (by decide) rfl (fun ls hl => ?_)
          refine lv_goto (tgt := 6) hx hb dX3_shareFor_83 (by decide) ?_
          exact ih x2 x3 x4 x5 (x6 + (1 : Int32)) ls hf (lv_sub hl [1, 2, 3, 4, 5, 6, 0] rfl)
  rw [f_X3_shareFor] at hf
  refine lv_iconst (v := (0 : Int32)) hx hb dX3_shareFor_0 (by decide) ?_
  refine lv_istore (lv' := [(5, .int (0 : Int32)), (0, .ref h), (1, .ref a1), (2, .int p2), (3, .int p3), (4, .int p4)]) hx hb dX3_shareFor_1 hl (by decide) rfl (fun ls hl => ?_)
  refine lv_iconst (v := (0 : Int32)) hx hb dX3_shareFor_3 (by decide) ?_
  refine lv_istore (lv' := [(6, .int (0 : Int32)), (5, .int (0 : Int32)), (0, .ref h), (1, .ref a1), (2, .int p2), (3, .int p3), (4, .int p4)]) hx hb dX3_shareFor_4 hl (by decide) rfl (fun ls hl => ?_)
  exact L6 FU p2 p3 p4 (0 : Int32) (0 : Int32) ls hf (lv_sub hl [2, 3, 4, 5, 6, 1, 0] rfl)
set_option maxHeartbeats 4000000 in
set_option maxRecDepth 100000 in
theorem c_X2_has (l : Launch) (dC : Nat → ClassId) (dI : Nat → Nat → Nat) (cyB cyI cyZ cyO : ClassId) (h h_rank h_widow h_slips h_given h_silver h_returns h_rents h_share h_rest : Nat) (M_h : Mem) (p1 : Int32) (r : Int32) (hf : f_X2_has M_h p1 = some r) : Met l yX2_has wsX2_has ({ frames := 1, cells := 0, slots := 0, locals := 22 } : Room) (PR dC dI cyB cyI cyZ cyO ([.ref h, .int p1] : List Value) (wX2 cyB cyI cyZ cyO h h_rank h_widow h_slips h_given h_silver h_returns h_rents h_share h_rest M_h)) (QR (some (.int r))) 0 0 (fun _ => False) := by
  refine Met.ofW (cc := cX2_has) (maxL := 2) (ret := (some .boolean)) (by decide) rfl ?_
  intro p e s m args below meth c s₁ B hml hv
  obtain ⟨rfl, hP, hCx⟩ := hv
  have hK := hCx.1
  have hN := hCx.2
  have hx := B.exec
  have hb := B.bytes
  have hr := B.returns
  have hts := atoms_spec (ws := wsX2_has) B.pre
  have hown : s.vm.findClass RX2 = some m.cls := findClass_of_methodNamed B.named
  have hlocks := B.notSynchronized
  have hin2 : ∀ w ∈ u_ws RX2 TX2 10, w ∈ wsX2_has := fun w h => List.mem_cons_of_mem _ (List.mem_append_right _ h)
  have kf9 := hts (.fieldLink RX2 9 "HoldSlips$Citizens" "number" "I") (by decide +kernel)
  have hl := lv_entry ([.ref h, .int p1] : List Value) (n := 2) (Nat.le_of_ble_eq_true rfl)
  rw [lg_entry_eq]
  generalize (lg_sl ([.ref h, .int p1] : List Value) ++ List.replicate (2 - (lg_sl ([.ref h, .int p1] : List Value)).length) Slot.unset).toArray = ls at hl ⊢
  have hl : lv_has ls 2 [(0, .ref h), (1, .int p1)] := hl
  rw [f_X2_has] at hf
  refine lv_iload_n hx hb dX2_has_0 rfl (lv_at hl 1 rfl) ?_
  refine lv_iconst (v := (0 : Int32)) hx hb dX2_has_1 (by decide) ?_
  refine lv_aload_n hx hb dX2_has_2 rfl (lv_at hl 0 rfl) ?_
  refine va_get (D := (dC, dI)) (ci := 2) (v := .int (M_h 0 0)) (C := RX2) (T := TX2) (N := 10) hx hb hts hin2 hown hK hP 0 rfl rfl 0 (by decide) kf9 (fun _ h9 => h9) rfl dX2_has_3 ?_
  refine lv_iconst (v := (1 : Int32)) hx hb dX2_has_6 (by decide) ?_
  refine lv_isub hx hb dX2_has_7 ?_
  obtain ⟨r8, h8, hf⟩ := bd1_some hf
  have hPc := hP.sub (ws' := ([] : va_W)) [] rfl
  refine ro_calli (va_runSN (As := [.int p1, .int (0 : Int32), .int ((M_h 0 0) - (1 : Int32))]) (rest := []) ⟨hx, hb, hml, hown, hts⟩ (c_X11_within l dC dI cyB cyI cyZ cyO p1 (0 : Int32) ((M_h 0 0) - (1 : Int32)) r8 h8) ⟨va_cnB 3 hts gX2_has_X11_within_n47 rfl rfl rfl (hN _ (by decide +kernel : Cond.methodLinkNest RX2 47 yX11_within "HoldSlips" ∈ nw_all)) (hts (.initialized RX11) (by decide +kernel)) (by decide +kernel) ⟨Nat.le_of_ble_eq_true rfl, Nat.le_of_ble_eq_true rfl⟩, hts (.static yX11_within) (by decide +kernel), trivial⟩ ⟨PR.blind, fun U hU hW => ⟨rfl, by rw [hU]; exact hPc, hCx.warm hW⟩⟩ rfl rfl hl.1 rfl (lv_room (Nat.le_of_ble_eq_true rfl)) dX2_has_8 ⟨Nat.zero_le _, Nat.zero_le _⟩) ?_
  have hb11 := Decidable.not_not.mp (if_no hf)
  rw [if_neg (not_not_intro hb11)] at hf
  have hq := Option.some.inj hf
  subst hq
  exact W.zret (v := r8) hx hb hr (nar_b hb11) (fun t ht hW => ⟨rfl, ht⟩) (fun q h => by cases h) dX2_has_11
set_option maxHeartbeats 4000000 in
set_option maxRecDepth 100000 in
theorem c_X2_areTwo (l : Launch) (dC : Nat → ClassId) (dI : Nat → Nat → Nat) (cyB cyI cyZ cyO : ClassId) (h h_rank h_widow h_slips h_given h_silver h_returns h_rents h_share h_rest : Nat) (M_h : Mem) (p1 : Int32) (p2 : Int32) (r : Int32) (hf : f_X2_areTwo M_h p1 p2 = some r) : Met l yX2_areTwo wsX2_areTwo ({ frames := 2, cells := 0, slots := 0, locals := 43 } : Room) (PR dC dI cyB cyI cyZ cyO ([.ref h, .int p1, .int p2] : List Value) (wX2 cyB cyI cyZ cyO h h_rank h_widow h_slips h_given h_silver h_returns h_rents h_share h_rest M_h)) (QR (some (.int r))) 0 0 (fun _ => False) := by
  refine Met.ofW (cc := cX2_areTwo) (maxL := 3) (ret := (some .boolean)) (by decide) rfl ?_
  intro p e s m args below meth c s₁ B hml hv
  obtain ⟨rfl, hP, hCx⟩ := hv
  have hK := hCx.1
  have hN := hCx.2
  have hx := B.exec
  have hb := B.bytes
  have hr := B.returns
  have hts := atoms_spec (ws := wsX2_areTwo) B.pre
  have hown : s.vm.findClass RX2 = some m.cls := findClass_of_methodNamed B.named
  have hlocks := B.notSynchronized
  have hl := lv_entry ([.ref h, .int p1, .int p2] : List Value) (n := 3) (Nat.le_of_ble_eq_true rfl)
  rw [lg_entry_eq]
  generalize (lg_sl ([.ref h, .int p1, .int p2] : List Value) ++ List.replicate (3 - (lg_sl ([.ref h, .int p1, .int p2] : List Value)).length) Slot.unset).toArray = ls at hl ⊢
  have hl : lv_has ls 3 [(0, .ref h), (1, .int p1), (2, .int p2)] := hl
  rw [f_X2_areTwo] at hf
  refine lv_aload_n hx hb dX2_areTwo_0 rfl (lv_at hl 0 rfl) ?_
  refine lv_iload_n hx hb dX2_areTwo_1 rfl (lv_at hl 1 rfl) ?_
  obtain ⟨r2, h2, hf⟩ := bd1_some hf
  refine ro_calli (va_runV (As := [.int p1]) (rest := []) ⟨hx, hb, hml, hown, hts⟩ (c_X2_has l dC dI cyB cyI cyZ cyO h h_rank h_widow h_slips h_given h_silver h_returns h_rents h_share h_rest M_h p1 r2 h2) (cwV 1 hts gX2_areTwo_X2_has rfl rfl rfl (by decide +kernel) ⟨Nat.le_of_ble_eq_true rfl, Nat.le_of_ble_eq_true rfl⟩) ⟨PR.blind, va_recv hK hP (ci := 2) (q0 := 0) rfl rfl, fun U hU hW => ⟨rfl, by rw [hU]; exact hP, hCx.warm hW⟩⟩ rfl rfl hl.1 rfl (lv_room (Nat.le_of_ble_eq_true rfl)) dX2_areTwo_2 ⟨Nat.zero_le _, Nat.zero_le _⟩) ?_
  refine lv_if_eq (tgt := 25) hx hb dX2_areTwo_5 (by decide) (fun hc5 => ?_) (fun hc5 => ?_)
  · rw [if_pos hc5] at hf
    refine lv_iconst (v := (0 : Int32)) hx hb dX2_areTwo_25 (by decide) ?_
    have hq := Option.some.inj hf
    subst hq
    exact W.zret (v := (0 : Int32)) hx hb hr rfl (fun t ht hW => ⟨rfl, ht⟩) (fun q h => by cases h) dX2_areTwo_26
  · rw [if_neg hc5] at hf
    refine lv_aload_n hx hb dX2_areTwo_8 rfl (lv_at hl 0 rfl) ?_
    refine lv_iload_n hx hb dX2_areTwo_9 rfl (lv_at hl 2 rfl) ?_
    obtain ⟨r10, h10, hf⟩ := bd1_some hf
    refine ro_calli (va_runV (As := [.int p2]) (rest := []) ⟨hx, hb, hml, hown, hts⟩ (c_X2_has l dC dI cyB cyI cyZ cyO h h_rank h_widow h_slips h_given h_silver h_returns h_rents h_share h_rest M_h p2 r10 h10) (cwV 1 hts gX2_areTwo_X2_has rfl rfl rfl (by decide +kernel) ⟨Nat.le_of_ble_eq_true rfl, Nat.le_of_ble_eq_true rfl⟩) ⟨PR.blind, va_recv hK hP (ci := 2) (q0 := 0) rfl rfl, fun U hU hW => ⟨rfl, by rw [hU]; exact hP, hCx.warm hW⟩⟩ rfl rfl hl.1 rfl (lv_room (Nat.le_of_ble_eq_true rfl)) dX2_areTwo_10 ⟨Nat.zero_le _, Nat.zero_le _⟩) ?_
    refine lv_if_eq (tgt := 25) hx hb dX2_areTwo_13 (by decide) (fun hc13 => ?_) (fun hc13 => ?_)
    · rw [if_pos hc13] at hf
      refine lv_iconst (v := (0 : Int32)) hx hb dX2_areTwo_25 (by decide) ?_
      have hq := Option.some.inj hf
      subst hq
      exact W.zret (v := (0 : Int32)) hx hb hr rfl (fun t ht hW => ⟨rfl, ht⟩) (fun q h => by cases h) dX2_areTwo_26
    · rw [if_neg hc13] at hf
      refine lv_iload_n hx hb dX2_areTwo_16 rfl (lv_at hl 1 rfl) ?_
      refine lv_iload_n hx hb dX2_areTwo_17 rfl (lv_at hl 2 rfl) ?_
      refine lv_icmp_eq (tgt := 25) hx hb dX2_areTwo_18 (by decide) (fun hc18 => ?_) (fun hc18 => ?_)
      · rw [if_pos hc18] at hf
        refine lv_iconst (v := (0 : Int32)) hx hb dX2_areTwo_25 (by decide) ?_
        have hq := Option.some.inj hf
        subst hq
        exact W.zret (v := (0 : Int32)) hx hb hr rfl (fun t ht hW => ⟨rfl, ht⟩) (fun q h => by cases h) dX2_areTwo_26
      · rw [if_neg hc18] at hf
        refine lv_iconst (v := (1 : Int32)) hx hb dX2_areTwo_21 (by decide) ?_
        refine lv_goto (tgt := 26) hx hb dX2_areTwo_22 (by decide) ?_
        have hq := Option.some.inj hf
        subst hq
        exact W.zret (v := (1 : Int32)) hx hb hr rfl (fun t ht hW => ⟨rfl, ht⟩) (fun q h => by cases h) dX2_areTwo_26
set_option maxHeartbeats 4000000 in
set_option maxRecDepth 100000 in
theorem c_X2_pay (l : Launch) (dC : Nat → ClassId) (dI : Nat → Nat → Nat) (cyB cyI cyZ cyO : ClassId) (h h_rank h_widow h_slips h_given h_silver h_returns h_rents h_share h_rest : Nat) (sz : Nat) (M_h : Mem) (p1 : Int32) (p2 : Int32) (p3 : Int32) (R_h : Mem) (hf : f_X2_pay M_h p1 p2 p3 = some R_h) : Met l yX2_pay wsX2_pay ({ frames := 0, cells := 0, slots := 0, locals := 0 } : Room) (PW dC dI cyB cyI cyZ cyO ([.ref h, .int p1, .int p2, .int p3] : List Value) (wX2 cyB cyI cyZ cyO h h_rank h_widow h_slips h_given h_silver h_returns h_rents h_share h_rest M_h) sz) (QW dC dI none (wX2 cyB cyI cyZ cyO h h_rank h_widow h_slips h_given h_silver h_returns h_rents h_share h_rest R_h) (va_A (wX2 cyB cyI cyZ cyO h h_rank h_widow h_slips h_given h_silver h_returns h_rents h_share h_rest M_h) sz)) 0 0 (va_A (wX2 cyB cyI cyZ cyO h h_rank h_widow h_slips h_given h_silver h_returns h_rents h_share h_rest M_h) sz) := by
  refine Met.ofW (cc := cX2_pay) (maxL := 4) (ret := none) (by decide) rfl ?_
  intro p e s m args below meth c s₁ B hml hv
  obtain ⟨rfl, hsz, hP, hCx, hD0⟩ := hv
  have hK := hCx.1
  have hN := hCx.2
  have hx := B.exec
  have hb := B.bytes
  have hr := B.returns
  have hts := atoms_spec (ws := wsX2_pay) B.pre
  have hown : s.vm.findClass RX2 = some m.cls := findClass_of_methodNamed B.named
  have hlocks := B.notSynchronized
  have hin2 : ∀ w ∈ u_ws RX2 TX2 10, w ∈ wsX2_pay := fun w h => List.mem_cons_of_mem _ (List.mem_append_right _ h)
  have kf28 := hts (.fieldLink RX2 28 "HoldSlips$Citizens" "silver" "[I") (by decide +kernel)
  subst hsz
  have hD := hD0.self (sz := s.heap.size)
  generalize hAe : va_A (wX2 cyB cyI cyZ cyO h h_rank h_widow h_slips h_given h_silver h_returns h_rents h_share h_rest M_h) s.heap.size = A at hD ⊢
  have hA : ∀ q : Nat, s.heap.size ≤ q → A q := fun q h => by rw [← hAe]; exact Or.inr h
  have hS : va_S A s.heap s.heap [] := va_S.rf
  have hl := lv_entry ([.ref h, .int p1, .int p2, .int p3] : List Value) (n := 4) (Nat.le_of_ble_eq_true rfl)
  rw [lg_entry_eq]
  generalize (lg_sl ([.ref h, .int p1, .int p2, .int p3] : List Value) ++ List.replicate (4 - (lg_sl ([.ref h, .int p1, .int p2, .int p3] : List Value)).length) Slot.unset).toArray = ls at hl ⊢
  have hl : lv_has ls 4 [(0, .ref h), (1, .int p1), (2, .int p2), (3, .int p3)] := hl
  rw [f_X2_pay] at hf
  refine lv_aload_n hx hb dX2_pay_0 rfl (lv_at hl 0 rfl) ?_
  refine va_get (D := (dC, dI)) (ci := 2) (v := .ref h_silver) (C := RX2) (T := TX2) (N := 10) hx hb hts hin2 hown hK hP 0 rfl rfl 5 (by decide) kf28 (fun _ h9 => h9) rfl dX2_pay_1 ?_
  refine lv_iload_n hx hb dX2_pay_4 rfl (lv_at hl 1 rfl) ?_
  refine lv_dup2_11 hx hb dX2_pay_5 rfl rfl ?_
  have hi6 := if_no hf
  rw [if_neg hi6] at hf
  refine va_iald hx hb hK hP 5 1 rfl rfl hi6 dX2_pay_6 ?_
  refine lv_iload_n hx hb dX2_pay_7 rfl (lv_at hl 3 rfl) ?_
  refine lv_isub hx hb dX2_pay_8 ?_
  refine va_iast hx hb hK hP hD hS 5 1 rfl rfl hi6 dX2_pay_9 (fun H locs hP hD hS => ?_)
  obtain ⟨M_h_9, eM_h_9, hf⟩ := wr_some hf
  have hP : va_P (dC, dI) vwCl (wX2 cyB cyI cyZ cyO h h_rank h_widow h_slips h_given h_silver h_returns h_rents h_share h_rest M_h_9) H := by rw [eM_h_9]; exact hP
  have hD : va_D A (wX2 cyB cyI cyZ cyO h h_rank h_widow h_slips h_given h_silver h_returns h_rents h_share h_rest M_h_9) := by rw [eM_h_9]; exact hD
  refine lv_aload_n hx hb dX2_pay_10 rfl (lv_at hl 0 rfl) ?_
  refine va_get (D := (dC, dI)) (ci := 2) (v := .ref h_silver) (C := RX2) (T := TX2) (N := 10) hx hb hts hin2 hown hK hP 0 rfl rfl 5 (by decide) kf28 (fun _ h9 => h9) rfl dX2_pay_11 ?_
  refine lv_iload_n hx hb dX2_pay_14 rfl (lv_at hl 2 rfl) ?_
  refine lv_dup2_11 hx hb dX2_pay_15 rfl rfl ?_
  have hi16 := if_no hf
  rw [if_neg hi16] at hf
  refine va_iald hx hb hK hP 5 1 rfl rfl hi16 dX2_pay_16 ?_
  refine lv_iload_n hx hb dX2_pay_17 rfl (lv_at hl 3 rfl) ?_
  refine lv_iadd hx hb dX2_pay_18 ?_
  refine va_iast hx hb hK hP hD hS 5 1 rfl rfl hi16 dX2_pay_19 (fun H locs hP hD hS => ?_)
  obtain ⟨M_h_19, eM_h_19, hf⟩ := wr_some hf
  have hP : va_P (dC, dI) vwCl (wX2 cyB cyI cyZ cyO h h_rank h_widow h_slips h_given h_silver h_returns h_rents h_share h_rest M_h_19) H := by rw [eM_h_19]; exact hP
  have hD : va_D A (wX2 cyB cyI cyZ cyO h h_rank h_widow h_slips h_given h_silver h_returns h_rents h_share h_rest M_h_19) := by rw [eM_h_19]; exact hD
  have hq := Option.some.inj hf
  subst hq
  exact W.vret hx hb hr (fun t ht hW => ⟨rfl, by rw [ht]; exact hP, hD, hS.F ht⟩) hS.2.2 dX2_pay_20
set_option maxHeartbeats 4000000 in
set_option maxRecDepth 100000 in
theorem c_X0_room (l : Launch) (dC : Nat → ClassId) (dI : Nat → Nat → Nat) (cyB cyI cyZ cyO : ClassId) (h h_owner h_size h_weight h_worth h_level h_holder h_side h_planned : Nat) (M_h : Mem) (p1 : Int32) (r : Int32) (hf : f_X0_room M_h p1 = some r) : Met l yX0_room wsX0_room ({ frames := 0, cells := 0, slots := 0, locals := 0 } : Room) (PR dC dI cyB cyI cyZ cyO ([.ref h, .int p1] : List Value) (wX0 cyB cyI cyZ cyO h h_owner h_size h_weight h_worth h_level h_holder h_side h_planned M_h)) (QR (some (.int r))) 0 0 (fun _ => False) := by
  refine Met.ofW (cc := cX0_room) (maxL := 2) (ret := (some .int)) (by decide) rfl ?_
  intro p e s m args below meth c s₁ B hml hv
  obtain ⟨rfl, hP, hCx⟩ := hv
  have hK := hCx.1
  have hN := hCx.2
  have hx := B.exec
  have hb := B.bytes
  have hr := B.returns
  have hts := atoms_spec (ws := wsX0_room) B.pre
  have hown : s.vm.findClass RX0 = some m.cls := findClass_of_methodNamed B.named
  have hlocks := B.notSynchronized
  have hin0 : ∀ w ∈ u_ws RX0 TX0 10, w ∈ wsX0_room := fun w h => List.mem_cons_of_mem _ (List.mem_append_right _ h)
  have kf19 := hts (.fieldLink RX0 19 "HoldSlips$Bales" "size" "[I") (by decide +kernel)
  have kf28 := hts (.fieldLink RX0 28 "HoldSlips$Bales" "level" "[I") (by decide +kernel)
  have hl := lv_entry ([.ref h, .int p1] : List Value) (n := 2) (Nat.le_of_ble_eq_true rfl)
  rw [lg_entry_eq]
  generalize (lg_sl ([.ref h, .int p1] : List Value) ++ List.replicate (2 - (lg_sl ([.ref h, .int p1] : List Value)).length) Slot.unset).toArray = ls at hl ⊢
  have hl : lv_has ls 2 [(0, .ref h), (1, .int p1)] := hl
  rw [f_X0_room] at hf
  refine lv_aload_n hx hb dX0_room_0 rfl (lv_at hl 0 rfl) ?_
  refine va_get (D := (dC, dI)) (ci := 0) (v := .ref h_size) (C := RX0) (T := TX0) (N := 10) hx hb hts hin0 hown hK hP 0 rfl rfl 2 (by decide) kf19 (fun _ h9 => h9) rfl dX0_room_1 ?_
  refine lv_iload_n hx hb dX0_room_4 rfl (lv_at hl 1 rfl) ?_
  have hi5 := if_no hf
  rw [if_neg hi5] at hf
  refine va_iald hx hb hK hP 2 1 rfl rfl hi5 dX0_room_5 ?_
  refine lv_aload_n hx hb dX0_room_6 rfl (lv_at hl 0 rfl) ?_
  refine va_get (D := (dC, dI)) (ci := 0) (v := .ref h_size) (C := RX0) (T := TX0) (N := 10) hx hb hts hin0 hown hK hP 0 rfl rfl 2 (by decide) kf19 (fun _ h9 => h9) rfl dX0_room_7 ?_
  refine lv_iload_n hx hb dX0_room_10 rfl (lv_at hl 1 rfl) ?_
  refine va_iald hx hb hK hP 2 1 rfl rfl hi5 dX0_room_11 ?_
  refine lv_aload_n hx hb dX0_room_12 rfl (lv_at hl 0 rfl) ?_
  refine va_get (D := (dC, dI)) (ci := 0) (v := .ref h_level) (C := RX0) (T := TX0) (N := 10) hx hb hts hin0 hown hK hP 0 rfl rfl 5 (by decide) kf28 (fun _ h9 => h9) rfl dX0_room_13 ?_
  refine lv_iload_n hx hb dX0_room_16 rfl (lv_at hl 1 rfl) ?_
  refine va_iald hx hb hK hP 5 1 rfl rfl hi5 dX0_room_17 ?_
  refine lv_imul hx hb dX0_room_18 ?_
  refine lv_bipush (v := (10 : Int32)) hx hb dX0_room_19 (by decide) ?_
  refine lv_idiv hx hb dX0_room_21 (by decide) ?_
  refine lv_isub hx hb dX0_room_22 ?_
  have hq := Option.some.inj hf
  subst hq
  exact W.iret (v := ((M_h 2 (p1).toNatClampNeg) - (((M_h 2 (p1).toNatClampNeg) * (M_h 5 (p1).toNatClampNeg)) / (10 : Int32)))) hx hb hr (fun t ht hW => ⟨rfl, ht⟩) (fun q h => by cases h) dX0_room_23
set_option maxHeartbeats 4000000 in
set_option maxRecDepth 100000 in
theorem c_X0_roomOn (l : Launch) (dC : Nat → ClassId) (dI : Nat → Nat → Nat) (cyB cyI cyZ cyO : ClassId) (h h_owner h_size h_weight h_worth h_level h_holder h_side h_planned : Nat) (M_h : Mem) (p1 : Int32) (r : Int32) (hf : f_X0_roomOn M_h p1 = some r) : Met l yX0_roomOn wsX0_roomOn ({ frames := 1, cells := 0, slots := 0, locals := 21 } : Room) (PR dC dI cyB cyI cyZ cyO ([.ref h, .int p1] : List Value) (wX0 cyB cyI cyZ cyO h h_owner h_size h_weight h_worth h_level h_holder h_side h_planned M_h)) (QR (some (.int r))) 0 0 (fun _ => False) := by
  refine Met.ofW (cc := cX0_roomOn) (maxL := 4) (ret := (some .int)) (by decide) rfl ?_
  intro p e s m args below meth c s₁ B hml hv
  obtain ⟨rfl, hP, hCx⟩ := hv
  have hK := hCx.1
  have hN := hCx.2
  have hx := B.exec
  have hb := B.bytes
  have hr := B.returns
  have hts := atoms_spec (ws := wsX0_roomOn) B.pre
  have hown : s.vm.findClass RX0 = some m.cls := findClass_of_methodNamed B.named
  have hlocks := B.notSynchronized
  have hin0 : ∀ w ∈ u_ws RX0 TX0 10, w ∈ wsX0_roomOn := fun w h => List.mem_cons_of_mem _ (List.mem_append_right _ h)
  have kf9 := hts (.fieldLink RX0 9 "HoldSlips$Bales" "number" "I") (by decide +kernel)
  have kf31 := hts (.fieldLink RX0 31 "HoldSlips$Bales" "holder" "[I") (by decide +kernel)
  have hl := lv_entry ([.ref h, .int p1] : List Value) (n := 4) (Nat.le_of_ble_eq_true rfl)
  rw [lg_entry_eq]
  generalize (lg_sl ([.ref h, .int p1] : List Value) ++ List.replicate (4 - (lg_sl ([.ref h, .int p1] : List Value)).length) Slot.unset).toArray = ls at hl ⊢
  have hl : lv_has ls 4 [(0, .ref h), (1, .int p1)] := hl
  have L4 : ∀ (n : Nat), ∀ (x1 : Int32) (x2 : Int32) (x3 : Int32) (ls : Array Slot), f_X0_roomOn_L4 n M_h x1 x2 x3 = some r → lv_has ls 4 [(0, .ref h), (1, .int x1), (2, .int x2), (3, .int x3)] → W p l e (headSpec wsX0_roomOn ({ frames := 1, cells := 0, slots := 0, locals := 21 } : Room)).room s m ([.ref h, .int p1] : List Value).toArray below meth c s.heap [] 0 0 (MQ below (QR (some (.int r))) ([.ref h, .int p1] : List Value).toArray s 0 0 (fun _ => False)) (F0 m 4 ls []) := by
    intro n
    induction n with
    | zero => intro x1 x2 x3 ls hf hl; rw [f_X0_roomOn_L4] at hf; cases hf
    | succ n ih =>
      intro x1 x2 x3 ls hf hl
      rw [f_X0_roomOn_L4] at hf
      refine lv_iload_n hx hb dX0_roomOn_4 rfl (lv_at hl 3 rfl) ?_
      refine lv_aload_n hx hb dX0_roomOn_5 rfl (lv_at hl 0 rfl) ?_
      refine va_get (D := (dC, dI)) (ci := 0) (v := .int (M_h 0 0)) (C := RX0) (T := TX0) (N := 10) hx hb hts hin0 hown hK hP 0 rfl rfl 0 (by decide) kf9 (fun _ h9 => h9) rfl dX0_roomOn_6 ?_
      refine lv_icmp_ge (tgt := 40) hx hb dX0_roomOn_9 (by decide) (fun hc9 => ?_) (fun hc9 => ?_)
      · rw [if_pos hc9] at hf
        refine lv_iload_n hx hb dX0_roomOn_40 rfl (lv_at hl 2 rfl) ?_
        have hq := Option.some.inj hf
        subst hq
        exact W.iret (v := x2) hx hb hr (fun t ht hW => ⟨rfl, ht⟩) (fun q h => by cases h) dX0_roomOn_41
      · rw [if_neg hc9] at hf
        refine lv_iload_n hx hb dX0_roomOn_12 rfl (lv_at hl 2 rfl) ?_
        refine lv_aload_n hx hb dX0_roomOn_13 rfl (lv_at hl 0 rfl) ?_
        refine va_get (D := (dC, dI)) (ci := 0) (v := .ref h_holder) (C := RX0) (T := TX0) (N := 10) hx hb hts hin0 hown hK hP 0 rfl rfl 6 (by decide) kf31 (fun _ h9 => h9) rfl dX0_roomOn_14 ?_
        refine lv_iload_n hx hb dX0_roomOn_17 rfl (lv_at hl 3 rfl) ?_
        have hi18 := if_no hf
        rw [if_neg hi18] at hf
        refine va_iald hx hb hK hP 6 1 rfl rfl hi18 dX0_roomOn_18 ?_
        refine lv_iload_n hx hb dX0_roomOn_19 rfl (lv_at hl 1 rfl) ?_
        refine lv_icmp_ne (tgt := 31) hx hb dX0_roomOn_20 (by decide) (fun hc20 => ?_) (fun hc20 => ?_)
        · rw [if_neg hc20] at hf
          refine lv_iconst (v := (0 : Int32)) hx hb dX0_roomOn_31 (by decide) ?_
          refine lv_iadd hx hb dX0_roomOn_32 ?_
          refine lv_istore_n (lv' := [(2, .int (x2 + (0 : Int32))), (0, .ref h), (1, .int x1), (3, .int x3)]) hx hb dX0_roomOn_33 rfl hl (by decide) rfl (fun ls hl => ?_)
          refine lv_iinc (v := (x3 + (1 : Int32))) (lv' := [(3, .int (x3 + (1 : Int32))), (2, .int (x2 + (0 : Int32))), (0, .ref h), (1, .int x1)]) hx hb dX0_roomOn_34 hl (k := 3) rfl rfl (by decide) rfl (fun ls hl => ?_)
          refine lv_goto (tgt := 4) hx hb dX0_roomOn_37 (by decide) ?_
          exact ih x1 (x2 + (0 : Int32)) (x3 + (1 : Int32)) ls hf (lv_sub hl [2, 3, 1, 0] rfl)
        · rw [if_pos hc20] at hf
          refine lv_aload_n hx hb dX0_roomOn_23 rfl (lv_at hl 0 rfl) ?_
          refine lv_iload_n hx hb dX0_roomOn_24 rfl (lv_at hl 3 rfl) ?_
          obtain ⟨r25, h25, hf⟩ := bd1_some hf
          refine ro_calli (va_runV (As := [.int x3]) (rest := [.int x2]) ⟨hx, hb, hml, hown, hts⟩ (c_X0_room l dC dI cyB cyI cyZ cyO h h_owner h_size h_weight h_worth h_level h_holder h_side h_planned M_h x3 r25 h25) (cwV 1 hts gX0_roomOn_X0_room rfl rfl rfl (by decide +kernel) ⟨Nat.le_of_ble_eq_true rfl, Nat.le_of_ble_eq_true rfl⟩) ⟨PR.blind, va_recv hK hP (ci := 0) (q0 := 0) rfl rfl, fun U hU hW => ⟨rfl, by rw [hU]; exact hP, hCx.warm hW⟩⟩ rfl rfl hl.1 rfl (lv_room (Nat.le_of_ble_eq_true rfl)) dX0_roomOn_25 ⟨Nat.zero_le _, Nat.zero_le _⟩) ?_
          refine lv_goto (tgt := 32) hx hb dX0_roomOn_28 (by decide) ?_
          refine lv_iadd hx hb dX0_roomOn_32 ?_
          refine lv_istore_n (lv' := [(2, .int (x2 + r25)), (0, .ref h), (1, .int x1), (3, .int x3)]) hx hb dX0_roomOn_33 rfl hl (by decide) rfl (fun ls hl => ?_)
          refine lv_iinc (v := (x3 + (1 : Int32))) (lv' := [(3, .int (x3 + (1 : Int32))), (2, .int (x2 + r25)), (0, .ref h), (1, .int x1)]) hx hb dX0_roomOn_34 hl (k := 3) rfl rfl (by decide) rfl (fun ls hl => ?_)
          refine lv_goto (tgt := 4) hx hb dX0_roomOn_37 (by decide) ?_
          exact ih x1 (x2 + r25) (x3 + (1 : Int32)) ls hf (lv_sub hl [2, 3, 1, 0] rfl)
  rw [f_X0_roomOn] at hf
  refine lv_iconst (v := (0 : Int32)) hx hb dX0_roomOn_0 (by decide) ?_
  refine lv_istore_n (lv' := [(2, .int (0 : Int32)), (0, .ref h), (1, .int p1)]) hx hb dX0_roomOn_1 rfl hl (by decide) rfl (fun ls hl => ?_)
  refine lv_iconst (v := (0 : Int32)) hx hb dX0_roomOn_2 (by decide) ?_
  refine lv_istore_n (lv' := [(3, .int (0 : Int32)), (2, .int (0 : Int32)), (0, .ref h), (1, .int p1)]) hx hb dX0_roomOn_3 rfl hl (by decide) rfl (fun ls hl => ?_)
  exact L4 FU p1 (0 : Int32) (0 : Int32) ls hf (lv_sub hl [2, 3, 1, 0] rfl)
set_option maxHeartbeats 4000000 in
set_option maxRecDepth 100000 in
theorem c_X0_takeOff (l : Launch) (dC : Nat → ClassId) (dI : Nat → Nat → Nat) (cyB cyI cyZ cyO : ClassId) (h h_owner h_size h_weight h_worth h_level h_holder h_side h_planned : Nat) (sz : Nat) (M_h : Mem) (p1 : Int32) (R_h : Mem) (hf : f_X0_takeOff M_h p1 = some R_h) : Met l yX0_takeOff wsX0_takeOff ({ frames := 0, cells := 0, slots := 0, locals := 0 } : Room) (PW dC dI cyB cyI cyZ cyO ([.ref h, .int p1] : List Value) (wX0 cyB cyI cyZ cyO h h_owner h_size h_weight h_worth h_level h_holder h_side h_planned M_h) sz) (QW dC dI none (wX0 cyB cyI cyZ cyO h h_owner h_size h_weight h_worth h_level h_holder h_side h_planned R_h) (va_A (wX0 cyB cyI cyZ cyO h h_owner h_size h_weight h_worth h_level h_holder h_side h_planned M_h) sz)) 0 0 (va_A (wX0 cyB cyI cyZ cyO h h_owner h_size h_weight h_worth h_level h_holder h_side h_planned M_h) sz) := by
  refine Met.ofW (cc := cX0_takeOff) (maxL := 2) (ret := none) (by decide) rfl ?_
  intro p e s m args below meth c s₁ B hml hv
  obtain ⟨rfl, hsz, hP, hCx, hD0⟩ := hv
  have hK := hCx.1
  have hN := hCx.2
  have hx := B.exec
  have hb := B.bytes
  have hr := B.returns
  have hts := atoms_spec (ws := wsX0_takeOff) B.pre
  have hown : s.vm.findClass RX0 = some m.cls := findClass_of_methodNamed B.named
  have hlocks := B.notSynchronized
  have hin0 : ∀ w ∈ u_ws RX0 TX0 10, w ∈ wsX0_takeOff := fun w h => List.mem_cons_of_mem _ (List.mem_append_right _ h)
  have kf31 := hts (.fieldLink RX0 31 "HoldSlips$Bales" "holder" "[I") (by decide +kernel)
  have kf34 := hts (.fieldLink RX0 34 "HoldSlips$Bales" "side" "[I") (by decide +kernel)
  subst hsz
  have hD := hD0.self (sz := s.heap.size)
  generalize hAe : va_A (wX0 cyB cyI cyZ cyO h h_owner h_size h_weight h_worth h_level h_holder h_side h_planned M_h) s.heap.size = A at hD ⊢
  have hA : ∀ q : Nat, s.heap.size ≤ q → A q := fun q h => by rw [← hAe]; exact Or.inr h
  have hS : va_S A s.heap s.heap [] := va_S.rf
  have hl := lv_entry ([.ref h, .int p1] : List Value) (n := 2) (Nat.le_of_ble_eq_true rfl)
  rw [lg_entry_eq]
  generalize (lg_sl ([.ref h, .int p1] : List Value) ++ List.replicate (2 - (lg_sl ([.ref h, .int p1] : List Value)).length) Slot.unset).toArray = ls at hl ⊢
  have hl : lv_has ls 2 [(0, .ref h), (1, .int p1)] := hl
  rw [f_X0_takeOff] at hf
  refine lv_aload_n hx hb dX0_takeOff_0 rfl (lv_at hl 0 rfl) ?_
  refine va_get (D := (dC, dI)) (ci := 0) (v := .ref h_holder) (C := RX0) (T := TX0) (N := 10) hx hb hts hin0 hown hK hP 0 rfl rfl 6 (by decide) kf31 (fun _ h9 => h9) rfl dX0_takeOff_1 ?_
  refine lv_iload_n hx hb dX0_takeOff_4 rfl (lv_at hl 1 rfl) ?_
  refine lv_iconst (v := (-1 : Int32)) hx hb dX0_takeOff_5 (by decide) ?_
  have hi6 := if_no hf
  rw [if_neg hi6] at hf
  refine va_iast hx hb hK hP hD hS 6 1 rfl rfl hi6 dX0_takeOff_6 (fun H locs hP hD hS => ?_)
  obtain ⟨M_h_6, eM_h_6, hf⟩ := wr_some hf
  have hP : va_P (dC, dI) vwCl (wX0 cyB cyI cyZ cyO h h_owner h_size h_weight h_worth h_level h_holder h_side h_planned M_h_6) H := by rw [eM_h_6]; exact hP
  have hD : va_D A (wX0 cyB cyI cyZ cyO h h_owner h_size h_weight h_worth h_level h_holder h_side h_planned M_h_6) := by rw [eM_h_6]; exact hD
  refine lv_aload_n hx hb dX0_takeOff_7 rfl (lv_at hl 0 rfl) ?_
  refine va_get (D := (dC, dI)) (ci := 0) (v := .ref h_side) (C := RX0) (T := TX0) (N := 10) hx hb hts hin0 hown hK hP 0 rfl rfl 7 (by decide) kf34 (fun _ h9 => h9) rfl dX0_takeOff_8 ?_
  refine lv_iload_n hx hb dX0_takeOff_11 rfl (lv_at hl 1 rfl) ?_
  refine lv_iconst (v := (-1 : Int32)) hx hb dX0_takeOff_12 (by decide) ?_
  refine va_iast hx hb hK hP hD hS 7 1 rfl rfl hi6 dX0_takeOff_13 (fun H locs hP hD hS => ?_)
  obtain ⟨M_h_13, eM_h_13, hf⟩ := wr_some hf
  have hP : va_P (dC, dI) vwCl (wX0 cyB cyI cyZ cyO h h_owner h_size h_weight h_worth h_level h_holder h_side h_planned M_h_13) H := by rw [eM_h_13]; exact hP
  have hD : va_D A (wX0 cyB cyI cyZ cyO h h_owner h_size h_weight h_worth h_level h_holder h_side h_planned M_h_13) := by rw [eM_h_13]; exact hD
  have hq := Option.some.inj hf
  subst hq
  exact W.vret hx hb hr (fun t ht hW => ⟨rfl, by rw [ht]; exact hP, hD, hS.F ht⟩) hS.2.2 dX0_takeOff_14
set_option maxHeartbeats 4000000 in
set_option maxRecDepth 100000 in
theorem c_X0_enter (l : Launch) (dC : Nat → ClassId) (dI : Nat → Nat → Nat) (cyB cyI cyZ cyO : ClassId) (h h_owner h_size h_weight h_worth h_level h_holder h_side h_planned : Nat) (sz : Nat) (M_h : Mem) (p1 : Int32) (p2 : Int32) (p3 : Int32) (p4 : Int32) (r : Int32) (R_h : Mem) (hf : f_X0_enter M_h p1 p2 p3 p4 = some (r, R_h)) : Met l yX0_enter wsX0_enter ({ frames := 1, cells := 0, slots := 0, locals := 21 } : Room) (PW dC dI cyB cyI cyZ cyO ([.ref h, .int p1, .int p2, .int p3, .int p4] : List Value) (wX0 cyB cyI cyZ cyO h h_owner h_size h_weight h_worth h_level h_holder h_side h_planned M_h) sz) (QW dC dI (some (.int r)) (wX0 cyB cyI cyZ cyO h h_owner h_size h_weight h_worth h_level h_holder h_side h_planned R_h) (va_A (wX0 cyB cyI cyZ cyO h h_owner h_size h_weight h_worth h_level h_holder h_side h_planned M_h) sz)) 0 0 (va_A (wX0 cyB cyI cyZ cyO h h_owner h_size h_weight h_worth h_level h_holder h_side h_planned M_h) sz) := by
  refine Met.ofW (cc := cX0_enter) (maxL := 5) (ret := (some .int)) (by decide) rfl ?_
  intro p e s m args below meth c s₁ B hml hv
  obtain ⟨rfl, hsz, hP, hCx, hD0⟩ := hv
  have hK := hCx.1
  have hN := hCx.2
  have hx := B.exec
  have hb := B.bytes
  have hr := B.returns
  have hts := atoms_spec (ws := wsX0_enter) B.pre
  have hown : s.vm.findClass RX0 = some m.cls := findClass_of_methodNamed B.named
  have hlocks := B.notSynchronized
  have hin0 : ∀ w ∈ u_ws RX0 TX0 10, w ∈ wsX0_enter := fun w h => List.mem_cons_of_mem _ (List.mem_append_right _ h)
  have kf9 := hts (.fieldLink RX0 9 "HoldSlips$Bales" "number" "I") (by decide +kernel)
  have kf15 := hts (.fieldLink RX0 15 "HoldSlips$Bales" "owner" "[I") (by decide +kernel)
  have kf19 := hts (.fieldLink RX0 19 "HoldSlips$Bales" "size" "[I") (by decide +kernel)
  have kf22 := hts (.fieldLink RX0 22 "HoldSlips$Bales" "weight" "[I") (by decide +kernel)
  have kf25 := hts (.fieldLink RX0 25 "HoldSlips$Bales" "worth" "[I") (by decide +kernel)
  have kf28 := hts (.fieldLink RX0 28 "HoldSlips$Bales" "level" "[I") (by decide +kernel)
  have kf41 := hts (.fieldLink RX0 41 "HoldSlips$Bales" "planned" "[I") (by decide +kernel)
  subst hsz
  have hD := hD0.self (sz := s.heap.size)
  generalize hAe : va_A (wX0 cyB cyI cyZ cyO h h_owner h_size h_weight h_worth h_level h_holder h_side h_planned M_h) s.heap.size = A at hD ⊢
  have hA : ∀ q : Nat, s.heap.size ≤ q → A q := fun q h => by rw [← hAe]; exact Or.inr h
  have hS : va_S A s.heap s.heap [] := va_S.rf
  have hl := lv_entry ([.ref h, .int p1, .int p2, .int p3, .int p4] : List Value) (n := 5) (Nat.le_of_ble_eq_true rfl)
  rw [lg_entry_eq]
  generalize (lg_sl ([.ref h, .int p1, .int p2, .int p3, .int p4] : List Value) ++ List.replicate (5 - (lg_sl ([.ref h, .int p1, .int p2, .int p3, .int p4] : List Value)).length) Slot.unset).toArray = ls at hl ⊢
  have hl : lv_has ls 5 [(0, .ref h), (1, .int p1), (2, .int p2), (3, .int p3), (4, .int p4)] := hl
  rw [f_X0_enter] at hf
  refine lv_aload_n hx hb dX0_enter_0 rfl (lv_at hl 0 rfl) ?_
  refine va_get (D := (dC, dI)) (ci := 0) (v := .int (M_h 0 0)) (C := RX0) (T := TX0) (N := 10) hx hb hts hin0 hown hK hP 0 rfl rfl 0 (by decide) kf9 (fun _ h9 => h9) rfl dX0_enter_1 ?_
  refine lv_bipush (v := (12 : Int32)) hx hb dX0_enter_4 (by decide) ?_
  refine lv_icmp_lt (tgt := 11) hx hb dX0_enter_6 (by decide) (fun hc6 => ?_) (fun hc6 => ?_)
  · rw [if_pos hc6] at hf
    refine lv_aload_n hx hb dX0_enter_11 rfl (lv_at hl 0 rfl) ?_
    refine va_get (D := (dC, dI)) (ci := 0) (v := .ref h_owner) (C := RX0) (T := TX0) (N := 10) hx hb hts hin0 hown hK hP 0 rfl rfl 1 (by decide) kf15 (fun _ h9 => h9) rfl dX0_enter_12 ?_
    refine lv_aload_n hx hb dX0_enter_15 rfl (lv_at hl 0 rfl) ?_
    refine va_get (D := (dC, dI)) (ci := 0) (v := .int (M_h 0 0)) (C := RX0) (T := TX0) (N := 10) hx hb hts hin0 hown hK hP 0 rfl rfl 0 (by decide) kf9 (fun _ h9 => h9) rfl dX0_enter_16 ?_
    refine lv_iload_n hx hb dX0_enter_19 rfl (lv_at hl 1 rfl) ?_
    have hi20 := if_no hf
    rw [if_neg hi20] at hf
    refine va_iast hx hb hK hP hD hS 1 1 rfl rfl hi20 dX0_enter_20 (fun H locs hP hD hS => ?_)
    obtain ⟨M_h_20, eM_h_20, hf⟩ := wr_some hf
    have hP : va_P (dC, dI) vwCl (wX0 cyB cyI cyZ cyO h h_owner h_size h_weight h_worth h_level h_holder h_side h_planned M_h_20) H := by rw [eM_h_20]; exact hP
    have hD : va_D A (wX0 cyB cyI cyZ cyO h h_owner h_size h_weight h_worth h_level h_holder h_side h_planned M_h_20) := by rw [eM_h_20]; exact hD
    refine lv_aload_n hx hb dX0_enter_21 rfl (lv_at hl 0 rfl) ?_
    refine va_get (D := (dC, dI)) (ci := 0) (v := .ref h_size) (C := RX0) (T := TX0) (N := 10) hx hb hts hin0 hown hK hP 0 rfl rfl 2 (by decide) kf19 (fun _ h9 => h9) rfl dX0_enter_22 ?_
    refine lv_aload_n hx hb dX0_enter_25 rfl (lv_at hl 0 rfl) ?_
    refine va_get (D := (dC, dI)) (ci := 0) (v := .int (M_h_20 0 0)) (C := RX0) (T := TX0) (N := 10) hx hb hts hin0 hown hK hP 0 rfl rfl 0 (by decide) kf9 (fun _ h9 => h9) rfl dX0_enter_26 ?_
    refine lv_iload_n hx hb dX0_enter_29 rfl (lv_at hl 2 rfl) ?_
    have hi30 := if_no hf
    rw [if_neg hi30] at hf
    refine va_iast hx hb hK hP hD hS 2 1 rfl rfl hi30 dX0_enter_30 (fun H locs hP hD hS => ?_)
    obtain ⟨M_h_30, eM_h_30, hf⟩ := wr_some hf
    have hP : va_P (dC, dI) vwCl (wX0 cyB cyI cyZ cyO h h_owner h_size h_weight h_worth h_level h_holder h_side h_planned M_h_30) H := by rw [eM_h_30]; exact hP
    have hD : va_D A (wX0 cyB cyI cyZ cyO h h_owner h_size h_weight h_worth h_level h_holder h_side h_planned M_h_30) := by rw [eM_h_30]; exact hD
    refine lv_aload_n hx hb dX0_enter_31 rfl (lv_at hl 0 rfl) ?_
    refine va_get (D := (dC, dI)) (ci := 0) (v := .ref h_weight) (C := RX0) (T := TX0) (N := 10) hx hb hts hin0 hown hK hP 0 rfl rfl 3 (by decide) kf22 (fun _ h9 => h9) rfl dX0_enter_32 ?_
    refine lv_aload_n hx hb dX0_enter_35 rfl (lv_at hl 0 rfl) ?_
    refine va_get (D := (dC, dI)) (ci := 0) (v := .int (M_h_30 0 0)) (C := RX0) (T := TX0) (N := 10) hx hb hts hin0 hown hK hP 0 rfl rfl 0 (by decide) kf9 (fun _ h9 => h9) rfl dX0_enter_36 ?_
    refine lv_iload_n hx hb dX0_enter_39 rfl (lv_at hl 3 rfl) ?_
    have hi40 := if_no hf
    rw [if_neg hi40] at hf
    refine va_iast hx hb hK hP hD hS 3 1 rfl rfl hi40 dX0_enter_40 (fun H locs hP hD hS => ?_)
    obtain ⟨M_h_40, eM_h_40, hf⟩ := wr_some hf
    have hP : va_P (dC, dI) vwCl (wX0 cyB cyI cyZ cyO h h_owner h_size h_weight h_worth h_level h_holder h_side h_planned M_h_40) H := by rw [eM_h_40]; exact hP
    have hD : va_D A (wX0 cyB cyI cyZ cyO h h_owner h_size h_weight h_worth h_level h_holder h_side h_planned M_h_40) := by rw [eM_h_40]; exact hD
    refine lv_aload_n hx hb dX0_enter_41 rfl (lv_at hl 0 rfl) ?_
    refine va_get (D := (dC, dI)) (ci := 0) (v := .ref h_worth) (C := RX0) (T := TX0) (N := 10) hx hb hts hin0 hown hK hP 0 rfl rfl 4 (by decide) kf25 (fun _ h9 => h9) rfl dX0_enter_42 ?_
    refine lv_aload_n hx hb dX0_enter_45 rfl (lv_at hl 0 rfl) ?_
    refine va_get (D := (dC, dI)) (ci := 0) (v := .int (M_h_40 0 0)) (C := RX0) (T := TX0) (N := 10) hx hb hts hin0 hown hK hP 0 rfl rfl 0 (by decide) kf9 (fun _ h9 => h9) rfl dX0_enter_46 ?_
    refine lv_iload hx hb dX0_enter_49 (lv_at hl 4 rfl) ?_
    have hi51 := if_no hf
    rw [if_neg hi51] at hf
    refine va_iast hx hb hK hP hD hS 4 1 rfl rfl hi51 dX0_enter_51 (fun H locs hP hD hS => ?_)
    obtain ⟨M_h_51, eM_h_51, hf⟩ := wr_some hf
    have hP : va_P (dC, dI) vwCl (wX0 cyB cyI cyZ cyO h h_owner h_size h_weight h_worth h_level h_holder h_side h_planned M_h_51) H := by rw [eM_h_51]; exact hP
    have hD : va_D A (wX0 cyB cyI cyZ cyO h h_owner h_size h_weight h_worth h_level h_holder h_side h_planned M_h_51) := by rw [eM_h_51]; exact hD
    refine lv_aload_n hx hb dX0_enter_52 rfl (lv_at hl 0 rfl) ?_
    refine va_get (D := (dC, dI)) (ci := 0) (v := .ref h_level) (C := RX0) (T := TX0) (N := 10) hx hb hts hin0 hown hK hP 0 rfl rfl 5 (by decide) kf28 (fun _ h9 => h9) rfl dX0_enter_53 ?_
    refine lv_aload_n hx hb dX0_enter_56 rfl (lv_at hl 0 rfl) ?_
    refine va_get (D := (dC, dI)) (ci := 0) (v := .int (M_h_51 0 0)) (C := RX0) (T := TX0) (N := 10) hx hb hts hin0 hown hK hP 0 rfl rfl 0 (by decide) kf9 (fun _ h9 => h9) rfl dX0_enter_57 ?_
    refine lv_iconst (v := (0 : Int32)) hx hb dX0_enter_60 (by decide) ?_
    have hi61 := if_no hf
    rw [if_neg hi61] at hf
    refine va_iast hx hb hK hP hD hS 5 1 rfl rfl hi61 dX0_enter_61 (fun H locs hP hD hS => ?_)
    obtain ⟨M_h_61, eM_h_61, hf⟩ := wr_some hf
    have hP : va_P (dC, dI) vwCl (wX0 cyB cyI cyZ cyO h h_owner h_size h_weight h_worth h_level h_holder h_side h_planned M_h_61) H := by rw [eM_h_61]; exact hP
    have hD : va_D A (wX0 cyB cyI cyZ cyO h h_owner h_size h_weight h_worth h_level h_holder h_side h_planned M_h_61) := by rw [eM_h_61]; exact hD
    refine lv_aload_n hx hb dX0_enter_62 rfl (lv_at hl 0 rfl) ?_
    refine va_get (D := (dC, dI)) (ci := 0) (v := .ref h_planned) (C := RX0) (T := TX0) (N := 10) hx hb hts hin0 hown hK hP 0 rfl rfl 9 (by decide) kf41 (fun _ h9 => h9) rfl dX0_enter_63 ?_
    refine lv_aload_n hx hb dX0_enter_66 rfl (lv_at hl 0 rfl) ?_
    refine va_get (D := (dC, dI)) (ci := 0) (v := .int (M_h_61 0 0)) (C := RX0) (T := TX0) (N := 10) hx hb hts hin0 hown hK hP 0 rfl rfl 0 (by decide) kf9 (fun _ h9 => h9) rfl dX0_enter_67 ?_
    refine lv_iconst (v := (2 : Int32)) hx hb dX0_enter_70 (by decide) ?_
    have hi71 := if_no hf
    rw [if_neg hi71] at hf
    refine va_iast hx hb hK hP hD hS 8 1 rfl rfl hi71 dX0_enter_71 (fun H locs hP hD hS => ?_)
    obtain ⟨M_h_71, eM_h_71, hf⟩ := wr_some hf
    have hP : va_P (dC, dI) vwCl (wX0 cyB cyI cyZ cyO h h_owner h_size h_weight h_worth h_level h_holder h_side h_planned M_h_71) H := by rw [eM_h_71]; exact hP
    have hD : va_D A (wX0 cyB cyI cyZ cyO h h_owner h_size h_weight h_worth h_level h_holder h_side h_planned M_h_71) := by rw [eM_h_71]; exact hD
    refine lv_aload_n hx hb dX0_enter_72 rfl (lv_at hl 0 rfl) ?_
    refine lv_aload_n hx hb dX0_enter_73 rfl (lv_at hl 0 rfl) ?_
    refine va_get (D := (dC, dI)) (ci := 0) (v := .int (M_h_71 0 0)) (C := RX0) (T := TX0) (N := 10) hx hb hts hin0 hown hK hP 0 rfl rfl 0 (by decide) kf9 (fun _ h9 => h9) rfl dX0_enter_74 ?_
    obtain ⟨M_h_77, h77, hf⟩ := bd1_some hf
    refine wr_callv (wc := (wX0 cyB cyI cyZ cyO h h_owner h_size h_weight h_worth h_level h_holder h_side h_planned M_h_71)) (wr := ([] : va_W)) (w1 := (wX0 cyB cyI cyZ cyO h h_owner h_size h_weight h_worth h_level h_holder h_side h_planned M_h_77)) (ws' := (wX0 cyB cyI cyZ cyO h h_owner h_size h_weight h_worth h_level h_holder h_side h_planned M_h_77)) hP hD hS hA [0, 1, 2, 3, 4, 5, 6, 7, 8] [] [0, 1, 2, 3, 4, 5, 6, 7, 8] rfl rfl (by decide) (by decide) rfl (by decide) (va_runV (As := [.int (M_h_71 0 0)]) (rest := []) ⟨hx, hb, hml, hown, hts⟩ (c_X0_takeOff l dC dI cyB cyI cyZ cyO h h_owner h_size h_weight h_worth h_level h_holder h_side h_planned _ M_h_71 (M_h_71 0 0) M_h_77 h77) (cwV 1 hts gX0_enter_X0_takeOff rfl rfl rfl (by decide +kernel) ⟨Nat.le_of_ble_eq_true rfl, Nat.le_of_ble_eq_true rfl⟩) ⟨PW.blind, va_recv hK hP (ci := 0) (q0 := 0) rfl rfl, fun U hU hW => ⟨rfl, by rw [hU], by rw [hU]; exact hP, hCx.warm hW, hD.weaken (fun _ _ _ _ => trivial)⟩⟩ rfl rfl hl.1 rfl (lv_room (Nat.le_of_ble_eq_true rfl)) dX0_enter_77 ⟨Nat.zero_le _, Nat.zero_le _⟩) (fun H locs hP hD hS => ?_)
    refine lv_aload_n hx hb dX0_enter_80 rfl (lv_at hl 0 rfl) ?_
    refine lv_dup hx hb dX0_enter_81 rfl ?_
    refine va_get (D := (dC, dI)) (ci := 0) (v := .int (M_h_77 0 0)) (C := RX0) (T := TX0) (N := 10) hx hb hts hin0 hown hK hP 0 rfl rfl 0 (by decide) kf9 (fun _ h9 => h9) rfl dX0_enter_82 ?_
    refine lv_iconst (v := (1 : Int32)) hx hb dX0_enter_85 (by decide) ?_
    refine lv_iadd hx hb dX0_enter_86 ?_
    refine va_put (D := (dC, dI)) (ci := 0) (v := .int ((M_h_77 0 0) + (1 : Int32))) (ty := .int) (C := RX0) (T := TX0) (N := 10) hx hb hts hin0 tyX0 tyX0_ok nmX0 hown hK hP hD hS 0 rfl rfl 0 (by decide) kf9 (fun _ h9 => h9) rfl (by decide +kernel) rfl rfl (Nat.le_of_ble_eq_true rfl) dX0_enter_87 (fun H locs hP hD hS => ?_)
    obtain ⟨M_h_87, eM_h_87, hf⟩ := wr_some hf
    have hP : va_P (dC, dI) vwCl (wX0 cyB cyI cyZ cyO h h_owner h_size h_weight h_worth h_level h_holder h_side h_planned M_h_87) H := by rw [eM_h_87]; exact hP
    have hD : va_D A (wX0 cyB cyI cyZ cyO h h_owner h_size h_weight h_worth h_level h_holder h_side h_planned M_h_87) := by rw [eM_h_87]; exact hD
    refine lv_aload_n hx hb dX0_enter_90 rfl (lv_at hl 0 rfl) ?_
    refine va_get (D := (dC, dI)) (ci := 0) (v := .int (M_h_87 0 0)) (C := RX0) (T := TX0) (N := 10) hx hb hts hin0 hown hK hP 0 rfl rfl 0 (by decide) kf9 (fun _ h9 => h9) rfl dX0_enter_91 ?_
    refine lv_iconst (v := (1 : Int32)) hx hb dX0_enter_94 (by decide) ?_
    refine lv_isub hx hb dX0_enter_95 ?_
    obtain ⟨hq0, hq1⟩ := pj2 hf
    subst hq0
    subst hq1
    exact W.iret (v := ((M_h_87 0 0) - (1 : Int32))) hx hb hr (fun t ht hW => ⟨rfl, by rw [ht]; exact hP, hD, hS.F ht⟩) hS.2.2 dX0_enter_96
  · rw [if_neg hc6] at hf
    refine lv_iconst (v := (-1 : Int32)) hx hb dX0_enter_9 (by decide) ?_
    obtain ⟨hq0, hq1⟩ := pj2 hf
    subst hq0
    subst hq1
    exact W.iret (v := (-1 : Int32)) hx hb hr (fun t ht hW => ⟨rfl, by rw [ht]; exact hP, hD, hS.F ht⟩) hS.2.2 dX0_enter_10
set_option maxHeartbeats 4000000 in
set_option maxRecDepth 100000 in
theorem c_X0_has (l : Launch) (dC : Nat → ClassId) (dI : Nat → Nat → Nat) (cyB cyI cyZ cyO : ClassId) (h h_owner h_size h_weight h_worth h_level h_holder h_side h_planned : Nat) (M_h : Mem) (p1 : Int32) (r : Int32) (hf : f_X0_has M_h p1 = some r) : Met l yX0_has wsX0_has ({ frames := 1, cells := 0, slots := 0, locals := 22 } : Room) (PR dC dI cyB cyI cyZ cyO ([.ref h, .int p1] : List Value) (wX0 cyB cyI cyZ cyO h h_owner h_size h_weight h_worth h_level h_holder h_side h_planned M_h)) (QR (some (.int r))) 0 0 (fun _ => False) := by
  refine Met.ofW (cc := cX0_has) (maxL := 2) (ret := (some .boolean)) (by decide) rfl ?_
  intro p e s m args below meth c s₁ B hml hv
  obtain ⟨rfl, hP, hCx⟩ := hv
  have hK := hCx.1
  have hN := hCx.2
  have hx := B.exec
  have hb := B.bytes
  have hr := B.returns
  have hts := atoms_spec (ws := wsX0_has) B.pre
  have hown : s.vm.findClass RX0 = some m.cls := findClass_of_methodNamed B.named
  have hlocks := B.notSynchronized
  have hin0 : ∀ w ∈ u_ws RX0 TX0 10, w ∈ wsX0_has := fun w h => List.mem_cons_of_mem _ (List.mem_append_right _ h)
  have kf9 := hts (.fieldLink RX0 9 "HoldSlips$Bales" "number" "I") (by decide +kernel)
  have hl := lv_entry ([.ref h, .int p1] : List Value) (n := 2) (Nat.le_of_ble_eq_true rfl)
  rw [lg_entry_eq]
  generalize (lg_sl ([.ref h, .int p1] : List Value) ++ List.replicate (2 - (lg_sl ([.ref h, .int p1] : List Value)).length) Slot.unset).toArray = ls at hl ⊢
  have hl : lv_has ls 2 [(0, .ref h), (1, .int p1)] := hl
  rw [f_X0_has] at hf
  refine lv_iload_n hx hb dX0_has_0 rfl (lv_at hl 1 rfl) ?_
  refine lv_iconst (v := (0 : Int32)) hx hb dX0_has_1 (by decide) ?_
  refine lv_aload_n hx hb dX0_has_2 rfl (lv_at hl 0 rfl) ?_
  refine va_get (D := (dC, dI)) (ci := 0) (v := .int (M_h 0 0)) (C := RX0) (T := TX0) (N := 10) hx hb hts hin0 hown hK hP 0 rfl rfl 0 (by decide) kf9 (fun _ h9 => h9) rfl dX0_has_3 ?_
  refine lv_iconst (v := (1 : Int32)) hx hb dX0_has_6 (by decide) ?_
  refine lv_isub hx hb dX0_has_7 ?_
  obtain ⟨r8, h8, hf⟩ := bd1_some hf
  have hPc := hP.sub (ws' := ([] : va_W)) [] rfl
  refine ro_calli (va_runSN (As := [.int p1, .int (0 : Int32), .int ((M_h 0 0) - (1 : Int32))]) (rest := []) ⟨hx, hb, hml, hown, hts⟩ (c_X11_within l dC dI cyB cyI cyZ cyO p1 (0 : Int32) ((M_h 0 0) - (1 : Int32)) r8 h8) ⟨va_cnB 3 hts gX0_has_X11_within_n61 rfl rfl rfl (hN _ (by decide +kernel : Cond.methodLinkNest RX0 61 yX11_within "HoldSlips" ∈ nw_all)) (hts (.initialized RX11) (by decide +kernel)) (by decide +kernel) ⟨Nat.le_of_ble_eq_true rfl, Nat.le_of_ble_eq_true rfl⟩, hts (.static yX11_within) (by decide +kernel), trivial⟩ ⟨PR.blind, fun U hU hW => ⟨rfl, by rw [hU]; exact hPc, hCx.warm hW⟩⟩ rfl rfl hl.1 rfl (lv_room (Nat.le_of_ble_eq_true rfl)) dX0_has_8 ⟨Nat.zero_le _, Nat.zero_le _⟩) ?_
  have hb11 := Decidable.not_not.mp (if_no hf)
  rw [if_neg (not_not_intro hb11)] at hf
  have hq := Option.some.inj hf
  subst hq
  exact W.zret (v := r8) hx hb hr (nar_b hb11) (fun t ht hW => ⟨rfl, ht⟩) (fun q h => by cases h) dX0_has_11
set_option maxHeartbeats 4000000 in
set_option maxRecDepth 100000 in
theorem c_X0_waits (l : Launch) (dC : Nat → ClassId) (dI : Nat → Nat → Nat) (cyB cyI cyZ cyO : ClassId) (h h_owner h_size h_weight h_worth h_level h_holder h_side h_planned : Nat) (M_h : Mem) (p1 : Int32) (r : Int32) (hf : f_X0_waits M_h p1 = some r) : Met l yX0_waits wsX0_waits ({ frames := 2, cells := 0, slots := 0, locals := 43 } : Room) (PR dC dI cyB cyI cyZ cyO ([.ref h, .int p1] : List Value) (wX0 cyB cyI cyZ cyO h h_owner h_size h_weight h_worth h_level h_holder h_side h_planned M_h)) (QR (some (.int r))) 0 0 (fun _ => False) := by
  refine Met.ofW (cc := cX0_waits) (maxL := 2) (ret := (some .boolean)) (by decide) rfl ?_
  intro p e s m args below meth c s₁ B hml hv
  obtain ⟨rfl, hP, hCx⟩ := hv
  have hK := hCx.1
  have hN := hCx.2
  have hx := B.exec
  have hb := B.bytes
  have hr := B.returns
  have hts := atoms_spec (ws := wsX0_waits) B.pre
  have hown : s.vm.findClass RX0 = some m.cls := findClass_of_methodNamed B.named
  have hlocks := B.notSynchronized
  have hin0 : ∀ w ∈ u_ws RX0 TX0 10, w ∈ wsX0_waits := fun w h => List.mem_cons_of_mem _ (List.mem_append_right _ h)
  have kf31 := hts (.fieldLink RX0 31 "HoldSlips$Bales" "holder" "[I") (by decide +kernel)
  have hl := lv_entry ([.ref h, .int p1] : List Value) (n := 2) (Nat.le_of_ble_eq_true rfl)
  rw [lg_entry_eq]
  generalize (lg_sl ([.ref h, .int p1] : List Value) ++ List.replicate (2 - (lg_sl ([.ref h, .int p1] : List Value)).length) Slot.unset).toArray = ls at hl ⊢
  have hl : lv_has ls 2 [(0, .ref h), (1, .int p1)] := hl
  rw [f_X0_waits] at hf
  refine lv_aload_n hx hb dX0_waits_0 rfl (lv_at hl 0 rfl) ?_
  refine lv_iload_n hx hb dX0_waits_1 rfl (lv_at hl 1 rfl) ?_
  obtain ⟨r2, h2, hf⟩ := bd1_some hf
  refine ro_calli (va_runV (As := [.int p1]) (rest := []) ⟨hx, hb, hml, hown, hts⟩ (c_X0_has l dC dI cyB cyI cyZ cyO h h_owner h_size h_weight h_worth h_level h_holder h_side h_planned M_h p1 r2 h2) (cwV 1 hts gX0_waits_X0_has rfl rfl rfl (by decide +kernel) ⟨Nat.le_of_ble_eq_true rfl, Nat.le_of_ble_eq_true rfl⟩) ⟨PR.blind, va_recv hK hP (ci := 0) (q0 := 0) rfl rfl, fun U hU hW => ⟨rfl, by rw [hU]; exact hP, hCx.warm hW⟩⟩ rfl rfl hl.1 rfl (lv_room (Nat.le_of_ble_eq_true rfl)) dX0_waits_2 ⟨Nat.zero_le _, Nat.zero_le _⟩) ?_
  refine lv_if_eq (tgt := 22) hx hb dX0_waits_5 (by decide) (fun hc5 => ?_) (fun hc5 => ?_)
  · rw [if_pos hc5] at hf
    refine lv_iconst (v := (0 : Int32)) hx hb dX0_waits_22 (by decide) ?_
    have hq := Option.some.inj hf
    subst hq
    exact W.zret (v := (0 : Int32)) hx hb hr rfl (fun t ht hW => ⟨rfl, ht⟩) (fun q h => by cases h) dX0_waits_23
  · rw [if_neg hc5] at hf
    refine lv_aload_n hx hb dX0_waits_8 rfl (lv_at hl 0 rfl) ?_
    refine va_get (D := (dC, dI)) (ci := 0) (v := .ref h_holder) (C := RX0) (T := TX0) (N := 10) hx hb hts hin0 hown hK hP 0 rfl rfl 6 (by decide) kf31 (fun _ h9 => h9) rfl dX0_waits_9 ?_
    refine lv_iload_n hx hb dX0_waits_12 rfl (lv_at hl 1 rfl) ?_
    have hi13 := if_no hf
    rw [if_neg hi13] at hf
    refine va_iald hx hb hK hP 6 1 rfl rfl hi13 dX0_waits_13 ?_
    refine lv_iconst (v := (-1 : Int32)) hx hb dX0_waits_14 (by decide) ?_
    refine lv_icmp_ne (tgt := 22) hx hb dX0_waits_15 (by decide) (fun hc15 => ?_) (fun hc15 => ?_)
    · rw [if_neg hc15] at hf
      refine lv_iconst (v := (0 : Int32)) hx hb dX0_waits_22 (by decide) ?_
      have hq := Option.some.inj hf
      subst hq
      exact W.zret (v := (0 : Int32)) hx hb hr rfl (fun t ht hW => ⟨rfl, ht⟩) (fun q h => by cases h) dX0_waits_23
    · rw [if_pos hc15] at hf
      refine lv_iconst (v := (1 : Int32)) hx hb dX0_waits_18 (by decide) ?_
      refine lv_goto (tgt := 23) hx hb dX0_waits_19 (by decide) ?_
      have hq := Option.some.inj hf
      subst hq
      exact W.zret (v := (1 : Int32)) hx hb hr rfl (fun t ht hW => ⟨rfl, ht⟩) (fun q h => by cases h) dX0_waits_23
set_option maxHeartbeats 4000000 in
set_option maxRecDepth 100000 in
theorem c_X0_lies (l : Launch) (dC : Nat → ClassId) (dI : Nat → Nat → Nat) (cyB cyI cyZ cyO : ClassId) (h h_owner h_size h_weight h_worth h_level h_holder h_side h_planned : Nat) (M_h : Mem) (p1 : Int32) (r : Int32) (hf : f_X0_lies M_h p1 = some r) : Met l yX0_lies wsX0_lies ({ frames := 2, cells := 0, slots := 0, locals := 43 } : Room) (PR dC dI cyB cyI cyZ cyO ([.ref h, .int p1] : List Value) (wX0 cyB cyI cyZ cyO h h_owner h_size h_weight h_worth h_level h_holder h_side h_planned M_h)) (QR (some (.int r))) 0 0 (fun _ => False) := by
  refine Met.ofW (cc := cX0_lies) (maxL := 2) (ret := (some .boolean)) (by decide) rfl ?_
  intro p e s m args below meth c s₁ B hml hv
  obtain ⟨rfl, hP, hCx⟩ := hv
  have hK := hCx.1
  have hN := hCx.2
  have hx := B.exec
  have hb := B.bytes
  have hr := B.returns
  have hts := atoms_spec (ws := wsX0_lies) B.pre
  have hown : s.vm.findClass RX0 = some m.cls := findClass_of_methodNamed B.named
  have hlocks := B.notSynchronized
  have hin0 : ∀ w ∈ u_ws RX0 TX0 10, w ∈ wsX0_lies := fun w h => List.mem_cons_of_mem _ (List.mem_append_right _ h)
  have kf31 := hts (.fieldLink RX0 31 "HoldSlips$Bales" "holder" "[I") (by decide +kernel)
  have hl := lv_entry ([.ref h, .int p1] : List Value) (n := 2) (Nat.le_of_ble_eq_true rfl)
  rw [lg_entry_eq]
  generalize (lg_sl ([.ref h, .int p1] : List Value) ++ List.replicate (2 - (lg_sl ([.ref h, .int p1] : List Value)).length) Slot.unset).toArray = ls at hl ⊢
  have hl : lv_has ls 2 [(0, .ref h), (1, .int p1)] := hl
  rw [f_X0_lies] at hf
  refine lv_aload_n hx hb dX0_lies_0 rfl (lv_at hl 0 rfl) ?_
  refine lv_iload_n hx hb dX0_lies_1 rfl (lv_at hl 1 rfl) ?_
  obtain ⟨r2, h2, hf⟩ := bd1_some hf
  refine ro_calli (va_runV (As := [.int p1]) (rest := []) ⟨hx, hb, hml, hown, hts⟩ (c_X0_has l dC dI cyB cyI cyZ cyO h h_owner h_size h_weight h_worth h_level h_holder h_side h_planned M_h p1 r2 h2) (cwV 1 hts gX0_lies_X0_has rfl rfl rfl (by decide +kernel) ⟨Nat.le_of_ble_eq_true rfl, Nat.le_of_ble_eq_true rfl⟩) ⟨PR.blind, va_recv hK hP (ci := 0) (q0 := 0) rfl rfl, fun U hU hW => ⟨rfl, by rw [hU]; exact hP, hCx.warm hW⟩⟩ rfl rfl hl.1 rfl (lv_room (Nat.le_of_ble_eq_true rfl)) dX0_lies_2 ⟨Nat.zero_le _, Nat.zero_le _⟩) ?_
  refine lv_if_eq (tgt := 22) hx hb dX0_lies_5 (by decide) (fun hc5 => ?_) (fun hc5 => ?_)
  · rw [if_pos hc5] at hf
    refine lv_iconst (v := (0 : Int32)) hx hb dX0_lies_22 (by decide) ?_
    have hq := Option.some.inj hf
    subst hq
    exact W.zret (v := (0 : Int32)) hx hb hr rfl (fun t ht hW => ⟨rfl, ht⟩) (fun q h => by cases h) dX0_lies_23
  · rw [if_neg hc5] at hf
    refine lv_aload_n hx hb dX0_lies_8 rfl (lv_at hl 0 rfl) ?_
    refine va_get (D := (dC, dI)) (ci := 0) (v := .ref h_holder) (C := RX0) (T := TX0) (N := 10) hx hb hts hin0 hown hK hP 0 rfl rfl 6 (by decide) kf31 (fun _ h9 => h9) rfl dX0_lies_9 ?_
    refine lv_iload_n hx hb dX0_lies_12 rfl (lv_at hl 1 rfl) ?_
    have hi13 := if_no hf
    rw [if_neg hi13] at hf
    refine va_iald hx hb hK hP 6 1 rfl rfl hi13 dX0_lies_13 ?_
    refine lv_iconst (v := (-1 : Int32)) hx hb dX0_lies_14 (by decide) ?_
    refine lv_icmp_eq (tgt := 22) hx hb dX0_lies_15 (by decide) (fun hc15 => ?_) (fun hc15 => ?_)
    · rw [if_pos hc15] at hf
      refine lv_iconst (v := (0 : Int32)) hx hb dX0_lies_22 (by decide) ?_
      have hq := Option.some.inj hf
      subst hq
      exact W.zret (v := (0 : Int32)) hx hb hr rfl (fun t ht hW => ⟨rfl, ht⟩) (fun q h => by cases h) dX0_lies_23
    · rw [if_neg hc15] at hf
      refine lv_iconst (v := (1 : Int32)) hx hb dX0_lies_18 (by decide) ?_
      refine lv_goto (tgt := 23) hx hb dX0_lies_19 (by decide) ?_
      have hq := Option.some.inj hf
      subst hq
      exact W.zret (v := (1 : Int32)) hx hb hr rfl (fun t ht hW => ⟨rfl, ht⟩) (fun q h => by cases h) dX0_lies_23
set_option maxHeartbeats 4000000 in
set_option maxRecDepth 100000 in
theorem c_X0_keepPlan (l : Launch) (dC : Nat → ClassId) (dI : Nat → Nat → Nat) (cyB cyI cyZ cyO : ClassId) (a1 a1_bale a1_owner a1_room a1_value a1_weight a1_roomFrom a1_valueFrom a1_weightFrom a1_free a1_side a1_bestSide h h_owner h_size h_weight h_worth h_level h_holder h_side h_planned : Nat) (sz : Nat) (M_a1 : Mem) (M_h : Mem) (R_h : Mem) (hf : f_X0_keepPlan M_a1 M_h = some R_h) : Met l yX0_keepPlan wsX0_keepPlan ({ frames := 0, cells := 0, slots := 0, locals := 0 } : Room) (PW dC dI cyB cyI cyZ cyO ([.ref h, .ref a1] : List Value) ((wX1 cyB cyI cyZ cyO a1 a1_bale a1_owner a1_room a1_value a1_weight a1_roomFrom a1_valueFrom a1_weightFrom a1_free a1_side a1_bestSide M_a1) ++ (wX0 cyB cyI cyZ cyO h h_owner h_size h_weight h_worth h_level h_holder h_side h_planned M_h)) sz) (QW dC dI none ((wX1 cyB cyI cyZ cyO a1 a1_bale a1_owner a1_room a1_value a1_weight a1_roomFrom a1_valueFrom a1_weightFrom a1_free a1_side a1_bestSide M_a1) ++ (wX0 cyB cyI cyZ cyO h h_owner h_size h_weight h_worth h_level h_holder h_side h_planned R_h)) (va_A ((wX1 cyB cyI cyZ cyO a1 a1_bale a1_owner a1_room a1_value a1_weight a1_roomFrom a1_valueFrom a1_weightFrom a1_free a1_side a1_bestSide M_a1) ++ (wX0 cyB cyI cyZ cyO h h_owner h_size h_weight h_worth h_level h_holder h_side h_planned M_h)) sz)) 0 0 (va_A ((wX1 cyB cyI cyZ cyO a1 a1_bale a1_owner a1_room a1_value a1_weight a1_roomFrom a1_valueFrom a1_weightFrom a1_free a1_side a1_bestSide M_a1) ++ (wX0 cyB cyI cyZ cyO h h_owner h_size h_weight h_worth h_level h_holder h_side h_planned M_h)) sz) := by
  refine Met.ofW (cc := cX0_keepPlan) (maxL := 3) (ret := none) (by decide) rfl ?_
  intro p e s m args below meth c s₁ B hml hv
  obtain ⟨rfl, hsz, hP, hCx, hD0⟩ := hv
  have hK := hCx.1
  have hN := hCx.2
  have hx := B.exec
  have hb := B.bytes
  have hr := B.returns
  have hts := atoms_spec (ws := wsX0_keepPlan) B.pre
  have hown : s.vm.findClass RX0 = some m.cls := findClass_of_methodNamed B.named
  have hlocks := B.notSynchronized
  have hin0 : ∀ w ∈ u_ws RX0 TX0 10, w ∈ wsX0_keepPlan := fun w h => List.mem_cons_of_mem _ (List.mem_append_left _ (List.mem_append_right _ h))
  have hin1 : ∀ w ∈ u_ws RX1 TX1 17, w ∈ wsX0_keepPlan := fun w h => List.mem_cons_of_mem _ (List.mem_append_right _ h)
  have kf9 := hts (.fieldLink RX0 9 "HoldSlips$Bales" "number" "I") (by decide +kernel)
  have kf37 := hts (.fieldLink RX0 37 "HoldSlips$Bales" "isPlanned" "Z") (by decide +kernel)
  have kf41 := hts (.fieldLink RX0 41 "HoldSlips$Bales" "planned" "[I") (by decide +kernel)
  have kf52 := hts (.fieldLink RX0 52 "HoldSlips$BestSearch" "number" "I") (by decide +kernel)
  have kf55 := hts (.fieldLink RX0 55 "HoldSlips$BestSearch" "bale" "[I") (by decide +kernel)
  have kf58 := hts (.fieldLink RX0 58 "HoldSlips$BestSearch" "bestSide" "[I") (by decide +kernel)
  subst hsz
  have hD := hD0.self (sz := s.heap.size)
  generalize hAe : va_A ((wX1 cyB cyI cyZ cyO a1 a1_bale a1_owner a1_room a1_value a1_weight a1_roomFrom a1_valueFrom a1_weightFrom a1_free a1_side a1_bestSide M_a1) ++ (wX0 cyB cyI cyZ cyO h h_owner h_size h_weight h_worth h_level h_holder h_side h_planned M_h)) s.heap.size = A at hD ⊢
  have hA : ∀ q : Nat, s.heap.size ≤ q → A q := fun q h => by rw [← hAe]; exact Or.inr h
  have hS : va_S A s.heap s.heap [] := va_S.rf
  have hl := lv_entry ([.ref h, .ref a1] : List Value) (n := 3) (Nat.le_of_ble_eq_true rfl)
  rw [lg_entry_eq]
  generalize (lg_sl ([.ref h, .ref a1] : List Value) ++ List.replicate (3 - (lg_sl ([.ref h, .ref a1] : List Value)).length) Slot.unset).toArray = ls at hl ⊢
  have hl : lv_has ls 3 [(0, .ref h), (1, .ref a1)] := hl
  have L30 : ∀ (n : Nat), ∀ (M_h : Mem) (x2 : Int32) (H : Heap) (locs : List Loc) (ls : Array Slot), f_X0_keepPlan_L30 n M_a1 M_h x2 = some R_h → va_P (dC, dI) vwCl ((wX1 cyB cyI cyZ cyO a1 a1_bale a1_owner a1_room a1_value a1_weight a1_roomFrom a1_valueFrom a1_weightFrom a1_free a1_side a1_bestSide M_a1) ++ (wX0 cyB cyI cyZ cyO h h_owner h_size h_weight h_worth h_level h_holder h_side h_planned M_h)) H → va_D A ((wX1 cyB cyI cyZ cyO a1 a1_bale a1_owner a1_room a1_value a1_weight a1_roomFrom a1_valueFrom a1_weightFrom a1_free a1_side a1_bestSide M_a1) ++ (wX0 cyB cyI cyZ cyO h h_owner h_size h_weight h_worth h_level h_holder h_side h_planned M_h)) → va_S A s.heap H locs → lv_has ls 3 [(0, .ref h), (1, .ref a1), (2, .int x2)] → W p l e (headSpec wsX0_keepPlan ({ frames := 0, cells := 0, slots := 0, locals := 0 } : Room)).room s m ([.ref h, .ref a1] : List Value).toArray below meth c H locs 0 0 (MQ below (QW dC dI none ((wX1 cyB cyI cyZ cyO a1 a1_bale a1_owner a1_room a1_value a1_weight a1_roomFrom a1_valueFrom a1_weightFrom a1_free a1_side a1_bestSide M_a1) ++ (wX0 cyB cyI cyZ cyO h h_owner h_size h_weight h_worth h_level h_holder h_side h_planned R_h)) A) ([.ref h, .ref a1] : List Value).toArray s 0 0 A) (F0 m 30 ls []) := by
    intro n
    induction n with
    | zero => intro M_h x2 H locs ls hf hP hD hS hl; rw [f_X0_keepPlan_L30] at hf; cases hf
    | succ n ih =>
      intro M_h x2 H locs ls hf hP hD hS hl
      rw [f_X0_keepPlan_L30] at hf
      refine lv_iload_n hx hb dX0_keepPlan_30 rfl (lv_at hl 2 rfl) ?_
      refine lv_aload_n hx hb dX0_keepPlan_31 rfl (lv_at hl 1 rfl) ?_
      refine va_get (D := (dC, dI)) (ci := 1) (v := .int (M_a1 0 0)) (C := RX1) (T := TX1) (N := 17) hx hb hts hin1 hown hK hP 0 rfl rfl 0 (by decide) kf52 (fun _ h9 => h9) rfl dX0_keepPlan_32 ?_
      refine lv_icmp_ge (tgt := 61) hx hb dX0_keepPlan_35 (by decide) (fun hc35 => ?_) (fun hc35 => ?_)
      · rw [if_pos hc35] at hf
        have hq := Option.some.inj hf
        subst hq
        exact W.vret hx hb hr (fun t ht hW => ⟨rfl, by rw [ht]; exact hP, hD, hS.F ht⟩) hS.2.2 dX0_keepPlan_61
      · rw [if_neg hc35] at hf
        refine lv_aload_n hx hb dX0_keepPlan_38 rfl (lv_at hl 0 rfl) ?_
        refine va_get (D := (dC, dI)) (ci := 0) (v := .ref h_planned) (C := RX0) (T := TX0) (N := 10) hx hb hts hin0 hown hK hP 12 rfl rfl 9 (by decide) kf41 (fun _ h9 => h9) rfl dX0_keepPlan_39 ?_
        refine lv_aload_n hx hb dX0_keepPlan_42 rfl (lv_at hl 1 rfl) ?_
        refine va_get (D := (dC, dI)) (ci := 1) (v := .ref a1_bale) (C := RX1) (T := TX1) (N := 17) hx hb hts hin1 hown hK hP 0 rfl rfl 1 (by decide) kf55 (fun _ h9 => h9) rfl dX0_keepPlan_43 ?_
        refine lv_iload_n hx hb dX0_keepPlan_46 rfl (lv_at hl 2 rfl) ?_
        have hi47 := if_no hf
        rw [if_neg hi47] at hf
        refine va_iald hx hb hK hP 1 1 rfl rfl hi47 dX0_keepPlan_47 ?_
        refine lv_aload_n hx hb dX0_keepPlan_48 rfl (lv_at hl 1 rfl) ?_
        refine va_get (D := (dC, dI)) (ci := 1) (v := .ref a1_bestSide) (C := RX1) (T := TX1) (N := 17) hx hb hts hin1 hown hK hP 0 rfl rfl 11 (by decide) kf58 (fun _ h9 => h9) rfl dX0_keepPlan_49 ?_
        refine lv_iload_n hx hb dX0_keepPlan_52 rfl (lv_at hl 2 rfl) ?_
        refine va_iald hx hb hK hP 11 1 rfl rfl hi47 dX0_keepPlan_53 ?_
        have hi54 := if_no hf
        rw [if_neg hi54] at hf
        refine va_iast hx hb hK hP hD hS 20 1 rfl rfl hi54 dX0_keepPlan_54 (fun H locs hP hD hS => ?_)
        obtain ⟨M_h_54, eM_h_54, hf⟩ := wr_some hf
        have hP : va_P (dC, dI) vwCl ((wX1 cyB cyI cyZ cyO a1 a1_bale a1_owner a1_room a1_value a1_weight a1_roomFrom a1_valueFrom a1_weightFrom a1_free a1_side a1_bestSide M_a1) ++ (wX0 cyB cyI cyZ cyO h h_owner h_size h_weight h_worth h_level h_holder h_side h_planned M_h_54)) H := by rw [eM_h_54]; exact hP
        have hD : va_D A ((wX1 cyB cyI cyZ cyO a1 a1_bale a1_owner a1_room a1_value a1_weight a1_roomFrom a1_valueFrom a1_weightFrom a1_free a1_side a1_bestSide M_a1) ++ (wX0 cyB cyI cyZ cyO h h_owner h_size h_weight h_worth h_level h_holder h_side h_planned M_h_54)) := by rw [eM_h_54]; exact hD
        refine lv_iinc (v := (x2 + (1 : Int32))) (lv' := [(2, .int (x2 + (1 : Int32))), (0, .ref h), (1, .ref a1)]) hx hb dX0_keepPlan_55 hl (k := 2) rfl rfl (by decide) rfl (fun ls hl => ?_)
        refine lv_goto (tgt := 30) hx hb dX0_keepPlan_58 (by decide) ?_
        exact ih M_h_54 (x2 + (1 : Int32)) _ _ ls hf hP hD hS (lv_sub hl [1, 2, 0] rfl)
  have L7 : ∀ (n : Nat), ∀ (M_h : Mem) (x2 : Int32) (H : Heap) (locs : List Loc) (ls : Array Slot), f_X0_keepPlan_L7 n M_a1 M_h x2 = some R_h → va_P (dC, dI) vwCl ((wX1 cyB cyI cyZ cyO a1 a1_bale a1_owner a1_room a1_value a1_weight a1_roomFrom a1_valueFrom a1_weightFrom a1_free a1_side a1_bestSide M_a1) ++ (wX0 cyB cyI cyZ cyO h h_owner h_size h_weight h_worth h_level h_holder h_side h_planned M_h)) H → va_D A ((wX1 cyB cyI cyZ cyO a1 a1_bale a1_owner a1_room a1_value a1_weight a1_roomFrom a1_valueFrom a1_weightFrom a1_free a1_side a1_bestSide M_a1) ++ (wX0 cyB cyI cyZ cyO h h_owner h_size h_weight h_worth h_level h_holder h_side h_planned M_h)) → va_S A s.heap H locs → lv_has ls 3 [(0, .ref h), (1, .ref a1), (2, .int x2)] → W p l e (headSpec wsX0_keepPlan ({ frames := 0, cells := 0, slots := 0, locals := 0 } : Room)).room s m ([.ref h, .ref a1] : List Value).toArray below meth c H locs 0 0 (MQ below (QW dC dI none ((wX1 cyB cyI cyZ cyO a1 a1_bale a1_owner a1_room a1_value a1_weight a1_roomFrom a1_valueFrom a1_weightFrom a1_free a1_side a1_bestSide M_a1) ++ (wX0 cyB cyI cyZ cyO h h_owner h_size h_weight h_worth h_level h_holder h_side h_planned R_h)) A) ([.ref h, .ref a1] : List Value).toArray s 0 0 A) (F0 m 7 ls []) := by
    intro n
    induction n with
    | zero => intro M_h x2 H locs ls hf hP hD hS hl; rw [f_X0_keepPlan_L7] at hf; cases hf
    | succ n ih =>
      intro M_h x2 H locs ls hf hP hD hS hl
      rw [f_X0_keepPlan_L7] at hf
      refine lv_iload_n hx hb dX0_keepPlan_7 rfl (lv_at hl 2 rfl) ?_
      refine lv_aload_n hx hb dX0_keepPlan_8 rfl (lv_at hl 0 rfl) ?_
      refine va_get (D := (dC, dI)) (ci := 0) (v := .int (M_h 0 0)) (C := RX0) (T := TX0) (N := 10) hx hb hts hin0 hown hK hP 12 rfl rfl 0 (by decide) kf9 (fun _ h9 => h9) rfl dX0_keepPlan_9 ?_
      refine lv_icmp_ge (tgt := 28) hx hb dX0_keepPlan_12 (by decide) (fun hc12 => ?_) (fun hc12 => ?_)
      · rw [if_pos hc12] at hf
        refine lv_iconst (v := (0 : Int32)) hx hb dX0_keepPlan_28 (by decide) ?_
        refine lv_istore_n (lv' := [(2, .int (0 : Int32)), (0, .ref h), (1, .ref a1)]) hx hb dX0_keepPlan_29 rfl hl (by decide) rfl (fun ls hl => ?_)
        exact L30 FU M_h (0 : Int32) _ _ ls hf hP hD hS (lv_sub hl [1, 2, 0] rfl)
      · rw [if_neg hc12] at hf
        refine lv_aload_n hx hb dX0_keepPlan_15 rfl (lv_at hl 0 rfl) ?_
        refine va_get (D := (dC, dI)) (ci := 0) (v := .ref h_planned) (C := RX0) (T := TX0) (N := 10) hx hb hts hin0 hown hK hP 12 rfl rfl 9 (by decide) kf41 (fun _ h9 => h9) rfl dX0_keepPlan_16 ?_
        refine lv_iload_n hx hb dX0_keepPlan_19 rfl (lv_at hl 2 rfl) ?_
        refine lv_iconst (v := (2 : Int32)) hx hb dX0_keepPlan_20 (by decide) ?_
        have hi21 := if_no hf
        rw [if_neg hi21] at hf
        refine va_iast hx hb hK hP hD hS 20 1 rfl rfl hi21 dX0_keepPlan_21 (fun H locs hP hD hS => ?_)
        obtain ⟨M_h_21, eM_h_21, hf⟩ := wr_some hf
        have hP : va_P (dC, dI) vwCl ((wX1 cyB cyI cyZ cyO a1 a1_bale a1_owner a1_room a1_value a1_weight a1_roomFrom a1_valueFrom a1_weightFrom a1_free a1_side a1_bestSide M_a1) ++ (wX0 cyB cyI cyZ cyO h h_owner h_size h_weight h_worth h_level h_holder h_side h_planned M_h_21)) H := by rw [eM_h_21]; exact hP
        have hD : va_D A ((wX1 cyB cyI cyZ cyO a1 a1_bale a1_owner a1_room a1_value a1_weight a1_roomFrom a1_valueFrom a1_weightFrom a1_free a1_side a1_bestSide M_a1) ++ (wX0 cyB cyI cyZ cyO h h_owner h_size h_weight h_worth h_level h_holder h_side h_planned M_h_21)) := by rw [eM_h_21]; exact hD
        refine lv_iinc (v := (x2 + (1 : Int32))) (lv' := [(2, .int (x2 + (1 : Int32))), (0, .ref h), (1, .ref a1)]) hx hb dX0_keepPlan_22 hl (k := 2) rfl rfl (by decide) rfl (fun ls hl => ?_)
        refine lv_goto (tgt := 7) hx hb dX0_keepPlan_25 (by decide) ?_
        exact ih M_h_21 (x2 + (1 : Int32)) _ _ ls hf hP hD hS (lv_sub hl [1, 2, 0] rfl)
  rw [f_X0_keepPlan] at hf
  refine lv_aload_n hx hb dX0_keepPlan_0 rfl (lv_at hl 0 rfl) ?_
  refine lv_iconst (v := (1 : Int32)) hx hb dX0_keepPlan_1 (by decide) ?_
  refine va_put (D := (dC, dI)) (ci := 0) (v := .int (1 : Int32)) (ty := .boolean) (C := RX0) (T := TX0) (N := 10) hx hb hts hin0 tyX0 tyX0_ok nmX0 hown hK hP hD hS 12 rfl rfl 8 (by decide) kf37 (fun _ h9 => h9) rfl (by decide +kernel) rfl rfl (Nat.le_of_ble_eq_true rfl) dX0_keepPlan_2 (fun H locs hP hD hS => ?_)
  obtain ⟨M_h_2, eM_h_2, hf⟩ := wr_some hf
  have hP : va_P (dC, dI) vwCl ((wX1 cyB cyI cyZ cyO a1 a1_bale a1_owner a1_room a1_value a1_weight a1_roomFrom a1_valueFrom a1_weightFrom a1_free a1_side a1_bestSide M_a1) ++ (wX0 cyB cyI cyZ cyO h h_owner h_size h_weight h_worth h_level h_holder h_side h_planned M_h_2)) H := by rw [eM_h_2]; exact hP
  have hD : va_D A ((wX1 cyB cyI cyZ cyO a1 a1_bale a1_owner a1_room a1_value a1_weight a1_roomFrom a1_valueFrom a1_weightFrom a1_free a1_side a1_bestSide M_a1) ++ (wX0 cyB cyI cyZ cyO h h_owner h_size h_weight h_worth h_level h_holder h_side h_planned M_h_2)) := by rw [eM_h_2]; exact hD
  refine lv_iconst (v := (0 : Int32)) hx hb dX0_keepPlan_5 (by decide) ?_
  refine lv_istore_n (lv' := [(2, .int (0 : Int32)), (0, .ref h), (1, .ref a1)]) hx hb dX0_keepPlan_6 rfl hl (by decide) rfl (fun ls hl => ?_)
  exact L7 FU M_h_2 (0 : Int32) _ _ ls hf hP hD hS (lv_sub hl [1, 2, 0] rfl)
set_option maxHeartbeats 4000000 in
set_option maxRecDepth 100000 in
theorem c_X0_waiting (l : Launch) (dC : Nat → ClassId) (dI : Nat → Nat → Nat) (cyB cyI cyZ cyO : ClassId) (h h_owner h_size h_weight h_worth h_level h_holder h_side h_planned : Nat) (M_h : Mem) (r : Int32) (hf : f_X0_waiting M_h = some r) : Met l yX0_waiting wsX0_waiting ({ frames := 3, cells := 0, slots := 0, locals := 64 } : Room) (PR dC dI cyB cyI cyZ cyO ([.ref h] : List Value) (wX0 cyB cyI cyZ cyO h h_owner h_size h_weight h_worth h_level h_holder h_side h_planned M_h)) (QR (some (.int r))) 0 0 (fun _ => False) := by
  refine Met.ofW (cc := cX0_waiting) (maxL := 3) (ret := (some .int)) (by decide) rfl ?_
  intro p e s m args below meth c s₁ B hml hv
  obtain ⟨rfl, hP, hCx⟩ := hv
  have hK := hCx.1
  have hN := hCx.2
  have hx := B.exec
  have hb := B.bytes
  have hr := B.returns
  have hts := atoms_spec (ws := wsX0_waiting) B.pre
  have hown : s.vm.findClass RX0 = some m.cls := findClass_of_methodNamed B.named
  have hlocks := B.notSynchronized
  have hin0 : ∀ w ∈ u_ws RX0 TX0 10, w ∈ wsX0_waiting := fun w h => List.mem_cons_of_mem _ (List.mem_append_right _ h)
  have kf9 := hts (.fieldLink RX0 9 "HoldSlips$Bales" "number" "I") (by decide +kernel)
  have hl := lv_entry ([.ref h] : List Value) (n := 3) (Nat.le_of_ble_eq_true rfl)
  rw [lg_entry_eq]
  generalize (lg_sl ([.ref h] : List Value) ++ List.replicate (3 - (lg_sl ([.ref h] : List Value)).length) Slot.unset).toArray = ls at hl ⊢
  have hl : lv_has ls 3 [(0, .ref h)] := hl
  have L4 : ∀ (n : Nat), ∀ (x1 : Int32) (x2 : Int32) (ls : Array Slot), f_X0_waiting_L4 n M_h x1 x2 = some r → lv_has ls 3 [(0, .ref h), (1, .int x1), (2, .int x2)] → W p l e (headSpec wsX0_waiting ({ frames := 3, cells := 0, slots := 0, locals := 64 } : Room)).room s m ([.ref h] : List Value).toArray below meth c s.heap [] 0 0 (MQ below (QR (some (.int r))) ([.ref h] : List Value).toArray s 0 0 (fun _ => False)) (F0 m 4 ls []) := by
    intro n
    induction n with
    | zero => intro x1 x2 ls hf hl; rw [f_X0_waiting_L4] at hf; cases hf
    | succ n ih =>
      intro x1 x2 ls hf hl
      rw [f_X0_waiting_L4] at hf
      refine lv_iload_n hx hb dX0_waiting_4 rfl (lv_at hl 2 rfl) ?_
      refine lv_aload_n hx hb dX0_waiting_5 rfl (lv_at hl 0 rfl) ?_
      refine va_get (D := (dC, dI)) (ci := 0) (v := .int (M_h 0 0)) (C := RX0) (T := TX0) (N := 10) hx hb hts hin0 hown hK hP 0 rfl rfl 0 (by decide) kf9 (fun _ h9 => h9) rfl dX0_waiting_6 ?_
      refine lv_icmp_ge (tgt := 34) hx hb dX0_waiting_9 (by decide) (fun hc9 => ?_) (fun hc9 => ?_)
      · rw [if_pos hc9] at hf
        refine lv_iload_n hx hb dX0_waiting_34 rfl (lv_at hl 1 rfl) ?_
        have hq := Option.some.inj hf
        subst hq
        exact W.iret (v := x1) hx hb hr (fun t ht hW => ⟨rfl, ht⟩) (fun q h => by cases h) dX0_waiting_35
      · rw [if_neg hc9] at hf
        refine lv_iload_n hx hb dX0_waiting_12 rfl (lv_at hl 1 rfl) ?_
        refine lv_aload_n hx hb dX0_waiting_13 rfl (lv_at hl 0 rfl) ?_
        refine lv_iload_n hx hb dX0_waiting_14 rfl (lv_at hl 2 rfl) ?_
        obtain ⟨r15, h15, hf⟩ := bd1_some hf
        refine ro_calli (va_runV (As := [.int x2]) (rest := [.int x1]) ⟨hx, hb, hml, hown, hts⟩ (c_X0_waits l dC dI cyB cyI cyZ cyO h h_owner h_size h_weight h_worth h_level h_holder h_side h_planned M_h x2 r15 h15) (cwV 1 hts gX0_waiting_X0_waits rfl rfl rfl (by decide +kernel) ⟨Nat.le_of_ble_eq_true rfl, Nat.le_of_ble_eq_true rfl⟩) ⟨PR.blind, va_recv hK hP (ci := 0) (q0 := 0) rfl rfl, fun U hU hW => ⟨rfl, by rw [hU]; exact hP, hCx.warm hW⟩⟩ rfl rfl hl.1 rfl (lv_room (Nat.le_of_ble_eq_true rfl)) dX0_waiting_15 ⟨Nat.zero_le _, Nat.zero_le _⟩) ?_
        refine lv_if_eq (tgt := 25) hx hb dX0_waiting_18 (by decide) (fun hc18 => ?_) (fun hc18 => ?_)
        · rw [if_pos hc18] at hf
          refine lv_iconst (v := (0 : Int32)) hx hb dX0_waiting_25 (by decide) ?_
          refine lv_iadd hx hb dX0_waiting_26 ?_
          refine lv_istore_n (lv' := [(1, .int (x1 + (0 : Int32))), (0, .ref h), (2, .int x2)]) hx hb dX0_waiting_27 rfl hl (by decide) rfl (fun ls hl => ?_)
          refine lv_iinc (v := (x2 + (1 : Int32))) (lv' := [(2, .int (x2 + (1 : Int32))), (1, .int (x1 + (0 : Int32))), (0, .ref h)]) hx hb dX0_waiting_28 hl (k := 2) rfl rfl (by decide) rfl (fun ls hl => ?_)
          refine lv_goto (tgt := 4) hx hb dX0_waiting_31 (by decide) ?_
          exact ih (x1 + (0 : Int32)) (x2 + (1 : Int32)) ls hf (lv_sub hl [2, 1, 0] rfl)
        · rw [if_neg hc18] at hf
          refine lv_iconst (v := (1 : Int32)) hx hb dX0_waiting_21 (by decide) ?_
          refine lv_goto (tgt := 26) hx hb dX0_waiting_22 (by decide) ?_
          refine lv_iadd hx hb dX0_waiting_26 ?_
          refine lv_istore_n (lv' := [(1, .int (x1 + (1 : Int32))), (0, .ref h), (2, .int x2)]) hx hb dX0_waiting_27 rfl hl (by decide) rfl (fun ls hl => ?_)
          refine lv_iinc (v := (x2 + (1 : Int32))) (lv' := [(2, .int (x2 + (1 : Int32))), (1, .int (x1 + (1 : Int32))), (0, .ref h)]) hx hb dX0_waiting_28 hl (k := 2) rfl rfl (by decide) rfl (fun ls hl => ?_)
          refine lv_goto (tgt := 4) hx hb dX0_waiting_31 (by decide) ?_
          exact ih (x1 + (1 : Int32)) (x2 + (1 : Int32)) ls hf (lv_sub hl [2, 1, 0] rfl)
  rw [f_X0_waiting] at hf
  refine lv_iconst (v := (0 : Int32)) hx hb dX0_waiting_0 (by decide) ?_
  refine lv_istore_n (lv' := [(1, .int (0 : Int32)), (0, .ref h)]) hx hb dX0_waiting_1 rfl hl (by decide) rfl (fun ls hl => ?_)
  refine lv_iconst (v := (0 : Int32)) hx hb dX0_waiting_2 (by decide) ?_
  refine lv_istore_n (lv' := [(2, .int (0 : Int32)), (1, .int (0 : Int32)), (0, .ref h)]) hx hb dX0_waiting_3 rfl hl (by decide) rfl (fun ls hl => ?_)
  exact L4 FU (0 : Int32) (0 : Int32) ls hf (lv_sub hl [2, 1, 0] rfl)
set_option maxHeartbeats 4000000 in
set_option maxRecDepth 100000 in
theorem c_X0_weightOn (l : Launch) (dC : Nat → ClassId) (dI : Nat → Nat → Nat) (cyB cyI cyZ cyO : ClassId) (h h_owner h_size h_weight h_worth h_level h_holder h_side h_planned : Nat) (M_h : Mem) (p1 : Int32) (r : Int32) (hf : f_X0_weightOn M_h p1 = some r) : Met l yX0_weightOn wsX0_weightOn ({ frames := 0, cells := 0, slots := 0, locals := 0 } : Room) (PR dC dI cyB cyI cyZ cyO ([.ref h, .int p1] : List Value) (wX0 cyB cyI cyZ cyO h h_owner h_size h_weight h_worth h_level h_holder h_side h_planned M_h)) (QR (some (.int r))) 0 0 (fun _ => False) := by
  refine Met.ofW (cc := cX0_weightOn) (maxL := 4) (ret := (some .int)) (by decide) rfl ?_
  intro p e s m args below meth c s₁ B hml hv
  obtain ⟨rfl, hP, hCx⟩ := hv
  have hK := hCx.1
  have hN := hCx.2
  have hx := B.exec
  have hb := B.bytes
  have hr := B.returns
  have hts := atoms_spec (ws := wsX0_weightOn) B.pre
  have hown : s.vm.findClass RX0 = some m.cls := findClass_of_methodNamed B.named
  have hlocks := B.notSynchronized
  have hin0 : ∀ w ∈ u_ws RX0 TX0 10, w ∈ wsX0_weightOn := fun w h => List.mem_cons_of_mem _ (List.mem_append_right _ h)
  have kf9 := hts (.fieldLink RX0 9 "HoldSlips$Bales" "number" "I") (by decide +kernel)
  have kf22 := hts (.fieldLink RX0 22 "HoldSlips$Bales" "weight" "[I") (by decide +kernel)
  have kf34 := hts (.fieldLink RX0 34 "HoldSlips$Bales" "side" "[I") (by decide +kernel)
  have hl := lv_entry ([.ref h, .int p1] : List Value) (n := 4) (Nat.le_of_ble_eq_true rfl)
  rw [lg_entry_eq]
  generalize (lg_sl ([.ref h, .int p1] : List Value) ++ List.replicate (4 - (lg_sl ([.ref h, .int p1] : List Value)).length) Slot.unset).toArray = ls at hl ⊢
  have hl : lv_has ls 4 [(0, .ref h), (1, .int p1)] := hl
  have L4 : ∀ (n : Nat), ∀ (x1 : Int32) (x2 : Int32) (x3 : Int32) (ls : Array Slot), f_X0_weightOn_L4 n M_h x1 x2 x3 = some r → lv_has ls 4 [(0, .ref h), (1, .int x1), (2, .int x2), (3, .int x3)] → W p l e (headSpec wsX0_weightOn ({ frames := 0, cells := 0, slots := 0, locals := 0 } : Room)).room s m ([.ref h, .int p1] : List Value).toArray below meth c s.heap [] 0 0 (MQ below (QR (some (.int r))) ([.ref h, .int p1] : List Value).toArray s 0 0 (fun _ => False)) (F0 m 4 ls []) := by
    intro n
    induction n with
    | zero => intro x1 x2 x3 ls hf hl; rw [f_X0_weightOn_L4] at hf; cases hf
    | succ n ih =>
      intro x1 x2 x3 ls hf hl
      rw [f_X0_weightOn_L4] at hf
      refine lv_iload_n hx hb dX0_weightOn_4 rfl (lv_at hl 3 rfl) ?_
      refine lv_aload_n hx hb dX0_weightOn_5 rfl (lv_at hl 0 rfl) ?_
      refine va_get (D := (dC, dI)) (ci := 0) (v := .int (M_h 0 0)) (C := RX0) (T := TX0) (N := 10) hx hb hts hin0 hown hK hP 0 rfl rfl 0 (by decide) kf9 (fun _ h9 => h9) rfl dX0_weightOn_6 ?_
      refine lv_icmp_ge (tgt := 41) hx hb dX0_weightOn_9 (by decide) (fun hc9 => ?_) (fun hc9 => ?_)
      · rw [if_pos hc9] at hf
        refine lv_iload_n hx hb dX0_weightOn_41 rfl (lv_at hl 2 rfl) ?_
        have hq := Option.some.inj hf
        subst hq
        exact W.iret (v := x2) hx hb hr (fun t ht hW => ⟨rfl, ht⟩) (fun q h => by cases h) dX0_weightOn_42
      · rw [if_neg hc9] at hf
        refine lv_iload_n hx hb dX0_weightOn_12 rfl (lv_at hl 2 rfl) ?_
        refine lv_aload_n hx hb dX0_weightOn_13 rfl (lv_at hl 0 rfl) ?_
        refine va_get (D := (dC, dI)) (ci := 0) (v := .ref h_side) (C := RX0) (T := TX0) (N := 10) hx hb hts hin0 hown hK hP 0 rfl rfl 7 (by decide) kf34 (fun _ h9 => h9) rfl dX0_weightOn_14 ?_
        refine lv_iload_n hx hb dX0_weightOn_17 rfl (lv_at hl 3 rfl) ?_
        have hi18 := if_no hf
        rw [if_neg hi18] at hf
        refine va_iald hx hb hK hP 7 1 rfl rfl hi18 dX0_weightOn_18 ?_
        refine lv_iload_n hx hb dX0_weightOn_19 rfl (lv_at hl 1 rfl) ?_
        refine lv_icmp_ne (tgt := 32) hx hb dX0_weightOn_20 (by decide) (fun hc20 => ?_) (fun hc20 => ?_)
        · rw [if_neg hc20] at hf
          refine lv_iconst (v := (0 : Int32)) hx hb dX0_weightOn_32 (by decide) ?_
          refine lv_iadd hx hb dX0_weightOn_33 ?_
          refine lv_istore_n (lv' := [(2, .int (x2 + (0 : Int32))), (0, .ref h), (1, .int x1), (3, .int x3)]) hx hb dX0_weightOn_34 rfl hl (by decide) rfl (fun ls hl => ?_)
          refine lv_iinc (v := (x3 + (1 : Int32))) (lv' := [(3, .int (x3 + (1 : Int32))), (2, .int (x2 + (0 : Int32))), (0, .ref h), (1, .int x1)]) hx hb dX0_weightOn_35 hl (k := 3) rfl rfl (by decide) rfl (fun ls hl => ?_)
          refine lv_goto (tgt := 4) hx hb dX0_weightOn_38 (by decide) ?_
          exact ih x1 (x2 + (0 : Int32)) (x3 + (1 : Int32)) ls hf (lv_sub hl [2, 3, 1, 0] rfl)
        · rw [if_pos hc20] at hf
          refine lv_aload_n hx hb dX0_weightOn_23 rfl (lv_at hl 0 rfl) ?_
          refine va_get (D := (dC, dI)) (ci := 0) (v := .ref h_weight) (C := RX0) (T := TX0) (N := 10) hx hb hts hin0 hown hK hP 0 rfl rfl 3 (by decide) kf22 (fun _ h9 => h9) rfl dX0_weightOn_24 ?_
          refine lv_iload_n hx hb dX0_weightOn_27 rfl (lv_at hl 3 rfl) ?_
          refine va_iald hx hb hK hP 3 1 rfl rfl hi18 dX0_weightOn_28 ?_
          refine lv_goto (tgt := 33) hx hb dX0_weightOn_29 (by decide) ?_
          refine lv_iadd hx hb dX0_weightOn_33 ?_
          refine lv_istore_n (lv' := [(2, .int (x2 + (M_h 3 (x3).toNatClampNeg))), (0, .ref h), (1, .int x1), (3, .int x3)]) hx hb dX0_weightOn_34 rfl hl (by decide) rfl (fun ls hl => ?_)
          refine lv_iinc (v := (x3 + (1 : Int32))) (lv' := [(3, .int (x3 + (1 : Int32))), (2, .int (x2 + (M_h 3 (x3).toNatClampNeg))), (0, .ref h), (1, .int x1)]) hx hb dX0_weightOn_35 hl (k := 3) rfl rfl (by decide) rfl (fun ls hl => ?_)
          refine lv_goto (tgt := 4) hx hb dX0_weightOn_38 (by decide) ?_
          exact ih x1 (x2 + (M_h 3 (x3).toNatClampNeg)) (x3 + (1 : Int32)) ls hf (lv_sub hl [2, 3, 1, 0] rfl)
  rw [f_X0_weightOn] at hf
  refine lv_iconst (v := (0 : Int32)) hx hb dX0_weightOn_0 (by decide) ?_
  refine lv_istore_n (lv' := [(2, .int (0 : Int32)), (0, .ref h), (1, .int p1)]) hx hb dX0_weightOn_1 rfl hl (by decide) rfl (fun ls hl => ?_)
  refine lv_iconst (v := (0 : Int32)) hx hb dX0_weightOn_2 (by decide) ?_
  refine lv_istore_n (lv' := [(3, .int (0 : Int32)), (2, .int (0 : Int32)), (0, .ref h), (1, .int p1)]) hx hb dX0_weightOn_3 rfl hl (by decide) rfl (fun ls hl => ?_)
  exact L4 FU p1 (0 : Int32) (0 : Int32) ls hf (lv_sub hl [2, 3, 1, 0] rfl)
set_option maxHeartbeats 4000000 in
set_option maxRecDepth 100000 in
theorem c_X0_ladenWeight (l : Launch) (dC : Nat → ClassId) (dI : Nat → Nat → Nat) (cyB cyI cyZ cyO : ClassId) (h h_owner h_size h_weight h_worth h_level h_holder h_side h_planned : Nat) (M_h : Mem) (r : Int32) (hf : f_X0_ladenWeight M_h = some r) : Met l yX0_ladenWeight wsX0_ladenWeight ({ frames := 1, cells := 0, slots := 0, locals := 23 } : Room) (PR dC dI cyB cyI cyZ cyO ([.ref h] : List Value) (wX0 cyB cyI cyZ cyO h h_owner h_size h_weight h_worth h_level h_holder h_side h_planned M_h)) (QR (some (.int r))) 0 0 (fun _ => False) := by
  refine Met.ofW (cc := cX0_ladenWeight) (maxL := 1) (ret := (some .int)) (by decide) rfl ?_
  intro p e s m args below meth c s₁ B hml hv
  obtain ⟨rfl, hP, hCx⟩ := hv
  have hK := hCx.1
  have hN := hCx.2
  have hx := B.exec
  have hb := B.bytes
  have hr := B.returns
  have hts := atoms_spec (ws := wsX0_ladenWeight) B.pre
  have hown : s.vm.findClass RX0 = some m.cls := findClass_of_methodNamed B.named
  have hlocks := B.notSynchronized
  have hl := lv_entry ([.ref h] : List Value) (n := 1) (Nat.le_of_ble_eq_true rfl)
  rw [lg_entry_eq]
  generalize (lg_sl ([.ref h] : List Value) ++ List.replicate (1 - (lg_sl ([.ref h] : List Value)).length) Slot.unset).toArray = ls at hl ⊢
  have hl : lv_has ls 1 [(0, .ref h)] := hl
  rw [f_X0_ladenWeight] at hf
  refine lv_aload_n hx hb dX0_ladenWeight_0 rfl (lv_at hl 0 rfl) ?_
  refine lv_iconst (v := (0 : Int32)) hx hb dX0_ladenWeight_1 (by decide) ?_
  obtain ⟨r2, h2, hf⟩ := bd1_some hf
  refine ro_calli (va_runV (As := [.int (0 : Int32)]) (rest := []) ⟨hx, hb, hml, hown, hts⟩ (c_X0_weightOn l dC dI cyB cyI cyZ cyO h h_owner h_size h_weight h_worth h_level h_holder h_side h_planned M_h (0 : Int32) r2 h2) (cwV 1 hts gX0_ladenWeight_X0_weightOn rfl rfl rfl (by decide +kernel) ⟨Nat.le_of_ble_eq_true rfl, Nat.le_of_ble_eq_true rfl⟩) ⟨PR.blind, va_recv hK hP (ci := 0) (q0 := 0) rfl rfl, fun U hU hW => ⟨rfl, by rw [hU]; exact hP, hCx.warm hW⟩⟩ rfl rfl hl.1 rfl (lv_room (Nat.le_of_ble_eq_true rfl)) dX0_ladenWeight_2 ⟨Nat.zero_le _, Nat.zero_le _⟩) ?_
  refine lv_aload_n hx hb dX0_ladenWeight_5 rfl (lv_at hl 0 rfl) ?_
  refine lv_iconst (v := (1 : Int32)) hx hb dX0_ladenWeight_6 (by decide) ?_
  obtain ⟨r7, h7, hf⟩ := bd1_some hf
  refine ro_calli (va_runV (As := [.int (1 : Int32)]) (rest := [.int r2]) ⟨hx, hb, hml, hown, hts⟩ (c_X0_weightOn l dC dI cyB cyI cyZ cyO h h_owner h_size h_weight h_worth h_level h_holder h_side h_planned M_h (1 : Int32) r7 h7) (cwV 1 hts gX0_ladenWeight_X0_weightOn rfl rfl rfl (by decide +kernel) ⟨Nat.le_of_ble_eq_true rfl, Nat.le_of_ble_eq_true rfl⟩) ⟨PR.blind, va_recv hK hP (ci := 0) (q0 := 0) rfl rfl, fun U hU hW => ⟨rfl, by rw [hU]; exact hP, hCx.warm hW⟩⟩ rfl rfl hl.1 rfl (lv_room (Nat.le_of_ble_eq_true rfl)) dX0_ladenWeight_7 ⟨Nat.zero_le _, Nat.zero_le _⟩) ?_
  refine lv_iadd hx hb dX0_ladenWeight_10 ?_
  have hq := Option.some.inj hf
  subst hq
  exact W.iret (v := (r2 + r7)) hx hb hr (fun t ht hW => ⟨rfl, ht⟩) (fun q h => by cases h) dX0_ladenWeight_11
set_option maxHeartbeats 4000000 in
set_option maxRecDepth 100000 in
theorem c_X0_tilt (l : Launch) (dC : Nat → ClassId) (dI : Nat → Nat → Nat) (cyB cyI cyZ cyO : ClassId) (h h_owner h_size h_weight h_worth h_level h_holder h_side h_planned : Nat) (M_h : Mem) (r : Int32) (hf : f_X0_tilt M_h = some r) : Met l yX0_tilt wsX0_tilt ({ frames := 1, cells := 0, slots := 0, locals := 23 } : Room) (PR dC dI cyB cyI cyZ cyO ([.ref h] : List Value) (wX0 cyB cyI cyZ cyO h h_owner h_size h_weight h_worth h_level h_holder h_side h_planned M_h)) (QR (some (.int r))) 0 0 (fun _ => False) := by
  refine Met.ofW (cc := cX0_tilt) (maxL := 1) (ret := (some .int)) (by decide) rfl ?_
  intro p e s m args below meth c s₁ B hml hv
  obtain ⟨rfl, hP, hCx⟩ := hv
  have hK := hCx.1
  have hN := hCx.2
  have hx := B.exec
  have hb := B.bytes
  have hr := B.returns
  have hts := atoms_spec (ws := wsX0_tilt) B.pre
  have hown : s.vm.findClass RX0 = some m.cls := findClass_of_methodNamed B.named
  have hlocks := B.notSynchronized
  have hl := lv_entry ([.ref h] : List Value) (n := 1) (Nat.le_of_ble_eq_true rfl)
  rw [lg_entry_eq]
  generalize (lg_sl ([.ref h] : List Value) ++ List.replicate (1 - (lg_sl ([.ref h] : List Value)).length) Slot.unset).toArray = ls at hl ⊢
  have hl : lv_has ls 1 [(0, .ref h)] := hl
  rw [f_X0_tilt] at hf
  refine lv_aload_n hx hb dX0_tilt_0 rfl (lv_at hl 0 rfl) ?_
  refine lv_iconst (v := (0 : Int32)) hx hb dX0_tilt_1 (by decide) ?_
  obtain ⟨r2, h2, hf⟩ := bd1_some hf
  refine ro_calli (va_runV (As := [.int (0 : Int32)]) (rest := []) ⟨hx, hb, hml, hown, hts⟩ (c_X0_weightOn l dC dI cyB cyI cyZ cyO h h_owner h_size h_weight h_worth h_level h_holder h_side h_planned M_h (0 : Int32) r2 h2) (cwV 1 hts gX0_tilt_X0_weightOn rfl rfl rfl (by decide +kernel) ⟨Nat.le_of_ble_eq_true rfl, Nat.le_of_ble_eq_true rfl⟩) ⟨PR.blind, va_recv hK hP (ci := 0) (q0 := 0) rfl rfl, fun U hU hW => ⟨rfl, by rw [hU]; exact hP, hCx.warm hW⟩⟩ rfl rfl hl.1 rfl (lv_room (Nat.le_of_ble_eq_true rfl)) dX0_tilt_2 ⟨Nat.zero_le _, Nat.zero_le _⟩) ?_
  refine lv_aload_n hx hb dX0_tilt_5 rfl (lv_at hl 0 rfl) ?_
  refine lv_iconst (v := (1 : Int32)) hx hb dX0_tilt_6 (by decide) ?_
  obtain ⟨r7, h7, hf⟩ := bd1_some hf
  refine ro_calli (va_runV (As := [.int (1 : Int32)]) (rest := [.int r2]) ⟨hx, hb, hml, hown, hts⟩ (c_X0_weightOn l dC dI cyB cyI cyZ cyO h h_owner h_size h_weight h_worth h_level h_holder h_side h_planned M_h (1 : Int32) r7 h7) (cwV 1 hts gX0_tilt_X0_weightOn rfl rfl rfl (by decide +kernel) ⟨Nat.le_of_ble_eq_true rfl, Nat.le_of_ble_eq_true rfl⟩) ⟨PR.blind, va_recv hK hP (ci := 0) (q0 := 0) rfl rfl, fun U hU hW => ⟨rfl, by rw [hU]; exact hP, hCx.warm hW⟩⟩ rfl rfl hl.1 rfl (lv_room (Nat.le_of_ble_eq_true rfl)) dX0_tilt_7 ⟨Nat.zero_le _, Nat.zero_le _⟩) ?_
  refine lv_isub hx hb dX0_tilt_10 ?_
  have hq := Option.some.inj hf
  subst hq
  exact W.iret (v := (r2 - r7)) hx hb hr (fun t ht hW => ⟨rfl, ht⟩) (fun q h => by cases h) dX0_tilt_11
set_option maxHeartbeats 4000000 in
set_option maxRecDepth 100000 in
theorem c_X0_value (l : Launch) (dC : Nat → ClassId) (dI : Nat → Nat → Nat) (cyB cyI cyZ cyO : ClassId) (h h_owner h_size h_weight h_worth h_level h_holder h_side h_planned : Nat) (M_h : Mem) (p1 : Int32) (r : Int32) (hf : f_X0_value M_h p1 = some r) : Met l yX0_value wsX0_value ({ frames := 0, cells := 0, slots := 0, locals := 0 } : Room) (PR dC dI cyB cyI cyZ cyO ([.ref h, .int p1] : List Value) (wX0 cyB cyI cyZ cyO h h_owner h_size h_weight h_worth h_level h_holder h_side h_planned M_h)) (QR (some (.int r))) 0 0 (fun _ => False) := by
  refine Met.ofW (cc := cX0_value) (maxL := 2) (ret := (some .int)) (by decide) rfl ?_
  intro p e s m args below meth c s₁ B hml hv
  obtain ⟨rfl, hP, hCx⟩ := hv
  have hK := hCx.1
  have hN := hCx.2
  have hx := B.exec
  have hb := B.bytes
  have hr := B.returns
  have hts := atoms_spec (ws := wsX0_value) B.pre
  have hown : s.vm.findClass RX0 = some m.cls := findClass_of_methodNamed B.named
  have hlocks := B.notSynchronized
  have hin0 : ∀ w ∈ u_ws RX0 TX0 10, w ∈ wsX0_value := fun w h => List.mem_cons_of_mem _ (List.mem_append_right _ h)
  have kf25 := hts (.fieldLink RX0 25 "HoldSlips$Bales" "worth" "[I") (by decide +kernel)
  have kf28 := hts (.fieldLink RX0 28 "HoldSlips$Bales" "level" "[I") (by decide +kernel)
  have hl := lv_entry ([.ref h, .int p1] : List Value) (n := 2) (Nat.le_of_ble_eq_true rfl)
  rw [lg_entry_eq]
  generalize (lg_sl ([.ref h, .int p1] : List Value) ++ List.replicate (2 - (lg_sl ([.ref h, .int p1] : List Value)).length) Slot.unset).toArray = ls at hl ⊢
  have hl : lv_has ls 2 [(0, .ref h), (1, .int p1)] := hl
  rw [f_X0_value] at hf
  refine lv_aload_n hx hb dX0_value_0 rfl (lv_at hl 0 rfl) ?_
  refine va_get (D := (dC, dI)) (ci := 0) (v := .ref h_worth) (C := RX0) (T := TX0) (N := 10) hx hb hts hin0 hown hK hP 0 rfl rfl 4 (by decide) kf25 (fun _ h9 => h9) rfl dX0_value_1 ?_
  refine lv_iload_n hx hb dX0_value_4 rfl (lv_at hl 1 rfl) ?_
  have hi5 := if_no hf
  rw [if_neg hi5] at hf
  refine va_iald hx hb hK hP 4 1 rfl rfl hi5 dX0_value_5 ?_
  refine lv_aload_n hx hb dX0_value_6 rfl (lv_at hl 0 rfl) ?_
  refine va_get (D := (dC, dI)) (ci := 0) (v := .ref h_worth) (C := RX0) (T := TX0) (N := 10) hx hb hts hin0 hown hK hP 0 rfl rfl 4 (by decide) kf25 (fun _ h9 => h9) rfl dX0_value_7 ?_
  refine lv_iload_n hx hb dX0_value_10 rfl (lv_at hl 1 rfl) ?_
  refine va_iald hx hb hK hP 4 1 rfl rfl hi5 dX0_value_11 ?_
  refine lv_aload_n hx hb dX0_value_12 rfl (lv_at hl 0 rfl) ?_
  refine va_get (D := (dC, dI)) (ci := 0) (v := .ref h_level) (C := RX0) (T := TX0) (N := 10) hx hb hts hin0 hown hK hP 0 rfl rfl 5 (by decide) kf28 (fun _ h9 => h9) rfl dX0_value_13 ?_
  refine lv_iload_n hx hb dX0_value_16 rfl (lv_at hl 1 rfl) ?_
  refine va_iald hx hb hK hP 5 1 rfl rfl hi5 dX0_value_17 ?_
  refine lv_imul hx hb dX0_value_18 ?_
  refine lv_bipush (v := (20 : Int32)) hx hb dX0_value_19 (by decide) ?_
  refine lv_idiv hx hb dX0_value_21 (by decide) ?_
  refine lv_isub hx hb dX0_value_22 ?_
  have hq := Option.some.inj hf
  subst hq
  exact W.iret (v := ((M_h 4 (p1).toNatClampNeg) - (((M_h 4 (p1).toNatClampNeg) * (M_h 5 (p1).toNatClampNeg)) / (20 : Int32)))) hx hb hr (fun t ht hW => ⟨rfl, ht⟩) (fun q h => by cases h) dX0_value_23
set_option maxHeartbeats 4000000 in
set_option maxRecDepth 100000 in
theorem c_X6_bears (l : Launch) (dC : Nat → ClassId) (dI : Nat → Nat → Nat) (cyB cyI cyZ cyO : ClassId) (h : Nat) (M_h : Mem) (p1 : Int32) (p2 : Int32) (r : Int32) (hf : f_X6_bears M_h p1 p2 = some r) : Met l yX6_bears wsX6_bears ({ frames := 1, cells := 0, slots := 0, locals := 30 } : Room) (PR dC dI cyB cyI cyZ cyO ([.ref h, .int p1, .int p2] : List Value) (wX6 cyB cyI cyZ cyO h M_h)) (QR (some (.int r))) 0 0 (fun _ => False) := by
  refine Met.ofW (cc := cX6_bears) (maxL := 3) (ret := (some .boolean)) (by decide) rfl ?_
  intro p e s m args below meth c s₁ B hml hv
  obtain ⟨rfl, hP, hCx⟩ := hv
  have hK := hCx.1
  have hN := hCx.2
  have hx := B.exec
  have hb := B.bytes
  have hr := B.returns
  have hts := atoms_spec (ws := wsX6_bears) B.pre
  have hown : s.vm.findClass RX6 = some m.cls := findClass_of_methodNamed B.named
  have hlocks := B.notSynchronized
  have hin6 : ∀ w ∈ u_ws RX6 TX6 4, w ∈ wsX6_bears := fun w h => List.mem_cons_of_mem _ (List.mem_append_right _ h)
  have kf9 := hts (.fieldLink RX6 9 "HoldSlips$Rules" "bound" "I") (by decide +kernel)
  have kf15 := hts (.fieldLink RX6 15 "HoldSlips$Rules" "load" "I") (by decide +kernel)
  have hl := lv_entry ([.ref h, .int p1, .int p2] : List Value) (n := 3) (Nat.le_of_ble_eq_true rfl)
  rw [lg_entry_eq]
  generalize (lg_sl ([.ref h, .int p1, .int p2] : List Value) ++ List.replicate (3 - (lg_sl ([.ref h, .int p1, .int p2] : List Value)).length) Slot.unset).toArray = ls at hl ⊢
  have hl : lv_has ls 3 [(0, .ref h), (1, .int p1), (2, .int p2)] := hl
  rw [f_X6_bears] at hf
  refine lv_iload_n hx hb dX6_bears_0 rfl (lv_at hl 1 rfl) ?_
  refine va_mabs hx hb (hml.trans hl.1.symm) hown (hts (.methodLink RX6 32 Lib.Math.abs.name) (by decide +kernel)) (hts (.static Lib.Math.abs.name) (by decide +kernel)) (hts (.initialized "java/lang/Math") (by decide +kernel)) (hts (.code Lib.Math.abs.name Lib.Math.abs.code 1 (some .int)) (by decide +kernel)) (Nat.le_of_ble_eq_true rfl) (Nat.le_of_ble_eq_true rfl) (Nat.zero_le _) (Nat.zero_le _) dX6_bears_1 ?_
  refine lv_aload_n hx hb dX6_bears_4 rfl (lv_at hl 0 rfl) ?_
  refine va_get (D := (dC, dI)) (ci := 6) (v := .int (M_h 0 0)) (C := RX6) (T := TX6) (N := 4) hx hb hts hin6 hown hK hP 0 rfl rfl 0 (by decide) kf9 (fun _ h9 => h9) rfl dX6_bears_5 ?_
  refine lv_icmp_gt (tgt := 23) hx hb dX6_bears_8 (by decide) (fun hc8 => ?_) (fun hc8 => ?_)
  · rw [if_pos hc8] at hf
    refine lv_iconst (v := (0 : Int32)) hx hb dX6_bears_23 (by decide) ?_
    have hq := Option.some.inj hf
    subst hq
    exact W.zret (v := (0 : Int32)) hx hb hr rfl (fun t ht hW => ⟨rfl, ht⟩) (fun q h => by cases h) dX6_bears_24
  · rw [if_neg hc8] at hf
    refine lv_iload_n hx hb dX6_bears_11 rfl (lv_at hl 2 rfl) ?_
    refine lv_aload_n hx hb dX6_bears_12 rfl (lv_at hl 0 rfl) ?_
    refine va_get (D := (dC, dI)) (ci := 6) (v := .int (M_h 1 0)) (C := RX6) (T := TX6) (N := 4) hx hb hts hin6 hown hK hP 0 rfl rfl 1 (by decide) kf15 (fun _ h9 => h9) rfl dX6_bears_13 ?_
    refine lv_icmp_gt (tgt := 23) hx hb dX6_bears_16 (by decide) (fun hc16 => ?_) (fun hc16 => ?_)
    · rw [if_pos hc16] at hf
      refine lv_iconst (v := (0 : Int32)) hx hb dX6_bears_23 (by decide) ?_
      have hq := Option.some.inj hf
      subst hq
      exact W.zret (v := (0 : Int32)) hx hb hr rfl (fun t ht hW => ⟨rfl, ht⟩) (fun q h => by cases h) dX6_bears_24
    · rw [if_neg hc16] at hf
      refine lv_iconst (v := (1 : Int32)) hx hb dX6_bears_19 (by decide) ?_
      refine lv_goto (tgt := 24) hx hb dX6_bears_20 (by decide) ?_
      have hq := Option.some.inj hf
      subst hq
      exact W.zret (v := (1 : Int32)) hx hb hr rfl (fun t ht hW => ⟨rfl, ht⟩) (fun q h => by cases h) dX6_bears_24
set_option maxHeartbeats 4000000 in
set_option maxRecDepth 100000 in
theorem c_X0_judged (l : Launch) (dC : Nat → ClassId) (dI : Nat → Nat → Nat) (cyB cyI cyZ cyO : ClassId) (h h_owner h_size h_weight h_worth h_level h_holder h_side h_planned : Nat) (M_h : Mem) (p1 : Int32) (p2 : Int32) (r : Int32) (hf : f_X0_judged M_h p1 p2 = some r) : Met l yX0_judged wsX0_judged ({ frames := 3, cells := 0, slots := 0, locals := 64 } : Room) (PR dC dI cyB cyI cyZ cyO ([.ref h, .int p1, .int p2] : List Value) (wX0 cyB cyI cyZ cyO h h_owner h_size h_weight h_worth h_level h_holder h_side h_planned M_h)) (QR (some (.int r))) 0 0 (fun _ => False) := by
  refine Met.ofW (cc := cX0_judged) (maxL := 5) (ret := (some .int)) (by decide) rfl ?_
  intro p e s m args below meth c s₁ B hml hv
  obtain ⟨rfl, hP, hCx⟩ := hv
  have hK := hCx.1
  have hN := hCx.2
  have hx := B.exec
  have hb := B.bytes
  have hr := B.returns
  have hts := atoms_spec (ws := wsX0_judged) B.pre
  have hown : s.vm.findClass RX0 = some m.cls := findClass_of_methodNamed B.named
  have hlocks := B.notSynchronized
  have hin0 : ∀ w ∈ u_ws RX0 TX0 10, w ∈ wsX0_judged := fun w h => List.mem_cons_of_mem _ (List.mem_append_right _ h)
  have kf9 := hts (.fieldLink RX0 9 "HoldSlips$Bales" "number" "I") (by decide +kernel)
  have hl := lv_entry ([.ref h, .int p1, .int p2] : List Value) (n := 5) (Nat.le_of_ble_eq_true rfl)
  rw [lg_entry_eq]
  generalize (lg_sl ([.ref h, .int p1, .int p2] : List Value) ++ List.replicate (5 - (lg_sl ([.ref h, .int p1, .int p2] : List Value)).length) Slot.unset).toArray = ls at hl ⊢
  have hl : lv_has ls 5 [(0, .ref h), (1, .int p1), (2, .int p2)] := hl
  have L5 : ∀ (n : Nat), ∀ (x1 : Int32) (x2 : Int32) (x3 : Int32) (x4 : Int32) (ls : Array Slot), f_X0_judged_L5 n M_h x1 x2 x3 x4 = some r → lv_has ls 5 [(0, .ref h), (1, .int x1), (2, .int x2), (3, .int x3), (4, .int x4)] → W p l e (headSpec wsX0_judged ({ frames := 3, cells := 0, slots := 0, locals := 64 } : Room)).room s m ([.ref h, .int p1, .int p2] : List Value).toArray below meth c s.heap [] 0 0 (MQ below (QR (some (.int r))) ([.ref h, .int p1, .int p2] : List Value).toArray s 0 0 (fun _ => False)) (F0 m 5 ls []) := by
    intro n
    induction n with
    | zero => intro x1 x2 x3 x4 ls hf hl; rw [f_X0_judged_L5] at hf; cases hf
    | succ n ih =>
      intro x1 x2 x3 x4 ls hf hl
      rw [f_X0_judged_L5] at hf
      refine lv_iload hx hb dX0_judged_5 (lv_at hl 4 rfl) ?_
      refine lv_aload_n hx hb dX0_judged_7 rfl (lv_at hl 0 rfl) ?_
      refine va_get (D := (dC, dI)) (ci := 0) (v := .int (M_h 0 0)) (C := RX0) (T := TX0) (N := 10) hx hb hts hin0 hown hK hP 0 rfl rfl 0 (by decide) kf9 (fun _ h9 => h9) rfl dX0_judged_8 ?_
      refine lv_icmp_ge (tgt := 52) hx hb dX0_judged_11 (by decide) (fun hc11 => ?_) (fun hc11 => ?_)
      · rw [if_pos hc11] at hf
        refine lv_iload_n hx hb dX0_judged_52 rfl (lv_at hl 3 rfl) ?_
        have hq := Option.some.inj hf
        subst hq
        exact W.iret (v := x3) hx hb hr (fun t ht hW => ⟨rfl, ht⟩) (fun q h => by cases h) dX0_judged_53
      · rw [if_neg hc11] at hf
        refine lv_aload_n hx hb dX0_judged_14 rfl (lv_at hl 0 rfl) ?_
        refine lv_iload hx hb dX0_judged_15 (lv_at hl 4 rfl) ?_
        obtain ⟨r17, h17, hf⟩ := bd1_some hf
        refine ro_calli (va_runV (As := [.int x4]) (rest := []) ⟨hx, hb, hml, hown, hts⟩ (c_X0_lies l dC dI cyB cyI cyZ cyO h h_owner h_size h_weight h_worth h_level h_holder h_side h_planned M_h x4 r17 h17) (cwV 1 hts gX0_judged_X0_lies rfl rfl rfl (by decide +kernel) ⟨Nat.le_of_ble_eq_true rfl, Nat.le_of_ble_eq_true rfl⟩) ⟨PR.blind, va_recv hK hP (ci := 0) (q0 := 0) rfl rfl, fun U hU hW => ⟨rfl, by rw [hU]; exact hP, hCx.warm hW⟩⟩ rfl rfl hl.1 rfl (lv_room (Nat.le_of_ble_eq_true rfl)) dX0_judged_17 ⟨Nat.zero_le _, Nat.zero_le _⟩) ?_
        refine lv_if_eq (tgt := 46) hx hb dX0_judged_20 (by decide) (fun hc20 => ?_) (fun hc20 => ?_)
        · rw [if_pos hc20] at hf
          refine lv_iinc (v := (x4 + (1 : Int32))) (lv' := [(4, .int (x4 + (1 : Int32))), (0, .ref h), (1, .int x1), (2, .int x2), (3, .int x3)]) hx hb dX0_judged_46 hl (k := 4) rfl rfl (by decide) rfl (fun ls hl => ?_)
          refine lv_goto (tgt := 5) hx hb dX0_judged_49 (by decide) ?_
          exact ih x1 x2 x3 (x4 + (1 : Int32)) ls hf (lv_sub hl [1, 2, 3, 4, 0] rfl)
        · rw [if_neg hc20] at hf
          refine lv_iload_n hx hb dX0_judged_23 rfl (lv_at hl 3 rfl) ?_
          refine lv_iload_n hx hb dX0_judged_24 rfl (lv_at hl 1 rfl) ?_
          refine lv_iload hx hb dX0_judged_25 (lv_at hl 4 rfl) ?_
          refine lv_ishr hx hb dX0_judged_27 ?_
          refine lv_iconst (v := (1 : Int32)) hx hb dX0_judged_28 (by decide) ?_
          refine lv_iand hx hb dX0_judged_29 ?_
          refine lv_iconst (v := (1 : Int32)) hx hb dX0_judged_30 (by decide) ?_
          refine lv_icmp_ne (tgt := 43) hx hb dX0_judged_31 (by decide) (fun hc31 => ?_) (fun hc31 => ?_)
          · rw [if_neg hc31] at hf
            refine lv_iload_n hx hb dX0_judged_43 rfl (lv_at hl 2 rfl) ?_
            refine lv_iadd hx hb dX0_judged_44 ?_
            refine lv_istore_n (lv' := [(3, .int (x3 + x2)), (0, .ref h), (1, .int x1), (2, .int x2), (4, .int x4)]) hx hb dX0_judged_45 rfl hl (by decide) rfl (fun ls hl => ?_)
            refine lv_iinc (v := (x4 + (1 : Int32))) (lv' := [(4, .int (x4 + (1 : Int32))), (3, .int (x3 + x2)), (0, .ref h), (1, .int x1), (2, .int x2)]) hx hb dX0_judged_46 hl (k := 4) rfl rfl (by decide) rfl (fun ls hl => ?_)
            refine lv_goto (tgt := 5) hx hb dX0_judged_49 (by decide) ?_
            exact ih x1 x2 (x3 + x2) (x4 + (1 : Int32)) ls hf (lv_sub hl [2, 3, 4, 1, 0] rfl)
          · rw [if_pos hc31] at hf
            refine lv_aload_n hx hb dX0_judged_34 rfl (lv_at hl 0 rfl) ?_
            refine lv_iload hx hb dX0_judged_35 (lv_at hl 4 rfl) ?_
            obtain ⟨r37, h37, hf⟩ := bd1_some hf
            refine ro_calli (va_runV (As := [.int x4]) (rest := [.int x3]) ⟨hx, hb, hml, hown, hts⟩ (c_X0_value l dC dI cyB cyI cyZ cyO h h_owner h_size h_weight h_worth h_level h_holder h_side h_planned M_h x4 r37 h37) (cwV 1 hts gX0_judged_X0_value rfl rfl rfl (by decide +kernel) ⟨Nat.le_of_ble_eq_true rfl, Nat.le_of_ble_eq_true rfl⟩) ⟨PR.blind, va_recv hK hP (ci := 0) (q0 := 0) rfl rfl, fun U hU hW => ⟨rfl, by rw [hU]; exact hP, hCx.warm hW⟩⟩ rfl rfl hl.1 rfl (lv_room (Nat.le_of_ble_eq_true rfl)) dX0_judged_37 ⟨Nat.zero_le _, Nat.zero_le _⟩) ?_
            refine lv_goto (tgt := 44) hx hb dX0_judged_40 (by decide) ?_
            refine lv_iadd hx hb dX0_judged_44 ?_
            refine lv_istore_n (lv' := [(3, .int (x3 + r37)), (0, .ref h), (1, .int x1), (2, .int x2), (4, .int x4)]) hx hb dX0_judged_45 rfl hl (by decide) rfl (fun ls hl => ?_)
            refine lv_iinc (v := (x4 + (1 : Int32))) (lv' := [(4, .int (x4 + (1 : Int32))), (3, .int (x3 + r37)), (0, .ref h), (1, .int x1), (2, .int x2)]) hx hb dX0_judged_46 hl (k := 4) rfl rfl (by decide) rfl (fun ls hl => ?_)
            refine lv_goto (tgt := 5) hx hb dX0_judged_49 (by decide) ?_
            exact ih x1 x2 (x3 + r37) (x4 + (1 : Int32)) ls hf (lv_sub hl [2, 3, 4, 1, 0] rfl)
  rw [f_X0_judged] at hf
  refine lv_iconst (v := (0 : Int32)) hx hb dX0_judged_0 (by decide) ?_
  refine lv_istore_n (lv' := [(3, .int (0 : Int32)), (0, .ref h), (1, .int p1), (2, .int p2)]) hx hb dX0_judged_1 rfl hl (by decide) rfl (fun ls hl => ?_)
  refine lv_iconst (v := (0 : Int32)) hx hb dX0_judged_2 (by decide) ?_
  refine lv_istore (lv' := [(4, .int (0 : Int32)), (3, .int (0 : Int32)), (0, .ref h), (1, .int p1), (2, .int p2)]) hx hb dX0_judged_3 hl (by decide) rfl (fun ls hl => ?_)
  exact L5 FU p1 p2 (0 : Int32) (0 : Int32) ls hf (lv_sub hl [2, 3, 4, 1, 0] rfl)
set_option maxHeartbeats 4000000 in
set_option maxRecDepth 100000 in
theorem c_X5_enter (l : Launch) (dC : Nat → ClassId) (dI : Nat → Nat → Nat) (cyB cyI cyZ cyO : ClassId) (h h_lender h_borrower h_sum h_percent : Nat) (sz : Nat) (M_h : Mem) (p1 : Int32) (p2 : Int32) (p3 : Int32) (p4 : Int32) (r : Int32) (R_h : Mem) (hf : f_X5_enter M_h p1 p2 p3 p4 = some (r, R_h)) : Met l yX5_enter wsX5_enter ({ frames := 0, cells := 0, slots := 0, locals := 0 } : Room) (PW dC dI cyB cyI cyZ cyO ([.ref h, .int p1, .int p2, .int p3, .int p4] : List Value) (wX5 cyB cyI cyZ cyO h h_lender h_borrower h_sum h_percent M_h) sz) (QW dC dI (some (.int r)) (wX5 cyB cyI cyZ cyO h h_lender h_borrower h_sum h_percent R_h) (va_A (wX5 cyB cyI cyZ cyO h h_lender h_borrower h_sum h_percent M_h) sz)) 0 0 (va_A (wX5 cyB cyI cyZ cyO h h_lender h_borrower h_sum h_percent M_h) sz) := by
  refine Met.ofW (cc := cX5_enter) (maxL := 5) (ret := (some .int)) (by decide) rfl ?_
  intro p e s m args below meth c s₁ B hml hv
  obtain ⟨rfl, hsz, hP, hCx, hD0⟩ := hv
  have hK := hCx.1
  have hN := hCx.2
  have hx := B.exec
  have hb := B.bytes
  have hr := B.returns
  have hts := atoms_spec (ws := wsX5_enter) B.pre
  have hown : s.vm.findClass RX5 = some m.cls := findClass_of_methodNamed B.named
  have hlocks := B.notSynchronized
  have hin5 : ∀ w ∈ u_ws RX5 TX5 5, w ∈ wsX5_enter := fun w h => List.mem_cons_of_mem _ (List.mem_append_right _ h)
  have kf9 := hts (.fieldLink RX5 9 "HoldSlips$Loans" "number" "I") (by decide +kernel)
  have kf15 := hts (.fieldLink RX5 15 "HoldSlips$Loans" "lender" "[I") (by decide +kernel)
  have kf19 := hts (.fieldLink RX5 19 "HoldSlips$Loans" "borrower" "[I") (by decide +kernel)
  have kf22 := hts (.fieldLink RX5 22 "HoldSlips$Loans" "sum" "[I") (by decide +kernel)
  have kf25 := hts (.fieldLink RX5 25 "HoldSlips$Loans" "percent" "[I") (by decide +kernel)
  subst hsz
  have hD := hD0.self (sz := s.heap.size)
  generalize hAe : va_A (wX5 cyB cyI cyZ cyO h h_lender h_borrower h_sum h_percent M_h) s.heap.size = A at hD ⊢
  have hA : ∀ q : Nat, s.heap.size ≤ q → A q := fun q h => by rw [← hAe]; exact Or.inr h
  have hS : va_S A s.heap s.heap [] := va_S.rf
  have hl := lv_entry ([.ref h, .int p1, .int p2, .int p3, .int p4] : List Value) (n := 5) (Nat.le_of_ble_eq_true rfl)
  rw [lg_entry_eq]
  generalize (lg_sl ([.ref h, .int p1, .int p2, .int p3, .int p4] : List Value) ++ List.replicate (5 - (lg_sl ([.ref h, .int p1, .int p2, .int p3, .int p4] : List Value)).length) Slot.unset).toArray = ls at hl ⊢
  have hl : lv_has ls 5 [(0, .ref h), (1, .int p1), (2, .int p2), (3, .int p3), (4, .int p4)] := hl
  rw [f_X5_enter] at hf
  refine lv_aload_n hx hb dX5_enter_0 rfl (lv_at hl 0 rfl) ?_
  refine va_get (D := (dC, dI)) (ci := 5) (v := .int (M_h 0 0)) (C := RX5) (T := TX5) (N := 5) hx hb hts hin5 hown hK hP 0 rfl rfl 0 (by decide) kf9 (fun _ h9 => h9) rfl dX5_enter_1 ?_
  refine lv_bipush (v := (20 : Int32)) hx hb dX5_enter_4 (by decide) ?_
  refine lv_icmp_lt (tgt := 11) hx hb dX5_enter_6 (by decide) (fun hc6 => ?_) (fun hc6 => ?_)
  · rw [if_pos hc6] at hf
    refine lv_aload_n hx hb dX5_enter_11 rfl (lv_at hl 0 rfl) ?_
    refine va_get (D := (dC, dI)) (ci := 5) (v := .ref h_lender) (C := RX5) (T := TX5) (N := 5) hx hb hts hin5 hown hK hP 0 rfl rfl 1 (by decide) kf15 (fun _ h9 => h9) rfl dX5_enter_12 ?_
    refine lv_aload_n hx hb dX5_enter_15 rfl (lv_at hl 0 rfl) ?_
    refine va_get (D := (dC, dI)) (ci := 5) (v := .int (M_h 0 0)) (C := RX5) (T := TX5) (N := 5) hx hb hts hin5 hown hK hP 0 rfl rfl 0 (by decide) kf9 (fun _ h9 => h9) rfl dX5_enter_16 ?_
    refine lv_iload_n hx hb dX5_enter_19 rfl (lv_at hl 1 rfl) ?_
    have hi20 := if_no hf
    rw [if_neg hi20] at hf
    refine va_iast hx hb hK hP hD hS 1 1 rfl rfl hi20 dX5_enter_20 (fun H locs hP hD hS => ?_)
    obtain ⟨M_h_20, eM_h_20, hf⟩ := wr_some hf
    have hP : va_P (dC, dI) vwCl (wX5 cyB cyI cyZ cyO h h_lender h_borrower h_sum h_percent M_h_20) H := by rw [eM_h_20]; exact hP
    have hD : va_D A (wX5 cyB cyI cyZ cyO h h_lender h_borrower h_sum h_percent M_h_20) := by rw [eM_h_20]; exact hD
    refine lv_aload_n hx hb dX5_enter_21 rfl (lv_at hl 0 rfl) ?_
    refine va_get (D := (dC, dI)) (ci := 5) (v := .ref h_borrower) (C := RX5) (T := TX5) (N := 5) hx hb hts hin5 hown hK hP 0 rfl rfl 2 (by decide) kf19 (fun _ h9 => h9) rfl dX5_enter_22 ?_
    refine lv_aload_n hx hb dX5_enter_25 rfl (lv_at hl 0 rfl) ?_
    refine va_get (D := (dC, dI)) (ci := 5) (v := .int (M_h_20 0 0)) (C := RX5) (T := TX5) (N := 5) hx hb hts hin5 hown hK hP 0 rfl rfl 0 (by decide) kf9 (fun _ h9 => h9) rfl dX5_enter_26 ?_
    refine lv_iload_n hx hb dX5_enter_29 rfl (lv_at hl 2 rfl) ?_
    have hi30 := if_no hf
    rw [if_neg hi30] at hf
    refine va_iast hx hb hK hP hD hS 2 1 rfl rfl hi30 dX5_enter_30 (fun H locs hP hD hS => ?_)
    obtain ⟨M_h_30, eM_h_30, hf⟩ := wr_some hf
    have hP : va_P (dC, dI) vwCl (wX5 cyB cyI cyZ cyO h h_lender h_borrower h_sum h_percent M_h_30) H := by rw [eM_h_30]; exact hP
    have hD : va_D A (wX5 cyB cyI cyZ cyO h h_lender h_borrower h_sum h_percent M_h_30) := by rw [eM_h_30]; exact hD
    refine lv_aload_n hx hb dX5_enter_31 rfl (lv_at hl 0 rfl) ?_
    refine va_get (D := (dC, dI)) (ci := 5) (v := .ref h_sum) (C := RX5) (T := TX5) (N := 5) hx hb hts hin5 hown hK hP 0 rfl rfl 3 (by decide) kf22 (fun _ h9 => h9) rfl dX5_enter_32 ?_
    refine lv_aload_n hx hb dX5_enter_35 rfl (lv_at hl 0 rfl) ?_
    refine va_get (D := (dC, dI)) (ci := 5) (v := .int (M_h_30 0 0)) (C := RX5) (T := TX5) (N := 5) hx hb hts hin5 hown hK hP 0 rfl rfl 0 (by decide) kf9 (fun _ h9 => h9) rfl dX5_enter_36 ?_
    refine lv_iload_n hx hb dX5_enter_39 rfl (lv_at hl 3 rfl) ?_
    have hi40 := if_no hf
    rw [if_neg hi40] at hf
    refine va_iast hx hb hK hP hD hS 3 1 rfl rfl hi40 dX5_enter_40 (fun H locs hP hD hS => ?_)
    obtain ⟨M_h_40, eM_h_40, hf⟩ := wr_some hf
    have hP : va_P (dC, dI) vwCl (wX5 cyB cyI cyZ cyO h h_lender h_borrower h_sum h_percent M_h_40) H := by rw [eM_h_40]; exact hP
    have hD : va_D A (wX5 cyB cyI cyZ cyO h h_lender h_borrower h_sum h_percent M_h_40) := by rw [eM_h_40]; exact hD
    refine lv_aload_n hx hb dX5_enter_41 rfl (lv_at hl 0 rfl) ?_
    refine va_get (D := (dC, dI)) (ci := 5) (v := .ref h_percent) (C := RX5) (T := TX5) (N := 5) hx hb hts hin5 hown hK hP 0 rfl rfl 4 (by decide) kf25 (fun _ h9 => h9) rfl dX5_enter_42 ?_
    refine lv_aload_n hx hb dX5_enter_45 rfl (lv_at hl 0 rfl) ?_
    refine va_get (D := (dC, dI)) (ci := 5) (v := .int (M_h_40 0 0)) (C := RX5) (T := TX5) (N := 5) hx hb hts hin5 hown hK hP 0 rfl rfl 0 (by decide) kf9 (fun _ h9 => h9) rfl dX5_enter_46 ?_
    refine lv_iload hx hb dX5_enter_49 (lv_at hl 4 rfl) ?_
    have hi51 := if_no hf
    rw [if_neg hi51] at hf
    refine va_iast hx hb hK hP hD hS 4 1 rfl rfl hi51 dX5_enter_51 (fun H locs hP hD hS => ?_)
    obtain ⟨M_h_51, eM_h_51, hf⟩ := wr_some hf
    have hP : va_P (dC, dI) vwCl (wX5 cyB cyI cyZ cyO h h_lender h_borrower h_sum h_percent M_h_51) H := by rw [eM_h_51]; exact hP
    have hD : va_D A (wX5 cyB cyI cyZ cyO h h_lender h_borrower h_sum h_percent M_h_51) := by rw [eM_h_51]; exact hD
    refine lv_aload_n hx hb dX5_enter_52 rfl (lv_at hl 0 rfl) ?_
    refine lv_dup hx hb dX5_enter_53 rfl ?_
    refine va_get (D := (dC, dI)) (ci := 5) (v := .int (M_h_51 0 0)) (C := RX5) (T := TX5) (N := 5) hx hb hts hin5 hown hK hP 0 rfl rfl 0 (by decide) kf9 (fun _ h9 => h9) rfl dX5_enter_54 ?_
    refine lv_iconst (v := (1 : Int32)) hx hb dX5_enter_57 (by decide) ?_
    refine lv_iadd hx hb dX5_enter_58 ?_
    refine va_put (D := (dC, dI)) (ci := 5) (v := .int ((M_h_51 0 0) + (1 : Int32))) (ty := .int) (C := RX5) (T := TX5) (N := 5) hx hb hts hin5 tyX5 tyX5_ok nmX5 hown hK hP hD hS 0 rfl rfl 0 (by decide) kf9 (fun _ h9 => h9) rfl (by decide +kernel) rfl rfl (Nat.le_of_ble_eq_true rfl) dX5_enter_59 (fun H locs hP hD hS => ?_)
    obtain ⟨M_h_59, eM_h_59, hf⟩ := wr_some hf
    have hP : va_P (dC, dI) vwCl (wX5 cyB cyI cyZ cyO h h_lender h_borrower h_sum h_percent M_h_59) H := by rw [eM_h_59]; exact hP
    have hD : va_D A (wX5 cyB cyI cyZ cyO h h_lender h_borrower h_sum h_percent M_h_59) := by rw [eM_h_59]; exact hD
    refine lv_aload_n hx hb dX5_enter_62 rfl (lv_at hl 0 rfl) ?_
    refine va_get (D := (dC, dI)) (ci := 5) (v := .int (M_h_59 0 0)) (C := RX5) (T := TX5) (N := 5) hx hb hts hin5 hown hK hP 0 rfl rfl 0 (by decide) kf9 (fun _ h9 => h9) rfl dX5_enter_63 ?_
    refine lv_iconst (v := (1 : Int32)) hx hb dX5_enter_66 (by decide) ?_
    refine lv_isub hx hb dX5_enter_67 ?_
    obtain ⟨hq0, hq1⟩ := pj2 hf
    subst hq0
    subst hq1
    exact W.iret (v := ((M_h_59 0 0) - (1 : Int32))) hx hb hr (fun t ht hW => ⟨rfl, by rw [ht]; exact hP, hD, hS.F ht⟩) hS.2.2 dX5_enter_68
  · rw [if_neg hc6] at hf
    refine lv_iconst (v := (-1 : Int32)) hx hb dX5_enter_9 (by decide) ?_
    obtain ⟨hq0, hq1⟩ := pj2 hf
    subst hq0
    subst hq1
    exact W.iret (v := (-1 : Int32)) hx hb hr (fun t ht hW => ⟨rfl, by rw [ht]; exact hP, hD, hS.F ht⟩) hS.2.2 dX5_enter_10
set_option maxHeartbeats 4000000 in
set_option maxRecDepth 100000 in
theorem c_X0_dropAll (l : Launch) (dC : Nat → ClassId) (dI : Nat → Nat → Nat) (cyB cyI cyZ cyO : ClassId) (h h_owner h_size h_weight h_worth h_level h_holder h_side h_planned : Nat) (sz : Nat) (M_h : Mem) (R_h : Mem) (hf : f_X0_dropAll M_h = some R_h) : Met l yX0_dropAll wsX0_dropAll ({ frames := 0, cells := 0, slots := 0, locals := 0 } : Room) (PW dC dI cyB cyI cyZ cyO ([.ref h] : List Value) (wX0 cyB cyI cyZ cyO h h_owner h_size h_weight h_worth h_level h_holder h_side h_planned M_h) sz) (QW dC dI none (wX0 cyB cyI cyZ cyO h h_owner h_size h_weight h_worth h_level h_holder h_side h_planned R_h) (va_A (wX0 cyB cyI cyZ cyO h h_owner h_size h_weight h_worth h_level h_holder h_side h_planned M_h) sz)) 0 0 (va_A (wX0 cyB cyI cyZ cyO h h_owner h_size h_weight h_worth h_level h_holder h_side h_planned M_h) sz) := by
  refine Met.ofW (cc := cX0_dropAll) (maxL := 1) (ret := none) (by decide) rfl ?_
  intro p e s m args below meth c s₁ B hml hv
  obtain ⟨rfl, hsz, hP, hCx, hD0⟩ := hv
  have hK := hCx.1
  have hN := hCx.2
  have hx := B.exec
  have hb := B.bytes
  have hr := B.returns
  have hts := atoms_spec (ws := wsX0_dropAll) B.pre
  have hown : s.vm.findClass RX0 = some m.cls := findClass_of_methodNamed B.named
  have hlocks := B.notSynchronized
  have hin0 : ∀ w ∈ u_ws RX0 TX0 10, w ∈ wsX0_dropAll := fun w h => List.mem_cons_of_mem _ (List.mem_append_right _ h)
  have kf9 := hts (.fieldLink RX0 9 "HoldSlips$Bales" "number" "I") (by decide +kernel)
  have kf37 := hts (.fieldLink RX0 37 "HoldSlips$Bales" "isPlanned" "Z") (by decide +kernel)
  subst hsz
  have hD := hD0.self (sz := s.heap.size)
  generalize hAe : va_A (wX0 cyB cyI cyZ cyO h h_owner h_size h_weight h_worth h_level h_holder h_side h_planned M_h) s.heap.size = A at hD ⊢
  have hA : ∀ q : Nat, s.heap.size ≤ q → A q := fun q h => by rw [← hAe]; exact Or.inr h
  have hS : va_S A s.heap s.heap [] := va_S.rf
  have hl := lv_entry ([.ref h] : List Value) (n := 1) (Nat.le_of_ble_eq_true rfl)
  rw [lg_entry_eq]
  generalize (lg_sl ([.ref h] : List Value) ++ List.replicate (1 - (lg_sl ([.ref h] : List Value)).length) Slot.unset).toArray = ls at hl ⊢
  have hl : lv_has ls 1 [(0, .ref h)] := hl
  rw [f_X0_dropAll] at hf
  refine lv_aload_n hx hb dX0_dropAll_0 rfl (lv_at hl 0 rfl) ?_
  refine lv_iconst (v := (0 : Int32)) hx hb dX0_dropAll_1 (by decide) ?_
  refine va_put (D := (dC, dI)) (ci := 0) (v := .int (0 : Int32)) (ty := .int) (C := RX0) (T := TX0) (N := 10) hx hb hts hin0 tyX0 tyX0_ok nmX0 hown hK hP hD hS 0 rfl rfl 0 (by decide) kf9 (fun _ h9 => h9) rfl (by decide +kernel) rfl rfl (Nat.le_of_ble_eq_true rfl) dX0_dropAll_2 (fun H locs hP hD hS => ?_)
  obtain ⟨M_h_2, eM_h_2, hf⟩ := wr_some hf
  have hP : va_P (dC, dI) vwCl (wX0 cyB cyI cyZ cyO h h_owner h_size h_weight h_worth h_level h_holder h_side h_planned M_h_2) H := by rw [eM_h_2]; exact hP
  have hD : va_D A (wX0 cyB cyI cyZ cyO h h_owner h_size h_weight h_worth h_level h_holder h_side h_planned M_h_2) := by rw [eM_h_2]; exact hD
  refine lv_aload_n hx hb dX0_dropAll_5 rfl (lv_at hl 0 rfl) ?_
  refine lv_iconst (v := (0 : Int32)) hx hb dX0_dropAll_6 (by decide) ?_
  refine va_put (D := (dC, dI)) (ci := 0) (v := .int (0 : Int32)) (ty := .boolean) (C := RX0) (T := TX0) (N := 10) hx hb hts hin0 tyX0 tyX0_ok nmX0 hown hK hP hD hS 0 rfl rfl 8 (by decide) kf37 (fun _ h9 => h9) rfl (by decide +kernel) rfl rfl (Nat.le_of_ble_eq_true rfl) dX0_dropAll_7 (fun H locs hP hD hS => ?_)
  obtain ⟨M_h_7, eM_h_7, hf⟩ := wr_some hf
  have hP : va_P (dC, dI) vwCl (wX0 cyB cyI cyZ cyO h h_owner h_size h_weight h_worth h_level h_holder h_side h_planned M_h_7) H := by rw [eM_h_7]; exact hP
  have hD : va_D A (wX0 cyB cyI cyZ cyO h h_owner h_size h_weight h_worth h_level h_holder h_side h_planned M_h_7) := by rw [eM_h_7]; exact hD
  have hq := Option.some.inj hf
  subst hq
  exact W.vret hx hb hr (fun t ht hW => ⟨rfl, by rw [ht]; exact hP, hD, hS.F ht⟩) hS.2.2 dX0_dropAll_10
set_option maxHeartbeats 4000000 in
set_option maxRecDepth 100000 in
theorem c_X10_isCell (l : Launch) (dC : Nat → ClassId) (dI : Nat → Nat → Nat) (cyB cyI cyZ cyO : ClassId) (p0 : Int32) (p1 : Int32) (r : Int32) (hf : f_X10_isCell p0 p1 = some r) : Met l yX10_isCell wsX10_isCell ({ frames := 1, cells := 0, slots := 0, locals := 22 } : Room) (PR dC dI cyB cyI cyZ cyO ([.int p0, .int p1] : List Value) ([] : va_W)) (QR (some (.int r))) 0 0 (fun _ => False) := by
  refine Met.ofW (cc := cX10_isCell) (maxL := 2) (ret := (some .boolean)) (by decide) rfl ?_
  intro p e s m args below meth c s₁ B hml hv
  obtain ⟨rfl, hP, hCx⟩ := hv
  have hK := hCx.1
  have hN := hCx.2
  have hx := B.exec
  have hb := B.bytes
  have hr := B.returns
  have hts := atoms_spec (ws := wsX10_isCell) B.pre
  have hown : s.vm.findClass RX10 = some m.cls := findClass_of_methodNamed B.named
  have hlocks := B.notSynchronized
  have hl := lv_entry ([.int p0, .int p1] : List Value) (n := 2) (Nat.le_of_ble_eq_true rfl)
  rw [lg_entry_eq]
  generalize (lg_sl ([.int p0, .int p1] : List Value) ++ List.replicate (2 - (lg_sl ([.int p0, .int p1] : List Value)).length) Slot.unset).toArray = ls at hl ⊢
  have hl : lv_has ls 2 [(0, .int p0), (1, .int p1)] := hl
  rw [f_X10_isCell] at hf
  refine lv_iload_n hx hb dX10_isCell_0 rfl (lv_at hl 0 rfl) ?_
  refine lv_iconst (v := (0 : Int32)) hx hb dX10_isCell_1 (by decide) ?_
  refine lv_sipush (v := (198 : Int32)) hx hb dX10_isCell_2 (by decide) ?_
  obtain ⟨r5, h5, hf⟩ := bd1_some hf
  refine ro_calli (va_runSN (As := [.int p0, .int (0 : Int32), .int (198 : Int32)]) (rest := []) ⟨hx, hb, hml, hown, hts⟩ (c_X11_within l dC dI cyB cyI cyZ cyO p0 (0 : Int32) (198 : Int32) r5 h5) ⟨va_cnB 3 hts gX10_isCell_X11_within_n23 rfl rfl rfl (hN _ (by decide +kernel : Cond.methodLinkNest RX10 23 yX11_within "HoldSlips" ∈ nw_all)) (hts (.initialized RX11) (by decide +kernel)) (by decide +kernel) ⟨Nat.le_of_ble_eq_true rfl, Nat.le_of_ble_eq_true rfl⟩, hts (.static yX11_within) (by decide +kernel), trivial⟩ ⟨PR.blind, fun U hU hW => ⟨rfl, by rw [hU]; exact hP, hCx.warm hW⟩⟩ rfl rfl hl.1 rfl (lv_room (Nat.le_of_ble_eq_true rfl)) dX10_isCell_5 ⟨Nat.zero_le _, Nat.zero_le _⟩) ?_
  refine lv_if_eq (tgt := 25) hx hb dX10_isCell_8 (by decide) (fun hc8 => ?_) (fun hc8 => ?_)
  · rw [if_pos hc8] at hf
    refine lv_iconst (v := (0 : Int32)) hx hb dX10_isCell_25 (by decide) ?_
    have hq := Option.some.inj hf
    subst hq
    exact W.zret (v := (0 : Int32)) hx hb hr rfl (fun t ht hW => ⟨rfl, ht⟩) (fun q h => by cases h) dX10_isCell_26
  · rw [if_neg hc8] at hf
    refine lv_iload_n hx hb dX10_isCell_11 rfl (lv_at hl 1 rfl) ?_
    refine lv_iconst (v := (0 : Int32)) hx hb dX10_isCell_12 (by decide) ?_
    refine lv_bipush (v := (8 : Int32)) hx hb dX10_isCell_13 (by decide) ?_
    obtain ⟨r15, h15, hf⟩ := bd1_some hf
    refine ro_calli (va_runSN (As := [.int p1, .int (0 : Int32), .int (8 : Int32)]) (rest := []) ⟨hx, hb, hml, hown, hts⟩ (c_X11_within l dC dI cyB cyI cyZ cyO p1 (0 : Int32) (8 : Int32) r15 h15) ⟨va_cnB 3 hts gX10_isCell_X11_within_n23 rfl rfl rfl (hN _ (by decide +kernel : Cond.methodLinkNest RX10 23 yX11_within "HoldSlips" ∈ nw_all)) (hts (.initialized RX11) (by decide +kernel)) (by decide +kernel) ⟨Nat.le_of_ble_eq_true rfl, Nat.le_of_ble_eq_true rfl⟩, hts (.static yX11_within) (by decide +kernel), trivial⟩ ⟨PR.blind, fun U hU hW => ⟨rfl, by rw [hU]; exact hP, hCx.warm hW⟩⟩ rfl rfl hl.1 rfl (lv_room (Nat.le_of_ble_eq_true rfl)) dX10_isCell_15 ⟨Nat.zero_le _, Nat.zero_le _⟩) ?_
    refine lv_if_eq (tgt := 25) hx hb dX10_isCell_18 (by decide) (fun hc18 => ?_) (fun hc18 => ?_)
    · rw [if_pos hc18] at hf
      refine lv_iconst (v := (0 : Int32)) hx hb dX10_isCell_25 (by decide) ?_
      have hq := Option.some.inj hf
      subst hq
      exact W.zret (v := (0 : Int32)) hx hb hr rfl (fun t ht hW => ⟨rfl, ht⟩) (fun q h => by cases h) dX10_isCell_26
    · rw [if_neg hc18] at hf
      refine lv_iconst (v := (1 : Int32)) hx hb dX10_isCell_21 (by decide) ?_
      refine lv_goto (tgt := 26) hx hb dX10_isCell_22 (by decide) ?_
      have hq := Option.some.inj hf
      subst hq
      exact W.zret (v := (1 : Int32)) hx hb hr rfl (fun t ht hW => ⟨rfl, ht⟩) (fun q h => by cases h) dX10_isCell_26
set_option maxHeartbeats 4000000 in
set_option maxRecDepth 100000 in
theorem c_X10_put (l : Launch) (dC : Nat → ClassId) (dI : Nat → Nat → Nat) (cyB cyI cyZ cyO : ClassId) (h h_cells : Nat) (sz : Nat) (M_h : Mem) (p1 : Int32) (p2 : Int32) (p3 : Int32) (R_h : Mem) (hf : f_X10_put M_h p1 p2 p3 = some R_h) : Met l yX10_put wsX10_put ({ frames := 2, cells := 0, slots := 0, locals := 43 } : Room) (PW dC dI cyB cyI cyZ cyO ([.ref h, .int p1, .int p2, .int p3] : List Value) (wX10 cyB cyI cyZ cyO h h_cells M_h) sz) (QW dC dI none (wX10 cyB cyI cyZ cyO h h_cells R_h) (va_A (wX10 cyB cyI cyZ cyO h h_cells M_h) sz)) 0 0 (va_A (wX10 cyB cyI cyZ cyO h h_cells M_h) sz) := by
  refine Met.ofW (cc := cX10_put) (maxL := 4) (ret := none) (by decide) rfl ?_
  intro p e s m args below meth c s₁ B hml hv
  obtain ⟨rfl, hsz, hP, hCx, hD0⟩ := hv
  have hK := hCx.1
  have hN := hCx.2
  have hx := B.exec
  have hb := B.bytes
  have hr := B.returns
  have hts := atoms_spec (ws := wsX10_put) B.pre
  have hown : s.vm.findClass RX10 = some m.cls := findClass_of_methodNamed B.named
  have hlocks := B.notSynchronized
  have hin10 : ∀ w ∈ u_ws RX10 TX10 1, w ∈ wsX10_put := fun w h => List.mem_cons_of_mem _ (List.mem_append_right _ h)
  have kf11 := hts (.fieldLink RX10 11 "HoldSlips$YearBook" "cells" "[I") (by decide +kernel)
  subst hsz
  have hD := hD0.self (sz := s.heap.size)
  generalize hAe : va_A (wX10 cyB cyI cyZ cyO h h_cells M_h) s.heap.size = A at hD ⊢
  have hA : ∀ q : Nat, s.heap.size ≤ q → A q := fun q h => by rw [← hAe]; exact Or.inr h
  have hS : va_S A s.heap s.heap [] := va_S.rf
  have hl := lv_entry ([.ref h, .int p1, .int p2, .int p3] : List Value) (n := 4) (Nat.le_of_ble_eq_true rfl)
  rw [lg_entry_eq]
  generalize (lg_sl ([.ref h, .int p1, .int p2, .int p3] : List Value) ++ List.replicate (4 - (lg_sl ([.ref h, .int p1, .int p2, .int p3] : List Value)).length) Slot.unset).toArray = ls at hl ⊢
  have hl : lv_has ls 4 [(0, .ref h), (1, .int p1), (2, .int p2), (3, .int p3)] := hl
  rw [f_X10_put] at hf
  refine lv_iload_n hx hb dX10_put_0 rfl (lv_at hl 1 rfl) ?_
  refine lv_iload_n hx hb dX10_put_1 rfl (lv_at hl 2 rfl) ?_
  obtain ⟨r2, h2, hf⟩ := bd1_some hf
  have hPc := hP.sub (ws' := ([] : va_W)) [] rfl
  refine ro_calli (va_runS (As := [.int p1, .int p2]) (rest := []) ⟨hx, hb, hml, hown, hts⟩ (c_X10_isCell l dC dI cyB cyI cyZ cyO p1 p2 r2 h2) (va_cwS 2 hts gX10_put_X10_isCell rfl rfl rfl (by decide +kernel) ⟨Nat.le_of_ble_eq_true rfl, Nat.le_of_ble_eq_true rfl⟩) ⟨PR.blind, fun U hU hW => ⟨rfl, by rw [hU]; exact hPc, hCx.warm hW⟩⟩ rfl rfl hl.1 rfl (lv_room (Nat.le_of_ble_eq_true rfl)) dX10_put_2 ⟨Nat.zero_le _, Nat.zero_le _⟩) ?_
  refine lv_if_eq (tgt := 20) hx hb dX10_put_5 (by decide) (fun hc5 => ?_) (fun hc5 => ?_)
  · rw [if_pos hc5] at hf
    have hq := Option.some.inj hf
    subst hq
    exact W.vret hx hb hr (fun t ht hW => ⟨rfl, by rw [ht]; exact hP, hD, hS.F ht⟩) hS.2.2 dX10_put_20
  · rw [if_neg hc5] at hf
    refine lv_aload_n hx hb dX10_put_8 rfl (lv_at hl 0 rfl) ?_
    refine va_get (D := (dC, dI)) (ci := 10) (v := .ref h_cells) (C := RX10) (T := TX10) (N := 1) hx hb hts hin10 hown hK hP 0 rfl rfl 0 (by decide) kf11 (fun _ h9 => h9) rfl dX10_put_9 ?_
    refine lv_iload_n hx hb dX10_put_12 rfl (lv_at hl 1 rfl) ?_
    refine lv_bipush (v := (9 : Int32)) hx hb dX10_put_13 (by decide) ?_
    refine lv_imul hx hb dX10_put_15 ?_
    refine lv_iload_n hx hb dX10_put_16 rfl (lv_at hl 2 rfl) ?_
    refine lv_iadd hx hb dX10_put_17 ?_
    refine lv_iload_n hx hb dX10_put_18 rfl (lv_at hl 3 rfl) ?_
    have hi19 := if_no hf
    rw [if_neg hi19] at hf
    refine va_iast hx hb hK hP hD hS 1 1 rfl rfl hi19 dX10_put_19 (fun H locs hP hD hS => ?_)
    obtain ⟨M_h_19, eM_h_19, hf⟩ := wr_some hf
    have hP : va_P (dC, dI) vwCl (wX10 cyB cyI cyZ cyO h h_cells M_h_19) H := by rw [eM_h_19]; exact hP
    have hD : va_D A (wX10 cyB cyI cyZ cyO h h_cells M_h_19) := by rw [eM_h_19]; exact hD
    have hq := Option.some.inj hf
    subst hq
    exact W.vret hx hb hr (fun t ht hW => ⟨rfl, by rw [ht]; exact hP, hD, hS.F ht⟩) hS.2.2 dX10_put_20
set_option maxHeartbeats 4000000 in
set_option maxRecDepth 100000 in
theorem c_X10_open (l : Launch) (dC : Nat → ClassId) (dI : Nat → Nat → Nat) (cyB cyI cyZ cyO : ClassId) (a3 a3_owner a3_size a3_weight a3_worth a3_level a3_holder a3_side a3_planned h h_cells : Nat) (sz : Nat) (M_a3 : Mem) (M_h : Mem) (p1 : Int32) (p2 : Int32) (R_h : Mem) (hf : f_X10_open M_a3 M_h p1 p2 = some R_h) : Met l yX10_open wsX10_open ({ frames := 4, cells := 0, slots := 0, locals := 88 } : Room) (PW dC dI cyB cyI cyZ cyO ([.ref h, .int p1, .int p2, .ref a3] : List Value) ((wX0 cyB cyI cyZ cyO a3 a3_owner a3_size a3_weight a3_worth a3_level a3_holder a3_side a3_planned M_a3) ++ (wX10 cyB cyI cyZ cyO h h_cells M_h)) sz) (QW dC dI none ((wX0 cyB cyI cyZ cyO a3 a3_owner a3_size a3_weight a3_worth a3_level a3_holder a3_side a3_planned M_a3) ++ (wX10 cyB cyI cyZ cyO h h_cells R_h)) (va_A ((wX0 cyB cyI cyZ cyO a3 a3_owner a3_size a3_weight a3_worth a3_level a3_holder a3_side a3_planned M_a3) ++ (wX10 cyB cyI cyZ cyO h h_cells M_h)) sz)) 0 0 (va_A ((wX0 cyB cyI cyZ cyO a3 a3_owner a3_size a3_weight a3_worth a3_level a3_holder a3_side a3_planned M_a3) ++ (wX10 cyB cyI cyZ cyO h h_cells M_h)) sz) := by
  refine Met.ofW (cc := cX10_open) (maxL := 4) (ret := none) (by decide) rfl ?_
  intro p e s m args below meth c s₁ B hml hv
  obtain ⟨rfl, hsz, hP, hCx, hD0⟩ := hv
  have hK := hCx.1
  have hN := hCx.2
  have hx := B.exec
  have hb := B.bytes
  have hr := B.returns
  have hts := atoms_spec (ws := wsX10_open) B.pre
  have hown : s.vm.findClass RX10 = some m.cls := findClass_of_methodNamed B.named
  have hlocks := B.notSynchronized
  have hin0 : ∀ w ∈ u_ws RX0 TX0 10, w ∈ wsX10_open := fun w h => List.mem_cons_of_mem _ (List.mem_append_left _ (List.mem_append_right _ h))
  have kf31 := hts (.fieldLink RX10 31 "HoldSlips$Bales" "number" "I") (by decide +kernel)
  subst hsz
  have hD := hD0.self (sz := s.heap.size)
  generalize hAe : va_A ((wX0 cyB cyI cyZ cyO a3 a3_owner a3_size a3_weight a3_worth a3_level a3_holder a3_side a3_planned M_a3) ++ (wX10 cyB cyI cyZ cyO h h_cells M_h)) s.heap.size = A at hD ⊢
  have hA : ∀ q : Nat, s.heap.size ≤ q → A q := fun q h => by rw [← hAe]; exact Or.inr h
  have hS : va_S A s.heap s.heap [] := va_S.rf
  have hl := lv_entry ([.ref h, .int p1, .int p2, .ref a3] : List Value) (n := 4) (Nat.le_of_ble_eq_true rfl)
  rw [lg_entry_eq]
  generalize (lg_sl ([.ref h, .int p1, .int p2, .ref a3] : List Value) ++ List.replicate (4 - (lg_sl ([.ref h, .int p1, .int p2, .ref a3] : List Value)).length) Slot.unset).toArray = ls at hl ⊢
  have hl : lv_has ls 4 [(0, .ref h), (1, .int p1), (2, .int p2), (3, .ref a3)] := hl
  rw [f_X10_open] at hf
  refine lv_aload_n hx hb dX10_open_0 rfl (lv_at hl 0 rfl) ?_
  refine lv_iload_n hx hb dX10_open_1 rfl (lv_at hl 1 rfl) ?_
  refine lv_iconst (v := (0 : Int32)) hx hb dX10_open_2 (by decide) ?_
  refine lv_iload_n hx hb dX10_open_3 rfl (lv_at hl 2 rfl) ?_
  obtain ⟨M_h_4, h4, hf⟩ := bd1_some hf
  have hPc := hP.sub (ws' := (wX10 cyB cyI cyZ cyO h h_cells M_h)) [9, 10] rfl
  have hDc := hD.sub (ws' := (wX10 cyB cyI cyZ cyO h h_cells M_h)) [9, 10] (by decide) rfl
  refine wr_callv (wc := (wX10 cyB cyI cyZ cyO h h_cells M_h)) (wr := (wX0 cyB cyI cyZ cyO a3 a3_owner a3_size a3_weight a3_worth a3_level a3_holder a3_side a3_planned M_a3)) (w1 := (wX10 cyB cyI cyZ cyO h h_cells M_h_4)) (ws' := ((wX0 cyB cyI cyZ cyO a3 a3_owner a3_size a3_weight a3_worth a3_level a3_holder a3_side a3_planned M_a3) ++ (wX10 cyB cyI cyZ cyO h h_cells M_h_4))) hP hD hS hA [9, 10] [0, 1, 2, 3, 4, 5, 6, 7, 8] [0, 1, 2, 3, 4, 5, 6, 7, 8, 9, 10] rfl rfl (by decide) (by decide) rfl (by decide) (va_runV (As := [.int p1, .int (0 : Int32), .int p2]) (rest := []) ⟨hx, hb, hml, hown, hts⟩ (c_X10_put l dC dI cyB cyI cyZ cyO h h_cells _ M_h p1 (0 : Int32) p2 M_h_4 h4) (cwV 3 hts gX10_open_X10_put rfl rfl rfl (by decide +kernel) ⟨Nat.le_of_ble_eq_true rfl, Nat.le_of_ble_eq_true rfl⟩) ⟨PW.blind, va_recv hK hP (ci := 10) (q0 := 9) rfl rfl, fun U hU hW => ⟨rfl, by rw [hU], by rw [hU]; exact hPc, hCx.warm hW, hDc.weaken (fun _ _ _ _ => trivial)⟩⟩ rfl rfl hl.1 rfl (lv_room (Nat.le_of_ble_eq_true rfl)) dX10_open_4 ⟨Nat.zero_le _, Nat.zero_le _⟩) (fun H locs hP hD hS => ?_)
  refine lv_aload_n hx hb dX10_open_7 rfl (lv_at hl 0 rfl) ?_
  refine lv_iload_n hx hb dX10_open_8 rfl (lv_at hl 1 rfl) ?_
  refine lv_iconst (v := (1 : Int32)) hx hb dX10_open_9 (by decide) ?_
  refine lv_aload_n hx hb dX10_open_10 rfl (lv_at hl 3 rfl) ?_
  refine va_get (D := (dC, dI)) (ci := 0) (v := .int (M_a3 0 0)) (C := RX0) (T := TX0) (N := 10) hx hb hts hin0 hown hK hP 0 rfl rfl 0 (by decide) kf31 (fun _ h9 => h9) rfl dX10_open_11 ?_
  refine lv_aload_n hx hb dX10_open_14 rfl (lv_at hl 3 rfl) ?_
  obtain ⟨r15, h15, hf⟩ := bd1_some hf
  have hPc := hP.sub (ws' := (wX0 cyB cyI cyZ cyO a3 a3_owner a3_size a3_weight a3_worth a3_level a3_holder a3_side a3_planned M_a3)) [0, 1, 2, 3, 4, 5, 6, 7, 8] rfl
  refine ro_calli (va_runV (As := []) (rest := [.int (M_a3 0 0), .int (1 : Int32), .int p1, .ref h]) ⟨hx, hb, hml, hown, hts⟩ (c_X0_waiting l dC dI cyB cyI cyZ cyO a3 a3_owner a3_size a3_weight a3_worth a3_level a3_holder a3_side a3_planned M_a3 r15 h15) (cwV 0 hts gX10_open_X0_waiting rfl rfl rfl (by decide +kernel) ⟨Nat.le_of_ble_eq_true rfl, Nat.le_of_ble_eq_true rfl⟩) ⟨PR.blind, va_recv hK hP (ci := 0) (q0 := 0) rfl rfl, fun U hU hW => ⟨rfl, by rw [hU]; exact hPc, hCx.warm hW⟩⟩ rfl rfl hl.1 rfl (lv_room (Nat.le_of_ble_eq_true rfl)) dX10_open_15 ⟨Nat.zero_le _, Nat.zero_le _⟩) ?_
  refine lv_isub hx hb dX10_open_18 ?_
  obtain ⟨M_h_19, h19, hf⟩ := bd1_some hf
  have hPc := hP.sub (ws' := (wX10 cyB cyI cyZ cyO h h_cells M_h_4)) [9, 10] rfl
  have hDc := hD.sub (ws' := (wX10 cyB cyI cyZ cyO h h_cells M_h_4)) [9, 10] (by decide) rfl
  refine wr_callv (wc := (wX10 cyB cyI cyZ cyO h h_cells M_h_4)) (wr := (wX0 cyB cyI cyZ cyO a3 a3_owner a3_size a3_weight a3_worth a3_level a3_holder a3_side a3_planned M_a3)) (w1 := (wX10 cyB cyI cyZ cyO h h_cells M_h_19)) (ws' := ((wX0 cyB cyI cyZ cyO a3 a3_owner a3_size a3_weight a3_worth a3_level a3_holder a3_side a3_planned M_a3) ++ (wX10 cyB cyI cyZ cyO h h_cells M_h_19))) hP hD hS hA [9, 10] [0, 1, 2, 3, 4, 5, 6, 7, 8] [0, 1, 2, 3, 4, 5, 6, 7, 8, 9, 10] rfl rfl (by decide) (by decide) rfl (by decide) (va_runV (As := [.int p1, .int (1 : Int32), .int ((M_a3 0 0) - r15)]) (rest := []) ⟨hx, hb, hml, hown, hts⟩ (c_X10_put l dC dI cyB cyI cyZ cyO h h_cells _ M_h_4 p1 (1 : Int32) ((M_a3 0 0) - r15) M_h_19 h19) (cwV 3 hts gX10_open_X10_put rfl rfl rfl (by decide +kernel) ⟨Nat.le_of_ble_eq_true rfl, Nat.le_of_ble_eq_true rfl⟩) ⟨PW.blind, va_recv hK hP (ci := 10) (q0 := 9) rfl rfl, fun U hU hW => ⟨rfl, by rw [hU], by rw [hU]; exact hPc, hCx.warm hW, hDc.weaken (fun _ _ _ _ => trivial)⟩⟩ rfl rfl hl.1 rfl (lv_room (Nat.le_of_ble_eq_true rfl)) dX10_open_19 ⟨Nat.zero_le _, Nat.zero_le _⟩) (fun H locs hP hD hS => ?_)
  refine lv_aload_n hx hb dX10_open_22 rfl (lv_at hl 0 rfl) ?_
  refine lv_iload_n hx hb dX10_open_23 rfl (lv_at hl 1 rfl) ?_
  refine lv_iconst (v := (2 : Int32)) hx hb dX10_open_24 (by decide) ?_
  refine lv_aload_n hx hb dX10_open_25 rfl (lv_at hl 3 rfl) ?_
  refine lv_iconst (v := (-1 : Int32)) hx hb dX10_open_26 (by decide) ?_
  refine lv_iconst (v := (0 : Int32)) hx hb dX10_open_27 (by decide) ?_
  obtain ⟨r28, h28, hf⟩ := bd1_some hf
  have hPc := hP.sub (ws' := (wX0 cyB cyI cyZ cyO a3 a3_owner a3_size a3_weight a3_worth a3_level a3_holder a3_side a3_planned M_a3)) [0, 1, 2, 3, 4, 5, 6, 7, 8] rfl
  refine ro_calli (va_runV (As := [.int (-1 : Int32), .int (0 : Int32)]) (rest := [.int (2 : Int32), .int p1, .ref h]) ⟨hx, hb, hml, hown, hts⟩ (c_X0_judged l dC dI cyB cyI cyZ cyO a3 a3_owner a3_size a3_weight a3_worth a3_level a3_holder a3_side a3_planned M_a3 (-1 : Int32) (0 : Int32) r28 h28) (cwV 2 hts gX10_open_X0_judged rfl rfl rfl (by decide +kernel) ⟨Nat.le_of_ble_eq_true rfl, Nat.le_of_ble_eq_true rfl⟩) ⟨PR.blind, va_recv hK hP (ci := 0) (q0 := 0) rfl rfl, fun U hU hW => ⟨rfl, by rw [hU]; exact hPc, hCx.warm hW⟩⟩ rfl rfl hl.1 rfl (lv_room (Nat.le_of_ble_eq_true rfl)) dX10_open_28 ⟨Nat.zero_le _, Nat.zero_le _⟩) ?_
  obtain ⟨M_h_31, h31, hf⟩ := bd1_some hf
  have hPc := hP.sub (ws' := (wX10 cyB cyI cyZ cyO h h_cells M_h_19)) [9, 10] rfl
  have hDc := hD.sub (ws' := (wX10 cyB cyI cyZ cyO h h_cells M_h_19)) [9, 10] (by decide) rfl
  refine wr_callv (wc := (wX10 cyB cyI cyZ cyO h h_cells M_h_19)) (wr := (wX0 cyB cyI cyZ cyO a3 a3_owner a3_size a3_weight a3_worth a3_level a3_holder a3_side a3_planned M_a3)) (w1 := (wX10 cyB cyI cyZ cyO h h_cells M_h_31)) (ws' := ((wX0 cyB cyI cyZ cyO a3 a3_owner a3_size a3_weight a3_worth a3_level a3_holder a3_side a3_planned M_a3) ++ (wX10 cyB cyI cyZ cyO h h_cells M_h_31))) hP hD hS hA [9, 10] [0, 1, 2, 3, 4, 5, 6, 7, 8] [0, 1, 2, 3, 4, 5, 6, 7, 8, 9, 10] rfl rfl (by decide) (by decide) rfl (by decide) (va_runV (As := [.int p1, .int (2 : Int32), .int r28]) (rest := []) ⟨hx, hb, hml, hown, hts⟩ (c_X10_put l dC dI cyB cyI cyZ cyO h h_cells _ M_h_19 p1 (2 : Int32) r28 M_h_31 h31) (cwV 3 hts gX10_open_X10_put rfl rfl rfl (by decide +kernel) ⟨Nat.le_of_ble_eq_true rfl, Nat.le_of_ble_eq_true rfl⟩) ⟨PW.blind, va_recv hK hP (ci := 10) (q0 := 9) rfl rfl, fun U hU hW => ⟨rfl, by rw [hU], by rw [hU]; exact hPc, hCx.warm hW, hDc.weaken (fun _ _ _ _ => trivial)⟩⟩ rfl rfl hl.1 rfl (lv_room (Nat.le_of_ble_eq_true rfl)) dX10_open_31 ⟨Nat.zero_le _, Nat.zero_le _⟩) (fun H locs hP hD hS => ?_)
  refine lv_aload_n hx hb dX10_open_34 rfl (lv_at hl 0 rfl) ?_
  refine lv_iload_n hx hb dX10_open_35 rfl (lv_at hl 1 rfl) ?_
  refine lv_iconst (v := (3 : Int32)) hx hb dX10_open_36 (by decide) ?_
  refine lv_aload_n hx hb dX10_open_37 rfl (lv_at hl 3 rfl) ?_
  obtain ⟨r38, h38, hf⟩ := bd1_some hf
  have hPc := hP.sub (ws' := (wX0 cyB cyI cyZ cyO a3 a3_owner a3_size a3_weight a3_worth a3_level a3_holder a3_side a3_planned M_a3)) [0, 1, 2, 3, 4, 5, 6, 7, 8] rfl
  refine ro_calli (va_runV (As := []) (rest := [.int (3 : Int32), .int p1, .ref h]) ⟨hx, hb, hml, hown, hts⟩ (c_X0_ladenWeight l dC dI cyB cyI cyZ cyO a3 a3_owner a3_size a3_weight a3_worth a3_level a3_holder a3_side a3_planned M_a3 r38 h38) (cwV 0 hts gX10_open_X0_ladenWeight rfl rfl rfl (by decide +kernel) ⟨Nat.le_of_ble_eq_true rfl, Nat.le_of_ble_eq_true rfl⟩) ⟨PR.blind, va_recv hK hP (ci := 0) (q0 := 0) rfl rfl, fun U hU hW => ⟨rfl, by rw [hU]; exact hPc, hCx.warm hW⟩⟩ rfl rfl hl.1 rfl (lv_room (Nat.le_of_ble_eq_true rfl)) dX10_open_38 ⟨Nat.zero_le _, Nat.zero_le _⟩) ?_
  obtain ⟨M_h_41, h41, hf⟩ := bd1_some hf
  have hPc := hP.sub (ws' := (wX10 cyB cyI cyZ cyO h h_cells M_h_31)) [9, 10] rfl
  have hDc := hD.sub (ws' := (wX10 cyB cyI cyZ cyO h h_cells M_h_31)) [9, 10] (by decide) rfl
  refine wr_callv (wc := (wX10 cyB cyI cyZ cyO h h_cells M_h_31)) (wr := (wX0 cyB cyI cyZ cyO a3 a3_owner a3_size a3_weight a3_worth a3_level a3_holder a3_side a3_planned M_a3)) (w1 := (wX10 cyB cyI cyZ cyO h h_cells M_h_41)) (ws' := ((wX0 cyB cyI cyZ cyO a3 a3_owner a3_size a3_weight a3_worth a3_level a3_holder a3_side a3_planned M_a3) ++ (wX10 cyB cyI cyZ cyO h h_cells M_h_41))) hP hD hS hA [9, 10] [0, 1, 2, 3, 4, 5, 6, 7, 8] [0, 1, 2, 3, 4, 5, 6, 7, 8, 9, 10] rfl rfl (by decide) (by decide) rfl (by decide) (va_runV (As := [.int p1, .int (3 : Int32), .int r38]) (rest := []) ⟨hx, hb, hml, hown, hts⟩ (c_X10_put l dC dI cyB cyI cyZ cyO h h_cells _ M_h_31 p1 (3 : Int32) r38 M_h_41 h41) (cwV 3 hts gX10_open_X10_put rfl rfl rfl (by decide +kernel) ⟨Nat.le_of_ble_eq_true rfl, Nat.le_of_ble_eq_true rfl⟩) ⟨PW.blind, va_recv hK hP (ci := 10) (q0 := 9) rfl rfl, fun U hU hW => ⟨rfl, by rw [hU], by rw [hU]; exact hPc, hCx.warm hW, hDc.weaken (fun _ _ _ _ => trivial)⟩⟩ rfl rfl hl.1 rfl (lv_room (Nat.le_of_ble_eq_true rfl)) dX10_open_41 ⟨Nat.zero_le _, Nat.zero_le _⟩) (fun H locs hP hD hS => ?_)
  have hq := Option.some.inj hf
  subst hq
  exact W.vret hx hb hr (fun t ht hW => ⟨rfl, by rw [ht]; exact hP, hD, hS.F ht⟩) hS.2.2 dX10_open_44
set_option maxHeartbeats 4000000 in
set_option maxRecDepth 100000 in
theorem c_X2_dropSlips (l : Launch) (dC : Nat → ClassId) (dI : Nat → Nat → Nat) (cyB cyI cyZ cyO : ClassId) (h h_rank h_widow h_slips h_given h_silver h_returns h_rents h_share h_rest : Nat) (sz : Nat) (M_h : Mem) (R_h : Mem) (hf : f_X2_dropSlips M_h = some R_h) : Met l yX2_dropSlips wsX2_dropSlips ({ frames := 0, cells := 0, slots := 0, locals := 0 } : Room) (PW dC dI cyB cyI cyZ cyO ([.ref h] : List Value) (wX2 cyB cyI cyZ cyO h h_rank h_widow h_slips h_given h_silver h_returns h_rents h_share h_rest M_h) sz) (QW dC dI none (wX2 cyB cyI cyZ cyO h h_rank h_widow h_slips h_given h_silver h_returns h_rents h_share h_rest R_h) (va_A (wX2 cyB cyI cyZ cyO h h_rank h_widow h_slips h_given h_silver h_returns h_rents h_share h_rest M_h) sz)) 0 0 (va_A (wX2 cyB cyI cyZ cyO h h_rank h_widow h_slips h_given h_silver h_returns h_rents h_share h_rest M_h) sz) := by
  refine Met.ofW (cc := cX2_dropSlips) (maxL := 2) (ret := none) (by decide) rfl ?_
  intro p e s m args below meth c s₁ B hml hv
  obtain ⟨rfl, hsz, hP, hCx, hD0⟩ := hv
  have hK := hCx.1
  have hN := hCx.2
  have hx := B.exec
  have hb := B.bytes
  have hr := B.returns
  have hts := atoms_spec (ws := wsX2_dropSlips) B.pre
  have hown : s.vm.findClass RX2 = some m.cls := findClass_of_methodNamed B.named
  have hlocks := B.notSynchronized
  have hin2 : ∀ w ∈ u_ws RX2 TX2 10, w ∈ wsX2_dropSlips := fun w h => List.mem_cons_of_mem _ (List.mem_append_right _ h)
  have kf9 := hts (.fieldLink RX2 9 "HoldSlips$Citizens" "number" "I") (by decide +kernel)
  have kf22 := hts (.fieldLink RX2 22 "HoldSlips$Citizens" "slips" "[I") (by decide +kernel)
  subst hsz
  have hD := hD0.self (sz := s.heap.size)
  generalize hAe : va_A (wX2 cyB cyI cyZ cyO h h_rank h_widow h_slips h_given h_silver h_returns h_rents h_share h_rest M_h) s.heap.size = A at hD ⊢
  have hA : ∀ q : Nat, s.heap.size ≤ q → A q := fun q h => by rw [← hAe]; exact Or.inr h
  have hS : va_S A s.heap s.heap [] := va_S.rf
  have hl := lv_entry ([.ref h] : List Value) (n := 2) (Nat.le_of_ble_eq_true rfl)
  rw [lg_entry_eq]
  generalize (lg_sl ([.ref h] : List Value) ++ List.replicate (2 - (lg_sl ([.ref h] : List Value)).length) Slot.unset).toArray = ls at hl ⊢
  have hl : lv_has ls 2 [(0, .ref h)] := hl
  have L2 : ∀ (n : Nat), ∀ (M_h : Mem) (x1 : Int32) (H : Heap) (locs : List Loc) (ls : Array Slot), f_X2_dropSlips_L2 n M_h x1 = some R_h → va_P (dC, dI) vwCl (wX2 cyB cyI cyZ cyO h h_rank h_widow h_slips h_given h_silver h_returns h_rents h_share h_rest M_h) H → va_D A (wX2 cyB cyI cyZ cyO h h_rank h_widow h_slips h_given h_silver h_returns h_rents h_share h_rest M_h) → va_S A s.heap H locs → lv_has ls 2 [(0, .ref h), (1, .int x1)] → W p l e (headSpec wsX2_dropSlips ({ frames := 0, cells := 0, slots := 0, locals := 0 } : Room)).room s m ([.ref h] : List Value).toArray below meth c H locs 0 0 (MQ below (QW dC dI none (wX2 cyB cyI cyZ cyO h h_rank h_widow h_slips h_given h_silver h_returns h_rents h_share h_rest R_h) A) ([.ref h] : List Value).toArray s 0 0 A) (F0 m 2 ls []) := by
    intro n
    induction n with
    | zero => intro M_h x1 H locs ls hf hP hD hS hl; rw [f_X2_dropSlips_L2] at hf; cases hf
    | succ n ih =>
      intro M_h x1 H locs ls hf hP hD hS hl
      rw [f_X2_dropSlips_L2] at hf
      refine lv_iload_n hx hb dX2_dropSlips_2 rfl (lv_at hl 1 rfl) ?_
      refine lv_aload_n hx hb dX2_dropSlips_3 rfl (lv_at hl 0 rfl) ?_
      refine va_get (D := (dC, dI)) (ci := 2) (v := .int (M_h 0 0)) (C := RX2) (T := TX2) (N := 10) hx hb hts hin2 hown hK hP 0 rfl rfl 0 (by decide) kf9 (fun _ h9 => h9) rfl dX2_dropSlips_4 ?_
      refine lv_icmp_ge (tgt := 23) hx hb dX2_dropSlips_7 (by decide) (fun hc7 => ?_) (fun hc7 => ?_)
      · rw [if_pos hc7] at hf
        have hq := Option.some.inj hf
        subst hq
        exact W.vret hx hb hr (fun t ht hW => ⟨rfl, by rw [ht]; exact hP, hD, hS.F ht⟩) hS.2.2 dX2_dropSlips_23
      · rw [if_neg hc7] at hf
        refine lv_aload_n hx hb dX2_dropSlips_10 rfl (lv_at hl 0 rfl) ?_
        refine va_get (D := (dC, dI)) (ci := 2) (v := .ref h_slips) (C := RX2) (T := TX2) (N := 10) hx hb hts hin2 hown hK hP 0 rfl rfl 3 (by decide) kf22 (fun _ h9 => h9) rfl dX2_dropSlips_11 ?_
        refine lv_iload_n hx hb dX2_dropSlips_14 rfl (lv_at hl 1 rfl) ?_
        refine lv_iconst (v := (0 : Int32)) hx hb dX2_dropSlips_15 (by decide) ?_
        have hi16 := if_no hf
        rw [if_neg hi16] at hf
        refine va_iast hx hb hK hP hD hS 3 1 rfl rfl hi16 dX2_dropSlips_16 (fun H locs hP hD hS => ?_)
        obtain ⟨M_h_16, eM_h_16, hf⟩ := wr_some hf
        have hP : va_P (dC, dI) vwCl (wX2 cyB cyI cyZ cyO h h_rank h_widow h_slips h_given h_silver h_returns h_rents h_share h_rest M_h_16) H := by rw [eM_h_16]; exact hP
        have hD : va_D A (wX2 cyB cyI cyZ cyO h h_rank h_widow h_slips h_given h_silver h_returns h_rents h_share h_rest M_h_16) := by rw [eM_h_16]; exact hD
        refine lv_iinc (v := (x1 + (1 : Int32))) (lv' := [(1, .int (x1 + (1 : Int32))), (0, .ref h)]) hx hb dX2_dropSlips_17 hl (k := 1) rfl rfl (by decide) rfl (fun ls hl => ?_)
        refine lv_goto (tgt := 2) hx hb dX2_dropSlips_20 (by decide) ?_
        exact ih M_h_16 (x1 + (1 : Int32)) _ _ ls hf hP hD hS (lv_sub hl [1, 0] rfl)
  rw [f_X2_dropSlips] at hf
  refine lv_iconst (v := (0 : Int32)) hx hb dX2_dropSlips_0 (by decide) ?_
  refine lv_istore_n (lv' := [(1, .int (0 : Int32)), (0, .ref h)]) hx hb dX2_dropSlips_1 rfl hl (by decide) rfl (fun ls hl => ?_)
  exact L2 FU M_h (0 : Int32) _ _ ls hf hP hD hS (lv_sub hl [1, 0] rfl)
set_option maxHeartbeats 4000000 in
set_option maxRecDepth 100000 in
theorem c_X0_ladenRoom (l : Launch) (dC : Nat → ClassId) (dI : Nat → Nat → Nat) (cyB cyI cyZ cyO : ClassId) (h h_owner h_size h_weight h_worth h_level h_holder h_side h_planned : Nat) (M_h : Mem) (r : Int32) (hf : f_X0_ladenRoom M_h = some r) : Met l yX0_ladenRoom wsX0_ladenRoom ({ frames := 3, cells := 0, slots := 0, locals := 64 } : Room) (PR dC dI cyB cyI cyZ cyO ([.ref h] : List Value) (wX0 cyB cyI cyZ cyO h h_owner h_size h_weight h_worth h_level h_holder h_side h_planned M_h)) (QR (some (.int r))) 0 0 (fun _ => False) := by
  refine Met.ofW (cc := cX0_ladenRoom) (maxL := 3) (ret := (some .int)) (by decide) rfl ?_
  intro p e s m args below meth c s₁ B hml hv
  obtain ⟨rfl, hP, hCx⟩ := hv
  have hK := hCx.1
  have hN := hCx.2
  have hx := B.exec
  have hb := B.bytes
  have hr := B.returns
  have hts := atoms_spec (ws := wsX0_ladenRoom) B.pre
  have hown : s.vm.findClass RX0 = some m.cls := findClass_of_methodNamed B.named
  have hlocks := B.notSynchronized
  have hin0 : ∀ w ∈ u_ws RX0 TX0 10, w ∈ wsX0_ladenRoom := fun w h => List.mem_cons_of_mem _ (List.mem_append_right _ h)
  have kf9 := hts (.fieldLink RX0 9 "HoldSlips$Bales" "number" "I") (by decide +kernel)
  have hl := lv_entry ([.ref h] : List Value) (n := 3) (Nat.le_of_ble_eq_true rfl)
  rw [lg_entry_eq]
  generalize (lg_sl ([.ref h] : List Value) ++ List.replicate (3 - (lg_sl ([.ref h] : List Value)).length) Slot.unset).toArray = ls at hl ⊢
  have hl : lv_has ls 3 [(0, .ref h)] := hl
  have L4 : ∀ (n : Nat), ∀ (x1 : Int32) (x2 : Int32) (ls : Array Slot), f_X0_ladenRoom_L4 n M_h x1 x2 = some r → lv_has ls 3 [(0, .ref h), (1, .int x1), (2, .int x2)] → W p l e (headSpec wsX0_ladenRoom ({ frames := 3, cells := 0, slots := 0, locals := 64 } : Room)).room s m ([.ref h] : List Value).toArray below meth c s.heap [] 0 0 (MQ below (QR (some (.int r))) ([.ref h] : List Value).toArray s 0 0 (fun _ => False)) (F0 m 4 ls []) := by
    intro n
    induction n with
    | zero => intro x1 x2 ls hf hl; rw [f_X0_ladenRoom_L4] at hf; cases hf
    | succ n ih =>
      intro x1 x2 ls hf hl
      rw [f_X0_ladenRoom_L4] at hf
      refine lv_iload_n hx hb dX0_ladenRoom_4 rfl (lv_at hl 2 rfl) ?_
      refine lv_aload_n hx hb dX0_ladenRoom_5 rfl (lv_at hl 0 rfl) ?_
      refine va_get (D := (dC, dI)) (ci := 0) (v := .int (M_h 0 0)) (C := RX0) (T := TX0) (N := 10) hx hb hts hin0 hown hK hP 0 rfl rfl 0 (by decide) kf9 (fun _ h9 => h9) rfl dX0_ladenRoom_6 ?_
      refine lv_icmp_ge (tgt := 38) hx hb dX0_ladenRoom_9 (by decide) (fun hc9 => ?_) (fun hc9 => ?_)
      · rw [if_pos hc9] at hf
        refine lv_iload_n hx hb dX0_ladenRoom_38 rfl (lv_at hl 1 rfl) ?_
        have hq := Option.some.inj hf
        subst hq
        exact W.iret (v := x1) hx hb hr (fun t ht hW => ⟨rfl, ht⟩) (fun q h => by cases h) dX0_ladenRoom_39
      · rw [if_neg hc9] at hf
        refine lv_iload_n hx hb dX0_ladenRoom_12 rfl (lv_at hl 1 rfl) ?_
        refine lv_aload_n hx hb dX0_ladenRoom_13 rfl (lv_at hl 0 rfl) ?_
        refine lv_iload_n hx hb dX0_ladenRoom_14 rfl (lv_at hl 2 rfl) ?_
        obtain ⟨r15, h15, hf⟩ := bd1_some hf
        refine ro_calli (va_runV (As := [.int x2]) (rest := [.int x1]) ⟨hx, hb, hml, hown, hts⟩ (c_X0_lies l dC dI cyB cyI cyZ cyO h h_owner h_size h_weight h_worth h_level h_holder h_side h_planned M_h x2 r15 h15) (cwV 1 hts gX0_ladenRoom_X0_lies rfl rfl rfl (by decide +kernel) ⟨Nat.le_of_ble_eq_true rfl, Nat.le_of_ble_eq_true rfl⟩) ⟨PR.blind, va_recv hK hP (ci := 0) (q0 := 0) rfl rfl, fun U hU hW => ⟨rfl, by rw [hU]; exact hP, hCx.warm hW⟩⟩ rfl rfl hl.1 rfl (lv_room (Nat.le_of_ble_eq_true rfl)) dX0_ladenRoom_15 ⟨Nat.zero_le _, Nat.zero_le _⟩) ?_
        refine lv_if_eq (tgt := 29) hx hb dX0_ladenRoom_18 (by decide) (fun hc18 => ?_) (fun hc18 => ?_)
        · rw [if_pos hc18] at hf
          refine lv_iconst (v := (0 : Int32)) hx hb dX0_ladenRoom_29 (by decide) ?_
          refine lv_iadd hx hb dX0_ladenRoom_30 ?_
          refine lv_istore_n (lv' := [(1, .int (x1 + (0 : Int32))), (0, .ref h), (2, .int x2)]) hx hb dX0_ladenRoom_31 rfl hl (by decide) rfl (fun ls hl => ?_)
          refine lv_iinc (v := (x2 + (1 : Int32))) (lv' := [(2, .int (x2 + (1 : Int32))), (1, .int (x1 + (0 : Int32))), (0, .ref h)]) hx hb dX0_ladenRoom_32 hl (k := 2) rfl rfl (by decide) rfl (fun ls hl => ?_)
          refine lv_goto (tgt := 4) hx hb dX0_ladenRoom_35 (by decide) ?_
          exact ih (x1 + (0 : Int32)) (x2 + (1 : Int32)) ls hf (lv_sub hl [2, 1, 0] rfl)
        · rw [if_neg hc18] at hf
          refine lv_aload_n hx hb dX0_ladenRoom_21 rfl (lv_at hl 0 rfl) ?_
          refine lv_iload_n hx hb dX0_ladenRoom_22 rfl (lv_at hl 2 rfl) ?_
          obtain ⟨r23, h23, hf⟩ := bd1_some hf
          refine ro_calli (va_runV (As := [.int x2]) (rest := [.int x1]) ⟨hx, hb, hml, hown, hts⟩ (c_X0_room l dC dI cyB cyI cyZ cyO h h_owner h_size h_weight h_worth h_level h_holder h_side h_planned M_h x2 r23 h23) (cwV 1 hts gX0_ladenRoom_X0_room rfl rfl rfl (by decide +kernel) ⟨Nat.le_of_ble_eq_true rfl, Nat.le_of_ble_eq_true rfl⟩) ⟨PR.blind, va_recv hK hP (ci := 0) (q0 := 0) rfl rfl, fun U hU hW => ⟨rfl, by rw [hU]; exact hP, hCx.warm hW⟩⟩ rfl rfl hl.1 rfl (lv_room (Nat.le_of_ble_eq_true rfl)) dX0_ladenRoom_23 ⟨Nat.zero_le _, Nat.zero_le _⟩) ?_
          refine lv_goto (tgt := 30) hx hb dX0_ladenRoom_26 (by decide) ?_
          refine lv_iadd hx hb dX0_ladenRoom_30 ?_
          refine lv_istore_n (lv' := [(1, .int (x1 + r23)), (0, .ref h), (2, .int x2)]) hx hb dX0_ladenRoom_31 rfl hl (by decide) rfl (fun ls hl => ?_)
          refine lv_iinc (v := (x2 + (1 : Int32))) (lv' := [(2, .int (x2 + (1 : Int32))), (1, .int (x1 + r23)), (0, .ref h)]) hx hb dX0_ladenRoom_32 hl (k := 2) rfl rfl (by decide) rfl (fun ls hl => ?_)
          refine lv_goto (tgt := 4) hx hb dX0_ladenRoom_35 (by decide) ?_
          exact ih (x1 + r23) (x2 + (1 : Int32)) ls hf (lv_sub hl [2, 1, 0] rfl)
  rw [f_X0_ladenRoom] at hf
  refine lv_iconst (v := (0 : Int32)) hx hb dX0_ladenRoom_0 (by decide) ?_
  refine lv_istore_n (lv' := [(1, .int (0 : Int32)), (0, .ref h)]) hx hb dX0_ladenRoom_1 rfl hl (by decide) rfl (fun ls hl => ?_)
  refine lv_iconst (v := (0 : Int32)) hx hb dX0_ladenRoom_2 (by decide) ?_
  refine lv_istore_n (lv' := [(2, .int (0 : Int32)), (1, .int (0 : Int32)), (0, .ref h)]) hx hb dX0_ladenRoom_3 rfl hl (by decide) rfl (fun ls hl => ?_)
  exact L4 FU (0 : Int32) (0 : Int32) ls hf (lv_sub hl [2, 1, 0] rfl)
set_option maxHeartbeats 4000000 in
set_option maxRecDepth 100000 in
theorem c_X10_raise (l : Launch) (dC : Nat → ClassId) (dI : Nat → Nat → Nat) (cyB cyI cyZ cyO : ClassId) (h h_cells : Nat) (sz : Nat) (M_h : Mem) (p1 : Int32) (p2 : Int32) (p3 : Int32) (R_h : Mem) (hf : f_X10_raise M_h p1 p2 p3 = some R_h) : Met l yX10_raise wsX10_raise ({ frames := 2, cells := 0, slots := 0, locals := 43 } : Room) (PW dC dI cyB cyI cyZ cyO ([.ref h, .int p1, .int p2, .int p3] : List Value) (wX10 cyB cyI cyZ cyO h h_cells M_h) sz) (QW dC dI none (wX10 cyB cyI cyZ cyO h h_cells R_h) (va_A (wX10 cyB cyI cyZ cyO h h_cells M_h) sz)) 0 0 (va_A (wX10 cyB cyI cyZ cyO h h_cells M_h) sz) := by
  refine Met.ofW (cc := cX10_raise) (maxL := 4) (ret := none) (by decide) rfl ?_
  intro p e s m args below meth c s₁ B hml hv
  obtain ⟨rfl, hsz, hP, hCx, hD0⟩ := hv
  have hK := hCx.1
  have hN := hCx.2
  have hx := B.exec
  have hb := B.bytes
  have hr := B.returns
  have hts := atoms_spec (ws := wsX10_raise) B.pre
  have hown : s.vm.findClass RX10 = some m.cls := findClass_of_methodNamed B.named
  have hlocks := B.notSynchronized
  have hin10 : ∀ w ∈ u_ws RX10 TX10 1, w ∈ wsX10_raise := fun w h => List.mem_cons_of_mem _ (List.mem_append_right _ h)
  have kf11 := hts (.fieldLink RX10 11 "HoldSlips$YearBook" "cells" "[I") (by decide +kernel)
  subst hsz
  have hD := hD0.self (sz := s.heap.size)
  generalize hAe : va_A (wX10 cyB cyI cyZ cyO h h_cells M_h) s.heap.size = A at hD ⊢
  have hA : ∀ q : Nat, s.heap.size ≤ q → A q := fun q h => by rw [← hAe]; exact Or.inr h
  have hS : va_S A s.heap s.heap [] := va_S.rf
  have hl := lv_entry ([.ref h, .int p1, .int p2, .int p3] : List Value) (n := 4) (Nat.le_of_ble_eq_true rfl)
  rw [lg_entry_eq]
  generalize (lg_sl ([.ref h, .int p1, .int p2, .int p3] : List Value) ++ List.replicate (4 - (lg_sl ([.ref h, .int p1, .int p2, .int p3] : List Value)).length) Slot.unset).toArray = ls at hl ⊢
  have hl : lv_has ls 4 [(0, .ref h), (1, .int p1), (2, .int p2), (3, .int p3)] := hl
  rw [f_X10_raise] at hf
  refine lv_iload_n hx hb dX10_raise_0 rfl (lv_at hl 1 rfl) ?_
  refine lv_iload_n hx hb dX10_raise_1 rfl (lv_at hl 2 rfl) ?_
  obtain ⟨r2, h2, hf⟩ := bd1_some hf
  have hPc := hP.sub (ws' := ([] : va_W)) [] rfl
  refine ro_calli (va_runS (As := [.int p1, .int p2]) (rest := []) ⟨hx, hb, hml, hown, hts⟩ (c_X10_isCell l dC dI cyB cyI cyZ cyO p1 p2 r2 h2) (va_cwS 2 hts gX10_raise_X10_isCell rfl rfl rfl (by decide +kernel) ⟨Nat.le_of_ble_eq_true rfl, Nat.le_of_ble_eq_true rfl⟩) ⟨PR.blind, fun U hU hW => ⟨rfl, by rw [hU]; exact hPc, hCx.warm hW⟩⟩ rfl rfl hl.1 rfl (lv_room (Nat.le_of_ble_eq_true rfl)) dX10_raise_2 ⟨Nat.zero_le _, Nat.zero_le _⟩) ?_
  refine lv_if_eq (tgt := 23) hx hb dX10_raise_5 (by decide) (fun hc5 => ?_) (fun hc5 => ?_)
  · rw [if_pos hc5] at hf
    have hq := Option.some.inj hf
    subst hq
    exact W.vret hx hb hr (fun t ht hW => ⟨rfl, by rw [ht]; exact hP, hD, hS.F ht⟩) hS.2.2 dX10_raise_23
  · rw [if_neg hc5] at hf
    refine lv_aload_n hx hb dX10_raise_8 rfl (lv_at hl 0 rfl) ?_
    refine va_get (D := (dC, dI)) (ci := 10) (v := .ref h_cells) (C := RX10) (T := TX10) (N := 1) hx hb hts hin10 hown hK hP 0 rfl rfl 0 (by decide) kf11 (fun _ h9 => h9) rfl dX10_raise_9 ?_
    refine lv_iload_n hx hb dX10_raise_12 rfl (lv_at hl 1 rfl) ?_
    refine lv_bipush (v := (9 : Int32)) hx hb dX10_raise_13 (by decide) ?_
    refine lv_imul hx hb dX10_raise_15 ?_
    refine lv_iload_n hx hb dX10_raise_16 rfl (lv_at hl 2 rfl) ?_
    refine lv_iadd hx hb dX10_raise_17 ?_
    refine lv_dup2_11 hx hb dX10_raise_18 rfl rfl ?_
    have hi19 := if_no hf
    rw [if_neg hi19] at hf
    refine va_iald hx hb hK hP 1 1 rfl rfl hi19 dX10_raise_19 ?_
    refine lv_iload_n hx hb dX10_raise_20 rfl (lv_at hl 3 rfl) ?_
    refine lv_iadd hx hb dX10_raise_21 ?_
    refine va_iast hx hb hK hP hD hS 1 1 rfl rfl hi19 dX10_raise_22 (fun H locs hP hD hS => ?_)
    obtain ⟨M_h_22, eM_h_22, hf⟩ := wr_some hf
    have hP : va_P (dC, dI) vwCl (wX10 cyB cyI cyZ cyO h h_cells M_h_22) H := by rw [eM_h_22]; exact hP
    have hD : va_D A (wX10 cyB cyI cyZ cyO h h_cells M_h_22) := by rw [eM_h_22]; exact hD
    have hq := Option.some.inj hf
    subst hq
    exact W.vret hx hb hr (fun t ht hW => ⟨rfl, by rw [ht]; exact hP, hD, hS.F ht⟩) hS.2.2 dX10_raise_23
set_option maxHeartbeats 4000000 in
set_option maxRecDepth 100000 in
theorem c_X5_owed (l : Launch) (dC : Nat → ClassId) (dI : Nat → Nat → Nat) (cyB cyI cyZ cyO : ClassId) (h h_lender h_borrower h_sum h_percent : Nat) (M_h : Mem) (p1 : Int32) (r : Int32) (hf : f_X5_owed M_h p1 = some r) : Met l yX5_owed wsX5_owed ({ frames := 0, cells := 0, slots := 0, locals := 0 } : Room) (PR dC dI cyB cyI cyZ cyO ([.ref h, .int p1] : List Value) (wX5 cyB cyI cyZ cyO h h_lender h_borrower h_sum h_percent M_h)) (QR (some (.int r))) 0 0 (fun _ => False) := by
  refine Met.ofW (cc := cX5_owed) (maxL := 2) (ret := (some .int)) (by decide) rfl ?_
  intro p e s m args below meth c s₁ B hml hv
  obtain ⟨rfl, hP, hCx⟩ := hv
  have hK := hCx.1
  have hN := hCx.2
  have hx := B.exec
  have hb := B.bytes
  have hr := B.returns
  have hts := atoms_spec (ws := wsX5_owed) B.pre
  have hown : s.vm.findClass RX5 = some m.cls := findClass_of_methodNamed B.named
  have hlocks := B.notSynchronized
  have hin5 : ∀ w ∈ u_ws RX5 TX5 5, w ∈ wsX5_owed := fun w h => List.mem_cons_of_mem _ (List.mem_append_right _ h)
  have kf22 := hts (.fieldLink RX5 22 "HoldSlips$Loans" "sum" "[I") (by decide +kernel)
  have kf25 := hts (.fieldLink RX5 25 "HoldSlips$Loans" "percent" "[I") (by decide +kernel)
  have hl := lv_entry ([.ref h, .int p1] : List Value) (n := 2) (Nat.le_of_ble_eq_true rfl)
  rw [lg_entry_eq]
  generalize (lg_sl ([.ref h, .int p1] : List Value) ++ List.replicate (2 - (lg_sl ([.ref h, .int p1] : List Value)).length) Slot.unset).toArray = ls at hl ⊢
  have hl : lv_has ls 2 [(0, .ref h), (1, .int p1)] := hl
  rw [f_X5_owed] at hf
  refine lv_aload_n hx hb dX5_owed_0 rfl (lv_at hl 0 rfl) ?_
  refine va_get (D := (dC, dI)) (ci := 5) (v := .ref h_sum) (C := RX5) (T := TX5) (N := 5) hx hb hts hin5 hown hK hP 0 rfl rfl 3 (by decide) kf22 (fun _ h9 => h9) rfl dX5_owed_1 ?_
  refine lv_iload_n hx hb dX5_owed_4 rfl (lv_at hl 1 rfl) ?_
  have hi5 := if_no hf
  rw [if_neg hi5] at hf
  refine va_iald hx hb hK hP 3 1 rfl rfl hi5 dX5_owed_5 ?_
  refine lv_aload_n hx hb dX5_owed_6 rfl (lv_at hl 0 rfl) ?_
  refine va_get (D := (dC, dI)) (ci := 5) (v := .ref h_sum) (C := RX5) (T := TX5) (N := 5) hx hb hts hin5 hown hK hP 0 rfl rfl 3 (by decide) kf22 (fun _ h9 => h9) rfl dX5_owed_7 ?_
  refine lv_iload_n hx hb dX5_owed_10 rfl (lv_at hl 1 rfl) ?_
  refine va_iald hx hb hK hP 3 1 rfl rfl hi5 dX5_owed_11 ?_
  refine lv_aload_n hx hb dX5_owed_12 rfl (lv_at hl 0 rfl) ?_
  refine va_get (D := (dC, dI)) (ci := 5) (v := .ref h_percent) (C := RX5) (T := TX5) (N := 5) hx hb hts hin5 hown hK hP 0 rfl rfl 4 (by decide) kf25 (fun _ h9 => h9) rfl dX5_owed_13 ?_
  refine lv_iload_n hx hb dX5_owed_16 rfl (lv_at hl 1 rfl) ?_
  refine va_iald hx hb hK hP 4 1 rfl rfl hi5 dX5_owed_17 ?_
  refine lv_imul hx hb dX5_owed_18 ?_
  refine lv_bipush (v := (100 : Int32)) hx hb dX5_owed_19 (by decide) ?_
  refine lv_idiv hx hb dX5_owed_21 (by decide) ?_
  refine lv_iadd hx hb dX5_owed_22 ?_
  have hq := Option.some.inj hf
  subst hq
  exact W.iret (v := ((M_h 3 (p1).toNatClampNeg) + (((M_h 3 (p1).toNatClampNeg) * (M_h 4 (p1).toNatClampNeg)) / (100 : Int32)))) hx hb hr (fun t ht hW => ⟨rfl, ht⟩) (fun q h => by cases h) dX5_owed_23
set_option maxHeartbeats 4000000 in
set_option maxRecDepth 100000 in
theorem c_X10_entry (l : Launch) (dC : Nat → ClassId) (dI : Nat → Nat → Nat) (cyB cyI cyZ cyO : ClassId) (h h_cells : Nat) (M_h : Mem) (p1 : Int32) (p2 : Int32) (r : Int32) (hf : f_X10_entry M_h p1 p2 = some r) : Met l yX10_entry wsX10_entry ({ frames := 2, cells := 0, slots := 0, locals := 43 } : Room) (PR dC dI cyB cyI cyZ cyO ([.ref h, .int p1, .int p2] : List Value) (wX10 cyB cyI cyZ cyO h h_cells M_h)) (QR (some (.int r))) 0 0 (fun _ => False) := by
  refine Met.ofW (cc := cX10_entry) (maxL := 3) (ret := (some .int)) (by decide) rfl ?_
  intro p e s m args below meth c s₁ B hml hv
  obtain ⟨rfl, hP, hCx⟩ := hv
  have hK := hCx.1
  have hN := hCx.2
  have hx := B.exec
  have hb := B.bytes
  have hr := B.returns
  have hts := atoms_spec (ws := wsX10_entry) B.pre
  have hown : s.vm.findClass RX10 = some m.cls := findClass_of_methodNamed B.named
  have hlocks := B.notSynchronized
  have hin10 : ∀ w ∈ u_ws RX10 TX10 1, w ∈ wsX10_entry := fun w h => List.mem_cons_of_mem _ (List.mem_append_right _ h)
  have kf11 := hts (.fieldLink RX10 11 "HoldSlips$YearBook" "cells" "[I") (by decide +kernel)
  have hl := lv_entry ([.ref h, .int p1, .int p2] : List Value) (n := 3) (Nat.le_of_ble_eq_true rfl)
  rw [lg_entry_eq]
  generalize (lg_sl ([.ref h, .int p1, .int p2] : List Value) ++ List.replicate (3 - (lg_sl ([.ref h, .int p1, .int p2] : List Value)).length) Slot.unset).toArray = ls at hl ⊢
  have hl : lv_has ls 3 [(0, .ref h), (1, .int p1), (2, .int p2)] := hl
  rw [f_X10_entry] at hf
  refine lv_iload_n hx hb dX10_entry_0 rfl (lv_at hl 1 rfl) ?_
  refine lv_iload_n hx hb dX10_entry_1 rfl (lv_at hl 2 rfl) ?_
  obtain ⟨r2, h2, hf⟩ := bd1_some hf
  have hPc := hP.sub (ws' := ([] : va_W)) [] rfl
  refine ro_calli (va_runS (As := [.int p1, .int p2]) (rest := []) ⟨hx, hb, hml, hown, hts⟩ (c_X10_isCell l dC dI cyB cyI cyZ cyO p1 p2 r2 h2) (va_cwS 2 hts gX10_entry_X10_isCell rfl rfl rfl (by decide +kernel) ⟨Nat.le_of_ble_eq_true rfl, Nat.le_of_ble_eq_true rfl⟩) ⟨PR.blind, fun U hU hW => ⟨rfl, by rw [hU]; exact hPc, hCx.warm hW⟩⟩ rfl rfl hl.1 rfl (lv_room (Nat.le_of_ble_eq_true rfl)) dX10_entry_2 ⟨Nat.zero_le _, Nat.zero_le _⟩) ?_
  refine lv_if_eq (tgt := 22) hx hb dX10_entry_5 (by decide) (fun hc5 => ?_) (fun hc5 => ?_)
  · rw [if_pos hc5] at hf
    refine lv_iconst (v := (-1 : Int32)) hx hb dX10_entry_22 (by decide) ?_
    have hq := Option.some.inj hf
    subst hq
    exact W.iret (v := (-1 : Int32)) hx hb hr (fun t ht hW => ⟨rfl, ht⟩) (fun q h => by cases h) dX10_entry_23
  · rw [if_neg hc5] at hf
    refine lv_aload_n hx hb dX10_entry_8 rfl (lv_at hl 0 rfl) ?_
    refine va_get (D := (dC, dI)) (ci := 10) (v := .ref h_cells) (C := RX10) (T := TX10) (N := 1) hx hb hts hin10 hown hK hP 0 rfl rfl 0 (by decide) kf11 (fun _ h9 => h9) rfl dX10_entry_9 ?_
    refine lv_iload_n hx hb dX10_entry_12 rfl (lv_at hl 1 rfl) ?_
    refine lv_bipush (v := (9 : Int32)) hx hb dX10_entry_13 (by decide) ?_
    refine lv_imul hx hb dX10_entry_15 ?_
    refine lv_iload_n hx hb dX10_entry_16 rfl (lv_at hl 2 rfl) ?_
    refine lv_iadd hx hb dX10_entry_17 ?_
    have hi18 := if_no hf
    rw [if_neg hi18] at hf
    refine va_iald hx hb hK hP 1 1 rfl rfl hi18 dX10_entry_18 ?_
    refine lv_goto (tgt := 23) hx hb dX10_entry_19 (by decide) ?_
    have hq := Option.some.inj hf
    subst hq
    exact W.iret (v := (M_h 0 (((p1 * (9 : Int32)) + p2)).toNatClampNeg)) hx hb hr (fun t ht hW => ⟨rfl, ht⟩) (fun q h => by cases h) dX10_entry_23
set_option maxHeartbeats 4000000 in
set_option maxRecDepth 100000 in
theorem c_X0_copyFrom (l : Launch) (dC : Nat → ClassId) (dI : Nat → Nat → Nat) (cyB cyI cyZ cyO : ClassId) (a1 a1_owner a1_size a1_weight a1_worth a1_level a1_holder a1_side a1_planned h h_owner h_size h_weight h_worth h_level h_holder h_side h_planned : Nat) (sz : Nat) (M_a1 : Mem) (M_h : Mem) (R_h : Mem) (hf : f_X0_copyFrom M_a1 M_h = some R_h) : Met l yX0_copyFrom wsX0_copyFrom ({ frames := 2, cells := 0, slots := 0, locals := 81 } : Room) (PW dC dI cyB cyI cyZ cyO ([.ref h, .ref a1] : List Value) ((wX0 cyB cyI cyZ cyO a1 a1_owner a1_size a1_weight a1_worth a1_level a1_holder a1_side a1_planned M_a1) ++ (wX0 cyB cyI cyZ cyO h h_owner h_size h_weight h_worth h_level h_holder h_side h_planned M_h)) sz) (QW dC dI none ((wX0 cyB cyI cyZ cyO a1 a1_owner a1_size a1_weight a1_worth a1_level a1_holder a1_side a1_planned M_a1) ++ (wX0 cyB cyI cyZ cyO h h_owner h_size h_weight h_worth h_level h_holder h_side h_planned R_h)) (va_A ((wX0 cyB cyI cyZ cyO a1 a1_owner a1_size a1_weight a1_worth a1_level a1_holder a1_side a1_planned M_a1) ++ (wX0 cyB cyI cyZ cyO h h_owner h_size h_weight h_worth h_level h_holder h_side h_planned M_h)) sz)) 0 0 (va_A ((wX0 cyB cyI cyZ cyO a1 a1_owner a1_size a1_weight a1_worth a1_level a1_holder a1_side a1_planned M_a1) ++ (wX0 cyB cyI cyZ cyO h h_owner h_size h_weight h_worth h_level h_holder h_side h_planned M_h)) sz) := by
  refine Met.ofW (cc := cX0_copyFrom) (maxL := 2) (ret := none) (by decide) rfl ?_
  intro p e s m args below meth c s₁ B hml hv
  obtain ⟨rfl, hsz, hP, hCx, hD0⟩ := hv
  have hK := hCx.1
  have hN := hCx.2
  have hx := B.exec
  have hb := B.bytes
  have hr := B.returns
  have hts := atoms_spec (ws := wsX0_copyFrom) B.pre
  have hown : s.vm.findClass RX0 = some m.cls := findClass_of_methodNamed B.named
  have hlocks := B.notSynchronized
  have hin0 : ∀ w ∈ u_ws RX0 TX0 10, w ∈ wsX0_copyFrom := fun w h => List.mem_cons_of_mem _ (List.mem_append_right _ h)
  have kf9 := hts (.fieldLink RX0 9 "HoldSlips$Bales" "number" "I") (by decide +kernel)
  have kf15 := hts (.fieldLink RX0 15 "HoldSlips$Bales" "owner" "[I") (by decide +kernel)
  have kf19 := hts (.fieldLink RX0 19 "HoldSlips$Bales" "size" "[I") (by decide +kernel)
  have kf22 := hts (.fieldLink RX0 22 "HoldSlips$Bales" "weight" "[I") (by decide +kernel)
  have kf25 := hts (.fieldLink RX0 25 "HoldSlips$Bales" "worth" "[I") (by decide +kernel)
  have kf28 := hts (.fieldLink RX0 28 "HoldSlips$Bales" "level" "[I") (by decide +kernel)
  have kf31 := hts (.fieldLink RX0 31 "HoldSlips$Bales" "holder" "[I") (by decide +kernel)
  have kf34 := hts (.fieldLink RX0 34 "HoldSlips$Bales" "side" "[I") (by decide +kernel)
  have kf37 := hts (.fieldLink RX0 37 "HoldSlips$Bales" "isPlanned" "Z") (by decide +kernel)
  have kf41 := hts (.fieldLink RX0 41 "HoldSlips$Bales" "planned" "[I") (by decide +kernel)
  subst hsz
  have hD := hD0.self (sz := s.heap.size)
  generalize hAe : va_A ((wX0 cyB cyI cyZ cyO a1 a1_owner a1_size a1_weight a1_worth a1_level a1_holder a1_side a1_planned M_a1) ++ (wX0 cyB cyI cyZ cyO h h_owner h_size h_weight h_worth h_level h_holder h_side h_planned M_h)) s.heap.size = A at hD ⊢
  have hA : ∀ q : Nat, s.heap.size ≤ q → A q := fun q h => by rw [← hAe]; exact Or.inr h
  have hS : va_S A s.heap s.heap [] := va_S.rf
  have hl := lv_entry ([.ref h, .ref a1] : List Value) (n := 2) (Nat.le_of_ble_eq_true rfl)
  rw [lg_entry_eq]
  generalize (lg_sl ([.ref h, .ref a1] : List Value) ++ List.replicate (2 - (lg_sl ([.ref h, .ref a1] : List Value)).length) Slot.unset).toArray = ls at hl ⊢
  have hl : lv_has ls 2 [(0, .ref h), (1, .ref a1)] := hl
  rw [f_X0_copyFrom] at hf
  refine lv_aload_n hx hb dX0_copyFrom_0 rfl (lv_at hl 0 rfl) ?_
  refine lv_aload_n hx hb dX0_copyFrom_1 rfl (lv_at hl 1 rfl) ?_
  refine va_get (D := (dC, dI)) (ci := 0) (v := .int (M_a1 0 0)) (C := RX0) (T := TX0) (N := 10) hx hb hts hin0 hown hK hP 0 rfl rfl 0 (by decide) kf9 (fun _ h9 => h9) rfl dX0_copyFrom_2 ?_
  refine va_put (D := (dC, dI)) (ci := 0) (v := .int (M_a1 0 0)) (ty := .int) (C := RX0) (T := TX0) (N := 10) hx hb hts hin0 tyX0 tyX0_ok nmX0 hown hK hP hD hS 9 rfl rfl 0 (by decide) kf9 (fun _ h9 => h9) rfl (by decide +kernel) rfl rfl (Nat.le_of_ble_eq_true rfl) dX0_copyFrom_5 (fun H locs hP hD hS => ?_)
  obtain ⟨M_h_5, eM_h_5, hf⟩ := wr_some hf
  have hP : va_P (dC, dI) vwCl ((wX0 cyB cyI cyZ cyO a1 a1_owner a1_size a1_weight a1_worth a1_level a1_holder a1_side a1_planned M_a1) ++ (wX0 cyB cyI cyZ cyO h h_owner h_size h_weight h_worth h_level h_holder h_side h_planned M_h_5)) H := by rw [eM_h_5]; exact hP
  have hD : va_D A ((wX0 cyB cyI cyZ cyO a1 a1_owner a1_size a1_weight a1_worth a1_level a1_holder a1_side a1_planned M_a1) ++ (wX0 cyB cyI cyZ cyO h h_owner h_size h_weight h_worth h_level h_holder h_side h_planned M_h_5)) := by rw [eM_h_5]; exact hD
  refine lv_aload_n hx hb dX0_copyFrom_8 rfl (lv_at hl 0 rfl) ?_
  refine lv_aload_n hx hb dX0_copyFrom_9 rfl (lv_at hl 1 rfl) ?_
  refine va_get (D := (dC, dI)) (ci := 0) (v := .int (M_a1 8 0)) (C := RX0) (T := TX0) (N := 10) hx hb hts hin0 hown hK hP 0 rfl rfl 8 (by decide) kf37 (fun _ h9 => h9) rfl dX0_copyFrom_10 ?_
  have hb13 := Decidable.not_not.mp (if_no hf)
  rw [if_neg (not_not_intro hb13)] at hf
  refine va_put (D := (dC, dI)) (ci := 0) (v := .int (M_a1 8 0)) (ty := .boolean) (C := RX0) (T := TX0) (N := 10) hx hb hts hin0 tyX0 tyX0_ok nmX0 hown hK hP hD hS 9 rfl rfl 8 (by decide) kf37 (fun _ h9 => h9) rfl (by decide +kernel) (nar_b hb13) (fit_b hb13) (Nat.le_of_ble_eq_true rfl) dX0_copyFrom_13 (fun H locs hP hD hS => ?_)
  obtain ⟨M_h_13, eM_h_13, hf⟩ := wr_some hf
  have hP : va_P (dC, dI) vwCl ((wX0 cyB cyI cyZ cyO a1 a1_owner a1_size a1_weight a1_worth a1_level a1_holder a1_side a1_planned M_a1) ++ (wX0 cyB cyI cyZ cyO h h_owner h_size h_weight h_worth h_level h_holder h_side h_planned M_h_13)) H := by rw [eM_h_13]; exact hP
  have hD : va_D A ((wX0 cyB cyI cyZ cyO a1 a1_owner a1_size a1_weight a1_worth a1_level a1_holder a1_side a1_planned M_a1) ++ (wX0 cyB cyI cyZ cyO h h_owner h_size h_weight h_worth h_level h_holder h_side h_planned M_h_13)) := by rw [eM_h_13]; exact hD
  refine lv_aload_n hx hb dX0_copyFrom_16 rfl (lv_at hl 1 rfl) ?_
  refine va_get (D := (dC, dI)) (ci := 0) (v := .ref a1_owner) (C := RX0) (T := TX0) (N := 10) hx hb hts hin0 hown hK hP 0 rfl rfl 1 (by decide) kf15 (fun _ h9 => h9) rfl dX0_copyFrom_17 ?_
  refine lv_aload_n hx hb dX0_copyFrom_20 rfl (lv_at hl 0 rfl) ?_
  refine va_get (D := (dC, dI)) (ci := 0) (v := .ref h_owner) (C := RX0) (T := TX0) (N := 10) hx hb hts hin0 hown hK hP 9 rfl rfl 1 (by decide) kf15 (fun _ h9 => h9) rfl dX0_copyFrom_21 ?_
  obtain ⟨M_h_24, eM_h_24, hf⟩ := wr_some hf
  have hPc := hP.sub (ws' := ([(a1_owner, .inl (cyI, 12, .inl (M_a1 1))), (h_owner, .inl (cyI, 12, .inl (M_h_13 1)))] : va_W)) [1, 10] rfl
  have hDc := hD.sub (ws' := ([(a1_owner, .inl (cyI, 12, .inl (M_a1 1))), (h_owner, .inl (cyI, 12, .inl (M_h_13 1)))] : va_W)) [1, 10] (by decide) rfl
  refine wr_callv (wc := ([(a1_owner, .inl (cyI, 12, .inl (M_a1 1))), (h_owner, .inl (cyI, 12, .inl (M_h_13 1)))] : va_W)) (wr := ([(a1, .inr (0, [.int (M_a1 0 0), .ref a1_owner, .ref a1_size, .ref a1_weight, .ref a1_worth, .ref a1_level, .ref a1_holder, .ref a1_side, .int (M_a1 8 0), .ref a1_planned])), (a1_size, .inl (cyI, 12, .inl (M_a1 2))), (a1_weight, .inl (cyI, 12, .inl (M_a1 3))), (a1_worth, .inl (cyI, 12, .inl (M_a1 4))), (a1_level, .inl (cyI, 12, .inl (M_a1 5))), (a1_holder, .inl (cyI, 12, .inl (M_a1 6))), (a1_side, .inl (cyI, 12, .inl (M_a1 7))), (a1_planned, .inl (cyI, 12, .inl (M_a1 9))), (h, .inr (0, [.int (M_h_13 0 0), .ref h_owner, .ref h_size, .ref h_weight, .ref h_worth, .ref h_level, .ref h_holder, .ref h_side, .int (M_h_13 8 0), .ref h_planned])), (h_size, .inl (cyI, 12, .inl (M_h_13 2))), (h_weight, .inl (cyI, 12, .inl (M_h_13 3))), (h_worth, .inl (cyI, 12, .inl (M_h_13 4))), (h_level, .inl (cyI, 12, .inl (M_h_13 5))), (h_holder, .inl (cyI, 12, .inl (M_h_13 6))), (h_side, .inl (cyI, 12, .inl (M_h_13 7))), (h_planned, .inl (cyI, 12, .inl (M_h_13 9)))] : va_W)) (w1 := ([(a1_owner, .inl (cyI, 12, .inl (M_a1 1))), (h_owner, .inl (cyI, 12, .inl ((upR M_h_13 1 (rowc 12 (M_a1 1) (M_h_13 1))) 1)))] : va_W)) (ws' := ((wX0 cyB cyI cyZ cyO a1 a1_owner a1_size a1_weight a1_worth a1_level a1_holder a1_side a1_planned M_a1) ++ (wX0 cyB cyI cyZ cyO h h_owner h_size h_weight h_worth h_level h_holder h_side h_planned (upR M_h_13 1 (rowc 12 (M_a1 1) (M_h_13 1)))))) hP hD hS hA [1, 10] [0, 2, 3, 4, 5, 6, 7, 8, 9, 11, 12, 13, 14, 15, 16, 17] [0, 16, 1, 2, 3, 4, 5, 6, 7, 8, 17, 9, 10, 11, 12, 13, 14, 15] rfl rfl (by decide) (by decide) rfl (by decide) (va_runSN (As := [.ref a1_owner, .ref h_owner]) (rest := []) ⟨hx, hb, hml, hown, hts⟩ (c_X11_copyRow l dC dI cyB cyI cyZ cyO a1_owner h_owner _ 12 (M_a1 1) (M_h_13 1) (by decide)) ⟨va_cnB 2 hts gX0_copyFrom_X11_copyRow_n44 rfl rfl rfl (hN _ (by decide +kernel : Cond.methodLinkNest RX0 44 yX11_copyRow "HoldSlips" ∈ nw_all)) (hts (.initialized RX11) (by decide +kernel)) (by decide +kernel) ⟨Nat.le_of_ble_eq_true rfl, Nat.le_of_ble_eq_true rfl⟩, hts (.static yX11_copyRow) (by decide +kernel), trivial⟩ ⟨PW.blind, fun U hU hW => ⟨rfl, by rw [hU], by rw [hU]; exact hPc, hCx.warm hW, hDc.weaken (fun _ _ _ _ => trivial)⟩⟩ rfl rfl hl.1 rfl (lv_room (Nat.le_of_ble_eq_true rfl)) dX0_copyFrom_24 ⟨Nat.zero_le _, Nat.zero_le _⟩) (fun H locs hP hD hS => ?_)
  rw [← eM_h_24] at hP hD
  refine lv_aload_n hx hb dX0_copyFrom_27 rfl (lv_at hl 1 rfl) ?_
  refine va_get (D := (dC, dI)) (ci := 0) (v := .ref a1_size) (C := RX0) (T := TX0) (N := 10) hx hb hts hin0 hown hK hP 0 rfl rfl 2 (by decide) kf19 (fun _ h9 => h9) rfl dX0_copyFrom_28 ?_
  refine lv_aload_n hx hb dX0_copyFrom_31 rfl (lv_at hl 0 rfl) ?_
  refine va_get (D := (dC, dI)) (ci := 0) (v := .ref h_size) (C := RX0) (T := TX0) (N := 10) hx hb hts hin0 hown hK hP 9 rfl rfl 2 (by decide) kf19 (fun _ h9 => h9) rfl dX0_copyFrom_32 ?_
  obtain ⟨M_h_35, eM_h_35, hf⟩ := wr_some hf
  have hPc := hP.sub (ws' := ([(a1_size, .inl (cyI, 12, .inl (M_a1 2))), (h_size, .inl (cyI, 12, .inl (M_h_24 2)))] : va_W)) [2, 11] rfl
  have hDc := hD.sub (ws' := ([(a1_size, .inl (cyI, 12, .inl (M_a1 2))), (h_size, .inl (cyI, 12, .inl (M_h_24 2)))] : va_W)) [2, 11] (by decide) rfl
  refine wr_callv (wc := ([(a1_size, .inl (cyI, 12, .inl (M_a1 2))), (h_size, .inl (cyI, 12, .inl (M_h_24 2)))] : va_W)) (wr := ([(a1, .inr (0, [.int (M_a1 0 0), .ref a1_owner, .ref a1_size, .ref a1_weight, .ref a1_worth, .ref a1_level, .ref a1_holder, .ref a1_side, .int (M_a1 8 0), .ref a1_planned])), (a1_owner, .inl (cyI, 12, .inl (M_a1 1))), (a1_weight, .inl (cyI, 12, .inl (M_a1 3))), (a1_worth, .inl (cyI, 12, .inl (M_a1 4))), (a1_level, .inl (cyI, 12, .inl (M_a1 5))), (a1_holder, .inl (cyI, 12, .inl (M_a1 6))), (a1_side, .inl (cyI, 12, .inl (M_a1 7))), (a1_planned, .inl (cyI, 12, .inl (M_a1 9))), (h, .inr (0, [.int (M_h_24 0 0), .ref h_owner, .ref h_size, .ref h_weight, .ref h_worth, .ref h_level, .ref h_holder, .ref h_side, .int (M_h_24 8 0), .ref h_planned])), (h_owner, .inl (cyI, 12, .inl (M_h_24 1))), (h_weight, .inl (cyI, 12, .inl (M_h_24 3))), (h_worth, .inl (cyI, 12, .inl (M_h_24 4))), (h_level, .inl (cyI, 12, .inl (M_h_24 5))), (h_holder, .inl (cyI, 12, .inl (M_h_24 6))), (h_side, .inl (cyI, 12, .inl (M_h_24 7))), (h_planned, .inl (cyI, 12, .inl (M_h_24 9)))] : va_W)) (w1 := ([(a1_size, .inl (cyI, 12, .inl (M_a1 2))), (h_size, .inl (cyI, 12, .inl ((upR M_h_24 2 (rowc 12 (M_a1 2) (M_h_24 2))) 2)))] : va_W)) (ws' := ((wX0 cyB cyI cyZ cyO a1 a1_owner a1_size a1_weight a1_worth a1_level a1_holder a1_side a1_planned M_a1) ++ (wX0 cyB cyI cyZ cyO h h_owner h_size h_weight h_worth h_level h_holder h_side h_planned (upR M_h_24 2 (rowc 12 (M_a1 2) (M_h_24 2)))))) hP hD hS hA [2, 11] [0, 1, 3, 4, 5, 6, 7, 8, 9, 10, 12, 13, 14, 15, 16, 17] [0, 1, 16, 2, 3, 4, 5, 6, 7, 8, 9, 17, 10, 11, 12, 13, 14, 15] rfl rfl (by decide) (by decide) rfl (by decide) (va_runSN (As := [.ref a1_size, .ref h_size]) (rest := []) ⟨hx, hb, hml, hown, hts⟩ (c_X11_copyRow l dC dI cyB cyI cyZ cyO a1_size h_size _ 12 (M_a1 2) (M_h_24 2) (by decide)) ⟨va_cnB 2 hts gX0_copyFrom_X11_copyRow_n44 rfl rfl rfl (hN _ (by decide +kernel : Cond.methodLinkNest RX0 44 yX11_copyRow "HoldSlips" ∈ nw_all)) (hts (.initialized RX11) (by decide +kernel)) (by decide +kernel) ⟨Nat.le_of_ble_eq_true rfl, Nat.le_of_ble_eq_true rfl⟩, hts (.static yX11_copyRow) (by decide +kernel), trivial⟩ ⟨PW.blind, fun U hU hW => ⟨rfl, by rw [hU], by rw [hU]; exact hPc, hCx.warm hW, hDc.weaken (fun _ _ _ _ => trivial)⟩⟩ rfl rfl hl.1 rfl (lv_room (Nat.le_of_ble_eq_true rfl)) dX0_copyFrom_35 ⟨Nat.zero_le _, Nat.zero_le _⟩) (fun H locs hP hD hS => ?_)
  rw [← eM_h_35] at hP hD
  refine lv_aload_n hx hb dX0_copyFrom_38 rfl (lv_at hl 1 rfl) ?_
  refine va_get (D := (dC, dI)) (ci := 0) (v := .ref a1_weight) (C := RX0) (T := TX0) (N := 10) hx hb hts hin0 hown hK hP 0 rfl rfl 3 (by decide) kf22 (fun _ h9 => h9) rfl dX0_copyFrom_39 ?_
  refine lv_aload_n hx hb dX0_copyFrom_42 rfl (lv_at hl 0 rfl) ?_
  refine va_get (D := (dC, dI)) (ci := 0) (v := .ref h_weight) (C := RX0) (T := TX0) (N := 10) hx hb hts hin0 hown hK hP 9 rfl rfl 3 (by decide) kf22 (fun _ h9 => h9) rfl dX0_copyFrom_43 ?_
  obtain ⟨M_h_46, eM_h_46, hf⟩ := wr_some hf
  have hPc := hP.sub (ws' := ([(a1_weight, .inl (cyI, 12, .inl (M_a1 3))), (h_weight, .inl (cyI, 12, .inl (M_h_35 3)))] : va_W)) [3, 12] rfl
  have hDc := hD.sub (ws' := ([(a1_weight, .inl (cyI, 12, .inl (M_a1 3))), (h_weight, .inl (cyI, 12, .inl (M_h_35 3)))] : va_W)) [3, 12] (by decide) rfl
  refine wr_callv (wc := ([(a1_weight, .inl (cyI, 12, .inl (M_a1 3))), (h_weight, .inl (cyI, 12, .inl (M_h_35 3)))] : va_W)) (wr := ([(a1, .inr (0, [.int (M_a1 0 0), .ref a1_owner, .ref a1_size, .ref a1_weight, .ref a1_worth, .ref a1_level, .ref a1_holder, .ref a1_side, .int (M_a1 8 0), .ref a1_planned])), (a1_owner, .inl (cyI, 12, .inl (M_a1 1))), (a1_size, .inl (cyI, 12, .inl (M_a1 2))), (a1_worth, .inl (cyI, 12, .inl (M_a1 4))), (a1_level, .inl (cyI, 12, .inl (M_a1 5))), (a1_holder, .inl (cyI, 12, .inl (M_a1 6))), (a1_side, .inl (cyI, 12, .inl (M_a1 7))), (a1_planned, .inl (cyI, 12, .inl (M_a1 9))), (h, .inr (0, [.int (M_h_35 0 0), .ref h_owner, .ref h_size, .ref h_weight, .ref h_worth, .ref h_level, .ref h_holder, .ref h_side, .int (M_h_35 8 0), .ref h_planned])), (h_owner, .inl (cyI, 12, .inl (M_h_35 1))), (h_size, .inl (cyI, 12, .inl (M_h_35 2))), (h_worth, .inl (cyI, 12, .inl (M_h_35 4))), (h_level, .inl (cyI, 12, .inl (M_h_35 5))), (h_holder, .inl (cyI, 12, .inl (M_h_35 6))), (h_side, .inl (cyI, 12, .inl (M_h_35 7))), (h_planned, .inl (cyI, 12, .inl (M_h_35 9)))] : va_W)) (w1 := ([(a1_weight, .inl (cyI, 12, .inl (M_a1 3))), (h_weight, .inl (cyI, 12, .inl ((upR M_h_35 3 (rowc 12 (M_a1 3) (M_h_35 3))) 3)))] : va_W)) (ws' := ((wX0 cyB cyI cyZ cyO a1 a1_owner a1_size a1_weight a1_worth a1_level a1_holder a1_side a1_planned M_a1) ++ (wX0 cyB cyI cyZ cyO h h_owner h_size h_weight h_worth h_level h_holder h_side h_planned (upR M_h_35 3 (rowc 12 (M_a1 3) (M_h_35 3)))))) hP hD hS hA [3, 12] [0, 1, 2, 4, 5, 6, 7, 8, 9, 10, 11, 13, 14, 15, 16, 17] [0, 1, 2, 16, 3, 4, 5, 6, 7, 8, 9, 10, 17, 11, 12, 13, 14, 15] rfl rfl (by decide) (by decide) rfl (by decide) (va_runSN (As := [.ref a1_weight, .ref h_weight]) (rest := []) ⟨hx, hb, hml, hown, hts⟩ (c_X11_copyRow l dC dI cyB cyI cyZ cyO a1_weight h_weight _ 12 (M_a1 3) (M_h_35 3) (by decide)) ⟨va_cnB 2 hts gX0_copyFrom_X11_copyRow_n44 rfl rfl rfl (hN _ (by decide +kernel : Cond.methodLinkNest RX0 44 yX11_copyRow "HoldSlips" ∈ nw_all)) (hts (.initialized RX11) (by decide +kernel)) (by decide +kernel) ⟨Nat.le_of_ble_eq_true rfl, Nat.le_of_ble_eq_true rfl⟩, hts (.static yX11_copyRow) (by decide +kernel), trivial⟩ ⟨PW.blind, fun U hU hW => ⟨rfl, by rw [hU], by rw [hU]; exact hPc, hCx.warm hW, hDc.weaken (fun _ _ _ _ => trivial)⟩⟩ rfl rfl hl.1 rfl (lv_room (Nat.le_of_ble_eq_true rfl)) dX0_copyFrom_46 ⟨Nat.zero_le _, Nat.zero_le _⟩) (fun H locs hP hD hS => ?_)
  rw [← eM_h_46] at hP hD
  refine lv_aload_n hx hb dX0_copyFrom_49 rfl (lv_at hl 1 rfl) ?_
  refine va_get (D := (dC, dI)) (ci := 0) (v := .ref a1_worth) (C := RX0) (T := TX0) (N := 10) hx hb hts hin0 hown hK hP 0 rfl rfl 4 (by decide) kf25 (fun _ h9 => h9) rfl dX0_copyFrom_50 ?_
  refine lv_aload_n hx hb dX0_copyFrom_53 rfl (lv_at hl 0 rfl) ?_
  refine va_get (D := (dC, dI)) (ci := 0) (v := .ref h_worth) (C := RX0) (T := TX0) (N := 10) hx hb hts hin0 hown hK hP 9 rfl rfl 4 (by decide) kf25 (fun _ h9 => h9) rfl dX0_copyFrom_54 ?_
  obtain ⟨M_h_57, eM_h_57, hf⟩ := wr_some hf
  have hPc := hP.sub (ws' := ([(a1_worth, .inl (cyI, 12, .inl (M_a1 4))), (h_worth, .inl (cyI, 12, .inl (M_h_46 4)))] : va_W)) [4, 13] rfl
  have hDc := hD.sub (ws' := ([(a1_worth, .inl (cyI, 12, .inl (M_a1 4))), (h_worth, .inl (cyI, 12, .inl (M_h_46 4)))] : va_W)) [4, 13] (by decide) rfl
  refine wr_callv (wc := ([(a1_worth, .inl (cyI, 12, .inl (M_a1 4))), (h_worth, .inl (cyI, 12, .inl (M_h_46 4)))] : va_W)) (wr := ([(a1, .inr (0, [.int (M_a1 0 0), .ref a1_owner, .ref a1_size, .ref a1_weight, .ref a1_worth, .ref a1_level, .ref a1_holder, .ref a1_side, .int (M_a1 8 0), .ref a1_planned])), (a1_owner, .inl (cyI, 12, .inl (M_a1 1))), (a1_size, .inl (cyI, 12, .inl (M_a1 2))), (a1_weight, .inl (cyI, 12, .inl (M_a1 3))), (a1_level, .inl (cyI, 12, .inl (M_a1 5))), (a1_holder, .inl (cyI, 12, .inl (M_a1 6))), (a1_side, .inl (cyI, 12, .inl (M_a1 7))), (a1_planned, .inl (cyI, 12, .inl (M_a1 9))), (h, .inr (0, [.int (M_h_46 0 0), .ref h_owner, .ref h_size, .ref h_weight, .ref h_worth, .ref h_level, .ref h_holder, .ref h_side, .int (M_h_46 8 0), .ref h_planned])), (h_owner, .inl (cyI, 12, .inl (M_h_46 1))), (h_size, .inl (cyI, 12, .inl (M_h_46 2))), (h_weight, .inl (cyI, 12, .inl (M_h_46 3))), (h_level, .inl (cyI, 12, .inl (M_h_46 5))), (h_holder, .inl (cyI, 12, .inl (M_h_46 6))), (h_side, .inl (cyI, 12, .inl (M_h_46 7))), (h_planned, .inl (cyI, 12, .inl (M_h_46 9)))] : va_W)) (w1 := ([(a1_worth, .inl (cyI, 12, .inl (M_a1 4))), (h_worth, .inl (cyI, 12, .inl ((upR M_h_46 4 (rowc 12 (M_a1 4) (M_h_46 4))) 4)))] : va_W)) (ws' := ((wX0 cyB cyI cyZ cyO a1 a1_owner a1_size a1_weight a1_worth a1_level a1_holder a1_side a1_planned M_a1) ++ (wX0 cyB cyI cyZ cyO h h_owner h_size h_weight h_worth h_level h_holder h_side h_planned (upR M_h_46 4 (rowc 12 (M_a1 4) (M_h_46 4)))))) hP hD hS hA [4, 13] [0, 1, 2, 3, 5, 6, 7, 8, 9, 10, 11, 12, 14, 15, 16, 17] [0, 1, 2, 3, 16, 4, 5, 6, 7, 8, 9, 10, 11, 17, 12, 13, 14, 15] rfl rfl (by decide) (by decide) rfl (by decide) (va_runSN (As := [.ref a1_worth, .ref h_worth]) (rest := []) ⟨hx, hb, hml, hown, hts⟩ (c_X11_copyRow l dC dI cyB cyI cyZ cyO a1_worth h_worth _ 12 (M_a1 4) (M_h_46 4) (by decide)) ⟨va_cnB 2 hts gX0_copyFrom_X11_copyRow_n44 rfl rfl rfl (hN _ (by decide +kernel : Cond.methodLinkNest RX0 44 yX11_copyRow "HoldSlips" ∈ nw_all)) (hts (.initialized RX11) (by decide +kernel)) (by decide +kernel) ⟨Nat.le_of_ble_eq_true rfl, Nat.le_of_ble_eq_true rfl⟩, hts (.static yX11_copyRow) (by decide +kernel), trivial⟩ ⟨PW.blind, fun U hU hW => ⟨rfl, by rw [hU], by rw [hU]; exact hPc, hCx.warm hW, hDc.weaken (fun _ _ _ _ => trivial)⟩⟩ rfl rfl hl.1 rfl (lv_room (Nat.le_of_ble_eq_true rfl)) dX0_copyFrom_57 ⟨Nat.zero_le _, Nat.zero_le _⟩) (fun H locs hP hD hS => ?_)
  rw [← eM_h_57] at hP hD
  refine lv_aload_n hx hb dX0_copyFrom_60 rfl (lv_at hl 1 rfl) ?_
  refine va_get (D := (dC, dI)) (ci := 0) (v := .ref a1_level) (C := RX0) (T := TX0) (N := 10) hx hb hts hin0 hown hK hP 0 rfl rfl 5 (by decide) kf28 (fun _ h9 => h9) rfl dX0_copyFrom_61 ?_
  refine lv_aload_n hx hb dX0_copyFrom_64 rfl (lv_at hl 0 rfl) ?_
  refine va_get (D := (dC, dI)) (ci := 0) (v := .ref h_level) (C := RX0) (T := TX0) (N := 10) hx hb hts hin0 hown hK hP 9 rfl rfl 5 (by decide) kf28 (fun _ h9 => h9) rfl dX0_copyFrom_65 ?_
  obtain ⟨M_h_68, eM_h_68, hf⟩ := wr_some hf
  have hPc := hP.sub (ws' := ([(a1_level, .inl (cyI, 12, .inl (M_a1 5))), (h_level, .inl (cyI, 12, .inl (M_h_57 5)))] : va_W)) [5, 14] rfl
  have hDc := hD.sub (ws' := ([(a1_level, .inl (cyI, 12, .inl (M_a1 5))), (h_level, .inl (cyI, 12, .inl (M_h_57 5)))] : va_W)) [5, 14] (by decide) rfl
  refine wr_callv (wc := ([(a1_level, .inl (cyI, 12, .inl (M_a1 5))), (h_level, .inl (cyI, 12, .inl (M_h_57 5)))] : va_W)) (wr := ([(a1, .inr (0, [.int (M_a1 0 0), .ref a1_owner, .ref a1_size, .ref a1_weight, .ref a1_worth, .ref a1_level, .ref a1_holder, .ref a1_side, .int (M_a1 8 0), .ref a1_planned])), (a1_owner, .inl (cyI, 12, .inl (M_a1 1))), (a1_size, .inl (cyI, 12, .inl (M_a1 2))), (a1_weight, .inl (cyI, 12, .inl (M_a1 3))), (a1_worth, .inl (cyI, 12, .inl (M_a1 4))), (a1_holder, .inl (cyI, 12, .inl (M_a1 6))), (a1_side, .inl (cyI, 12, .inl (M_a1 7))), (a1_planned, .inl (cyI, 12, .inl (M_a1 9))), (h, .inr (0, [.int (M_h_57 0 0), .ref h_owner, .ref h_size, .ref h_weight, .ref h_worth, .ref h_level, .ref h_holder, .ref h_side, .int (M_h_57 8 0), .ref h_planned])), (h_owner, .inl (cyI, 12, .inl (M_h_57 1))), (h_size, .inl (cyI, 12, .inl (M_h_57 2))), (h_weight, .inl (cyI, 12, .inl (M_h_57 3))), (h_worth, .inl (cyI, 12, .inl (M_h_57 4))), (h_holder, .inl (cyI, 12, .inl (M_h_57 6))), (h_side, .inl (cyI, 12, .inl (M_h_57 7))), (h_planned, .inl (cyI, 12, .inl (M_h_57 9)))] : va_W)) (w1 := ([(a1_level, .inl (cyI, 12, .inl (M_a1 5))), (h_level, .inl (cyI, 12, .inl ((upR M_h_57 5 (rowc 12 (M_a1 5) (M_h_57 5))) 5)))] : va_W)) (ws' := ((wX0 cyB cyI cyZ cyO a1 a1_owner a1_size a1_weight a1_worth a1_level a1_holder a1_side a1_planned M_a1) ++ (wX0 cyB cyI cyZ cyO h h_owner h_size h_weight h_worth h_level h_holder h_side h_planned (upR M_h_57 5 (rowc 12 (M_a1 5) (M_h_57 5)))))) hP hD hS hA [5, 14] [0, 1, 2, 3, 4, 6, 7, 8, 9, 10, 11, 12, 13, 15, 16, 17] [0, 1, 2, 3, 4, 16, 5, 6, 7, 8, 9, 10, 11, 12, 17, 13, 14, 15] rfl rfl (by decide) (by decide) rfl (by decide) (va_runSN (As := [.ref a1_level, .ref h_level]) (rest := []) ⟨hx, hb, hml, hown, hts⟩ (c_X11_copyRow l dC dI cyB cyI cyZ cyO a1_level h_level _ 12 (M_a1 5) (M_h_57 5) (by decide)) ⟨va_cnB 2 hts gX0_copyFrom_X11_copyRow_n44 rfl rfl rfl (hN _ (by decide +kernel : Cond.methodLinkNest RX0 44 yX11_copyRow "HoldSlips" ∈ nw_all)) (hts (.initialized RX11) (by decide +kernel)) (by decide +kernel) ⟨Nat.le_of_ble_eq_true rfl, Nat.le_of_ble_eq_true rfl⟩, hts (.static yX11_copyRow) (by decide +kernel), trivial⟩ ⟨PW.blind, fun U hU hW => ⟨rfl, by rw [hU], by rw [hU]; exact hPc, hCx.warm hW, hDc.weaken (fun _ _ _ _ => trivial)⟩⟩ rfl rfl hl.1 rfl (lv_room (Nat.le_of_ble_eq_true rfl)) dX0_copyFrom_68 ⟨Nat.zero_le _, Nat.zero_le _⟩) (fun H locs hP hD hS => ?_)
  rw [← eM_h_68] at hP hD
  refine lv_aload_n hx hb dX0_copyFrom_71 rfl (lv_at hl 1 rfl) ?_
  refine va_get (D := (dC, dI)) (ci := 0) (v := .ref a1_holder) (C := RX0) (T := TX0) (N := 10) hx hb hts hin0 hown hK hP 0 rfl rfl 6 (by decide) kf31 (fun _ h9 => h9) rfl dX0_copyFrom_72 ?_
  refine lv_aload_n hx hb dX0_copyFrom_75 rfl (lv_at hl 0 rfl) ?_
  refine va_get (D := (dC, dI)) (ci := 0) (v := .ref h_holder) (C := RX0) (T := TX0) (N := 10) hx hb hts hin0 hown hK hP 9 rfl rfl 6 (by decide) kf31 (fun _ h9 => h9) rfl dX0_copyFrom_76 ?_
  obtain ⟨M_h_79, eM_h_79, hf⟩ := wr_some hf
  have hPc := hP.sub (ws' := ([(a1_holder, .inl (cyI, 12, .inl (M_a1 6))), (h_holder, .inl (cyI, 12, .inl (M_h_68 6)))] : va_W)) [6, 15] rfl
  have hDc := hD.sub (ws' := ([(a1_holder, .inl (cyI, 12, .inl (M_a1 6))), (h_holder, .inl (cyI, 12, .inl (M_h_68 6)))] : va_W)) [6, 15] (by decide) rfl
  refine wr_callv (wc := ([(a1_holder, .inl (cyI, 12, .inl (M_a1 6))), (h_holder, .inl (cyI, 12, .inl (M_h_68 6)))] : va_W)) (wr := ([(a1, .inr (0, [.int (M_a1 0 0), .ref a1_owner, .ref a1_size, .ref a1_weight, .ref a1_worth, .ref a1_level, .ref a1_holder, .ref a1_side, .int (M_a1 8 0), .ref a1_planned])), (a1_owner, .inl (cyI, 12, .inl (M_a1 1))), (a1_size, .inl (cyI, 12, .inl (M_a1 2))), (a1_weight, .inl (cyI, 12, .inl (M_a1 3))), (a1_worth, .inl (cyI, 12, .inl (M_a1 4))), (a1_level, .inl (cyI, 12, .inl (M_a1 5))), (a1_side, .inl (cyI, 12, .inl (M_a1 7))), (a1_planned, .inl (cyI, 12, .inl (M_a1 9))), (h, .inr (0, [.int (M_h_68 0 0), .ref h_owner, .ref h_size, .ref h_weight, .ref h_worth, .ref h_level, .ref h_holder, .ref h_side, .int (M_h_68 8 0), .ref h_planned])), (h_owner, .inl (cyI, 12, .inl (M_h_68 1))), (h_size, .inl (cyI, 12, .inl (M_h_68 2))), (h_weight, .inl (cyI, 12, .inl (M_h_68 3))), (h_worth, .inl (cyI, 12, .inl (M_h_68 4))), (h_level, .inl (cyI, 12, .inl (M_h_68 5))), (h_side, .inl (cyI, 12, .inl (M_h_68 7))), (h_planned, .inl (cyI, 12, .inl (M_h_68 9)))] : va_W)) (w1 := ([(a1_holder, .inl (cyI, 12, .inl (M_a1 6))), (h_holder, .inl (cyI, 12, .inl ((upR M_h_68 6 (rowc 12 (M_a1 6) (M_h_68 6))) 6)))] : va_W)) (ws' := ((wX0 cyB cyI cyZ cyO a1 a1_owner a1_size a1_weight a1_worth a1_level a1_holder a1_side a1_planned M_a1) ++ (wX0 cyB cyI cyZ cyO h h_owner h_size h_weight h_worth h_level h_holder h_side h_planned (upR M_h_68 6 (rowc 12 (M_a1 6) (M_h_68 6)))))) hP hD hS hA [6, 15] [0, 1, 2, 3, 4, 5, 7, 8, 9, 10, 11, 12, 13, 14, 16, 17] [0, 1, 2, 3, 4, 5, 16, 6, 7, 8, 9, 10, 11, 12, 13, 17, 14, 15] rfl rfl (by decide) (by decide) rfl (by decide) (va_runSN (As := [.ref a1_holder, .ref h_holder]) (rest := []) ⟨hx, hb, hml, hown, hts⟩ (c_X11_copyRow l dC dI cyB cyI cyZ cyO a1_holder h_holder _ 12 (M_a1 6) (M_h_68 6) (by decide)) ⟨va_cnB 2 hts gX0_copyFrom_X11_copyRow_n44 rfl rfl rfl (hN _ (by decide +kernel : Cond.methodLinkNest RX0 44 yX11_copyRow "HoldSlips" ∈ nw_all)) (hts (.initialized RX11) (by decide +kernel)) (by decide +kernel) ⟨Nat.le_of_ble_eq_true rfl, Nat.le_of_ble_eq_true rfl⟩, hts (.static yX11_copyRow) (by decide +kernel), trivial⟩ ⟨PW.blind, fun U hU hW => ⟨rfl, by rw [hU], by rw [hU]; exact hPc, hCx.warm hW, hDc.weaken (fun _ _ _ _ => trivial)⟩⟩ rfl rfl hl.1 rfl (lv_room (Nat.le_of_ble_eq_true rfl)) dX0_copyFrom_79 ⟨Nat.zero_le _, Nat.zero_le _⟩) (fun H locs hP hD hS => ?_)
  rw [← eM_h_79] at hP hD
  refine lv_aload_n hx hb dX0_copyFrom_82 rfl (lv_at hl 1 rfl) ?_
  refine va_get (D := (dC, dI)) (ci := 0) (v := .ref a1_side) (C := RX0) (T := TX0) (N := 10) hx hb hts hin0 hown hK hP 0 rfl rfl 7 (by decide) kf34 (fun _ h9 => h9) rfl dX0_copyFrom_83 ?_
  refine lv_aload_n hx hb dX0_copyFrom_86 rfl (lv_at hl 0 rfl) ?_
  refine va_get (D := (dC, dI)) (ci := 0) (v := .ref h_side) (C := RX0) (T := TX0) (N := 10) hx hb hts hin0 hown hK hP 9 rfl rfl 7 (by decide) kf34 (fun _ h9 => h9) rfl dX0_copyFrom_87 ?_
  obtain ⟨M_h_90, eM_h_90, hf⟩ := wr_some hf
  have hPc := hP.sub (ws' := ([(a1_side, .inl (cyI, 12, .inl (M_a1 7))), (h_side, .inl (cyI, 12, .inl (M_h_79 7)))] : va_W)) [7, 16] rfl
  have hDc := hD.sub (ws' := ([(a1_side, .inl (cyI, 12, .inl (M_a1 7))), (h_side, .inl (cyI, 12, .inl (M_h_79 7)))] : va_W)) [7, 16] (by decide) rfl
  refine wr_callv (wc := ([(a1_side, .inl (cyI, 12, .inl (M_a1 7))), (h_side, .inl (cyI, 12, .inl (M_h_79 7)))] : va_W)) (wr := ([(a1, .inr (0, [.int (M_a1 0 0), .ref a1_owner, .ref a1_size, .ref a1_weight, .ref a1_worth, .ref a1_level, .ref a1_holder, .ref a1_side, .int (M_a1 8 0), .ref a1_planned])), (a1_owner, .inl (cyI, 12, .inl (M_a1 1))), (a1_size, .inl (cyI, 12, .inl (M_a1 2))), (a1_weight, .inl (cyI, 12, .inl (M_a1 3))), (a1_worth, .inl (cyI, 12, .inl (M_a1 4))), (a1_level, .inl (cyI, 12, .inl (M_a1 5))), (a1_holder, .inl (cyI, 12, .inl (M_a1 6))), (a1_planned, .inl (cyI, 12, .inl (M_a1 9))), (h, .inr (0, [.int (M_h_79 0 0), .ref h_owner, .ref h_size, .ref h_weight, .ref h_worth, .ref h_level, .ref h_holder, .ref h_side, .int (M_h_79 8 0), .ref h_planned])), (h_owner, .inl (cyI, 12, .inl (M_h_79 1))), (h_size, .inl (cyI, 12, .inl (M_h_79 2))), (h_weight, .inl (cyI, 12, .inl (M_h_79 3))), (h_worth, .inl (cyI, 12, .inl (M_h_79 4))), (h_level, .inl (cyI, 12, .inl (M_h_79 5))), (h_holder, .inl (cyI, 12, .inl (M_h_79 6))), (h_planned, .inl (cyI, 12, .inl (M_h_79 9)))] : va_W)) (w1 := ([(a1_side, .inl (cyI, 12, .inl (M_a1 7))), (h_side, .inl (cyI, 12, .inl ((upR M_h_79 7 (rowc 12 (M_a1 7) (M_h_79 7))) 7)))] : va_W)) (ws' := ((wX0 cyB cyI cyZ cyO a1 a1_owner a1_size a1_weight a1_worth a1_level a1_holder a1_side a1_planned M_a1) ++ (wX0 cyB cyI cyZ cyO h h_owner h_size h_weight h_worth h_level h_holder h_side h_planned (upR M_h_79 7 (rowc 12 (M_a1 7) (M_h_79 7)))))) hP hD hS hA [7, 16] [0, 1, 2, 3, 4, 5, 6, 8, 9, 10, 11, 12, 13, 14, 15, 17] [0, 1, 2, 3, 4, 5, 6, 16, 7, 8, 9, 10, 11, 12, 13, 14, 17, 15] rfl rfl (by decide) (by decide) rfl (by decide) (va_runSN (As := [.ref a1_side, .ref h_side]) (rest := []) ⟨hx, hb, hml, hown, hts⟩ (c_X11_copyRow l dC dI cyB cyI cyZ cyO a1_side h_side _ 12 (M_a1 7) (M_h_79 7) (by decide)) ⟨va_cnB 2 hts gX0_copyFrom_X11_copyRow_n44 rfl rfl rfl (hN _ (by decide +kernel : Cond.methodLinkNest RX0 44 yX11_copyRow "HoldSlips" ∈ nw_all)) (hts (.initialized RX11) (by decide +kernel)) (by decide +kernel) ⟨Nat.le_of_ble_eq_true rfl, Nat.le_of_ble_eq_true rfl⟩, hts (.static yX11_copyRow) (by decide +kernel), trivial⟩ ⟨PW.blind, fun U hU hW => ⟨rfl, by rw [hU], by rw [hU]; exact hPc, hCx.warm hW, hDc.weaken (fun _ _ _ _ => trivial)⟩⟩ rfl rfl hl.1 rfl (lv_room (Nat.le_of_ble_eq_true rfl)) dX0_copyFrom_90 ⟨Nat.zero_le _, Nat.zero_le _⟩) (fun H locs hP hD hS => ?_)
  rw [← eM_h_90] at hP hD
  refine lv_aload_n hx hb dX0_copyFrom_93 rfl (lv_at hl 1 rfl) ?_
  refine va_get (D := (dC, dI)) (ci := 0) (v := .ref a1_planned) (C := RX0) (T := TX0) (N := 10) hx hb hts hin0 hown hK hP 0 rfl rfl 9 (by decide) kf41 (fun _ h9 => h9) rfl dX0_copyFrom_94 ?_
  refine lv_aload_n hx hb dX0_copyFrom_97 rfl (lv_at hl 0 rfl) ?_
  refine va_get (D := (dC, dI)) (ci := 0) (v := .ref h_planned) (C := RX0) (T := TX0) (N := 10) hx hb hts hin0 hown hK hP 9 rfl rfl 9 (by decide) kf41 (fun _ h9 => h9) rfl dX0_copyFrom_98 ?_
  obtain ⟨M_h_101, eM_h_101, hf⟩ := wr_some hf
  have hPc := hP.sub (ws' := ([(a1_planned, .inl (cyI, 12, .inl (M_a1 9))), (h_planned, .inl (cyI, 12, .inl (M_h_90 9)))] : va_W)) [8, 17] rfl
  have hDc := hD.sub (ws' := ([(a1_planned, .inl (cyI, 12, .inl (M_a1 9))), (h_planned, .inl (cyI, 12, .inl (M_h_90 9)))] : va_W)) [8, 17] (by decide) rfl
  refine wr_callv (wc := ([(a1_planned, .inl (cyI, 12, .inl (M_a1 9))), (h_planned, .inl (cyI, 12, .inl (M_h_90 9)))] : va_W)) (wr := ([(a1, .inr (0, [.int (M_a1 0 0), .ref a1_owner, .ref a1_size, .ref a1_weight, .ref a1_worth, .ref a1_level, .ref a1_holder, .ref a1_side, .int (M_a1 8 0), .ref a1_planned])), (a1_owner, .inl (cyI, 12, .inl (M_a1 1))), (a1_size, .inl (cyI, 12, .inl (M_a1 2))), (a1_weight, .inl (cyI, 12, .inl (M_a1 3))), (a1_worth, .inl (cyI, 12, .inl (M_a1 4))), (a1_level, .inl (cyI, 12, .inl (M_a1 5))), (a1_holder, .inl (cyI, 12, .inl (M_a1 6))), (a1_side, .inl (cyI, 12, .inl (M_a1 7))), (h, .inr (0, [.int (M_h_90 0 0), .ref h_owner, .ref h_size, .ref h_weight, .ref h_worth, .ref h_level, .ref h_holder, .ref h_side, .int (M_h_90 8 0), .ref h_planned])), (h_owner, .inl (cyI, 12, .inl (M_h_90 1))), (h_size, .inl (cyI, 12, .inl (M_h_90 2))), (h_weight, .inl (cyI, 12, .inl (M_h_90 3))), (h_worth, .inl (cyI, 12, .inl (M_h_90 4))), (h_level, .inl (cyI, 12, .inl (M_h_90 5))), (h_holder, .inl (cyI, 12, .inl (M_h_90 6))), (h_side, .inl (cyI, 12, .inl (M_h_90 7)))] : va_W)) (w1 := ([(a1_planned, .inl (cyI, 12, .inl (M_a1 9))), (h_planned, .inl (cyI, 12, .inl ((upR M_h_90 9 (rowc 12 (M_a1 9) (M_h_90 9))) 9)))] : va_W)) (ws' := ((wX0 cyB cyI cyZ cyO a1 a1_owner a1_size a1_weight a1_worth a1_level a1_holder a1_side a1_planned M_a1) ++ (wX0 cyB cyI cyZ cyO h h_owner h_size h_weight h_worth h_level h_holder h_side h_planned (upR M_h_90 9 (rowc 12 (M_a1 9) (M_h_90 9)))))) hP hD hS hA [8, 17] [0, 1, 2, 3, 4, 5, 6, 7, 9, 10, 11, 12, 13, 14, 15, 16] [0, 1, 2, 3, 4, 5, 6, 7, 16, 8, 9, 10, 11, 12, 13, 14, 15, 17] rfl rfl (by decide) (by decide) rfl (by decide) (va_runSN (As := [.ref a1_planned, .ref h_planned]) (rest := []) ⟨hx, hb, hml, hown, hts⟩ (c_X11_copyRow l dC dI cyB cyI cyZ cyO a1_planned h_planned _ 12 (M_a1 9) (M_h_90 9) (by decide)) ⟨va_cnB 2 hts gX0_copyFrom_X11_copyRow_n44 rfl rfl rfl (hN _ (by decide +kernel : Cond.methodLinkNest RX0 44 yX11_copyRow "HoldSlips" ∈ nw_all)) (hts (.initialized RX11) (by decide +kernel)) (by decide +kernel) ⟨Nat.le_of_ble_eq_true rfl, Nat.le_of_ble_eq_true rfl⟩, hts (.static yX11_copyRow) (by decide +kernel), trivial⟩ ⟨PW.blind, fun U hU hW => ⟨rfl, by rw [hU], by rw [hU]; exact hPc, hCx.warm hW, hDc.weaken (fun _ _ _ _ => trivial)⟩⟩ rfl rfl hl.1 rfl (lv_room (Nat.le_of_ble_eq_true rfl)) dX0_copyFrom_101 ⟨Nat.zero_le _, Nat.zero_le _⟩) (fun H locs hP hD hS => ?_)
  rw [← eM_h_101] at hP hD
  have hq := Option.some.inj hf
  subst hq
  exact W.vret hx hb hr (fun t ht hW => ⟨rfl, by rw [ht]; exact hP, hD, hS.F ht⟩) hS.2.2 dX0_copyFrom_104
set_option maxHeartbeats 4000000 in
set_option maxRecDepth 100000 in
theorem c_X2_copyFrom (l : Launch) (dC : Nat → ClassId) (dI : Nat → Nat → Nat) (cyB cyI cyZ cyO : ClassId) (a1 a1_rank a1_widow a1_slips a1_given a1_silver a1_returns a1_rents a1_share a1_rest h h_rank h_widow h_slips h_given h_silver h_returns h_rents h_share h_rest : Nat) (sz : Nat) (M_a1 : Mem) (M_h : Mem) (R_h : Mem) (hf : f_X2_copyFrom M_a1 M_h = some R_h) : Met l yX2_copyFrom wsX2_copyFrom ({ frames := 2, cells := 0, slots := 0, locals := 81 } : Room) (PW dC dI cyB cyI cyZ cyO ([.ref h, .ref a1] : List Value) ((wX2 cyB cyI cyZ cyO a1 a1_rank a1_widow a1_slips a1_given a1_silver a1_returns a1_rents a1_share a1_rest M_a1) ++ (wX2 cyB cyI cyZ cyO h h_rank h_widow h_slips h_given h_silver h_returns h_rents h_share h_rest M_h)) sz) (QW dC dI none ((wX2 cyB cyI cyZ cyO a1 a1_rank a1_widow a1_slips a1_given a1_silver a1_returns a1_rents a1_share a1_rest M_a1) ++ (wX2 cyB cyI cyZ cyO h h_rank h_widow h_slips h_given h_silver h_returns h_rents h_share h_rest R_h)) (va_A ((wX2 cyB cyI cyZ cyO a1 a1_rank a1_widow a1_slips a1_given a1_silver a1_returns a1_rents a1_share a1_rest M_a1) ++ (wX2 cyB cyI cyZ cyO h h_rank h_widow h_slips h_given h_silver h_returns h_rents h_share h_rest M_h)) sz)) 0 0 (va_A ((wX2 cyB cyI cyZ cyO a1 a1_rank a1_widow a1_slips a1_given a1_silver a1_returns a1_rents a1_share a1_rest M_a1) ++ (wX2 cyB cyI cyZ cyO h h_rank h_widow h_slips h_given h_silver h_returns h_rents h_share h_rest M_h)) sz) := by
  refine Met.ofW (cc := cX2_copyFrom) (maxL := 2) (ret := none) (by decide) rfl ?_
  intro p e s m args below meth c s₁ B hml hv
  obtain ⟨rfl, hsz, hP, hCx, hD0⟩ := hv
  have hK := hCx.1
  have hN := hCx.2
  have hx := B.exec
  have hb := B.bytes
  have hr := B.returns
  have hts := atoms_spec (ws := wsX2_copyFrom) B.pre
  have hown : s.vm.findClass RX2 = some m.cls := findClass_of_methodNamed B.named
  have hlocks := B.notSynchronized
  have hin2 : ∀ w ∈ u_ws RX2 TX2 10, w ∈ wsX2_copyFrom := fun w h => List.mem_cons_of_mem _ (List.mem_append_right _ h)
  have kf9 := hts (.fieldLink RX2 9 "HoldSlips$Citizens" "number" "I") (by decide +kernel)
  have kf15 := hts (.fieldLink RX2 15 "HoldSlips$Citizens" "rank" "[I") (by decide +kernel)
  have kf19 := hts (.fieldLink RX2 19 "HoldSlips$Citizens" "widow" "[I") (by decide +kernel)
  have kf22 := hts (.fieldLink RX2 22 "HoldSlips$Citizens" "slips" "[I") (by decide +kernel)
  have kf25 := hts (.fieldLink RX2 25 "HoldSlips$Citizens" "given" "[I") (by decide +kernel)
  have kf28 := hts (.fieldLink RX2 28 "HoldSlips$Citizens" "silver" "[I") (by decide +kernel)
  have kf31 := hts (.fieldLink RX2 31 "HoldSlips$Citizens" "returns" "[I") (by decide +kernel)
  have kf34 := hts (.fieldLink RX2 34 "HoldSlips$Citizens" "rents" "[I") (by decide +kernel)
  subst hsz
  have hD := hD0.self (sz := s.heap.size)
  generalize hAe : va_A ((wX2 cyB cyI cyZ cyO a1 a1_rank a1_widow a1_slips a1_given a1_silver a1_returns a1_rents a1_share a1_rest M_a1) ++ (wX2 cyB cyI cyZ cyO h h_rank h_widow h_slips h_given h_silver h_returns h_rents h_share h_rest M_h)) s.heap.size = A at hD ⊢
  have hA : ∀ q : Nat, s.heap.size ≤ q → A q := fun q h => by rw [← hAe]; exact Or.inr h
  have hS : va_S A s.heap s.heap [] := va_S.rf
  have hl := lv_entry ([.ref h, .ref a1] : List Value) (n := 2) (Nat.le_of_ble_eq_true rfl)
  rw [lg_entry_eq]
  generalize (lg_sl ([.ref h, .ref a1] : List Value) ++ List.replicate (2 - (lg_sl ([.ref h, .ref a1] : List Value)).length) Slot.unset).toArray = ls at hl ⊢
  have hl : lv_has ls 2 [(0, .ref h), (1, .ref a1)] := hl
  rw [f_X2_copyFrom] at hf
  refine lv_aload_n hx hb dX2_copyFrom_0 rfl (lv_at hl 0 rfl) ?_
  refine lv_aload_n hx hb dX2_copyFrom_1 rfl (lv_at hl 1 rfl) ?_
  refine va_get (D := (dC, dI)) (ci := 2) (v := .int (M_a1 0 0)) (C := RX2) (T := TX2) (N := 10) hx hb hts hin2 hown hK hP 0 rfl rfl 0 (by decide) kf9 (fun _ h9 => h9) rfl dX2_copyFrom_2 ?_
  refine va_put (D := (dC, dI)) (ci := 2) (v := .int (M_a1 0 0)) (ty := .int) (C := RX2) (T := TX2) (N := 10) hx hb hts hin2 tyX2 tyX2_ok nmX2 hown hK hP hD hS 10 rfl rfl 0 (by decide) kf9 (fun _ h9 => h9) rfl (by decide +kernel) rfl rfl (Nat.le_of_ble_eq_true rfl) dX2_copyFrom_5 (fun H locs hP hD hS => ?_)
  obtain ⟨M_h_5, eM_h_5, hf⟩ := wr_some hf
  have hP : va_P (dC, dI) vwCl ((wX2 cyB cyI cyZ cyO a1 a1_rank a1_widow a1_slips a1_given a1_silver a1_returns a1_rents a1_share a1_rest M_a1) ++ (wX2 cyB cyI cyZ cyO h h_rank h_widow h_slips h_given h_silver h_returns h_rents h_share h_rest M_h_5)) H := by rw [eM_h_5]; exact hP
  have hD : va_D A ((wX2 cyB cyI cyZ cyO a1 a1_rank a1_widow a1_slips a1_given a1_silver a1_returns a1_rents a1_share a1_rest M_a1) ++ (wX2 cyB cyI cyZ cyO h h_rank h_widow h_slips h_given h_silver h_returns h_rents h_share h_rest M_h_5)) := by rw [eM_h_5]; exact hD
  refine lv_aload_n hx hb dX2_copyFrom_8 rfl (lv_at hl 1 rfl) ?_
  refine va_get (D := (dC, dI)) (ci := 2) (v := .ref a1_rank) (C := RX2) (T := TX2) (N := 10) hx hb hts hin2 hown hK hP 0 rfl rfl 1 (by decide) kf15 (fun _ h9 => h9) rfl dX2_copyFrom_9 ?_
  refine lv_aload_n hx hb dX2_copyFrom_12 rfl (lv_at hl 0 rfl) ?_
  refine va_get (D := (dC, dI)) (ci := 2) (v := .ref h_rank) (C := RX2) (T := TX2) (N := 10) hx hb hts hin2 hown hK hP 10 rfl rfl 1 (by decide) kf15 (fun _ h9 => h9) rfl dX2_copyFrom_13 ?_
  obtain ⟨M_h_16, eM_h_16, hf⟩ := wr_some hf
  have hPc := hP.sub (ws' := ([(a1_rank, .inl (cyI, 8, .inl (M_a1 1))), (h_rank, .inl (cyI, 8, .inl (M_h_5 1)))] : va_W)) [1, 11] rfl
  have hDc := hD.sub (ws' := ([(a1_rank, .inl (cyI, 8, .inl (M_a1 1))), (h_rank, .inl (cyI, 8, .inl (M_h_5 1)))] : va_W)) [1, 11] (by decide) rfl
  refine wr_callv (wc := ([(a1_rank, .inl (cyI, 8, .inl (M_a1 1))), (h_rank, .inl (cyI, 8, .inl (M_h_5 1)))] : va_W)) (wr := ([(a1, .inr (2, [.int (M_a1 0 0), .ref a1_rank, .ref a1_widow, .ref a1_slips, .ref a1_given, .ref a1_silver, .ref a1_returns, .ref a1_rents, .ref a1_share, .ref a1_rest])), (a1_widow, .inl (cyI, 8, .inl (M_a1 2))), (a1_slips, .inl (cyI, 8, .inl (M_a1 3))), (a1_given, .inl (cyI, 8, .inl (M_a1 4))), (a1_silver, .inl (cyI, 8, .inl (M_a1 5))), (a1_returns, .inl (cyI, 8, .inl (M_a1 6))), (a1_rents, .inl (cyI, 8, .inl (M_a1 7))), (a1_share, .inl (cyI, 8, .inl (M_a1 8))), (a1_rest, .inl (cyI, 8, .inl (M_a1 9))), (h, .inr (2, [.int (M_h_5 0 0), .ref h_rank, .ref h_widow, .ref h_slips, .ref h_given, .ref h_silver, .ref h_returns, .ref h_rents, .ref h_share, .ref h_rest])), (h_widow, .inl (cyI, 8, .inl (M_h_5 2))), (h_slips, .inl (cyI, 8, .inl (M_h_5 3))), (h_given, .inl (cyI, 8, .inl (M_h_5 4))), (h_silver, .inl (cyI, 8, .inl (M_h_5 5))), (h_returns, .inl (cyI, 8, .inl (M_h_5 6))), (h_rents, .inl (cyI, 8, .inl (M_h_5 7))), (h_share, .inl (cyI, 8, .inl (M_h_5 8))), (h_rest, .inl (cyI, 8, .inl (M_h_5 9)))] : va_W)) (w1 := ([(a1_rank, .inl (cyI, 8, .inl (M_a1 1))), (h_rank, .inl (cyI, 8, .inl ((upR M_h_5 1 (rowc 8 (M_a1 1) (M_h_5 1))) 1)))] : va_W)) (ws' := ((wX2 cyB cyI cyZ cyO a1 a1_rank a1_widow a1_slips a1_given a1_silver a1_returns a1_rents a1_share a1_rest M_a1) ++ (wX2 cyB cyI cyZ cyO h h_rank h_widow h_slips h_given h_silver h_returns h_rents h_share h_rest (upR M_h_5 1 (rowc 8 (M_a1 1) (M_h_5 1)))))) hP hD hS hA [1, 11] [0, 2, 3, 4, 5, 6, 7, 8, 9, 10, 12, 13, 14, 15, 16, 17, 18, 19] [0, 18, 1, 2, 3, 4, 5, 6, 7, 8, 9, 19, 10, 11, 12, 13, 14, 15, 16, 17] rfl rfl (by decide) (by decide) rfl (by decide) (va_runSN (As := [.ref a1_rank, .ref h_rank]) (rest := []) ⟨hx, hb, hml, hown, hts⟩ (c_X11_copyRow l dC dI cyB cyI cyZ cyO a1_rank h_rank _ 8 (M_a1 1) (M_h_5 1) (by decide)) ⟨va_cnB 2 hts gX2_copyFrom_X11_copyRow_n43 rfl rfl rfl (hN _ (by decide +kernel : Cond.methodLinkNest RX2 43 yX11_copyRow "HoldSlips" ∈ nw_all)) (hts (.initialized RX11) (by decide +kernel)) (by decide +kernel) ⟨Nat.le_of_ble_eq_true rfl, Nat.le_of_ble_eq_true rfl⟩, hts (.static yX11_copyRow) (by decide +kernel), trivial⟩ ⟨PW.blind, fun U hU hW => ⟨rfl, by rw [hU], by rw [hU]; exact hPc, hCx.warm hW, hDc.weaken (fun _ _ _ _ => trivial)⟩⟩ rfl rfl hl.1 rfl (lv_room (Nat.le_of_ble_eq_true rfl)) dX2_copyFrom_16 ⟨Nat.zero_le _, Nat.zero_le _⟩) (fun H locs hP hD hS => ?_)
  rw [← eM_h_16] at hP hD
  refine lv_aload_n hx hb dX2_copyFrom_19 rfl (lv_at hl 1 rfl) ?_
  refine va_get (D := (dC, dI)) (ci := 2) (v := .ref a1_widow) (C := RX2) (T := TX2) (N := 10) hx hb hts hin2 hown hK hP 0 rfl rfl 2 (by decide) kf19 (fun _ h9 => h9) rfl dX2_copyFrom_20 ?_
  refine lv_aload_n hx hb dX2_copyFrom_23 rfl (lv_at hl 0 rfl) ?_
  refine va_get (D := (dC, dI)) (ci := 2) (v := .ref h_widow) (C := RX2) (T := TX2) (N := 10) hx hb hts hin2 hown hK hP 10 rfl rfl 2 (by decide) kf19 (fun _ h9 => h9) rfl dX2_copyFrom_24 ?_
  obtain ⟨M_h_27, eM_h_27, hf⟩ := wr_some hf
  have hPc := hP.sub (ws' := ([(a1_widow, .inl (cyI, 8, .inl (M_a1 2))), (h_widow, .inl (cyI, 8, .inl (M_h_16 2)))] : va_W)) [2, 12] rfl
  have hDc := hD.sub (ws' := ([(a1_widow, .inl (cyI, 8, .inl (M_a1 2))), (h_widow, .inl (cyI, 8, .inl (M_h_16 2)))] : va_W)) [2, 12] (by decide) rfl
  refine wr_callv (wc := ([(a1_widow, .inl (cyI, 8, .inl (M_a1 2))), (h_widow, .inl (cyI, 8, .inl (M_h_16 2)))] : va_W)) (wr := ([(a1, .inr (2, [.int (M_a1 0 0), .ref a1_rank, .ref a1_widow, .ref a1_slips, .ref a1_given, .ref a1_silver, .ref a1_returns, .ref a1_rents, .ref a1_share, .ref a1_rest])), (a1_rank, .inl (cyI, 8, .inl (M_a1 1))), (a1_slips, .inl (cyI, 8, .inl (M_a1 3))), (a1_given, .inl (cyI, 8, .inl (M_a1 4))), (a1_silver, .inl (cyI, 8, .inl (M_a1 5))), (a1_returns, .inl (cyI, 8, .inl (M_a1 6))), (a1_rents, .inl (cyI, 8, .inl (M_a1 7))), (a1_share, .inl (cyI, 8, .inl (M_a1 8))), (a1_rest, .inl (cyI, 8, .inl (M_a1 9))), (h, .inr (2, [.int (M_h_16 0 0), .ref h_rank, .ref h_widow, .ref h_slips, .ref h_given, .ref h_silver, .ref h_returns, .ref h_rents, .ref h_share, .ref h_rest])), (h_rank, .inl (cyI, 8, .inl (M_h_16 1))), (h_slips, .inl (cyI, 8, .inl (M_h_16 3))), (h_given, .inl (cyI, 8, .inl (M_h_16 4))), (h_silver, .inl (cyI, 8, .inl (M_h_16 5))), (h_returns, .inl (cyI, 8, .inl (M_h_16 6))), (h_rents, .inl (cyI, 8, .inl (M_h_16 7))), (h_share, .inl (cyI, 8, .inl (M_h_16 8))), (h_rest, .inl (cyI, 8, .inl (M_h_16 9)))] : va_W)) (w1 := ([(a1_widow, .inl (cyI, 8, .inl (M_a1 2))), (h_widow, .inl (cyI, 8, .inl ((upR M_h_16 2 (rowc 8 (M_a1 2) (M_h_16 2))) 2)))] : va_W)) (ws' := ((wX2 cyB cyI cyZ cyO a1 a1_rank a1_widow a1_slips a1_given a1_silver a1_returns a1_rents a1_share a1_rest M_a1) ++ (wX2 cyB cyI cyZ cyO h h_rank h_widow h_slips h_given h_silver h_returns h_rents h_share h_rest (upR M_h_16 2 (rowc 8 (M_a1 2) (M_h_16 2)))))) hP hD hS hA [2, 12] [0, 1, 3, 4, 5, 6, 7, 8, 9, 10, 11, 13, 14, 15, 16, 17, 18, 19] [0, 1, 18, 2, 3, 4, 5, 6, 7, 8, 9, 10, 19, 11, 12, 13, 14, 15, 16, 17] rfl rfl (by decide) (by decide) rfl (by decide) (va_runSN (As := [.ref a1_widow, .ref h_widow]) (rest := []) ⟨hx, hb, hml, hown, hts⟩ (c_X11_copyRow l dC dI cyB cyI cyZ cyO a1_widow h_widow _ 8 (M_a1 2) (M_h_16 2) (by decide)) ⟨va_cnB 2 hts gX2_copyFrom_X11_copyRow_n43 rfl rfl rfl (hN _ (by decide +kernel : Cond.methodLinkNest RX2 43 yX11_copyRow "HoldSlips" ∈ nw_all)) (hts (.initialized RX11) (by decide +kernel)) (by decide +kernel) ⟨Nat.le_of_ble_eq_true rfl, Nat.le_of_ble_eq_true rfl⟩, hts (.static yX11_copyRow) (by decide +kernel), trivial⟩ ⟨PW.blind, fun U hU hW => ⟨rfl, by rw [hU], by rw [hU]; exact hPc, hCx.warm hW, hDc.weaken (fun _ _ _ _ => trivial)⟩⟩ rfl rfl hl.1 rfl (lv_room (Nat.le_of_ble_eq_true rfl)) dX2_copyFrom_27 ⟨Nat.zero_le _, Nat.zero_le _⟩) (fun H locs hP hD hS => ?_)
  rw [← eM_h_27] at hP hD
  refine lv_aload_n hx hb dX2_copyFrom_30 rfl (lv_at hl 1 rfl) ?_
  refine va_get (D := (dC, dI)) (ci := 2) (v := .ref a1_slips) (C := RX2) (T := TX2) (N := 10) hx hb hts hin2 hown hK hP 0 rfl rfl 3 (by decide) kf22 (fun _ h9 => h9) rfl dX2_copyFrom_31 ?_
  refine lv_aload_n hx hb dX2_copyFrom_34 rfl (lv_at hl 0 rfl) ?_
  refine va_get (D := (dC, dI)) (ci := 2) (v := .ref h_slips) (C := RX2) (T := TX2) (N := 10) hx hb hts hin2 hown hK hP 10 rfl rfl 3 (by decide) kf22 (fun _ h9 => h9) rfl dX2_copyFrom_35 ?_
  obtain ⟨M_h_38, eM_h_38, hf⟩ := wr_some hf
  have hPc := hP.sub (ws' := ([(a1_slips, .inl (cyI, 8, .inl (M_a1 3))), (h_slips, .inl (cyI, 8, .inl (M_h_27 3)))] : va_W)) [3, 13] rfl
  have hDc := hD.sub (ws' := ([(a1_slips, .inl (cyI, 8, .inl (M_a1 3))), (h_slips, .inl (cyI, 8, .inl (M_h_27 3)))] : va_W)) [3, 13] (by decide) rfl
  refine wr_callv (wc := ([(a1_slips, .inl (cyI, 8, .inl (M_a1 3))), (h_slips, .inl (cyI, 8, .inl (M_h_27 3)))] : va_W)) (wr := ([(a1, .inr (2, [.int (M_a1 0 0), .ref a1_rank, .ref a1_widow, .ref a1_slips, .ref a1_given, .ref a1_silver, .ref a1_returns, .ref a1_rents, .ref a1_share, .ref a1_rest])), (a1_rank, .inl (cyI, 8, .inl (M_a1 1))), (a1_widow, .inl (cyI, 8, .inl (M_a1 2))), (a1_given, .inl (cyI, 8, .inl (M_a1 4))), (a1_silver, .inl (cyI, 8, .inl (M_a1 5))), (a1_returns, .inl (cyI, 8, .inl (M_a1 6))), (a1_rents, .inl (cyI, 8, .inl (M_a1 7))), (a1_share, .inl (cyI, 8, .inl (M_a1 8))), (a1_rest, .inl (cyI, 8, .inl (M_a1 9))), (h, .inr (2, [.int (M_h_27 0 0), .ref h_rank, .ref h_widow, .ref h_slips, .ref h_given, .ref h_silver, .ref h_returns, .ref h_rents, .ref h_share, .ref h_rest])), (h_rank, .inl (cyI, 8, .inl (M_h_27 1))), (h_widow, .inl (cyI, 8, .inl (M_h_27 2))), (h_given, .inl (cyI, 8, .inl (M_h_27 4))), (h_silver, .inl (cyI, 8, .inl (M_h_27 5))), (h_returns, .inl (cyI, 8, .inl (M_h_27 6))), (h_rents, .inl (cyI, 8, .inl (M_h_27 7))), (h_share, .inl (cyI, 8, .inl (M_h_27 8))), (h_rest, .inl (cyI, 8, .inl (M_h_27 9)))] : va_W)) (w1 := ([(a1_slips, .inl (cyI, 8, .inl (M_a1 3))), (h_slips, .inl (cyI, 8, .inl ((upR M_h_27 3 (rowc 8 (M_a1 3) (M_h_27 3))) 3)))] : va_W)) (ws' := ((wX2 cyB cyI cyZ cyO a1 a1_rank a1_widow a1_slips a1_given a1_silver a1_returns a1_rents a1_share a1_rest M_a1) ++ (wX2 cyB cyI cyZ cyO h h_rank h_widow h_slips h_given h_silver h_returns h_rents h_share h_rest (upR M_h_27 3 (rowc 8 (M_a1 3) (M_h_27 3)))))) hP hD hS hA [3, 13] [0, 1, 2, 4, 5, 6, 7, 8, 9, 10, 11, 12, 14, 15, 16, 17, 18, 19] [0, 1, 2, 18, 3, 4, 5, 6, 7, 8, 9, 10, 11, 19, 12, 13, 14, 15, 16, 17] rfl rfl (by decide) (by decide) rfl (by decide) (va_runSN (As := [.ref a1_slips, .ref h_slips]) (rest := []) ⟨hx, hb, hml, hown, hts⟩ (c_X11_copyRow l dC dI cyB cyI cyZ cyO a1_slips h_slips _ 8 (M_a1 3) (M_h_27 3) (by decide)) ⟨va_cnB 2 hts gX2_copyFrom_X11_copyRow_n43 rfl rfl rfl (hN _ (by decide +kernel : Cond.methodLinkNest RX2 43 yX11_copyRow "HoldSlips" ∈ nw_all)) (hts (.initialized RX11) (by decide +kernel)) (by decide +kernel) ⟨Nat.le_of_ble_eq_true rfl, Nat.le_of_ble_eq_true rfl⟩, hts (.static yX11_copyRow) (by decide +kernel), trivial⟩ ⟨PW.blind, fun U hU hW => ⟨rfl, by rw [hU], by rw [hU]; exact hPc, hCx.warm hW, hDc.weaken (fun _ _ _ _ => trivial)⟩⟩ rfl rfl hl.1 rfl (lv_room (Nat.le_of_ble_eq_true rfl)) dX2_copyFrom_38 ⟨Nat.zero_le _, Nat.zero_le _⟩) (fun H locs hP hD hS => ?_)
  rw [← eM_h_38] at hP hD
  refine lv_aload_n hx hb dX2_copyFrom_41 rfl (lv_at hl 1 rfl) ?_
  refine va_get (D := (dC, dI)) (ci := 2) (v := .ref a1_given) (C := RX2) (T := TX2) (N := 10) hx hb hts hin2 hown hK hP 0 rfl rfl 4 (by decide) kf25 (fun _ h9 => h9) rfl dX2_copyFrom_42 ?_
  refine lv_aload_n hx hb dX2_copyFrom_45 rfl (lv_at hl 0 rfl) ?_
  refine va_get (D := (dC, dI)) (ci := 2) (v := .ref h_given) (C := RX2) (T := TX2) (N := 10) hx hb hts hin2 hown hK hP 10 rfl rfl 4 (by decide) kf25 (fun _ h9 => h9) rfl dX2_copyFrom_46 ?_
  obtain ⟨M_h_49, eM_h_49, hf⟩ := wr_some hf
  have hPc := hP.sub (ws' := ([(a1_given, .inl (cyI, 8, .inl (M_a1 4))), (h_given, .inl (cyI, 8, .inl (M_h_38 4)))] : va_W)) [4, 14] rfl
  have hDc := hD.sub (ws' := ([(a1_given, .inl (cyI, 8, .inl (M_a1 4))), (h_given, .inl (cyI, 8, .inl (M_h_38 4)))] : va_W)) [4, 14] (by decide) rfl
  refine wr_callv (wc := ([(a1_given, .inl (cyI, 8, .inl (M_a1 4))), (h_given, .inl (cyI, 8, .inl (M_h_38 4)))] : va_W)) (wr := ([(a1, .inr (2, [.int (M_a1 0 0), .ref a1_rank, .ref a1_widow, .ref a1_slips, .ref a1_given, .ref a1_silver, .ref a1_returns, .ref a1_rents, .ref a1_share, .ref a1_rest])), (a1_rank, .inl (cyI, 8, .inl (M_a1 1))), (a1_widow, .inl (cyI, 8, .inl (M_a1 2))), (a1_slips, .inl (cyI, 8, .inl (M_a1 3))), (a1_silver, .inl (cyI, 8, .inl (M_a1 5))), (a1_returns, .inl (cyI, 8, .inl (M_a1 6))), (a1_rents, .inl (cyI, 8, .inl (M_a1 7))), (a1_share, .inl (cyI, 8, .inl (M_a1 8))), (a1_rest, .inl (cyI, 8, .inl (M_a1 9))), (h, .inr (2, [.int (M_h_38 0 0), .ref h_rank, .ref h_widow, .ref h_slips, .ref h_given, .ref h_silver, .ref h_returns, .ref h_rents, .ref h_share, .ref h_rest])), (h_rank, .inl (cyI, 8, .inl (M_h_38 1))), (h_widow, .inl (cyI, 8, .inl (M_h_38 2))), (h_slips, .inl (cyI, 8, .inl (M_h_38 3))), (h_silver, .inl (cyI, 8, .inl (M_h_38 5))), (h_returns, .inl (cyI, 8, .inl (M_h_38 6))), (h_rents, .inl (cyI, 8, .inl (M_h_38 7))), (h_share, .inl (cyI, 8, .inl (M_h_38 8))), (h_rest, .inl (cyI, 8, .inl (M_h_38 9)))] : va_W)) (w1 := ([(a1_given, .inl (cyI, 8, .inl (M_a1 4))), (h_given, .inl (cyI, 8, .inl ((upR M_h_38 4 (rowc 8 (M_a1 4) (M_h_38 4))) 4)))] : va_W)) (ws' := ((wX2 cyB cyI cyZ cyO a1 a1_rank a1_widow a1_slips a1_given a1_silver a1_returns a1_rents a1_share a1_rest M_a1) ++ (wX2 cyB cyI cyZ cyO h h_rank h_widow h_slips h_given h_silver h_returns h_rents h_share h_rest (upR M_h_38 4 (rowc 8 (M_a1 4) (M_h_38 4)))))) hP hD hS hA [4, 14] [0, 1, 2, 3, 5, 6, 7, 8, 9, 10, 11, 12, 13, 15, 16, 17, 18, 19] [0, 1, 2, 3, 18, 4, 5, 6, 7, 8, 9, 10, 11, 12, 19, 13, 14, 15, 16, 17] rfl rfl (by decide) (by decide) rfl (by decide) (va_runSN (As := [.ref a1_given, .ref h_given]) (rest := []) ⟨hx, hb, hml, hown, hts⟩ (c_X11_copyRow l dC dI cyB cyI cyZ cyO a1_given h_given _ 8 (M_a1 4) (M_h_38 4) (by decide)) ⟨va_cnB 2 hts gX2_copyFrom_X11_copyRow_n43 rfl rfl rfl (hN _ (by decide +kernel : Cond.methodLinkNest RX2 43 yX11_copyRow "HoldSlips" ∈ nw_all)) (hts (.initialized RX11) (by decide +kernel)) (by decide +kernel) ⟨Nat.le_of_ble_eq_true rfl, Nat.le_of_ble_eq_true rfl⟩, hts (.static yX11_copyRow) (by decide +kernel), trivial⟩ ⟨PW.blind, fun U hU hW => ⟨rfl, by rw [hU], by rw [hU]; exact hPc, hCx.warm hW, hDc.weaken (fun _ _ _ _ => trivial)⟩⟩ rfl rfl hl.1 rfl (lv_room (Nat.le_of_ble_eq_true rfl)) dX2_copyFrom_49 ⟨Nat.zero_le _, Nat.zero_le _⟩) (fun H locs hP hD hS => ?_)
  rw [← eM_h_49] at hP hD
  refine lv_aload_n hx hb dX2_copyFrom_52 rfl (lv_at hl 1 rfl) ?_
  refine va_get (D := (dC, dI)) (ci := 2) (v := .ref a1_silver) (C := RX2) (T := TX2) (N := 10) hx hb hts hin2 hown hK hP 0 rfl rfl 5 (by decide) kf28 (fun _ h9 => h9) rfl dX2_copyFrom_53 ?_
  refine lv_aload_n hx hb dX2_copyFrom_56 rfl (lv_at hl 0 rfl) ?_
  refine va_get (D := (dC, dI)) (ci := 2) (v := .ref h_silver) (C := RX2) (T := TX2) (N := 10) hx hb hts hin2 hown hK hP 10 rfl rfl 5 (by decide) kf28 (fun _ h9 => h9) rfl dX2_copyFrom_57 ?_
  obtain ⟨M_h_60, eM_h_60, hf⟩ := wr_some hf
  have hPc := hP.sub (ws' := ([(a1_silver, .inl (cyI, 8, .inl (M_a1 5))), (h_silver, .inl (cyI, 8, .inl (M_h_49 5)))] : va_W)) [5, 15] rfl
  have hDc := hD.sub (ws' := ([(a1_silver, .inl (cyI, 8, .inl (M_a1 5))), (h_silver, .inl (cyI, 8, .inl (M_h_49 5)))] : va_W)) [5, 15] (by decide) rfl
  refine wr_callv (wc := ([(a1_silver, .inl (cyI, 8, .inl (M_a1 5))), (h_silver, .inl (cyI, 8, .inl (M_h_49 5)))] : va_W)) (wr := ([(a1, .inr (2, [.int (M_a1 0 0), .ref a1_rank, .ref a1_widow, .ref a1_slips, .ref a1_given, .ref a1_silver, .ref a1_returns, .ref a1_rents, .ref a1_share, .ref a1_rest])), (a1_rank, .inl (cyI, 8, .inl (M_a1 1))), (a1_widow, .inl (cyI, 8, .inl (M_a1 2))), (a1_slips, .inl (cyI, 8, .inl (M_a1 3))), (a1_given, .inl (cyI, 8, .inl (M_a1 4))), (a1_returns, .inl (cyI, 8, .inl (M_a1 6))), (a1_rents, .inl (cyI, 8, .inl (M_a1 7))), (a1_share, .inl (cyI, 8, .inl (M_a1 8))), (a1_rest, .inl (cyI, 8, .inl (M_a1 9))), (h, .inr (2, [.int (M_h_49 0 0), .ref h_rank, .ref h_widow, .ref h_slips, .ref h_given, .ref h_silver, .ref h_returns, .ref h_rents, .ref h_share, .ref h_rest])), (h_rank, .inl (cyI, 8, .inl (M_h_49 1))), (h_widow, .inl (cyI, 8, .inl (M_h_49 2))), (h_slips, .inl (cyI, 8, .inl (M_h_49 3))), (h_given, .inl (cyI, 8, .inl (M_h_49 4))), (h_returns, .inl (cyI, 8, .inl (M_h_49 6))), (h_rents, .inl (cyI, 8, .inl (M_h_49 7))), (h_share, .inl (cyI, 8, .inl (M_h_49 8))), (h_rest, .inl (cyI, 8, .inl (M_h_49 9)))] : va_W)) (w1 := ([(a1_silver, .inl (cyI, 8, .inl (M_a1 5))), (h_silver, .inl (cyI, 8, .inl ((upR M_h_49 5 (rowc 8 (M_a1 5) (M_h_49 5))) 5)))] : va_W)) (ws' := ((wX2 cyB cyI cyZ cyO a1 a1_rank a1_widow a1_slips a1_given a1_silver a1_returns a1_rents a1_share a1_rest M_a1) ++ (wX2 cyB cyI cyZ cyO h h_rank h_widow h_slips h_given h_silver h_returns h_rents h_share h_rest (upR M_h_49 5 (rowc 8 (M_a1 5) (M_h_49 5)))))) hP hD hS hA [5, 15] [0, 1, 2, 3, 4, 6, 7, 8, 9, 10, 11, 12, 13, 14, 16, 17, 18, 19] [0, 1, 2, 3, 4, 18, 5, 6, 7, 8, 9, 10, 11, 12, 13, 19, 14, 15, 16, 17] rfl rfl (by decide) (by decide) rfl (by decide) (va_runSN (As := [.ref a1_silver, .ref h_silver]) (rest := []) ⟨hx, hb, hml, hown, hts⟩ (c_X11_copyRow l dC dI cyB cyI cyZ cyO a1_silver h_silver _ 8 (M_a1 5) (M_h_49 5) (by decide)) ⟨va_cnB 2 hts gX2_copyFrom_X11_copyRow_n43 rfl rfl rfl (hN _ (by decide +kernel : Cond.methodLinkNest RX2 43 yX11_copyRow "HoldSlips" ∈ nw_all)) (hts (.initialized RX11) (by decide +kernel)) (by decide +kernel) ⟨Nat.le_of_ble_eq_true rfl, Nat.le_of_ble_eq_true rfl⟩, hts (.static yX11_copyRow) (by decide +kernel), trivial⟩ ⟨PW.blind, fun U hU hW => ⟨rfl, by rw [hU], by rw [hU]; exact hPc, hCx.warm hW, hDc.weaken (fun _ _ _ _ => trivial)⟩⟩ rfl rfl hl.1 rfl (lv_room (Nat.le_of_ble_eq_true rfl)) dX2_copyFrom_60 ⟨Nat.zero_le _, Nat.zero_le _⟩) (fun H locs hP hD hS => ?_)
  rw [← eM_h_60] at hP hD
  refine lv_aload_n hx hb dX2_copyFrom_63 rfl (lv_at hl 1 rfl) ?_
  refine va_get (D := (dC, dI)) (ci := 2) (v := .ref a1_returns) (C := RX2) (T := TX2) (N := 10) hx hb hts hin2 hown hK hP 0 rfl rfl 6 (by decide) kf31 (fun _ h9 => h9) rfl dX2_copyFrom_64 ?_
  refine lv_aload_n hx hb dX2_copyFrom_67 rfl (lv_at hl 0 rfl) ?_
  refine va_get (D := (dC, dI)) (ci := 2) (v := .ref h_returns) (C := RX2) (T := TX2) (N := 10) hx hb hts hin2 hown hK hP 10 rfl rfl 6 (by decide) kf31 (fun _ h9 => h9) rfl dX2_copyFrom_68 ?_
  obtain ⟨M_h_71, eM_h_71, hf⟩ := wr_some hf
  have hPc := hP.sub (ws' := ([(a1_returns, .inl (cyI, 8, .inl (M_a1 6))), (h_returns, .inl (cyI, 8, .inl (M_h_60 6)))] : va_W)) [6, 16] rfl
  have hDc := hD.sub (ws' := ([(a1_returns, .inl (cyI, 8, .inl (M_a1 6))), (h_returns, .inl (cyI, 8, .inl (M_h_60 6)))] : va_W)) [6, 16] (by decide) rfl
  refine wr_callv (wc := ([(a1_returns, .inl (cyI, 8, .inl (M_a1 6))), (h_returns, .inl (cyI, 8, .inl (M_h_60 6)))] : va_W)) (wr := ([(a1, .inr (2, [.int (M_a1 0 0), .ref a1_rank, .ref a1_widow, .ref a1_slips, .ref a1_given, .ref a1_silver, .ref a1_returns, .ref a1_rents, .ref a1_share, .ref a1_rest])), (a1_rank, .inl (cyI, 8, .inl (M_a1 1))), (a1_widow, .inl (cyI, 8, .inl (M_a1 2))), (a1_slips, .inl (cyI, 8, .inl (M_a1 3))), (a1_given, .inl (cyI, 8, .inl (M_a1 4))), (a1_silver, .inl (cyI, 8, .inl (M_a1 5))), (a1_rents, .inl (cyI, 8, .inl (M_a1 7))), (a1_share, .inl (cyI, 8, .inl (M_a1 8))), (a1_rest, .inl (cyI, 8, .inl (M_a1 9))), (h, .inr (2, [.int (M_h_60 0 0), .ref h_rank, .ref h_widow, .ref h_slips, .ref h_given, .ref h_silver, .ref h_returns, .ref h_rents, .ref h_share, .ref h_rest])), (h_rank, .inl (cyI, 8, .inl (M_h_60 1))), (h_widow, .inl (cyI, 8, .inl (M_h_60 2))), (h_slips, .inl (cyI, 8, .inl (M_h_60 3))), (h_given, .inl (cyI, 8, .inl (M_h_60 4))), (h_silver, .inl (cyI, 8, .inl (M_h_60 5))), (h_rents, .inl (cyI, 8, .inl (M_h_60 7))), (h_share, .inl (cyI, 8, .inl (M_h_60 8))), (h_rest, .inl (cyI, 8, .inl (M_h_60 9)))] : va_W)) (w1 := ([(a1_returns, .inl (cyI, 8, .inl (M_a1 6))), (h_returns, .inl (cyI, 8, .inl ((upR M_h_60 6 (rowc 8 (M_a1 6) (M_h_60 6))) 6)))] : va_W)) (ws' := ((wX2 cyB cyI cyZ cyO a1 a1_rank a1_widow a1_slips a1_given a1_silver a1_returns a1_rents a1_share a1_rest M_a1) ++ (wX2 cyB cyI cyZ cyO h h_rank h_widow h_slips h_given h_silver h_returns h_rents h_share h_rest (upR M_h_60 6 (rowc 8 (M_a1 6) (M_h_60 6)))))) hP hD hS hA [6, 16] [0, 1, 2, 3, 4, 5, 7, 8, 9, 10, 11, 12, 13, 14, 15, 17, 18, 19] [0, 1, 2, 3, 4, 5, 18, 6, 7, 8, 9, 10, 11, 12, 13, 14, 19, 15, 16, 17] rfl rfl (by decide) (by decide) rfl (by decide) (va_runSN (As := [.ref a1_returns, .ref h_returns]) (rest := []) ⟨hx, hb, hml, hown, hts⟩ (c_X11_copyRow l dC dI cyB cyI cyZ cyO a1_returns h_returns _ 8 (M_a1 6) (M_h_60 6) (by decide)) ⟨va_cnB 2 hts gX2_copyFrom_X11_copyRow_n43 rfl rfl rfl (hN _ (by decide +kernel : Cond.methodLinkNest RX2 43 yX11_copyRow "HoldSlips" ∈ nw_all)) (hts (.initialized RX11) (by decide +kernel)) (by decide +kernel) ⟨Nat.le_of_ble_eq_true rfl, Nat.le_of_ble_eq_true rfl⟩, hts (.static yX11_copyRow) (by decide +kernel), trivial⟩ ⟨PW.blind, fun U hU hW => ⟨rfl, by rw [hU], by rw [hU]; exact hPc, hCx.warm hW, hDc.weaken (fun _ _ _ _ => trivial)⟩⟩ rfl rfl hl.1 rfl (lv_room (Nat.le_of_ble_eq_true rfl)) dX2_copyFrom_71 ⟨Nat.zero_le _, Nat.zero_le _⟩) (fun H locs hP hD hS => ?_)
  rw [← eM_h_71] at hP hD
  refine lv_aload_n hx hb dX2_copyFrom_74 rfl (lv_at hl 1 rfl) ?_
  refine va_get (D := (dC, dI)) (ci := 2) (v := .ref a1_rents) (C := RX2) (T := TX2) (N := 10) hx hb hts hin2 hown hK hP 0 rfl rfl 7 (by decide) kf34 (fun _ h9 => h9) rfl dX2_copyFrom_75 ?_
  refine lv_aload_n hx hb dX2_copyFrom_78 rfl (lv_at hl 0 rfl) ?_
  refine va_get (D := (dC, dI)) (ci := 2) (v := .ref h_rents) (C := RX2) (T := TX2) (N := 10) hx hb hts hin2 hown hK hP 10 rfl rfl 7 (by decide) kf34 (fun _ h9 => h9) rfl dX2_copyFrom_79 ?_
  obtain ⟨M_h_82, eM_h_82, hf⟩ := wr_some hf
  have hPc := hP.sub (ws' := ([(a1_rents, .inl (cyI, 8, .inl (M_a1 7))), (h_rents, .inl (cyI, 8, .inl (M_h_71 7)))] : va_W)) [7, 17] rfl
  have hDc := hD.sub (ws' := ([(a1_rents, .inl (cyI, 8, .inl (M_a1 7))), (h_rents, .inl (cyI, 8, .inl (M_h_71 7)))] : va_W)) [7, 17] (by decide) rfl
  refine wr_callv (wc := ([(a1_rents, .inl (cyI, 8, .inl (M_a1 7))), (h_rents, .inl (cyI, 8, .inl (M_h_71 7)))] : va_W)) (wr := ([(a1, .inr (2, [.int (M_a1 0 0), .ref a1_rank, .ref a1_widow, .ref a1_slips, .ref a1_given, .ref a1_silver, .ref a1_returns, .ref a1_rents, .ref a1_share, .ref a1_rest])), (a1_rank, .inl (cyI, 8, .inl (M_a1 1))), (a1_widow, .inl (cyI, 8, .inl (M_a1 2))), (a1_slips, .inl (cyI, 8, .inl (M_a1 3))), (a1_given, .inl (cyI, 8, .inl (M_a1 4))), (a1_silver, .inl (cyI, 8, .inl (M_a1 5))), (a1_returns, .inl (cyI, 8, .inl (M_a1 6))), (a1_share, .inl (cyI, 8, .inl (M_a1 8))), (a1_rest, .inl (cyI, 8, .inl (M_a1 9))), (h, .inr (2, [.int (M_h_71 0 0), .ref h_rank, .ref h_widow, .ref h_slips, .ref h_given, .ref h_silver, .ref h_returns, .ref h_rents, .ref h_share, .ref h_rest])), (h_rank, .inl (cyI, 8, .inl (M_h_71 1))), (h_widow, .inl (cyI, 8, .inl (M_h_71 2))), (h_slips, .inl (cyI, 8, .inl (M_h_71 3))), (h_given, .inl (cyI, 8, .inl (M_h_71 4))), (h_silver, .inl (cyI, 8, .inl (M_h_71 5))), (h_returns, .inl (cyI, 8, .inl (M_h_71 6))), (h_share, .inl (cyI, 8, .inl (M_h_71 8))), (h_rest, .inl (cyI, 8, .inl (M_h_71 9)))] : va_W)) (w1 := ([(a1_rents, .inl (cyI, 8, .inl (M_a1 7))), (h_rents, .inl (cyI, 8, .inl ((upR M_h_71 7 (rowc 8 (M_a1 7) (M_h_71 7))) 7)))] : va_W)) (ws' := ((wX2 cyB cyI cyZ cyO a1 a1_rank a1_widow a1_slips a1_given a1_silver a1_returns a1_rents a1_share a1_rest M_a1) ++ (wX2 cyB cyI cyZ cyO h h_rank h_widow h_slips h_given h_silver h_returns h_rents h_share h_rest (upR M_h_71 7 (rowc 8 (M_a1 7) (M_h_71 7)))))) hP hD hS hA [7, 17] [0, 1, 2, 3, 4, 5, 6, 8, 9, 10, 11, 12, 13, 14, 15, 16, 18, 19] [0, 1, 2, 3, 4, 5, 6, 18, 7, 8, 9, 10, 11, 12, 13, 14, 15, 19, 16, 17] rfl rfl (by decide) (by decide) rfl (by decide) (va_runSN (As := [.ref a1_rents, .ref h_rents]) (rest := []) ⟨hx, hb, hml, hown, hts⟩ (c_X11_copyRow l dC dI cyB cyI cyZ cyO a1_rents h_rents _ 8 (M_a1 7) (M_h_71 7) (by decide)) ⟨va_cnB 2 hts gX2_copyFrom_X11_copyRow_n43 rfl rfl rfl (hN _ (by decide +kernel : Cond.methodLinkNest RX2 43 yX11_copyRow "HoldSlips" ∈ nw_all)) (hts (.initialized RX11) (by decide +kernel)) (by decide +kernel) ⟨Nat.le_of_ble_eq_true rfl, Nat.le_of_ble_eq_true rfl⟩, hts (.static yX11_copyRow) (by decide +kernel), trivial⟩ ⟨PW.blind, fun U hU hW => ⟨rfl, by rw [hU], by rw [hU]; exact hPc, hCx.warm hW, hDc.weaken (fun _ _ _ _ => trivial)⟩⟩ rfl rfl hl.1 rfl (lv_room (Nat.le_of_ble_eq_true rfl)) dX2_copyFrom_82 ⟨Nat.zero_le _, Nat.zero_le _⟩) (fun H locs hP hD hS => ?_)
  rw [← eM_h_82] at hP hD
  have hq := Option.some.inj hf
  subst hq
  exact W.vret hx hb hr (fun t ht hW => ⟨rfl, by rw [ht]; exact hP, hD, hS.F ht⟩) hS.2.2 dX2_copyFrom_85
set_option maxHeartbeats 4000000 in
set_option maxRecDepth 100000 in
theorem c_X5_copyFrom (l : Launch) (dC : Nat → ClassId) (dI : Nat → Nat → Nat) (cyB cyI cyZ cyO : ClassId) (a1 a1_lender a1_borrower a1_sum a1_percent h h_lender h_borrower h_sum h_percent : Nat) (sz : Nat) (M_a1 : Mem) (M_h : Mem) (R_h : Mem) (hf : f_X5_copyFrom M_a1 M_h = some R_h) : Met l yX5_copyFrom wsX5_copyFrom ({ frames := 2, cells := 0, slots := 0, locals := 81 } : Room) (PW dC dI cyB cyI cyZ cyO ([.ref h, .ref a1] : List Value) ((wX5 cyB cyI cyZ cyO a1 a1_lender a1_borrower a1_sum a1_percent M_a1) ++ (wX5 cyB cyI cyZ cyO h h_lender h_borrower h_sum h_percent M_h)) sz) (QW dC dI none ((wX5 cyB cyI cyZ cyO a1 a1_lender a1_borrower a1_sum a1_percent M_a1) ++ (wX5 cyB cyI cyZ cyO h h_lender h_borrower h_sum h_percent R_h)) (va_A ((wX5 cyB cyI cyZ cyO a1 a1_lender a1_borrower a1_sum a1_percent M_a1) ++ (wX5 cyB cyI cyZ cyO h h_lender h_borrower h_sum h_percent M_h)) sz)) 0 0 (va_A ((wX5 cyB cyI cyZ cyO a1 a1_lender a1_borrower a1_sum a1_percent M_a1) ++ (wX5 cyB cyI cyZ cyO h h_lender h_borrower h_sum h_percent M_h)) sz) := by
  refine Met.ofW (cc := cX5_copyFrom) (maxL := 2) (ret := none) (by decide) rfl ?_
  intro p e s m args below meth c s₁ B hml hv
  obtain ⟨rfl, hsz, hP, hCx, hD0⟩ := hv
  have hK := hCx.1
  have hN := hCx.2
  have hx := B.exec
  have hb := B.bytes
  have hr := B.returns
  have hts := atoms_spec (ws := wsX5_copyFrom) B.pre
  have hown : s.vm.findClass RX5 = some m.cls := findClass_of_methodNamed B.named
  have hlocks := B.notSynchronized
  have hin5 : ∀ w ∈ u_ws RX5 TX5 5, w ∈ wsX5_copyFrom := fun w h => List.mem_cons_of_mem _ (List.mem_append_right _ h)
  have kf9 := hts (.fieldLink RX5 9 "HoldSlips$Loans" "number" "I") (by decide +kernel)
  have kf15 := hts (.fieldLink RX5 15 "HoldSlips$Loans" "lender" "[I") (by decide +kernel)
  have kf19 := hts (.fieldLink RX5 19 "HoldSlips$Loans" "borrower" "[I") (by decide +kernel)
  have kf22 := hts (.fieldLink RX5 22 "HoldSlips$Loans" "sum" "[I") (by decide +kernel)
  have kf25 := hts (.fieldLink RX5 25 "HoldSlips$Loans" "percent" "[I") (by decide +kernel)
  subst hsz
  have hD := hD0.self (sz := s.heap.size)
  generalize hAe : va_A ((wX5 cyB cyI cyZ cyO a1 a1_lender a1_borrower a1_sum a1_percent M_a1) ++ (wX5 cyB cyI cyZ cyO h h_lender h_borrower h_sum h_percent M_h)) s.heap.size = A at hD ⊢
  have hA : ∀ q : Nat, s.heap.size ≤ q → A q := fun q h => by rw [← hAe]; exact Or.inr h
  have hS : va_S A s.heap s.heap [] := va_S.rf
  have hl := lv_entry ([.ref h, .ref a1] : List Value) (n := 2) (Nat.le_of_ble_eq_true rfl)
  rw [lg_entry_eq]
  generalize (lg_sl ([.ref h, .ref a1] : List Value) ++ List.replicate (2 - (lg_sl ([.ref h, .ref a1] : List Value)).length) Slot.unset).toArray = ls at hl ⊢
  have hl : lv_has ls 2 [(0, .ref h), (1, .ref a1)] := hl
  rw [f_X5_copyFrom] at hf
  refine lv_aload_n hx hb dX5_copyFrom_0 rfl (lv_at hl 0 rfl) ?_
  refine lv_aload_n hx hb dX5_copyFrom_1 rfl (lv_at hl 1 rfl) ?_
  refine va_get (D := (dC, dI)) (ci := 5) (v := .int (M_a1 0 0)) (C := RX5) (T := TX5) (N := 5) hx hb hts hin5 hown hK hP 0 rfl rfl 0 (by decide) kf9 (fun _ h9 => h9) rfl dX5_copyFrom_2 ?_
  refine va_put (D := (dC, dI)) (ci := 5) (v := .int (M_a1 0 0)) (ty := .int) (C := RX5) (T := TX5) (N := 5) hx hb hts hin5 tyX5 tyX5_ok nmX5 hown hK hP hD hS 5 rfl rfl 0 (by decide) kf9 (fun _ h9 => h9) rfl (by decide +kernel) rfl rfl (Nat.le_of_ble_eq_true rfl) dX5_copyFrom_5 (fun H locs hP hD hS => ?_)
  obtain ⟨M_h_5, eM_h_5, hf⟩ := wr_some hf
  have hP : va_P (dC, dI) vwCl ((wX5 cyB cyI cyZ cyO a1 a1_lender a1_borrower a1_sum a1_percent M_a1) ++ (wX5 cyB cyI cyZ cyO h h_lender h_borrower h_sum h_percent M_h_5)) H := by rw [eM_h_5]; exact hP
  have hD : va_D A ((wX5 cyB cyI cyZ cyO a1 a1_lender a1_borrower a1_sum a1_percent M_a1) ++ (wX5 cyB cyI cyZ cyO h h_lender h_borrower h_sum h_percent M_h_5)) := by rw [eM_h_5]; exact hD
  refine lv_aload_n hx hb dX5_copyFrom_8 rfl (lv_at hl 1 rfl) ?_
  refine va_get (D := (dC, dI)) (ci := 5) (v := .ref a1_lender) (C := RX5) (T := TX5) (N := 5) hx hb hts hin5 hown hK hP 0 rfl rfl 1 (by decide) kf15 (fun _ h9 => h9) rfl dX5_copyFrom_9 ?_
  refine lv_aload_n hx hb dX5_copyFrom_12 rfl (lv_at hl 0 rfl) ?_
  refine va_get (D := (dC, dI)) (ci := 5) (v := .ref h_lender) (C := RX5) (T := TX5) (N := 5) hx hb hts hin5 hown hK hP 5 rfl rfl 1 (by decide) kf15 (fun _ h9 => h9) rfl dX5_copyFrom_13 ?_
  obtain ⟨M_h_16, eM_h_16, hf⟩ := wr_some hf
  have hPc := hP.sub (ws' := ([(a1_lender, .inl (cyI, 20, .inl (M_a1 1))), (h_lender, .inl (cyI, 20, .inl (M_h_5 1)))] : va_W)) [1, 6] rfl
  have hDc := hD.sub (ws' := ([(a1_lender, .inl (cyI, 20, .inl (M_a1 1))), (h_lender, .inl (cyI, 20, .inl (M_h_5 1)))] : va_W)) [1, 6] (by decide) rfl
  refine wr_callv (wc := ([(a1_lender, .inl (cyI, 20, .inl (M_a1 1))), (h_lender, .inl (cyI, 20, .inl (M_h_5 1)))] : va_W)) (wr := ([(a1, .inr (5, [.int (M_a1 0 0), .ref a1_lender, .ref a1_borrower, .ref a1_sum, .ref a1_percent])), (a1_borrower, .inl (cyI, 20, .inl (M_a1 2))), (a1_sum, .inl (cyI, 20, .inl (M_a1 3))), (a1_percent, .inl (cyI, 20, .inl (M_a1 4))), (h, .inr (5, [.int (M_h_5 0 0), .ref h_lender, .ref h_borrower, .ref h_sum, .ref h_percent])), (h_borrower, .inl (cyI, 20, .inl (M_h_5 2))), (h_sum, .inl (cyI, 20, .inl (M_h_5 3))), (h_percent, .inl (cyI, 20, .inl (M_h_5 4)))] : va_W)) (w1 := ([(a1_lender, .inl (cyI, 20, .inl (M_a1 1))), (h_lender, .inl (cyI, 20, .inl ((upR M_h_5 1 (rowc 20 (M_a1 1) (M_h_5 1))) 1)))] : va_W)) (ws' := ((wX5 cyB cyI cyZ cyO a1 a1_lender a1_borrower a1_sum a1_percent M_a1) ++ (wX5 cyB cyI cyZ cyO h h_lender h_borrower h_sum h_percent (upR M_h_5 1 (rowc 20 (M_a1 1) (M_h_5 1)))))) hP hD hS hA [1, 6] [0, 2, 3, 4, 5, 7, 8, 9] [0, 8, 1, 2, 3, 4, 9, 5, 6, 7] rfl rfl (by decide) (by decide) rfl (by decide) (va_runSN (As := [.ref a1_lender, .ref h_lender]) (rest := []) ⟨hx, hb, hml, hown, hts⟩ (c_X11_copyRow l dC dI cyB cyI cyZ cyO a1_lender h_lender _ 20 (M_a1 1) (M_h_5 1) (by decide)) ⟨va_cnB 2 hts gX5_copyFrom_X11_copyRow_n28 rfl rfl rfl (hN _ (by decide +kernel : Cond.methodLinkNest RX5 28 yX11_copyRow "HoldSlips" ∈ nw_all)) (hts (.initialized RX11) (by decide +kernel)) (by decide +kernel) ⟨Nat.le_of_ble_eq_true rfl, Nat.le_of_ble_eq_true rfl⟩, hts (.static yX11_copyRow) (by decide +kernel), trivial⟩ ⟨PW.blind, fun U hU hW => ⟨rfl, by rw [hU], by rw [hU]; exact hPc, hCx.warm hW, hDc.weaken (fun _ _ _ _ => trivial)⟩⟩ rfl rfl hl.1 rfl (lv_room (Nat.le_of_ble_eq_true rfl)) dX5_copyFrom_16 ⟨Nat.zero_le _, Nat.zero_le _⟩) (fun H locs hP hD hS => ?_)
  rw [← eM_h_16] at hP hD
  refine lv_aload_n hx hb dX5_copyFrom_19 rfl (lv_at hl 1 rfl) ?_
  refine va_get (D := (dC, dI)) (ci := 5) (v := .ref a1_borrower) (C := RX5) (T := TX5) (N := 5) hx hb hts hin5 hown hK hP 0 rfl rfl 2 (by decide) kf19 (fun _ h9 => h9) rfl dX5_copyFrom_20 ?_
  refine lv_aload_n hx hb dX5_copyFrom_23 rfl (lv_at hl 0 rfl) ?_
  refine va_get (D := (dC, dI)) (ci := 5) (v := .ref h_borrower) (C := RX5) (T := TX5) (N := 5) hx hb hts hin5 hown hK hP 5 rfl rfl 2 (by decide) kf19 (fun _ h9 => h9) rfl dX5_copyFrom_24 ?_
  obtain ⟨M_h_27, eM_h_27, hf⟩ := wr_some hf
  have hPc := hP.sub (ws' := ([(a1_borrower, .inl (cyI, 20, .inl (M_a1 2))), (h_borrower, .inl (cyI, 20, .inl (M_h_16 2)))] : va_W)) [2, 7] rfl
  have hDc := hD.sub (ws' := ([(a1_borrower, .inl (cyI, 20, .inl (M_a1 2))), (h_borrower, .inl (cyI, 20, .inl (M_h_16 2)))] : va_W)) [2, 7] (by decide) rfl
  refine wr_callv (wc := ([(a1_borrower, .inl (cyI, 20, .inl (M_a1 2))), (h_borrower, .inl (cyI, 20, .inl (M_h_16 2)))] : va_W)) (wr := ([(a1, .inr (5, [.int (M_a1 0 0), .ref a1_lender, .ref a1_borrower, .ref a1_sum, .ref a1_percent])), (a1_lender, .inl (cyI, 20, .inl (M_a1 1))), (a1_sum, .inl (cyI, 20, .inl (M_a1 3))), (a1_percent, .inl (cyI, 20, .inl (M_a1 4))), (h, .inr (5, [.int (M_h_16 0 0), .ref h_lender, .ref h_borrower, .ref h_sum, .ref h_percent])), (h_lender, .inl (cyI, 20, .inl (M_h_16 1))), (h_sum, .inl (cyI, 20, .inl (M_h_16 3))), (h_percent, .inl (cyI, 20, .inl (M_h_16 4)))] : va_W)) (w1 := ([(a1_borrower, .inl (cyI, 20, .inl (M_a1 2))), (h_borrower, .inl (cyI, 20, .inl ((upR M_h_16 2 (rowc 20 (M_a1 2) (M_h_16 2))) 2)))] : va_W)) (ws' := ((wX5 cyB cyI cyZ cyO a1 a1_lender a1_borrower a1_sum a1_percent M_a1) ++ (wX5 cyB cyI cyZ cyO h h_lender h_borrower h_sum h_percent (upR M_h_16 2 (rowc 20 (M_a1 2) (M_h_16 2)))))) hP hD hS hA [2, 7] [0, 1, 3, 4, 5, 6, 8, 9] [0, 1, 8, 2, 3, 4, 5, 9, 6, 7] rfl rfl (by decide) (by decide) rfl (by decide) (va_runSN (As := [.ref a1_borrower, .ref h_borrower]) (rest := []) ⟨hx, hb, hml, hown, hts⟩ (c_X11_copyRow l dC dI cyB cyI cyZ cyO a1_borrower h_borrower _ 20 (M_a1 2) (M_h_16 2) (by decide)) ⟨va_cnB 2 hts gX5_copyFrom_X11_copyRow_n28 rfl rfl rfl (hN _ (by decide +kernel : Cond.methodLinkNest RX5 28 yX11_copyRow "HoldSlips" ∈ nw_all)) (hts (.initialized RX11) (by decide +kernel)) (by decide +kernel) ⟨Nat.le_of_ble_eq_true rfl, Nat.le_of_ble_eq_true rfl⟩, hts (.static yX11_copyRow) (by decide +kernel), trivial⟩ ⟨PW.blind, fun U hU hW => ⟨rfl, by rw [hU], by rw [hU]; exact hPc, hCx.warm hW, hDc.weaken (fun _ _ _ _ => trivial)⟩⟩ rfl rfl hl.1 rfl (lv_room (Nat.le_of_ble_eq_true rfl)) dX5_copyFrom_27 ⟨Nat.zero_le _, Nat.zero_le _⟩) (fun H locs hP hD hS => ?_)
  rw [← eM_h_27] at hP hD
  refine lv_aload_n hx hb dX5_copyFrom_30 rfl (lv_at hl 1 rfl) ?_
  refine va_get (D := (dC, dI)) (ci := 5) (v := .ref a1_sum) (C := RX5) (T := TX5) (N := 5) hx hb hts hin5 hown hK hP 0 rfl rfl 3 (by decide) kf22 (fun _ h9 => h9) rfl dX5_copyFrom_31 ?_
  refine lv_aload_n hx hb dX5_copyFrom_34 rfl (lv_at hl 0 rfl) ?_
  refine va_get (D := (dC, dI)) (ci := 5) (v := .ref h_sum) (C := RX5) (T := TX5) (N := 5) hx hb hts hin5 hown hK hP 5 rfl rfl 3 (by decide) kf22 (fun _ h9 => h9) rfl dX5_copyFrom_35 ?_
  obtain ⟨M_h_38, eM_h_38, hf⟩ := wr_some hf
  have hPc := hP.sub (ws' := ([(a1_sum, .inl (cyI, 20, .inl (M_a1 3))), (h_sum, .inl (cyI, 20, .inl (M_h_27 3)))] : va_W)) [3, 8] rfl
  have hDc := hD.sub (ws' := ([(a1_sum, .inl (cyI, 20, .inl (M_a1 3))), (h_sum, .inl (cyI, 20, .inl (M_h_27 3)))] : va_W)) [3, 8] (by decide) rfl
  refine wr_callv (wc := ([(a1_sum, .inl (cyI, 20, .inl (M_a1 3))), (h_sum, .inl (cyI, 20, .inl (M_h_27 3)))] : va_W)) (wr := ([(a1, .inr (5, [.int (M_a1 0 0), .ref a1_lender, .ref a1_borrower, .ref a1_sum, .ref a1_percent])), (a1_lender, .inl (cyI, 20, .inl (M_a1 1))), (a1_borrower, .inl (cyI, 20, .inl (M_a1 2))), (a1_percent, .inl (cyI, 20, .inl (M_a1 4))), (h, .inr (5, [.int (M_h_27 0 0), .ref h_lender, .ref h_borrower, .ref h_sum, .ref h_percent])), (h_lender, .inl (cyI, 20, .inl (M_h_27 1))), (h_borrower, .inl (cyI, 20, .inl (M_h_27 2))), (h_percent, .inl (cyI, 20, .inl (M_h_27 4)))] : va_W)) (w1 := ([(a1_sum, .inl (cyI, 20, .inl (M_a1 3))), (h_sum, .inl (cyI, 20, .inl ((upR M_h_27 3 (rowc 20 (M_a1 3) (M_h_27 3))) 3)))] : va_W)) (ws' := ((wX5 cyB cyI cyZ cyO a1 a1_lender a1_borrower a1_sum a1_percent M_a1) ++ (wX5 cyB cyI cyZ cyO h h_lender h_borrower h_sum h_percent (upR M_h_27 3 (rowc 20 (M_a1 3) (M_h_27 3)))))) hP hD hS hA [3, 8] [0, 1, 2, 4, 5, 6, 7, 9] [0, 1, 2, 8, 3, 4, 5, 6, 9, 7] rfl rfl (by decide) (by decide) rfl (by decide) (va_runSN (As := [.ref a1_sum, .ref h_sum]) (rest := []) ⟨hx, hb, hml, hown, hts⟩ (c_X11_copyRow l dC dI cyB cyI cyZ cyO a1_sum h_sum _ 20 (M_a1 3) (M_h_27 3) (by decide)) ⟨va_cnB 2 hts gX5_copyFrom_X11_copyRow_n28 rfl rfl rfl (hN _ (by decide +kernel : Cond.methodLinkNest RX5 28 yX11_copyRow "HoldSlips" ∈ nw_all)) (hts (.initialized RX11) (by decide +kernel)) (by decide +kernel) ⟨Nat.le_of_ble_eq_true rfl, Nat.le_of_ble_eq_true rfl⟩, hts (.static yX11_copyRow) (by decide +kernel), trivial⟩ ⟨PW.blind, fun U hU hW => ⟨rfl, by rw [hU], by rw [hU]; exact hPc, hCx.warm hW, hDc.weaken (fun _ _ _ _ => trivial)⟩⟩ rfl rfl hl.1 rfl (lv_room (Nat.le_of_ble_eq_true rfl)) dX5_copyFrom_38 ⟨Nat.zero_le _, Nat.zero_le _⟩) (fun H locs hP hD hS => ?_)
  rw [← eM_h_38] at hP hD
  refine lv_aload_n hx hb dX5_copyFrom_41 rfl (lv_at hl 1 rfl) ?_
  refine va_get (D := (dC, dI)) (ci := 5) (v := .ref a1_percent) (C := RX5) (T := TX5) (N := 5) hx hb hts hin5 hown hK hP 0 rfl rfl 4 (by decide) kf25 (fun _ h9 => h9) rfl dX5_copyFrom_42 ?_
  refine lv_aload_n hx hb dX5_copyFrom_45 rfl (lv_at hl 0 rfl) ?_
  refine va_get (D := (dC, dI)) (ci := 5) (v := .ref h_percent) (C := RX5) (T := TX5) (N := 5) hx hb hts hin5 hown hK hP 5 rfl rfl 4 (by decide) kf25 (fun _ h9 => h9) rfl dX5_copyFrom_46 ?_
  obtain ⟨M_h_49, eM_h_49, hf⟩ := wr_some hf
  have hPc := hP.sub (ws' := ([(a1_percent, .inl (cyI, 20, .inl (M_a1 4))), (h_percent, .inl (cyI, 20, .inl (M_h_38 4)))] : va_W)) [4, 9] rfl
  have hDc := hD.sub (ws' := ([(a1_percent, .inl (cyI, 20, .inl (M_a1 4))), (h_percent, .inl (cyI, 20, .inl (M_h_38 4)))] : va_W)) [4, 9] (by decide) rfl
  refine wr_callv (wc := ([(a1_percent, .inl (cyI, 20, .inl (M_a1 4))), (h_percent, .inl (cyI, 20, .inl (M_h_38 4)))] : va_W)) (wr := ([(a1, .inr (5, [.int (M_a1 0 0), .ref a1_lender, .ref a1_borrower, .ref a1_sum, .ref a1_percent])), (a1_lender, .inl (cyI, 20, .inl (M_a1 1))), (a1_borrower, .inl (cyI, 20, .inl (M_a1 2))), (a1_sum, .inl (cyI, 20, .inl (M_a1 3))), (h, .inr (5, [.int (M_h_38 0 0), .ref h_lender, .ref h_borrower, .ref h_sum, .ref h_percent])), (h_lender, .inl (cyI, 20, .inl (M_h_38 1))), (h_borrower, .inl (cyI, 20, .inl (M_h_38 2))), (h_sum, .inl (cyI, 20, .inl (M_h_38 3)))] : va_W)) (w1 := ([(a1_percent, .inl (cyI, 20, .inl (M_a1 4))), (h_percent, .inl (cyI, 20, .inl ((upR M_h_38 4 (rowc 20 (M_a1 4) (M_h_38 4))) 4)))] : va_W)) (ws' := ((wX5 cyB cyI cyZ cyO a1 a1_lender a1_borrower a1_sum a1_percent M_a1) ++ (wX5 cyB cyI cyZ cyO h h_lender h_borrower h_sum h_percent (upR M_h_38 4 (rowc 20 (M_a1 4) (M_h_38 4)))))) hP hD hS hA [4, 9] [0, 1, 2, 3, 5, 6, 7, 8] [0, 1, 2, 3, 8, 4, 5, 6, 7, 9] rfl rfl (by decide) (by decide) rfl (by decide) (va_runSN (As := [.ref a1_percent, .ref h_percent]) (rest := []) ⟨hx, hb, hml, hown, hts⟩ (c_X11_copyRow l dC dI cyB cyI cyZ cyO a1_percent h_percent _ 20 (M_a1 4) (M_h_38 4) (by decide)) ⟨va_cnB 2 hts gX5_copyFrom_X11_copyRow_n28 rfl rfl rfl (hN _ (by decide +kernel : Cond.methodLinkNest RX5 28 yX11_copyRow "HoldSlips" ∈ nw_all)) (hts (.initialized RX11) (by decide +kernel)) (by decide +kernel) ⟨Nat.le_of_ble_eq_true rfl, Nat.le_of_ble_eq_true rfl⟩, hts (.static yX11_copyRow) (by decide +kernel), trivial⟩ ⟨PW.blind, fun U hU hW => ⟨rfl, by rw [hU], by rw [hU]; exact hPc, hCx.warm hW, hDc.weaken (fun _ _ _ _ => trivial)⟩⟩ rfl rfl hl.1 rfl (lv_room (Nat.le_of_ble_eq_true rfl)) dX5_copyFrom_49 ⟨Nat.zero_le _, Nat.zero_le _⟩) (fun H locs hP hD hS => ?_)
  rw [← eM_h_49] at hP hD
  have hq := Option.some.inj hf
  subst hq
  exact W.vret hx hb hr (fun t ht hW => ⟨rfl, by rw [ht]; exact hP, hD, hS.F ht⟩) hS.2.2 dX5_copyFrom_52
set_option maxHeartbeats 4000000 in
set_option maxRecDepth 100000 in
theorem c_X6_copyFrom (l : Launch) (dC : Nat → ClassId) (dI : Nat → Nat → Nat) (cyB cyI cyZ cyO : ClassId) (a1 h : Nat) (sz : Nat) (M_a1 : Mem) (M_h : Mem) (R_h : Mem) (hf : f_X6_copyFrom M_a1 M_h = some R_h) : Met l yX6_copyFrom wsX6_copyFrom ({ frames := 0, cells := 0, slots := 0, locals := 0 } : Room) (PW dC dI cyB cyI cyZ cyO ([.ref h, .ref a1] : List Value) ((wX6 cyB cyI cyZ cyO a1 M_a1) ++ (wX6 cyB cyI cyZ cyO h M_h)) sz) (QW dC dI none ((wX6 cyB cyI cyZ cyO a1 M_a1) ++ (wX6 cyB cyI cyZ cyO h R_h)) (va_A ((wX6 cyB cyI cyZ cyO a1 M_a1) ++ (wX6 cyB cyI cyZ cyO h M_h)) sz)) 0 0 (va_A ((wX6 cyB cyI cyZ cyO a1 M_a1) ++ (wX6 cyB cyI cyZ cyO h M_h)) sz) := by
  refine Met.ofW (cc := cX6_copyFrom) (maxL := 2) (ret := none) (by decide) rfl ?_
  intro p e s m args below meth c s₁ B hml hv
  obtain ⟨rfl, hsz, hP, hCx, hD0⟩ := hv
  have hK := hCx.1
  have hN := hCx.2
  have hx := B.exec
  have hb := B.bytes
  have hr := B.returns
  have hts := atoms_spec (ws := wsX6_copyFrom) B.pre
  have hown : s.vm.findClass RX6 = some m.cls := findClass_of_methodNamed B.named
  have hlocks := B.notSynchronized
  have hin6 : ∀ w ∈ u_ws RX6 TX6 4, w ∈ wsX6_copyFrom := fun w h => List.mem_cons_of_mem _ (List.mem_append_right _ h)
  have kf9 := hts (.fieldLink RX6 9 "HoldSlips$Rules" "bound" "I") (by decide +kernel)
  have kf15 := hts (.fieldLink RX6 15 "HoldSlips$Rules" "load" "I") (by decide +kernel)
  have kf18 := hts (.fieldLink RX6 18 "HoldSlips$Rules" "permit" "I") (by decide +kernel)
  have kf21 := hts (.fieldLink RX6 21 "HoldSlips$Rules" "rent" "I") (by decide +kernel)
  subst hsz
  have hD := hD0.self (sz := s.heap.size)
  generalize hAe : va_A ((wX6 cyB cyI cyZ cyO a1 M_a1) ++ (wX6 cyB cyI cyZ cyO h M_h)) s.heap.size = A at hD ⊢
  have hA : ∀ q : Nat, s.heap.size ≤ q → A q := fun q h => by rw [← hAe]; exact Or.inr h
  have hS : va_S A s.heap s.heap [] := va_S.rf
  have hl := lv_entry ([.ref h, .ref a1] : List Value) (n := 2) (Nat.le_of_ble_eq_true rfl)
  rw [lg_entry_eq]
  generalize (lg_sl ([.ref h, .ref a1] : List Value) ++ List.replicate (2 - (lg_sl ([.ref h, .ref a1] : List Value)).length) Slot.unset).toArray = ls at hl ⊢
  have hl : lv_has ls 2 [(0, .ref h), (1, .ref a1)] := hl
  rw [f_X6_copyFrom] at hf
  refine lv_aload_n hx hb dX6_copyFrom_0 rfl (lv_at hl 0 rfl) ?_
  refine lv_aload_n hx hb dX6_copyFrom_1 rfl (lv_at hl 1 rfl) ?_
  refine va_get (D := (dC, dI)) (ci := 6) (v := .int (M_a1 0 0)) (C := RX6) (T := TX6) (N := 4) hx hb hts hin6 hown hK hP 0 rfl rfl 0 (by decide) kf9 (fun _ h9 => h9) rfl dX6_copyFrom_2 ?_
  refine va_put (D := (dC, dI)) (ci := 6) (v := .int (M_a1 0 0)) (ty := .int) (C := RX6) (T := TX6) (N := 4) hx hb hts hin6 tyX6 tyX6_ok nmX6 hown hK hP hD hS 1 rfl rfl 0 (by decide) kf9 (fun _ h9 => h9) rfl (by decide +kernel) rfl rfl (Nat.le_of_ble_eq_true rfl) dX6_copyFrom_5 (fun H locs hP hD hS => ?_)
  obtain ⟨M_h_5, eM_h_5, hf⟩ := wr_some hf
  have hP : va_P (dC, dI) vwCl ((wX6 cyB cyI cyZ cyO a1 M_a1) ++ (wX6 cyB cyI cyZ cyO h M_h_5)) H := by rw [eM_h_5]; exact hP
  have hD : va_D A ((wX6 cyB cyI cyZ cyO a1 M_a1) ++ (wX6 cyB cyI cyZ cyO h M_h_5)) := by rw [eM_h_5]; exact hD
  refine lv_aload_n hx hb dX6_copyFrom_8 rfl (lv_at hl 0 rfl) ?_
  refine lv_aload_n hx hb dX6_copyFrom_9 rfl (lv_at hl 1 rfl) ?_
  refine va_get (D := (dC, dI)) (ci := 6) (v := .int (M_a1 1 0)) (C := RX6) (T := TX6) (N := 4) hx hb hts hin6 hown hK hP 0 rfl rfl 1 (by decide) kf15 (fun _ h9 => h9) rfl dX6_copyFrom_10 ?_
  refine va_put (D := (dC, dI)) (ci := 6) (v := .int (M_a1 1 0)) (ty := .int) (C := RX6) (T := TX6) (N := 4) hx hb hts hin6 tyX6 tyX6_ok nmX6 hown hK hP hD hS 1 rfl rfl 1 (by decide) kf15 (fun _ h9 => h9) rfl (by decide +kernel) rfl rfl (Nat.le_of_ble_eq_true rfl) dX6_copyFrom_13 (fun H locs hP hD hS => ?_)
  obtain ⟨M_h_13, eM_h_13, hf⟩ := wr_some hf
  have hP : va_P (dC, dI) vwCl ((wX6 cyB cyI cyZ cyO a1 M_a1) ++ (wX6 cyB cyI cyZ cyO h M_h_13)) H := by rw [eM_h_13]; exact hP
  have hD : va_D A ((wX6 cyB cyI cyZ cyO a1 M_a1) ++ (wX6 cyB cyI cyZ cyO h M_h_13)) := by rw [eM_h_13]; exact hD
  refine lv_aload_n hx hb dX6_copyFrom_16 rfl (lv_at hl 0 rfl) ?_
  refine lv_aload_n hx hb dX6_copyFrom_17 rfl (lv_at hl 1 rfl) ?_
  refine va_get (D := (dC, dI)) (ci := 6) (v := .int (M_a1 2 0)) (C := RX6) (T := TX6) (N := 4) hx hb hts hin6 hown hK hP 0 rfl rfl 2 (by decide) kf18 (fun _ h9 => h9) rfl dX6_copyFrom_18 ?_
  refine va_put (D := (dC, dI)) (ci := 6) (v := .int (M_a1 2 0)) (ty := .int) (C := RX6) (T := TX6) (N := 4) hx hb hts hin6 tyX6 tyX6_ok nmX6 hown hK hP hD hS 1 rfl rfl 2 (by decide) kf18 (fun _ h9 => h9) rfl (by decide +kernel) rfl rfl (Nat.le_of_ble_eq_true rfl) dX6_copyFrom_21 (fun H locs hP hD hS => ?_)
  obtain ⟨M_h_21, eM_h_21, hf⟩ := wr_some hf
  have hP : va_P (dC, dI) vwCl ((wX6 cyB cyI cyZ cyO a1 M_a1) ++ (wX6 cyB cyI cyZ cyO h M_h_21)) H := by rw [eM_h_21]; exact hP
  have hD : va_D A ((wX6 cyB cyI cyZ cyO a1 M_a1) ++ (wX6 cyB cyI cyZ cyO h M_h_21)) := by rw [eM_h_21]; exact hD
  refine lv_aload_n hx hb dX6_copyFrom_24 rfl (lv_at hl 0 rfl) ?_
  refine lv_aload_n hx hb dX6_copyFrom_25 rfl (lv_at hl 1 rfl) ?_
  refine va_get (D := (dC, dI)) (ci := 6) (v := .int (M_a1 3 0)) (C := RX6) (T := TX6) (N := 4) hx hb hts hin6 hown hK hP 0 rfl rfl 3 (by decide) kf21 (fun _ h9 => h9) rfl dX6_copyFrom_26 ?_
  refine va_put (D := (dC, dI)) (ci := 6) (v := .int (M_a1 3 0)) (ty := .int) (C := RX6) (T := TX6) (N := 4) hx hb hts hin6 tyX6 tyX6_ok nmX6 hown hK hP hD hS 1 rfl rfl 3 (by decide) kf21 (fun _ h9 => h9) rfl (by decide +kernel) rfl rfl (Nat.le_of_ble_eq_true rfl) dX6_copyFrom_29 (fun H locs hP hD hS => ?_)
  obtain ⟨M_h_29, eM_h_29, hf⟩ := wr_some hf
  have hP : va_P (dC, dI) vwCl ((wX6 cyB cyI cyZ cyO a1 M_a1) ++ (wX6 cyB cyI cyZ cyO h M_h_29)) H := by rw [eM_h_29]; exact hP
  have hD : va_D A ((wX6 cyB cyI cyZ cyO a1 M_a1) ++ (wX6 cyB cyI cyZ cyO h M_h_29)) := by rw [eM_h_29]; exact hD
  have hq := Option.some.inj hf
  subst hq
  exact W.vret hx hb hr (fun t ht hW => ⟨rfl, by rw [ht]; exact hP, hD, hS.F ht⟩) hS.2.2 dX6_copyFrom_32
set_option maxHeartbeats 4000000 in
set_option maxRecDepth 100000 in
theorem c_X10_copyFrom (l : Launch) (dC : Nat → ClassId) (dI : Nat → Nat → Nat) (cyB cyI cyZ cyO : ClassId) (a1 a1_cells h h_cells : Nat) (sz : Nat) (M_a1 : Mem) (M_h : Mem) (R_h : Mem) (hf : f_X10_copyFrom M_a1 M_h = some R_h) : Met l yX10_copyFrom wsX10_copyFrom ({ frames := 2, cells := 0, slots := 0, locals := 81 } : Room) (PW dC dI cyB cyI cyZ cyO ([.ref h, .ref a1] : List Value) ((wX10 cyB cyI cyZ cyO a1 a1_cells M_a1) ++ (wX10 cyB cyI cyZ cyO h h_cells M_h)) sz) (QW dC dI none ((wX10 cyB cyI cyZ cyO a1 a1_cells M_a1) ++ (wX10 cyB cyI cyZ cyO h h_cells R_h)) (va_A ((wX10 cyB cyI cyZ cyO a1 a1_cells M_a1) ++ (wX10 cyB cyI cyZ cyO h h_cells M_h)) sz)) 0 0 (va_A ((wX10 cyB cyI cyZ cyO a1 a1_cells M_a1) ++ (wX10 cyB cyI cyZ cyO h h_cells M_h)) sz) := by
  refine Met.ofW (cc := cX10_copyFrom) (maxL := 2) (ret := none) (by decide) rfl ?_
  intro p e s m args below meth c s₁ B hml hv
  obtain ⟨rfl, hsz, hP, hCx, hD0⟩ := hv
  have hK := hCx.1
  have hN := hCx.2
  have hx := B.exec
  have hb := B.bytes
  have hr := B.returns
  have hts := atoms_spec (ws := wsX10_copyFrom) B.pre
  have hown : s.vm.findClass RX10 = some m.cls := findClass_of_methodNamed B.named
  have hlocks := B.notSynchronized
  have hin10 : ∀ w ∈ u_ws RX10 TX10 1, w ∈ wsX10_copyFrom := fun w h => List.mem_cons_of_mem _ (List.mem_append_right _ h)
  have kf11 := hts (.fieldLink RX10 11 "HoldSlips$YearBook" "cells" "[I") (by decide +kernel)
  subst hsz
  have hD := hD0.self (sz := s.heap.size)
  generalize hAe : va_A ((wX10 cyB cyI cyZ cyO a1 a1_cells M_a1) ++ (wX10 cyB cyI cyZ cyO h h_cells M_h)) s.heap.size = A at hD ⊢
  have hA : ∀ q : Nat, s.heap.size ≤ q → A q := fun q h => by rw [← hAe]; exact Or.inr h
  have hS : va_S A s.heap s.heap [] := va_S.rf
  have hl := lv_entry ([.ref h, .ref a1] : List Value) (n := 2) (Nat.le_of_ble_eq_true rfl)
  rw [lg_entry_eq]
  generalize (lg_sl ([.ref h, .ref a1] : List Value) ++ List.replicate (2 - (lg_sl ([.ref h, .ref a1] : List Value)).length) Slot.unset).toArray = ls at hl ⊢
  have hl : lv_has ls 2 [(0, .ref h), (1, .ref a1)] := hl
  rw [f_X10_copyFrom] at hf
  refine lv_aload_n hx hb dX10_copyFrom_0 rfl (lv_at hl 1 rfl) ?_
  refine va_get (D := (dC, dI)) (ci := 10) (v := .ref a1_cells) (C := RX10) (T := TX10) (N := 1) hx hb hts hin10 hown hK hP 0 rfl rfl 0 (by decide) kf11 (fun _ h9 => h9) rfl dX10_copyFrom_1 ?_
  refine lv_aload_n hx hb dX10_copyFrom_4 rfl (lv_at hl 0 rfl) ?_
  refine va_get (D := (dC, dI)) (ci := 10) (v := .ref h_cells) (C := RX10) (T := TX10) (N := 1) hx hb hts hin10 hown hK hP 2 rfl rfl 0 (by decide) kf11 (fun _ h9 => h9) rfl dX10_copyFrom_5 ?_
  obtain ⟨M_h_8, eM_h_8, hf⟩ := wr_some hf
  have hPc := hP.sub (ws' := ([(a1_cells, .inl (cyI, 1791, .inl (M_a1 0))), (h_cells, .inl (cyI, 1791, .inl (M_h 0)))] : va_W)) [1, 3] rfl
  have hDc := hD.sub (ws' := ([(a1_cells, .inl (cyI, 1791, .inl (M_a1 0))), (h_cells, .inl (cyI, 1791, .inl (M_h 0)))] : va_W)) [1, 3] (by decide) rfl
  refine wr_callv (wc := ([(a1_cells, .inl (cyI, 1791, .inl (M_a1 0))), (h_cells, .inl (cyI, 1791, .inl (M_h 0)))] : va_W)) (wr := ([(a1, .inr (10, [.ref a1_cells])), (h, .inr (10, [.ref h_cells]))] : va_W)) (w1 := ([(a1_cells, .inl (cyI, 1791, .inl (M_a1 0))), (h_cells, .inl (cyI, 1791, .inl ((upR M_h 0 (rowc 1791 (M_a1 0) (M_h 0))) 0)))] : va_W)) (ws' := ((wX10 cyB cyI cyZ cyO a1 a1_cells M_a1) ++ (wX10 cyB cyI cyZ cyO h h_cells (upR M_h 0 (rowc 1791 (M_a1 0) (M_h 0)))))) hP hD hS hA [1, 3] [0, 2] [0, 2, 1, 3] rfl rfl (by decide) (by decide) rfl (by decide) (va_runSN (As := [.ref a1_cells, .ref h_cells]) (rest := []) ⟨hx, hb, hml, hown, hts⟩ (c_X11_copyRow l dC dI cyB cyI cyZ cyO a1_cells h_cells _ 1791 (M_a1 0) (M_h 0) (by decide)) ⟨va_cnB 2 hts gX10_copyFrom_X11_copyRow_n15 rfl rfl rfl (hN _ (by decide +kernel : Cond.methodLinkNest RX10 15 yX11_copyRow "HoldSlips" ∈ nw_all)) (hts (.initialized RX11) (by decide +kernel)) (by decide +kernel) ⟨Nat.le_of_ble_eq_true rfl, Nat.le_of_ble_eq_true rfl⟩, hts (.static yX11_copyRow) (by decide +kernel), trivial⟩ ⟨PW.blind, fun U hU hW => ⟨rfl, by rw [hU], by rw [hU]; exact hPc, hCx.warm hW, hDc.weaken (fun _ _ _ _ => trivial)⟩⟩ rfl rfl hl.1 rfl (lv_room (Nat.le_of_ble_eq_true rfl)) dX10_copyFrom_8 ⟨Nat.zero_le _, Nat.zero_le _⟩) (fun H locs hP hD hS => ?_)
  rw [← eM_h_8] at hP hD
  have hq := Option.some.inj hf
  subst hq
  exact W.vret hx hb hr (fun t ht hW => ⟨rfl, by rw [ht]; exact hP, hD, hS.F ht⟩) hS.2.2 dX10_copyFrom_11
