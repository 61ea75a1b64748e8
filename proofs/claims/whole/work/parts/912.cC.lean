set_option maxHeartbeats 4000000 in
set_option maxRecDepth 100000 in
theorem c_X4_begin (l : Launch) (dC : Nat → ClassId) (dI : Nat → Nat → Nat) (cyB cyI cyZ cyO : ClassId) (h h_at h_text h_text_action h_text_amount h_text_tests h_text_negated h_text_subject h_text_sign h_text_limit : Nat) (sz : Nat) (M_h : Mem) (M_h_text : Mem) (R_h : Mem) (R_h_text : Mem) (hf : f_X4_begin M_h M_h_text = some (R_h, R_h_text)) : Met l yX4_begin wsX4_begin ({ frames := 0, cells := 0, slots := 0, locals := 0 } : Room) (PW dC dI cyB cyI cyZ cyO ([.ref h] : List Value) ((wX4 cyB cyI cyZ cyO h h_at h_text M_h) ++ (wX3 cyB cyI cyZ cyO h_text h_text_action h_text_amount h_text_tests h_text_negated h_text_subject h_text_sign h_text_limit M_h_text)) sz) (QW dC dI none ((wX4 cyB cyI cyZ cyO h h_at h_text R_h) ++ (wX3 cyB cyI cyZ cyO h_text h_text_action h_text_amount h_text_tests h_text_negated h_text_subject h_text_sign h_text_limit R_h_text)) (va_A ((wX4 cyB cyI cyZ cyO h h_at h_text M_h) ++ (wX3 cyB cyI cyZ cyO h_text h_text_action h_text_amount h_text_tests h_text_negated h_text_subject h_text_sign h_text_limit M_h_text)) sz)) 0 0 (va_A ((wX4 cyB cyI cyZ cyO h h_at h_text M_h) ++ (wX3 cyB cyI cyZ cyO h_text h_text_action h_text_amount h_text_tests h_text_negated h_text_subject h_text_sign h_text_limit M_h_text)) sz) := by
  refine Met.ofW (cc := cX4_begin) (maxL := 1) (ret := none) (by decide) rfl ?_
  intro p e s m args below meth c s₁ B hml hv
  obtain ⟨rfl, hsz, hP, hCx, hD0⟩ := hv
  have hK := hCx.1
  have hN := hCx.2
  have hx := B.exec
  have hb := B.bytes
  have hr := B.returns
  have hts := atoms_spec (ws := wsX4_begin) B.pre
  have hown : s.vm.findClass RX4 = some m.cls := findClass_of_methodNamed B.named
  have hlocks := B.notSynchronized
  have hin3 : ∀ w ∈ u_ws RX3 TX3 8, w ∈ wsX4_begin := fun w h => List.mem_cons_of_mem _ (List.mem_append_right _ h)
  have hin4 : ∀ w ∈ u_ws RX4 TX4 12, w ∈ wsX4_begin := fun w h => List.mem_cons_of_mem _ (List.mem_append_left _ (List.mem_append_right _ h))
  have kf21 := hts (.fieldLink RX4 21 "HoldSlips$DecreeReader" "text" "LHoldSlips$Decree;") (by decide +kernel)
  have kf25 := hts (.fieldLink RX4 25 "HoldSlips$DecreeReader" "fault" "I") (by decide +kernel)
  have kf29 := hts (.fieldLink RX4 29 "HoldSlips$DecreeReader" "place" "I") (by decide +kernel)
  have kf32 := hts (.fieldLink RX4 32 "HoldSlips$DecreeReader" "excess" "I") (by decide +kernel)
  have kf35 := hts (.fieldLink RX4 35 "HoldSlips$DecreeReader" "state" "I") (by decide +kernel)
  have kf38 := hts (.fieldLink RX4 38 "HoldSlips$DecreeReader" "line" "I") (by decide +kernel)
  have kf41 := hts (.fieldLink RX4 41 "HoldSlips$DecreeReader" "tests" "I") (by decide +kernel)
  have kf76 := hts (.fieldLink RX4 76 "HoldSlips$Decree" "lines" "I") (by decide +kernel)
  subst hsz
  have hD := hD0.self (sz := s.heap.size)
  generalize hAe : va_A ((wX4 cyB cyI cyZ cyO h h_at h_text M_h) ++ (wX3 cyB cyI cyZ cyO h_text h_text_action h_text_amount h_text_tests h_text_negated h_text_subject h_text_sign h_text_limit M_h_text)) s.heap.size = A at hD ⊢
  have hA : ∀ q : Nat, s.heap.size ≤ q → A q := fun q h => by rw [← hAe]; exact Or.inr h
  have hS : va_S A s.heap s.heap [] := va_S.rf
  have hl := lv_entry ([.ref h] : List Value) (n := 1) (Nat.le_of_ble_eq_true rfl)
  rw [lg_entry_eq]
  generalize (lg_sl ([.ref h] : List Value) ++ List.replicate (1 - (lg_sl ([.ref h] : List Value)).length) Slot.unset).toArray = ls at hl ⊢
  have hl : lv_has ls 1 [(0, .ref h)] := hl
  rw [f_X4_begin] at hf
  refine lv_aload_n hx hb dX4_begin_0 rfl (lv_at hl 0 rfl) ?_
  refine va_get (D := (dC, dI)) (ci := 4) (v := .ref h_text) (C := RX4) (T := TX4) (N := 12) hx hb hts hin4 hown hK hP 0 rfl rfl 1 (by decide) kf21 (fun _ h9 => h9) rfl dX4_begin_1 ?_
  refine lv_iconst (v := (0 : Int32)) hx hb dX4_begin_4 (by decide) ?_
  refine va_put (D := (dC, dI)) (ci := 3) (v := .int (0 : Int32)) (ty := .int) (C := RX3) (T := TX3) (N := 8) hx hb hts hin3 tyX3 tyX3_ok nmX3 hown hK hP hD hS 1 rfl rfl 0 (by decide) kf76 (fun _ h9 => h9) rfl (by decide +kernel) rfl rfl (Nat.le_of_ble_eq_true rfl) dX4_begin_5 (fun H locs hP hD hS => ?_)
  obtain ⟨M_h_text_5, eM_h_text_5, hf⟩ := wr_some hf
  have hP : va_P (dC, dI) vwCl ((wX4 cyB cyI cyZ cyO h h_at h_text M_h) ++ (wX3 cyB cyI cyZ cyO h_text h_text_action h_text_amount h_text_tests h_text_negated h_text_subject h_text_sign h_text_limit M_h_text_5)) H := by rw [eM_h_text_5]; exact hP
  have hD : va_D A ((wX4 cyB cyI cyZ cyO h h_at h_text M_h) ++ (wX3 cyB cyI cyZ cyO h_text h_text_action h_text_amount h_text_tests h_text_negated h_text_subject h_text_sign h_text_limit M_h_text_5)) := by rw [eM_h_text_5]; exact hD
  refine lv_aload_n hx hb dX4_begin_8 rfl (lv_at hl 0 rfl) ?_
  refine lv_iconst (v := (0 : Int32)) hx hb dX4_begin_9 (by decide) ?_
  refine va_put (D := (dC, dI)) (ci := 4) (v := .int (0 : Int32)) (ty := .int) (C := RX4) (T := TX4) (N := 12) hx hb hts hin4 tyX4 tyX4_ok nmX4 hown hK hP hD hS 0 rfl rfl 2 (by decide) kf25 (fun _ h9 => h9) rfl (by decide +kernel) rfl rfl (Nat.le_of_ble_eq_true rfl) dX4_begin_10 (fun H locs hP hD hS => ?_)
  obtain ⟨M_h_10, eM_h_10, hf⟩ := wr_some hf
  have hP : va_P (dC, dI) vwCl ((wX4 cyB cyI cyZ cyO h h_at h_text M_h_10) ++ (wX3 cyB cyI cyZ cyO h_text h_text_action h_text_amount h_text_tests h_text_negated h_text_subject h_text_sign h_text_limit M_h_text_5)) H := by rw [eM_h_10]; exact hP
  have hD : va_D A ((wX4 cyB cyI cyZ cyO h h_at h_text M_h_10) ++ (wX3 cyB cyI cyZ cyO h_text h_text_action h_text_amount h_text_tests h_text_negated h_text_subject h_text_sign h_text_limit M_h_text_5)) := by rw [eM_h_10]; exact hD
  refine lv_aload_n hx hb dX4_begin_13 rfl (lv_at hl 0 rfl) ?_
  refine lv_iconst (v := (-1 : Int32)) hx hb dX4_begin_14 (by decide) ?_
  refine va_put (D := (dC, dI)) (ci := 4) (v := .int (-1 : Int32)) (ty := .int) (C := RX4) (T := TX4) (N := 12) hx hb hts hin4 tyX4 tyX4_ok nmX4 hown hK hP hD hS 0 rfl rfl 3 (by decide) kf29 (fun _ h9 => h9) rfl (by decide +kernel) rfl rfl (Nat.le_of_ble_eq_true rfl) dX4_begin_15 (fun H locs hP hD hS => ?_)
  obtain ⟨M_h_15, eM_h_15, hf⟩ := wr_some hf
  have hP : va_P (dC, dI) vwCl ((wX4 cyB cyI cyZ cyO h h_at h_text M_h_15) ++ (wX3 cyB cyI cyZ cyO h_text h_text_action h_text_amount h_text_tests h_text_negated h_text_subject h_text_sign h_text_limit M_h_text_5)) H := by rw [eM_h_15]; exact hP
  have hD : va_D A ((wX4 cyB cyI cyZ cyO h h_at h_text M_h_15) ++ (wX3 cyB cyI cyZ cyO h_text h_text_action h_text_amount h_text_tests h_text_negated h_text_subject h_text_sign h_text_limit M_h_text_5)) := by rw [eM_h_15]; exact hD
  refine lv_aload_n hx hb dX4_begin_18 rfl (lv_at hl 0 rfl) ?_
  refine lv_iconst (v := (-1 : Int32)) hx hb dX4_begin_19 (by decide) ?_
  refine va_put (D := (dC, dI)) (ci := 4) (v := .int (-1 : Int32)) (ty := .int) (C := RX4) (T := TX4) (N := 12) hx hb hts hin4 tyX4 tyX4_ok nmX4 hown hK hP hD hS 0 rfl rfl 4 (by decide) kf32 (fun _ h9 => h9) rfl (by decide +kernel) rfl rfl (Nat.le_of_ble_eq_true rfl) dX4_begin_20 (fun H locs hP hD hS => ?_)
  obtain ⟨M_h_20, eM_h_20, hf⟩ := wr_some hf
  have hP : va_P (dC, dI) vwCl ((wX4 cyB cyI cyZ cyO h h_at h_text M_h_20) ++ (wX3 cyB cyI cyZ cyO h_text h_text_action h_text_amount h_text_tests h_text_negated h_text_subject h_text_sign h_text_limit M_h_text_5)) H := by rw [eM_h_20]; exact hP
  have hD : va_D A ((wX4 cyB cyI cyZ cyO h h_at h_text M_h_20) ++ (wX3 cyB cyI cyZ cyO h_text h_text_action h_text_amount h_text_tests h_text_negated h_text_subject h_text_sign h_text_limit M_h_text_5)) := by rw [eM_h_20]; exact hD
  refine lv_aload_n hx hb dX4_begin_23 rfl (lv_at hl 0 rfl) ?_
  refine lv_iconst (v := (0 : Int32)) hx hb dX4_begin_24 (by decide) ?_
  refine va_put (D := (dC, dI)) (ci := 4) (v := .int (0 : Int32)) (ty := .int) (C := RX4) (T := TX4) (N := 12) hx hb hts hin4 tyX4 tyX4_ok nmX4 hown hK hP hD hS 0 rfl rfl 5 (by decide) kf35 (fun _ h9 => h9) rfl (by decide +kernel) rfl rfl (Nat.le_of_ble_eq_true rfl) dX4_begin_25 (fun H locs hP hD hS => ?_)
  obtain ⟨M_h_25, eM_h_25, hf⟩ := wr_some hf
  have hP : va_P (dC, dI) vwCl ((wX4 cyB cyI cyZ cyO h h_at h_text M_h_25) ++ (wX3 cyB cyI cyZ cyO h_text h_text_action h_text_amount h_text_tests h_text_negated h_text_subject h_text_sign h_text_limit M_h_text_5)) H := by rw [eM_h_25]; exact hP
  have hD : va_D A ((wX4 cyB cyI cyZ cyO h h_at h_text M_h_25) ++ (wX3 cyB cyI cyZ cyO h_text h_text_action h_text_amount h_text_tests h_text_negated h_text_subject h_text_sign h_text_limit M_h_text_5)) := by rw [eM_h_25]; exact hD
  refine lv_aload_n hx hb dX4_begin_28 rfl (lv_at hl 0 rfl) ?_
  refine lv_iconst (v := (0 : Int32)) hx hb dX4_begin_29 (by decide) ?_
  refine va_put (D := (dC, dI)) (ci := 4) (v := .int (0 : Int32)) (ty := .int) (C := RX4) (T := TX4) (N := 12) hx hb hts hin4 tyX4 tyX4_ok nmX4 hown hK hP hD hS 0 rfl rfl 6 (by decide) kf38 (fun _ h9 => h9) rfl (by decide +kernel) rfl rfl (Nat.le_of_ble_eq_true rfl) dX4_begin_30 (fun H locs hP hD hS => ?_)
  obtain ⟨M_h_30, eM_h_30, hf⟩ := wr_some hf
  have hP : va_P (dC, dI) vwCl ((wX4 cyB cyI cyZ cyO h h_at h_text M_h_30) ++ (wX3 cyB cyI cyZ cyO h_text h_text_action h_text_amount h_text_tests h_text_negated h_text_subject h_text_sign h_text_limit M_h_text_5)) H := by rw [eM_h_30]; exact hP
  have hD : va_D A ((wX4 cyB cyI cyZ cyO h h_at h_text M_h_30) ++ (wX3 cyB cyI cyZ cyO h_text h_text_action h_text_amount h_text_tests h_text_negated h_text_subject h_text_sign h_text_limit M_h_text_5)) := by rw [eM_h_30]; exact hD
  refine lv_aload_n hx hb dX4_begin_33 rfl (lv_at hl 0 rfl) ?_
  refine lv_iconst (v := (0 : Int32)) hx hb dX4_begin_34 (by decide) ?_
  refine va_put (D := (dC, dI)) (ci := 4) (v := .int (0 : Int32)) (ty := .int) (C := RX4) (T := TX4) (N := 12) hx hb hts hin4 tyX4 tyX4_ok nmX4 hown hK hP hD hS 0 rfl rfl 7 (by decide) kf41 (fun _ h9 => h9) rfl (by decide +kernel) rfl rfl (Nat.le_of_ble_eq_true rfl) dX4_begin_35 (fun H locs hP hD hS => ?_)
  obtain ⟨M_h_35, eM_h_35, hf⟩ := wr_some hf
  have hP : va_P (dC, dI) vwCl ((wX4 cyB cyI cyZ cyO h h_at h_text M_h_35) ++ (wX3 cyB cyI cyZ cyO h_text h_text_action h_text_amount h_text_tests h_text_negated h_text_subject h_text_sign h_text_limit M_h_text_5)) H := by rw [eM_h_35]; exact hP
  have hD : va_D A ((wX4 cyB cyI cyZ cyO h h_at h_text M_h_35) ++ (wX3 cyB cyI cyZ cyO h_text h_text_action h_text_amount h_text_tests h_text_negated h_text_subject h_text_sign h_text_limit M_h_text_5)) := by rw [eM_h_35]; exact hD
  obtain ⟨hq0, hq1⟩ := pj2 hf
  subst hq0
  subst hq1
  exact W.vret hx hb hr (fun t ht hW => ⟨rfl, by rw [ht]; exact hP, hD, hS.F ht⟩) hS.2.2 dX4_begin_38
set_option maxHeartbeats 4000000 in
set_option maxRecDepth 100000 in
theorem c_X4_keepLine (l : Launch) (dC : Nat → ClassId) (dI : Nat → Nat → Nat) (cyB cyI cyZ cyO : ClassId) (h h_at h_text h_text_action h_text_amount h_text_tests h_text_negated h_text_subject h_text_sign h_text_limit : Nat) (sz : Nat) (M_h : Mem) (M_h_text : Mem) (p1 : Int32) (R_h : Mem) (R_h_text : Mem) (hf : f_X4_keepLine M_h M_h_text p1 = some (R_h, R_h_text)) : Met l yX4_keepLine wsX4_keepLine ({ frames := 2, cells := 0, slots := 0, locals := 54 } : Room) (PW dC dI cyB cyI cyZ cyO ([.ref h, .int p1] : List Value) ((wX4 cyB cyI cyZ cyO h h_at h_text M_h) ++ (wX3 cyB cyI cyZ cyO h_text h_text_action h_text_amount h_text_tests h_text_negated h_text_subject h_text_sign h_text_limit M_h_text)) sz) (QW dC dI none ((wX4 cyB cyI cyZ cyO h h_at h_text R_h) ++ (wX3 cyB cyI cyZ cyO h_text h_text_action h_text_amount h_text_tests h_text_negated h_text_subject h_text_sign h_text_limit R_h_text)) (va_A ((wX4 cyB cyI cyZ cyO h h_at h_text M_h) ++ (wX3 cyB cyI cyZ cyO h_text h_text_action h_text_amount h_text_tests h_text_negated h_text_subject h_text_sign h_text_limit M_h_text)) sz)) 0 0 (va_A ((wX4 cyB cyI cyZ cyO h h_at h_text M_h) ++ (wX3 cyB cyI cyZ cyO h_text h_text_action h_text_amount h_text_tests h_text_negated h_text_subject h_text_sign h_text_limit M_h_text)) sz) := by
  refine Met.ofW (cc := cX4_keepLine) (maxL := 2) (ret := none) (by decide) rfl ?_
  intro p e s m args below meth c s₁ B hml hv
  obtain ⟨rfl, hsz, hP, hCx, hD0⟩ := hv
  have hK := hCx.1
  have hN := hCx.2
  have hx := B.exec
  have hb := B.bytes
  have hr := B.returns
  have hts := atoms_spec (ws := wsX4_keepLine) B.pre
  have hown : s.vm.findClass RX4 = some m.cls := findClass_of_methodNamed B.named
  have hlocks := B.notSynchronized
  have hin4 : ∀ w ∈ u_ws RX4 TX4 12, w ∈ wsX4_keepLine := fun w h => List.mem_cons_of_mem _ (List.mem_append_left _ (List.mem_append_right _ h))
  have kf21 := hts (.fieldLink RX4 21 "HoldSlips$DecreeReader" "text" "LHoldSlips$Decree;") (by decide +kernel)
  have kf35 := hts (.fieldLink RX4 35 "HoldSlips$DecreeReader" "state" "I") (by decide +kernel)
  have kf38 := hts (.fieldLink RX4 38 "HoldSlips$DecreeReader" "line" "I") (by decide +kernel)
  have kf41 := hts (.fieldLink RX4 41 "HoldSlips$DecreeReader" "tests" "I") (by decide +kernel)
  have kf54 := hts (.fieldLink RX4 54 "HoldSlips$DecreeReader" "action" "I") (by decide +kernel)
  subst hsz
  have hD := hD0.self (sz := s.heap.size)
  generalize hAe : va_A ((wX4 cyB cyI cyZ cyO h h_at h_text M_h) ++ (wX3 cyB cyI cyZ cyO h_text h_text_action h_text_amount h_text_tests h_text_negated h_text_subject h_text_sign h_text_limit M_h_text)) s.heap.size = A at hD ⊢
  have hA : ∀ q : Nat, s.heap.size ≤ q → A q := fun q h => by rw [← hAe]; exact Or.inr h
  have hS : va_S A s.heap s.heap [] := va_S.rf
  have hl := lv_entry ([.ref h, .int p1] : List Value) (n := 2) (Nat.le_of_ble_eq_true rfl)
  rw [lg_entry_eq]
  generalize (lg_sl ([.ref h, .int p1] : List Value) ++ List.replicate (2 - (lg_sl ([.ref h, .int p1] : List Value)).length) Slot.unset).toArray = ls at hl ⊢
  have hl : lv_has ls 2 [(0, .ref h), (1, .int p1)] := hl
  rw [f_X4_keepLine] at hf
  refine lv_aload_n hx hb dX4_keepLine_0 rfl (lv_at hl 0 rfl) ?_
  refine va_get (D := (dC, dI)) (ci := 4) (v := .ref h_text) (C := RX4) (T := TX4) (N := 12) hx hb hts hin4 hown hK hP 0 rfl rfl 1 (by decide) kf21 (fun _ h9 => h9) rfl dX4_keepLine_1 ?_
  refine lv_aload_n hx hb dX4_keepLine_4 rfl (lv_at hl 0 rfl) ?_
  refine va_get (D := (dC, dI)) (ci := 4) (v := .int (M_h 6 0)) (C := RX4) (T := TX4) (N := 12) hx hb hts hin4 hown hK hP 0 rfl rfl 6 (by decide) kf38 (fun _ h9 => h9) rfl dX4_keepLine_5 ?_
  refine lv_aload_n hx hb dX4_keepLine_8 rfl (lv_at hl 0 rfl) ?_
  refine va_get (D := (dC, dI)) (ci := 4) (v := .int (M_h 11 0)) (C := RX4) (T := TX4) (N := 12) hx hb hts hin4 hown hK hP 0 rfl rfl 11 (by decide) kf54 (fun _ h9 => h9) rfl dX4_keepLine_9 ?_
  refine lv_iload_n hx hb dX4_keepLine_12 rfl (lv_at hl 1 rfl) ?_
  refine lv_aload_n hx hb dX4_keepLine_13 rfl (lv_at hl 0 rfl) ?_
  refine va_get (D := (dC, dI)) (ci := 4) (v := .int (M_h 7 0)) (C := RX4) (T := TX4) (N := 12) hx hb hts hin4 hown hK hP 0 rfl rfl 7 (by decide) kf41 (fun _ h9 => h9) rfl dX4_keepLine_14 ?_
  obtain ⟨M_h_text_17, h17, hf⟩ := bd1_some hf
  have hPc := hP.sub (ws' := (wX3 cyB cyI cyZ cyO h_text h_text_action h_text_amount h_text_tests h_text_negated h_text_subject h_text_sign h_text_limit M_h_text)) [1, 2, 3, 4, 5, 6, 7, 8] rfl
  have hDc := hD.sub (ws' := (wX3 cyB cyI cyZ cyO h_text h_text_action h_text_amount h_text_tests h_text_negated h_text_subject h_text_sign h_text_limit M_h_text)) [1, 2, 3, 4, 5, 6, 7, 8] (by decide) rfl
  refine wr_callv (wc := (wX3 cyB cyI cyZ cyO h_text h_text_action h_text_amount h_text_tests h_text_negated h_text_subject h_text_sign h_text_limit M_h_text)) (wr := (wX4 cyB cyI cyZ cyO h h_at h_text M_h)) (w1 := (wX3 cyB cyI cyZ cyO h_text h_text_action h_text_amount h_text_tests h_text_negated h_text_subject h_text_sign h_text_limit M_h_text_17)) (ws' := ((wX4 cyB cyI cyZ cyO h h_at h_text M_h) ++ (wX3 cyB cyI cyZ cyO h_text h_text_action h_text_amount h_text_tests h_text_negated h_text_subject h_text_sign h_text_limit M_h_text_17))) hP hD hS hA [1, 2, 3, 4, 5, 6, 7, 8] [0] [0, 1, 2, 3, 4, 5, 6, 7, 8] rfl rfl (by decide) (by decide) rfl (by decide) (va_runV (As := [.int (M_h 6 0), .int (M_h 11 0), .int p1, .int (M_h 7 0)]) (rest := []) ⟨hx, hb, hml, hown, hts⟩ (c_X3_putLine l dC dI cyB cyI cyZ cyO h_text h_text_action h_text_amount h_text_tests h_text_negated h_text_subject h_text_sign h_text_limit _ M_h_text (M_h 6 0) (M_h 11 0) p1 (M_h 7 0) M_h_text_17 h17) (cwV 4 hts gX4_keepLine_X3_putLine rfl rfl rfl (by decide +kernel) ⟨Nat.le_of_ble_eq_true rfl, Nat.le_of_ble_eq_true rfl⟩) ⟨PW.blind, va_recv hK hP (ci := 3) (q0 := 1) rfl rfl, fun U hU hW => ⟨rfl, by rw [hU], by rw [hU]; exact hPc, hCx.warm hW, hDc.weaken (fun _ _ _ _ => trivial)⟩⟩ rfl rfl hl.1 rfl (lv_room (Nat.le_of_ble_eq_true rfl)) dX4_keepLine_17 ⟨Nat.zero_le _, Nat.zero_le _⟩) (fun H locs hP hD hS => ?_)
  refine lv_aload_n hx hb dX4_keepLine_20 rfl (lv_at hl 0 rfl) ?_
  refine lv_dup hx hb dX4_keepLine_21 rfl ?_
  refine va_get (D := (dC, dI)) (ci := 4) (v := .int (M_h 6 0)) (C := RX4) (T := TX4) (N := 12) hx hb hts hin4 hown hK hP 0 rfl rfl 6 (by decide) kf38 (fun _ h9 => h9) rfl dX4_keepLine_22 ?_
  refine lv_iconst (v := (1 : Int32)) hx hb dX4_keepLine_25 (by decide) ?_
  refine lv_iadd hx hb dX4_keepLine_26 ?_
  refine va_put (D := (dC, dI)) (ci := 4) (v := .int ((M_h 6 0) + (1 : Int32))) (ty := .int) (C := RX4) (T := TX4) (N := 12) hx hb hts hin4 tyX4 tyX4_ok nmX4 hown hK hP hD hS 0 rfl rfl 6 (by decide) kf38 (fun _ h9 => h9) rfl (by decide +kernel) rfl rfl (Nat.le_of_ble_eq_true rfl) dX4_keepLine_27 (fun H locs hP hD hS => ?_)
  obtain ⟨M_h_27, eM_h_27, hf⟩ := wr_some hf
  have hP : va_P (dC, dI) vwCl ((wX4 cyB cyI cyZ cyO h h_at h_text M_h_27) ++ (wX3 cyB cyI cyZ cyO h_text h_text_action h_text_amount h_text_tests h_text_negated h_text_subject h_text_sign h_text_limit M_h_text_17)) H := by rw [eM_h_27]; exact hP
  have hD : va_D A ((wX4 cyB cyI cyZ cyO h h_at h_text M_h_27) ++ (wX3 cyB cyI cyZ cyO h_text h_text_action h_text_amount h_text_tests h_text_negated h_text_subject h_text_sign h_text_limit M_h_text_17)) := by rw [eM_h_27]; exact hD
  refine lv_aload_n hx hb dX4_keepLine_30 rfl (lv_at hl 0 rfl) ?_
  refine lv_bipush (v := (8 : Int32)) hx hb dX4_keepLine_31 (by decide) ?_
  refine va_put (D := (dC, dI)) (ci := 4) (v := .int (8 : Int32)) (ty := .int) (C := RX4) (T := TX4) (N := 12) hx hb hts hin4 tyX4 tyX4_ok nmX4 hown hK hP hD hS 0 rfl rfl 5 (by decide) kf35 (fun _ h9 => h9) rfl (by decide +kernel) rfl rfl (Nat.le_of_ble_eq_true rfl) dX4_keepLine_33 (fun H locs hP hD hS => ?_)
  obtain ⟨M_h_33, eM_h_33, hf⟩ := wr_some hf
  have hP : va_P (dC, dI) vwCl ((wX4 cyB cyI cyZ cyO h h_at h_text M_h_33) ++ (wX3 cyB cyI cyZ cyO h_text h_text_action h_text_amount h_text_tests h_text_negated h_text_subject h_text_sign h_text_limit M_h_text_17)) H := by rw [eM_h_33]; exact hP
  have hD : va_D A ((wX4 cyB cyI cyZ cyO h h_at h_text M_h_33) ++ (wX3 cyB cyI cyZ cyO h_text h_text_action h_text_amount h_text_tests h_text_negated h_text_subject h_text_sign h_text_limit M_h_text_17)) := by rw [eM_h_33]; exact hD
  obtain ⟨hq0, hq1⟩ := pj2 hf
  subst hq0
  subst hq1
  exact W.vret hx hb hr (fun t ht hW => ⟨rfl, by rw [ht]; exact hP, hD, hS.F ht⟩) hS.2.2 dX4_keepLine_36
set_option maxHeartbeats 4000000 in
set_option maxRecDepth 100000 in
theorem c_X4_takeAction (l : Launch) (dC : Nat → ClassId) (dI : Nat → Nat → Nat) (cyB cyI cyZ cyO : ClassId) (h h_at h_text h_at_tape h_text_action h_text_amount h_text_tests h_text_negated h_text_subject h_text_sign h_text_limit : Nat) (sz : Nat) (M_h : Mem) (M_h_at : Mem) (M_h_text : Mem) (r : Int32) (R_h : Mem) (R_h_text : Mem) (hf : f_X4_takeAction M_h M_h_at M_h_text = some (r, R_h, R_h_text)) : Met l yX4_takeAction wsX4_takeAction ({ frames := 3, cells := 0, slots := 0, locals := 75 } : Room) (PW dC dI cyB cyI cyZ cyO ([.ref h] : List Value) ((wX4 cyB cyI cyZ cyO h h_at h_text M_h) ++ ((wX9 cyB cyI cyZ cyO h_at h_at_tape M_h_at) ++ (wX3 cyB cyI cyZ cyO h_text h_text_action h_text_amount h_text_tests h_text_negated h_text_subject h_text_sign h_text_limit M_h_text))) sz) (QW dC dI (some (.int r)) ((wX4 cyB cyI cyZ cyO h h_at h_text R_h) ++ ((wX9 cyB cyI cyZ cyO h_at h_at_tape M_h_at) ++ (wX3 cyB cyI cyZ cyO h_text h_text_action h_text_amount h_text_tests h_text_negated h_text_subject h_text_sign h_text_limit R_h_text))) (va_A ((wX4 cyB cyI cyZ cyO h h_at h_text M_h) ++ ((wX9 cyB cyI cyZ cyO h_at h_at_tape M_h_at) ++ (wX3 cyB cyI cyZ cyO h_text h_text_action h_text_amount h_text_tests h_text_negated h_text_subject h_text_sign h_text_limit M_h_text))) sz)) 0 0 (va_A ((wX4 cyB cyI cyZ cyO h h_at h_text M_h) ++ ((wX9 cyB cyI cyZ cyO h_at h_at_tape M_h_at) ++ (wX3 cyB cyI cyZ cyO h_text h_text_action h_text_amount h_text_tests h_text_negated h_text_subject h_text_sign h_text_limit M_h_text))) sz) := by
  refine Met.ofW (cc := cX4_takeAction) (maxL := 1) (ret := (some .boolean)) (by decide) rfl ?_
  intro p e s m args below meth c s₁ B hml hv
  obtain ⟨rfl, hsz, hP, hCx, hD0⟩ := hv
  have hK := hCx.1
  have hN := hCx.2
  have hx := B.exec
  have hb := B.bytes
  have hr := B.returns
  have hts := atoms_spec (ws := wsX4_takeAction) B.pre
  have hown : s.vm.findClass RX4 = some m.cls := findClass_of_methodNamed B.named
  have hlocks := B.notSynchronized
  have hin4 : ∀ w ∈ u_ws RX4 TX4 12, w ∈ wsX4_takeAction := fun w h => List.mem_cons_of_mem _ (List.mem_append_left _ (List.mem_append_left _ (List.mem_append_right _ h)))
  have hin9 : ∀ w ∈ u_ws RX9 TX9 5, w ∈ wsX4_takeAction := fun w h => List.mem_cons_of_mem _ (List.mem_append_left _ (List.mem_append_right _ h))
  have kf12 := hts (.fieldLink RX4 12 "HoldSlips$DecreeReader" "at" "LHoldSlips$TokenReader;") (by decide +kernel)
  have kf35 := hts (.fieldLink RX4 35 "HoldSlips$DecreeReader" "state" "I") (by decide +kernel)
  have kf54 := hts (.fieldLink RX4 54 "HoldSlips$DecreeReader" "action" "I") (by decide +kernel)
  have kf66 := hts (.fieldLink RX4 66 "HoldSlips$TokenReader" "token" "I") (by decide +kernel)
  subst hsz
  have hD := hD0.self (sz := s.heap.size)
  generalize hAe : va_A ((wX4 cyB cyI cyZ cyO h h_at h_text M_h) ++ ((wX9 cyB cyI cyZ cyO h_at h_at_tape M_h_at) ++ (wX3 cyB cyI cyZ cyO h_text h_text_action h_text_amount h_text_tests h_text_negated h_text_subject h_text_sign h_text_limit M_h_text))) s.heap.size = A at hD ⊢
  have hA : ∀ q : Nat, s.heap.size ≤ q → A q := fun q h => by rw [← hAe]; exact Or.inr h
  have hS : va_S A s.heap s.heap [] := va_S.rf
  have hl := lv_entry ([.ref h] : List Value) (n := 1) (Nat.le_of_ble_eq_true rfl)
  rw [lg_entry_eq]
  generalize (lg_sl ([.ref h] : List Value) ++ List.replicate (1 - (lg_sl ([.ref h] : List Value)).length) Slot.unset).toArray = ls at hl ⊢
  have hl : lv_has ls 1 [(0, .ref h)] := hl
  rw [f_X4_takeAction] at hf
  refine lv_aload_n hx hb dX4_takeAction_0 rfl (lv_at hl 0 rfl) ?_
  refine va_get (D := (dC, dI)) (ci := 4) (v := .ref h_at) (C := RX4) (T := TX4) (N := 12) hx hb hts hin4 hown hK hP 0 rfl rfl 0 (by decide) kf12 (fun _ h9 => h9) rfl dX4_takeAction_1 ?_
  refine va_get (D := (dC, dI)) (ci := 9) (v := .int (M_h_at 1 0)) (C := RX9) (T := TX9) (N := 5) hx hb hts hin9 hown hK hP 1 rfl rfl 1 (by decide) kf66 (fun _ h9 => h9) rfl dX4_takeAction_4 ?_
  refine lv_bipush (v := (6 : Int32)) hx hb dX4_takeAction_7 (by decide) ?_
  refine lv_bipush (v := (8 : Int32)) hx hb dX4_takeAction_9 (by decide) ?_
  obtain ⟨r11, h11, hf⟩ := bd1_some hf
  have hPc := hP.sub (ws' := ([] : va_W)) [] rfl
  refine ro_calli (va_runSN (As := [.int (M_h_at 1 0), .int (6 : Int32), .int (8 : Int32)]) (rest := []) ⟨hx, hb, hml, hown, hts⟩ (c_X11_within l dC dI cyB cyI cyZ cyO (M_h_at 1 0) (6 : Int32) (8 : Int32) r11 h11) ⟨va_cnB 3 hts gX4_takeAction_X11_within_n109 rfl rfl rfl (hN _ (by decide +kernel : Cond.methodLinkNest RX4 109 yX11_within "HoldSlips" ∈ nw_all)) (hts (.initialized RX11) (by decide +kernel)) (by decide +kernel) ⟨Nat.le_of_ble_eq_true rfl, Nat.le_of_ble_eq_true rfl⟩, hts (.static yX11_within) (by decide +kernel), trivial⟩ ⟨PR.blind, fun U hU hW => ⟨rfl, by rw [hU]; exact hPc, hCx.warm hW⟩⟩ rfl rfl hl.1 rfl (lv_room (Nat.le_of_ble_eq_true rfl)) dX4_takeAction_11 ⟨Nat.zero_le _, Nat.zero_le _⟩) ?_
  refine lv_if_ne (tgt := 19) hx hb dX4_takeAction_14 (by decide) (fun hc14 => ?_) (fun hc14 => ?_)
  · rw [if_neg hc14] at hf
    refine lv_aload_n hx hb dX4_takeAction_19 rfl (lv_at hl 0 rfl) ?_
    refine lv_aload_n hx hb dX4_takeAction_20 rfl (lv_at hl 0 rfl) ?_
    refine va_get (D := (dC, dI)) (ci := 4) (v := .ref h_at) (C := RX4) (T := TX4) (N := 12) hx hb hts hin4 hown hK hP 0 rfl rfl 0 (by decide) kf12 (fun _ h9 => h9) rfl dX4_takeAction_21 ?_
    refine va_get (D := (dC, dI)) (ci := 9) (v := .int (M_h_at 1 0)) (C := RX9) (T := TX9) (N := 5) hx hb hts hin9 hown hK hP 1 rfl rfl 1 (by decide) kf66 (fun _ h9 => h9) rfl dX4_takeAction_24 ?_
    refine va_put (D := (dC, dI)) (ci := 4) (v := .int (M_h_at 1 0)) (ty := .int) (C := RX4) (T := TX4) (N := 12) hx hb hts hin4 tyX4 tyX4_ok nmX4 hown hK hP hD hS 0 rfl rfl 11 (by decide) kf54 (fun _ h9 => h9) rfl (by decide +kernel) rfl rfl (Nat.le_of_ble_eq_true rfl) dX4_takeAction_27 (fun H locs hP hD hS => ?_)
    obtain ⟨M_h_27, eM_h_27, hf⟩ := wr_some hf
    have hP : va_P (dC, dI) vwCl ((wX4 cyB cyI cyZ cyO h h_at h_text M_h_27) ++ ((wX9 cyB cyI cyZ cyO h_at h_at_tape M_h_at) ++ (wX3 cyB cyI cyZ cyO h_text h_text_action h_text_amount h_text_tests h_text_negated h_text_subject h_text_sign h_text_limit M_h_text))) H := by rw [eM_h_27]; exact hP
    have hD : va_D A ((wX4 cyB cyI cyZ cyO h h_at h_text M_h_27) ++ ((wX9 cyB cyI cyZ cyO h_at h_at_tape M_h_at) ++ (wX3 cyB cyI cyZ cyO h_text h_text_action h_text_amount h_text_tests h_text_negated h_text_subject h_text_sign h_text_limit M_h_text))) := by rw [eM_h_27]; exact hD
    refine lv_aload_n hx hb dX4_takeAction_30 rfl (lv_at hl 0 rfl) ?_
    refine va_get (D := (dC, dI)) (ci := 4) (v := .int (M_h_27 11 0)) (C := RX4) (T := TX4) (N := 12) hx hb hts hin4 hown hK hP 0 rfl rfl 11 (by decide) kf54 (fun _ h9 => h9) rfl dX4_takeAction_31 ?_
    refine lv_bipush (v := (8 : Int32)) hx hb dX4_takeAction_34 (by decide) ?_
    refine lv_icmp_ne (tgt := 47) hx hb dX4_takeAction_36 (by decide) (fun hc36 => ?_) (fun hc36 => ?_)
    · rw [if_neg hc36] at hf
      refine lv_aload_n hx hb dX4_takeAction_47 rfl (lv_at hl 0 rfl) ?_
      refine lv_bipush (v := (7 : Int32)) hx hb dX4_takeAction_48 (by decide) ?_
      refine va_put (D := (dC, dI)) (ci := 4) (v := .int (7 : Int32)) (ty := .int) (C := RX4) (T := TX4) (N := 12) hx hb hts hin4 tyX4 tyX4_ok nmX4 hown hK hP hD hS 0 rfl rfl 5 (by decide) kf35 (fun _ h9 => h9) rfl (by decide +kernel) rfl rfl (Nat.le_of_ble_eq_true rfl) dX4_takeAction_50 (fun H locs hP hD hS => ?_)
      obtain ⟨M_h_50, eM_h_50, hf⟩ := wr_some hf
      have hP : va_P (dC, dI) vwCl ((wX4 cyB cyI cyZ cyO h h_at h_text M_h_50) ++ ((wX9 cyB cyI cyZ cyO h_at h_at_tape M_h_at) ++ (wX3 cyB cyI cyZ cyO h_text h_text_action h_text_amount h_text_tests h_text_negated h_text_subject h_text_sign h_text_limit M_h_text))) H := by rw [eM_h_50]; exact hP
      have hD : va_D A ((wX4 cyB cyI cyZ cyO h h_at h_text M_h_50) ++ ((wX9 cyB cyI cyZ cyO h_at h_at_tape M_h_at) ++ (wX3 cyB cyI cyZ cyO h_text h_text_action h_text_amount h_text_tests h_text_negated h_text_subject h_text_sign h_text_limit M_h_text))) := by rw [eM_h_50]; exact hD
      refine lv_iconst (v := (1 : Int32)) hx hb dX4_takeAction_53 (by decide) ?_
      obtain ⟨hq0, hq1, hq2⟩ := pj3 hf
      subst hq0
      subst hq1
      subst hq2
      exact W.zret (v := (1 : Int32)) hx hb hr rfl (fun t ht hW => ⟨rfl, by rw [ht]; exact hP, hD, hS.F ht⟩) hS.2.2 dX4_takeAction_54
    · rw [if_pos hc36] at hf
      refine lv_aload_n hx hb dX4_takeAction_39 rfl (lv_at hl 0 rfl) ?_
      refine lv_iconst (v := (0 : Int32)) hx hb dX4_takeAction_40 (by decide) ?_
      obtain ⟨M_h_41, M_h_text_41, h41, hf⟩ := bd2_some hf
      have hPc := hP.sub (ws' := ((wX4 cyB cyI cyZ cyO h h_at h_text M_h_27) ++ (wX3 cyB cyI cyZ cyO h_text h_text_action h_text_amount h_text_tests h_text_negated h_text_subject h_text_sign h_text_limit M_h_text))) [0, 2, 3, 4, 5, 6, 7, 8, 9] rfl
      have hDc := hD.sub (ws' := ((wX4 cyB cyI cyZ cyO h h_at h_text M_h_27) ++ (wX3 cyB cyI cyZ cyO h_text h_text_action h_text_amount h_text_tests h_text_negated h_text_subject h_text_sign h_text_limit M_h_text))) [0, 2, 3, 4, 5, 6, 7, 8, 9] (by decide) rfl
      refine wr_callv (wc := ((wX4 cyB cyI cyZ cyO h h_at h_text M_h_27) ++ (wX3 cyB cyI cyZ cyO h_text h_text_action h_text_amount h_text_tests h_text_negated h_text_subject h_text_sign h_text_limit M_h_text))) (wr := (wX9 cyB cyI cyZ cyO h_at h_at_tape M_h_at)) (w1 := ((wX4 cyB cyI cyZ cyO h h_at h_text M_h_41) ++ (wX3 cyB cyI cyZ cyO h_text h_text_action h_text_amount h_text_tests h_text_negated h_text_subject h_text_sign h_text_limit M_h_text_41))) (ws' := ((wX4 cyB cyI cyZ cyO h h_at h_text M_h_41) ++ ((wX9 cyB cyI cyZ cyO h_at h_at_tape M_h_at) ++ (wX3 cyB cyI cyZ cyO h_text h_text_action h_text_amount h_text_tests h_text_negated h_text_subject h_text_sign h_text_limit M_h_text_41)))) hP hD hS hA [0, 2, 3, 4, 5, 6, 7, 8, 9] [1] [1, 0, 2, 3, 4, 5, 6, 7, 8, 9] rfl rfl (by decide) (by decide) rfl (by decide) (va_runV (As := [.int (0 : Int32)]) (rest := []) ⟨hx, hb, hml, hown, hts⟩ (c_X4_keepLine l dC dI cyB cyI cyZ cyO h h_at h_text h_text_action h_text_amount h_text_tests h_text_negated h_text_subject h_text_sign h_text_limit _ M_h_27 M_h_text (0 : Int32) M_h_41 M_h_text_41 h41) (cwV 1 hts gX4_takeAction_X4_keepLine rfl rfl rfl (by decide +kernel) ⟨Nat.le_of_ble_eq_true rfl, Nat.le_of_ble_eq_true rfl⟩) ⟨PW.blind, va_recv hK hP (ci := 4) (q0 := 0) rfl rfl, fun U hU hW => ⟨rfl, by rw [hU], by rw [hU]; exact hPc, hCx.warm hW, hDc.weaken (fun _ _ _ _ => trivial)⟩⟩ rfl rfl hl.1 rfl (lv_room (Nat.le_of_ble_eq_true rfl)) dX4_takeAction_41 ⟨Nat.zero_le _, Nat.zero_le _⟩) (fun H locs hP hD hS => ?_)
      refine lv_goto (tgt := 53) hx hb dX4_takeAction_44 (by decide) ?_
      refine lv_iconst (v := (1 : Int32)) hx hb dX4_takeAction_53 (by decide) ?_
      obtain ⟨hq0, hq1, hq2⟩ := pj3 hf
      subst hq0
      subst hq1
      subst hq2
      exact W.zret (v := (1 : Int32)) hx hb hr rfl (fun t ht hW => ⟨rfl, by rw [ht]; exact hP, hD, hS.F ht⟩) hS.2.2 dX4_takeAction_54
  · rw [if_pos hc14] at hf
    refine lv_iconst (v := (0 : Int32)) hx hb dX4_takeAction_17 (by decide) ?_
    obtain ⟨hq0, hq1, hq2⟩ := pj3 hf
    subst hq0
    subst hq1
    subst hq2
    exact W.zret (v := (0 : Int32)) hx hb hr rfl (fun t ht hW => ⟨rfl, by rw [ht]; exact hP, hD, hS.F ht⟩) hS.2.2 dX4_takeAction_18
set_option maxHeartbeats 4000000 in
set_option maxRecDepth 100000 in
theorem c_X4_takeAmount (l : Launch) (dC : Nat → ClassId) (dI : Nat → Nat → Nat) (cyB cyI cyZ cyO : ClassId) (h h_at h_text h_at_tape h_text_action h_text_amount h_text_tests h_text_negated h_text_subject h_text_sign h_text_limit : Nat) (sz : Nat) (M_h : Mem) (M_h_at : Mem) (M_h_text : Mem) (r : Int32) (R_h : Mem) (R_h_text : Mem) (hf : f_X4_takeAmount M_h M_h_at M_h_text = some (r, R_h, R_h_text)) : Met l yX4_takeAmount wsX4_takeAmount ({ frames := 3, cells := 0, slots := 0, locals := 75 } : Room) (PW dC dI cyB cyI cyZ cyO ([.ref h] : List Value) ((wX4 cyB cyI cyZ cyO h h_at h_text M_h) ++ ((wX9 cyB cyI cyZ cyO h_at h_at_tape M_h_at) ++ (wX3 cyB cyI cyZ cyO h_text h_text_action h_text_amount h_text_tests h_text_negated h_text_subject h_text_sign h_text_limit M_h_text))) sz) (QW dC dI (some (.int r)) ((wX4 cyB cyI cyZ cyO h h_at h_text R_h) ++ ((wX9 cyB cyI cyZ cyO h_at h_at_tape M_h_at) ++ (wX3 cyB cyI cyZ cyO h_text h_text_action h_text_amount h_text_tests h_text_negated h_text_subject h_text_sign h_text_limit R_h_text))) (va_A ((wX4 cyB cyI cyZ cyO h h_at h_text M_h) ++ ((wX9 cyB cyI cyZ cyO h_at h_at_tape M_h_at) ++ (wX3 cyB cyI cyZ cyO h_text h_text_action h_text_amount h_text_tests h_text_negated h_text_subject h_text_sign h_text_limit M_h_text))) sz)) 0 0 (va_A ((wX4 cyB cyI cyZ cyO h h_at h_text M_h) ++ ((wX9 cyB cyI cyZ cyO h_at h_at_tape M_h_at) ++ (wX3 cyB cyI cyZ cyO h_text h_text_action h_text_amount h_text_tests h_text_negated h_text_subject h_text_sign h_text_limit M_h_text))) sz) := by
  refine Met.ofW (cc := cX4_takeAmount) (maxL := 1) (ret := (some .boolean)) (by decide) rfl ?_
  intro p e s m args below meth c s₁ B hml hv
  obtain ⟨rfl, hsz, hP, hCx, hD0⟩ := hv
  have hK := hCx.1
  have hN := hCx.2
  have hx := B.exec
  have hb := B.bytes
  have hr := B.returns
  have hts := atoms_spec (ws := wsX4_takeAmount) B.pre
  have hown : s.vm.findClass RX4 = some m.cls := findClass_of_methodNamed B.named
  have hlocks := B.notSynchronized
  have hin4 : ∀ w ∈ u_ws RX4 TX4 12, w ∈ wsX4_takeAmount := fun w h => List.mem_cons_of_mem _ (List.mem_append_left _ (List.mem_append_left _ (List.mem_append_right _ h)))
  have hin9 : ∀ w ∈ u_ws RX9 TX9 5, w ∈ wsX4_takeAmount := fun w h => List.mem_cons_of_mem _ (List.mem_append_left _ (List.mem_append_right _ h))
  have kf12 := hts (.fieldLink RX4 12 "HoldSlips$DecreeReader" "at" "LHoldSlips$TokenReader;") (by decide +kernel)
  have kf66 := hts (.fieldLink RX4 66 "HoldSlips$TokenReader" "token" "I") (by decide +kernel)
  have kf117 := hts (.fieldLink RX4 117 "HoldSlips$TokenReader" "number" "I") (by decide +kernel)
  subst hsz
  have hD := hD0.self (sz := s.heap.size)
  generalize hAe : va_A ((wX4 cyB cyI cyZ cyO h h_at h_text M_h) ++ ((wX9 cyB cyI cyZ cyO h_at h_at_tape M_h_at) ++ (wX3 cyB cyI cyZ cyO h_text h_text_action h_text_amount h_text_tests h_text_negated h_text_subject h_text_sign h_text_limit M_h_text))) s.heap.size = A at hD ⊢
  have hA : ∀ q : Nat, s.heap.size ≤ q → A q := fun q h => by rw [← hAe]; exact Or.inr h
  have hS : va_S A s.heap s.heap [] := va_S.rf
  have hl := lv_entry ([.ref h] : List Value) (n := 1) (Nat.le_of_ble_eq_true rfl)
  rw [lg_entry_eq]
  generalize (lg_sl ([.ref h] : List Value) ++ List.replicate (1 - (lg_sl ([.ref h] : List Value)).length) Slot.unset).toArray = ls at hl ⊢
  have hl : lv_has ls 1 [(0, .ref h)] := hl
  rw [f_X4_takeAmount] at hf
  refine lv_aload_n hx hb dX4_takeAmount_0 rfl (lv_at hl 0 rfl) ?_
  refine va_get (D := (dC, dI)) (ci := 4) (v := .ref h_at) (C := RX4) (T := TX4) (N := 12) hx hb hts hin4 hown hK hP 0 rfl rfl 0 (by decide) kf12 (fun _ h9 => h9) rfl dX4_takeAmount_1 ?_
  refine va_get (D := (dC, dI)) (ci := 9) (v := .int (M_h_at 1 0)) (C := RX9) (T := TX9) (N := 5) hx hb hts hin9 hown hK hP 1 rfl rfl 1 (by decide) kf66 (fun _ h9 => h9) rfl dX4_takeAmount_4 ?_
  refine lv_bipush (v := (12 : Int32)) hx hb dX4_takeAmount_7 (by decide) ?_
  refine lv_icmp_eq (tgt := 14) hx hb dX4_takeAmount_9 (by decide) (fun hc9 => ?_) (fun hc9 => ?_)
  · rw [if_pos hc9] at hf
    refine lv_aload_n hx hb dX4_takeAmount_14 rfl (lv_at hl 0 rfl) ?_
    refine lv_aload_n hx hb dX4_takeAmount_15 rfl (lv_at hl 0 rfl) ?_
    refine va_get (D := (dC, dI)) (ci := 4) (v := .ref h_at) (C := RX4) (T := TX4) (N := 12) hx hb hts hin4 hown hK hP 0 rfl rfl 0 (by decide) kf12 (fun _ h9 => h9) rfl dX4_takeAmount_16 ?_
    refine va_get (D := (dC, dI)) (ci := 9) (v := .int (M_h_at 4 0)) (C := RX9) (T := TX9) (N := 5) hx hb hts hin9 hown hK hP 1 rfl rfl 4 (by decide) kf117 (fun _ h9 => h9) rfl dX4_takeAmount_19 ?_
    obtain ⟨M_h_22, M_h_text_22, h22, hf⟩ := bd2_some hf
    have hPc := hP.sub (ws' := ((wX4 cyB cyI cyZ cyO h h_at h_text M_h) ++ (wX3 cyB cyI cyZ cyO h_text h_text_action h_text_amount h_text_tests h_text_negated h_text_subject h_text_sign h_text_limit M_h_text))) [0, 2, 3, 4, 5, 6, 7, 8, 9] rfl
    have hDc := hD.sub (ws' := ((wX4 cyB cyI cyZ cyO h h_at h_text M_h) ++ (wX3 cyB cyI cyZ cyO h_text h_text_action h_text_amount h_text_tests h_text_negated h_text_subject h_text_sign h_text_limit M_h_text))) [0, 2, 3, 4, 5, 6, 7, 8, 9] (by decide) rfl
    refine wr_callv (wc := ((wX4 cyB cyI cyZ cyO h h_at h_text M_h) ++ (wX3 cyB cyI cyZ cyO h_text h_text_action h_text_amount h_text_tests h_text_negated h_text_subject h_text_sign h_text_limit M_h_text))) (wr := (wX9 cyB cyI cyZ cyO h_at h_at_tape M_h_at)) (w1 := ((wX4 cyB cyI cyZ cyO h h_at h_text M_h_22) ++ (wX3 cyB cyI cyZ cyO h_text h_text_action h_text_amount h_text_tests h_text_negated h_text_subject h_text_sign h_text_limit M_h_text_22))) (ws' := ((wX4 cyB cyI cyZ cyO h h_at h_text M_h_22) ++ ((wX9 cyB cyI cyZ cyO h_at h_at_tape M_h_at) ++ (wX3 cyB cyI cyZ cyO h_text h_text_action h_text_amount h_text_tests h_text_negated h_text_subject h_text_sign h_text_limit M_h_text_22)))) hP hD hS hA [0, 2, 3, 4, 5, 6, 7, 8, 9] [1] [1, 0, 2, 3, 4, 5, 6, 7, 8, 9] rfl rfl (by decide) (by decide) rfl (by decide) (va_runV (As := [.int (M_h_at 4 0)]) (rest := []) ⟨hx, hb, hml, hown, hts⟩ (c_X4_keepLine l dC dI cyB cyI cyZ cyO h h_at h_text h_text_action h_text_amount h_text_tests h_text_negated h_text_subject h_text_sign h_text_limit _ M_h M_h_text (M_h_at 4 0) M_h_22 M_h_text_22 h22) (cwV 1 hts gX4_takeAmount_X4_keepLine rfl rfl rfl (by decide +kernel) ⟨Nat.le_of_ble_eq_true rfl, Nat.le_of_ble_eq_true rfl⟩) ⟨PW.blind, va_recv hK hP (ci := 4) (q0 := 0) rfl rfl, fun U hU hW => ⟨rfl, by rw [hU], by rw [hU]; exact hPc, hCx.warm hW, hDc.weaken (fun _ _ _ _ => trivial)⟩⟩ rfl rfl hl.1 rfl (lv_room (Nat.le_of_ble_eq_true rfl)) dX4_takeAmount_22 ⟨Nat.zero_le _, Nat.zero_le _⟩) (fun H locs hP hD hS => ?_)
    refine lv_iconst (v := (1 : Int32)) hx hb dX4_takeAmount_25 (by decide) ?_
    obtain ⟨hq0, hq1, hq2⟩ := pj3 hf
    subst hq0
    subst hq1
    subst hq2
    exact W.zret (v := (1 : Int32)) hx hb hr rfl (fun t ht hW => ⟨rfl, by rw [ht]; exact hP, hD, hS.F ht⟩) hS.2.2 dX4_takeAmount_26
  · rw [if_neg hc9] at hf
    refine lv_iconst (v := (0 : Int32)) hx hb dX4_takeAmount_12 (by decide) ?_
    obtain ⟨hq0, hq1, hq2⟩ := pj3 hf
    subst hq0
    subst hq1
    subst hq2
    exact W.zret (v := (0 : Int32)) hx hb hr rfl (fun t ht hW => ⟨rfl, by rw [ht]; exact hP, hD, hS.F ht⟩) hS.2.2 dX4_takeAmount_13
set_option maxHeartbeats 4000000 in
set_option maxRecDepth 100000 in
theorem c_X4_takeComparison (l : Launch) (dC : Nat → ClassId) (dI : Nat → Nat → Nat) (cyB cyI cyZ cyO : ClassId) (h h_at h_text h_at_tape : Nat) (sz : Nat) (M_h : Mem) (M_h_at : Mem) (r : Int32) (R_h : Mem) (hf : f_X4_takeComparison M_h M_h_at = some (r, R_h)) : Met l yX4_takeComparison wsX4_takeComparison ({ frames := 0, cells := 0, slots := 0, locals := 0 } : Room) (PW dC dI cyB cyI cyZ cyO ([.ref h] : List Value) ((wX4 cyB cyI cyZ cyO h h_at h_text M_h) ++ (wX9 cyB cyI cyZ cyO h_at h_at_tape M_h_at)) sz) (QW dC dI (some (.int r)) ((wX4 cyB cyI cyZ cyO h h_at h_text R_h) ++ (wX9 cyB cyI cyZ cyO h_at h_at_tape M_h_at)) (va_A ((wX4 cyB cyI cyZ cyO h h_at h_text M_h) ++ (wX9 cyB cyI cyZ cyO h_at h_at_tape M_h_at)) sz)) 0 0 (va_A ((wX4 cyB cyI cyZ cyO h h_at h_text M_h) ++ (wX9 cyB cyI cyZ cyO h_at h_at_tape M_h_at)) sz) := by
  refine Met.ofW (cc := cX4_takeComparison) (maxL := 1) (ret := (some .boolean)) (by decide) rfl ?_
  intro p e s m args below meth c s₁ B hml hv
  obtain ⟨rfl, hsz, hP, hCx, hD0⟩ := hv
  have hK := hCx.1
  have hN := hCx.2
  have hx := B.exec
  have hb := B.bytes
  have hr := B.returns
  have hts := atoms_spec (ws := wsX4_takeComparison) B.pre
  have hown : s.vm.findClass RX4 = some m.cls := findClass_of_methodNamed B.named
  have hlocks := B.notSynchronized
  have hin4 : ∀ w ∈ u_ws RX4 TX4 12, w ∈ wsX4_takeComparison := fun w h => List.mem_cons_of_mem _ (List.mem_append_left _ (List.mem_append_right _ h))
  have hin9 : ∀ w ∈ u_ws RX9 TX9 5, w ∈ wsX4_takeComparison := fun w h => List.mem_cons_of_mem _ (List.mem_append_right _ h)
  have kf12 := hts (.fieldLink RX4 12 "HoldSlips$DecreeReader" "at" "LHoldSlips$TokenReader;") (by decide +kernel)
  have kf35 := hts (.fieldLink RX4 35 "HoldSlips$DecreeReader" "state" "I") (by decide +kernel)
  have kf51 := hts (.fieldLink RX4 51 "HoldSlips$DecreeReader" "sign" "I") (by decide +kernel)
  have kf66 := hts (.fieldLink RX4 66 "HoldSlips$TokenReader" "token" "I") (by decide +kernel)
  subst hsz
  have hD := hD0.self (sz := s.heap.size)
  generalize hAe : va_A ((wX4 cyB cyI cyZ cyO h h_at h_text M_h) ++ (wX9 cyB cyI cyZ cyO h_at h_at_tape M_h_at)) s.heap.size = A at hD ⊢
  have hA : ∀ q : Nat, s.heap.size ≤ q → A q := fun q h => by rw [← hAe]; exact Or.inr h
  have hS : va_S A s.heap s.heap [] := va_S.rf
  have hl := lv_entry ([.ref h] : List Value) (n := 1) (Nat.le_of_ble_eq_true rfl)
  rw [lg_entry_eq]
  generalize (lg_sl ([.ref h] : List Value) ++ List.replicate (1 - (lg_sl ([.ref h] : List Value)).length) Slot.unset).toArray = ls at hl ⊢
  have hl : lv_has ls 1 [(0, .ref h)] := hl
  have L38 : ∀ (M_h : Mem) (H : Heap) (locs : List Loc) (ls : Array Slot), f_X4_takeComparison_L38 M_h M_h_at = some (r, R_h) → va_P (dC, dI) vwCl ((wX4 cyB cyI cyZ cyO h h_at h_text M_h) ++ (wX9 cyB cyI cyZ cyO h_at h_at_tape M_h_at)) H → va_D A ((wX4 cyB cyI cyZ cyO h h_at h_text M_h) ++ (wX9 cyB cyI cyZ cyO h_at h_at_tape M_h_at)) → va_S A s.heap H locs → lv_has ls 1 [(0, .ref h)] → W p l e (headSpec wsX4_takeComparison ({ frames := 0, cells := 0, slots := 0, locals := 0 } : Room)).room s m ([.ref h] : List Value).toArray below meth c H locs 0 0 (MQ below (QW dC dI (some (.int r)) ((wX4 cyB cyI cyZ cyO h h_at h_text R_h) ++ (wX9 cyB cyI cyZ cyO h_at h_at_tape M_h_at)) A) ([.ref h] : List Value).toArray s 0 0 A) (F0 m 38 ls []) := by
    intro  M_h H locs ls hf hP hD hS hl
    rw [f_X4_takeComparison_L38] at hf
    refine lv_aload_n hx hb dX4_takeComparison_38 rfl (lv_at hl 0 rfl) ?_
    refine lv_aload_n hx hb dX4_takeComparison_39 rfl (lv_at hl 0 rfl) ?_
    refine va_get (D := (dC, dI)) (ci := 4) (v := .ref h_at) (C := RX4) (T := TX4) (N := 12) hx hb hts hin4 hown hK hP 0 rfl rfl 0 (by decide) kf12 (fun _ h9 => h9) rfl dX4_takeComparison_40 ?_
    refine va_get (D := (dC, dI)) (ci := 9) (v := .int (M_h_at 1 0)) (C := RX9) (T := TX9) (N := 5) hx hb hts hin9 hown hK hP 1 rfl rfl 1 (by decide) kf66 (fun _ h9 => h9) rfl dX4_takeComparison_43 ?_
    refine va_put (D := (dC, dI)) (ci := 4) (v := .int (M_h_at 1 0)) (ty := .int) (C := RX4) (T := TX4) (N := 12) hx hb hts hin4 tyX4 tyX4_ok nmX4 hown hK hP hD hS 0 rfl rfl 10 (by decide) kf51 (fun _ h9 => h9) rfl (by decide +kernel) rfl rfl (Nat.le_of_ble_eq_true rfl) dX4_takeComparison_46 (fun H locs hP hD hS => ?_)
    obtain ⟨M_h_46, eM_h_46, hf⟩ := wr_some hf
    have hP : va_P (dC, dI) vwCl ((wX4 cyB cyI cyZ cyO h h_at h_text M_h_46) ++ (wX9 cyB cyI cyZ cyO h_at h_at_tape M_h_at)) H := by rw [eM_h_46]; exact hP
    have hD : va_D A ((wX4 cyB cyI cyZ cyO h h_at h_text M_h_46) ++ (wX9 cyB cyI cyZ cyO h_at h_at_tape M_h_at)) := by rw [eM_h_46]; exact hD
    refine lv_aload_n hx hb dX4_takeComparison_49 rfl (lv_at hl 0 rfl) ?_
    refine lv_iconst (v := (4 : Int32)) hx hb dX4_takeComparison_50 (by decide) ?_
    refine va_put (D := (dC, dI)) (ci := 4) (v := .int (4 : Int32)) (ty := .int) (C := RX4) (T := TX4) (N := 12) hx hb hts hin4 tyX4 tyX4_ok nmX4 hown hK hP hD hS 0 rfl rfl 5 (by decide) kf35 (fun _ h9 => h9) rfl (by decide +kernel) rfl rfl (Nat.le_of_ble_eq_true rfl) dX4_takeComparison_51 (fun H locs hP hD hS => ?_)
    obtain ⟨M_h_51, eM_h_51, hf⟩ := wr_some hf
    have hP : va_P (dC, dI) vwCl ((wX4 cyB cyI cyZ cyO h h_at h_text M_h_51) ++ (wX9 cyB cyI cyZ cyO h_at h_at_tape M_h_at)) H := by rw [eM_h_51]; exact hP
    have hD : va_D A ((wX4 cyB cyI cyZ cyO h h_at h_text M_h_51) ++ (wX9 cyB cyI cyZ cyO h_at h_at_tape M_h_at)) := by rw [eM_h_51]; exact hD
    refine lv_iconst (v := (1 : Int32)) hx hb dX4_takeComparison_54 (by decide) ?_
    obtain ⟨hq0, hq1⟩ := pj2 hf
    subst hq0
    subst hq1
    exact W.zret (v := (1 : Int32)) hx hb hr rfl (fun t ht hW => ⟨rfl, by rw [ht]; exact hP, hD, hS.F ht⟩) hS.2.2 dX4_takeComparison_55
  rw [f_X4_takeComparison] at hf
  refine lv_aload_n hx hb dX4_takeComparison_0 rfl (lv_at hl 0 rfl) ?_
  refine va_get (D := (dC, dI)) (ci := 4) (v := .ref h_at) (C := RX4) (T := TX4) (N := 12) hx hb hts hin4 hown hK hP 0 rfl rfl 0 (by decide) kf12 (fun _ h9 => h9) rfl dX4_takeComparison_1 ?_
  refine va_get (D := (dC, dI)) (ci := 9) (v := .int (M_h_at 1 0)) (C := RX9) (T := TX9) (N := 5) hx hb hts hin9 hown hK hP 1 rfl rfl 1 (by decide) kf66 (fun _ h9 => h9) rfl dX4_takeComparison_4 ?_
  refine lv_bipush (v := (60 : Int32)) hx hb dX4_takeComparison_7 (by decide) ?_
  refine lv_icmp_eq (tgt := 38) hx hb dX4_takeComparison_9 (by decide) (fun hc9 => ?_) (fun hc9 => ?_)
  · rw [if_pos hc9] at hf
    exact L38 M_h _ _ ls hf hP hD hS (lv_sub hl [0] rfl)
  · rw [if_neg hc9] at hf
    refine lv_aload_n hx hb dX4_takeComparison_12 rfl (lv_at hl 0 rfl) ?_
    refine va_get (D := (dC, dI)) (ci := 4) (v := .ref h_at) (C := RX4) (T := TX4) (N := 12) hx hb hts hin4 hown hK hP 0 rfl rfl 0 (by decide) kf12 (fun _ h9 => h9) rfl dX4_takeComparison_13 ?_
    refine va_get (D := (dC, dI)) (ci := 9) (v := .int (M_h_at 1 0)) (C := RX9) (T := TX9) (N := 5) hx hb hts hin9 hown hK hP 1 rfl rfl 1 (by decide) kf66 (fun _ h9 => h9) rfl dX4_takeComparison_16 ?_
    refine lv_bipush (v := (62 : Int32)) hx hb dX4_takeComparison_19 (by decide) ?_
    refine lv_icmp_eq (tgt := 38) hx hb dX4_takeComparison_21 (by decide) (fun hc21 => ?_) (fun hc21 => ?_)
    · rw [if_pos hc21] at hf
      exact L38 M_h _ _ ls hf hP hD hS (lv_sub hl [0] rfl)
    · rw [if_neg hc21] at hf
      refine lv_aload_n hx hb dX4_takeComparison_24 rfl (lv_at hl 0 rfl) ?_
      refine va_get (D := (dC, dI)) (ci := 4) (v := .ref h_at) (C := RX4) (T := TX4) (N := 12) hx hb hts hin4 hown hK hP 0 rfl rfl 0 (by decide) kf12 (fun _ h9 => h9) rfl dX4_takeComparison_25 ?_
      refine va_get (D := (dC, dI)) (ci := 9) (v := .int (M_h_at 1 0)) (C := RX9) (T := TX9) (N := 5) hx hb hts hin9 hown hK hP 1 rfl rfl 1 (by decide) kf66 (fun _ h9 => h9) rfl dX4_takeComparison_28 ?_
      refine lv_bipush (v := (61 : Int32)) hx hb dX4_takeComparison_31 (by decide) ?_
      refine lv_icmp_eq (tgt := 38) hx hb dX4_takeComparison_33 (by decide) (fun hc33 => ?_) (fun hc33 => ?_)
      · rw [if_pos hc33] at hf
        exact L38 M_h _ _ ls hf hP hD hS (lv_sub hl [0] rfl)
      · rw [if_neg hc33] at hf
        refine lv_iconst (v := (0 : Int32)) hx hb dX4_takeComparison_36 (by decide) ?_
        obtain ⟨hq0, hq1⟩ := pj2 hf
        subst hq0
        subst hq1
        exact W.zret (v := (0 : Int32)) hx hb hr rfl (fun t ht hW => ⟨rfl, by rw [ht]; exact hP, hD, hS.F ht⟩) hS.2.2 dX4_takeComparison_37
set_option maxHeartbeats 4000000 in
set_option maxRecDepth 100000 in
theorem c_X4_keepTest (l : Launch) (dC : Nat → ClassId) (dI : Nat → Nat → Nat) (cyB cyI cyZ cyO : ClassId) (h h_at h_text h_text_action h_text_amount h_text_tests h_text_negated h_text_subject h_text_sign h_text_limit : Nat) (sz : Nat) (M_h : Mem) (M_h_text : Mem) (p1 : Int32) (p2 : Int32) (R_h : Mem) (R_h_text : Mem) (hf : f_X4_keepTest M_h M_h_text p1 p2 = some (R_h, R_h_text)) : Met l yX4_keepTest wsX4_keepTest ({ frames := 1, cells := 0, slots := 0, locals := 27 } : Room) (PW dC dI cyB cyI cyZ cyO ([.ref h, .int p1, .int p2] : List Value) ((wX4 cyB cyI cyZ cyO h h_at h_text M_h) ++ (wX3 cyB cyI cyZ cyO h_text h_text_action h_text_amount h_text_tests h_text_negated h_text_subject h_text_sign h_text_limit M_h_text)) sz) (QW dC dI none ((wX4 cyB cyI cyZ cyO h h_at h_text R_h) ++ (wX3 cyB cyI cyZ cyO h_text h_text_action h_text_amount h_text_tests h_text_negated h_text_subject h_text_sign h_text_limit R_h_text)) (va_A ((wX4 cyB cyI cyZ cyO h h_at h_text M_h) ++ (wX3 cyB cyI cyZ cyO h_text h_text_action h_text_amount h_text_tests h_text_negated h_text_subject h_text_sign h_text_limit M_h_text)) sz)) 0 0 (va_A ((wX4 cyB cyI cyZ cyO h h_at h_text M_h) ++ (wX3 cyB cyI cyZ cyO h_text h_text_action h_text_amount h_text_tests h_text_negated h_text_subject h_text_sign h_text_limit M_h_text)) sz) := by
  refine Met.ofW (cc := cX4_keepTest) (maxL := 3) (ret := none) (by decide) rfl ?_
  intro p e s m args below meth c s₁ B hml hv
  obtain ⟨rfl, hsz, hP, hCx, hD0⟩ := hv
  have hK := hCx.1
  have hN := hCx.2
  have hx := B.exec
  have hb := B.bytes
  have hr := B.returns
  have hts := atoms_spec (ws := wsX4_keepTest) B.pre
  have hown : s.vm.findClass RX4 = some m.cls := findClass_of_methodNamed B.named
  have hlocks := B.notSynchronized
  have hin4 : ∀ w ∈ u_ws RX4 TX4 12, w ∈ wsX4_keepTest := fun w h => List.mem_cons_of_mem _ (List.mem_append_left _ (List.mem_append_right _ h))
  have kf21 := hts (.fieldLink RX4 21 "HoldSlips$DecreeReader" "text" "LHoldSlips$Decree;") (by decide +kernel)
  have kf35 := hts (.fieldLink RX4 35 "HoldSlips$DecreeReader" "state" "I") (by decide +kernel)
  have kf38 := hts (.fieldLink RX4 38 "HoldSlips$DecreeReader" "line" "I") (by decide +kernel)
  have kf41 := hts (.fieldLink RX4 41 "HoldSlips$DecreeReader" "tests" "I") (by decide +kernel)
  have kf44 := hts (.fieldLink RX4 44 "HoldSlips$DecreeReader" "negated" "Z") (by decide +kernel)
  have kf48 := hts (.fieldLink RX4 48 "HoldSlips$DecreeReader" "subject" "I") (by decide +kernel)
  subst hsz
  have hD := hD0.self (sz := s.heap.size)
  generalize hAe : va_A ((wX4 cyB cyI cyZ cyO h h_at h_text M_h) ++ (wX3 cyB cyI cyZ cyO h_text h_text_action h_text_amount h_text_tests h_text_negated h_text_subject h_text_sign h_text_limit M_h_text)) s.heap.size = A at hD ⊢
  have hA : ∀ q : Nat, s.heap.size ≤ q → A q := fun q h => by rw [← hAe]; exact Or.inr h
  have hS : va_S A s.heap s.heap [] := va_S.rf
  have hl := lv_entry ([.ref h, .int p1, .int p2] : List Value) (n := 3) (Nat.le_of_ble_eq_true rfl)
  rw [lg_entry_eq]
  generalize (lg_sl ([.ref h, .int p1, .int p2] : List Value) ++ List.replicate (3 - (lg_sl ([.ref h, .int p1, .int p2] : List Value)).length) Slot.unset).toArray = ls at hl ⊢
  have hl : lv_has ls 3 [(0, .ref h), (1, .int p1), (2, .int p2)] := hl
  rw [f_X4_keepTest] at hf
  refine lv_aload_n hx hb dX4_keepTest_0 rfl (lv_at hl 0 rfl) ?_
  refine va_get (D := (dC, dI)) (ci := 4) (v := .ref h_text) (C := RX4) (T := TX4) (N := 12) hx hb hts hin4 hown hK hP 0 rfl rfl 1 (by decide) kf21 (fun _ h9 => h9) rfl dX4_keepTest_1 ?_
  refine lv_aload_n hx hb dX4_keepTest_4 rfl (lv_at hl 0 rfl) ?_
  refine va_get (D := (dC, dI)) (ci := 4) (v := .int (M_h 6 0)) (C := RX4) (T := TX4) (N := 12) hx hb hts hin4 hown hK hP 0 rfl rfl 6 (by decide) kf38 (fun _ h9 => h9) rfl dX4_keepTest_5 ?_
  refine lv_aload_n hx hb dX4_keepTest_8 rfl (lv_at hl 0 rfl) ?_
  refine va_get (D := (dC, dI)) (ci := 4) (v := .int (M_h 7 0)) (C := RX4) (T := TX4) (N := 12) hx hb hts hin4 hown hK hP 0 rfl rfl 7 (by decide) kf41 (fun _ h9 => h9) rfl dX4_keepTest_9 ?_
  refine lv_aload_n hx hb dX4_keepTest_12 rfl (lv_at hl 0 rfl) ?_
  refine va_get (D := (dC, dI)) (ci := 4) (v := .int (M_h 8 0)) (C := RX4) (T := TX4) (N := 12) hx hb hts hin4 hown hK hP 0 rfl rfl 8 (by decide) kf44 (fun _ h9 => h9) rfl dX4_keepTest_13 ?_
  refine lv_aload_n hx hb dX4_keepTest_16 rfl (lv_at hl 0 rfl) ?_
  refine va_get (D := (dC, dI)) (ci := 4) (v := .int (M_h 9 0)) (C := RX4) (T := TX4) (N := 12) hx hb hts hin4 hown hK hP 0 rfl rfl 9 (by decide) kf48 (fun _ h9 => h9) rfl dX4_keepTest_17 ?_
  refine lv_iload_n hx hb dX4_keepTest_20 rfl (lv_at hl 1 rfl) ?_
  refine lv_iload_n hx hb dX4_keepTest_21 rfl (lv_at hl 2 rfl) ?_
  obtain ⟨M_h_text_22, h22, hf⟩ := bd1_some hf
  have hPc := hP.sub (ws' := (wX3 cyB cyI cyZ cyO h_text h_text_action h_text_amount h_text_tests h_text_negated h_text_subject h_text_sign h_text_limit M_h_text)) [1, 2, 3, 4, 5, 6, 7, 8] rfl
  have hDc := hD.sub (ws' := (wX3 cyB cyI cyZ cyO h_text h_text_action h_text_amount h_text_tests h_text_negated h_text_subject h_text_sign h_text_limit M_h_text)) [1, 2, 3, 4, 5, 6, 7, 8] (by decide) rfl
  refine wr_callv (wc := (wX3 cyB cyI cyZ cyO h_text h_text_action h_text_amount h_text_tests h_text_negated h_text_subject h_text_sign h_text_limit M_h_text)) (wr := (wX4 cyB cyI cyZ cyO h h_at h_text M_h)) (w1 := (wX3 cyB cyI cyZ cyO h_text h_text_action h_text_amount h_text_tests h_text_negated h_text_subject h_text_sign h_text_limit M_h_text_22)) (ws' := ((wX4 cyB cyI cyZ cyO h h_at h_text M_h) ++ (wX3 cyB cyI cyZ cyO h_text h_text_action h_text_amount h_text_tests h_text_negated h_text_subject h_text_sign h_text_limit M_h_text_22))) hP hD hS hA [1, 2, 3, 4, 5, 6, 7, 8] [0] [0, 1, 2, 3, 4, 5, 6, 7, 8] rfl rfl (by decide) (by decide) rfl (by decide) (va_runV (As := [.int (M_h 6 0), .int (M_h 7 0), .int (M_h 8 0), .int (M_h 9 0), .int p1, .int p2]) (rest := []) ⟨hx, hb, hml, hown, hts⟩ (c_X3_putTest l dC dI cyB cyI cyZ cyO h_text h_text_action h_text_amount h_text_tests h_text_negated h_text_subject h_text_sign h_text_limit _ M_h_text (M_h 6 0) (M_h 7 0) (M_h 8 0) (M_h 9 0) p1 p2 M_h_text_22 h22) (cwV 6 hts gX4_keepTest_X3_putTest rfl rfl rfl (by decide +kernel) ⟨Nat.le_of_ble_eq_true rfl, Nat.le_of_ble_eq_true rfl⟩) ⟨PW.blind, va_recv hK hP (ci := 3) (q0 := 1) rfl rfl, fun U hU hW => ⟨rfl, by rw [hU], by rw [hU]; exact hPc, hCx.warm hW, hDc.weaken (fun _ _ _ _ => trivial)⟩⟩ rfl rfl hl.1 rfl (lv_room (Nat.le_of_ble_eq_true rfl)) dX4_keepTest_22 ⟨Nat.zero_le _, Nat.zero_le _⟩) (fun H locs hP hD hS => ?_)
  refine lv_aload_n hx hb dX4_keepTest_25 rfl (lv_at hl 0 rfl) ?_
  refine lv_dup hx hb dX4_keepTest_26 rfl ?_
  refine va_get (D := (dC, dI)) (ci := 4) (v := .int (M_h 7 0)) (C := RX4) (T := TX4) (N := 12) hx hb hts hin4 hown hK hP 0 rfl rfl 7 (by decide) kf41 (fun _ h9 => h9) rfl dX4_keepTest_27 ?_
  refine lv_iconst (v := (1 : Int32)) hx hb dX4_keepTest_30 (by decide) ?_
  refine lv_iadd hx hb dX4_keepTest_31 ?_
  refine va_put (D := (dC, dI)) (ci := 4) (v := .int ((M_h 7 0) + (1 : Int32))) (ty := .int) (C := RX4) (T := TX4) (N := 12) hx hb hts hin4 tyX4 tyX4_ok nmX4 hown hK hP hD hS 0 rfl rfl 7 (by decide) kf41 (fun _ h9 => h9) rfl (by decide +kernel) rfl rfl (Nat.le_of_ble_eq_true rfl) dX4_keepTest_32 (fun H locs hP hD hS => ?_)
  obtain ⟨M_h_32, eM_h_32, hf⟩ := wr_some hf
  have hP : va_P (dC, dI) vwCl ((wX4 cyB cyI cyZ cyO h h_at h_text M_h_32) ++ (wX3 cyB cyI cyZ cyO h_text h_text_action h_text_amount h_text_tests h_text_negated h_text_subject h_text_sign h_text_limit M_h_text_22)) H := by rw [eM_h_32]; exact hP
  have hD : va_D A ((wX4 cyB cyI cyZ cyO h h_at h_text M_h_32) ++ (wX3 cyB cyI cyZ cyO h_text h_text_action h_text_amount h_text_tests h_text_negated h_text_subject h_text_sign h_text_limit M_h_text_22)) := by rw [eM_h_32]; exact hD
  refine lv_aload_n hx hb dX4_keepTest_35 rfl (lv_at hl 0 rfl) ?_
  refine lv_iconst (v := (5 : Int32)) hx hb dX4_keepTest_36 (by decide) ?_
  refine va_put (D := (dC, dI)) (ci := 4) (v := .int (5 : Int32)) (ty := .int) (C := RX4) (T := TX4) (N := 12) hx hb hts hin4 tyX4 tyX4_ok nmX4 hown hK hP hD hS 0 rfl rfl 5 (by decide) kf35 (fun _ h9 => h9) rfl (by decide +kernel) rfl rfl (Nat.le_of_ble_eq_true rfl) dX4_keepTest_37 (fun H locs hP hD hS => ?_)
  obtain ⟨M_h_37, eM_h_37, hf⟩ := wr_some hf
  have hP : va_P (dC, dI) vwCl ((wX4 cyB cyI cyZ cyO h h_at h_text M_h_37) ++ (wX3 cyB cyI cyZ cyO h_text h_text_action h_text_amount h_text_tests h_text_negated h_text_subject h_text_sign h_text_limit M_h_text_22)) H := by rw [eM_h_37]; exact hP
  have hD : va_D A ((wX4 cyB cyI cyZ cyO h h_at h_text M_h_37) ++ (wX3 cyB cyI cyZ cyO h_text h_text_action h_text_amount h_text_tests h_text_negated h_text_subject h_text_sign h_text_limit M_h_text_22)) := by rw [eM_h_37]; exact hD
  obtain ⟨hq0, hq1⟩ := pj2 hf
  subst hq0
  subst hq1
  exact W.vret hx hb hr (fun t ht hW => ⟨rfl, by rw [ht]; exact hP, hD, hS.F ht⟩) hS.2.2 dX4_keepTest_40
set_option maxHeartbeats 4000000 in
set_option maxRecDepth 100000 in
theorem c_X4_takeLimit (l : Launch) (dC : Nat → ClassId) (dI : Nat → Nat → Nat) (cyB cyI cyZ cyO : ClassId) (h h_at h_text h_at_tape h_text_action h_text_amount h_text_tests h_text_negated h_text_subject h_text_sign h_text_limit : Nat) (sz : Nat) (M_h : Mem) (M_h_at : Mem) (M_h_text : Mem) (r : Int32) (R_h : Mem) (R_h_text : Mem) (hf : f_X4_takeLimit M_h M_h_at M_h_text = some (r, R_h, R_h_text)) : Met l yX4_takeLimit wsX4_takeLimit ({ frames := 2, cells := 0, slots := 0, locals := 49 } : Room) (PW dC dI cyB cyI cyZ cyO ([.ref h] : List Value) ((wX4 cyB cyI cyZ cyO h h_at h_text M_h) ++ ((wX9 cyB cyI cyZ cyO h_at h_at_tape M_h_at) ++ (wX3 cyB cyI cyZ cyO h_text h_text_action h_text_amount h_text_tests h_text_negated h_text_subject h_text_sign h_text_limit M_h_text))) sz) (QW dC dI (some (.int r)) ((wX4 cyB cyI cyZ cyO h h_at h_text R_h) ++ ((wX9 cyB cyI cyZ cyO h_at h_at_tape M_h_at) ++ (wX3 cyB cyI cyZ cyO h_text h_text_action h_text_amount h_text_tests h_text_negated h_text_subject h_text_sign h_text_limit R_h_text))) (va_A ((wX4 cyB cyI cyZ cyO h h_at h_text M_h) ++ ((wX9 cyB cyI cyZ cyO h_at h_at_tape M_h_at) ++ (wX3 cyB cyI cyZ cyO h_text h_text_action h_text_amount h_text_tests h_text_negated h_text_subject h_text_sign h_text_limit M_h_text))) sz)) 0 0 (va_A ((wX4 cyB cyI cyZ cyO h h_at h_text M_h) ++ ((wX9 cyB cyI cyZ cyO h_at h_at_tape M_h_at) ++ (wX3 cyB cyI cyZ cyO h_text h_text_action h_text_amount h_text_tests h_text_negated h_text_subject h_text_sign h_text_limit M_h_text))) sz) := by
  refine Met.ofW (cc := cX4_takeLimit) (maxL := 1) (ret := (some .boolean)) (by decide) rfl ?_
  intro p e s m args below meth c s₁ B hml hv
  obtain ⟨rfl, hsz, hP, hCx, hD0⟩ := hv
  have hK := hCx.1
  have hN := hCx.2
  have hx := B.exec
  have hb := B.bytes
  have hr := B.returns
  have hts := atoms_spec (ws := wsX4_takeLimit) B.pre
  have hown : s.vm.findClass RX4 = some m.cls := findClass_of_methodNamed B.named
  have hlocks := B.notSynchronized
  have hin4 : ∀ w ∈ u_ws RX4 TX4 12, w ∈ wsX4_takeLimit := fun w h => List.mem_cons_of_mem _ (List.mem_append_left _ (List.mem_append_left _ (List.mem_append_right _ h)))
  have hin9 : ∀ w ∈ u_ws RX9 TX9 5, w ∈ wsX4_takeLimit := fun w h => List.mem_cons_of_mem _ (List.mem_append_left _ (List.mem_append_right _ h))
  have kf12 := hts (.fieldLink RX4 12 "HoldSlips$DecreeReader" "at" "LHoldSlips$TokenReader;") (by decide +kernel)
  have kf51 := hts (.fieldLink RX4 51 "HoldSlips$DecreeReader" "sign" "I") (by decide +kernel)
  have kf66 := hts (.fieldLink RX4 66 "HoldSlips$TokenReader" "token" "I") (by decide +kernel)
  have kf117 := hts (.fieldLink RX4 117 "HoldSlips$TokenReader" "number" "I") (by decide +kernel)
  subst hsz
  have hD := hD0.self (sz := s.heap.size)
  generalize hAe : va_A ((wX4 cyB cyI cyZ cyO h h_at h_text M_h) ++ ((wX9 cyB cyI cyZ cyO h_at h_at_tape M_h_at) ++ (wX3 cyB cyI cyZ cyO h_text h_text_action h_text_amount h_text_tests h_text_negated h_text_subject h_text_sign h_text_limit M_h_text))) s.heap.size = A at hD ⊢
  have hA : ∀ q : Nat, s.heap.size ≤ q → A q := fun q h => by rw [← hAe]; exact Or.inr h
  have hS : va_S A s.heap s.heap [] := va_S.rf
  have hl := lv_entry ([.ref h] : List Value) (n := 1) (Nat.le_of_ble_eq_true rfl)
  rw [lg_entry_eq]
  generalize (lg_sl ([.ref h] : List Value) ++ List.replicate (1 - (lg_sl ([.ref h] : List Value)).length) Slot.unset).toArray = ls at hl ⊢
  have hl : lv_has ls 1 [(0, .ref h)] := hl
  rw [f_X4_takeLimit] at hf
  refine lv_aload_n hx hb dX4_takeLimit_0 rfl (lv_at hl 0 rfl) ?_
  refine va_get (D := (dC, dI)) (ci := 4) (v := .ref h_at) (C := RX4) (T := TX4) (N := 12) hx hb hts hin4 hown hK hP 0 rfl rfl 0 (by decide) kf12 (fun _ h9 => h9) rfl dX4_takeLimit_1 ?_
  refine va_get (D := (dC, dI)) (ci := 9) (v := .int (M_h_at 1 0)) (C := RX9) (T := TX9) (N := 5) hx hb hts hin9 hown hK hP 1 rfl rfl 1 (by decide) kf66 (fun _ h9 => h9) rfl dX4_takeLimit_4 ?_
  refine lv_bipush (v := (12 : Int32)) hx hb dX4_takeLimit_7 (by decide) ?_
  refine lv_icmp_eq (tgt := 14) hx hb dX4_takeLimit_9 (by decide) (fun hc9 => ?_) (fun hc9 => ?_)
  · rw [if_pos hc9] at hf
    refine lv_aload_n hx hb dX4_takeLimit_14 rfl (lv_at hl 0 rfl) ?_
    refine lv_aload_n hx hb dX4_takeLimit_15 rfl (lv_at hl 0 rfl) ?_
    refine va_get (D := (dC, dI)) (ci := 4) (v := .int (M_h 10 0)) (C := RX4) (T := TX4) (N := 12) hx hb hts hin4 hown hK hP 0 rfl rfl 10 (by decide) kf51 (fun _ h9 => h9) rfl dX4_takeLimit_16 ?_
    refine lv_aload_n hx hb dX4_takeLimit_19 rfl (lv_at hl 0 rfl) ?_
    refine va_get (D := (dC, dI)) (ci := 4) (v := .ref h_at) (C := RX4) (T := TX4) (N := 12) hx hb hts hin4 hown hK hP 0 rfl rfl 0 (by decide) kf12 (fun _ h9 => h9) rfl dX4_takeLimit_20 ?_
    refine va_get (D := (dC, dI)) (ci := 9) (v := .int (M_h_at 4 0)) (C := RX9) (T := TX9) (N := 5) hx hb hts hin9 hown hK hP 1 rfl rfl 4 (by decide) kf117 (fun _ h9 => h9) rfl dX4_takeLimit_23 ?_
    obtain ⟨M_h_26, M_h_text_26, h26, hf⟩ := bd2_some hf
    have hPc := hP.sub (ws' := ((wX4 cyB cyI cyZ cyO h h_at h_text M_h) ++ (wX3 cyB cyI cyZ cyO h_text h_text_action h_text_amount h_text_tests h_text_negated h_text_subject h_text_sign h_text_limit M_h_text))) [0, 2, 3, 4, 5, 6, 7, 8, 9] rfl
    have hDc := hD.sub (ws' := ((wX4 cyB cyI cyZ cyO h h_at h_text M_h) ++ (wX3 cyB cyI cyZ cyO h_text h_text_action h_text_amount h_text_tests h_text_negated h_text_subject h_text_sign h_text_limit M_h_text))) [0, 2, 3, 4, 5, 6, 7, 8, 9] (by decide) rfl
    refine wr_callv (wc := ((wX4 cyB cyI cyZ cyO h h_at h_text M_h) ++ (wX3 cyB cyI cyZ cyO h_text h_text_action h_text_amount h_text_tests h_text_negated h_text_subject h_text_sign h_text_limit M_h_text))) (wr := (wX9 cyB cyI cyZ cyO h_at h_at_tape M_h_at)) (w1 := ((wX4 cyB cyI cyZ cyO h h_at h_text M_h_26) ++ (wX3 cyB cyI cyZ cyO h_text h_text_action h_text_amount h_text_tests h_text_negated h_text_subject h_text_sign h_text_limit M_h_text_26))) (ws' := ((wX4 cyB cyI cyZ cyO h h_at h_text M_h_26) ++ ((wX9 cyB cyI cyZ cyO h_at h_at_tape M_h_at) ++ (wX3 cyB cyI cyZ cyO h_text h_text_action h_text_amount h_text_tests h_text_negated h_text_subject h_text_sign h_text_limit M_h_text_26)))) hP hD hS hA [0, 2, 3, 4, 5, 6, 7, 8, 9] [1] [1, 0, 2, 3, 4, 5, 6, 7, 8, 9] rfl rfl (by decide) (by decide) rfl (by decide) (va_runV (As := [.int (M_h 10 0), .int (M_h_at 4 0)]) (rest := []) ⟨hx, hb, hml, hown, hts⟩ (c_X4_keepTest l dC dI cyB cyI cyZ cyO h h_at h_text h_text_action h_text_amount h_text_tests h_text_negated h_text_subject h_text_sign h_text_limit _ M_h M_h_text (M_h 10 0) (M_h_at 4 0) M_h_26 M_h_text_26 h26) (cwV 2 hts gX4_takeLimit_X4_keepTest rfl rfl rfl (by decide +kernel) ⟨Nat.le_of_ble_eq_true rfl, Nat.le_of_ble_eq_true rfl⟩) ⟨PW.blind, va_recv hK hP (ci := 4) (q0 := 0) rfl rfl, fun U hU hW => ⟨rfl, by rw [hU], by rw [hU]; exact hPc, hCx.warm hW, hDc.weaken (fun _ _ _ _ => trivial)⟩⟩ rfl rfl hl.1 rfl (lv_room (Nat.le_of_ble_eq_true rfl)) dX4_takeLimit_26 ⟨Nat.zero_le _, Nat.zero_le _⟩) (fun H locs hP hD hS => ?_)
    refine lv_iconst (v := (1 : Int32)) hx hb dX4_takeLimit_29 (by decide) ?_
    obtain ⟨hq0, hq1, hq2⟩ := pj3 hf
    subst hq0
    subst hq1
    subst hq2
    exact W.zret (v := (1 : Int32)) hx hb hr rfl (fun t ht hW => ⟨rfl, by rw [ht]; exact hP, hD, hS.F ht⟩) hS.2.2 dX4_takeLimit_30
  · rw [if_neg hc9] at hf
    refine lv_iconst (v := (0 : Int32)) hx hb dX4_takeLimit_12 (by decide) ?_
    obtain ⟨hq0, hq1, hq2⟩ := pj3 hf
    subst hq0
    subst hq1
    subst hq2
    exact W.zret (v := (0 : Int32)) hx hb hr rfl (fun t ht hW => ⟨rfl, by rw [ht]; exact hP, hD, hS.F ht⟩) hS.2.2 dX4_takeLimit_13
set_option maxHeartbeats 4000000 in
set_option maxRecDepth 100000 in
theorem c_X4_takeLineEnd (l : Launch) (dC : Nat → ClassId) (dI : Nat → Nat → Nat) (cyB cyI cyZ cyO : ClassId) (h h_at h_text h_at_tape : Nat) (sz : Nat) (M_h : Mem) (M_h_at : Mem) (r : Int32) (R_h : Mem) (hf : f_X4_takeLineEnd M_h M_h_at = some (r, R_h)) : Met l yX4_takeLineEnd wsX4_takeLineEnd ({ frames := 0, cells := 0, slots := 0, locals := 0 } : Room) (PW dC dI cyB cyI cyZ cyO ([.ref h] : List Value) ((wX4 cyB cyI cyZ cyO h h_at h_text M_h) ++ (wX9 cyB cyI cyZ cyO h_at h_at_tape M_h_at)) sz) (QW dC dI (some (.int r)) ((wX4 cyB cyI cyZ cyO h h_at h_text R_h) ++ (wX9 cyB cyI cyZ cyO h_at h_at_tape M_h_at)) (va_A ((wX4 cyB cyI cyZ cyO h h_at h_text M_h) ++ (wX9 cyB cyI cyZ cyO h_at h_at_tape M_h_at)) sz)) 0 0 (va_A ((wX4 cyB cyI cyZ cyO h h_at h_text M_h) ++ (wX9 cyB cyI cyZ cyO h_at h_at_tape M_h_at)) sz) := by
  refine Met.ofW (cc := cX4_takeLineEnd) (maxL := 1) (ret := (some .boolean)) (by decide) rfl ?_
  intro p e s m args below meth c s₁ B hml hv
  obtain ⟨rfl, hsz, hP, hCx, hD0⟩ := hv
  have hK := hCx.1
  have hN := hCx.2
  have hx := B.exec
  have hb := B.bytes
  have hr := B.returns
  have hts := atoms_spec (ws := wsX4_takeLineEnd) B.pre
  have hown : s.vm.findClass RX4 = some m.cls := findClass_of_methodNamed B.named
  have hlocks := B.notSynchronized
  have hin4 : ∀ w ∈ u_ws RX4 TX4 12, w ∈ wsX4_takeLineEnd := fun w h => List.mem_cons_of_mem _ (List.mem_append_left _ (List.mem_append_right _ h))
  have hin9 : ∀ w ∈ u_ws RX9 TX9 5, w ∈ wsX4_takeLineEnd := fun w h => List.mem_cons_of_mem _ (List.mem_append_right _ h)
  have kf12 := hts (.fieldLink RX4 12 "HoldSlips$DecreeReader" "at" "LHoldSlips$TokenReader;") (by decide +kernel)
  have kf35 := hts (.fieldLink RX4 35 "HoldSlips$DecreeReader" "state" "I") (by decide +kernel)
  have kf66 := hts (.fieldLink RX4 66 "HoldSlips$TokenReader" "token" "I") (by decide +kernel)
  subst hsz
  have hD := hD0.self (sz := s.heap.size)
  generalize hAe : va_A ((wX4 cyB cyI cyZ cyO h h_at h_text M_h) ++ (wX9 cyB cyI cyZ cyO h_at h_at_tape M_h_at)) s.heap.size = A at hD ⊢
  have hA : ∀ q : Nat, s.heap.size ≤ q → A q := fun q h => by rw [← hAe]; exact Or.inr h
  have hS : va_S A s.heap s.heap [] := va_S.rf
  have hl := lv_entry ([.ref h] : List Value) (n := 1) (Nat.le_of_ble_eq_true rfl)
  rw [lg_entry_eq]
  generalize (lg_sl ([.ref h] : List Value) ++ List.replicate (1 - (lg_sl ([.ref h] : List Value)).length) Slot.unset).toArray = ls at hl ⊢
  have hl : lv_has ls 1 [(0, .ref h)] := hl
  rw [f_X4_takeLineEnd] at hf
  refine lv_aload_n hx hb dX4_takeLineEnd_0 rfl (lv_at hl 0 rfl) ?_
  refine lv_iconst (v := (0 : Int32)) hx hb dX4_takeLineEnd_1 (by decide) ?_
  refine va_put (D := (dC, dI)) (ci := 4) (v := .int (0 : Int32)) (ty := .int) (C := RX4) (T := TX4) (N := 12) hx hb hts hin4 tyX4 tyX4_ok nmX4 hown hK hP hD hS 0 rfl rfl 5 (by decide) kf35 (fun _ h9 => h9) rfl (by decide +kernel) rfl rfl (Nat.le_of_ble_eq_true rfl) dX4_takeLineEnd_2 (fun H locs hP hD hS => ?_)
  obtain ⟨M_h_2, eM_h_2, hf⟩ := wr_some hf
  have hP : va_P (dC, dI) vwCl ((wX4 cyB cyI cyZ cyO h h_at h_text M_h_2) ++ (wX9 cyB cyI cyZ cyO h_at h_at_tape M_h_at)) H := by rw [eM_h_2]; exact hP
  have hD : va_D A ((wX4 cyB cyI cyZ cyO h h_at h_text M_h_2) ++ (wX9 cyB cyI cyZ cyO h_at h_at_tape M_h_at)) := by rw [eM_h_2]; exact hD
  refine lv_aload_n hx hb dX4_takeLineEnd_5 rfl (lv_at hl 0 rfl) ?_
  refine va_get (D := (dC, dI)) (ci := 4) (v := .ref h_at) (C := RX4) (T := TX4) (N := 12) hx hb hts hin4 hown hK hP 0 rfl rfl 0 (by decide) kf12 (fun _ h9 => h9) rfl dX4_takeLineEnd_6 ?_
  refine va_get (D := (dC, dI)) (ci := 9) (v := .int (M_h_at 1 0)) (C := RX9) (T := TX9) (N := 5) hx hb hts hin9 hown hK hP 1 rfl rfl 1 (by decide) kf66 (fun _ h9 => h9) rfl dX4_takeLineEnd_9 ?_
  refine lv_bipush (v := (59 : Int32)) hx hb dX4_takeLineEnd_12 (by decide) ?_
  refine lv_icmp_ne (tgt := 21) hx hb dX4_takeLineEnd_14 (by decide) (fun hc14 => ?_) (fun hc14 => ?_)
  · rw [if_neg hc14] at hf
    refine lv_iconst (v := (0 : Int32)) hx hb dX4_takeLineEnd_21 (by decide) ?_
    obtain ⟨hq0, hq1⟩ := pj2 hf
    subst hq0
    subst hq1
    exact W.zret (v := (0 : Int32)) hx hb hr rfl (fun t ht hW => ⟨rfl, by rw [ht]; exact hP, hD, hS.F ht⟩) hS.2.2 dX4_takeLineEnd_22
  · rw [if_pos hc14] at hf
    refine lv_iconst (v := (1 : Int32)) hx hb dX4_takeLineEnd_17 (by decide) ?_
    refine lv_goto (tgt := 22) hx hb dX4_takeLineEnd_18 (by decide) ?_
    obtain ⟨hq0, hq1⟩ := pj2 hf
    subst hq0
    subst hq1
    exact W.zret (v := (1 : Int32)) hx hb hr rfl (fun t ht hW => ⟨rfl, by rw [ht]; exact hP, hD, hS.F ht⟩) hS.2.2 dX4_takeLineEnd_22
set_option maxHeartbeats 4000000 in
set_option maxRecDepth 100000 in
theorem c_X4_noteExcess (l : Launch) (dC : Nat → ClassId) (dI : Nat → Nat → Nat) (cyB cyI cyZ cyO : ClassId) (h h_at h_text h_at_tape : Nat) (sz : Nat) (M_h : Mem) (M_h_at : Mem) (R_h : Mem) (hf : f_X4_noteExcess M_h M_h_at = some R_h) : Met l yX4_noteExcess wsX4_noteExcess ({ frames := 0, cells := 0, slots := 0, locals := 0 } : Room) (PW dC dI cyB cyI cyZ cyO ([.ref h] : List Value) ((wX4 cyB cyI cyZ cyO h h_at h_text M_h) ++ (wX9 cyB cyI cyZ cyO h_at h_at_tape M_h_at)) sz) (QW dC dI none ((wX4 cyB cyI cyZ cyO h h_at h_text R_h) ++ (wX9 cyB cyI cyZ cyO h_at h_at_tape M_h_at)) (va_A ((wX4 cyB cyI cyZ cyO h h_at h_text M_h) ++ (wX9 cyB cyI cyZ cyO h_at h_at_tape M_h_at)) sz)) 0 0 (va_A ((wX4 cyB cyI cyZ cyO h h_at h_text M_h) ++ (wX9 cyB cyI cyZ cyO h_at h_at_tape M_h_at)) sz) := by
  refine Met.ofW (cc := cX4_noteExcess) (maxL := 1) (ret := none) (by decide) rfl ?_
  intro p e s m args below meth c s₁ B hml hv
  obtain ⟨rfl, hsz, hP, hCx, hD0⟩ := hv
  have hK := hCx.1
  have hN := hCx.2
  have hx := B.exec
  have hb := B.bytes
  have hr := B.returns
  have hts := atoms_spec (ws := wsX4_noteExcess) B.pre
  have hown : s.vm.findClass RX4 = some m.cls := findClass_of_methodNamed B.named
  have hlocks := B.notSynchronized
  have hin4 : ∀ w ∈ u_ws RX4 TX4 12, w ∈ wsX4_noteExcess := fun w h => List.mem_cons_of_mem _ (List.mem_append_left _ (List.mem_append_right _ h))
  have hin9 : ∀ w ∈ u_ws RX9 TX9 5, w ∈ wsX4_noteExcess := fun w h => List.mem_cons_of_mem _ (List.mem_append_right _ h)
  have kf12 := hts (.fieldLink RX4 12 "HoldSlips$DecreeReader" "at" "LHoldSlips$TokenReader;") (by decide +kernel)
  have kf32 := hts (.fieldLink RX4 32 "HoldSlips$DecreeReader" "excess" "I") (by decide +kernel)
  have kf73 := hts (.fieldLink RX4 73 "HoldSlips$TokenReader" "start" "I") (by decide +kernel)
  subst hsz
  have hD := hD0.self (sz := s.heap.size)
  generalize hAe : va_A ((wX4 cyB cyI cyZ cyO h h_at h_text M_h) ++ (wX9 cyB cyI cyZ cyO h_at h_at_tape M_h_at)) s.heap.size = A at hD ⊢
  have hA : ∀ q : Nat, s.heap.size ≤ q → A q := fun q h => by rw [← hAe]; exact Or.inr h
  have hS : va_S A s.heap s.heap [] := va_S.rf
  have hl := lv_entry ([.ref h] : List Value) (n := 1) (Nat.le_of_ble_eq_true rfl)
  rw [lg_entry_eq]
  generalize (lg_sl ([.ref h] : List Value) ++ List.replicate (1 - (lg_sl ([.ref h] : List Value)).length) Slot.unset).toArray = ls at hl ⊢
  have hl : lv_has ls 1 [(0, .ref h)] := hl
  rw [f_X4_noteExcess] at hf
  refine lv_aload_n hx hb dX4_noteExcess_0 rfl (lv_at hl 0 rfl) ?_
  refine va_get (D := (dC, dI)) (ci := 4) (v := .int (M_h 4 0)) (C := RX4) (T := TX4) (N := 12) hx hb hts hin4 hown hK hP 0 rfl rfl 4 (by decide) kf32 (fun _ h9 => h9) rfl dX4_noteExcess_1 ?_
  refine lv_iconst (v := (-1 : Int32)) hx hb dX4_noteExcess_4 (by decide) ?_
  refine lv_icmp_ne (tgt := 19) hx hb dX4_noteExcess_5 (by decide) (fun hc5 => ?_) (fun hc5 => ?_)
  · rw [if_neg hc5] at hf
    have hq := Option.some.inj hf
    subst hq
    exact W.vret hx hb hr (fun t ht hW => ⟨rfl, by rw [ht]; exact hP, hD, hS.F ht⟩) hS.2.2 dX4_noteExcess_19
  · rw [if_pos hc5] at hf
    refine lv_aload_n hx hb dX4_noteExcess_8 rfl (lv_at hl 0 rfl) ?_
    refine lv_aload_n hx hb dX4_noteExcess_9 rfl (lv_at hl 0 rfl) ?_
    refine va_get (D := (dC, dI)) (ci := 4) (v := .ref h_at) (C := RX4) (T := TX4) (N := 12) hx hb hts hin4 hown hK hP 0 rfl rfl 0 (by decide) kf12 (fun _ h9 => h9) rfl dX4_noteExcess_10 ?_
    refine va_get (D := (dC, dI)) (ci := 9) (v := .int (M_h_at 2 0)) (C := RX9) (T := TX9) (N := 5) hx hb hts hin9 hown hK hP 1 rfl rfl 2 (by decide) kf73 (fun _ h9 => h9) rfl dX4_noteExcess_13 ?_
    refine va_put (D := (dC, dI)) (ci := 4) (v := .int (M_h_at 2 0)) (ty := .int) (C := RX4) (T := TX4) (N := 12) hx hb hts hin4 tyX4 tyX4_ok nmX4 hown hK hP hD hS 0 rfl rfl 4 (by decide) kf32 (fun _ h9 => h9) rfl (by decide +kernel) rfl rfl (Nat.le_of_ble_eq_true rfl) dX4_noteExcess_16 (fun H locs hP hD hS => ?_)
    obtain ⟨M_h_16, eM_h_16, hf⟩ := wr_some hf
    have hP : va_P (dC, dI) vwCl ((wX4 cyB cyI cyZ cyO h h_at h_text M_h_16) ++ (wX9 cyB cyI cyZ cyO h_at h_at_tape M_h_at)) H := by rw [eM_h_16]; exact hP
    have hD : va_D A ((wX4 cyB cyI cyZ cyO h h_at h_text M_h_16) ++ (wX9 cyB cyI cyZ cyO h_at h_at_tape M_h_at)) := by rw [eM_h_16]; exact hD
    have hq := Option.some.inj hf
    subst hq
    exact W.vret hx hb hr (fun t ht hW => ⟨rfl, by rw [ht]; exact hP, hD, hS.F ht⟩) hS.2.2 dX4_noteExcess_19
set_option maxHeartbeats 4000000 in
set_option maxRecDepth 100000 in
theorem c_X4_takeLineStart (l : Launch) (dC : Nat → ClassId) (dI : Nat → Nat → Nat) (cyB cyI cyZ cyO : ClassId) (h h_at h_text h_at_tape h_text_action h_text_amount h_text_tests h_text_negated h_text_subject h_text_sign h_text_limit : Nat) (sz : Nat) (M_h : Mem) (M_h_at : Mem) (M_h_text : Mem) (r : Int32) (R_h : Mem) (R_h_text : Mem) (hf : f_X4_takeLineStart M_h M_h_at M_h_text = some (r, R_h, R_h_text)) : Met l yX4_takeLineStart wsX4_takeLineStart ({ frames := 4, cells := 0, slots := 0, locals := 95 } : Room) (PW dC dI cyB cyI cyZ cyO ([.ref h] : List Value) ((wX4 cyB cyI cyZ cyO h h_at h_text M_h) ++ ((wX9 cyB cyI cyZ cyO h_at h_at_tape M_h_at) ++ (wX3 cyB cyI cyZ cyO h_text h_text_action h_text_amount h_text_tests h_text_negated h_text_subject h_text_sign h_text_limit M_h_text))) sz) (QW dC dI (some (.int r)) ((wX4 cyB cyI cyZ cyO h h_at h_text R_h) ++ ((wX9 cyB cyI cyZ cyO h_at h_at_tape M_h_at) ++ (wX3 cyB cyI cyZ cyO h_text h_text_action h_text_amount h_text_tests h_text_negated h_text_subject h_text_sign h_text_limit R_h_text))) (va_A ((wX4 cyB cyI cyZ cyO h h_at h_text M_h) ++ ((wX9 cyB cyI cyZ cyO h_at h_at_tape M_h_at) ++ (wX3 cyB cyI cyZ cyO h_text h_text_action h_text_amount h_text_tests h_text_negated h_text_subject h_text_sign h_text_limit M_h_text))) sz)) 0 0 (va_A ((wX4 cyB cyI cyZ cyO h h_at h_text M_h) ++ ((wX9 cyB cyI cyZ cyO h_at h_at_tape M_h_at) ++ (wX3 cyB cyI cyZ cyO h_text h_text_action h_text_amount h_text_tests h_text_negated h_text_subject h_text_sign h_text_limit M_h_text))) sz) := by
  refine Met.ofW (cc := cX4_takeLineStart) (maxL := 1) (ret := (some .boolean)) (by decide) rfl ?_
  intro p e s m args below meth c s₁ B hml hv
  obtain ⟨rfl, hsz, hP, hCx, hD0⟩ := hv
  have hK := hCx.1
  have hN := hCx.2
  have hx := B.exec
  have hb := B.bytes
  have hr := B.returns
  have hts := atoms_spec (ws := wsX4_takeLineStart) B.pre
  have hown : s.vm.findClass RX4 = some m.cls := findClass_of_methodNamed B.named
  have hlocks := B.notSynchronized
  have hin4 : ∀ w ∈ u_ws RX4 TX4 12, w ∈ wsX4_takeLineStart := fun w h => List.mem_cons_of_mem _ (List.mem_append_left _ (List.mem_append_left _ (List.mem_append_right _ h)))
  have hin9 : ∀ w ∈ u_ws RX9 TX9 5, w ∈ wsX4_takeLineStart := fun w h => List.mem_cons_of_mem _ (List.mem_append_left _ (List.mem_append_right _ h))
  have kf12 := hts (.fieldLink RX4 12 "HoldSlips$DecreeReader" "at" "LHoldSlips$TokenReader;") (by decide +kernel)
  have kf35 := hts (.fieldLink RX4 35 "HoldSlips$DecreeReader" "state" "I") (by decide +kernel)
  have kf38 := hts (.fieldLink RX4 38 "HoldSlips$DecreeReader" "line" "I") (by decide +kernel)
  have kf41 := hts (.fieldLink RX4 41 "HoldSlips$DecreeReader" "tests" "I") (by decide +kernel)
  have kf66 := hts (.fieldLink RX4 66 "HoldSlips$TokenReader" "token" "I") (by decide +kernel)
  subst hsz
  have hD := hD0.self (sz := s.heap.size)
  generalize hAe : va_A ((wX4 cyB cyI cyZ cyO h h_at h_text M_h) ++ ((wX9 cyB cyI cyZ cyO h_at h_at_tape M_h_at) ++ (wX3 cyB cyI cyZ cyO h_text h_text_action h_text_amount h_text_tests h_text_negated h_text_subject h_text_sign h_text_limit M_h_text))) s.heap.size = A at hD ⊢
  have hA : ∀ q : Nat, s.heap.size ≤ q → A q := fun q h => by rw [← hAe]; exact Or.inr h
  have hS : va_S A s.heap s.heap [] := va_S.rf
  have hl := lv_entry ([.ref h] : List Value) (n := 1) (Nat.le_of_ble_eq_true rfl)
  rw [lg_entry_eq]
  generalize (lg_sl ([.ref h] : List Value) ++ List.replicate (1 - (lg_sl ([.ref h] : List Value)).length) Slot.unset).toArray = ls at hl ⊢
  have hl : lv_has ls 1 [(0, .ref h)] := hl
  have L13 : ∀ (M_h M_h_text : Mem) (H : Heap) (locs : List Loc) (ls : Array Slot), f_X4_takeLineStart_L13 M_h M_h_at M_h_text = some (r, R_h, R_h_text) → va_P (dC, dI) vwCl ((wX4 cyB cyI cyZ cyO h h_at h_text M_h) ++ ((wX9 cyB cyI cyZ cyO h_at h_at_tape M_h_at) ++ (wX3 cyB cyI cyZ cyO h_text h_text_action h_text_amount h_text_tests h_text_negated h_text_subject h_text_sign h_text_limit M_h_text))) H → va_D A ((wX4 cyB cyI cyZ cyO h h_at h_text M_h) ++ ((wX9 cyB cyI cyZ cyO h_at h_at_tape M_h_at) ++ (wX3 cyB cyI cyZ cyO h_text h_text_action h_text_amount h_text_tests h_text_negated h_text_subject h_text_sign h_text_limit M_h_text))) → va_S A s.heap H locs → lv_has ls 1 [(0, .ref h)] → W p l e (headSpec wsX4_takeLineStart ({ frames := 4, cells := 0, slots := 0, locals := 95 } : Room)).room s m ([.ref h] : List Value).toArray below meth c H locs 0 0 (MQ below (QW dC dI (some (.int r)) ((wX4 cyB cyI cyZ cyO h h_at h_text R_h) ++ ((wX9 cyB cyI cyZ cyO h_at h_at_tape M_h_at) ++ (wX3 cyB cyI cyZ cyO h_text h_text_action h_text_amount h_text_tests h_text_negated h_text_subject h_text_sign h_text_limit R_h_text))) A) ([.ref h] : List Value).toArray s 0 0 A) (F0 m 13 ls []) := by
    intro  M_h M_h_text H locs ls hf hP hD hS hl
    rw [f_X4_takeLineStart_L13] at hf
    refine lv_aload_n hx hb dX4_takeLineStart_13 rfl (lv_at hl 0 rfl) ?_
    refine lv_iconst (v := (0 : Int32)) hx hb dX4_takeLineStart_14 (by decide) ?_
    refine va_put (D := (dC, dI)) (ci := 4) (v := .int (0 : Int32)) (ty := .int) (C := RX4) (T := TX4) (N := 12) hx hb hts hin4 tyX4 tyX4_ok nmX4 hown hK hP hD hS 0 rfl rfl 7 (by decide) kf41 (fun _ h9 => h9) rfl (by decide +kernel) rfl rfl (Nat.le_of_ble_eq_true rfl) dX4_takeLineStart_15 (fun H locs hP hD hS => ?_)
    obtain ⟨M_h_15, eM_h_15, hf⟩ := wr_some hf
    have hP : va_P (dC, dI) vwCl ((wX4 cyB cyI cyZ cyO h h_at h_text M_h_15) ++ ((wX9 cyB cyI cyZ cyO h_at h_at_tape M_h_at) ++ (wX3 cyB cyI cyZ cyO h_text h_text_action h_text_amount h_text_tests h_text_negated h_text_subject h_text_sign h_text_limit M_h_text))) H := by rw [eM_h_15]; exact hP
    have hD : va_D A ((wX4 cyB cyI cyZ cyO h h_at h_text M_h_15) ++ ((wX9 cyB cyI cyZ cyO h_at h_at_tape M_h_at) ++ (wX3 cyB cyI cyZ cyO h_text h_text_action h_text_amount h_text_tests h_text_negated h_text_subject h_text_sign h_text_limit M_h_text))) := by rw [eM_h_15]; exact hD
    refine lv_aload_n hx hb dX4_takeLineStart_18 rfl (lv_at hl 0 rfl) ?_
    refine va_get (D := (dC, dI)) (ci := 4) (v := .ref h_at) (C := RX4) (T := TX4) (N := 12) hx hb hts hin4 hown hK hP 0 rfl rfl 0 (by decide) kf12 (fun _ h9 => h9) rfl dX4_takeLineStart_19 ?_
    refine va_get (D := (dC, dI)) (ci := 9) (v := .int (M_h_at 1 0)) (C := RX9) (T := TX9) (N := 5) hx hb hts hin9 hown hK hP 1 rfl rfl 1 (by decide) kf66 (fun _ h9 => h9) rfl dX4_takeLineStart_22 ?_
    refine lv_bipush (v := (9 : Int32)) hx hb dX4_takeLineStart_25 (by decide) ?_
    refine lv_icmp_ne (tgt := 37) hx hb dX4_takeLineStart_27 (by decide) (fun hc27 => ?_) (fun hc27 => ?_)
    · rw [if_neg hc27] at hf
      refine lv_aload_n hx hb dX4_takeLineStart_37 rfl (lv_at hl 0 rfl) ?_
      obtain ⟨r38, M_h_38, M_h_text_38, h38, hf⟩ := bd3_some hf
      refine wr_calli (wc := ((wX4 cyB cyI cyZ cyO h h_at h_text M_h_15) ++ ((wX9 cyB cyI cyZ cyO h_at h_at_tape M_h_at) ++ (wX3 cyB cyI cyZ cyO h_text h_text_action h_text_amount h_text_tests h_text_negated h_text_subject h_text_sign h_text_limit M_h_text)))) (wr := ([] : va_W)) (w1 := ((wX4 cyB cyI cyZ cyO h h_at h_text M_h_38) ++ ((wX9 cyB cyI cyZ cyO h_at h_at_tape M_h_at) ++ (wX3 cyB cyI cyZ cyO h_text h_text_action h_text_amount h_text_tests h_text_negated h_text_subject h_text_sign h_text_limit M_h_text_38)))) (ws' := ((wX4 cyB cyI cyZ cyO h h_at h_text M_h_38) ++ ((wX9 cyB cyI cyZ cyO h_at h_at_tape M_h_at) ++ (wX3 cyB cyI cyZ cyO h_text h_text_action h_text_amount h_text_tests h_text_negated h_text_subject h_text_sign h_text_limit M_h_text_38)))) hP hD hS hA [0, 1, 2, 3, 4, 5, 6, 7, 8, 9] [] [0, 1, 2, 3, 4, 5, 6, 7, 8, 9] rfl rfl (by decide) (by decide) rfl (by decide) (va_runV (As := []) (rest := []) ⟨hx, hb, hml, hown, hts⟩ (c_X4_takeAction l dC dI cyB cyI cyZ cyO h h_at h_text h_at_tape h_text_action h_text_amount h_text_tests h_text_negated h_text_subject h_text_sign h_text_limit _ M_h_15 M_h_at M_h_text r38 M_h_38 M_h_text_38 h38) (cwV 0 hts gX4_takeLineStart_X4_takeAction rfl rfl rfl (by decide +kernel) ⟨Nat.le_of_ble_eq_true rfl, Nat.le_of_ble_eq_true rfl⟩) ⟨PW.blind, va_recv hK hP (ci := 4) (q0 := 0) rfl rfl, fun U hU hW => ⟨rfl, by rw [hU], by rw [hU]; exact hP, hCx.warm hW, hD.weaken (fun _ _ _ _ => trivial)⟩⟩ rfl rfl hl.1 rfl (lv_room (Nat.le_of_ble_eq_true rfl)) dX4_takeLineStart_38 ⟨Nat.zero_le _, Nat.zero_le _⟩) (fun H locs hP hD hS => ?_)
      have hb41 := Decidable.not_not.mp (if_no hf)
      rw [if_neg (not_not_intro hb41)] at hf
      obtain ⟨hq0, hq1, hq2⟩ := pj3 hf
      subst hq0
      subst hq1
      subst hq2
      exact W.zret (v := r38) hx hb hr (nar_b hb41) (fun t ht hW => ⟨rfl, by rw [ht]; exact hP, hD, hS.F ht⟩) hS.2.2 dX4_takeLineStart_41
    · rw [if_pos hc27] at hf
      refine lv_aload_n hx hb dX4_takeLineStart_30 rfl (lv_at hl 0 rfl) ?_
      refine lv_iconst (v := (1 : Int32)) hx hb dX4_takeLineStart_31 (by decide) ?_
      refine va_put (D := (dC, dI)) (ci := 4) (v := .int (1 : Int32)) (ty := .int) (C := RX4) (T := TX4) (N := 12) hx hb hts hin4 tyX4 tyX4_ok nmX4 hown hK hP hD hS 0 rfl rfl 5 (by decide) kf35 (fun _ h9 => h9) rfl (by decide +kernel) rfl rfl (Nat.le_of_ble_eq_true rfl) dX4_takeLineStart_32 (fun H locs hP hD hS => ?_)
      obtain ⟨M_h_32, eM_h_32, hf⟩ := wr_some hf
      have hP : va_P (dC, dI) vwCl ((wX4 cyB cyI cyZ cyO h h_at h_text M_h_32) ++ ((wX9 cyB cyI cyZ cyO h_at h_at_tape M_h_at) ++ (wX3 cyB cyI cyZ cyO h_text h_text_action h_text_amount h_text_tests h_text_negated h_text_subject h_text_sign h_text_limit M_h_text))) H := by rw [eM_h_32]; exact hP
      have hD : va_D A ((wX4 cyB cyI cyZ cyO h h_at h_text M_h_32) ++ ((wX9 cyB cyI cyZ cyO h_at h_at_tape M_h_at) ++ (wX3 cyB cyI cyZ cyO h_text h_text_action h_text_amount h_text_tests h_text_negated h_text_subject h_text_sign h_text_limit M_h_text))) := by rw [eM_h_32]; exact hD
      refine lv_iconst (v := (1 : Int32)) hx hb dX4_takeLineStart_35 (by decide) ?_
      obtain ⟨hq0, hq1, hq2⟩ := pj3 hf
      subst hq0
      subst hq1
      subst hq2
      exact W.zret (v := (1 : Int32)) hx hb hr rfl (fun t ht hW => ⟨rfl, by rw [ht]; exact hP, hD, hS.F ht⟩) hS.2.2 dX4_takeLineStart_36
  rw [f_X4_takeLineStart] at hf
  refine lv_aload_n hx hb dX4_takeLineStart_0 rfl (lv_at hl 0 rfl) ?_
  refine va_get (D := (dC, dI)) (ci := 4) (v := .int (M_h 6 0)) (C := RX4) (T := TX4) (N := 12) hx hb hts hin4 hown hK hP 0 rfl rfl 6 (by decide) kf38 (fun _ h9 => h9) rfl dX4_takeLineStart_1 ?_
  refine lv_bipush (v := (16 : Int32)) hx hb dX4_takeLineStart_4 (by decide) ?_
  refine lv_icmp_lt (tgt := 13) hx hb dX4_takeLineStart_6 (by decide) (fun hc6 => ?_) (fun hc6 => ?_)
  · rw [if_pos hc6] at hf
    exact L13 M_h M_h_text _ _ ls hf hP hD hS (lv_sub hl [0] rfl)
  · rw [if_neg hc6] at hf
    refine lv_aload_n hx hb dX4_takeLineStart_9 rfl (lv_at hl 0 rfl) ?_
    obtain ⟨M_h_10, h10, hf⟩ := bd1_some hf
    have hPc := hP.sub (ws' := ((wX4 cyB cyI cyZ cyO h h_at h_text M_h) ++ (wX9 cyB cyI cyZ cyO h_at h_at_tape M_h_at))) [0, 1] rfl
    have hDc := hD.sub (ws' := ((wX4 cyB cyI cyZ cyO h h_at h_text M_h) ++ (wX9 cyB cyI cyZ cyO h_at h_at_tape M_h_at))) [0, 1] (by decide) rfl
    refine wr_callv (wc := ((wX4 cyB cyI cyZ cyO h h_at h_text M_h) ++ (wX9 cyB cyI cyZ cyO h_at h_at_tape M_h_at))) (wr := (wX3 cyB cyI cyZ cyO h_text h_text_action h_text_amount h_text_tests h_text_negated h_text_subject h_text_sign h_text_limit M_h_text)) (w1 := ((wX4 cyB cyI cyZ cyO h h_at h_text M_h_10) ++ (wX9 cyB cyI cyZ cyO h_at h_at_tape M_h_at))) (ws' := ((wX4 cyB cyI cyZ cyO h h_at h_text M_h_10) ++ ((wX9 cyB cyI cyZ cyO h_at h_at_tape M_h_at) ++ (wX3 cyB cyI cyZ cyO h_text h_text_action h_text_amount h_text_tests h_text_negated h_text_subject h_text_sign h_text_limit M_h_text)))) hP hD hS hA [0, 1] [2, 3, 4, 5, 6, 7, 8, 9] [8, 9, 0, 1, 2, 3, 4, 5, 6, 7] rfl rfl (by decide) (by decide) rfl (by decide) (va_runV (As := []) (rest := []) ⟨hx, hb, hml, hown, hts⟩ (c_X4_noteExcess l dC dI cyB cyI cyZ cyO h h_at h_text h_at_tape _ M_h M_h_at M_h_10 h10) (cwV 0 hts gX4_takeLineStart_X4_noteExcess rfl rfl rfl (by decide +kernel) ⟨Nat.le_of_ble_eq_true rfl, Nat.le_of_ble_eq_true rfl⟩) ⟨PW.blind, va_recv hK hP (ci := 4) (q0 := 0) rfl rfl, fun U hU hW => ⟨rfl, by rw [hU], by rw [hU]; exact hPc, hCx.warm hW, hDc.weaken (fun _ _ _ _ => trivial)⟩⟩ rfl rfl hl.1 rfl (lv_room (Nat.le_of_ble_eq_true rfl)) dX4_takeLineStart_10 ⟨Nat.zero_le _, Nat.zero_le _⟩) (fun H locs hP hD hS => ?_)
    exact L13 M_h_10 M_h_text _ _ ls hf hP hD hS (lv_sub hl [0] rfl)
set_option maxHeartbeats 4000000 in
set_option maxRecDepth 100000 in
theorem c_X4_takeSubject (l : Launch) (dC : Nat → ClassId) (dI : Nat → Nat → Nat) (cyB cyI cyZ cyO : ClassId) (h h_at h_text h_at_tape h_text_action h_text_amount h_text_tests h_text_negated h_text_subject h_text_sign h_text_limit : Nat) (sz : Nat) (M_h : Mem) (M_h_at : Mem) (M_h_text : Mem) (r : Int32) (R_h : Mem) (R_h_text : Mem) (hf : f_X4_takeSubject M_h M_h_at M_h_text = some (r, R_h, R_h_text)) : Met l yX4_takeSubject wsX4_takeSubject ({ frames := 2, cells := 0, slots := 0, locals := 49 } : Room) (PW dC dI cyB cyI cyZ cyO ([.ref h] : List Value) ((wX4 cyB cyI cyZ cyO h h_at h_text M_h) ++ ((wX9 cyB cyI cyZ cyO h_at h_at_tape M_h_at) ++ (wX3 cyB cyI cyZ cyO h_text h_text_action h_text_amount h_text_tests h_text_negated h_text_subject h_text_sign h_text_limit M_h_text))) sz) (QW dC dI (some (.int r)) ((wX4 cyB cyI cyZ cyO h h_at h_text R_h) ++ ((wX9 cyB cyI cyZ cyO h_at h_at_tape M_h_at) ++ (wX3 cyB cyI cyZ cyO h_text h_text_action h_text_amount h_text_tests h_text_negated h_text_subject h_text_sign h_text_limit R_h_text))) (va_A ((wX4 cyB cyI cyZ cyO h h_at h_text M_h) ++ ((wX9 cyB cyI cyZ cyO h_at h_at_tape M_h_at) ++ (wX3 cyB cyI cyZ cyO h_text h_text_action h_text_amount h_text_tests h_text_negated h_text_subject h_text_sign h_text_limit M_h_text))) sz)) 0 0 (va_A ((wX4 cyB cyI cyZ cyO h h_at h_text M_h) ++ ((wX9 cyB cyI cyZ cyO h_at h_at_tape M_h_at) ++ (wX3 cyB cyI cyZ cyO h_text h_text_action h_text_amount h_text_tests h_text_negated h_text_subject h_text_sign h_text_limit M_h_text))) sz) := by
  refine Met.ofW (cc := cX4_takeSubject) (maxL := 1) (ret := (some .boolean)) (by decide) rfl ?_
  intro p e s m args below meth c s₁ B hml hv
  obtain ⟨rfl, hsz, hP, hCx, hD0⟩ := hv
  have hK := hCx.1
  have hN := hCx.2
  have hx := B.exec
  have hb := B.bytes
  have hr := B.returns
  have hts := atoms_spec (ws := wsX4_takeSubject) B.pre
  have hown : s.vm.findClass RX4 = some m.cls := findClass_of_methodNamed B.named
  have hlocks := B.notSynchronized
  have hin4 : ∀ w ∈ u_ws RX4 TX4 12, w ∈ wsX4_takeSubject := fun w h => List.mem_cons_of_mem _ (List.mem_append_left _ (List.mem_append_left _ (List.mem_append_right _ h)))
  have hin9 : ∀ w ∈ u_ws RX9 TX9 5, w ∈ wsX4_takeSubject := fun w h => List.mem_cons_of_mem _ (List.mem_append_left _ (List.mem_append_right _ h))
  have kf12 := hts (.fieldLink RX4 12 "HoldSlips$DecreeReader" "at" "LHoldSlips$TokenReader;") (by decide +kernel)
  have kf35 := hts (.fieldLink RX4 35 "HoldSlips$DecreeReader" "state" "I") (by decide +kernel)
  have kf48 := hts (.fieldLink RX4 48 "HoldSlips$DecreeReader" "subject" "I") (by decide +kernel)
  have kf66 := hts (.fieldLink RX4 66 "HoldSlips$TokenReader" "token" "I") (by decide +kernel)
  subst hsz
  have hD := hD0.self (sz := s.heap.size)
  generalize hAe : va_A ((wX4 cyB cyI cyZ cyO h h_at h_text M_h) ++ ((wX9 cyB cyI cyZ cyO h_at h_at_tape M_h_at) ++ (wX3 cyB cyI cyZ cyO h_text h_text_action h_text_amount h_text_tests h_text_negated h_text_subject h_text_sign h_text_limit M_h_text))) s.heap.size = A at hD ⊢
  have hA : ∀ q : Nat, s.heap.size ≤ q → A q := fun q h => by rw [← hAe]; exact Or.inr h
  have hS : va_S A s.heap s.heap [] := va_S.rf
  have hl := lv_entry ([.ref h] : List Value) (n := 1) (Nat.le_of_ble_eq_true rfl)
  rw [lg_entry_eq]
  generalize (lg_sl ([.ref h] : List Value) ++ List.replicate (1 - (lg_sl ([.ref h] : List Value)).length) Slot.unset).toArray = ls at hl ⊢
  have hl : lv_has ls 1 [(0, .ref h)] := hl
  rw [f_X4_takeSubject] at hf
  refine lv_aload_n hx hb dX4_takeSubject_0 rfl (lv_at hl 0 rfl) ?_
  refine va_get (D := (dC, dI)) (ci := 4) (v := .ref h_at) (C := RX4) (T := TX4) (N := 12) hx hb hts hin4 hown hK hP 0 rfl rfl 0 (by decide) kf12 (fun _ h9 => h9) rfl dX4_takeSubject_1 ?_
  refine va_get (D := (dC, dI)) (ci := 9) (v := .int (M_h_at 1 0)) (C := RX9) (T := TX9) (N := 5) hx hb hts hin9 hown hK hP 1 rfl rfl 1 (by decide) kf66 (fun _ h9 => h9) rfl dX4_takeSubject_4 ?_
  refine lv_iconst (v := (1 : Int32)) hx hb dX4_takeSubject_7 (by decide) ?_
  refine lv_iconst (v := (5 : Int32)) hx hb dX4_takeSubject_8 (by decide) ?_
  obtain ⟨r9, h9, hf⟩ := bd1_some hf
  have hPc := hP.sub (ws' := ([] : va_W)) [] rfl
  refine ro_calli (va_runSN (As := [.int (M_h_at 1 0), .int (1 : Int32), .int (5 : Int32)]) (rest := []) ⟨hx, hb, hml, hown, hts⟩ (c_X11_within l dC dI cyB cyI cyZ cyO (M_h_at 1 0) (1 : Int32) (5 : Int32) r9 h9) ⟨va_cnB 3 hts gX4_takeSubject_X11_within_n109 rfl rfl rfl (hN _ (by decide +kernel : Cond.methodLinkNest RX4 109 yX11_within "HoldSlips" ∈ nw_all)) (hts (.initialized RX11) (by decide +kernel)) (by decide +kernel) ⟨Nat.le_of_ble_eq_true rfl, Nat.le_of_ble_eq_true rfl⟩, hts (.static yX11_within) (by decide +kernel), trivial⟩ ⟨PR.blind, fun U hU hW => ⟨rfl, by rw [hU]; exact hPc, hCx.warm hW⟩⟩ rfl rfl hl.1 rfl (lv_room (Nat.le_of_ble_eq_true rfl)) dX4_takeSubject_9 ⟨Nat.zero_le _, Nat.zero_le _⟩) ?_
  refine lv_if_ne (tgt := 17) hx hb dX4_takeSubject_12 (by decide) (fun hc12 => ?_) (fun hc12 => ?_)
  · rw [if_neg hc12] at hf
    refine lv_aload_n hx hb dX4_takeSubject_17 rfl (lv_at hl 0 rfl) ?_
    refine lv_aload_n hx hb dX4_takeSubject_18 rfl (lv_at hl 0 rfl) ?_
    refine va_get (D := (dC, dI)) (ci := 4) (v := .ref h_at) (C := RX4) (T := TX4) (N := 12) hx hb hts hin4 hown hK hP 0 rfl rfl 0 (by decide) kf12 (fun _ h9 => h9) rfl dX4_takeSubject_19 ?_
    refine va_get (D := (dC, dI)) (ci := 9) (v := .int (M_h_at 1 0)) (C := RX9) (T := TX9) (N := 5) hx hb hts hin9 hown hK hP 1 rfl rfl 1 (by decide) kf66 (fun _ h9 => h9) rfl dX4_takeSubject_22 ?_
    refine va_put (D := (dC, dI)) (ci := 4) (v := .int (M_h_at 1 0)) (ty := .int) (C := RX4) (T := TX4) (N := 12) hx hb hts hin4 tyX4 tyX4_ok nmX4 hown hK hP hD hS 0 rfl rfl 9 (by decide) kf48 (fun _ h9 => h9) rfl (by decide +kernel) rfl rfl (Nat.le_of_ble_eq_true rfl) dX4_takeSubject_25 (fun H locs hP hD hS => ?_)
    obtain ⟨M_h_25, eM_h_25, hf⟩ := wr_some hf
    have hP : va_P (dC, dI) vwCl ((wX4 cyB cyI cyZ cyO h h_at h_text M_h_25) ++ ((wX9 cyB cyI cyZ cyO h_at h_at_tape M_h_at) ++ (wX3 cyB cyI cyZ cyO h_text h_text_action h_text_amount h_text_tests h_text_negated h_text_subject h_text_sign h_text_limit M_h_text))) H := by rw [eM_h_25]; exact hP
    have hD : va_D A ((wX4 cyB cyI cyZ cyO h h_at h_text M_h_25) ++ ((wX9 cyB cyI cyZ cyO h_at h_at_tape M_h_at) ++ (wX3 cyB cyI cyZ cyO h_text h_text_action h_text_amount h_text_tests h_text_negated h_text_subject h_text_sign h_text_limit M_h_text))) := by rw [eM_h_25]; exact hD
    refine lv_aload_n hx hb dX4_takeSubject_28 rfl (lv_at hl 0 rfl) ?_
    refine va_get (D := (dC, dI)) (ci := 4) (v := .int (M_h_25 9 0)) (C := RX4) (T := TX4) (N := 12) hx hb hts hin4 hown hK hP 0 rfl rfl 9 (by decide) kf48 (fun _ h9 => h9) rfl dX4_takeSubject_29 ?_
    refine lv_iconst (v := (1 : Int32)) hx hb dX4_takeSubject_32 (by decide) ?_
    refine lv_icmp_ne (tgt := 46) hx hb dX4_takeSubject_33 (by decide) (fun hc33 => ?_) (fun hc33 => ?_)
    · rw [if_neg hc33] at hf
      refine lv_aload_n hx hb dX4_takeSubject_46 rfl (lv_at hl 0 rfl) ?_
      refine lv_iconst (v := (3 : Int32)) hx hb dX4_takeSubject_47 (by decide) ?_
      refine va_put (D := (dC, dI)) (ci := 4) (v := .int (3 : Int32)) (ty := .int) (C := RX4) (T := TX4) (N := 12) hx hb hts hin4 tyX4 tyX4_ok nmX4 hown hK hP hD hS 0 rfl rfl 5 (by decide) kf35 (fun _ h9 => h9) rfl (by decide +kernel) rfl rfl (Nat.le_of_ble_eq_true rfl) dX4_takeSubject_48 (fun H locs hP hD hS => ?_)
      obtain ⟨M_h_48, eM_h_48, hf⟩ := wr_some hf
      have hP : va_P (dC, dI) vwCl ((wX4 cyB cyI cyZ cyO h h_at h_text M_h_48) ++ ((wX9 cyB cyI cyZ cyO h_at h_at_tape M_h_at) ++ (wX3 cyB cyI cyZ cyO h_text h_text_action h_text_amount h_text_tests h_text_negated h_text_subject h_text_sign h_text_limit M_h_text))) H := by rw [eM_h_48]; exact hP
      have hD : va_D A ((wX4 cyB cyI cyZ cyO h h_at h_text M_h_48) ++ ((wX9 cyB cyI cyZ cyO h_at h_at_tape M_h_at) ++ (wX3 cyB cyI cyZ cyO h_text h_text_action h_text_amount h_text_tests h_text_negated h_text_subject h_text_sign h_text_limit M_h_text))) := by rw [eM_h_48]; exact hD
      refine lv_iconst (v := (1 : Int32)) hx hb dX4_takeSubject_51 (by decide) ?_
      obtain ⟨hq0, hq1, hq2⟩ := pj3 hf
      subst hq0
      subst hq1
      subst hq2
      exact W.zret (v := (1 : Int32)) hx hb hr rfl (fun t ht hW => ⟨rfl, by rw [ht]; exact hP, hD, hS.F ht⟩) hS.2.2 dX4_takeSubject_52
    · rw [if_pos hc33] at hf
      refine lv_aload_n hx hb dX4_takeSubject_36 rfl (lv_at hl 0 rfl) ?_
      refine lv_bipush (v := (61 : Int32)) hx hb dX4_takeSubject_37 (by decide) ?_
      refine lv_iconst (v := (1 : Int32)) hx hb dX4_takeSubject_39 (by decide) ?_
      obtain ⟨M_h_40, M_h_text_40, h40, hf⟩ := bd2_some hf
      have hPc := hP.sub (ws' := ((wX4 cyB cyI cyZ cyO h h_at h_text M_h_25) ++ (wX3 cyB cyI cyZ cyO h_text h_text_action h_text_amount h_text_tests h_text_negated h_text_subject h_text_sign h_text_limit M_h_text))) [0, 2, 3, 4, 5, 6, 7, 8, 9] rfl
      have hDc := hD.sub (ws' := ((wX4 cyB cyI cyZ cyO h h_at h_text M_h_25) ++ (wX3 cyB cyI cyZ cyO h_text h_text_action h_text_amount h_text_tests h_text_negated h_text_subject h_text_sign h_text_limit M_h_text))) [0, 2, 3, 4, 5, 6, 7, 8, 9] (by decide) rfl
      refine wr_callv (wc := ((wX4 cyB cyI cyZ cyO h h_at h_text M_h_25) ++ (wX3 cyB cyI cyZ cyO h_text h_text_action h_text_amount h_text_tests h_text_negated h_text_subject h_text_sign h_text_limit M_h_text))) (wr := (wX9 cyB cyI cyZ cyO h_at h_at_tape M_h_at)) (w1 := ((wX4 cyB cyI cyZ cyO h h_at h_text M_h_40) ++ (wX3 cyB cyI cyZ cyO h_text h_text_action h_text_amount h_text_tests h_text_negated h_text_subject h_text_sign h_text_limit M_h_text_40))) (ws' := ((wX4 cyB cyI cyZ cyO h h_at h_text M_h_40) ++ ((wX9 cyB cyI cyZ cyO h_at h_at_tape M_h_at) ++ (wX3 cyB cyI cyZ cyO h_text h_text_action h_text_amount h_text_tests h_text_negated h_text_subject h_text_sign h_text_limit M_h_text_40)))) hP hD hS hA [0, 2, 3, 4, 5, 6, 7, 8, 9] [1] [1, 0, 2, 3, 4, 5, 6, 7, 8, 9] rfl rfl (by decide) (by decide) rfl (by decide) (va_runV (As := [.int (61 : Int32), .int (1 : Int32)]) (rest := []) ⟨hx, hb, hml, hown, hts⟩ (c_X4_keepTest l dC dI cyB cyI cyZ cyO h h_at h_text h_text_action h_text_amount h_text_tests h_text_negated h_text_subject h_text_sign h_text_limit _ M_h_25 M_h_text (61 : Int32) (1 : Int32) M_h_40 M_h_text_40 h40) (cwV 2 hts gX4_takeSubject_X4_keepTest rfl rfl rfl (by decide +kernel) ⟨Nat.le_of_ble_eq_true rfl, Nat.le_of_ble_eq_true rfl⟩) ⟨PW.blind, va_recv hK hP (ci := 4) (q0 := 0) rfl rfl, fun U hU hW => ⟨rfl, by rw [hU], by rw [hU]; exact hPc, hCx.warm hW, hDc.weaken (fun _ _ _ _ => trivial)⟩⟩ rfl rfl hl.1 rfl (lv_room (Nat.le_of_ble_eq_true rfl)) dX4_takeSubject_40 ⟨Nat.zero_le _, Nat.zero_le _⟩) (fun H locs hP hD hS => ?_)
      refine lv_goto (tgt := 51) hx hb dX4_takeSubject_43 (by decide) ?_
      refine lv_iconst (v := (1 : Int32)) hx hb dX4_takeSubject_51 (by decide) ?_
      obtain ⟨hq0, hq1, hq2⟩ := pj3 hf
      subst hq0
      subst hq1
      subst hq2
      exact W.zret (v := (1 : Int32)) hx hb hr rfl (fun t ht hW => ⟨rfl, by rw [ht]; exact hP, hD, hS.F ht⟩) hS.2.2 dX4_takeSubject_52
  · rw [if_pos hc12] at hf
    refine lv_iconst (v := (0 : Int32)) hx hb dX4_takeSubject_15 (by decide) ?_
    obtain ⟨hq0, hq1, hq2⟩ := pj3 hf
    subst hq0
    subst hq1
    subst hq2
    exact W.zret (v := (0 : Int32)) hx hb hr rfl (fun t ht hW => ⟨rfl, by rw [ht]; exact hP, hD, hS.F ht⟩) hS.2.2 dX4_takeSubject_16
set_option maxHeartbeats 4000000 in
set_option maxRecDepth 100000 in
theorem c_X4_takeTestEnd (l : Launch) (dC : Nat → ClassId) (dI : Nat → Nat → Nat) (cyB cyI cyZ cyO : ClassId) (h h_at h_text h_at_tape : Nat) (sz : Nat) (M_h : Mem) (M_h_at : Mem) (r : Int32) (R_h : Mem) (hf : f_X4_takeTestEnd M_h M_h_at = some (r, R_h)) : Met l yX4_takeTestEnd wsX4_takeTestEnd ({ frames := 0, cells := 0, slots := 0, locals := 0 } : Room) (PW dC dI cyB cyI cyZ cyO ([.ref h] : List Value) ((wX4 cyB cyI cyZ cyO h h_at h_text M_h) ++ (wX9 cyB cyI cyZ cyO h_at h_at_tape M_h_at)) sz) (QW dC dI (some (.int r)) ((wX4 cyB cyI cyZ cyO h h_at h_text R_h) ++ (wX9 cyB cyI cyZ cyO h_at h_at_tape M_h_at)) (va_A ((wX4 cyB cyI cyZ cyO h h_at h_text M_h) ++ (wX9 cyB cyI cyZ cyO h_at h_at_tape M_h_at)) sz)) 0 0 (va_A ((wX4 cyB cyI cyZ cyO h h_at h_text M_h) ++ (wX9 cyB cyI cyZ cyO h_at h_at_tape M_h_at)) sz) := by
  refine Met.ofW (cc := cX4_takeTestEnd) (maxL := 1) (ret := (some .boolean)) (by decide) rfl ?_
  intro p e s m args below meth c s₁ B hml hv
  obtain ⟨rfl, hsz, hP, hCx, hD0⟩ := hv
  have hK := hCx.1
  have hN := hCx.2
  have hx := B.exec
  have hb := B.bytes
  have hr := B.returns
  have hts := atoms_spec (ws := wsX4_takeTestEnd) B.pre
  have hown : s.vm.findClass RX4 = some m.cls := findClass_of_methodNamed B.named
  have hlocks := B.notSynchronized
  have hin4 : ∀ w ∈ u_ws RX4 TX4 12, w ∈ wsX4_takeTestEnd := fun w h => List.mem_cons_of_mem _ (List.mem_append_left _ (List.mem_append_right _ h))
  have hin9 : ∀ w ∈ u_ws RX9 TX9 5, w ∈ wsX4_takeTestEnd := fun w h => List.mem_cons_of_mem _ (List.mem_append_right _ h)
  have kf12 := hts (.fieldLink RX4 12 "HoldSlips$DecreeReader" "at" "LHoldSlips$TokenReader;") (by decide +kernel)
  have kf35 := hts (.fieldLink RX4 35 "HoldSlips$DecreeReader" "state" "I") (by decide +kernel)
  have kf66 := hts (.fieldLink RX4 66 "HoldSlips$TokenReader" "token" "I") (by decide +kernel)
  subst hsz
  have hD := hD0.self (sz := s.heap.size)
  generalize hAe : va_A ((wX4 cyB cyI cyZ cyO h h_at h_text M_h) ++ (wX9 cyB cyI cyZ cyO h_at h_at_tape M_h_at)) s.heap.size = A at hD ⊢
  have hA : ∀ q : Nat, s.heap.size ≤ q → A q := fun q h => by rw [← hAe]; exact Or.inr h
  have hS : va_S A s.heap s.heap [] := va_S.rf
  have hl := lv_entry ([.ref h] : List Value) (n := 1) (Nat.le_of_ble_eq_true rfl)
  rw [lg_entry_eq]
  generalize (lg_sl ([.ref h] : List Value) ++ List.replicate (1 - (lg_sl ([.ref h] : List Value)).length) Slot.unset).toArray = ls at hl ⊢
  have hl : lv_has ls 1 [(0, .ref h)] := hl
  rw [f_X4_takeTestEnd] at hf
  refine lv_aload_n hx hb dX4_takeTestEnd_0 rfl (lv_at hl 0 rfl) ?_
  refine va_get (D := (dC, dI)) (ci := 4) (v := .ref h_at) (C := RX4) (T := TX4) (N := 12) hx hb hts hin4 hown hK hP 0 rfl rfl 0 (by decide) kf12 (fun _ h9 => h9) rfl dX4_takeTestEnd_1 ?_
  refine va_get (D := (dC, dI)) (ci := 9) (v := .int (M_h_at 1 0)) (C := RX9) (T := TX9) (N := 5) hx hb hts hin9 hown hK hP 1 rfl rfl 1 (by decide) kf66 (fun _ h9 => h9) rfl dX4_takeTestEnd_4 ?_
  refine lv_bipush (v := (10 : Int32)) hx hb dX4_takeTestEnd_7 (by decide) ?_
  refine lv_icmp_ne (tgt := 19) hx hb dX4_takeTestEnd_9 (by decide) (fun hc9 => ?_) (fun hc9 => ?_)
  · rw [if_neg hc9] at hf
    refine lv_aload_n hx hb dX4_takeTestEnd_19 rfl (lv_at hl 0 rfl) ?_
    refine lv_bipush (v := (6 : Int32)) hx hb dX4_takeTestEnd_20 (by decide) ?_
    refine va_put (D := (dC, dI)) (ci := 4) (v := .int (6 : Int32)) (ty := .int) (C := RX4) (T := TX4) (N := 12) hx hb hts hin4 tyX4 tyX4_ok nmX4 hown hK hP hD hS 0 rfl rfl 5 (by decide) kf35 (fun _ h9 => h9) rfl (by decide +kernel) rfl rfl (Nat.le_of_ble_eq_true rfl) dX4_takeTestEnd_22 (fun H locs hP hD hS => ?_)
    obtain ⟨M_h_22, eM_h_22, hf⟩ := wr_some hf
    have hP : va_P (dC, dI) vwCl ((wX4 cyB cyI cyZ cyO h h_at h_text M_h_22) ++ (wX9 cyB cyI cyZ cyO h_at h_at_tape M_h_at)) H := by rw [eM_h_22]; exact hP
    have hD : va_D A ((wX4 cyB cyI cyZ cyO h h_at h_text M_h_22) ++ (wX9 cyB cyI cyZ cyO h_at h_at_tape M_h_at)) := by rw [eM_h_22]; exact hD
    refine lv_aload_n hx hb dX4_takeTestEnd_25 rfl (lv_at hl 0 rfl) ?_
    refine va_get (D := (dC, dI)) (ci := 4) (v := .ref h_at) (C := RX4) (T := TX4) (N := 12) hx hb hts hin4 hown hK hP 0 rfl rfl 0 (by decide) kf12 (fun _ h9 => h9) rfl dX4_takeTestEnd_26 ?_
    refine va_get (D := (dC, dI)) (ci := 9) (v := .int (M_h_at 1 0)) (C := RX9) (T := TX9) (N := 5) hx hb hts hin9 hown hK hP 1 rfl rfl 1 (by decide) kf66 (fun _ h9 => h9) rfl dX4_takeTestEnd_29 ?_
    refine lv_bipush (v := (58 : Int32)) hx hb dX4_takeTestEnd_32 (by decide) ?_
    refine lv_icmp_ne (tgt := 41) hx hb dX4_takeTestEnd_34 (by decide) (fun hc34 => ?_) (fun hc34 => ?_)
    · rw [if_neg hc34] at hf
      refine lv_iconst (v := (0 : Int32)) hx hb dX4_takeTestEnd_41 (by decide) ?_
      obtain ⟨hq0, hq1⟩ := pj2 hf
      subst hq0
      subst hq1
      exact W.zret (v := (0 : Int32)) hx hb hr rfl (fun t ht hW => ⟨rfl, by rw [ht]; exact hP, hD, hS.F ht⟩) hS.2.2 dX4_takeTestEnd_42
    · rw [if_pos hc34] at hf
      refine lv_iconst (v := (1 : Int32)) hx hb dX4_takeTestEnd_37 (by decide) ?_
      refine lv_goto (tgt := 42) hx hb dX4_takeTestEnd_38 (by decide) ?_
      obtain ⟨hq0, hq1⟩ := pj2 hf
      subst hq0
      subst hq1
      exact W.zret (v := (1 : Int32)) hx hb hr rfl (fun t ht hW => ⟨rfl, by rw [ht]; exact hP, hD, hS.F ht⟩) hS.2.2 dX4_takeTestEnd_42
  · rw [if_pos hc9] at hf
    refine lv_aload_n hx hb dX4_takeTestEnd_12 rfl (lv_at hl 0 rfl) ?_
    refine lv_iconst (v := (1 : Int32)) hx hb dX4_takeTestEnd_13 (by decide) ?_
    refine va_put (D := (dC, dI)) (ci := 4) (v := .int (1 : Int32)) (ty := .int) (C := RX4) (T := TX4) (N := 12) hx hb hts hin4 tyX4 tyX4_ok nmX4 hown hK hP hD hS 0 rfl rfl 5 (by decide) kf35 (fun _ h9 => h9) rfl (by decide +kernel) rfl rfl (Nat.le_of_ble_eq_true rfl) dX4_takeTestEnd_14 (fun H locs hP hD hS => ?_)
    obtain ⟨M_h_14, eM_h_14, hf⟩ := wr_some hf
    have hP : va_P (dC, dI) vwCl ((wX4 cyB cyI cyZ cyO h h_at h_text M_h_14) ++ (wX9 cyB cyI cyZ cyO h_at h_at_tape M_h_at)) H := by rw [eM_h_14]; exact hP
    have hD : va_D A ((wX4 cyB cyI cyZ cyO h h_at h_text M_h_14) ++ (wX9 cyB cyI cyZ cyO h_at h_at_tape M_h_at)) := by rw [eM_h_14]; exact hD
    refine lv_iconst (v := (1 : Int32)) hx hb dX4_takeTestEnd_17 (by decide) ?_
    obtain ⟨hq0, hq1⟩ := pj2 hf
    subst hq0
    subst hq1
    exact W.zret (v := (1 : Int32)) hx hb hr rfl (fun t ht hW => ⟨rfl, by rw [ht]; exact hP, hD, hS.F ht⟩) hS.2.2 dX4_takeTestEnd_18
set_option maxHeartbeats 4000000 in
set_option maxRecDepth 100000 in
theorem c_X4_takeTestStart (l : Launch) (dC : Nat → ClassId) (dI : Nat → Nat → Nat) (cyB cyI cyZ cyO : ClassId) (h h_at h_text h_at_tape h_text_action h_text_amount h_text_tests h_text_negated h_text_subject h_text_sign h_text_limit : Nat) (sz : Nat) (M_h : Mem) (M_h_at : Mem) (M_h_text : Mem) (r : Int32) (R_h : Mem) (R_h_text : Mem) (hf : f_X4_takeTestStart M_h M_h_at M_h_text = some (r, R_h, R_h_text)) : Met l yX4_takeTestStart wsX4_takeTestStart ({ frames := 3, cells := 0, slots := 0, locals := 69 } : Room) (PW dC dI cyB cyI cyZ cyO ([.ref h] : List Value) ((wX4 cyB cyI cyZ cyO h h_at h_text M_h) ++ ((wX9 cyB cyI cyZ cyO h_at h_at_tape M_h_at) ++ (wX3 cyB cyI cyZ cyO h_text h_text_action h_text_amount h_text_tests h_text_negated h_text_subject h_text_sign h_text_limit M_h_text))) sz) (QW dC dI (some (.int r)) ((wX4 cyB cyI cyZ cyO h h_at h_text R_h) ++ ((wX9 cyB cyI cyZ cyO h_at h_at_tape M_h_at) ++ (wX3 cyB cyI cyZ cyO h_text h_text_action h_text_amount h_text_tests h_text_negated h_text_subject h_text_sign h_text_limit R_h_text))) (va_A ((wX4 cyB cyI cyZ cyO h h_at h_text M_h) ++ ((wX9 cyB cyI cyZ cyO h_at h_at_tape M_h_at) ++ (wX3 cyB cyI cyZ cyO h_text h_text_action h_text_amount h_text_tests h_text_negated h_text_subject h_text_sign h_text_limit M_h_text))) sz)) 0 0 (va_A ((wX4 cyB cyI cyZ cyO h h_at h_text M_h) ++ ((wX9 cyB cyI cyZ cyO h_at h_at_tape M_h_at) ++ (wX3 cyB cyI cyZ cyO h_text h_text_action h_text_amount h_text_tests h_text_negated h_text_subject h_text_sign h_text_limit M_h_text))) sz) := by
  refine Met.ofW (cc := cX4_takeTestStart) (maxL := 1) (ret := (some .boolean)) (by decide) rfl ?_
  intro p e s m args below meth c s₁ B hml hv
  obtain ⟨rfl, hsz, hP, hCx, hD0⟩ := hv
  have hK := hCx.1
  have hN := hCx.2
  have hx := B.exec
  have hb := B.bytes
  have hr := B.returns
  have hts := atoms_spec (ws := wsX4_takeTestStart) B.pre
  have hown : s.vm.findClass RX4 = some m.cls := findClass_of_methodNamed B.named
  have hlocks := B.notSynchronized
  have hin4 : ∀ w ∈ u_ws RX4 TX4 12, w ∈ wsX4_takeTestStart := fun w h => List.mem_cons_of_mem _ (List.mem_append_left _ (List.mem_append_left _ (List.mem_append_right _ h)))
  have hin9 : ∀ w ∈ u_ws RX9 TX9 5, w ∈ wsX4_takeTestStart := fun w h => List.mem_cons_of_mem _ (List.mem_append_left _ (List.mem_append_right _ h))
  have kf12 := hts (.fieldLink RX4 12 "HoldSlips$DecreeReader" "at" "LHoldSlips$TokenReader;") (by decide +kernel)
  have kf35 := hts (.fieldLink RX4 35 "HoldSlips$DecreeReader" "state" "I") (by decide +kernel)
  have kf41 := hts (.fieldLink RX4 41 "HoldSlips$DecreeReader" "tests" "I") (by decide +kernel)
  have kf44 := hts (.fieldLink RX4 44 "HoldSlips$DecreeReader" "negated" "Z") (by decide +kernel)
  have kf66 := hts (.fieldLink RX4 66 "HoldSlips$TokenReader" "token" "I") (by decide +kernel)
  subst hsz
  have hD := hD0.self (sz := s.heap.size)
  generalize hAe : va_A ((wX4 cyB cyI cyZ cyO h h_at h_text M_h) ++ ((wX9 cyB cyI cyZ cyO h_at h_at_tape M_h_at) ++ (wX3 cyB cyI cyZ cyO h_text h_text_action h_text_amount h_text_tests h_text_negated h_text_subject h_text_sign h_text_limit M_h_text))) s.heap.size = A at hD ⊢
  have hA : ∀ q : Nat, s.heap.size ≤ q → A q := fun q h => by rw [← hAe]; exact Or.inr h
  have hS : va_S A s.heap s.heap [] := va_S.rf
  have hl := lv_entry ([.ref h] : List Value) (n := 1) (Nat.le_of_ble_eq_true rfl)
  rw [lg_entry_eq]
  generalize (lg_sl ([.ref h] : List Value) ++ List.replicate (1 - (lg_sl ([.ref h] : List Value)).length) Slot.unset).toArray = ls at hl ⊢
  have hl : lv_has ls 1 [(0, .ref h)] := hl
  have L30 : ∀ (M_h M_h_text : Mem) (s0 : Int32) (H : Heap) (locs : List Loc) (ls : Array Slot), f_X4_takeTestStart_L30 M_h M_h_at M_h_text s0 = some (r, R_h, R_h_text) → va_P (dC, dI) vwCl ((wX4 cyB cyI cyZ cyO h h_at h_text M_h) ++ ((wX9 cyB cyI cyZ cyO h_at h_at_tape M_h_at) ++ (wX3 cyB cyI cyZ cyO h_text h_text_action h_text_amount h_text_tests h_text_negated h_text_subject h_text_sign h_text_limit M_h_text))) H → va_D A ((wX4 cyB cyI cyZ cyO h h_at h_text M_h) ++ ((wX9 cyB cyI cyZ cyO h_at h_at_tape M_h_at) ++ (wX3 cyB cyI cyZ cyO h_text h_text_action h_text_amount h_text_tests h_text_negated h_text_subject h_text_sign h_text_limit M_h_text))) → va_S A s.heap H locs → lv_has ls 1 [(0, .ref h)] → W p l e (headSpec wsX4_takeTestStart ({ frames := 3, cells := 0, slots := 0, locals := 69 } : Room)).room s m ([.ref h] : List Value).toArray below meth c H locs 0 0 (MQ below (QW dC dI (some (.int r)) ((wX4 cyB cyI cyZ cyO h h_at h_text R_h) ++ ((wX9 cyB cyI cyZ cyO h_at h_at_tape M_h_at) ++ (wX3 cyB cyI cyZ cyO h_text h_text_action h_text_amount h_text_tests h_text_negated h_text_subject h_text_sign h_text_limit R_h_text))) A) ([.ref h] : List Value).toArray s 0 0 A) (F0 m 30 ls [.int s0, .ref h]) := by
    intro  M_h M_h_text s0 H locs ls hf hP hD hS hl
    rw [f_X4_takeTestStart_L30] at hf
    have hb30 := Decidable.not_not.mp (if_no hf)
    rw [if_neg (not_not_intro hb30)] at hf
    refine va_put (D := (dC, dI)) (ci := 4) (v := .int s0) (ty := .boolean) (C := RX4) (T := TX4) (N := 12) hx hb hts hin4 tyX4 tyX4_ok nmX4 hown hK hP hD hS 0 rfl rfl 8 (by decide) kf44 (fun _ h9 => h9) rfl (by decide +kernel) (nar_b hb30) (fit_b hb30) (Nat.le_of_ble_eq_true rfl) dX4_takeTestStart_30 (fun H locs hP hD hS => ?_)
    obtain ⟨M_h_30, eM_h_30, hf⟩ := wr_some hf
    have hP : va_P (dC, dI) vwCl ((wX4 cyB cyI cyZ cyO h h_at h_text M_h_30) ++ ((wX9 cyB cyI cyZ cyO h_at h_at_tape M_h_at) ++ (wX3 cyB cyI cyZ cyO h_text h_text_action h_text_amount h_text_tests h_text_negated h_text_subject h_text_sign h_text_limit M_h_text))) H := by rw [eM_h_30]; exact hP
    have hD : va_D A ((wX4 cyB cyI cyZ cyO h h_at h_text M_h_30) ++ ((wX9 cyB cyI cyZ cyO h_at h_at_tape M_h_at) ++ (wX3 cyB cyI cyZ cyO h_text h_text_action h_text_amount h_text_tests h_text_negated h_text_subject h_text_sign h_text_limit M_h_text))) := by rw [eM_h_30]; exact hD
    refine lv_aload_n hx hb dX4_takeTestStart_33 rfl (lv_at hl 0 rfl) ?_
    refine va_get (D := (dC, dI)) (ci := 4) (v := .int (M_h_30 8 0)) (C := RX4) (T := TX4) (N := 12) hx hb hts hin4 hown hK hP 0 rfl rfl 8 (by decide) kf44 (fun _ h9 => h9) rfl dX4_takeTestStart_34 ?_
    refine lv_if_eq (tgt := 47) hx hb dX4_takeTestStart_37 (by decide) (fun hc37 => ?_) (fun hc37 => ?_)
    · rw [if_pos hc37] at hf
      refine lv_aload_n hx hb dX4_takeTestStart_47 rfl (lv_at hl 0 rfl) ?_
      obtain ⟨r48, M_h_48, M_h_text_48, h48, hf⟩ := bd3_some hf
      refine wr_calli (wc := ((wX4 cyB cyI cyZ cyO h h_at h_text M_h_30) ++ ((wX9 cyB cyI cyZ cyO h_at h_at_tape M_h_at) ++ (wX3 cyB cyI cyZ cyO h_text h_text_action h_text_amount h_text_tests h_text_negated h_text_subject h_text_sign h_text_limit M_h_text)))) (wr := ([] : va_W)) (w1 := ((wX4 cyB cyI cyZ cyO h h_at h_text M_h_48) ++ ((wX9 cyB cyI cyZ cyO h_at h_at_tape M_h_at) ++ (wX3 cyB cyI cyZ cyO h_text h_text_action h_text_amount h_text_tests h_text_negated h_text_subject h_text_sign h_text_limit M_h_text_48)))) (ws' := ((wX4 cyB cyI cyZ cyO h h_at h_text M_h_48) ++ ((wX9 cyB cyI cyZ cyO h_at h_at_tape M_h_at) ++ (wX3 cyB cyI cyZ cyO h_text h_text_action h_text_amount h_text_tests h_text_negated h_text_subject h_text_sign h_text_limit M_h_text_48)))) hP hD hS hA [0, 1, 2, 3, 4, 5, 6, 7, 8, 9] [] [0, 1, 2, 3, 4, 5, 6, 7, 8, 9] rfl rfl (by decide) (by decide) rfl (by decide) (va_runV (As := []) (rest := []) ⟨hx, hb, hml, hown, hts⟩ (c_X4_takeSubject l dC dI cyB cyI cyZ cyO h h_at h_text h_at_tape h_text_action h_text_amount h_text_tests h_text_negated h_text_subject h_text_sign h_text_limit _ M_h_30 M_h_at M_h_text r48 M_h_48 M_h_text_48 h48) (cwV 0 hts gX4_takeTestStart_X4_takeSubject rfl rfl rfl (by decide +kernel) ⟨Nat.le_of_ble_eq_true rfl, Nat.le_of_ble_eq_true rfl⟩) ⟨PW.blind, va_recv hK hP (ci := 4) (q0 := 0) rfl rfl, fun U hU hW => ⟨rfl, by rw [hU], by rw [hU]; exact hP, hCx.warm hW, hD.weaken (fun _ _ _ _ => trivial)⟩⟩ rfl rfl hl.1 rfl (lv_room (Nat.le_of_ble_eq_true rfl)) dX4_takeTestStart_48 ⟨Nat.zero_le _, Nat.zero_le _⟩) (fun H locs hP hD hS => ?_)
      have hb51 := Decidable.not_not.mp (if_no hf)
      rw [if_neg (not_not_intro hb51)] at hf
      obtain ⟨hq0, hq1, hq2⟩ := pj3 hf
      subst hq0
      subst hq1
      subst hq2
      exact W.zret (v := r48) hx hb hr (nar_b hb51) (fun t ht hW => ⟨rfl, by rw [ht]; exact hP, hD, hS.F ht⟩) hS.2.2 dX4_takeTestStart_51
    · rw [if_neg hc37] at hf
      refine lv_aload_n hx hb dX4_takeTestStart_40 rfl (lv_at hl 0 rfl) ?_
      refine lv_iconst (v := (2 : Int32)) hx hb dX4_takeTestStart_41 (by decide) ?_
      refine va_put (D := (dC, dI)) (ci := 4) (v := .int (2 : Int32)) (ty := .int) (C := RX4) (T := TX4) (N := 12) hx hb hts hin4 tyX4 tyX4_ok nmX4 hown hK hP hD hS 0 rfl rfl 5 (by decide) kf35 (fun _ h9 => h9) rfl (by decide +kernel) rfl rfl (Nat.le_of_ble_eq_true rfl) dX4_takeTestStart_42 (fun H locs hP hD hS => ?_)
      obtain ⟨M_h_42, eM_h_42, hf⟩ := wr_some hf
      have hP : va_P (dC, dI) vwCl ((wX4 cyB cyI cyZ cyO h h_at h_text M_h_42) ++ ((wX9 cyB cyI cyZ cyO h_at h_at_tape M_h_at) ++ (wX3 cyB cyI cyZ cyO h_text h_text_action h_text_amount h_text_tests h_text_negated h_text_subject h_text_sign h_text_limit M_h_text))) H := by rw [eM_h_42]; exact hP
      have hD : va_D A ((wX4 cyB cyI cyZ cyO h h_at h_text M_h_42) ++ ((wX9 cyB cyI cyZ cyO h_at h_at_tape M_h_at) ++ (wX3 cyB cyI cyZ cyO h_text h_text_action h_text_amount h_text_tests h_text_negated h_text_subject h_text_sign h_text_limit M_h_text))) := by rw [eM_h_42]; exact hD
      refine lv_iconst (v := (1 : Int32)) hx hb dX4_takeTestStart_45 (by decide) ?_
      obtain ⟨hq0, hq1, hq2⟩ := pj3 hf
      subst hq0
      subst hq1
      subst hq2
      exact W.zret (v := (1 : Int32)) hx hb hr rfl (fun t ht hW => ⟨rfl, by rw [ht]; exact hP, hD, hS.F ht⟩) hS.2.2 dX4_takeTestStart_46
  have L12 : ∀ (M_h M_h_text : Mem) (H : Heap) (locs : List Loc) (ls : Array Slot), f_X4_takeTestStart_L12 M_h M_h_at M_h_text = some (r, R_h, R_h_text) → va_P (dC, dI) vwCl ((wX4 cyB cyI cyZ cyO h h_at h_text M_h) ++ ((wX9 cyB cyI cyZ cyO h_at h_at_tape M_h_at) ++ (wX3 cyB cyI cyZ cyO h_text h_text_action h_text_amount h_text_tests h_text_negated h_text_subject h_text_sign h_text_limit M_h_text))) H → va_D A ((wX4 cyB cyI cyZ cyO h h_at h_text M_h) ++ ((wX9 cyB cyI cyZ cyO h_at h_at_tape M_h_at) ++ (wX3 cyB cyI cyZ cyO h_text h_text_action h_text_amount h_text_tests h_text_negated h_text_subject h_text_sign h_text_limit M_h_text))) → va_S A s.heap H locs → lv_has ls 1 [(0, .ref h)] → W p l e (headSpec wsX4_takeTestStart ({ frames := 3, cells := 0, slots := 0, locals := 69 } : Room)).room s m ([.ref h] : List Value).toArray below meth c H locs 0 0 (MQ below (QW dC dI (some (.int r)) ((wX4 cyB cyI cyZ cyO h h_at h_text R_h) ++ ((wX9 cyB cyI cyZ cyO h_at h_at_tape M_h_at) ++ (wX3 cyB cyI cyZ cyO h_text h_text_action h_text_amount h_text_tests h_text_negated h_text_subject h_text_sign h_text_limit R_h_text))) A) ([.ref h] : List Value).toArray s 0 0 A) (F0 m 12 ls []) := by
    intro  M_h M_h_text H locs ls hf hP hD hS hl
    rw [f_X4_takeTestStart_L12] at hf
    refine lv_aload_n hx hb dX4_takeTestStart_12 rfl (lv_at hl 0 rfl) ?_
    refine lv_aload_n hx hb dX4_takeTestStart_13 rfl (lv_at hl 0 rfl) ?_
    refine va_get (D := (dC, dI)) (ci := 4) (v := .ref h_at) (C := RX4) (T := TX4) (N := 12) hx hb hts hin4 hown hK hP 0 rfl rfl 0 (by decide) kf12 (fun _ h9 => h9) rfl dX4_takeTestStart_14 ?_
    refine va_get (D := (dC, dI)) (ci := 9) (v := .int (M_h_at 1 0)) (C := RX9) (T := TX9) (N := 5) hx hb hts hin9 hown hK hP 1 rfl rfl 1 (by decide) kf66 (fun _ h9 => h9) rfl dX4_takeTestStart_17 ?_
    refine lv_bipush (v := (11 : Int32)) hx hb dX4_takeTestStart_20 (by decide) ?_
    refine lv_icmp_ne (tgt := 29) hx hb dX4_takeTestStart_22 (by decide) (fun hc22 => ?_) (fun hc22 => ?_)
    · rw [if_neg hc22] at hf
      refine lv_iconst (v := (0 : Int32)) hx hb dX4_takeTestStart_29 (by decide) ?_
      exact L30 M_h M_h_text (0 : Int32) _ _ ls hf hP hD hS (lv_sub hl [0] rfl)
    · rw [if_pos hc22] at hf
      refine lv_iconst (v := (1 : Int32)) hx hb dX4_takeTestStart_25 (by decide) ?_
      refine lv_goto (tgt := 30) hx hb dX4_takeTestStart_26 (by decide) ?_
      exact L30 M_h M_h_text (1 : Int32) _ _ ls hf hP hD hS (lv_sub hl [0] rfl)
  rw [f_X4_takeTestStart] at hf
  refine lv_aload_n hx hb dX4_takeTestStart_0 rfl (lv_at hl 0 rfl) ?_
  refine va_get (D := (dC, dI)) (ci := 4) (v := .int (M_h 7 0)) (C := RX4) (T := TX4) (N := 12) hx hb hts hin4 hown hK hP 0 rfl rfl 7 (by decide) kf41 (fun _ h9 => h9) rfl dX4_takeTestStart_1 ?_
  refine lv_iconst (v := (4 : Int32)) hx hb dX4_takeTestStart_4 (by decide) ?_
  refine lv_icmp_lt (tgt := 12) hx hb dX4_takeTestStart_5 (by decide) (fun hc5 => ?_) (fun hc5 => ?_)
  · rw [if_pos hc5] at hf
    exact L12 M_h M_h_text _ _ ls hf hP hD hS (lv_sub hl [0] rfl)
  · rw [if_neg hc5] at hf
    refine lv_aload_n hx hb dX4_takeTestStart_8 rfl (lv_at hl 0 rfl) ?_
    obtain ⟨M_h_9, h9, hf⟩ := bd1_some hf
    have hPc := hP.sub (ws' := ((wX4 cyB cyI cyZ cyO h h_at h_text M_h) ++ (wX9 cyB cyI cyZ cyO h_at h_at_tape M_h_at))) [0, 1] rfl
    have hDc := hD.sub (ws' := ((wX4 cyB cyI cyZ cyO h h_at h_text M_h) ++ (wX9 cyB cyI cyZ cyO h_at h_at_tape M_h_at))) [0, 1] (by decide) rfl
    refine wr_callv (wc := ((wX4 cyB cyI cyZ cyO h h_at h_text M_h) ++ (wX9 cyB cyI cyZ cyO h_at h_at_tape M_h_at))) (wr := (wX3 cyB cyI cyZ cyO h_text h_text_action h_text_amount h_text_tests h_text_negated h_text_subject h_text_sign h_text_limit M_h_text)) (w1 := ((wX4 cyB cyI cyZ cyO h h_at h_text M_h_9) ++ (wX9 cyB cyI cyZ cyO h_at h_at_tape M_h_at))) (ws' := ((wX4 cyB cyI cyZ cyO h h_at h_text M_h_9) ++ ((wX9 cyB cyI cyZ cyO h_at h_at_tape M_h_at) ++ (wX3 cyB cyI cyZ cyO h_text h_text_action h_text_amount h_text_tests h_text_negated h_text_subject h_text_sign h_text_limit M_h_text)))) hP hD hS hA [0, 1] [2, 3, 4, 5, 6, 7, 8, 9] [8, 9, 0, 1, 2, 3, 4, 5, 6, 7] rfl rfl (by decide) (by decide) rfl (by decide) (va_runV (As := []) (rest := []) ⟨hx, hb, hml, hown, hts⟩ (c_X4_noteExcess l dC dI cyB cyI cyZ cyO h h_at h_text h_at_tape _ M_h M_h_at M_h_9 h9) (cwV 0 hts gX4_takeTestStart_X4_noteExcess rfl rfl rfl (by decide +kernel) ⟨Nat.le_of_ble_eq_true rfl, Nat.le_of_ble_eq_true rfl⟩) ⟨PW.blind, va_recv hK hP (ci := 4) (q0 := 0) rfl rfl, fun U hU hW => ⟨rfl, by rw [hU], by rw [hU]; exact hPc, hCx.warm hW, hDc.weaken (fun _ _ _ _ => trivial)⟩⟩ rfl rfl hl.1 rfl (lv_room (Nat.le_of_ble_eq_true rfl)) dX4_takeTestStart_9 ⟨Nat.zero_le _, Nat.zero_le _⟩) (fun H locs hP hD hS => ?_)
    exact L12 M_h_9 M_h_text _ _ ls hf hP hD hS (lv_sub hl [0] rfl)
set_option maxHeartbeats 4000000 in
set_option maxRecDepth 100000 in
theorem c_X4_take (l : Launch) (dC : Nat → ClassId) (dI : Nat → Nat → Nat) (cyB cyI cyZ cyO : ClassId) (h h_at h_text h_at_tape h_text_action h_text_amount h_text_tests h_text_negated h_text_subject h_text_sign h_text_limit : Nat) (sz : Nat) (M_h : Mem) (M_h_at : Mem) (M_h_text : Mem) (r : Int32) (R_h : Mem) (R_h_text : Mem) (hf : f_X4_take M_h M_h_at M_h_text = some (r, R_h, R_h_text)) : Met l yX4_take wsX4_take ({ frames := 5, cells := 0, slots := 0, locals := 115 } : Room) (PW dC dI cyB cyI cyZ cyO ([.ref h] : List Value) ((wX4 cyB cyI cyZ cyO h h_at h_text M_h) ++ ((wX9 cyB cyI cyZ cyO h_at h_at_tape M_h_at) ++ (wX3 cyB cyI cyZ cyO h_text h_text_action h_text_amount h_text_tests h_text_negated h_text_subject h_text_sign h_text_limit M_h_text))) sz) (QW dC dI (some (.int r)) ((wX4 cyB cyI cyZ cyO h h_at h_text R_h) ++ ((wX9 cyB cyI cyZ cyO h_at h_at_tape M_h_at) ++ (wX3 cyB cyI cyZ cyO h_text h_text_action h_text_amount h_text_tests h_text_negated h_text_subject h_text_sign h_text_limit R_h_text))) (va_A ((wX4 cyB cyI cyZ cyO h h_at h_text M_h) ++ ((wX9 cyB cyI cyZ cyO h_at h_at_tape M_h_at) ++ (wX3 cyB cyI cyZ cyO h_text h_text_action h_text_amount h_text_tests h_text_negated h_text_subject h_text_sign h_text_limit M_h_text))) sz)) 0 0 (va_A ((wX4 cyB cyI cyZ cyO h h_at h_text M_h) ++ ((wX9 cyB cyI cyZ cyO h_at h_at_tape M_h_at) ++ (wX3 cyB cyI cyZ cyO h_text h_text_action h_text_amount h_text_tests h_text_negated h_text_subject h_text_sign h_text_limit M_h_text))) sz) := by
  refine Met.ofW (cc := cX4_take) (maxL := 1) (ret := (some .boolean)) (by decide) rfl ?_
  intro p e s m args below meth c s₁ B hml hv
  obtain ⟨rfl, hsz, hP, hCx, hD0⟩ := hv
  have hK := hCx.1
  have hN := hCx.2
  have hx := B.exec
  have hb := B.bytes
  have hr := B.returns
  have hts := atoms_spec (ws := wsX4_take) B.pre
  have hown : s.vm.findClass RX4 = some m.cls := findClass_of_methodNamed B.named
  have hlocks := B.notSynchronized
  have hin4 : ∀ w ∈ u_ws RX4 TX4 12, w ∈ wsX4_take := fun w h => List.mem_cons_of_mem _ (List.mem_append_left _ (List.mem_append_left _ (List.mem_append_right _ h)))
  have kf35 := hts (.fieldLink RX4 35 "HoldSlips$DecreeReader" "state" "I") (by decide +kernel)
  subst hsz
  have hD := hD0.self (sz := s.heap.size)
  generalize hAe : va_A ((wX4 cyB cyI cyZ cyO h h_at h_text M_h) ++ ((wX9 cyB cyI cyZ cyO h_at h_at_tape M_h_at) ++ (wX3 cyB cyI cyZ cyO h_text h_text_action h_text_amount h_text_tests h_text_negated h_text_subject h_text_sign h_text_limit M_h_text))) s.heap.size = A at hD ⊢
  have hA : ∀ q : Nat, s.heap.size ≤ q → A q := fun q h => by rw [← hAe]; exact Or.inr h
  have hS : va_S A s.heap s.heap [] := va_S.rf
  have hl := lv_entry ([.ref h] : List Value) (n := 1) (Nat.le_of_ble_eq_true rfl)
  rw [lg_entry_eq]
  generalize (lg_sl ([.ref h] : List Value) ++ List.replicate (1 - (lg_sl ([.ref h] : List Value)).length) Slot.unset).toArray = ls at hl ⊢
  have hl : lv_has ls 1 [(0, .ref h)] := hl
  rw [f_X4_take] at hf
  refine lv_aload_n hx hb dX4_take_0 rfl (lv_at hl 0 rfl) ?_
  refine va_get (D := (dC, dI)) (ci := 4) (v := .int (M_h 5 0)) (C := RX4) (T := TX4) (N := 12) hx hb hts hin4 hown hK hP 0 rfl rfl 5 (by decide) kf35 (fun _ h9 => h9) rfl dX4_take_1 ?_
  by_cases hs4_0 : (M_h 5 0) = (0 : Int32)
  · rw [if_pos hs4_0] at hf
    refine lv_tableIn (off := 48) (tgt := 52) hx hb dX4_take_4 (by rw [hs4_0]; decide) (by rw [hs4_0]; decide) (by rw [hs4_0]; rfl) (by decide) ?_
    refine lv_aload_n hx hb dX4_take_52 rfl (lv_at hl 0 rfl) ?_
    obtain ⟨r53, M_h_53, M_h_text_53, h53, hf⟩ := bd3_some hf
    refine wr_calli (wc := ((wX4 cyB cyI cyZ cyO h h_at h_text M_h) ++ ((wX9 cyB cyI cyZ cyO h_at h_at_tape M_h_at) ++ (wX3 cyB cyI cyZ cyO h_text h_text_action h_text_amount h_text_tests h_text_negated h_text_subject h_text_sign h_text_limit M_h_text)))) (wr := ([] : va_W)) (w1 := ((wX4 cyB cyI cyZ cyO h h_at h_text M_h_53) ++ ((wX9 cyB cyI cyZ cyO h_at h_at_tape M_h_at) ++ (wX3 cyB cyI cyZ cyO h_text h_text_action h_text_amount h_text_tests h_text_negated h_text_subject h_text_sign h_text_limit M_h_text_53)))) (ws' := ((wX4 cyB cyI cyZ cyO h h_at h_text M_h_53) ++ ((wX9 cyB cyI cyZ cyO h_at h_at_tape M_h_at) ++ (wX3 cyB cyI cyZ cyO h_text h_text_action h_text_amount h_text_tests h_text_negated h_text_subject h_text_sign h_text_limit M_h_text_53)))) hP hD hS hA [0, 1, 2, 3, 4, 5, 6, 7, 8, 9] [] [0, 1, 2, 3, 4, 5, 6, 7, 8, 9] rfl rfl (by decide) (by decide) rfl (by decide) (va_runV (As := []) (rest := []) ⟨hx, hb, hml, hown, hts⟩ (c_X4_takeLineStart l dC dI cyB cyI cyZ cyO h h_at h_text h_at_tape h_text_action h_text_amount h_text_tests h_text_negated h_text_subject h_text_sign h_text_limit _ M_h M_h_at M_h_text r53 M_h_53 M_h_text_53 h53) (cwV 0 hts gX4_take_X4_takeLineStart rfl rfl rfl (by decide +kernel) ⟨Nat.le_of_ble_eq_true rfl, Nat.le_of_ble_eq_true rfl⟩) ⟨PW.blind, va_recv hK hP (ci := 4) (q0 := 0) rfl rfl, fun U hU hW => ⟨rfl, by rw [hU], by rw [hU]; exact hP, hCx.warm hW, hD.weaken (fun _ _ _ _ => trivial)⟩⟩ rfl rfl hl.1 rfl (lv_room (Nat.le_of_ble_eq_true rfl)) dX4_take_53 ⟨Nat.zero_le _, Nat.zero_le _⟩) (fun H locs hP hD hS => ?_)
    have hb56 := Decidable.not_not.mp (if_no hf)
    rw [if_neg (not_not_intro hb56)] at hf
    obtain ⟨hq0, hq1, hq2⟩ := pj3 hf
    subst hq0
    subst hq1
    subst hq2
    exact W.zret (v := r53) hx hb hr (nar_b hb56) (fun t ht hW => ⟨rfl, by rw [ht]; exact hP, hD, hS.F ht⟩) hS.2.2 dX4_take_56
  · rw [if_neg hs4_0] at hf
    by_cases hs4_1 : (M_h 5 0) = (1 : Int32)
    · rw [if_pos hs4_1] at hf
      refine lv_tableIn (off := 53) (tgt := 57) hx hb dX4_take_4 (by rw [hs4_1]; decide) (by rw [hs4_1]; decide) (by rw [hs4_1]; rfl) (by decide) ?_
      refine lv_aload_n hx hb dX4_take_57 rfl (lv_at hl 0 rfl) ?_
      obtain ⟨r58, M_h_58, M_h_text_58, h58, hf⟩ := bd3_some hf
      refine wr_calli (wc := ((wX4 cyB cyI cyZ cyO h h_at h_text M_h) ++ ((wX9 cyB cyI cyZ cyO h_at h_at_tape M_h_at) ++ (wX3 cyB cyI cyZ cyO h_text h_text_action h_text_amount h_text_tests h_text_negated h_text_subject h_text_sign h_text_limit M_h_text)))) (wr := ([] : va_W)) (w1 := ((wX4 cyB cyI cyZ cyO h h_at h_text M_h_58) ++ ((wX9 cyB cyI cyZ cyO h_at h_at_tape M_h_at) ++ (wX3 cyB cyI cyZ cyO h_text h_text_action h_text_amount h_text_tests h_text_negated h_text_subject h_text_sign h_text_limit M_h_text_58)))) (ws' := ((wX4 cyB cyI cyZ cyO h h_at h_text M_h_58) ++ ((wX9 cyB cyI cyZ cyO h_at h_at_tape M_h_at) ++ (wX3 cyB cyI cyZ cyO h_text h_text_action h_text_amount h_text_tests h_text_negated h_text_subject h_text_sign h_text_limit M_h_text_58)))) hP hD hS hA [0, 1, 2, 3, 4, 5, 6, 7, 8, 9] [] [0, 1, 2, 3, 4, 5, 6, 7, 8, 9] rfl rfl (by decide) (by decide) rfl (by decide) (va_runV (As := []) (rest := []) ⟨hx, hb, hml, hown, hts⟩ (c_X4_takeTestStart l dC dI cyB cyI cyZ cyO h h_at h_text h_at_tape h_text_action h_text_amount h_text_tests h_text_negated h_text_subject h_text_sign h_text_limit _ M_h M_h_at M_h_text r58 M_h_58 M_h_text_58 h58) (cwV 0 hts gX4_take_X4_takeTestStart rfl rfl rfl (by decide +kernel) ⟨Nat.le_of_ble_eq_true rfl, Nat.le_of_ble_eq_true rfl⟩) ⟨PW.blind, va_recv hK hP (ci := 4) (q0 := 0) rfl rfl, fun U hU hW => ⟨rfl, by rw [hU], by rw [hU]; exact hP, hCx.warm hW, hD.weaken (fun _ _ _ _ => trivial)⟩⟩ rfl rfl hl.1 rfl (lv_room (Nat.le_of_ble_eq_true rfl)) dX4_take_58 ⟨Nat.zero_le _, Nat.zero_le _⟩) (fun H locs hP hD hS => ?_)
      have hb61 := Decidable.not_not.mp (if_no hf)
      rw [if_neg (not_not_intro hb61)] at hf
      obtain ⟨hq0, hq1, hq2⟩ := pj3 hf
      subst hq0
      subst hq1
      subst hq2
      exact W.zret (v := r58) hx hb hr (nar_b hb61) (fun t ht hW => ⟨rfl, by rw [ht]; exact hP, hD, hS.F ht⟩) hS.2.2 dX4_take_61
    · rw [if_neg hs4_1] at hf
      by_cases hs4_2 : (M_h 5 0) = (2 : Int32)
      · rw [if_pos hs4_2] at hf
        refine lv_tableIn (off := 58) (tgt := 62) hx hb dX4_take_4 (by rw [hs4_2]; decide) (by rw [hs4_2]; decide) (by rw [hs4_2]; rfl) (by decide) ?_
        refine lv_aload_n hx hb dX4_take_62 rfl (lv_at hl 0 rfl) ?_
        obtain ⟨r63, M_h_63, M_h_text_63, h63, hf⟩ := bd3_some hf
        refine wr_calli (wc := ((wX4 cyB cyI cyZ cyO h h_at h_text M_h) ++ ((wX9 cyB cyI cyZ cyO h_at h_at_tape M_h_at) ++ (wX3 cyB cyI cyZ cyO h_text h_text_action h_text_amount h_text_tests h_text_negated h_text_subject h_text_sign h_text_limit M_h_text)))) (wr := ([] : va_W)) (w1 := ((wX4 cyB cyI cyZ cyO h h_at h_text M_h_63) ++ ((wX9 cyB cyI cyZ cyO h_at h_at_tape M_h_at) ++ (wX3 cyB cyI cyZ cyO h_text h_text_action h_text_amount h_text_tests h_text_negated h_text_subject h_text_sign h_text_limit M_h_text_63)))) (ws' := ((wX4 cyB cyI cyZ cyO h h_at h_text M_h_63) ++ ((wX9 cyB cyI cyZ cyO h_at h_at_tape M_h_at) ++ (wX3 cyB cyI cyZ cyO h_text h_text_action h_text_amount h_text_tests h_text_negated h_text_subject h_text_sign h_text_limit M_h_text_63)))) hP hD hS hA [0, 1, 2, 3, 4, 5, 6, 7, 8, 9] [] [0, 1, 2, 3, 4, 5, 6, 7, 8, 9] rfl rfl (by decide) (by decide) rfl (by decide) (va_runV (As := []) (rest := []) ⟨hx, hb, hml, hown, hts⟩ (c_X4_takeSubject l dC dI cyB cyI cyZ cyO h h_at h_text h_at_tape h_text_action h_text_amount h_text_tests h_text_negated h_text_subject h_text_sign h_text_limit _ M_h M_h_at M_h_text r63 M_h_63 M_h_text_63 h63) (cwV 0 hts gX4_take_X4_takeSubject rfl rfl rfl (by decide +kernel) ⟨Nat.le_of_ble_eq_true rfl, Nat.le_of_ble_eq_true rfl⟩) ⟨PW.blind, va_recv hK hP (ci := 4) (q0 := 0) rfl rfl, fun U hU hW => ⟨rfl, by rw [hU], by rw [hU]; exact hP, hCx.warm hW, hD.weaken (fun _ _ _ _ => trivial)⟩⟩ rfl rfl hl.1 rfl (lv_room (Nat.le_of_ble_eq_true rfl)) dX4_take_63 ⟨Nat.zero_le _, Nat.zero_le _⟩) (fun H locs hP hD hS => ?_)
        have hb66 := Decidable.not_not.mp (if_no hf)
        rw [if_neg (not_not_intro hb66)] at hf
        obtain ⟨hq0, hq1, hq2⟩ := pj3 hf
        subst hq0
        subst hq1
        subst hq2
        exact W.zret (v := r63) hx hb hr (nar_b hb66) (fun t ht hW => ⟨rfl, by rw [ht]; exact hP, hD, hS.F ht⟩) hS.2.2 dX4_take_66
      · rw [if_neg hs4_2] at hf
        by_cases hs4_3 : (M_h 5 0) = (3 : Int32)
        · rw [if_pos hs4_3] at hf
          refine lv_tableIn (off := 63) (tgt := 67) hx hb dX4_take_4 (by rw [hs4_3]; decide) (by rw [hs4_3]; decide) (by rw [hs4_3]; rfl) (by decide) ?_
          refine lv_aload_n hx hb dX4_take_67 rfl (lv_at hl 0 rfl) ?_
          obtain ⟨r68, M_h_68, h68, hf⟩ := bd2_some hf
          have hPc := hP.sub (ws' := ((wX4 cyB cyI cyZ cyO h h_at h_text M_h) ++ (wX9 cyB cyI cyZ cyO h_at h_at_tape M_h_at))) [0, 1] rfl
          have hDc := hD.sub (ws' := ((wX4 cyB cyI cyZ cyO h h_at h_text M_h) ++ (wX9 cyB cyI cyZ cyO h_at h_at_tape M_h_at))) [0, 1] (by decide) rfl
          refine wr_calli (wc := ((wX4 cyB cyI cyZ cyO h h_at h_text M_h) ++ (wX9 cyB cyI cyZ cyO h_at h_at_tape M_h_at))) (wr := (wX3 cyB cyI cyZ cyO h_text h_text_action h_text_amount h_text_tests h_text_negated h_text_subject h_text_sign h_text_limit M_h_text)) (w1 := ((wX4 cyB cyI cyZ cyO h h_at h_text M_h_68) ++ (wX9 cyB cyI cyZ cyO h_at h_at_tape M_h_at))) (ws' := ((wX4 cyB cyI cyZ cyO h h_at h_text M_h_68) ++ ((wX9 cyB cyI cyZ cyO h_at h_at_tape M_h_at) ++ (wX3 cyB cyI cyZ cyO h_text h_text_action h_text_amount h_text_tests h_text_negated h_text_subject h_text_sign h_text_limit M_h_text)))) hP hD hS hA [0, 1] [2, 3, 4, 5, 6, 7, 8, 9] [8, 9, 0, 1, 2, 3, 4, 5, 6, 7] rfl rfl (by decide) (by decide) rfl (by decide) (va_runV (As := []) (rest := []) ⟨hx, hb, hml, hown, hts⟩ (c_X4_takeComparison l dC dI cyB cyI cyZ cyO h h_at h_text h_at_tape _ M_h M_h_at r68 M_h_68 h68) (cwV 0 hts gX4_take_X4_takeComparison rfl rfl rfl (by decide +kernel) ⟨Nat.le_of_ble_eq_true rfl, Nat.le_of_ble_eq_true rfl⟩) ⟨PW.blind, va_recv hK hP (ci := 4) (q0 := 0) rfl rfl, fun U hU hW => ⟨rfl, by rw [hU], by rw [hU]; exact hPc, hCx.warm hW, hDc.weaken (fun _ _ _ _ => trivial)⟩⟩ rfl rfl hl.1 rfl (lv_room (Nat.le_of_ble_eq_true rfl)) dX4_take_68 ⟨Nat.zero_le _, Nat.zero_le _⟩) (fun H locs hP hD hS => ?_)
          have hb71 := Decidable.not_not.mp (if_no hf)
          rw [if_neg (not_not_intro hb71)] at hf
          obtain ⟨hq0, hq1, hq2⟩ := pj3 hf
          subst hq0
          subst hq1
          subst hq2
          exact W.zret (v := r68) hx hb hr (nar_b hb71) (fun t ht hW => ⟨rfl, by rw [ht]; exact hP, hD, hS.F ht⟩) hS.2.2 dX4_take_71
        · rw [if_neg hs4_3] at hf
          by_cases hs4_4 : (M_h 5 0) = (4 : Int32)
          · rw [if_pos hs4_4] at hf
            refine lv_tableIn (off := 68) (tgt := 72) hx hb dX4_take_4 (by rw [hs4_4]; decide) (by rw [hs4_4]; decide) (by rw [hs4_4]; rfl) (by decide) ?_
            refine lv_aload_n hx hb dX4_take_72 rfl (lv_at hl 0 rfl) ?_
            obtain ⟨r73, M_h_73, M_h_text_73, h73, hf⟩ := bd3_some hf
            refine wr_calli (wc := ((wX4 cyB cyI cyZ cyO h h_at h_text M_h) ++ ((wX9 cyB cyI cyZ cyO h_at h_at_tape M_h_at) ++ (wX3 cyB cyI cyZ cyO h_text h_text_action h_text_amount h_text_tests h_text_negated h_text_subject h_text_sign h_text_limit M_h_text)))) (wr := ([] : va_W)) (w1 := ((wX4 cyB cyI cyZ cyO h h_at h_text M_h_73) ++ ((wX9 cyB cyI cyZ cyO h_at h_at_tape M_h_at) ++ (wX3 cyB cyI cyZ cyO h_text h_text_action h_text_amount h_text_tests h_text_negated h_text_subject h_text_sign h_text_limit M_h_text_73)))) (ws' := ((wX4 cyB cyI cyZ cyO h h_at h_text M_h_73) ++ ((wX9 cyB cyI cyZ cyO h_at h_at_tape M_h_at) ++ (wX3 cyB cyI cyZ cyO h_text h_text_action h_text_amount h_text_tests h_text_negated h_text_subject h_text_sign h_text_limit M_h_text_73)))) hP hD hS hA [0, 1, 2, 3, 4, 5, 6, 7, 8, 9] [] [0, 1, 2, 3, 4, 5, 6, 7, 8, 9] rfl rfl (by decide) (by decide) rfl (by decide) (va_runV (As := []) (rest := []) ⟨hx, hb, hml, hown, hts⟩ (c_X4_takeLimit l dC dI cyB cyI cyZ cyO h h_at h_text h_at_tape h_text_action h_text_amount h_text_tests h_text_negated h_text_subject h_text_sign h_text_limit _ M_h M_h_at M_h_text r73 M_h_73 M_h_text_73 h73) (cwV 0 hts gX4_take_X4_takeLimit rfl rfl rfl (by decide +kernel) ⟨Nat.le_of_ble_eq_true rfl, Nat.le_of_ble_eq_true rfl⟩) ⟨PW.blind, va_recv hK hP (ci := 4) (q0 := 0) rfl rfl, fun U hU hW => ⟨rfl, by rw [hU], by rw [hU]; exact hP, hCx.warm hW, hD.weaken (fun _ _ _ _ => trivial)⟩⟩ rfl rfl hl.1 rfl (lv_room (Nat.le_of_ble_eq_true rfl)) dX4_take_73 ⟨Nat.zero_le _, Nat.zero_le _⟩) (fun H locs hP hD hS => ?_)
            have hb76 := Decidable.not_not.mp (if_no hf)
            rw [if_neg (not_not_intro hb76)] at hf
            obtain ⟨hq0, hq1, hq2⟩ := pj3 hf
            subst hq0
            subst hq1
            subst hq2
            exact W.zret (v := r73) hx hb hr (nar_b hb76) (fun t ht hW => ⟨rfl, by rw [ht]; exact hP, hD, hS.F ht⟩) hS.2.2 dX4_take_76
          · rw [if_neg hs4_4] at hf
            by_cases hs4_5 : (M_h 5 0) = (5 : Int32)
            · rw [if_pos hs4_5] at hf
              refine lv_tableIn (off := 73) (tgt := 77) hx hb dX4_take_4 (by rw [hs4_5]; decide) (by rw [hs4_5]; decide) (by rw [hs4_5]; rfl) (by decide) ?_
              refine lv_aload_n hx hb dX4_take_77 rfl (lv_at hl 0 rfl) ?_
              obtain ⟨r78, M_h_78, h78, hf⟩ := bd2_some hf
              have hPc := hP.sub (ws' := ((wX4 cyB cyI cyZ cyO h h_at h_text M_h) ++ (wX9 cyB cyI cyZ cyO h_at h_at_tape M_h_at))) [0, 1] rfl
              have hDc := hD.sub (ws' := ((wX4 cyB cyI cyZ cyO h h_at h_text M_h) ++ (wX9 cyB cyI cyZ cyO h_at h_at_tape M_h_at))) [0, 1] (by decide) rfl
              refine wr_calli (wc := ((wX4 cyB cyI cyZ cyO h h_at h_text M_h) ++ (wX9 cyB cyI cyZ cyO h_at h_at_tape M_h_at))) (wr := (wX3 cyB cyI cyZ cyO h_text h_text_action h_text_amount h_text_tests h_text_negated h_text_subject h_text_sign h_text_limit M_h_text)) (w1 := ((wX4 cyB cyI cyZ cyO h h_at h_text M_h_78) ++ (wX9 cyB cyI cyZ cyO h_at h_at_tape M_h_at))) (ws' := ((wX4 cyB cyI cyZ cyO h h_at h_text M_h_78) ++ ((wX9 cyB cyI cyZ cyO h_at h_at_tape M_h_at) ++ (wX3 cyB cyI cyZ cyO h_text h_text_action h_text_amount h_text_tests h_text_negated h_text_subject h_text_sign h_text_limit M_h_text)))) hP hD hS hA [0, 1] [2, 3, 4, 5, 6, 7, 8, 9] [8, 9, 0, 1, 2, 3, 4, 5, 6, 7] rfl rfl (by decide) (by decide) rfl (by decide) (va_runV (As := []) (rest := []) ⟨hx, hb, hml, hown, hts⟩ (c_X4_takeTestEnd l dC dI cyB cyI cyZ cyO h h_at h_text h_at_tape _ M_h M_h_at r78 M_h_78 h78) (cwV 0 hts gX4_take_X4_takeTestEnd rfl rfl rfl (by decide +kernel) ⟨Nat.le_of_ble_eq_true rfl, Nat.le_of_ble_eq_true rfl⟩) ⟨PW.blind, va_recv hK hP (ci := 4) (q0 := 0) rfl rfl, fun U hU hW => ⟨rfl, by rw [hU], by rw [hU]; exact hPc, hCx.warm hW, hDc.weaken (fun _ _ _ _ => trivial)⟩⟩ rfl rfl hl.1 rfl (lv_room (Nat.le_of_ble_eq_true rfl)) dX4_take_78 ⟨Nat.zero_le _, Nat.zero_le _⟩) (fun H locs hP hD hS => ?_)
              have hb81 := Decidable.not_not.mp (if_no hf)
              rw [if_neg (not_not_intro hb81)] at hf
              obtain ⟨hq0, hq1, hq2⟩ := pj3 hf
              subst hq0
              subst hq1
              subst hq2
              exact W.zret (v := r78) hx hb hr (nar_b hb81) (fun t ht hW => ⟨rfl, by rw [ht]; exact hP, hD, hS.F ht⟩) hS.2.2 dX4_take_81
            · rw [if_neg hs4_5] at hf
              by_cases hs4_6 : (M_h 5 0) = (6 : Int32)
              · rw [if_pos hs4_6] at hf
                refine lv_tableIn (off := 78) (tgt := 82) hx hb dX4_take_4 (by rw [hs4_6]; decide) (by rw [hs4_6]; decide) (by rw [hs4_6]; rfl) (by decide) ?_
                refine lv_aload_n hx hb dX4_take_82 rfl (lv_at hl 0 rfl) ?_
                obtain ⟨r83, M_h_83, M_h_text_83, h83, hf⟩ := bd3_some hf
                refine wr_calli (wc := ((wX4 cyB cyI cyZ cyO h h_at h_text M_h) ++ ((wX9 cyB cyI cyZ cyO h_at h_at_tape M_h_at) ++ (wX3 cyB cyI cyZ cyO h_text h_text_action h_text_amount h_text_tests h_text_negated h_text_subject h_text_sign h_text_limit M_h_text)))) (wr := ([] : va_W)) (w1 := ((wX4 cyB cyI cyZ cyO h h_at h_text M_h_83) ++ ((wX9 cyB cyI cyZ cyO h_at h_at_tape M_h_at) ++ (wX3 cyB cyI cyZ cyO h_text h_text_action h_text_amount h_text_tests h_text_negated h_text_subject h_text_sign h_text_limit M_h_text_83)))) (ws' := ((wX4 cyB cyI cyZ cyO h h_at h_text M_h_83) ++ ((wX9 cyB cyI cyZ cyO h_at h_at_tape M_h_at) ++ (wX3 cyB cyI cyZ cyO h_text h_text_action h_text_amount h_text_tests h_text_negated h_text_subject h_text_sign h_text_limit M_h_text_83)))) hP hD hS hA [0, 1, 2, 3, 4, 5, 6, 7, 8, 9] [] [0, 1, 2, 3, 4, 5, 6, 7, 8, 9] rfl rfl (by decide) (by decide) rfl (by decide) (va_runV (As := []) (rest := []) ⟨hx, hb, hml, hown, hts⟩ (c_X4_takeAction l dC dI cyB cyI cyZ cyO h h_at h_text h_at_tape h_text_action h_text_amount h_text_tests h_text_negated h_text_subject h_text_sign h_text_limit _ M_h M_h_at M_h_text r83 M_h_83 M_h_text_83 h83) (cwV 0 hts gX4_take_X4_takeAction rfl rfl rfl (by decide +kernel) ⟨Nat.le_of_ble_eq_true rfl, Nat.le_of_ble_eq_true rfl⟩) ⟨PW.blind, va_recv hK hP (ci := 4) (q0 := 0) rfl rfl, fun U hU hW => ⟨rfl, by rw [hU], by rw [hU]; exact hP, hCx.warm hW, hD.weaken (fun _ _ _ _ => trivial)⟩⟩ rfl rfl hl.1 rfl (lv_room (Nat.le_of_ble_eq_true rfl)) dX4_take_83 ⟨Nat.zero_le _, Nat.zero_le _⟩) (fun H locs hP hD hS => ?_)
                have hb86 := Decidable.not_not.mp (if_no hf)
                rw [if_neg (not_not_intro hb86)] at hf
                obtain ⟨hq0, hq1, hq2⟩ := pj3 hf
                subst hq0
                subst hq1
                subst hq2
                exact W.zret (v := r83) hx hb hr (nar_b hb86) (fun t ht hW => ⟨rfl, by rw [ht]; exact hP, hD, hS.F ht⟩) hS.2.2 dX4_take_86
              · rw [if_neg hs4_6] at hf
                by_cases hs4_7 : (M_h 5 0) = (7 : Int32)
                · rw [if_pos hs4_7] at hf
                  refine lv_tableIn (off := 83) (tgt := 87) hx hb dX4_take_4 (by rw [hs4_7]; decide) (by rw [hs4_7]; decide) (by rw [hs4_7]; rfl) (by decide) ?_
                  refine lv_aload_n hx hb dX4_take_87 rfl (lv_at hl 0 rfl) ?_
                  obtain ⟨r88, M_h_88, M_h_text_88, h88, hf⟩ := bd3_some hf
                  refine wr_calli (wc := ((wX4 cyB cyI cyZ cyO h h_at h_text M_h) ++ ((wX9 cyB cyI cyZ cyO h_at h_at_tape M_h_at) ++ (wX3 cyB cyI cyZ cyO h_text h_text_action h_text_amount h_text_tests h_text_negated h_text_subject h_text_sign h_text_limit M_h_text)))) (wr := ([] : va_W)) (w1 := ((wX4 cyB cyI cyZ cyO h h_at h_text M_h_88) ++ ((wX9 cyB cyI cyZ cyO h_at h_at_tape M_h_at) ++ (wX3 cyB cyI cyZ cyO h_text h_text_action h_text_amount h_text_tests h_text_negated h_text_subject h_text_sign h_text_limit M_h_text_88)))) (ws' := ((wX4 cyB cyI cyZ cyO h h_at h_text M_h_88) ++ ((wX9 cyB cyI cyZ cyO h_at h_at_tape M_h_at) ++ (wX3 cyB cyI cyZ cyO h_text h_text_action h_text_amount h_text_tests h_text_negated h_text_subject h_text_sign h_text_limit M_h_text_88)))) hP hD hS hA [0, 1, 2, 3, 4, 5, 6, 7, 8, 9] [] [0, 1, 2, 3, 4, 5, 6, 7, 8, 9] rfl rfl (by decide) (by decide) rfl (by decide) (va_runV (As := []) (rest := []) ⟨hx, hb, hml, hown, hts⟩ (c_X4_takeAmount l dC dI cyB cyI cyZ cyO h h_at h_text h_at_tape h_text_action h_text_amount h_text_tests h_text_negated h_text_subject h_text_sign h_text_limit _ M_h M_h_at M_h_text r88 M_h_88 M_h_text_88 h88) (cwV 0 hts gX4_take_X4_takeAmount rfl rfl rfl (by decide +kernel) ⟨Nat.le_of_ble_eq_true rfl, Nat.le_of_ble_eq_true rfl⟩) ⟨PW.blind, va_recv hK hP (ci := 4) (q0 := 0) rfl rfl, fun U hU hW => ⟨rfl, by rw [hU], by rw [hU]; exact hP, hCx.warm hW, hD.weaken (fun _ _ _ _ => trivial)⟩⟩ rfl rfl hl.1 rfl (lv_room (Nat.le_of_ble_eq_true rfl)) dX4_take_88 ⟨Nat.zero_le _, Nat.zero_le _⟩) (fun H locs hP hD hS => ?_)
                  have hb91 := Decidable.not_not.mp (if_no hf)
                  rw [if_neg (not_not_intro hb91)] at hf
                  obtain ⟨hq0, hq1, hq2⟩ := pj3 hf
                  subst hq0
                  subst hq1
                  subst hq2
                  exact W.zret (v := r88) hx hb hr (nar_b hb91) (fun t ht hW => ⟨rfl, by rw [ht]; exact hP, hD, hS.F ht⟩) hS.2.2 dX4_take_91
                · rw [if_neg hs4_7] at hf
                  refine lv_tableOut (tgt := 92) hx hb dX4_take_4 (by have z0 := lv_neT hs4_0 (show (0 : Int32).toInt = 0 by decide); have z1 := lv_neT hs4_1 (show (1 : Int32).toInt = 1 by decide); have z2 := lv_neT hs4_2 (show (2 : Int32).toInt = 2 by decide); have z3 := lv_neT hs4_3 (show (3 : Int32).toInt = 3 by decide); have z4 := lv_neT hs4_4 (show (4 : Int32).toInt = 4 by decide); have z5 := lv_neT hs4_5 (show (5 : Int32).toInt = 5 by decide); have z6 := lv_neT hs4_6 (show (6 : Int32).toInt = 6 by decide); have z7 := lv_neT hs4_7 (show (7 : Int32).toInt = 7 by decide); omega) (by decide) ?_
                  refine lv_aload_n hx hb dX4_take_92 rfl (lv_at hl 0 rfl) ?_
                  obtain ⟨r93, M_h_93, h93, hf⟩ := bd2_some hf
                  have hPc := hP.sub (ws' := ((wX4 cyB cyI cyZ cyO h h_at h_text M_h) ++ (wX9 cyB cyI cyZ cyO h_at h_at_tape M_h_at))) [0, 1] rfl
                  have hDc := hD.sub (ws' := ((wX4 cyB cyI cyZ cyO h h_at h_text M_h) ++ (wX9 cyB cyI cyZ cyO h_at h_at_tape M_h_at))) [0, 1] (by decide) rfl
                  refine wr_calli (wc := ((wX4 cyB cyI cyZ cyO h h_at h_text M_h) ++ (wX9 cyB cyI cyZ cyO h_at h_at_tape M_h_at))) (wr := (wX3 cyB cyI cyZ cyO h_text h_text_action h_text_amount h_text_tests h_text_negated h_text_subject h_text_sign h_text_limit M_h_text)) (w1 := ((wX4 cyB cyI cyZ cyO h h_at h_text M_h_93) ++ (wX9 cyB cyI cyZ cyO h_at h_at_tape M_h_at))) (ws' := ((wX4 cyB cyI cyZ cyO h h_at h_text M_h_93) ++ ((wX9 cyB cyI cyZ cyO h_at h_at_tape M_h_at) ++ (wX3 cyB cyI cyZ cyO h_text h_text_action h_text_amount h_text_tests h_text_negated h_text_subject h_text_sign h_text_limit M_h_text)))) hP hD hS hA [0, 1] [2, 3, 4, 5, 6, 7, 8, 9] [8, 9, 0, 1, 2, 3, 4, 5, 6, 7] rfl rfl (by decide) (by decide) rfl (by decide) (va_runV (As := []) (rest := []) ⟨hx, hb, hml, hown, hts⟩ (c_X4_takeLineEnd l dC dI cyB cyI cyZ cyO h h_at h_text h_at_tape _ M_h M_h_at r93 M_h_93 h93) (cwV 0 hts gX4_take_X4_takeLineEnd rfl rfl rfl (by decide +kernel) ⟨Nat.le_of_ble_eq_true rfl, Nat.le_of_ble_eq_true rfl⟩) ⟨PW.blind, va_recv hK hP (ci := 4) (q0 := 0) rfl rfl, fun U hU hW => ⟨rfl, by rw [hU], by rw [hU]; exact hPc, hCx.warm hW, hDc.weaken (fun _ _ _ _ => trivial)⟩⟩ rfl rfl hl.1 rfl (lv_room (Nat.le_of_ble_eq_true rfl)) dX4_take_93 ⟨Nat.zero_le _, Nat.zero_le _⟩) (fun H locs hP hD hS => ?_)
                  have hb96 := Decidable.not_not.mp (if_no hf)
                  rw [if_neg (not_not_intro hb96)] at hf
                  obtain ⟨hq0, hq1, hq2⟩ := pj3 hf
                  subst hq0
                  subst hq1
                  subst hq2
                  exact W.zret (v := r93) hx hb hr (nar_b hb96) (fun t ht hW => ⟨rfl, by rw [ht]; exact hP, hD, hS.F ht⟩) hS.2.2 dX4_take_96
