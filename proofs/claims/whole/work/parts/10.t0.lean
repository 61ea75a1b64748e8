set_option maxHeartbeats 4000000 in
set_option maxRecDepth 100000 in
theorem c_X11_within (l : Launch) (dC : Nat → ClassId) (dI : Nat → Nat → Nat) (cyB cyI cyZ cyO : ClassId) (p0 : Int32) (p1 : Int32) (p2 : Int32) (r : Int32) (hf : f_X11_within p0 p1 p2 = some r) : Met l yX11_within wsX11_within ({ frames := 0, cells := 0, slots := 0, locals := 0 } : Room) (PR dC dI cyB cyI cyZ cyO ([.int p0, .int p1, .int p2] : List Value) ([] : va_W)) (QR (some (.int r))) 0 0 (fun _ => False) := by
  refine Met.ofW (cc := cX11_within) (maxL := 3) (ret := (some .boolean)) (by decide) rfl ?_
  intro p e s m args below meth c s₁ B hml hv
  obtain ⟨rfl, hP, hCx⟩ := hv
  have hK := hCx.1
  have hN := hCx.2
  have hx := B.exec
  have hb := B.bytes
  have hr := B.returns
  have hts := atoms_spec (ws := wsX11_within) B.pre
  have hown : s.vm.findClass RX11 = some m.cls := findClass_of_methodNamed B.named
  have hlocks := B.notSynchronized
  have hl := lv_entry ([.int p0, .int p1, .int p2] : List Value) (n := 3) (Nat.le_of_ble_eq_true rfl)
  rw [lg_entry_eq]
  generalize (lg_sl ([.int p0, .int p1, .int p2] : List Value) ++ List.replicate (3 - (lg_sl ([.int p0, .int p1, .int p2] : List Value)).length) Slot.unset).toArray = ls at hl ⊢
  have hl : lv_has ls 3 [(0, .int p0), (1, .int p1), (2, .int p2)] := hl
  rw [f_X11_within] at hf
  refine lv_iload_n hx hb dX11_within_0 rfl (lv_at hl 0 rfl) ?_
  refine lv_iload_n hx hb dX11_within_1 rfl (lv_at hl 1 rfl) ?_
  refine lv_icmp_lt (tgt := 14) hx hb dX11_within_2 (by decide) (fun hc2 => ?_) (fun hc2 => ?_)
  · rw [if_pos hc2] at hf
    refine lv_iconst (v := (0 : Int32)) hx hb dX11_within_14 (by decide) ?_
    have hq := Option.some.inj hf
    subst hq
    exact W.zret (v := (0 : Int32)) hx hb hr rfl (fun t ht hW => ⟨rfl, ht⟩) (fun q h => by cases h) dX11_within_15
  · rw [if_neg hc2] at hf
    refine lv_iload_n hx hb dX11_within_5 rfl (lv_at hl 0 rfl) ?_
    refine lv_iload_n hx hb dX11_within_6 rfl (lv_at hl 2 rfl) ?_
    refine lv_icmp_gt (tgt := 14) hx hb dX11_within_7 (by decide) (fun hc7 => ?_) (fun hc7 => ?_)
    · rw [if_pos hc7] at hf
      refine lv_iconst (v := (0 : Int32)) hx hb dX11_within_14 (by decide) ?_
      have hq := Option.some.inj hf
      subst hq
      exact W.zret (v := (0 : Int32)) hx hb hr rfl (fun t ht hW => ⟨rfl, ht⟩) (fun q h => by cases h) dX11_within_15
    · rw [if_neg hc7] at hf
      refine lv_iconst (v := (1 : Int32)) hx hb dX11_within_10 (by decide) ?_
      refine lv_goto (tgt := 15) hx hb dX11_within_11 (by decide) ?_
      have hq := Option.some.inj hf
      subst hq
      exact W.zret (v := (1 : Int32)) hx hb hr rfl (fun t ht hW => ⟨rfl, ht⟩) (fun q h => by cases h) dX11_within_15
set_option maxHeartbeats 4000000 in
set_option maxRecDepth 100000 in
theorem c_X0_room (l : Launch) (dC : Nat → ClassId) (dI : Nat → Nat → Nat) (cyB cyI cyZ cyO : ClassId) (h h_owner h_size h_weight h_worth h_level h_holder h_side h_planned : Nat) (M_h : Mem) (p1 : Int32) (r : Int32) (hf : f_X0_room M_h p1 = some r) : Met l yX0_room wsX0_room ({ frames := 0, cells := 0, slots := 0, locals := 0 } : Room) (PR dC dI cyB cyI cyZ cyO ([.ref h, .int p1] : List Value) (wX0 cyB cyI cyZ cyO h h_owner h_size h_weight h_worth h_level h_holder h_side h_planned M_h)) (QR (some (.int r))) 0 0 (fun _ => False) := by
  refine Met.ofW (cc := cX0_room) (maxL := 2) (ret := (some .int)) (by decide) rfl ?_
  intro p e s m args below meth c s₁ B hml hv
  obtain ⟨rfl, hP, hCx⟩ := hv
  have hK := hCx.1
  have hN := hCx.2
  have hx := B.exec
  have hb := B.bytes
  have hr := B.returns
  have hts := atoms_spec (ws := wsX0_room) B.pre
  have hown : s.vm.findClass RX0 = some m.cls := findClass_of_methodNamed B.named
  have hlocks := B.notSynchronized
  have hin0 : ∀ w ∈ u_ws RX0 TX0 10, w ∈ wsX0_room := fun w h => List.mem_cons_of_mem _ (List.mem_append_right _ h)
  have kf19 := hts (.fieldLink RX0 19 "HoldSlips$Bales" "size" "[I") (by decide +kernel)
  have kf28 := hts (.fieldLink RX0 28 "HoldSlips$Bales" "level" "[I") (by decide +kernel)
  have hl := lv_entry ([.ref h, .int p1] : List Value) (n := 2) (Nat.le_of_ble_eq_true rfl)
  rw [lg_entry_eq]
  generalize (lg_sl ([.ref h, .int p1] : List Value) ++ List.replicate (2 - (lg_sl ([.ref h, .int p1] : List Value)).length) Slot.unset).toArray = ls at hl ⊢
  have hl : lv_has ls 2 [(0, .ref h), (1, .int p1)] := hl
  rw [f_X0_room] at hf
  refine lv_aload_n hx hb dX0_room_0 rfl (lv_at hl 0 rfl) ?_
  refine va_get (D := (dC, dI)) (ci := 0) (v := .ref h_size) (C := RX0) (T := TX0) (N := 10) hx hb hts hin0 hown hK hP 0 rfl rfl 2 (by decide) kf19 (fun _ h9 => h9) rfl dX0_room_1 ?_
  refine lv_iload_n hx hb dX0_room_4 rfl (lv_at hl 1 rfl) ?_
  have hi5 := if_no hf
  rw [if_neg hi5] at hf
  refine va_iald hx hb hK hP 2 1 rfl rfl hi5 dX0_room_5 ?_
  refine lv_aload_n hx hb dX0_room_6 rfl (lv_at hl 0 rfl) ?_
  refine va_get (D := (dC, dI)) (ci := 0) (v := .ref h_size) (C := RX0) (T := TX0) (N := 10) hx hb hts hin0 hown hK hP 0 rfl rfl 2 (by decide) kf19 (fun _ h9 => h9) rfl dX0_room_7 ?_
  refine lv_iload_n hx hb dX0_room_10 rfl (lv_at hl 1 rfl) ?_
  refine va_iald hx hb hK hP 2 1 rfl rfl hi5 dX0_room_11 ?_
  refine lv_aload_n hx hb dX0_room_12 rfl (lv_at hl 0 rfl) ?_
  refine va_get (D := (dC, dI)) (ci := 0) (v := .ref h_level) (C := RX0) (T := TX0) (N := 10) hx hb hts hin0 hown hK hP 0 rfl rfl 5 (by decide) kf28 (fun _ h9 => h9) rfl dX0_room_13 ?_
  refine lv_iload_n hx hb dX0_room_16 rfl (lv_at hl 1 rfl) ?_
  refine va_iald hx hb hK hP 5 1 rfl rfl hi5 dX0_room_17 ?_
  refine lv_imul hx hb dX0_room_18 ?_
  refine lv_bipush (v := (10 : Int32)) hx hb dX0_room_19 (by decide) ?_
  refine lv_idiv hx hb dX0_room_21 (by decide) ?_
  refine lv_isub hx hb dX0_room_22 ?_
  have hq := Option.some.inj hf
  subst hq
  exact W.iret (v := ((M_h 2 (p1).toNatClampNeg) - (((M_h 2 (p1).toNatClampNeg) * (M_h 5 (p1).toNatClampNeg)) / (10 : Int32)))) hx hb hr (fun t ht hW => ⟨rfl, ht⟩) (fun q h => by cases h) dX0_room_23
set_option maxHeartbeats 4000000 in
set_option maxRecDepth 100000 in
theorem c_X0_takeOff (l : Launch) (dC : Nat → ClassId) (dI : Nat → Nat → Nat) (cyB cyI cyZ cyO : ClassId) (h h_owner h_size h_weight h_worth h_level h_holder h_side h_planned : Nat) (sz : Nat) (M_h : Mem) (p1 : Int32) (R_h : Mem) (hf : f_X0_takeOff M_h p1 = some R_h) : Met l yX0_takeOff wsX0_takeOff ({ frames := 0, cells := 0, slots := 0, locals := 0 } : Room) (PW dC dI cyB cyI cyZ cyO ([.ref h, .int p1] : List Value) (wX0 cyB cyI cyZ cyO h h_owner h_size h_weight h_worth h_level h_holder h_side h_planned M_h) sz) (QW dC dI none (wX0 cyB cyI cyZ cyO h h_owner h_size h_weight h_worth h_level h_holder h_side h_planned R_h) (va_A (wX0 cyB cyI cyZ cyO h h_owner h_size h_weight h_worth h_level h_holder h_side h_planned M_h) sz)) 0 0 (va_A (wX0 cyB cyI cyZ cyO h h_owner h_size h_weight h_worth h_level h_holder h_side h_planned M_h) sz) := by
  refine Met.ofW (cc := cX0_takeOff) (maxL := 2) (ret := none) (by decide) rfl ?_
  intro p e s m args below meth c s₁ B hml hv
  obtain ⟨rfl, hsz, hP, hCx, hD0⟩ := hv
  have hK := hCx.1
  have hN := hCx.2
  have hx := B.exec
  have hb := B.bytes
  have hr := B.returns
  have hts := atoms_spec (ws := wsX0_takeOff) B.pre
  have hown : s.vm.findClass RX0 = some m.cls := findClass_of_methodNamed B.named
  have hlocks := B.notSynchronized
  have hin0 : ∀ w ∈ u_ws RX0 TX0 10, w ∈ wsX0_takeOff := fun w h => List.mem_cons_of_mem _ (List.mem_append_right _ h)
  have kf31 := hts (.fieldLink RX0 31 "HoldSlips$Bales" "holder" "[I") (by decide +kernel)
  have kf34 := hts (.fieldLink RX0 34 "HoldSlips$Bales" "side" "[I") (by decide +kernel)
  subst hsz
  have hD := hD0.self (sz := s.heap.size)
  generalize hAe : va_A (wX0 cyB cyI cyZ cyO h h_owner h_size h_weight h_worth h_level h_holder h_side h_planned M_h) s.heap.size = A at hD ⊢
  have hA : ∀ q : Nat, s.heap.size ≤ q → A q := fun q h => by rw [← hAe]; exact Or.inr h
  have hS : va_S A s.heap s.heap [] := va_S.rf
  have hl := lv_entry ([.ref h, .int p1] : List Value) (n := 2) (Nat.le_of_ble_eq_true rfl)
  rw [lg_entry_eq]
  generalize (lg_sl ([.ref h, .int p1] : List Value) ++ List.replicate (2 - (lg_sl ([.ref h, .int p1] : List Value)).length) Slot.unset).toArray = ls at hl ⊢
  have hl : lv_has ls 2 [(0, .ref h), (1, .int p1)] := hl
  rw [f_X0_takeOff] at hf
  refine lv_aload_n hx hb dX0_takeOff_0 rfl (lv_at hl 0 rfl) ?_
  refine va_get (D := (dC, dI)) (ci := 0) (v := .ref h_holder) (C := RX0) (T := TX0) (N := 10) hx hb hts hin0 hown hK hP 0 rfl rfl 6 (by decide) kf31 (fun _ h9 => h9) rfl dX0_takeOff_1 ?_
  refine lv_iload_n hx hb dX0_takeOff_4 rfl (lv_at hl 1 rfl) ?_
  refine lv_iconst (v := (-1 : Int32)) hx hb dX0_takeOff_5 (by decide) ?_
  have hi6 := if_no hf
  rw [if_neg hi6] at hf
  refine va_iast hx hb hK hP hD hS 6 1 rfl rfl hi6 dX0_takeOff_6 (fun H locs hP hD hS => ?_)
  obtain ⟨M_h_6, eM_h_6, hf⟩ := wr_some hf
  have hP : va_P (dC, dI) vwCl (wX0 cyB cyI cyZ cyO h h_owner h_size h_weight h_worth h_level h_holder h_side h_planned M_h_6) H := by rw [eM_h_6]; exact hP
  have hD : va_D A (wX0 cyB cyI cyZ cyO h h_owner h_size h_weight h_worth h_level h_holder h_side h_planned M_h_6) := by rw [eM_h_6]; exact hD
  refine lv_aload_n hx hb dX0_takeOff_7 rfl (lv_at hl 0 rfl) ?_
  refine va_get (D := (dC, dI)) (ci := 0) (v := .ref h_side) (C := RX0) (T := TX0) (N := 10) hx hb hts hin0 hown hK hP 0 rfl rfl 7 (by decide) kf34 (fun _ h9 => h9) rfl dX0_takeOff_8 ?_
  refine lv_iload_n hx hb dX0_takeOff_11 rfl (lv_at hl 1 rfl) ?_
  refine lv_iconst (v := (-1 : Int32)) hx hb dX0_takeOff_12 (by decide) ?_
  refine va_iast hx hb hK hP hD hS 7 1 rfl rfl hi6 dX0_takeOff_13 (fun H locs hP hD hS => ?_)
  obtain ⟨M_h_13, eM_h_13, hf⟩ := wr_some hf
  have hP : va_P (dC, dI) vwCl (wX0 cyB cyI cyZ cyO h h_owner h_size h_weight h_worth h_level h_holder h_side h_planned M_h_13) H := by rw [eM_h_13]; exact hP
  have hD : va_D A (wX0 cyB cyI cyZ cyO h h_owner h_size h_weight h_worth h_level h_holder h_side h_planned M_h_13) := by rw [eM_h_13]; exact hD
  have hq := Option.some.inj hf
  subst hq
  exact W.vret hx hb hr (fun t ht hW => ⟨rfl, by rw [ht]; exact hP, hD, hS.F ht⟩) hS.2.2 dX0_takeOff_14
set_option maxHeartbeats 4000000 in
set_option maxRecDepth 100000 in
theorem c_X0_enter (l : Launch) (dC : Nat → ClassId) (dI : Nat → Nat → Nat) (cyB cyI cyZ cyO : ClassId) (h h_owner h_size h_weight h_worth h_level h_holder h_side h_planned : Nat) (sz : Nat) (M_h : Mem) (p1 : Int32) (p2 : Int32) (p3 : Int32) (p4 : Int32) (r : Int32) (R_h : Mem) (hf : f_X0_enter M_h p1 p2 p3 p4 = some (r, R_h)) : Met l yX0_enter wsX0_enter ({ frames := 1, cells := 0, slots := 0, locals := 21 } : Room) (PW dC dI cyB cyI cyZ cyO ([.ref h, .int p1, .int p2, .int p3, .int p4] : List Value) (wX0 cyB cyI cyZ cyO h h_owner h_size h_weight h_worth h_level h_holder h_side h_planned M_h) sz) (QW dC dI (some (.int r)) (wX0 cyB cyI cyZ cyO h h_owner h_size h_weight h_worth h_level h_holder h_side h_planned R_h) (va_A (wX0 cyB cyI cyZ cyO h h_owner h_size h_weight h_worth h_level h_holder h_side h_planned M_h) sz)) 0 0 (va_A (wX0 cyB cyI cyZ cyO h h_owner h_size h_weight h_worth h_level h_holder h_side h_planned M_h) sz) := by
  refine Met.ofW (cc := cX0_enter) (maxL := 5) (ret := (some .int)) (by decide) rfl ?_
  intro p e s m args below meth c s₁ B hml hv
  obtain ⟨rfl, hsz, hP, hCx, hD0⟩ := hv
  have hK := hCx.1
  have hN := hCx.2
  have hx := B.exec
  have hb := B.bytes
  have hr := B.returns
  have hts := atoms_spec (ws := wsX0_enter) B.pre
  have hown : s.vm.findClass RX0 = some m.cls := findClass_of_methodNamed B.named
  have hlocks := B.notSynchronized
  have hin0 : ∀ w ∈ u_ws RX0 TX0 10, w ∈ wsX0_enter := fun w h => List.mem_cons_of_mem _ (List.mem_append_right _ h)
  have kf9 := hts (.fieldLink RX0 9 "HoldSlips$Bales" "number" "I") (by decide +kernel)
  have kf15 := hts (.fieldLink RX0 15 "HoldSlips$Bales" "owner" "[I") (by decide +kernel)
  have kf19 := hts (.fieldLink RX0 19 "HoldSlips$Bales" "size" "[I") (by decide +kernel)
  have kf22 := hts (.fieldLink RX0 22 "HoldSlips$Bales" "weight" "[I") (by decide +kernel)
  have kf25 := hts (.fieldLink RX0 25 "HoldSlips$Bales" "worth" "[I") (by decide +kernel)
  have kf28 := hts (.fieldLink RX0 28 "HoldSlips$Bales" "level" "[I") (by decide +kernel)
  have kf41 := hts (.fieldLink RX0 41 "HoldSlips$Bales" "planned" "[I") (by decide +kernel)
  subst hsz
  have hD := hD0.self (sz := s.heap.size)
  generalize hAe : va_A (wX0 cyB cyI cyZ cyO h h_owner h_size h_weight h_worth h_level h_holder h_side h_planned M_h) s.heap.size = A at hD ⊢
  have hA : ∀ q : Nat, s.heap.size ≤ q → A q := fun q h => by rw [← hAe]; exact Or.inr h
  have hS : va_S A s.heap s.heap [] := va_S.rf
  have hl := lv_entry ([.ref h, .int p1, .int p2, .int p3, .int p4] : List Value) (n := 5) (Nat.le_of_ble_eq_true rfl)
  rw [lg_entry_eq]
  generalize (lg_sl ([.ref h, .int p1, .int p2, .int p3, .int p4] : List Value) ++ List.replicate (5 - (lg_sl ([.ref h, .int p1, .int p2, .int p3, .int p4] : List Value)).length) Slot.unset).toArray = ls at hl ⊢
  have hl : lv_has ls 5 [(0, .ref h), (1, .int p1), (2, .int p2), (3, .int p3), (4, .int p4)] := hl
  rw [f_X0_enter] at hf
  refine lv_aload_n hx hb dX0_enter_0 rfl (lv_at hl 0 rfl) ?_
  refine va_get (D := (dC, dI)) (ci := 0) (v := .int (M_h 0 0)) (C := RX0) (T := TX0) (N := 10) hx hb hts hin0 hown hK hP 0 rfl rfl 0 (by decide) kf9 (fun _ h9 => h9) rfl dX0_enter_1 ?_
  refine lv_bipush (v := (12 : Int32)) hx hb dX0_enter_4 (by decide) ?_
  refine lv_icmp_lt (tgt := 11) hx hb dX0_enter_6 (by decide) (fun hc6 => ?_) (fun hc6 => ?_)
  · rw [if_pos hc6] at hf
    refine lv_aload_n hx hb dX0_enter_11 rfl (lv_at hl 0 rfl) ?_
    refine va_get (D := (dC, dI)) (ci := 0) (v := .ref h_owner) (C := RX0) (T := TX0) (N := 10) hx hb hts hin0 hown hK hP 0 rfl rfl 1 (by decide) kf15 (fun _ h9 => h9) rfl dX0_enter_12 ?_
    refine lv_aload_n hx hb dX0_enter_15 rfl (lv_at hl 0 rfl) ?_
    refine va_get (D := (dC, dI)) (ci := 0) (v := .int (M_h 0 0)) (C := RX0) (T := TX0) (N := 10) hx hb hts hin0 hown hK hP 0 rfl rfl 0 (by decide) kf9 (fun _ h9 => h9) rfl dX0_enter_16 ?_
    refine lv_iload_n hx hb dX0_enter_19 rfl (lv_at hl 1 rfl) ?_
    have hi20 := if_no hf
    rw [if_neg hi20] at hf
    refine va_iast hx hb hK hP hD hS 1 1 rfl rfl hi20 dX0_enter_20 (fun H locs hP hD hS => ?_)
    obtain ⟨M_h_20, eM_h_20, hf⟩ := wr_some hf
    have hP : va_P (dC, dI) vwCl (wX0 cyB cyI cyZ cyO h h_owner h_size h_weight h_worth h_level h_holder h_side h_planned M_h_20) H := by rw [eM_h_20]; exact hP
    have hD : va_D A (wX0 cyB cyI cyZ cyO h h_owner h_size h_weight h_worth h_level h_holder h_side h_planned M_h_20) := by rw [eM_h_20]; exact hD
    refine lv_aload_n hx hb dX0_enter_21 rfl (lv_at hl 0 rfl) ?_
    refine va_get (D := (dC, dI)) (ci := 0) (v := .ref h_size) (C := RX0) (T := TX0) (N := 10) hx hb hts hin0 hown hK hP 0 rfl rfl 2 (by decide) kf19 (fun _ h9 => h9) rfl dX0_enter_22 ?_
    refine lv_aload_n hx hb dX0_enter_25 rfl (lv_at hl 0 rfl) ?_
    refine va_get (D := (dC, dI)) (ci := 0) (v := .int (M_h_20 0 0)) (C := RX0) (T := TX0) (N := 10) hx hb hts hin0 hown hK hP 0 rfl rfl 0 (by decide) kf9 (fun _ h9 => h9) rfl dX0_enter_26 ?_
    refine lv_iload_n hx hb dX0_enter_29 rfl (lv_at hl 2 rfl) ?_
    have hi30 := if_no hf
    rw [if_neg hi30] at hf
    refine va_iast hx hb hK hP hD hS 2 1 rfl rfl hi30 dX0_enter_30 (fun H locs hP hD hS => ?_)
    obtain ⟨M_h_30, eM_h_30, hf⟩ := wr_some hf
    have hP : va_P (dC, dI) vwCl (wX0 cyB cyI cyZ cyO h h_owner h_size h_weight h_worth h_level h_holder h_side h_planned M_h_30) H := by rw [eM_h_30]; exact hP
    have hD : va_D A (wX0 cyB cyI cyZ cyO h h_owner h_size h_weight h_worth h_level h_holder h_side h_planned M_h_30) := by rw [eM_h_30]; exact hD
    refine lv_aload_n hx hb dX0_enter_31 rfl (lv_at hl 0 rfl) ?_
    refine va_get (D := (dC, dI)) (ci := 0) (v := .ref h_weight) (C := RX0) (T := TX0) (N := 10) hx hb hts hin0 hown hK hP 0 rfl rfl 3 (by decide) kf22 (fun _ h9 => h9) rfl dX0_enter_32 ?_
    refine lv_aload_n hx hb dX0_enter_35 rfl (lv_at hl 0 rfl) ?_
    refine va_get (D := (dC, dI)) (ci := 0) (v := .int (M_h_30 0 0)) (C := RX0) (T := TX0) (N := 10) hx hb hts hin0 hown hK hP 0 rfl rfl 0 (by decide) kf9 (fun _ h9 => h9) rfl dX0_enter_36 ?_
    refine lv_iload_n hx hb dX0_enter_39 rfl (lv_at hl 3 rfl) ?_
    have hi40 := if_no hf
    rw [if_neg hi40] at hf
    refine va_iast hx hb hK hP hD hS 3 1 rfl rfl hi40 dX0_enter_40 (fun H locs hP hD hS => ?_)
    obtain ⟨M_h_40, eM_h_40, hf⟩ := wr_some hf
    have hP : va_P (dC, dI) vwCl (wX0 cyB cyI cyZ cyO h h_owner h_size h_weight h_worth h_level h_holder h_side h_planned M_h_40) H := by rw [eM_h_40]; exact hP
    have hD : va_D A (wX0 cyB cyI cyZ cyO h h_owner h_size h_weight h_worth h_level h_holder h_side h_planned M_h_40) := by rw [eM_h_40]; exact hD
    refine lv_aload_n hx hb dX0_enter_41 rfl (lv_at hl 0 rfl) ?_
    refine va_get (D := (dC, dI)) (ci := 0) (v := .ref h_worth) (C := RX0) (T := TX0) (N := 10) hx hb hts hin0 hown hK hP 0 rfl rfl 4 (by decide) kf25 (fun _ h9 => h9) rfl dX0_enter_42 ?_
    refine lv_aload_n hx hb dX0_enter_45 rfl (lv_at hl 0 rfl) ?_
    refine va_get (D := (dC, dI)) (ci := 0) (v := .int (M_h_40 0 0)) (C := RX0) (T := TX0) (N := 10) hx hb hts hin0 hown hK hP 0 rfl rfl 0 (by decide) kf9 (fun _ h9 => h9) rfl dX0_enter_46 ?_
    refine lv_iload hx hb dX0_enter_49 (lv_at hl 4 rfl) ?_
    have hi51 := if_no hf
    rw [if_neg hi51] at hf
    refine va_iast hx hb hK hP hD hS 4 1 rfl rfl hi51 dX0_enter_51 (fun H locs hP hD hS => ?_)
    obtain ⟨M_h_51, eM_h_51, hf⟩ := wr_some hf
    have hP : va_P (dC, dI) vwCl (wX0 cyB cyI cyZ cyO h h_owner h_size h_weight h_worth h_level h_holder h_side h_planned M_h_51) H := by rw [eM_h_51]; exact hP
    have hD : va_D A (wX0 cyB cyI cyZ cyO h h_owner h_size h_weight h_worth h_level h_holder h_side h_planned M_h_51) := by rw [eM_h_51]; exact hD
    refine lv_aload_n hx hb dX0_enter_52 rfl (lv_at hl 0 rfl) ?_
    refine va_get (D := (dC, dI)) (ci := 0) (v := .ref h_level) (C := RX0) (T := TX0) (N := 10) hx hb hts hin0 hown hK hP 0 rfl rfl 5 (by decide) kf28 (fun _ h9 => h9) rfl dX0_enter_53 ?_
    refine lv_aload_n hx hb dX0_enter_56 rfl (lv_at hl 0 rfl) ?_
    refine va_get (D := (dC, dI)) (ci := 0) (v := .int (M_h_51 0 0)) (C := RX0) (T := TX0) (N := 10) hx hb hts hin0 hown hK hP 0 rfl rfl 0 (by decide) kf9 (fun _ h9 => h9) rfl dX0_enter_57 ?_
    refine lv_iconst (v := (0 : Int32)) hx hb dX0_enter_60 (by decide) ?_
    have hi61 := if_no hf
    rw [if_neg hi61] at hf
    refine va_iast hx hb hK hP hD hS 5 1 rfl rfl hi61 dX0_enter_61 (fun H locs hP hD hS => ?_)
    obtain ⟨M_h_61, eM_h_61, hf⟩ := wr_some hf
    have hP : va_P (dC, dI) vwCl (wX0 cyB cyI cyZ cyO h h_owner h_size h_weight h_worth h_level h_holder h_side h_planned M_h_61) H := by rw [eM_h_61]; exact hP
    have hD : va_D A (wX0 cyB cyI cyZ cyO h h_owner h_size h_weight h_worth h_level h_holder h_side h_planned M_h_61) := by rw [eM_h_61]; exact hD
    refine lv_aload_n hx hb dX0_enter_62 rfl (lv_at hl 0 rfl) ?_
    refine va_get (D := (dC, dI)) (ci := 0) (v := .ref h_planned) (C := RX0) (T := TX0) (N := 10) hx hb hts hin0 hown hK hP 0 rfl rfl 9 (by decide) kf41 (fun _ h9 => h9) rfl dX0_enter_63 ?_
    refine lv_aload_n hx hb dX0_enter_66 rfl (lv_at hl 0 rfl) ?_
    refine va_get (D := (dC, dI)) (ci := 0) (v := .int (M_h_61 0 0)) (C := RX0) (T := TX0) (N := 10) hx hb hts hin0 hown hK hP 0 rfl rfl 0 (by decide) kf9 (fun _ h9 => h9) rfl dX0_enter_67 ?_
    refine lv_iconst (v := (2 : Int32)) hx hb dX0_enter_70 (by decide) ?_
    have hi71 := if_no hf
    rw [if_neg hi71] at hf
    refine va_iast hx hb hK hP hD hS 8 1 rfl rfl hi71 dX0_enter_71 (fun H locs hP hD hS => ?_)
    obtain ⟨M_h_71, eM_h_71, hf⟩ := wr_some hf
    have hP : va_P (dC, dI) vwCl (wX0 cyB cyI cyZ cyO h h_owner h_size h_weight h_worth h_level h_holder h_side h_planned M_h_71) H := by rw [eM_h_71]; exact hP
    have hD : va_D A (wX0 cyB cyI cyZ cyO h h_owner h_size h_weight h_worth h_level h_holder h_side h_planned M_h_71) := by rw [eM_h_71]; exact hD
    refine lv_aload_n hx hb dX0_enter_72 rfl (lv_at hl 0 rfl) ?_
    refine lv_aload_n hx hb dX0_enter_73 rfl (lv_at hl 0 rfl) ?_
    refine va_get (D := (dC, dI)) (ci := 0) (v := .int (M_h_71 0 0)) (C := RX0) (T := TX0) (N := 10) hx hb hts hin0 hown hK hP 0 rfl rfl 0 (by decide) kf9 (fun _ h9 => h9) rfl dX0_enter_74 ?_
    obtain ⟨M_h_77, h77, hf⟩ := bd1_some hf
    refine wr_callv (wc := (wX0 cyB cyI cyZ cyO h h_owner h_size h_weight h_worth h_level h_holder h_side h_planned M_h_71)) (wr := ([] : va_W)) (w1 := (wX0 cyB cyI cyZ cyO h h_owner h_size h_weight h_worth h_level h_holder h_side h_planned M_h_77)) (ws' := (wX0 cyB cyI cyZ cyO h h_owner h_size h_weight h_worth h_level h_holder h_side h_planned M_h_77)) hP hD hS hA [0, 1, 2, 3, 4, 5, 6, 7, 8] [] [0, 1, 2, 3, 4, 5, 6, 7, 8] rfl rfl (by decide) (by decide) rfl (by decide) (va_runV (As := [.int (M_h_71 0 0)]) (rest := []) ⟨hx, hb, hml, hown, hts⟩ (c_X0_takeOff l dC dI cyB cyI cyZ cyO h h_owner h_size h_weight h_worth h_level h_holder h_side h_planned H.size M_h_71 (M_h_71 0 0) M_h_77 h77) (cwV 1 hts gX0_enter_X0_takeOff rfl rfl rfl (by decide +kernel) ⟨Nat.le_of_ble_eq_true rfl, Nat.le_of_ble_eq_true rfl⟩) ⟨PW.blind, va_recv hK hP (ci := 0) (q0 := 0) rfl rfl, fun U hU hW => ⟨rfl, by rw [hU], by rw [hU]; exact hP, hCx.warm hW, hD.weaken (fun _ _ _ _ => trivial)⟩⟩ rfl rfl hl.1 rfl (lv_room (Nat.le_of_ble_eq_true rfl)) dX0_enter_77 ⟨Nat.zero_le _, Nat.zero_le _⟩) (fun H locs hP hD hS => ?_)
    refine lv_aload_n hx hb dX0_enter_80 rfl (lv_at hl 0 rfl) ?_
    refine lv_dup hx hb dX0_enter_81 rfl ?_
    refine va_get (D := (dC, dI)) (ci := 0) (v := .int (M_h_77 0 0)) (C := RX0) (T := TX0) (N := 10) hx hb hts hin0 hown hK hP 0 rfl rfl 0 (by decide) kf9 (fun _ h9 => h9) rfl dX0_enter_82 ?_
    refine lv_iconst (v := (1 : Int32)) hx hb dX0_enter_85 (by decide) ?_
    refine lv_iadd hx hb dX0_enter_86 ?_
    refine va_put (D := (dC, dI)) (ci := 0) (v := .int ((M_h_77 0 0) + (1 : Int32))) (ty := .int) (C := RX0) (T := TX0) (N := 10) hx hb hts hin0 tyX0 tyX0_ok nmX0 hown hK hP hD hS 0 rfl rfl 0 (by decide) kf9 (fun _ h9 => h9) rfl (by decide +kernel) rfl rfl (Nat.le_of_ble_eq_true rfl) dX0_enter_87 (fun H locs hP hD hS => ?_)
    obtain ⟨M_h_87, eM_h_87, hf⟩ := wr_some hf
    have hP : va_P (dC, dI) vwCl (wX0 cyB cyI cyZ cyO h h_owner h_size h_weight h_worth h_level h_holder h_side h_planned M_h_87) H := by rw [eM_h_87]; exact hP
    have hD : va_D A (wX0 cyB cyI cyZ cyO h h_owner h_size h_weight h_worth h_level h_holder h_side h_planned M_h_87) := by rw [eM_h_87]; exact hD
    refine lv_aload_n hx hb dX0_enter_90 rfl (lv_at hl 0 rfl) ?_
    refine va_get (D := (dC, dI)) (ci := 0) (v := .int (M_h_87 0 0)) (C := RX0) (T := TX0) (N := 10) hx hb hts hin0 hown hK hP 0 rfl rfl 0 (by decide) kf9 (fun _ h9 => h9) rfl dX0_enter_91 ?_
    refine lv_iconst (v := (1 : Int32)) hx hb dX0_enter_94 (by decide) ?_
    refine lv_isub hx hb dX0_enter_95 ?_
    obtain ⟨hq0, hq1⟩ := pj2 hf
    subst hq0
    subst hq1
    exact W.iret (v := ((M_h_87 0 0) - (1 : Int32))) hx hb hr (fun t ht hW => ⟨rfl, by rw [ht]; exact hP, hD, hS.F ht⟩) hS.2.2 dX0_enter_96
  · rw [if_neg hc6] at hf
    refine lv_iconst (v := (-1 : Int32)) hx hb dX0_enter_9 (by decide) ?_
    obtain ⟨hq0, hq1⟩ := pj2 hf
    subst hq0
    subst hq1
    exact W.iret (v := (-1 : Int32)) hx hb hr (fun t ht hW => ⟨rfl, by rw [ht]; exact hP, hD, hS.F ht⟩) hS.2.2 dX0_enter_10
set_option maxHeartbeats 4000000 in
set_option maxRecDepth 100000 in
theorem c_X0_has (l : Launch) (dC : Nat → ClassId) (dI : Nat → Nat → Nat) (cyB cyI cyZ cyO : ClassId) (h h_owner h_size h_weight h_worth h_level h_holder h_side h_planned : Nat) (M_h : Mem) (p1 : Int32) (r : Int32) (hf : f_X0_has M_h p1 = some r) : Met l yX0_has wsX0_has ({ frames := 1, cells := 0, slots := 0, locals := 22 } : Room) (PR dC dI cyB cyI cyZ cyO ([.ref h, .int p1] : List Value) (wX0 cyB cyI cyZ cyO h h_owner h_size h_weight h_worth h_level h_holder h_side h_planned M_h)) (QR (some (.int r))) 0 0 (fun _ => False) := by
  refine Met.ofW (cc := cX0_has) (maxL := 2) (ret := (some .boolean)) (by decide) rfl ?_
  intro p e s m args below meth c s₁ B hml hv
  obtain ⟨rfl, hP, hCx⟩ := hv
  have hK := hCx.1
  have hN := hCx.2
  have hx := B.exec
  have hb := B.bytes
  have hr := B.returns
  have hts := atoms_spec (ws := wsX0_has) B.pre
  have hown : s.vm.findClass RX0 = some m.cls := findClass_of_methodNamed B.named
  have hlocks := B.notSynchronized
  have hin0 : ∀ w ∈ u_ws RX0 TX0 10, w ∈ wsX0_has := fun w h => List.mem_cons_of_mem _ (List.mem_append_right _ h)
  have kf9 := hts (.fieldLink RX0 9 "HoldSlips$Bales" "number" "I") (by decide +kernel)
  have hl := lv_entry ([.ref h, .int p1] : List Value) (n := 2) (Nat.le_of_ble_eq_true rfl)
  rw [lg_entry_eq]
  generalize (lg_sl ([.ref h, .int p1] : List Value) ++ List.replicate (2 - (lg_sl ([.ref h, .int p1] : List Value)).length) Slot.unset).toArray = ls at hl ⊢
  have hl : lv_has ls 2 [(0, .ref h), (1, .int p1)] := hl
  rw [f_X0_has] at hf
  refine lv_iload_n hx hb dX0_has_0 rfl (lv_at hl 1 rfl) ?_
  refine lv_iconst (v := (0 : Int32)) hx hb dX0_has_1 (by decide) ?_
  refine lv_aload_n hx hb dX0_has_2 rfl (lv_at hl 0 rfl) ?_
  refine va_get (D := (dC, dI)) (ci := 0) (v := .int (M_h 0 0)) (C := RX0) (T := TX0) (N := 10) hx hb hts hin0 hown hK hP 0 rfl rfl 0 (by decide) kf9 (fun _ h9 => h9) rfl dX0_has_3 ?_
  refine lv_iconst (v := (1 : Int32)) hx hb dX0_has_6 (by decide) ?_
  refine lv_isub hx hb dX0_has_7 ?_
  obtain ⟨r8, h8, hf⟩ := bd1_some hf
  have hPc := hP.sub (ws' := ([] : va_W)) [] rfl
  refine ro_calli (va_runSN (As := [.int p1, .int (0 : Int32), .int ((M_h 0 0) - (1 : Int32))]) (rest := []) ⟨hx, hb, hml, hown, hts⟩ (c_X11_within l dC dI cyB cyI cyZ cyO p1 (0 : Int32) ((M_h 0 0) - (1 : Int32)) r8 h8) ⟨va_cnB 3 hts gX0_has_X11_within_n61 rfl rfl rfl (hN _ (by decide +kernel : Cond.methodLinkNest RX0 61 yX11_within "HoldSlips" ∈ nw_all)) (hts (.initialized RX11) (by decide +kernel)) (by decide +kernel) ⟨Nat.le_of_ble_eq_true rfl, Nat.le_of_ble_eq_true rfl⟩, hts (.static yX11_within) (by decide +kernel), trivial⟩ ⟨PR.blind, fun U hU hW => ⟨rfl, by rw [hU]; exact hPc, hCx.warm hW⟩⟩ rfl rfl hl.1 rfl (lv_room (Nat.le_of_ble_eq_true rfl)) dX0_has_8 ⟨Nat.zero_le _, Nat.zero_le _⟩) ?_
  have hb11 := Decidable.not_not.mp (if_no hf)
  rw [if_neg (not_not_intro hb11)] at hf
  have hq := Option.some.inj hf
  subst hq
  exact W.zret (v := r8) hx hb hr (nar_b hb11) (fun t ht hW => ⟨rfl, ht⟩) (fun q h => by cases h) dX0_has_11
set_option maxHeartbeats 4000000 in
set_option maxRecDepth 100000 in
theorem c_X0_lies (l : Launch) (dC : Nat → ClassId) (dI : Nat → Nat → Nat) (cyB cyI cyZ cyO : ClassId) (h h_owner h_size h_weight h_worth h_level h_holder h_side h_planned : Nat) (M_h : Mem) (p1 : Int32) (r : Int32) (hf : f_X0_lies M_h p1 = some r) : Met l yX0_lies wsX0_lies ({ frames := 2, cells := 0, slots := 0, locals := 43 } : Room) (PR dC dI cyB cyI cyZ cyO ([.ref h, .int p1] : List Value) (wX0 cyB cyI cyZ cyO h h_owner h_size h_weight h_worth h_level h_holder h_side h_planned M_h)) (QR (some (.int r))) 0 0 (fun _ => False) := by
  refine Met.ofW (cc := cX0_lies) (maxL := 2) (ret := (some .boolean)) (by decide) rfl ?_
  intro p e s m args below meth c s₁ B hml hv
  obtain ⟨rfl, hP, hCx⟩ := hv
  have hK := hCx.1
  have hN := hCx.2
  have hx := B.exec
  have hb := B.bytes
  have hr := B.returns
  have hts := atoms_spec (ws := wsX0_lies) B.pre
  have hown : s.vm.findClass RX0 = some m.cls := findClass_of_methodNamed B.named
  have hlocks := B.notSynchronized
  have hin0 : ∀ w ∈ u_ws RX0 TX0 10, w ∈ wsX0_lies := fun w h => List.mem_cons_of_mem _ (List.mem_append_right _ h)
  have kf31 := hts (.fieldLink RX0 31 "HoldSlips$Bales" "holder" "[I") (by decide +kernel)
  have hl := lv_entry ([.ref h, .int p1] : List Value) (n := 2) (Nat.le_of_ble_eq_true rfl)
  rw [lg_entry_eq]
  generalize (lg_sl ([.ref h, .int p1] : List Value) ++ List.replicate (2 - (lg_sl ([.ref h, .int p1] : List Value)).length) Slot.unset).toArray = ls at hl ⊢
  have hl : lv_has ls 2 [(0, .ref h), (1, .int p1)] := hl
  rw [f_X0_lies] at hf
  refine lv_aload_n hx hb dX0_lies_0 rfl (lv_at hl 0 rfl) ?_
  refine lv_iload_n hx hb dX0_lies_1 rfl (lv_at hl 1 rfl) ?_
  obtain ⟨r2, h2, hf⟩ := bd1_some hf
  refine ro_calli (va_runV (As := [.int p1]) (rest := []) ⟨hx, hb, hml, hown, hts⟩ (c_X0_has l dC dI cyB cyI cyZ cyO h h_owner h_size h_weight h_worth h_level h_holder h_side h_planned M_h p1 r2 h2) (cwV 1 hts gX0_lies_X0_has rfl rfl rfl (by decide +kernel) ⟨Nat.le_of_ble_eq_true rfl, Nat.le_of_ble_eq_true rfl⟩) ⟨PR.blind, va_recv hK hP (ci := 0) (q0 := 0) rfl rfl, fun U hU hW => ⟨rfl, by rw [hU]; exact hP, hCx.warm hW⟩⟩ rfl rfl hl.1 rfl (lv_room (Nat.le_of_ble_eq_true rfl)) dX0_lies_2 ⟨Nat.zero_le _, Nat.zero_le _⟩) ?_
  refine lv_if_eq (tgt := 22) hx hb dX0_lies_5 (by decide) (fun hc5 => ?_) (fun hc5 => ?_)
  · rw [if_pos hc5] at hf
    refine lv_iconst (v := (0 : Int32)) hx hb dX0_lies_22 (by decide) ?_
    have hq := Option.some.inj hf
    subst hq
    exact W.zret (v := (0 : Int32)) hx hb hr rfl (fun t ht hW => ⟨rfl, ht⟩) (fun q h => by cases h) dX0_lies_23
  · rw [if_neg hc5] at hf
    refine lv_aload_n hx hb dX0_lies_8 rfl (lv_at hl 0 rfl) ?_
    refine va_get (D := (dC, dI)) (ci := 0) (v := .ref h_holder) (C := RX0) (T := TX0) (N := 10) hx hb hts hin0 hown hK hP 0 rfl rfl 6 (by decide) kf31 (fun _ h9 => h9) rfl dX0_lies_9 ?_
    refine lv_iload_n hx hb dX0_lies_12 rfl (lv_at hl 1 rfl) ?_
    have hi13 := if_no hf
    rw [if_neg hi13] at hf
    refine va_iald hx hb hK hP 6 1 rfl rfl hi13 dX0_lies_13 ?_
    refine lv_iconst (v := (-1 : Int32)) hx hb dX0_lies_14 (by decide) ?_
    refine lv_icmp_eq (tgt := 22) hx hb dX0_lies_15 (by decide) (fun hc15 => ?_) (fun hc15 => ?_)
    · rw [if_pos hc15] at hf
      refine lv_iconst (v := (0 : Int32)) hx hb dX0_lies_22 (by decide) ?_
      have hq := Option.some.inj hf
      subst hq
      exact W.zret (v := (0 : Int32)) hx hb hr rfl (fun t ht hW => ⟨rfl, ht⟩) (fun q h => by cases h) dX0_lies_23
    · rw [if_neg hc15] at hf
      refine lv_iconst (v := (1 : Int32)) hx hb dX0_lies_18 (by decide) ?_
      refine lv_goto (tgt := 23) hx hb dX0_lies_19 (by decide) ?_
      have hq := Option.some.inj hf
      subst hq
      exact W.zret (v := (1 : Int32)) hx hb hr rfl (fun t ht hW => ⟨rfl, ht⟩) (fun q h => by cases h) dX0_lies_23
set_option maxHeartbeats 4000000 in
set_option maxRecDepth 100000 in
theorem c_X0_waiting (l : Launch) (dC : Nat → ClassId) (dI : Nat → Nat → Nat) (cyB cyI cyZ cyO : ClassId) (h h_owner h_size h_weight h_worth h_level h_holder h_side h_planned : Nat) (M_h : Mem) (r : Int32) (hf : f_X0_waiting M_h = some r) : Met l yX0_waiting wsX0_waiting ({ frames := 3, cells := 0, slots := 0, locals := 64 } : Room) (PR dC dI cyB cyI cyZ cyO ([.ref h] : List Value) (wX0 cyB cyI cyZ cyO h h_owner h_size h_weight h_worth h_level h_holder h_side h_planned M_h)) (QR (some (.int r))) 0 0 (fun _ => False) := by
  refine Met.ofW (cc := cX0_waiting) (maxL := 3) (ret := (some .int)) (by decide) rfl ?_
  intro p e s m args below meth c s₁ B hml hv
  obtain ⟨rfl, hP, hCx⟩ := hv
  have hK := hCx.1
  have hN := hCx.2
  have hx := B.exec
  have hb := B.bytes
  have hr := B.returns
  have hts := atoms_spec (ws := wsX0_waiting) B.pre
  have hown : s.vm.findClass RX0 = some m.cls := findClass_of_methodNamed B.named
  have hlocks := B.notSynchronized
  have hin0 : ∀ w ∈ u_ws RX0 TX0 10, w ∈ wsX0_waiting := fun w h => List.mem_cons_of_mem _ (List.mem_append_right _ h)
  have kf9 := hts (.fieldLink RX0 9 "HoldSlips$Bales" "number" "I") (by decide +kernel)
  have hl := lv_entry ([.ref h] : List Value) (n := 3) (Nat.le_of_ble_eq_true rfl)
  rw [lg_entry_eq]
  generalize (lg_sl ([.ref h] : List Value) ++ List.replicate (3 - (lg_sl ([.ref h] : List Value)).length) Slot.unset).toArray = ls at hl ⊢
  have hl : lv_has ls 3 [(0, .ref h)] := hl
  have L4 : ∀ (n : Nat), ∀ (x1 : Int32) (x2 : Int32) (ls : Array Slot), f_X0_waiting_L4 n M_h x1 x2 = some r → lv_has ls 3 [(0, .ref h), (1, .int x1), (2, .int x2)] → W p l e (headSpec wsX0_waiting ({ frames := 3, cells := 0, slots := 0, locals := 64 } : Room)).room s m ([.ref h] : List Value).toArray below meth c s.heap [] 0 0 (MQ below (QR (some (.int r))) ([.ref h] : List Value).toArray s 0 0 (fun _ => False)) (F0 m 4 ls []) := by
    intro n
    induction n with
    | zero => intro x1 x2 ls hf hl; rw [f_X0_waiting_L4] at hf; cases hf
    | succ n ih =>
      intro x1 x2 ls hf hl
      rw [f_X0_waiting_L4] at hf
      refine lv_iload_n hx hb dX0_waiting_4 rfl (lv_at hl 2 rfl) ?_
      refine lv_aload_n hx hb dX0_waiting_5 rfl (lv_at hl 0 rfl) ?_
      refine va_get (D := (dC, dI)) (ci := 0) (v := .int (M_h 0 0)) (C := RX0) (T := TX0) (N := 10) hx hb hts hin0 hown hK hP 0 rfl rfl 0 (by decide) kf9 (fun _ h9 => h9) rfl dX0_waiting_6 ?_
      refine lv_icmp_ge (tgt := 34) hx hb dX0_waiting_9 (by decide) (fun hc9 => ?_) (fun hc9 => ?_)
      · rw [if_pos hc9] at hf
        refine lv_iload_n hx hb dX0_waiting_34 rfl (lv_at hl 1 rfl) ?_
        have hq := Option.some.inj hf
        subst hq
        exact W.iret (v := x1) hx hb hr (fun t ht hW => ⟨rfl, ht⟩) (fun q h => by cases h) dX0_waiting_35
      · rw [if_neg hc9] at hf
        refine lv_iload_n hx hb dX0_waiting_12 rfl (lv_at hl 1 rfl) ?_
        refine lv_aload_n hx hb dX0_waiting_13 rfl (lv_at hl 0 rfl) ?_
        refine lv_iload_n hx hb dX0_waiting_14 rfl (lv_at hl 2 rfl) ?_
        obtain ⟨r15, h15, hf⟩ := bd1_some hf
        refine ro_calli (va_runV (As := [.int x2]) (rest := [.int x1]) ⟨hx, hb, hml, hown, hts⟩ (c_X0_waits l dC dI cyB cyI cyZ cyO h h_owner h_size h_weight h_worth h_level h_holder h_side h_planned M_h x2 r15 h15) (cwV 1 hts gX0_waiting_X0_waits rfl rfl rfl (by decide +kernel) ⟨Nat.le_of_ble_eq_true rfl, Nat.le_of_ble_eq_true rfl⟩) ⟨PR.blind, va_recv hK hP (ci := 0) (q0 := 0) rfl rfl, fun U hU hW => ⟨rfl, by rw [hU]; exact hP, hCx.warm hW⟩⟩ rfl rfl hl.1 rfl (lv_room (Nat.le_of_ble_eq_true rfl)) dX0_waiting_15 ⟨Nat.zero_le _, Nat.zero_le _⟩) ?_
        refine lv_if_eq (tgt := 25) hx hb dX0_waiting_18 (by decide) (fun hc18 => ?_) (fun hc18 => ?_)
        · rw [if_pos hc18] at hf
          refine lv_iconst (v := (0 : Int32)) hx hb dX0_waiting_25 (by decide) ?_
          refine lv_iadd hx hb dX0_waiting_26 ?_
          refine lv_istore_n (lv' := [(1, .int (x1 + (0 : Int32))), (0, .ref h), (2, .int x2)]) hx hb dX0_waiting_27 rfl hl (by decide) rfl (fun ls hl => ?_)
          refine lv_iinc (v := (x2 + (1 : Int32))) (lv' := [(2, .int (x2 + (1 : Int32))), (1, .int (x1 + (0 : Int32))), (0, .ref h)]) hx hb dX0_waiting_28 hl (k := 2) rfl rfl (by decide) rfl (fun ls hl => ?_)
          refine lv_goto (tgt := 4) hx hb dX0_waiting_31 (by decide) ?_
          exact ih (x1 + (0 : Int32)) (x2 + (1 : Int32)) ls hf (lv_sub hl [2, 1, 0] rfl)
        · rw [if_neg hc18] at hf
          refine lv_iconst (v := (1 : Int32)) hx hb dX0_waiting_21 (by decide) ?_
          refine lv_goto (tgt := 26) hx hb dX0_waiting_22 (by decide) ?_
          refine lv_iadd hx hb dX0_waiting_26 ?_
          refine lv_istore_n (lv' := [(1, .int (x1 + (1 : Int32))), (0, .ref h), (2, .int x2)]) hx hb dX0_waiting_27 rfl hl (by decide) rfl (fun ls hl => ?_)
          refine lv_iinc (v := (x2 + (1 : Int32))) (lv' := [(2, .int (x2 + (1 : Int32))), (1, .int (x1 + (1 : Int32))), (0, .ref h)]) hx hb dX0_waiting_28 hl (k := 2) rfl rfl (by decide) rfl (fun ls hl => ?_)
          refine lv_goto (tgt := 4) hx hb dX0_waiting_31 (by decide) ?_
          exact ih (x1 + (1 : Int32)) (x2 + (1 : Int32)) ls hf (lv_sub hl [2, 1, 0] rfl)
  rw [f_X0_waiting] at hf
  refine lv_iconst (v := (0 : Int32)) hx hb dX0_waiting_0 (by decide) ?_
  refine lv_istore_n (lv' := [(1, .int (0 : Int32)), (0, .ref h)]) hx hb dX0_waiting_1 rfl hl (by decide) rfl (fun ls hl => ?_)
  refine lv_iconst (v := (0 : Int32)) hx hb dX0_waiting_2 (by decide) ?_
  refine lv_istore_n (lv' := [(2, .int (0 : Int32)), (1, .int (0 : Int32)), (0, .ref h)]) hx hb dX0_waiting_3 rfl hl (by decide) rfl (fun ls hl => ?_)
  exact L4 FU (0 : Int32) (0 : Int32) ls hf (lv_sub hl [2, 1, 0] rfl)
