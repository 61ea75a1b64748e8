set_option maxHeartbeats 4000000 in
set_option maxRecDepth 100000 in
theorem c_X11_feed (l : Launch) (dC : Nat → ClassId) (dI : Nat → Nat → Nat) (cyB cyI cyZ cyO : ClassId) (h h_now h_images h_reader h_search h_now_tape h_now_law h_now_people h_now_rules h_now_cargo h_now_debts h_now_ledger h_now_tape_bytes : Nat) (sz : Nat) (M_h_now : Mem) (M_h_now_tape : Mem) (p1 : Int32) (p2 : Int32) (p3 : Int32) (p4 : Int32) (p5 : Int32) (r : Int32) (R_h_now_tape : Mem) (hf : f_X11_feed M_h_now M_h_now_tape p1 p2 p3 p4 p5 = some (r, R_h_now_tape)) : Met l yX11_feed wsX11_feed ({ frames := 1, cells := 0, slots := 0, locals := 22 } : Room) (PW dC dI cyB cyI cyZ cyO ([.ref h, .int p1, .int p2, .int p3, .int p4, .int p5] : List Value) ((wX11 cyB cyI cyZ cyO h h_now h_images h_reader h_search) ++ ((wX7 cyB cyI cyZ cyO h_now h_now_tape h_now_law h_now_people h_now_rules h_now_cargo h_now_debts h_now_ledger M_h_now) ++ (wX8 cyB cyI cyZ cyO h_now_tape h_now_tape_bytes M_h_now_tape))) sz) (QW dC dI (some (.int r)) ((wX11 cyB cyI cyZ cyO h h_now h_images h_reader h_search) ++ ((wX7 cyB cyI cyZ cyO h_now h_now_tape h_now_law h_now_people h_now_rules h_now_cargo h_now_debts h_now_ledger M_h_now) ++ (wX8 cyB cyI cyZ cyO h_now_tape h_now_tape_bytes R_h_now_tape))) (va_A ((wX11 cyB cyI cyZ cyO h h_now h_images h_reader h_search) ++ ((wX7 cyB cyI cyZ cyO h_now h_now_tape h_now_law h_now_people h_now_rules h_now_cargo h_now_debts h_now_ledger M_h_now) ++ (wX8 cyB cyI cyZ cyO h_now_tape h_now_tape_bytes M_h_now_tape))) sz)) 0 0 (va_A ((wX11 cyB cyI cyZ cyO h h_now h_images h_reader h_search) ++ ((wX7 cyB cyI cyZ cyO h_now h_now_tape h_now_law h_now_people h_now_rules h_now_cargo h_now_debts h_now_ledger M_h_now) ++ (wX8 cyB cyI cyZ cyO h_now_tape h_now_tape_bytes M_h_now_tape))) sz) := by
  refine Met.ofW (cc := cX11_feed) (maxL := 7) (ret := (some .int)) (by decide) rfl ?_
  intro p e s m args below meth c s₁ B hml hv
  obtain ⟨rfl, hsz, hP, hCx, hD0⟩ := hv
  have hK := hCx.1
  have hN := hCx.2
  have hx := B.exec
  have hb := B.bytes
  have hr := B.returns
  have hts := atoms_spec (ws := wsX11_feed) B.pre
  have hown : s.vm.findClass RX11 = some m.cls := findClass_of_methodNamed B.named
  have hlocks := B.notSynchronized
  have hin7 : ∀ w ∈ u_ws RX7 TX7 14, w ∈ wsX11_feed := fun w h => List.mem_cons_of_mem _ (List.mem_append_left _ (List.mem_append_right _ h))
  have hin8 : ∀ w ∈ u_ws RX8 TX8 2, w ∈ wsX11_feed := fun w h => List.mem_cons_of_mem _ (List.mem_append_right _ h)
  have hin11 : ∀ w ∈ u_ws RX11 TX11 4, w ∈ wsX11_feed := fun w h => List.mem_cons_of_mem _ (List.mem_append_left _ (List.mem_append_left _ (List.mem_append_right _ h)))
  have kf10 := hts (.fieldLink RX11 10 "HoldSlips" "now" "LHoldSlips$State;") (by decide +kernel)
  have kf34 := hts (.fieldLink RX11 34 "HoldSlips$State" "tape" "LHoldSlips$Tape;") (by decide +kernel)
  have kf38 := hts (.fieldLink RX11 38 "HoldSlips$Tape" "length" "I") (by decide +kernel)
  subst hsz
  have hD := hD0.self (sz := s.heap.size)
  generalize hAe : va_A ((wX11 cyB cyI cyZ cyO h h_now h_images h_reader h_search) ++ ((wX7 cyB cyI cyZ cyO h_now h_now_tape h_now_law h_now_people h_now_rules h_now_cargo h_now_debts h_now_ledger M_h_now) ++ (wX8 cyB cyI cyZ cyO h_now_tape h_now_tape_bytes M_h_now_tape))) s.heap.size = A at hD ⊢
  have hA : ∀ q : Nat, s.heap.size ≤ q → A q := fun q h => by rw [← hAe]; exact Or.inr h
  have hS : va_S A s.heap s.heap [] := va_S.rf
  have hl := lv_entry ([.ref h, .int p1, .int p2, .int p3, .int p4, .int p5] : List Value) (n := 7) (Nat.le_of_ble_eq_true rfl)
  rw [lg_entry_eq]
  generalize (lg_sl ([.ref h, .int p1, .int p2, .int p3, .int p4, .int p5] : List Value) ++ List.replicate (7 - (lg_sl ([.ref h, .int p1, .int p2, .int p3, .int p4, .int p5] : List Value)).length) Slot.unset).toArray = ls at hl ⊢
  have hl : lv_has ls 7 [(0, .ref h), (1, .int p1), (2, .int p2), (3, .int p3), (4, .int p4), (5, .int p5)] := hl
  rw [f_X11_feed] at hf
  refine lv_aload_n hx hb dX11_feed_0 rfl (lv_at hl 0 rfl) ?_
  refine va_get (D := (dC, dI)) (ci := 11) (v := .ref h_now) (C := RX11) (T := TX11) (N := 4) hx hb hts hin11 hown hK hP 0 rfl rfl 0 (by decide) kf10 (fun _ h9 => h9) rfl dX11_feed_1 ?_
  refine va_get (D := (dC, dI)) (ci := 7) (v := .ref h_now_tape) (C := RX7) (T := TX7) (N := 14) hx hb hts hin7 hown hK hP 1 rfl rfl 0 (by decide) kf34 (fun _ h9 => h9) rfl dX11_feed_4 ?_
  refine lv_astore (lv' := [(6, .ref h_now_tape), (0, .ref h), (1, .int p1), (2, .int p2), (3, .int p3), (4, .int p4), (5, .int p5)]) hx hb dX11_feed_7 hl (by decide) rfl (fun ls hl => ?_)
  refine lv_aload hx hb dX11_feed_9 (lv_at hl 0 rfl) ?_
  refine va_get (D := (dC, dI)) (ci := 8) (v := .int (M_h_now_tape 1 0)) (C := RX8) (T := TX8) (N := 2) hx hb hts hin8 hown hK hP 2 rfl rfl 1 (by decide) kf38 (fun _ h9 => h9) rfl dX11_feed_11 ?_
  refine lv_bipush (v := (20 : Int32)) hx hb dX11_feed_14 (by decide) ?_
  refine lv_iadd hx hb dX11_feed_16 ?_
  refine lv_sipush (v := (400 : Int32)) hx hb dX11_feed_17 (by decide) ?_
  refine lv_icmp_le (tgt := 25) hx hb dX11_feed_20 (by decide) (fun hc20 => ?_) (fun hc20 => ?_)
  · rw [if_pos hc20] at hf
    refine lv_aload hx hb dX11_feed_25 (lv_at hl 0 rfl) ?_
    refine lv_iload_n hx hb dX11_feed_27 rfl (lv_at hl 2 rfl) ?_
    obtain ⟨M_h_now_tape_28, h28, hf⟩ := bd1_some hf
    have hPc := hP.sub (ws' := (wX8 cyB cyI cyZ cyO h_now_tape h_now_tape_bytes M_h_now_tape)) [2, 3] rfl
    have hDc := hD.sub (ws' := (wX8 cyB cyI cyZ cyO h_now_tape h_now_tape_bytes M_h_now_tape)) [2, 3] (by decide) rfl
    refine wr_callv (wc := (wX8 cyB cyI cyZ cyO h_now_tape h_now_tape_bytes M_h_now_tape)) (wr := ((wX11 cyB cyI cyZ cyO h h_now h_images h_reader h_search) ++ (wX7 cyB cyI cyZ cyO h_now h_now_tape h_now_law h_now_people h_now_rules h_now_cargo h_now_debts h_now_ledger M_h_now))) (w1 := (wX8 cyB cyI cyZ cyO h_now_tape h_now_tape_bytes M_h_now_tape_28)) (ws' := ((wX11 cyB cyI cyZ cyO h h_now h_images h_reader h_search) ++ ((wX7 cyB cyI cyZ cyO h_now h_now_tape h_now_law h_now_people h_now_rules h_now_cargo h_now_debts h_now_ledger M_h_now) ++ (wX8 cyB cyI cyZ cyO h_now_tape h_now_tape_bytes M_h_now_tape_28)))) hP hD hS hA [2, 3] [0, 1] [0, 1, 2, 3] rfl rfl (by decide) (by decide) rfl (by decide) (va_runV (As := [.int p1]) (rest := []) ⟨hx, hb, hml, hown, hts⟩ (c_X8_append l dC dI cyB cyI cyZ cyO h_now_tape h_now_tape_bytes _ M_h_now_tape p1 M_h_now_tape_28 h28) (cwV 1 hts gX11_feed_X8_append rfl rfl rfl (by decide +kernel) ⟨Nat.le_of_ble_eq_true rfl, Nat.le_of_ble_eq_true rfl⟩) ⟨PW.blind, va_recv hK hP (ci := 8) (q0 := 2) rfl rfl, fun U hU hW => ⟨rfl, by rw [hU], by rw [hU]; exact hPc, hCx.warm hW, hDc.weaken (fun _ _ _ _ => trivial)⟩⟩ rfl rfl hl.1 rfl (lv_room (Nat.le_of_ble_eq_true rfl)) dX11_feed_28 ⟨Nat.zero_le _, Nat.zero_le _⟩) (fun H locs hP hD hS => ?_)
    refine lv_aload hx hb dX11_feed_31 (lv_at hl 0 rfl) ?_
    refine lv_iload_n hx hb dX11_feed_33 rfl (lv_at hl 3 rfl) ?_
    obtain ⟨M_h_now_tape_34, h34, hf⟩ := bd1_some hf
    have hPc := hP.sub (ws' := (wX8 cyB cyI cyZ cyO h_now_tape h_now_tape_bytes M_h_now_tape_28)) [2, 3] rfl
    have hDc := hD.sub (ws' := (wX8 cyB cyI cyZ cyO h_now_tape h_now_tape_bytes M_h_now_tape_28)) [2, 3] (by decide) rfl
    refine wr_callv (wc := (wX8 cyB cyI cyZ cyO h_now_tape h_now_tape_bytes M_h_now_tape_28)) (wr := ((wX11 cyB cyI cyZ cyO h h_now h_images h_reader h_search) ++ (wX7 cyB cyI cyZ cyO h_now h_now_tape h_now_law h_now_people h_now_rules h_now_cargo h_now_debts h_now_ledger M_h_now))) (w1 := (wX8 cyB cyI cyZ cyO h_now_tape h_now_tape_bytes M_h_now_tape_34)) (ws' := ((wX11 cyB cyI cyZ cyO h h_now h_images h_reader h_search) ++ ((wX7 cyB cyI cyZ cyO h_now h_now_tape h_now_law h_now_people h_now_rules h_now_cargo h_now_debts h_now_ledger M_h_now) ++ (wX8 cyB cyI cyZ cyO h_now_tape h_now_tape_bytes M_h_now_tape_34)))) hP hD hS hA [2, 3] [0, 1] [0, 1, 2, 3] rfl rfl (by decide) (by decide) rfl (by decide) (va_runV (As := [.int p2]) (rest := []) ⟨hx, hb, hml, hown, hts⟩ (c_X8_append l dC dI cyB cyI cyZ cyO h_now_tape h_now_tape_bytes _ M_h_now_tape_28 p2 M_h_now_tape_34 h34) (cwV 1 hts gX11_feed_X8_append rfl rfl rfl (by decide +kernel) ⟨Nat.le_of_ble_eq_true rfl, Nat.le_of_ble_eq_true rfl⟩) ⟨PW.blind, va_recv hK hP (ci := 8) (q0 := 2) rfl rfl, fun U hU hW => ⟨rfl, by rw [hU], by rw [hU]; exact hPc, hCx.warm hW, hDc.weaken (fun _ _ _ _ => trivial)⟩⟩ rfl rfl hl.1 rfl (lv_room (Nat.le_of_ble_eq_true rfl)) dX11_feed_34 ⟨Nat.zero_le _, Nat.zero_le _⟩) (fun H locs hP hD hS => ?_)
    refine lv_aload hx hb dX11_feed_37 (lv_at hl 0 rfl) ?_
    refine lv_iload_n hx hb dX11_feed_39 rfl (lv_at hl 4 rfl) ?_
    obtain ⟨M_h_now_tape_40, h40, hf⟩ := bd1_some hf
    have hPc := hP.sub (ws' := (wX8 cyB cyI cyZ cyO h_now_tape h_now_tape_bytes M_h_now_tape_34)) [2, 3] rfl
    have hDc := hD.sub (ws' := (wX8 cyB cyI cyZ cyO h_now_tape h_now_tape_bytes M_h_now_tape_34)) [2, 3] (by decide) rfl
    refine wr_callv (wc := (wX8 cyB cyI cyZ cyO h_now_tape h_now_tape_bytes M_h_now_tape_34)) (wr := ((wX11 cyB cyI cyZ cyO h h_now h_images h_reader h_search) ++ (wX7 cyB cyI cyZ cyO h_now h_now_tape h_now_law h_now_people h_now_rules h_now_cargo h_now_debts h_now_ledger M_h_now))) (w1 := (wX8 cyB cyI cyZ cyO h_now_tape h_now_tape_bytes M_h_now_tape_40)) (ws' := ((wX11 cyB cyI cyZ cyO h h_now h_images h_reader h_search) ++ ((wX7 cyB cyI cyZ cyO h_now h_now_tape h_now_law h_now_people h_now_rules h_now_cargo h_now_debts h_now_ledger M_h_now) ++ (wX8 cyB cyI cyZ cyO h_now_tape h_now_tape_bytes M_h_now_tape_40)))) hP hD hS hA [2, 3] [0, 1] [0, 1, 2, 3] rfl rfl (by decide) (by decide) rfl (by decide) (va_runV (As := [.int p3]) (rest := []) ⟨hx, hb, hml, hown, hts⟩ (c_X8_append l dC dI cyB cyI cyZ cyO h_now_tape h_now_tape_bytes _ M_h_now_tape_34 p3 M_h_now_tape_40 h40) (cwV 1 hts gX11_feed_X8_append rfl rfl rfl (by decide +kernel) ⟨Nat.le_of_ble_eq_true rfl, Nat.le_of_ble_eq_true rfl⟩) ⟨PW.blind, va_recv hK hP (ci := 8) (q0 := 2) rfl rfl, fun U hU hW => ⟨rfl, by rw [hU], by rw [hU]; exact hPc, hCx.warm hW, hDc.weaken (fun _ _ _ _ => trivial)⟩⟩ rfl rfl hl.1 rfl (lv_room (Nat.le_of_ble_eq_true rfl)) dX11_feed_40 ⟨Nat.zero_le _, Nat.zero_le _⟩) (fun H locs hP hD hS => ?_)
    refine lv_aload hx hb dX11_feed_43 (lv_at hl 0 rfl) ?_
    refine lv_iload hx hb dX11_feed_45 (lv_at hl 5 rfl) ?_
    obtain ⟨M_h_now_tape_47, h47, hf⟩ := bd1_some hf
    have hPc := hP.sub (ws' := (wX8 cyB cyI cyZ cyO h_now_tape h_now_tape_bytes M_h_now_tape_40)) [2, 3] rfl
    have hDc := hD.sub (ws' := (wX8 cyB cyI cyZ cyO h_now_tape h_now_tape_bytes M_h_now_tape_40)) [2, 3] (by decide) rfl
    refine wr_callv (wc := (wX8 cyB cyI cyZ cyO h_now_tape h_now_tape_bytes M_h_now_tape_40)) (wr := ((wX11 cyB cyI cyZ cyO h h_now h_images h_reader h_search) ++ (wX7 cyB cyI cyZ cyO h_now h_now_tape h_now_law h_now_people h_now_rules h_now_cargo h_now_debts h_now_ledger M_h_now))) (w1 := (wX8 cyB cyI cyZ cyO h_now_tape h_now_tape_bytes M_h_now_tape_47)) (ws' := ((wX11 cyB cyI cyZ cyO h h_now h_images h_reader h_search) ++ ((wX7 cyB cyI cyZ cyO h_now h_now_tape h_now_law h_now_people h_now_rules h_now_cargo h_now_debts h_now_ledger M_h_now) ++ (wX8 cyB cyI cyZ cyO h_now_tape h_now_tape_bytes M_h_now_tape_47)))) hP hD hS hA [2, 3] [0, 1] [0, 1, 2, 3] rfl rfl (by decide) (by decide) rfl (by decide) (va_runV (As := [.int p4]) (rest := []) ⟨hx, hb, hml, hown, hts⟩ (c_X8_append l dC dI cyB cyI cyZ cyO h_now_tape h_now_tape_bytes _ M_h_now_tape_40 p4 M_h_now_tape_47 h47) (cwV 1 hts gX11_feed_X8_append rfl rfl rfl (by decide +kernel) ⟨Nat.le_of_ble_eq_true rfl, Nat.le_of_ble_eq_true rfl⟩) ⟨PW.blind, va_recv hK hP (ci := 8) (q0 := 2) rfl rfl, fun U hU hW => ⟨rfl, by rw [hU], by rw [hU]; exact hPc, hCx.warm hW, hDc.weaken (fun _ _ _ _ => trivial)⟩⟩ rfl rfl hl.1 rfl (lv_room (Nat.le_of_ble_eq_true rfl)) dX11_feed_47 ⟨Nat.zero_le _, Nat.zero_le _⟩) (fun H locs hP hD hS => ?_)
    refine lv_aload hx hb dX11_feed_50 (lv_at hl 0 rfl) ?_
    refine lv_iload hx hb dX11_feed_52 (lv_at hl 6 rfl) ?_
    obtain ⟨M_h_now_tape_54, h54, hf⟩ := bd1_some hf
    have hPc := hP.sub (ws' := (wX8 cyB cyI cyZ cyO h_now_tape h_now_tape_bytes M_h_now_tape_47)) [2, 3] rfl
    have hDc := hD.sub (ws' := (wX8 cyB cyI cyZ cyO h_now_tape h_now_tape_bytes M_h_now_tape_47)) [2, 3] (by decide) rfl
    refine wr_callv (wc := (wX8 cyB cyI cyZ cyO h_now_tape h_now_tape_bytes M_h_now_tape_47)) (wr := ((wX11 cyB cyI cyZ cyO h h_now h_images h_reader h_search) ++ (wX7 cyB cyI cyZ cyO h_now h_now_tape h_now_law h_now_people h_now_rules h_now_cargo h_now_debts h_now_ledger M_h_now))) (w1 := (wX8 cyB cyI cyZ cyO h_now_tape h_now_tape_bytes M_h_now_tape_54)) (ws' := ((wX11 cyB cyI cyZ cyO h h_now h_images h_reader h_search) ++ ((wX7 cyB cyI cyZ cyO h_now h_now_tape h_now_law h_now_people h_now_rules h_now_cargo h_now_debts h_now_ledger M_h_now) ++ (wX8 cyB cyI cyZ cyO h_now_tape h_now_tape_bytes M_h_now_tape_54)))) hP hD hS hA [2, 3] [0, 1] [0, 1, 2, 3] rfl rfl (by decide) (by decide) rfl (by decide) (va_runV (As := [.int p5]) (rest := []) ⟨hx, hb, hml, hown, hts⟩ (c_X8_append l dC dI cyB cyI cyZ cyO h_now_tape h_now_tape_bytes _ M_h_now_tape_47 p5 M_h_now_tape_54 h54) (cwV 1 hts gX11_feed_X8_append rfl rfl rfl (by decide +kernel) ⟨Nat.le_of_ble_eq_true rfl, Nat.le_of_ble_eq_true rfl⟩) ⟨PW.blind, va_recv hK hP (ci := 8) (q0 := 2) rfl rfl, fun U hU hW => ⟨rfl, by rw [hU], by rw [hU]; exact hPc, hCx.warm hW, hDc.weaken (fun _ _ _ _ => trivial)⟩⟩ rfl rfl hl.1 rfl (lv_room (Nat.le_of_ble_eq_true rfl)) dX11_feed_54 ⟨Nat.zero_le _, Nat.zero_le _⟩) (fun H locs hP hD hS => ?_)
    refine lv_aload hx hb dX11_feed_57 (lv_at hl 0 rfl) ?_
    refine va_get (D := (dC, dI)) (ci := 8) (v := .int (M_h_now_tape_54 1 0)) (C := RX8) (T := TX8) (N := 2) hx hb hts hin8 hown hK hP 2 rfl rfl 1 (by decide) kf38 (fun _ h9 => h9) rfl dX11_feed_59 ?_
    obtain ⟨hq0, hq1⟩ := pj2 hf
    subst hq0
    subst hq1
    exact W.iret (v := (M_h_now_tape_54 1 0)) hx hb hr (fun t ht hW => ⟨rfl, by rw [ht]; exact hP, hD, hS.F ht⟩) hS.2.2 dX11_feed_62
  · rw [if_neg hc20] at hf
    refine lv_iconst (v := (-1 : Int32)) hx hb dX11_feed_23 (by decide) ?_
    obtain ⟨hq0, hq1⟩ := pj2 hf
    subst hq0
    subst hq1
    exact W.iret (v := (-1 : Int32)) hx hb hr (fun t ht hW => ⟨rfl, by rw [ht]; exact hP, hD, hS.F ht⟩) hS.2.2 dX11_feed_24
set_option maxHeartbeats 4000000 in
set_option maxRecDepth 100000 in
theorem c_X11_end (l : Launch) (dC : Nat → ClassId) (dI : Nat → Nat → Nat) (cyB cyI cyZ cyO : ClassId) (h h_now h_images h_reader h_search h_now_tape h_now_law h_now_people h_now_rules h_now_cargo h_now_debts h_now_ledger h_now_tape_bytes : Nat) (sz : Nat) (M_h_now : Mem) (M_h_now_tape : Mem) (p1 : Int32) (r : Int32) (R_h_now_tape : Mem) (hf : f_X11_end M_h_now M_h_now_tape p1 = some (r, R_h_now_tape)) : Met l yX11_end wsX11_end ({ frames := 0, cells := 0, slots := 0, locals := 0 } : Room) (PW dC dI cyB cyI cyZ cyO ([.ref h, .int p1] : List Value) ((wX11 cyB cyI cyZ cyO h h_now h_images h_reader h_search) ++ ((wX7 cyB cyI cyZ cyO h_now h_now_tape h_now_law h_now_people h_now_rules h_now_cargo h_now_debts h_now_ledger M_h_now) ++ (wX8 cyB cyI cyZ cyO h_now_tape h_now_tape_bytes M_h_now_tape))) sz) (QW dC dI (some (.int r)) ((wX11 cyB cyI cyZ cyO h h_now h_images h_reader h_search) ++ ((wX7 cyB cyI cyZ cyO h_now h_now_tape h_now_law h_now_people h_now_rules h_now_cargo h_now_debts h_now_ledger M_h_now) ++ (wX8 cyB cyI cyZ cyO h_now_tape h_now_tape_bytes R_h_now_tape))) (va_A ((wX11 cyB cyI cyZ cyO h h_now h_images h_reader h_search) ++ ((wX7 cyB cyI cyZ cyO h_now h_now_tape h_now_law h_now_people h_now_rules h_now_cargo h_now_debts h_now_ledger M_h_now) ++ (wX8 cyB cyI cyZ cyO h_now_tape h_now_tape_bytes M_h_now_tape))) sz)) 0 0 (va_A ((wX11 cyB cyI cyZ cyO h h_now h_images h_reader h_search) ++ ((wX7 cyB cyI cyZ cyO h_now h_now_tape h_now_law h_now_people h_now_rules h_now_cargo h_now_debts h_now_ledger M_h_now) ++ (wX8 cyB cyI cyZ cyO h_now_tape h_now_tape_bytes M_h_now_tape))) sz) := by
  refine Met.ofW (cc := cX11_end) (maxL := 2) (ret := (some .int)) (by decide) rfl ?_
  intro p e s m args below meth c s₁ B hml hv
  obtain ⟨rfl, hsz, hP, hCx, hD0⟩ := hv
  have hK := hCx.1
  have hN := hCx.2
  have hx := B.exec
  have hb := B.bytes
  have hr := B.returns
  have hts := atoms_spec (ws := wsX11_end) B.pre
  have hown : s.vm.findClass RX11 = some m.cls := findClass_of_methodNamed B.named
  have hlocks := B.notSynchronized
  have hin7 : ∀ w ∈ u_ws RX7 TX7 14, w ∈ wsX11_end := fun w h => List.mem_cons_of_mem _ (List.mem_append_left _ (List.mem_append_right _ h))
  have hin8 : ∀ w ∈ u_ws RX8 TX8 2, w ∈ wsX11_end := fun w h => List.mem_cons_of_mem _ (List.mem_append_right _ h)
  have hin11 : ∀ w ∈ u_ws RX11 TX11 4, w ∈ wsX11_end := fun w h => List.mem_cons_of_mem _ (List.mem_append_left _ (List.mem_append_left _ (List.mem_append_right _ h)))
  have kf10 := hts (.fieldLink RX11 10 "HoldSlips" "now" "LHoldSlips$State;") (by decide +kernel)
  have kf34 := hts (.fieldLink RX11 34 "HoldSlips$State" "tape" "LHoldSlips$Tape;") (by decide +kernel)
  have kf38 := hts (.fieldLink RX11 38 "HoldSlips$Tape" "length" "I") (by decide +kernel)
  subst hsz
  have hD := hD0.self (sz := s.heap.size)
  generalize hAe : va_A ((wX11 cyB cyI cyZ cyO h h_now h_images h_reader h_search) ++ ((wX7 cyB cyI cyZ cyO h_now h_now_tape h_now_law h_now_people h_now_rules h_now_cargo h_now_debts h_now_ledger M_h_now) ++ (wX8 cyB cyI cyZ cyO h_now_tape h_now_tape_bytes M_h_now_tape))) s.heap.size = A at hD ⊢
  have hA : ∀ q : Nat, s.heap.size ≤ q → A q := fun q h => by rw [← hAe]; exact Or.inr h
  have hS : va_S A s.heap s.heap [] := va_S.rf
  have hl := lv_entry ([.ref h, .int p1] : List Value) (n := 2) (Nat.le_of_ble_eq_true rfl)
  rw [lg_entry_eq]
  generalize (lg_sl ([.ref h, .int p1] : List Value) ++ List.replicate (2 - (lg_sl ([.ref h, .int p1] : List Value)).length) Slot.unset).toArray = ls at hl ⊢
  have hl : lv_has ls 2 [(0, .ref h), (1, .int p1)] := hl
  rw [f_X11_end] at hf
  refine lv_iload_n hx hb dX11_end_0 rfl (lv_at hl 1 rfl) ?_
  refine lv_if_lt (tgt := 18) hx hb dX11_end_1 (by decide) (fun hc1 => ?_) (fun hc1 => ?_)
  · rw [if_pos hc1] at hf
    refine lv_iconst (v := (-1 : Int32)) hx hb dX11_end_18 (by decide) ?_
    obtain ⟨hq0, hq1⟩ := pj2 hf
    subst hq0
    subst hq1
    exact W.iret (v := (-1 : Int32)) hx hb hr (fun t ht hW => ⟨rfl, by rw [ht]; exact hP, hD, hS.F ht⟩) hS.2.2 dX11_end_19
  · rw [if_neg hc1] at hf
    refine lv_iload_n hx hb dX11_end_4 rfl (lv_at hl 1 rfl) ?_
    refine lv_aload_n hx hb dX11_end_5 rfl (lv_at hl 0 rfl) ?_
    refine va_get (D := (dC, dI)) (ci := 11) (v := .ref h_now) (C := RX11) (T := TX11) (N := 4) hx hb hts hin11 hown hK hP 0 rfl rfl 0 (by decide) kf10 (fun _ h9 => h9) rfl dX11_end_6 ?_
    refine va_get (D := (dC, dI)) (ci := 7) (v := .ref h_now_tape) (C := RX7) (T := TX7) (N := 14) hx hb hts hin7 hown hK hP 1 rfl rfl 0 (by decide) kf34 (fun _ h9 => h9) rfl dX11_end_9 ?_
    refine va_get (D := (dC, dI)) (ci := 8) (v := .int (M_h_now_tape 1 0)) (C := RX8) (T := TX8) (N := 2) hx hb hts hin8 hown hK hP 2 rfl rfl 1 (by decide) kf38 (fun _ h9 => h9) rfl dX11_end_12 ?_
    refine lv_icmp_le (tgt := 20) hx hb dX11_end_15 (by decide) (fun hc15 => ?_) (fun hc15 => ?_)
    · rw [if_pos hc15] at hf
      refine lv_aload_n hx hb dX11_end_20 rfl (lv_at hl 0 rfl) ?_
      refine va_get (D := (dC, dI)) (ci := 11) (v := .ref h_now) (C := RX11) (T := TX11) (N := 4) hx hb hts hin11 hown hK hP 0 rfl rfl 0 (by decide) kf10 (fun _ h9 => h9) rfl dX11_end_21 ?_
      refine va_get (D := (dC, dI)) (ci := 7) (v := .ref h_now_tape) (C := RX7) (T := TX7) (N := 14) hx hb hts hin7 hown hK hP 1 rfl rfl 0 (by decide) kf34 (fun _ h9 => h9) rfl dX11_end_24 ?_
      refine lv_iload_n hx hb dX11_end_27 rfl (lv_at hl 1 rfl) ?_
      refine va_put (D := (dC, dI)) (ci := 8) (v := .int p1) (ty := .int) (C := RX8) (T := TX8) (N := 2) hx hb hts hin8 tyX8 tyX8_ok nmX8 hown hK hP hD hS 2 rfl rfl 1 (by decide) kf38 (fun _ h9 => h9) rfl (by decide +kernel) rfl rfl (Nat.le_of_ble_eq_true rfl) dX11_end_28 (fun H locs hP hD hS => ?_)
      obtain ⟨M_h_now_tape_28, eM_h_now_tape_28, hf⟩ := wr_some hf
      have hP : va_P (dC, dI) vwCl ((wX11 cyB cyI cyZ cyO h h_now h_images h_reader h_search) ++ ((wX7 cyB cyI cyZ cyO h_now h_now_tape h_now_law h_now_people h_now_rules h_now_cargo h_now_debts h_now_ledger M_h_now) ++ (wX8 cyB cyI cyZ cyO h_now_tape h_now_tape_bytes M_h_now_tape_28))) H := by rw [eM_h_now_tape_28]; exact hP
      have hD : va_D A ((wX11 cyB cyI cyZ cyO h h_now h_images h_reader h_search) ++ ((wX7 cyB cyI cyZ cyO h_now h_now_tape h_now_law h_now_people h_now_rules h_now_cargo h_now_debts h_now_ledger M_h_now) ++ (wX8 cyB cyI cyZ cyO h_now_tape h_now_tape_bytes M_h_now_tape_28))) := by rw [eM_h_now_tape_28]; exact hD
      refine lv_iload_n hx hb dX11_end_31 rfl (lv_at hl 1 rfl) ?_
      obtain ⟨hq0, hq1⟩ := pj2 hf
      subst hq0
      subst hq1
      exact W.iret (v := p1) hx hb hr (fun t ht hW => ⟨rfl, by rw [ht]; exact hP, hD, hS.F ht⟩) hS.2.2 dX11_end_32
    · rw [if_neg hc15] at hf
      refine lv_iconst (v := (-1 : Int32)) hx hb dX11_end_18 (by decide) ?_
      obtain ⟨hq0, hq1⟩ := pj2 hf
      subst hq0
      subst hq1
      exact W.iret (v := (-1 : Int32)) hx hb hr (fun t ht hW => ⟨rfl, by rw [ht]; exact hP, hD, hS.F ht⟩) hS.2.2 dX11_end_19
set_option maxHeartbeats 4000000 in
set_option maxRecDepth 100000 in
theorem c_X9_begin (l : Launch) (dC : Nat → ClassId) (dI : Nat → Nat → Nat) (cyB cyI cyZ cyO : ClassId) (a1 a1_bytes h h_tape h_tape_bytes : Nat) (sz : Nat) (M_a1 : Mem) (M_h : Mem) (M_h_tape : Mem) (R_h : Mem) (R_h_tape : Mem) (hf : f_X9_begin M_a1 M_h M_h_tape = some (R_h, R_h_tape)) : Met l yX9_begin wsX9_begin ({ frames := 2, cells := 0, slots := 0, locals := 81 } : Room) (PW dC dI cyB cyI cyZ cyO ([.ref h, .ref a1] : List Value) ((wX8 cyB cyI cyZ cyO a1 a1_bytes M_a1) ++ ((wX9 cyB cyI cyZ cyO h h_tape M_h) ++ (wX8 cyB cyI cyZ cyO h_tape h_tape_bytes M_h_tape))) sz) (QW dC dI none ((wX8 cyB cyI cyZ cyO a1 a1_bytes M_a1) ++ ((wX9 cyB cyI cyZ cyO h h_tape R_h) ++ (wX8 cyB cyI cyZ cyO h_tape h_tape_bytes R_h_tape))) (va_A ((wX8 cyB cyI cyZ cyO a1 a1_bytes M_a1) ++ ((wX9 cyB cyI cyZ cyO h h_tape M_h) ++ (wX8 cyB cyI cyZ cyO h_tape h_tape_bytes M_h_tape))) sz)) 0 0 (va_A ((wX8 cyB cyI cyZ cyO a1 a1_bytes M_a1) ++ ((wX9 cyB cyI cyZ cyO h h_tape M_h) ++ (wX8 cyB cyI cyZ cyO h_tape h_tape_bytes M_h_tape))) sz) := by
  refine Met.ofW (cc := cX9_begin) (maxL := 2) (ret := none) (by decide) rfl ?_
  intro p e s m args below meth c s₁ B hml hv
  obtain ⟨rfl, hsz, hP, hCx, hD0⟩ := hv
  have hK := hCx.1
  have hN := hCx.2
  have hx := B.exec
  have hb := B.bytes
  have hr := B.returns
  have hts := atoms_spec (ws := wsX9_begin) B.pre
  have hown : s.vm.findClass RX9 = some m.cls := findClass_of_methodNamed B.named
  have hlocks := B.notSynchronized
  have hin9 : ∀ w ∈ u_ws RX9 TX9 5, w ∈ wsX9_begin := fun w h => List.mem_cons_of_mem _ (List.mem_append_left _ (List.mem_append_right _ h))
  have kf10 := hts (.fieldLink RX9 10 "HoldSlips$TokenReader" "tape" "LHoldSlips$Tape;") (by decide +kernel)
  have kf23 := hts (.fieldLink RX9 23 "HoldSlips$TokenReader" "next" "I") (by decide +kernel)
  subst hsz
  have hD := hD0.self (sz := s.heap.size)
  generalize hAe : va_A ((wX8 cyB cyI cyZ cyO a1 a1_bytes M_a1) ++ ((wX9 cyB cyI cyZ cyO h h_tape M_h) ++ (wX8 cyB cyI cyZ cyO h_tape h_tape_bytes M_h_tape))) s.heap.size = A at hD ⊢
  have hA : ∀ q : Nat, s.heap.size ≤ q → A q := fun q h => by rw [← hAe]; exact Or.inr h
  have hS : va_S A s.heap s.heap [] := va_S.rf
  have hl := lv_entry ([.ref h, .ref a1] : List Value) (n := 2) (Nat.le_of_ble_eq_true rfl)
  rw [lg_entry_eq]
  generalize (lg_sl ([.ref h, .ref a1] : List Value) ++ List.replicate (2 - (lg_sl ([.ref h, .ref a1] : List Value)).length) Slot.unset).toArray = ls at hl ⊢
  have hl : lv_has ls 2 [(0, .ref h), (1, .ref a1)] := hl
  rw [f_X9_begin] at hf
  refine lv_aload_n hx hb dX9_begin_0 rfl (lv_at hl 0 rfl) ?_
  refine va_get (D := (dC, dI)) (ci := 9) (v := .ref h_tape) (C := RX9) (T := TX9) (N := 5) hx hb hts hin9 hown hK hP 2 rfl rfl 0 (by decide) kf10 (fun _ h9 => h9) rfl dX9_begin_1 ?_
  refine lv_aload_n hx hb dX9_begin_4 rfl (lv_at hl 1 rfl) ?_
  obtain ⟨M_h_tape_5, h5, hf⟩ := bd1_some hf
  have hPc := hP.sub (ws' := ((wX8 cyB cyI cyZ cyO a1 a1_bytes M_a1) ++ (wX8 cyB cyI cyZ cyO h_tape h_tape_bytes M_h_tape))) [0, 1, 3, 4] rfl
  have hDc := hD.sub (ws' := ((wX8 cyB cyI cyZ cyO a1 a1_bytes M_a1) ++ (wX8 cyB cyI cyZ cyO h_tape h_tape_bytes M_h_tape))) [0, 1, 3, 4] (by decide) rfl
  refine wr_callv (wc := ((wX8 cyB cyI cyZ cyO a1 a1_bytes M_a1) ++ (wX8 cyB cyI cyZ cyO h_tape h_tape_bytes M_h_tape))) (wr := (wX9 cyB cyI cyZ cyO h h_tape M_h)) (w1 := ((wX8 cyB cyI cyZ cyO a1 a1_bytes M_a1) ++ (wX8 cyB cyI cyZ cyO h_tape h_tape_bytes M_h_tape_5))) (ws' := ((wX8 cyB cyI cyZ cyO a1 a1_bytes M_a1) ++ ((wX9 cyB cyI cyZ cyO h h_tape M_h) ++ (wX8 cyB cyI cyZ cyO h_tape h_tape_bytes M_h_tape_5)))) hP hD hS hA [0, 1, 3, 4] [2] [1, 2, 0, 3, 4] rfl rfl (by decide) (by decide) rfl (by decide) (va_runV (As := [.ref a1]) (rest := []) ⟨hx, hb, hml, hown, hts⟩ (c_X8_copyFrom l dC dI cyB cyI cyZ cyO a1 a1_bytes h_tape h_tape_bytes _ M_a1 M_h_tape M_h_tape_5 h5) (cwV 1 hts gX9_begin_X8_copyFrom rfl rfl rfl (by decide +kernel) ⟨Nat.le_of_ble_eq_true rfl, Nat.le_of_ble_eq_true rfl⟩) ⟨PW.blind, va_recv hK hP (ci := 8) (q0 := 3) rfl rfl, fun U hU hW => ⟨rfl, by rw [hU], by rw [hU]; exact hPc, hCx.warm hW, hDc.weaken (fun _ _ _ _ => trivial)⟩⟩ rfl rfl hl.1 rfl (lv_room (Nat.le_of_ble_eq_true rfl)) dX9_begin_5 ⟨Nat.zero_le _, Nat.zero_le _⟩) (fun H locs hP hD hS => ?_)
  refine lv_aload_n hx hb dX9_begin_8 rfl (lv_at hl 0 rfl) ?_
  refine lv_iconst (v := (0 : Int32)) hx hb dX9_begin_9 (by decide) ?_
  refine va_put (D := (dC, dI)) (ci := 9) (v := .int (0 : Int32)) (ty := .int) (C := RX9) (T := TX9) (N := 5) hx hb hts hin9 tyX9 tyX9_ok nmX9 hown hK hP hD hS 2 rfl rfl 3 (by decide) kf23 (fun _ h9 => h9) rfl (by decide +kernel) rfl rfl (Nat.le_of_ble_eq_true rfl) dX9_begin_10 (fun H locs hP hD hS => ?_)
  obtain ⟨M_h_10, eM_h_10, hf⟩ := wr_some hf
  have hP : va_P (dC, dI) vwCl ((wX8 cyB cyI cyZ cyO a1 a1_bytes M_a1) ++ ((wX9 cyB cyI cyZ cyO h h_tape M_h_10) ++ (wX8 cyB cyI cyZ cyO h_tape h_tape_bytes M_h_tape_5))) H := by rw [eM_h_10]; exact hP
  have hD : va_D A ((wX8 cyB cyI cyZ cyO a1 a1_bytes M_a1) ++ ((wX9 cyB cyI cyZ cyO h h_tape M_h_10) ++ (wX8 cyB cyI cyZ cyO h_tape h_tape_bytes M_h_tape_5))) := by rw [eM_h_10]; exact hD
  obtain ⟨hq0, hq1⟩ := pj2 hf
  subst hq0
  subst hq1
  exact W.vret hx hb hr (fun t ht hW => ⟨rfl, by rw [ht]; exact hP, hD, hS.F ht⟩) hS.2.2 dX9_begin_13
set_option maxHeartbeats 4000000 in
set_option maxRecDepth 100000 in
theorem c_X9_isBlank (l : Launch) (dC : Nat → ClassId) (dI : Nat → Nat → Nat) (cyB cyI cyZ cyO : ClassId) (p0 : Int32) (r : Int32) (hf : f_X9_isBlank p0 = some r) : Met l yX9_isBlank wsX9_isBlank ({ frames := 0, cells := 0, slots := 0, locals := 0 } : Room) (PR dC dI cyB cyI cyZ cyO ([.int p0] : List Value) ([] : va_W)) (QR (some (.int r))) 0 0 (fun _ => False) := by
  refine Met.ofW (cc := cX9_isBlank) (maxL := 1) (ret := (some .boolean)) (by decide) rfl ?_
  intro p e s m args below meth c s₁ B hml hv
  obtain ⟨rfl, hP, hCx⟩ := hv
  have hK := hCx.1
  have hN := hCx.2
  have hx := B.exec
  have hb := B.bytes
  have hr := B.returns
  have hts := atoms_spec (ws := wsX9_isBlank) B.pre
  have hown : s.vm.findClass RX9 = some m.cls := findClass_of_methodNamed B.named
  have hlocks := B.notSynchronized
  have hl := lv_entry ([.int p0] : List Value) (n := 1) (Nat.le_of_ble_eq_true rfl)
  rw [lg_entry_eq]
  generalize (lg_sl ([.int p0] : List Value) ++ List.replicate (1 - (lg_sl ([.int p0] : List Value)).length) Slot.unset).toArray = ls at hl ⊢
  have hl : lv_has ls 1 [(0, .int p0)] := hl
  rw [f_X9_isBlank] at hf
  refine lv_iload_n hx hb dX9_isBlank_0 rfl (lv_at hl 0 rfl) ?_
  refine lv_bipush (v := (10 : Int32)) hx hb dX9_isBlank_1 (by decide) ?_
  refine lv_icmp_eq (tgt := 12) hx hb dX9_isBlank_3 (by decide) (fun hc3 => ?_) (fun hc3 => ?_)
  · rw [if_pos hc3] at hf
    refine lv_iconst (v := (1 : Int32)) hx hb dX9_isBlank_12 (by decide) ?_
    refine lv_goto (tgt := 17) hx hb dX9_isBlank_13 (by decide) ?_
    have hq := Option.some.inj hf
    subst hq
    exact W.zret (v := (1 : Int32)) hx hb hr rfl (fun t ht hW => ⟨rfl, ht⟩) (fun q h => by cases h) dX9_isBlank_17
  · rw [if_neg hc3] at hf
    refine lv_iload_n hx hb dX9_isBlank_6 rfl (lv_at hl 0 rfl) ?_
    refine lv_bipush (v := (32 : Int32)) hx hb dX9_isBlank_7 (by decide) ?_
    refine lv_icmp_ne (tgt := 16) hx hb dX9_isBlank_9 (by decide) (fun hc9 => ?_) (fun hc9 => ?_)
    · rw [if_neg hc9] at hf
      refine lv_iconst (v := (0 : Int32)) hx hb dX9_isBlank_16 (by decide) ?_
      have hq := Option.some.inj hf
      subst hq
      exact W.zret (v := (0 : Int32)) hx hb hr rfl (fun t ht hW => ⟨rfl, ht⟩) (fun q h => by cases h) dX9_isBlank_17
    · rw [if_pos hc9] at hf
      refine lv_iconst (v := (1 : Int32)) hx hb dX9_isBlank_12 (by decide) ?_
      refine lv_goto (tgt := 17) hx hb dX9_isBlank_13 (by decide) ?_
      have hq := Option.some.inj hf
      subst hq
      exact W.zret (v := (1 : Int32)) hx hb hr rfl (fun t ht hW => ⟨rfl, ht⟩) (fun q h => by cases h) dX9_isBlank_17
set_option maxHeartbeats 4000000 in
set_option maxRecDepth 100000 in
theorem c_X9_isDigit (l : Launch) (dC : Nat → ClassId) (dI : Nat → Nat → Nat) (cyB cyI cyZ cyO : ClassId) (p0 : Int32) (r : Int32) (hf : f_X9_isDigit p0 = some r) : Met l yX9_isDigit wsX9_isDigit ({ frames := 1, cells := 0, slots := 0, locals := 22 } : Room) (PR dC dI cyB cyI cyZ cyO ([.int p0] : List Value) ([] : va_W)) (QR (some (.int r))) 0 0 (fun _ => False) := by
  refine Met.ofW (cc := cX9_isDigit) (maxL := 1) (ret := (some .boolean)) (by decide) rfl ?_
  intro p e s m args below meth c s₁ B hml hv
  obtain ⟨rfl, hP, hCx⟩ := hv
  have hK := hCx.1
  have hN := hCx.2
  have hx := B.exec
  have hb := B.bytes
  have hr := B.returns
  have hts := atoms_spec (ws := wsX9_isDigit) B.pre
  have hown : s.vm.findClass RX9 = some m.cls := findClass_of_methodNamed B.named
  have hlocks := B.notSynchronized
  have hl := lv_entry ([.int p0] : List Value) (n := 1) (Nat.le_of_ble_eq_true rfl)
  rw [lg_entry_eq]
  generalize (lg_sl ([.int p0] : List Value) ++ List.replicate (1 - (lg_sl ([.int p0] : List Value)).length) Slot.unset).toArray = ls at hl ⊢
  have hl : lv_has ls 1 [(0, .int p0)] := hl
  rw [f_X9_isDigit] at hf
  refine lv_iload_n hx hb dX9_isDigit_0 rfl (lv_at hl 0 rfl) ?_
  refine lv_bipush (v := (48 : Int32)) hx hb dX9_isDigit_1 (by decide) ?_
  refine lv_bipush (v := (57 : Int32)) hx hb dX9_isDigit_3 (by decide) ?_
  obtain ⟨r5, h5, hf⟩ := bd1_some hf
  refine ro_calli (va_runSN (As := [.int p0, .int (48 : Int32), .int (57 : Int32)]) (rest := []) ⟨hx, hb, hml, hown, hts⟩ (c_X11_within l dC dI cyB cyI cyZ cyO p0 (48 : Int32) (57 : Int32) r5 h5) ⟨va_cnB 3 hts gX9_isDigit_X11_within_n56 rfl rfl rfl (hN _ (by decide +kernel : Cond.methodLinkNest RX9 56 yX11_within "HoldSlips" ∈ nw_all)) (hts (.initialized RX11) (by decide +kernel)) (by decide +kernel) ⟨Nat.le_of_ble_eq_true rfl, Nat.le_of_ble_eq_true rfl⟩, hts (.static yX11_within) (by decide +kernel), trivial⟩ ⟨PR.blind, fun U hU hW => ⟨rfl, by rw [hU]; exact hP, hCx.warm hW⟩⟩ rfl rfl hl.1 rfl (lv_room (Nat.le_of_ble_eq_true rfl)) dX9_isDigit_5 ⟨Nat.zero_le _, Nat.zero_le _⟩) ?_
  have hb8 := Decidable.not_not.mp (if_no hf)
  rw [if_neg (not_not_intro hb8)] at hf
  have hq := Option.some.inj hf
  subst hq
  exact W.zret (v := r5) hx hb hr (nar_b hb8) (fun t ht hW => ⟨rfl, ht⟩) (fun q h => by cases h) dX9_isDigit_8
set_option maxHeartbeats 4000000 in
set_option maxRecDepth 100000 in
theorem c_X9_isLetter (l : Launch) (dC : Nat → ClassId) (dI : Nat → Nat → Nat) (cyB cyI cyZ cyO : ClassId) (p0 : Int32) (r : Int32) (hf : f_X9_isLetter p0 = some r) : Met l yX9_isLetter wsX9_isLetter ({ frames := 1, cells := 0, slots := 0, locals := 22 } : Room) (PR dC dI cyB cyI cyZ cyO ([.int p0] : List Value) ([] : va_W)) (QR (some (.int r))) 0 0 (fun _ => False) := by
  refine Met.ofW (cc := cX9_isLetter) (maxL := 1) (ret := (some .boolean)) (by decide) rfl ?_
  intro p e s m args below meth c s₁ B hml hv
  obtain ⟨rfl, hP, hCx⟩ := hv
  have hK := hCx.1
  have hN := hCx.2
  have hx := B.exec
  have hb := B.bytes
  have hr := B.returns
  have hts := atoms_spec (ws := wsX9_isLetter) B.pre
  have hown : s.vm.findClass RX9 = some m.cls := findClass_of_methodNamed B.named
  have hlocks := B.notSynchronized
  have hl := lv_entry ([.int p0] : List Value) (n := 1) (Nat.le_of_ble_eq_true rfl)
  rw [lg_entry_eq]
  generalize (lg_sl ([.int p0] : List Value) ++ List.replicate (1 - (lg_sl ([.int p0] : List Value)).length) Slot.unset).toArray = ls at hl ⊢
  have hl : lv_has ls 1 [(0, .int p0)] := hl
  rw [f_X9_isLetter] at hf
  refine lv_iload_n hx hb dX9_isLetter_0 rfl (lv_at hl 0 rfl) ?_
  refine lv_bipush (v := (97 : Int32)) hx hb dX9_isLetter_1 (by decide) ?_
  refine lv_bipush (v := (122 : Int32)) hx hb dX9_isLetter_3 (by decide) ?_
  obtain ⟨r5, h5, hf⟩ := bd1_some hf
  refine ro_calli (va_runSN (As := [.int p0, .int (97 : Int32), .int (122 : Int32)]) (rest := []) ⟨hx, hb, hml, hown, hts⟩ (c_X11_within l dC dI cyB cyI cyZ cyO p0 (97 : Int32) (122 : Int32) r5 h5) ⟨va_cnB 3 hts gX9_isLetter_X11_within_n56 rfl rfl rfl (hN _ (by decide +kernel : Cond.methodLinkNest RX9 56 yX11_within "HoldSlips" ∈ nw_all)) (hts (.initialized RX11) (by decide +kernel)) (by decide +kernel) ⟨Nat.le_of_ble_eq_true rfl, Nat.le_of_ble_eq_true rfl⟩, hts (.static yX11_within) (by decide +kernel), trivial⟩ ⟨PR.blind, fun U hU hW => ⟨rfl, by rw [hU]; exact hP, hCx.warm hW⟩⟩ rfl rfl hl.1 rfl (lv_room (Nat.le_of_ble_eq_true rfl)) dX9_isLetter_5 ⟨Nat.zero_le _, Nat.zero_le _⟩) ?_
  have hb8 := Decidable.not_not.mp (if_no hf)
  rw [if_neg (not_not_intro hb8)] at hf
  have hq := Option.some.inj hf
  subst hq
  exact W.zret (v := r5) hx hb hr (nar_b hb8) (fun t ht hW => ⟨rfl, ht⟩) (fun q h => by cases h) dX9_isLetter_8
set_option maxHeartbeats 4000000 in
set_option maxRecDepth 100000 in
theorem c_X9_stepNumber (l : Launch) (dC : Nat → ClassId) (dI : Nat → Nat → Nat) (cyB cyI cyZ cyO : ClassId) (h h_tape h_tape_bytes : Nat) (sz : Nat) (M_h : Mem) (M_h_tape : Mem) (R_h : Mem) (hf : f_X9_stepNumber M_h M_h_tape = some R_h) : Met l yX9_stepNumber wsX9_stepNumber ({ frames := 2, cells := 0, slots := 0, locals := 42 } : Room) (PW dC dI cyB cyI cyZ cyO ([.ref h] : List Value) ((wX9 cyB cyI cyZ cyO h h_tape M_h) ++ (wX8 cyB cyI cyZ cyO h_tape h_tape_bytes M_h_tape)) sz) (QW dC dI none ((wX9 cyB cyI cyZ cyO h h_tape R_h) ++ (wX8 cyB cyI cyZ cyO h_tape h_tape_bytes M_h_tape)) (va_A ((wX9 cyB cyI cyZ cyO h h_tape M_h) ++ (wX8 cyB cyI cyZ cyO h_tape h_tape_bytes M_h_tape)) sz)) 0 0 (va_A ((wX9 cyB cyI cyZ cyO h h_tape M_h) ++ (wX8 cyB cyI cyZ cyO h_tape h_tape_bytes M_h_tape)) sz) := by
  refine Met.ofW (cc := cX9_stepNumber) (maxL := 1) (ret := none) (by decide) rfl ?_
  intro p e s m args below meth c s₁ B hml hv
  obtain ⟨rfl, hsz, hP, hCx, hD0⟩ := hv
  have hK := hCx.1
  have hN := hCx.2
  have hx := B.exec
  have hb := B.bytes
  have hr := B.returns
  have hts := atoms_spec (ws := wsX9_stepNumber) B.pre
  have hown : s.vm.findClass RX9 = some m.cls := findClass_of_methodNamed B.named
  have hlocks := B.notSynchronized
  have hin8 : ∀ w ∈ u_ws RX8 TX8 2, w ∈ wsX9_stepNumber := fun w h => List.mem_cons_of_mem _ (List.mem_append_right _ h)
  have hin9 : ∀ w ∈ u_ws RX9 TX9 5, w ∈ wsX9_stepNumber := fun w h => List.mem_cons_of_mem _ (List.mem_append_left _ (List.mem_append_right _ h))
  have kf10 := hts (.fieldLink RX9 10 "HoldSlips$TokenReader" "tape" "LHoldSlips$Tape;") (by decide +kernel)
  have kf16 := hts (.fieldLink RX9 16 "HoldSlips$TokenReader" "token" "I") (by decide +kernel)
  have kf20 := hts (.fieldLink RX9 20 "HoldSlips$TokenReader" "start" "I") (by decide +kernel)
  have kf23 := hts (.fieldLink RX9 23 "HoldSlips$TokenReader" "next" "I") (by decide +kernel)
  have kf26 := hts (.fieldLink RX9 26 "HoldSlips$TokenReader" "number" "I") (by decide +kernel)
  have kf33 := hts (.fieldLink RX9 33 "HoldSlips$Tape" "length" "I") (by decide +kernel)
  have kf36 := hts (.fieldLink RX9 36 "HoldSlips$Tape" "bytes" "[B") (by decide +kernel)
  subst hsz
  have hD := hD0.self (sz := s.heap.size)
  generalize hAe : va_A ((wX9 cyB cyI cyZ cyO h h_tape M_h) ++ (wX8 cyB cyI cyZ cyO h_tape h_tape_bytes M_h_tape)) s.heap.size = A at hD ⊢
  have hA : ∀ q : Nat, s.heap.size ≤ q → A q := fun q h => by rw [← hAe]; exact Or.inr h
  have hS : va_S A s.heap s.heap [] := va_S.rf
  have hl := lv_entry ([.ref h] : List Value) (n := 1) (Nat.le_of_ble_eq_true rfl)
  rw [lg_entry_eq]
  generalize (lg_sl ([.ref h] : List Value) ++ List.replicate (1 - (lg_sl ([.ref h] : List Value)).length) Slot.unset).toArray = ls at hl ⊢
  have hl : lv_has ls 1 [(0, .ref h)] := hl
  have L77 : ∀ (M_h : Mem) (H : Heap) (locs : List Loc) (ls : Array Slot), f_X9_stepNumber_L77 M_h M_h_tape = some R_h → va_P (dC, dI) vwCl ((wX9 cyB cyI cyZ cyO h h_tape M_h) ++ (wX8 cyB cyI cyZ cyO h_tape h_tape_bytes M_h_tape)) H → va_D A ((wX9 cyB cyI cyZ cyO h h_tape M_h) ++ (wX8 cyB cyI cyZ cyO h_tape h_tape_bytes M_h_tape)) → va_S A s.heap H locs → lv_has ls 1 [(0, .ref h)] → W p l e (headSpec wsX9_stepNumber ({ frames := 2, cells := 0, slots := 0, locals := 42 } : Room)).room s m ([.ref h] : List Value).toArray below meth c H locs 0 0 (MQ below (QW dC dI none ((wX9 cyB cyI cyZ cyO h h_tape R_h) ++ (wX8 cyB cyI cyZ cyO h_tape h_tape_bytes M_h_tape)) A) ([.ref h] : List Value).toArray s 0 0 A) (F0 m 77 ls []) := by
    intro  M_h H locs ls hf hP hD hS hl
    rw [f_X9_stepNumber_L77] at hf
    refine lv_aload_n hx hb dX9_stepNumber_77 rfl (lv_at hl 0 rfl) ?_
    refine lv_aload_n hx hb dX9_stepNumber_78 rfl (lv_at hl 0 rfl) ?_
    refine va_get (D := (dC, dI)) (ci := 9) (v := .int (M_h 3 0)) (C := RX9) (T := TX9) (N := 5) hx hb hts hin9 hown hK hP 0 rfl rfl 3 (by decide) kf23 (fun _ h9 => h9) rfl dX9_stepNumber_79 ?_
    refine lv_aload_n hx hb dX9_stepNumber_82 rfl (lv_at hl 0 rfl) ?_
    refine va_get (D := (dC, dI)) (ci := 9) (v := .int (M_h 2 0)) (C := RX9) (T := TX9) (N := 5) hx hb hts hin9 hown hK hP 0 rfl rfl 2 (by decide) kf20 (fun _ h9 => h9) rfl dX9_stepNumber_83 ?_
    refine lv_isub hx hb dX9_stepNumber_86 ?_
    refine lv_iconst (v := (3 : Int32)) hx hb dX9_stepNumber_87 (by decide) ?_
    refine lv_icmp_gt (tgt := 96) hx hb dX9_stepNumber_88 (by decide) (fun hc88 => ?_) (fun hc88 => ?_)
    · rw [if_pos hc88] at hf
      refine lv_bipush (v := (13 : Int32)) hx hb dX9_stepNumber_96 (by decide) ?_
      refine va_put (D := (dC, dI)) (ci := 9) (v := .int (13 : Int32)) (ty := .int) (C := RX9) (T := TX9) (N := 5) hx hb hts hin9 tyX9 tyX9_ok nmX9 hown hK hP hD hS 0 rfl rfl 1 (by decide) kf16 (fun _ h9 => h9) rfl (by decide +kernel) rfl rfl (Nat.le_of_ble_eq_true rfl) dX9_stepNumber_98 (fun H locs hP hD hS => ?_)
      obtain ⟨M_h_98, eM_h_98, hf⟩ := wr_some hf
      have hP : va_P (dC, dI) vwCl ((wX9 cyB cyI cyZ cyO h h_tape M_h_98) ++ (wX8 cyB cyI cyZ cyO h_tape h_tape_bytes M_h_tape)) H := by rw [eM_h_98]; exact hP
      have hD : va_D A ((wX9 cyB cyI cyZ cyO h h_tape M_h_98) ++ (wX8 cyB cyI cyZ cyO h_tape h_tape_bytes M_h_tape)) := by rw [eM_h_98]; exact hD
      have hq := Option.some.inj hf
      subst hq
      exact W.vret hx hb hr (fun t ht hW => ⟨rfl, by rw [ht]; exact hP, hD, hS.F ht⟩) hS.2.2 dX9_stepNumber_101
    · rw [if_neg hc88] at hf
      refine lv_bipush (v := (12 : Int32)) hx hb dX9_stepNumber_91 (by decide) ?_
      refine lv_goto (tgt := 98) hx hb dX9_stepNumber_93 (by decide) ?_
      refine va_put (D := (dC, dI)) (ci := 9) (v := .int (12 : Int32)) (ty := .int) (C := RX9) (T := TX9) (N := 5) hx hb hts hin9 tyX9 tyX9_ok nmX9 hown hK hP hD hS 0 rfl rfl 1 (by decide) kf16 (fun _ h9 => h9) rfl (by decide +kernel) rfl rfl (Nat.le_of_ble_eq_true rfl) dX9_stepNumber_98 (fun H locs hP hD hS => ?_)
      obtain ⟨M_h_98, eM_h_98, hf⟩ := wr_some hf
      have hP : va_P (dC, dI) vwCl ((wX9 cyB cyI cyZ cyO h h_tape M_h_98) ++ (wX8 cyB cyI cyZ cyO h_tape h_tape_bytes M_h_tape)) H := by rw [eM_h_98]; exact hP
      have hD : va_D A ((wX9 cyB cyI cyZ cyO h h_tape M_h_98) ++ (wX8 cyB cyI cyZ cyO h_tape h_tape_bytes M_h_tape)) := by rw [eM_h_98]; exact hD
      have hq := Option.some.inj hf
      subst hq
      exact W.vret hx hb hr (fun t ht hW => ⟨rfl, by rw [ht]; exact hP, hD, hS.F ht⟩) hS.2.2 dX9_stepNumber_101
  have L5 : ∀ (n : Nat), ∀ (M_h : Mem) (H : Heap) (locs : List Loc) (ls : Array Slot), f_X9_stepNumber_L5 n M_h M_h_tape = some R_h → va_P (dC, dI) vwCl ((wX9 cyB cyI cyZ cyO h h_tape M_h) ++ (wX8 cyB cyI cyZ cyO h_tape h_tape_bytes M_h_tape)) H → va_D A ((wX9 cyB cyI cyZ cyO h h_tape M_h) ++ (wX8 cyB cyI cyZ cyO h_tape h_tape_bytes M_h_tape)) → va_S A s.heap H locs → lv_has ls 1 [(0, .ref h)] → W p l e (headSpec wsX9_stepNumber ({ frames := 2, cells := 0, slots := 0, locals := 42 } : Room)).room s m ([.ref h] : List Value).toArray below meth c H locs 0 0 (MQ below (QW dC dI none ((wX9 cyB cyI cyZ cyO h h_tape R_h) ++ (wX8 cyB cyI cyZ cyO h_tape h_tape_bytes M_h_tape)) A) ([.ref h] : List Value).toArray s 0 0 A) (F0 m 5 ls []) := by
    intro n
    induction n with
    | zero => intro M_h H locs ls hf hP hD hS hl; rw [f_X9_stepNumber_L5] at hf; cases hf
    | succ n ih =>
      intro M_h H locs ls hf hP hD hS hl
      rw [f_X9_stepNumber_L5] at hf
      refine lv_aload_n hx hb dX9_stepNumber_5 rfl (lv_at hl 0 rfl) ?_
      refine va_get (D := (dC, dI)) (ci := 9) (v := .int (M_h 3 0)) (C := RX9) (T := TX9) (N := 5) hx hb hts hin9 hown hK hP 0 rfl rfl 3 (by decide) kf23 (fun _ h9 => h9) rfl dX9_stepNumber_6 ?_
      refine lv_aload_n hx hb dX9_stepNumber_9 rfl (lv_at hl 0 rfl) ?_
      refine va_get (D := (dC, dI)) (ci := 9) (v := .ref h_tape) (C := RX9) (T := TX9) (N := 5) hx hb hts hin9 hown hK hP 0 rfl rfl 0 (by decide) kf10 (fun _ h9 => h9) rfl dX9_stepNumber_10 ?_
      refine va_get (D := (dC, dI)) (ci := 8) (v := .int (M_h_tape 1 0)) (C := RX8) (T := TX8) (N := 2) hx hb hts hin8 hown hK hP 1 rfl rfl 1 (by decide) kf33 (fun _ h9 => h9) rfl dX9_stepNumber_13 ?_
      refine lv_icmp_ge (tgt := 77) hx hb dX9_stepNumber_16 (by decide) (fun hc16 => ?_) (fun hc16 => ?_)
      · rw [if_pos hc16] at hf
        exact L77 M_h _ _ ls hf hP hD hS (lv_sub hl [0] rfl)
      · rw [if_neg hc16] at hf
        refine lv_aload_n hx hb dX9_stepNumber_19 rfl (lv_at hl 0 rfl) ?_
        refine va_get (D := (dC, dI)) (ci := 9) (v := .ref h_tape) (C := RX9) (T := TX9) (N := 5) hx hb hts hin9 hown hK hP 0 rfl rfl 0 (by decide) kf10 (fun _ h9 => h9) rfl dX9_stepNumber_20 ?_
        refine va_get (D := (dC, dI)) (ci := 8) (v := .ref h_tape_bytes) (C := RX8) (T := TX8) (N := 2) hx hb hts hin8 hown hK hP 1 rfl rfl 0 (by decide) kf36 (fun _ h9 => h9) rfl dX9_stepNumber_23 ?_
        refine lv_aload_n hx hb dX9_stepNumber_26 rfl (lv_at hl 0 rfl) ?_
        refine va_get (D := (dC, dI)) (ci := 9) (v := .int (M_h 3 0)) (C := RX9) (T := TX9) (N := 5) hx hb hts hin9 hown hK hP 0 rfl rfl 3 (by decide) kf23 (fun _ h9 => h9) rfl dX9_stepNumber_27 ?_
        have hi30 := if_no hf
        rw [if_neg hi30] at hf
        refine va_bald hx hb hK hP 2 0 rfl rfl hi30 dX9_stepNumber_30 ?_
        obtain ⟨r31, h31, hf⟩ := bd1_some hf
        have hPc := hP.sub (ws' := ([] : va_W)) [] rfl
        refine ro_calli (va_runS (As := [.int (M_h_tape 0 ((M_h 3 0)).toNatClampNeg)]) (rest := []) ⟨hx, hb, hml, hown, hts⟩ (c_X9_isDigit l dC dI cyB cyI cyZ cyO (M_h_tape 0 ((M_h 3 0)).toNatClampNeg) r31 h31) (va_cwS 1 hts gX9_stepNumber_X9_isDigit rfl rfl rfl (by decide +kernel) ⟨Nat.le_of_ble_eq_true rfl, Nat.le_of_ble_eq_true rfl⟩) ⟨PR.blind, fun U hU hW => ⟨rfl, by rw [hU]; exact hPc, hCx.warm hW⟩⟩ rfl rfl hl.1 rfl (lv_room (Nat.le_of_ble_eq_true rfl)) dX9_stepNumber_31 ⟨Nat.zero_le _, Nat.zero_le _⟩) ?_
        refine lv_if_eq (tgt := 77) hx hb dX9_stepNumber_34 (by decide) (fun hc34 => ?_) (fun hc34 => ?_)
        · rw [if_pos hc34] at hf
          exact L77 M_h _ _ ls hf hP hD hS (lv_sub hl [0] rfl)
        · rw [if_neg hc34] at hf
          refine lv_aload_n hx hb dX9_stepNumber_37 rfl (lv_at hl 0 rfl) ?_
          refine lv_aload_n hx hb dX9_stepNumber_38 rfl (lv_at hl 0 rfl) ?_
          refine va_get (D := (dC, dI)) (ci := 9) (v := .int (M_h 4 0)) (C := RX9) (T := TX9) (N := 5) hx hb hts hin9 hown hK hP 0 rfl rfl 4 (by decide) kf26 (fun _ h9 => h9) rfl dX9_stepNumber_39 ?_
          refine lv_bipush (v := (10 : Int32)) hx hb dX9_stepNumber_42 (by decide) ?_
          refine lv_imul hx hb dX9_stepNumber_44 ?_
          refine lv_aload_n hx hb dX9_stepNumber_45 rfl (lv_at hl 0 rfl) ?_
          refine va_get (D := (dC, dI)) (ci := 9) (v := .ref h_tape) (C := RX9) (T := TX9) (N := 5) hx hb hts hin9 hown hK hP 0 rfl rfl 0 (by decide) kf10 (fun _ h9 => h9) rfl dX9_stepNumber_46 ?_
          refine va_get (D := (dC, dI)) (ci := 8) (v := .ref h_tape_bytes) (C := RX8) (T := TX8) (N := 2) hx hb hts hin8 hown hK hP 1 rfl rfl 0 (by decide) kf36 (fun _ h9 => h9) rfl dX9_stepNumber_49 ?_
          refine lv_aload_n hx hb dX9_stepNumber_52 rfl (lv_at hl 0 rfl) ?_
          refine va_get (D := (dC, dI)) (ci := 9) (v := .int (M_h 3 0)) (C := RX9) (T := TX9) (N := 5) hx hb hts hin9 hown hK hP 0 rfl rfl 3 (by decide) kf23 (fun _ h9 => h9) rfl dX9_stepNumber_53 ?_
          refine va_bald hx hb hK hP 2 0 rfl rfl hi30 dX9_stepNumber_56 ?_
          refine lv_bipush (v := (48 : Int32)) hx hb dX9_stepNumber_57 (by decide) ?_
          refine lv_isub hx hb dX9_stepNumber_59 ?_
          refine lv_iadd hx hb dX9_stepNumber_60 ?_
          refine va_put (D := (dC, dI)) (ci := 9) (v := .int (((M_h 4 0) * (10 : Int32)) + ((M_h_tape 0 ((M_h 3 0)).toNatClampNeg) - (48 : Int32)))) (ty := .int) (C := RX9) (T := TX9) (N := 5) hx hb hts hin9 tyX9 tyX9_ok nmX9 hown hK hP hD hS 0 rfl rfl 4 (by decide) kf26 (fun _ h9 => h9) rfl (by decide +kernel) rfl rfl (Nat.le_of_ble_eq_true rfl) dX9_stepNumber_61 (fun H locs hP hD hS => ?_)
          obtain ⟨M_h_61, eM_h_61, hf⟩ := wr_some hf
          have hP : va_P (dC, dI) vwCl ((wX9 cyB cyI cyZ cyO h h_tape M_h_61) ++ (wX8 cyB cyI cyZ cyO h_tape h_tape_bytes M_h_tape)) H := by rw [eM_h_61]; exact hP
          have hD : va_D A ((wX9 cyB cyI cyZ cyO h h_tape M_h_61) ++ (wX8 cyB cyI cyZ cyO h_tape h_tape_bytes M_h_tape)) := by rw [eM_h_61]; exact hD
          refine lv_aload_n hx hb dX9_stepNumber_64 rfl (lv_at hl 0 rfl) ?_
          refine lv_dup hx hb dX9_stepNumber_65 rfl ?_
          refine va_get (D := (dC, dI)) (ci := 9) (v := .int (M_h_61 3 0)) (C := RX9) (T := TX9) (N := 5) hx hb hts hin9 hown hK hP 0 rfl rfl 3 (by decide) kf23 (fun _ h9 => h9) rfl dX9_stepNumber_66 ?_
          refine lv_iconst (v := (1 : Int32)) hx hb dX9_stepNumber_69 (by decide) ?_
          refine lv_iadd hx hb dX9_stepNumber_70 ?_
          refine va_put (D := (dC, dI)) (ci := 9) (v := .int ((M_h_61 3 0) + (1 : Int32))) (ty := .int) (C := RX9) (T := TX9) (N := 5) hx hb hts hin9 tyX9 tyX9_ok nmX9 hown hK hP hD hS 0 rfl rfl 3 (by decide) kf23 (fun _ h9 => h9) rfl (by decide +kernel) rfl rfl (Nat.le_of_ble_eq_true rfl) dX9_stepNumber_71 (fun H locs hP hD hS => ?_)
          obtain ⟨M_h_71, eM_h_71, hf⟩ := wr_some hf
          have hP : va_P (dC, dI) vwCl ((wX9 cyB cyI cyZ cyO h h_tape M_h_71) ++ (wX8 cyB cyI cyZ cyO h_tape h_tape_bytes M_h_tape)) H := by rw [eM_h_71]; exact hP
          have hD : va_D A ((wX9 cyB cyI cyZ cyO h h_tape M_h_71) ++ (wX8 cyB cyI cyZ cyO h_tape h_tape_bytes M_h_tape)) := by rw [eM_h_71]; exact hD
          refine lv_goto (tgt := 5) hx hb dX9_stepNumber_74 (by decide) ?_
          exact ih M_h_71 _ _ ls hf hP hD hS (lv_sub hl [0] rfl)
  rw [f_X9_stepNumber] at hf
  refine lv_aload_n hx hb dX9_stepNumber_0 rfl (lv_at hl 0 rfl) ?_
  refine lv_iconst (v := (0 : Int32)) hx hb dX9_stepNumber_1 (by decide) ?_
  refine va_put (D := (dC, dI)) (ci := 9) (v := .int (0 : Int32)) (ty := .int) (C := RX9) (T := TX9) (N := 5) hx hb hts hin9 tyX9 tyX9_ok nmX9 hown hK hP hD hS 0 rfl rfl 4 (by decide) kf26 (fun _ h9 => h9) rfl (by decide +kernel) rfl rfl (Nat.le_of_ble_eq_true rfl) dX9_stepNumber_2 (fun H locs hP hD hS => ?_)
  obtain ⟨M_h_2, eM_h_2, hf⟩ := wr_some hf
  have hP : va_P (dC, dI) vwCl ((wX9 cyB cyI cyZ cyO h h_tape M_h_2) ++ (wX8 cyB cyI cyZ cyO h_tape h_tape_bytes M_h_tape)) H := by rw [eM_h_2]; exact hP
  have hD : va_D A ((wX9 cyB cyI cyZ cyO h h_tape M_h_2) ++ (wX8 cyB cyI cyZ cyO h_tape h_tape_bytes M_h_tape)) := by rw [eM_h_2]; exact hD
  exact L5 FU M_h_2 _ _ ls hf hP hD hS (lv_sub hl [0] rfl)
set_option maxHeartbeats 4000000 in
set_option maxRecDepth 100000 in
theorem c_X11_fault (l : Launch) (dC : Nat → ClassId) (dI : Nat → Nat → Nat) (cyB cyI cyZ cyO : ClassId) (h h_now h_images h_reader h_search h_now_tape h_now_law h_now_people h_now_rules h_now_cargo h_now_debts h_now_ledger : Nat) (M_h_now : Mem) (p1 : Int32) (r : Int32) (hf : f_X11_fault M_h_now p1 = some r) : Met l yX11_fault wsX11_fault ({ frames := 0, cells := 0, slots := 0, locals := 0 } : Room) (PR dC dI cyB cyI cyZ cyO ([.ref h, .int p1] : List Value) ((wX11 cyB cyI cyZ cyO h h_now h_images h_reader h_search) ++ (wX7 cyB cyI cyZ cyO h_now h_now_tape h_now_law h_now_people h_now_rules h_now_cargo h_now_debts h_now_ledger M_h_now))) (QR (some (.int r))) 0 0 (fun _ => False) := by
  refine Met.ofW (cc := cX11_fault) (maxL := 2) (ret := (some .int)) (by decide) rfl ?_
  intro p e s m args below meth c s₁ B hml hv
  obtain ⟨rfl, hP, hCx⟩ := hv
  have hK := hCx.1
  have hN := hCx.2
  have hx := B.exec
  have hb := B.bytes
  have hr := B.returns
  have hts := atoms_spec (ws := wsX11_fault) B.pre
  have hown : s.vm.findClass RX11 = some m.cls := findClass_of_methodNamed B.named
  have hlocks := B.notSynchronized
  have hin7 : ∀ w ∈ u_ws RX7 TX7 14, w ∈ wsX11_fault := fun w h => List.mem_cons_of_mem _ (List.mem_append_right _ h)
  have hin11 : ∀ w ∈ u_ws RX11 TX11 4, w ∈ wsX11_fault := fun w h => List.mem_cons_of_mem _ (List.mem_append_left _ (List.mem_append_right _ h))
  have kf10 := hts (.fieldLink RX11 10 "HoldSlips" "now" "LHoldSlips$State;") (by decide +kernel)
  have kf55 := hts (.fieldLink RX11 55 "HoldSlips$State" "fault" "I") (by decide +kernel)
  have kf59 := hts (.fieldLink RX11 59 "HoldSlips$State" "faultPlace" "I") (by decide +kernel)
  have hl := lv_entry ([.ref h, .int p1] : List Value) (n := 2) (Nat.le_of_ble_eq_true rfl)
  rw [lg_entry_eq]
  generalize (lg_sl ([.ref h, .int p1] : List Value) ++ List.replicate (2 - (lg_sl ([.ref h, .int p1] : List Value)).length) Slot.unset).toArray = ls at hl ⊢
  have hl : lv_has ls 2 [(0, .ref h), (1, .int p1)] := hl
  rw [f_X11_fault] at hf
  refine lv_iload_n hx hb dX11_fault_0 rfl (lv_at hl 1 rfl) ?_
  by_cases hs1_0 : p1 = (0 : Int32)
  · rw [if_pos hs1_0] at hf
    refine lv_lookup (off := 27) (tgt := 28) hx hb dX11_fault_1 (by decide) (by rw [hs1_0]; rfl) (by decide) ?_
    refine lv_aload_n hx hb dX11_fault_28 rfl (lv_at hl 0 rfl) ?_
    refine va_get (D := (dC, dI)) (ci := 11) (v := .ref h_now) (C := RX11) (T := TX11) (N := 4) hx hb hts hin11 hown hK hP 0 rfl rfl 0 (by decide) kf10 (fun _ h9 => h9) rfl dX11_fault_29 ?_
    refine va_get (D := (dC, dI)) (ci := 7) (v := .int (M_h_now 7 0)) (C := RX7) (T := TX7) (N := 14) hx hb hts hin7 hown hK hP 1 rfl rfl 7 (by decide) kf55 (fun _ h9 => h9) rfl dX11_fault_32 ?_
    have hq := Option.some.inj hf
    subst hq
    exact W.iret (v := (M_h_now 7 0)) hx hb hr (fun t ht hW => ⟨rfl, ht⟩) (fun q h => by cases h) dX11_fault_35
  · rw [if_neg hs1_0] at hf
    by_cases hs1_1 : p1 = (1 : Int32)
    · rw [if_pos hs1_1] at hf
      refine lv_lookup (off := 35) (tgt := 36) hx hb dX11_fault_1 (by decide) (by rw [hs1_1]; rfl) (by decide) ?_
      refine lv_aload_n hx hb dX11_fault_36 rfl (lv_at hl 0 rfl) ?_
      refine va_get (D := (dC, dI)) (ci := 11) (v := .ref h_now) (C := RX11) (T := TX11) (N := 4) hx hb hts hin11 hown hK hP 0 rfl rfl 0 (by decide) kf10 (fun _ h9 => h9) rfl dX11_fault_37 ?_
      refine va_get (D := (dC, dI)) (ci := 7) (v := .int (M_h_now 8 0)) (C := RX7) (T := TX7) (N := 14) hx hb hts hin7 hown hK hP 1 rfl rfl 8 (by decide) kf59 (fun _ h9 => h9) rfl dX11_fault_40 ?_
      have hq := Option.some.inj hf
      subst hq
      exact W.iret (v := (M_h_now 8 0)) hx hb hr (fun t ht hW => ⟨rfl, ht⟩) (fun q h => by cases h) dX11_fault_43
    · rw [if_neg hs1_1] at hf
      refine lv_lookup (off := 43) (tgt := 44) hx hb dX11_fault_1 (by decide) (by rw [lv_osw hs1_0 (show (0 : Int32).toInt = 0 by decide), lv_osw hs1_1 (show (1 : Int32).toInt = 1 by decide)]; rfl) (by decide) ?_
      refine lv_iconst (v := (-1 : Int32)) hx hb dX11_fault_44 (by decide) ?_
      have hq := Option.some.inj hf
      subst hq
      exact W.iret (v := (-1 : Int32)) hx hb hr (fun t ht hW => ⟨rfl, ht⟩) (fun q h => by cases h) dX11_fault_45
set_option maxHeartbeats 4000000 in
set_option maxRecDepth 100000 in
theorem c_X11_citizen (l : Launch) (dC : Nat → ClassId) (dI : Nat → Nat → Nat) (cyB cyI cyZ cyO : ClassId) (h h_now h_images h_reader h_search h_now_tape h_now_law h_now_people h_now_rules h_now_cargo h_now_debts h_now_ledger h_now_people_rank h_now_people_widow h_now_people_slips h_now_people_given h_now_people_silver h_now_people_returns h_now_people_rents h_now_people_share h_now_people_rest : Nat) (sz : Nat) (M_h_now : Mem) (M_h_now_people : Mem) (p1 : Int32) (p2 : Int32) (r : Int32) (R_h_now_people : Mem) (hf : f_X11_citizen M_h_now M_h_now_people p1 p2 = some (r, R_h_now_people)) : Met l yX11_citizen wsX11_citizen ({ frames := 1, cells := 0, slots := 0, locals := 22 } : Room) (PW dC dI cyB cyI cyZ cyO ([.ref h, .int p1, .int p2] : List Value) ((wX11 cyB cyI cyZ cyO h h_now h_images h_reader h_search) ++ ((wX7 cyB cyI cyZ cyO h_now h_now_tape h_now_law h_now_people h_now_rules h_now_cargo h_now_debts h_now_ledger M_h_now) ++ (wX2 cyB cyI cyZ cyO h_now_people h_now_people_rank h_now_people_widow h_now_people_slips h_now_people_given h_now_people_silver h_now_people_returns h_now_people_rents h_now_people_share h_now_people_rest M_h_now_people))) sz) (QW dC dI (some (.int r)) ((wX11 cyB cyI cyZ cyO h h_now h_images h_reader h_search) ++ ((wX7 cyB cyI cyZ cyO h_now h_now_tape h_now_law h_now_people h_now_rules h_now_cargo h_now_debts h_now_ledger M_h_now) ++ (wX2 cyB cyI cyZ cyO h_now_people h_now_people_rank h_now_people_widow h_now_people_slips h_now_people_given h_now_people_silver h_now_people_returns h_now_people_rents h_now_people_share h_now_people_rest R_h_now_people))) (va_A ((wX11 cyB cyI cyZ cyO h h_now h_images h_reader h_search) ++ ((wX7 cyB cyI cyZ cyO h_now h_now_tape h_now_law h_now_people h_now_rules h_now_cargo h_now_debts h_now_ledger M_h_now) ++ (wX2 cyB cyI cyZ cyO h_now_people h_now_people_rank h_now_people_widow h_now_people_slips h_now_people_given h_now_people_silver h_now_people_returns h_now_people_rents h_now_people_share h_now_people_rest M_h_now_people))) sz)) 0 0 (va_A ((wX11 cyB cyI cyZ cyO h h_now h_images h_reader h_search) ++ ((wX7 cyB cyI cyZ cyO h_now h_now_tape h_now_law h_now_people h_now_rules h_now_cargo h_now_debts h_now_ledger M_h_now) ++ (wX2 cyB cyI cyZ cyO h_now_people h_now_people_rank h_now_people_widow h_now_people_slips h_now_people_given h_now_people_silver h_now_people_returns h_now_people_rents h_now_people_share h_now_people_rest M_h_now_people))) sz) := by
  refine Met.ofW (cc := cX11_citizen) (maxL := 3) (ret := (some .int)) (by decide) rfl ?_
  intro p e s m args below meth c s₁ B hml hv
  obtain ⟨rfl, hsz, hP, hCx, hD0⟩ := hv
  have hK := hCx.1
  have hN := hCx.2
  have hx := B.exec
  have hb := B.bytes
  have hr := B.returns
  have hts := atoms_spec (ws := wsX11_citizen) B.pre
  have hown : s.vm.findClass RX11 = some m.cls := findClass_of_methodNamed B.named
  have hlocks := B.notSynchronized
  have hin7 : ∀ w ∈ u_ws RX7 TX7 14, w ∈ wsX11_citizen := fun w h => List.mem_cons_of_mem _ (List.mem_append_left _ (List.mem_append_right _ h))
  have hin11 : ∀ w ∈ u_ws RX11 TX11 4, w ∈ wsX11_citizen := fun w h => List.mem_cons_of_mem _ (List.mem_append_left _ (List.mem_append_left _ (List.mem_append_right _ h)))
  have kf10 := hts (.fieldLink RX11 10 "HoldSlips" "now" "LHoldSlips$State;") (by decide +kernel)
  have kf82 := hts (.fieldLink RX11 82 "HoldSlips$State" "people" "LHoldSlips$Citizens;") (by decide +kernel)
  subst hsz
  have hD := hD0.self (sz := s.heap.size)
  generalize hAe : va_A ((wX11 cyB cyI cyZ cyO h h_now h_images h_reader h_search) ++ ((wX7 cyB cyI cyZ cyO h_now h_now_tape h_now_law h_now_people h_now_rules h_now_cargo h_now_debts h_now_ledger M_h_now) ++ (wX2 cyB cyI cyZ cyO h_now_people h_now_people_rank h_now_people_widow h_now_people_slips h_now_people_given h_now_people_silver h_now_people_returns h_now_people_rents h_now_people_share h_now_people_rest M_h_now_people))) s.heap.size = A at hD ⊢
  have hA : ∀ q : Nat, s.heap.size ≤ q → A q := fun q h => by rw [← hAe]; exact Or.inr h
  have hS : va_S A s.heap s.heap [] := va_S.rf
  have hl := lv_entry ([.ref h, .int p1, .int p2] : List Value) (n := 3) (Nat.le_of_ble_eq_true rfl)
  rw [lg_entry_eq]
  generalize (lg_sl ([.ref h, .int p1, .int p2] : List Value) ++ List.replicate (3 - (lg_sl ([.ref h, .int p1, .int p2] : List Value)).length) Slot.unset).toArray = ls at hl ⊢
  have hl : lv_has ls 3 [(0, .ref h), (1, .int p1), (2, .int p2)] := hl
  rw [f_X11_citizen] at hf
  refine lv_iload_n hx hb dX11_citizen_0 rfl (lv_at hl 1 rfl) ?_
  refine lv_iconst (v := (0 : Int32)) hx hb dX11_citizen_1 (by decide) ?_
  refine lv_bipush (v := (9 : Int32)) hx hb dX11_citizen_2 (by decide) ?_
  obtain ⟨r4, h4, hf⟩ := bd1_some hf
  have hPc := hP.sub (ws' := ([] : va_W)) [] rfl
  refine ro_calli (va_runS (As := [.int p1, .int (0 : Int32), .int (9 : Int32)]) (rest := []) ⟨hx, hb, hml, hown, hts⟩ (c_X11_within l dC dI cyB cyI cyZ cyO p1 (0 : Int32) (9 : Int32) r4 h4) (va_cwS 3 hts gX11_citizen_X11_within rfl rfl rfl (by decide +kernel) ⟨Nat.le_of_ble_eq_true rfl, Nat.le_of_ble_eq_true rfl⟩) ⟨PR.blind, fun U hU hW => ⟨rfl, by rw [hU]; exact hPc, hCx.warm hW⟩⟩ rfl rfl hl.1 rfl (lv_room (Nat.le_of_ble_eq_true rfl)) dX11_citizen_4 ⟨Nat.zero_le _, Nat.zero_le _⟩) ?_
  refine lv_if_ne (tgt := 12) hx hb dX11_citizen_7 (by decide) (fun hc7 => ?_) (fun hc7 => ?_)
  · rw [if_neg hc7] at hf
    refine lv_aload_n hx hb dX11_citizen_12 rfl (lv_at hl 0 rfl) ?_
    refine va_get (D := (dC, dI)) (ci := 11) (v := .ref h_now) (C := RX11) (T := TX11) (N := 4) hx hb hts hin11 hown hK hP 0 rfl rfl 0 (by decide) kf10 (fun _ h9 => h9) rfl dX11_citizen_13 ?_
    refine va_get (D := (dC, dI)) (ci := 7) (v := .ref h_now_people) (C := RX7) (T := TX7) (N := 14) hx hb hts hin7 hown hK hP 1 rfl rfl 2 (by decide) kf82 (fun _ h9 => h9) rfl dX11_citizen_16 ?_
    refine lv_iload_n hx hb dX11_citizen_19 rfl (lv_at hl 1 rfl) ?_
    refine lv_iload_n hx hb dX11_citizen_20 rfl (lv_at hl 2 rfl) ?_
    obtain ⟨r21, M_h_now_people_21, h21, hf⟩ := bd2_some hf
    have hPc := hP.sub (ws' := (wX2 cyB cyI cyZ cyO h_now_people h_now_people_rank h_now_people_widow h_now_people_slips h_now_people_given h_now_people_silver h_now_people_returns h_now_people_rents h_now_people_share h_now_people_rest M_h_now_people)) [2, 3, 4, 5, 6, 7, 8, 9, 10, 11] rfl
    have hDc := hD.sub (ws' := (wX2 cyB cyI cyZ cyO h_now_people h_now_people_rank h_now_people_widow h_now_people_slips h_now_people_given h_now_people_silver h_now_people_returns h_now_people_rents h_now_people_share h_now_people_rest M_h_now_people)) [2, 3, 4, 5, 6, 7, 8, 9, 10, 11] (by decide) rfl
    refine wr_calli (wc := (wX2 cyB cyI cyZ cyO h_now_people h_now_people_rank h_now_people_widow h_now_people_slips h_now_people_given h_now_people_silver h_now_people_returns h_now_people_rents h_now_people_share h_now_people_rest M_h_now_people)) (wr := ((wX11 cyB cyI cyZ cyO h h_now h_images h_reader h_search) ++ (wX7 cyB cyI cyZ cyO h_now h_now_tape h_now_law h_now_people h_now_rules h_now_cargo h_now_debts h_now_ledger M_h_now))) (w1 := (wX2 cyB cyI cyZ cyO h_now_people h_now_people_rank h_now_people_widow h_now_people_slips h_now_people_given h_now_people_silver h_now_people_returns h_now_people_rents h_now_people_share h_now_people_rest M_h_now_people_21)) (ws' := ((wX11 cyB cyI cyZ cyO h h_now h_images h_reader h_search) ++ ((wX7 cyB cyI cyZ cyO h_now h_now_tape h_now_law h_now_people h_now_rules h_now_cargo h_now_debts h_now_ledger M_h_now) ++ (wX2 cyB cyI cyZ cyO h_now_people h_now_people_rank h_now_people_widow h_now_people_slips h_now_people_given h_now_people_silver h_now_people_returns h_now_people_rents h_now_people_share h_now_people_rest M_h_now_people_21)))) hP hD hS hA [2, 3, 4, 5, 6, 7, 8, 9, 10, 11] [0, 1] [0, 1, 2, 3, 4, 5, 6, 7, 8, 9, 10, 11] rfl rfl (by decide) (by decide) rfl (by decide) (va_runV (As := [.int p1, .int p2]) (rest := []) ⟨hx, hb, hml, hown, hts⟩ (c_X2_enter l dC dI cyB cyI cyZ cyO h_now_people h_now_people_rank h_now_people_widow h_now_people_slips h_now_people_given h_now_people_silver h_now_people_returns h_now_people_rents h_now_people_share h_now_people_rest _ M_h_now_people p1 p2 r21 M_h_now_people_21 h21) (cwV 2 hts gX11_citizen_X2_enter rfl rfl rfl (by decide +kernel) ⟨Nat.le_of_ble_eq_true rfl, Nat.le_of_ble_eq_true rfl⟩) ⟨PW.blind, va_recv hK hP (ci := 2) (q0 := 2) rfl rfl, fun U hU hW => ⟨rfl, by rw [hU], by rw [hU]; exact hPc, hCx.warm hW, hDc.weaken (fun _ _ _ _ => trivial)⟩⟩ rfl rfl hl.1 rfl (lv_room (Nat.le_of_ble_eq_true rfl)) dX11_citizen_21 ⟨Nat.zero_le _, Nat.zero_le _⟩) (fun H locs hP hD hS => ?_)
    obtain ⟨hq0, hq1⟩ := pj2 hf
    subst hq0
    subst hq1
    exact W.iret (v := r21) hx hb hr (fun t ht hW => ⟨rfl, by rw [ht]; exact hP, hD, hS.F ht⟩) hS.2.2 dX11_citizen_24
  · rw [if_pos hc7] at hf
    refine lv_iconst (v := (-1 : Int32)) hx hb dX11_citizen_10 (by decide) ?_
    obtain ⟨hq0, hq1⟩ := pj2 hf
    subst hq0
    subst hq1
    exact W.iret (v := (-1 : Int32)) hx hb hr (fun t ht hW => ⟨rfl, by rw [ht]; exact hP, hD, hS.F ht⟩) hS.2.2 dX11_citizen_11
set_option maxHeartbeats 4000000 in
set_option maxRecDepth 100000 in
theorem c_X11_rule (l : Launch) (dC : Nat → ClassId) (dI : Nat → Nat → Nat) (cyB cyI cyZ cyO : ClassId) (h h_now h_images h_reader h_search h_now_tape h_now_law h_now_people h_now_rules h_now_cargo h_now_debts h_now_ledger : Nat) (sz : Nat) (M_h_now : Mem) (M_h_now_rules : Mem) (p1 : Int32) (p2 : Int32) (r : Int32) (R_h_now_rules : Mem) (hf : f_X11_rule M_h_now M_h_now_rules p1 p2 = some (r, R_h_now_rules)) : Met l yX11_rule wsX11_rule ({ frames := 2, cells := 0, slots := 0, locals := 44 } : Room) (PW dC dI cyB cyI cyZ cyO ([.ref h, .int p1, .int p2] : List Value) ((wX11 cyB cyI cyZ cyO h h_now h_images h_reader h_search) ++ ((wX7 cyB cyI cyZ cyO h_now h_now_tape h_now_law h_now_people h_now_rules h_now_cargo h_now_debts h_now_ledger M_h_now) ++ (wX6 cyB cyI cyZ cyO h_now_rules M_h_now_rules))) sz) (QW dC dI (some (.int r)) ((wX11 cyB cyI cyZ cyO h h_now h_images h_reader h_search) ++ ((wX7 cyB cyI cyZ cyO h_now h_now_tape h_now_law h_now_people h_now_rules h_now_cargo h_now_debts h_now_ledger M_h_now) ++ (wX6 cyB cyI cyZ cyO h_now_rules R_h_now_rules))) (va_A ((wX11 cyB cyI cyZ cyO h h_now h_images h_reader h_search) ++ ((wX7 cyB cyI cyZ cyO h_now h_now_tape h_now_law h_now_people h_now_rules h_now_cargo h_now_debts h_now_ledger M_h_now) ++ (wX6 cyB cyI cyZ cyO h_now_rules M_h_now_rules))) sz)) 0 0 (va_A ((wX11 cyB cyI cyZ cyO h h_now h_images h_reader h_search) ++ ((wX7 cyB cyI cyZ cyO h_now h_now_tape h_now_law h_now_people h_now_rules h_now_cargo h_now_debts h_now_ledger M_h_now) ++ (wX6 cyB cyI cyZ cyO h_now_rules M_h_now_rules))) sz) := by
  refine Met.ofW (cc := cX11_rule) (maxL := 3) (ret := (some .boolean)) (by decide) rfl ?_
  intro p e s m args below meth c s₁ B hml hv
  obtain ⟨rfl, hsz, hP, hCx, hD0⟩ := hv
  have hK := hCx.1
  have hN := hCx.2
  have hx := B.exec
  have hb := B.bytes
  have hr := B.returns
  have hts := atoms_spec (ws := wsX11_rule) B.pre
  have hown : s.vm.findClass RX11 = some m.cls := findClass_of_methodNamed B.named
  have hlocks := B.notSynchronized
  have hin7 : ∀ w ∈ u_ws RX7 TX7 14, w ∈ wsX11_rule := fun w h => List.mem_cons_of_mem _ (List.mem_append_left _ (List.mem_append_right _ h))
  have hin11 : ∀ w ∈ u_ws RX11 TX11 4, w ∈ wsX11_rule := fun w h => List.mem_cons_of_mem _ (List.mem_append_left _ (List.mem_append_left _ (List.mem_append_right _ h)))
  have kf10 := hts (.fieldLink RX11 10 "HoldSlips" "now" "LHoldSlips$State;") (by decide +kernel)
  have kf92 := hts (.fieldLink RX11 92 "HoldSlips$State" "rules" "LHoldSlips$Rules;") (by decide +kernel)
  subst hsz
  have hD := hD0.self (sz := s.heap.size)
  generalize hAe : va_A ((wX11 cyB cyI cyZ cyO h h_now h_images h_reader h_search) ++ ((wX7 cyB cyI cyZ cyO h_now h_now_tape h_now_law h_now_people h_now_rules h_now_cargo h_now_debts h_now_ledger M_h_now) ++ (wX6 cyB cyI cyZ cyO h_now_rules M_h_now_rules))) s.heap.size = A at hD ⊢
  have hA : ∀ q : Nat, s.heap.size ≤ q → A q := fun q h => by rw [← hAe]; exact Or.inr h
  have hS : va_S A s.heap s.heap [] := va_S.rf
  have hl := lv_entry ([.ref h, .int p1, .int p2] : List Value) (n := 3) (Nat.le_of_ble_eq_true rfl)
  rw [lg_entry_eq]
  generalize (lg_sl ([.ref h, .int p1, .int p2] : List Value) ++ List.replicate (3 - (lg_sl ([.ref h, .int p1, .int p2] : List Value)).length) Slot.unset).toArray = ls at hl ⊢
  have hl : lv_has ls 3 [(0, .ref h), (1, .int p1), (2, .int p2)] := hl
  rw [f_X11_rule] at hf
  refine lv_aload_n hx hb dX11_rule_0 rfl (lv_at hl 0 rfl) ?_
  refine va_get (D := (dC, dI)) (ci := 11) (v := .ref h_now) (C := RX11) (T := TX11) (N := 4) hx hb hts hin11 hown hK hP 0 rfl rfl 0 (by decide) kf10 (fun _ h9 => h9) rfl dX11_rule_1 ?_
  refine va_get (D := (dC, dI)) (ci := 7) (v := .ref h_now_rules) (C := RX7) (T := TX7) (N := 14) hx hb hts hin7 hown hK hP 1 rfl rfl 3 (by decide) kf92 (fun _ h9 => h9) rfl dX11_rule_4 ?_
  refine lv_iload_n hx hb dX11_rule_7 rfl (lv_at hl 1 rfl) ?_
  refine lv_iload_n hx hb dX11_rule_8 rfl (lv_at hl 2 rfl) ?_
  obtain ⟨r9, M_h_now_rules_9, h9, hf⟩ := bd2_some hf
  have hPc := hP.sub (ws' := (wX6 cyB cyI cyZ cyO h_now_rules M_h_now_rules)) [2] rfl
  have hDc := hD.sub (ws' := (wX6 cyB cyI cyZ cyO h_now_rules M_h_now_rules)) [2] (by decide) rfl
  refine wr_calli (wc := (wX6 cyB cyI cyZ cyO h_now_rules M_h_now_rules)) (wr := ((wX11 cyB cyI cyZ cyO h h_now h_images h_reader h_search) ++ (wX7 cyB cyI cyZ cyO h_now h_now_tape h_now_law h_now_people h_now_rules h_now_cargo h_now_debts h_now_ledger M_h_now))) (w1 := (wX6 cyB cyI cyZ cyO h_now_rules M_h_now_rules_9)) (ws' := ((wX11 cyB cyI cyZ cyO h h_now h_images h_reader h_search) ++ ((wX7 cyB cyI cyZ cyO h_now h_now_tape h_now_law h_now_people h_now_rules h_now_cargo h_now_debts h_now_ledger M_h_now) ++ (wX6 cyB cyI cyZ cyO h_now_rules M_h_now_rules_9)))) hP hD hS hA [2] [0, 1] [0, 1, 2] rfl rfl (by decide) (by decide) rfl (by decide) (va_runV (As := [.int p1, .int p2]) (rest := []) ⟨hx, hb, hml, hown, hts⟩ (c_X6_change l dC dI cyB cyI cyZ cyO h_now_rules _ M_h_now_rules p1 p2 r9 M_h_now_rules_9 h9) (cwV 2 hts gX11_rule_X6_change rfl rfl rfl (by decide +kernel) ⟨Nat.le_of_ble_eq_true rfl, Nat.le_of_ble_eq_true rfl⟩) ⟨PW.blind, va_recv hK hP (ci := 6) (q0 := 2) rfl rfl, fun U hU hW => ⟨rfl, by rw [hU], by rw [hU]; exact hPc, hCx.warm hW, hDc.weaken (fun _ _ _ _ => trivial)⟩⟩ rfl rfl hl.1 rfl (lv_room (Nat.le_of_ble_eq_true rfl)) dX11_rule_9 ⟨Nat.zero_le _, Nat.zero_le _⟩) (fun H locs hP hD hS => ?_)
  have hb12 := Decidable.not_not.mp (if_no hf)
  rw [if_neg (not_not_intro hb12)] at hf
  obtain ⟨hq0, hq1⟩ := pj2 hf
  subst hq0
  subst hq1
  exact W.zret (v := r9) hx hb hr (nar_b hb12) (fun t ht hW => ⟨rfl, by rw [ht]; exact hP, hD, hS.F ht⟩) hS.2.2 dX11_rule_12
set_option maxHeartbeats 4000000 in
set_option maxRecDepth 100000 in
theorem c_X11_give (l : Launch) (dC : Nat → ClassId) (dI : Nat → Nat → Nat) (cyB cyI cyZ cyO : ClassId) (h h_now h_images h_reader h_search h_now_tape h_now_law h_now_people h_now_rules h_now_cargo h_now_debts h_now_ledger h_now_law_action h_now_law_amount h_now_law_tests h_now_law_negated h_now_law_subject h_now_law_sign h_now_law_limit h_now_people_rank h_now_people_widow h_now_people_slips h_now_people_given h_now_people_silver h_now_people_returns h_now_people_rents h_now_people_share h_now_people_rest : Nat) (sz : Nat) (M_h_now : Mem) (M_h_now_law : Mem) (M_h_now_people : Mem) (p1 : Int32) (r : Int32) (R_h_now : Mem) (R_h_now_people : Mem) (hf : f_X11_give M_h_now M_h_now_law M_h_now_people p1 = some (r, R_h_now, R_h_now_people)) : Met l yX11_give wsX11_give ({ frames := 5, cells := 0, slots := 0, locals := 129 } : Room) (PW dC dI cyB cyI cyZ cyO ([.ref h, .int p1] : List Value) ((wX11 cyB cyI cyZ cyO h h_now h_images h_reader h_search) ++ ((wX7 cyB cyI cyZ cyO h_now h_now_tape h_now_law h_now_people h_now_rules h_now_cargo h_now_debts h_now_ledger M_h_now) ++ ((wX3 cyB cyI cyZ cyO h_now_law h_now_law_action h_now_law_amount h_now_law_tests h_now_law_negated h_now_law_subject h_now_law_sign h_now_law_limit M_h_now_law) ++ (wX2 cyB cyI cyZ cyO h_now_people h_now_people_rank h_now_people_widow h_now_people_slips h_now_people_given h_now_people_silver h_now_people_returns h_now_people_rents h_now_people_share h_now_people_rest M_h_now_people)))) sz) (QW dC dI (some (.int r)) ((wX11 cyB cyI cyZ cyO h h_now h_images h_reader h_search) ++ ((wX7 cyB cyI cyZ cyO h_now h_now_tape h_now_law h_now_people h_now_rules h_now_cargo h_now_debts h_now_ledger R_h_now) ++ ((wX3 cyB cyI cyZ cyO h_now_law h_now_law_action h_now_law_amount h_now_law_tests h_now_law_negated h_now_law_subject h_now_law_sign h_now_law_limit M_h_now_law) ++ (wX2 cyB cyI cyZ cyO h_now_people h_now_people_rank h_now_people_widow h_now_people_slips h_now_people_given h_now_people_silver h_now_people_returns h_now_people_rents h_now_people_share h_now_people_rest R_h_now_people)))) (va_A ((wX11 cyB cyI cyZ cyO h h_now h_images h_reader h_search) ++ ((wX7 cyB cyI cyZ cyO h_now h_now_tape h_now_law h_now_people h_now_rules h_now_cargo h_now_debts h_now_ledger M_h_now) ++ ((wX3 cyB cyI cyZ cyO h_now_law h_now_law_action h_now_law_amount h_now_law_tests h_now_law_negated h_now_law_subject h_now_law_sign h_now_law_limit M_h_now_law) ++ (wX2 cyB cyI cyZ cyO h_now_people h_now_people_rank h_now_people_widow h_now_people_slips h_now_people_given h_now_people_silver h_now_people_returns h_now_people_rents h_now_people_share h_now_people_rest M_h_now_people)))) sz)) 0 0 (va_A ((wX11 cyB cyI cyZ cyO h h_now h_images h_reader h_search) ++ ((wX7 cyB cyI cyZ cyO h_now h_now_tape h_now_law h_now_people h_now_rules h_now_cargo h_now_debts h_now_ledger M_h_now) ++ ((wX3 cyB cyI cyZ cyO h_now_law h_now_law_action h_now_law_amount h_now_law_tests h_now_law_negated h_now_law_subject h_now_law_sign h_now_law_limit M_h_now_law) ++ (wX2 cyB cyI cyZ cyO h_now_people h_now_people_rank h_now_people_widow h_now_people_slips h_now_people_given h_now_people_silver h_now_people_returns h_now_people_rents h_now_people_share h_now_people_rest M_h_now_people)))) sz) := by
  refine Met.ofW (cc := cX11_give) (maxL := 2) (ret := (some .boolean)) (by decide) rfl ?_
  intro p e s m args below meth c s₁ B hml hv
  obtain ⟨rfl, hsz, hP, hCx, hD0⟩ := hv
  have hK := hCx.1
  have hN := hCx.2
  have hx := B.exec
  have hb := B.bytes
  have hr := B.returns
  have hts := atoms_spec (ws := wsX11_give) B.pre
  have hown : s.vm.findClass RX11 = some m.cls := findClass_of_methodNamed B.named
  have hlocks := B.notSynchronized
  have hin7 : ∀ w ∈ u_ws RX7 TX7 14, w ∈ wsX11_give := fun w h => List.mem_cons_of_mem _ (List.mem_append_left _ (List.mem_append_left _ (List.mem_append_right _ h)))
  have hin11 : ∀ w ∈ u_ws RX11 TX11 4, w ∈ wsX11_give := fun w h => List.mem_cons_of_mem _ (List.mem_append_left _ (List.mem_append_left _ (List.mem_append_left _ (List.mem_append_right _ h))))
  have kf10 := hts (.fieldLink RX11 10 "HoldSlips" "now" "LHoldSlips$State;") (by decide +kernel)
  have kf102 := hts (.fieldLink RX11 102 "HoldSlips$State" "sailed" "Z") (by decide +kernel)
  have kf106 := hts (.fieldLink RX11 106 "HoldSlips$State" "slipsGiven" "I") (by decide +kernel)
  subst hsz
  have hD := hD0.self (sz := s.heap.size)
  generalize hAe : va_A ((wX11 cyB cyI cyZ cyO h h_now h_images h_reader h_search) ++ ((wX7 cyB cyI cyZ cyO h_now h_now_tape h_now_law h_now_people h_now_rules h_now_cargo h_now_debts h_now_ledger M_h_now) ++ ((wX3 cyB cyI cyZ cyO h_now_law h_now_law_action h_now_law_amount h_now_law_tests h_now_law_negated h_now_law_subject h_now_law_sign h_now_law_limit M_h_now_law) ++ (wX2 cyB cyI cyZ cyO h_now_people h_now_people_rank h_now_people_widow h_now_people_slips h_now_people_given h_now_people_silver h_now_people_returns h_now_people_rents h_now_people_share h_now_people_rest M_h_now_people)))) s.heap.size = A at hD ⊢
  have hA : ∀ q : Nat, s.heap.size ≤ q → A q := fun q h => by rw [← hAe]; exact Or.inr h
  have hS : va_S A s.heap s.heap [] := va_S.rf
  have hl := lv_entry ([.ref h, .int p1] : List Value) (n := 2) (Nat.le_of_ble_eq_true rfl)
  rw [lg_entry_eq]
  generalize (lg_sl ([.ref h, .int p1] : List Value) ++ List.replicate (2 - (lg_sl ([.ref h, .int p1] : List Value)).length) Slot.unset).toArray = ls at hl ⊢
  have hl : lv_has ls 2 [(0, .ref h), (1, .int p1)] := hl
  rw [f_X11_give] at hf
  refine lv_aload_n hx hb dX11_give_0 rfl (lv_at hl 0 rfl) ?_
  refine va_get (D := (dC, dI)) (ci := 11) (v := .ref h_now) (C := RX11) (T := TX11) (N := 4) hx hb hts hin11 hown hK hP 0 rfl rfl 0 (by decide) kf10 (fun _ h9 => h9) rfl dX11_give_1 ?_
  refine va_get (D := (dC, dI)) (ci := 7) (v := .int (M_h_now 10 0)) (C := RX7) (T := TX7) (N := 14) hx hb hts hin7 hown hK hP 1 rfl rfl 10 (by decide) kf102 (fun _ h9 => h9) rfl dX11_give_4 ?_
  refine lv_if_ne (tgt := 31) hx hb dX11_give_7 (by decide) (fun hc7 => ?_) (fun hc7 => ?_)
  · rw [if_neg hc7] at hf
    refine lv_iconst (v := (0 : Int32)) hx hb dX11_give_31 (by decide) ?_
    obtain ⟨hq0, hq1, hq2⟩ := pj3 hf
    subst hq0
    subst hq1
    subst hq2
    exact W.zret (v := (0 : Int32)) hx hb hr rfl (fun t ht hW => ⟨rfl, by rw [ht]; exact hP, hD, hS.F ht⟩) hS.2.2 dX11_give_32
  · rw [if_pos hc7] at hf
    refine lv_aload_n hx hb dX11_give_10 rfl (lv_at hl 0 rfl) ?_
    refine va_get (D := (dC, dI)) (ci := 11) (v := .ref h_now) (C := RX11) (T := TX11) (N := 4) hx hb hts hin11 hown hK hP 0 rfl rfl 0 (by decide) kf10 (fun _ h9 => h9) rfl dX11_give_11 ?_
    refine va_get (D := (dC, dI)) (ci := 7) (v := .int (M_h_now 11 0)) (C := RX7) (T := TX7) (N := 14) hx hb hts hin7 hown hK hP 1 rfl rfl 11 (by decide) kf106 (fun _ h9 => h9) rfl dX11_give_14 ?_
    refine lv_if_gt (tgt := 31) hx hb dX11_give_17 (by decide) (fun hc17 => ?_) (fun hc17 => ?_)
    · rw [if_pos hc17] at hf
      refine lv_iconst (v := (0 : Int32)) hx hb dX11_give_31 (by decide) ?_
      obtain ⟨hq0, hq1, hq2⟩ := pj3 hf
      subst hq0
      subst hq1
      subst hq2
      exact W.zret (v := (0 : Int32)) hx hb hr rfl (fun t ht hW => ⟨rfl, by rw [ht]; exact hP, hD, hS.F ht⟩) hS.2.2 dX11_give_32
    · rw [if_neg hc17] at hf
      refine lv_iload_n hx hb dX11_give_20 rfl (lv_at hl 1 rfl) ?_
      refine lv_iconst (v := (1 : Int32)) hx hb dX11_give_21 (by decide) ?_
      refine lv_sipush (v := (400 : Int32)) hx hb dX11_give_22 (by decide) ?_
      obtain ⟨r25, h25, hf⟩ := bd1_some hf
      have hPc := hP.sub (ws' := ([] : va_W)) [] rfl
      refine ro_calli (va_runS (As := [.int p1, .int (1 : Int32), .int (400 : Int32)]) (rest := []) ⟨hx, hb, hml, hown, hts⟩ (c_X11_within l dC dI cyB cyI cyZ cyO p1 (1 : Int32) (400 : Int32) r25 h25) (va_cwS 3 hts gX11_give_X11_within rfl rfl rfl (by decide +kernel) ⟨Nat.le_of_ble_eq_true rfl, Nat.le_of_ble_eq_true rfl⟩) ⟨PR.blind, fun U hU hW => ⟨rfl, by rw [hU]; exact hPc, hCx.warm hW⟩⟩ rfl rfl hl.1 rfl (lv_room (Nat.le_of_ble_eq_true rfl)) dX11_give_25 ⟨Nat.zero_le _, Nat.zero_le _⟩) ?_
      refine lv_if_ne (tgt := 33) hx hb dX11_give_28 (by decide) (fun hc28 => ?_) (fun hc28 => ?_)
      · rw [if_neg hc28] at hf
        refine lv_aload_n hx hb dX11_give_33 rfl (lv_at hl 0 rfl) ?_
        refine va_get (D := (dC, dI)) (ci := 11) (v := .ref h_now) (C := RX11) (T := TX11) (N := 4) hx hb hts hin11 hown hK hP 0 rfl rfl 0 (by decide) kf10 (fun _ h9 => h9) rfl dX11_give_34 ?_
        refine lv_iload_n hx hb dX11_give_37 rfl (lv_at hl 1 rfl) ?_
        obtain ⟨r38, M_h_now_38, M_h_now_people_38, h38, hf⟩ := bd3_some hf
        have hPc := hP.sub (ws' := ((wX7 cyB cyI cyZ cyO h_now h_now_tape h_now_law h_now_people h_now_rules h_now_cargo h_now_debts h_now_ledger M_h_now) ++ ((wX3 cyB cyI cyZ cyO h_now_law h_now_law_action h_now_law_amount h_now_law_tests h_now_law_negated h_now_law_subject h_now_law_sign h_now_law_limit M_h_now_law) ++ (wX2 cyB cyI cyZ cyO h_now_people h_now_people_rank h_now_people_widow h_now_people_slips h_now_people_given h_now_people_silver h_now_people_returns h_now_people_rents h_now_people_share h_now_people_rest M_h_now_people)))) [1, 2, 3, 4, 5, 6, 7, 8, 9, 10, 11, 12, 13, 14, 15, 16, 17, 18, 19] rfl
        have hDc := hD.sub (ws' := ((wX7 cyB cyI cyZ cyO h_now h_now_tape h_now_law h_now_people h_now_rules h_now_cargo h_now_debts h_now_ledger M_h_now) ++ ((wX3 cyB cyI cyZ cyO h_now_law h_now_law_action h_now_law_amount h_now_law_tests h_now_law_negated h_now_law_subject h_now_law_sign h_now_law_limit M_h_now_law) ++ (wX2 cyB cyI cyZ cyO h_now_people h_now_people_rank h_now_people_widow h_now_people_slips h_now_people_given h_now_people_silver h_now_people_returns h_now_people_rents h_now_people_share h_now_people_rest M_h_now_people)))) [1, 2, 3, 4, 5, 6, 7, 8, 9, 10, 11, 12, 13, 14, 15, 16, 17, 18, 19] (by decide) rfl
        refine wr_calli (wc := ((wX7 cyB cyI cyZ cyO h_now h_now_tape h_now_law h_now_people h_now_rules h_now_cargo h_now_debts h_now_ledger M_h_now) ++ ((wX3 cyB cyI cyZ cyO h_now_law h_now_law_action h_now_law_amount h_now_law_tests h_now_law_negated h_now_law_subject h_now_law_sign h_now_law_limit M_h_now_law) ++ (wX2 cyB cyI cyZ cyO h_now_people h_now_people_rank h_now_people_widow h_now_people_slips h_now_people_given h_now_people_silver h_now_people_returns h_now_people_rents h_now_people_share h_now_people_rest M_h_now_people)))) (wr := (wX11 cyB cyI cyZ cyO h h_now h_images h_reader h_search)) (w1 := ((wX7 cyB cyI cyZ cyO h_now h_now_tape h_now_law h_now_people h_now_rules h_now_cargo h_now_debts h_now_ledger M_h_now_38) ++ ((wX3 cyB cyI cyZ cyO h_now_law h_now_law_action h_now_law_amount h_now_law_tests h_now_law_negated h_now_law_subject h_now_law_sign h_now_law_limit M_h_now_law) ++ (wX2 cyB cyI cyZ cyO h_now_people h_now_people_rank h_now_people_widow h_now_people_slips h_now_people_given h_now_people_silver h_now_people_returns h_now_people_rents h_now_people_share h_now_people_rest M_h_now_people_38)))) (ws' := ((wX11 cyB cyI cyZ cyO h h_now h_images h_reader h_search) ++ ((wX7 cyB cyI cyZ cyO h_now h_now_tape h_now_law h_now_people h_now_rules h_now_cargo h_now_debts h_now_ledger M_h_now_38) ++ ((wX3 cyB cyI cyZ cyO h_now_law h_now_law_action h_now_law_amount h_now_law_tests h_now_law_negated h_now_law_subject h_now_law_sign h_now_law_limit M_h_now_law) ++ (wX2 cyB cyI cyZ cyO h_now_people h_now_people_rank h_now_people_widow h_now_people_slips h_now_people_given h_now_people_silver h_now_people_returns h_now_people_rents h_now_people_share h_now_people_rest M_h_now_people_38))))) hP hD hS hA [1, 2, 3, 4, 5, 6, 7, 8, 9, 10, 11, 12, 13, 14, 15, 16, 17, 18, 19] [0] [0, 1, 2, 3, 4, 5, 6, 7, 8, 9, 10, 11, 12, 13, 14, 15, 16, 17, 18, 19] rfl rfl (by decide) (by decide) rfl (by decide) (va_runV (As := [.int p1]) (rest := []) ⟨hx, hb, hml, hown, hts⟩ (c_X7_shareOut l dC dI cyB cyI cyZ cyO h_now h_now_tape h_now_law h_now_people h_now_rules h_now_cargo h_now_debts h_now_ledger h_now_law_action h_now_law_amount h_now_law_tests h_now_law_negated h_now_law_subject h_now_law_sign h_now_law_limit h_now_people_rank h_now_people_widow h_now_people_slips h_now_people_given h_now_people_silver h_now_people_returns h_now_people_rents h_now_people_share h_now_people_rest _ M_h_now M_h_now_law M_h_now_people p1 r38 M_h_now_38 M_h_now_people_38 h38) (cwV 1 hts gX11_give_X7_shareOut rfl rfl rfl (by decide +kernel) ⟨Nat.le_of_ble_eq_true rfl, Nat.le_of_ble_eq_true rfl⟩) ⟨PW.blind, va_recv hK hP (ci := 7) (q0 := 1) rfl rfl, fun U hU hW => ⟨rfl, by rw [hU], by rw [hU]; exact hPc, hCx.warm hW, hDc.weaken (fun _ _ _ _ => trivial)⟩⟩ rfl rfl hl.1 rfl (lv_room (Nat.le_of_ble_eq_true rfl)) dX11_give_38 ⟨Nat.zero_le _, Nat.zero_le _⟩) (fun H locs hP hD hS => ?_)
        have hb41 := Decidable.not_not.mp (if_no hf)
        rw [if_neg (not_not_intro hb41)] at hf
        obtain ⟨hq0, hq1, hq2⟩ := pj3 hf
        subst hq0
        subst hq1
        subst hq2
        exact W.zret (v := r38) hx hb hr (nar_b hb41) (fun t ht hW => ⟨rfl, by rw [ht]; exact hP, hD, hS.F ht⟩) hS.2.2 dX11_give_41
      · rw [if_pos hc28] at hf
        refine lv_iconst (v := (0 : Int32)) hx hb dX11_give_31 (by decide) ?_
        obtain ⟨hq0, hq1, hq2⟩ := pj3 hf
        subst hq0
        subst hq1
        subst hq2
        exact W.zret (v := (0 : Int32)) hx hb hr rfl (fun t ht hW => ⟨rfl, by rw [ht]; exact hP, hD, hS.F ht⟩) hS.2.2 dX11_give_32
set_option maxHeartbeats 4000000 in
set_option maxRecDepth 100000 in
theorem c_X11_sell (l : Launch) (dC : Nat → ClassId) (dI : Nat → Nat → Nat) (cyB cyI cyZ cyO : ClassId) (h h_now h_images h_reader h_search h_now_tape h_now_law h_now_people h_now_rules h_now_cargo h_now_debts h_now_ledger h_now_cargo_owner h_now_cargo_size h_now_cargo_weight h_now_cargo_worth h_now_cargo_level h_now_cargo_holder h_now_cargo_side h_now_cargo_planned h_now_people_rank h_now_people_widow h_now_people_slips h_now_people_given h_now_people_silver h_now_people_returns h_now_people_rents h_now_people_share h_now_people_rest : Nat) (sz : Nat) (M_h_now : Mem) (M_h_now_cargo : Mem) (M_h_now_people : Mem) (p1 : Int32) (p2 : Int32) (p3 : Int32) (p4 : Int32) (r : Int32) (R_h_now_people : Mem) (hf : f_X11_sell M_h_now M_h_now_cargo M_h_now_people p1 p2 p3 p4 = some (r, R_h_now_people)) : Met l yX11_sell wsX11_sell ({ frames := 3, cells := 0, slots := 0, locals := 65 } : Room) (PW dC dI cyB cyI cyZ cyO ([.ref h, .int p1, .int p2, .int p3, .int p4] : List Value) ((wX11 cyB cyI cyZ cyO h h_now h_images h_reader h_search) ++ ((wX7 cyB cyI cyZ cyO h_now h_now_tape h_now_law h_now_people h_now_rules h_now_cargo h_now_debts h_now_ledger M_h_now) ++ ((wX0 cyB cyI cyZ cyO h_now_cargo h_now_cargo_owner h_now_cargo_size h_now_cargo_weight h_now_cargo_worth h_now_cargo_level h_now_cargo_holder h_now_cargo_side h_now_cargo_planned M_h_now_cargo) ++ (wX2 cyB cyI cyZ cyO h_now_people h_now_people_rank h_now_people_widow h_now_people_slips h_now_people_given h_now_people_silver h_now_people_returns h_now_people_rents h_now_people_share h_now_people_rest M_h_now_people)))) sz) (QW dC dI (some (.int r)) ((wX11 cyB cyI cyZ cyO h h_now h_images h_reader h_search) ++ ((wX7 cyB cyI cyZ cyO h_now h_now_tape h_now_law h_now_people h_now_rules h_now_cargo h_now_debts h_now_ledger M_h_now) ++ ((wX0 cyB cyI cyZ cyO h_now_cargo h_now_cargo_owner h_now_cargo_size h_now_cargo_weight h_now_cargo_worth h_now_cargo_level h_now_cargo_holder h_now_cargo_side h_now_cargo_planned M_h_now_cargo) ++ (wX2 cyB cyI cyZ cyO h_now_people h_now_people_rank h_now_people_widow h_now_people_slips h_now_people_given h_now_people_silver h_now_people_returns h_now_people_rents h_now_people_share h_now_people_rest R_h_now_people)))) (va_A ((wX11 cyB cyI cyZ cyO h h_now h_images h_reader h_search) ++ ((wX7 cyB cyI cyZ cyO h_now h_now_tape h_now_law h_now_people h_now_rules h_now_cargo h_now_debts h_now_ledger M_h_now) ++ ((wX0 cyB cyI cyZ cyO h_now_cargo h_now_cargo_owner h_now_cargo_size h_now_cargo_weight h_now_cargo_worth h_now_cargo_level h_now_cargo_holder h_now_cargo_side h_now_cargo_planned M_h_now_cargo) ++ (wX2 cyB cyI cyZ cyO h_now_people h_now_people_rank h_now_people_widow h_now_people_slips h_now_people_given h_now_people_silver h_now_people_returns h_now_people_rents h_now_people_share h_now_people_rest M_h_now_people)))) sz)) 0 0 (va_A ((wX11 cyB cyI cyZ cyO h h_now h_images h_reader h_search) ++ ((wX7 cyB cyI cyZ cyO h_now h_now_tape h_now_law h_now_people h_now_rules h_now_cargo h_now_debts h_now_ledger M_h_now) ++ ((wX0 cyB cyI cyZ cyO h_now_cargo h_now_cargo_owner h_now_cargo_size h_now_cargo_weight h_now_cargo_worth h_now_cargo_level h_now_cargo_holder h_now_cargo_side h_now_cargo_planned M_h_now_cargo) ++ (wX2 cyB cyI cyZ cyO h_now_people h_now_people_rank h_now_people_widow h_now_people_slips h_now_people_given h_now_people_silver h_now_people_returns h_now_people_rents h_now_people_share h_now_people_rest M_h_now_people)))) sz) := by
  refine Met.ofW (cc := cX11_sell) (maxL := 5) (ret := (some .boolean)) (by decide) rfl ?_
  intro p e s m args below meth c s₁ B hml hv
  obtain ⟨rfl, hsz, hP, hCx, hD0⟩ := hv
  have hK := hCx.1
  have hN := hCx.2
  have hx := B.exec
  have hb := B.bytes
  have hr := B.returns
  have hts := atoms_spec (ws := wsX11_sell) B.pre
  have hown : s.vm.findClass RX11 = some m.cls := findClass_of_methodNamed B.named
  have hlocks := B.notSynchronized
  have hin2 : ∀ w ∈ u_ws RX2 TX2 10, w ∈ wsX11_sell := fun w h => List.mem_cons_of_mem _ (List.mem_append_left _ (List.mem_append_right _ h))
  have hin7 : ∀ w ∈ u_ws RX7 TX7 14, w ∈ wsX11_sell := fun w h => List.mem_cons_of_mem _ (List.mem_append_left _ (List.mem_append_left _ (List.mem_append_right _ h)))
  have hin11 : ∀ w ∈ u_ws RX11 TX11 4, w ∈ wsX11_sell := fun w h => List.mem_cons_of_mem _ (List.mem_append_left _ (List.mem_append_left _ (List.mem_append_left _ (List.mem_append_right _ h))))
  have kf10 := hts (.fieldLink RX11 10 "HoldSlips" "now" "LHoldSlips$State;") (by decide +kernel)
  have kf82 := hts (.fieldLink RX11 82 "HoldSlips$State" "people" "LHoldSlips$Citizens;") (by decide +kernel)
  have kf102 := hts (.fieldLink RX11 102 "HoldSlips$State" "sailed" "Z") (by decide +kernel)
  have kf120 := hts (.fieldLink RX11 120 "HoldSlips$Citizens" "slips" "[I") (by decide +kernel)
  subst hsz
  have hD := hD0.self (sz := s.heap.size)
  generalize hAe : va_A ((wX11 cyB cyI cyZ cyO h h_now h_images h_reader h_search) ++ ((wX7 cyB cyI cyZ cyO h_now h_now_tape h_now_law h_now_people h_now_rules h_now_cargo h_now_debts h_now_ledger M_h_now) ++ ((wX0 cyB cyI cyZ cyO h_now_cargo h_now_cargo_owner h_now_cargo_size h_now_cargo_weight h_now_cargo_worth h_now_cargo_level h_now_cargo_holder h_now_cargo_side h_now_cargo_planned M_h_now_cargo) ++ (wX2 cyB cyI cyZ cyO h_now_people h_now_people_rank h_now_people_widow h_now_people_slips h_now_people_given h_now_people_silver h_now_people_returns h_now_people_rents h_now_people_share h_now_people_rest M_h_now_people)))) s.heap.size = A at hD ⊢
  have hA : ∀ q : Nat, s.heap.size ≤ q → A q := fun q h => by rw [← hAe]; exact Or.inr h
  have hS : va_S A s.heap s.heap [] := va_S.rf
  have hl := lv_entry ([.ref h, .int p1, .int p2, .int p3, .int p4] : List Value) (n := 5) (Nat.le_of_ble_eq_true rfl)
  rw [lg_entry_eq]
  generalize (lg_sl ([.ref h, .int p1, .int p2, .int p3, .int p4] : List Value) ++ List.replicate (5 - (lg_sl ([.ref h, .int p1, .int p2, .int p3, .int p4] : List Value)).length) Slot.unset).toArray = ls at hl ⊢
  have hl : lv_has ls 5 [(0, .ref h), (1, .int p1), (2, .int p2), (3, .int p3), (4, .int p4)] := hl
  rw [f_X11_sell] at hf
  refine lv_aload_n hx hb dX11_sell_0 rfl (lv_at hl 0 rfl) ?_
  refine va_get (D := (dC, dI)) (ci := 11) (v := .ref h_now) (C := RX11) (T := TX11) (N := 4) hx hb hts hin11 hown hK hP 0 rfl rfl 0 (by decide) kf10 (fun _ h9 => h9) rfl dX11_sell_1 ?_
  refine va_get (D := (dC, dI)) (ci := 7) (v := .int (M_h_now 10 0)) (C := RX7) (T := TX7) (N := 14) hx hb hts hin7 hown hK hP 1 rfl rfl 10 (by decide) kf102 (fun _ h9 => h9) rfl dX11_sell_4 ?_
  refine lv_if_ne (tgt := 37) hx hb dX11_sell_7 (by decide) (fun hc7 => ?_) (fun hc7 => ?_)
  · rw [if_neg hc7] at hf
    refine lv_iconst (v := (0 : Int32)) hx hb dX11_sell_37 (by decide) ?_
    obtain ⟨hq0, hq1⟩ := pj2 hf
    subst hq0
    subst hq1
    exact W.zret (v := (0 : Int32)) hx hb hr rfl (fun t ht hW => ⟨rfl, by rw [ht]; exact hP, hD, hS.F ht⟩) hS.2.2 dX11_sell_38
  · rw [if_pos hc7] at hf
    refine lv_aload_n hx hb dX11_sell_10 rfl (lv_at hl 0 rfl) ?_
    refine va_get (D := (dC, dI)) (ci := 11) (v := .ref h_now) (C := RX11) (T := TX11) (N := 4) hx hb hts hin11 hown hK hP 0 rfl rfl 0 (by decide) kf10 (fun _ h9 => h9) rfl dX11_sell_11 ?_
    refine va_get (D := (dC, dI)) (ci := 7) (v := .ref h_now_people) (C := RX7) (T := TX7) (N := 14) hx hb hts hin7 hown hK hP 1 rfl rfl 2 (by decide) kf82 (fun _ h9 => h9) rfl dX11_sell_14 ?_
    refine lv_iload_n hx hb dX11_sell_17 rfl (lv_at hl 1 rfl) ?_
    refine lv_iload_n hx hb dX11_sell_18 rfl (lv_at hl 2 rfl) ?_
    obtain ⟨r19, h19, hf⟩ := bd1_some hf
    have hPc := hP.sub (ws' := (wX2 cyB cyI cyZ cyO h_now_people h_now_people_rank h_now_people_widow h_now_people_slips h_now_people_given h_now_people_silver h_now_people_returns h_now_people_rents h_now_people_share h_now_people_rest M_h_now_people)) [11, 12, 13, 14, 15, 16, 17, 18, 19, 20] rfl
    refine ro_calli (va_runV (As := [.int p1, .int p2]) (rest := []) ⟨hx, hb, hml, hown, hts⟩ (c_X2_areTwo l dC dI cyB cyI cyZ cyO h_now_people h_now_people_rank h_now_people_widow h_now_people_slips h_now_people_given h_now_people_silver h_now_people_returns h_now_people_rents h_now_people_share h_now_people_rest M_h_now_people p1 p2 r19 h19) (cwV 2 hts gX11_sell_X2_areTwo rfl rfl rfl (by decide +kernel) ⟨Nat.le_of_ble_eq_true rfl, Nat.le_of_ble_eq_true rfl⟩) ⟨PR.blind, va_recv hK hP (ci := 2) (q0 := 11) rfl rfl, fun U hU hW => ⟨rfl, by rw [hU]; exact hPc, hCx.warm hW⟩⟩ rfl rfl hl.1 rfl (lv_room (Nat.le_of_ble_eq_true rfl)) dX11_sell_19 ⟨Nat.zero_le _, Nat.zero_le _⟩) ?_
    refine lv_if_eq (tgt := 37) hx hb dX11_sell_22 (by decide) (fun hc22 => ?_) (fun hc22 => ?_)
    · rw [if_pos hc22] at hf
      refine lv_iconst (v := (0 : Int32)) hx hb dX11_sell_37 (by decide) ?_
      obtain ⟨hq0, hq1⟩ := pj2 hf
      subst hq0
      subst hq1
      exact W.zret (v := (0 : Int32)) hx hb hr rfl (fun t ht hW => ⟨rfl, by rw [ht]; exact hP, hD, hS.F ht⟩) hS.2.2 dX11_sell_38
    · rw [if_neg hc22] at hf
      refine lv_iload hx hb dX11_sell_25 (lv_at hl 4 rfl) ?_
      refine lv_iconst (v := (0 : Int32)) hx hb dX11_sell_27 (by decide) ?_
      refine lv_sipush (v := (10000 : Int32)) hx hb dX11_sell_28 (by decide) ?_
      obtain ⟨r31, h31, hf⟩ := bd1_some hf
      have hPc := hP.sub (ws' := ([] : va_W)) [] rfl
      refine ro_calli (va_runS (As := [.int p4, .int (0 : Int32), .int (10000 : Int32)]) (rest := []) ⟨hx, hb, hml, hown, hts⟩ (c_X11_within l dC dI cyB cyI cyZ cyO p4 (0 : Int32) (10000 : Int32) r31 h31) (va_cwS 3 hts gX11_sell_X11_within rfl rfl rfl (by decide +kernel) ⟨Nat.le_of_ble_eq_true rfl, Nat.le_of_ble_eq_true rfl⟩) ⟨PR.blind, fun U hU hW => ⟨rfl, by rw [hU]; exact hPc, hCx.warm hW⟩⟩ rfl rfl hl.1 rfl (lv_room (Nat.le_of_ble_eq_true rfl)) dX11_sell_31 ⟨Nat.zero_le _, Nat.zero_le _⟩) ?_
      refine lv_if_ne (tgt := 39) hx hb dX11_sell_34 (by decide) (fun hc34 => ?_) (fun hc34 => ?_)
      · rw [if_neg hc34] at hf
        refine lv_iload_n hx hb dX11_sell_39 rfl (lv_at hl 3 rfl) ?_
        refine lv_iconst (v := (1 : Int32)) hx hb dX11_sell_40 (by decide) ?_
        refine lv_aload_n hx hb dX11_sell_41 rfl (lv_at hl 0 rfl) ?_
        refine va_get (D := (dC, dI)) (ci := 11) (v := .ref h_now) (C := RX11) (T := TX11) (N := 4) hx hb hts hin11 hown hK hP 0 rfl rfl 0 (by decide) kf10 (fun _ h9 => h9) rfl dX11_sell_42 ?_
        refine lv_iload_n hx hb dX11_sell_45 rfl (lv_at hl 1 rfl) ?_
        obtain ⟨r46, h46, hf⟩ := bd1_some hf
        have hPc := hP.sub (ws' := ((wX7 cyB cyI cyZ cyO h_now h_now_tape h_now_law h_now_people h_now_rules h_now_cargo h_now_debts h_now_ledger M_h_now) ++ ((wX0 cyB cyI cyZ cyO h_now_cargo h_now_cargo_owner h_now_cargo_size h_now_cargo_weight h_now_cargo_worth h_now_cargo_level h_now_cargo_holder h_now_cargo_side h_now_cargo_planned M_h_now_cargo) ++ (wX2 cyB cyI cyZ cyO h_now_people h_now_people_rank h_now_people_widow h_now_people_slips h_now_people_given h_now_people_silver h_now_people_returns h_now_people_rents h_now_people_share h_now_people_rest M_h_now_people)))) [1, 2, 3, 4, 5, 6, 7, 8, 9, 10, 11, 12, 13, 14, 15, 16, 17, 18, 19, 20] rfl
        refine ro_calli (va_runV (As := [.int p1]) (rest := [.int (1 : Int32), .int p3]) ⟨hx, hb, hml, hown, hts⟩ (c_X7_freeSlips l dC dI cyB cyI cyZ cyO h_now h_now_tape h_now_law h_now_people h_now_rules h_now_cargo h_now_debts h_now_ledger h_now_cargo_owner h_now_cargo_size h_now_cargo_weight h_now_cargo_worth h_now_cargo_level h_now_cargo_holder h_now_cargo_side h_now_cargo_planned h_now_people_rank h_now_people_widow h_now_people_slips h_now_people_given h_now_people_silver h_now_people_returns h_now_people_rents h_now_people_share h_now_people_rest M_h_now M_h_now_cargo M_h_now_people p1 r46 h46) (cwV 1 hts gX11_sell_X7_freeSlips rfl rfl rfl (by decide +kernel) ⟨Nat.le_of_ble_eq_true rfl, Nat.le_of_ble_eq_true rfl⟩) ⟨PR.blind, va_recv hK hP (ci := 7) (q0 := 1) rfl rfl, fun U hU hW => ⟨rfl, by rw [hU]; exact hPc, hCx.warm hW⟩⟩ rfl rfl hl.1 rfl (lv_room (Nat.le_of_ble_eq_true rfl)) dX11_sell_46 ⟨Nat.zero_le _, Nat.zero_le _⟩) ?_
        obtain ⟨r49, h49, hf⟩ := bd1_some hf
        have hPc := hP.sub (ws' := ([] : va_W)) [] rfl
        refine ro_calli (va_runS (As := [.int p3, .int (1 : Int32), .int r46]) (rest := []) ⟨hx, hb, hml, hown, hts⟩ (c_X11_within l dC dI cyB cyI cyZ cyO p3 (1 : Int32) r46 r49 h49) (va_cwS 3 hts gX11_sell_X11_within rfl rfl rfl (by decide +kernel) ⟨Nat.le_of_ble_eq_true rfl, Nat.le_of_ble_eq_true rfl⟩) ⟨PR.blind, fun U hU hW => ⟨rfl, by rw [hU]; exact hPc, hCx.warm hW⟩⟩ rfl rfl hl.1 rfl (lv_room (Nat.le_of_ble_eq_true rfl)) dX11_sell_49 ⟨Nat.zero_le _, Nat.zero_le _⟩) ?_
        refine lv_if_ne (tgt := 57) hx hb dX11_sell_52 (by decide) (fun hc52 => ?_) (fun hc52 => ?_)
        · rw [if_neg hc52] at hf
          refine lv_aload_n hx hb dX11_sell_57 rfl (lv_at hl 0 rfl) ?_
          refine va_get (D := (dC, dI)) (ci := 11) (v := .ref h_now) (C := RX11) (T := TX11) (N := 4) hx hb hts hin11 hown hK hP 0 rfl rfl 0 (by decide) kf10 (fun _ h9 => h9) rfl dX11_sell_58 ?_
          refine va_get (D := (dC, dI)) (ci := 7) (v := .ref h_now_people) (C := RX7) (T := TX7) (N := 14) hx hb hts hin7 hown hK hP 1 rfl rfl 2 (by decide) kf82 (fun _ h9 => h9) rfl dX11_sell_61 ?_
          refine va_get (D := (dC, dI)) (ci := 2) (v := .ref h_now_people_slips) (C := RX2) (T := TX2) (N := 10) hx hb hts hin2 hown hK hP 11 rfl rfl 3 (by decide) kf120 (fun _ h9 => h9) rfl dX11_sell_64 ?_
          refine lv_iload_n hx hb dX11_sell_67 rfl (lv_at hl 1 rfl) ?_
          refine lv_dup2_11 hx hb dX11_sell_68 rfl rfl ?_
          have hi69 := if_no hf
          rw [if_neg hi69] at hf
          refine va_iald hx hb hK hP 14 1 rfl rfl hi69 dX11_sell_69 ?_
          refine lv_iload_n hx hb dX11_sell_70 rfl (lv_at hl 3 rfl) ?_
          refine lv_isub hx hb dX11_sell_71 ?_
          refine va_iast hx hb hK hP hD hS 14 1 rfl rfl hi69 dX11_sell_72 (fun H locs hP hD hS => ?_)
          obtain ⟨M_h_now_people_72, eM_h_now_people_72, hf⟩ := wr_some hf
          have hP : va_P (dC, dI) vwCl ((wX11 cyB cyI cyZ cyO h h_now h_images h_reader h_search) ++ ((wX7 cyB cyI cyZ cyO h_now h_now_tape h_now_law h_now_people h_now_rules h_now_cargo h_now_debts h_now_ledger M_h_now) ++ ((wX0 cyB cyI cyZ cyO h_now_cargo h_now_cargo_owner h_now_cargo_size h_now_cargo_weight h_now_cargo_worth h_now_cargo_level h_now_cargo_holder h_now_cargo_side h_now_cargo_planned M_h_now_cargo) ++ (wX2 cyB cyI cyZ cyO h_now_people h_now_people_rank h_now_people_widow h_now_people_slips h_now_people_given h_now_people_silver h_now_people_returns h_now_people_rents h_now_people_share h_now_people_rest M_h_now_people_72)))) H := by rw [eM_h_now_people_72]; exact hP
          have hD : va_D A ((wX11 cyB cyI cyZ cyO h h_now h_images h_reader h_search) ++ ((wX7 cyB cyI cyZ cyO h_now h_now_tape h_now_law h_now_people h_now_rules h_now_cargo h_now_debts h_now_ledger M_h_now) ++ ((wX0 cyB cyI cyZ cyO h_now_cargo h_now_cargo_owner h_now_cargo_size h_now_cargo_weight h_now_cargo_worth h_now_cargo_level h_now_cargo_holder h_now_cargo_side h_now_cargo_planned M_h_now_cargo) ++ (wX2 cyB cyI cyZ cyO h_now_people h_now_people_rank h_now_people_widow h_now_people_slips h_now_people_given h_now_people_silver h_now_people_returns h_now_people_rents h_now_people_share h_now_people_rest M_h_now_people_72)))) := by rw [eM_h_now_people_72]; exact hD
          refine lv_aload_n hx hb dX11_sell_73 rfl (lv_at hl 0 rfl) ?_
          refine va_get (D := (dC, dI)) (ci := 11) (v := .ref h_now) (C := RX11) (T := TX11) (N := 4) hx hb hts hin11 hown hK hP 0 rfl rfl 0 (by decide) kf10 (fun _ h9 => h9) rfl dX11_sell_74 ?_
          refine va_get (D := (dC, dI)) (ci := 7) (v := .ref h_now_people) (C := RX7) (T := TX7) (N := 14) hx hb hts hin7 hown hK hP 1 rfl rfl 2 (by decide) kf82 (fun _ h9 => h9) rfl dX11_sell_77 ?_
          refine va_get (D := (dC, dI)) (ci := 2) (v := .ref h_now_people_slips) (C := RX2) (T := TX2) (N := 10) hx hb hts hin2 hown hK hP 11 rfl rfl 3 (by decide) kf120 (fun _ h9 => h9) rfl dX11_sell_80 ?_
          refine lv_iload_n hx hb dX11_sell_83 rfl (lv_at hl 2 rfl) ?_
          refine lv_dup2_11 hx hb dX11_sell_84 rfl rfl ?_
          have hi85 := if_no hf
          rw [if_neg hi85] at hf
          refine va_iald hx hb hK hP 14 1 rfl rfl hi85 dX11_sell_85 ?_
          refine lv_iload_n hx hb dX11_sell_86 rfl (lv_at hl 3 rfl) ?_
          refine lv_iadd hx hb dX11_sell_87 ?_
          refine va_iast hx hb hK hP hD hS 14 1 rfl rfl hi85 dX11_sell_88 (fun H locs hP hD hS => ?_)
          obtain ⟨M_h_now_people_88, eM_h_now_people_88, hf⟩ := wr_some hf
          have hP : va_P (dC, dI) vwCl ((wX11 cyB cyI cyZ cyO h h_now h_images h_reader h_search) ++ ((wX7 cyB cyI cyZ cyO h_now h_now_tape h_now_law h_now_people h_now_rules h_now_cargo h_now_debts h_now_ledger M_h_now) ++ ((wX0 cyB cyI cyZ cyO h_now_cargo h_now_cargo_owner h_now_cargo_size h_now_cargo_weight h_now_cargo_worth h_now_cargo_level h_now_cargo_holder h_now_cargo_side h_now_cargo_planned M_h_now_cargo) ++ (wX2 cyB cyI cyZ cyO h_now_people h_now_people_rank h_now_people_widow h_now_people_slips h_now_people_given h_now_people_silver h_now_people_returns h_now_people_rents h_now_people_share h_now_people_rest M_h_now_people_88)))) H := by rw [eM_h_now_people_88]; exact hP
          have hD : va_D A ((wX11 cyB cyI cyZ cyO h h_now h_images h_reader h_search) ++ ((wX7 cyB cyI cyZ cyO h_now h_now_tape h_now_law h_now_people h_now_rules h_now_cargo h_now_debts h_now_ledger M_h_now) ++ ((wX0 cyB cyI cyZ cyO h_now_cargo h_now_cargo_owner h_now_cargo_size h_now_cargo_weight h_now_cargo_worth h_now_cargo_level h_now_cargo_holder h_now_cargo_side h_now_cargo_planned M_h_now_cargo) ++ (wX2 cyB cyI cyZ cyO h_now_people h_now_people_rank h_now_people_widow h_now_people_slips h_now_people_given h_now_people_silver h_now_people_returns h_now_people_rents h_now_people_share h_now_people_rest M_h_now_people_88)))) := by rw [eM_h_now_people_88]; exact hD
          refine lv_aload_n hx hb dX11_sell_89 rfl (lv_at hl 0 rfl) ?_
          refine va_get (D := (dC, dI)) (ci := 11) (v := .ref h_now) (C := RX11) (T := TX11) (N := 4) hx hb hts hin11 hown hK hP 0 rfl rfl 0 (by decide) kf10 (fun _ h9 => h9) rfl dX11_sell_90 ?_
          refine va_get (D := (dC, dI)) (ci := 7) (v := .ref h_now_people) (C := RX7) (T := TX7) (N := 14) hx hb hts hin7 hown hK hP 1 rfl rfl 2 (by decide) kf82 (fun _ h9 => h9) rfl dX11_sell_93 ?_
          refine lv_iload_n hx hb dX11_sell_96 rfl (lv_at hl 2 rfl) ?_
          refine lv_iload_n hx hb dX11_sell_97 rfl (lv_at hl 1 rfl) ?_
          refine lv_iload hx hb dX11_sell_98 (lv_at hl 4 rfl) ?_
          obtain ⟨M_h_now_people_100, h100, hf⟩ := bd1_some hf
          have hPc := hP.sub (ws' := (wX2 cyB cyI cyZ cyO h_now_people h_now_people_rank h_now_people_widow h_now_people_slips h_now_people_given h_now_people_silver h_now_people_returns h_now_people_rents h_now_people_share h_now_people_rest M_h_now_people_88)) [11, 12, 13, 14, 15, 16, 17, 18, 19, 20] rfl
          have hDc := hD.sub (ws' := (wX2 cyB cyI cyZ cyO h_now_people h_now_people_rank h_now_people_widow h_now_people_slips h_now_people_given h_now_people_silver h_now_people_returns h_now_people_rents h_now_people_share h_now_people_rest M_h_now_people_88)) [11, 12, 13, 14, 15, 16, 17, 18, 19, 20] (by decide) rfl
          refine wr_callv (wc := (wX2 cyB cyI cyZ cyO h_now_people h_now_people_rank h_now_people_widow h_now_people_slips h_now_people_given h_now_people_silver h_now_people_returns h_now_people_rents h_now_people_share h_now_people_rest M_h_now_people_88)) (wr := ((wX11 cyB cyI cyZ cyO h h_now h_images h_reader h_search) ++ ((wX7 cyB cyI cyZ cyO h_now h_now_tape h_now_law h_now_people h_now_rules h_now_cargo h_now_debts h_now_ledger M_h_now) ++ (wX0 cyB cyI cyZ cyO h_now_cargo h_now_cargo_owner h_now_cargo_size h_now_cargo_weight h_now_cargo_worth h_now_cargo_level h_now_cargo_holder h_now_cargo_side h_now_cargo_planned M_h_now_cargo)))) (w1 := (wX2 cyB cyI cyZ cyO h_now_people h_now_people_rank h_now_people_widow h_now_people_slips h_now_people_given h_now_people_silver h_now_people_returns h_now_people_rents h_now_people_share h_now_people_rest M_h_now_people_100)) (ws' := ((wX11 cyB cyI cyZ cyO h h_now h_images h_reader h_search) ++ ((wX7 cyB cyI cyZ cyO h_now h_now_tape h_now_law h_now_people h_now_rules h_now_cargo h_now_debts h_now_ledger M_h_now) ++ ((wX0 cyB cyI cyZ cyO h_now_cargo h_now_cargo_owner h_now_cargo_size h_now_cargo_weight h_now_cargo_worth h_now_cargo_level h_now_cargo_holder h_now_cargo_side h_now_cargo_planned M_h_now_cargo) ++ (wX2 cyB cyI cyZ cyO h_now_people h_now_people_rank h_now_people_widow h_now_people_slips h_now_people_given h_now_people_silver h_now_people_returns h_now_people_rents h_now_people_share h_now_people_rest M_h_now_people_100))))) hP hD hS hA [11, 12, 13, 14, 15, 16, 17, 18, 19, 20] [0, 1, 2, 3, 4, 5, 6, 7, 8, 9, 10] [0, 1, 2, 3, 4, 5, 6, 7, 8, 9, 10, 11, 12, 13, 14, 15, 16, 17, 18, 19, 20] rfl rfl (by decide) (by decide) rfl (by decide) (va_runV (As := [.int p2, .int p1, .int p4]) (rest := []) ⟨hx, hb, hml, hown, hts⟩ (c_X2_pay l dC dI cyB cyI cyZ cyO h_now_people h_now_people_rank h_now_people_widow h_now_people_slips h_now_people_given h_now_people_silver h_now_people_returns h_now_people_rents h_now_people_share h_now_people_rest _ M_h_now_people_88 p2 p1 p4 M_h_now_people_100 h100) (cwV 3 hts gX11_sell_X2_pay rfl rfl rfl (by decide +kernel) ⟨Nat.le_of_ble_eq_true rfl, Nat.le_of_ble_eq_true rfl⟩) ⟨PW.blind, va_recv hK hP (ci := 2) (q0 := 11) rfl rfl, fun U hU hW => ⟨rfl, by rw [hU], by rw [hU]; exact hPc, hCx.warm hW, hDc.weaken (fun _ _ _ _ => trivial)⟩⟩ rfl rfl hl.1 rfl (lv_room (Nat.le_of_ble_eq_true rfl)) dX11_sell_100 ⟨Nat.zero_le _, Nat.zero_le _⟩) (fun H locs hP hD hS => ?_)
          refine lv_iconst (v := (1 : Int32)) hx hb dX11_sell_103 (by decide) ?_
          obtain ⟨hq0, hq1⟩ := pj2 hf
          subst hq0
          subst hq1
          exact W.zret (v := (1 : Int32)) hx hb hr rfl (fun t ht hW => ⟨rfl, by rw [ht]; exact hP, hD, hS.F ht⟩) hS.2.2 dX11_sell_104
        · rw [if_pos hc52] at hf
          refine lv_iconst (v := (0 : Int32)) hx hb dX11_sell_55 (by decide) ?_
          obtain ⟨hq0, hq1⟩ := pj2 hf
          subst hq0
          subst hq1
          exact W.zret (v := (0 : Int32)) hx hb hr rfl (fun t ht hW => ⟨rfl, by rw [ht]; exact hP, hD, hS.F ht⟩) hS.2.2 dX11_sell_56
      · rw [if_pos hc34] at hf
        refine lv_iconst (v := (0 : Int32)) hx hb dX11_sell_37 (by decide) ?_
        obtain ⟨hq0, hq1⟩ := pj2 hf
        subst hq0
        subst hq1
        exact W.zret (v := (0 : Int32)) hx hb hr rfl (fun t ht hW => ⟨rfl, by rw [ht]; exact hP, hD, hS.F ht⟩) hS.2.2 dX11_sell_38
set_option maxHeartbeats 4000000 in
set_option maxRecDepth 100000 in
theorem c_X11_bale (l : Launch) (dC : Nat → ClassId) (dI : Nat → Nat → Nat) (cyB cyI cyZ cyO : ClassId) (h h_now h_images h_reader h_search h_now_tape h_now_law h_now_people h_now_rules h_now_cargo h_now_debts h_now_ledger h_now_cargo_owner h_now_cargo_size h_now_cargo_weight h_now_cargo_worth h_now_cargo_level h_now_cargo_holder h_now_cargo_side h_now_cargo_planned h_now_people_rank h_now_people_widow h_now_people_slips h_now_people_given h_now_people_silver h_now_people_returns h_now_people_rents h_now_people_share h_now_people_rest : Nat) (sz : Nat) (M_h_now : Mem) (M_h_now_cargo : Mem) (M_h_now_people : Mem) (p1 : Int32) (p2 : Int32) (p3 : Int32) (p4 : Int32) (r : Int32) (R_h_now_cargo : Mem) (hf : f_X11_bale M_h_now M_h_now_cargo M_h_now_people p1 p2 p3 p4 = some (r, R_h_now_cargo)) : Met l yX11_bale wsX11_bale ({ frames := 2, cells := 0, slots := 0, locals := 45 } : Room) (PW dC dI cyB cyI cyZ cyO ([.ref h, .int p1, .int p2, .int p3, .int p4] : List Value) ((wX11 cyB cyI cyZ cyO h h_now h_images h_reader h_search) ++ ((wX7 cyB cyI cyZ cyO h_now h_now_tape h_now_law h_now_people h_now_rules h_now_cargo h_now_debts h_now_ledger M_h_now) ++ ((wX0 cyB cyI cyZ cyO h_now_cargo h_now_cargo_owner h_now_cargo_size h_now_cargo_weight h_now_cargo_worth h_now_cargo_level h_now_cargo_holder h_now_cargo_side h_now_cargo_planned M_h_now_cargo) ++ (wX2 cyB cyI cyZ cyO h_now_people h_now_people_rank h_now_people_widow h_now_people_slips h_now_people_given h_now_people_silver h_now_people_returns h_now_people_rents h_now_people_share h_now_people_rest M_h_now_people)))) sz) (QW dC dI (some (.int r)) ((wX11 cyB cyI cyZ cyO h h_now h_images h_reader h_search) ++ ((wX7 cyB cyI cyZ cyO h_now h_now_tape h_now_law h_now_people h_now_rules h_now_cargo h_now_debts h_now_ledger M_h_now) ++ ((wX0 cyB cyI cyZ cyO h_now_cargo h_now_cargo_owner h_now_cargo_size h_now_cargo_weight h_now_cargo_worth h_now_cargo_level h_now_cargo_holder h_now_cargo_side h_now_cargo_planned R_h_now_cargo) ++ (wX2 cyB cyI cyZ cyO h_now_people h_now_people_rank h_now_people_widow h_now_people_slips h_now_people_given h_now_people_silver h_now_people_returns h_now_people_rents h_now_people_share h_now_people_rest M_h_now_people)))) (va_A ((wX11 cyB cyI cyZ cyO h h_now h_images h_reader h_search) ++ ((wX7 cyB cyI cyZ cyO h_now h_now_tape h_now_law h_now_people h_now_rules h_now_cargo h_now_debts h_now_ledger M_h_now) ++ ((wX0 cyB cyI cyZ cyO h_now_cargo h_now_cargo_owner h_now_cargo_size h_now_cargo_weight h_now_cargo_worth h_now_cargo_level h_now_cargo_holder h_now_cargo_side h_now_cargo_planned M_h_now_cargo) ++ (wX2 cyB cyI cyZ cyO h_now_people h_now_people_rank h_now_people_widow h_now_people_slips h_now_people_given h_now_people_silver h_now_people_returns h_now_people_rents h_now_people_share h_now_people_rest M_h_now_people)))) sz)) 0 0 (va_A ((wX11 cyB cyI cyZ cyO h h_now h_images h_reader h_search) ++ ((wX7 cyB cyI cyZ cyO h_now h_now_tape h_now_law h_now_people h_now_rules h_now_cargo h_now_debts h_now_ledger M_h_now) ++ ((wX0 cyB cyI cyZ cyO h_now_cargo h_now_cargo_owner h_now_cargo_size h_now_cargo_weight h_now_cargo_worth h_now_cargo_level h_now_cargo_holder h_now_cargo_side h_now_cargo_planned M_h_now_cargo) ++ (wX2 cyB cyI cyZ cyO h_now_people h_now_people_rank h_now_people_widow h_now_people_slips h_now_people_given h_now_people_silver h_now_people_returns h_now_people_rents h_now_people_share h_now_people_rest M_h_now_people)))) sz) := by
  refine Met.ofW (cc := cX11_bale) (maxL := 5) (ret := (some .int)) (by decide) rfl ?_
  intro p e s m args below meth c s₁ B hml hv
  obtain ⟨rfl, hsz, hP, hCx, hD0⟩ := hv
  have hK := hCx.1
  have hN := hCx.2
  have hx := B.exec
  have hb := B.bytes
  have hr := B.returns
  have hts := atoms_spec (ws := wsX11_bale) B.pre
  have hown : s.vm.findClass RX11 = some m.cls := findClass_of_methodNamed B.named
  have hlocks := B.notSynchronized
  have hin7 : ∀ w ∈ u_ws RX7 TX7 14, w ∈ wsX11_bale := fun w h => List.mem_cons_of_mem _ (List.mem_append_left _ (List.mem_append_left _ (List.mem_append_right _ h)))
  have hin11 : ∀ w ∈ u_ws RX11 TX11 4, w ∈ wsX11_bale := fun w h => List.mem_cons_of_mem _ (List.mem_append_left _ (List.mem_append_left _ (List.mem_append_left _ (List.mem_append_right _ h))))
  have kf10 := hts (.fieldLink RX11 10 "HoldSlips" "now" "LHoldSlips$State;") (by decide +kernel)
  have kf82 := hts (.fieldLink RX11 82 "HoldSlips$State" "people" "LHoldSlips$Citizens;") (by decide +kernel)
  have kf102 := hts (.fieldLink RX11 102 "HoldSlips$State" "sailed" "Z") (by decide +kernel)
  have kf131 := hts (.fieldLink RX11 131 "HoldSlips$State" "cargo" "LHoldSlips$Bales;") (by decide +kernel)
  subst hsz
  have hD := hD0.self (sz := s.heap.size)
  generalize hAe : va_A ((wX11 cyB cyI cyZ cyO h h_now h_images h_reader h_search) ++ ((wX7 cyB cyI cyZ cyO h_now h_now_tape h_now_law h_now_people h_now_rules h_now_cargo h_now_debts h_now_ledger M_h_now) ++ ((wX0 cyB cyI cyZ cyO h_now_cargo h_now_cargo_owner h_now_cargo_size h_now_cargo_weight h_now_cargo_worth h_now_cargo_level h_now_cargo_holder h_now_cargo_side h_now_cargo_planned M_h_now_cargo) ++ (wX2 cyB cyI cyZ cyO h_now_people h_now_people_rank h_now_people_widow h_now_people_slips h_now_people_given h_now_people_silver h_now_people_returns h_now_people_rents h_now_people_share h_now_people_rest M_h_now_people)))) s.heap.size = A at hD ⊢
  have hA : ∀ q : Nat, s.heap.size ≤ q → A q := fun q h => by rw [← hAe]; exact Or.inr h
  have hS : va_S A s.heap s.heap [] := va_S.rf
  have hl := lv_entry ([.ref h, .int p1, .int p2, .int p3, .int p4] : List Value) (n := 5) (Nat.le_of_ble_eq_true rfl)
  rw [lg_entry_eq]
  generalize (lg_sl ([.ref h, .int p1, .int p2, .int p3, .int p4] : List Value) ++ List.replicate (5 - (lg_sl ([.ref h, .int p1, .int p2, .int p3, .int p4] : List Value)).length) Slot.unset).toArray = ls at hl ⊢
  have hl : lv_has ls 5 [(0, .ref h), (1, .int p1), (2, .int p2), (3, .int p3), (4, .int p4)] := hl
  rw [f_X11_bale] at hf
  refine lv_aload_n hx hb dX11_bale_0 rfl (lv_at hl 0 rfl) ?_
  refine va_get (D := (dC, dI)) (ci := 11) (v := .ref h_now) (C := RX11) (T := TX11) (N := 4) hx hb hts hin11 hown hK hP 0 rfl rfl 0 (by decide) kf10 (fun _ h9 => h9) rfl dX11_bale_1 ?_
  refine va_get (D := (dC, dI)) (ci := 7) (v := .int (M_h_now 10 0)) (C := RX7) (T := TX7) (N := 14) hx hb hts hin7 hown hK hP 1 rfl rfl 10 (by decide) kf102 (fun _ h9 => h9) rfl dX11_bale_4 ?_
  refine lv_if_ne (tgt := 24) hx hb dX11_bale_7 (by decide) (fun hc7 => ?_) (fun hc7 => ?_)
  · rw [if_neg hc7] at hf
    refine lv_iconst (v := (-1 : Int32)) hx hb dX11_bale_24 (by decide) ?_
    obtain ⟨hq0, hq1⟩ := pj2 hf
    subst hq0
    subst hq1
    exact W.iret (v := (-1 : Int32)) hx hb hr (fun t ht hW => ⟨rfl, by rw [ht]; exact hP, hD, hS.F ht⟩) hS.2.2 dX11_bale_25
  · rw [if_pos hc7] at hf
    refine lv_aload_n hx hb dX11_bale_10 rfl (lv_at hl 0 rfl) ?_
    refine va_get (D := (dC, dI)) (ci := 11) (v := .ref h_now) (C := RX11) (T := TX11) (N := 4) hx hb hts hin11 hown hK hP 0 rfl rfl 0 (by decide) kf10 (fun _ h9 => h9) rfl dX11_bale_11 ?_
    refine va_get (D := (dC, dI)) (ci := 7) (v := .ref h_now_people) (C := RX7) (T := TX7) (N := 14) hx hb hts hin7 hown hK hP 1 rfl rfl 2 (by decide) kf82 (fun _ h9 => h9) rfl dX11_bale_14 ?_
    refine lv_iload_n hx hb dX11_bale_17 rfl (lv_at hl 1 rfl) ?_
    obtain ⟨r18, h18, hf⟩ := bd1_some hf
    have hPc := hP.sub (ws' := (wX2 cyB cyI cyZ cyO h_now_people h_now_people_rank h_now_people_widow h_now_people_slips h_now_people_given h_now_people_silver h_now_people_returns h_now_people_rents h_now_people_share h_now_people_rest M_h_now_people)) [11, 12, 13, 14, 15, 16, 17, 18, 19, 20] rfl
    refine ro_calli (va_runV (As := [.int p1]) (rest := []) ⟨hx, hb, hml, hown, hts⟩ (c_X2_has l dC dI cyB cyI cyZ cyO h_now_people h_now_people_rank h_now_people_widow h_now_people_slips h_now_people_given h_now_people_silver h_now_people_returns h_now_people_rents h_now_people_share h_now_people_rest M_h_now_people p1 r18 h18) (cwV 1 hts gX11_bale_X2_has rfl rfl rfl (by decide +kernel) ⟨Nat.le_of_ble_eq_true rfl, Nat.le_of_ble_eq_true rfl⟩) ⟨PR.blind, va_recv hK hP (ci := 2) (q0 := 11) rfl rfl, fun U hU hW => ⟨rfl, by rw [hU]; exact hPc, hCx.warm hW⟩⟩ rfl rfl hl.1 rfl (lv_room (Nat.le_of_ble_eq_true rfl)) dX11_bale_18 ⟨Nat.zero_le _, Nat.zero_le _⟩) ?_
    refine lv_if_ne (tgt := 26) hx hb dX11_bale_21 (by decide) (fun hc21 => ?_) (fun hc21 => ?_)
    · rw [if_neg hc21] at hf
      refine lv_iload_n hx hb dX11_bale_26 rfl (lv_at hl 2 rfl) ?_
      refine lv_iconst (v := (1 : Int32)) hx hb dX11_bale_27 (by decide) ?_
      refine lv_bipush (v := (40 : Int32)) hx hb dX11_bale_28 (by decide) ?_
      obtain ⟨r30, h30, hf⟩ := bd1_some hf
      have hPc := hP.sub (ws' := ([] : va_W)) [] rfl
      refine ro_calli (va_runS (As := [.int p2, .int (1 : Int32), .int (40 : Int32)]) (rest := []) ⟨hx, hb, hml, hown, hts⟩ (c_X11_within l dC dI cyB cyI cyZ cyO p2 (1 : Int32) (40 : Int32) r30 h30) (va_cwS 3 hts gX11_bale_X11_within rfl rfl rfl (by decide +kernel) ⟨Nat.le_of_ble_eq_true rfl, Nat.le_of_ble_eq_true rfl⟩) ⟨PR.blind, fun U hU hW => ⟨rfl, by rw [hU]; exact hPc, hCx.warm hW⟩⟩ rfl rfl hl.1 rfl (lv_room (Nat.le_of_ble_eq_true rfl)) dX11_bale_30 ⟨Nat.zero_le _, Nat.zero_le _⟩) ?_
      refine lv_if_eq (tgt := 59) hx hb dX11_bale_33 (by decide) (fun hc33 => ?_) (fun hc33 => ?_)
      · rw [if_pos hc33] at hf
        refine lv_iconst (v := (-1 : Int32)) hx hb dX11_bale_59 (by decide) ?_
        obtain ⟨hq0, hq1⟩ := pj2 hf
        subst hq0
        subst hq1
        exact W.iret (v := (-1 : Int32)) hx hb hr (fun t ht hW => ⟨rfl, by rw [ht]; exact hP, hD, hS.F ht⟩) hS.2.2 dX11_bale_60
      · rw [if_neg hc33] at hf
        refine lv_iload_n hx hb dX11_bale_36 rfl (lv_at hl 3 rfl) ?_
        refine lv_iconst (v := (1 : Int32)) hx hb dX11_bale_37 (by decide) ?_
        refine lv_sipush (v := (200 : Int32)) hx hb dX11_bale_38 (by decide) ?_
        obtain ⟨r41, h41, hf⟩ := bd1_some hf
        have hPc := hP.sub (ws' := ([] : va_W)) [] rfl
        refine ro_calli (va_runS (As := [.int p3, .int (1 : Int32), .int (200 : Int32)]) (rest := []) ⟨hx, hb, hml, hown, hts⟩ (c_X11_within l dC dI cyB cyI cyZ cyO p3 (1 : Int32) (200 : Int32) r41 h41) (va_cwS 3 hts gX11_bale_X11_within rfl rfl rfl (by decide +kernel) ⟨Nat.le_of_ble_eq_true rfl, Nat.le_of_ble_eq_true rfl⟩) ⟨PR.blind, fun U hU hW => ⟨rfl, by rw [hU]; exact hPc, hCx.warm hW⟩⟩ rfl rfl hl.1 rfl (lv_room (Nat.le_of_ble_eq_true rfl)) dX11_bale_41 ⟨Nat.zero_le _, Nat.zero_le _⟩) ?_
        refine lv_if_eq (tgt := 59) hx hb dX11_bale_44 (by decide) (fun hc44 => ?_) (fun hc44 => ?_)
        · rw [if_pos hc44] at hf
          refine lv_iconst (v := (-1 : Int32)) hx hb dX11_bale_59 (by decide) ?_
          obtain ⟨hq0, hq1⟩ := pj2 hf
          subst hq0
          subst hq1
          exact W.iret (v := (-1 : Int32)) hx hb hr (fun t ht hW => ⟨rfl, by rw [ht]; exact hP, hD, hS.F ht⟩) hS.2.2 dX11_bale_60
        · rw [if_neg hc44] at hf
          refine lv_iload hx hb dX11_bale_47 (lv_at hl 4 rfl) ?_
          refine lv_iconst (v := (1 : Int32)) hx hb dX11_bale_49 (by decide) ?_
          refine lv_sipush (v := (1000 : Int32)) hx hb dX11_bale_50 (by decide) ?_
          obtain ⟨r53, h53, hf⟩ := bd1_some hf
          have hPc := hP.sub (ws' := ([] : va_W)) [] rfl
          refine ro_calli (va_runS (As := [.int p4, .int (1 : Int32), .int (1000 : Int32)]) (rest := []) ⟨hx, hb, hml, hown, hts⟩ (c_X11_within l dC dI cyB cyI cyZ cyO p4 (1 : Int32) (1000 : Int32) r53 h53) (va_cwS 3 hts gX11_bale_X11_within rfl rfl rfl (by decide +kernel) ⟨Nat.le_of_ble_eq_true rfl, Nat.le_of_ble_eq_true rfl⟩) ⟨PR.blind, fun U hU hW => ⟨rfl, by rw [hU]; exact hPc, hCx.warm hW⟩⟩ rfl rfl hl.1 rfl (lv_room (Nat.le_of_ble_eq_true rfl)) dX11_bale_53 ⟨Nat.zero_le _, Nat.zero_le _⟩) ?_
          refine lv_if_ne (tgt := 61) hx hb dX11_bale_56 (by decide) (fun hc56 => ?_) (fun hc56 => ?_)
          · rw [if_neg hc56] at hf
            refine lv_aload_n hx hb dX11_bale_61 rfl (lv_at hl 0 rfl) ?_
            refine va_get (D := (dC, dI)) (ci := 11) (v := .ref h_now) (C := RX11) (T := TX11) (N := 4) hx hb hts hin11 hown hK hP 0 rfl rfl 0 (by decide) kf10 (fun _ h9 => h9) rfl dX11_bale_62 ?_
            refine va_get (D := (dC, dI)) (ci := 7) (v := .ref h_now_cargo) (C := RX7) (T := TX7) (N := 14) hx hb hts hin7 hown hK hP 1 rfl rfl 4 (by decide) kf131 (fun _ h9 => h9) rfl dX11_bale_65 ?_
            refine lv_iload_n hx hb dX11_bale_68 rfl (lv_at hl 1 rfl) ?_
            refine lv_iload_n hx hb dX11_bale_69 rfl (lv_at hl 2 rfl) ?_
            refine lv_iload_n hx hb dX11_bale_70 rfl (lv_at hl 3 rfl) ?_
            refine lv_iload hx hb dX11_bale_71 (lv_at hl 4 rfl) ?_
            obtain ⟨r73, M_h_now_cargo_73, h73, hf⟩ := bd2_some hf
            have hPc := hP.sub (ws' := (wX0 cyB cyI cyZ cyO h_now_cargo h_now_cargo_owner h_now_cargo_size h_now_cargo_weight h_now_cargo_worth h_now_cargo_level h_now_cargo_holder h_now_cargo_side h_now_cargo_planned M_h_now_cargo)) [2, 3, 4, 5, 6, 7, 8, 9, 10] rfl
            have hDc := hD.sub (ws' := (wX0 cyB cyI cyZ cyO h_now_cargo h_now_cargo_owner h_now_cargo_size h_now_cargo_weight h_now_cargo_worth h_now_cargo_level h_now_cargo_holder h_now_cargo_side h_now_cargo_planned M_h_now_cargo)) [2, 3, 4, 5, 6, 7, 8, 9, 10] (by decide) rfl
            refine wr_calli (wc := (wX0 cyB cyI cyZ cyO h_now_cargo h_now_cargo_owner h_now_cargo_size h_now_cargo_weight h_now_cargo_worth h_now_cargo_level h_now_cargo_holder h_now_cargo_side h_now_cargo_planned M_h_now_cargo)) (wr := ((wX11 cyB cyI cyZ cyO h h_now h_images h_reader h_search) ++ ((wX7 cyB cyI cyZ cyO h_now h_now_tape h_now_law h_now_people h_now_rules h_now_cargo h_now_debts h_now_ledger M_h_now) ++ (wX2 cyB cyI cyZ cyO h_now_people h_now_people_rank h_now_people_widow h_now_people_slips h_now_people_given h_now_people_silver h_now_people_returns h_now_people_rents h_now_people_share h_now_people_rest M_h_now_people)))) (w1 := (wX0 cyB cyI cyZ cyO h_now_cargo h_now_cargo_owner h_now_cargo_size h_now_cargo_weight h_now_cargo_worth h_now_cargo_level h_now_cargo_holder h_now_cargo_side h_now_cargo_planned M_h_now_cargo_73)) (ws' := ((wX11 cyB cyI cyZ cyO h h_now h_images h_reader h_search) ++ ((wX7 cyB cyI cyZ cyO h_now h_now_tape h_now_law h_now_people h_now_rules h_now_cargo h_now_debts h_now_ledger M_h_now) ++ ((wX0 cyB cyI cyZ cyO h_now_cargo h_now_cargo_owner h_now_cargo_size h_now_cargo_weight h_now_cargo_worth h_now_cargo_level h_now_cargo_holder h_now_cargo_side h_now_cargo_planned M_h_now_cargo_73) ++ (wX2 cyB cyI cyZ cyO h_now_people h_now_people_rank h_now_people_widow h_now_people_slips h_now_people_given h_now_people_silver h_now_people_returns h_now_people_rents h_now_people_share h_now_people_rest M_h_now_people))))) hP hD hS hA [2, 3, 4, 5, 6, 7, 8, 9, 10] [0, 1, 11, 12, 13, 14, 15, 16, 17, 18, 19, 20] [0, 1, 12, 13, 14, 15, 16, 17, 18, 19, 20, 2, 3, 4, 5, 6, 7, 8, 9, 10, 11] rfl rfl (by decide) (by decide) rfl (by decide) (va_runV (As := [.int p1, .int p2, .int p3, .int p4]) (rest := []) ⟨hx, hb, hml, hown, hts⟩ (c_X0_enter l dC dI cyB cyI cyZ cyO h_now_cargo h_now_cargo_owner h_now_cargo_size h_now_cargo_weight h_now_cargo_worth h_now_cargo_level h_now_cargo_holder h_now_cargo_side h_now_cargo_planned _ M_h_now_cargo p1 p2 p3 p4 r73 M_h_now_cargo_73 h73) (cwV 4 hts gX11_bale_X0_enter rfl rfl rfl (by decide +kernel) ⟨Nat.le_of_ble_eq_true rfl, Nat.le_of_ble_eq_true rfl⟩) ⟨PW.blind, va_recv hK hP (ci := 0) (q0 := 2) rfl rfl, fun U hU hW => ⟨rfl, by rw [hU], by rw [hU]; exact hPc, hCx.warm hW, hDc.weaken (fun _ _ _ _ => trivial)⟩⟩ rfl rfl hl.1 rfl (lv_room (Nat.le_of_ble_eq_true rfl)) dX11_bale_73 ⟨Nat.zero_le _, Nat.zero_le _⟩) (fun H locs hP hD hS => ?_)
            obtain ⟨hq0, hq1⟩ := pj2 hf
            subst hq0
            subst hq1
            exact W.iret (v := r73) hx hb hr (fun t ht hW => ⟨rfl, by rw [ht]; exact hP, hD, hS.F ht⟩) hS.2.2 dX11_bale_76
          · rw [if_pos hc56] at hf
            refine lv_iconst (v := (-1 : Int32)) hx hb dX11_bale_59 (by decide) ?_
            obtain ⟨hq0, hq1⟩ := pj2 hf
            subst hq0
            subst hq1
            exact W.iret (v := (-1 : Int32)) hx hb hr (fun t ht hW => ⟨rfl, by rw [ht]; exact hP, hD, hS.F ht⟩) hS.2.2 dX11_bale_60
    · rw [if_pos hc21] at hf
      refine lv_iconst (v := (-1 : Int32)) hx hb dX11_bale_24 (by decide) ?_
      obtain ⟨hq0, hq1⟩ := pj2 hf
      subst hq0
      subst hq1
      exact W.iret (v := (-1 : Int32)) hx hb hr (fun t ht hW => ⟨rfl, by rw [ht]; exact hP, hD, hS.F ht⟩) hS.2.2 dX11_bale_25
set_option maxHeartbeats 4000000 in
set_option maxRecDepth 100000 in
theorem c_X11_press (l : Launch) (dC : Nat → ClassId) (dI : Nat → Nat → Nat) (cyB cyI cyZ cyO : ClassId) (h h_now h_images h_reader h_search h_now_tape h_now_law h_now_people h_now_rules h_now_cargo h_now_debts h_now_ledger h_now_cargo_owner h_now_cargo_size h_now_cargo_weight h_now_cargo_worth h_now_cargo_level h_now_cargo_holder h_now_cargo_side h_now_cargo_planned : Nat) (sz : Nat) (M_h_now : Mem) (M_h_now_cargo : Mem) (p1 : Int32) (p2 : Int32) (r : Int32) (R_h_now_cargo : Mem) (hf : f_X11_press M_h_now M_h_now_cargo p1 p2 = some (r, R_h_now_cargo)) : Met l yX11_press wsX11_press ({ frames := 3, cells := 0, slots := 0, locals := 64 } : Room) (PW dC dI cyB cyI cyZ cyO ([.ref h, .int p1, .int p2] : List Value) ((wX11 cyB cyI cyZ cyO h h_now h_images h_reader h_search) ++ ((wX7 cyB cyI cyZ cyO h_now h_now_tape h_now_law h_now_people h_now_rules h_now_cargo h_now_debts h_now_ledger M_h_now) ++ (wX0 cyB cyI cyZ cyO h_now_cargo h_now_cargo_owner h_now_cargo_size h_now_cargo_weight h_now_cargo_worth h_now_cargo_level h_now_cargo_holder h_now_cargo_side h_now_cargo_planned M_h_now_cargo))) sz) (QW dC dI (some (.int r)) ((wX11 cyB cyI cyZ cyO h h_now h_images h_reader h_search) ++ ((wX7 cyB cyI cyZ cyO h_now h_now_tape h_now_law h_now_people h_now_rules h_now_cargo h_now_debts h_now_ledger M_h_now) ++ (wX0 cyB cyI cyZ cyO h_now_cargo h_now_cargo_owner h_now_cargo_size h_now_cargo_weight h_now_cargo_worth h_now_cargo_level h_now_cargo_holder h_now_cargo_side h_now_cargo_planned R_h_now_cargo))) (va_A ((wX11 cyB cyI cyZ cyO h h_now h_images h_reader h_search) ++ ((wX7 cyB cyI cyZ cyO h_now h_now_tape h_now_law h_now_people h_now_rules h_now_cargo h_now_debts h_now_ledger M_h_now) ++ (wX0 cyB cyI cyZ cyO h_now_cargo h_now_cargo_owner h_now_cargo_size h_now_cargo_weight h_now_cargo_worth h_now_cargo_level h_now_cargo_holder h_now_cargo_side h_now_cargo_planned M_h_now_cargo))) sz)) 0 0 (va_A ((wX11 cyB cyI cyZ cyO h h_now h_images h_reader h_search) ++ ((wX7 cyB cyI cyZ cyO h_now h_now_tape h_now_law h_now_people h_now_rules h_now_cargo h_now_debts h_now_ledger M_h_now) ++ (wX0 cyB cyI cyZ cyO h_now_cargo h_now_cargo_owner h_now_cargo_size h_now_cargo_weight h_now_cargo_worth h_now_cargo_level h_now_cargo_holder h_now_cargo_side h_now_cargo_planned M_h_now_cargo))) sz) := by
  refine Met.ofW (cc := cX11_press) (maxL := 3) (ret := (some .boolean)) (by decide) rfl ?_
  intro p e s m args below meth c s₁ B hml hv
  obtain ⟨rfl, hsz, hP, hCx, hD0⟩ := hv
  have hK := hCx.1
  have hN := hCx.2
  have hx := B.exec
  have hb := B.bytes
  have hr := B.returns
  have hts := atoms_spec (ws := wsX11_press) B.pre
  have hown : s.vm.findClass RX11 = some m.cls := findClass_of_methodNamed B.named
  have hlocks := B.notSynchronized
  have hin0 : ∀ w ∈ u_ws RX0 TX0 10, w ∈ wsX11_press := fun w h => List.mem_cons_of_mem _ (List.mem_append_right _ h)
  have hin7 : ∀ w ∈ u_ws RX7 TX7 14, w ∈ wsX11_press := fun w h => List.mem_cons_of_mem _ (List.mem_append_left _ (List.mem_append_right _ h))
  have hin11 : ∀ w ∈ u_ws RX11 TX11 4, w ∈ wsX11_press := fun w h => List.mem_cons_of_mem _ (List.mem_append_left _ (List.mem_append_left _ (List.mem_append_right _ h)))
  have kf10 := hts (.fieldLink RX11 10 "HoldSlips" "now" "LHoldSlips$State;") (by decide +kernel)
  have kf102 := hts (.fieldLink RX11 102 "HoldSlips$State" "sailed" "Z") (by decide +kernel)
  have kf131 := hts (.fieldLink RX11 131 "HoldSlips$State" "cargo" "LHoldSlips$Bales;") (by decide +kernel)
  have kf143 := hts (.fieldLink RX11 143 "HoldSlips$Bales" "level" "[I") (by decide +kernel)
  subst hsz
  have hD := hD0.self (sz := s.heap.size)
  generalize hAe : va_A ((wX11 cyB cyI cyZ cyO h h_now h_images h_reader h_search) ++ ((wX7 cyB cyI cyZ cyO h_now h_now_tape h_now_law h_now_people h_now_rules h_now_cargo h_now_debts h_now_ledger M_h_now) ++ (wX0 cyB cyI cyZ cyO h_now_cargo h_now_cargo_owner h_now_cargo_size h_now_cargo_weight h_now_cargo_worth h_now_cargo_level h_now_cargo_holder h_now_cargo_side h_now_cargo_planned M_h_now_cargo))) s.heap.size = A at hD ⊢
  have hA : ∀ q : Nat, s.heap.size ≤ q → A q := fun q h => by rw [← hAe]; exact Or.inr h
  have hS : va_S A s.heap s.heap [] := va_S.rf
  have hl := lv_entry ([.ref h, .int p1, .int p2] : List Value) (n := 3) (Nat.le_of_ble_eq_true rfl)
  rw [lg_entry_eq]
  generalize (lg_sl ([.ref h, .int p1, .int p2] : List Value) ++ List.replicate (3 - (lg_sl ([.ref h, .int p1, .int p2] : List Value)).length) Slot.unset).toArray = ls at hl ⊢
  have hl : lv_has ls 3 [(0, .ref h), (1, .int p1), (2, .int p2)] := hl
  rw [f_X11_press] at hf
  refine lv_aload_n hx hb dX11_press_0 rfl (lv_at hl 0 rfl) ?_
  refine va_get (D := (dC, dI)) (ci := 11) (v := .ref h_now) (C := RX11) (T := TX11) (N := 4) hx hb hts hin11 hown hK hP 0 rfl rfl 0 (by decide) kf10 (fun _ h9 => h9) rfl dX11_press_1 ?_
  refine va_get (D := (dC, dI)) (ci := 7) (v := .int (M_h_now 10 0)) (C := RX7) (T := TX7) (N := 14) hx hb hts hin7 hown hK hP 1 rfl rfl 10 (by decide) kf102 (fun _ h9 => h9) rfl dX11_press_4 ?_
  refine lv_if_ne (tgt := 33) hx hb dX11_press_7 (by decide) (fun hc7 => ?_) (fun hc7 => ?_)
  · rw [if_neg hc7] at hf
    refine lv_iconst (v := (0 : Int32)) hx hb dX11_press_33 (by decide) ?_
    obtain ⟨hq0, hq1⟩ := pj2 hf
    subst hq0
    subst hq1
    exact W.zret (v := (0 : Int32)) hx hb hr rfl (fun t ht hW => ⟨rfl, by rw [ht]; exact hP, hD, hS.F ht⟩) hS.2.2 dX11_press_34
  · rw [if_pos hc7] at hf
    refine lv_aload_n hx hb dX11_press_10 rfl (lv_at hl 0 rfl) ?_
    refine va_get (D := (dC, dI)) (ci := 11) (v := .ref h_now) (C := RX11) (T := TX11) (N := 4) hx hb hts hin11 hown hK hP 0 rfl rfl 0 (by decide) kf10 (fun _ h9 => h9) rfl dX11_press_11 ?_
    refine va_get (D := (dC, dI)) (ci := 7) (v := .ref h_now_cargo) (C := RX7) (T := TX7) (N := 14) hx hb hts hin7 hown hK hP 1 rfl rfl 4 (by decide) kf131 (fun _ h9 => h9) rfl dX11_press_14 ?_
    refine lv_iload_n hx hb dX11_press_17 rfl (lv_at hl 1 rfl) ?_
    obtain ⟨r18, h18, hf⟩ := bd1_some hf
    have hPc := hP.sub (ws' := (wX0 cyB cyI cyZ cyO h_now_cargo h_now_cargo_owner h_now_cargo_size h_now_cargo_weight h_now_cargo_worth h_now_cargo_level h_now_cargo_holder h_now_cargo_side h_now_cargo_planned M_h_now_cargo)) [2, 3, 4, 5, 6, 7, 8, 9, 10] rfl
    refine ro_calli (va_runV (As := [.int p1]) (rest := []) ⟨hx, hb, hml, hown, hts⟩ (c_X0_waits l dC dI cyB cyI cyZ cyO h_now_cargo h_now_cargo_owner h_now_cargo_size h_now_cargo_weight h_now_cargo_worth h_now_cargo_level h_now_cargo_holder h_now_cargo_side h_now_cargo_planned M_h_now_cargo p1 r18 h18) (cwV 1 hts gX11_press_X0_waits rfl rfl rfl (by decide +kernel) ⟨Nat.le_of_ble_eq_true rfl, Nat.le_of_ble_eq_true rfl⟩) ⟨PR.blind, va_recv hK hP (ci := 0) (q0 := 2) rfl rfl, fun U hU hW => ⟨rfl, by rw [hU]; exact hPc, hCx.warm hW⟩⟩ rfl rfl hl.1 rfl (lv_room (Nat.le_of_ble_eq_true rfl)) dX11_press_18 ⟨Nat.zero_le _, Nat.zero_le _⟩) ?_
    refine lv_if_eq (tgt := 33) hx hb dX11_press_21 (by decide) (fun hc21 => ?_) (fun hc21 => ?_)
    · rw [if_pos hc21] at hf
      refine lv_iconst (v := (0 : Int32)) hx hb dX11_press_33 (by decide) ?_
      obtain ⟨hq0, hq1⟩ := pj2 hf
      subst hq0
      subst hq1
      exact W.zret (v := (0 : Int32)) hx hb hr rfl (fun t ht hW => ⟨rfl, by rw [ht]; exact hP, hD, hS.F ht⟩) hS.2.2 dX11_press_34
    · rw [if_neg hc21] at hf
      refine lv_iload_n hx hb dX11_press_24 rfl (lv_at hl 2 rfl) ?_
      refine lv_iconst (v := (0 : Int32)) hx hb dX11_press_25 (by decide) ?_
      refine lv_iconst (v := (3 : Int32)) hx hb dX11_press_26 (by decide) ?_
      obtain ⟨r27, h27, hf⟩ := bd1_some hf
      have hPc := hP.sub (ws' := ([] : va_W)) [] rfl
      refine ro_calli (va_runS (As := [.int p2, .int (0 : Int32), .int (3 : Int32)]) (rest := []) ⟨hx, hb, hml, hown, hts⟩ (c_X11_within l dC dI cyB cyI cyZ cyO p2 (0 : Int32) (3 : Int32) r27 h27) (va_cwS 3 hts gX11_press_X11_within rfl rfl rfl (by decide +kernel) ⟨Nat.le_of_ble_eq_true rfl, Nat.le_of_ble_eq_true rfl⟩) ⟨PR.blind, fun U hU hW => ⟨rfl, by rw [hU]; exact hPc, hCx.warm hW⟩⟩ rfl rfl hl.1 rfl (lv_room (Nat.le_of_ble_eq_true rfl)) dX11_press_27 ⟨Nat.zero_le _, Nat.zero_le _⟩) ?_
      refine lv_if_ne (tgt := 35) hx hb dX11_press_30 (by decide) (fun hc30 => ?_) (fun hc30 => ?_)
      · rw [if_neg hc30] at hf
        refine lv_aload_n hx hb dX11_press_35 rfl (lv_at hl 0 rfl) ?_
        refine va_get (D := (dC, dI)) (ci := 11) (v := .ref h_now) (C := RX11) (T := TX11) (N := 4) hx hb hts hin11 hown hK hP 0 rfl rfl 0 (by decide) kf10 (fun _ h9 => h9) rfl dX11_press_36 ?_
        refine va_get (D := (dC, dI)) (ci := 7) (v := .ref h_now_cargo) (C := RX7) (T := TX7) (N := 14) hx hb hts hin7 hown hK hP 1 rfl rfl 4 (by decide) kf131 (fun _ h9 => h9) rfl dX11_press_39 ?_
        refine va_get (D := (dC, dI)) (ci := 0) (v := .ref h_now_cargo_level) (C := RX0) (T := TX0) (N := 10) hx hb hts hin0 hown hK hP 2 rfl rfl 5 (by decide) kf143 (fun _ h9 => h9) rfl dX11_press_42 ?_
        refine lv_iload_n hx hb dX11_press_45 rfl (lv_at hl 1 rfl) ?_
        refine lv_iload_n hx hb dX11_press_46 rfl (lv_at hl 2 rfl) ?_
        have hi47 := if_no hf
        rw [if_neg hi47] at hf
        refine va_iast hx hb hK hP hD hS 7 1 rfl rfl hi47 dX11_press_47 (fun H locs hP hD hS => ?_)
        obtain ⟨M_h_now_cargo_47, eM_h_now_cargo_47, hf⟩ := wr_some hf
        have hP : va_P (dC, dI) vwCl ((wX11 cyB cyI cyZ cyO h h_now h_images h_reader h_search) ++ ((wX7 cyB cyI cyZ cyO h_now h_now_tape h_now_law h_now_people h_now_rules h_now_cargo h_now_debts h_now_ledger M_h_now) ++ (wX0 cyB cyI cyZ cyO h_now_cargo h_now_cargo_owner h_now_cargo_size h_now_cargo_weight h_now_cargo_worth h_now_cargo_level h_now_cargo_holder h_now_cargo_side h_now_cargo_planned M_h_now_cargo_47))) H := by rw [eM_h_now_cargo_47]; exact hP
        have hD : va_D A ((wX11 cyB cyI cyZ cyO h h_now h_images h_reader h_search) ++ ((wX7 cyB cyI cyZ cyO h_now h_now_tape h_now_law h_now_people h_now_rules h_now_cargo h_now_debts h_now_ledger M_h_now) ++ (wX0 cyB cyI cyZ cyO h_now_cargo h_now_cargo_owner h_now_cargo_size h_now_cargo_weight h_now_cargo_worth h_now_cargo_level h_now_cargo_holder h_now_cargo_side h_now_cargo_planned M_h_now_cargo_47))) := by rw [eM_h_now_cargo_47]; exact hD
        refine lv_iconst (v := (1 : Int32)) hx hb dX11_press_48 (by decide) ?_
        obtain ⟨hq0, hq1⟩ := pj2 hf
        subst hq0
        subst hq1
        exact W.zret (v := (1 : Int32)) hx hb hr rfl (fun t ht hW => ⟨rfl, by rw [ht]; exact hP, hD, hS.F ht⟩) hS.2.2 dX11_press_49
      · rw [if_pos hc30] at hf
        refine lv_iconst (v := (0 : Int32)) hx hb dX11_press_33 (by decide) ?_
        obtain ⟨hq0, hq1⟩ := pj2 hf
        subst hq0
        subst hq1
        exact W.zret (v := (0 : Int32)) hx hb hr rfl (fun t ht hW => ⟨rfl, by rw [ht]; exact hP, hD, hS.F ht⟩) hS.2.2 dX11_press_34
set_option maxHeartbeats 4000000 in
set_option maxRecDepth 100000 in
theorem c_X11_lade (l : Launch) (dC : Nat → ClassId) (dI : Nat → Nat → Nat) (cyB cyI cyZ cyO : ClassId) (h h_now h_images h_reader h_search h_now_tape h_now_law h_now_people h_now_rules h_now_cargo h_now_debts h_now_ledger h_now_cargo_owner h_now_cargo_size h_now_cargo_weight h_now_cargo_worth h_now_cargo_level h_now_cargo_holder h_now_cargo_side h_now_cargo_planned h_now_people_rank h_now_people_widow h_now_people_slips h_now_people_given h_now_people_silver h_now_people_returns h_now_people_rents h_now_people_share h_now_people_rest : Nat) (sz : Nat) (M_h_now : Mem) (M_h_now_cargo : Mem) (M_h_now_people : Mem) (p1 : Int32) (p2 : Int32) (p3 : Int32) (r : Int32) (R_h_now_cargo : Mem) (hf : f_X11_lade M_h_now M_h_now_cargo M_h_now_people p1 p2 p3 = some (r, R_h_now_cargo)) : Met l yX11_lade wsX11_lade ({ frames := 4, cells := 0, slots := 0, locals := 88 } : Room) (PW dC dI cyB cyI cyZ cyO ([.ref h, .int p1, .int p2, .int p3] : List Value) ((wX11 cyB cyI cyZ cyO h h_now h_images h_reader h_search) ++ ((wX7 cyB cyI cyZ cyO h_now h_now_tape h_now_law h_now_people h_now_rules h_now_cargo h_now_debts h_now_ledger M_h_now) ++ ((wX0 cyB cyI cyZ cyO h_now_cargo h_now_cargo_owner h_now_cargo_size h_now_cargo_weight h_now_cargo_worth h_now_cargo_level h_now_cargo_holder h_now_cargo_side h_now_cargo_planned M_h_now_cargo) ++ (wX2 cyB cyI cyZ cyO h_now_people h_now_people_rank h_now_people_widow h_now_people_slips h_now_people_given h_now_people_silver h_now_people_returns h_now_people_rents h_now_people_share h_now_people_rest M_h_now_people)))) sz) (QW dC dI (some (.int r)) ((wX11 cyB cyI cyZ cyO h h_now h_images h_reader h_search) ++ ((wX7 cyB cyI cyZ cyO h_now h_now_tape h_now_law h_now_people h_now_rules h_now_cargo h_now_debts h_now_ledger M_h_now) ++ ((wX0 cyB cyI cyZ cyO h_now_cargo h_now_cargo_owner h_now_cargo_size h_now_cargo_weight h_now_cargo_worth h_now_cargo_level h_now_cargo_holder h_now_cargo_side h_now_cargo_planned R_h_now_cargo) ++ (wX2 cyB cyI cyZ cyO h_now_people h_now_people_rank h_now_people_widow h_now_people_slips h_now_people_given h_now_people_silver h_now_people_returns h_now_people_rents h_now_people_share h_now_people_rest M_h_now_people)))) (va_A ((wX11 cyB cyI cyZ cyO h h_now h_images h_reader h_search) ++ ((wX7 cyB cyI cyZ cyO h_now h_now_tape h_now_law h_now_people h_now_rules h_now_cargo h_now_debts h_now_ledger M_h_now) ++ ((wX0 cyB cyI cyZ cyO h_now_cargo h_now_cargo_owner h_now_cargo_size h_now_cargo_weight h_now_cargo_worth h_now_cargo_level h_now_cargo_holder h_now_cargo_side h_now_cargo_planned M_h_now_cargo) ++ (wX2 cyB cyI cyZ cyO h_now_people h_now_people_rank h_now_people_widow h_now_people_slips h_now_people_given h_now_people_silver h_now_people_returns h_now_people_rents h_now_people_share h_now_people_rest M_h_now_people)))) sz)) 0 0 (va_A ((wX11 cyB cyI cyZ cyO h h_now h_images h_reader h_search) ++ ((wX7 cyB cyI cyZ cyO h_now h_now_tape h_now_law h_now_people h_now_rules h_now_cargo h_now_debts h_now_ledger M_h_now) ++ ((wX0 cyB cyI cyZ cyO h_now_cargo h_now_cargo_owner h_now_cargo_size h_now_cargo_weight h_now_cargo_worth h_now_cargo_level h_now_cargo_holder h_now_cargo_side h_now_cargo_planned M_h_now_cargo) ++ (wX2 cyB cyI cyZ cyO h_now_people h_now_people_rank h_now_people_widow h_now_people_slips h_now_people_given h_now_people_silver h_now_people_returns h_now_people_rents h_now_people_share h_now_people_rest M_h_now_people)))) sz) := by
  refine Met.ofW (cc := cX11_lade) (maxL := 4) (ret := (some .boolean)) (by decide) rfl ?_
  intro p e s m args below meth c s₁ B hml hv
  obtain ⟨rfl, hsz, hP, hCx, hD0⟩ := hv
  have hK := hCx.1
  have hN := hCx.2
  have hx := B.exec
  have hb := B.bytes
  have hr := B.returns
  have hts := atoms_spec (ws := wsX11_lade) B.pre
  have hown : s.vm.findClass RX11 = some m.cls := findClass_of_methodNamed B.named
  have hlocks := B.notSynchronized
  have hin7 : ∀ w ∈ u_ws RX7 TX7 14, w ∈ wsX11_lade := fun w h => List.mem_cons_of_mem _ (List.mem_append_left _ (List.mem_append_left _ (List.mem_append_right _ h)))
  have hin11 : ∀ w ∈ u_ws RX11 TX11 4, w ∈ wsX11_lade := fun w h => List.mem_cons_of_mem _ (List.mem_append_left _ (List.mem_append_left _ (List.mem_append_left _ (List.mem_append_right _ h))))
  have kf10 := hts (.fieldLink RX11 10 "HoldSlips" "now" "LHoldSlips$State;") (by decide +kernel)
  have kf102 := hts (.fieldLink RX11 102 "HoldSlips$State" "sailed" "Z") (by decide +kernel)
  subst hsz
  have hD := hD0.self (sz := s.heap.size)
  generalize hAe : va_A ((wX11 cyB cyI cyZ cyO h h_now h_images h_reader h_search) ++ ((wX7 cyB cyI cyZ cyO h_now h_now_tape h_now_law h_now_people h_now_rules h_now_cargo h_now_debts h_now_ledger M_h_now) ++ ((wX0 cyB cyI cyZ cyO h_now_cargo h_now_cargo_owner h_now_cargo_size h_now_cargo_weight h_now_cargo_worth h_now_cargo_level h_now_cargo_holder h_now_cargo_side h_now_cargo_planned M_h_now_cargo) ++ (wX2 cyB cyI cyZ cyO h_now_people h_now_people_rank h_now_people_widow h_now_people_slips h_now_people_given h_now_people_silver h_now_people_returns h_now_people_rents h_now_people_share h_now_people_rest M_h_now_people)))) s.heap.size = A at hD ⊢
  have hA : ∀ q : Nat, s.heap.size ≤ q → A q := fun q h => by rw [← hAe]; exact Or.inr h
  have hS : va_S A s.heap s.heap [] := va_S.rf
  have hl := lv_entry ([.ref h, .int p1, .int p2, .int p3] : List Value) (n := 4) (Nat.le_of_ble_eq_true rfl)
  rw [lg_entry_eq]
  generalize (lg_sl ([.ref h, .int p1, .int p2, .int p3] : List Value) ++ List.replicate (4 - (lg_sl ([.ref h, .int p1, .int p2, .int p3] : List Value)).length) Slot.unset).toArray = ls at hl ⊢
  have hl : lv_has ls 4 [(0, .ref h), (1, .int p1), (2, .int p2), (3, .int p3)] := hl
  rw [f_X11_lade] at hf
  refine lv_aload_n hx hb dX11_lade_0 rfl (lv_at hl 0 rfl) ?_
  refine va_get (D := (dC, dI)) (ci := 11) (v := .ref h_now) (C := RX11) (T := TX11) (N := 4) hx hb hts hin11 hown hK hP 0 rfl rfl 0 (by decide) kf10 (fun _ h9 => h9) rfl dX11_lade_1 ?_
  refine va_get (D := (dC, dI)) (ci := 7) (v := .int (M_h_now 10 0)) (C := RX7) (T := TX7) (N := 14) hx hb hts hin7 hown hK hP 1 rfl rfl 10 (by decide) kf102 (fun _ h9 => h9) rfl dX11_lade_4 ?_
  refine lv_if_ne (tgt := 19) hx hb dX11_lade_7 (by decide) (fun hc7 => ?_) (fun hc7 => ?_)
  · rw [if_neg hc7] at hf
    refine lv_iconst (v := (0 : Int32)) hx hb dX11_lade_19 (by decide) ?_
    obtain ⟨hq0, hq1⟩ := pj2 hf
    subst hq0
    subst hq1
    exact W.zret (v := (0 : Int32)) hx hb hr rfl (fun t ht hW => ⟨rfl, by rw [ht]; exact hP, hD, hS.F ht⟩) hS.2.2 dX11_lade_20
  · rw [if_pos hc7] at hf
    refine lv_iload_n hx hb dX11_lade_10 rfl (lv_at hl 3 rfl) ?_
    refine lv_iconst (v := (0 : Int32)) hx hb dX11_lade_11 (by decide) ?_
    refine lv_iconst (v := (1 : Int32)) hx hb dX11_lade_12 (by decide) ?_
    obtain ⟨r13, h13, hf⟩ := bd1_some hf
    have hPc := hP.sub (ws' := ([] : va_W)) [] rfl
    refine ro_calli (va_runS (As := [.int p3, .int (0 : Int32), .int (1 : Int32)]) (rest := []) ⟨hx, hb, hml, hown, hts⟩ (c_X11_within l dC dI cyB cyI cyZ cyO p3 (0 : Int32) (1 : Int32) r13 h13) (va_cwS 3 hts gX11_lade_X11_within rfl rfl rfl (by decide +kernel) ⟨Nat.le_of_ble_eq_true rfl, Nat.le_of_ble_eq_true rfl⟩) ⟨PR.blind, fun U hU hW => ⟨rfl, by rw [hU]; exact hPc, hCx.warm hW⟩⟩ rfl rfl hl.1 rfl (lv_room (Nat.le_of_ble_eq_true rfl)) dX11_lade_13 ⟨Nat.zero_le _, Nat.zero_le _⟩) ?_
    refine lv_if_ne (tgt := 21) hx hb dX11_lade_16 (by decide) (fun hc16 => ?_) (fun hc16 => ?_)
    · rw [if_neg hc16] at hf
      refine lv_aload_n hx hb dX11_lade_21 rfl (lv_at hl 0 rfl) ?_
      refine va_get (D := (dC, dI)) (ci := 11) (v := .ref h_now) (C := RX11) (T := TX11) (N := 4) hx hb hts hin11 hown hK hP 0 rfl rfl 0 (by decide) kf10 (fun _ h9 => h9) rfl dX11_lade_22 ?_
      refine lv_iload_n hx hb dX11_lade_25 rfl (lv_at hl 1 rfl) ?_
      refine lv_iload_n hx hb dX11_lade_26 rfl (lv_at hl 2 rfl) ?_
      refine lv_iload_n hx hb dX11_lade_27 rfl (lv_at hl 3 rfl) ?_
      obtain ⟨r28, M_h_now_cargo_28, h28, hf⟩ := bd2_some hf
      have hPc := hP.sub (ws' := ((wX7 cyB cyI cyZ cyO h_now h_now_tape h_now_law h_now_people h_now_rules h_now_cargo h_now_debts h_now_ledger M_h_now) ++ ((wX0 cyB cyI cyZ cyO h_now_cargo h_now_cargo_owner h_now_cargo_size h_now_cargo_weight h_now_cargo_worth h_now_cargo_level h_now_cargo_holder h_now_cargo_side h_now_cargo_planned M_h_now_cargo) ++ (wX2 cyB cyI cyZ cyO h_now_people h_now_people_rank h_now_people_widow h_now_people_slips h_now_people_given h_now_people_silver h_now_people_returns h_now_people_rents h_now_people_share h_now_people_rest M_h_now_people)))) [1, 2, 3, 4, 5, 6, 7, 8, 9, 10, 11, 12, 13, 14, 15, 16, 17, 18, 19, 20] rfl
      have hDc := hD.sub (ws' := ((wX7 cyB cyI cyZ cyO h_now h_now_tape h_now_law h_now_people h_now_rules h_now_cargo h_now_debts h_now_ledger M_h_now) ++ ((wX0 cyB cyI cyZ cyO h_now_cargo h_now_cargo_owner h_now_cargo_size h_now_cargo_weight h_now_cargo_worth h_now_cargo_level h_now_cargo_holder h_now_cargo_side h_now_cargo_planned M_h_now_cargo) ++ (wX2 cyB cyI cyZ cyO h_now_people h_now_people_rank h_now_people_widow h_now_people_slips h_now_people_given h_now_people_silver h_now_people_returns h_now_people_rents h_now_people_share h_now_people_rest M_h_now_people)))) [1, 2, 3, 4, 5, 6, 7, 8, 9, 10, 11, 12, 13, 14, 15, 16, 17, 18, 19, 20] (by decide) rfl
      refine wr_calli (wc := ((wX7 cyB cyI cyZ cyO h_now h_now_tape h_now_law h_now_people h_now_rules h_now_cargo h_now_debts h_now_ledger M_h_now) ++ ((wX0 cyB cyI cyZ cyO h_now_cargo h_now_cargo_owner h_now_cargo_size h_now_cargo_weight h_now_cargo_worth h_now_cargo_level h_now_cargo_holder h_now_cargo_side h_now_cargo_planned M_h_now_cargo) ++ (wX2 cyB cyI cyZ cyO h_now_people h_now_people_rank h_now_people_widow h_now_people_slips h_now_people_given h_now_people_silver h_now_people_returns h_now_people_rents h_now_people_share h_now_people_rest M_h_now_people)))) (wr := (wX11 cyB cyI cyZ cyO h h_now h_images h_reader h_search)) (w1 := ((wX7 cyB cyI cyZ cyO h_now h_now_tape h_now_law h_now_people h_now_rules h_now_cargo h_now_debts h_now_ledger M_h_now) ++ ((wX0 cyB cyI cyZ cyO h_now_cargo h_now_cargo_owner h_now_cargo_size h_now_cargo_weight h_now_cargo_worth h_now_cargo_level h_now_cargo_holder h_now_cargo_side h_now_cargo_planned M_h_now_cargo_28) ++ (wX2 cyB cyI cyZ cyO h_now_people h_now_people_rank h_now_people_widow h_now_people_slips h_now_people_given h_now_people_silver h_now_people_returns h_now_people_rents h_now_people_share h_now_people_rest M_h_now_people)))) (ws' := ((wX11 cyB cyI cyZ cyO h h_now h_images h_reader h_search) ++ ((wX7 cyB cyI cyZ cyO h_now h_now_tape h_now_law h_now_people h_now_rules h_now_cargo h_now_debts h_now_ledger M_h_now) ++ ((wX0 cyB cyI cyZ cyO h_now_cargo h_now_cargo_owner h_now_cargo_size h_now_cargo_weight h_now_cargo_worth h_now_cargo_level h_now_cargo_holder h_now_cargo_side h_now_cargo_planned M_h_now_cargo_28) ++ (wX2 cyB cyI cyZ cyO h_now_people h_now_people_rank h_now_people_widow h_now_people_slips h_now_people_given h_now_people_silver h_now_people_returns h_now_people_rents h_now_people_share h_now_people_rest M_h_now_people))))) hP hD hS hA [1, 2, 3, 4, 5, 6, 7, 8, 9, 10, 11, 12, 13, 14, 15, 16, 17, 18, 19, 20] [0] [0, 1, 2, 3, 4, 5, 6, 7, 8, 9, 10, 11, 12, 13, 14, 15, 16, 17, 18, 19, 20] rfl rfl (by decide) (by decide) rfl (by decide) (va_runV (As := [.int p1, .int p2, .int p3]) (rest := []) ⟨hx, hb, hml, hown, hts⟩ (c_X7_layBale l dC dI cyB cyI cyZ cyO h_now h_now_tape h_now_law h_now_people h_now_rules h_now_cargo h_now_debts h_now_ledger h_now_cargo_owner h_now_cargo_size h_now_cargo_weight h_now_cargo_worth h_now_cargo_level h_now_cargo_holder h_now_cargo_side h_now_cargo_planned h_now_people_rank h_now_people_widow h_now_people_slips h_now_people_given h_now_people_silver h_now_people_returns h_now_people_rents h_now_people_share h_now_people_rest _ M_h_now M_h_now_cargo M_h_now_people p1 p2 p3 r28 M_h_now_cargo_28 h28) (cwV 3 hts gX11_lade_X7_layBale rfl rfl rfl (by decide +kernel) ⟨Nat.le_of_ble_eq_true rfl, Nat.le_of_ble_eq_true rfl⟩) ⟨PW.blind, va_recv hK hP (ci := 7) (q0 := 1) rfl rfl, fun U hU hW => ⟨rfl, by rw [hU], by rw [hU]; exact hPc, hCx.warm hW, hDc.weaken (fun _ _ _ _ => trivial)⟩⟩ rfl rfl hl.1 rfl (lv_room (Nat.le_of_ble_eq_true rfl)) dX11_lade_28 ⟨Nat.zero_le _, Nat.zero_le _⟩) (fun H locs hP hD hS => ?_)
      have hb31 := Decidable.not_not.mp (if_no hf)
      rw [if_neg (not_not_intro hb31)] at hf
      obtain ⟨hq0, hq1⟩ := pj2 hf
      subst hq0
      subst hq1
      exact W.zret (v := r28) hx hb hr (nar_b hb31) (fun t ht hW => ⟨rfl, by rw [ht]; exact hP, hD, hS.F ht⟩) hS.2.2 dX11_lade_31
    · rw [if_pos hc16] at hf
      refine lv_iconst (v := (0 : Int32)) hx hb dX11_lade_19 (by decide) ?_
      obtain ⟨hq0, hq1⟩ := pj2 hf
      subst hq0
      subst hq1
      exact W.zret (v := (0 : Int32)) hx hb hr rfl (fun t ht hW => ⟨rfl, by rw [ht]; exact hP, hD, hS.F ht⟩) hS.2.2 dX11_lade_20
set_option maxHeartbeats 4000000 in
set_option maxRecDepth 100000 in
theorem c_X11_unlade (l : Launch) (dC : Nat → ClassId) (dI : Nat → Nat → Nat) (cyB cyI cyZ cyO : ClassId) (h h_now h_images h_reader h_search h_now_tape h_now_law h_now_people h_now_rules h_now_cargo h_now_debts h_now_ledger h_now_cargo_owner h_now_cargo_size h_now_cargo_weight h_now_cargo_worth h_now_cargo_level h_now_cargo_holder h_now_cargo_side h_now_cargo_planned : Nat) (sz : Nat) (M_h_now : Mem) (M_h_now_cargo : Mem) (p1 : Int32) (r : Int32) (R_h_now_cargo : Mem) (hf : f_X11_unlade M_h_now M_h_now_cargo p1 = some (r, R_h_now_cargo)) : Met l yX11_unlade wsX11_unlade ({ frames := 3, cells := 0, slots := 0, locals := 64 } : Room) (PW dC dI cyB cyI cyZ cyO ([.ref h, .int p1] : List Value) ((wX11 cyB cyI cyZ cyO h h_now h_images h_reader h_search) ++ ((wX7 cyB cyI cyZ cyO h_now h_now_tape h_now_law h_now_people h_now_rules h_now_cargo h_now_debts h_now_ledger M_h_now) ++ (wX0 cyB cyI cyZ cyO h_now_cargo h_now_cargo_owner h_now_cargo_size h_now_cargo_weight h_now_cargo_worth h_now_cargo_level h_now_cargo_holder h_now_cargo_side h_now_cargo_planned M_h_now_cargo))) sz) (QW dC dI (some (.int r)) ((wX11 cyB cyI cyZ cyO h h_now h_images h_reader h_search) ++ ((wX7 cyB cyI cyZ cyO h_now h_now_tape h_now_law h_now_people h_now_rules h_now_cargo h_now_debts h_now_ledger M_h_now) ++ (wX0 cyB cyI cyZ cyO h_now_cargo h_now_cargo_owner h_now_cargo_size h_now_cargo_weight h_now_cargo_worth h_now_cargo_level h_now_cargo_holder h_now_cargo_side h_now_cargo_planned R_h_now_cargo))) (va_A ((wX11 cyB cyI cyZ cyO h h_now h_images h_reader h_search) ++ ((wX7 cyB cyI cyZ cyO h_now h_now_tape h_now_law h_now_people h_now_rules h_now_cargo h_now_debts h_now_ledger M_h_now) ++ (wX0 cyB cyI cyZ cyO h_now_cargo h_now_cargo_owner h_now_cargo_size h_now_cargo_weight h_now_cargo_worth h_now_cargo_level h_now_cargo_holder h_now_cargo_side h_now_cargo_planned M_h_now_cargo))) sz)) 0 0 (va_A ((wX11 cyB cyI cyZ cyO h h_now h_images h_reader h_search) ++ ((wX7 cyB cyI cyZ cyO h_now h_now_tape h_now_law h_now_people h_now_rules h_now_cargo h_now_debts h_now_ledger M_h_now) ++ (wX0 cyB cyI cyZ cyO h_now_cargo h_now_cargo_owner h_now_cargo_size h_now_cargo_weight h_now_cargo_worth h_now_cargo_level h_now_cargo_holder h_now_cargo_side h_now_cargo_planned M_h_now_cargo))) sz) := by
  refine Met.ofW (cc := cX11_unlade) (maxL := 2) (ret := (some .boolean)) (by decide) rfl ?_
  intro p e s m args below meth c s₁ B hml hv
  obtain ⟨rfl, hsz, hP, hCx, hD0⟩ := hv
  have hK := hCx.1
  have hN := hCx.2
  have hx := B.exec
  have hb := B.bytes
  have hr := B.returns
  have hts := atoms_spec (ws := wsX11_unlade) B.pre
  have hown : s.vm.findClass RX11 = some m.cls := findClass_of_methodNamed B.named
  have hlocks := B.notSynchronized
  have hin7 : ∀ w ∈ u_ws RX7 TX7 14, w ∈ wsX11_unlade := fun w h => List.mem_cons_of_mem _ (List.mem_append_left _ (List.mem_append_right _ h))
  have hin11 : ∀ w ∈ u_ws RX11 TX11 4, w ∈ wsX11_unlade := fun w h => List.mem_cons_of_mem _ (List.mem_append_left _ (List.mem_append_left _ (List.mem_append_right _ h)))
  have kf10 := hts (.fieldLink RX11 10 "HoldSlips" "now" "LHoldSlips$State;") (by decide +kernel)
  have kf102 := hts (.fieldLink RX11 102 "HoldSlips$State" "sailed" "Z") (by decide +kernel)
  have kf131 := hts (.fieldLink RX11 131 "HoldSlips$State" "cargo" "LHoldSlips$Bales;") (by decide +kernel)
  subst hsz
  have hD := hD0.self (sz := s.heap.size)
  generalize hAe : va_A ((wX11 cyB cyI cyZ cyO h h_now h_images h_reader h_search) ++ ((wX7 cyB cyI cyZ cyO h_now h_now_tape h_now_law h_now_people h_now_rules h_now_cargo h_now_debts h_now_ledger M_h_now) ++ (wX0 cyB cyI cyZ cyO h_now_cargo h_now_cargo_owner h_now_cargo_size h_now_cargo_weight h_now_cargo_worth h_now_cargo_level h_now_cargo_holder h_now_cargo_side h_now_cargo_planned M_h_now_cargo))) s.heap.size = A at hD ⊢
  have hA : ∀ q : Nat, s.heap.size ≤ q → A q := fun q h => by rw [← hAe]; exact Or.inr h
  have hS : va_S A s.heap s.heap [] := va_S.rf
  have hl := lv_entry ([.ref h, .int p1] : List Value) (n := 2) (Nat.le_of_ble_eq_true rfl)
  rw [lg_entry_eq]
  generalize (lg_sl ([.ref h, .int p1] : List Value) ++ List.replicate (2 - (lg_sl ([.ref h, .int p1] : List Value)).length) Slot.unset).toArray = ls at hl ⊢
  have hl : lv_has ls 2 [(0, .ref h), (1, .int p1)] := hl
  rw [f_X11_unlade] at hf
  refine lv_aload_n hx hb dX11_unlade_0 rfl (lv_at hl 0 rfl) ?_
  refine va_get (D := (dC, dI)) (ci := 11) (v := .ref h_now) (C := RX11) (T := TX11) (N := 4) hx hb hts hin11 hown hK hP 0 rfl rfl 0 (by decide) kf10 (fun _ h9 => h9) rfl dX11_unlade_1 ?_
  refine va_get (D := (dC, dI)) (ci := 7) (v := .int (M_h_now 10 0)) (C := RX7) (T := TX7) (N := 14) hx hb hts hin7 hown hK hP 1 rfl rfl 10 (by decide) kf102 (fun _ h9 => h9) rfl dX11_unlade_4 ?_
  refine lv_if_ne (tgt := 24) hx hb dX11_unlade_7 (by decide) (fun hc7 => ?_) (fun hc7 => ?_)
  · rw [if_neg hc7] at hf
    refine lv_iconst (v := (0 : Int32)) hx hb dX11_unlade_24 (by decide) ?_
    obtain ⟨hq0, hq1⟩ := pj2 hf
    subst hq0
    subst hq1
    exact W.zret (v := (0 : Int32)) hx hb hr rfl (fun t ht hW => ⟨rfl, by rw [ht]; exact hP, hD, hS.F ht⟩) hS.2.2 dX11_unlade_25
  · rw [if_pos hc7] at hf
    refine lv_aload_n hx hb dX11_unlade_10 rfl (lv_at hl 0 rfl) ?_
    refine va_get (D := (dC, dI)) (ci := 11) (v := .ref h_now) (C := RX11) (T := TX11) (N := 4) hx hb hts hin11 hown hK hP 0 rfl rfl 0 (by decide) kf10 (fun _ h9 => h9) rfl dX11_unlade_11 ?_
    refine va_get (D := (dC, dI)) (ci := 7) (v := .ref h_now_cargo) (C := RX7) (T := TX7) (N := 14) hx hb hts hin7 hown hK hP 1 rfl rfl 4 (by decide) kf131 (fun _ h9 => h9) rfl dX11_unlade_14 ?_
    refine lv_iload_n hx hb dX11_unlade_17 rfl (lv_at hl 1 rfl) ?_
    obtain ⟨r18, h18, hf⟩ := bd1_some hf
    have hPc := hP.sub (ws' := (wX0 cyB cyI cyZ cyO h_now_cargo h_now_cargo_owner h_now_cargo_size h_now_cargo_weight h_now_cargo_worth h_now_cargo_level h_now_cargo_holder h_now_cargo_side h_now_cargo_planned M_h_now_cargo)) [2, 3, 4, 5, 6, 7, 8, 9, 10] rfl
    refine ro_calli (va_runV (As := [.int p1]) (rest := []) ⟨hx, hb, hml, hown, hts⟩ (c_X0_lies l dC dI cyB cyI cyZ cyO h_now_cargo h_now_cargo_owner h_now_cargo_size h_now_cargo_weight h_now_cargo_worth h_now_cargo_level h_now_cargo_holder h_now_cargo_side h_now_cargo_planned M_h_now_cargo p1 r18 h18) (cwV 1 hts gX11_unlade_X0_lies rfl rfl rfl (by decide +kernel) ⟨Nat.le_of_ble_eq_true rfl, Nat.le_of_ble_eq_true rfl⟩) ⟨PR.blind, va_recv hK hP (ci := 0) (q0 := 2) rfl rfl, fun U hU hW => ⟨rfl, by rw [hU]; exact hPc, hCx.warm hW⟩⟩ rfl rfl hl.1 rfl (lv_room (Nat.le_of_ble_eq_true rfl)) dX11_unlade_18 ⟨Nat.zero_le _, Nat.zero_le _⟩) ?_
    refine lv_if_ne (tgt := 26) hx hb dX11_unlade_21 (by decide) (fun hc21 => ?_) (fun hc21 => ?_)
    · rw [if_neg hc21] at hf
      refine lv_aload_n hx hb dX11_unlade_26 rfl (lv_at hl 0 rfl) ?_
      refine va_get (D := (dC, dI)) (ci := 11) (v := .ref h_now) (C := RX11) (T := TX11) (N := 4) hx hb hts hin11 hown hK hP 0 rfl rfl 0 (by decide) kf10 (fun _ h9 => h9) rfl dX11_unlade_27 ?_
      refine va_get (D := (dC, dI)) (ci := 7) (v := .ref h_now_cargo) (C := RX7) (T := TX7) (N := 14) hx hb hts hin7 hown hK hP 1 rfl rfl 4 (by decide) kf131 (fun _ h9 => h9) rfl dX11_unlade_30 ?_
      refine lv_iload_n hx hb dX11_unlade_33 rfl (lv_at hl 1 rfl) ?_
      obtain ⟨M_h_now_cargo_34, h34, hf⟩ := bd1_some hf
      have hPc := hP.sub (ws' := (wX0 cyB cyI cyZ cyO h_now_cargo h_now_cargo_owner h_now_cargo_size h_now_cargo_weight h_now_cargo_worth h_now_cargo_level h_now_cargo_holder h_now_cargo_side h_now_cargo_planned M_h_now_cargo)) [2, 3, 4, 5, 6, 7, 8, 9, 10] rfl
      have hDc := hD.sub (ws' := (wX0 cyB cyI cyZ cyO h_now_cargo h_now_cargo_owner h_now_cargo_size h_now_cargo_weight h_now_cargo_worth h_now_cargo_level h_now_cargo_holder h_now_cargo_side h_now_cargo_planned M_h_now_cargo)) [2, 3, 4, 5, 6, 7, 8, 9, 10] (by decide) rfl
      refine wr_callv (wc := (wX0 cyB cyI cyZ cyO h_now_cargo h_now_cargo_owner h_now_cargo_size h_now_cargo_weight h_now_cargo_worth h_now_cargo_level h_now_cargo_holder h_now_cargo_side h_now_cargo_planned M_h_now_cargo)) (wr := ((wX11 cyB cyI cyZ cyO h h_now h_images h_reader h_search) ++ (wX7 cyB cyI cyZ cyO h_now h_now_tape h_now_law h_now_people h_now_rules h_now_cargo h_now_debts h_now_ledger M_h_now))) (w1 := (wX0 cyB cyI cyZ cyO h_now_cargo h_now_cargo_owner h_now_cargo_size h_now_cargo_weight h_now_cargo_worth h_now_cargo_level h_now_cargo_holder h_now_cargo_side h_now_cargo_planned M_h_now_cargo_34)) (ws' := ((wX11 cyB cyI cyZ cyO h h_now h_images h_reader h_search) ++ ((wX7 cyB cyI cyZ cyO h_now h_now_tape h_now_law h_now_people h_now_rules h_now_cargo h_now_debts h_now_ledger M_h_now) ++ (wX0 cyB cyI cyZ cyO h_now_cargo h_now_cargo_owner h_now_cargo_size h_now_cargo_weight h_now_cargo_worth h_now_cargo_level h_now_cargo_holder h_now_cargo_side h_now_cargo_planned M_h_now_cargo_34)))) hP hD hS hA [2, 3, 4, 5, 6, 7, 8, 9, 10] [0, 1] [0, 1, 2, 3, 4, 5, 6, 7, 8, 9, 10] rfl rfl (by decide) (by decide) rfl (by decide) (va_runV (As := [.int p1]) (rest := []) ⟨hx, hb, hml, hown, hts⟩ (c_X0_takeOff l dC dI cyB cyI cyZ cyO h_now_cargo h_now_cargo_owner h_now_cargo_size h_now_cargo_weight h_now_cargo_worth h_now_cargo_level h_now_cargo_holder h_now_cargo_side h_now_cargo_planned _ M_h_now_cargo p1 M_h_now_cargo_34 h34) (cwV 1 hts gX11_unlade_X0_takeOff rfl rfl rfl (by decide +kernel) ⟨Nat.le_of_ble_eq_true rfl, Nat.le_of_ble_eq_true rfl⟩) ⟨PW.blind, va_recv hK hP (ci := 0) (q0 := 2) rfl rfl, fun U hU hW => ⟨rfl, by rw [hU], by rw [hU]; exact hPc, hCx.warm hW, hDc.weaken (fun _ _ _ _ => trivial)⟩⟩ rfl rfl hl.1 rfl (lv_room (Nat.le_of_ble_eq_true rfl)) dX11_unlade_34 ⟨Nat.zero_le _, Nat.zero_le _⟩) (fun H locs hP hD hS => ?_)
      refine lv_iconst (v := (1 : Int32)) hx hb dX11_unlade_37 (by decide) ?_
      obtain ⟨hq0, hq1⟩ := pj2 hf
      subst hq0
      subst hq1
      exact W.zret (v := (1 : Int32)) hx hb hr rfl (fun t ht hW => ⟨rfl, by rw [ht]; exact hP, hD, hS.F ht⟩) hS.2.2 dX11_unlade_38
    · rw [if_pos hc21] at hf
      refine lv_iconst (v := (0 : Int32)) hx hb dX11_unlade_24 (by decide) ?_
      obtain ⟨hq0, hq1⟩ := pj2 hf
      subst hq0
      subst hq1
      exact W.zret (v := (0 : Int32)) hx hb hr rfl (fun t ht hW => ⟨rfl, by rw [ht]; exact hP, hD, hS.F ht⟩) hS.2.2 dX11_unlade_25
set_option maxHeartbeats 4000000 in
set_option maxRecDepth 100000 in
theorem c_X11_best (l : Launch) (dC : Nat → ClassId) (dI : Nat → Nat → Nat) (cyB cyI cyZ cyO : ClassId) (h h_now h_images h_reader h_search h_now_tape h_now_law h_now_people h_now_rules h_now_cargo h_now_debts h_now_ledger h_now_cargo_owner h_now_cargo_size h_now_cargo_weight h_now_cargo_worth h_now_cargo_level h_now_cargo_holder h_now_cargo_side h_now_cargo_planned h_now_people_rank h_now_people_widow h_now_people_slips h_now_people_given h_now_people_silver h_now_people_returns h_now_people_rents h_now_people_share h_now_people_rest h_search_bale h_search_owner h_search_room h_search_value h_search_weight h_search_roomFrom h_search_valueFrom h_search_weightFrom h_search_free h_search_side h_search_bestSide : Nat) (sz : Nat) (M_h_now : Mem) (M_h_now_cargo : Mem) (M_h_now_people : Mem) (M_h_now_rules : Mem) (M_h_search : Mem) (r : Int32) (R_h_now_cargo : Mem) (R_h_search : Mem) (hf : f_X11_best M_h_now M_h_now_cargo M_h_now_people M_h_now_rules M_h_search = some (r, R_h_now_cargo, R_h_search)) : Met l yX11_best wsX11_best ({ frames := 21, cells := 0, slots := 0, locals := 601 } : Room) (PW dC dI cyB cyI cyZ cyO ([.ref h] : List Value) ((wX11 cyB cyI cyZ cyO h h_now h_images h_reader h_search) ++ ((wX7 cyB cyI cyZ cyO h_now h_now_tape h_now_law h_now_people h_now_rules h_now_cargo h_now_debts h_now_ledger M_h_now) ++ ((wX0 cyB cyI cyZ cyO h_now_cargo h_now_cargo_owner h_now_cargo_size h_now_cargo_weight h_now_cargo_worth h_now_cargo_level h_now_cargo_holder h_now_cargo_side h_now_cargo_planned M_h_now_cargo) ++ ((wX2 cyB cyI cyZ cyO h_now_people h_now_people_rank h_now_people_widow h_now_people_slips h_now_people_given h_now_people_silver h_now_people_returns h_now_people_rents h_now_people_share h_now_people_rest M_h_now_people) ++ ((wX6 cyB cyI cyZ cyO h_now_rules M_h_now_rules) ++ (wX1 cyB cyI cyZ cyO h_search h_search_bale h_search_owner h_search_room h_search_value h_search_weight h_search_roomFrom h_search_valueFrom h_search_weightFrom h_search_free h_search_side h_search_bestSide M_h_search)))))) sz) (QW dC dI (some (.int r)) ((wX11 cyB cyI cyZ cyO h h_now h_images h_reader h_search) ++ ((wX7 cyB cyI cyZ cyO h_now h_now_tape h_now_law h_now_people h_now_rules h_now_cargo h_now_debts h_now_ledger M_h_now) ++ ((wX0 cyB cyI cyZ cyO h_now_cargo h_now_cargo_owner h_now_cargo_size h_now_cargo_weight h_now_cargo_worth h_now_cargo_level h_now_cargo_holder h_now_cargo_side h_now_cargo_planned R_h_now_cargo) ++ ((wX2 cyB cyI cyZ cyO h_now_people h_now_people_rank h_now_people_widow h_now_people_slips h_now_people_given h_now_people_silver h_now_people_returns h_now_people_rents h_now_people_share h_now_people_rest M_h_now_people) ++ ((wX6 cyB cyI cyZ cyO h_now_rules M_h_now_rules) ++ (wX1 cyB cyI cyZ cyO h_search h_search_bale h_search_owner h_search_room h_search_value h_search_weight h_search_roomFrom h_search_valueFrom h_search_weightFrom h_search_free h_search_side h_search_bestSide R_h_search)))))) (va_A ((wX11 cyB cyI cyZ cyO h h_now h_images h_reader h_search) ++ ((wX7 cyB cyI cyZ cyO h_now h_now_tape h_now_law h_now_people h_now_rules h_now_cargo h_now_debts h_now_ledger M_h_now) ++ ((wX0 cyB cyI cyZ cyO h_now_cargo h_now_cargo_owner h_now_cargo_size h_now_cargo_weight h_now_cargo_worth h_now_cargo_level h_now_cargo_holder h_now_cargo_side h_now_cargo_planned M_h_now_cargo) ++ ((wX2 cyB cyI cyZ cyO h_now_people h_now_people_rank h_now_people_widow h_now_people_slips h_now_people_given h_now_people_silver h_now_people_returns h_now_people_rents h_now_people_share h_now_people_rest M_h_now_people) ++ ((wX6 cyB cyI cyZ cyO h_now_rules M_h_now_rules) ++ (wX1 cyB cyI cyZ cyO h_search h_search_bale h_search_owner h_search_room h_search_value h_search_weight h_search_roomFrom h_search_valueFrom h_search_weightFrom h_search_free h_search_side h_search_bestSide M_h_search)))))) sz)) 0 0 (va_A ((wX11 cyB cyI cyZ cyO h h_now h_images h_reader h_search) ++ ((wX7 cyB cyI cyZ cyO h_now h_now_tape h_now_law h_now_people h_now_rules h_now_cargo h_now_debts h_now_ledger M_h_now) ++ ((wX0 cyB cyI cyZ cyO h_now_cargo h_now_cargo_owner h_now_cargo_size h_now_cargo_weight h_now_cargo_worth h_now_cargo_level h_now_cargo_holder h_now_cargo_side h_now_cargo_planned M_h_now_cargo) ++ ((wX2 cyB cyI cyZ cyO h_now_people h_now_people_rank h_now_people_widow h_now_people_slips h_now_people_given h_now_people_silver h_now_people_returns h_now_people_rents h_now_people_share h_now_people_rest M_h_now_people) ++ ((wX6 cyB cyI cyZ cyO h_now_rules M_h_now_rules) ++ (wX1 cyB cyI cyZ cyO h_search h_search_bale h_search_owner h_search_room h_search_value h_search_weight h_search_roomFrom h_search_valueFrom h_search_weightFrom h_search_free h_search_side h_search_bestSide M_h_search)))))) sz) := by
  refine Met.ofW (cc := cX11_best) (maxL := 1) (ret := (some .int)) (by decide) rfl ?_
  intro p e s m args below meth c s₁ B hml hv
  obtain ⟨rfl, hsz, hP, hCx, hD0⟩ := hv
  have hK := hCx.1
  have hN := hCx.2
  have hx := B.exec
  have hb := B.bytes
  have hr := B.returns
  have hts := atoms_spec (ws := wsX11_best) B.pre
  have hown : s.vm.findClass RX11 = some m.cls := findClass_of_methodNamed B.named
  have hlocks := B.notSynchronized
  have hin1 : ∀ w ∈ u_ws RX1 TX1 17, w ∈ wsX11_best := fun w h => List.mem_cons_of_mem _ (List.mem_append_left _ (List.mem_append_left _ (List.mem_append_left _ (List.mem_append_right _ h))))
  have hin7 : ∀ w ∈ u_ws RX7 TX7 14, w ∈ wsX11_best := fun w h => List.mem_cons_of_mem _ (List.mem_append_left _ (List.mem_append_left _ (List.mem_append_left _ (List.mem_append_left _ (List.mem_append_right _ h)))))
  have hin11 : ∀ w ∈ u_ws RX11 TX11 4, w ∈ wsX11_best := fun w h => List.mem_cons_of_mem _ (List.mem_append_left _ (List.mem_append_left _ (List.mem_append_left _ (List.mem_append_left _ (List.mem_append_left _ (List.mem_append_right _ h))))))
  have kf10 := hts (.fieldLink RX11 10 "HoldSlips" "now" "LHoldSlips$State;") (by decide +kernel)
  have kf30 := hts (.fieldLink RX11 30 "HoldSlips" "search" "LHoldSlips$BestSearch;") (by decide +kernel)
  have kf102 := hts (.fieldLink RX11 102 "HoldSlips$State" "sailed" "Z") (by decide +kernel)
  have kf131 := hts (.fieldLink RX11 131 "HoldSlips$State" "cargo" "LHoldSlips$Bales;") (by decide +kernel)
  have kf163 := hts (.fieldLink RX11 163 "HoldSlips$BestSearch" "found" "Z") (by decide +kernel)
  have kf170 := hts (.fieldLink RX11 170 "HoldSlips$BestSearch" "bestValue" "I") (by decide +kernel)
  subst hsz
  have hD := hD0.self (sz := s.heap.size)
  generalize hAe : va_A ((wX11 cyB cyI cyZ cyO h h_now h_images h_reader h_search) ++ ((wX7 cyB cyI cyZ cyO h_now h_now_tape h_now_law h_now_people h_now_rules h_now_cargo h_now_debts h_now_ledger M_h_now) ++ ((wX0 cyB cyI cyZ cyO h_now_cargo h_now_cargo_owner h_now_cargo_size h_now_cargo_weight h_now_cargo_worth h_now_cargo_level h_now_cargo_holder h_now_cargo_side h_now_cargo_planned M_h_now_cargo) ++ ((wX2 cyB cyI cyZ cyO h_now_people h_now_people_rank h_now_people_widow h_now_people_slips h_now_people_given h_now_people_silver h_now_people_returns h_now_people_rents h_now_people_share h_now_people_rest M_h_now_people) ++ ((wX6 cyB cyI cyZ cyO h_now_rules M_h_now_rules) ++ (wX1 cyB cyI cyZ cyO h_search h_search_bale h_search_owner h_search_room h_search_value h_search_weight h_search_roomFrom h_search_valueFrom h_search_weightFrom h_search_free h_search_side h_search_bestSide M_h_search)))))) s.heap.size = A at hD ⊢
  have hA : ∀ q : Nat, s.heap.size ≤ q → A q := fun q h => by rw [← hAe]; exact Or.inr h
  have hS : va_S A s.heap s.heap [] := va_S.rf
  have hl := lv_entry ([.ref h] : List Value) (n := 1) (Nat.le_of_ble_eq_true rfl)
  rw [lg_entry_eq]
  generalize (lg_sl ([.ref h] : List Value) ++ List.replicate (1 - (lg_sl ([.ref h] : List Value)).length) Slot.unset).toArray = ls at hl ⊢
  have hl : lv_has ls 1 [(0, .ref h)] := hl
  rw [f_X11_best] at hf
  refine lv_aload_n hx hb dX11_best_0 rfl (lv_at hl 0 rfl) ?_
  refine va_get (D := (dC, dI)) (ci := 11) (v := .ref h_now) (C := RX11) (T := TX11) (N := 4) hx hb hts hin11 hown hK hP 0 rfl rfl 0 (by decide) kf10 (fun _ h9 => h9) rfl dX11_best_1 ?_
  refine va_get (D := (dC, dI)) (ci := 7) (v := .int (M_h_now 10 0)) (C := RX7) (T := TX7) (N := 14) hx hb hts hin7 hown hK hP 1 rfl rfl 10 (by decide) kf102 (fun _ h9 => h9) rfl dX11_best_4 ?_
  refine lv_if_ne (tgt := 25) hx hb dX11_best_7 (by decide) (fun hc7 => ?_) (fun hc7 => ?_)
  · rw [if_neg hc7] at hf
    refine lv_iconst (v := (-1 : Int32)) hx hb dX11_best_25 (by decide) ?_
    obtain ⟨hq0, hq1, hq2⟩ := pj3 hf
    subst hq0
    subst hq1
    subst hq2
    exact W.iret (v := (-1 : Int32)) hx hb hr (fun t ht hW => ⟨rfl, by rw [ht]; exact hP, hD, hS.F ht⟩) hS.2.2 dX11_best_26
  · rw [if_pos hc7] at hf
    refine lv_aload_n hx hb dX11_best_10 rfl (lv_at hl 0 rfl) ?_
    refine va_get (D := (dC, dI)) (ci := 11) (v := .ref h_now) (C := RX11) (T := TX11) (N := 4) hx hb hts hin11 hown hK hP 0 rfl rfl 0 (by decide) kf10 (fun _ h9 => h9) rfl dX11_best_11 ?_
    refine va_get (D := (dC, dI)) (ci := 7) (v := .ref h_now_cargo) (C := RX7) (T := TX7) (N := 14) hx hb hts hin7 hown hK hP 1 rfl rfl 4 (by decide) kf131 (fun _ h9 => h9) rfl dX11_best_14 ?_
    obtain ⟨r17, h17, hf⟩ := bd1_some hf
    have hPc := hP.sub (ws' := (wX0 cyB cyI cyZ cyO h_now_cargo h_now_cargo_owner h_now_cargo_size h_now_cargo_weight h_now_cargo_worth h_now_cargo_level h_now_cargo_holder h_now_cargo_side h_now_cargo_planned M_h_now_cargo)) [2, 3, 4, 5, 6, 7, 8, 9, 10] rfl
    refine ro_calli (va_runV (As := []) (rest := []) ⟨hx, hb, hml, hown, hts⟩ (c_X0_waiting l dC dI cyB cyI cyZ cyO h_now_cargo h_now_cargo_owner h_now_cargo_size h_now_cargo_weight h_now_cargo_worth h_now_cargo_level h_now_cargo_holder h_now_cargo_side h_now_cargo_planned M_h_now_cargo r17 h17) (cwV 0 hts gX11_best_X0_waiting rfl rfl rfl (by decide +kernel) ⟨Nat.le_of_ble_eq_true rfl, Nat.le_of_ble_eq_true rfl⟩) ⟨PR.blind, va_recv hK hP (ci := 0) (q0 := 2) rfl rfl, fun U hU hW => ⟨rfl, by rw [hU]; exact hPc, hCx.warm hW⟩⟩ rfl rfl hl.1 rfl (lv_room (Nat.le_of_ble_eq_true rfl)) dX11_best_17 ⟨Nat.zero_le _, Nat.zero_le _⟩) ?_
    refine lv_bipush (v := (9 : Int32)) hx hb dX11_best_20 (by decide) ?_
    refine lv_icmp_le (tgt := 27) hx hb dX11_best_22 (by decide) (fun hc22 => ?_) (fun hc22 => ?_)
    · rw [if_pos hc22] at hf
      refine lv_aload_n hx hb dX11_best_27 rfl (lv_at hl 0 rfl) ?_
      refine va_get (D := (dC, dI)) (ci := 11) (v := .ref h_search) (C := RX11) (T := TX11) (N := 4) hx hb hts hin11 hown hK hP 0 rfl rfl 3 (by decide) kf30 (fun _ h9 => h9) rfl dX11_best_28 ?_
      refine lv_aload_n hx hb dX11_best_31 rfl (lv_at hl 0 rfl) ?_
      refine va_get (D := (dC, dI)) (ci := 11) (v := .ref h_now) (C := RX11) (T := TX11) (N := 4) hx hb hts hin11 hown hK hP 0 rfl rfl 0 (by decide) kf10 (fun _ h9 => h9) rfl dX11_best_32 ?_
      obtain ⟨M_h_search_35, h35, hf⟩ := bd1_some hf
      have hPc := hP.sub (ws' := ((wX7 cyB cyI cyZ cyO h_now h_now_tape h_now_law h_now_people h_now_rules h_now_cargo h_now_debts h_now_ledger M_h_now) ++ ((wX0 cyB cyI cyZ cyO h_now_cargo h_now_cargo_owner h_now_cargo_size h_now_cargo_weight h_now_cargo_worth h_now_cargo_level h_now_cargo_holder h_now_cargo_side h_now_cargo_planned M_h_now_cargo) ++ ((wX2 cyB cyI cyZ cyO h_now_people h_now_people_rank h_now_people_widow h_now_people_slips h_now_people_given h_now_people_silver h_now_people_returns h_now_people_rents h_now_people_share h_now_people_rest M_h_now_people) ++ ((wX6 cyB cyI cyZ cyO h_now_rules M_h_now_rules) ++ (wX1 cyB cyI cyZ cyO h_search h_search_bale h_search_owner h_search_room h_search_value h_search_weight h_search_roomFrom h_search_valueFrom h_search_weightFrom h_search_free h_search_side h_search_bestSide M_h_search)))))) [1, 2, 3, 4, 5, 6, 7, 8, 9, 10, 11, 12, 13, 14, 15, 16, 17, 18, 19, 20, 21, 22, 23, 24, 25, 26, 27, 28, 29, 30, 31, 32, 33] rfl
      have hDc := hD.sub (ws' := ((wX7 cyB cyI cyZ cyO h_now h_now_tape h_now_law h_now_people h_now_rules h_now_cargo h_now_debts h_now_ledger M_h_now) ++ ((wX0 cyB cyI cyZ cyO h_now_cargo h_now_cargo_owner h_now_cargo_size h_now_cargo_weight h_now_cargo_worth h_now_cargo_level h_now_cargo_holder h_now_cargo_side h_now_cargo_planned M_h_now_cargo) ++ ((wX2 cyB cyI cyZ cyO h_now_people h_now_people_rank h_now_people_widow h_now_people_slips h_now_people_given h_now_people_silver h_now_people_returns h_now_people_rents h_now_people_share h_now_people_rest M_h_now_people) ++ ((wX6 cyB cyI cyZ cyO h_now_rules M_h_now_rules) ++ (wX1 cyB cyI cyZ cyO h_search h_search_bale h_search_owner h_search_room h_search_value h_search_weight h_search_roomFrom h_search_valueFrom h_search_weightFrom h_search_free h_search_side h_search_bestSide M_h_search)))))) [1, 2, 3, 4, 5, 6, 7, 8, 9, 10, 11, 12, 13, 14, 15, 16, 17, 18, 19, 20, 21, 22, 23, 24, 25, 26, 27, 28, 29, 30, 31, 32, 33] (by decide) rfl
      refine wr_callv (wc := ((wX7 cyB cyI cyZ cyO h_now h_now_tape h_now_law h_now_people h_now_rules h_now_cargo h_now_debts h_now_ledger M_h_now) ++ ((wX0 cyB cyI cyZ cyO h_now_cargo h_now_cargo_owner h_now_cargo_size h_now_cargo_weight h_now_cargo_worth h_now_cargo_level h_now_cargo_holder h_now_cargo_side h_now_cargo_planned M_h_now_cargo) ++ ((wX2 cyB cyI cyZ cyO h_now_people h_now_people_rank h_now_people_widow h_now_people_slips h_now_people_given h_now_people_silver h_now_people_returns h_now_people_rents h_now_people_share h_now_people_rest M_h_now_people) ++ ((wX6 cyB cyI cyZ cyO h_now_rules M_h_now_rules) ++ (wX1 cyB cyI cyZ cyO h_search h_search_bale h_search_owner h_search_room h_search_value h_search_weight h_search_roomFrom h_search_valueFrom h_search_weightFrom h_search_free h_search_side h_search_bestSide M_h_search)))))) (wr := (wX11 cyB cyI cyZ cyO h h_now h_images h_reader h_search)) (w1 := ((wX7 cyB cyI cyZ cyO h_now h_now_tape h_now_law h_now_people h_now_rules h_now_cargo h_now_debts h_now_ledger M_h_now) ++ ((wX0 cyB cyI cyZ cyO h_now_cargo h_now_cargo_owner h_now_cargo_size h_now_cargo_weight h_now_cargo_worth h_now_cargo_level h_now_cargo_holder h_now_cargo_side h_now_cargo_planned M_h_now_cargo) ++ ((wX2 cyB cyI cyZ cyO h_now_people h_now_people_rank h_now_people_widow h_now_people_slips h_now_people_given h_now_people_silver h_now_people_returns h_now_people_rents h_now_people_share h_now_people_rest M_h_now_people) ++ ((wX6 cyB cyI cyZ cyO h_now_rules M_h_now_rules) ++ (wX1 cyB cyI cyZ cyO h_search h_search_bale h_search_owner h_search_room h_search_value h_search_weight h_search_roomFrom h_search_valueFrom h_search_weightFrom h_search_free h_search_side h_search_bestSide M_h_search_35)))))) (ws' := ((wX11 cyB cyI cyZ cyO h h_now h_images h_reader h_search) ++ ((wX7 cyB cyI cyZ cyO h_now h_now_tape h_now_law h_now_people h_now_rules h_now_cargo h_now_debts h_now_ledger M_h_now) ++ ((wX0 cyB cyI cyZ cyO h_now_cargo h_now_cargo_owner h_now_cargo_size h_now_cargo_weight h_now_cargo_worth h_now_cargo_level h_now_cargo_holder h_now_cargo_side h_now_cargo_planned M_h_now_cargo) ++ ((wX2 cyB cyI cyZ cyO h_now_people h_now_people_rank h_now_people_widow h_now_people_slips h_now_people_given h_now_people_silver h_now_people_returns h_now_people_rents h_now_people_share h_now_people_rest M_h_now_people) ++ ((wX6 cyB cyI cyZ cyO h_now_rules M_h_now_rules) ++ (wX1 cyB cyI cyZ cyO h_search h_search_bale h_search_owner h_search_room h_search_value h_search_weight h_search_roomFrom h_search_valueFrom h_search_weightFrom h_search_free h_search_side h_search_bestSide M_h_search_35))))))) hP hD hS hA [1, 2, 3, 4, 5, 6, 7, 8, 9, 10, 11, 12, 13, 14, 15, 16, 17, 18, 19, 20, 21, 22, 23, 24, 25, 26, 27, 28, 29, 30, 31, 32, 33] [0] [0, 1, 2, 3, 4, 5, 6, 7, 8, 9, 10, 11, 12, 13, 14, 15, 16, 17, 18, 19, 20, 21, 22, 23, 24, 25, 26, 27, 28, 29, 30, 31, 32, 33] rfl rfl (by decide) (by decide) rfl (by decide) (va_runV (As := [.ref h_now]) (rest := []) ⟨hx, hb, hml, hown, hts⟩ (c_X1_start l dC dI cyB cyI cyZ cyO h_now h_now_tape h_now_law h_now_people h_now_rules h_now_cargo h_now_debts h_now_ledger h_now_cargo_owner h_now_cargo_size h_now_cargo_weight h_now_cargo_worth h_now_cargo_level h_now_cargo_holder h_now_cargo_side h_now_cargo_planned h_now_people_rank h_now_people_widow h_now_people_slips h_now_people_given h_now_people_silver h_now_people_returns h_now_people_rents h_now_people_share h_now_people_rest h_search h_search_bale h_search_owner h_search_room h_search_value h_search_weight h_search_roomFrom h_search_valueFrom h_search_weightFrom h_search_free h_search_side h_search_bestSide _ M_h_now M_h_now_cargo M_h_now_people M_h_now_rules M_h_search M_h_search_35 h35) (cwV 1 hts gX11_best_X1_start rfl rfl rfl (by decide +kernel) ⟨Nat.le_of_ble_eq_true rfl, Nat.le_of_ble_eq_true rfl⟩) ⟨PW.blind, va_recv hK hP (ci := 1) (q0 := 22) rfl rfl, fun U hU hW => ⟨rfl, by rw [hU], by rw [hU]; exact hPc, hCx.warm hW, hDc.weaken (fun _ _ _ _ => trivial)⟩⟩ rfl rfl hl.1 rfl (lv_room (Nat.le_of_ble_eq_true rfl)) dX11_best_35 ⟨Nat.zero_le _, Nat.zero_le _⟩) (fun H locs hP hD hS => ?_)
      refine lv_aload_n hx hb dX11_best_38 rfl (lv_at hl 0 rfl) ?_
      refine va_get (D := (dC, dI)) (ci := 11) (v := .ref h_search) (C := RX11) (T := TX11) (N := 4) hx hb hts hin11 hown hK hP 0 rfl rfl 3 (by decide) kf30 (fun _ h9 => h9) rfl dX11_best_39 ?_
      refine va_get (D := (dC, dI)) (ci := 1) (v := .int (M_h_search_35 14 0)) (C := RX1) (T := TX1) (N := 17) hx hb hts hin1 hown hK hP 22 rfl rfl 14 (by decide) kf163 (fun _ h9 => h9) rfl dX11_best_42 ?_
      refine lv_if_ne (tgt := 50) hx hb dX11_best_45 (by decide) (fun hc45 => ?_) (fun hc45 => ?_)
      · rw [if_neg hc45] at hf
        refine lv_aload_n hx hb dX11_best_50 rfl (lv_at hl 0 rfl) ?_
        refine va_get (D := (dC, dI)) (ci := 11) (v := .ref h_now) (C := RX11) (T := TX11) (N := 4) hx hb hts hin11 hown hK hP 0 rfl rfl 0 (by decide) kf10 (fun _ h9 => h9) rfl dX11_best_51 ?_
        refine va_get (D := (dC, dI)) (ci := 7) (v := .ref h_now_cargo) (C := RX7) (T := TX7) (N := 14) hx hb hts hin7 hown hK hP 1 rfl rfl 4 (by decide) kf131 (fun _ h9 => h9) rfl dX11_best_54 ?_
        refine lv_aload_n hx hb dX11_best_57 rfl (lv_at hl 0 rfl) ?_
        refine va_get (D := (dC, dI)) (ci := 11) (v := .ref h_search) (C := RX11) (T := TX11) (N := 4) hx hb hts hin11 hown hK hP 0 rfl rfl 3 (by decide) kf30 (fun _ h9 => h9) rfl dX11_best_58 ?_
        obtain ⟨M_h_now_cargo_61, h61, hf⟩ := bd1_some hf
        have hPc := hP.sub (ws' := ((wX1 cyB cyI cyZ cyO h_search h_search_bale h_search_owner h_search_room h_search_value h_search_weight h_search_roomFrom h_search_valueFrom h_search_weightFrom h_search_free h_search_side h_search_bestSide M_h_search_35) ++ (wX0 cyB cyI cyZ cyO h_now_cargo h_now_cargo_owner h_now_cargo_size h_now_cargo_weight h_now_cargo_worth h_now_cargo_level h_now_cargo_holder h_now_cargo_side h_now_cargo_planned M_h_now_cargo))) [22, 23, 24, 25, 26, 27, 28, 29, 30, 31, 32, 33, 2, 3, 4, 5, 6, 7, 8, 9, 10] rfl
        have hDc := hD.sub (ws' := ((wX1 cyB cyI cyZ cyO h_search h_search_bale h_search_owner h_search_room h_search_value h_search_weight h_search_roomFrom h_search_valueFrom h_search_weightFrom h_search_free h_search_side h_search_bestSide M_h_search_35) ++ (wX0 cyB cyI cyZ cyO h_now_cargo h_now_cargo_owner h_now_cargo_size h_now_cargo_weight h_now_cargo_worth h_now_cargo_level h_now_cargo_holder h_now_cargo_side h_now_cargo_planned M_h_now_cargo))) [22, 23, 24, 25, 26, 27, 28, 29, 30, 31, 32, 33, 2, 3, 4, 5, 6, 7, 8, 9, 10] (by decide) rfl
        refine wr_callv (wc := ((wX1 cyB cyI cyZ cyO h_search h_search_bale h_search_owner h_search_room h_search_value h_search_weight h_search_roomFrom h_search_valueFrom h_search_weightFrom h_search_free h_search_side h_search_bestSide M_h_search_35) ++ (wX0 cyB cyI cyZ cyO h_now_cargo h_now_cargo_owner h_now_cargo_size h_now_cargo_weight h_now_cargo_worth h_now_cargo_level h_now_cargo_holder h_now_cargo_side h_now_cargo_planned M_h_now_cargo))) (wr := ((wX11 cyB cyI cyZ cyO h h_now h_images h_reader h_search) ++ ((wX7 cyB cyI cyZ cyO h_now h_now_tape h_now_law h_now_people h_now_rules h_now_cargo h_now_debts h_now_ledger M_h_now) ++ ((wX2 cyB cyI cyZ cyO h_now_people h_now_people_rank h_now_people_widow h_now_people_slips h_now_people_given h_now_people_silver h_now_people_returns h_now_people_rents h_now_people_share h_now_people_rest M_h_now_people) ++ (wX6 cyB cyI cyZ cyO h_now_rules M_h_now_rules))))) (w1 := ((wX1 cyB cyI cyZ cyO h_search h_search_bale h_search_owner h_search_room h_search_value h_search_weight h_search_roomFrom h_search_valueFrom h_search_weightFrom h_search_free h_search_side h_search_bestSide M_h_search_35) ++ (wX0 cyB cyI cyZ cyO h_now_cargo h_now_cargo_owner h_now_cargo_size h_now_cargo_weight h_now_cargo_worth h_now_cargo_level h_now_cargo_holder h_now_cargo_side h_now_cargo_planned M_h_now_cargo_61))) (ws' := ((wX11 cyB cyI cyZ cyO h h_now h_images h_reader h_search) ++ ((wX7 cyB cyI cyZ cyO h_now h_now_tape h_now_law h_now_people h_now_rules h_now_cargo h_now_debts h_now_ledger M_h_now) ++ ((wX0 cyB cyI cyZ cyO h_now_cargo h_now_cargo_owner h_now_cargo_size h_now_cargo_weight h_now_cargo_worth h_now_cargo_level h_now_cargo_holder h_now_cargo_side h_now_cargo_planned M_h_now_cargo_61) ++ ((wX2 cyB cyI cyZ cyO h_now_people h_now_people_rank h_now_people_widow h_now_people_slips h_now_people_given h_now_people_silver h_now_people_returns h_now_people_rents h_now_people_share h_now_people_rest M_h_now_people) ++ ((wX6 cyB cyI cyZ cyO h_now_rules M_h_now_rules) ++ (wX1 cyB cyI cyZ cyO h_search h_search_bale h_search_owner h_search_room h_search_value h_search_weight h_search_roomFrom h_search_valueFrom h_search_weightFrom h_search_free h_search_side h_search_bestSide M_h_search_35))))))) hP hD hS hA [22, 23, 24, 25, 26, 27, 28, 29, 30, 31, 32, 33, 2, 3, 4, 5, 6, 7, 8, 9, 10] [0, 1, 11, 12, 13, 14, 15, 16, 17, 18, 19, 20, 21] [0, 1, 25, 26, 27, 28, 29, 30, 31, 32, 33, 2, 3, 4, 5, 6, 7, 8, 9, 10, 11, 12, 13, 14, 15, 16, 17, 18, 19, 20, 21, 22, 23, 24] rfl rfl (by decide) (by decide) rfl (by decide) (va_runV (As := [.ref h_search]) (rest := []) ⟨hx, hb, hml, hown, hts⟩ (c_X0_keepPlan l dC dI cyB cyI cyZ cyO h_search h_search_bale h_search_owner h_search_room h_search_value h_search_weight h_search_roomFrom h_search_valueFrom h_search_weightFrom h_search_free h_search_side h_search_bestSide h_now_cargo h_now_cargo_owner h_now_cargo_size h_now_cargo_weight h_now_cargo_worth h_now_cargo_level h_now_cargo_holder h_now_cargo_side h_now_cargo_planned _ M_h_search_35 M_h_now_cargo M_h_now_cargo_61 h61) (cwV 1 hts gX11_best_X0_keepPlan rfl rfl rfl (by decide +kernel) ⟨Nat.le_of_ble_eq_true rfl, Nat.le_of_ble_eq_true rfl⟩) ⟨PW.blind, va_recv hK hP (ci := 0) (q0 := 2) rfl rfl, fun U hU hW => ⟨rfl, by rw [hU], by rw [hU]; exact hPc, hCx.warm hW, hDc.weaken (fun _ _ _ _ => trivial)⟩⟩ rfl rfl hl.1 rfl (lv_room (Nat.le_of_ble_eq_true rfl)) dX11_best_61 ⟨Nat.zero_le _, Nat.zero_le _⟩) (fun H locs hP hD hS => ?_)
        refine lv_aload_n hx hb dX11_best_64 rfl (lv_at hl 0 rfl) ?_
        refine va_get (D := (dC, dI)) (ci := 11) (v := .ref h_search) (C := RX11) (T := TX11) (N := 4) hx hb hts hin11 hown hK hP 0 rfl rfl 3 (by decide) kf30 (fun _ h9 => h9) rfl dX11_best_65 ?_
        refine va_get (D := (dC, dI)) (ci := 1) (v := .int (M_h_search_35 15 0)) (C := RX1) (T := TX1) (N := 17) hx hb hts hin1 hown hK hP 22 rfl rfl 15 (by decide) kf170 (fun _ h9 => h9) rfl dX11_best_68 ?_
        obtain ⟨hq0, hq1, hq2⟩ := pj3 hf
        subst hq0
        subst hq1
        subst hq2
        exact W.iret (v := (M_h_search_35 15 0)) hx hb hr (fun t ht hW => ⟨rfl, by rw [ht]; exact hP, hD, hS.F ht⟩) hS.2.2 dX11_best_71
      · rw [if_pos hc45] at hf
        refine lv_iconst (v := (-1 : Int32)) hx hb dX11_best_48 (by decide) ?_
        obtain ⟨hq0, hq1, hq2⟩ := pj3 hf
        subst hq0
        subst hq1
        subst hq2
        exact W.iret (v := (-1 : Int32)) hx hb hr (fun t ht hW => ⟨rfl, by rw [ht]; exact hP, hD, hS.F ht⟩) hS.2.2 dX11_best_49
    · rw [if_neg hc22] at hf
      refine lv_iconst (v := (-1 : Int32)) hx hb dX11_best_25 (by decide) ?_
      obtain ⟨hq0, hq1, hq2⟩ := pj3 hf
      subst hq0
      subst hq1
      subst hq2
      exact W.iret (v := (-1 : Int32)) hx hb hr (fun t ht hW => ⟨rfl, by rw [ht]; exact hP, hD, hS.F ht⟩) hS.2.2 dX11_best_26
set_option maxHeartbeats 4000000 in
set_option maxRecDepth 100000 in
theorem c_X11_bestSide (l : Launch) (dC : Nat → ClassId) (dI : Nat → Nat → Nat) (cyB cyI cyZ cyO : ClassId) (h h_now h_images h_reader h_search h_now_tape h_now_law h_now_people h_now_rules h_now_cargo h_now_debts h_now_ledger h_now_cargo_owner h_now_cargo_size h_now_cargo_weight h_now_cargo_worth h_now_cargo_level h_now_cargo_holder h_now_cargo_side h_now_cargo_planned : Nat) (M_h_now : Mem) (M_h_now_cargo : Mem) (p1 : Int32) (r : Int32) (hf : f_X11_bestSide M_h_now M_h_now_cargo p1 = some r) : Met l yX11_bestSide wsX11_bestSide ({ frames := 2, cells := 0, slots := 0, locals := 43 } : Room) (PR dC dI cyB cyI cyZ cyO ([.ref h, .int p1] : List Value) ((wX11 cyB cyI cyZ cyO h h_now h_images h_reader h_search) ++ ((wX7 cyB cyI cyZ cyO h_now h_now_tape h_now_law h_now_people h_now_rules h_now_cargo h_now_debts h_now_ledger M_h_now) ++ (wX0 cyB cyI cyZ cyO h_now_cargo h_now_cargo_owner h_now_cargo_size h_now_cargo_weight h_now_cargo_worth h_now_cargo_level h_now_cargo_holder h_now_cargo_side h_now_cargo_planned M_h_now_cargo)))) (QR (some (.int r))) 0 0 (fun _ => False) := by
  refine Met.ofW (cc := cX11_bestSide) (maxL := 2) (ret := (some .int)) (by decide) rfl ?_
  intro p e s m args below meth c s₁ B hml hv
  obtain ⟨rfl, hP, hCx⟩ := hv
  have hK := hCx.1
  have hN := hCx.2
  have hx := B.exec
  have hb := B.bytes
  have hr := B.returns
  have hts := atoms_spec (ws := wsX11_bestSide) B.pre
  have hown : s.vm.findClass RX11 = some m.cls := findClass_of_methodNamed B.named
  have hlocks := B.notSynchronized
  have hin0 : ∀ w ∈ u_ws RX0 TX0 10, w ∈ wsX11_bestSide := fun w h => List.mem_cons_of_mem _ (List.mem_append_right _ h)
  have hin7 : ∀ w ∈ u_ws RX7 TX7 14, w ∈ wsX11_bestSide := fun w h => List.mem_cons_of_mem _ (List.mem_append_left _ (List.mem_append_right _ h))
  have hin11 : ∀ w ∈ u_ws RX11 TX11 4, w ∈ wsX11_bestSide := fun w h => List.mem_cons_of_mem _ (List.mem_append_left _ (List.mem_append_left _ (List.mem_append_right _ h)))
  have kf10 := hts (.fieldLink RX11 10 "HoldSlips" "now" "LHoldSlips$State;") (by decide +kernel)
  have kf131 := hts (.fieldLink RX11 131 "HoldSlips$State" "cargo" "LHoldSlips$Bales;") (by decide +kernel)
  have kf173 := hts (.fieldLink RX11 173 "HoldSlips$Bales" "isPlanned" "Z") (by decide +kernel)
  have kf177 := hts (.fieldLink RX11 177 "HoldSlips$Bales" "planned" "[I") (by decide +kernel)
  have hl := lv_entry ([.ref h, .int p1] : List Value) (n := 2) (Nat.le_of_ble_eq_true rfl)
  rw [lg_entry_eq]
  generalize (lg_sl ([.ref h, .int p1] : List Value) ++ List.replicate (2 - (lg_sl ([.ref h, .int p1] : List Value)).length) Slot.unset).toArray = ls at hl ⊢
  have hl : lv_has ls 2 [(0, .ref h), (1, .int p1)] := hl
  rw [f_X11_bestSide] at hf
  refine lv_aload_n hx hb dX11_bestSide_0 rfl (lv_at hl 0 rfl) ?_
  refine va_get (D := (dC, dI)) (ci := 11) (v := .ref h_now) (C := RX11) (T := TX11) (N := 4) hx hb hts hin11 hown hK hP 0 rfl rfl 0 (by decide) kf10 (fun _ h9 => h9) rfl dX11_bestSide_1 ?_
  refine va_get (D := (dC, dI)) (ci := 7) (v := .ref h_now_cargo) (C := RX7) (T := TX7) (N := 14) hx hb hts hin7 hown hK hP 1 rfl rfl 4 (by decide) kf131 (fun _ h9 => h9) rfl dX11_bestSide_4 ?_
  refine va_get (D := (dC, dI)) (ci := 0) (v := .int (M_h_now_cargo 8 0)) (C := RX0) (T := TX0) (N := 10) hx hb hts hin0 hown hK hP 2 rfl rfl 8 (by decide) kf173 (fun _ h9 => h9) rfl dX11_bestSide_7 ?_
  refine lv_if_eq (tgt := 27) hx hb dX11_bestSide_10 (by decide) (fun hc10 => ?_) (fun hc10 => ?_)
  · rw [if_pos hc10] at hf
    refine lv_iconst (v := (-1 : Int32)) hx hb dX11_bestSide_27 (by decide) ?_
    have hq := Option.some.inj hf
    subst hq
    exact W.iret (v := (-1 : Int32)) hx hb hr (fun t ht hW => ⟨rfl, ht⟩) (fun q h => by cases h) dX11_bestSide_28
  · rw [if_neg hc10] at hf
    refine lv_aload_n hx hb dX11_bestSide_13 rfl (lv_at hl 0 rfl) ?_
    refine va_get (D := (dC, dI)) (ci := 11) (v := .ref h_now) (C := RX11) (T := TX11) (N := 4) hx hb hts hin11 hown hK hP 0 rfl rfl 0 (by decide) kf10 (fun _ h9 => h9) rfl dX11_bestSide_14 ?_
    refine va_get (D := (dC, dI)) (ci := 7) (v := .ref h_now_cargo) (C := RX7) (T := TX7) (N := 14) hx hb hts hin7 hown hK hP 1 rfl rfl 4 (by decide) kf131 (fun _ h9 => h9) rfl dX11_bestSide_17 ?_
    refine lv_iload_n hx hb dX11_bestSide_20 rfl (lv_at hl 1 rfl) ?_
    obtain ⟨r21, h21, hf⟩ := bd1_some hf
    have hPc := hP.sub (ws' := (wX0 cyB cyI cyZ cyO h_now_cargo h_now_cargo_owner h_now_cargo_size h_now_cargo_weight h_now_cargo_worth h_now_cargo_level h_now_cargo_holder h_now_cargo_side h_now_cargo_planned M_h_now_cargo)) [2, 3, 4, 5, 6, 7, 8, 9, 10] rfl
    refine ro_calli (va_runV (As := [.int p1]) (rest := []) ⟨hx, hb, hml, hown, hts⟩ (c_X0_has l dC dI cyB cyI cyZ cyO h_now_cargo h_now_cargo_owner h_now_cargo_size h_now_cargo_weight h_now_cargo_worth h_now_cargo_level h_now_cargo_holder h_now_cargo_side h_now_cargo_planned M_h_now_cargo p1 r21 h21) (cwV 1 hts gX11_bestSide_X0_has rfl rfl rfl (by decide +kernel) ⟨Nat.le_of_ble_eq_true rfl, Nat.le_of_ble_eq_true rfl⟩) ⟨PR.blind, va_recv hK hP (ci := 0) (q0 := 2) rfl rfl, fun U hU hW => ⟨rfl, by rw [hU]; exact hPc, hCx.warm hW⟩⟩ rfl rfl hl.1 rfl (lv_room (Nat.le_of_ble_eq_true rfl)) dX11_bestSide_21 ⟨Nat.zero_le _, Nat.zero_le _⟩) ?_
    refine lv_if_ne (tgt := 29) hx hb dX11_bestSide_24 (by decide) (fun hc24 => ?_) (fun hc24 => ?_)
    · rw [if_neg hc24] at hf
      refine lv_aload_n hx hb dX11_bestSide_29 rfl (lv_at hl 0 rfl) ?_
      refine va_get (D := (dC, dI)) (ci := 11) (v := .ref h_now) (C := RX11) (T := TX11) (N := 4) hx hb hts hin11 hown hK hP 0 rfl rfl 0 (by decide) kf10 (fun _ h9 => h9) rfl dX11_bestSide_30 ?_
      refine va_get (D := (dC, dI)) (ci := 7) (v := .ref h_now_cargo) (C := RX7) (T := TX7) (N := 14) hx hb hts hin7 hown hK hP 1 rfl rfl 4 (by decide) kf131 (fun _ h9 => h9) rfl dX11_bestSide_33 ?_
      refine va_get (D := (dC, dI)) (ci := 0) (v := .ref h_now_cargo_planned) (C := RX0) (T := TX0) (N := 10) hx hb hts hin0 hown hK hP 2 rfl rfl 9 (by decide) kf177 (fun _ h9 => h9) rfl dX11_bestSide_36 ?_
      refine lv_iload_n hx hb dX11_bestSide_39 rfl (lv_at hl 1 rfl) ?_
      have hi40 := if_no hf
      rw [if_neg hi40] at hf
      refine va_iald hx hb hK hP 10 1 rfl rfl hi40 dX11_bestSide_40 ?_
      have hq := Option.some.inj hf
      subst hq
      exact W.iret (v := (M_h_now_cargo 9 (p1).toNatClampNeg)) hx hb hr (fun t ht hW => ⟨rfl, ht⟩) (fun q h => by cases h) dX11_bestSide_41
    · rw [if_pos hc24] at hf
      refine lv_iconst (v := (-1 : Int32)) hx hb dX11_bestSide_27 (by decide) ?_
      have hq := Option.some.inj hf
      subst hq
      exact W.iret (v := (-1 : Int32)) hx hb hr (fun t ht hW => ⟨rfl, ht⟩) (fun q h => by cases h) dX11_bestSide_28
set_option maxHeartbeats 4000000 in
set_option maxRecDepth 100000 in
theorem c_X11_ladeBest (l : Launch) (dC : Nat → ClassId) (dI : Nat → Nat → Nat) (cyB cyI cyZ cyO : ClassId) (h h_now h_images h_reader h_search h_now_tape h_now_law h_now_people h_now_rules h_now_cargo h_now_debts h_now_ledger h_now_cargo_owner h_now_cargo_size h_now_cargo_weight h_now_cargo_worth h_now_cargo_level h_now_cargo_holder h_now_cargo_side h_now_cargo_planned h_now_people_rank h_now_people_widow h_now_people_slips h_now_people_given h_now_people_silver h_now_people_returns h_now_people_rents h_now_people_share h_now_people_rest : Nat) (sz : Nat) (M_h_now : Mem) (M_h_now_cargo : Mem) (M_h_now_people : Mem) (r : Int32) (R_h_now_cargo : Mem) (hf : f_X11_ladeBest M_h_now M_h_now_cargo M_h_now_people = some (r, R_h_now_cargo)) : Met l yX11_ladeBest wsX11_ladeBest ({ frames := 4, cells := 0, slots := 0, locals := 88 } : Room) (PW dC dI cyB cyI cyZ cyO ([.ref h] : List Value) ((wX11 cyB cyI cyZ cyO h h_now h_images h_reader h_search) ++ ((wX7 cyB cyI cyZ cyO h_now h_now_tape h_now_law h_now_people h_now_rules h_now_cargo h_now_debts h_now_ledger M_h_now) ++ ((wX0 cyB cyI cyZ cyO h_now_cargo h_now_cargo_owner h_now_cargo_size h_now_cargo_weight h_now_cargo_worth h_now_cargo_level h_now_cargo_holder h_now_cargo_side h_now_cargo_planned M_h_now_cargo) ++ (wX2 cyB cyI cyZ cyO h_now_people h_now_people_rank h_now_people_widow h_now_people_slips h_now_people_given h_now_people_silver h_now_people_returns h_now_people_rents h_now_people_share h_now_people_rest M_h_now_people)))) sz) (QW dC dI (some (.int r)) ((wX11 cyB cyI cyZ cyO h h_now h_images h_reader h_search) ++ ((wX7 cyB cyI cyZ cyO h_now h_now_tape h_now_law h_now_people h_now_rules h_now_cargo h_now_debts h_now_ledger M_h_now) ++ ((wX0 cyB cyI cyZ cyO h_now_cargo h_now_cargo_owner h_now_cargo_size h_now_cargo_weight h_now_cargo_worth h_now_cargo_level h_now_cargo_holder h_now_cargo_side h_now_cargo_planned R_h_now_cargo) ++ (wX2 cyB cyI cyZ cyO h_now_people h_now_people_rank h_now_people_widow h_now_people_slips h_now_people_given h_now_people_silver h_now_people_returns h_now_people_rents h_now_people_share h_now_people_rest M_h_now_people)))) (va_A ((wX11 cyB cyI cyZ cyO h h_now h_images h_reader h_search) ++ ((wX7 cyB cyI cyZ cyO h_now h_now_tape h_now_law h_now_people h_now_rules h_now_cargo h_now_debts h_now_ledger M_h_now) ++ ((wX0 cyB cyI cyZ cyO h_now_cargo h_now_cargo_owner h_now_cargo_size h_now_cargo_weight h_now_cargo_worth h_now_cargo_level h_now_cargo_holder h_now_cargo_side h_now_cargo_planned M_h_now_cargo) ++ (wX2 cyB cyI cyZ cyO h_now_people h_now_people_rank h_now_people_widow h_now_people_slips h_now_people_given h_now_people_silver h_now_people_returns h_now_people_rents h_now_people_share h_now_people_rest M_h_now_people)))) sz)) 0 0 (va_A ((wX11 cyB cyI cyZ cyO h h_now h_images h_reader h_search) ++ ((wX7 cyB cyI cyZ cyO h_now h_now_tape h_now_law h_now_people h_now_rules h_now_cargo h_now_debts h_now_ledger M_h_now) ++ ((wX0 cyB cyI cyZ cyO h_now_cargo h_now_cargo_owner h_now_cargo_size h_now_cargo_weight h_now_cargo_worth h_now_cargo_level h_now_cargo_holder h_now_cargo_side h_now_cargo_planned M_h_now_cargo) ++ (wX2 cyB cyI cyZ cyO h_now_people h_now_people_rank h_now_people_widow h_now_people_slips h_now_people_given h_now_people_silver h_now_people_returns h_now_people_rents h_now_people_share h_now_people_rest M_h_now_people)))) sz) := by
  refine Met.ofW (cc := cX11_ladeBest) (maxL := 4) (ret := (some .int)) (by decide) rfl ?_
  intro p e s m args below meth c s₁ B hml hv
  obtain ⟨rfl, hsz, hP, hCx, hD0⟩ := hv
  have hK := hCx.1
  have hN := hCx.2
  have hx := B.exec
  have hb := B.bytes
  have hr := B.returns
  have hts := atoms_spec (ws := wsX11_ladeBest) B.pre
  have hown : s.vm.findClass RX11 = some m.cls := findClass_of_methodNamed B.named
  have hlocks := B.notSynchronized
  have hin0 : ∀ w ∈ u_ws RX0 TX0 10, w ∈ wsX11_ladeBest := fun w h => List.mem_cons_of_mem _ (List.mem_append_left _ (List.mem_append_right _ h))
  have hin7 : ∀ w ∈ u_ws RX7 TX7 14, w ∈ wsX11_ladeBest := fun w h => List.mem_cons_of_mem _ (List.mem_append_left _ (List.mem_append_left _ (List.mem_append_right _ h)))
  have hin11 : ∀ w ∈ u_ws RX11 TX11 4, w ∈ wsX11_ladeBest := fun w h => List.mem_cons_of_mem _ (List.mem_append_left _ (List.mem_append_left _ (List.mem_append_left _ (List.mem_append_right _ h))))
  have kf10 := hts (.fieldLink RX11 10 "HoldSlips" "now" "LHoldSlips$State;") (by decide +kernel)
  have kf102 := hts (.fieldLink RX11 102 "HoldSlips$State" "sailed" "Z") (by decide +kernel)
  have kf131 := hts (.fieldLink RX11 131 "HoldSlips$State" "cargo" "LHoldSlips$Bales;") (by decide +kernel)
  have kf173 := hts (.fieldLink RX11 173 "HoldSlips$Bales" "isPlanned" "Z") (by decide +kernel)
  have kf177 := hts (.fieldLink RX11 177 "HoldSlips$Bales" "planned" "[I") (by decide +kernel)
  have kf180 := hts (.fieldLink RX11 180 "HoldSlips$Bales" "number" "I") (by decide +kernel)
  have kf183 := hts (.fieldLink RX11 183 "HoldSlips$Bales" "owner" "[I") (by decide +kernel)
  subst hsz
  have hD := hD0.self (sz := s.heap.size)
  generalize hAe : va_A ((wX11 cyB cyI cyZ cyO h h_now h_images h_reader h_search) ++ ((wX7 cyB cyI cyZ cyO h_now h_now_tape h_now_law h_now_people h_now_rules h_now_cargo h_now_debts h_now_ledger M_h_now) ++ ((wX0 cyB cyI cyZ cyO h_now_cargo h_now_cargo_owner h_now_cargo_size h_now_cargo_weight h_now_cargo_worth h_now_cargo_level h_now_cargo_holder h_now_cargo_side h_now_cargo_planned M_h_now_cargo) ++ (wX2 cyB cyI cyZ cyO h_now_people h_now_people_rank h_now_people_widow h_now_people_slips h_now_people_given h_now_people_silver h_now_people_returns h_now_people_rents h_now_people_share h_now_people_rest M_h_now_people)))) s.heap.size = A at hD ⊢
  have hA : ∀ q : Nat, s.heap.size ≤ q → A q := fun q h => by rw [← hAe]; exact Or.inr h
  have hS : va_S A s.heap s.heap [] := va_S.rf
  have hl := lv_entry ([.ref h] : List Value) (n := 4) (Nat.le_of_ble_eq_true rfl)
  rw [lg_entry_eq]
  generalize (lg_sl ([.ref h] : List Value) ++ List.replicate (4 - (lg_sl ([.ref h] : List Value)).length) Slot.unset).toArray = ls at hl ⊢
  have hl : lv_has ls 4 [(0, .ref h)] := hl
  have L29 : ∀ (n : Nat), ∀ (M_h_now_cargo : Mem) (x1 : Int32) (x2 : Int32) (H : Heap) (locs : List Loc) (ls : Array Slot), f_X11_ladeBest_L29 n M_h_now M_h_now_cargo M_h_now_people x1 x2 = some (r, R_h_now_cargo) → va_P (dC, dI) vwCl ((wX11 cyB cyI cyZ cyO h h_now h_images h_reader h_search) ++ ((wX7 cyB cyI cyZ cyO h_now h_now_tape h_now_law h_now_people h_now_rules h_now_cargo h_now_debts h_now_ledger M_h_now) ++ ((wX0 cyB cyI cyZ cyO h_now_cargo h_now_cargo_owner h_now_cargo_size h_now_cargo_weight h_now_cargo_worth h_now_cargo_level h_now_cargo_holder h_now_cargo_side h_now_cargo_planned M_h_now_cargo) ++ (wX2 cyB cyI cyZ cyO h_now_people h_now_people_rank h_now_people_widow h_now_people_slips h_now_people_given h_now_people_silver h_now_people_returns h_now_people_rents h_now_people_share h_now_people_rest M_h_now_people)))) H → va_D A ((wX11 cyB cyI cyZ cyO h h_now h_images h_reader h_search) ++ ((wX7 cyB cyI cyZ cyO h_now h_now_tape h_now_law h_now_people h_now_rules h_now_cargo h_now_debts h_now_ledger M_h_now) ++ ((wX0 cyB cyI cyZ cyO h_now_cargo h_now_cargo_owner h_now_cargo_size h_now_cargo_weight h_now_cargo_worth h_now_cargo_level h_now_cargo_holder h_now_cargo_side h_now_cargo_planned M_h_now_cargo) ++ (wX2 cyB cyI cyZ cyO h_now_people h_now_people_rank h_now_people_widow h_now_people_slips h_now_people_given h_now_people_silver h_now_people_returns h_now_people_rents h_now_people_share h_now_people_rest M_h_now_people)))) → va_S A s.heap H locs → lv_has ls 4 [(0, .ref h), (1, .int x1), (2, .int x2)] → W p l e (headSpec wsX11_ladeBest ({ frames := 4, cells := 0, slots := 0, locals := 88 } : Room)).room s m ([.ref h] : List Value).toArray below meth c H locs 0 0 (MQ below (QW dC dI (some (.int r)) ((wX11 cyB cyI cyZ cyO h h_now h_images h_reader h_search) ++ ((wX7 cyB cyI cyZ cyO h_now h_now_tape h_now_law h_now_people h_now_rules h_now_cargo h_now_debts h_now_ledger M_h_now) ++ ((wX0 cyB cyI cyZ cyO h_now_cargo h_now_cargo_owner h_now_cargo_size h_now_cargo_weight h_now_cargo_worth h_now_cargo_level h_now_cargo_holder h_now_cargo_side h_now_cargo_planned R_h_now_cargo) ++ (wX2 cyB cyI cyZ cyO h_now_people h_now_people_rank h_now_people_widow h_now_people_slips h_now_people_given h_now_people_silver h_now_people_returns h_now_people_rents h_now_people_share h_now_people_rest M_h_now_people)))) A) ([.ref h] : List Value).toArray s 0 0 A) (F0 m 29 ls []) := by
    intro n
    induction n with
    | zero => intro M_h_now_cargo x1 x2 H locs ls hf hP hD hS hl; rw [f_X11_ladeBest_L29] at hf; cases hf
    | succ n ih =>
      intro M_h_now_cargo x1 x2 H locs ls hf hP hD hS hl
      rw [f_X11_ladeBest_L29] at hf
      refine lv_iload_n hx hb dX11_ladeBest_29 rfl (lv_at hl 2 rfl) ?_
      refine lv_aload_n hx hb dX11_ladeBest_30 rfl (lv_at hl 0 rfl) ?_
      refine va_get (D := (dC, dI)) (ci := 11) (v := .ref h_now) (C := RX11) (T := TX11) (N := 4) hx hb hts hin11 hown hK hP 0 rfl rfl 0 (by decide) kf10 (fun _ h9 => h9) rfl dX11_ladeBest_31 ?_
      refine va_get (D := (dC, dI)) (ci := 7) (v := .ref h_now_cargo) (C := RX7) (T := TX7) (N := 14) hx hb hts hin7 hown hK hP 1 rfl rfl 4 (by decide) kf131 (fun _ h9 => h9) rfl dX11_ladeBest_34 ?_
      refine va_get (D := (dC, dI)) (ci := 0) (v := .int (M_h_now_cargo 0 0)) (C := RX0) (T := TX0) (N := 10) hx hb hts hin0 hown hK hP 2 rfl rfl 0 (by decide) kf180 (fun _ h9 => h9) rfl dX11_ladeBest_37 ?_
      refine lv_icmp_ge (tgt := 94) hx hb dX11_ladeBest_40 (by decide) (fun hc40 => ?_) (fun hc40 => ?_)
      · rw [if_pos hc40] at hf
        refine lv_iload_n hx hb dX11_ladeBest_94 rfl (lv_at hl 1 rfl) ?_
        obtain ⟨hq0, hq1⟩ := pj2 hf
        subst hq0
        subst hq1
        exact W.iret (v := x1) hx hb hr (fun t ht hW => ⟨rfl, by rw [ht]; exact hP, hD, hS.F ht⟩) hS.2.2 dX11_ladeBest_95
      · rw [if_neg hc40] at hf
        refine lv_aload_n hx hb dX11_ladeBest_43 rfl (lv_at hl 0 rfl) ?_
        refine va_get (D := (dC, dI)) (ci := 11) (v := .ref h_now) (C := RX11) (T := TX11) (N := 4) hx hb hts hin11 hown hK hP 0 rfl rfl 0 (by decide) kf10 (fun _ h9 => h9) rfl dX11_ladeBest_44 ?_
        refine va_get (D := (dC, dI)) (ci := 7) (v := .ref h_now_cargo) (C := RX7) (T := TX7) (N := 14) hx hb hts hin7 hown hK hP 1 rfl rfl 4 (by decide) kf131 (fun _ h9 => h9) rfl dX11_ladeBest_47 ?_
        refine va_get (D := (dC, dI)) (ci := 0) (v := .ref h_now_cargo_planned) (C := RX0) (T := TX0) (N := 10) hx hb hts hin0 hown hK hP 2 rfl rfl 9 (by decide) kf177 (fun _ h9 => h9) rfl dX11_ladeBest_50 ?_
        refine lv_iload_n hx hb dX11_ladeBest_53 rfl (lv_at hl 2 rfl) ?_
        have hi54 := if_no hf
        rw [if_neg hi54] at hf
        refine va_iald hx hb hK hP 10 1 rfl rfl hi54 dX11_ladeBest_54 ?_
        refine lv_istore_n (lv' := [(3, .int (M_h_now_cargo 9 (x2).toNatClampNeg)), (0, .ref h), (1, .int x1), (2, .int x2)]) hx hb dX11_ladeBest_55 rfl hl (by decide) rfl (fun ls hl => ?_)
        refine lv_iload_n hx hb dX11_ladeBest_56 rfl (lv_at hl 0 rfl) ?_
        refine lv_iconst (v := (2 : Int32)) hx hb dX11_ladeBest_57 (by decide) ?_
        refine lv_icmp_eq (tgt := 88) hx hb dX11_ladeBest_58 (by decide) (fun hc58 => ?_) (fun hc58 => ?_)
        · rw [if_pos hc58] at hf
          refine lv_iinc (v := (x2 + (1 : Int32))) (lv' := [(2, .int (x2 + (1 : Int32))), (3, .int (M_h_now_cargo 9 (x2).toNatClampNeg)), (0, .ref h), (1, .int x1)]) hx hb dX11_ladeBest_88 hl (k := 3) rfl rfl (by decide) rfl (fun ls hl => ?_)
          refine lv_goto (tgt := 29) hx hb dX11_ladeBest_91 (by decide) ?_
          exact ih M_h_now_cargo x1 (x2 + (1 : Int32)) _ _ ls hf hP hD hS (lv_sub hl [2, 3, 0] rfl)
        · rw [if_neg hc58] at hf
          refine lv_aload_n hx hb dX11_ladeBest_61 rfl (lv_at hl 1 rfl) ?_
          refine va_get (D := (dC, dI)) (ci := 11) (v := .ref h_now) (C := RX11) (T := TX11) (N := 4) hx hb hts hin11 hown hK hP 0 rfl rfl 0 (by decide) kf10 (fun _ h9 => h9) rfl dX11_ladeBest_62 ?_
          refine lv_iload_n hx hb dX11_ladeBest_65 rfl (lv_at hl 3 rfl) ?_
          refine lv_aload_n hx hb dX11_ladeBest_66 rfl (lv_at hl 1 rfl) ?_
          refine va_get (D := (dC, dI)) (ci := 11) (v := .ref h_now) (C := RX11) (T := TX11) (N := 4) hx hb hts hin11 hown hK hP 0 rfl rfl 0 (by decide) kf10 (fun _ h9 => h9) rfl dX11_ladeBest_67 ?_
          refine va_get (D := (dC, dI)) (ci := 7) (v := .ref h_now_cargo) (C := RX7) (T := TX7) (N := 14) hx hb hts hin7 hown hK hP 1 rfl rfl 4 (by decide) kf131 (fun _ h9 => h9) rfl dX11_ladeBest_70 ?_
          refine va_get (D := (dC, dI)) (ci := 0) (v := .ref h_now_cargo_owner) (C := RX0) (T := TX0) (N := 10) hx hb hts hin0 hown hK hP 2 rfl rfl 1 (by decide) kf183 (fun _ h9 => h9) rfl dX11_ladeBest_73 ?_
          refine lv_iload_n hx hb dX11_ladeBest_76 rfl (lv_at hl 3 rfl) ?_
          refine va_iald hx hb hK hP 3 1 rfl rfl hi54 dX11_ladeBest_77 ?_
          refine lv_iload_n hx hb dX11_ladeBest_78 rfl (lv_at hl 0 rfl) ?_
          obtain ⟨r79, M_h_now_cargo_79, h79, hf⟩ := bd2_some hf
          have hPc := hP.sub (ws' := ((wX7 cyB cyI cyZ cyO h_now h_now_tape h_now_law h_now_people h_now_rules h_now_cargo h_now_debts h_now_ledger M_h_now) ++ ((wX0 cyB cyI cyZ cyO h_now_cargo h_now_cargo_owner h_now_cargo_size h_now_cargo_weight h_now_cargo_worth h_now_cargo_level h_now_cargo_holder h_now_cargo_side h_now_cargo_planned M_h_now_cargo) ++ (wX2 cyB cyI cyZ cyO h_now_people h_now_people_rank h_now_people_widow h_now_people_slips h_now_people_given h_now_people_silver h_now_people_returns h_now_people_rents h_now_people_share h_now_people_rest M_h_now_people)))) [1, 2, 3, 4, 5, 6, 7, 8, 9, 10, 11, 12, 13, 14, 15, 16, 17, 18, 19, 20] rfl
          have hDc := hD.sub (ws' := ((wX7 cyB cyI cyZ cyO h_now h_now_tape h_now_law h_now_people h_now_rules h_now_cargo h_now_debts h_now_ledger M_h_now) ++ ((wX0 cyB cyI cyZ cyO h_now_cargo h_now_cargo_owner h_now_cargo_size h_now_cargo_weight h_now_cargo_worth h_now_cargo_level h_now_cargo_holder h_now_cargo_side h_now_cargo_planned M_h_now_cargo) ++ (wX2 cyB cyI cyZ cyO h_now_people h_now_people_rank h_now_people_widow h_now_people_slips h_now_people_given h_now_people_silver h_now_people_returns h_now_people_rents h_now_people_share h_now_people_rest M_h_now_people)))) [1, 2, 3, 4, 5, 6, 7, 8, 9, 10, 11, 12, 13, 14, 15, 16, 17, 18, 19, 20] (by decide) rfl
          refine wr_calli (wc := ((wX7 cyB cyI cyZ cyO h_now h_now_tape h_now_law h_now_people h_now_rules h_now_cargo h_now_debts h_now_ledger M_h_now) ++ ((wX0 cyB cyI cyZ cyO h_now_cargo h_now_cargo_owner h_now_cargo_size h_now_cargo_weight h_now_cargo_worth h_now_cargo_level h_now_cargo_holder h_now_cargo_side h_now_cargo_planned M_h_now_cargo) ++ (wX2 cyB cyI cyZ cyO h_now_people h_now_people_rank h_now_people_widow h_now_people_slips h_now_people_given h_now_people_silver h_now_people_returns h_now_people_rents h_now_people_share h_now_people_rest M_h_now_people)))) (wr := (wX11 cyB cyI cyZ cyO h h_now h_images h_reader h_search)) (w1 := ((wX7 cyB cyI cyZ cyO h_now h_now_tape h_now_law h_now_people h_now_rules h_now_cargo h_now_debts h_now_ledger M_h_now) ++ ((wX0 cyB cyI cyZ cyO h_now_cargo h_now_cargo_owner h_now_cargo_size h_now_cargo_weight h_now_cargo_worth h_now_cargo_level h_now_cargo_holder h_now_cargo_side h_now_cargo_planned M_h_now_cargo_79) ++ (wX2 cyB cyI cyZ cyO h_now_people h_now_people_rank h_now_people_widow h_now_people_slips h_now_people_given h_now_people_silver h_now_people_returns h_now_people_rents h_now_people_share h_now_people_rest M_h_now_people)))) (ws' := ((wX11 cyB cyI cyZ cyO h h_now h_images h_reader h_search) ++ ((wX7 cyB cyI cyZ cyO h_now h_now_tape h_now_law h_now_people h_now_rules h_now_cargo h_now_debts h_now_ledger M_h_now) ++ ((wX0 cyB cyI cyZ cyO h_now_cargo h_now_cargo_owner h_now_cargo_size h_now_cargo_weight h_now_cargo_worth h_now_cargo_level h_now_cargo_holder h_now_cargo_side h_now_cargo_planned M_h_now_cargo_79) ++ (wX2 cyB cyI cyZ cyO h_now_people h_now_people_rank h_now_people_widow h_now_people_slips h_now_people_given h_now_people_silver h_now_people_returns h_now_people_rents h_now_people_share h_now_people_rest M_h_now_people))))) hP hD hS hA [1, 2, 3, 4, 5, 6, 7, 8, 9, 10, 11, 12, 13, 14, 15, 16, 17, 18, 19, 20] [0] [0, 1, 2, 3, 4, 5, 6, 7, 8, 9, 10, 11, 12, 13, 14, 15, 16, 17, 18, 19, 20] rfl rfl (by decide) (by decide) rfl (by decide) (va_runV (As := [.int x2, .int (M_h_now_cargo 1 (x2).toNatClampNeg), .int (M_h_now_cargo 9 (x2).toNatClampNeg)]) (rest := []) ⟨hx, hb, hml, hown, hts⟩ (c_X7_layBale l dC dI cyB cyI cyZ cyO h_now h_now_tape h_now_law h_now_people h_now_rules h_now_cargo h_now_debts h_now_ledger h_now_cargo_owner h_now_cargo_size h_now_cargo_weight h_now_cargo_worth h_now_cargo_level h_now_cargo_holder h_now_cargo_side h_now_cargo_planned h_now_people_rank h_now_people_widow h_now_people_slips h_now_people_given h_now_people_silver h_now_people_returns h_now_people_rents h_now_people_share h_now_people_rest _ M_h_now M_h_now_cargo M_h_now_people x2 (M_h_now_cargo 1 (x2).toNatClampNeg) (M_h_now_cargo 9 (x2).toNatClampNeg) r79 M_h_now_cargo_79 h79) (cwV 3 hts gX11_ladeBest_X7_layBale rfl rfl rfl (by decide +kernel) ⟨Nat.le_of_ble_eq_true rfl, Nat.le_of_ble_eq_true rfl⟩) ⟨PW.blind, va_recv hK hP (ci := 7) (q0 := 1) rfl rfl, fun U hU hW => ⟨rfl, by rw [hU], by rw [hU]; exact hPc, hCx.warm hW, hDc.weaken (fun _ _ _ _ => trivial)⟩⟩ rfl rfl hl.1 rfl (lv_room (Nat.le_of_ble_eq_true rfl)) dX11_ladeBest_79 ⟨Nat.zero_le _, Nat.zero_le _⟩) (fun H locs hP hD hS => ?_)
          refine lv_if_eq (tgt := 88) hx hb dX11_ladeBest_82 (by decide) (fun hc82 => ?_) (fun hc82 => ?_)
          · rw [if_pos hc82] at hf
            refine lv_iinc (v := (x2 + (1 : Int32))) (lv' := [(2, .int (x2 + (1 : Int32))), (3, .int (M_h_now_cargo 9 (x2).toNatClampNeg)), (0, .ref h), (1, .int x1)]) hx hb dX11_ladeBest_88 hl (k := 3) rfl rfl (by decide) rfl (fun ls hl => ?_)
            refine lv_goto (tgt := 29) hx hb dX11_ladeBest_91 (by decide) ?_
            exact ih M_h_now_cargo_79 x1 (x2 + (1 : Int32)) _ _ ls hf hP hD hS (lv_sub hl [2, 3, 0] rfl)
          · rw [if_neg hc82] at hf
            refine lv_iinc (v := (x1 + (1 : Int32))) (lv' := [(1, .int (x1 + (1 : Int32))), (3, .int (M_h_now_cargo 9 (x2).toNatClampNeg)), (0, .ref h), (2, .int x2)]) hx hb dX11_ladeBest_85 hl (k := 2) rfl rfl (by decide) rfl (fun ls hl => ?_)
            refine lv_iinc (v := (x2 + (1 : Int32))) (lv' := [(2, .int (x2 + (1 : Int32))), (1, .int (x1 + (1 : Int32))), (3, .int (M_h_now_cargo 9 (x2).toNatClampNeg)), (0, .ref h)]) hx hb dX11_ladeBest_88 hl (k := 3) rfl rfl (by decide) rfl (fun ls hl => ?_)
            refine lv_goto (tgt := 29) hx hb dX11_ladeBest_91 (by decide) ?_
            exact ih M_h_now_cargo_79 (x1 + (1 : Int32)) (x2 + (1 : Int32)) _ _ ls hf hP hD hS (lv_sub hl [3, 1, 0] rfl)
  rw [f_X11_ladeBest] at hf
  refine lv_aload_n hx hb dX11_ladeBest_0 rfl (lv_at hl 0 rfl) ?_
  refine va_get (D := (dC, dI)) (ci := 11) (v := .ref h_now) (C := RX11) (T := TX11) (N := 4) hx hb hts hin11 hown hK hP 0 rfl rfl 0 (by decide) kf10 (fun _ h9 => h9) rfl dX11_ladeBest_1 ?_
  refine va_get (D := (dC, dI)) (ci := 7) (v := .int (M_h_now 10 0)) (C := RX7) (T := TX7) (N := 14) hx hb hts hin7 hown hK hP 1 rfl rfl 10 (by decide) kf102 (fun _ h9 => h9) rfl dX11_ladeBest_4 ?_
  refine lv_if_ne (tgt := 23) hx hb dX11_ladeBest_7 (by decide) (fun hc7 => ?_) (fun hc7 => ?_)
  · rw [if_neg hc7] at hf
    refine lv_iconst (v := (-1 : Int32)) hx hb dX11_ladeBest_23 (by decide) ?_
    obtain ⟨hq0, hq1⟩ := pj2 hf
    subst hq0
    subst hq1
    exact W.iret (v := (-1 : Int32)) hx hb hr (fun t ht hW => ⟨rfl, by rw [ht]; exact hP, hD, hS.F ht⟩) hS.2.2 dX11_ladeBest_24
  · rw [if_pos hc7] at hf
    refine lv_aload_n hx hb dX11_ladeBest_10 rfl (lv_at hl 0 rfl) ?_
    refine va_get (D := (dC, dI)) (ci := 11) (v := .ref h_now) (C := RX11) (T := TX11) (N := 4) hx hb hts hin11 hown hK hP 0 rfl rfl 0 (by decide) kf10 (fun _ h9 => h9) rfl dX11_ladeBest_11 ?_
    refine va_get (D := (dC, dI)) (ci := 7) (v := .ref h_now_cargo) (C := RX7) (T := TX7) (N := 14) hx hb hts hin7 hown hK hP 1 rfl rfl 4 (by decide) kf131 (fun _ h9 => h9) rfl dX11_ladeBest_14 ?_
    refine va_get (D := (dC, dI)) (ci := 0) (v := .int (M_h_now_cargo 8 0)) (C := RX0) (T := TX0) (N := 10) hx hb hts hin0 hown hK hP 2 rfl rfl 8 (by decide) kf173 (fun _ h9 => h9) rfl dX11_ladeBest_17 ?_
    refine lv_if_ne (tgt := 25) hx hb dX11_ladeBest_20 (by decide) (fun hc20 => ?_) (fun hc20 => ?_)
    · rw [if_neg hc20] at hf
      refine lv_iconst (v := (0 : Int32)) hx hb dX11_ladeBest_25 (by decide) ?_
      refine lv_istore_n (lv' := [(1, .int (0 : Int32)), (0, .ref h)]) hx hb dX11_ladeBest_26 rfl hl (by decide) rfl (fun ls hl => ?_)
      refine lv_iconst (v := (0 : Int32)) hx hb dX11_ladeBest_27 (by decide) ?_
      refine lv_istore_n (lv' := [(2, .int (0 : Int32)), (1, .int (0 : Int32)), (0, .ref h)]) hx hb dX11_ladeBest_28 rfl hl (by decide) rfl (fun ls hl => ?_)
      exact L29 FU M_h_now_cargo (0 : Int32) (0 : Int32) _ _ ls hf hP hD hS (lv_sub hl [2, 1, 0] rfl)
    · rw [if_pos hc20] at hf
      refine lv_iconst (v := (-1 : Int32)) hx hb dX11_ladeBest_23 (by decide) ?_
      obtain ⟨hq0, hq1⟩ := pj2 hf
      subst hq0
      subst hq1
      exact W.iret (v := (-1 : Int32)) hx hb hr (fun t ht hW => ⟨rfl, by rw [ht]; exact hP, hD, hS.F ht⟩) hS.2.2 dX11_ladeBest_24
set_option maxHeartbeats 4000000 in
set_option maxRecDepth 100000 in
theorem c_X11_sail (l : Launch) (dC : Nat → ClassId) (dI : Nat → Nat → Nat) (cyB cyI cyZ cyO : ClassId) (h h_now h_images h_reader h_search h_now_tape h_now_law h_now_people h_now_rules h_now_cargo h_now_debts h_now_ledger h_now_cargo_owner h_now_cargo_size h_now_cargo_weight h_now_cargo_worth h_now_cargo_level h_now_cargo_holder h_now_cargo_side h_now_cargo_planned : Nat) (sz : Nat) (M_h_now : Mem) (M_h_now_cargo : Mem) (M_h_now_rules : Mem) (r : Int32) (R_h_now : Mem) (hf : f_X11_sail M_h_now M_h_now_cargo M_h_now_rules = some (r, R_h_now)) : Met l yX11_sail wsX11_sail ({ frames := 2, cells := 0, slots := 0, locals := 52 } : Room) (PW dC dI cyB cyI cyZ cyO ([.ref h] : List Value) ((wX11 cyB cyI cyZ cyO h h_now h_images h_reader h_search) ++ ((wX7 cyB cyI cyZ cyO h_now h_now_tape h_now_law h_now_people h_now_rules h_now_cargo h_now_debts h_now_ledger M_h_now) ++ ((wX0 cyB cyI cyZ cyO h_now_cargo h_now_cargo_owner h_now_cargo_size h_now_cargo_weight h_now_cargo_worth h_now_cargo_level h_now_cargo_holder h_now_cargo_side h_now_cargo_planned M_h_now_cargo) ++ (wX6 cyB cyI cyZ cyO h_now_rules M_h_now_rules)))) sz) (QW dC dI (some (.int r)) ((wX11 cyB cyI cyZ cyO h h_now h_images h_reader h_search) ++ ((wX7 cyB cyI cyZ cyO h_now h_now_tape h_now_law h_now_people h_now_rules h_now_cargo h_now_debts h_now_ledger R_h_now) ++ ((wX0 cyB cyI cyZ cyO h_now_cargo h_now_cargo_owner h_now_cargo_size h_now_cargo_weight h_now_cargo_worth h_now_cargo_level h_now_cargo_holder h_now_cargo_side h_now_cargo_planned M_h_now_cargo) ++ (wX6 cyB cyI cyZ cyO h_now_rules M_h_now_rules)))) (va_A ((wX11 cyB cyI cyZ cyO h h_now h_images h_reader h_search) ++ ((wX7 cyB cyI cyZ cyO h_now h_now_tape h_now_law h_now_people h_now_rules h_now_cargo h_now_debts h_now_ledger M_h_now) ++ ((wX0 cyB cyI cyZ cyO h_now_cargo h_now_cargo_owner h_now_cargo_size h_now_cargo_weight h_now_cargo_worth h_now_cargo_level h_now_cargo_holder h_now_cargo_side h_now_cargo_planned M_h_now_cargo) ++ (wX6 cyB cyI cyZ cyO h_now_rules M_h_now_rules)))) sz)) 0 0 (va_A ((wX11 cyB cyI cyZ cyO h h_now h_images h_reader h_search) ++ ((wX7 cyB cyI cyZ cyO h_now h_now_tape h_now_law h_now_people h_now_rules h_now_cargo h_now_debts h_now_ledger M_h_now) ++ ((wX0 cyB cyI cyZ cyO h_now_cargo h_now_cargo_owner h_now_cargo_size h_now_cargo_weight h_now_cargo_worth h_now_cargo_level h_now_cargo_holder h_now_cargo_side h_now_cargo_planned M_h_now_cargo) ++ (wX6 cyB cyI cyZ cyO h_now_rules M_h_now_rules)))) sz) := by
  refine Met.ofW (cc := cX11_sail) (maxL := 1) (ret := (some .boolean)) (by decide) rfl ?_
  intro p e s m args below meth c s₁ B hml hv
  obtain ⟨rfl, hsz, hP, hCx, hD0⟩ := hv
  have hK := hCx.1
  have hN := hCx.2
  have hx := B.exec
  have hb := B.bytes
  have hr := B.returns
  have hts := atoms_spec (ws := wsX11_sail) B.pre
  have hown : s.vm.findClass RX11 = some m.cls := findClass_of_methodNamed B.named
  have hlocks := B.notSynchronized
  have hin7 : ∀ w ∈ u_ws RX7 TX7 14, w ∈ wsX11_sail := fun w h => List.mem_cons_of_mem _ (List.mem_append_left _ (List.mem_append_left _ (List.mem_append_right _ h)))
  have hin11 : ∀ w ∈ u_ws RX11 TX11 4, w ∈ wsX11_sail := fun w h => List.mem_cons_of_mem _ (List.mem_append_left _ (List.mem_append_left _ (List.mem_append_left _ (List.mem_append_right _ h))))
  have kf10 := hts (.fieldLink RX11 10 "HoldSlips" "now" "LHoldSlips$State;") (by decide +kernel)
  have kf92 := hts (.fieldLink RX11 92 "HoldSlips$State" "rules" "LHoldSlips$Rules;") (by decide +kernel)
  have kf102 := hts (.fieldLink RX11 102 "HoldSlips$State" "sailed" "Z") (by decide +kernel)
  have kf131 := hts (.fieldLink RX11 131 "HoldSlips$State" "cargo" "LHoldSlips$Bales;") (by decide +kernel)
  subst hsz
  have hD := hD0.self (sz := s.heap.size)
  generalize hAe : va_A ((wX11 cyB cyI cyZ cyO h h_now h_images h_reader h_search) ++ ((wX7 cyB cyI cyZ cyO h_now h_now_tape h_now_law h_now_people h_now_rules h_now_cargo h_now_debts h_now_ledger M_h_now) ++ ((wX0 cyB cyI cyZ cyO h_now_cargo h_now_cargo_owner h_now_cargo_size h_now_cargo_weight h_now_cargo_worth h_now_cargo_level h_now_cargo_holder h_now_cargo_side h_now_cargo_planned M_h_now_cargo) ++ (wX6 cyB cyI cyZ cyO h_now_rules M_h_now_rules)))) s.heap.size = A at hD ⊢
  have hA : ∀ q : Nat, s.heap.size ≤ q → A q := fun q h => by rw [← hAe]; exact Or.inr h
  have hS : va_S A s.heap s.heap [] := va_S.rf
  have hl := lv_entry ([.ref h] : List Value) (n := 1) (Nat.le_of_ble_eq_true rfl)
  rw [lg_entry_eq]
  generalize (lg_sl ([.ref h] : List Value) ++ List.replicate (1 - (lg_sl ([.ref h] : List Value)).length) Slot.unset).toArray = ls at hl ⊢
  have hl : lv_has ls 1 [(0, .ref h)] := hl
  rw [f_X11_sail] at hf
  refine lv_aload_n hx hb dX11_sail_0 rfl (lv_at hl 0 rfl) ?_
  refine va_get (D := (dC, dI)) (ci := 11) (v := .ref h_now) (C := RX11) (T := TX11) (N := 4) hx hb hts hin11 hown hK hP 0 rfl rfl 0 (by decide) kf10 (fun _ h9 => h9) rfl dX11_sail_1 ?_
  refine va_get (D := (dC, dI)) (ci := 7) (v := .int (M_h_now 10 0)) (C := RX7) (T := TX7) (N := 14) hx hb hts hin7 hown hK hP 1 rfl rfl 10 (by decide) kf102 (fun _ h9 => h9) rfl dX11_sail_4 ?_
  refine lv_if_ne (tgt := 43) hx hb dX11_sail_7 (by decide) (fun hc7 => ?_) (fun hc7 => ?_)
  · rw [if_neg hc7] at hf
    refine lv_iconst (v := (0 : Int32)) hx hb dX11_sail_43 (by decide) ?_
    obtain ⟨hq0, hq1⟩ := pj2 hf
    subst hq0
    subst hq1
    exact W.zret (v := (0 : Int32)) hx hb hr rfl (fun t ht hW => ⟨rfl, by rw [ht]; exact hP, hD, hS.F ht⟩) hS.2.2 dX11_sail_44
  · rw [if_pos hc7] at hf
    refine lv_aload_n hx hb dX11_sail_10 rfl (lv_at hl 0 rfl) ?_
    refine va_get (D := (dC, dI)) (ci := 11) (v := .ref h_now) (C := RX11) (T := TX11) (N := 4) hx hb hts hin11 hown hK hP 0 rfl rfl 0 (by decide) kf10 (fun _ h9 => h9) rfl dX11_sail_11 ?_
    refine va_get (D := (dC, dI)) (ci := 7) (v := .ref h_now_rules) (C := RX7) (T := TX7) (N := 14) hx hb hts hin7 hown hK hP 1 rfl rfl 3 (by decide) kf92 (fun _ h9 => h9) rfl dX11_sail_14 ?_
    refine lv_aload_n hx hb dX11_sail_17 rfl (lv_at hl 0 rfl) ?_
    refine va_get (D := (dC, dI)) (ci := 11) (v := .ref h_now) (C := RX11) (T := TX11) (N := 4) hx hb hts hin11 hown hK hP 0 rfl rfl 0 (by decide) kf10 (fun _ h9 => h9) rfl dX11_sail_18 ?_
    refine va_get (D := (dC, dI)) (ci := 7) (v := .ref h_now_cargo) (C := RX7) (T := TX7) (N := 14) hx hb hts hin7 hown hK hP 1 rfl rfl 4 (by decide) kf131 (fun _ h9 => h9) rfl dX11_sail_21 ?_
    obtain ⟨r24, h24, hf⟩ := bd1_some hf
    have hPc := hP.sub (ws' := (wX0 cyB cyI cyZ cyO h_now_cargo h_now_cargo_owner h_now_cargo_size h_now_cargo_weight h_now_cargo_worth h_now_cargo_level h_now_cargo_holder h_now_cargo_side h_now_cargo_planned M_h_now_cargo)) [2, 3, 4, 5, 6, 7, 8, 9, 10] rfl
    refine ro_calli (va_runV (As := []) (rest := [.ref h_now_rules]) ⟨hx, hb, hml, hown, hts⟩ (c_X0_tilt l dC dI cyB cyI cyZ cyO h_now_cargo h_now_cargo_owner h_now_cargo_size h_now_cargo_weight h_now_cargo_worth h_now_cargo_level h_now_cargo_holder h_now_cargo_side h_now_cargo_planned M_h_now_cargo r24 h24) (cwV 0 hts gX11_sail_X0_tilt rfl rfl rfl (by decide +kernel) ⟨Nat.le_of_ble_eq_true rfl, Nat.le_of_ble_eq_true rfl⟩) ⟨PR.blind, va_recv hK hP (ci := 0) (q0 := 2) rfl rfl, fun U hU hW => ⟨rfl, by rw [hU]; exact hPc, hCx.warm hW⟩⟩ rfl rfl hl.1 rfl (lv_room (Nat.le_of_ble_eq_true rfl)) dX11_sail_24 ⟨Nat.zero_le _, Nat.zero_le _⟩) ?_
    refine lv_aload_n hx hb dX11_sail_27 rfl (lv_at hl 0 rfl) ?_
    refine va_get (D := (dC, dI)) (ci := 11) (v := .ref h_now) (C := RX11) (T := TX11) (N := 4) hx hb hts hin11 hown hK hP 0 rfl rfl 0 (by decide) kf10 (fun _ h9 => h9) rfl dX11_sail_28 ?_
    refine va_get (D := (dC, dI)) (ci := 7) (v := .ref h_now_cargo) (C := RX7) (T := TX7) (N := 14) hx hb hts hin7 hown hK hP 1 rfl rfl 4 (by decide) kf131 (fun _ h9 => h9) rfl dX11_sail_31 ?_
    obtain ⟨r34, h34, hf⟩ := bd1_some hf
    have hPc := hP.sub (ws' := (wX0 cyB cyI cyZ cyO h_now_cargo h_now_cargo_owner h_now_cargo_size h_now_cargo_weight h_now_cargo_worth h_now_cargo_level h_now_cargo_holder h_now_cargo_side h_now_cargo_planned M_h_now_cargo)) [2, 3, 4, 5, 6, 7, 8, 9, 10] rfl
    refine ro_calli (va_runV (As := []) (rest := [.int r24, .ref h_now_rules]) ⟨hx, hb, hml, hown, hts⟩ (c_X0_ladenWeight l dC dI cyB cyI cyZ cyO h_now_cargo h_now_cargo_owner h_now_cargo_size h_now_cargo_weight h_now_cargo_worth h_now_cargo_level h_now_cargo_holder h_now_cargo_side h_now_cargo_planned M_h_now_cargo r34 h34) (cwV 0 hts gX11_sail_X0_ladenWeight rfl rfl rfl (by decide +kernel) ⟨Nat.le_of_ble_eq_true rfl, Nat.le_of_ble_eq_true rfl⟩) ⟨PR.blind, va_recv hK hP (ci := 0) (q0 := 2) rfl rfl, fun U hU hW => ⟨rfl, by rw [hU]; exact hPc, hCx.warm hW⟩⟩ rfl rfl hl.1 rfl (lv_room (Nat.le_of_ble_eq_true rfl)) dX11_sail_34 ⟨Nat.zero_le _, Nat.zero_le _⟩) ?_
    obtain ⟨r37, h37, hf⟩ := bd1_some hf
    have hPc := hP.sub (ws' := (wX6 cyB cyI cyZ cyO h_now_rules M_h_now_rules)) [11] rfl
    refine ro_calli (va_runV (As := [.int r24, .int r34]) (rest := []) ⟨hx, hb, hml, hown, hts⟩ (c_X6_bears l dC dI cyB cyI cyZ cyO h_now_rules M_h_now_rules r24 r34 r37 h37) (cwV 2 hts gX11_sail_X6_bears rfl rfl rfl (by decide +kernel) ⟨Nat.le_of_ble_eq_true rfl, Nat.le_of_ble_eq_true rfl⟩) ⟨PR.blind, va_recv hK hP (ci := 6) (q0 := 11) rfl rfl, fun U hU hW => ⟨rfl, by rw [hU]; exact hPc, hCx.warm hW⟩⟩ rfl rfl hl.1 rfl (lv_room (Nat.le_of_ble_eq_true rfl)) dX11_sail_37 ⟨Nat.zero_le _, Nat.zero_le _⟩) ?_
    refine lv_if_ne (tgt := 45) hx hb dX11_sail_40 (by decide) (fun hc40 => ?_) (fun hc40 => ?_)
    · rw [if_neg hc40] at hf
      refine lv_aload_n hx hb dX11_sail_45 rfl (lv_at hl 0 rfl) ?_
      refine va_get (D := (dC, dI)) (ci := 11) (v := .ref h_now) (C := RX11) (T := TX11) (N := 4) hx hb hts hin11 hown hK hP 0 rfl rfl 0 (by decide) kf10 (fun _ h9 => h9) rfl dX11_sail_46 ?_
      refine lv_iconst (v := (1 : Int32)) hx hb dX11_sail_49 (by decide) ?_
      refine va_put (D := (dC, dI)) (ci := 7) (v := .int (1 : Int32)) (ty := .boolean) (C := RX7) (T := TX7) (N := 14) hx hb hts hin7 tyX7 tyX7_ok nmX7 hown hK hP hD hS 1 rfl rfl 10 (by decide) kf102 (fun _ h9 => h9) rfl (by decide +kernel) rfl rfl (Nat.le_of_ble_eq_true rfl) dX11_sail_50 (fun H locs hP hD hS => ?_)
      obtain ⟨M_h_now_50, eM_h_now_50, hf⟩ := wr_some hf
      have hP : va_P (dC, dI) vwCl ((wX11 cyB cyI cyZ cyO h h_now h_images h_reader h_search) ++ ((wX7 cyB cyI cyZ cyO h_now h_now_tape h_now_law h_now_people h_now_rules h_now_cargo h_now_debts h_now_ledger M_h_now_50) ++ ((wX0 cyB cyI cyZ cyO h_now_cargo h_now_cargo_owner h_now_cargo_size h_now_cargo_weight h_now_cargo_worth h_now_cargo_level h_now_cargo_holder h_now_cargo_side h_now_cargo_planned M_h_now_cargo) ++ (wX6 cyB cyI cyZ cyO h_now_rules M_h_now_rules)))) H := by rw [eM_h_now_50]; exact hP
      have hD : va_D A ((wX11 cyB cyI cyZ cyO h h_now h_images h_reader h_search) ++ ((wX7 cyB cyI cyZ cyO h_now h_now_tape h_now_law h_now_people h_now_rules h_now_cargo h_now_debts h_now_ledger M_h_now_50) ++ ((wX0 cyB cyI cyZ cyO h_now_cargo h_now_cargo_owner h_now_cargo_size h_now_cargo_weight h_now_cargo_worth h_now_cargo_level h_now_cargo_holder h_now_cargo_side h_now_cargo_planned M_h_now_cargo) ++ (wX6 cyB cyI cyZ cyO h_now_rules M_h_now_rules)))) := by rw [eM_h_now_50]; exact hD
      refine lv_iconst (v := (1 : Int32)) hx hb dX11_sail_53 (by decide) ?_
      obtain ⟨hq0, hq1⟩ := pj2 hf
      subst hq0
      subst hq1
      exact W.zret (v := (1 : Int32)) hx hb hr rfl (fun t ht hW => ⟨rfl, by rw [ht]; exact hP, hD, hS.F ht⟩) hS.2.2 dX11_sail_54
    · rw [if_pos hc40] at hf
      refine lv_iconst (v := (0 : Int32)) hx hb dX11_sail_43 (by decide) ?_
      obtain ⟨hq0, hq1⟩ := pj2 hf
      subst hq0
      subst hq1
      exact W.zret (v := (0 : Int32)) hx hb hr rfl (fun t ht hW => ⟨rfl, by rw [ht]; exact hP, hD, hS.F ht⟩) hS.2.2 dX11_sail_44
set_option maxHeartbeats 4000000 in
set_option maxRecDepth 100000 in
theorem c_X11_board (l : Launch) (dC : Nat → ClassId) (dI : Nat → Nat → Nat) (cyB cyI cyZ cyO : ClassId) (h h_now h_images h_reader h_search h_now_tape h_now_law h_now_people h_now_rules h_now_cargo h_now_debts h_now_ledger h_now_cargo_owner h_now_cargo_size h_now_cargo_weight h_now_cargo_worth h_now_cargo_level h_now_cargo_holder h_now_cargo_side h_now_cargo_planned : Nat) (M_h_now : Mem) (M_h_now_cargo : Mem) (M_h_now_rules : Mem) (p1 : Int32) (p2 : Int32) (p3 : Int32) (p4 : Int32) (r : Int32) (hf : f_X11_board M_h_now M_h_now_cargo M_h_now_rules p1 p2 p3 p4 = some r) : Met l yX11_board wsX11_board ({ frames := 4, cells := 0, slots := 0, locals := 88 } : Room) (PR dC dI cyB cyI cyZ cyO ([.ref h, .int p1, .int p2, .int p3, .int p4] : List Value) ((wX11 cyB cyI cyZ cyO h h_now h_images h_reader h_search) ++ ((wX7 cyB cyI cyZ cyO h_now h_now_tape h_now_law h_now_people h_now_rules h_now_cargo h_now_debts h_now_ledger M_h_now) ++ ((wX0 cyB cyI cyZ cyO h_now_cargo h_now_cargo_owner h_now_cargo_size h_now_cargo_weight h_now_cargo_worth h_now_cargo_level h_now_cargo_holder h_now_cargo_side h_now_cargo_planned M_h_now_cargo) ++ (wX6 cyB cyI cyZ cyO h_now_rules M_h_now_rules))))) (QR (some (.int r))) 0 0 (fun _ => False) := by
  refine Met.ofW (cc := cX11_board) (maxL := 5) (ret := (some .int)) (by decide) rfl ?_
  intro p e s m args below meth c s₁ B hml hv
  obtain ⟨rfl, hP, hCx⟩ := hv
  have hK := hCx.1
  have hN := hCx.2
  have hx := B.exec
  have hb := B.bytes
  have hr := B.returns
  have hts := atoms_spec (ws := wsX11_board) B.pre
  have hown : s.vm.findClass RX11 = some m.cls := findClass_of_methodNamed B.named
  have hlocks := B.notSynchronized
  have hin6 : ∀ w ∈ u_ws RX6 TX6 4, w ∈ wsX11_board := fun w h => List.mem_cons_of_mem _ (List.mem_append_left _ (List.mem_append_right _ h))
  have hin7 : ∀ w ∈ u_ws RX7 TX7 14, w ∈ wsX11_board := fun w h => List.mem_cons_of_mem _ (List.mem_append_left _ (List.mem_append_left _ (List.mem_append_right _ h)))
  have hin11 : ∀ w ∈ u_ws RX11 TX11 4, w ∈ wsX11_board := fun w h => List.mem_cons_of_mem _ (List.mem_append_left _ (List.mem_append_left _ (List.mem_append_left _ (List.mem_append_right _ h))))
  have kf10 := hts (.fieldLink RX11 10 "HoldSlips" "now" "LHoldSlips$State;") (by decide +kernel)
  have kf92 := hts (.fieldLink RX11 92 "HoldSlips$State" "rules" "LHoldSlips$Rules;") (by decide +kernel)
  have kf131 := hts (.fieldLink RX11 131 "HoldSlips$State" "cargo" "LHoldSlips$Bales;") (by decide +kernel)
  have kf199 := hts (.fieldLink RX11 199 "HoldSlips$Rules" "permit" "I") (by decide +kernel)
  have hl := lv_entry ([.ref h, .int p1, .int p2, .int p3, .int p4] : List Value) (n := 5) (Nat.le_of_ble_eq_true rfl)
  rw [lg_entry_eq]
  generalize (lg_sl ([.ref h, .int p1, .int p2, .int p3, .int p4] : List Value) ++ List.replicate (5 - (lg_sl ([.ref h, .int p1, .int p2, .int p3, .int p4] : List Value)).length) Slot.unset).toArray = ls at hl ⊢
  have hl : lv_has ls 5 [(0, .ref h), (1, .int p1), (2, .int p2), (3, .int p3), (4, .int p4)] := hl
  rw [f_X11_board] at hf
  refine lv_iload_n hx hb dX11_board_0 rfl (lv_at hl 2 rfl) ?_
  refine lv_if_lt (tgt := 16) hx hb dX11_board_1 (by decide) (fun hc1 => ?_) (fun hc1 => ?_)
  · rw [if_pos hc1] at hf
    refine lv_iconst (v := (-1 : Int32)) hx hb dX11_board_16 (by decide) ?_
    have hq := Option.some.inj hf
    subst hq
    exact W.iret (v := (-1 : Int32)) hx hb hr (fun t ht hW => ⟨rfl, ht⟩) (fun q h => by cases h) dX11_board_17
  · rw [if_neg hc1] at hf
    refine lv_iload_n hx hb dX11_board_4 rfl (lv_at hl 2 rfl) ?_
    refine lv_iload_n hx hb dX11_board_5 rfl (lv_at hl 3 rfl) ?_
    refine lv_icmp_gt (tgt := 16) hx hb dX11_board_6 (by decide) (fun hc6 => ?_) (fun hc6 => ?_)
    · rw [if_pos hc6] at hf
      refine lv_iconst (v := (-1 : Int32)) hx hb dX11_board_16 (by decide) ?_
      have hq := Option.some.inj hf
      subst hq
      exact W.iret (v := (-1 : Int32)) hx hb hr (fun t ht hW => ⟨rfl, ht⟩) (fun q h => by cases h) dX11_board_17
    · rw [if_neg hc6] at hf
      refine lv_iload_n hx hb dX11_board_9 rfl (lv_at hl 3 rfl) ?_
      refine lv_sipush (v := (1000 : Int32)) hx hb dX11_board_10 (by decide) ?_
      refine lv_icmp_le (tgt := 18) hx hb dX11_board_13 (by decide) (fun hc13 => ?_) (fun hc13 => ?_)
      · rw [if_pos hc13] at hf
        refine lv_iload hx hb dX11_board_18 (lv_at hl 4 rfl) ?_
        by_cases hs20_0 : p4 = (0 : Int32)
        · rw [if_pos hs20_0] at hf
          refine lv_tableIn (off := 28) (tgt := 48) hx hb dX11_board_20 (by rw [hs20_0]; decide) (by rw [hs20_0]; decide) (by rw [hs20_0]; rfl) (by decide) ?_
          refine lv_aload_n hx hb dX11_board_48 rfl (lv_at hl 0 rfl) ?_
          refine va_get (D := (dC, dI)) (ci := 11) (v := .ref h_now) (C := RX11) (T := TX11) (N := 4) hx hb hts hin11 hown hK hP 0 rfl rfl 0 (by decide) kf10 (fun _ h9 => h9) rfl dX11_board_49 ?_
          refine va_get (D := (dC, dI)) (ci := 7) (v := .ref h_now_cargo) (C := RX7) (T := TX7) (N := 14) hx hb hts hin7 hown hK hP 1 rfl rfl 4 (by decide) kf131 (fun _ h9 => h9) rfl dX11_board_52 ?_
          refine lv_iload_n hx hb dX11_board_55 rfl (lv_at hl 1 rfl) ?_
          refine lv_iload_n hx hb dX11_board_56 rfl (lv_at hl 2 rfl) ?_
          obtain ⟨r57, h57, hf⟩ := bd1_some hf
          have hPc := hP.sub (ws' := (wX0 cyB cyI cyZ cyO h_now_cargo h_now_cargo_owner h_now_cargo_size h_now_cargo_weight h_now_cargo_worth h_now_cargo_level h_now_cargo_holder h_now_cargo_side h_now_cargo_planned M_h_now_cargo)) [2, 3, 4, 5, 6, 7, 8, 9, 10] rfl
          refine ro_calli (va_runV (As := [.int p1, .int p2]) (rest := []) ⟨hx, hb, hml, hown, hts⟩ (c_X0_judged l dC dI cyB cyI cyZ cyO h_now_cargo h_now_cargo_owner h_now_cargo_size h_now_cargo_weight h_now_cargo_worth h_now_cargo_level h_now_cargo_holder h_now_cargo_side h_now_cargo_planned M_h_now_cargo p1 p2 r57 h57) (cwV 2 hts gX11_board_X0_judged rfl rfl rfl (by decide +kernel) ⟨Nat.le_of_ble_eq_true rfl, Nat.le_of_ble_eq_true rfl⟩) ⟨PR.blind, va_recv hK hP (ci := 0) (q0 := 2) rfl rfl, fun U hU hW => ⟨rfl, by rw [hU]; exact hPc, hCx.warm hW⟩⟩ rfl rfl hl.1 rfl (lv_room (Nat.le_of_ble_eq_true rfl)) dX11_board_57 ⟨Nat.zero_le _, Nat.zero_le _⟩) ?_
          have hq := Option.some.inj hf
          subst hq
          exact W.iret (v := r57) hx hb hr (fun t ht hW => ⟨rfl, ht⟩) (fun q h => by cases h) dX11_board_60
        · rw [if_neg hs20_0] at hf
          by_cases hs20_1 : p4 = (1 : Int32)
          · rw [if_pos hs20_1] at hf
            refine lv_tableIn (off := 41) (tgt := 61) hx hb dX11_board_20 (by rw [hs20_1]; decide) (by rw [hs20_1]; decide) (by rw [hs20_1]; rfl) (by decide) ?_
            refine lv_aload_n hx hb dX11_board_61 rfl (lv_at hl 0 rfl) ?_
            refine va_get (D := (dC, dI)) (ci := 11) (v := .ref h_now) (C := RX11) (T := TX11) (N := 4) hx hb hts hin11 hown hK hP 0 rfl rfl 0 (by decide) kf10 (fun _ h9 => h9) rfl dX11_board_62 ?_
            refine va_get (D := (dC, dI)) (ci := 7) (v := .ref h_now_cargo) (C := RX7) (T := TX7) (N := 14) hx hb hts hin7 hown hK hP 1 rfl rfl 4 (by decide) kf131 (fun _ h9 => h9) rfl dX11_board_65 ?_
            refine lv_iload_n hx hb dX11_board_68 rfl (lv_at hl 1 rfl) ?_
            refine lv_iload_n hx hb dX11_board_69 rfl (lv_at hl 3 rfl) ?_
            obtain ⟨r70, h70, hf⟩ := bd1_some hf
            have hPc := hP.sub (ws' := (wX0 cyB cyI cyZ cyO h_now_cargo h_now_cargo_owner h_now_cargo_size h_now_cargo_weight h_now_cargo_worth h_now_cargo_level h_now_cargo_holder h_now_cargo_side h_now_cargo_planned M_h_now_cargo)) [2, 3, 4, 5, 6, 7, 8, 9, 10] rfl
            refine ro_calli (va_runV (As := [.int p1, .int p3]) (rest := []) ⟨hx, hb, hml, hown, hts⟩ (c_X0_judged l dC dI cyB cyI cyZ cyO h_now_cargo h_now_cargo_owner h_now_cargo_size h_now_cargo_weight h_now_cargo_worth h_now_cargo_level h_now_cargo_holder h_now_cargo_side h_now_cargo_planned M_h_now_cargo p1 p3 r70 h70) (cwV 2 hts gX11_board_X0_judged rfl rfl rfl (by decide +kernel) ⟨Nat.le_of_ble_eq_true rfl, Nat.le_of_ble_eq_true rfl⟩) ⟨PR.blind, va_recv hK hP (ci := 0) (q0 := 2) rfl rfl, fun U hU hW => ⟨rfl, by rw [hU]; exact hPc, hCx.warm hW⟩⟩ rfl rfl hl.1 rfl (lv_room (Nat.le_of_ble_eq_true rfl)) dX11_board_70 ⟨Nat.zero_le _, Nat.zero_le _⟩) ?_
            have hq := Option.some.inj hf
            subst hq
            exact W.iret (v := r70) hx hb hr (fun t ht hW => ⟨rfl, ht⟩) (fun q h => by cases h) dX11_board_73
          · rw [if_neg hs20_1] at hf
            by_cases hs20_2 : p4 = (2 : Int32)
            · rw [if_pos hs20_2] at hf
              refine lv_tableIn (off := 54) (tgt := 74) hx hb dX11_board_20 (by rw [hs20_2]; decide) (by rw [hs20_2]; decide) (by rw [hs20_2]; rfl) (by decide) ?_
              refine lv_aload_n hx hb dX11_board_74 rfl (lv_at hl 0 rfl) ?_
              refine va_get (D := (dC, dI)) (ci := 11) (v := .ref h_now) (C := RX11) (T := TX11) (N := 4) hx hb hts hin11 hown hK hP 0 rfl rfl 0 (by decide) kf10 (fun _ h9 => h9) rfl dX11_board_75 ?_
              refine va_get (D := (dC, dI)) (ci := 7) (v := .ref h_now_cargo) (C := RX7) (T := TX7) (N := 14) hx hb hts hin7 hown hK hP 1 rfl rfl 4 (by decide) kf131 (fun _ h9 => h9) rfl dX11_board_78 ?_
              refine lv_iload_n hx hb dX11_board_81 rfl (lv_at hl 1 rfl) ?_
              refine lv_iload_n hx hb dX11_board_82 rfl (lv_at hl 2 rfl) ?_
              obtain ⟨r83, h83, hf⟩ := bd1_some hf
              have hPc := hP.sub (ws' := (wX0 cyB cyI cyZ cyO h_now_cargo h_now_cargo_owner h_now_cargo_size h_now_cargo_weight h_now_cargo_worth h_now_cargo_level h_now_cargo_holder h_now_cargo_side h_now_cargo_planned M_h_now_cargo)) [2, 3, 4, 5, 6, 7, 8, 9, 10] rfl
              refine ro_calli (va_runV (As := [.int p1, .int p2]) (rest := []) ⟨hx, hb, hml, hown, hts⟩ (c_X0_judged l dC dI cyB cyI cyZ cyO h_now_cargo h_now_cargo_owner h_now_cargo_size h_now_cargo_weight h_now_cargo_worth h_now_cargo_level h_now_cargo_holder h_now_cargo_side h_now_cargo_planned M_h_now_cargo p1 p2 r83 h83) (cwV 2 hts gX11_board_X0_judged rfl rfl rfl (by decide +kernel) ⟨Nat.le_of_ble_eq_true rfl, Nat.le_of_ble_eq_true rfl⟩) ⟨PR.blind, va_recv hK hP (ci := 0) (q0 := 2) rfl rfl, fun U hU hW => ⟨rfl, by rw [hU]; exact hPc, hCx.warm hW⟩⟩ rfl rfl hl.1 rfl (lv_room (Nat.le_of_ble_eq_true rfl)) dX11_board_83 ⟨Nat.zero_le _, Nat.zero_le _⟩) ?_
              refine lv_aload_n hx hb dX11_board_86 rfl (lv_at hl 0 rfl) ?_
              refine va_get (D := (dC, dI)) (ci := 11) (v := .ref h_now) (C := RX11) (T := TX11) (N := 4) hx hb hts hin11 hown hK hP 0 rfl rfl 0 (by decide) kf10 (fun _ h9 => h9) rfl dX11_board_87 ?_
              refine va_get (D := (dC, dI)) (ci := 7) (v := .ref h_now_rules) (C := RX7) (T := TX7) (N := 14) hx hb hts hin7 hown hK hP 1 rfl rfl 3 (by decide) kf92 (fun _ h9 => h9) rfl dX11_board_90 ?_
              refine va_get (D := (dC, dI)) (ci := 6) (v := .int (M_h_now_rules 2 0)) (C := RX6) (T := TX6) (N := 4) hx hb hts hin6 hown hK hP 11 rfl rfl 2 (by decide) kf199 (fun _ h9 => h9) rfl dX11_board_93 ?_
              refine lv_icmp_le (tgt := 103) hx hb dX11_board_96 (by decide) (fun hc96 => ?_) (fun hc96 => ?_)
              · rw [if_pos hc96] at hf
                refine lv_iconst (v := (0 : Int32)) hx hb dX11_board_103 (by decide) ?_
                have hq := Option.some.inj hf
                subst hq
                exact W.iret (v := (0 : Int32)) hx hb hr (fun t ht hW => ⟨rfl, ht⟩) (fun q h => by cases h) dX11_board_104
              · rw [if_neg hc96] at hf
                refine lv_iconst (v := (1 : Int32)) hx hb dX11_board_99 (by decide) ?_
                refine lv_goto (tgt := 104) hx hb dX11_board_100 (by decide) ?_
                have hq := Option.some.inj hf
                subst hq
                exact W.iret (v := (1 : Int32)) hx hb hr (fun t ht hW => ⟨rfl, ht⟩) (fun q h => by cases h) dX11_board_104
            · rw [if_neg hs20_2] at hf
              refine lv_tableOut (tgt := 105) hx hb dX11_board_20 (by have z0 := lv_neT hs20_0 (show (0 : Int32).toInt = 0 by decide); have z1 := lv_neT hs20_1 (show (1 : Int32).toInt = 1 by decide); have z2 := lv_neT hs20_2 (show (2 : Int32).toInt = 2 by decide); omega) (by decide) ?_
              refine lv_iconst (v := (-1 : Int32)) hx hb dX11_board_105 (by decide) ?_
              have hq := Option.some.inj hf
              subst hq
              exact W.iret (v := (-1 : Int32)) hx hb hr (fun t ht hW => ⟨rfl, ht⟩) (fun q h => by cases h) dX11_board_106
      · rw [if_neg hc13] at hf
        refine lv_iconst (v := (-1 : Int32)) hx hb dX11_board_16 (by decide) ?_
        have hq := Option.some.inj hf
        subst hq
        exact W.iret (v := (-1 : Int32)) hx hb hr (fun t ht hW => ⟨rfl, ht⟩) (fun q h => by cases h) dX11_board_17
set_option maxHeartbeats 4000000 in
set_option maxRecDepth 100000 in
theorem c_X11_loan (l : Launch) (dC : Nat → ClassId) (dI : Nat → Nat → Nat) (cyB cyI cyZ cyO : ClassId) (h h_now h_images h_reader h_search h_now_tape h_now_law h_now_people h_now_rules h_now_cargo h_now_debts h_now_ledger h_now_debts_lender h_now_debts_borrower h_now_debts_sum h_now_debts_percent h_now_people_rank h_now_people_widow h_now_people_slips h_now_people_given h_now_people_silver h_now_people_returns h_now_people_rents h_now_people_share h_now_people_rest : Nat) (sz : Nat) (M_h_now : Mem) (M_h_now_debts : Mem) (M_h_now_people : Mem) (p1 : Int32) (p2 : Int32) (p3 : Int32) (p4 : Int32) (r : Int32) (R_h_now_debts : Mem) (R_h_now_people : Mem) (hf : f_X11_loan M_h_now M_h_now_debts M_h_now_people p1 p2 p3 p4 = some (r, R_h_now_debts, R_h_now_people)) : Met l yX11_loan wsX11_loan ({ frames := 3, cells := 0, slots := 0, locals := 65 } : Room) (PW dC dI cyB cyI cyZ cyO ([.ref h, .int p1, .int p2, .int p3, .int p4] : List Value) ((wX11 cyB cyI cyZ cyO h h_now h_images h_reader h_search) ++ ((wX7 cyB cyI cyZ cyO h_now h_now_tape h_now_law h_now_people h_now_rules h_now_cargo h_now_debts h_now_ledger M_h_now) ++ ((wX5 cyB cyI cyZ cyO h_now_debts h_now_debts_lender h_now_debts_borrower h_now_debts_sum h_now_debts_percent M_h_now_debts) ++ (wX2 cyB cyI cyZ cyO h_now_people h_now_people_rank h_now_people_widow h_now_people_slips h_now_people_given h_now_people_silver h_now_people_returns h_now_people_rents h_now_people_share h_now_people_rest M_h_now_people)))) sz) (QW dC dI (some (.int r)) ((wX11 cyB cyI cyZ cyO h h_now h_images h_reader h_search) ++ ((wX7 cyB cyI cyZ cyO h_now h_now_tape h_now_law h_now_people h_now_rules h_now_cargo h_now_debts h_now_ledger M_h_now) ++ ((wX5 cyB cyI cyZ cyO h_now_debts h_now_debts_lender h_now_debts_borrower h_now_debts_sum h_now_debts_percent R_h_now_debts) ++ (wX2 cyB cyI cyZ cyO h_now_people h_now_people_rank h_now_people_widow h_now_people_slips h_now_people_given h_now_people_silver h_now_people_returns h_now_people_rents h_now_people_share h_now_people_rest R_h_now_people)))) (va_A ((wX11 cyB cyI cyZ cyO h h_now h_images h_reader h_search) ++ ((wX7 cyB cyI cyZ cyO h_now h_now_tape h_now_law h_now_people h_now_rules h_now_cargo h_now_debts h_now_ledger M_h_now) ++ ((wX5 cyB cyI cyZ cyO h_now_debts h_now_debts_lender h_now_debts_borrower h_now_debts_sum h_now_debts_percent M_h_now_debts) ++ (wX2 cyB cyI cyZ cyO h_now_people h_now_people_rank h_now_people_widow h_now_people_slips h_now_people_given h_now_people_silver h_now_people_returns h_now_people_rents h_now_people_share h_now_people_rest M_h_now_people)))) sz)) 0 0 (va_A ((wX11 cyB cyI cyZ cyO h h_now h_images h_reader h_search) ++ ((wX7 cyB cyI cyZ cyO h_now h_now_tape h_now_law h_now_people h_now_rules h_now_cargo h_now_debts h_now_ledger M_h_now) ++ ((wX5 cyB cyI cyZ cyO h_now_debts h_now_debts_lender h_now_debts_borrower h_now_debts_sum h_now_debts_percent M_h_now_debts) ++ (wX2 cyB cyI cyZ cyO h_now_people h_now_people_rank h_now_people_widow h_now_people_slips h_now_people_given h_now_people_silver h_now_people_returns h_now_people_rents h_now_people_share h_now_people_rest M_h_now_people)))) sz) := by
  refine Met.ofW (cc := cX11_loan) (maxL := 6) (ret := (some .int)) (by decide) rfl ?_
  intro p e s m args below meth c s₁ B hml hv
  obtain ⟨rfl, hsz, hP, hCx, hD0⟩ := hv
  have hK := hCx.1
  have hN := hCx.2
  have hx := B.exec
  have hb := B.bytes
  have hr := B.returns
  have hts := atoms_spec (ws := wsX11_loan) B.pre
  have hown : s.vm.findClass RX11 = some m.cls := findClass_of_methodNamed B.named
  have hlocks := B.notSynchronized
  have hin7 : ∀ w ∈ u_ws RX7 TX7 14, w ∈ wsX11_loan := fun w h => List.mem_cons_of_mem _ (List.mem_append_left _ (List.mem_append_left _ (List.mem_append_right _ h)))
  have hin11 : ∀ w ∈ u_ws RX11 TX11 4, w ∈ wsX11_loan := fun w h => List.mem_cons_of_mem _ (List.mem_append_left _ (List.mem_append_left _ (List.mem_append_left _ (List.mem_append_right _ h))))
  have kf10 := hts (.fieldLink RX11 10 "HoldSlips" "now" "LHoldSlips$State;") (by decide +kernel)
  have kf82 := hts (.fieldLink RX11 82 "HoldSlips$State" "people" "LHoldSlips$Citizens;") (by decide +kernel)
  have kf102 := hts (.fieldLink RX11 102 "HoldSlips$State" "sailed" "Z") (by decide +kernel)
  have kf202 := hts (.fieldLink RX11 202 "HoldSlips$State" "debts" "LHoldSlips$Loans;") (by decide +kernel)
  subst hsz
  have hD := hD0.self (sz := s.heap.size)
  generalize hAe : va_A ((wX11 cyB cyI cyZ cyO h h_now h_images h_reader h_search) ++ ((wX7 cyB cyI cyZ cyO h_now h_now_tape h_now_law h_now_people h_now_rules h_now_cargo h_now_debts h_now_ledger M_h_now) ++ ((wX5 cyB cyI cyZ cyO h_now_debts h_now_debts_lender h_now_debts_borrower h_now_debts_sum h_now_debts_percent M_h_now_debts) ++ (wX2 cyB cyI cyZ cyO h_now_people h_now_people_rank h_now_people_widow h_now_people_slips h_now_people_given h_now_people_silver h_now_people_returns h_now_people_rents h_now_people_share h_now_people_rest M_h_now_people)))) s.heap.size = A at hD ⊢
  have hA : ∀ q : Nat, s.heap.size ≤ q → A q := fun q h => by rw [← hAe]; exact Or.inr h
  have hS : va_S A s.heap s.heap [] := va_S.rf
  have hl := lv_entry ([.ref h, .int p1, .int p2, .int p3, .int p4] : List Value) (n := 6) (Nat.le_of_ble_eq_true rfl)
  rw [lg_entry_eq]
  generalize (lg_sl ([.ref h, .int p1, .int p2, .int p3, .int p4] : List Value) ++ List.replicate (6 - (lg_sl ([.ref h, .int p1, .int p2, .int p3, .int p4] : List Value)).length) Slot.unset).toArray = ls at hl ⊢
  have hl : lv_has ls 6 [(0, .ref h), (1, .int p1), (2, .int p2), (3, .int p3), (4, .int p4)] := hl
  rw [f_X11_loan] at hf
  refine lv_aload_n hx hb dX11_loan_0 rfl (lv_at hl 0 rfl) ?_
  refine va_get (D := (dC, dI)) (ci := 11) (v := .ref h_now) (C := RX11) (T := TX11) (N := 4) hx hb hts hin11 hown hK hP 0 rfl rfl 0 (by decide) kf10 (fun _ h9 => h9) rfl dX11_loan_1 ?_
  refine va_get (D := (dC, dI)) (ci := 7) (v := .int (M_h_now 10 0)) (C := RX7) (T := TX7) (N := 14) hx hb hts hin7 hown hK hP 1 rfl rfl 10 (by decide) kf102 (fun _ h9 => h9) rfl dX11_loan_4 ?_
  refine lv_if_ne (tgt := 25) hx hb dX11_loan_7 (by decide) (fun hc7 => ?_) (fun hc7 => ?_)
  · rw [if_neg hc7] at hf
    refine lv_iconst (v := (-1 : Int32)) hx hb dX11_loan_25 (by decide) ?_
    obtain ⟨hq0, hq1, hq2⟩ := pj3 hf
    subst hq0
    subst hq1
    subst hq2
    exact W.iret (v := (-1 : Int32)) hx hb hr (fun t ht hW => ⟨rfl, by rw [ht]; exact hP, hD, hS.F ht⟩) hS.2.2 dX11_loan_26
  · rw [if_pos hc7] at hf
    refine lv_aload_n hx hb dX11_loan_10 rfl (lv_at hl 0 rfl) ?_
    refine va_get (D := (dC, dI)) (ci := 11) (v := .ref h_now) (C := RX11) (T := TX11) (N := 4) hx hb hts hin11 hown hK hP 0 rfl rfl 0 (by decide) kf10 (fun _ h9 => h9) rfl dX11_loan_11 ?_
    refine va_get (D := (dC, dI)) (ci := 7) (v := .ref h_now_people) (C := RX7) (T := TX7) (N := 14) hx hb hts hin7 hown hK hP 1 rfl rfl 2 (by decide) kf82 (fun _ h9 => h9) rfl dX11_loan_14 ?_
    refine lv_iload_n hx hb dX11_loan_17 rfl (lv_at hl 1 rfl) ?_
    refine lv_iload_n hx hb dX11_loan_18 rfl (lv_at hl 2 rfl) ?_
    obtain ⟨r19, h19, hf⟩ := bd1_some hf
    have hPc := hP.sub (ws' := (wX2 cyB cyI cyZ cyO h_now_people h_now_people_rank h_now_people_widow h_now_people_slips h_now_people_given h_now_people_silver h_now_people_returns h_now_people_rents h_now_people_share h_now_people_rest M_h_now_people)) [7, 8, 9, 10, 11, 12, 13, 14, 15, 16] rfl
    refine ro_calli (va_runV (As := [.int p1, .int p2]) (rest := []) ⟨hx, hb, hml, hown, hts⟩ (c_X2_areTwo l dC dI cyB cyI cyZ cyO h_now_people h_now_people_rank h_now_people_widow h_now_people_slips h_now_people_given h_now_people_silver h_now_people_returns h_now_people_rents h_now_people_share h_now_people_rest M_h_now_people p1 p2 r19 h19) (cwV 2 hts gX11_loan_X2_areTwo rfl rfl rfl (by decide +kernel) ⟨Nat.le_of_ble_eq_true rfl, Nat.le_of_ble_eq_true rfl⟩) ⟨PR.blind, va_recv hK hP (ci := 2) (q0 := 7) rfl rfl, fun U hU hW => ⟨rfl, by rw [hU]; exact hPc, hCx.warm hW⟩⟩ rfl rfl hl.1 rfl (lv_room (Nat.le_of_ble_eq_true rfl)) dX11_loan_19 ⟨Nat.zero_le _, Nat.zero_le _⟩) ?_
    refine lv_if_ne (tgt := 27) hx hb dX11_loan_22 (by decide) (fun hc22 => ?_) (fun hc22 => ?_)
    · rw [if_neg hc22] at hf
      refine lv_iload_n hx hb dX11_loan_27 rfl (lv_at hl 3 rfl) ?_
      refine lv_iconst (v := (1 : Int32)) hx hb dX11_loan_28 (by decide) ?_
      refine lv_sipush (v := (10000 : Int32)) hx hb dX11_loan_29 (by decide) ?_
      obtain ⟨r32, h32, hf⟩ := bd1_some hf
      have hPc := hP.sub (ws' := ([] : va_W)) [] rfl
      refine ro_calli (va_runS (As := [.int p3, .int (1 : Int32), .int (10000 : Int32)]) (rest := []) ⟨hx, hb, hml, hown, hts⟩ (c_X11_within l dC dI cyB cyI cyZ cyO p3 (1 : Int32) (10000 : Int32) r32 h32) (va_cwS 3 hts gX11_loan_X11_within rfl rfl rfl (by decide +kernel) ⟨Nat.le_of_ble_eq_true rfl, Nat.le_of_ble_eq_true rfl⟩) ⟨PR.blind, fun U hU hW => ⟨rfl, by rw [hU]; exact hPc, hCx.warm hW⟩⟩ rfl rfl hl.1 rfl (lv_room (Nat.le_of_ble_eq_true rfl)) dX11_loan_32 ⟨Nat.zero_le _, Nat.zero_le _⟩) ?_
      refine lv_if_eq (tgt := 49) hx hb dX11_loan_35 (by decide) (fun hc35 => ?_) (fun hc35 => ?_)
      · rw [if_pos hc35] at hf
        refine lv_iconst (v := (-1 : Int32)) hx hb dX11_loan_49 (by decide) ?_
        obtain ⟨hq0, hq1, hq2⟩ := pj3 hf
        subst hq0
        subst hq1
        subst hq2
        exact W.iret (v := (-1 : Int32)) hx hb hr (fun t ht hW => ⟨rfl, by rw [ht]; exact hP, hD, hS.F ht⟩) hS.2.2 dX11_loan_50
      · rw [if_neg hc35] at hf
        refine lv_iload hx hb dX11_loan_38 (lv_at hl 4 rfl) ?_
        refine lv_iconst (v := (0 : Int32)) hx hb dX11_loan_40 (by decide) ?_
        refine lv_bipush (v := (100 : Int32)) hx hb dX11_loan_41 (by decide) ?_
        obtain ⟨r43, h43, hf⟩ := bd1_some hf
        have hPc := hP.sub (ws' := ([] : va_W)) [] rfl
        refine ro_calli (va_runS (As := [.int p4, .int (0 : Int32), .int (100 : Int32)]) (rest := []) ⟨hx, hb, hml, hown, hts⟩ (c_X11_within l dC dI cyB cyI cyZ cyO p4 (0 : Int32) (100 : Int32) r43 h43) (va_cwS 3 hts gX11_loan_X11_within rfl rfl rfl (by decide +kernel) ⟨Nat.le_of_ble_eq_true rfl, Nat.le_of_ble_eq_true rfl⟩) ⟨PR.blind, fun U hU hW => ⟨rfl, by rw [hU]; exact hPc, hCx.warm hW⟩⟩ rfl rfl hl.1 rfl (lv_room (Nat.le_of_ble_eq_true rfl)) dX11_loan_43 ⟨Nat.zero_le _, Nat.zero_le _⟩) ?_
        refine lv_if_ne (tgt := 51) hx hb dX11_loan_46 (by decide) (fun hc46 => ?_) (fun hc46 => ?_)
        · rw [if_neg hc46] at hf
          refine lv_aload_n hx hb dX11_loan_51 rfl (lv_at hl 0 rfl) ?_
          refine va_get (D := (dC, dI)) (ci := 11) (v := .ref h_now) (C := RX11) (T := TX11) (N := 4) hx hb hts hin11 hown hK hP 0 rfl rfl 0 (by decide) kf10 (fun _ h9 => h9) rfl dX11_loan_52 ?_
          refine va_get (D := (dC, dI)) (ci := 7) (v := .ref h_now_debts) (C := RX7) (T := TX7) (N := 14) hx hb hts hin7 hown hK hP 1 rfl rfl 5 (by decide) kf202 (fun _ h9 => h9) rfl dX11_loan_55 ?_
          refine lv_iload_n hx hb dX11_loan_58 rfl (lv_at hl 1 rfl) ?_
          refine lv_iload_n hx hb dX11_loan_59 rfl (lv_at hl 2 rfl) ?_
          refine lv_iload_n hx hb dX11_loan_60 rfl (lv_at hl 3 rfl) ?_
          refine lv_iload hx hb dX11_loan_61 (lv_at hl 4 rfl) ?_
          obtain ⟨r63, M_h_now_debts_63, h63, hf⟩ := bd2_some hf
          have hPc := hP.sub (ws' := (wX5 cyB cyI cyZ cyO h_now_debts h_now_debts_lender h_now_debts_borrower h_now_debts_sum h_now_debts_percent M_h_now_debts)) [2, 3, 4, 5, 6] rfl
          have hDc := hD.sub (ws' := (wX5 cyB cyI cyZ cyO h_now_debts h_now_debts_lender h_now_debts_borrower h_now_debts_sum h_now_debts_percent M_h_now_debts)) [2, 3, 4, 5, 6] (by decide) rfl
          refine wr_calli (wc := (wX5 cyB cyI cyZ cyO h_now_debts h_now_debts_lender h_now_debts_borrower h_now_debts_sum h_now_debts_percent M_h_now_debts)) (wr := ((wX11 cyB cyI cyZ cyO h h_now h_images h_reader h_search) ++ ((wX7 cyB cyI cyZ cyO h_now h_now_tape h_now_law h_now_people h_now_rules h_now_cargo h_now_debts h_now_ledger M_h_now) ++ (wX2 cyB cyI cyZ cyO h_now_people h_now_people_rank h_now_people_widow h_now_people_slips h_now_people_given h_now_people_silver h_now_people_returns h_now_people_rents h_now_people_share h_now_people_rest M_h_now_people)))) (w1 := (wX5 cyB cyI cyZ cyO h_now_debts h_now_debts_lender h_now_debts_borrower h_now_debts_sum h_now_debts_percent M_h_now_debts_63)) (ws' := ((wX11 cyB cyI cyZ cyO h h_now h_images h_reader h_search) ++ ((wX7 cyB cyI cyZ cyO h_now h_now_tape h_now_law h_now_people h_now_rules h_now_cargo h_now_debts h_now_ledger M_h_now) ++ ((wX5 cyB cyI cyZ cyO h_now_debts h_now_debts_lender h_now_debts_borrower h_now_debts_sum h_now_debts_percent M_h_now_debts_63) ++ (wX2 cyB cyI cyZ cyO h_now_people h_now_people_rank h_now_people_widow h_now_people_slips h_now_people_given h_now_people_silver h_now_people_returns h_now_people_rents h_now_people_share h_now_people_rest M_h_now_people))))) hP hD hS hA [2, 3, 4, 5, 6] [0, 1, 7, 8, 9, 10, 11, 12, 13, 14, 15, 16] [0, 1, 12, 13, 14, 15, 16, 2, 3, 4, 5, 6, 7, 8, 9, 10, 11] rfl rfl (by decide) (by decide) rfl (by decide) (va_runV (As := [.int p1, .int p2, .int p3, .int p4]) (rest := []) ⟨hx, hb, hml, hown, hts⟩ (c_X5_enter l dC dI cyB cyI cyZ cyO h_now_debts h_now_debts_lender h_now_debts_borrower h_now_debts_sum h_now_debts_percent _ M_h_now_debts p1 p2 p3 p4 r63 M_h_now_debts_63 h63) (cwV 4 hts gX11_loan_X5_enter rfl rfl rfl (by decide +kernel) ⟨Nat.le_of_ble_eq_true rfl, Nat.le_of_ble_eq_true rfl⟩) ⟨PW.blind, va_recv hK hP (ci := 5) (q0 := 2) rfl rfl, fun U hU hW => ⟨rfl, by rw [hU], by rw [hU]; exact hPc, hCx.warm hW, hDc.weaken (fun _ _ _ _ => trivial)⟩⟩ rfl rfl hl.1 rfl (lv_room (Nat.le_of_ble_eq_true rfl)) dX11_loan_63 ⟨Nat.zero_le _, Nat.zero_le _⟩) (fun H locs hP hD hS => ?_)
          refine lv_istore (lv' := [(5, .int r63), (0, .ref h), (1, .int p1), (2, .int p2), (3, .int p3), (4, .int p4)]) hx hb dX11_loan_66 hl (by decide) rfl (fun ls hl => ?_)
          refine lv_iload hx hb dX11_loan_68 (lv_at hl 0 rfl) ?_
          refine lv_iconst (v := (-1 : Int32)) hx hb dX11_loan_70 (by decide) ?_
          refine lv_icmp_eq (tgt := 87) hx hb dX11_loan_71 (by decide) (fun hc71 => ?_) (fun hc71 => ?_)
          · rw [if_pos hc71] at hf
            refine lv_iload hx hb dX11_loan_87 (lv_at hl 0 rfl) ?_
            obtain ⟨hq0, hq1, hq2⟩ := pj3 hf
            subst hq0
            subst hq1
            subst hq2
            exact W.iret (v := r63) hx hb hr (fun t ht hW => ⟨rfl, by rw [ht]; exact hP, hD, hS.F ht⟩) hS.2.2 dX11_loan_89
          · rw [if_neg hc71] at hf
            refine lv_aload_n hx hb dX11_loan_74 rfl (lv_at hl 1 rfl) ?_
            refine va_get (D := (dC, dI)) (ci := 11) (v := .ref h_now) (C := RX11) (T := TX11) (N := 4) hx hb hts hin11 hown hK hP 0 rfl rfl 0 (by decide) kf10 (fun _ h9 => h9) rfl dX11_loan_75 ?_
            refine va_get (D := (dC, dI)) (ci := 7) (v := .ref h_now_people) (C := RX7) (T := TX7) (N := 14) hx hb hts hin7 hown hK hP 1 rfl rfl 2 (by decide) kf82 (fun _ h9 => h9) rfl dX11_loan_78 ?_
            refine lv_iload_n hx hb dX11_loan_81 rfl (lv_at hl 2 rfl) ?_
            refine lv_iload_n hx hb dX11_loan_82 rfl (lv_at hl 3 rfl) ?_
            refine lv_iload_n hx hb dX11_loan_83 rfl (lv_at hl 4 rfl) ?_
            obtain ⟨M_h_now_people_84, h84, hf⟩ := bd1_some hf
            have hPc := hP.sub (ws' := (wX2 cyB cyI cyZ cyO h_now_people h_now_people_rank h_now_people_widow h_now_people_slips h_now_people_given h_now_people_silver h_now_people_returns h_now_people_rents h_now_people_share h_now_people_rest M_h_now_people)) [7, 8, 9, 10, 11, 12, 13, 14, 15, 16] rfl
            have hDc := hD.sub (ws' := (wX2 cyB cyI cyZ cyO h_now_people h_now_people_rank h_now_people_widow h_now_people_slips h_now_people_given h_now_people_silver h_now_people_returns h_now_people_rents h_now_people_share h_now_people_rest M_h_now_people)) [7, 8, 9, 10, 11, 12, 13, 14, 15, 16] (by decide) rfl
            refine wr_callv (wc := (wX2 cyB cyI cyZ cyO h_now_people h_now_people_rank h_now_people_widow h_now_people_slips h_now_people_given h_now_people_silver h_now_people_returns h_now_people_rents h_now_people_share h_now_people_rest M_h_now_people)) (wr := ((wX11 cyB cyI cyZ cyO h h_now h_images h_reader h_search) ++ ((wX7 cyB cyI cyZ cyO h_now h_now_tape h_now_law h_now_people h_now_rules h_now_cargo h_now_debts h_now_ledger M_h_now) ++ (wX5 cyB cyI cyZ cyO h_now_debts h_now_debts_lender h_now_debts_borrower h_now_debts_sum h_now_debts_percent M_h_now_debts_63)))) (w1 := (wX2 cyB cyI cyZ cyO h_now_people h_now_people_rank h_now_people_widow h_now_people_slips h_now_people_given h_now_people_silver h_now_people_returns h_now_people_rents h_now_people_share h_now_people_rest M_h_now_people_84)) (ws' := ((wX11 cyB cyI cyZ cyO h h_now h_images h_reader h_search) ++ ((wX7 cyB cyI cyZ cyO h_now h_now_tape h_now_law h_now_people h_now_rules h_now_cargo h_now_debts h_now_ledger M_h_now) ++ ((wX5 cyB cyI cyZ cyO h_now_debts h_now_debts_lender h_now_debts_borrower h_now_debts_sum h_now_debts_percent M_h_now_debts_63) ++ (wX2 cyB cyI cyZ cyO h_now_people h_now_people_rank h_now_people_widow h_now_people_slips h_now_people_given h_now_people_silver h_now_people_returns h_now_people_rents h_now_people_share h_now_people_rest M_h_now_people_84))))) hP hD hS hA [7, 8, 9, 10, 11, 12, 13, 14, 15, 16] [0, 1, 2, 3, 4, 5, 6] [0, 1, 2, 3, 4, 5, 6, 7, 8, 9, 10, 11, 12, 13, 14, 15, 16] rfl rfl (by decide) (by decide) rfl (by decide) (va_runV (As := [.int p1, .int p2, .int p3]) (rest := []) ⟨hx, hb, hml, hown, hts⟩ (c_X2_pay l dC dI cyB cyI cyZ cyO h_now_people h_now_people_rank h_now_people_widow h_now_people_slips h_now_people_given h_now_people_silver h_now_people_returns h_now_people_rents h_now_people_share h_now_people_rest _ M_h_now_people p1 p2 p3 M_h_now_people_84 h84) (cwV 3 hts gX11_loan_X2_pay rfl rfl rfl (by decide +kernel) ⟨Nat.le_of_ble_eq_true rfl, Nat.le_of_ble_eq_true rfl⟩) ⟨PW.blind, va_recv hK hP (ci := 2) (q0 := 7) rfl rfl, fun U hU hW => ⟨rfl, by rw [hU], by rw [hU]; exact hPc, hCx.warm hW, hDc.weaken (fun _ _ _ _ => trivial)⟩⟩ rfl rfl hl.1 rfl (lv_room (Nat.le_of_ble_eq_true rfl)) dX11_loan_84 ⟨Nat.zero_le _, Nat.zero_le _⟩) (fun H locs hP hD hS => ?_)
            refine lv_iload hx hb dX11_loan_87 (lv_at hl 0 rfl) ?_
            obtain ⟨hq0, hq1, hq2⟩ := pj3 hf
            subst hq0
            subst hq1
            subst hq2
            exact W.iret (v := r63) hx hb hr (fun t ht hW => ⟨rfl, by rw [ht]; exact hP, hD, hS.F ht⟩) hS.2.2 dX11_loan_89
        · rw [if_pos hc46] at hf
          refine lv_iconst (v := (-1 : Int32)) hx hb dX11_loan_49 (by decide) ?_
          obtain ⟨hq0, hq1, hq2⟩ := pj3 hf
          subst hq0
          subst hq1
          subst hq2
          exact W.iret (v := (-1 : Int32)) hx hb hr (fun t ht hW => ⟨rfl, by rw [ht]; exact hP, hD, hS.F ht⟩) hS.2.2 dX11_loan_50
    · rw [if_pos hc22] at hf
      refine lv_iconst (v := (-1 : Int32)) hx hb dX11_loan_25 (by decide) ?_
      obtain ⟨hq0, hq1, hq2⟩ := pj3 hf
      subst hq0
      subst hq1
      subst hq2
      exact W.iret (v := (-1 : Int32)) hx hb hr (fun t ht hW => ⟨rfl, by rw [ht]; exact hP, hD, hS.F ht⟩) hS.2.2 dX11_loan_26
set_option maxHeartbeats 4000000 in
set_option maxRecDepth 100000 in
theorem c_X11_ends (l : Launch) (dC : Nat → ClassId) (dI : Nat → Nat → Nat) (cyB cyI cyZ cyO : ClassId) (h h_now h_images h_reader h_search h_now_tape h_now_law h_now_people h_now_rules h_now_cargo h_now_debts h_now_ledger h_now_cargo_owner h_now_cargo_size h_now_cargo_weight h_now_cargo_worth h_now_cargo_level h_now_cargo_holder h_now_cargo_side h_now_cargo_planned h_now_debts_lender h_now_debts_borrower h_now_debts_sum h_now_debts_percent h_now_ledger_cells h_now_people_rank h_now_people_widow h_now_people_slips h_now_people_given h_now_people_silver h_now_people_returns h_now_people_rents h_now_people_share h_now_people_rest : Nat) (sz : Nat) (M_h_now : Mem) (M_h_now_cargo : Mem) (M_h_now_debts : Mem) (M_h_now_ledger : Mem) (M_h_now_people : Mem) (M_h_now_rules : Mem) (p1 : Int32) (r : Int32) (R_h_now : Mem) (R_h_now_cargo : Mem) (R_h_now_debts : Mem) (R_h_now_ledger : Mem) (R_h_now_people : Mem) (hf : f_X11_ends M_h_now M_h_now_cargo M_h_now_debts M_h_now_ledger M_h_now_people M_h_now_rules p1 = some (r, R_h_now, R_h_now_cargo, R_h_now_debts, R_h_now_ledger, R_h_now_people)) : Met l yX11_ends wsX11_ends ({ frames := 6, cells := 0, slots := 0, locals := 137 } : Room) (PW dC dI cyB cyI cyZ cyO ([.ref h, .int p1] : List Value) ((wX11 cyB cyI cyZ cyO h h_now h_images h_reader h_search) ++ ((wX7 cyB cyI cyZ cyO h_now h_now_tape h_now_law h_now_people h_now_rules h_now_cargo h_now_debts h_now_ledger M_h_now) ++ ((wX0 cyB cyI cyZ cyO h_now_cargo h_now_cargo_owner h_now_cargo_size h_now_cargo_weight h_now_cargo_worth h_now_cargo_level h_now_cargo_holder h_now_cargo_side h_now_cargo_planned M_h_now_cargo) ++ ((wX5 cyB cyI cyZ cyO h_now_debts h_now_debts_lender h_now_debts_borrower h_now_debts_sum h_now_debts_percent M_h_now_debts) ++ ((wX10 cyB cyI cyZ cyO h_now_ledger h_now_ledger_cells M_h_now_ledger) ++ ((wX2 cyB cyI cyZ cyO h_now_people h_now_people_rank h_now_people_widow h_now_people_slips h_now_people_given h_now_people_silver h_now_people_returns h_now_people_rents h_now_people_share h_now_people_rest M_h_now_people) ++ (wX6 cyB cyI cyZ cyO h_now_rules M_h_now_rules))))))) sz) (QW dC dI (some (.int r)) ((wX11 cyB cyI cyZ cyO h h_now h_images h_reader h_search) ++ ((wX7 cyB cyI cyZ cyO h_now h_now_tape h_now_law h_now_people h_now_rules h_now_cargo h_now_debts h_now_ledger R_h_now) ++ ((wX0 cyB cyI cyZ cyO h_now_cargo h_now_cargo_owner h_now_cargo_size h_now_cargo_weight h_now_cargo_worth h_now_cargo_level h_now_cargo_holder h_now_cargo_side h_now_cargo_planned R_h_now_cargo) ++ ((wX5 cyB cyI cyZ cyO h_now_debts h_now_debts_lender h_now_debts_borrower h_now_debts_sum h_now_debts_percent R_h_now_debts) ++ ((wX10 cyB cyI cyZ cyO h_now_ledger h_now_ledger_cells R_h_now_ledger) ++ ((wX2 cyB cyI cyZ cyO h_now_people h_now_people_rank h_now_people_widow h_now_people_slips h_now_people_given h_now_people_silver h_now_people_returns h_now_people_rents h_now_people_share h_now_people_rest R_h_now_people) ++ (wX6 cyB cyI cyZ cyO h_now_rules M_h_now_rules))))))) (va_A ((wX11 cyB cyI cyZ cyO h h_now h_images h_reader h_search) ++ ((wX7 cyB cyI cyZ cyO h_now h_now_tape h_now_law h_now_people h_now_rules h_now_cargo h_now_debts h_now_ledger M_h_now) ++ ((wX0 cyB cyI cyZ cyO h_now_cargo h_now_cargo_owner h_now_cargo_size h_now_cargo_weight h_now_cargo_worth h_now_cargo_level h_now_cargo_holder h_now_cargo_side h_now_cargo_planned M_h_now_cargo) ++ ((wX5 cyB cyI cyZ cyO h_now_debts h_now_debts_lender h_now_debts_borrower h_now_debts_sum h_now_debts_percent M_h_now_debts) ++ ((wX10 cyB cyI cyZ cyO h_now_ledger h_now_ledger_cells M_h_now_ledger) ++ ((wX2 cyB cyI cyZ cyO h_now_people h_now_people_rank h_now_people_widow h_now_people_slips h_now_people_given h_now_people_silver h_now_people_returns h_now_people_rents h_now_people_share h_now_people_rest M_h_now_people) ++ (wX6 cyB cyI cyZ cyO h_now_rules M_h_now_rules))))))) sz)) 0 0 (va_A ((wX11 cyB cyI cyZ cyO h h_now h_images h_reader h_search) ++ ((wX7 cyB cyI cyZ cyO h_now h_now_tape h_now_law h_now_people h_now_rules h_now_cargo h_now_debts h_now_ledger M_h_now) ++ ((wX0 cyB cyI cyZ cyO h_now_cargo h_now_cargo_owner h_now_cargo_size h_now_cargo_weight h_now_cargo_worth h_now_cargo_level h_now_cargo_holder h_now_cargo_side h_now_cargo_planned M_h_now_cargo) ++ ((wX5 cyB cyI cyZ cyO h_now_debts h_now_debts_lender h_now_debts_borrower h_now_debts_sum h_now_debts_percent M_h_now_debts) ++ ((wX10 cyB cyI cyZ cyO h_now_ledger h_now_ledger_cells M_h_now_ledger) ++ ((wX2 cyB cyI cyZ cyO h_now_people h_now_people_rank h_now_people_widow h_now_people_slips h_now_people_given h_now_people_silver h_now_people_returns h_now_people_rents h_now_people_share h_now_people_rest M_h_now_people) ++ (wX6 cyB cyI cyZ cyO h_now_rules M_h_now_rules))))))) sz) := by
  refine Met.ofW (cc := cX11_ends) (maxL := 2) (ret := (some .int)) (by decide) rfl ?_
  intro p e s m args below meth c s₁ B hml hv
  obtain ⟨rfl, hsz, hP, hCx, hD0⟩ := hv
  have hK := hCx.1
  have hN := hCx.2
  have hx := B.exec
  have hb := B.bytes
  have hr := B.returns
  have hts := atoms_spec (ws := wsX11_ends) B.pre
  have hown : s.vm.findClass RX11 = some m.cls := findClass_of_methodNamed B.named
  have hlocks := B.notSynchronized
  have hin7 : ∀ w ∈ u_ws RX7 TX7 14, w ∈ wsX11_ends := fun w h => List.mem_cons_of_mem _ (List.mem_append_left _ (List.mem_append_left _ (List.mem_append_left _ (List.mem_append_left _ (List.mem_append_left _ (List.mem_append_right _ h))))))
  have hin11 : ∀ w ∈ u_ws RX11 TX11 4, w ∈ wsX11_ends := fun w h => List.mem_cons_of_mem _ (List.mem_append_left _ (List.mem_append_left _ (List.mem_append_left _ (List.mem_append_left _ (List.mem_append_left _ (List.mem_append_left _ (List.mem_append_right _ h)))))))
  have kf10 := hts (.fieldLink RX11 10 "HoldSlips" "now" "LHoldSlips$State;") (by decide +kernel)
  have kf102 := hts (.fieldLink RX11 102 "HoldSlips$State" "sailed" "Z") (by decide +kernel)
  have kf209 := hts (.fieldLink RX11 209 "HoldSlips$State" "year" "I") (by decide +kernel)
  subst hsz
  have hD := hD0.self (sz := s.heap.size)
  generalize hAe : va_A ((wX11 cyB cyI cyZ cyO h h_now h_images h_reader h_search) ++ ((wX7 cyB cyI cyZ cyO h_now h_now_tape h_now_law h_now_people h_now_rules h_now_cargo h_now_debts h_now_ledger M_h_now) ++ ((wX0 cyB cyI cyZ cyO h_now_cargo h_now_cargo_owner h_now_cargo_size h_now_cargo_weight h_now_cargo_worth h_now_cargo_level h_now_cargo_holder h_now_cargo_side h_now_cargo_planned M_h_now_cargo) ++ ((wX5 cyB cyI cyZ cyO h_now_debts h_now_debts_lender h_now_debts_borrower h_now_debts_sum h_now_debts_percent M_h_now_debts) ++ ((wX10 cyB cyI cyZ cyO h_now_ledger h_now_ledger_cells M_h_now_ledger) ++ ((wX2 cyB cyI cyZ cyO h_now_people h_now_people_rank h_now_people_widow h_now_people_slips h_now_people_given h_now_people_silver h_now_people_returns h_now_people_rents h_now_people_share h_now_people_rest M_h_now_people) ++ (wX6 cyB cyI cyZ cyO h_now_rules M_h_now_rules))))))) s.heap.size = A at hD ⊢
  have hA : ∀ q : Nat, s.heap.size ≤ q → A q := fun q h => by rw [← hAe]; exact Or.inr h
  have hS : va_S A s.heap s.heap [] := va_S.rf
  have hl := lv_entry ([.ref h, .int p1] : List Value) (n := 2) (Nat.le_of_ble_eq_true rfl)
  rw [lg_entry_eq]
  generalize (lg_sl ([.ref h, .int p1] : List Value) ++ List.replicate (2 - (lg_sl ([.ref h, .int p1] : List Value)).length) Slot.unset).toArray = ls at hl ⊢
  have hl : lv_has ls 2 [(0, .ref h), (1, .int p1)] := hl
  rw [f_X11_ends] at hf
  refine lv_aload_n hx hb dX11_ends_0 rfl (lv_at hl 0 rfl) ?_
  refine va_get (D := (dC, dI)) (ci := 11) (v := .ref h_now) (C := RX11) (T := TX11) (N := 4) hx hb hts hin11 hown hK hP 0 rfl rfl 0 (by decide) kf10 (fun _ h9 => h9) rfl dX11_ends_1 ?_
  refine va_get (D := (dC, dI)) (ci := 7) (v := .int (M_h_now 10 0)) (C := RX7) (T := TX7) (N := 14) hx hb hts hin7 hown hK hP 1 rfl rfl 10 (by decide) kf102 (fun _ h9 => h9) rfl dX11_ends_4 ?_
  refine lv_if_eq (tgt := 23) hx hb dX11_ends_7 (by decide) (fun hc7 => ?_) (fun hc7 => ?_)
  · rw [if_pos hc7] at hf
    refine lv_iconst (v := (-1 : Int32)) hx hb dX11_ends_23 (by decide) ?_
    obtain ⟨hq0, hq1, hq2, hq3, hq4, hq5⟩ := pj6 hf
    subst hq0
    subst hq1
    subst hq2
    subst hq3
    subst hq4
    subst hq5
    exact W.iret (v := (-1 : Int32)) hx hb hr (fun t ht hW => ⟨rfl, by rw [ht]; exact hP, hD, hS.F ht⟩) hS.2.2 dX11_ends_24
  · rw [if_neg hc7] at hf
    refine lv_aload_n hx hb dX11_ends_10 rfl (lv_at hl 0 rfl) ?_
    refine va_get (D := (dC, dI)) (ci := 11) (v := .ref h_now) (C := RX11) (T := TX11) (N := 4) hx hb hts hin11 hown hK hP 0 rfl rfl 0 (by decide) kf10 (fun _ h9 => h9) rfl dX11_ends_11 ?_
    refine va_get (D := (dC, dI)) (ci := 7) (v := .int (M_h_now 9 0)) (C := RX7) (T := TX7) (N := 14) hx hb hts hin7 hown hK hP 1 rfl rfl 9 (by decide) kf209 (fun _ h9 => h9) rfl dX11_ends_14 ?_
    refine lv_sipush (v := (199 : Int32)) hx hb dX11_ends_17 (by decide) ?_
    refine lv_icmp_lt (tgt := 25) hx hb dX11_ends_20 (by decide) (fun hc20 => ?_) (fun hc20 => ?_)
    · rw [if_pos hc20] at hf
      refine lv_aload_n hx hb dX11_ends_25 rfl (lv_at hl 0 rfl) ?_
      refine va_get (D := (dC, dI)) (ci := 11) (v := .ref h_now) (C := RX11) (T := TX11) (N := 4) hx hb hts hin11 hown hK hP 0 rfl rfl 0 (by decide) kf10 (fun _ h9 => h9) rfl dX11_ends_26 ?_
      refine lv_iload_n hx hb dX11_ends_29 rfl (lv_at hl 1 rfl) ?_
      obtain ⟨M_h_now_30, M_h_now_cargo_30, M_h_now_debts_30, M_h_now_ledger_30, M_h_now_people_30, h30, hf⟩ := bd5_some hf
      have hPc := hP.sub (ws' := ((wX7 cyB cyI cyZ cyO h_now h_now_tape h_now_law h_now_people h_now_rules h_now_cargo h_now_debts h_now_ledger M_h_now) ++ ((wX0 cyB cyI cyZ cyO h_now_cargo h_now_cargo_owner h_now_cargo_size h_now_cargo_weight h_now_cargo_worth h_now_cargo_level h_now_cargo_holder h_now_cargo_side h_now_cargo_planned M_h_now_cargo) ++ ((wX5 cyB cyI cyZ cyO h_now_debts h_now_debts_lender h_now_debts_borrower h_now_debts_sum h_now_debts_percent M_h_now_debts) ++ ((wX10 cyB cyI cyZ cyO h_now_ledger h_now_ledger_cells M_h_now_ledger) ++ ((wX2 cyB cyI cyZ cyO h_now_people h_now_people_rank h_now_people_widow h_now_people_slips h_now_people_given h_now_people_silver h_now_people_returns h_now_people_rents h_now_people_share h_now_people_rest M_h_now_people) ++ (wX6 cyB cyI cyZ cyO h_now_rules M_h_now_rules))))))) [1, 2, 3, 4, 5, 6, 7, 8, 9, 10, 11, 12, 13, 14, 15, 16, 17, 18, 19, 20, 21, 22, 23, 24, 25, 26, 27, 28] rfl
      have hDc := hD.sub (ws' := ((wX7 cyB cyI cyZ cyO h_now h_now_tape h_now_law h_now_people h_now_rules h_now_cargo h_now_debts h_now_ledger M_h_now) ++ ((wX0 cyB cyI cyZ cyO h_now_cargo h_now_cargo_owner h_now_cargo_size h_now_cargo_weight h_now_cargo_worth h_now_cargo_level h_now_cargo_holder h_now_cargo_side h_now_cargo_planned M_h_now_cargo) ++ ((wX5 cyB cyI cyZ cyO h_now_debts h_now_debts_lender h_now_debts_borrower h_now_debts_sum h_now_debts_percent M_h_now_debts) ++ ((wX10 cyB cyI cyZ cyO h_now_ledger h_now_ledger_cells M_h_now_ledger) ++ ((wX2 cyB cyI cyZ cyO h_now_people h_now_people_rank h_now_people_widow h_now_people_slips h_now_people_given h_now_people_silver h_now_people_returns h_now_people_rents h_now_people_share h_now_people_rest M_h_now_people) ++ (wX6 cyB cyI cyZ cyO h_now_rules M_h_now_rules))))))) [1, 2, 3, 4, 5, 6, 7, 8, 9, 10, 11, 12, 13, 14, 15, 16, 17, 18, 19, 20, 21, 22, 23, 24, 25, 26, 27, 28] (by decide) rfl
      refine wr_callv (wc := ((wX7 cyB cyI cyZ cyO h_now h_now_tape h_now_law h_now_people h_now_rules h_now_cargo h_now_debts h_now_ledger M_h_now) ++ ((wX0 cyB cyI cyZ cyO h_now_cargo h_now_cargo_owner h_now_cargo_size h_now_cargo_weight h_now_cargo_worth h_now_cargo_level h_now_cargo_holder h_now_cargo_side h_now_cargo_planned M_h_now_cargo) ++ ((wX5 cyB cyI cyZ cyO h_now_debts h_now_debts_lender h_now_debts_borrower h_now_debts_sum h_now_debts_percent M_h_now_debts) ++ ((wX10 cyB cyI cyZ cyO h_now_ledger h_now_ledger_cells M_h_now_ledger) ++ ((wX2 cyB cyI cyZ cyO h_now_people h_now_people_rank h_now_people_widow h_now_people_slips h_now_people_given h_now_people_silver h_now_people_returns h_now_people_rents h_now_people_share h_now_people_rest M_h_now_people) ++ (wX6 cyB cyI cyZ cyO h_now_rules M_h_now_rules))))))) (wr := (wX11 cyB cyI cyZ cyO h h_now h_images h_reader h_search)) (w1 := ((wX7 cyB cyI cyZ cyO h_now h_now_tape h_now_law h_now_people h_now_rules h_now_cargo h_now_debts h_now_ledger M_h_now_30) ++ ((wX0 cyB cyI cyZ cyO h_now_cargo h_now_cargo_owner h_now_cargo_size h_now_cargo_weight h_now_cargo_worth h_now_cargo_level h_now_cargo_holder h_now_cargo_side h_now_cargo_planned M_h_now_cargo_30) ++ ((wX5 cyB cyI cyZ cyO h_now_debts h_now_debts_lender h_now_debts_borrower h_now_debts_sum h_now_debts_percent M_h_now_debts_30) ++ ((wX10 cyB cyI cyZ cyO h_now_ledger h_now_ledger_cells M_h_now_ledger_30) ++ ((wX2 cyB cyI cyZ cyO h_now_people h_now_people_rank h_now_people_widow h_now_people_slips h_now_people_given h_now_people_silver h_now_people_returns h_now_people_rents h_now_people_share h_now_people_rest M_h_now_people_30) ++ (wX6 cyB cyI cyZ cyO h_now_rules M_h_now_rules))))))) (ws' := ((wX11 cyB cyI cyZ cyO h h_now h_images h_reader h_search) ++ ((wX7 cyB cyI cyZ cyO h_now h_now_tape h_now_law h_now_people h_now_rules h_now_cargo h_now_debts h_now_ledger M_h_now_30) ++ ((wX0 cyB cyI cyZ cyO h_now_cargo h_now_cargo_owner h_now_cargo_size h_now_cargo_weight h_now_cargo_worth h_now_cargo_level h_now_cargo_holder h_now_cargo_side h_now_cargo_planned M_h_now_cargo_30) ++ ((wX5 cyB cyI cyZ cyO h_now_debts h_now_debts_lender h_now_debts_borrower h_now_debts_sum h_now_debts_percent M_h_now_debts_30) ++ ((wX10 cyB cyI cyZ cyO h_now_ledger h_now_ledger_cells M_h_now_ledger_30) ++ ((wX2 cyB cyI cyZ cyO h_now_people h_now_people_rank h_now_people_widow h_now_people_slips h_now_people_given h_now_people_silver h_now_people_returns h_now_people_rents h_now_people_share h_now_people_rest M_h_now_people_30) ++ (wX6 cyB cyI cyZ cyO h_now_rules M_h_now_rules)))))))) hP hD hS hA [1, 2, 3, 4, 5, 6, 7, 8, 9, 10, 11, 12, 13, 14, 15, 16, 17, 18, 19, 20, 21, 22, 23, 24, 25, 26, 27, 28] [0] [0, 1, 2, 3, 4, 5, 6, 7, 8, 9, 10, 11, 12, 13, 14, 15, 16, 17, 18, 19, 20, 21, 22, 23, 24, 25, 26, 27, 28] rfl rfl (by decide) (by decide) rfl (by decide) (va_runV (As := [.int p1]) (rest := []) ⟨hx, hb, hml, hown, hts⟩ (c_X7_closeYear l dC dI cyB cyI cyZ cyO h_now h_now_tape h_now_law h_now_people h_now_rules h_now_cargo h_now_debts h_now_ledger h_now_cargo_owner h_now_cargo_size h_now_cargo_weight h_now_cargo_worth h_now_cargo_level h_now_cargo_holder h_now_cargo_side h_now_cargo_planned h_now_debts_lender h_now_debts_borrower h_now_debts_sum h_now_debts_percent h_now_ledger_cells h_now_people_rank h_now_people_widow h_now_people_slips h_now_people_given h_now_people_silver h_now_people_returns h_now_people_rents h_now_people_share h_now_people_rest _ M_h_now M_h_now_cargo M_h_now_debts M_h_now_ledger M_h_now_people M_h_now_rules p1 M_h_now_30 M_h_now_cargo_30 M_h_now_debts_30 M_h_now_ledger_30 M_h_now_people_30 h30) (cwV 1 hts gX11_ends_X7_closeYear rfl rfl rfl (by decide +kernel) ⟨Nat.le_of_ble_eq_true rfl, Nat.le_of_ble_eq_true rfl⟩) ⟨PW.blind, va_recv hK hP (ci := 7) (q0 := 1) rfl rfl, fun U hU hW => ⟨rfl, by rw [hU], by rw [hU]; exact hPc, hCx.warm hW, hDc.weaken (fun _ _ _ _ => trivial)⟩⟩ rfl rfl hl.1 rfl (lv_room (Nat.le_of_ble_eq_true rfl)) dX11_ends_30 ⟨Nat.zero_le _, Nat.zero_le _⟩) (fun H locs hP hD hS => ?_)
      refine lv_aload_n hx hb dX11_ends_33 rfl (lv_at hl 0 rfl) ?_
      refine va_get (D := (dC, dI)) (ci := 11) (v := .ref h_now) (C := RX11) (T := TX11) (N := 4) hx hb hts hin11 hown hK hP 0 rfl rfl 0 (by decide) kf10 (fun _ h9 => h9) rfl dX11_ends_34 ?_
      refine va_get (D := (dC, dI)) (ci := 7) (v := .int (M_h_now_30 9 0)) (C := RX7) (T := TX7) (N := 14) hx hb hts hin7 hown hK hP 1 rfl rfl 9 (by decide) kf209 (fun _ h9 => h9) rfl dX11_ends_37 ?_
      obtain ⟨hq0, hq1, hq2, hq3, hq4, hq5⟩ := pj6 hf
      subst hq0
      subst hq1
      subst hq2
      subst hq3
      subst hq4
      subst hq5
      exact W.iret (v := (M_h_now_30 9 0)) hx hb hr (fun t ht hW => ⟨rfl, by rw [ht]; exact hP, hD, hS.F ht⟩) hS.2.2 dX11_ends_40
    · rw [if_neg hc20] at hf
      refine lv_iconst (v := (-1 : Int32)) hx hb dX11_ends_23 (by decide) ?_
      obtain ⟨hq0, hq1, hq2, hq3, hq4, hq5⟩ := pj6 hf
      subst hq0
      subst hq1
      subst hq2
      subst hq3
      subst hq4
      subst hq5
      exact W.iret (v := (-1 : Int32)) hx hb hr (fun t ht hW => ⟨rfl, by rw [ht]; exact hP, hD, hS.F ht⟩) hS.2.2 dX11_ends_24
set_option maxHeartbeats 4000000 in
set_option maxRecDepth 100000 in
theorem c_X11_tell (l : Launch) (dC : Nat → ClassId) (dI : Nat → Nat → Nat) (cyB cyI cyZ cyO : ClassId) (h h_now h_images h_reader h_search h_now_tape h_now_law h_now_people h_now_rules h_now_cargo h_now_debts h_now_ledger h_now_cargo_owner h_now_cargo_size h_now_cargo_weight h_now_cargo_worth h_now_cargo_level h_now_cargo_holder h_now_cargo_side h_now_cargo_planned h_now_law_action h_now_law_amount h_now_law_tests h_now_law_negated h_now_law_subject h_now_law_sign h_now_law_limit h_now_people_rank h_now_people_widow h_now_people_slips h_now_people_given h_now_people_silver h_now_people_returns h_now_people_rents h_now_people_share h_now_people_rest : Nat) (M_h_now : Mem) (M_h_now_cargo : Mem) (M_h_now_law : Mem) (M_h_now_people : Mem) (p1 : Int32) (p2 : Int32) (r : Int32) (hf : f_X11_tell M_h_now M_h_now_cargo M_h_now_law M_h_now_people p1 p2 = some r) : Met l yX11_tell wsX11_tell ({ frames := 4, cells := 0, slots := 0, locals := 99 } : Room) (PR dC dI cyB cyI cyZ cyO ([.ref h, .int p1, .int p2] : List Value) ((wX11 cyB cyI cyZ cyO h h_now h_images h_reader h_search) ++ ((wX7 cyB cyI cyZ cyO h_now h_now_tape h_now_law h_now_people h_now_rules h_now_cargo h_now_debts h_now_ledger M_h_now) ++ ((wX0 cyB cyI cyZ cyO h_now_cargo h_now_cargo_owner h_now_cargo_size h_now_cargo_weight h_now_cargo_worth h_now_cargo_level h_now_cargo_holder h_now_cargo_side h_now_cargo_planned M_h_now_cargo) ++ ((wX3 cyB cyI cyZ cyO h_now_law h_now_law_action h_now_law_amount h_now_law_tests h_now_law_negated h_now_law_subject h_now_law_sign h_now_law_limit M_h_now_law) ++ (wX2 cyB cyI cyZ cyO h_now_people h_now_people_rank h_now_people_widow h_now_people_slips h_now_people_given h_now_people_silver h_now_people_returns h_now_people_rents h_now_people_share h_now_people_rest M_h_now_people)))))) (QR (some (.int r))) 0 0 (fun _ => False) := by
  refine Met.ofW (cc := cX11_tell) (maxL := 4) (ret := (some .int)) (by decide) rfl ?_
  intro p e s m args below meth c s₁ B hml hv
  obtain ⟨rfl, hP, hCx⟩ := hv
  have hK := hCx.1
  have hN := hCx.2
  have hx := B.exec
  have hb := B.bytes
  have hr := B.returns
  have hts := atoms_spec (ws := wsX11_tell) B.pre
  have hown : s.vm.findClass RX11 = some m.cls := findClass_of_methodNamed B.named
  have hlocks := B.notSynchronized
  have hin2 : ∀ w ∈ u_ws RX2 TX2 10, w ∈ wsX11_tell := fun w h => List.mem_cons_of_mem _ (List.mem_append_left _ (List.mem_append_left _ (List.mem_append_right _ h)))
  have hin7 : ∀ w ∈ u_ws RX7 TX7 14, w ∈ wsX11_tell := fun w h => List.mem_cons_of_mem _ (List.mem_append_left _ (List.mem_append_left _ (List.mem_append_left _ (List.mem_append_right _ h))))
  have hin11 : ∀ w ∈ u_ws RX11 TX11 4, w ∈ wsX11_tell := fun w h => List.mem_cons_of_mem _ (List.mem_append_left _ (List.mem_append_left _ (List.mem_append_left _ (List.mem_append_left _ (List.mem_append_right _ h)))))
  have kf10 := hts (.fieldLink RX11 10 "HoldSlips" "now" "LHoldSlips$State;") (by decide +kernel)
  have kf82 := hts (.fieldLink RX11 82 "HoldSlips$State" "people" "LHoldSlips$Citizens;") (by decide +kernel)
  have kf120 := hts (.fieldLink RX11 120 "HoldSlips$Citizens" "slips" "[I") (by decide +kernel)
  have kf217 := hts (.fieldLink RX11 217 "HoldSlips$Citizens" "rank" "[I") (by decide +kernel)
  have kf220 := hts (.fieldLink RX11 220 "HoldSlips$Citizens" "widow" "[I") (by decide +kernel)
  have kf226 := hts (.fieldLink RX11 226 "HoldSlips$Citizens" "silver" "[I") (by decide +kernel)
  have kf229 := hts (.fieldLink RX11 229 "HoldSlips$Citizens" "returns" "[I") (by decide +kernel)
  have kf232 := hts (.fieldLink RX11 232 "HoldSlips$Citizens" "rents" "[I") (by decide +kernel)
  have hl := lv_entry ([.ref h, .int p1, .int p2] : List Value) (n := 4) (Nat.le_of_ble_eq_true rfl)
  rw [lg_entry_eq]
  generalize (lg_sl ([.ref h, .int p1, .int p2] : List Value) ++ List.replicate (4 - (lg_sl ([.ref h, .int p1, .int p2] : List Value)).length) Slot.unset).toArray = ls at hl ⊢
  have hl : lv_has ls 4 [(0, .ref h), (1, .int p1), (2, .int p2)] := hl
  rw [f_X11_tell] at hf
  refine lv_aload_n hx hb dX11_tell_0 rfl (lv_at hl 0 rfl) ?_
  refine va_get (D := (dC, dI)) (ci := 11) (v := .ref h_now) (C := RX11) (T := TX11) (N := 4) hx hb hts hin11 hown hK hP 0 rfl rfl 0 (by decide) kf10 (fun _ h9 => h9) rfl dX11_tell_1 ?_
  refine va_get (D := (dC, dI)) (ci := 7) (v := .ref h_now_people) (C := RX7) (T := TX7) (N := 14) hx hb hts hin7 hown hK hP 1 rfl rfl 2 (by decide) kf82 (fun _ h9 => h9) rfl dX11_tell_4 ?_
  refine lv_astore_n (lv' := [(3, .ref h_now_people), (0, .ref h), (1, .int p1), (2, .int p2)]) hx hb dX11_tell_7 rfl hl (by decide) rfl (fun ls hl => ?_)
  refine lv_aload_n hx hb dX11_tell_8 rfl (lv_at hl 0 rfl) ?_
  refine lv_iload_n hx hb dX11_tell_9 rfl (lv_at hl 2 rfl) ?_
  obtain ⟨r10, h10, hf⟩ := bd1_some hf
  have hPc := hP.sub (ws' := (wX2 cyB cyI cyZ cyO h_now_people h_now_people_rank h_now_people_widow h_now_people_slips h_now_people_given h_now_people_silver h_now_people_returns h_now_people_rents h_now_people_share h_now_people_rest M_h_now_people)) [19, 20, 21, 22, 23, 24, 25, 26, 27, 28] rfl
  refine ro_calli (va_runV (As := [.int p1]) (rest := []) ⟨hx, hb, hml, hown, hts⟩ (c_X2_has l dC dI cyB cyI cyZ cyO h_now_people h_now_people_rank h_now_people_widow h_now_people_slips h_now_people_given h_now_people_silver h_now_people_returns h_now_people_rents h_now_people_share h_now_people_rest M_h_now_people p1 r10 h10) (cwV 1 hts gX11_tell_X2_has rfl rfl rfl (by decide +kernel) ⟨Nat.le_of_ble_eq_true rfl, Nat.le_of_ble_eq_true rfl⟩) ⟨PR.blind, va_recv hK hP (ci := 2) (q0 := 19) rfl rfl, fun U hU hW => ⟨rfl, by rw [hU]; exact hPc, hCx.warm hW⟩⟩ rfl rfl hl.1 rfl (lv_room (Nat.le_of_ble_eq_true rfl)) dX11_tell_10 ⟨Nat.zero_le _, Nat.zero_le _⟩) ?_
  refine lv_if_ne (tgt := 19) hx hb dX11_tell_13 (by decide) (fun hc13 => ?_) (fun hc13 => ?_)
  · rw [if_neg hc13] at hf
    refine lv_iload_n hx hb dX11_tell_19 rfl (lv_at hl 3 rfl) ?_
    by_cases hs20_0 : p2 = (0 : Int32)
    · rw [if_pos hs20_0] at hf
      refine lv_tableIn (off := 48) (tgt := 68) hx hb dX11_tell_20 (by rw [hs20_0]; decide) (by rw [hs20_0]; decide) (by rw [hs20_0]; rfl) (by decide) ?_
      refine lv_aload_n hx hb dX11_tell_68 rfl (lv_at hl 0 rfl) ?_
      refine va_get (D := (dC, dI)) (ci := 2) (v := .ref h_now_people_rank) (C := RX2) (T := TX2) (N := 10) hx hb hts hin2 hown hK hP 19 rfl rfl 1 (by decide) kf217 (fun _ h9 => h9) rfl dX11_tell_69 ?_
      refine lv_iload_n hx hb dX11_tell_72 rfl (lv_at hl 2 rfl) ?_
      have hi73 := if_no hf
      rw [if_neg hi73] at hf
      refine va_iald hx hb hK hP 20 1 rfl rfl hi73 dX11_tell_73 ?_
      have hq := Option.some.inj hf
      subst hq
      exact W.iret (v := (M_h_now_people 1 (p1).toNatClampNeg)) hx hb hr (fun t ht hW => ⟨rfl, ht⟩) (fun q h => by cases h) dX11_tell_74
    · rw [if_neg hs20_0] at hf
      by_cases hs20_1 : p2 = (1 : Int32)
      · rw [if_pos hs20_1] at hf
        refine lv_tableIn (off := 55) (tgt := 75) hx hb dX11_tell_20 (by rw [hs20_1]; decide) (by rw [hs20_1]; decide) (by rw [hs20_1]; rfl) (by decide) ?_
        refine lv_aload_n hx hb dX11_tell_75 rfl (lv_at hl 0 rfl) ?_
        refine va_get (D := (dC, dI)) (ci := 2) (v := .ref h_now_people_widow) (C := RX2) (T := TX2) (N := 10) hx hb hts hin2 hown hK hP 19 rfl rfl 2 (by decide) kf220 (fun _ h9 => h9) rfl dX11_tell_76 ?_
        refine lv_iload_n hx hb dX11_tell_79 rfl (lv_at hl 2 rfl) ?_
        have hi80 := if_no hf
        rw [if_neg hi80] at hf
        refine va_iald hx hb hK hP 21 1 rfl rfl hi80 dX11_tell_80 ?_
        have hq := Option.some.inj hf
        subst hq
        exact W.iret (v := (M_h_now_people 2 (p1).toNatClampNeg)) hx hb hr (fun t ht hW => ⟨rfl, ht⟩) (fun q h => by cases h) dX11_tell_81
      · rw [if_neg hs20_1] at hf
        by_cases hs20_2 : p2 = (2 : Int32)
        · rw [if_pos hs20_2] at hf
          refine lv_tableIn (off := 62) (tgt := 82) hx hb dX11_tell_20 (by rw [hs20_2]; decide) (by rw [hs20_2]; decide) (by rw [hs20_2]; rfl) (by decide) ?_
          refine lv_aload_n hx hb dX11_tell_82 rfl (lv_at hl 1 rfl) ?_
          refine va_get (D := (dC, dI)) (ci := 11) (v := .ref h_now) (C := RX11) (T := TX11) (N := 4) hx hb hts hin11 hown hK hP 0 rfl rfl 0 (by decide) kf10 (fun _ h9 => h9) rfl dX11_tell_83 ?_
          refine lv_iload_n hx hb dX11_tell_86 rfl (lv_at hl 2 rfl) ?_
          obtain ⟨r87, h87, hf⟩ := bd1_some hf
          have hPc := hP.sub (ws' := ((wX7 cyB cyI cyZ cyO h_now h_now_tape h_now_law h_now_people h_now_rules h_now_cargo h_now_debts h_now_ledger M_h_now) ++ ((wX3 cyB cyI cyZ cyO h_now_law h_now_law_action h_now_law_amount h_now_law_tests h_now_law_negated h_now_law_subject h_now_law_sign h_now_law_limit M_h_now_law) ++ (wX2 cyB cyI cyZ cyO h_now_people h_now_people_rank h_now_people_widow h_now_people_slips h_now_people_given h_now_people_silver h_now_people_returns h_now_people_rents h_now_people_share h_now_people_rest M_h_now_people)))) [1, 11, 12, 13, 14, 15, 16, 17, 18, 19, 20, 21, 22, 23, 24, 25, 26, 27, 28] rfl
          refine ro_calli (va_runV (As := [.int p1]) (rest := []) ⟨hx, hb, hml, hown, hts⟩ (c_X7_shareOf l dC dI cyB cyI cyZ cyO h_now h_now_tape h_now_law h_now_people h_now_rules h_now_cargo h_now_debts h_now_ledger h_now_law_action h_now_law_amount h_now_law_tests h_now_law_negated h_now_law_subject h_now_law_sign h_now_law_limit h_now_people_rank h_now_people_widow h_now_people_slips h_now_people_given h_now_people_silver h_now_people_returns h_now_people_rents h_now_people_share h_now_people_rest M_h_now M_h_now_law M_h_now_people p1 r87 h87) (cwV 1 hts gX11_tell_X7_shareOf rfl rfl rfl (by decide +kernel) ⟨Nat.le_of_ble_eq_true rfl, Nat.le_of_ble_eq_true rfl⟩) ⟨PR.blind, va_recv hK hP (ci := 7) (q0 := 1) rfl rfl, fun U hU hW => ⟨rfl, by rw [hU]; exact hPc, hCx.warm hW⟩⟩ rfl rfl hl.1 rfl (lv_room (Nat.le_of_ble_eq_true rfl)) dX11_tell_87 ⟨Nat.zero_le _, Nat.zero_le _⟩) ?_
          have hq := Option.some.inj hf
          subst hq
          exact W.iret (v := r87) hx hb hr (fun t ht hW => ⟨rfl, ht⟩) (fun q h => by cases h) dX11_tell_90
        · rw [if_neg hs20_2] at hf
          by_cases hs20_3 : p2 = (3 : Int32)
          · rw [if_pos hs20_3] at hf
            refine lv_tableIn (off := 71) (tgt := 91) hx hb dX11_tell_20 (by rw [hs20_3]; decide) (by rw [hs20_3]; decide) (by rw [hs20_3]; rfl) (by decide) ?_
            refine lv_aload_n hx hb dX11_tell_91 rfl (lv_at hl 0 rfl) ?_
            refine va_get (D := (dC, dI)) (ci := 2) (v := .ref h_now_people_slips) (C := RX2) (T := TX2) (N := 10) hx hb hts hin2 hown hK hP 19 rfl rfl 3 (by decide) kf120 (fun _ h9 => h9) rfl dX11_tell_92 ?_
            refine lv_iload_n hx hb dX11_tell_95 rfl (lv_at hl 2 rfl) ?_
            have hi96 := if_no hf
            rw [if_neg hi96] at hf
            refine va_iald hx hb hK hP 22 1 rfl rfl hi96 dX11_tell_96 ?_
            have hq := Option.some.inj hf
            subst hq
            exact W.iret (v := (M_h_now_people 3 (p1).toNatClampNeg)) hx hb hr (fun t ht hW => ⟨rfl, ht⟩) (fun q h => by cases h) dX11_tell_97
          · rw [if_neg hs20_3] at hf
            by_cases hs20_4 : p2 = (4 : Int32)
            · rw [if_pos hs20_4] at hf
              refine lv_tableIn (off := 78) (tgt := 98) hx hb dX11_tell_20 (by rw [hs20_4]; decide) (by rw [hs20_4]; decide) (by rw [hs20_4]; rfl) (by decide) ?_
              refine lv_aload_n hx hb dX11_tell_98 rfl (lv_at hl 1 rfl) ?_
              refine va_get (D := (dC, dI)) (ci := 11) (v := .ref h_now) (C := RX11) (T := TX11) (N := 4) hx hb hts hin11 hown hK hP 0 rfl rfl 0 (by decide) kf10 (fun _ h9 => h9) rfl dX11_tell_99 ?_
              refine lv_iload_n hx hb dX11_tell_102 rfl (lv_at hl 2 rfl) ?_
              obtain ⟨r103, h103, hf⟩ := bd1_some hf
              have hPc := hP.sub (ws' := ((wX7 cyB cyI cyZ cyO h_now h_now_tape h_now_law h_now_people h_now_rules h_now_cargo h_now_debts h_now_ledger M_h_now) ++ ((wX0 cyB cyI cyZ cyO h_now_cargo h_now_cargo_owner h_now_cargo_size h_now_cargo_weight h_now_cargo_worth h_now_cargo_level h_now_cargo_holder h_now_cargo_side h_now_cargo_planned M_h_now_cargo) ++ (wX2 cyB cyI cyZ cyO h_now_people h_now_people_rank h_now_people_widow h_now_people_slips h_now_people_given h_now_people_silver h_now_people_returns h_now_people_rents h_now_people_share h_now_people_rest M_h_now_people)))) [1, 2, 3, 4, 5, 6, 7, 8, 9, 10, 19, 20, 21, 22, 23, 24, 25, 26, 27, 28] rfl
              refine ro_calli (va_runV (As := [.int p1]) (rest := []) ⟨hx, hb, hml, hown, hts⟩ (c_X7_freeSlips l dC dI cyB cyI cyZ cyO h_now h_now_tape h_now_law h_now_people h_now_rules h_now_cargo h_now_debts h_now_ledger h_now_cargo_owner h_now_cargo_size h_now_cargo_weight h_now_cargo_worth h_now_cargo_level h_now_cargo_holder h_now_cargo_side h_now_cargo_planned h_now_people_rank h_now_people_widow h_now_people_slips h_now_people_given h_now_people_silver h_now_people_returns h_now_people_rents h_now_people_share h_now_people_rest M_h_now M_h_now_cargo M_h_now_people p1 r103 h103) (cwV 1 hts gX11_tell_X7_freeSlips rfl rfl rfl (by decide +kernel) ⟨Nat.le_of_ble_eq_true rfl, Nat.le_of_ble_eq_true rfl⟩) ⟨PR.blind, va_recv hK hP (ci := 7) (q0 := 1) rfl rfl, fun U hU hW => ⟨rfl, by rw [hU]; exact hPc, hCx.warm hW⟩⟩ rfl rfl hl.1 rfl (lv_room (Nat.le_of_ble_eq_true rfl)) dX11_tell_103 ⟨Nat.zero_le _, Nat.zero_le _⟩) ?_
              have hq := Option.some.inj hf
              subst hq
              exact W.iret (v := r103) hx hb hr (fun t ht hW => ⟨rfl, ht⟩) (fun q h => by cases h) dX11_tell_106
            · rw [if_neg hs20_4] at hf
              by_cases hs20_5 : p2 = (5 : Int32)
              · rw [if_pos hs20_5] at hf
                refine lv_tableIn (off := 87) (tgt := 107) hx hb dX11_tell_20 (by rw [hs20_5]; decide) (by rw [hs20_5]; decide) (by rw [hs20_5]; rfl) (by decide) ?_
                refine lv_aload_n hx hb dX11_tell_107 rfl (lv_at hl 0 rfl) ?_
                refine va_get (D := (dC, dI)) (ci := 2) (v := .ref h_now_people_silver) (C := RX2) (T := TX2) (N := 10) hx hb hts hin2 hown hK hP 19 rfl rfl 5 (by decide) kf226 (fun _ h9 => h9) rfl dX11_tell_108 ?_
                refine lv_iload_n hx hb dX11_tell_111 rfl (lv_at hl 2 rfl) ?_
                have hi112 := if_no hf
                rw [if_neg hi112] at hf
                refine va_iald hx hb hK hP 24 1 rfl rfl hi112 dX11_tell_112 ?_
                have hq := Option.some.inj hf
                subst hq
                exact W.iret (v := (M_h_now_people 5 (p1).toNatClampNeg)) hx hb hr (fun t ht hW => ⟨rfl, ht⟩) (fun q h => by cases h) dX11_tell_113
              · rw [if_neg hs20_5] at hf
                by_cases hs20_6 : p2 = (6 : Int32)
                · rw [if_pos hs20_6] at hf
                  refine lv_tableIn (off := 94) (tgt := 114) hx hb dX11_tell_20 (by rw [hs20_6]; decide) (by rw [hs20_6]; decide) (by rw [hs20_6]; rfl) (by decide) ?_
                  refine lv_aload_n hx hb dX11_tell_114 rfl (lv_at hl 0 rfl) ?_
                  refine va_get (D := (dC, dI)) (ci := 2) (v := .ref h_now_people_returns) (C := RX2) (T := TX2) (N := 10) hx hb hts hin2 hown hK hP 19 rfl rfl 6 (by decide) kf229 (fun _ h9 => h9) rfl dX11_tell_115 ?_
                  refine lv_iload_n hx hb dX11_tell_118 rfl (lv_at hl 2 rfl) ?_
                  have hi119 := if_no hf
                  rw [if_neg hi119] at hf
                  refine va_iald hx hb hK hP 25 1 rfl rfl hi119 dX11_tell_119 ?_
                  have hq := Option.some.inj hf
                  subst hq
                  exact W.iret (v := (M_h_now_people 6 (p1).toNatClampNeg)) hx hb hr (fun t ht hW => ⟨rfl, ht⟩) (fun q h => by cases h) dX11_tell_120
                · rw [if_neg hs20_6] at hf
                  by_cases hs20_7 : p2 = (7 : Int32)
                  · rw [if_pos hs20_7] at hf
                    refine lv_tableIn (off := 101) (tgt := 121) hx hb dX11_tell_20 (by rw [hs20_7]; decide) (by rw [hs20_7]; decide) (by rw [hs20_7]; rfl) (by decide) ?_
                    refine lv_aload_n hx hb dX11_tell_121 rfl (lv_at hl 0 rfl) ?_
                    refine va_get (D := (dC, dI)) (ci := 2) (v := .ref h_now_people_rents) (C := RX2) (T := TX2) (N := 10) hx hb hts hin2 hown hK hP 19 rfl rfl 7 (by decide) kf232 (fun _ h9 => h9) rfl dX11_tell_122 ?_
                    refine lv_iload_n hx hb dX11_tell_125 rfl (lv_at hl 2 rfl) ?_
                    have hi126 := if_no hf
                    rw [if_neg hi126] at hf
                    refine va_iald hx hb hK hP 26 1 rfl rfl hi126 dX11_tell_126 ?_
                    have hq := Option.some.inj hf
                    subst hq
                    exact W.iret (v := (M_h_now_people 7 (p1).toNatClampNeg)) hx hb hr (fun t ht hW => ⟨rfl, ht⟩) (fun q h => by cases h) dX11_tell_127
                  · rw [if_neg hs20_7] at hf
                    refine lv_tableOut (tgt := 128) hx hb dX11_tell_20 (by have z0 := lv_neT hs20_0 (show (0 : Int32).toInt = 0 by decide); have z1 := lv_neT hs20_1 (show (1 : Int32).toInt = 1 by decide); have z2 := lv_neT hs20_2 (show (2 : Int32).toInt = 2 by decide); have z3 := lv_neT hs20_3 (show (3 : Int32).toInt = 3 by decide); have z4 := lv_neT hs20_4 (show (4 : Int32).toInt = 4 by decide); have z5 := lv_neT hs20_5 (show (5 : Int32).toInt = 5 by decide); have z6 := lv_neT hs20_6 (show (6 : Int32).toInt = 6 by decide); have z7 := lv_neT hs20_7 (show (7 : Int32).toInt = 7 by decide); omega) (by decide) ?_
                    refine lv_ldc (v := (-1000000000 : Int32)) hx hb hown (hts (.constant RX11 216 (-1000000000)) (by decide +kernel)) dX11_tell_128 ?_
                    have hq := Option.some.inj hf
                    subst hq
                    exact W.iret (v := (-1000000000 : Int32)) hx hb hr (fun t ht hW => ⟨rfl, ht⟩) (fun q h => by cases h) dX11_tell_130
  · rw [if_pos hc13] at hf
    refine lv_ldc (v := (-1000000000 : Int32)) hx hb hown (hts (.constant RX11 216 (-1000000000)) (by decide +kernel)) dX11_tell_16 ?_
    have hq := Option.some.inj hf
    subst hq
    exact W.iret (v := (-1000000000 : Int32)) hx hb hr (fun t ht hW => ⟨rfl, ht⟩) (fun q h => by cases h) dX11_tell_18
set_option maxHeartbeats 4000000 in
set_option maxRecDepth 100000 in
theorem c_X11_about (l : Launch) (dC : Nat → ClassId) (dI : Nat → Nat → Nat) (cyB cyI cyZ cyO : ClassId) (h h_now h_images h_reader h_search h_now_tape h_now_law h_now_people h_now_rules h_now_cargo h_now_debts h_now_ledger h_now_cargo_owner h_now_cargo_size h_now_cargo_weight h_now_cargo_worth h_now_cargo_level h_now_cargo_holder h_now_cargo_side h_now_cargo_planned : Nat) (M_h_now : Mem) (M_h_now_cargo : Mem) (p1 : Int32) (p2 : Int32) (r : Int32) (hf : f_X11_about M_h_now M_h_now_cargo p1 p2 = some r) : Met l yX11_about wsX11_about ({ frames := 2, cells := 0, slots := 0, locals := 43 } : Room) (PR dC dI cyB cyI cyZ cyO ([.ref h, .int p1, .int p2] : List Value) ((wX11 cyB cyI cyZ cyO h h_now h_images h_reader h_search) ++ ((wX7 cyB cyI cyZ cyO h_now h_now_tape h_now_law h_now_people h_now_rules h_now_cargo h_now_debts h_now_ledger M_h_now) ++ (wX0 cyB cyI cyZ cyO h_now_cargo h_now_cargo_owner h_now_cargo_size h_now_cargo_weight h_now_cargo_worth h_now_cargo_level h_now_cargo_holder h_now_cargo_side h_now_cargo_planned M_h_now_cargo)))) (QR (some (.int r))) 0 0 (fun _ => False) := by
  refine Met.ofW (cc := cX11_about) (maxL := 4) (ret := (some .int)) (by decide) rfl ?_
  intro p e s m args below meth c s₁ B hml hv
  obtain ⟨rfl, hP, hCx⟩ := hv
  have hK := hCx.1
  have hN := hCx.2
  have hx := B.exec
  have hb := B.bytes
  have hr := B.returns
  have hts := atoms_spec (ws := wsX11_about) B.pre
  have hown : s.vm.findClass RX11 = some m.cls := findClass_of_methodNamed B.named
  have hlocks := B.notSynchronized
  have hin0 : ∀ w ∈ u_ws RX0 TX0 10, w ∈ wsX11_about := fun w h => List.mem_cons_of_mem _ (List.mem_append_right _ h)
  have hin7 : ∀ w ∈ u_ws RX7 TX7 14, w ∈ wsX11_about := fun w h => List.mem_cons_of_mem _ (List.mem_append_left _ (List.mem_append_right _ h))
  have hin11 : ∀ w ∈ u_ws RX11 TX11 4, w ∈ wsX11_about := fun w h => List.mem_cons_of_mem _ (List.mem_append_left _ (List.mem_append_left _ (List.mem_append_right _ h)))
  have kf10 := hts (.fieldLink RX11 10 "HoldSlips" "now" "LHoldSlips$State;") (by decide +kernel)
  have kf131 := hts (.fieldLink RX11 131 "HoldSlips$State" "cargo" "LHoldSlips$Bales;") (by decide +kernel)
  have kf143 := hts (.fieldLink RX11 143 "HoldSlips$Bales" "level" "[I") (by decide +kernel)
  have kf183 := hts (.fieldLink RX11 183 "HoldSlips$Bales" "owner" "[I") (by decide +kernel)
  have kf235 := hts (.fieldLink RX11 235 "HoldSlips$Bales" "size" "[I") (by decide +kernel)
  have kf238 := hts (.fieldLink RX11 238 "HoldSlips$Bales" "weight" "[I") (by decide +kernel)
  have kf241 := hts (.fieldLink RX11 241 "HoldSlips$Bales" "worth" "[I") (by decide +kernel)
  have kf250 := hts (.fieldLink RX11 250 "HoldSlips$Bales" "holder" "[I") (by decide +kernel)
  have kf253 := hts (.fieldLink RX11 253 "HoldSlips$Bales" "side" "[I") (by decide +kernel)
  have hl := lv_entry ([.ref h, .int p1, .int p2] : List Value) (n := 4) (Nat.le_of_ble_eq_true rfl)
  rw [lg_entry_eq]
  generalize (lg_sl ([.ref h, .int p1, .int p2] : List Value) ++ List.replicate (4 - (lg_sl ([.ref h, .int p1, .int p2] : List Value)).length) Slot.unset).toArray = ls at hl ⊢
  have hl : lv_has ls 4 [(0, .ref h), (1, .int p1), (2, .int p2)] := hl
  rw [f_X11_about] at hf
  refine lv_aload_n hx hb dX11_about_0 rfl (lv_at hl 0 rfl) ?_
  refine va_get (D := (dC, dI)) (ci := 11) (v := .ref h_now) (C := RX11) (T := TX11) (N := 4) hx hb hts hin11 hown hK hP 0 rfl rfl 0 (by decide) kf10 (fun _ h9 => h9) rfl dX11_about_1 ?_
  refine va_get (D := (dC, dI)) (ci := 7) (v := .ref h_now_cargo) (C := RX7) (T := TX7) (N := 14) hx hb hts hin7 hown hK hP 1 rfl rfl 4 (by decide) kf131 (fun _ h9 => h9) rfl dX11_about_4 ?_
  refine lv_astore_n (lv' := [(3, .ref h_now_cargo), (0, .ref h), (1, .int p1), (2, .int p2)]) hx hb dX11_about_7 rfl hl (by decide) rfl (fun ls hl => ?_)
  refine lv_aload_n hx hb dX11_about_8 rfl (lv_at hl 0 rfl) ?_
  refine lv_iload_n hx hb dX11_about_9 rfl (lv_at hl 2 rfl) ?_
  obtain ⟨r10, h10, hf⟩ := bd1_some hf
  have hPc := hP.sub (ws' := (wX0 cyB cyI cyZ cyO h_now_cargo h_now_cargo_owner h_now_cargo_size h_now_cargo_weight h_now_cargo_worth h_now_cargo_level h_now_cargo_holder h_now_cargo_side h_now_cargo_planned M_h_now_cargo)) [2, 3, 4, 5, 6, 7, 8, 9, 10] rfl
  refine ro_calli (va_runV (As := [.int p1]) (rest := []) ⟨hx, hb, hml, hown, hts⟩ (c_X0_has l dC dI cyB cyI cyZ cyO h_now_cargo h_now_cargo_owner h_now_cargo_size h_now_cargo_weight h_now_cargo_worth h_now_cargo_level h_now_cargo_holder h_now_cargo_side h_now_cargo_planned M_h_now_cargo p1 r10 h10) (cwV 1 hts gX11_about_X0_has rfl rfl rfl (by decide +kernel) ⟨Nat.le_of_ble_eq_true rfl, Nat.le_of_ble_eq_true rfl⟩) ⟨PR.blind, va_recv hK hP (ci := 0) (q0 := 2) rfl rfl, fun U hU hW => ⟨rfl, by rw [hU]; exact hPc, hCx.warm hW⟩⟩ rfl rfl hl.1 rfl (lv_room (Nat.le_of_ble_eq_true rfl)) dX11_about_10 ⟨Nat.zero_le _, Nat.zero_le _⟩) ?_
  refine lv_if_ne (tgt := 18) hx hb dX11_about_13 (by decide) (fun hc13 => ?_) (fun hc13 => ?_)
  · rw [if_neg hc13] at hf
    refine lv_iload_n hx hb dX11_about_18 rfl (lv_at hl 3 rfl) ?_
    by_cases hs19_0 : p2 = (0 : Int32)
    · rw [if_pos hs19_0] at hf
      refine lv_tableIn (off := 49) (tgt := 68) hx hb dX11_about_19 (by rw [hs19_0]; decide) (by rw [hs19_0]; decide) (by rw [hs19_0]; rfl) (by decide) ?_
      refine lv_aload_n hx hb dX11_about_68 rfl (lv_at hl 0 rfl) ?_
      refine va_get (D := (dC, dI)) (ci := 0) (v := .ref h_now_cargo_owner) (C := RX0) (T := TX0) (N := 10) hx hb hts hin0 hown hK hP 2 rfl rfl 1 (by decide) kf183 (fun _ h9 => h9) rfl dX11_about_69 ?_
      refine lv_iload_n hx hb dX11_about_72 rfl (lv_at hl 2 rfl) ?_
      have hi73 := if_no hf
      rw [if_neg hi73] at hf
      refine va_iald hx hb hK hP 3 1 rfl rfl hi73 dX11_about_73 ?_
      have hq := Option.some.inj hf
      subst hq
      exact W.iret (v := (M_h_now_cargo 1 (p1).toNatClampNeg)) hx hb hr (fun t ht hW => ⟨rfl, ht⟩) (fun q h => by cases h) dX11_about_74
    · rw [if_neg hs19_0] at hf
      by_cases hs19_1 : p2 = (1 : Int32)
      · rw [if_pos hs19_1] at hf
        refine lv_tableIn (off := 56) (tgt := 75) hx hb dX11_about_19 (by rw [hs19_1]; decide) (by rw [hs19_1]; decide) (by rw [hs19_1]; rfl) (by decide) ?_
        refine lv_aload_n hx hb dX11_about_75 rfl (lv_at hl 0 rfl) ?_
        refine va_get (D := (dC, dI)) (ci := 0) (v := .ref h_now_cargo_size) (C := RX0) (T := TX0) (N := 10) hx hb hts hin0 hown hK hP 2 rfl rfl 2 (by decide) kf235 (fun _ h9 => h9) rfl dX11_about_76 ?_
        refine lv_iload_n hx hb dX11_about_79 rfl (lv_at hl 2 rfl) ?_
        have hi80 := if_no hf
        rw [if_neg hi80] at hf
        refine va_iald hx hb hK hP 4 1 rfl rfl hi80 dX11_about_80 ?_
        have hq := Option.some.inj hf
        subst hq
        exact W.iret (v := (M_h_now_cargo 2 (p1).toNatClampNeg)) hx hb hr (fun t ht hW => ⟨rfl, ht⟩) (fun q h => by cases h) dX11_about_81
      · rw [if_neg hs19_1] at hf
        by_cases hs19_2 : p2 = (2 : Int32)
        · rw [if_pos hs19_2] at hf
          refine lv_tableIn (off := 63) (tgt := 82) hx hb dX11_about_19 (by rw [hs19_2]; decide) (by rw [hs19_2]; decide) (by rw [hs19_2]; rfl) (by decide) ?_
          refine lv_aload_n hx hb dX11_about_82 rfl (lv_at hl 0 rfl) ?_
          refine va_get (D := (dC, dI)) (ci := 0) (v := .ref h_now_cargo_weight) (C := RX0) (T := TX0) (N := 10) hx hb hts hin0 hown hK hP 2 rfl rfl 3 (by decide) kf238 (fun _ h9 => h9) rfl dX11_about_83 ?_
          refine lv_iload_n hx hb dX11_about_86 rfl (lv_at hl 2 rfl) ?_
          have hi87 := if_no hf
          rw [if_neg hi87] at hf
          refine va_iald hx hb hK hP 5 1 rfl rfl hi87 dX11_about_87 ?_
          have hq := Option.some.inj hf
          subst hq
          exact W.iret (v := (M_h_now_cargo 3 (p1).toNatClampNeg)) hx hb hr (fun t ht hW => ⟨rfl, ht⟩) (fun q h => by cases h) dX11_about_88
        · rw [if_neg hs19_2] at hf
          by_cases hs19_3 : p2 = (3 : Int32)
          · rw [if_pos hs19_3] at hf
            refine lv_tableIn (off := 70) (tgt := 89) hx hb dX11_about_19 (by rw [hs19_3]; decide) (by rw [hs19_3]; decide) (by rw [hs19_3]; rfl) (by decide) ?_
            refine lv_aload_n hx hb dX11_about_89 rfl (lv_at hl 0 rfl) ?_
            refine va_get (D := (dC, dI)) (ci := 0) (v := .ref h_now_cargo_worth) (C := RX0) (T := TX0) (N := 10) hx hb hts hin0 hown hK hP 2 rfl rfl 4 (by decide) kf241 (fun _ h9 => h9) rfl dX11_about_90 ?_
            refine lv_iload_n hx hb dX11_about_93 rfl (lv_at hl 2 rfl) ?_
            have hi94 := if_no hf
            rw [if_neg hi94] at hf
            refine va_iald hx hb hK hP 6 1 rfl rfl hi94 dX11_about_94 ?_
            have hq := Option.some.inj hf
            subst hq
            exact W.iret (v := (M_h_now_cargo 4 (p1).toNatClampNeg)) hx hb hr (fun t ht hW => ⟨rfl, ht⟩) (fun q h => by cases h) dX11_about_95
          · rw [if_neg hs19_3] at hf
            by_cases hs19_4 : p2 = (4 : Int32)
            · rw [if_pos hs19_4] at hf
              refine lv_tableIn (off := 77) (tgt := 96) hx hb dX11_about_19 (by rw [hs19_4]; decide) (by rw [hs19_4]; decide) (by rw [hs19_4]; rfl) (by decide) ?_
              refine lv_aload_n hx hb dX11_about_96 rfl (lv_at hl 0 rfl) ?_
              refine va_get (D := (dC, dI)) (ci := 0) (v := .ref h_now_cargo_level) (C := RX0) (T := TX0) (N := 10) hx hb hts hin0 hown hK hP 2 rfl rfl 5 (by decide) kf143 (fun _ h9 => h9) rfl dX11_about_97 ?_
              refine lv_iload_n hx hb dX11_about_100 rfl (lv_at hl 2 rfl) ?_
              have hi101 := if_no hf
              rw [if_neg hi101] at hf
              refine va_iald hx hb hK hP 7 1 rfl rfl hi101 dX11_about_101 ?_
              have hq := Option.some.inj hf
              subst hq
              exact W.iret (v := (M_h_now_cargo 5 (p1).toNatClampNeg)) hx hb hr (fun t ht hW => ⟨rfl, ht⟩) (fun q h => by cases h) dX11_about_102
            · rw [if_neg hs19_4] at hf
              by_cases hs19_5 : p2 = (5 : Int32)
              · rw [if_pos hs19_5] at hf
                refine lv_tableIn (off := 84) (tgt := 103) hx hb dX11_about_19 (by rw [hs19_5]; decide) (by rw [hs19_5]; decide) (by rw [hs19_5]; rfl) (by decide) ?_
                refine lv_aload_n hx hb dX11_about_103 rfl (lv_at hl 0 rfl) ?_
                refine lv_iload_n hx hb dX11_about_104 rfl (lv_at hl 2 rfl) ?_
                obtain ⟨r105, h105, hf⟩ := bd1_some hf
                have hPc := hP.sub (ws' := (wX0 cyB cyI cyZ cyO h_now_cargo h_now_cargo_owner h_now_cargo_size h_now_cargo_weight h_now_cargo_worth h_now_cargo_level h_now_cargo_holder h_now_cargo_side h_now_cargo_planned M_h_now_cargo)) [2, 3, 4, 5, 6, 7, 8, 9, 10] rfl
                refine ro_calli (va_runV (As := [.int p1]) (rest := []) ⟨hx, hb, hml, hown, hts⟩ (c_X0_room l dC dI cyB cyI cyZ cyO h_now_cargo h_now_cargo_owner h_now_cargo_size h_now_cargo_weight h_now_cargo_worth h_now_cargo_level h_now_cargo_holder h_now_cargo_side h_now_cargo_planned M_h_now_cargo p1 r105 h105) (cwV 1 hts gX11_about_X0_room rfl rfl rfl (by decide +kernel) ⟨Nat.le_of_ble_eq_true rfl, Nat.le_of_ble_eq_true rfl⟩) ⟨PR.blind, va_recv hK hP (ci := 0) (q0 := 2) rfl rfl, fun U hU hW => ⟨rfl, by rw [hU]; exact hPc, hCx.warm hW⟩⟩ rfl rfl hl.1 rfl (lv_room (Nat.le_of_ble_eq_true rfl)) dX11_about_105 ⟨Nat.zero_le _, Nat.zero_le _⟩) ?_
                have hq := Option.some.inj hf
                subst hq
                exact W.iret (v := r105) hx hb hr (fun t ht hW => ⟨rfl, ht⟩) (fun q h => by cases h) dX11_about_108
              · rw [if_neg hs19_5] at hf
                by_cases hs19_6 : p2 = (6 : Int32)
                · rw [if_pos hs19_6] at hf
                  refine lv_tableIn (off := 90) (tgt := 109) hx hb dX11_about_19 (by rw [hs19_6]; decide) (by rw [hs19_6]; decide) (by rw [hs19_6]; rfl) (by decide) ?_
                  refine lv_aload_n hx hb dX11_about_109 rfl (lv_at hl 0 rfl) ?_
                  refine lv_iload_n hx hb dX11_about_110 rfl (lv_at hl 2 rfl) ?_
                  obtain ⟨r111, h111, hf⟩ := bd1_some hf
                  have hPc := hP.sub (ws' := (wX0 cyB cyI cyZ cyO h_now_cargo h_now_cargo_owner h_now_cargo_size h_now_cargo_weight h_now_cargo_worth h_now_cargo_level h_now_cargo_holder h_now_cargo_side h_now_cargo_planned M_h_now_cargo)) [2, 3, 4, 5, 6, 7, 8, 9, 10] rfl
                  refine ro_calli (va_runV (As := [.int p1]) (rest := []) ⟨hx, hb, hml, hown, hts⟩ (c_X0_value l dC dI cyB cyI cyZ cyO h_now_cargo h_now_cargo_owner h_now_cargo_size h_now_cargo_weight h_now_cargo_worth h_now_cargo_level h_now_cargo_holder h_now_cargo_side h_now_cargo_planned M_h_now_cargo p1 r111 h111) (cwV 1 hts gX11_about_X0_value rfl rfl rfl (by decide +kernel) ⟨Nat.le_of_ble_eq_true rfl, Nat.le_of_ble_eq_true rfl⟩) ⟨PR.blind, va_recv hK hP (ci := 0) (q0 := 2) rfl rfl, fun U hU hW => ⟨rfl, by rw [hU]; exact hPc, hCx.warm hW⟩⟩ rfl rfl hl.1 rfl (lv_room (Nat.le_of_ble_eq_true rfl)) dX11_about_111 ⟨Nat.zero_le _, Nat.zero_le _⟩) ?_
                  have hq := Option.some.inj hf
                  subst hq
                  exact W.iret (v := r111) hx hb hr (fun t ht hW => ⟨rfl, ht⟩) (fun q h => by cases h) dX11_about_114
                · rw [if_neg hs19_6] at hf
                  by_cases hs19_7 : p2 = (7 : Int32)
                  · rw [if_pos hs19_7] at hf
                    refine lv_tableIn (off := 96) (tgt := 115) hx hb dX11_about_19 (by rw [hs19_7]; decide) (by rw [hs19_7]; decide) (by rw [hs19_7]; rfl) (by decide) ?_
                    refine lv_aload_n hx hb dX11_about_115 rfl (lv_at hl 0 rfl) ?_
                    refine va_get (D := (dC, dI)) (ci := 0) (v := .ref h_now_cargo_holder) (C := RX0) (T := TX0) (N := 10) hx hb hts hin0 hown hK hP 2 rfl rfl 6 (by decide) kf250 (fun _ h9 => h9) rfl dX11_about_116 ?_
                    refine lv_iload_n hx hb dX11_about_119 rfl (lv_at hl 2 rfl) ?_
                    have hi120 := if_no hf
                    rw [if_neg hi120] at hf
                    refine va_iald hx hb hK hP 8 1 rfl rfl hi120 dX11_about_120 ?_
                    have hq := Option.some.inj hf
                    subst hq
                    exact W.iret (v := (M_h_now_cargo 6 (p1).toNatClampNeg)) hx hb hr (fun t ht hW => ⟨rfl, ht⟩) (fun q h => by cases h) dX11_about_121
                  · rw [if_neg hs19_7] at hf
                    by_cases hs19_8 : p2 = (8 : Int32)
                    · rw [if_pos hs19_8] at hf
                      refine lv_tableIn (off := 103) (tgt := 122) hx hb dX11_about_19 (by rw [hs19_8]; decide) (by rw [hs19_8]; decide) (by rw [hs19_8]; rfl) (by decide) ?_
                      refine lv_aload_n hx hb dX11_about_122 rfl (lv_at hl 0 rfl) ?_
                      refine va_get (D := (dC, dI)) (ci := 0) (v := .ref h_now_cargo_side) (C := RX0) (T := TX0) (N := 10) hx hb hts hin0 hown hK hP 2 rfl rfl 7 (by decide) kf253 (fun _ h9 => h9) rfl dX11_about_123 ?_
                      refine lv_iload_n hx hb dX11_about_126 rfl (lv_at hl 2 rfl) ?_
                      have hi127 := if_no hf
                      rw [if_neg hi127] at hf
                      refine va_iald hx hb hK hP 9 1 rfl rfl hi127 dX11_about_127 ?_
                      have hq := Option.some.inj hf
                      subst hq
                      exact W.iret (v := (M_h_now_cargo 7 (p1).toNatClampNeg)) hx hb hr (fun t ht hW => ⟨rfl, ht⟩) (fun q h => by cases h) dX11_about_128
                    · rw [if_neg hs19_8] at hf
                      refine lv_tableOut (tgt := 129) hx hb dX11_about_19 (by have z0 := lv_neT hs19_0 (show (0 : Int32).toInt = 0 by decide); have z1 := lv_neT hs19_1 (show (1 : Int32).toInt = 1 by decide); have z2 := lv_neT hs19_2 (show (2 : Int32).toInt = 2 by decide); have z3 := lv_neT hs19_3 (show (3 : Int32).toInt = 3 by decide); have z4 := lv_neT hs19_4 (show (4 : Int32).toInt = 4 by decide); have z5 := lv_neT hs19_5 (show (5 : Int32).toInt = 5 by decide); have z6 := lv_neT hs19_6 (show (6 : Int32).toInt = 6 by decide); have z7 := lv_neT hs19_7 (show (7 : Int32).toInt = 7 by decide); have z8 := lv_neT hs19_8 (show (8 : Int32).toInt = 8 by decide); omega) (by decide) ?_
                      refine lv_iconst (v := (-1 : Int32)) hx hb dX11_about_129 (by decide) ?_
                      have hq := Option.some.inj hf
                      subst hq
                      exact W.iret (v := (-1 : Int32)) hx hb hr (fun t ht hW => ⟨rfl, ht⟩) (fun q h => by cases h) dX11_about_130
  · rw [if_pos hc13] at hf
    refine lv_iconst (v := (-1 : Int32)) hx hb dX11_about_16 (by decide) ?_
    have hq := Option.some.inj hf
    subst hq
    exact W.iret (v := (-1 : Int32)) hx hb hr (fun t ht hW => ⟨rfl, ht⟩) (fun q h => by cases h) dX11_about_17
set_option maxHeartbeats 4000000 in
set_option maxRecDepth 100000 in
theorem c_X11_book (l : Launch) (dC : Nat → ClassId) (dI : Nat → Nat → Nat) (cyB cyI cyZ cyO : ClassId) (h h_now h_images h_reader h_search h_now_tape h_now_law h_now_people h_now_rules h_now_cargo h_now_debts h_now_ledger h_now_ledger_cells : Nat) (M_h_now : Mem) (M_h_now_ledger : Mem) (p1 : Int32) (p2 : Int32) (r : Int32) (hf : f_X11_book M_h_now M_h_now_ledger p1 p2 = some r) : Met l yX11_book wsX11_book ({ frames := 3, cells := 0, slots := 0, locals := 65 } : Room) (PR dC dI cyB cyI cyZ cyO ([.ref h, .int p1, .int p2] : List Value) ((wX11 cyB cyI cyZ cyO h h_now h_images h_reader h_search) ++ ((wX7 cyB cyI cyZ cyO h_now h_now_tape h_now_law h_now_people h_now_rules h_now_cargo h_now_debts h_now_ledger M_h_now) ++ (wX10 cyB cyI cyZ cyO h_now_ledger h_now_ledger_cells M_h_now_ledger)))) (QR (some (.int r))) 0 0 (fun _ => False) := by
  refine Met.ofW (cc := cX11_book) (maxL := 3) (ret := (some .int)) (by decide) rfl ?_
  intro p e s m args below meth c s₁ B hml hv
  obtain ⟨rfl, hP, hCx⟩ := hv
  have hK := hCx.1
  have hN := hCx.2
  have hx := B.exec
  have hb := B.bytes
  have hr := B.returns
  have hts := atoms_spec (ws := wsX11_book) B.pre
  have hown : s.vm.findClass RX11 = some m.cls := findClass_of_methodNamed B.named
  have hlocks := B.notSynchronized
  have hin7 : ∀ w ∈ u_ws RX7 TX7 14, w ∈ wsX11_book := fun w h => List.mem_cons_of_mem _ (List.mem_append_left _ (List.mem_append_right _ h))
  have hin11 : ∀ w ∈ u_ws RX11 TX11 4, w ∈ wsX11_book := fun w h => List.mem_cons_of_mem _ (List.mem_append_left _ (List.mem_append_left _ (List.mem_append_right _ h)))
  have kf10 := hts (.fieldLink RX11 10 "HoldSlips" "now" "LHoldSlips$State;") (by decide +kernel)
  have kf209 := hts (.fieldLink RX11 209 "HoldSlips$State" "year" "I") (by decide +kernel)
  have kf258 := hts (.fieldLink RX11 258 "HoldSlips$State" "ledger" "LHoldSlips$YearBook;") (by decide +kernel)
  have hl := lv_entry ([.ref h, .int p1, .int p2] : List Value) (n := 3) (Nat.le_of_ble_eq_true rfl)
  rw [lg_entry_eq]
  generalize (lg_sl ([.ref h, .int p1, .int p2] : List Value) ++ List.replicate (3 - (lg_sl ([.ref h, .int p1, .int p2] : List Value)).length) Slot.unset).toArray = ls at hl ⊢
  have hl : lv_has ls 3 [(0, .ref h), (1, .int p1), (2, .int p2)] := hl
  rw [f_X11_book] at hf
  refine lv_iload_n hx hb dX11_book_0 rfl (lv_at hl 1 rfl) ?_
  refine lv_iconst (v := (0 : Int32)) hx hb dX11_book_1 (by decide) ?_
  refine lv_aload_n hx hb dX11_book_2 rfl (lv_at hl 0 rfl) ?_
  refine va_get (D := (dC, dI)) (ci := 11) (v := .ref h_now) (C := RX11) (T := TX11) (N := 4) hx hb hts hin11 hown hK hP 0 rfl rfl 0 (by decide) kf10 (fun _ h9 => h9) rfl dX11_book_3 ?_
  refine va_get (D := (dC, dI)) (ci := 7) (v := .int (M_h_now 9 0)) (C := RX7) (T := TX7) (N := 14) hx hb hts hin7 hown hK hP 1 rfl rfl 9 (by decide) kf209 (fun _ h9 => h9) rfl dX11_book_6 ?_
  refine lv_iconst (v := (1 : Int32)) hx hb dX11_book_9 (by decide) ?_
  refine lv_isub hx hb dX11_book_10 ?_
  obtain ⟨r11, h11, hf⟩ := bd1_some hf
  have hPc := hP.sub (ws' := ([] : va_W)) [] rfl
  refine ro_calli (va_runS (As := [.int p1, .int (0 : Int32), .int ((M_h_now 9 0) - (1 : Int32))]) (rest := []) ⟨hx, hb, hml, hown, hts⟩ (c_X11_within l dC dI cyB cyI cyZ cyO p1 (0 : Int32) ((M_h_now 9 0) - (1 : Int32)) r11 h11) (va_cwS 3 hts gX11_book_X11_within rfl rfl rfl (by decide +kernel) ⟨Nat.le_of_ble_eq_true rfl, Nat.le_of_ble_eq_true rfl⟩) ⟨PR.blind, fun U hU hW => ⟨rfl, by rw [hU]; exact hPc, hCx.warm hW⟩⟩ rfl rfl hl.1 rfl (lv_room (Nat.le_of_ble_eq_true rfl)) dX11_book_11 ⟨Nat.zero_le _, Nat.zero_le _⟩) ?_
  refine lv_if_eq (tgt := 27) hx hb dX11_book_14 (by decide) (fun hc14 => ?_) (fun hc14 => ?_)
  · rw [if_pos hc14] at hf
    refine lv_iconst (v := (-1 : Int32)) hx hb dX11_book_27 (by decide) ?_
    have hq := Option.some.inj hf
    subst hq
    exact W.iret (v := (-1 : Int32)) hx hb hr (fun t ht hW => ⟨rfl, ht⟩) (fun q h => by cases h) dX11_book_28
  · rw [if_neg hc14] at hf
    refine lv_iload_n hx hb dX11_book_17 rfl (lv_at hl 2 rfl) ?_
    refine lv_iconst (v := (0 : Int32)) hx hb dX11_book_18 (by decide) ?_
    refine lv_bipush (v := (8 : Int32)) hx hb dX11_book_19 (by decide) ?_
    obtain ⟨r21, h21, hf⟩ := bd1_some hf
    have hPc := hP.sub (ws' := ([] : va_W)) [] rfl
    refine ro_calli (va_runS (As := [.int p2, .int (0 : Int32), .int (8 : Int32)]) (rest := []) ⟨hx, hb, hml, hown, hts⟩ (c_X11_within l dC dI cyB cyI cyZ cyO p2 (0 : Int32) (8 : Int32) r21 h21) (va_cwS 3 hts gX11_book_X11_within rfl rfl rfl (by decide +kernel) ⟨Nat.le_of_ble_eq_true rfl, Nat.le_of_ble_eq_true rfl⟩) ⟨PR.blind, fun U hU hW => ⟨rfl, by rw [hU]; exact hPc, hCx.warm hW⟩⟩ rfl rfl hl.1 rfl (lv_room (Nat.le_of_ble_eq_true rfl)) dX11_book_21 ⟨Nat.zero_le _, Nat.zero_le _⟩) ?_
    refine lv_if_ne (tgt := 29) hx hb dX11_book_24 (by decide) (fun hc24 => ?_) (fun hc24 => ?_)
    · rw [if_neg hc24] at hf
      refine lv_aload_n hx hb dX11_book_29 rfl (lv_at hl 0 rfl) ?_
      refine va_get (D := (dC, dI)) (ci := 11) (v := .ref h_now) (C := RX11) (T := TX11) (N := 4) hx hb hts hin11 hown hK hP 0 rfl rfl 0 (by decide) kf10 (fun _ h9 => h9) rfl dX11_book_30 ?_
      refine va_get (D := (dC, dI)) (ci := 7) (v := .ref h_now_ledger) (C := RX7) (T := TX7) (N := 14) hx hb hts hin7 hown hK hP 1 rfl rfl 6 (by decide) kf258 (fun _ h9 => h9) rfl dX11_book_33 ?_
      refine lv_iload_n hx hb dX11_book_36 rfl (lv_at hl 1 rfl) ?_
      refine lv_iload_n hx hb dX11_book_37 rfl (lv_at hl 2 rfl) ?_
      obtain ⟨r38, h38, hf⟩ := bd1_some hf
      have hPc := hP.sub (ws' := (wX10 cyB cyI cyZ cyO h_now_ledger h_now_ledger_cells M_h_now_ledger)) [2, 3] rfl
      refine ro_calli (va_runV (As := [.int p1, .int p2]) (rest := []) ⟨hx, hb, hml, hown, hts⟩ (c_X10_entry l dC dI cyB cyI cyZ cyO h_now_ledger h_now_ledger_cells M_h_now_ledger p1 p2 r38 h38) (cwV 2 hts gX11_book_X10_entry rfl rfl rfl (by decide +kernel) ⟨Nat.le_of_ble_eq_true rfl, Nat.le_of_ble_eq_true rfl⟩) ⟨PR.blind, va_recv hK hP (ci := 10) (q0 := 2) rfl rfl, fun U hU hW => ⟨rfl, by rw [hU]; exact hPc, hCx.warm hW⟩⟩ rfl rfl hl.1 rfl (lv_room (Nat.le_of_ble_eq_true rfl)) dX11_book_38 ⟨Nat.zero_le _, Nat.zero_le _⟩) ?_
      have hq := Option.some.inj hf
      subst hq
      exact W.iret (v := r38) hx hb hr (fun t ht hW => ⟨rfl, ht⟩) (fun q h => by cases h) dX11_book_41
    · rw [if_pos hc24] at hf
      refine lv_iconst (v := (-1 : Int32)) hx hb dX11_book_27 (by decide) ?_
      have hq := Option.some.inj hf
      subst hq
      exact W.iret (v := (-1 : Int32)) hx hb hr (fun t ht hW => ⟨rfl, ht⟩) (fun q h => by cases h) dX11_book_28
set_option maxHeartbeats 4000000 in
set_option maxRecDepth 100000 in
theorem c_X11_count (l : Launch) (dC : Nat → ClassId) (dI : Nat → Nat → Nat) (cyB cyI cyZ cyO : ClassId) (h h_now h_images h_reader h_search h_now_tape h_now_law h_now_people h_now_rules h_now_cargo h_now_debts h_now_ledger h_now_cargo_owner h_now_cargo_size h_now_cargo_weight h_now_cargo_worth h_now_cargo_level h_now_cargo_holder h_now_cargo_side h_now_cargo_planned h_now_debts_lender h_now_debts_borrower h_now_debts_sum h_now_debts_percent h_now_law_action h_now_law_amount h_now_law_tests h_now_law_negated h_now_law_subject h_now_law_sign h_now_law_limit h_now_people_rank h_now_people_widow h_now_people_slips h_now_people_given h_now_people_silver h_now_people_returns h_now_people_rents h_now_people_share h_now_people_rest : Nat) (M_h_now : Mem) (M_h_now_cargo : Mem) (M_h_now_debts : Mem) (M_h_now_law : Mem) (M_h_now_people : Mem) (p1 : Int32) (r : Int32) (hf : f_X11_count M_h_now M_h_now_cargo M_h_now_debts M_h_now_law M_h_now_people p1 = some r) : Met l yX11_count wsX11_count ({ frames := 4, cells := 0, slots := 0, locals := 86 } : Room) (PR dC dI cyB cyI cyZ cyO ([.ref h, .int p1] : List Value) ((wX11 cyB cyI cyZ cyO h h_now h_images h_reader h_search) ++ ((wX7 cyB cyI cyZ cyO h_now h_now_tape h_now_law h_now_people h_now_rules h_now_cargo h_now_debts h_now_ledger M_h_now) ++ ((wX0 cyB cyI cyZ cyO h_now_cargo h_now_cargo_owner h_now_cargo_size h_now_cargo_weight h_now_cargo_worth h_now_cargo_level h_now_cargo_holder h_now_cargo_side h_now_cargo_planned M_h_now_cargo) ++ ((wX5 cyB cyI cyZ cyO h_now_debts h_now_debts_lender h_now_debts_borrower h_now_debts_sum h_now_debts_percent M_h_now_debts) ++ ((wX3 cyB cyI cyZ cyO h_now_law h_now_law_action h_now_law_amount h_now_law_tests h_now_law_negated h_now_law_subject h_now_law_sign h_now_law_limit M_h_now_law) ++ (wX2 cyB cyI cyZ cyO h_now_people h_now_people_rank h_now_people_widow h_now_people_slips h_now_people_given h_now_people_silver h_now_people_returns h_now_people_rents h_now_people_share h_now_people_rest M_h_now_people))))))) (QR (some (.int r))) 0 0 (fun _ => False) := by
  refine Met.ofW (cc := cX11_count) (maxL := 2) (ret := (some .int)) (by decide) rfl ?_
  intro p e s m args below meth c s₁ B hml hv
  obtain ⟨rfl, hP, hCx⟩ := hv
  have hK := hCx.1
  have hN := hCx.2
  have hx := B.exec
  have hb := B.bytes
  have hr := B.returns
  have hts := atoms_spec (ws := wsX11_count) B.pre
  have hown : s.vm.findClass RX11 = some m.cls := findClass_of_methodNamed B.named
  have hlocks := B.notSynchronized
  have hin0 : ∀ w ∈ u_ws RX0 TX0 10, w ∈ wsX11_count := fun w h => List.mem_cons_of_mem _ (List.mem_append_left _ (List.mem_append_left _ (List.mem_append_right _ h)))
  have hin2 : ∀ w ∈ u_ws RX2 TX2 10, w ∈ wsX11_count := fun w h => List.mem_cons_of_mem _ (List.mem_append_left _ (List.mem_append_left _ (List.mem_append_left _ (List.mem_append_right _ h))))
  have hin3 : ∀ w ∈ u_ws RX3 TX3 8, w ∈ wsX11_count := fun w h => List.mem_cons_of_mem _ (List.mem_append_right _ h)
  have hin5 : ∀ w ∈ u_ws RX5 TX5 5, w ∈ wsX11_count := fun w h => List.mem_cons_of_mem _ (List.mem_append_left _ (List.mem_append_right _ h))
  have hin7 : ∀ w ∈ u_ws RX7 TX7 14, w ∈ wsX11_count := fun w h => List.mem_cons_of_mem _ (List.mem_append_left _ (List.mem_append_left _ (List.mem_append_left _ (List.mem_append_left _ (List.mem_append_right _ h)))))
  have hin11 : ∀ w ∈ u_ws RX11 TX11 4, w ∈ wsX11_count := fun w h => List.mem_cons_of_mem _ (List.mem_append_left _ (List.mem_append_left _ (List.mem_append_left _ (List.mem_append_left _ (List.mem_append_left _ (List.mem_append_right _ h))))))
  have kf10 := hts (.fieldLink RX11 10 "HoldSlips" "now" "LHoldSlips$State;") (by decide +kernel)
  have kf62 := hts (.fieldLink RX11 62 "HoldSlips$State" "law" "LHoldSlips$Decree;") (by decide +kernel)
  have kf75 := hts (.fieldLink RX11 75 "HoldSlips$Decree" "lines" "I") (by decide +kernel)
  have kf82 := hts (.fieldLink RX11 82 "HoldSlips$State" "people" "LHoldSlips$Citizens;") (by decide +kernel)
  have kf102 := hts (.fieldLink RX11 102 "HoldSlips$State" "sailed" "Z") (by decide +kernel)
  have kf131 := hts (.fieldLink RX11 131 "HoldSlips$State" "cargo" "LHoldSlips$Bales;") (by decide +kernel)
  have kf180 := hts (.fieldLink RX11 180 "HoldSlips$Bales" "number" "I") (by decide +kernel)
  have kf202 := hts (.fieldLink RX11 202 "HoldSlips$State" "debts" "LHoldSlips$Loans;") (by decide +kernel)
  have kf209 := hts (.fieldLink RX11 209 "HoldSlips$State" "year" "I") (by decide +kernel)
  have kf265 := hts (.fieldLink RX11 265 "HoldSlips$Citizens" "number" "I") (by decide +kernel)
  have kf266 := hts (.fieldLink RX11 266 "HoldSlips$Loans" "number" "I") (by decide +kernel)
  have kf267 := hts (.fieldLink RX11 267 "HoldSlips$State" "church" "I") (by decide +kernel)
  have hl := lv_entry ([.ref h, .int p1] : List Value) (n := 2) (Nat.le_of_ble_eq_true rfl)
  rw [lg_entry_eq]
  generalize (lg_sl ([.ref h, .int p1] : List Value) ++ List.replicate (2 - (lg_sl ([.ref h, .int p1] : List Value)).length) Slot.unset).toArray = ls at hl ⊢
  have hl : lv_has ls 2 [(0, .ref h), (1, .int p1)] := hl
  rw [f_X11_count] at hf
  refine lv_iload_n hx hb dX11_count_0 rfl (lv_at hl 1 rfl) ?_
  by_cases hs1_0 : p1 = (0 : Int32)
  · rw [if_pos hs1_0] at hf
    refine lv_tableIn (off := 55) (tgt := 56) hx hb dX11_count_1 (by rw [hs1_0]; decide) (by rw [hs1_0]; decide) (by rw [hs1_0]; rfl) (by decide) ?_
    refine lv_aload_n hx hb dX11_count_56 rfl (lv_at hl 0 rfl) ?_
    refine va_get (D := (dC, dI)) (ci := 11) (v := .ref h_now) (C := RX11) (T := TX11) (N := 4) hx hb hts hin11 hown hK hP 0 rfl rfl 0 (by decide) kf10 (fun _ h9 => h9) rfl dX11_count_57 ?_
    refine va_get (D := (dC, dI)) (ci := 7) (v := .ref h_now_people) (C := RX7) (T := TX7) (N := 14) hx hb hts hin7 hown hK hP 1 rfl rfl 2 (by decide) kf82 (fun _ h9 => h9) rfl dX11_count_60 ?_
    refine va_get (D := (dC, dI)) (ci := 2) (v := .int (M_h_now_people 0 0)) (C := RX2) (T := TX2) (N := 10) hx hb hts hin2 hown hK hP 24 rfl rfl 0 (by decide) kf265 (fun _ h9 => h9) rfl dX11_count_63 ?_
    have hq := Option.some.inj hf
    subst hq
    exact W.iret (v := (M_h_now_people 0 0)) hx hb hr (fun t ht hW => ⟨rfl, ht⟩) (fun q h => by cases h) dX11_count_66
  · rw [if_neg hs1_0] at hf
    by_cases hs1_1 : p1 = (1 : Int32)
    · rw [if_pos hs1_1] at hf
      refine lv_tableIn (off := 66) (tgt := 67) hx hb dX11_count_1 (by rw [hs1_1]; decide) (by rw [hs1_1]; decide) (by rw [hs1_1]; rfl) (by decide) ?_
      refine lv_aload_n hx hb dX11_count_67 rfl (lv_at hl 0 rfl) ?_
      refine va_get (D := (dC, dI)) (ci := 11) (v := .ref h_now) (C := RX11) (T := TX11) (N := 4) hx hb hts hin11 hown hK hP 0 rfl rfl 0 (by decide) kf10 (fun _ h9 => h9) rfl dX11_count_68 ?_
      refine va_get (D := (dC, dI)) (ci := 7) (v := .ref h_now_cargo) (C := RX7) (T := TX7) (N := 14) hx hb hts hin7 hown hK hP 1 rfl rfl 4 (by decide) kf131 (fun _ h9 => h9) rfl dX11_count_71 ?_
      refine va_get (D := (dC, dI)) (ci := 0) (v := .int (M_h_now_cargo 0 0)) (C := RX0) (T := TX0) (N := 10) hx hb hts hin0 hown hK hP 2 rfl rfl 0 (by decide) kf180 (fun _ h9 => h9) rfl dX11_count_74 ?_
      have hq := Option.some.inj hf
      subst hq
      exact W.iret (v := (M_h_now_cargo 0 0)) hx hb hr (fun t ht hW => ⟨rfl, ht⟩) (fun q h => by cases h) dX11_count_77
    · rw [if_neg hs1_1] at hf
      by_cases hs1_2 : p1 = (2 : Int32)
      · rw [if_pos hs1_2] at hf
        refine lv_tableIn (off := 77) (tgt := 78) hx hb dX11_count_1 (by rw [hs1_2]; decide) (by rw [hs1_2]; decide) (by rw [hs1_2]; rfl) (by decide) ?_
        refine lv_aload_n hx hb dX11_count_78 rfl (lv_at hl 0 rfl) ?_
        refine va_get (D := (dC, dI)) (ci := 11) (v := .ref h_now) (C := RX11) (T := TX11) (N := 4) hx hb hts hin11 hown hK hP 0 rfl rfl 0 (by decide) kf10 (fun _ h9 => h9) rfl dX11_count_79 ?_
        refine va_get (D := (dC, dI)) (ci := 7) (v := .ref h_now_cargo) (C := RX7) (T := TX7) (N := 14) hx hb hts hin7 hown hK hP 1 rfl rfl 4 (by decide) kf131 (fun _ h9 => h9) rfl dX11_count_82 ?_
        refine va_get (D := (dC, dI)) (ci := 0) (v := .int (M_h_now_cargo 0 0)) (C := RX0) (T := TX0) (N := 10) hx hb hts hin0 hown hK hP 2 rfl rfl 0 (by decide) kf180 (fun _ h9 => h9) rfl dX11_count_85 ?_
        refine lv_aload_n hx hb dX11_count_88 rfl (lv_at hl 0 rfl) ?_
        refine va_get (D := (dC, dI)) (ci := 11) (v := .ref h_now) (C := RX11) (T := TX11) (N := 4) hx hb hts hin11 hown hK hP 0 rfl rfl 0 (by decide) kf10 (fun _ h9 => h9) rfl dX11_count_89 ?_
        refine va_get (D := (dC, dI)) (ci := 7) (v := .ref h_now_cargo) (C := RX7) (T := TX7) (N := 14) hx hb hts hin7 hown hK hP 1 rfl rfl 4 (by decide) kf131 (fun _ h9 => h9) rfl dX11_count_92 ?_
        obtain ⟨r95, h95, hf⟩ := bd1_some hf
        have hPc := hP.sub (ws' := (wX0 cyB cyI cyZ cyO h_now_cargo h_now_cargo_owner h_now_cargo_size h_now_cargo_weight h_now_cargo_worth h_now_cargo_level h_now_cargo_holder h_now_cargo_side h_now_cargo_planned M_h_now_cargo)) [2, 3, 4, 5, 6, 7, 8, 9, 10] rfl
        refine ro_calli (va_runV (As := []) (rest := [.int (M_h_now_cargo 0 0)]) ⟨hx, hb, hml, hown, hts⟩ (c_X0_waiting l dC dI cyB cyI cyZ cyO h_now_cargo h_now_cargo_owner h_now_cargo_size h_now_cargo_weight h_now_cargo_worth h_now_cargo_level h_now_cargo_holder h_now_cargo_side h_now_cargo_planned M_h_now_cargo r95 h95) (cwV 0 hts gX11_count_X0_waiting rfl rfl rfl (by decide +kernel) ⟨Nat.le_of_ble_eq_true rfl, Nat.le_of_ble_eq_true rfl⟩) ⟨PR.blind, va_recv hK hP (ci := 0) (q0 := 2) rfl rfl, fun U hU hW => ⟨rfl, by rw [hU]; exact hPc, hCx.warm hW⟩⟩ rfl rfl hl.1 rfl (lv_room (Nat.le_of_ble_eq_true rfl)) dX11_count_95 ⟨Nat.zero_le _, Nat.zero_le _⟩) ?_
        refine lv_isub hx hb dX11_count_98 ?_
        have hq := Option.some.inj hf
        subst hq
        exact W.iret (v := ((M_h_now_cargo 0 0) - r95)) hx hb hr (fun t ht hW => ⟨rfl, ht⟩) (fun q h => by cases h) dX11_count_99
      · rw [if_neg hs1_2] at hf
        by_cases hs1_3 : p1 = (3 : Int32)
        · rw [if_pos hs1_3] at hf
          refine lv_tableIn (off := 99) (tgt := 100) hx hb dX11_count_1 (by rw [hs1_3]; decide) (by rw [hs1_3]; decide) (by rw [hs1_3]; rfl) (by decide) ?_
          refine lv_aload_n hx hb dX11_count_100 rfl (lv_at hl 0 rfl) ?_
          refine va_get (D := (dC, dI)) (ci := 11) (v := .ref h_now) (C := RX11) (T := TX11) (N := 4) hx hb hts hin11 hown hK hP 0 rfl rfl 0 (by decide) kf10 (fun _ h9 => h9) rfl dX11_count_101 ?_
          refine va_get (D := (dC, dI)) (ci := 7) (v := .ref h_now_debts) (C := RX7) (T := TX7) (N := 14) hx hb hts hin7 hown hK hP 1 rfl rfl 5 (by decide) kf202 (fun _ h9 => h9) rfl dX11_count_104 ?_
          refine va_get (D := (dC, dI)) (ci := 5) (v := .int (M_h_now_debts 0 0)) (C := RX5) (T := TX5) (N := 5) hx hb hts hin5 hown hK hP 11 rfl rfl 0 (by decide) kf266 (fun _ h9 => h9) rfl dX11_count_107 ?_
          have hq := Option.some.inj hf
          subst hq
          exact W.iret (v := (M_h_now_debts 0 0)) hx hb hr (fun t ht hW => ⟨rfl, ht⟩) (fun q h => by cases h) dX11_count_110
        · rw [if_neg hs1_3] at hf
          by_cases hs1_4 : p1 = (4 : Int32)
          · rw [if_pos hs1_4] at hf
            refine lv_tableIn (off := 110) (tgt := 111) hx hb dX11_count_1 (by rw [hs1_4]; decide) (by rw [hs1_4]; decide) (by rw [hs1_4]; rfl) (by decide) ?_
            refine lv_aload_n hx hb dX11_count_111 rfl (lv_at hl 0 rfl) ?_
            refine va_get (D := (dC, dI)) (ci := 11) (v := .ref h_now) (C := RX11) (T := TX11) (N := 4) hx hb hts hin11 hown hK hP 0 rfl rfl 0 (by decide) kf10 (fun _ h9 => h9) rfl dX11_count_112 ?_
            refine va_get (D := (dC, dI)) (ci := 7) (v := .int (M_h_now 9 0)) (C := RX7) (T := TX7) (N := 14) hx hb hts hin7 hown hK hP 1 rfl rfl 9 (by decide) kf209 (fun _ h9 => h9) rfl dX11_count_115 ?_
            have hq := Option.some.inj hf
            subst hq
            exact W.iret (v := (M_h_now 9 0)) hx hb hr (fun t ht hW => ⟨rfl, ht⟩) (fun q h => by cases h) dX11_count_118
          · rw [if_neg hs1_4] at hf
            by_cases hs1_5 : p1 = (5 : Int32)
            · rw [if_pos hs1_5] at hf
              refine lv_tableIn (off := 118) (tgt := 119) hx hb dX11_count_1 (by rw [hs1_5]; decide) (by rw [hs1_5]; decide) (by rw [hs1_5]; rfl) (by decide) ?_
              refine lv_aload_n hx hb dX11_count_119 rfl (lv_at hl 0 rfl) ?_
              refine va_get (D := (dC, dI)) (ci := 11) (v := .ref h_now) (C := RX11) (T := TX11) (N := 4) hx hb hts hin11 hown hK hP 0 rfl rfl 0 (by decide) kf10 (fun _ h9 => h9) rfl dX11_count_120 ?_
              refine va_get (D := (dC, dI)) (ci := 7) (v := .int (M_h_now 10 0)) (C := RX7) (T := TX7) (N := 14) hx hb hts hin7 hown hK hP 1 rfl rfl 10 (by decide) kf102 (fun _ h9 => h9) rfl dX11_count_123 ?_
              refine lv_if_eq (tgt := 133) hx hb dX11_count_126 (by decide) (fun hc126 => ?_) (fun hc126 => ?_)
              · rw [if_pos hc126] at hf
                refine lv_iconst (v := (0 : Int32)) hx hb dX11_count_133 (by decide) ?_
                have hq := Option.some.inj hf
                subst hq
                exact W.iret (v := (0 : Int32)) hx hb hr (fun t ht hW => ⟨rfl, ht⟩) (fun q h => by cases h) dX11_count_134
              · rw [if_neg hc126] at hf
                refine lv_iconst (v := (1 : Int32)) hx hb dX11_count_129 (by decide) ?_
                refine lv_goto (tgt := 134) hx hb dX11_count_130 (by decide) ?_
                have hq := Option.some.inj hf
                subst hq
                exact W.iret (v := (1 : Int32)) hx hb hr (fun t ht hW => ⟨rfl, ht⟩) (fun q h => by cases h) dX11_count_134
            · rw [if_neg hs1_5] at hf
              by_cases hs1_6 : p1 = (6 : Int32)
              · rw [if_pos hs1_6] at hf
                refine lv_tableIn (off := 134) (tgt := 135) hx hb dX11_count_1 (by rw [hs1_6]; decide) (by rw [hs1_6]; decide) (by rw [hs1_6]; rfl) (by decide) ?_
                refine lv_aload_n hx hb dX11_count_135 rfl (lv_at hl 0 rfl) ?_
                refine va_get (D := (dC, dI)) (ci := 11) (v := .ref h_now) (C := RX11) (T := TX11) (N := 4) hx hb hts hin11 hown hK hP 0 rfl rfl 0 (by decide) kf10 (fun _ h9 => h9) rfl dX11_count_136 ?_
                refine va_get (D := (dC, dI)) (ci := 7) (v := .ref h_now_law) (C := RX7) (T := TX7) (N := 14) hx hb hts hin7 hown hK hP 1 rfl rfl 1 (by decide) kf62 (fun _ h9 => h9) rfl dX11_count_139 ?_
                refine va_get (D := (dC, dI)) (ci := 3) (v := .int (M_h_now_law 0 0)) (C := RX3) (T := TX3) (N := 8) hx hb hts hin3 hown hK hP 16 rfl rfl 0 (by decide) kf75 (fun _ h9 => h9) rfl dX11_count_142 ?_
                have hq := Option.some.inj hf
                subst hq
                exact W.iret (v := (M_h_now_law 0 0)) hx hb hr (fun t ht hW => ⟨rfl, ht⟩) (fun q h => by cases h) dX11_count_145
              · rw [if_neg hs1_6] at hf
                by_cases hs1_7 : p1 = (7 : Int32)
                · rw [if_pos hs1_7] at hf
                  refine lv_tableIn (off := 145) (tgt := 146) hx hb dX11_count_1 (by rw [hs1_7]; decide) (by rw [hs1_7]; decide) (by rw [hs1_7]; rfl) (by decide) ?_
                  refine lv_aload_n hx hb dX11_count_146 rfl (lv_at hl 0 rfl) ?_
                  refine va_get (D := (dC, dI)) (ci := 11) (v := .ref h_now) (C := RX11) (T := TX11) (N := 4) hx hb hts hin11 hown hK hP 0 rfl rfl 0 (by decide) kf10 (fun _ h9 => h9) rfl dX11_count_147 ?_
                  refine va_get (D := (dC, dI)) (ci := 7) (v := .ref h_now_cargo) (C := RX7) (T := TX7) (N := 14) hx hb hts hin7 hown hK hP 1 rfl rfl 4 (by decide) kf131 (fun _ h9 => h9) rfl dX11_count_150 ?_
                  obtain ⟨r153, h153, hf⟩ := bd1_some hf
                  have hPc := hP.sub (ws' := (wX0 cyB cyI cyZ cyO h_now_cargo h_now_cargo_owner h_now_cargo_size h_now_cargo_weight h_now_cargo_worth h_now_cargo_level h_now_cargo_holder h_now_cargo_side h_now_cargo_planned M_h_now_cargo)) [2, 3, 4, 5, 6, 7, 8, 9, 10] rfl
                  refine ro_calli (va_runV (As := []) (rest := []) ⟨hx, hb, hml, hown, hts⟩ (c_X0_tilt l dC dI cyB cyI cyZ cyO h_now_cargo h_now_cargo_owner h_now_cargo_size h_now_cargo_weight h_now_cargo_worth h_now_cargo_level h_now_cargo_holder h_now_cargo_side h_now_cargo_planned M_h_now_cargo r153 h153) (cwV 0 hts gX11_count_X0_tilt rfl rfl rfl (by decide +kernel) ⟨Nat.le_of_ble_eq_true rfl, Nat.le_of_ble_eq_true rfl⟩) ⟨PR.blind, va_recv hK hP (ci := 0) (q0 := 2) rfl rfl, fun U hU hW => ⟨rfl, by rw [hU]; exact hPc, hCx.warm hW⟩⟩ rfl rfl hl.1 rfl (lv_room (Nat.le_of_ble_eq_true rfl)) dX11_count_153 ⟨Nat.zero_le _, Nat.zero_le _⟩) ?_
                  have hq := Option.some.inj hf
                  subst hq
                  exact W.iret (v := r153) hx hb hr (fun t ht hW => ⟨rfl, ht⟩) (fun q h => by cases h) dX11_count_156
                · rw [if_neg hs1_7] at hf
                  by_cases hs1_8 : p1 = (8 : Int32)
                  · rw [if_pos hs1_8] at hf
                    refine lv_tableIn (off := 156) (tgt := 157) hx hb dX11_count_1 (by rw [hs1_8]; decide) (by rw [hs1_8]; decide) (by rw [hs1_8]; rfl) (by decide) ?_
                    refine lv_aload_n hx hb dX11_count_157 rfl (lv_at hl 0 rfl) ?_
                    refine va_get (D := (dC, dI)) (ci := 11) (v := .ref h_now) (C := RX11) (T := TX11) (N := 4) hx hb hts hin11 hown hK hP 0 rfl rfl 0 (by decide) kf10 (fun _ h9 => h9) rfl dX11_count_158 ?_
                    refine va_get (D := (dC, dI)) (ci := 7) (v := .ref h_now_cargo) (C := RX7) (T := TX7) (N := 14) hx hb hts hin7 hown hK hP 1 rfl rfl 4 (by decide) kf131 (fun _ h9 => h9) rfl dX11_count_161 ?_
                    obtain ⟨r164, h164, hf⟩ := bd1_some hf
                    have hPc := hP.sub (ws' := (wX0 cyB cyI cyZ cyO h_now_cargo h_now_cargo_owner h_now_cargo_size h_now_cargo_weight h_now_cargo_worth h_now_cargo_level h_now_cargo_holder h_now_cargo_side h_now_cargo_planned M_h_now_cargo)) [2, 3, 4, 5, 6, 7, 8, 9, 10] rfl
                    refine ro_calli (va_runV (As := []) (rest := []) ⟨hx, hb, hml, hown, hts⟩ (c_X0_ladenWeight l dC dI cyB cyI cyZ cyO h_now_cargo h_now_cargo_owner h_now_cargo_size h_now_cargo_weight h_now_cargo_worth h_now_cargo_level h_now_cargo_holder h_now_cargo_side h_now_cargo_planned M_h_now_cargo r164 h164) (cwV 0 hts gX11_count_X0_ladenWeight rfl rfl rfl (by decide +kernel) ⟨Nat.le_of_ble_eq_true rfl, Nat.le_of_ble_eq_true rfl⟩) ⟨PR.blind, va_recv hK hP (ci := 0) (q0 := 2) rfl rfl, fun U hU hW => ⟨rfl, by rw [hU]; exact hPc, hCx.warm hW⟩⟩ rfl rfl hl.1 rfl (lv_room (Nat.le_of_ble_eq_true rfl)) dX11_count_164 ⟨Nat.zero_le _, Nat.zero_le _⟩) ?_
                    have hq := Option.some.inj hf
                    subst hq
                    exact W.iret (v := r164) hx hb hr (fun t ht hW => ⟨rfl, ht⟩) (fun q h => by cases h) dX11_count_167
                  · rw [if_neg hs1_8] at hf
                    by_cases hs1_9 : p1 = (9 : Int32)
                    · rw [if_pos hs1_9] at hf
                      refine lv_tableIn (off := 167) (tgt := 168) hx hb dX11_count_1 (by rw [hs1_9]; decide) (by rw [hs1_9]; decide) (by rw [hs1_9]; rfl) (by decide) ?_
                      refine lv_aload_n hx hb dX11_count_168 rfl (lv_at hl 0 rfl) ?_
                      refine va_get (D := (dC, dI)) (ci := 11) (v := .ref h_now) (C := RX11) (T := TX11) (N := 4) hx hb hts hin11 hown hK hP 0 rfl rfl 0 (by decide) kf10 (fun _ h9 => h9) rfl dX11_count_169 ?_
                      refine va_get (D := (dC, dI)) (ci := 7) (v := .int (M_h_now 13 0)) (C := RX7) (T := TX7) (N := 14) hx hb hts hin7 hown hK hP 1 rfl rfl 13 (by decide) kf267 (fun _ h9 => h9) rfl dX11_count_172 ?_
                      have hq := Option.some.inj hf
                      subst hq
                      exact W.iret (v := (M_h_now 13 0)) hx hb hr (fun t ht hW => ⟨rfl, ht⟩) (fun q h => by cases h) dX11_count_175
                    · rw [if_neg hs1_9] at hf
                      refine lv_tableOut (tgt := 176) hx hb dX11_count_1 (by have z0 := lv_neT hs1_0 (show (0 : Int32).toInt = 0 by decide); have z1 := lv_neT hs1_1 (show (1 : Int32).toInt = 1 by decide); have z2 := lv_neT hs1_2 (show (2 : Int32).toInt = 2 by decide); have z3 := lv_neT hs1_3 (show (3 : Int32).toInt = 3 by decide); have z4 := lv_neT hs1_4 (show (4 : Int32).toInt = 4 by decide); have z5 := lv_neT hs1_5 (show (5 : Int32).toInt = 5 by decide); have z6 := lv_neT hs1_6 (show (6 : Int32).toInt = 6 by decide); have z7 := lv_neT hs1_7 (show (7 : Int32).toInt = 7 by decide); have z8 := lv_neT hs1_8 (show (8 : Int32).toInt = 8 by decide); have z9 := lv_neT hs1_9 (show (9 : Int32).toInt = 9 by decide); omega) (by decide) ?_
                      refine lv_ldc (v := (-1000000000 : Int32)) hx hb hown (hts (.constant RX11 216 (-1000000000)) (by decide +kernel)) dX11_count_176 ?_
                      have hq := Option.some.inj hf
                      subst hq
                      exact W.iret (v := (-1000000000 : Int32)) hx hb hr (fun t ht hW => ⟨rfl, ht⟩) (fun q h => by cases h) dX11_count_178
