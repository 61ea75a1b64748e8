set_option maxHeartbeats 4000000 in
set_option maxRecDepth 100000 in
theorem c_X12_unlade (l : Launch) (dC : Nat → ClassId) (dI : Nat → Nat → Nat) (cyB cyI cyZ cyO : ClassId) (h h_all h_has h_read h_test h_rest h_gets h_waits h_way h_good h_left : Nat) (sz : Nat) (M_h : Mem) (p1 : Int32) (r : Int32) (R_h : Mem) (hf : f_X12_unlade M_h p1 = some (r, R_h)) : Met l yX12_unlade wsX12_unlade ({ frames := 2, cells := 0, slots := 0, locals := 43 } : Room) (PW dC dI cyB cyI cyZ cyO ([.ref h, .int p1] : List Value) (wX12 cyB cyI cyZ cyO h h_all h_has h_read h_test h_rest h_gets h_waits h_way h_good h_left M_h) sz) (QW dC dI (some (.int r)) (wX12 cyB cyI cyZ cyO h h_all h_has h_read h_test h_rest h_gets h_waits h_way h_good h_left R_h) (va_A (wX12 cyB cyI cyZ cyO h h_all h_has h_read h_test h_rest h_gets h_waits h_way h_good h_left M_h) sz)) 0 0 (va_A (wX12 cyB cyI cyZ cyO h h_all h_has h_read h_test h_rest h_gets h_waits h_way h_good h_left M_h) sz) := by
  refine Met.ofW (cc := cX12_unlade) (maxL := 2) (ret := (some .boolean)) (by decide) rfl ?_
  intro p e s m args below meth c s₁ B hml hv
  obtain ⟨rfl, hsz, hP, hCx, hD0⟩ := hv
  have hK := hCx.1
  have hN := hCx.2
  have hx := B.exec
  have hb := B.bytes
  have hr := B.returns
  have hts := atoms_spec (ws := wsX12_unlade) B.pre
  have hown : s.vm.findClass RX12 = some m.cls := findClass_of_methodNamed B.named
  have hlocks := B.notSynchronized
  have hin12 : ∀ w ∈ u_ws RX12 TX12 21, w ∈ wsX12_unlade := fun w h => List.mem_cons_of_mem _ (List.mem_append_right _ h)
  have kf7 := hts (.fieldLink RX12 7 "HoldSlipsModel" "all" "[I") (by decide +kernel)
  subst hsz
  have hD := hD0.self (sz := s.heap.size)
  generalize hAe : va_A (wX12 cyB cyI cyZ cyO h h_all h_has h_read h_test h_rest h_gets h_waits h_way h_good h_left M_h) s.heap.size = A at hD ⊢
  have hA : ∀ q : Nat, s.heap.size ≤ q → A q := fun q h => by rw [← hAe]; exact Or.inr h
  have hS : va_S A s.heap s.heap [] := va_S.rf
  have hl := lv_entry ([.ref h, .int p1] : List Value) (n := 2) (Nat.le_of_ble_eq_true rfl)
  rw [lg_entry_eq]
  generalize (lg_sl ([.ref h, .int p1] : List Value) ++ List.replicate (2 - (lg_sl ([.ref h, .int p1] : List Value)).length) Slot.unset).toArray = ls at hl ⊢
  have hl : lv_has ls 2 [(0, .ref h), (1, .int p1)] := hl
  rw [f_X12_unlade] at hf
  refine lv_aload_n hx hb dX12_unlade_0 rfl (lv_at hl 0 rfl) ?_
  refine va_get (D := (dC, dI)) (ci := 12) (v := .ref h_all) (C := RX12) (T := TX12) (N := 21) hx hb hts hin12 hown hK hP 0 rfl rfl 0 (by decide) kf7 (fun _ h9 => h9) rfl dX12_unlade_1 ?_
  refine lv_iconst (v := (1 : Int32)) hx hb dX12_unlade_4 (by decide) ?_
  refine va_iald hx hb hK hP 1 1 rfl rfl (show ¬ ((1 : Int32) < 0 ∨ 11160 ≤ ((1 : Int32)).toNatClampNeg) by decide) dX12_unlade_5 ?_
  refine lv_iconst (v := (1 : Int32)) hx hb dX12_unlade_6 (by decide) ?_
  refine lv_icmp_eq (tgt := 26) hx hb dX12_unlade_7 (by decide) (fun hc7 => ?_) (fun hc7 => ?_)
  · rw [if_pos hc7] at hf
    refine lv_iconst (v := (0 : Int32)) hx hb dX12_unlade_26 (by decide) ?_
    obtain ⟨hq0, hq1⟩ := pj2 hf
    subst hq0
    subst hq1
    exact W.zret (v := (0 : Int32)) hx hb hr rfl (fun t ht hW => ⟨rfl, by rw [ht]; exact hP, hD, hS.F ht⟩) hS.2.2 dX12_unlade_27
  · rw [if_neg hc7] at hf
    refine lv_aload_n hx hb dX12_unlade_10 rfl (lv_at hl 0 rfl) ?_
    refine lv_iload_n hx hb dX12_unlade_11 rfl (lv_at hl 1 rfl) ?_
    obtain ⟨r12, h12, hf⟩ := bd1_some hf
    refine ro_calli (va_runV (As := [.int p1]) (rest := []) ⟨hx, hb, hml, hown, hts⟩ (c_X12_isBale l dC dI cyB cyI cyZ cyO h h_all h_has h_read h_test h_rest h_gets h_waits h_way h_good h_left M_h p1 r12 h12) (cwV 1 hts gX12_unlade_X12_isBale rfl rfl rfl (by decide +kernel) ⟨Nat.le_of_ble_eq_true rfl, Nat.le_of_ble_eq_true rfl⟩) ⟨PR.blind, va_recv hK hP (ci := 12) (q0 := 0) rfl rfl, fun U hU hW => ⟨rfl, by rw [hU]; exact hP, hCx.warm hW⟩⟩ rfl rfl hl.1 rfl (lv_room (Nat.le_of_ble_eq_true rfl)) dX12_unlade_12 ⟨Nat.zero_le _, Nat.zero_le _⟩) ?_
    refine lv_if_eq (tgt := 26) hx hb dX12_unlade_15 (by decide) (fun hc15 => ?_) (fun hc15 => ?_)
    · rw [if_pos hc15] at hf
      refine lv_iconst (v := (0 : Int32)) hx hb dX12_unlade_26 (by decide) ?_
      obtain ⟨hq0, hq1⟩ := pj2 hf
      subst hq0
      subst hq1
      exact W.zret (v := (0 : Int32)) hx hb hr rfl (fun t ht hW => ⟨rfl, by rw [ht]; exact hP, hD, hS.F ht⟩) hS.2.2 dX12_unlade_27
    · rw [if_neg hc15] at hf
      refine lv_aload_n hx hb dX12_unlade_18 rfl (lv_at hl 0 rfl) ?_
      refine lv_iload_n hx hb dX12_unlade_19 rfl (lv_at hl 1 rfl) ?_
      obtain ⟨r20, h20, hf⟩ := bd1_some hf
      refine ro_calli (va_runV (As := [.int p1]) (rest := []) ⟨hx, hb, hml, hown, hts⟩ (c_X12_lies l dC dI cyB cyI cyZ cyO h h_all h_has h_read h_test h_rest h_gets h_waits h_way h_good h_left M_h p1 r20 h20) (cwV 1 hts gX12_unlade_X12_lies rfl rfl rfl (by decide +kernel) ⟨Nat.le_of_ble_eq_true rfl, Nat.le_of_ble_eq_true rfl⟩) ⟨PR.blind, va_recv hK hP (ci := 12) (q0 := 0) rfl rfl, fun U hU hW => ⟨rfl, by rw [hU]; exact hP, hCx.warm hW⟩⟩ rfl rfl hl.1 rfl (lv_room (Nat.le_of_ble_eq_true rfl)) dX12_unlade_20 ⟨Nat.zero_le _, Nat.zero_le _⟩) ?_
      refine lv_if_ne (tgt := 28) hx hb dX12_unlade_23 (by decide) (fun hc23 => ?_) (fun hc23 => ?_)
      · rw [if_neg hc23] at hf
        refine lv_aload_n hx hb dX12_unlade_28 rfl (lv_at hl 0 rfl) ?_
        refine lv_iload_n hx hb dX12_unlade_29 rfl (lv_at hl 1 rfl) ?_
        refine lv_iconst (v := (5 : Int32)) hx hb dX12_unlade_30 (by decide) ?_
        refine lv_iconst (v := (-1 : Int32)) hx hb dX12_unlade_31 (by decide) ?_
        obtain ⟨M_h_32, h32, hf⟩ := bd1_some hf
        refine wr_callv (wc := (wX12 cyB cyI cyZ cyO h h_all h_has h_read h_test h_rest h_gets h_waits h_way h_good h_left M_h)) (wr := ([] : va_W)) (w1 := (wX12 cyB cyI cyZ cyO h h_all h_has h_read h_test h_rest h_gets h_waits h_way h_good h_left M_h_32)) (ws' := (wX12 cyB cyI cyZ cyO h h_all h_has h_read h_test h_rest h_gets h_waits h_way h_good h_left M_h_32)) hP hD hS hA [0, 1, 2, 3, 4, 5, 6, 7, 8, 9, 10] [] [0, 1, 2, 3, 4, 5, 6, 7, 8, 9, 10] rfl rfl (by decide) (by decide) rfl (by decide) (va_runV (As := [.int p1, .int (5 : Int32), .int (-1 : Int32)]) (rest := []) ⟨hx, hb, hml, hown, hts⟩ (c_X12_sets l dC dI cyB cyI cyZ cyO h h_all h_has h_read h_test h_rest h_gets h_waits h_way h_good h_left _ M_h p1 (5 : Int32) (-1 : Int32) M_h_32 h32) (cwV 3 hts gX12_unlade_X12_sets rfl rfl rfl (by decide +kernel) ⟨Nat.le_of_ble_eq_true rfl, Nat.le_of_ble_eq_true rfl⟩) ⟨PW.blind, va_recv hK hP (ci := 12) (q0 := 0) rfl rfl, fun U hU hW => ⟨rfl, by rw [hU], by rw [hU]; exact hP, hCx.warm hW, hD.weaken (fun _ _ _ _ => trivial)⟩⟩ rfl rfl hl.1 rfl (lv_room (Nat.le_of_ble_eq_true rfl)) dX12_unlade_32 ⟨Nat.zero_le _, Nat.zero_le _⟩) (fun H locs hP hD hS => ?_)
        refine lv_aload_n hx hb dX12_unlade_35 rfl (lv_at hl 0 rfl) ?_
        refine lv_iload_n hx hb dX12_unlade_36 rfl (lv_at hl 1 rfl) ?_
        refine lv_bipush (v := (6 : Int32)) hx hb dX12_unlade_37 (by decide) ?_
        refine lv_iconst (v := (-1 : Int32)) hx hb dX12_unlade_39 (by decide) ?_
        obtain ⟨M_h_40, h40, hf⟩ := bd1_some hf
        refine wr_callv (wc := (wX12 cyB cyI cyZ cyO h h_all h_has h_read h_test h_rest h_gets h_waits h_way h_good h_left M_h_32)) (wr := ([] : va_W)) (w1 := (wX12 cyB cyI cyZ cyO h h_all h_has h_read h_test h_rest h_gets h_waits h_way h_good h_left M_h_40)) (ws' := (wX12 cyB cyI cyZ cyO h h_all h_has h_read h_test h_rest h_gets h_waits h_way h_good h_left M_h_40)) hP hD hS hA [0, 1, 2, 3, 4, 5, 6, 7, 8, 9, 10] [] [0, 1, 2, 3, 4, 5, 6, 7, 8, 9, 10] rfl rfl (by decide) (by decide) rfl (by decide) (va_runV (As := [.int p1, .int (6 : Int32), .int (-1 : Int32)]) (rest := []) ⟨hx, hb, hml, hown, hts⟩ (c_X12_sets l dC dI cyB cyI cyZ cyO h h_all h_has h_read h_test h_rest h_gets h_waits h_way h_good h_left _ M_h_32 p1 (6 : Int32) (-1 : Int32) M_h_40 h40) (cwV 3 hts gX12_unlade_X12_sets rfl rfl rfl (by decide +kernel) ⟨Nat.le_of_ble_eq_true rfl, Nat.le_of_ble_eq_true rfl⟩) ⟨PW.blind, va_recv hK hP (ci := 12) (q0 := 0) rfl rfl, fun U hU hW => ⟨rfl, by rw [hU], by rw [hU]; exact hP, hCx.warm hW, hD.weaken (fun _ _ _ _ => trivial)⟩⟩ rfl rfl hl.1 rfl (lv_room (Nat.le_of_ble_eq_true rfl)) dX12_unlade_40 ⟨Nat.zero_le _, Nat.zero_le _⟩) (fun H locs hP hD hS => ?_)
        refine lv_iconst (v := (1 : Int32)) hx hb dX12_unlade_43 (by decide) ?_
        obtain ⟨hq0, hq1⟩ := pj2 hf
        subst hq0
        subst hq1
        exact W.zret (v := (1 : Int32)) hx hb hr rfl (fun t ht hW => ⟨rfl, by rw [ht]; exact hP, hD, hS.F ht⟩) hS.2.2 dX12_unlade_44
      · rw [if_pos hc23] at hf
        refine lv_iconst (v := (0 : Int32)) hx hb dX12_unlade_26 (by decide) ?_
        obtain ⟨hq0, hq1⟩ := pj2 hf
        subst hq0
        subst hq1
        exact W.zret (v := (0 : Int32)) hx hb hr rfl (fun t ht hW => ⟨rfl, by rw [ht]; exact hP, hD, hS.F ht⟩) hS.2.2 dX12_unlade_27
set_option maxHeartbeats 4000000 in
set_option maxRecDepth 100000 in
theorem c_X12_tilt (l : Launch) (dC : Nat → ClassId) (dI : Nat → Nat → Nat) (cyB cyI cyZ cyO : ClassId) (h h_all h_has h_read h_test h_rest h_gets h_waits h_way h_good h_left : Nat) (M_h : Mem) (r : Int32) (hf : f_X12_tilt M_h = some r) : Met l yX12_tilt wsX12_tilt ({ frames := 2, cells := 0, slots := 0, locals := 43 } : Room) (PR dC dI cyB cyI cyZ cyO ([.ref h] : List Value) (wX12 cyB cyI cyZ cyO h h_all h_has h_read h_test h_rest h_gets h_waits h_way h_good h_left M_h)) (QR (some (.int r))) 0 0 (fun _ => False) := by
  refine Met.ofW (cc := cX12_tilt) (maxL := 3) (ret := (some .int)) (by decide) rfl ?_
  intro p e s m args below meth c s₁ B hml hv
  obtain ⟨rfl, hP, hCx⟩ := hv
  have hK := hCx.1
  have hN := hCx.2
  have hx := B.exec
  have hb := B.bytes
  have hr := B.returns
  have hts := atoms_spec (ws := wsX12_tilt) B.pre
  have hown : s.vm.findClass RX12 = some m.cls := findClass_of_methodNamed B.named
  have hlocks := B.notSynchronized
  have hin12 : ∀ w ∈ u_ws RX12 TX12 21, w ∈ wsX12_tilt := fun w h => List.mem_cons_of_mem _ (List.mem_append_right _ h)
  have kf7 := hts (.fieldLink RX12 7 "HoldSlipsModel" "all" "[I") (by decide +kernel)
  have hl := lv_entry ([.ref h] : List Value) (n := 3) (Nat.le_of_ble_eq_true rfl)
  rw [lg_entry_eq]
  generalize (lg_sl ([.ref h] : List Value) ++ List.replicate (3 - (lg_sl ([.ref h] : List Value)).length) Slot.unset).toArray = ls at hl ⊢
  have hl : lv_has ls 3 [(0, .ref h)] := hl
  have L4 : ∀ (n : Nat), ∀ (x1 : Int32) (x2 : Int32) (ls : Array Slot), f_X12_tilt_L4 n M_h x1 x2 = some r → lv_has ls 3 [(0, .ref h), (1, .int x1), (2, .int x2)] → W p l e (headSpec wsX12_tilt ({ frames := 2, cells := 0, slots := 0, locals := 43 } : Room)).room s m ([.ref h] : List Value).toArray below meth c s.heap [] 0 0 (MQ below (QR (some (.int r))) ([.ref h] : List Value).toArray s 0 0 (fun _ => False)) (F0 m 4 ls []) := by
    intro n
    induction n with
    | zero => intro x1 x2 ls hf hl; rw [f_X12_tilt_L4] at hf; cases hf
    | succ n ih =>
      intro x1 x2 ls hf hl
      rw [f_X12_tilt_L4] at hf
      refine lv_iload_n hx hb dX12_tilt_4 rfl (lv_at hl 2 rfl) ?_
      refine lv_aload_n hx hb dX12_tilt_5 rfl (lv_at hl 0 rfl) ?_
      refine va_get (D := (dC, dI)) (ci := 12) (v := .ref h_all) (C := RX12) (T := TX12) (N := 21) hx hb hts hin12 hown hK hP 0 rfl rfl 0 (by decide) kf7 (fun _ h9 => h9) rfl dX12_tilt_6 ?_
      refine lv_iconst (v := (4 : Int32)) hx hb dX12_tilt_9 (by decide) ?_
      refine va_iald hx hb hK hP 1 1 rfl rfl (show ¬ ((4 : Int32) < 0 ∨ 11160 ≤ ((4 : Int32)).toNatClampNeg) by decide) dX12_tilt_10 ?_
      refine lv_icmp_ge (tgt := 57) hx hb dX12_tilt_11 (by decide) (fun hc11 => ?_) (fun hc11 => ?_)
      · rw [if_pos hc11] at hf
        refine lv_iload_n hx hb dX12_tilt_57 rfl (lv_at hl 1 rfl) ?_
        have hq := Option.some.inj hf
        subst hq
        exact W.iret (v := x1) hx hb hr (fun t ht hW => ⟨rfl, ht⟩) (fun q h => by cases h) dX12_tilt_58
      · rw [if_neg hc11] at hf
        refine lv_aload_n hx hb dX12_tilt_14 rfl (lv_at hl 0 rfl) ?_
        refine lv_iload_n hx hb dX12_tilt_15 rfl (lv_at hl 2 rfl) ?_
        obtain ⟨r16, h16, hf⟩ := bd1_some hf
        refine ro_calli (va_runV (As := [.int x2]) (rest := []) ⟨hx, hb, hml, hown, hts⟩ (c_X12_lies l dC dI cyB cyI cyZ cyO h h_all h_has h_read h_test h_rest h_gets h_waits h_way h_good h_left M_h x2 r16 h16) (cwV 1 hts gX12_tilt_X12_lies rfl rfl rfl (by decide +kernel) ⟨Nat.le_of_ble_eq_true rfl, Nat.le_of_ble_eq_true rfl⟩) ⟨PR.blind, va_recv hK hP (ci := 12) (q0 := 0) rfl rfl, fun U hU hW => ⟨rfl, by rw [hU]; exact hP, hCx.warm hW⟩⟩ rfl rfl hl.1 rfl (lv_room (Nat.le_of_ble_eq_true rfl)) dX12_tilt_16 ⟨Nat.zero_le _, Nat.zero_le _⟩) ?_
        refine lv_if_eq (tgt := 51) hx hb dX12_tilt_19 (by decide) (fun hc19 => ?_) (fun hc19 => ?_)
        · rw [if_pos hc19] at hf
          refine lv_iinc (v := (x2 + (1 : Int32))) (lv' := [(2, .int (x2 + (1 : Int32))), (0, .ref h), (1, .int x1)]) hx hb dX12_tilt_51 hl (k := 2) rfl rfl (by decide) rfl (fun ls hl => ?_)
          refine lv_goto (tgt := 4) hx hb dX12_tilt_54 (by decide) ?_
          exact ih x1 (x2 + (1 : Int32)) ls hf (lv_sub hl [1, 2, 0] rfl)
        · rw [if_neg hc19] at hf
          refine lv_iload_n hx hb dX12_tilt_22 rfl (lv_at hl 1 rfl) ?_
          refine lv_aload_n hx hb dX12_tilt_23 rfl (lv_at hl 0 rfl) ?_
          refine lv_iload_n hx hb dX12_tilt_24 rfl (lv_at hl 2 rfl) ?_
          refine lv_bipush (v := (6 : Int32)) hx hb dX12_tilt_25 (by decide) ?_
          obtain ⟨r27, h27, hf⟩ := bd1_some hf
          refine ro_calli (va_runV (As := [.int x2, .int (6 : Int32)]) (rest := [.int x1]) ⟨hx, hb, hml, hown, hts⟩ (c_X12_its l dC dI cyB cyI cyZ cyO h h_all h_has h_read h_test h_rest h_gets h_waits h_way h_good h_left M_h x2 (6 : Int32) r27 h27) (cwV 2 hts gX12_tilt_X12_its rfl rfl rfl (by decide +kernel) ⟨Nat.le_of_ble_eq_true rfl, Nat.le_of_ble_eq_true rfl⟩) ⟨PR.blind, va_recv hK hP (ci := 12) (q0 := 0) rfl rfl, fun U hU hW => ⟨rfl, by rw [hU]; exact hP, hCx.warm hW⟩⟩ rfl rfl hl.1 rfl (lv_room (Nat.le_of_ble_eq_true rfl)) dX12_tilt_27 ⟨Nat.zero_le _, Nat.zero_le _⟩) ?_
          refine lv_if_ne (tgt := 42) hx hb dX12_tilt_30 (by decide) (fun hc30 => ?_) (fun hc30 => ?_)
          · rw [if_neg hc30] at hf
            refine lv_aload_n hx hb dX12_tilt_42 rfl (lv_at hl 0 rfl) ?_
            refine lv_iload_n hx hb dX12_tilt_43 rfl (lv_at hl 2 rfl) ?_
            refine lv_iconst (v := (2 : Int32)) hx hb dX12_tilt_44 (by decide) ?_
            obtain ⟨r45, h45, hf⟩ := bd1_some hf
            refine ro_calli (va_runV (As := [.int x2, .int (2 : Int32)]) (rest := [.int x1]) ⟨hx, hb, hml, hown, hts⟩ (c_X12_its l dC dI cyB cyI cyZ cyO h h_all h_has h_read h_test h_rest h_gets h_waits h_way h_good h_left M_h x2 (2 : Int32) r45 h45) (cwV 2 hts gX12_tilt_X12_its rfl rfl rfl (by decide +kernel) ⟨Nat.le_of_ble_eq_true rfl, Nat.le_of_ble_eq_true rfl⟩) ⟨PR.blind, va_recv hK hP (ci := 12) (q0 := 0) rfl rfl, fun U hU hW => ⟨rfl, by rw [hU]; exact hP, hCx.warm hW⟩⟩ rfl rfl hl.1 rfl (lv_room (Nat.le_of_ble_eq_true rfl)) dX12_tilt_45 ⟨Nat.zero_le _, Nat.zero_le _⟩) ?_
            refine lv_ineg hx hb dX12_tilt_48 ?_
            refine lv_iadd hx hb dX12_tilt_49 ?_
            refine lv_istore_n (lv' := [(1, .int (x1 + (-r45))), (0, .ref h), (2, .int x2)]) hx hb dX12_tilt_50 rfl hl (by decide) rfl (fun ls hl => ?_)
            refine lv_iinc (v := (x2 + (1 : Int32))) (lv' := [(2, .int (x2 + (1 : Int32))), (1, .int (x1 + (-r45))), (0, .ref h)]) hx hb dX12_tilt_51 hl (k := 2) rfl rfl (by decide) rfl (fun ls hl => ?_)
            refine lv_goto (tgt := 4) hx hb dX12_tilt_54 (by decide) ?_
            exact ih (x1 + (-r45)) (x2 + (1 : Int32)) ls hf (lv_sub hl [2, 1, 0] rfl)
          · rw [if_pos hc30] at hf
            refine lv_aload_n hx hb dX12_tilt_33 rfl (lv_at hl 0 rfl) ?_
            refine lv_iload_n hx hb dX12_tilt_34 rfl (lv_at hl 2 rfl) ?_
            refine lv_iconst (v := (2 : Int32)) hx hb dX12_tilt_35 (by decide) ?_
            obtain ⟨r36, h36, hf⟩ := bd1_some hf
            refine ro_calli (va_runV (As := [.int x2, .int (2 : Int32)]) (rest := [.int x1]) ⟨hx, hb, hml, hown, hts⟩ (c_X12_its l dC dI cyB cyI cyZ cyO h h_all h_has h_read h_test h_rest h_gets h_waits h_way h_good h_left M_h x2 (2 : Int32) r36 h36) (cwV 2 hts gX12_tilt_X12_its rfl rfl rfl (by decide +kernel) ⟨Nat.le_of_ble_eq_true rfl, Nat.le_of_ble_eq_true rfl⟩) ⟨PR.blind, va_recv hK hP (ci := 12) (q0 := 0) rfl rfl, fun U hU hW => ⟨rfl, by rw [hU]; exact hP, hCx.warm hW⟩⟩ rfl rfl hl.1 rfl (lv_room (Nat.le_of_ble_eq_true rfl)) dX12_tilt_36 ⟨Nat.zero_le _, Nat.zero_le _⟩) ?_
            refine lv_goto (tgt := 49) hx hb dX12_tilt_39 (by decide) ?_
            refine lv_iadd hx hb dX12_tilt_49 ?_
            refine lv_istore_n (lv' := [(1, .int (x1 + r36)), (0, .ref h), (2, .int x2)]) hx hb dX12_tilt_50 rfl hl (by decide) rfl (fun ls hl => ?_)
            refine lv_iinc (v := (x2 + (1 : Int32))) (lv' := [(2, .int (x2 + (1 : Int32))), (1, .int (x1 + r36)), (0, .ref h)]) hx hb dX12_tilt_51 hl (k := 2) rfl rfl (by decide) rfl (fun ls hl => ?_)
            refine lv_goto (tgt := 4) hx hb dX12_tilt_54 (by decide) ?_
            exact ih (x1 + r36) (x2 + (1 : Int32)) ls hf (lv_sub hl [2, 1, 0] rfl)
  rw [f_X12_tilt] at hf
  refine lv_iconst (v := (0 : Int32)) hx hb dX12_tilt_0 (by decide) ?_
  refine lv_istore_n (lv' := [(1, .int (0 : Int32)), (0, .ref h)]) hx hb dX12_tilt_1 rfl hl (by decide) rfl (fun ls hl => ?_)
  refine lv_iconst (v := (0 : Int32)) hx hb dX12_tilt_2 (by decide) ?_
  refine lv_istore_n (lv' := [(2, .int (0 : Int32)), (1, .int (0 : Int32)), (0, .ref h)]) hx hb dX12_tilt_3 rfl hl (by decide) rfl (fun ls hl => ?_)
  exact L4 FU (0 : Int32) (0 : Int32) ls hf (lv_sub hl [2, 1, 0] rfl)
set_option maxHeartbeats 4000000 in
set_option maxRecDepth 100000 in
theorem c_X12_weight (l : Launch) (dC : Nat → ClassId) (dI : Nat → Nat → Nat) (cyB cyI cyZ cyO : ClassId) (h h_all h_has h_read h_test h_rest h_gets h_waits h_way h_good h_left : Nat) (M_h : Mem) (r : Int32) (hf : f_X12_weight M_h = some r) : Met l yX12_weight wsX12_weight ({ frames := 2, cells := 0, slots := 0, locals := 43 } : Room) (PR dC dI cyB cyI cyZ cyO ([.ref h] : List Value) (wX12 cyB cyI cyZ cyO h h_all h_has h_read h_test h_rest h_gets h_waits h_way h_good h_left M_h)) (QR (some (.int r))) 0 0 (fun _ => False) := by
  refine Met.ofW (cc := cX12_weight) (maxL := 3) (ret := (some .int)) (by decide) rfl ?_
  intro p e s m args below meth c s₁ B hml hv
  obtain ⟨rfl, hP, hCx⟩ := hv
  have hK := hCx.1
  have hN := hCx.2
  have hx := B.exec
  have hb := B.bytes
  have hr := B.returns
  have hts := atoms_spec (ws := wsX12_weight) B.pre
  have hown : s.vm.findClass RX12 = some m.cls := findClass_of_methodNamed B.named
  have hlocks := B.notSynchronized
  have hin12 : ∀ w ∈ u_ws RX12 TX12 21, w ∈ wsX12_weight := fun w h => List.mem_cons_of_mem _ (List.mem_append_right _ h)
  have kf7 := hts (.fieldLink RX12 7 "HoldSlipsModel" "all" "[I") (by decide +kernel)
  have hl := lv_entry ([.ref h] : List Value) (n := 3) (Nat.le_of_ble_eq_true rfl)
  rw [lg_entry_eq]
  generalize (lg_sl ([.ref h] : List Value) ++ List.replicate (3 - (lg_sl ([.ref h] : List Value)).length) Slot.unset).toArray = ls at hl ⊢
  have hl : lv_has ls 3 [(0, .ref h)] := hl
  have L4 : ∀ (n : Nat), ∀ (x1 : Int32) (x2 : Int32) (ls : Array Slot), f_X12_weight_L4 n M_h x1 x2 = some r → lv_has ls 3 [(0, .ref h), (1, .int x1), (2, .int x2)] → W p l e (headSpec wsX12_weight ({ frames := 2, cells := 0, slots := 0, locals := 43 } : Room)).room s m ([.ref h] : List Value).toArray below meth c s.heap [] 0 0 (MQ below (QR (some (.int r))) ([.ref h] : List Value).toArray s 0 0 (fun _ => False)) (F0 m 4 ls []) := by
    intro n
    induction n with
    | zero => intro x1 x2 ls hf hl; rw [f_X12_weight_L4] at hf; cases hf
    | succ n ih =>
      intro x1 x2 ls hf hl
      rw [f_X12_weight_L4] at hf
      refine lv_iload_n hx hb dX12_weight_4 rfl (lv_at hl 2 rfl) ?_
      refine lv_aload_n hx hb dX12_weight_5 rfl (lv_at hl 0 rfl) ?_
      refine va_get (D := (dC, dI)) (ci := 12) (v := .ref h_all) (C := RX12) (T := TX12) (N := 21) hx hb hts hin12 hown hK hP 0 rfl rfl 0 (by decide) kf7 (fun _ h9 => h9) rfl dX12_weight_6 ?_
      refine lv_iconst (v := (4 : Int32)) hx hb dX12_weight_9 (by decide) ?_
      refine va_iald hx hb hK hP 1 1 rfl rfl (show ¬ ((4 : Int32) < 0 ∨ 11160 ≤ ((4 : Int32)).toNatClampNeg) by decide) dX12_weight_10 ?_
      refine lv_icmp_ge (tgt := 37) hx hb dX12_weight_11 (by decide) (fun hc11 => ?_) (fun hc11 => ?_)
      · rw [if_pos hc11] at hf
        refine lv_iload_n hx hb dX12_weight_37 rfl (lv_at hl 1 rfl) ?_
        have hq := Option.some.inj hf
        subst hq
        exact W.iret (v := x1) hx hb hr (fun t ht hW => ⟨rfl, ht⟩) (fun q h => by cases h) dX12_weight_38
      · rw [if_neg hc11] at hf
        refine lv_aload_n hx hb dX12_weight_14 rfl (lv_at hl 0 rfl) ?_
        refine lv_iload_n hx hb dX12_weight_15 rfl (lv_at hl 2 rfl) ?_
        obtain ⟨r16, h16, hf⟩ := bd1_some hf
        refine ro_calli (va_runV (As := [.int x2]) (rest := []) ⟨hx, hb, hml, hown, hts⟩ (c_X12_lies l dC dI cyB cyI cyZ cyO h h_all h_has h_read h_test h_rest h_gets h_waits h_way h_good h_left M_h x2 r16 h16) (cwV 1 hts gX12_weight_X12_lies rfl rfl rfl (by decide +kernel) ⟨Nat.le_of_ble_eq_true rfl, Nat.le_of_ble_eq_true rfl⟩) ⟨PR.blind, va_recv hK hP (ci := 12) (q0 := 0) rfl rfl, fun U hU hW => ⟨rfl, by rw [hU]; exact hP, hCx.warm hW⟩⟩ rfl rfl hl.1 rfl (lv_room (Nat.le_of_ble_eq_true rfl)) dX12_weight_16 ⟨Nat.zero_le _, Nat.zero_le _⟩) ?_
        refine lv_if_eq (tgt := 31) hx hb dX12_weight_19 (by decide) (fun hc19 => ?_) (fun hc19 => ?_)
        · rw [if_pos hc19] at hf
          refine lv_iinc (v := (x2 + (1 : Int32))) (lv' := [(2, .int (x2 + (1 : Int32))), (0, .ref h), (1, .int x1)]) hx hb dX12_weight_31 hl (k := 2) rfl rfl (by decide) rfl (fun ls hl => ?_)
          refine lv_goto (tgt := 4) hx hb dX12_weight_34 (by decide) ?_
          exact ih x1 (x2 + (1 : Int32)) ls hf (lv_sub hl [1, 2, 0] rfl)
        · rw [if_neg hc19] at hf
          refine lv_iload_n hx hb dX12_weight_22 rfl (lv_at hl 1 rfl) ?_
          refine lv_aload_n hx hb dX12_weight_23 rfl (lv_at hl 0 rfl) ?_
          refine lv_iload_n hx hb dX12_weight_24 rfl (lv_at hl 2 rfl) ?_
          refine lv_iconst (v := (2 : Int32)) hx hb dX12_weight_25 (by decide) ?_
          obtain ⟨r26, h26, hf⟩ := bd1_some hf
          refine ro_calli (va_runV (As := [.int x2, .int (2 : Int32)]) (rest := [.int x1]) ⟨hx, hb, hml, hown, hts⟩ (c_X12_its l dC dI cyB cyI cyZ cyO h h_all h_has h_read h_test h_rest h_gets h_waits h_way h_good h_left M_h x2 (2 : Int32) r26 h26) (cwV 2 hts gX12_weight_X12_its rfl rfl rfl (by decide +kernel) ⟨Nat.le_of_ble_eq_true rfl, Nat.le_of_ble_eq_true rfl⟩) ⟨PR.blind, va_recv hK hP (ci := 12) (q0 := 0) rfl rfl, fun U hU hW => ⟨rfl, by rw [hU]; exact hP, hCx.warm hW⟩⟩ rfl rfl hl.1 rfl (lv_room (Nat.le_of_ble_eq_true rfl)) dX12_weight_26 ⟨Nat.zero_le _, Nat.zero_le _⟩) ?_
          refine lv_iadd hx hb dX12_weight_29 ?_
          refine lv_istore_n (lv' := [(1, .int (x1 + r26)), (0, .ref h), (2, .int x2)]) hx hb dX12_weight_30 rfl hl (by decide) rfl (fun ls hl => ?_)
          refine lv_iinc (v := (x2 + (1 : Int32))) (lv' := [(2, .int (x2 + (1 : Int32))), (1, .int (x1 + r26)), (0, .ref h)]) hx hb dX12_weight_31 hl (k := 2) rfl rfl (by decide) rfl (fun ls hl => ?_)
          refine lv_goto (tgt := 4) hx hb dX12_weight_34 (by decide) ?_
          exact ih (x1 + r26) (x2 + (1 : Int32)) ls hf (lv_sub hl [2, 1, 0] rfl)
  rw [f_X12_weight] at hf
  refine lv_iconst (v := (0 : Int32)) hx hb dX12_weight_0 (by decide) ?_
  refine lv_istore_n (lv' := [(1, .int (0 : Int32)), (0, .ref h)]) hx hb dX12_weight_1 rfl hl (by decide) rfl (fun ls hl => ?_)
  refine lv_iconst (v := (0 : Int32)) hx hb dX12_weight_2 (by decide) ?_
  refine lv_istore_n (lv' := [(2, .int (0 : Int32)), (1, .int (0 : Int32)), (0, .ref h)]) hx hb dX12_weight_3 rfl hl (by decide) rfl (fun ls hl => ?_)
  exact L4 FU (0 : Int32) (0 : Int32) ls hf (lv_sub hl [2, 1, 0] rfl)
set_option maxHeartbeats 4000000 in
set_option maxRecDepth 100000 in
theorem c_X12_bears (l : Launch) (dC : Nat → ClassId) (dI : Nat → Nat → Nat) (cyB cyI cyZ cyO : ClassId) (h h_all h_has h_read h_test h_rest h_gets h_waits h_way h_good h_left : Nat) (M_h : Mem) (p1 : Int32) (p2 : Int32) (r : Int32) (hf : f_X12_bears M_h p1 p2 = some r) : Met l yX12_bears wsX12_bears ({ frames := 1, cells := 0, slots := 0, locals := 22 } : Room) (PR dC dI cyB cyI cyZ cyO ([.ref h, .int p1, .int p2] : List Value) (wX12 cyB cyI cyZ cyO h h_all h_has h_read h_test h_rest h_gets h_waits h_way h_good h_left M_h)) (QR (some (.int r))) 0 0 (fun _ => False) := by
  refine Met.ofW (cc := cX12_bears) (maxL := 3) (ret := (some .boolean)) (by decide) rfl ?_
  intro p e s m args below meth c s₁ B hml hv
  obtain ⟨rfl, hP, hCx⟩ := hv
  have hK := hCx.1
  have hN := hCx.2
  have hx := B.exec
  have hb := B.bytes
  have hr := B.returns
  have hts := atoms_spec (ws := wsX12_bears) B.pre
  have hown : s.vm.findClass RX12 = some m.cls := findClass_of_methodNamed B.named
  have hlocks := B.notSynchronized
  have hin12 : ∀ w ∈ u_ws RX12 TX12 21, w ∈ wsX12_bears := fun w h => List.mem_cons_of_mem _ (List.mem_append_right _ h)
  have kf7 := hts (.fieldLink RX12 7 "HoldSlipsModel" "all" "[I") (by decide +kernel)
  have hl := lv_entry ([.ref h, .int p1, .int p2] : List Value) (n := 3) (Nat.le_of_ble_eq_true rfl)
  rw [lg_entry_eq]
  generalize (lg_sl ([.ref h, .int p1, .int p2] : List Value) ++ List.replicate (3 - (lg_sl ([.ref h, .int p1, .int p2] : List Value)).length) Slot.unset).toArray = ls at hl ⊢
  have hl : lv_has ls 3 [(0, .ref h), (1, .int p1), (2, .int p2)] := hl
  rw [f_X12_bears] at hf
  refine lv_iload_n hx hb dX12_bears_0 rfl (lv_at hl 1 rfl) ?_
  refine lv_aload_n hx hb dX12_bears_1 rfl (lv_at hl 0 rfl) ?_
  refine va_get (D := (dC, dI)) (ci := 12) (v := .ref h_all) (C := RX12) (T := TX12) (N := 21) hx hb hts hin12 hown hK hP 0 rfl rfl 0 (by decide) kf7 (fun _ h9 => h9) rfl dX12_bears_2 ?_
  refine lv_bipush (v := (8 : Int32)) hx hb dX12_bears_5 (by decide) ?_
  refine va_iald hx hb hK hP 1 1 rfl rfl (show ¬ ((8 : Int32) < 0 ∨ 11160 ≤ ((8 : Int32)).toNatClampNeg) by decide) dX12_bears_7 ?_
  refine lv_ineg hx hb dX12_bears_8 ?_
  refine lv_aload_n hx hb dX12_bears_9 rfl (lv_at hl 0 rfl) ?_
  refine va_get (D := (dC, dI)) (ci := 12) (v := .ref h_all) (C := RX12) (T := TX12) (N := 21) hx hb hts hin12 hown hK hP 0 rfl rfl 0 (by decide) kf7 (fun _ h9 => h9) rfl dX12_bears_10 ?_
  refine lv_bipush (v := (8 : Int32)) hx hb dX12_bears_13 (by decide) ?_
  refine va_iald hx hb hK hP 1 1 rfl rfl (show ¬ ((8 : Int32) < 0 ∨ 11160 ≤ ((8 : Int32)).toNatClampNeg) by decide) dX12_bears_15 ?_
  obtain ⟨r16, h16, hf⟩ := bd1_some hf
  have hPc := hP.sub (ws' := ([] : va_W)) [] rfl
  refine ro_calli (va_runS (As := [.int p1, .int (-(M_h 0 ((8 : Int32)).toNatClampNeg)), .int (M_h 0 ((8 : Int32)).toNatClampNeg)]) (rest := []) ⟨hx, hb, hml, hown, hts⟩ (c_X12_isIn l dC dI cyB cyI cyZ cyO p1 (-(M_h 0 ((8 : Int32)).toNatClampNeg)) (M_h 0 ((8 : Int32)).toNatClampNeg) r16 h16) (va_cwS 3 hts gX12_bears_X12_isIn rfl rfl rfl (by decide +kernel) ⟨Nat.le_of_ble_eq_true rfl, Nat.le_of_ble_eq_true rfl⟩) ⟨PR.blind, fun U hU hW => ⟨rfl, by rw [hU]; exact hPc, hCx.warm hW⟩⟩ rfl rfl hl.1 rfl (lv_room (Nat.le_of_ble_eq_true rfl)) dX12_bears_16 ⟨Nat.zero_le _, Nat.zero_le _⟩) ?_
  refine lv_if_eq (tgt := 37) hx hb dX12_bears_19 (by decide) (fun hc19 => ?_) (fun hc19 => ?_)
  · rw [if_pos hc19] at hf
    refine lv_iconst (v := (0 : Int32)) hx hb dX12_bears_37 (by decide) ?_
    have hq := Option.some.inj hf
    subst hq
    exact W.zret (v := (0 : Int32)) hx hb hr rfl (fun t ht hW => ⟨rfl, ht⟩) (fun q h => by cases h) dX12_bears_38
  · rw [if_neg hc19] at hf
    refine lv_iload_n hx hb dX12_bears_22 rfl (lv_at hl 2 rfl) ?_
    refine lv_aload_n hx hb dX12_bears_23 rfl (lv_at hl 0 rfl) ?_
    refine va_get (D := (dC, dI)) (ci := 12) (v := .ref h_all) (C := RX12) (T := TX12) (N := 21) hx hb hts hin12 hown hK hP 0 rfl rfl 0 (by decide) kf7 (fun _ h9 => h9) rfl dX12_bears_24 ?_
    refine lv_bipush (v := (9 : Int32)) hx hb dX12_bears_27 (by decide) ?_
    refine va_iald hx hb hK hP 1 1 rfl rfl (show ¬ ((9 : Int32) < 0 ∨ 11160 ≤ ((9 : Int32)).toNatClampNeg) by decide) dX12_bears_29 ?_
    refine lv_icmp_gt (tgt := 37) hx hb dX12_bears_30 (by decide) (fun hc30 => ?_) (fun hc30 => ?_)
    · rw [if_pos hc30] at hf
      refine lv_iconst (v := (0 : Int32)) hx hb dX12_bears_37 (by decide) ?_
      have hq := Option.some.inj hf
      subst hq
      exact W.zret (v := (0 : Int32)) hx hb hr rfl (fun t ht hW => ⟨rfl, ht⟩) (fun q h => by cases h) dX12_bears_38
    · rw [if_neg hc30] at hf
      refine lv_iconst (v := (1 : Int32)) hx hb dX12_bears_33 (by decide) ?_
      refine lv_goto (tgt := 38) hx hb dX12_bears_34 (by decide) ?_
      have hq := Option.some.inj hf
      subst hq
      exact W.zret (v := (1 : Int32)) hx hb hr rfl (fun t ht hW => ⟨rfl, ht⟩) (fun q h => by cases h) dX12_bears_38
set_option maxHeartbeats 4000000 in
set_option maxRecDepth 100000 in
theorem c_X12_turns (l : Launch) (dC : Nat → ClassId) (dI : Nat → Nat → Nat) (cyB cyI cyZ cyO : ClassId) (h h_all h_has h_read h_test h_rest h_gets h_waits h_way h_good h_left : Nat) (sz : Nat) (M_h : Mem) (p1 : Int32) (r : Int32) (R_h : Mem) (hf : f_X12_turns M_h p1 = some (r, R_h)) : Met l yX12_turns wsX12_turns ({ frames := 0, cells := 0, slots := 0, locals := 0 } : Room) (PW dC dI cyB cyI cyZ cyO ([.ref h, .int p1] : List Value) (wX12 cyB cyI cyZ cyO h h_all h_has h_read h_test h_rest h_gets h_waits h_way h_good h_left M_h) sz) (QW dC dI (some (.int r)) (wX12 cyB cyI cyZ cyO h h_all h_has h_read h_test h_rest h_gets h_waits h_way h_good h_left R_h) (va_A (wX12 cyB cyI cyZ cyO h h_all h_has h_read h_test h_rest h_gets h_waits h_way h_good h_left M_h) sz)) 0 0 (va_A (wX12 cyB cyI cyZ cyO h h_all h_has h_read h_test h_rest h_gets h_waits h_way h_good h_left M_h) sz) := by
  refine Met.ofW (cc := cX12_turns) (maxL := 3) (ret := (some .boolean)) (by decide) rfl ?_
  intro p e s m args below meth c s₁ B hml hv
  obtain ⟨rfl, hsz, hP, hCx, hD0⟩ := hv
  have hK := hCx.1
  have hN := hCx.2
  have hx := B.exec
  have hb := B.bytes
  have hr := B.returns
  have hts := atoms_spec (ws := wsX12_turns) B.pre
  have hown : s.vm.findClass RX12 = some m.cls := findClass_of_methodNamed B.named
  have hlocks := B.notSynchronized
  have hin12 : ∀ w ∈ u_ws RX12 TX12 21, w ∈ wsX12_turns := fun w h => List.mem_cons_of_mem _ (List.mem_append_right _ h)
  have kf32 := hts (.fieldLink RX12 32 "HoldSlipsModel" "way" "[I") (by decide +kernel)
  subst hsz
  have hD := hD0.self (sz := s.heap.size)
  generalize hAe : va_A (wX12 cyB cyI cyZ cyO h h_all h_has h_read h_test h_rest h_gets h_waits h_way h_good h_left M_h) s.heap.size = A at hD ⊢
  have hA : ∀ q : Nat, s.heap.size ≤ q → A q := fun q h => by rw [← hAe]; exact Or.inr h
  have hS : va_S A s.heap s.heap [] := va_S.rf
  have hl := lv_entry ([.ref h, .int p1] : List Value) (n := 3) (Nat.le_of_ble_eq_true rfl)
  rw [lg_entry_eq]
  generalize (lg_sl ([.ref h, .int p1] : List Value) ++ List.replicate (3 - (lg_sl ([.ref h, .int p1] : List Value)).length) Slot.unset).toArray = ls at hl ⊢
  have hl : lv_has ls 3 [(0, .ref h), (1, .int p1)] := hl
  have L4 : ∀ (n : Nat), ∀ (M_h : Mem) (x2 : Int32) (H : Heap) (locs : List Loc) (ls : Array Slot), f_X12_turns_L4 n M_h x2 = some (r, R_h) → va_P (dC, dI) vwCl (wX12 cyB cyI cyZ cyO h h_all h_has h_read h_test h_rest h_gets h_waits h_way h_good h_left M_h) H → va_D A (wX12 cyB cyI cyZ cyO h h_all h_has h_read h_test h_rest h_gets h_waits h_way h_good h_left M_h) → va_S A s.heap H locs → lv_has ls 3 [(0, .ref h), (2, .int x2)] → W p l e (headSpec wsX12_turns ({ frames := 0, cells := 0, slots := 0, locals := 0 } : Room)).room s m ([.ref h, .int p1] : List Value).toArray below meth c H locs 0 0 (MQ below (QW dC dI (some (.int r)) (wX12 cyB cyI cyZ cyO h h_all h_has h_read h_test h_rest h_gets h_waits h_way h_good h_left R_h) A) ([.ref h, .int p1] : List Value).toArray s 0 0 A) (F0 m 4 ls []) := by
    intro n
    induction n with
    | zero => intro M_h x2 H locs ls hf hP hD hS hl; rw [f_X12_turns_L4] at hf; cases hf
    | succ n ih =>
      intro M_h x2 H locs ls hf hP hD hS hl
      rw [f_X12_turns_L4] at hf
      refine lv_iload_n hx hb dX12_turns_4 rfl (lv_at hl 1 rfl) ?_
      refine lv_if_lt (tgt := 43) hx hb dX12_turns_5 (by decide) (fun hc5 => ?_) (fun hc5 => ?_)
      · rw [if_pos hc5] at hf
        refine lv_iconst (v := (0 : Int32)) hx hb dX12_turns_43 (by decide) ?_
        obtain ⟨hq0, hq1⟩ := pj2 hf
        subst hq0
        subst hq1
        exact W.zret (v := (0 : Int32)) hx hb hr rfl (fun t ht hW => ⟨rfl, by rw [ht]; exact hP, hD, hS.F ht⟩) hS.2.2 dX12_turns_44
      · rw [if_neg hc5] at hf
        refine lv_aload_n hx hb dX12_turns_8 rfl (lv_at hl 0 rfl) ?_
        refine va_get (D := (dC, dI)) (ci := 12) (v := .ref h_way) (C := RX12) (T := TX12) (N := 21) hx hb hts hin12 hown hK hP 0 rfl rfl 16 (by decide) kf32 (fun _ h9 => h9) rfl dX12_turns_9 ?_
        refine lv_iload_n hx hb dX12_turns_12 rfl (lv_at hl 1 rfl) ?_
        have hi13 := if_no hf
        rw [if_neg hi13] at hf
        refine va_iald hx hb hK hP 8 1 rfl rfl hi13 dX12_turns_13 ?_
        refine lv_iconst (v := (2 : Int32)) hx hb dX12_turns_14 (by decide) ?_
        refine lv_icmp_ge (tgt := 30) hx hb dX12_turns_15 (by decide) (fun hc15 => ?_) (fun hc15 => ?_)
        · rw [if_pos hc15] at hf
          refine lv_aload_n hx hb dX12_turns_30 rfl (lv_at hl 0 rfl) ?_
          refine va_get (D := (dC, dI)) (ci := 12) (v := .ref h_way) (C := RX12) (T := TX12) (N := 21) hx hb hts hin12 hown hK hP 0 rfl rfl 16 (by decide) kf32 (fun _ h9 => h9) rfl dX12_turns_31 ?_
          refine lv_iload_n hx hb dX12_turns_34 rfl (lv_at hl 1 rfl) ?_
          refine lv_iconst (v := (0 : Int32)) hx hb dX12_turns_35 (by decide) ?_
          refine va_iast hx hb hK hP hD hS 8 1 rfl rfl hi13 dX12_turns_36 (fun H locs hP hD hS => ?_)
          obtain ⟨M_h_36, eM_h_36, hf⟩ := wr_some hf
          have hP : va_P (dC, dI) vwCl (wX12 cyB cyI cyZ cyO h h_all h_has h_read h_test h_rest h_gets h_waits h_way h_good h_left M_h_36) H := by rw [eM_h_36]; exact hP
          have hD : va_D A (wX12 cyB cyI cyZ cyO h h_all h_has h_read h_test h_rest h_gets h_waits h_way h_good h_left M_h_36) := by rw [eM_h_36]; exact hD
          refine lv_iinc (v := (x2 + (-1 : Int32))) (lv' := [(2, .int (x2 + (-1 : Int32))), (0, .ref h)]) hx hb dX12_turns_37 hl (k := 1) rfl rfl (by decide) rfl (fun ls hl => ?_)
          refine lv_goto (tgt := 4) hx hb dX12_turns_40 (by decide) ?_
          exact ih M_h_36 (x2 + (-1 : Int32)) _ _ ls hf hP hD hS (lv_sub hl [1, 0] rfl)
        · rw [if_neg hc15] at hf
          refine lv_aload_n hx hb dX12_turns_18 rfl (lv_at hl 0 rfl) ?_
          refine va_get (D := (dC, dI)) (ci := 12) (v := .ref h_way) (C := RX12) (T := TX12) (N := 21) hx hb hts hin12 hown hK hP 0 rfl rfl 16 (by decide) kf32 (fun _ h9 => h9) rfl dX12_turns_19 ?_
          refine lv_iload_n hx hb dX12_turns_22 rfl (lv_at hl 1 rfl) ?_
          refine lv_dup2_11 hx hb dX12_turns_23 rfl rfl ?_
          refine va_iald hx hb hK hP 8 1 rfl rfl hi13 dX12_turns_24 ?_
          refine lv_iconst (v := (1 : Int32)) hx hb dX12_turns_25 (by decide) ?_
          refine lv_iadd hx hb dX12_turns_26 ?_
          refine va_iast hx hb hK hP hD hS 8 1 rfl rfl hi13 dX12_turns_27 (fun H locs hP hD hS => ?_)
          obtain ⟨M_h_27, eM_h_27, hf⟩ := wr_some hf
          have hP : va_P (dC, dI) vwCl (wX12 cyB cyI cyZ cyO h h_all h_has h_read h_test h_rest h_gets h_waits h_way h_good h_left M_h_27) H := by rw [eM_h_27]; exact hP
          have hD : va_D A (wX12 cyB cyI cyZ cyO h h_all h_has h_read h_test h_rest h_gets h_waits h_way h_good h_left M_h_27) := by rw [eM_h_27]; exact hD
          refine lv_iconst (v := (1 : Int32)) hx hb dX12_turns_28 (by decide) ?_
          obtain ⟨hq0, hq1⟩ := pj2 hf
          subst hq0
          subst hq1
          exact W.zret (v := (1 : Int32)) hx hb hr rfl (fun t ht hW => ⟨rfl, by rw [ht]; exact hP, hD, hS.F ht⟩) hS.2.2 dX12_turns_29
  rw [f_X12_turns] at hf
  refine lv_iload_n hx hb dX12_turns_0 rfl (lv_at hl 1 rfl) ?_
  refine lv_iconst (v := (1 : Int32)) hx hb dX12_turns_1 (by decide) ?_
  refine lv_isub hx hb dX12_turns_2 ?_
  refine lv_istore_n (lv' := [(2, .int (p1 - (1 : Int32))), (0, .ref h), (1, .int p1)]) hx hb dX12_turns_3 rfl hl (by decide) rfl (fun ls hl => ?_)
  exact L4 FU M_h (p1 - (1 : Int32)) _ _ ls hf hP hD hS (lv_sub hl [1, 0] rfl)
set_option maxHeartbeats 4000000 in
set_option maxRecDepth 100000 in
theorem c_X12_can (l : Launch) (dC : Nat → ClassId) (dI : Nat → Nat → Nat) (cyB cyI cyZ cyO : ClassId) (h h_all h_has h_read h_test h_rest h_gets h_waits h_way h_good h_left : Nat) (sz : Nat) (M_h : Mem) (p1 : Int32) (r : Int32) (R_h : Mem) (hf : f_X12_can M_h p1 = some (r, R_h)) : Met l yX12_can wsX12_can ({ frames := 3, cells := 0, slots := 0, locals := 66 } : Room) (PW dC dI cyB cyI cyZ cyO ([.ref h, .int p1] : List Value) (wX12 cyB cyI cyZ cyO h h_all h_has h_read h_test h_rest h_gets h_waits h_way h_good h_left M_h) sz) (QW dC dI (some (.int r)) (wX12 cyB cyI cyZ cyO h h_all h_has h_read h_test h_rest h_gets h_waits h_way h_good h_left R_h) (va_A (wX12 cyB cyI cyZ cyO h h_all h_has h_read h_test h_rest h_gets h_waits h_way h_good h_left M_h) sz)) 0 0 (va_A (wX12 cyB cyI cyZ cyO h h_all h_has h_read h_test h_rest h_gets h_waits h_way h_good h_left M_h) sz) := by
  refine Met.ofW (cc := cX12_can) (maxL := 7) (ret := (some .boolean)) (by decide) rfl ?_
  intro p e s m args below meth c s₁ B hml hv
  obtain ⟨rfl, hsz, hP, hCx, hD0⟩ := hv
  have hK := hCx.1
  have hN := hCx.2
  have hx := B.exec
  have hb := B.bytes
  have hr := B.returns
  have hts := atoms_spec (ws := wsX12_can) B.pre
  have hown : s.vm.findClass RX12 = some m.cls := findClass_of_methodNamed B.named
  have hlocks := B.notSynchronized
  have hin12 : ∀ w ∈ u_ws RX12 TX12 21, w ∈ wsX12_can := fun w h => List.mem_cons_of_mem _ (List.mem_append_right _ h)
  have kf7 := hts (.fieldLink RX12 7 "HoldSlipsModel" "all" "[I") (by decide +kernel)
  have kf29 := hts (.fieldLink RX12 29 "HoldSlipsModel" "waits" "[I") (by decide +kernel)
  have kf32 := hts (.fieldLink RX12 32 "HoldSlipsModel" "way" "[I") (by decide +kernel)
  have kf38 := hts (.fieldLink RX12 38 "HoldSlipsModel" "left" "[I") (by decide +kernel)
  have kf190 := hts (.fieldLink RX12 190 "HoldSlipsModel" "wayValue" "I") (by decide +kernel)
  have kf193 := hts (.fieldLink RX12 193 "HoldSlipsModel" "waySlips" "I") (by decide +kernel)
  subst hsz
  have hD := hD0.self (sz := s.heap.size)
  generalize hAe : va_A (wX12 cyB cyI cyZ cyO h h_all h_has h_read h_test h_rest h_gets h_waits h_way h_good h_left M_h) s.heap.size = A at hD ⊢
  have hA : ∀ q : Nat, s.heap.size ≤ q → A q := fun q h => by rw [← hAe]; exact Or.inr h
  have hS : va_S A s.heap s.heap [] := va_S.rf
  have hl := lv_entry ([.ref h, .int p1] : List Value) (n := 7) (Nat.le_of_ble_eq_true rfl)
  rw [lg_entry_eq]
  generalize (lg_sl ([.ref h, .int p1] : List Value) ++ List.replicate (7 - (lg_sl ([.ref h, .int p1] : List Value)).length) Slot.unset).toArray = ls at hl ⊢
  have hl : lv_has ls 7 [(0, .ref h), (1, .int p1)] := hl
  have L161 : ∀ (K55 : Mem → Int32 → Int32 → Int32 → Int32 → Int32 → Option (Int32 × Mem)) (hK55 : ∀ (M_h : Mem) (x1 : Int32) (x2 : Int32) (x3 : Int32) (x4 : Int32) (x5 : Int32) (H : Heap) (locs : List Loc) (ls : Array Slot), K55 M_h x1 x2 x3 x4 x5 = some (r, R_h) → va_P (dC, dI) vwCl (wX12 cyB cyI cyZ cyO h h_all h_has h_read h_test h_rest h_gets h_waits h_way h_good h_left M_h) H → va_D A (wX12 cyB cyI cyZ cyO h h_all h_has h_read h_test h_rest h_gets h_waits h_way h_good h_left M_h) → va_S A s.heap H locs → lv_has ls 7 [(0, .ref h), (1, .int x1), (2, .int x2), (3, .int x3), (4, .int x4), (5, .int x5)] → W p l e (headSpec wsX12_can ({ frames := 3, cells := 0, slots := 0, locals := 66 } : Room)).room s m ([.ref h, .int p1] : List Value).toArray below meth c H locs 0 0 (MQ below (QW dC dI (some (.int r)) (wX12 cyB cyI cyZ cyO h h_all h_has h_read h_test h_rest h_gets h_waits h_way h_good h_left R_h) A) ([.ref h, .int p1] : List Value).toArray s 0 0 A) (F0 m 55 ls [])), ∀ (M_h : Mem) (x1 : Int32) (x3 : Int32) (x4 : Int32) (x5 : Int32) (x6 : Int32) (s0 : Int32) (s1 : Int32) (H : Heap) (locs : List Loc) (ls : Array Slot), f_X12_can_L161 K55 M_h x1 x3 x4 x5 x6 s0 s1 = some (r, R_h) → va_P (dC, dI) vwCl (wX12 cyB cyI cyZ cyO h h_all h_has h_read h_test h_rest h_gets h_waits h_way h_good h_left M_h) H → va_D A (wX12 cyB cyI cyZ cyO h h_all h_has h_read h_test h_rest h_gets h_waits h_way h_good h_left M_h) → va_S A s.heap H locs → lv_has ls 7 [(0, .ref h), (1, .int x1), (3, .int x3), (4, .int x4), (5, .int x5), (6, .int x6)] → W p l e (headSpec wsX12_can ({ frames := 3, cells := 0, slots := 0, locals := 66 } : Room)).room s m ([.ref h, .int p1] : List Value).toArray below meth c H locs 0 0 (MQ below (QW dC dI (some (.int r)) (wX12 cyB cyI cyZ cyO h h_all h_has h_read h_test h_rest h_gets h_waits h_way h_good h_left R_h) A) ([.ref h, .int p1] : List Value).toArray s 0 0 A) (F0 m 161 ls [.int s0, .int s1]) := by
    intro K55 hK55 M_h x1 x3 x4 x5 x6 s0 s1 H locs ls hf hP hD hS hl
    rw [f_X12_can_L161] at hf
    refine lv_iadd hx hb dX12_can_161 ?_
    refine lv_istore_n (lv' := [(2, .int (s1 + s0)), (0, .ref h), (1, .int x1), (3, .int x3), (4, .int x4), (5, .int x5), (6, .int x6)]) hx hb dX12_can_162 rfl hl (by decide) rfl (fun ls hl => ?_)
    refine lv_iload_n hx hb dX12_can_163 rfl (lv_at hl 3 rfl) ?_
    refine lv_aload_n hx hb dX12_can_164 rfl (lv_at hl 1 rfl) ?_
    refine lv_iload hx hb dX12_can_165 (lv_at hl 6 rfl) ?_
    refine lv_iconst (v := (2 : Int32)) hx hb dX12_can_167 (by decide) ?_
    obtain ⟨r168, h168, hf⟩ := bd1_some hf
    refine ro_calli (va_runV (As := [.int x6, .int (2 : Int32)]) (rest := [.int x3]) ⟨hx, hb, hml, hown, hts⟩ (c_X12_its l dC dI cyB cyI cyZ cyO h h_all h_has h_read h_test h_rest h_gets h_waits h_way h_good h_left M_h x6 (2 : Int32) r168 h168) (cwV 2 hts gX12_can_X12_its rfl rfl rfl (by decide +kernel) ⟨Nat.le_of_ble_eq_true rfl, Nat.le_of_ble_eq_true rfl⟩) ⟨PR.blind, va_recv hK hP (ci := 12) (q0 := 0) rfl rfl, fun U hU hW => ⟨rfl, by rw [hU]; exact hP, hCx.warm hW⟩⟩ rfl rfl hl.1 rfl (lv_room (Nat.le_of_ble_eq_true rfl)) dX12_can_168 ⟨Nat.zero_le _, Nat.zero_le _⟩) ?_
    refine lv_iadd hx hb dX12_can_171 ?_
    refine lv_istore_n (lv' := [(3, .int (x3 + r168)), (2, .int (s1 + s0)), (0, .ref h), (1, .int x1), (4, .int x4), (5, .int x5), (6, .int x6)]) hx hb dX12_can_172 rfl hl (by decide) rfl (fun ls hl => ?_)
    refine lv_aload_n hx hb dX12_can_173 rfl (lv_at hl 2 rfl) ?_
    refine lv_dup hx hb dX12_can_174 rfl ?_
    refine va_get (D := (dC, dI)) (ci := 12) (v := .int (M_h 19 0)) (C := RX12) (T := TX12) (N := 21) hx hb hts hin12 hown hK hP 0 rfl rfl 19 (by decide) kf190 (fun _ h9 => h9) rfl dX12_can_175 ?_
    refine lv_aload_n hx hb dX12_can_178 rfl (lv_at hl 2 rfl) ?_
    refine lv_iload hx hb dX12_can_179 (lv_at hl 6 rfl) ?_
    obtain ⟨r181, h181, hf⟩ := bd1_some hf
    refine ro_calli (va_runV (As := [.int x6]) (rest := [.int (M_h 19 0), .ref h]) ⟨hx, hb, hml, hown, hts⟩ (c_X12_value l dC dI cyB cyI cyZ cyO h h_all h_has h_read h_test h_rest h_gets h_waits h_way h_good h_left M_h x6 r181 h181) (cwV 1 hts gX12_can_X12_value rfl rfl rfl (by decide +kernel) ⟨Nat.le_of_ble_eq_true rfl, Nat.le_of_ble_eq_true rfl⟩) ⟨PR.blind, va_recv hK hP (ci := 12) (q0 := 0) rfl rfl, fun U hU hW => ⟨rfl, by rw [hU]; exact hP, hCx.warm hW⟩⟩ rfl rfl hl.1 rfl (lv_room (Nat.le_of_ble_eq_true rfl)) dX12_can_181 ⟨Nat.zero_le _, Nat.zero_le _⟩) ?_
    refine lv_iadd hx hb dX12_can_184 ?_
    refine va_put (D := (dC, dI)) (ci := 12) (v := .int ((M_h 19 0) + r181)) (ty := .int) (C := RX12) (T := TX12) (N := 21) hx hb hts hin12 tyX12 tyX12_ok nmX12 hown hK hP hD hS 0 rfl rfl 19 (by decide) kf190 (fun _ h9 => h9) rfl (by decide +kernel) rfl rfl (Nat.le_of_ble_eq_true rfl) dX12_can_185 (fun H locs hP hD hS => ?_)
    obtain ⟨M_h_185, eM_h_185, hf⟩ := wr_some hf
    have hP : va_P (dC, dI) vwCl (wX12 cyB cyI cyZ cyO h h_all h_has h_read h_test h_rest h_gets h_waits h_way h_good h_left M_h_185) H := by rw [eM_h_185]; exact hP
    have hD : va_D A (wX12 cyB cyI cyZ cyO h h_all h_has h_read h_test h_rest h_gets h_waits h_way h_good h_left M_h_185) := by rw [eM_h_185]; exact hD
    refine lv_aload_n hx hb dX12_can_188 rfl (lv_at hl 2 rfl) ?_
    refine lv_dup hx hb dX12_can_189 rfl ?_
    refine va_get (D := (dC, dI)) (ci := 12) (v := .int (M_h_185 20 0)) (C := RX12) (T := TX12) (N := 21) hx hb hts hin12 hown hK hP 0 rfl rfl 20 (by decide) kf193 (fun _ h9 => h9) rfl dX12_can_190 ?_
    refine lv_aload_n hx hb dX12_can_193 rfl (lv_at hl 2 rfl) ?_
    refine lv_iload hx hb dX12_can_194 (lv_at hl 6 rfl) ?_
    obtain ⟨r196, h196, hf⟩ := bd1_some hf
    refine ro_calli (va_runV (As := [.int x6]) (rest := [.int (M_h_185 20 0), .ref h]) ⟨hx, hb, hml, hown, hts⟩ (c_X12_room l dC dI cyB cyI cyZ cyO h h_all h_has h_read h_test h_rest h_gets h_waits h_way h_good h_left M_h_185 x6 r196 h196) (cwV 1 hts gX12_can_X12_room rfl rfl rfl (by decide +kernel) ⟨Nat.le_of_ble_eq_true rfl, Nat.le_of_ble_eq_true rfl⟩) ⟨PR.blind, va_recv hK hP (ci := 12) (q0 := 0) rfl rfl, fun U hU hW => ⟨rfl, by rw [hU]; exact hP, hCx.warm hW⟩⟩ rfl rfl hl.1 rfl (lv_room (Nat.le_of_ble_eq_true rfl)) dX12_can_196 ⟨Nat.zero_le _, Nat.zero_le _⟩) ?_
    refine lv_iadd hx hb dX12_can_199 ?_
    refine va_put (D := (dC, dI)) (ci := 12) (v := .int ((M_h_185 20 0) + r196)) (ty := .int) (C := RX12) (T := TX12) (N := 21) hx hb hts hin12 tyX12 tyX12_ok nmX12 hown hK hP hD hS 0 rfl rfl 20 (by decide) kf193 (fun _ h9 => h9) rfl (by decide +kernel) rfl rfl (Nat.le_of_ble_eq_true rfl) dX12_can_200 (fun H locs hP hD hS => ?_)
    obtain ⟨M_h_200, eM_h_200, hf⟩ := wr_some hf
    have hP : va_P (dC, dI) vwCl (wX12 cyB cyI cyZ cyO h h_all h_has h_read h_test h_rest h_gets h_waits h_way h_good h_left M_h_200) H := by rw [eM_h_200]; exact hP
    have hD : va_D A (wX12 cyB cyI cyZ cyO h h_all h_has h_read h_test h_rest h_gets h_waits h_way h_good h_left M_h_200) := by rw [eM_h_200]; exact hD
    refine lv_iinc (v := (x5 + (1 : Int32))) (lv' := [(5, .int (x5 + (1 : Int32))), (3, .int (x3 + r168)), (2, .int (s1 + s0)), (0, .ref h), (1, .int x1), (4, .int x4), (6, .int x6)]) hx hb dX12_can_203 hl (k := 5) rfl rfl (by decide) rfl (fun ls hl => ?_)
    refine lv_goto (tgt := 55) hx hb dX12_can_206 (by decide) ?_
    exact hK55 M_h_200 x1 (s1 + s0) (x3 + r168) x4 (x5 + (1 : Int32)) _ _ ls hf hP hD hS (lv_sub hl [3, 4, 2, 1, 5, 0] rfl)
  have L130 : ∀ (K55 : Mem → Int32 → Int32 → Int32 → Int32 → Int32 → Option (Int32 × Mem)) (hK55 : ∀ (M_h : Mem) (x1 : Int32) (x2 : Int32) (x3 : Int32) (x4 : Int32) (x5 : Int32) (H : Heap) (locs : List Loc) (ls : Array Slot), K55 M_h x1 x2 x3 x4 x5 = some (r, R_h) → va_P (dC, dI) vwCl (wX12 cyB cyI cyZ cyO h h_all h_has h_read h_test h_rest h_gets h_waits h_way h_good h_left M_h) H → va_D A (wX12 cyB cyI cyZ cyO h h_all h_has h_read h_test h_rest h_gets h_waits h_way h_good h_left M_h) → va_S A s.heap H locs → lv_has ls 7 [(0, .ref h), (1, .int x1), (2, .int x2), (3, .int x3), (4, .int x4), (5, .int x5)] → W p l e (headSpec wsX12_can ({ frames := 3, cells := 0, slots := 0, locals := 66 } : Room)).room s m ([.ref h, .int p1] : List Value).toArray below meth c H locs 0 0 (MQ below (QW dC dI (some (.int r)) (wX12 cyB cyI cyZ cyO h h_all h_has h_read h_test h_rest h_gets h_waits h_way h_good h_left R_h) A) ([.ref h, .int p1] : List Value).toArray s 0 0 A) (F0 m 55 ls [])), ∀ (M_h : Mem) (x1 : Int32) (x2 : Int32) (x3 : Int32) (x5 : Int32) (x6 : Int32) (s0 : Int32) (H : Heap) (locs : List Loc) (ls : Array Slot), f_X12_can_L130 K55 M_h x1 x2 x3 x5 x6 s0 = some (r, R_h) → va_P (dC, dI) vwCl (wX12 cyB cyI cyZ cyO h h_all h_has h_read h_test h_rest h_gets h_waits h_way h_good h_left M_h) H → va_D A (wX12 cyB cyI cyZ cyO h h_all h_has h_read h_test h_rest h_gets h_waits h_way h_good h_left M_h) → va_S A s.heap H locs → lv_has ls 7 [(0, .ref h), (1, .int x1), (2, .int x2), (3, .int x3), (5, .int x5), (6, .int x6)] → W p l e (headSpec wsX12_can ({ frames := 3, cells := 0, slots := 0, locals := 66 } : Room)).room s m ([.ref h, .int p1] : List Value).toArray below meth c H locs 0 0 (MQ below (QW dC dI (some (.int r)) (wX12 cyB cyI cyZ cyO h h_all h_has h_read h_test h_rest h_gets h_waits h_way h_good h_left R_h) A) ([.ref h, .int p1] : List Value).toArray s 0 0 A) (F0 m 130 ls [.int s0]) := by
    intro K55 hK55 M_h x1 x2 x3 x5 x6 s0 H locs ls hf hP hD hS hl
    rw [f_X12_can_L130] at hf
    refine lv_istore (lv' := [(4, .int s0), (0, .ref h), (1, .int x1), (2, .int x2), (3, .int x3), (5, .int x5), (6, .int x6)]) hx hb dX12_can_130 hl (by decide) rfl (fun ls hl => ?_)
    refine lv_iload_n hx hb dX12_can_132 rfl (lv_at hl 3 rfl) ?_
    refine lv_aload_n hx hb dX12_can_133 rfl (lv_at hl 1 rfl) ?_
    refine va_get (D := (dC, dI)) (ci := 12) (v := .ref h_way) (C := RX12) (T := TX12) (N := 21) hx hb hts hin12 hown hK hP 0 rfl rfl 16 (by decide) kf32 (fun _ h9 => h9) rfl dX12_can_134 ?_
    refine lv_iload hx hb dX12_can_137 (lv_at hl 5 rfl) ?_
    have hi139 := if_no hf
    rw [if_neg hi139] at hf
    refine va_iald hx hb hK hP 8 1 rfl rfl hi139 dX12_can_139 ?_
    refine lv_if_ne (tgt := 153) hx hb dX12_can_140 (by decide) (fun hc140 => ?_) (fun hc140 => ?_)
    · rw [if_neg hc140] at hf
      refine lv_aload_n hx hb dX12_can_153 rfl (lv_at hl 1 rfl) ?_
      refine lv_iload hx hb dX12_can_154 (lv_at hl 6 rfl) ?_
      refine lv_iconst (v := (2 : Int32)) hx hb dX12_can_156 (by decide) ?_
      obtain ⟨r157, h157, hf⟩ := bd1_some hf
      refine ro_calli (va_runV (As := [.int x6, .int (2 : Int32)]) (rest := [.int x2]) ⟨hx, hb, hml, hown, hts⟩ (c_X12_its l dC dI cyB cyI cyZ cyO h h_all h_has h_read h_test h_rest h_gets h_waits h_way h_good h_left M_h x6 (2 : Int32) r157 h157) (cwV 2 hts gX12_can_X12_its rfl rfl rfl (by decide +kernel) ⟨Nat.le_of_ble_eq_true rfl, Nat.le_of_ble_eq_true rfl⟩) ⟨PR.blind, va_recv hK hP (ci := 12) (q0 := 0) rfl rfl, fun U hU hW => ⟨rfl, by rw [hU]; exact hP, hCx.warm hW⟩⟩ rfl rfl hl.1 rfl (lv_room (Nat.le_of_ble_eq_true rfl)) dX12_can_157 ⟨Nat.zero_le _, Nat.zero_le _⟩) ?_
      refine lv_ineg hx hb dX12_can_160 ?_
      exact L161 K55 hK55 M_h x1 x3 s0 x5 x6 (-r157) x2 _ _ ls hf hP hD hS (lv_sub hl [1, 2, 4, 0, 5, 6] rfl)
    · rw [if_pos hc140] at hf
      refine lv_aload_n hx hb dX12_can_143 rfl (lv_at hl 1 rfl) ?_
      refine lv_iload hx hb dX12_can_144 (lv_at hl 6 rfl) ?_
      refine lv_iconst (v := (2 : Int32)) hx hb dX12_can_146 (by decide) ?_
      obtain ⟨r147, h147, hf⟩ := bd1_some hf
      refine ro_calli (va_runV (As := [.int x6, .int (2 : Int32)]) (rest := [.int x2]) ⟨hx, hb, hml, hown, hts⟩ (c_X12_its l dC dI cyB cyI cyZ cyO h h_all h_has h_read h_test h_rest h_gets h_waits h_way h_good h_left M_h x6 (2 : Int32) r147 h147) (cwV 2 hts gX12_can_X12_its rfl rfl rfl (by decide +kernel) ⟨Nat.le_of_ble_eq_true rfl, Nat.le_of_ble_eq_true rfl⟩) ⟨PR.blind, va_recv hK hP (ci := 12) (q0 := 0) rfl rfl, fun U hU hW => ⟨rfl, by rw [hU]; exact hP, hCx.warm hW⟩⟩ rfl rfl hl.1 rfl (lv_room (Nat.le_of_ble_eq_true rfl)) dX12_can_147 ⟨Nat.zero_le _, Nat.zero_le _⟩) ?_
      refine lv_goto (tgt := 161) hx hb dX12_can_150 (by decide) ?_
      exact L161 K55 hK55 M_h x1 x3 s0 x5 x6 r147 x2 _ _ ls hf hP hD hS (lv_sub hl [1, 2, 4, 0, 5, 6] rfl)
  have L55 : ∀ (n : Nat), ∀ (M_h : Mem) (x1 : Int32) (x2 : Int32) (x3 : Int32) (x4 : Int32) (x5 : Int32) (H : Heap) (locs : List Loc) (ls : Array Slot), f_X12_can_L55 n M_h x1 x2 x3 x4 x5 = some (r, R_h) → va_P (dC, dI) vwCl (wX12 cyB cyI cyZ cyO h h_all h_has h_read h_test h_rest h_gets h_waits h_way h_good h_left M_h) H → va_D A (wX12 cyB cyI cyZ cyO h h_all h_has h_read h_test h_rest h_gets h_waits h_way h_good h_left M_h) → va_S A s.heap H locs → lv_has ls 7 [(0, .ref h), (1, .int x1), (2, .int x2), (3, .int x3), (4, .int x4), (5, .int x5)] → W p l e (headSpec wsX12_can ({ frames := 3, cells := 0, slots := 0, locals := 66 } : Room)).room s m ([.ref h, .int p1] : List Value).toArray below meth c H locs 0 0 (MQ below (QW dC dI (some (.int r)) (wX12 cyB cyI cyZ cyO h h_all h_has h_read h_test h_rest h_gets h_waits h_way h_good h_left R_h) A) ([.ref h, .int p1] : List Value).toArray s 0 0 A) (F0 m 55 ls []) := by
    intro n
    induction n with
    | zero => intro M_h x1 x2 x3 x4 x5 H locs ls hf hP hD hS hl; rw [f_X12_can_L55] at hf; cases hf
    | succ n ih =>
      intro M_h x1 x2 x3 x4 x5 H locs ls hf hP hD hS hl
      rw [f_X12_can_L55] at hf
      refine lv_iload hx hb dX12_can_55 (lv_at hl 5 rfl) ?_
      refine lv_iload_n hx hb dX12_can_57 rfl (lv_at hl 1 rfl) ?_
      refine lv_icmp_ge (tgt := 209) hx hb dX12_can_58 (by decide) (fun hc58 => ?_) (fun hc58 => ?_)
      · rw [if_pos hc58] at hf
        refine lv_iload hx hb dX12_can_209 (lv_at hl 4 rfl) ?_
        refine lv_if_eq (tgt := 227) hx hb dX12_can_211 (by decide) (fun hc211 => ?_) (fun hc211 => ?_)
        · rw [if_pos hc211] at hf
          refine lv_iconst (v := (0 : Int32)) hx hb dX12_can_227 (by decide) ?_
          obtain ⟨hq0, hq1⟩ := pj2 hf
          subst hq0
          subst hq1
          exact W.zret (v := (0 : Int32)) hx hb hr rfl (fun t ht hW => ⟨rfl, by rw [ht]; exact hP, hD, hS.F ht⟩) hS.2.2 dX12_can_228
        · rw [if_neg hc211] at hf
          refine lv_aload_n hx hb dX12_can_214 rfl (lv_at hl 0 rfl) ?_
          refine lv_iload_n hx hb dX12_can_215 rfl (lv_at hl 2 rfl) ?_
          refine lv_iload_n hx hb dX12_can_216 rfl (lv_at hl 3 rfl) ?_
          obtain ⟨r217, h217, hf⟩ := bd1_some hf
          refine ro_calli (va_runV (As := [.int x2, .int x3]) (rest := []) ⟨hx, hb, hml, hown, hts⟩ (c_X12_bears l dC dI cyB cyI cyZ cyO h h_all h_has h_read h_test h_rest h_gets h_waits h_way h_good h_left M_h x2 x3 r217 h217) (cwV 2 hts gX12_can_X12_bears rfl rfl rfl (by decide +kernel) ⟨Nat.le_of_ble_eq_true rfl, Nat.le_of_ble_eq_true rfl⟩) ⟨PR.blind, va_recv hK hP (ci := 12) (q0 := 0) rfl rfl, fun U hU hW => ⟨rfl, by rw [hU]; exact hP, hCx.warm hW⟩⟩ rfl rfl hl.1 rfl (lv_room (Nat.le_of_ble_eq_true rfl)) dX12_can_217 ⟨Nat.zero_le _, Nat.zero_le _⟩) ?_
          refine lv_if_eq (tgt := 227) hx hb dX12_can_220 (by decide) (fun hc220 => ?_) (fun hc220 => ?_)
          · rw [if_pos hc220] at hf
            refine lv_iconst (v := (0 : Int32)) hx hb dX12_can_227 (by decide) ?_
            obtain ⟨hq0, hq1⟩ := pj2 hf
            subst hq0
            subst hq1
            exact W.zret (v := (0 : Int32)) hx hb hr rfl (fun t ht hW => ⟨rfl, by rw [ht]; exact hP, hD, hS.F ht⟩) hS.2.2 dX12_can_228
          · rw [if_neg hc220] at hf
            refine lv_iconst (v := (1 : Int32)) hx hb dX12_can_223 (by decide) ?_
            refine lv_goto (tgt := 228) hx hb dX12_can_224 (by decide) ?_
            obtain ⟨hq0, hq1⟩ := pj2 hf
            subst hq0
            subst hq1
            exact W.zret (v := (1 : Int32)) hx hb hr rfl (fun t ht hW => ⟨rfl, by rw [ht]; exact hP, hD, hS.F ht⟩) hS.2.2 dX12_can_228
      · rw [if_neg hc58] at hf
        refine lv_aload_n hx hb dX12_can_61 rfl (lv_at hl 0 rfl) ?_
        refine va_get (D := (dC, dI)) (ci := 12) (v := .ref h_waits) (C := RX12) (T := TX12) (N := 21) hx hb hts hin12 hown hK hP 0 rfl rfl 15 (by decide) kf29 (fun _ h9 => h9) rfl dX12_can_62 ?_
        refine lv_iload hx hb dX12_can_65 (lv_at hl 5 rfl) ?_
        have hi67 := if_no hf
        rw [if_neg hi67] at hf
        refine va_iald hx hb hK hP 7 1 rfl rfl hi67 dX12_can_67 ?_
        refine lv_istore (lv' := [(6, .int (M_h 15 (x5).toNatClampNeg)), (0, .ref h), (1, .int x1), (2, .int x2), (3, .int x3), (4, .int x4), (5, .int x5)]) hx hb dX12_can_68 hl (by decide) rfl (fun ls hl => ?_)
        refine lv_aload_n hx hb dX12_can_70 rfl (lv_at hl 1 rfl) ?_
        refine va_get (D := (dC, dI)) (ci := 12) (v := .ref h_way) (C := RX12) (T := TX12) (N := 21) hx hb hts hin12 hown hK hP 0 rfl rfl 16 (by decide) kf32 (fun _ h9 => h9) rfl dX12_can_71 ?_
        refine lv_iload hx hb dX12_can_74 (lv_at hl 6 rfl) ?_
        refine va_iald hx hb hK hP 8 1 rfl rfl hi67 dX12_can_76 ?_
        refine lv_iconst (v := (2 : Int32)) hx hb dX12_can_77 (by decide) ?_
        refine lv_icmp_ne (tgt := 84) hx hb dX12_can_78 (by decide) (fun hc78 => ?_) (fun hc78 => ?_)
        · rw [if_neg hc78] at hf
          refine lv_aload_n hx hb dX12_can_84 rfl (lv_at hl 1 rfl) ?_
          refine va_get (D := (dC, dI)) (ci := 12) (v := .ref h_left) (C := RX12) (T := TX12) (N := 21) hx hb hts hin12 hown hK hP 0 rfl rfl 18 (by decide) kf38 (fun _ h9 => h9) rfl dX12_can_85 ?_
          refine lv_aload_n hx hb dX12_can_88 rfl (lv_at hl 1 rfl) ?_
          refine lv_iload hx hb dX12_can_89 (lv_at hl 0 rfl) ?_
          refine lv_iconst (v := (0 : Int32)) hx hb dX12_can_91 (by decide) ?_
          obtain ⟨r92, h92, hf⟩ := bd1_some hf
          refine ro_calli (va_runV (As := [.int (M_h 15 (x5).toNatClampNeg), .int (0 : Int32)]) (rest := [.ref h_left]) ⟨hx, hb, hml, hown, hts⟩ (c_X12_its l dC dI cyB cyI cyZ cyO h h_all h_has h_read h_test h_rest h_gets h_waits h_way h_good h_left M_h (M_h 15 (x5).toNatClampNeg) (0 : Int32) r92 h92) (cwV 2 hts gX12_can_X12_its rfl rfl rfl (by decide +kernel) ⟨Nat.le_of_ble_eq_true rfl, Nat.le_of_ble_eq_true rfl⟩) ⟨PR.blind, va_recv hK hP (ci := 12) (q0 := 0) rfl rfl, fun U hU hW => ⟨rfl, by rw [hU]; exact hP, hCx.warm hW⟩⟩ rfl rfl hl.1 rfl (lv_room (Nat.le_of_ble_eq_true rfl)) dX12_can_92 ⟨Nat.zero_le _, Nat.zero_le _⟩) ?_
          refine lv_dup2_11 hx hb dX12_can_95 rfl rfl ?_
          have hi96 := if_no hf
          rw [if_neg hi96] at hf
          refine va_iald hx hb hK hP 10 1 rfl rfl hi96 dX12_can_96 ?_
          refine lv_aload_n hx hb dX12_can_97 rfl (lv_at hl 1 rfl) ?_
          refine lv_iload hx hb dX12_can_98 (lv_at hl 0 rfl) ?_
          obtain ⟨r100, h100, hf⟩ := bd1_some hf
          refine ro_calli (va_runV (As := [.int (M_h 15 (x5).toNatClampNeg)]) (rest := [.int (M_h 18 (r92).toNatClampNeg), .int r92, .ref h_left]) ⟨hx, hb, hml, hown, hts⟩ (c_X12_room l dC dI cyB cyI cyZ cyO h h_all h_has h_read h_test h_rest h_gets h_waits h_way h_good h_left M_h (M_h 15 (x5).toNatClampNeg) r100 h100) (cwV 1 hts gX12_can_X12_room rfl rfl rfl (by decide +kernel) ⟨Nat.le_of_ble_eq_true rfl, Nat.le_of_ble_eq_true rfl⟩) ⟨PR.blind, va_recv hK hP (ci := 12) (q0 := 0) rfl rfl, fun U hU hW => ⟨rfl, by rw [hU]; exact hP, hCx.warm hW⟩⟩ rfl rfl hl.1 rfl (lv_room (Nat.le_of_ble_eq_true rfl)) dX12_can_100 ⟨Nat.zero_le _, Nat.zero_le _⟩) ?_
          refine lv_isub hx hb dX12_can_103 ?_
          refine va_iast hx hb hK hP hD hS 10 1 rfl rfl hi96 dX12_can_104 (fun H locs hP hD hS => ?_)
          obtain ⟨M_h_104, eM_h_104, hf⟩ := wr_some hf
          have hP : va_P (dC, dI) vwCl (wX12 cyB cyI cyZ cyO h h_all h_has h_read h_test h_rest h_gets h_waits h_way h_good h_left M_h_104) H := by rw [eM_h_104]; exact hP
          have hD : va_D A (wX12 cyB cyI cyZ cyO h h_all h_has h_read h_test h_rest h_gets h_waits h_way h_good h_left M_h_104) := by rw [eM_h_104]; exact hD
          refine lv_iload hx hb dX12_can_105 (lv_at hl 5 rfl) ?_
          refine lv_if_eq (tgt := 129) hx hb dX12_can_107 (by decide) (fun hc107 => ?_) (fun hc107 => ?_)
          · rw [if_pos hc107] at hf
            refine lv_iconst (v := (0 : Int32)) hx hb dX12_can_129 (by decide) ?_
            exact L130 (f_X12_can_L55 n) (fun z0 z1 z2 z3 z4 z5 z6 z7 z8 z9 z10 z11 z12 z13 => ih z0 z1 z2 z3 z4 z5 z6 z7 z8 z9 z10 z11 z12 z13) M_h_104 x1 x2 x3 x5 (M_h 15 (x5).toNatClampNeg) (0 : Int32) _ _ ls hf hP hD hS (lv_sub hl [1, 2, 3, 4, 6, 0] rfl)
          · rw [if_neg hc107] at hf
            refine lv_aload_n hx hb dX12_can_110 rfl (lv_at hl 1 rfl) ?_
            refine va_get (D := (dC, dI)) (ci := 12) (v := .ref h_left) (C := RX12) (T := TX12) (N := 21) hx hb hts hin12 hown hK hP 0 rfl rfl 18 (by decide) kf38 (fun _ h9 => h9) rfl dX12_can_111 ?_
            refine lv_aload_n hx hb dX12_can_114 rfl (lv_at hl 1 rfl) ?_
            refine lv_iload hx hb dX12_can_115 (lv_at hl 0 rfl) ?_
            refine lv_iconst (v := (0 : Int32)) hx hb dX12_can_117 (by decide) ?_
            obtain ⟨r118, h118, hf⟩ := bd1_some hf
            refine ro_calli (va_runV (As := [.int (M_h 15 (x5).toNatClampNeg), .int (0 : Int32)]) (rest := [.ref h_left]) ⟨hx, hb, hml, hown, hts⟩ (c_X12_its l dC dI cyB cyI cyZ cyO h h_all h_has h_read h_test h_rest h_gets h_waits h_way h_good h_left M_h_104 (M_h 15 (x5).toNatClampNeg) (0 : Int32) r118 h118) (cwV 2 hts gX12_can_X12_its rfl rfl rfl (by decide +kernel) ⟨Nat.le_of_ble_eq_true rfl, Nat.le_of_ble_eq_true rfl⟩) ⟨PR.blind, va_recv hK hP (ci := 12) (q0 := 0) rfl rfl, fun U hU hW => ⟨rfl, by rw [hU]; exact hP, hCx.warm hW⟩⟩ rfl rfl hl.1 rfl (lv_room (Nat.le_of_ble_eq_true rfl)) dX12_can_118 ⟨Nat.zero_le _, Nat.zero_le _⟩) ?_
            have hi121 := if_no hf
            rw [if_neg hi121] at hf
            refine va_iald hx hb hK hP 10 1 rfl rfl hi121 dX12_can_121 ?_
            refine lv_if_lt (tgt := 129) hx hb dX12_can_122 (by decide) (fun hc122 => ?_) (fun hc122 => ?_)
            · rw [if_pos hc122] at hf
              refine lv_iconst (v := (0 : Int32)) hx hb dX12_can_129 (by decide) ?_
              exact L130 (f_X12_can_L55 n) (fun z0 z1 z2 z3 z4 z5 z6 z7 z8 z9 z10 z11 z12 z13 => ih z0 z1 z2 z3 z4 z5 z6 z7 z8 z9 z10 z11 z12 z13) M_h_104 x1 x2 x3 x5 (M_h 15 (x5).toNatClampNeg) (0 : Int32) _ _ ls hf hP hD hS (lv_sub hl [1, 2, 3, 4, 6, 0] rfl)
            · rw [if_neg hc122] at hf
              refine lv_iconst (v := (1 : Int32)) hx hb dX12_can_125 (by decide) ?_
              refine lv_goto (tgt := 130) hx hb dX12_can_126 (by decide) ?_
              exact L130 (f_X12_can_L55 n) (fun z0 z1 z2 z3 z4 z5 z6 z7 z8 z9 z10 z11 z12 z13 => ih z0 z1 z2 z3 z4 z5 z6 z7 z8 z9 z10 z11 z12 z13) M_h_104 x1 x2 x3 x5 (M_h 15 (x5).toNatClampNeg) (1 : Int32) _ _ ls hf hP hD hS (lv_sub hl [1, 2, 3, 4, 6, 0] rfl)
        · rw [if_pos hc78] at hf
          refine lv_goto (tgt := 203) hx hb dX12_can_81 (by decide) ?_
          refine lv_iinc (v := (x5 + (1 : Int32))) (lv' := [(5, .int (x5 + (1 : Int32))), (6, .int (M_h 15 (x5).toNatClampNeg)), (0, .ref h), (1, .int x1), (2, .int x2), (3, .int x3), (4, .int x4)]) hx hb dX12_can_203 hl (k := 6) rfl rfl (by decide) rfl (fun ls hl => ?_)
          refine lv_goto (tgt := 55) hx hb dX12_can_206 (by decide) ?_
          exact ih M_h x1 x2 x3 x4 (x5 + (1 : Int32)) _ _ ls hf hP hD hS (lv_sub hl [2, 3, 4, 5, 6, 0] rfl)
  have L2 : ∀ (n : Nat), ∀ (M_h : Mem) (x1 : Int32) (x2 : Int32) (H : Heap) (locs : List Loc) (ls : Array Slot), f_X12_can_L2 n M_h x1 x2 = some (r, R_h) → va_P (dC, dI) vwCl (wX12 cyB cyI cyZ cyO h h_all h_has h_read h_test h_rest h_gets h_waits h_way h_good h_left M_h) H → va_D A (wX12 cyB cyI cyZ cyO h h_all h_has h_read h_test h_rest h_gets h_waits h_way h_good h_left M_h) → va_S A s.heap H locs → lv_has ls 7 [(0, .ref h), (1, .int x1), (2, .int x2)] → W p l e (headSpec wsX12_can ({ frames := 3, cells := 0, slots := 0, locals := 66 } : Room)).room s m ([.ref h, .int p1] : List Value).toArray below meth c H locs 0 0 (MQ below (QW dC dI (some (.int r)) (wX12 cyB cyI cyZ cyO h h_all h_has h_read h_test h_rest h_gets h_waits h_way h_good h_left R_h) A) ([.ref h, .int p1] : List Value).toArray s 0 0 A) (F0 m 2 ls []) := by
    intro n
    induction n with
    | zero => intro M_h x1 x2 H locs ls hf hP hD hS hl; rw [f_X12_can_L2] at hf; cases hf
    | succ n ih =>
      intro M_h x1 x2 H locs ls hf hP hD hS hl
      rw [f_X12_can_L2] at hf
      refine lv_iload_n hx hb dX12_can_2 rfl (lv_at hl 2 rfl) ?_
      refine lv_aload_n hx hb dX12_can_3 rfl (lv_at hl 0 rfl) ?_
      refine va_get (D := (dC, dI)) (ci := 12) (v := .ref h_all) (C := RX12) (T := TX12) (N := 21) hx hb hts hin12 hown hK hP 0 rfl rfl 0 (by decide) kf7 (fun _ h9 => h9) rfl dX12_can_4 ?_
      refine lv_iconst (v := (3 : Int32)) hx hb dX12_can_7 (by decide) ?_
      refine va_iald hx hb hK hP 1 1 rfl rfl (show ¬ ((3 : Int32) < 0 ∨ 11160 ≤ ((3 : Int32)).toNatClampNeg) by decide) dX12_can_8 ?_
      refine lv_icmp_ge (tgt := 29) hx hb dX12_can_9 (by decide) (fun hc9 => ?_) (fun hc9 => ?_)
      · rw [if_pos hc9] at hf
        refine lv_aload_n hx hb dX12_can_29 rfl (lv_at hl 0 rfl) ?_
        obtain ⟨r30, h30, hf⟩ := bd1_some hf
        refine ro_calli (va_runV (As := []) (rest := []) ⟨hx, hb, hml, hown, hts⟩ (c_X12_tilt l dC dI cyB cyI cyZ cyO h h_all h_has h_read h_test h_rest h_gets h_waits h_way h_good h_left M_h r30 h30) (cwV 0 hts gX12_can_X12_tilt rfl rfl rfl (by decide +kernel) ⟨Nat.le_of_ble_eq_true rfl, Nat.le_of_ble_eq_true rfl⟩) ⟨PR.blind, va_recv hK hP (ci := 12) (q0 := 0) rfl rfl, fun U hU hW => ⟨rfl, by rw [hU]; exact hP, hCx.warm hW⟩⟩ rfl rfl hl.1 rfl (lv_room (Nat.le_of_ble_eq_true rfl)) dX12_can_30 ⟨Nat.zero_le _, Nat.zero_le _⟩) ?_
        refine lv_istore_n (lv' := [(2, .int r30), (0, .ref h), (1, .int x1)]) hx hb dX12_can_33 rfl hl (by decide) rfl (fun ls hl => ?_)
        refine lv_aload_n hx hb dX12_can_34 rfl (lv_at hl 1 rfl) ?_
        obtain ⟨r35, h35, hf⟩ := bd1_some hf
        refine ro_calli (va_runV (As := []) (rest := []) ⟨hx, hb, hml, hown, hts⟩ (c_X12_weight l dC dI cyB cyI cyZ cyO h h_all h_has h_read h_test h_rest h_gets h_waits h_way h_good h_left M_h r35 h35) (cwV 0 hts gX12_can_X12_weight rfl rfl rfl (by decide +kernel) ⟨Nat.le_of_ble_eq_true rfl, Nat.le_of_ble_eq_true rfl⟩) ⟨PR.blind, va_recv hK hP (ci := 12) (q0 := 0) rfl rfl, fun U hU hW => ⟨rfl, by rw [hU]; exact hP, hCx.warm hW⟩⟩ rfl rfl hl.1 rfl (lv_room (Nat.le_of_ble_eq_true rfl)) dX12_can_35 ⟨Nat.zero_le _, Nat.zero_le _⟩) ?_
        refine lv_istore_n (lv' := [(3, .int r35), (2, .int r30), (0, .ref h), (1, .int x1)]) hx hb dX12_can_38 rfl hl (by decide) rfl (fun ls hl => ?_)
        refine lv_aload_n hx hb dX12_can_39 rfl (lv_at hl 2 rfl) ?_
        refine lv_iconst (v := (0 : Int32)) hx hb dX12_can_40 (by decide) ?_
        refine va_put (D := (dC, dI)) (ci := 12) (v := .int (0 : Int32)) (ty := .int) (C := RX12) (T := TX12) (N := 21) hx hb hts hin12 tyX12 tyX12_ok nmX12 hown hK hP hD hS 0 rfl rfl 19 (by decide) kf190 (fun _ h9 => h9) rfl (by decide +kernel) rfl rfl (Nat.le_of_ble_eq_true rfl) dX12_can_41 (fun H locs hP hD hS => ?_)
        obtain ⟨M_h_41, eM_h_41, hf⟩ := wr_some hf
        have hP : va_P (dC, dI) vwCl (wX12 cyB cyI cyZ cyO h h_all h_has h_read h_test h_rest h_gets h_waits h_way h_good h_left M_h_41) H := by rw [eM_h_41]; exact hP
        have hD : va_D A (wX12 cyB cyI cyZ cyO h h_all h_has h_read h_test h_rest h_gets h_waits h_way h_good h_left M_h_41) := by rw [eM_h_41]; exact hD
        refine lv_aload_n hx hb dX12_can_44 rfl (lv_at hl 2 rfl) ?_
        refine lv_iconst (v := (0 : Int32)) hx hb dX12_can_45 (by decide) ?_
        refine va_put (D := (dC, dI)) (ci := 12) (v := .int (0 : Int32)) (ty := .int) (C := RX12) (T := TX12) (N := 21) hx hb hts hin12 tyX12 tyX12_ok nmX12 hown hK hP hD hS 0 rfl rfl 20 (by decide) kf193 (fun _ h9 => h9) rfl (by decide +kernel) rfl rfl (Nat.le_of_ble_eq_true rfl) dX12_can_46 (fun H locs hP hD hS => ?_)
        obtain ⟨M_h_46, eM_h_46, hf⟩ := wr_some hf
        have hP : va_P (dC, dI) vwCl (wX12 cyB cyI cyZ cyO h h_all h_has h_read h_test h_rest h_gets h_waits h_way h_good h_left M_h_46) H := by rw [eM_h_46]; exact hP
        have hD : va_D A (wX12 cyB cyI cyZ cyO h h_all h_has h_read h_test h_rest h_gets h_waits h_way h_good h_left M_h_46) := by rw [eM_h_46]; exact hD
        refine lv_iconst (v := (1 : Int32)) hx hb dX12_can_49 (by decide) ?_
        refine lv_istore (lv' := [(4, .int (1 : Int32)), (3, .int r35), (2, .int r30), (0, .ref h), (1, .int x1)]) hx hb dX12_can_50 hl (by decide) rfl (fun ls hl => ?_)
        refine lv_iconst (v := (0 : Int32)) hx hb dX12_can_52 (by decide) ?_
        refine lv_istore (lv' := [(5, .int (0 : Int32)), (4, .int (1 : Int32)), (3, .int r35), (2, .int r30), (0, .ref h), (1, .int x1)]) hx hb dX12_can_53 hl (by decide) rfl (fun ls hl => ?_)
        exact L55 FU M_h_46 x1 r30 r35 (1 : Int32) (0 : Int32) _ _ ls hf hP hD hS (lv_sub hl [4, 5, 3, 2, 1, 0] rfl)
      · rw [if_neg hc9] at hf
        refine lv_aload_n hx hb dX12_can_12 rfl (lv_at hl 0 rfl) ?_
        refine va_get (D := (dC, dI)) (ci := 12) (v := .ref h_left) (C := RX12) (T := TX12) (N := 21) hx hb hts hin12 hown hK hP 0 rfl rfl 18 (by decide) kf38 (fun _ h9 => h9) rfl dX12_can_13 ?_
        refine lv_iload_n hx hb dX12_can_16 rfl (lv_at hl 2 rfl) ?_
        refine lv_aload_n hx hb dX12_can_17 rfl (lv_at hl 0 rfl) ?_
        refine lv_iload_n hx hb dX12_can_18 rfl (lv_at hl 2 rfl) ?_
        obtain ⟨r19, h19, hf⟩ := bd1_some hf
        refine ro_calli (va_runV (As := [.int x2]) (rest := [.int x2, .ref h_left]) ⟨hx, hb, hml, hown, hts⟩ (c_X12_free l dC dI cyB cyI cyZ cyO h h_all h_has h_read h_test h_rest h_gets h_waits h_way h_good h_left M_h x2 r19 h19) (cwV 1 hts gX12_can_X12_free rfl rfl rfl (by decide +kernel) ⟨Nat.le_of_ble_eq_true rfl, Nat.le_of_ble_eq_true rfl⟩) ⟨PR.blind, va_recv hK hP (ci := 12) (q0 := 0) rfl rfl, fun U hU hW => ⟨rfl, by rw [hU]; exact hP, hCx.warm hW⟩⟩ rfl rfl hl.1 rfl (lv_room (Nat.le_of_ble_eq_true rfl)) dX12_can_19 ⟨Nat.zero_le _, Nat.zero_le _⟩) ?_
        have hi22 := if_no hf
        rw [if_neg hi22] at hf
        refine va_iast hx hb hK hP hD hS 10 1 rfl rfl hi22 dX12_can_22 (fun H locs hP hD hS => ?_)
        obtain ⟨M_h_22, eM_h_22, hf⟩ := wr_some hf
        have hP : va_P (dC, dI) vwCl (wX12 cyB cyI cyZ cyO h h_all h_has h_read h_test h_rest h_gets h_waits h_way h_good h_left M_h_22) H := by rw [eM_h_22]; exact hP
        have hD : va_D A (wX12 cyB cyI cyZ cyO h h_all h_has h_read h_test h_rest h_gets h_waits h_way h_good h_left M_h_22) := by rw [eM_h_22]; exact hD
        refine lv_iinc (v := (x2 + (1 : Int32))) (lv' := [(2, .int (x2 + (1 : Int32))), (0, .ref h), (1, .int x1)]) hx hb dX12_can_23 hl (k := 2) rfl rfl (by decide) rfl (fun ls hl => ?_)
        refine lv_goto (tgt := 2) hx hb dX12_can_26 (by decide) ?_
        exact ih M_h_22 x1 (x2 + (1 : Int32)) _ _ ls hf hP hD hS (lv_sub hl [1, 2, 0] rfl)
  rw [f_X12_can] at hf
  refine lv_iconst (v := (0 : Int32)) hx hb dX12_can_0 (by decide) ?_
  refine lv_istore_n (lv' := [(2, .int (0 : Int32)), (0, .ref h), (1, .int p1)]) hx hb dX12_can_1 rfl hl (by decide) rfl (fun ls hl => ?_)
  exact L2 FU M_h p1 (0 : Int32) _ _ ls hf hP hD hS (lv_sub hl [1, 2, 0] rfl)
set_option maxHeartbeats 4000000 in
set_option maxRecDepth 100000 in
theorem c_X12_best (l : Launch) (dC : Nat → ClassId) (dI : Nat → Nat → Nat) (cyB cyI cyZ cyO : ClassId) (h h_all h_has h_read h_test h_rest h_gets h_waits h_way h_good h_left : Nat) (sz : Nat) (M_h : Mem) (r : Int32) (R_h : Mem) (hf : f_X12_best M_h = some (r, R_h)) : Met l yX12_best wsX12_best ({ frames := 4, cells := 0, slots := 0, locals := 92 } : Room) (PW dC dI cyB cyI cyZ cyO ([.ref h] : List Value) (wX12 cyB cyI cyZ cyO h h_all h_has h_read h_test h_rest h_gets h_waits h_way h_good h_left M_h) sz) (QW dC dI (some (.int r)) (wX12 cyB cyI cyZ cyO h h_all h_has h_read h_test h_rest h_gets h_waits h_way h_good h_left R_h) (va_A (wX12 cyB cyI cyZ cyO h h_all h_has h_read h_test h_rest h_gets h_waits h_way h_good h_left M_h) sz)) 0 0 (va_A (wX12 cyB cyI cyZ cyO h h_all h_has h_read h_test h_rest h_gets h_waits h_way h_good h_left M_h) sz) := by
  refine Met.ofW (cc := cX12_best) (maxL := 6) (ret := (some .int)) (by decide) rfl ?_
  intro p e s m args below meth c s₁ B hml hv
  obtain ⟨rfl, hsz, hP, hCx, hD0⟩ := hv
  have hK := hCx.1
  have hN := hCx.2
  have hx := B.exec
  have hb := B.bytes
  have hr := B.returns
  have hts := atoms_spec (ws := wsX12_best) B.pre
  have hown : s.vm.findClass RX12 = some m.cls := findClass_of_methodNamed B.named
  have hlocks := B.notSynchronized
  have hin12 : ∀ w ∈ u_ws RX12 TX12 21, w ∈ wsX12_best := fun w h => List.mem_cons_of_mem _ (List.mem_append_right _ h)
  have kf7 := hts (.fieldLink RX12 7 "HoldSlipsModel" "all" "[I") (by decide +kernel)
  have kf29 := hts (.fieldLink RX12 29 "HoldSlipsModel" "waits" "[I") (by decide +kernel)
  have kf32 := hts (.fieldLink RX12 32 "HoldSlipsModel" "way" "[I") (by decide +kernel)
  have kf35 := hts (.fieldLink RX12 35 "HoldSlipsModel" "good" "[I") (by decide +kernel)
  have kf190 := hts (.fieldLink RX12 190 "HoldSlipsModel" "wayValue" "I") (by decide +kernel)
  have kf193 := hts (.fieldLink RX12 193 "HoldSlipsModel" "waySlips" "I") (by decide +kernel)
  subst hsz
  have hD := hD0.self (sz := s.heap.size)
  generalize hAe : va_A (wX12 cyB cyI cyZ cyO h h_all h_has h_read h_test h_rest h_gets h_waits h_way h_good h_left M_h) s.heap.size = A at hD ⊢
  have hA : ∀ q : Nat, s.heap.size ≤ q → A q := fun q h => by rw [← hAe]; exact Or.inr h
  have hS : va_S A s.heap s.heap [] := va_S.rf
  have hl := lv_entry ([.ref h] : List Value) (n := 6) (Nat.le_of_ble_eq_true rfl)
  rw [lg_entry_eq]
  generalize (lg_sl ([.ref h] : List Value) ++ List.replicate (6 - (lg_sl ([.ref h] : List Value)).length) Slot.unset).toArray = ls at hl ⊢
  have hl : lv_has ls 6 [(0, .ref h)] := hl
  have L139 : ∀ (K89 : Mem → Int32 → Int32 → Int32 → Int32 → Option (Int32 × Mem)) (hK89 : ∀ (M_h : Mem) (x1 : Int32) (x2 : Int32) (x3 : Int32) (x4 : Int32) (H : Heap) (locs : List Loc) (ls : Array Slot), K89 M_h x1 x2 x3 x4 = some (r, R_h) → va_P (dC, dI) vwCl (wX12 cyB cyI cyZ cyO h h_all h_has h_read h_test h_rest h_gets h_waits h_way h_good h_left M_h) H → va_D A (wX12 cyB cyI cyZ cyO h h_all h_has h_read h_test h_rest h_gets h_waits h_way h_good h_left M_h) → va_S A s.heap H locs → lv_has ls 6 [(0, .ref h), (1, .int x1), (2, .int x2), (3, .int x3), (4, .int x4)] → W p l e (headSpec wsX12_best ({ frames := 4, cells := 0, slots := 0, locals := 92 } : Room)).room s m ([.ref h] : List Value).toArray below meth c H locs 0 0 (MQ below (QW dC dI (some (.int r)) (wX12 cyB cyI cyZ cyO h h_all h_has h_read h_test h_rest h_gets h_waits h_way h_good h_left R_h) A) ([.ref h] : List Value).toArray s 0 0 A) (F0 m 89 ls [])) (n : Nat), ∀ (M_h : Mem) (x1 : Int32) (x2 : Int32) (x3 : Int32) (x5 : Int32) (H : Heap) (locs : List Loc) (ls : Array Slot), f_X12_best_L139 K89 n M_h x1 x2 x3 x5 = some (r, R_h) → va_P (dC, dI) vwCl (wX12 cyB cyI cyZ cyO h h_all h_has h_read h_test h_rest h_gets h_waits h_way h_good h_left M_h) H → va_D A (wX12 cyB cyI cyZ cyO h h_all h_has h_read h_test h_rest h_gets h_waits h_way h_good h_left M_h) → va_S A s.heap H locs → lv_has ls 6 [(0, .ref h), (1, .int x1), (2, .int x2), (3, .int x3), (5, .int x5)] → W p l e (headSpec wsX12_best ({ frames := 4, cells := 0, slots := 0, locals := 92 } : Room)).room s m ([.ref h] : List Value).toArray below meth c H locs 0 0 (MQ below (QW dC dI (some (.int r)) (wX12 cyB cyI cyZ cyO h h_all h_has h_read h_test h_rest h_gets h_waits h_way h_good h_left R_h) A) ([.ref h] : List Value).toArray s 0 0 A) (F0 m 139 ls []) := by
    intro K89 hK89 n
    induction n with
    | zero => intro M_h x1 x2 x3 x5 H locs ls hf hP hD hS hl; rw [f_X12_best_L139] at hf; cases hf
    | succ n ih =>
      intro M_h x1 x2 x3 x5 H locs ls hf hP hD hS hl
      rw [f_X12_best_L139] at hf
      refine lv_iload hx hb dX12_best_139 (lv_at hl 4 rfl) ?_
      refine lv_iload_n hx hb dX12_best_141 rfl (lv_at hl 1 rfl) ?_
      refine lv_icmp_ge (tgt := 165) hx hb dX12_best_142 (by decide) (fun hc142 => ?_) (fun hc142 => ?_)
      · rw [if_pos hc142] at hf
        refine lv_aload_n hx hb dX12_best_165 rfl (lv_at hl 0 rfl) ?_
        refine lv_iload_n hx hb dX12_best_166 rfl (lv_at hl 1 rfl) ?_
        obtain ⟨r167, M_h_167, h167, hf⟩ := bd2_some hf
        refine wr_calli (wc := (wX12 cyB cyI cyZ cyO h h_all h_has h_read h_test h_rest h_gets h_waits h_way h_good h_left M_h)) (wr := ([] : va_W)) (w1 := (wX12 cyB cyI cyZ cyO h h_all h_has h_read h_test h_rest h_gets h_waits h_way h_good h_left M_h_167)) (ws' := (wX12 cyB cyI cyZ cyO h h_all h_has h_read h_test h_rest h_gets h_waits h_way h_good h_left M_h_167)) hP hD hS hA [0, 1, 2, 3, 4, 5, 6, 7, 8, 9, 10] [] [0, 1, 2, 3, 4, 5, 6, 7, 8, 9, 10] rfl rfl (by decide) (by decide) rfl (by decide) (va_runV (As := [.int x1]) (rest := []) ⟨hx, hb, hml, hown, hts⟩ (c_X12_turns l dC dI cyB cyI cyZ cyO h h_all h_has h_read h_test h_rest h_gets h_waits h_way h_good h_left _ M_h x1 r167 M_h_167 h167) (cwV 1 hts gX12_best_X12_turns rfl rfl rfl (by decide +kernel) ⟨Nat.le_of_ble_eq_true rfl, Nat.le_of_ble_eq_true rfl⟩) ⟨PW.blind, va_recv hK hP (ci := 12) (q0 := 0) rfl rfl, fun U hU hW => ⟨rfl, by rw [hU], by rw [hU]; exact hP, hCx.warm hW, hD.weaken (fun _ _ _ _ => trivial)⟩⟩ rfl rfl hl.1 rfl (lv_room (Nat.le_of_ble_eq_true rfl)) dX12_best_167 ⟨Nat.zero_le _, Nat.zero_le _⟩) (fun H locs hP hD hS => ?_)
        refine lv_istore (lv' := [(4, .int r167), (0, .ref h), (1, .int x1), (2, .int x2), (3, .int x3), (5, .int x5)]) hx hb dX12_best_170 hl (by decide) rfl (fun ls hl => ?_)
        refine lv_goto (tgt := 89) hx hb dX12_best_172 (by decide) ?_
        exact hK89 M_h_167 x1 x2 x3 r167 _ _ ls hf hP hD hS (lv_sub hl [1, 2, 3, 4, 0] rfl)
      · rw [if_neg hc142] at hf
        refine lv_aload_n hx hb dX12_best_145 rfl (lv_at hl 0 rfl) ?_
        refine va_get (D := (dC, dI)) (ci := 12) (v := .ref h_good) (C := RX12) (T := TX12) (N := 21) hx hb hts hin12 hown hK hP 0 rfl rfl 17 (by decide) kf35 (fun _ h9 => h9) rfl dX12_best_146 ?_
        refine lv_iload hx hb dX12_best_149 (lv_at hl 4 rfl) ?_
        refine lv_aload_n hx hb dX12_best_151 rfl (lv_at hl 0 rfl) ?_
        refine va_get (D := (dC, dI)) (ci := 12) (v := .ref h_way) (C := RX12) (T := TX12) (N := 21) hx hb hts hin12 hown hK hP 0 rfl rfl 16 (by decide) kf32 (fun _ h9 => h9) rfl dX12_best_152 ?_
        refine lv_iload hx hb dX12_best_155 (lv_at hl 4 rfl) ?_
        have hi157 := if_no hf
        rw [if_neg hi157] at hf
        refine va_iald hx hb hK hP 8 1 rfl rfl hi157 dX12_best_157 ?_
        refine va_iast hx hb hK hP hD hS 9 1 rfl rfl hi157 dX12_best_158 (fun H locs hP hD hS => ?_)
        obtain ⟨M_h_158, eM_h_158, hf⟩ := wr_some hf
        have hP : va_P (dC, dI) vwCl (wX12 cyB cyI cyZ cyO h h_all h_has h_read h_test h_rest h_gets h_waits h_way h_good h_left M_h_158) H := by rw [eM_h_158]; exact hP
        have hD : va_D A (wX12 cyB cyI cyZ cyO h h_all h_has h_read h_test h_rest h_gets h_waits h_way h_good h_left M_h_158) := by rw [eM_h_158]; exact hD
        refine lv_iinc (v := (x5 + (1 : Int32))) (lv' := [(5, .int (x5 + (1 : Int32))), (0, .ref h), (1, .int x1), (2, .int x2), (3, .int x3)]) hx hb dX12_best_159 hl (k := 4) rfl rfl (by decide) rfl (fun ls hl => ?_)
        refine lv_goto (tgt := 139) hx hb dX12_best_162 (by decide) ?_
        exact ih M_h_158 x1 x2 x3 (x5 + (1 : Int32)) _ _ ls hf hP hD hS (lv_sub hl [1, 2, 3, 4, 0] rfl)
  have L217 : ∀ (n : Nat), ∀ (M_h : Mem) (x1 : Int32) (x2 : Int32) (x5 : Int32) (H : Heap) (locs : List Loc) (ls : Array Slot), f_X12_best_L217 n M_h x1 x2 x5 = some (r, R_h) → va_P (dC, dI) vwCl (wX12 cyB cyI cyZ cyO h h_all h_has h_read h_test h_rest h_gets h_waits h_way h_good h_left M_h) H → va_D A (wX12 cyB cyI cyZ cyO h h_all h_has h_read h_test h_rest h_gets h_waits h_way h_good h_left M_h) → va_S A s.heap H locs → lv_has ls 6 [(0, .ref h), (1, .int x1), (2, .int x2), (5, .int x5)] → W p l e (headSpec wsX12_best ({ frames := 4, cells := 0, slots := 0, locals := 92 } : Room)).room s m ([.ref h] : List Value).toArray below meth c H locs 0 0 (MQ below (QW dC dI (some (.int r)) (wX12 cyB cyI cyZ cyO h h_all h_has h_read h_test h_rest h_gets h_waits h_way h_good h_left R_h) A) ([.ref h] : List Value).toArray s 0 0 A) (F0 m 217 ls []) := by
    intro n
    induction n with
    | zero => intro M_h x1 x2 x5 H locs ls hf hP hD hS hl; rw [f_X12_best_L217] at hf; cases hf
    | succ n ih =>
      intro M_h x1 x2 x5 H locs ls hf hP hD hS hl
      rw [f_X12_best_L217] at hf
      refine lv_iload hx hb dX12_best_217 (lv_at hl 3 rfl) ?_
      refine lv_iload_n hx hb dX12_best_219 rfl (lv_at hl 1 rfl) ?_
      refine lv_icmp_ge (tgt := 249) hx hb dX12_best_220 (by decide) (fun hc220 => ?_) (fun hc220 => ?_)
      · rw [if_pos hc220] at hf
        refine lv_iload_n hx hb dX12_best_249 rfl (lv_at hl 2 rfl) ?_
        obtain ⟨hq0, hq1⟩ := pj2 hf
        subst hq0
        subst hq1
        exact W.iret (v := x2) hx hb hr (fun t ht hW => ⟨rfl, by rw [ht]; exact hP, hD, hS.F ht⟩) hS.2.2 dX12_best_250
      · rw [if_neg hc220] at hf
        refine lv_aload_n hx hb dX12_best_223 rfl (lv_at hl 0 rfl) ?_
        refine lv_aload_n hx hb dX12_best_224 rfl (lv_at hl 0 rfl) ?_
        refine va_get (D := (dC, dI)) (ci := 12) (v := .ref h_waits) (C := RX12) (T := TX12) (N := 21) hx hb hts hin12 hown hK hP 0 rfl rfl 15 (by decide) kf29 (fun _ h9 => h9) rfl dX12_best_225 ?_
        refine lv_iload hx hb dX12_best_228 (lv_at hl 3 rfl) ?_
        have hi230 := if_no hf
        rw [if_neg hi230] at hf
        refine va_iald hx hb hK hP 7 1 rfl rfl hi230 dX12_best_230 ?_
        refine lv_bipush (v := (7 : Int32)) hx hb dX12_best_231 (by decide) ?_
        refine lv_aload_n hx hb dX12_best_233 rfl (lv_at hl 0 rfl) ?_
        refine va_get (D := (dC, dI)) (ci := 12) (v := .ref h_good) (C := RX12) (T := TX12) (N := 21) hx hb hts hin12 hown hK hP 0 rfl rfl 17 (by decide) kf35 (fun _ h9 => h9) rfl dX12_best_234 ?_
        refine lv_iload hx hb dX12_best_237 (lv_at hl 3 rfl) ?_
        refine va_iald hx hb hK hP 9 1 rfl rfl hi230 dX12_best_239 ?_
        obtain ⟨M_h_240, h240, hf⟩ := bd1_some hf
        refine wr_callv (wc := (wX12 cyB cyI cyZ cyO h h_all h_has h_read h_test h_rest h_gets h_waits h_way h_good h_left M_h)) (wr := ([] : va_W)) (w1 := (wX12 cyB cyI cyZ cyO h h_all h_has h_read h_test h_rest h_gets h_waits h_way h_good h_left M_h_240)) (ws' := (wX12 cyB cyI cyZ cyO h h_all h_has h_read h_test h_rest h_gets h_waits h_way h_good h_left M_h_240)) hP hD hS hA [0, 1, 2, 3, 4, 5, 6, 7, 8, 9, 10] [] [0, 1, 2, 3, 4, 5, 6, 7, 8, 9, 10] rfl rfl (by decide) (by decide) rfl (by decide) (va_runV (As := [.int (M_h 15 (x5).toNatClampNeg), .int (7 : Int32), .int (M_h 17 (x5).toNatClampNeg)]) (rest := []) ⟨hx, hb, hml, hown, hts⟩ (c_X12_sets l dC dI cyB cyI cyZ cyO h h_all h_has h_read h_test h_rest h_gets h_waits h_way h_good h_left _ M_h (M_h 15 (x5).toNatClampNeg) (7 : Int32) (M_h 17 (x5).toNatClampNeg) M_h_240 h240) (cwV 3 hts gX12_best_X12_sets rfl rfl rfl (by decide +kernel) ⟨Nat.le_of_ble_eq_true rfl, Nat.le_of_ble_eq_true rfl⟩) ⟨PW.blind, va_recv hK hP (ci := 12) (q0 := 0) rfl rfl, fun U hU hW => ⟨rfl, by rw [hU], by rw [hU]; exact hP, hCx.warm hW, hD.weaken (fun _ _ _ _ => trivial)⟩⟩ rfl rfl hl.1 rfl (lv_room (Nat.le_of_ble_eq_true rfl)) dX12_best_240 ⟨Nat.zero_le _, Nat.zero_le _⟩) (fun H locs hP hD hS => ?_)
        refine lv_iinc (v := (x5 + (1 : Int32))) (lv' := [(5, .int (x5 + (1 : Int32))), (0, .ref h), (1, .int x1), (2, .int x2)]) hx hb dX12_best_243 hl (k := 3) rfl rfl (by decide) rfl (fun ls hl => ?_)
        refine lv_goto (tgt := 217) hx hb dX12_best_246 (by decide) ?_
        exact ih M_h_240 x1 x2 (x5 + (1 : Int32)) _ _ ls hf hP hD hS (lv_sub hl [1, 2, 3, 0] rfl)
  have L192 : ∀ (n : Nat), ∀ (M_h : Mem) (x1 : Int32) (x2 : Int32) (x5 : Int32) (H : Heap) (locs : List Loc) (ls : Array Slot), f_X12_best_L192 n M_h x1 x2 x5 = some (r, R_h) → va_P (dC, dI) vwCl (wX12 cyB cyI cyZ cyO h h_all h_has h_read h_test h_rest h_gets h_waits h_way h_good h_left M_h) H → va_D A (wX12 cyB cyI cyZ cyO h h_all h_has h_read h_test h_rest h_gets h_waits h_way h_good h_left M_h) → va_S A s.heap H locs → lv_has ls 6 [(0, .ref h), (1, .int x1), (2, .int x2), (5, .int x5)] → W p l e (headSpec wsX12_best ({ frames := 4, cells := 0, slots := 0, locals := 92 } : Room)).room s m ([.ref h] : List Value).toArray below meth c H locs 0 0 (MQ below (QW dC dI (some (.int r)) (wX12 cyB cyI cyZ cyO h h_all h_has h_read h_test h_rest h_gets h_waits h_way h_good h_left R_h) A) ([.ref h] : List Value).toArray s 0 0 A) (F0 m 192 ls []) := by
    intro n
    induction n with
    | zero => intro M_h x1 x2 x5 H locs ls hf hP hD hS hl; rw [f_X12_best_L192] at hf; cases hf
    | succ n ih =>
      intro M_h x1 x2 x5 H locs ls hf hP hD hS hl
      rw [f_X12_best_L192] at hf
      refine lv_iload hx hb dX12_best_192 (lv_at hl 3 rfl) ?_
      refine lv_bipush (v := (12 : Int32)) hx hb dX12_best_194 (by decide) ?_
      refine lv_icmp_ge (tgt := 214) hx hb dX12_best_196 (by decide) (fun hc196 => ?_) (fun hc196 => ?_)
      · rw [if_pos hc196] at hf
        refine lv_iconst (v := (0 : Int32)) hx hb dX12_best_214 (by decide) ?_
        refine lv_istore (lv' := [(5, .int (0 : Int32)), (0, .ref h), (1, .int x1), (2, .int x2)]) hx hb dX12_best_215 hl (by decide) rfl (fun ls hl => ?_)
        exact L217 FU M_h x1 x2 (0 : Int32) _ _ ls hf hP hD hS (lv_sub hl [1, 2, 3, 0] rfl)
      · rw [if_neg hc196] at hf
        refine lv_aload_n hx hb dX12_best_199 rfl (lv_at hl 0 rfl) ?_
        refine lv_iload hx hb dX12_best_200 (lv_at hl 3 rfl) ?_
        refine lv_bipush (v := (7 : Int32)) hx hb dX12_best_202 (by decide) ?_
        refine lv_iconst (v := (2 : Int32)) hx hb dX12_best_204 (by decide) ?_
        obtain ⟨M_h_205, h205, hf⟩ := bd1_some hf
        refine wr_callv (wc := (wX12 cyB cyI cyZ cyO h h_all h_has h_read h_test h_rest h_gets h_waits h_way h_good h_left M_h)) (wr := ([] : va_W)) (w1 := (wX12 cyB cyI cyZ cyO h h_all h_has h_read h_test h_rest h_gets h_waits h_way h_good h_left M_h_205)) (ws' := (wX12 cyB cyI cyZ cyO h h_all h_has h_read h_test h_rest h_gets h_waits h_way h_good h_left M_h_205)) hP hD hS hA [0, 1, 2, 3, 4, 5, 6, 7, 8, 9, 10] [] [0, 1, 2, 3, 4, 5, 6, 7, 8, 9, 10] rfl rfl (by decide) (by decide) rfl (by decide) (va_runV (As := [.int x5, .int (7 : Int32), .int (2 : Int32)]) (rest := []) ⟨hx, hb, hml, hown, hts⟩ (c_X12_sets l dC dI cyB cyI cyZ cyO h h_all h_has h_read h_test h_rest h_gets h_waits h_way h_good h_left _ M_h x5 (7 : Int32) (2 : Int32) M_h_205 h205) (cwV 3 hts gX12_best_X12_sets rfl rfl rfl (by decide +kernel) ⟨Nat.le_of_ble_eq_true rfl, Nat.le_of_ble_eq_true rfl⟩) ⟨PW.blind, va_recv hK hP (ci := 12) (q0 := 0) rfl rfl, fun U hU hW => ⟨rfl, by rw [hU], by rw [hU]; exact hP, hCx.warm hW, hD.weaken (fun _ _ _ _ => trivial)⟩⟩ rfl rfl hl.1 rfl (lv_room (Nat.le_of_ble_eq_true rfl)) dX12_best_205 ⟨Nat.zero_le _, Nat.zero_le _⟩) (fun H locs hP hD hS => ?_)
        refine lv_iinc (v := (x5 + (1 : Int32))) (lv' := [(5, .int (x5 + (1 : Int32))), (0, .ref h), (1, .int x1), (2, .int x2)]) hx hb dX12_best_208 hl (k := 3) rfl rfl (by decide) rfl (fun ls hl => ?_)
        refine lv_goto (tgt := 192) hx hb dX12_best_211 (by decide) ?_
        exact ih M_h_205 x1 x2 (x5 + (1 : Int32)) _ _ ls hf hP hD hS (lv_sub hl [1, 2, 3, 0] rfl)
  have L89 : ∀ (n : Nat), ∀ (M_h : Mem) (x1 : Int32) (x2 : Int32) (x3 : Int32) (x4 : Int32) (H : Heap) (locs : List Loc) (ls : Array Slot), f_X12_best_L89 n M_h x1 x2 x3 x4 = some (r, R_h) → va_P (dC, dI) vwCl (wX12 cyB cyI cyZ cyO h h_all h_has h_read h_test h_rest h_gets h_waits h_way h_good h_left M_h) H → va_D A (wX12 cyB cyI cyZ cyO h h_all h_has h_read h_test h_rest h_gets h_waits h_way h_good h_left M_h) → va_S A s.heap H locs → lv_has ls 6 [(0, .ref h), (1, .int x1), (2, .int x2), (3, .int x3), (4, .int x4)] → W p l e (headSpec wsX12_best ({ frames := 4, cells := 0, slots := 0, locals := 92 } : Room)).room s m ([.ref h] : List Value).toArray below meth c H locs 0 0 (MQ below (QW dC dI (some (.int r)) (wX12 cyB cyI cyZ cyO h h_all h_has h_read h_test h_rest h_gets h_waits h_way h_good h_left R_h) A) ([.ref h] : List Value).toArray s 0 0 A) (F0 m 89 ls []) := by
    intro n
    induction n with
    | zero => intro M_h x1 x2 x3 x4 H locs ls hf hP hD hS hl; rw [f_X12_best_L89] at hf; cases hf
    | succ n ih =>
      intro M_h x1 x2 x3 x4 H locs ls hf hP hD hS hl
      rw [f_X12_best_L89] at hf
      refine lv_iload hx hb dX12_best_89 (lv_at hl 4 rfl) ?_
      refine lv_if_eq (tgt := 175) hx hb dX12_best_91 (by decide) (fun hc91 => ?_) (fun hc91 => ?_)
      · rw [if_pos hc91] at hf
        refine lv_iload_n hx hb dX12_best_175 rfl (lv_at hl 2 rfl) ?_
        refine lv_if_ge (tgt := 181) hx hb dX12_best_176 (by decide) (fun hc176 => ?_) (fun hc176 => ?_)
        · rw [if_pos hc176] at hf
          refine lv_aload_n hx hb dX12_best_181 rfl (lv_at hl 0 rfl) ?_
          refine va_get (D := (dC, dI)) (ci := 12) (v := .ref h_all) (C := RX12) (T := TX12) (N := 21) hx hb hts hin12 hown hK hP 0 rfl rfl 0 (by decide) kf7 (fun _ h9 => h9) rfl dX12_best_182 ?_
          refine lv_bipush (v := (16 : Int32)) hx hb dX12_best_185 (by decide) ?_
          refine lv_iconst (v := (1 : Int32)) hx hb dX12_best_187 (by decide) ?_
          refine va_iast hx hb hK hP hD hS 1 1 rfl rfl (show ¬ ((16 : Int32) < 0 ∨ 11160 ≤ ((16 : Int32)).toNatClampNeg) by decide) dX12_best_188 (fun H locs hP hD hS => ?_)
          obtain ⟨M_h_188, eM_h_188, hf⟩ := wr_some hf
          have hP : va_P (dC, dI) vwCl (wX12 cyB cyI cyZ cyO h h_all h_has h_read h_test h_rest h_gets h_waits h_way h_good h_left M_h_188) H := by rw [eM_h_188]; exact hP
          have hD : va_D A (wX12 cyB cyI cyZ cyO h h_all h_has h_read h_test h_rest h_gets h_waits h_way h_good h_left M_h_188) := by rw [eM_h_188]; exact hD
          refine lv_iconst (v := (0 : Int32)) hx hb dX12_best_189 (by decide) ?_
          refine lv_istore (lv' := [(5, .int (0 : Int32)), (0, .ref h), (1, .int x1), (2, .int x2), (3, .int x3), (4, .int x4)]) hx hb dX12_best_190 hl (by decide) rfl (fun ls hl => ?_)
          exact L192 FU M_h_188 x1 x2 (0 : Int32) _ _ ls hf hP hD hS (lv_sub hl [1, 2, 3, 0] rfl)
        · rw [if_neg hc176] at hf
          refine lv_iconst (v := (-1 : Int32)) hx hb dX12_best_179 (by decide) ?_
          obtain ⟨hq0, hq1⟩ := pj2 hf
          subst hq0
          subst hq1
          exact W.iret (v := (-1 : Int32)) hx hb hr (fun t ht hW => ⟨rfl, by rw [ht]; exact hP, hD, hS.F ht⟩) hS.2.2 dX12_best_180
      · rw [if_neg hc91] at hf
        refine lv_aload_n hx hb dX12_best_94 rfl (lv_at hl 0 rfl) ?_
        refine lv_iload_n hx hb dX12_best_95 rfl (lv_at hl 1 rfl) ?_
        obtain ⟨r96, M_h_96, h96, hf⟩ := bd2_some hf
        refine wr_calli (wc := (wX12 cyB cyI cyZ cyO h h_all h_has h_read h_test h_rest h_gets h_waits h_way h_good h_left M_h)) (wr := ([] : va_W)) (w1 := (wX12 cyB cyI cyZ cyO h h_all h_has h_read h_test h_rest h_gets h_waits h_way h_good h_left M_h_96)) (ws' := (wX12 cyB cyI cyZ cyO h h_all h_has h_read h_test h_rest h_gets h_waits h_way h_good h_left M_h_96)) hP hD hS hA [0, 1, 2, 3, 4, 5, 6, 7, 8, 9, 10] [] [0, 1, 2, 3, 4, 5, 6, 7, 8, 9, 10] rfl rfl (by decide) (by decide) rfl (by decide) (va_runV (As := [.int x1]) (rest := []) ⟨hx, hb, hml, hown, hts⟩ (c_X12_can l dC dI cyB cyI cyZ cyO h h_all h_has h_read h_test h_rest h_gets h_waits h_way h_good h_left _ M_h x1 r96 M_h_96 h96) (cwV 1 hts gX12_best_X12_can rfl rfl rfl (by decide +kernel) ⟨Nat.le_of_ble_eq_true rfl, Nat.le_of_ble_eq_true rfl⟩) ⟨PW.blind, va_recv hK hP (ci := 12) (q0 := 0) rfl rfl, fun U hU hW => ⟨rfl, by rw [hU], by rw [hU]; exact hP, hCx.warm hW, hD.weaken (fun _ _ _ _ => trivial)⟩⟩ rfl rfl hl.1 rfl (lv_room (Nat.le_of_ble_eq_true rfl)) dX12_best_96 ⟨Nat.zero_le _, Nat.zero_le _⟩) (fun H locs hP hD hS => ?_)
        refine lv_if_eq (tgt := 165) hx hb dX12_best_99 (by decide) (fun hc99 => ?_) (fun hc99 => ?_)
        · rw [if_pos hc99] at hf
          refine lv_aload_n hx hb dX12_best_165 rfl (lv_at hl 0 rfl) ?_
          refine lv_iload_n hx hb dX12_best_166 rfl (lv_at hl 1 rfl) ?_
          obtain ⟨r167, M_h_167, h167, hf⟩ := bd2_some hf
          refine wr_calli (wc := (wX12 cyB cyI cyZ cyO h h_all h_has h_read h_test h_rest h_gets h_waits h_way h_good h_left M_h_96)) (wr := ([] : va_W)) (w1 := (wX12 cyB cyI cyZ cyO h h_all h_has h_read h_test h_rest h_gets h_waits h_way h_good h_left M_h_167)) (ws' := (wX12 cyB cyI cyZ cyO h h_all h_has h_read h_test h_rest h_gets h_waits h_way h_good h_left M_h_167)) hP hD hS hA [0, 1, 2, 3, 4, 5, 6, 7, 8, 9, 10] [] [0, 1, 2, 3, 4, 5, 6, 7, 8, 9, 10] rfl rfl (by decide) (by decide) rfl (by decide) (va_runV (As := [.int x1]) (rest := []) ⟨hx, hb, hml, hown, hts⟩ (c_X12_turns l dC dI cyB cyI cyZ cyO h h_all h_has h_read h_test h_rest h_gets h_waits h_way h_good h_left _ M_h_96 x1 r167 M_h_167 h167) (cwV 1 hts gX12_best_X12_turns rfl rfl rfl (by decide +kernel) ⟨Nat.le_of_ble_eq_true rfl, Nat.le_of_ble_eq_true rfl⟩) ⟨PW.blind, va_recv hK hP (ci := 12) (q0 := 0) rfl rfl, fun U hU hW => ⟨rfl, by rw [hU], by rw [hU]; exact hP, hCx.warm hW, hD.weaken (fun _ _ _ _ => trivial)⟩⟩ rfl rfl hl.1 rfl (lv_room (Nat.le_of_ble_eq_true rfl)) dX12_best_167 ⟨Nat.zero_le _, Nat.zero_le _⟩) (fun H locs hP hD hS => ?_)
          refine lv_istore (lv' := [(4, .int r167), (0, .ref h), (1, .int x1), (2, .int x2), (3, .int x3)]) hx hb dX12_best_170 hl (by decide) rfl (fun ls hl => ?_)
          refine lv_goto (tgt := 89) hx hb dX12_best_172 (by decide) ?_
          exact ih M_h_167 x1 x2 x3 r167 _ _ ls hf hP hD hS (lv_sub hl [1, 2, 3, 4, 0] rfl)
        · rw [if_neg hc99] at hf
          refine lv_aload_n hx hb dX12_best_102 rfl (lv_at hl 0 rfl) ?_
          refine va_get (D := (dC, dI)) (ci := 12) (v := .int (M_h_96 19 0)) (C := RX12) (T := TX12) (N := 21) hx hb hts hin12 hown hK hP 0 rfl rfl 19 (by decide) kf190 (fun _ h9 => h9) rfl dX12_best_103 ?_
          refine lv_iload_n hx hb dX12_best_106 rfl (lv_at hl 2 rfl) ?_
          refine lv_icmp_gt (tgt := 126) hx hb dX12_best_107 (by decide) (fun hc107 => ?_) (fun hc107 => ?_)
          · rw [if_pos hc107] at hf
            refine lv_aload_n hx hb dX12_best_126 rfl (lv_at hl 0 rfl) ?_
            refine va_get (D := (dC, dI)) (ci := 12) (v := .int (M_h_96 19 0)) (C := RX12) (T := TX12) (N := 21) hx hb hts hin12 hown hK hP 0 rfl rfl 19 (by decide) kf190 (fun _ h9 => h9) rfl dX12_best_127 ?_
            refine lv_istore_n (lv' := [(2, .int (M_h_96 19 0)), (0, .ref h), (1, .int x1), (3, .int x3), (4, .int x4)]) hx hb dX12_best_130 rfl hl (by decide) rfl (fun ls hl => ?_)
            refine lv_aload_n hx hb dX12_best_131 rfl (lv_at hl 1 rfl) ?_
            refine va_get (D := (dC, dI)) (ci := 12) (v := .int (M_h_96 20 0)) (C := RX12) (T := TX12) (N := 21) hx hb hts hin12 hown hK hP 0 rfl rfl 20 (by decide) kf193 (fun _ h9 => h9) rfl dX12_best_132 ?_
            refine lv_istore_n (lv' := [(3, .int (M_h_96 20 0)), (2, .int (M_h_96 19 0)), (0, .ref h), (1, .int x1), (4, .int x4)]) hx hb dX12_best_135 rfl hl (by decide) rfl (fun ls hl => ?_)
            refine lv_iconst (v := (0 : Int32)) hx hb dX12_best_136 (by decide) ?_
            refine lv_istore (lv' := [(5, .int (0 : Int32)), (3, .int (M_h_96 20 0)), (2, .int (M_h_96 19 0)), (0, .ref h), (1, .int x1), (4, .int x4)]) hx hb dX12_best_137 hl (by decide) rfl (fun ls hl => ?_)
            exact L139 (f_X12_best_L89 n) (fun z0 z1 z2 z3 z4 z5 z6 z7 z8 z9 z10 z11 z12 => ih z0 z1 z2 z3 z4 z5 z6 z7 z8 z9 z10 z11 z12) FU M_h_96 x1 (M_h_96 19 0) (M_h_96 20 0) (0 : Int32) _ _ ls hf hP hD hS (lv_sub hl [3, 4, 2, 1, 0] rfl)
          · rw [if_neg hc107] at hf
            refine lv_aload_n hx hb dX12_best_110 rfl (lv_at hl 0 rfl) ?_
            refine va_get (D := (dC, dI)) (ci := 12) (v := .int (M_h_96 19 0)) (C := RX12) (T := TX12) (N := 21) hx hb hts hin12 hown hK hP 0 rfl rfl 19 (by decide) kf190 (fun _ h9 => h9) rfl dX12_best_111 ?_
            refine lv_iload_n hx hb dX12_best_114 rfl (lv_at hl 2 rfl) ?_
            refine lv_icmp_ne (tgt := 165) hx hb dX12_best_115 (by decide) (fun hc115 => ?_) (fun hc115 => ?_)
            · rw [if_neg hc115] at hf
              refine lv_aload_n hx hb dX12_best_165 rfl (lv_at hl 0 rfl) ?_
              refine lv_iload_n hx hb dX12_best_166 rfl (lv_at hl 1 rfl) ?_
              obtain ⟨r167, M_h_167, h167, hf⟩ := bd2_some hf
              refine wr_calli (wc := (wX12 cyB cyI cyZ cyO h h_all h_has h_read h_test h_rest h_gets h_waits h_way h_good h_left M_h_96)) (wr := ([] : va_W)) (w1 := (wX12 cyB cyI cyZ cyO h h_all h_has h_read h_test h_rest h_gets h_waits h_way h_good h_left M_h_167)) (ws' := (wX12 cyB cyI cyZ cyO h h_all h_has h_read h_test h_rest h_gets h_waits h_way h_good h_left M_h_167)) hP hD hS hA [0, 1, 2, 3, 4, 5, 6, 7, 8, 9, 10] [] [0, 1, 2, 3, 4, 5, 6, 7, 8, 9, 10] rfl rfl (by decide) (by decide) rfl (by decide) (va_runV (As := [.int x1]) (rest := []) ⟨hx, hb, hml, hown, hts⟩ (c_X12_turns l dC dI cyB cyI cyZ cyO h h_all h_has h_read h_test h_rest h_gets h_waits h_way h_good h_left _ M_h_96 x1 r167 M_h_167 h167) (cwV 1 hts gX12_best_X12_turns rfl rfl rfl (by decide +kernel) ⟨Nat.le_of_ble_eq_true rfl, Nat.le_of_ble_eq_true rfl⟩) ⟨PW.blind, va_recv hK hP (ci := 12) (q0 := 0) rfl rfl, fun U hU hW => ⟨rfl, by rw [hU], by rw [hU]; exact hP, hCx.warm hW, hD.weaken (fun _ _ _ _ => trivial)⟩⟩ rfl rfl hl.1 rfl (lv_room (Nat.le_of_ble_eq_true rfl)) dX12_best_167 ⟨Nat.zero_le _, Nat.zero_le _⟩) (fun H locs hP hD hS => ?_)
              refine lv_istore (lv' := [(4, .int r167), (0, .ref h), (1, .int x1), (2, .int x2), (3, .int x3)]) hx hb dX12_best_170 hl (by decide) rfl (fun ls hl => ?_)
              refine lv_goto (tgt := 89) hx hb dX12_best_172 (by decide) ?_
              exact ih M_h_167 x1 x2 x3 r167 _ _ ls hf hP hD hS (lv_sub hl [1, 2, 3, 4, 0] rfl)
            · rw [if_pos hc115] at hf
              refine lv_aload_n hx hb dX12_best_118 rfl (lv_at hl 0 rfl) ?_
              refine va_get (D := (dC, dI)) (ci := 12) (v := .int (M_h_96 20 0)) (C := RX12) (T := TX12) (N := 21) hx hb hts hin12 hown hK hP 0 rfl rfl 20 (by decide) kf193 (fun _ h9 => h9) rfl dX12_best_119 ?_
              refine lv_iload_n hx hb dX12_best_122 rfl (lv_at hl 3 rfl) ?_
              refine lv_icmp_ge (tgt := 165) hx hb dX12_best_123 (by decide) (fun hc123 => ?_) (fun hc123 => ?_)
              · rw [if_pos hc123] at hf
                refine lv_aload_n hx hb dX12_best_165 rfl (lv_at hl 0 rfl) ?_
                refine lv_iload_n hx hb dX12_best_166 rfl (lv_at hl 1 rfl) ?_
                obtain ⟨r167, M_h_167, h167, hf⟩ := bd2_some hf
                refine wr_calli (wc := (wX12 cyB cyI cyZ cyO h h_all h_has h_read h_test h_rest h_gets h_waits h_way h_good h_left M_h_96)) (wr := ([] : va_W)) (w1 := (wX12 cyB cyI cyZ cyO h h_all h_has h_read h_test h_rest h_gets h_waits h_way h_good h_left M_h_167)) (ws' := (wX12 cyB cyI cyZ cyO h h_all h_has h_read h_test h_rest h_gets h_waits h_way h_good h_left M_h_167)) hP hD hS hA [0, 1, 2, 3, 4, 5, 6, 7, 8, 9, 10] [] [0, 1, 2, 3, 4, 5, 6, 7, 8, 9, 10] rfl rfl (by decide) (by decide) rfl (by decide) (va_runV (As := [.int x1]) (rest := []) ⟨hx, hb, hml, hown, hts⟩ (c_X12_turns l dC dI cyB cyI cyZ cyO h h_all h_has h_read h_test h_rest h_gets h_waits h_way h_good h_left _ M_h_96 x1 r167 M_h_167 h167) (cwV 1 hts gX12_best_X12_turns rfl rfl rfl (by decide +kernel) ⟨Nat.le_of_ble_eq_true rfl, Nat.le_of_ble_eq_true rfl⟩) ⟨PW.blind, va_recv hK hP (ci := 12) (q0 := 0) rfl rfl, fun U hU hW => ⟨rfl, by rw [hU], by rw [hU]; exact hP, hCx.warm hW, hD.weaken (fun _ _ _ _ => trivial)⟩⟩ rfl rfl hl.1 rfl (lv_room (Nat.le_of_ble_eq_true rfl)) dX12_best_167 ⟨Nat.zero_le _, Nat.zero_le _⟩) (fun H locs hP hD hS => ?_)
                refine lv_istore (lv' := [(4, .int r167), (0, .ref h), (1, .int x1), (2, .int x2), (3, .int x3)]) hx hb dX12_best_170 hl (by decide) rfl (fun ls hl => ?_)
                refine lv_goto (tgt := 89) hx hb dX12_best_172 (by decide) ?_
                exact ih M_h_167 x1 x2 x3 r167 _ _ ls hf hP hD hS (lv_sub hl [1, 2, 3, 4, 0] rfl)
              · rw [if_neg hc123] at hf
                refine lv_aload_n hx hb dX12_best_126 rfl (lv_at hl 0 rfl) ?_
                refine va_get (D := (dC, dI)) (ci := 12) (v := .int (M_h_96 19 0)) (C := RX12) (T := TX12) (N := 21) hx hb hts hin12 hown hK hP 0 rfl rfl 19 (by decide) kf190 (fun _ h9 => h9) rfl dX12_best_127 ?_
                refine lv_istore_n (lv' := [(2, .int (M_h_96 19 0)), (0, .ref h), (1, .int x1), (3, .int x3), (4, .int x4)]) hx hb dX12_best_130 rfl hl (by decide) rfl (fun ls hl => ?_)
                refine lv_aload_n hx hb dX12_best_131 rfl (lv_at hl 1 rfl) ?_
                refine va_get (D := (dC, dI)) (ci := 12) (v := .int (M_h_96 20 0)) (C := RX12) (T := TX12) (N := 21) hx hb hts hin12 hown hK hP 0 rfl rfl 20 (by decide) kf193 (fun _ h9 => h9) rfl dX12_best_132 ?_
                refine lv_istore_n (lv' := [(3, .int (M_h_96 20 0)), (2, .int (M_h_96 19 0)), (0, .ref h), (1, .int x1), (4, .int x4)]) hx hb dX12_best_135 rfl hl (by decide) rfl (fun ls hl => ?_)
                refine lv_iconst (v := (0 : Int32)) hx hb dX12_best_136 (by decide) ?_
                refine lv_istore (lv' := [(5, .int (0 : Int32)), (3, .int (M_h_96 20 0)), (2, .int (M_h_96 19 0)), (0, .ref h), (1, .int x1), (4, .int x4)]) hx hb dX12_best_137 hl (by decide) rfl (fun ls hl => ?_)
                exact L139 (f_X12_best_L89 n) (fun z0 z1 z2 z3 z4 z5 z6 z7 z8 z9 z10 z11 z12 => ih z0 z1 z2 z3 z4 z5 z6 z7 z8 z9 z10 z11 z12) FU M_h_96 x1 (M_h_96 19 0) (M_h_96 20 0) (0 : Int32) _ _ ls hf hP hD hS (lv_sub hl [3, 4, 2, 1, 0] rfl)
  have L66 : ∀ (n : Nat), ∀ (M_h : Mem) (x1 : Int32) (x2 : Int32) (x3 : Int32) (x4 : Int32) (H : Heap) (locs : List Loc) (ls : Array Slot), f_X12_best_L66 n M_h x1 x2 x3 x4 = some (r, R_h) → va_P (dC, dI) vwCl (wX12 cyB cyI cyZ cyO h h_all h_has h_read h_test h_rest h_gets h_waits h_way h_good h_left M_h) H → va_D A (wX12 cyB cyI cyZ cyO h h_all h_has h_read h_test h_rest h_gets h_waits h_way h_good h_left M_h) → va_S A s.heap H locs → lv_has ls 6 [(0, .ref h), (1, .int x1), (2, .int x2), (3, .int x3), (4, .int x4)] → W p l e (headSpec wsX12_best ({ frames := 4, cells := 0, slots := 0, locals := 92 } : Room)).room s m ([.ref h] : List Value).toArray below meth c H locs 0 0 (MQ below (QW dC dI (some (.int r)) (wX12 cyB cyI cyZ cyO h h_all h_has h_read h_test h_rest h_gets h_waits h_way h_good h_left R_h) A) ([.ref h] : List Value).toArray s 0 0 A) (F0 m 66 ls []) := by
    intro n
    induction n with
    | zero => intro M_h x1 x2 x3 x4 H locs ls hf hP hD hS hl; rw [f_X12_best_L66] at hf; cases hf
    | succ n ih =>
      intro M_h x1 x2 x3 x4 H locs ls hf hP hD hS hl
      rw [f_X12_best_L66] at hf
      refine lv_iload hx hb dX12_best_66 (lv_at hl 4 rfl) ?_
      refine lv_iload_n hx hb dX12_best_68 rfl (lv_at hl 1 rfl) ?_
      refine lv_icmp_ge (tgt := 86) hx hb dX12_best_69 (by decide) (fun hc69 => ?_) (fun hc69 => ?_)
      · rw [if_pos hc69] at hf
        refine lv_iconst (v := (1 : Int32)) hx hb dX12_best_86 (by decide) ?_
        refine lv_istore (lv' := [(4, .int (1 : Int32)), (0, .ref h), (1, .int x1), (2, .int x2), (3, .int x3)]) hx hb dX12_best_87 hl (by decide) rfl (fun ls hl => ?_)
        exact L89 FU M_h x1 x2 x3 (1 : Int32) _ _ ls hf hP hD hS (lv_sub hl [1, 2, 3, 4, 0] rfl)
      · rw [if_neg hc69] at hf
        refine lv_aload_n hx hb dX12_best_72 rfl (lv_at hl 0 rfl) ?_
        refine va_get (D := (dC, dI)) (ci := 12) (v := .ref h_way) (C := RX12) (T := TX12) (N := 21) hx hb hts hin12 hown hK hP 0 rfl rfl 16 (by decide) kf32 (fun _ h9 => h9) rfl dX12_best_73 ?_
        refine lv_iload hx hb dX12_best_76 (lv_at hl 4 rfl) ?_
        refine lv_iconst (v := (0 : Int32)) hx hb dX12_best_78 (by decide) ?_
        have hi79 := if_no hf
        rw [if_neg hi79] at hf
        refine va_iast hx hb hK hP hD hS 8 1 rfl rfl hi79 dX12_best_79 (fun H locs hP hD hS => ?_)
        obtain ⟨M_h_79, eM_h_79, hf⟩ := wr_some hf
        have hP : va_P (dC, dI) vwCl (wX12 cyB cyI cyZ cyO h h_all h_has h_read h_test h_rest h_gets h_waits h_way h_good h_left M_h_79) H := by rw [eM_h_79]; exact hP
        have hD : va_D A (wX12 cyB cyI cyZ cyO h h_all h_has h_read h_test h_rest h_gets h_waits h_way h_good h_left M_h_79) := by rw [eM_h_79]; exact hD
        refine lv_iinc (v := (x4 + (1 : Int32))) (lv' := [(4, .int (x4 + (1 : Int32))), (0, .ref h), (1, .int x1), (2, .int x2), (3, .int x3)]) hx hb dX12_best_80 hl (k := 4) rfl rfl (by decide) rfl (fun ls hl => ?_)
        refine lv_goto (tgt := 66) hx hb dX12_best_83 (by decide) ?_
        exact ih M_h_79 x1 x2 x3 (x4 + (1 : Int32)) _ _ ls hf hP hD hS (lv_sub hl [1, 2, 3, 4, 0] rfl)
  have L4 : ∀ (n : Nat), ∀ (M_h : Mem) (x1 : Int32) (x2 : Int32) (H : Heap) (locs : List Loc) (ls : Array Slot), f_X12_best_L4 n M_h x1 x2 = some (r, R_h) → va_P (dC, dI) vwCl (wX12 cyB cyI cyZ cyO h h_all h_has h_read h_test h_rest h_gets h_waits h_way h_good h_left M_h) H → va_D A (wX12 cyB cyI cyZ cyO h h_all h_has h_read h_test h_rest h_gets h_waits h_way h_good h_left M_h) → va_S A s.heap H locs → lv_has ls 6 [(0, .ref h), (1, .int x1), (2, .int x2)] → W p l e (headSpec wsX12_best ({ frames := 4, cells := 0, slots := 0, locals := 92 } : Room)).room s m ([.ref h] : List Value).toArray below meth c H locs 0 0 (MQ below (QW dC dI (some (.int r)) (wX12 cyB cyI cyZ cyO h h_all h_has h_read h_test h_rest h_gets h_waits h_way h_good h_left R_h) A) ([.ref h] : List Value).toArray s 0 0 A) (F0 m 4 ls []) := by
    intro n
    induction n with
    | zero => intro M_h x1 x2 H locs ls hf hP hD hS hl; rw [f_X12_best_L4] at hf; cases hf
    | succ n ih =>
      intro M_h x1 x2 H locs ls hf hP hD hS hl
      rw [f_X12_best_L4] at hf
      refine lv_iload_n hx hb dX12_best_4 rfl (lv_at hl 2 rfl) ?_
      refine lv_aload_n hx hb dX12_best_5 rfl (lv_at hl 0 rfl) ?_
      refine va_get (D := (dC, dI)) (ci := 12) (v := .ref h_all) (C := RX12) (T := TX12) (N := 21) hx hb hts hin12 hown hK hP 0 rfl rfl 0 (by decide) kf7 (fun _ h9 => h9) rfl dX12_best_6 ?_
      refine lv_iconst (v := (4 : Int32)) hx hb dX12_best_9 (by decide) ?_
      refine va_iald hx hb hK hP 1 1 rfl rfl (show ¬ ((4 : Int32) < 0 ∨ 11160 ≤ ((4 : Int32)).toNatClampNeg) by decide) dX12_best_10 ?_
      refine lv_icmp_ge (tgt := 41) hx hb dX12_best_11 (by decide) (fun hc11 => ?_) (fun hc11 => ?_)
      · rw [if_pos hc11] at hf
        refine lv_aload_n hx hb dX12_best_41 rfl (lv_at hl 0 rfl) ?_
        refine va_get (D := (dC, dI)) (ci := 12) (v := .ref h_all) (C := RX12) (T := TX12) (N := 21) hx hb hts hin12 hown hK hP 0 rfl rfl 0 (by decide) kf7 (fun _ h9 => h9) rfl dX12_best_42 ?_
        refine lv_iconst (v := (1 : Int32)) hx hb dX12_best_45 (by decide) ?_
        refine va_iald hx hb hK hP 1 1 rfl rfl (show ¬ ((1 : Int32) < 0 ∨ 11160 ≤ ((1 : Int32)).toNatClampNeg) by decide) dX12_best_46 ?_
        refine lv_iconst (v := (1 : Int32)) hx hb dX12_best_47 (by decide) ?_
        refine lv_icmp_eq (tgt := 57) hx hb dX12_best_48 (by decide) (fun hc48 => ?_) (fun hc48 => ?_)
        · rw [if_pos hc48] at hf
          refine lv_iconst (v := (-1 : Int32)) hx hb dX12_best_57 (by decide) ?_
          obtain ⟨hq0, hq1⟩ := pj2 hf
          subst hq0
          subst hq1
          exact W.iret (v := (-1 : Int32)) hx hb hr (fun t ht hW => ⟨rfl, by rw [ht]; exact hP, hD, hS.F ht⟩) hS.2.2 dX12_best_58
        · rw [if_neg hc48] at hf
          refine lv_iload_n hx hb dX12_best_51 rfl (lv_at hl 1 rfl) ?_
          refine lv_bipush (v := (9 : Int32)) hx hb dX12_best_52 (by decide) ?_
          refine lv_icmp_le (tgt := 59) hx hb dX12_best_54 (by decide) (fun hc54 => ?_) (fun hc54 => ?_)
          · rw [if_pos hc54] at hf
            refine lv_iconst (v := (-1 : Int32)) hx hb dX12_best_59 (by decide) ?_
            refine lv_istore_n (lv' := [(2, .int (-1 : Int32)), (0, .ref h), (1, .int x1)]) hx hb dX12_best_60 rfl hl (by decide) rfl (fun ls hl => ?_)
            refine lv_iconst (v := (0 : Int32)) hx hb dX12_best_61 (by decide) ?_
            refine lv_istore_n (lv' := [(3, .int (0 : Int32)), (2, .int (-1 : Int32)), (0, .ref h), (1, .int x1)]) hx hb dX12_best_62 rfl hl (by decide) rfl (fun ls hl => ?_)
            refine lv_iconst (v := (0 : Int32)) hx hb dX12_best_63 (by decide) ?_
            refine lv_istore (lv' := [(4, .int (0 : Int32)), (3, .int (0 : Int32)), (2, .int (-1 : Int32)), (0, .ref h), (1, .int x1)]) hx hb dX12_best_64 hl (by decide) rfl (fun ls hl => ?_)
            exact L66 FU M_h x1 (-1 : Int32) (0 : Int32) (0 : Int32) _ _ ls hf hP hD hS (lv_sub hl [3, 4, 2, 1, 0] rfl)
          · rw [if_neg hc54] at hf
            refine lv_iconst (v := (-1 : Int32)) hx hb dX12_best_57 (by decide) ?_
            obtain ⟨hq0, hq1⟩ := pj2 hf
            subst hq0
            subst hq1
            exact W.iret (v := (-1 : Int32)) hx hb hr (fun t ht hW => ⟨rfl, by rw [ht]; exact hP, hD, hS.F ht⟩) hS.2.2 dX12_best_58
      · rw [if_neg hc11] at hf
        refine lv_aload_n hx hb dX12_best_14 rfl (lv_at hl 0 rfl) ?_
        refine lv_iload_n hx hb dX12_best_15 rfl (lv_at hl 2 rfl) ?_
        obtain ⟨r16, h16, hf⟩ := bd1_some hf
        refine ro_calli (va_runV (As := [.int x2]) (rest := []) ⟨hx, hb, hml, hown, hts⟩ (c_X12_lies l dC dI cyB cyI cyZ cyO h h_all h_has h_read h_test h_rest h_gets h_waits h_way h_good h_left M_h x2 r16 h16) (cwV 1 hts gX12_best_X12_lies rfl rfl rfl (by decide +kernel) ⟨Nat.le_of_ble_eq_true rfl, Nat.le_of_ble_eq_true rfl⟩) ⟨PR.blind, va_recv hK hP (ci := 12) (q0 := 0) rfl rfl, fun U hU hW => ⟨rfl, by rw [hU]; exact hP, hCx.warm hW⟩⟩ rfl rfl hl.1 rfl (lv_room (Nat.le_of_ble_eq_true rfl)) dX12_best_16 ⟨Nat.zero_le _, Nat.zero_le _⟩) ?_
        refine lv_if_eq (tgt := 25) hx hb dX12_best_19 (by decide) (fun hc19 => ?_) (fun hc19 => ?_)
        · rw [if_pos hc19] at hf
          refine lv_aload_n hx hb dX12_best_25 rfl (lv_at hl 0 rfl) ?_
          refine va_get (D := (dC, dI)) (ci := 12) (v := .ref h_waits) (C := RX12) (T := TX12) (N := 21) hx hb hts hin12 hown hK hP 0 rfl rfl 15 (by decide) kf29 (fun _ h9 => h9) rfl dX12_best_26 ?_
          refine lv_iload_n hx hb dX12_best_29 rfl (lv_at hl 1 rfl) ?_
          refine lv_iload_n hx hb dX12_best_30 rfl (lv_at hl 2 rfl) ?_
          have hi31 := if_no hf
          rw [if_neg hi31] at hf
          refine va_iast hx hb hK hP hD hS 7 1 rfl rfl hi31 dX12_best_31 (fun H locs hP hD hS => ?_)
          obtain ⟨M_h_31, eM_h_31, hf⟩ := wr_some hf
          have hP : va_P (dC, dI) vwCl (wX12 cyB cyI cyZ cyO h h_all h_has h_read h_test h_rest h_gets h_waits h_way h_good h_left M_h_31) H := by rw [eM_h_31]; exact hP
          have hD : va_D A (wX12 cyB cyI cyZ cyO h h_all h_has h_read h_test h_rest h_gets h_waits h_way h_good h_left M_h_31) := by rw [eM_h_31]; exact hD
          refine lv_iinc (v := (x1 + (1 : Int32))) (lv' := [(1, .int (x1 + (1 : Int32))), (0, .ref h), (2, .int x2)]) hx hb dX12_best_32 hl (k := 1) rfl rfl (by decide) rfl (fun ls hl => ?_)
          refine lv_iinc (v := (x2 + (1 : Int32))) (lv' := [(2, .int (x2 + (1 : Int32))), (1, .int (x1 + (1 : Int32))), (0, .ref h)]) hx hb dX12_best_35 hl (k := 2) rfl rfl (by decide) rfl (fun ls hl => ?_)
          refine lv_goto (tgt := 4) hx hb dX12_best_38 (by decide) ?_
          exact ih M_h_31 (x1 + (1 : Int32)) (x2 + (1 : Int32)) _ _ ls hf hP hD hS (lv_sub hl [2, 1, 0] rfl)
        · rw [if_neg hc19] at hf
          refine lv_goto (tgt := 35) hx hb dX12_best_22 (by decide) ?_
          refine lv_iinc (v := (x2 + (1 : Int32))) (lv' := [(2, .int (x2 + (1 : Int32))), (0, .ref h), (1, .int x1)]) hx hb dX12_best_35 hl (k := 2) rfl rfl (by decide) rfl (fun ls hl => ?_)
          refine lv_goto (tgt := 4) hx hb dX12_best_38 (by decide) ?_
          exact ih M_h x1 (x2 + (1 : Int32)) _ _ ls hf hP hD hS (lv_sub hl [1, 2, 0] rfl)
  rw [f_X12_best] at hf
  refine lv_iconst (v := (0 : Int32)) hx hb dX12_best_0 (by decide) ?_
  refine lv_istore_n (lv' := [(1, .int (0 : Int32)), (0, .ref h)]) hx hb dX12_best_1 rfl hl (by decide) rfl (fun ls hl => ?_)
  refine lv_iconst (v := (0 : Int32)) hx hb dX12_best_2 (by decide) ?_
  refine lv_istore_n (lv' := [(2, .int (0 : Int32)), (1, .int (0 : Int32)), (0, .ref h)]) hx hb dX12_best_3 rfl hl (by decide) rfl (fun ls hl => ?_)
  exact L4 FU M_h (0 : Int32) (0 : Int32) _ _ ls hf hP hD hS (lv_sub hl [2, 1, 0] rfl)
set_option maxHeartbeats 4000000 in
set_option maxRecDepth 100000 in
theorem c_X12_bestSide (l : Launch) (dC : Nat → ClassId) (dI : Nat → Nat → Nat) (cyB cyI cyZ cyO : ClassId) (h h_all h_has h_read h_test h_rest h_gets h_waits h_way h_good h_left : Nat) (M_h : Mem) (p1 : Int32) (r : Int32) (hf : f_X12_bestSide M_h p1 = some r) : Met l yX12_bestSide wsX12_bestSide ({ frames := 2, cells := 0, slots := 0, locals := 43 } : Room) (PR dC dI cyB cyI cyZ cyO ([.ref h, .int p1] : List Value) (wX12 cyB cyI cyZ cyO h h_all h_has h_read h_test h_rest h_gets h_waits h_way h_good h_left M_h)) (QR (some (.int r))) 0 0 (fun _ => False) := by
  refine Met.ofW (cc := cX12_bestSide) (maxL := 2) (ret := (some .int)) (by decide) rfl ?_
  intro p e s m args below meth c s₁ B hml hv
  obtain ⟨rfl, hP, hCx⟩ := hv
  have hK := hCx.1
  have hN := hCx.2
  have hx := B.exec
  have hb := B.bytes
  have hr := B.returns
  have hts := atoms_spec (ws := wsX12_bestSide) B.pre
  have hown : s.vm.findClass RX12 = some m.cls := findClass_of_methodNamed B.named
  have hlocks := B.notSynchronized
  have hin12 : ∀ w ∈ u_ws RX12 TX12 21, w ∈ wsX12_bestSide := fun w h => List.mem_cons_of_mem _ (List.mem_append_right _ h)
  have kf7 := hts (.fieldLink RX12 7 "HoldSlipsModel" "all" "[I") (by decide +kernel)
  have hl := lv_entry ([.ref h, .int p1] : List Value) (n := 2) (Nat.le_of_ble_eq_true rfl)
  rw [lg_entry_eq]
  generalize (lg_sl ([.ref h, .int p1] : List Value) ++ List.replicate (2 - (lg_sl ([.ref h, .int p1] : List Value)).length) Slot.unset).toArray = ls at hl ⊢
  have hl : lv_has ls 2 [(0, .ref h), (1, .int p1)] := hl
  rw [f_X12_bestSide] at hf
  refine lv_aload_n hx hb dX12_bestSide_0 rfl (lv_at hl 0 rfl) ?_
  refine va_get (D := (dC, dI)) (ci := 12) (v := .ref h_all) (C := RX12) (T := TX12) (N := 21) hx hb hts hin12 hown hK hP 0 rfl rfl 0 (by decide) kf7 (fun _ h9 => h9) rfl dX12_bestSide_1 ?_
  refine lv_bipush (v := (16 : Int32)) hx hb dX12_bestSide_4 (by decide) ?_
  refine va_iald hx hb hK hP 1 1 rfl rfl (show ¬ ((16 : Int32) < 0 ∨ 11160 ≤ ((16 : Int32)).toNatClampNeg) by decide) dX12_bestSide_6 ?_
  refine lv_iconst (v := (1 : Int32)) hx hb dX12_bestSide_7 (by decide) ?_
  refine lv_icmp_ne (tgt := 29) hx hb dX12_bestSide_8 (by decide) (fun hc8 => ?_) (fun hc8 => ?_)
  · rw [if_neg hc8] at hf
    refine lv_iconst (v := (-1 : Int32)) hx hb dX12_bestSide_29 (by decide) ?_
    have hq := Option.some.inj hf
    subst hq
    exact W.iret (v := (-1 : Int32)) hx hb hr (fun t ht hW => ⟨rfl, ht⟩) (fun q h => by cases h) dX12_bestSide_30
  · rw [if_pos hc8] at hf
    refine lv_aload_n hx hb dX12_bestSide_11 rfl (lv_at hl 0 rfl) ?_
    refine lv_iload_n hx hb dX12_bestSide_12 rfl (lv_at hl 1 rfl) ?_
    obtain ⟨r13, h13, hf⟩ := bd1_some hf
    refine ro_calli (va_runV (As := [.int p1]) (rest := []) ⟨hx, hb, hml, hown, hts⟩ (c_X12_isBale l dC dI cyB cyI cyZ cyO h h_all h_has h_read h_test h_rest h_gets h_waits h_way h_good h_left M_h p1 r13 h13) (cwV 1 hts gX12_bestSide_X12_isBale rfl rfl rfl (by decide +kernel) ⟨Nat.le_of_ble_eq_true rfl, Nat.le_of_ble_eq_true rfl⟩) ⟨PR.blind, va_recv hK hP (ci := 12) (q0 := 0) rfl rfl, fun U hU hW => ⟨rfl, by rw [hU]; exact hP, hCx.warm hW⟩⟩ rfl rfl hl.1 rfl (lv_room (Nat.le_of_ble_eq_true rfl)) dX12_bestSide_13 ⟨Nat.zero_le _, Nat.zero_le _⟩) ?_
    refine lv_if_eq (tgt := 29) hx hb dX12_bestSide_16 (by decide) (fun hc16 => ?_) (fun hc16 => ?_)
    · rw [if_pos hc16] at hf
      refine lv_iconst (v := (-1 : Int32)) hx hb dX12_bestSide_29 (by decide) ?_
      have hq := Option.some.inj hf
      subst hq
      exact W.iret (v := (-1 : Int32)) hx hb hr (fun t ht hW => ⟨rfl, ht⟩) (fun q h => by cases h) dX12_bestSide_30
    · rw [if_neg hc16] at hf
      refine lv_aload_n hx hb dX12_bestSide_19 rfl (lv_at hl 0 rfl) ?_
      refine lv_iload_n hx hb dX12_bestSide_20 rfl (lv_at hl 1 rfl) ?_
      refine lv_bipush (v := (7 : Int32)) hx hb dX12_bestSide_21 (by decide) ?_
      obtain ⟨r23, h23, hf⟩ := bd1_some hf
      refine ro_calli (va_runV (As := [.int p1, .int (7 : Int32)]) (rest := []) ⟨hx, hb, hml, hown, hts⟩ (c_X12_its l dC dI cyB cyI cyZ cyO h h_all h_has h_read h_test h_rest h_gets h_waits h_way h_good h_left M_h p1 (7 : Int32) r23 h23) (cwV 2 hts gX12_bestSide_X12_its rfl rfl rfl (by decide +kernel) ⟨Nat.le_of_ble_eq_true rfl, Nat.le_of_ble_eq_true rfl⟩) ⟨PR.blind, va_recv hK hP (ci := 12) (q0 := 0) rfl rfl, fun U hU hW => ⟨rfl, by rw [hU]; exact hP, hCx.warm hW⟩⟩ rfl rfl hl.1 rfl (lv_room (Nat.le_of_ble_eq_true rfl)) dX12_bestSide_23 ⟨Nat.zero_le _, Nat.zero_le _⟩) ?_
      refine lv_goto (tgt := 30) hx hb dX12_bestSide_26 (by decide) ?_
      have hq := Option.some.inj hf
      subst hq
      exact W.iret (v := r23) hx hb hr (fun t ht hW => ⟨rfl, ht⟩) (fun q h => by cases h) dX12_bestSide_30
set_option maxHeartbeats 4000000 in
set_option maxRecDepth 100000 in
theorem c_X12_ladeBest (l : Launch) (dC : Nat → ClassId) (dI : Nat → Nat → Nat) (cyB cyI cyZ cyO : ClassId) (h h_all h_has h_read h_test h_rest h_gets h_waits h_way h_good h_left : Nat) (sz : Nat) (M_h : Mem) (r : Int32) (R_h : Mem) (hf : f_X12_ladeBest M_h = some (r, R_h)) : Met l yX12_ladeBest wsX12_ladeBest ({ frames := 4, cells := 0, slots := 0, locals := 89 } : Room) (PW dC dI cyB cyI cyZ cyO ([.ref h] : List Value) (wX12 cyB cyI cyZ cyO h h_all h_has h_read h_test h_rest h_gets h_waits h_way h_good h_left M_h) sz) (QW dC dI (some (.int r)) (wX12 cyB cyI cyZ cyO h h_all h_has h_read h_test h_rest h_gets h_waits h_way h_good h_left R_h) (va_A (wX12 cyB cyI cyZ cyO h h_all h_has h_read h_test h_rest h_gets h_waits h_way h_good h_left M_h) sz)) 0 0 (va_A (wX12 cyB cyI cyZ cyO h h_all h_has h_read h_test h_rest h_gets h_waits h_way h_good h_left M_h) sz) := by
  refine Met.ofW (cc := cX12_ladeBest) (maxL := 3) (ret := (some .int)) (by decide) rfl ?_
  intro p e s m args below meth c s₁ B hml hv
  obtain ⟨rfl, hsz, hP, hCx, hD0⟩ := hv
  have hK := hCx.1
  have hN := hCx.2
  have hx := B.exec
  have hb := B.bytes
  have hr := B.returns
  have hts := atoms_spec (ws := wsX12_ladeBest) B.pre
  have hown : s.vm.findClass RX12 = some m.cls := findClass_of_methodNamed B.named
  have hlocks := B.notSynchronized
  have hin12 : ∀ w ∈ u_ws RX12 TX12 21, w ∈ wsX12_ladeBest := fun w h => List.mem_cons_of_mem _ (List.mem_append_right _ h)
  have kf7 := hts (.fieldLink RX12 7 "HoldSlipsModel" "all" "[I") (by decide +kernel)
  subst hsz
  have hD := hD0.self (sz := s.heap.size)
  generalize hAe : va_A (wX12 cyB cyI cyZ cyO h h_all h_has h_read h_test h_rest h_gets h_waits h_way h_good h_left M_h) s.heap.size = A at hD ⊢
  have hA : ∀ q : Nat, s.heap.size ≤ q → A q := fun q h => by rw [← hAe]; exact Or.inr h
  have hS : va_S A s.heap s.heap [] := va_S.rf
  have hl := lv_entry ([.ref h] : List Value) (n := 3) (Nat.le_of_ble_eq_true rfl)
  rw [lg_entry_eq]
  generalize (lg_sl ([.ref h] : List Value) ++ List.replicate (3 - (lg_sl ([.ref h] : List Value)).length) Slot.unset).toArray = ls at hl ⊢
  have hl : lv_has ls 3 [(0, .ref h)] := hl
  have L26 : ∀ (n : Nat), ∀ (M_h : Mem) (x1 : Int32) (x2 : Int32) (H : Heap) (locs : List Loc) (ls : Array Slot), f_X12_ladeBest_L26 n M_h x1 x2 = some (r, R_h) → va_P (dC, dI) vwCl (wX12 cyB cyI cyZ cyO h h_all h_has h_read h_test h_rest h_gets h_waits h_way h_good h_left M_h) H → va_D A (wX12 cyB cyI cyZ cyO h h_all h_has h_read h_test h_rest h_gets h_waits h_way h_good h_left M_h) → va_S A s.heap H locs → lv_has ls 3 [(0, .ref h), (1, .int x1), (2, .int x2)] → W p l e (headSpec wsX12_ladeBest ({ frames := 4, cells := 0, slots := 0, locals := 89 } : Room)).room s m ([.ref h] : List Value).toArray below meth c H locs 0 0 (MQ below (QW dC dI (some (.int r)) (wX12 cyB cyI cyZ cyO h h_all h_has h_read h_test h_rest h_gets h_waits h_way h_good h_left R_h) A) ([.ref h] : List Value).toArray s 0 0 A) (F0 m 26 ls []) := by
    intro n
    induction n with
    | zero => intro M_h x1 x2 H locs ls hf hP hD hS hl; rw [f_X12_ladeBest_L26] at hf; cases hf
    | succ n ih =>
      intro M_h x1 x2 H locs ls hf hP hD hS hl
      rw [f_X12_ladeBest_L26] at hf
      refine lv_iload_n hx hb dX12_ladeBest_26 rfl (lv_at hl 2 rfl) ?_
      refine lv_aload_n hx hb dX12_ladeBest_27 rfl (lv_at hl 0 rfl) ?_
      refine va_get (D := (dC, dI)) (ci := 12) (v := .ref h_all) (C := RX12) (T := TX12) (N := 21) hx hb hts hin12 hown hK hP 0 rfl rfl 0 (by decide) kf7 (fun _ h9 => h9) rfl dX12_ladeBest_28 ?_
      refine lv_iconst (v := (4 : Int32)) hx hb dX12_ladeBest_31 (by decide) ?_
      refine va_iald hx hb hK hP 1 1 rfl rfl (show ¬ ((4 : Int32) < 0 ∨ 11160 ≤ ((4 : Int32)).toNatClampNeg) by decide) dX12_ladeBest_32 ?_
      refine lv_icmp_ge (tgt := 77) hx hb dX12_ladeBest_33 (by decide) (fun hc33 => ?_) (fun hc33 => ?_)
      · rw [if_pos hc33] at hf
        refine lv_iload_n hx hb dX12_ladeBest_77 rfl (lv_at hl 1 rfl) ?_
        obtain ⟨hq0, hq1⟩ := pj2 hf
        subst hq0
        subst hq1
        exact W.iret (v := x1) hx hb hr (fun t ht hW => ⟨rfl, by rw [ht]; exact hP, hD, hS.F ht⟩) hS.2.2 dX12_ladeBest_78
      · rw [if_neg hc33] at hf
        refine lv_aload_n hx hb dX12_ladeBest_36 rfl (lv_at hl 0 rfl) ?_
        refine lv_iload_n hx hb dX12_ladeBest_37 rfl (lv_at hl 2 rfl) ?_
        refine lv_bipush (v := (7 : Int32)) hx hb dX12_ladeBest_38 (by decide) ?_
        obtain ⟨r40, h40, hf⟩ := bd1_some hf
        refine ro_calli (va_runV (As := [.int x2, .int (7 : Int32)]) (rest := []) ⟨hx, hb, hml, hown, hts⟩ (c_X12_its l dC dI cyB cyI cyZ cyO h h_all h_has h_read h_test h_rest h_gets h_waits h_way h_good h_left M_h x2 (7 : Int32) r40 h40) (cwV 2 hts gX12_ladeBest_X12_its rfl rfl rfl (by decide +kernel) ⟨Nat.le_of_ble_eq_true rfl, Nat.le_of_ble_eq_true rfl⟩) ⟨PR.blind, va_recv hK hP (ci := 12) (q0 := 0) rfl rfl, fun U hU hW => ⟨rfl, by rw [hU]; exact hP, hCx.warm hW⟩⟩ rfl rfl hl.1 rfl (lv_room (Nat.le_of_ble_eq_true rfl)) dX12_ladeBest_40 ⟨Nat.zero_le _, Nat.zero_le _⟩) ?_
        refine lv_iconst (v := (2 : Int32)) hx hb dX12_ladeBest_43 (by decide) ?_
        refine lv_icmp_ge (tgt := 71) hx hb dX12_ladeBest_44 (by decide) (fun hc44 => ?_) (fun hc44 => ?_)
        · rw [if_pos hc44] at hf
          refine lv_iinc (v := (x2 + (1 : Int32))) (lv' := [(2, .int (x2 + (1 : Int32))), (0, .ref h), (1, .int x1)]) hx hb dX12_ladeBest_71 hl (k := 2) rfl rfl (by decide) rfl (fun ls hl => ?_)
          refine lv_goto (tgt := 26) hx hb dX12_ladeBest_74 (by decide) ?_
          exact ih M_h x1 (x2 + (1 : Int32)) _ _ ls hf hP hD hS (lv_sub hl [1, 2, 0] rfl)
        · rw [if_neg hc44] at hf
          refine lv_aload_n hx hb dX12_ladeBest_47 rfl (lv_at hl 0 rfl) ?_
          refine lv_iload_n hx hb dX12_ladeBest_48 rfl (lv_at hl 2 rfl) ?_
          refine lv_aload_n hx hb dX12_ladeBest_49 rfl (lv_at hl 0 rfl) ?_
          refine lv_iload_n hx hb dX12_ladeBest_50 rfl (lv_at hl 2 rfl) ?_
          refine lv_iconst (v := (0 : Int32)) hx hb dX12_ladeBest_51 (by decide) ?_
          obtain ⟨r52, h52, hf⟩ := bd1_some hf
          refine ro_calli (va_runV (As := [.int x2, .int (0 : Int32)]) (rest := [.int x2, .ref h]) ⟨hx, hb, hml, hown, hts⟩ (c_X12_its l dC dI cyB cyI cyZ cyO h h_all h_has h_read h_test h_rest h_gets h_waits h_way h_good h_left M_h x2 (0 : Int32) r52 h52) (cwV 2 hts gX12_ladeBest_X12_its rfl rfl rfl (by decide +kernel) ⟨Nat.le_of_ble_eq_true rfl, Nat.le_of_ble_eq_true rfl⟩) ⟨PR.blind, va_recv hK hP (ci := 12) (q0 := 0) rfl rfl, fun U hU hW => ⟨rfl, by rw [hU]; exact hP, hCx.warm hW⟩⟩ rfl rfl hl.1 rfl (lv_room (Nat.le_of_ble_eq_true rfl)) dX12_ladeBest_52 ⟨Nat.zero_le _, Nat.zero_le _⟩) ?_
          refine lv_aload_n hx hb dX12_ladeBest_55 rfl (lv_at hl 0 rfl) ?_
          refine lv_iload_n hx hb dX12_ladeBest_56 rfl (lv_at hl 2 rfl) ?_
          refine lv_bipush (v := (7 : Int32)) hx hb dX12_ladeBest_57 (by decide) ?_
          obtain ⟨r59, h59, hf⟩ := bd1_some hf
          refine ro_calli (va_runV (As := [.int x2, .int (7 : Int32)]) (rest := [.int r52, .int x2, .ref h]) ⟨hx, hb, hml, hown, hts⟩ (c_X12_its l dC dI cyB cyI cyZ cyO h h_all h_has h_read h_test h_rest h_gets h_waits h_way h_good h_left M_h x2 (7 : Int32) r59 h59) (cwV 2 hts gX12_ladeBest_X12_its rfl rfl rfl (by decide +kernel) ⟨Nat.le_of_ble_eq_true rfl, Nat.le_of_ble_eq_true rfl⟩) ⟨PR.blind, va_recv hK hP (ci := 12) (q0 := 0) rfl rfl, fun U hU hW => ⟨rfl, by rw [hU]; exact hP, hCx.warm hW⟩⟩ rfl rfl hl.1 rfl (lv_room (Nat.le_of_ble_eq_true rfl)) dX12_ladeBest_59 ⟨Nat.zero_le _, Nat.zero_le _⟩) ?_
          obtain ⟨r62, M_h_62, h62, hf⟩ := bd2_some hf
          refine wr_calli (wc := (wX12 cyB cyI cyZ cyO h h_all h_has h_read h_test h_rest h_gets h_waits h_way h_good h_left M_h)) (wr := ([] : va_W)) (w1 := (wX12 cyB cyI cyZ cyO h h_all h_has h_read h_test h_rest h_gets h_waits h_way h_good h_left M_h_62)) (ws' := (wX12 cyB cyI cyZ cyO h h_all h_has h_read h_test h_rest h_gets h_waits h_way h_good h_left M_h_62)) hP hD hS hA [0, 1, 2, 3, 4, 5, 6, 7, 8, 9, 10] [] [0, 1, 2, 3, 4, 5, 6, 7, 8, 9, 10] rfl rfl (by decide) (by decide) rfl (by decide) (va_runV (As := [.int x2, .int r52, .int r59]) (rest := []) ⟨hx, hb, hml, hown, hts⟩ (c_X12_lade l dC dI cyB cyI cyZ cyO h h_all h_has h_read h_test h_rest h_gets h_waits h_way h_good h_left _ M_h x2 r52 r59 r62 M_h_62 h62) (cwV 3 hts gX12_ladeBest_X12_lade rfl rfl rfl (by decide +kernel) ⟨Nat.le_of_ble_eq_true rfl, Nat.le_of_ble_eq_true rfl⟩) ⟨PW.blind, va_recv hK hP (ci := 12) (q0 := 0) rfl rfl, fun U hU hW => ⟨rfl, by rw [hU], by rw [hU]; exact hP, hCx.warm hW, hD.weaken (fun _ _ _ _ => trivial)⟩⟩ rfl rfl hl.1 rfl (lv_room (Nat.le_of_ble_eq_true rfl)) dX12_ladeBest_62 ⟨Nat.zero_le _, Nat.zero_le _⟩) (fun H locs hP hD hS => ?_)
          refine lv_if_eq (tgt := 71) hx hb dX12_ladeBest_65 (by decide) (fun hc65 => ?_) (fun hc65 => ?_)
          · rw [if_pos hc65] at hf
            refine lv_iinc (v := (x2 + (1 : Int32))) (lv' := [(2, .int (x2 + (1 : Int32))), (0, .ref h), (1, .int x1)]) hx hb dX12_ladeBest_71 hl (k := 2) rfl rfl (by decide) rfl (fun ls hl => ?_)
            refine lv_goto (tgt := 26) hx hb dX12_ladeBest_74 (by decide) ?_
            exact ih M_h_62 x1 (x2 + (1 : Int32)) _ _ ls hf hP hD hS (lv_sub hl [1, 2, 0] rfl)
          · rw [if_neg hc65] at hf
            refine lv_iinc (v := (x1 + (1 : Int32))) (lv' := [(1, .int (x1 + (1 : Int32))), (0, .ref h), (2, .int x2)]) hx hb dX12_ladeBest_68 hl (k := 1) rfl rfl (by decide) rfl (fun ls hl => ?_)
            refine lv_iinc (v := (x2 + (1 : Int32))) (lv' := [(2, .int (x2 + (1 : Int32))), (1, .int (x1 + (1 : Int32))), (0, .ref h)]) hx hb dX12_ladeBest_71 hl (k := 2) rfl rfl (by decide) rfl (fun ls hl => ?_)
            refine lv_goto (tgt := 26) hx hb dX12_ladeBest_74 (by decide) ?_
            exact ih M_h_62 (x1 + (1 : Int32)) (x2 + (1 : Int32)) _ _ ls hf hP hD hS (lv_sub hl [2, 1, 0] rfl)
  rw [f_X12_ladeBest] at hf
  refine lv_aload_n hx hb dX12_ladeBest_0 rfl (lv_at hl 0 rfl) ?_
  refine va_get (D := (dC, dI)) (ci := 12) (v := .ref h_all) (C := RX12) (T := TX12) (N := 21) hx hb hts hin12 hown hK hP 0 rfl rfl 0 (by decide) kf7 (fun _ h9 => h9) rfl dX12_ladeBest_1 ?_
  refine lv_bipush (v := (16 : Int32)) hx hb dX12_ladeBest_4 (by decide) ?_
  refine va_iald hx hb hK hP 1 1 rfl rfl (show ¬ ((16 : Int32) < 0 ∨ 11160 ≤ ((16 : Int32)).toNatClampNeg) by decide) dX12_ladeBest_6 ?_
  refine lv_if_eq (tgt := 20) hx hb dX12_ladeBest_7 (by decide) (fun hc7 => ?_) (fun hc7 => ?_)
  · rw [if_pos hc7] at hf
    refine lv_iconst (v := (-1 : Int32)) hx hb dX12_ladeBest_20 (by decide) ?_
    obtain ⟨hq0, hq1⟩ := pj2 hf
    subst hq0
    subst hq1
    exact W.iret (v := (-1 : Int32)) hx hb hr (fun t ht hW => ⟨rfl, by rw [ht]; exact hP, hD, hS.F ht⟩) hS.2.2 dX12_ladeBest_21
  · rw [if_neg hc7] at hf
    refine lv_aload_n hx hb dX12_ladeBest_10 rfl (lv_at hl 0 rfl) ?_
    refine va_get (D := (dC, dI)) (ci := 12) (v := .ref h_all) (C := RX12) (T := TX12) (N := 21) hx hb hts hin12 hown hK hP 0 rfl rfl 0 (by decide) kf7 (fun _ h9 => h9) rfl dX12_ladeBest_11 ?_
    refine lv_iconst (v := (1 : Int32)) hx hb dX12_ladeBest_14 (by decide) ?_
    refine va_iald hx hb hK hP 1 1 rfl rfl (show ¬ ((1 : Int32) < 0 ∨ 11160 ≤ ((1 : Int32)).toNatClampNeg) by decide) dX12_ladeBest_15 ?_
    refine lv_iconst (v := (1 : Int32)) hx hb dX12_ladeBest_16 (by decide) ?_
    refine lv_icmp_ne (tgt := 22) hx hb dX12_ladeBest_17 (by decide) (fun hc17 => ?_) (fun hc17 => ?_)
    · rw [if_neg hc17] at hf
      refine lv_iconst (v := (0 : Int32)) hx hb dX12_ladeBest_22 (by decide) ?_
      refine lv_istore_n (lv' := [(1, .int (0 : Int32)), (0, .ref h)]) hx hb dX12_ladeBest_23 rfl hl (by decide) rfl (fun ls hl => ?_)
      refine lv_iconst (v := (0 : Int32)) hx hb dX12_ladeBest_24 (by decide) ?_
      refine lv_istore_n (lv' := [(2, .int (0 : Int32)), (1, .int (0 : Int32)), (0, .ref h)]) hx hb dX12_ladeBest_25 rfl hl (by decide) rfl (fun ls hl => ?_)
      exact L26 FU M_h (0 : Int32) (0 : Int32) _ _ ls hf hP hD hS (lv_sub hl [2, 1, 0] rfl)
    · rw [if_pos hc17] at hf
      refine lv_iconst (v := (-1 : Int32)) hx hb dX12_ladeBest_20 (by decide) ?_
      obtain ⟨hq0, hq1⟩ := pj2 hf
      subst hq0
      subst hq1
      exact W.iret (v := (-1 : Int32)) hx hb hr (fun t ht hW => ⟨rfl, by rw [ht]; exact hP, hD, hS.F ht⟩) hS.2.2 dX12_ladeBest_21
set_option maxHeartbeats 4000000 in
set_option maxRecDepth 100000 in
theorem c_X12_sail (l : Launch) (dC : Nat → ClassId) (dI : Nat → Nat → Nat) (cyB cyI cyZ cyO : ClassId) (h h_all h_has h_read h_test h_rest h_gets h_waits h_way h_good h_left : Nat) (sz : Nat) (M_h : Mem) (r : Int32) (R_h : Mem) (hf : f_X12_sail M_h = some (r, R_h)) : Met l yX12_sail wsX12_sail ({ frames := 3, cells := 0, slots := 0, locals := 65 } : Room) (PW dC dI cyB cyI cyZ cyO ([.ref h] : List Value) (wX12 cyB cyI cyZ cyO h h_all h_has h_read h_test h_rest h_gets h_waits h_way h_good h_left M_h) sz) (QW dC dI (some (.int r)) (wX12 cyB cyI cyZ cyO h h_all h_has h_read h_test h_rest h_gets h_waits h_way h_good h_left R_h) (va_A (wX12 cyB cyI cyZ cyO h h_all h_has h_read h_test h_rest h_gets h_waits h_way h_good h_left M_h) sz)) 0 0 (va_A (wX12 cyB cyI cyZ cyO h h_all h_has h_read h_test h_rest h_gets h_waits h_way h_good h_left M_h) sz) := by
  refine Met.ofW (cc := cX12_sail) (maxL := 1) (ret := (some .boolean)) (by decide) rfl ?_
  intro p e s m args below meth c s₁ B hml hv
  obtain ⟨rfl, hsz, hP, hCx, hD0⟩ := hv
  have hK := hCx.1
  have hN := hCx.2
  have hx := B.exec
  have hb := B.bytes
  have hr := B.returns
  have hts := atoms_spec (ws := wsX12_sail) B.pre
  have hown : s.vm.findClass RX12 = some m.cls := findClass_of_methodNamed B.named
  have hlocks := B.notSynchronized
  have hin12 : ∀ w ∈ u_ws RX12 TX12 21, w ∈ wsX12_sail := fun w h => List.mem_cons_of_mem _ (List.mem_append_right _ h)
  have kf7 := hts (.fieldLink RX12 7 "HoldSlipsModel" "all" "[I") (by decide +kernel)
  subst hsz
  have hD := hD0.self (sz := s.heap.size)
  generalize hAe : va_A (wX12 cyB cyI cyZ cyO h h_all h_has h_read h_test h_rest h_gets h_waits h_way h_good h_left M_h) s.heap.size = A at hD ⊢
  have hA : ∀ q : Nat, s.heap.size ≤ q → A q := fun q h => by rw [← hAe]; exact Or.inr h
  have hS : va_S A s.heap s.heap [] := va_S.rf
  have hl := lv_entry ([.ref h] : List Value) (n := 1) (Nat.le_of_ble_eq_true rfl)
  rw [lg_entry_eq]
  generalize (lg_sl ([.ref h] : List Value) ++ List.replicate (1 - (lg_sl ([.ref h] : List Value)).length) Slot.unset).toArray = ls at hl ⊢
  have hl : lv_has ls 1 [(0, .ref h)] := hl
  rw [f_X12_sail] at hf
  refine lv_aload_n hx hb dX12_sail_0 rfl (lv_at hl 0 rfl) ?_
  refine va_get (D := (dC, dI)) (ci := 12) (v := .ref h_all) (C := RX12) (T := TX12) (N := 21) hx hb hts hin12 hown hK hP 0 rfl rfl 0 (by decide) kf7 (fun _ h9 => h9) rfl dX12_sail_1 ?_
  refine lv_iconst (v := (1 : Int32)) hx hb dX12_sail_4 (by decide) ?_
  refine va_iald hx hb hK hP 1 1 rfl rfl (show ¬ ((1 : Int32) < 0 ∨ 11160 ≤ ((1 : Int32)).toNatClampNeg) by decide) dX12_sail_5 ?_
  refine lv_iconst (v := (1 : Int32)) hx hb dX12_sail_6 (by decide) ?_
  refine lv_icmp_eq (tgt := 25) hx hb dX12_sail_7 (by decide) (fun hc7 => ?_) (fun hc7 => ?_)
  · rw [if_pos hc7] at hf
    refine lv_iconst (v := (0 : Int32)) hx hb dX12_sail_25 (by decide) ?_
    obtain ⟨hq0, hq1⟩ := pj2 hf
    subst hq0
    subst hq1
    exact W.zret (v := (0 : Int32)) hx hb hr rfl (fun t ht hW => ⟨rfl, by rw [ht]; exact hP, hD, hS.F ht⟩) hS.2.2 dX12_sail_26
  · rw [if_neg hc7] at hf
    refine lv_aload_n hx hb dX12_sail_10 rfl (lv_at hl 0 rfl) ?_
    refine lv_aload_n hx hb dX12_sail_11 rfl (lv_at hl 0 rfl) ?_
    obtain ⟨r12, h12, hf⟩ := bd1_some hf
    refine ro_calli (va_runV (As := []) (rest := [.ref h]) ⟨hx, hb, hml, hown, hts⟩ (c_X12_tilt l dC dI cyB cyI cyZ cyO h h_all h_has h_read h_test h_rest h_gets h_waits h_way h_good h_left M_h r12 h12) (cwV 0 hts gX12_sail_X12_tilt rfl rfl rfl (by decide +kernel) ⟨Nat.le_of_ble_eq_true rfl, Nat.le_of_ble_eq_true rfl⟩) ⟨PR.blind, va_recv hK hP (ci := 12) (q0 := 0) rfl rfl, fun U hU hW => ⟨rfl, by rw [hU]; exact hP, hCx.warm hW⟩⟩ rfl rfl hl.1 rfl (lv_room (Nat.le_of_ble_eq_true rfl)) dX12_sail_12 ⟨Nat.zero_le _, Nat.zero_le _⟩) ?_
    refine lv_aload_n hx hb dX12_sail_15 rfl (lv_at hl 0 rfl) ?_
    obtain ⟨r16, h16, hf⟩ := bd1_some hf
    refine ro_calli (va_runV (As := []) (rest := [.int r12, .ref h]) ⟨hx, hb, hml, hown, hts⟩ (c_X12_weight l dC dI cyB cyI cyZ cyO h h_all h_has h_read h_test h_rest h_gets h_waits h_way h_good h_left M_h r16 h16) (cwV 0 hts gX12_sail_X12_weight rfl rfl rfl (by decide +kernel) ⟨Nat.le_of_ble_eq_true rfl, Nat.le_of_ble_eq_true rfl⟩) ⟨PR.blind, va_recv hK hP (ci := 12) (q0 := 0) rfl rfl, fun U hU hW => ⟨rfl, by rw [hU]; exact hP, hCx.warm hW⟩⟩ rfl rfl hl.1 rfl (lv_room (Nat.le_of_ble_eq_true rfl)) dX12_sail_16 ⟨Nat.zero_le _, Nat.zero_le _⟩) ?_
    obtain ⟨r19, h19, hf⟩ := bd1_some hf
    refine ro_calli (va_runV (As := [.int r12, .int r16]) (rest := []) ⟨hx, hb, hml, hown, hts⟩ (c_X12_bears l dC dI cyB cyI cyZ cyO h h_all h_has h_read h_test h_rest h_gets h_waits h_way h_good h_left M_h r12 r16 r19 h19) (cwV 2 hts gX12_sail_X12_bears rfl rfl rfl (by decide +kernel) ⟨Nat.le_of_ble_eq_true rfl, Nat.le_of_ble_eq_true rfl⟩) ⟨PR.blind, va_recv hK hP (ci := 12) (q0 := 0) rfl rfl, fun U hU hW => ⟨rfl, by rw [hU]; exact hP, hCx.warm hW⟩⟩ rfl rfl hl.1 rfl (lv_room (Nat.le_of_ble_eq_true rfl)) dX12_sail_19 ⟨Nat.zero_le _, Nat.zero_le _⟩) ?_
    refine lv_if_ne (tgt := 27) hx hb dX12_sail_22 (by decide) (fun hc22 => ?_) (fun hc22 => ?_)
    · rw [if_neg hc22] at hf
      refine lv_aload_n hx hb dX12_sail_27 rfl (lv_at hl 0 rfl) ?_
      refine va_get (D := (dC, dI)) (ci := 12) (v := .ref h_all) (C := RX12) (T := TX12) (N := 21) hx hb hts hin12 hown hK hP 0 rfl rfl 0 (by decide) kf7 (fun _ h9 => h9) rfl dX12_sail_28 ?_
      refine lv_iconst (v := (1 : Int32)) hx hb dX12_sail_31 (by decide) ?_
      refine lv_iconst (v := (1 : Int32)) hx hb dX12_sail_32 (by decide) ?_
      refine va_iast hx hb hK hP hD hS 1 1 rfl rfl (show ¬ ((1 : Int32) < 0 ∨ 11160 ≤ ((1 : Int32)).toNatClampNeg) by decide) dX12_sail_33 (fun H locs hP hD hS => ?_)
      obtain ⟨M_h_33, eM_h_33, hf⟩ := wr_some hf
      have hP : va_P (dC, dI) vwCl (wX12 cyB cyI cyZ cyO h h_all h_has h_read h_test h_rest h_gets h_waits h_way h_good h_left M_h_33) H := by rw [eM_h_33]; exact hP
      have hD : va_D A (wX12 cyB cyI cyZ cyO h h_all h_has h_read h_test h_rest h_gets h_waits h_way h_good h_left M_h_33) := by rw [eM_h_33]; exact hD
      refine lv_iconst (v := (1 : Int32)) hx hb dX12_sail_34 (by decide) ?_
      obtain ⟨hq0, hq1⟩ := pj2 hf
      subst hq0
      subst hq1
      exact W.zret (v := (1 : Int32)) hx hb hr rfl (fun t ht hW => ⟨rfl, by rw [ht]; exact hP, hD, hS.F ht⟩) hS.2.2 dX12_sail_35
    · rw [if_pos hc22] at hf
      refine lv_iconst (v := (0 : Int32)) hx hb dX12_sail_25 (by decide) ?_
      obtain ⟨hq0, hq1⟩ := pj2 hf
      subst hq0
      subst hq1
      exact W.zret (v := (0 : Int32)) hx hb hr rfl (fun t ht hW => ⟨rfl, by rw [ht]; exact hP, hD, hS.F ht⟩) hS.2.2 dX12_sail_26
set_option maxHeartbeats 4000000 in
set_option maxRecDepth 100000 in
theorem c_X12_board (l : Launch) (dC : Nat → ClassId) (dI : Nat → Nat → Nat) (cyB cyI cyZ cyO : ClassId) (h h_all h_has h_read h_test h_rest h_gets h_waits h_way h_good h_left : Nat) (M_h : Mem) (p1 : Int32) (p2 : Int32) (p3 : Int32) (p4 : Int32) (r : Int32) (hf : f_X12_board M_h p1 p2 p3 p4 = some r) : Met l yX12_board wsX12_board ({ frames := 2, cells := 0, slots := 0, locals := 43 } : Room) (PR dC dI cyB cyI cyZ cyO ([.ref h, .int p1, .int p2, .int p3, .int p4] : List Value) (wX12 cyB cyI cyZ cyO h h_all h_has h_read h_test h_rest h_gets h_waits h_way h_good h_left M_h)) (QR (some (.int r))) 0 0 (fun _ => False) := by
  refine Met.ofW (cc := cX12_board) (maxL := 9) (ret := (some .int)) (by decide) rfl ?_
  intro p e s m args below meth c s₁ B hml hv
  obtain ⟨rfl, hP, hCx⟩ := hv
  have hK := hCx.1
  have hN := hCx.2
  have hx := B.exec
  have hb := B.bytes
  have hr := B.returns
  have hts := atoms_spec (ws := wsX12_board) B.pre
  have hown : s.vm.findClass RX12 = some m.cls := findClass_of_methodNamed B.named
  have hlocks := B.notSynchronized
  have hin12 : ∀ w ∈ u_ws RX12 TX12 21, w ∈ wsX12_board := fun w h => List.mem_cons_of_mem _ (List.mem_append_right _ h)
  have kf7 := hts (.fieldLink RX12 7 "HoldSlipsModel" "all" "[I") (by decide +kernel)
  have hl := lv_entry ([.ref h, .int p1, .int p2, .int p3, .int p4] : List Value) (n := 9) (Nat.le_of_ble_eq_true rfl)
  rw [lg_entry_eq]
  generalize (lg_sl ([.ref h, .int p1, .int p2, .int p3, .int p4] : List Value) ++ List.replicate (9 - (lg_sl ([.ref h, .int p1, .int p2, .int p3, .int p4] : List Value)).length) Slot.unset).toArray = ls at hl ⊢
  have hl : lv_has ls 9 [(0, .ref h), (1, .int p1), (2, .int p2), (3, .int p3), (4, .int p4)] := hl
  have L94 : ∀ (K37 : Mem → Int32 → Int32 → Int32 → Int32 → Int32 → Int32 → Int32 → Option (Int32)) (hK37 : ∀ (x1 : Int32) (x2 : Int32) (x3 : Int32) (x4 : Int32) (x5 : Int32) (x6 : Int32) (x7 : Int32) (ls : Array Slot), K37 M_h x1 x2 x3 x4 x5 x6 x7 = some r → lv_has ls 9 [(0, .ref h), (1, .int x1), (2, .int x2), (3, .int x3), (4, .int x4), (5, .int x5), (6, .int x6), (7, .int x7)] → W p l e (headSpec wsX12_board ({ frames := 2, cells := 0, slots := 0, locals := 43 } : Room)).room s m ([.ref h, .int p1, .int p2, .int p3, .int p4] : List Value).toArray below meth c s.heap [] 0 0 (MQ below (QR (some (.int r))) ([.ref h, .int p1, .int p2, .int p3, .int p4] : List Value).toArray s 0 0 (fun _ => False)) (F0 m 37 ls [])), ∀ (x1 : Int32) (x2 : Int32) (x3 : Int32) (x4 : Int32) (x6 : Int32) (x7 : Int32) (x8 : Int32) (s0 : Int32) (s1 : Int32) (ls : Array Slot), f_X12_board_L94 K37 M_h x1 x2 x3 x4 x6 x7 x8 s0 s1 = some r → lv_has ls 9 [(0, .ref h), (1, .int x1), (2, .int x2), (3, .int x3), (4, .int x4), (6, .int x6), (7, .int x7), (8, .int x8)] → W p l e (headSpec wsX12_board ({ frames := 2, cells := 0, slots := 0, locals := 43 } : Room)).room s m ([.ref h, .int p1, .int p2, .int p3, .int p4] : List Value).toArray below meth c s.heap [] 0 0 (MQ below (QR (some (.int r))) ([.ref h, .int p1, .int p2, .int p3, .int p4] : List Value).toArray s 0 0 (fun _ => False)) (F0 m 94 ls [.int s0, .int s1]) := by
    intro K37 hK37 x1 x2 x3 x4 x6 x7 x8 s0 s1 ls hf hl
    rw [f_X12_board_L94] at hf
    refine lv_iadd hx hb dX12_board_94 ?_
    refine lv_istore (lv' := [(5, .int (s1 + s0)), (0, .ref h), (1, .int x1), (2, .int x2), (3, .int x3), (4, .int x4), (6, .int x6), (7, .int x7), (8, .int x8)]) hx hb dX12_board_95 hl (by decide) rfl (fun ls hl => ?_)
    refine lv_iload hx hb dX12_board_97 (lv_at hl 6 rfl) ?_
    refine lv_iload hx hb dX12_board_99 (lv_at hl 8 rfl) ?_
    refine lv_if_eq (tgt := 113) hx hb dX12_board_101 (by decide) (fun hc101 => ?_) (fun hc101 => ?_)
    · rw [if_pos hc101] at hf
      refine lv_iload_n hx hb dX12_board_113 rfl (lv_at hl 4 rfl) ?_
      refine lv_iadd hx hb dX12_board_114 ?_
      refine lv_istore (lv' := [(6, .int (x6 + x3)), (5, .int (s1 + s0)), (0, .ref h), (1, .int x1), (2, .int x2), (3, .int x3), (4, .int x4), (7, .int x7), (8, .int x8)]) hx hb dX12_board_115 hl (by decide) rfl (fun ls hl => ?_)
      refine lv_iinc (v := (x7 + (1 : Int32))) (lv' := [(7, .int (x7 + (1 : Int32))), (6, .int (x6 + x3)), (5, .int (s1 + s0)), (0, .ref h), (1, .int x1), (2, .int x2), (3, .int x3), (4, .int x4), (8, .int x8)]) hx hb dX12_board_117 hl (k := 7) rfl rfl (by decide) rfl (fun ls hl => ?_)
      refine lv_goto (tgt := 37) hx hb dX12_board_120 (by decide) ?_
      exact hK37 x1 x2 x3 x4 (s1 + s0) (x6 + x3) (x7 + (1 : Int32)) ls hf (lv_sub hl [3, 4, 5, 6, 7, 2, 1, 0] rfl)
    · rw [if_neg hc101] at hf
      refine lv_aload_n hx hb dX12_board_104 rfl (lv_at hl 1 rfl) ?_
      refine lv_iload hx hb dX12_board_105 (lv_at hl 7 rfl) ?_
      obtain ⟨r107, h107, hf⟩ := bd1_some hf
      refine ro_calli (va_runV (As := [.int x7]) (rest := [.int x6]) ⟨hx, hb, hml, hown, hts⟩ (c_X12_value l dC dI cyB cyI cyZ cyO h h_all h_has h_read h_test h_rest h_gets h_waits h_way h_good h_left M_h x7 r107 h107) (cwV 1 hts gX12_board_X12_value rfl rfl rfl (by decide +kernel) ⟨Nat.le_of_ble_eq_true rfl, Nat.le_of_ble_eq_true rfl⟩) ⟨PR.blind, va_recv hK hP (ci := 12) (q0 := 0) rfl rfl, fun U hU hW => ⟨rfl, by rw [hU]; exact hP, hCx.warm hW⟩⟩ rfl rfl hl.1 rfl (lv_room (Nat.le_of_ble_eq_true rfl)) dX12_board_107 ⟨Nat.zero_le _, Nat.zero_le _⟩) ?_
      refine lv_goto (tgt := 114) hx hb dX12_board_110 (by decide) ?_
      refine lv_iadd hx hb dX12_board_114 ?_
      refine lv_istore (lv' := [(6, .int (x6 + r107)), (5, .int (s1 + s0)), (0, .ref h), (1, .int x1), (2, .int x2), (3, .int x3), (4, .int x4), (7, .int x7), (8, .int x8)]) hx hb dX12_board_115 hl (by decide) rfl (fun ls hl => ?_)
      refine lv_iinc (v := (x7 + (1 : Int32))) (lv' := [(7, .int (x7 + (1 : Int32))), (6, .int (x6 + r107)), (5, .int (s1 + s0)), (0, .ref h), (1, .int x1), (2, .int x2), (3, .int x3), (4, .int x4), (8, .int x8)]) hx hb dX12_board_117 hl (k := 7) rfl rfl (by decide) rfl (fun ls hl => ?_)
      refine lv_goto (tgt := 37) hx hb dX12_board_120 (by decide) ?_
      exact hK37 x1 x2 x3 x4 (s1 + s0) (x6 + r107) (x7 + (1 : Int32)) ls hf (lv_sub hl [3, 4, 5, 6, 7, 2, 1, 0] rfl)
  have L75 : ∀ (K37 : Mem → Int32 → Int32 → Int32 → Int32 → Int32 → Int32 → Int32 → Option (Int32)) (hK37 : ∀ (x1 : Int32) (x2 : Int32) (x3 : Int32) (x4 : Int32) (x5 : Int32) (x6 : Int32) (x7 : Int32) (ls : Array Slot), K37 M_h x1 x2 x3 x4 x5 x6 x7 = some r → lv_has ls 9 [(0, .ref h), (1, .int x1), (2, .int x2), (3, .int x3), (4, .int x4), (5, .int x5), (6, .int x6), (7, .int x7)] → W p l e (headSpec wsX12_board ({ frames := 2, cells := 0, slots := 0, locals := 43 } : Room)).room s m ([.ref h, .int p1, .int p2, .int p3, .int p4] : List Value).toArray below meth c s.heap [] 0 0 (MQ below (QR (some (.int r))) ([.ref h, .int p1, .int p2, .int p3, .int p4] : List Value).toArray s 0 0 (fun _ => False)) (F0 m 37 ls [])), ∀ (x1 : Int32) (x2 : Int32) (x3 : Int32) (x4 : Int32) (x5 : Int32) (x6 : Int32) (x7 : Int32) (s0 : Int32) (ls : Array Slot), f_X12_board_L75 K37 M_h x1 x2 x3 x4 x5 x6 x7 s0 = some r → lv_has ls 9 [(0, .ref h), (1, .int x1), (2, .int x2), (3, .int x3), (4, .int x4), (5, .int x5), (6, .int x6), (7, .int x7)] → W p l e (headSpec wsX12_board ({ frames := 2, cells := 0, slots := 0, locals := 43 } : Room)).room s m ([.ref h, .int p1, .int p2, .int p3, .int p4] : List Value).toArray below meth c s.heap [] 0 0 (MQ below (QR (some (.int r))) ([.ref h, .int p1, .int p2, .int p3, .int p4] : List Value).toArray s 0 0 (fun _ => False)) (F0 m 75 ls [.int s0]) := by
    intro K37 hK37 x1 x2 x3 x4 x5 x6 x7 s0 ls hf hl
    rw [f_X12_board_L75] at hf
    refine lv_istore (lv' := [(8, .int s0), (0, .ref h), (1, .int x1), (2, .int x2), (3, .int x3), (4, .int x4), (5, .int x5), (6, .int x6), (7, .int x7)]) hx hb dX12_board_75 hl (by decide) rfl (fun ls hl => ?_)
    refine lv_iload hx hb dX12_board_77 (lv_at hl 6 rfl) ?_
    refine lv_iload hx hb dX12_board_79 (lv_at hl 0 rfl) ?_
    refine lv_if_eq (tgt := 93) hx hb dX12_board_81 (by decide) (fun hc81 => ?_) (fun hc81 => ?_)
    · rw [if_pos hc81] at hf
      refine lv_iload_n hx hb dX12_board_93 rfl (lv_at hl 3 rfl) ?_
      exact L94 K37 hK37 x1 x2 x3 x4 x6 x7 s0 x2 x5 ls hf (lv_sub hl [1, 2, 3, 4, 5, 7, 8, 0] rfl)
    · rw [if_neg hc81] at hf
      refine lv_aload_n hx hb dX12_board_84 rfl (lv_at hl 1 rfl) ?_
      refine lv_iload hx hb dX12_board_85 (lv_at hl 8 rfl) ?_
      obtain ⟨r87, h87, hf⟩ := bd1_some hf
      refine ro_calli (va_runV (As := [.int x7]) (rest := [.int x5]) ⟨hx, hb, hml, hown, hts⟩ (c_X12_value l dC dI cyB cyI cyZ cyO h h_all h_has h_read h_test h_rest h_gets h_waits h_way h_good h_left M_h x7 r87 h87) (cwV 1 hts gX12_board_X12_value rfl rfl rfl (by decide +kernel) ⟨Nat.le_of_ble_eq_true rfl, Nat.le_of_ble_eq_true rfl⟩) ⟨PR.blind, va_recv hK hP (ci := 12) (q0 := 0) rfl rfl, fun U hU hW => ⟨rfl, by rw [hU]; exact hP, hCx.warm hW⟩⟩ rfl rfl hl.1 rfl (lv_room (Nat.le_of_ble_eq_true rfl)) dX12_board_87 ⟨Nat.zero_le _, Nat.zero_le _⟩) ?_
      refine lv_goto (tgt := 94) hx hb dX12_board_90 (by decide) ?_
      exact L94 K37 hK37 x1 x2 x3 x4 x6 x7 s0 r87 x5 ls hf (lv_sub hl [1, 2, 3, 4, 5, 7, 8, 0] rfl)
  have L37 : ∀ (n : Nat), ∀ (x1 : Int32) (x2 : Int32) (x3 : Int32) (x4 : Int32) (x5 : Int32) (x6 : Int32) (x7 : Int32) (ls : Array Slot), f_X12_board_L37 n M_h x1 x2 x3 x4 x5 x6 x7 = some r → lv_has ls 9 [(0, .ref h), (1, .int x1), (2, .int x2), (3, .int x3), (4, .int x4), (5, .int x5), (6, .int x6), (7, .int x7)] → W p l e (headSpec wsX12_board ({ frames := 2, cells := 0, slots := 0, locals := 43 } : Room)).room s m ([.ref h, .int p1, .int p2, .int p3, .int p4] : List Value).toArray below meth c s.heap [] 0 0 (MQ below (QR (some (.int r))) ([.ref h, .int p1, .int p2, .int p3, .int p4] : List Value).toArray s 0 0 (fun _ => False)) (F0 m 37 ls []) := by
    intro n
    induction n with
    | zero => intro x1 x2 x3 x4 x5 x6 x7 ls hf hl; rw [f_X12_board_L37] at hf; cases hf
    | succ n ih =>
      intro x1 x2 x3 x4 x5 x6 x7 ls hf hl
      rw [f_X12_board_L37] at hf
      refine lv_iload hx hb dX12_board_37 (lv_at hl 7 rfl) ?_
      refine lv_aload_n hx hb dX12_board_39 rfl (lv_at hl 0 rfl) ?_
      refine va_get (D := (dC, dI)) (ci := 12) (v := .ref h_all) (C := RX12) (T := TX12) (N := 21) hx hb hts hin12 hown hK hP 0 rfl rfl 0 (by decide) kf7 (fun _ h9 => h9) rfl dX12_board_40 ?_
      refine lv_iconst (v := (4 : Int32)) hx hb dX12_board_43 (by decide) ?_
      refine va_iald hx hb hK hP 1 1 rfl rfl (show ¬ ((4 : Int32) < 0 ∨ 11160 ≤ ((4 : Int32)).toNatClampNeg) by decide) dX12_board_44 ?_
      refine lv_icmp_ge (tgt := 123) hx hb dX12_board_45 (by decide) (fun hc45 => ?_) (fun hc45 => ?_)
      · rw [if_pos hc45] at hf
        refine lv_iload hx hb dX12_board_123 (lv_at hl 4 rfl) ?_
        refine lv_if_ne (tgt := 133) hx hb dX12_board_125 (by decide) (fun hc125 => ?_) (fun hc125 => ?_)
        · rw [if_neg hc125] at hf
          refine lv_iload hx hb dX12_board_133 (lv_at hl 4 rfl) ?_
          refine lv_iconst (v := (1 : Int32)) hx hb dX12_board_135 (by decide) ?_
          refine lv_icmp_ne (tgt := 144) hx hb dX12_board_136 (by decide) (fun hc136 => ?_) (fun hc136 => ?_)
          · rw [if_neg hc136] at hf
            refine lv_iload hx hb dX12_board_144 (lv_at hl 5 rfl) ?_
            refine lv_aload_n hx hb dX12_board_146 rfl (lv_at hl 0 rfl) ?_
            refine va_get (D := (dC, dI)) (ci := 12) (v := .ref h_all) (C := RX12) (T := TX12) (N := 21) hx hb hts hin12 hown hK hP 0 rfl rfl 0 (by decide) kf7 (fun _ h9 => h9) rfl dX12_board_147 ?_
            refine lv_bipush (v := (10 : Int32)) hx hb dX12_board_150 (by decide) ?_
            refine va_iald hx hb hK hP 1 1 rfl rfl (show ¬ ((10 : Int32) < 0 ∨ 11160 ≤ ((10 : Int32)).toNatClampNeg) by decide) dX12_board_152 ?_
            refine lv_icmp_le (tgt := 160) hx hb dX12_board_153 (by decide) (fun hc153 => ?_) (fun hc153 => ?_)
            · rw [if_pos hc153] at hf
              refine lv_iconst (v := (0 : Int32)) hx hb dX12_board_160 (by decide) ?_
              have hq := Option.some.inj hf
              subst hq
              exact W.iret (v := (0 : Int32)) hx hb hr (fun t ht hW => ⟨rfl, ht⟩) (fun q h => by cases h) dX12_board_161
            · rw [if_neg hc153] at hf
              refine lv_iconst (v := (1 : Int32)) hx hb dX12_board_156 (by decide) ?_
              refine lv_goto (tgt := 161) hx hb dX12_board_157 (by decide) ?_
              have hq := Option.some.inj hf
              subst hq
              exact W.iret (v := (1 : Int32)) hx hb hr (fun t ht hW => ⟨rfl, ht⟩) (fun q h => by cases h) dX12_board_161
          · rw [if_pos hc136] at hf
            refine lv_iload hx hb dX12_board_139 (lv_at hl 6 rfl) ?_
            refine lv_goto (tgt := 161) hx hb dX12_board_141 (by decide) ?_
            have hq := Option.some.inj hf
            subst hq
            exact W.iret (v := x6) hx hb hr (fun t ht hW => ⟨rfl, ht⟩) (fun q h => by cases h) dX12_board_161
        · rw [if_pos hc125] at hf
          refine lv_iload hx hb dX12_board_128 (lv_at hl 5 rfl) ?_
          refine lv_goto (tgt := 161) hx hb dX12_board_130 (by decide) ?_
          have hq := Option.some.inj hf
          subst hq
          exact W.iret (v := x5) hx hb hr (fun t ht hW => ⟨rfl, ht⟩) (fun q h => by cases h) dX12_board_161
      · rw [if_neg hc45] at hf
        refine lv_aload_n hx hb dX12_board_48 rfl (lv_at hl 0 rfl) ?_
        refine lv_iload hx hb dX12_board_49 (lv_at hl 7 rfl) ?_
        obtain ⟨r51, h51, hf⟩ := bd1_some hf
        refine ro_calli (va_runV (As := [.int x7]) (rest := []) ⟨hx, hb, hml, hown, hts⟩ (c_X12_lies l dC dI cyB cyI cyZ cyO h h_all h_has h_read h_test h_rest h_gets h_waits h_way h_good h_left M_h x7 r51 h51) (cwV 1 hts gX12_board_X12_lies rfl rfl rfl (by decide +kernel) ⟨Nat.le_of_ble_eq_true rfl, Nat.le_of_ble_eq_true rfl⟩) ⟨PR.blind, va_recv hK hP (ci := 12) (q0 := 0) rfl rfl, fun U hU hW => ⟨rfl, by rw [hU]; exact hP, hCx.warm hW⟩⟩ rfl rfl hl.1 rfl (lv_room (Nat.le_of_ble_eq_true rfl)) dX12_board_51 ⟨Nat.zero_le _, Nat.zero_le _⟩) ?_
        refine lv_if_ne (tgt := 60) hx hb dX12_board_54 (by decide) (fun hc54 => ?_) (fun hc54 => ?_)
        · rw [if_neg hc54] at hf
          refine lv_iload_n hx hb dX12_board_60 rfl (lv_at hl 1 rfl) ?_
          refine lv_iload hx hb dX12_board_61 (lv_at hl 7 rfl) ?_
          refine lv_ishr hx hb dX12_board_63 ?_
          refine lv_iconst (v := (1 : Int32)) hx hb dX12_board_64 (by decide) ?_
          refine lv_iand hx hb dX12_board_65 ?_
          refine lv_iconst (v := (1 : Int32)) hx hb dX12_board_66 (by decide) ?_
          refine lv_icmp_ne (tgt := 74) hx hb dX12_board_67 (by decide) (fun hc67 => ?_) (fun hc67 => ?_)
          · rw [if_neg hc67] at hf
            refine lv_iconst (v := (0 : Int32)) hx hb dX12_board_74 (by decide) ?_
            exact L75 (f_X12_board_L37 n) (fun z0 z1 z2 z3 z4 z5 z6 z7 z8 z9 => ih z0 z1 z2 z3 z4 z5 z6 z7 z8 z9) x1 x2 x3 x4 x5 x6 x7 (0 : Int32) ls hf (lv_sub hl [0, 1, 2, 3, 4, 5, 6, 7] rfl)
          · rw [if_pos hc67] at hf
            refine lv_iconst (v := (1 : Int32)) hx hb dX12_board_70 (by decide) ?_
            refine lv_goto (tgt := 75) hx hb dX12_board_71 (by decide) ?_
            exact L75 (f_X12_board_L37 n) (fun z0 z1 z2 z3 z4 z5 z6 z7 z8 z9 => ih z0 z1 z2 z3 z4 z5 z6 z7 z8 z9) x1 x2 x3 x4 x5 x6 x7 (1 : Int32) ls hf (lv_sub hl [0, 1, 2, 3, 4, 5, 6, 7] rfl)
        · rw [if_pos hc54] at hf
          refine lv_goto (tgt := 117) hx hb dX12_board_57 (by decide) ?_
          refine lv_iinc (v := (x7 + (1 : Int32))) (lv' := [(7, .int (x7 + (1 : Int32))), (0, .ref h), (1, .int x1), (2, .int x2), (3, .int x3), (4, .int x4), (5, .int x5), (6, .int x6)]) hx hb dX12_board_117 hl (k := 7) rfl rfl (by decide) rfl (fun ls hl => ?_)
          refine lv_goto (tgt := 37) hx hb dX12_board_120 (by decide) ?_
          exact ih x1 x2 x3 x4 x5 x6 (x7 + (1 : Int32)) ls hf (lv_sub hl [1, 2, 3, 4, 5, 6, 7, 0] rfl)
  rw [f_X12_board] at hf
  refine lv_iload_n hx hb dX12_board_0 rfl (lv_at hl 2 rfl) ?_
  refine lv_if_lt (tgt := 26) hx hb dX12_board_1 (by decide) (fun hc1 => ?_) (fun hc1 => ?_)
  · rw [if_pos hc1] at hf
    refine lv_iconst (v := (-1 : Int32)) hx hb dX12_board_26 (by decide) ?_
    have hq := Option.some.inj hf
    subst hq
    exact W.iret (v := (-1 : Int32)) hx hb hr (fun t ht hW => ⟨rfl, ht⟩) (fun q h => by cases h) dX12_board_27
  · rw [if_neg hc1] at hf
    refine lv_iload_n hx hb dX12_board_4 rfl (lv_at hl 2 rfl) ?_
    refine lv_iload_n hx hb dX12_board_5 rfl (lv_at hl 3 rfl) ?_
    refine lv_icmp_gt (tgt := 26) hx hb dX12_board_6 (by decide) (fun hc6 => ?_) (fun hc6 => ?_)
    · rw [if_pos hc6] at hf
      refine lv_iconst (v := (-1 : Int32)) hx hb dX12_board_26 (by decide) ?_
      have hq := Option.some.inj hf
      subst hq
      exact W.iret (v := (-1 : Int32)) hx hb hr (fun t ht hW => ⟨rfl, ht⟩) (fun q h => by cases h) dX12_board_27
    · rw [if_neg hc6] at hf
      refine lv_iload_n hx hb dX12_board_9 rfl (lv_at hl 3 rfl) ?_
      refine lv_sipush (v := (1000 : Int32)) hx hb dX12_board_10 (by decide) ?_
      refine lv_icmp_gt (tgt := 26) hx hb dX12_board_13 (by decide) (fun hc13 => ?_) (fun hc13 => ?_)
      · rw [if_pos hc13] at hf
        refine lv_iconst (v := (-1 : Int32)) hx hb dX12_board_26 (by decide) ?_
        have hq := Option.some.inj hf
        subst hq
        exact W.iret (v := (-1 : Int32)) hx hb hr (fun t ht hW => ⟨rfl, ht⟩) (fun q h => by cases h) dX12_board_27
      · rw [if_neg hc13] at hf
        refine lv_iload hx hb dX12_board_16 (lv_at hl 4 rfl) ?_
        refine lv_iconst (v := (0 : Int32)) hx hb dX12_board_18 (by decide) ?_
        refine lv_iconst (v := (2 : Int32)) hx hb dX12_board_19 (by decide) ?_
        obtain ⟨r20, h20, hf⟩ := bd1_some hf
        have hPc := hP.sub (ws' := ([] : va_W)) [] rfl
        refine ro_calli (va_runS (As := [.int p4, .int (0 : Int32), .int (2 : Int32)]) (rest := []) ⟨hx, hb, hml, hown, hts⟩ (c_X12_isIn l dC dI cyB cyI cyZ cyO p4 (0 : Int32) (2 : Int32) r20 h20) (va_cwS 3 hts gX12_board_X12_isIn rfl rfl rfl (by decide +kernel) ⟨Nat.le_of_ble_eq_true rfl, Nat.le_of_ble_eq_true rfl⟩) ⟨PR.blind, fun U hU hW => ⟨rfl, by rw [hU]; exact hPc, hCx.warm hW⟩⟩ rfl rfl hl.1 rfl (lv_room (Nat.le_of_ble_eq_true rfl)) dX12_board_20 ⟨Nat.zero_le _, Nat.zero_le _⟩) ?_
        refine lv_if_ne (tgt := 28) hx hb dX12_board_23 (by decide) (fun hc23 => ?_) (fun hc23 => ?_)
        · rw [if_neg hc23] at hf
          refine lv_iconst (v := (0 : Int32)) hx hb dX12_board_28 (by decide) ?_
          refine lv_istore (lv' := [(5, .int (0 : Int32)), (0, .ref h), (1, .int p1), (2, .int p2), (3, .int p3), (4, .int p4)]) hx hb dX12_board_29 hl (by decide) rfl (fun ls hl => ?_)
          refine lv_iconst (v := (0 : Int32)) hx hb dX12_board_31 (by decide) ?_
          refine lv_istore (lv' := [(6, .int (0 : Int32)), (5, .int (0 : Int32)), (0, .ref h), (1, .int p1), (2, .int p2), (3, .int p3), (4, .int p4)]) hx hb dX12_board_32 hl (by decide) rfl (fun ls hl => ?_)
          refine lv_iconst (v := (0 : Int32)) hx hb dX12_board_34 (by decide) ?_
          refine lv_istore (lv' := [(7, .int (0 : Int32)), (6, .int (0 : Int32)), (5, .int (0 : Int32)), (0, .ref h), (1, .int p1), (2, .int p2), (3, .int p3), (4, .int p4)]) hx hb dX12_board_35 hl (by decide) rfl (fun ls hl => ?_)
          exact L37 FU p1 p2 p3 p4 (0 : Int32) (0 : Int32) (0 : Int32) ls hf (lv_sub hl [3, 4, 5, 6, 7, 2, 1, 0] rfl)
        · rw [if_pos hc23] at hf
          refine lv_iconst (v := (-1 : Int32)) hx hb dX12_board_26 (by decide) ?_
          have hq := Option.some.inj hf
          subst hq
          exact W.iret (v := (-1 : Int32)) hx hb hr (fun t ht hW => ⟨rfl, ht⟩) (fun q h => by cases h) dX12_board_27
set_option maxHeartbeats 4000000 in
set_option maxRecDepth 100000 in
theorem c_X12_loan (l : Launch) (dC : Nat → ClassId) (dI : Nat → Nat → Nat) (cyB cyI cyZ cyO : ClassId) (h h_all h_has h_read h_test h_rest h_gets h_waits h_way h_good h_left : Nat) (sz : Nat) (M_h : Mem) (p1 : Int32) (p2 : Int32) (p3 : Int32) (p4 : Int32) (r : Int32) (R_h : Mem) (hf : f_X12_loan M_h p1 p2 p3 p4 = some (r, R_h)) : Met l yX12_loan wsX12_loan ({ frames := 2, cells := 0, slots := 0, locals := 43 } : Room) (PW dC dI cyB cyI cyZ cyO ([.ref h, .int p1, .int p2, .int p3, .int p4] : List Value) (wX12 cyB cyI cyZ cyO h h_all h_has h_read h_test h_rest h_gets h_waits h_way h_good h_left M_h) sz) (QW dC dI (some (.int r)) (wX12 cyB cyI cyZ cyO h h_all h_has h_read h_test h_rest h_gets h_waits h_way h_good h_left R_h) (va_A (wX12 cyB cyI cyZ cyO h h_all h_has h_read h_test h_rest h_gets h_waits h_way h_good h_left M_h) sz)) 0 0 (va_A (wX12 cyB cyI cyZ cyO h h_all h_has h_read h_test h_rest h_gets h_waits h_way h_good h_left M_h) sz) := by
  refine Met.ofW (cc := cX12_loan) (maxL := 6) (ret := (some .int)) (by decide) rfl ?_
  intro p e s m args below meth c s₁ B hml hv
  obtain ⟨rfl, hsz, hP, hCx, hD0⟩ := hv
  have hK := hCx.1
  have hN := hCx.2
  have hx := B.exec
  have hb := B.bytes
  have hr := B.returns
  have hts := atoms_spec (ws := wsX12_loan) B.pre
  have hown : s.vm.findClass RX12 = some m.cls := findClass_of_methodNamed B.named
  have hlocks := B.notSynchronized
  have hin12 : ∀ w ∈ u_ws RX12 TX12 21, w ∈ wsX12_loan := fun w h => List.mem_cons_of_mem _ (List.mem_append_right _ h)
  have kf7 := hts (.fieldLink RX12 7 "HoldSlipsModel" "all" "[I") (by decide +kernel)
  subst hsz
  have hD := hD0.self (sz := s.heap.size)
  generalize hAe : va_A (wX12 cyB cyI cyZ cyO h h_all h_has h_read h_test h_rest h_gets h_waits h_way h_good h_left M_h) s.heap.size = A at hD ⊢
  have hA : ∀ q : Nat, s.heap.size ≤ q → A q := fun q h => by rw [← hAe]; exact Or.inr h
  have hS : va_S A s.heap s.heap [] := va_S.rf
  have hl := lv_entry ([.ref h, .int p1, .int p2, .int p3, .int p4] : List Value) (n := 6) (Nat.le_of_ble_eq_true rfl)
  rw [lg_entry_eq]
  generalize (lg_sl ([.ref h, .int p1, .int p2, .int p3, .int p4] : List Value) ++ List.replicate (6 - (lg_sl ([.ref h, .int p1, .int p2, .int p3, .int p4] : List Value)).length) Slot.unset).toArray = ls at hl ⊢
  have hl : lv_has ls 6 [(0, .ref h), (1, .int p1), (2, .int p2), (3, .int p3), (4, .int p4)] := hl
  rw [f_X12_loan] at hf
  refine lv_aload_n hx hb dX12_loan_0 rfl (lv_at hl 0 rfl) ?_
  refine va_get (D := (dC, dI)) (ci := 12) (v := .ref h_all) (C := RX12) (T := TX12) (N := 21) hx hb hts hin12 hown hK hP 0 rfl rfl 0 (by decide) kf7 (fun _ h9 => h9) rfl dX12_loan_1 ?_
  refine lv_iconst (v := (1 : Int32)) hx hb dX12_loan_4 (by decide) ?_
  refine va_iald hx hb hK hP 1 1 rfl rfl (show ¬ ((1 : Int32) < 0 ∨ 11160 ≤ ((1 : Int32)).toNatClampNeg) by decide) dX12_loan_5 ?_
  refine lv_iconst (v := (1 : Int32)) hx hb dX12_loan_6 (by decide) ?_
  refine lv_icmp_eq (tgt := 64) hx hb dX12_loan_7 (by decide) (fun hc7 => ?_) (fun hc7 => ?_)
  · rw [if_pos hc7] at hf
    refine lv_iconst (v := (-1 : Int32)) hx hb dX12_loan_64 (by decide) ?_
    obtain ⟨hq0, hq1⟩ := pj2 hf
    subst hq0
    subst hq1
    exact W.iret (v := (-1 : Int32)) hx hb hr (fun t ht hW => ⟨rfl, by rw [ht]; exact hP, hD, hS.F ht⟩) hS.2.2 dX12_loan_65
  · rw [if_neg hc7] at hf
    refine lv_aload_n hx hb dX12_loan_10 rfl (lv_at hl 0 rfl) ?_
    refine va_get (D := (dC, dI)) (ci := 12) (v := .ref h_all) (C := RX12) (T := TX12) (N := 21) hx hb hts hin12 hown hK hP 0 rfl rfl 0 (by decide) kf7 (fun _ h9 => h9) rfl dX12_loan_11 ?_
    refine lv_iconst (v := (5 : Int32)) hx hb dX12_loan_14 (by decide) ?_
    refine va_iald hx hb hK hP 1 1 rfl rfl (show ¬ ((5 : Int32) < 0 ∨ 11160 ≤ ((5 : Int32)).toNatClampNeg) by decide) dX12_loan_15 ?_
    refine lv_bipush (v := (20 : Int32)) hx hb dX12_loan_16 (by decide) ?_
    refine lv_icmp_eq (tgt := 64) hx hb dX12_loan_18 (by decide) (fun hc18 => ?_) (fun hc18 => ?_)
    · rw [if_pos hc18] at hf
      refine lv_iconst (v := (-1 : Int32)) hx hb dX12_loan_64 (by decide) ?_
      obtain ⟨hq0, hq1⟩ := pj2 hf
      subst hq0
      subst hq1
      exact W.iret (v := (-1 : Int32)) hx hb hr (fun t ht hW => ⟨rfl, by rw [ht]; exact hP, hD, hS.F ht⟩) hS.2.2 dX12_loan_65
    · rw [if_neg hc18] at hf
      refine lv_aload_n hx hb dX12_loan_21 rfl (lv_at hl 0 rfl) ?_
      refine lv_iload_n hx hb dX12_loan_22 rfl (lv_at hl 1 rfl) ?_
      obtain ⟨r23, h23, hf⟩ := bd1_some hf
      refine ro_calli (va_runV (As := [.int p1]) (rest := []) ⟨hx, hb, hml, hown, hts⟩ (c_X12_isCitizen l dC dI cyB cyI cyZ cyO h h_all h_has h_read h_test h_rest h_gets h_waits h_way h_good h_left M_h p1 r23 h23) (cwV 1 hts gX12_loan_X12_isCitizen rfl rfl rfl (by decide +kernel) ⟨Nat.le_of_ble_eq_true rfl, Nat.le_of_ble_eq_true rfl⟩) ⟨PR.blind, va_recv hK hP (ci := 12) (q0 := 0) rfl rfl, fun U hU hW => ⟨rfl, by rw [hU]; exact hP, hCx.warm hW⟩⟩ rfl rfl hl.1 rfl (lv_room (Nat.le_of_ble_eq_true rfl)) dX12_loan_23 ⟨Nat.zero_le _, Nat.zero_le _⟩) ?_
      refine lv_if_eq (tgt := 64) hx hb dX12_loan_26 (by decide) (fun hc26 => ?_) (fun hc26 => ?_)
      · rw [if_pos hc26] at hf
        refine lv_iconst (v := (-1 : Int32)) hx hb dX12_loan_64 (by decide) ?_
        obtain ⟨hq0, hq1⟩ := pj2 hf
        subst hq0
        subst hq1
        exact W.iret (v := (-1 : Int32)) hx hb hr (fun t ht hW => ⟨rfl, by rw [ht]; exact hP, hD, hS.F ht⟩) hS.2.2 dX12_loan_65
      · rw [if_neg hc26] at hf
        refine lv_aload_n hx hb dX12_loan_29 rfl (lv_at hl 0 rfl) ?_
        refine lv_iload_n hx hb dX12_loan_30 rfl (lv_at hl 2 rfl) ?_
        obtain ⟨r31, h31, hf⟩ := bd1_some hf
        refine ro_calli (va_runV (As := [.int p2]) (rest := []) ⟨hx, hb, hml, hown, hts⟩ (c_X12_isCitizen l dC dI cyB cyI cyZ cyO h h_all h_has h_read h_test h_rest h_gets h_waits h_way h_good h_left M_h p2 r31 h31) (cwV 1 hts gX12_loan_X12_isCitizen rfl rfl rfl (by decide +kernel) ⟨Nat.le_of_ble_eq_true rfl, Nat.le_of_ble_eq_true rfl⟩) ⟨PR.blind, va_recv hK hP (ci := 12) (q0 := 0) rfl rfl, fun U hU hW => ⟨rfl, by rw [hU]; exact hP, hCx.warm hW⟩⟩ rfl rfl hl.1 rfl (lv_room (Nat.le_of_ble_eq_true rfl)) dX12_loan_31 ⟨Nat.zero_le _, Nat.zero_le _⟩) ?_
        refine lv_if_eq (tgt := 64) hx hb dX12_loan_34 (by decide) (fun hc34 => ?_) (fun hc34 => ?_)
        · rw [if_pos hc34] at hf
          refine lv_iconst (v := (-1 : Int32)) hx hb dX12_loan_64 (by decide) ?_
          obtain ⟨hq0, hq1⟩ := pj2 hf
          subst hq0
          subst hq1
          exact W.iret (v := (-1 : Int32)) hx hb hr (fun t ht hW => ⟨rfl, by rw [ht]; exact hP, hD, hS.F ht⟩) hS.2.2 dX12_loan_65
        · rw [if_neg hc34] at hf
          refine lv_iload_n hx hb dX12_loan_37 rfl (lv_at hl 1 rfl) ?_
          refine lv_iload_n hx hb dX12_loan_38 rfl (lv_at hl 2 rfl) ?_
          refine lv_icmp_eq (tgt := 64) hx hb dX12_loan_39 (by decide) (fun hc39 => ?_) (fun hc39 => ?_)
          · rw [if_pos hc39] at hf
            refine lv_iconst (v := (-1 : Int32)) hx hb dX12_loan_64 (by decide) ?_
            obtain ⟨hq0, hq1⟩ := pj2 hf
            subst hq0
            subst hq1
            exact W.iret (v := (-1 : Int32)) hx hb hr (fun t ht hW => ⟨rfl, by rw [ht]; exact hP, hD, hS.F ht⟩) hS.2.2 dX12_loan_65
          · rw [if_neg hc39] at hf
            refine lv_iload_n hx hb dX12_loan_42 rfl (lv_at hl 3 rfl) ?_
            refine lv_iconst (v := (1 : Int32)) hx hb dX12_loan_43 (by decide) ?_
            refine lv_sipush (v := (10000 : Int32)) hx hb dX12_loan_44 (by decide) ?_
            obtain ⟨r47, h47, hf⟩ := bd1_some hf
            have hPc := hP.sub (ws' := ([] : va_W)) [] rfl
            refine ro_calli (va_runS (As := [.int p3, .int (1 : Int32), .int (10000 : Int32)]) (rest := []) ⟨hx, hb, hml, hown, hts⟩ (c_X12_isIn l dC dI cyB cyI cyZ cyO p3 (1 : Int32) (10000 : Int32) r47 h47) (va_cwS 3 hts gX12_loan_X12_isIn rfl rfl rfl (by decide +kernel) ⟨Nat.le_of_ble_eq_true rfl, Nat.le_of_ble_eq_true rfl⟩) ⟨PR.blind, fun U hU hW => ⟨rfl, by rw [hU]; exact hPc, hCx.warm hW⟩⟩ rfl rfl hl.1 rfl (lv_room (Nat.le_of_ble_eq_true rfl)) dX12_loan_47 ⟨Nat.zero_le _, Nat.zero_le _⟩) ?_
            refine lv_if_eq (tgt := 64) hx hb dX12_loan_50 (by decide) (fun hc50 => ?_) (fun hc50 => ?_)
            · rw [if_pos hc50] at hf
              refine lv_iconst (v := (-1 : Int32)) hx hb dX12_loan_64 (by decide) ?_
              obtain ⟨hq0, hq1⟩ := pj2 hf
              subst hq0
              subst hq1
              exact W.iret (v := (-1 : Int32)) hx hb hr (fun t ht hW => ⟨rfl, by rw [ht]; exact hP, hD, hS.F ht⟩) hS.2.2 dX12_loan_65
            · rw [if_neg hc50] at hf
              refine lv_iload hx hb dX12_loan_53 (lv_at hl 4 rfl) ?_
              refine lv_iconst (v := (0 : Int32)) hx hb dX12_loan_55 (by decide) ?_
              refine lv_bipush (v := (100 : Int32)) hx hb dX12_loan_56 (by decide) ?_
              obtain ⟨r58, h58, hf⟩ := bd1_some hf
              have hPc := hP.sub (ws' := ([] : va_W)) [] rfl
              refine ro_calli (va_runS (As := [.int p4, .int (0 : Int32), .int (100 : Int32)]) (rest := []) ⟨hx, hb, hml, hown, hts⟩ (c_X12_isIn l dC dI cyB cyI cyZ cyO p4 (0 : Int32) (100 : Int32) r58 h58) (va_cwS 3 hts gX12_loan_X12_isIn rfl rfl rfl (by decide +kernel) ⟨Nat.le_of_ble_eq_true rfl, Nat.le_of_ble_eq_true rfl⟩) ⟨PR.blind, fun U hU hW => ⟨rfl, by rw [hU]; exact hPc, hCx.warm hW⟩⟩ rfl rfl hl.1 rfl (lv_room (Nat.le_of_ble_eq_true rfl)) dX12_loan_58 ⟨Nat.zero_le _, Nat.zero_le _⟩) ?_
              refine lv_if_ne (tgt := 66) hx hb dX12_loan_61 (by decide) (fun hc61 => ?_) (fun hc61 => ?_)
              · rw [if_neg hc61] at hf
                refine lv_sipush (v := (200 : Int32)) hx hb dX12_loan_66 (by decide) ?_
                refine lv_iconst (v := (4 : Int32)) hx hb dX12_loan_69 (by decide) ?_
                refine lv_aload_n hx hb dX12_loan_70 rfl (lv_at hl 0 rfl) ?_
                refine va_get (D := (dC, dI)) (ci := 12) (v := .ref h_all) (C := RX12) (T := TX12) (N := 21) hx hb hts hin12 hown hK hP 0 rfl rfl 0 (by decide) kf7 (fun _ h9 => h9) rfl dX12_loan_71 ?_
                refine lv_iconst (v := (5 : Int32)) hx hb dX12_loan_74 (by decide) ?_
                refine va_iald hx hb hK hP 1 1 rfl rfl (show ¬ ((5 : Int32) < 0 ∨ 11160 ≤ ((5 : Int32)).toNatClampNeg) by decide) dX12_loan_75 ?_
                refine lv_imul hx hb dX12_loan_76 ?_
                refine lv_iadd hx hb dX12_loan_77 ?_
                refine lv_istore (lv' := [(5, .int ((200 : Int32) + ((4 : Int32) * (M_h 0 ((5 : Int32)).toNatClampNeg)))), (0, .ref h), (1, .int p1), (2, .int p2), (3, .int p3), (4, .int p4)]) hx hb dX12_loan_78 hl (by decide) rfl (fun ls hl => ?_)
                refine lv_aload_n hx hb dX12_loan_80 rfl (lv_at hl 1 rfl) ?_
                refine va_get (D := (dC, dI)) (ci := 12) (v := .ref h_all) (C := RX12) (T := TX12) (N := 21) hx hb hts hin12 hown hK hP 0 rfl rfl 0 (by decide) kf7 (fun _ h9 => h9) rfl dX12_loan_81 ?_
                refine lv_iload hx hb dX12_loan_84 (lv_at hl 0 rfl) ?_
                refine lv_iload_n hx hb dX12_loan_86 rfl (lv_at hl 2 rfl) ?_
                have hi87 := if_no hf
                rw [if_neg hi87] at hf
                refine va_iast hx hb hK hP hD hS 1 1 rfl rfl hi87 dX12_loan_87 (fun H locs hP hD hS => ?_)
                obtain ⟨M_h_87, eM_h_87, hf⟩ := wr_some hf
                have hP : va_P (dC, dI) vwCl (wX12 cyB cyI cyZ cyO h h_all h_has h_read h_test h_rest h_gets h_waits h_way h_good h_left M_h_87) H := by rw [eM_h_87]; exact hP
                have hD : va_D A (wX12 cyB cyI cyZ cyO h h_all h_has h_read h_test h_rest h_gets h_waits h_way h_good h_left M_h_87) := by rw [eM_h_87]; exact hD
                refine lv_aload_n hx hb dX12_loan_88 rfl (lv_at hl 1 rfl) ?_
                refine va_get (D := (dC, dI)) (ci := 12) (v := .ref h_all) (C := RX12) (T := TX12) (N := 21) hx hb hts hin12 hown hK hP 0 rfl rfl 0 (by decide) kf7 (fun _ h9 => h9) rfl dX12_loan_89 ?_
                refine lv_iload hx hb dX12_loan_92 (lv_at hl 0 rfl) ?_
                refine lv_iconst (v := (1 : Int32)) hx hb dX12_loan_94 (by decide) ?_
                refine lv_iadd hx hb dX12_loan_95 ?_
                refine lv_iload_n hx hb dX12_loan_96 rfl (lv_at hl 3 rfl) ?_
                have hi97 := if_no hf
                rw [if_neg hi97] at hf
                refine va_iast hx hb hK hP hD hS 1 1 rfl rfl hi97 dX12_loan_97 (fun H locs hP hD hS => ?_)
                obtain ⟨M_h_97, eM_h_97, hf⟩ := wr_some hf
                have hP : va_P (dC, dI) vwCl (wX12 cyB cyI cyZ cyO h h_all h_has h_read h_test h_rest h_gets h_waits h_way h_good h_left M_h_97) H := by rw [eM_h_97]; exact hP
                have hD : va_D A (wX12 cyB cyI cyZ cyO h h_all h_has h_read h_test h_rest h_gets h_waits h_way h_good h_left M_h_97) := by rw [eM_h_97]; exact hD
                refine lv_aload_n hx hb dX12_loan_98 rfl (lv_at hl 1 rfl) ?_
                refine va_get (D := (dC, dI)) (ci := 12) (v := .ref h_all) (C := RX12) (T := TX12) (N := 21) hx hb hts hin12 hown hK hP 0 rfl rfl 0 (by decide) kf7 (fun _ h9 => h9) rfl dX12_loan_99 ?_
                refine lv_iload hx hb dX12_loan_102 (lv_at hl 0 rfl) ?_
                refine lv_iconst (v := (2 : Int32)) hx hb dX12_loan_104 (by decide) ?_
                refine lv_iadd hx hb dX12_loan_105 ?_
                refine lv_iload_n hx hb dX12_loan_106 rfl (lv_at hl 4 rfl) ?_
                have hi107 := if_no hf
                rw [if_neg hi107] at hf
                refine va_iast hx hb hK hP hD hS 1 1 rfl rfl hi107 dX12_loan_107 (fun H locs hP hD hS => ?_)
                obtain ⟨M_h_107, eM_h_107, hf⟩ := wr_some hf
                have hP : va_P (dC, dI) vwCl (wX12 cyB cyI cyZ cyO h h_all h_has h_read h_test h_rest h_gets h_waits h_way h_good h_left M_h_107) H := by rw [eM_h_107]; exact hP
                have hD : va_D A (wX12 cyB cyI cyZ cyO h h_all h_has h_read h_test h_rest h_gets h_waits h_way h_good h_left M_h_107) := by rw [eM_h_107]; exact hD
                refine lv_aload_n hx hb dX12_loan_108 rfl (lv_at hl 1 rfl) ?_
                refine va_get (D := (dC, dI)) (ci := 12) (v := .ref h_all) (C := RX12) (T := TX12) (N := 21) hx hb hts hin12 hown hK hP 0 rfl rfl 0 (by decide) kf7 (fun _ h9 => h9) rfl dX12_loan_109 ?_
                refine lv_iload hx hb dX12_loan_112 (lv_at hl 0 rfl) ?_
                refine lv_iconst (v := (3 : Int32)) hx hb dX12_loan_114 (by decide) ?_
                refine lv_iadd hx hb dX12_loan_115 ?_
                refine lv_iload hx hb dX12_loan_116 (lv_at hl 5 rfl) ?_
                have hi118 := if_no hf
                rw [if_neg hi118] at hf
                refine va_iast hx hb hK hP hD hS 1 1 rfl rfl hi118 dX12_loan_118 (fun H locs hP hD hS => ?_)
                obtain ⟨M_h_118, eM_h_118, hf⟩ := wr_some hf
                have hP : va_P (dC, dI) vwCl (wX12 cyB cyI cyZ cyO h h_all h_has h_read h_test h_rest h_gets h_waits h_way h_good h_left M_h_118) H := by rw [eM_h_118]; exact hP
                have hD : va_D A (wX12 cyB cyI cyZ cyO h h_all h_has h_read h_test h_rest h_gets h_waits h_way h_good h_left M_h_118) := by rw [eM_h_118]; exact hD
                refine lv_aload_n hx hb dX12_loan_119 rfl (lv_at hl 1 rfl) ?_
                refine lv_iload_n hx hb dX12_loan_120 rfl (lv_at hl 2 rfl) ?_
                refine lv_iconst (v := (4 : Int32)) hx hb dX12_loan_121 (by decide) ?_
                refine lv_iload_n hx hb dX12_loan_122 rfl (lv_at hl 4 rfl) ?_
                refine lv_ineg hx hb dX12_loan_123 ?_
                obtain ⟨M_h_124, h124, hf⟩ := bd1_some hf
                refine wr_callv (wc := (wX12 cyB cyI cyZ cyO h h_all h_has h_read h_test h_rest h_gets h_waits h_way h_good h_left M_h_118)) (wr := ([] : va_W)) (w1 := (wX12 cyB cyI cyZ cyO h h_all h_has h_read h_test h_rest h_gets h_waits h_way h_good h_left M_h_124)) (ws' := (wX12 cyB cyI cyZ cyO h h_all h_has h_read h_test h_rest h_gets h_waits h_way h_good h_left M_h_124)) hP hD hS hA [0, 1, 2, 3, 4, 5, 6, 7, 8, 9, 10] [] [0, 1, 2, 3, 4, 5, 6, 7, 8, 9, 10] rfl rfl (by decide) (by decide) rfl (by decide) (va_runV (As := [.int p1, .int (4 : Int32), .int (-p3)]) (rest := []) ⟨hx, hb, hml, hown, hts⟩ (c_X12_adds l dC dI cyB cyI cyZ cyO h h_all h_has h_read h_test h_rest h_gets h_waits h_way h_good h_left _ M_h_118 p1 (4 : Int32) (-p3) M_h_124 h124) (cwV 3 hts gX12_loan_X12_adds rfl rfl rfl (by decide +kernel) ⟨Nat.le_of_ble_eq_true rfl, Nat.le_of_ble_eq_true rfl⟩) ⟨PW.blind, va_recv hK hP (ci := 12) (q0 := 0) rfl rfl, fun U hU hW => ⟨rfl, by rw [hU], by rw [hU]; exact hP, hCx.warm hW, hD.weaken (fun _ _ _ _ => trivial)⟩⟩ rfl rfl hl.1 rfl (lv_room (Nat.le_of_ble_eq_true rfl)) dX12_loan_124 ⟨Nat.zero_le _, Nat.zero_le _⟩) (fun H locs hP hD hS => ?_)
                refine lv_aload_n hx hb dX12_loan_127 rfl (lv_at hl 1 rfl) ?_
                refine lv_iload_n hx hb dX12_loan_128 rfl (lv_at hl 3 rfl) ?_
                refine lv_iconst (v := (4 : Int32)) hx hb dX12_loan_129 (by decide) ?_
                refine lv_iload_n hx hb dX12_loan_130 rfl (lv_at hl 4 rfl) ?_
                obtain ⟨M_h_131, h131, hf⟩ := bd1_some hf
                refine wr_callv (wc := (wX12 cyB cyI cyZ cyO h h_all h_has h_read h_test h_rest h_gets h_waits h_way h_good h_left M_h_124)) (wr := ([] : va_W)) (w1 := (wX12 cyB cyI cyZ cyO h h_all h_has h_read h_test h_rest h_gets h_waits h_way h_good h_left M_h_131)) (ws' := (wX12 cyB cyI cyZ cyO h h_all h_has h_read h_test h_rest h_gets h_waits h_way h_good h_left M_h_131)) hP hD hS hA [0, 1, 2, 3, 4, 5, 6, 7, 8, 9, 10] [] [0, 1, 2, 3, 4, 5, 6, 7, 8, 9, 10] rfl rfl (by decide) (by decide) rfl (by decide) (va_runV (As := [.int p2, .int (4 : Int32), .int p3]) (rest := []) ⟨hx, hb, hml, hown, hts⟩ (c_X12_adds l dC dI cyB cyI cyZ cyO h h_all h_has h_read h_test h_rest h_gets h_waits h_way h_good h_left _ M_h_124 p2 (4 : Int32) p3 M_h_131 h131) (cwV 3 hts gX12_loan_X12_adds rfl rfl rfl (by decide +kernel) ⟨Nat.le_of_ble_eq_true rfl, Nat.le_of_ble_eq_true rfl⟩) ⟨PW.blind, va_recv hK hP (ci := 12) (q0 := 0) rfl rfl, fun U hU hW => ⟨rfl, by rw [hU], by rw [hU]; exact hP, hCx.warm hW, hD.weaken (fun _ _ _ _ => trivial)⟩⟩ rfl rfl hl.1 rfl (lv_room (Nat.le_of_ble_eq_true rfl)) dX12_loan_131 ⟨Nat.zero_le _, Nat.zero_le _⟩) (fun H locs hP hD hS => ?_)
                refine lv_aload_n hx hb dX12_loan_134 rfl (lv_at hl 1 rfl) ?_
                refine va_get (D := (dC, dI)) (ci := 12) (v := .ref h_all) (C := RX12) (T := TX12) (N := 21) hx hb hts hin12 hown hK hP 0 rfl rfl 0 (by decide) kf7 (fun _ h9 => h9) rfl dX12_loan_135 ?_
                refine lv_iconst (v := (5 : Int32)) hx hb dX12_loan_138 (by decide) ?_
                refine lv_dup2_11 hx hb dX12_loan_139 rfl rfl ?_
                refine va_iald hx hb hK hP 1 1 rfl rfl (show ¬ ((5 : Int32) < 0 ∨ 11160 ≤ ((5 : Int32)).toNatClampNeg) by decide) dX12_loan_140 ?_
                refine lv_iconst (v := (1 : Int32)) hx hb dX12_loan_141 (by decide) ?_
                refine lv_iadd hx hb dX12_loan_142 ?_
                refine va_iast hx hb hK hP hD hS 1 1 rfl rfl (show ¬ ((5 : Int32) < 0 ∨ 11160 ≤ ((5 : Int32)).toNatClampNeg) by decide) dX12_loan_143 (fun H locs hP hD hS => ?_)
                obtain ⟨M_h_143, eM_h_143, hf⟩ := wr_some hf
                have hP : va_P (dC, dI) vwCl (wX12 cyB cyI cyZ cyO h h_all h_has h_read h_test h_rest h_gets h_waits h_way h_good h_left M_h_143) H := by rw [eM_h_143]; exact hP
                have hD : va_D A (wX12 cyB cyI cyZ cyO h h_all h_has h_read h_test h_rest h_gets h_waits h_way h_good h_left M_h_143) := by rw [eM_h_143]; exact hD
                refine lv_aload_n hx hb dX12_loan_144 rfl (lv_at hl 1 rfl) ?_
                refine va_get (D := (dC, dI)) (ci := 12) (v := .ref h_all) (C := RX12) (T := TX12) (N := 21) hx hb hts hin12 hown hK hP 0 rfl rfl 0 (by decide) kf7 (fun _ h9 => h9) rfl dX12_loan_145 ?_
                refine lv_iconst (v := (5 : Int32)) hx hb dX12_loan_148 (by decide) ?_
                refine va_iald hx hb hK hP 1 1 rfl rfl (show ¬ ((5 : Int32) < 0 ∨ 11160 ≤ ((5 : Int32)).toNatClampNeg) by decide) dX12_loan_149 ?_
                refine lv_iconst (v := (1 : Int32)) hx hb dX12_loan_150 (by decide) ?_
                refine lv_isub hx hb dX12_loan_151 ?_
                obtain ⟨hq0, hq1⟩ := pj2 hf
                subst hq0
                subst hq1
                exact W.iret (v := ((M_h_143 0 ((5 : Int32)).toNatClampNeg) - (1 : Int32))) hx hb hr (fun t ht hW => ⟨rfl, by rw [ht]; exact hP, hD, hS.F ht⟩) hS.2.2 dX12_loan_152
              · rw [if_pos hc61] at hf
                refine lv_iconst (v := (-1 : Int32)) hx hb dX12_loan_64 (by decide) ?_
                obtain ⟨hq0, hq1⟩ := pj2 hf
                subst hq0
                subst hq1
                exact W.iret (v := (-1 : Int32)) hx hb hr (fun t ht hW => ⟨rfl, by rw [ht]; exact hP, hD, hS.F ht⟩) hS.2.2 dX12_loan_65
set_option maxHeartbeats 4000000 in
set_option maxRecDepth 100000 in
theorem c_X12_comes (l : Launch) (dC : Nat → ClassId) (dI : Nat → Nat → Nat) (cyB cyI cyZ cyO : ClassId) (h h_all h_has h_read h_test h_rest h_gets h_waits h_way h_good h_left : Nat) (sz : Nat) (M_h : Mem) (p1 : Int32) (p2 : Int32) (p3 : Int32) (R_h : Mem) (hf : f_X12_comes M_h p1 p2 p3 = some R_h) : Met l yX12_comes wsX12_comes ({ frames := 2, cells := 0, slots := 0, locals := 43 } : Room) (PW dC dI cyB cyI cyZ cyO ([.ref h, .int p1, .int p2, .int p3] : List Value) (wX12 cyB cyI cyZ cyO h h_all h_has h_read h_test h_rest h_gets h_waits h_way h_good h_left M_h) sz) (QW dC dI none (wX12 cyB cyI cyZ cyO h h_all h_has h_read h_test h_rest h_gets h_waits h_way h_good h_left R_h) (va_A (wX12 cyB cyI cyZ cyO h h_all h_has h_read h_test h_rest h_gets h_waits h_way h_good h_left M_h) sz)) 0 0 (va_A (wX12 cyB cyI cyZ cyO h h_all h_has h_read h_test h_rest h_gets h_waits h_way h_good h_left M_h) sz) := by
  refine Met.ofW (cc := cX12_comes) (maxL := 9) (ret := none) (by decide) rfl ?_
  intro p e s m args below meth c s₁ B hml hv
  obtain ⟨rfl, hsz, hP, hCx, hD0⟩ := hv
  have hK := hCx.1
  have hN := hCx.2
  have hx := B.exec
  have hb := B.bytes
  have hr := B.returns
  have hts := atoms_spec (ws := wsX12_comes) B.pre
  have hown : s.vm.findClass RX12 = some m.cls := findClass_of_methodNamed B.named
  have hlocks := B.notSynchronized
  have hin12 : ∀ w ∈ u_ws RX12 TX12 21, w ∈ wsX12_comes := fun w h => List.mem_cons_of_mem _ (List.mem_append_right _ h)
  have kf7 := hts (.fieldLink RX12 7 "HoldSlipsModel" "all" "[I") (by decide +kernel)
  subst hsz
  have hD := hD0.self (sz := s.heap.size)
  generalize hAe : va_A (wX12 cyB cyI cyZ cyO h h_all h_has h_read h_test h_rest h_gets h_waits h_way h_good h_left M_h) s.heap.size = A at hD ⊢
  have hA : ∀ q : Nat, s.heap.size ≤ q → A q := fun q h => by rw [← hAe]; exact Or.inr h
  have hS : va_S A s.heap s.heap [] := va_S.rf
  have hl := lv_entry ([.ref h, .int p1, .int p2, .int p3] : List Value) (n := 9) (Nat.le_of_ble_eq_true rfl)
  rw [lg_entry_eq]
  generalize (lg_sl ([.ref h, .int p1, .int p2, .int p3] : List Value) ++ List.replicate (9 - (lg_sl ([.ref h, .int p1, .int p2, .int p3] : List Value)).length) Slot.unset).toArray = ls at hl ⊢
  have hl : lv_has ls 9 [(0, .ref h), (1, .int p1), (2, .int p2), (3, .int p3)] := hl
  have L78 : ∀ (M_h : Mem) (x3 : Int32) (x4 : Int32) (x5 : Int32) (x6 : Int32) (x7 : Int32) (x8 : Int32) (H : Heap) (locs : List Loc) (ls : Array Slot), f_X12_comes_L78 M_h x3 x4 x5 x6 x7 x8 = some R_h → va_P (dC, dI) vwCl (wX12 cyB cyI cyZ cyO h h_all h_has h_read h_test h_rest h_gets h_waits h_way h_good h_left M_h) H → va_D A (wX12 cyB cyI cyZ cyO h h_all h_has h_read h_test h_rest h_gets h_waits h_way h_good h_left M_h) → va_S A s.heap H locs → lv_has ls 9 [(0, .ref h), (3, .int x3), (4, .int x4), (5, .int x5), (6, .int x6), (7, .int x7), (8, .int x8)] → W p l e (headSpec wsX12_comes ({ frames := 2, cells := 0, slots := 0, locals := 43 } : Room)).room s m ([.ref h, .int p1, .int p2, .int p3] : List Value).toArray below meth c H locs 0 0 (MQ below (QW dC dI none (wX12 cyB cyI cyZ cyO h h_all h_has h_read h_test h_rest h_gets h_waits h_way h_good h_left R_h) A) ([.ref h, .int p1, .int p2, .int p3] : List Value).toArray s 0 0 A) (F0 m 78 ls []) := by
    intro  M_h x3 x4 x5 x6 x7 x8 H locs ls hf hP hD hS hl
    rw [f_X12_comes_L78] at hf
    refine lv_aload_n hx hb dX12_comes_78 rfl (lv_at hl 0 rfl) ?_
    refine lv_iload hx hb dX12_comes_79 (lv_at hl 2 rfl) ?_
    refine lv_iconst (v := (5 : Int32)) hx hb dX12_comes_81 (by decide) ?_
    refine lv_iload hx hb dX12_comes_82 (lv_at hl 4 rfl) ?_
    obtain ⟨M_h_84, h84, hf⟩ := bd1_some hf
    refine wr_callv (wc := (wX12 cyB cyI cyZ cyO h h_all h_has h_read h_test h_rest h_gets h_waits h_way h_good h_left M_h)) (wr := ([] : va_W)) (w1 := (wX12 cyB cyI cyZ cyO h h_all h_has h_read h_test h_rest h_gets h_waits h_way h_good h_left M_h_84)) (ws' := (wX12 cyB cyI cyZ cyO h h_all h_has h_read h_test h_rest h_gets h_waits h_way h_good h_left M_h_84)) hP hD hS hA [0, 1, 2, 3, 4, 5, 6, 7, 8, 9, 10] [] [0, 1, 2, 3, 4, 5, 6, 7, 8, 9, 10] rfl rfl (by decide) (by decide) rfl (by decide) (va_runV (As := [.int x4, .int (5 : Int32), .int x6]) (rest := []) ⟨hx, hb, hml, hown, hts⟩ (c_X12_adds l dC dI cyB cyI cyZ cyO h h_all h_has h_read h_test h_rest h_gets h_waits h_way h_good h_left _ M_h x4 (5 : Int32) x6 M_h_84 h84) (cwV 3 hts gX12_comes_X12_adds rfl rfl rfl (by decide +kernel) ⟨Nat.le_of_ble_eq_true rfl, Nat.le_of_ble_eq_true rfl⟩) ⟨PW.blind, va_recv hK hP (ci := 12) (q0 := 0) rfl rfl, fun U hU hW => ⟨rfl, by rw [hU], by rw [hU]; exact hP, hCx.warm hW, hD.weaken (fun _ _ _ _ => trivial)⟩⟩ rfl rfl hl.1 rfl (lv_room (Nat.le_of_ble_eq_true rfl)) dX12_comes_84 ⟨Nat.zero_le _, Nat.zero_le _⟩) (fun H locs hP hD hS => ?_)
    refine lv_aload_n hx hb dX12_comes_87 rfl (lv_at hl 0 rfl) ?_
    refine lv_iload hx hb dX12_comes_88 (lv_at hl 2 rfl) ?_
    refine lv_iconst (v := (4 : Int32)) hx hb dX12_comes_90 (by decide) ?_
    refine lv_iload hx hb dX12_comes_91 (lv_at hl 4 rfl) ?_
    refine lv_iload hx hb dX12_comes_93 (lv_at hl 5 rfl) ?_
    refine lv_isub hx hb dX12_comes_95 ?_
    refine lv_iload hx hb dX12_comes_96 (lv_at hl 6 rfl) ?_
    refine lv_isub hx hb dX12_comes_98 ?_
    obtain ⟨M_h_99, h99, hf⟩ := bd1_some hf
    refine wr_callv (wc := (wX12 cyB cyI cyZ cyO h h_all h_has h_read h_test h_rest h_gets h_waits h_way h_good h_left M_h_84)) (wr := ([] : va_W)) (w1 := (wX12 cyB cyI cyZ cyO h h_all h_has h_read h_test h_rest h_gets h_waits h_way h_good h_left M_h_99)) (ws' := (wX12 cyB cyI cyZ cyO h h_all h_has h_read h_test h_rest h_gets h_waits h_way h_good h_left M_h_99)) hP hD hS hA [0, 1, 2, 3, 4, 5, 6, 7, 8, 9, 10] [] [0, 1, 2, 3, 4, 5, 6, 7, 8, 9, 10] rfl rfl (by decide) (by decide) rfl (by decide) (va_runV (As := [.int x4, .int (4 : Int32), .int ((x6 - x7) - x8)]) (rest := []) ⟨hx, hb, hml, hown, hts⟩ (c_X12_adds l dC dI cyB cyI cyZ cyO h h_all h_has h_read h_test h_rest h_gets h_waits h_way h_good h_left _ M_h_84 x4 (4 : Int32) ((x6 - x7) - x8) M_h_99 h99) (cwV 3 hts gX12_comes_X12_adds rfl rfl rfl (by decide +kernel) ⟨Nat.le_of_ble_eq_true rfl, Nat.le_of_ble_eq_true rfl⟩) ⟨PW.blind, va_recv hK hP (ci := 12) (q0 := 0) rfl rfl, fun U hU hW => ⟨rfl, by rw [hU], by rw [hU]; exact hP, hCx.warm hW, hD.weaken (fun _ _ _ _ => trivial)⟩⟩ rfl rfl hl.1 rfl (lv_room (Nat.le_of_ble_eq_true rfl)) dX12_comes_99 ⟨Nat.zero_le _, Nat.zero_le _⟩) (fun H locs hP hD hS => ?_)
    refine lv_aload_n hx hb dX12_comes_102 rfl (lv_at hl 0 rfl) ?_
    refine lv_iload hx hb dX12_comes_103 (lv_at hl 3 rfl) ?_
    refine lv_iconst (v := (4 : Int32)) hx hb dX12_comes_105 (by decide) ?_
    refine lv_iload hx hb dX12_comes_106 (lv_at hl 6 rfl) ?_
    obtain ⟨M_h_108, h108, hf⟩ := bd1_some hf
    refine wr_callv (wc := (wX12 cyB cyI cyZ cyO h h_all h_has h_read h_test h_rest h_gets h_waits h_way h_good h_left M_h_99)) (wr := ([] : va_W)) (w1 := (wX12 cyB cyI cyZ cyO h h_all h_has h_read h_test h_rest h_gets h_waits h_way h_good h_left M_h_108)) (ws' := (wX12 cyB cyI cyZ cyO h h_all h_has h_read h_test h_rest h_gets h_waits h_way h_good h_left M_h_108)) hP hD hS hA [0, 1, 2, 3, 4, 5, 6, 7, 8, 9, 10] [] [0, 1, 2, 3, 4, 5, 6, 7, 8, 9, 10] rfl rfl (by decide) (by decide) rfl (by decide) (va_runV (As := [.int x5, .int (4 : Int32), .int x8]) (rest := []) ⟨hx, hb, hml, hown, hts⟩ (c_X12_adds l dC dI cyB cyI cyZ cyO h h_all h_has h_read h_test h_rest h_gets h_waits h_way h_good h_left _ M_h_99 x5 (4 : Int32) x8 M_h_108 h108) (cwV 3 hts gX12_comes_X12_adds rfl rfl rfl (by decide +kernel) ⟨Nat.le_of_ble_eq_true rfl, Nat.le_of_ble_eq_true rfl⟩) ⟨PW.blind, va_recv hK hP (ci := 12) (q0 := 0) rfl rfl, fun U hU hW => ⟨rfl, by rw [hU], by rw [hU]; exact hP, hCx.warm hW, hD.weaken (fun _ _ _ _ => trivial)⟩⟩ rfl rfl hl.1 rfl (lv_room (Nat.le_of_ble_eq_true rfl)) dX12_comes_108 ⟨Nat.zero_le _, Nat.zero_le _⟩) (fun H locs hP hD hS => ?_)
    refine lv_aload_n hx hb dX12_comes_111 rfl (lv_at hl 0 rfl) ?_
    refine lv_iload hx hb dX12_comes_112 (lv_at hl 3 rfl) ?_
    refine lv_bipush (v := (6 : Int32)) hx hb dX12_comes_114 (by decide) ?_
    refine lv_iload hx hb dX12_comes_116 (lv_at hl 6 rfl) ?_
    obtain ⟨M_h_118, h118, hf⟩ := bd1_some hf
    refine wr_callv (wc := (wX12 cyB cyI cyZ cyO h h_all h_has h_read h_test h_rest h_gets h_waits h_way h_good h_left M_h_108)) (wr := ([] : va_W)) (w1 := (wX12 cyB cyI cyZ cyO h h_all h_has h_read h_test h_rest h_gets h_waits h_way h_good h_left M_h_118)) (ws' := (wX12 cyB cyI cyZ cyO h h_all h_has h_read h_test h_rest h_gets h_waits h_way h_good h_left M_h_118)) hP hD hS hA [0, 1, 2, 3, 4, 5, 6, 7, 8, 9, 10] [] [0, 1, 2, 3, 4, 5, 6, 7, 8, 9, 10] rfl rfl (by decide) (by decide) rfl (by decide) (va_runV (As := [.int x5, .int (6 : Int32), .int x8]) (rest := []) ⟨hx, hb, hml, hown, hts⟩ (c_X12_adds l dC dI cyB cyI cyZ cyO h h_all h_has h_read h_test h_rest h_gets h_waits h_way h_good h_left _ M_h_108 x5 (6 : Int32) x8 M_h_118 h118) (cwV 3 hts gX12_comes_X12_adds rfl rfl rfl (by decide +kernel) ⟨Nat.le_of_ble_eq_true rfl, Nat.le_of_ble_eq_true rfl⟩) ⟨PW.blind, va_recv hK hP (ci := 12) (q0 := 0) rfl rfl, fun U hU hW => ⟨rfl, by rw [hU], by rw [hU]; exact hP, hCx.warm hW, hD.weaken (fun _ _ _ _ => trivial)⟩⟩ rfl rfl hl.1 rfl (lv_room (Nat.le_of_ble_eq_true rfl)) dX12_comes_118 ⟨Nat.zero_le _, Nat.zero_le _⟩) (fun H locs hP hD hS => ?_)
    refine lv_aload_n hx hb dX12_comes_121 rfl (lv_at hl 0 rfl) ?_
    refine va_get (D := (dC, dI)) (ci := 12) (v := .ref h_all) (C := RX12) (T := TX12) (N := 21) hx hb hts hin12 hown hK hP 0 rfl rfl 0 (by decide) kf7 (fun _ h9 => h9) rfl dX12_comes_122 ?_
    refine lv_bipush (v := (15 : Int32)) hx hb dX12_comes_125 (by decide) ?_
    refine lv_dup2_11 hx hb dX12_comes_127 rfl rfl ?_
    refine va_iald hx hb hK hP 1 1 rfl rfl (show ¬ ((15 : Int32) < 0 ∨ 11160 ≤ ((15 : Int32)).toNatClampNeg) by decide) dX12_comes_128 ?_
    refine lv_iload hx hb dX12_comes_129 (lv_at hl 5 rfl) ?_
    refine lv_iadd hx hb dX12_comes_131 ?_
    refine va_iast hx hb hK hP hD hS 1 1 rfl rfl (show ¬ ((15 : Int32) < 0 ∨ 11160 ≤ ((15 : Int32)).toNatClampNeg) by decide) dX12_comes_132 (fun H locs hP hD hS => ?_)
    obtain ⟨M_h_132, eM_h_132, hf⟩ := wr_some hf
    have hP : va_P (dC, dI) vwCl (wX12 cyB cyI cyZ cyO h h_all h_has h_read h_test h_rest h_gets h_waits h_way h_good h_left M_h_132) H := by rw [eM_h_132]; exact hP
    have hD : va_D A (wX12 cyB cyI cyZ cyO h h_all h_has h_read h_test h_rest h_gets h_waits h_way h_good h_left M_h_132) := by rw [eM_h_132]; exact hD
    refine lv_aload_n hx hb dX12_comes_133 rfl (lv_at hl 0 rfl) ?_
    refine va_get (D := (dC, dI)) (ci := 12) (v := .ref h_all) (C := RX12) (T := TX12) (N := 21) hx hb hts hin12 hown hK hP 0 rfl rfl 0 (by decide) kf7 (fun _ h9 => h9) rfl dX12_comes_134 ?_
    refine lv_iload_n hx hb dX12_comes_137 rfl (lv_at hl 1 rfl) ?_
    refine lv_iconst (v := (5 : Int32)) hx hb dX12_comes_138 (by decide) ?_
    refine lv_iadd hx hb dX12_comes_139 ?_
    refine lv_dup2_11 hx hb dX12_comes_140 rfl rfl ?_
    have hi141 := if_no hf
    rw [if_neg hi141] at hf
    refine va_iald hx hb hK hP 1 1 rfl rfl hi141 dX12_comes_141 ?_
    refine lv_iload hx hb dX12_comes_142 (lv_at hl 4 rfl) ?_
    refine lv_iadd hx hb dX12_comes_144 ?_
    refine va_iast hx hb hK hP hD hS 1 1 rfl rfl hi141 dX12_comes_145 (fun H locs hP hD hS => ?_)
    obtain ⟨M_h_145, eM_h_145, hf⟩ := wr_some hf
    have hP : va_P (dC, dI) vwCl (wX12 cyB cyI cyZ cyO h h_all h_has h_read h_test h_rest h_gets h_waits h_way h_good h_left M_h_145) H := by rw [eM_h_145]; exact hP
    have hD : va_D A (wX12 cyB cyI cyZ cyO h h_all h_has h_read h_test h_rest h_gets h_waits h_way h_good h_left M_h_145) := by rw [eM_h_145]; exact hD
    refine lv_aload_n hx hb dX12_comes_146 rfl (lv_at hl 0 rfl) ?_
    refine va_get (D := (dC, dI)) (ci := 12) (v := .ref h_all) (C := RX12) (T := TX12) (N := 21) hx hb hts hin12 hown hK hP 0 rfl rfl 0 (by decide) kf7 (fun _ h9 => h9) rfl dX12_comes_147 ?_
    refine lv_iload_n hx hb dX12_comes_150 rfl (lv_at hl 1 rfl) ?_
    refine lv_bipush (v := (6 : Int32)) hx hb dX12_comes_151 (by decide) ?_
    refine lv_iadd hx hb dX12_comes_153 ?_
    refine lv_dup2_11 hx hb dX12_comes_154 rfl rfl ?_
    have hi155 := if_no hf
    rw [if_neg hi155] at hf
    refine va_iald hx hb hK hP 1 1 rfl rfl hi155 dX12_comes_155 ?_
    refine lv_iload hx hb dX12_comes_156 (lv_at hl 5 rfl) ?_
    refine lv_iadd hx hb dX12_comes_158 ?_
    refine va_iast hx hb hK hP hD hS 1 1 rfl rfl hi155 dX12_comes_159 (fun H locs hP hD hS => ?_)
    obtain ⟨M_h_159, eM_h_159, hf⟩ := wr_some hf
    have hP : va_P (dC, dI) vwCl (wX12 cyB cyI cyZ cyO h h_all h_has h_read h_test h_rest h_gets h_waits h_way h_good h_left M_h_159) H := by rw [eM_h_159]; exact hP
    have hD : va_D A (wX12 cyB cyI cyZ cyO h h_all h_has h_read h_test h_rest h_gets h_waits h_way h_good h_left M_h_159) := by rw [eM_h_159]; exact hD
    refine lv_aload_n hx hb dX12_comes_160 rfl (lv_at hl 0 rfl) ?_
    refine va_get (D := (dC, dI)) (ci := 12) (v := .ref h_all) (C := RX12) (T := TX12) (N := 21) hx hb hts hin12 hown hK hP 0 rfl rfl 0 (by decide) kf7 (fun _ h9 => h9) rfl dX12_comes_161 ?_
    refine lv_iload_n hx hb dX12_comes_164 rfl (lv_at hl 1 rfl) ?_
    refine lv_bipush (v := (7 : Int32)) hx hb dX12_comes_165 (by decide) ?_
    refine lv_iadd hx hb dX12_comes_167 ?_
    refine lv_dup2_11 hx hb dX12_comes_168 rfl rfl ?_
    have hi169 := if_no hf
    rw [if_neg hi169] at hf
    refine va_iald hx hb hK hP 1 1 rfl rfl hi169 dX12_comes_169 ?_
    refine lv_iload hx hb dX12_comes_170 (lv_at hl 6 rfl) ?_
    refine lv_iadd hx hb dX12_comes_172 ?_
    refine va_iast hx hb hK hP hD hS 1 1 rfl rfl hi169 dX12_comes_173 (fun H locs hP hD hS => ?_)
    obtain ⟨M_h_173, eM_h_173, hf⟩ := wr_some hf
    have hP : va_P (dC, dI) vwCl (wX12 cyB cyI cyZ cyO h h_all h_has h_read h_test h_rest h_gets h_waits h_way h_good h_left M_h_173) H := by rw [eM_h_173]; exact hP
    have hD : va_D A (wX12 cyB cyI cyZ cyO h h_all h_has h_read h_test h_rest h_gets h_waits h_way h_good h_left M_h_173) := by rw [eM_h_173]; exact hD
    have hq := Option.some.inj hf
    subst hq
    exact W.vret hx hb hr (fun t ht hW => ⟨rfl, by rw [ht]; exact hP, hD, hS.F ht⟩) hS.2.2 dX12_comes_174
  have L59 : ∀ (M_h : Mem) (x3 : Int32) (x4 : Int32) (x5 : Int32) (x6 : Int32) (x7 : Int32) (s0 : Int32) (H : Heap) (locs : List Loc) (ls : Array Slot), f_X12_comes_L59 M_h x3 x4 x5 x6 x7 s0 = some R_h → va_P (dC, dI) vwCl (wX12 cyB cyI cyZ cyO h h_all h_has h_read h_test h_rest h_gets h_waits h_way h_good h_left M_h) H → va_D A (wX12 cyB cyI cyZ cyO h h_all h_has h_read h_test h_rest h_gets h_waits h_way h_good h_left M_h) → va_S A s.heap H locs → lv_has ls 9 [(0, .ref h), (3, .int x3), (4, .int x4), (5, .int x5), (6, .int x6), (7, .int x7)] → W p l e (headSpec wsX12_comes ({ frames := 2, cells := 0, slots := 0, locals := 43 } : Room)).room s m ([.ref h, .int p1, .int p2, .int p3] : List Value).toArray below meth c H locs 0 0 (MQ below (QW dC dI none (wX12 cyB cyI cyZ cyO h h_all h_has h_read h_test h_rest h_gets h_waits h_way h_good h_left R_h) A) ([.ref h, .int p1, .int p2, .int p3] : List Value).toArray s 0 0 A) (F0 m 59 ls [.int s0]) := by
    intro  M_h x3 x4 x5 x6 x7 s0 H locs ls hf hP hD hS hl
    rw [f_X12_comes_L59] at hf
    refine lv_istore (lv' := [(8, .int s0), (0, .ref h), (3, .int x3), (4, .int x4), (5, .int x5), (6, .int x6), (7, .int x7)]) hx hb dX12_comes_59 hl (by decide) rfl (fun ls hl => ?_)
    refine lv_iload hx hb dX12_comes_61 (lv_at hl 0 rfl) ?_
    refine lv_iload hx hb dX12_comes_63 (lv_at hl 5 rfl) ?_
    refine lv_iload hx hb dX12_comes_65 (lv_at hl 6 rfl) ?_
    refine lv_isub hx hb dX12_comes_67 ?_
    refine lv_icmp_le (tgt := 78) hx hb dX12_comes_68 (by decide) (fun hc68 => ?_) (fun hc68 => ?_)
    · rw [if_pos hc68] at hf
      exact L78 M_h x3 x4 x5 x6 x7 s0 _ _ ls hf hP hD hS (lv_sub hl [1, 2, 3, 4, 5, 6, 0] rfl)
    · rw [if_neg hc68] at hf
      refine lv_iload hx hb dX12_comes_71 (lv_at hl 5 rfl) ?_
      refine lv_iload hx hb dX12_comes_73 (lv_at hl 6 rfl) ?_
      refine lv_isub hx hb dX12_comes_75 ?_
      refine lv_istore (lv' := [(8, .int (x6 - x7)), (0, .ref h), (3, .int x3), (4, .int x4), (5, .int x5), (6, .int x6), (7, .int x7)]) hx hb dX12_comes_76 hl (by decide) rfl (fun ls hl => ?_)
      exact L78 M_h x3 x4 x5 x6 x7 (x6 - x7) _ _ ls hf hP hD hS (lv_sub hl [1, 2, 3, 4, 5, 6, 0] rfl)
  rw [f_X12_comes] at hf
  refine lv_aload_n hx hb dX12_comes_0 rfl (lv_at hl 0 rfl) ?_
  refine lv_iload_n hx hb dX12_comes_1 rfl (lv_at hl 1 rfl) ?_
  refine lv_iconst (v := (0 : Int32)) hx hb dX12_comes_2 (by decide) ?_
  obtain ⟨r3, h3, hf⟩ := bd1_some hf
  refine ro_calli (va_runV (As := [.int p1, .int (0 : Int32)]) (rest := []) ⟨hx, hb, hml, hown, hts⟩ (c_X12_its l dC dI cyB cyI cyZ cyO h h_all h_has h_read h_test h_rest h_gets h_waits h_way h_good h_left M_h p1 (0 : Int32) r3 h3) (cwV 2 hts gX12_comes_X12_its rfl rfl rfl (by decide +kernel) ⟨Nat.le_of_ble_eq_true rfl, Nat.le_of_ble_eq_true rfl⟩) ⟨PR.blind, va_recv hK hP (ci := 12) (q0 := 0) rfl rfl, fun U hU hW => ⟨rfl, by rw [hU]; exact hP, hCx.warm hW⟩⟩ rfl rfl hl.1 rfl (lv_room (Nat.le_of_ble_eq_true rfl)) dX12_comes_3 ⟨Nat.zero_le _, Nat.zero_le _⟩) ?_
  refine lv_istore (lv' := [(4, .int r3), (0, .ref h), (1, .int p1), (2, .int p2), (3, .int p3)]) hx hb dX12_comes_6 hl (by decide) rfl (fun ls hl => ?_)
  refine lv_aload_n hx hb dX12_comes_8 rfl (lv_at hl 1 rfl) ?_
  refine lv_iload_n hx hb dX12_comes_9 rfl (lv_at hl 2 rfl) ?_
  refine lv_iconst (v := (5 : Int32)) hx hb dX12_comes_10 (by decide) ?_
  obtain ⟨r11, h11, hf⟩ := bd1_some hf
  refine ro_calli (va_runV (As := [.int p1, .int (5 : Int32)]) (rest := []) ⟨hx, hb, hml, hown, hts⟩ (c_X12_its l dC dI cyB cyI cyZ cyO h h_all h_has h_read h_test h_rest h_gets h_waits h_way h_good h_left M_h p1 (5 : Int32) r11 h11) (cwV 2 hts gX12_comes_X12_its rfl rfl rfl (by decide +kernel) ⟨Nat.le_of_ble_eq_true rfl, Nat.le_of_ble_eq_true rfl⟩) ⟨PR.blind, va_recv hK hP (ci := 12) (q0 := 0) rfl rfl, fun U hU hW => ⟨rfl, by rw [hU]; exact hP, hCx.warm hW⟩⟩ rfl rfl hl.1 rfl (lv_room (Nat.le_of_ble_eq_true rfl)) dX12_comes_11 ⟨Nat.zero_le _, Nat.zero_le _⟩) ?_
  refine lv_istore (lv' := [(5, .int r11), (4, .int r3), (0, .ref h), (1, .int p1), (2, .int p2), (3, .int p3)]) hx hb dX12_comes_14 hl (by decide) rfl (fun ls hl => ?_)
  refine lv_aload_n hx hb dX12_comes_16 rfl (lv_at hl 2 rfl) ?_
  refine lv_iload_n hx hb dX12_comes_17 rfl (lv_at hl 3 rfl) ?_
  obtain ⟨r18, h18, hf⟩ := bd1_some hf
  refine ro_calli (va_runV (As := [.int p1]) (rest := []) ⟨hx, hb, hml, hown, hts⟩ (c_X12_value l dC dI cyB cyI cyZ cyO h h_all h_has h_read h_test h_rest h_gets h_waits h_way h_good h_left M_h p1 r18 h18) (cwV 1 hts gX12_comes_X12_value rfl rfl rfl (by decide +kernel) ⟨Nat.le_of_ble_eq_true rfl, Nat.le_of_ble_eq_true rfl⟩) ⟨PR.blind, va_recv hK hP (ci := 12) (q0 := 0) rfl rfl, fun U hU hW => ⟨rfl, by rw [hU]; exact hP, hCx.warm hW⟩⟩ rfl rfl hl.1 rfl (lv_room (Nat.le_of_ble_eq_true rfl)) dX12_comes_18 ⟨Nat.zero_le _, Nat.zero_le _⟩) ?_
  refine lv_iload_n hx hb dX12_comes_21 rfl (lv_at hl 4 rfl) ?_
  refine lv_imul hx hb dX12_comes_22 ?_
  refine lv_bipush (v := (100 : Int32)) hx hb dX12_comes_23 (by decide) ?_
  refine lv_idiv hx hb dX12_comes_25 (by decide) ?_
  refine lv_istore (lv' := [(6, .int ((r18 * p2) / (100 : Int32))), (5, .int r11), (4, .int r3), (0, .ref h), (1, .int p1), (2, .int p2), (3, .int p3)]) hx hb dX12_comes_26 hl (by decide) rfl (fun ls hl => ?_)
  refine lv_iload hx hb dX12_comes_28 (lv_at hl 0 rfl) ?_
  refine lv_bipush (v := (10 : Int32)) hx hb dX12_comes_30 (by decide) ?_
  refine lv_idiv hx hb dX12_comes_32 (by decide) ?_
  refine lv_istore (lv' := [(7, .int (((r18 * p2) / (100 : Int32)) / (10 : Int32))), (6, .int ((r18 * p2) / (100 : Int32))), (5, .int r11), (4, .int r3), (0, .ref h), (1, .int p1), (2, .int p2), (3, .int p3)]) hx hb dX12_comes_33 hl (by decide) rfl (fun ls hl => ?_)
  refine lv_iload hx hb dX12_comes_35 (lv_at hl 2 rfl) ?_
  refine lv_iload hx hb dX12_comes_37 (lv_at hl 3 rfl) ?_
  refine lv_icmp_ne (tgt := 46) hx hb dX12_comes_39 (by decide) (fun hc39 => ?_) (fun hc39 => ?_)
  · rw [if_neg hc39] at hf
    refine lv_aload_n hx hb dX12_comes_46 rfl (lv_at hl 4 rfl) ?_
    refine va_get (D := (dC, dI)) (ci := 12) (v := .ref h_all) (C := RX12) (T := TX12) (N := 21) hx hb hts hin12 hown hK hP 0 rfl rfl 0 (by decide) kf7 (fun _ h9 => h9) rfl dX12_comes_47 ?_
    refine lv_bipush (v := (11 : Int32)) hx hb dX12_comes_50 (by decide) ?_
    refine va_iald hx hb hK hP 1 1 rfl rfl (show ¬ ((11 : Int32) < 0 ∨ 11160 ≤ ((11 : Int32)).toNatClampNeg) by decide) dX12_comes_52 ?_
    refine lv_aload_n hx hb dX12_comes_53 rfl (lv_at hl 4 rfl) ?_
    refine lv_iload_n hx hb dX12_comes_54 rfl (lv_at hl 5 rfl) ?_
    obtain ⟨r55, h55, hf⟩ := bd1_some hf
    refine ro_calli (va_runV (As := [.int p1]) (rest := [.int (M_h 0 ((11 : Int32)).toNatClampNeg)]) ⟨hx, hb, hml, hown, hts⟩ (c_X12_room l dC dI cyB cyI cyZ cyO h h_all h_has h_read h_test h_rest h_gets h_waits h_way h_good h_left M_h p1 r55 h55) (cwV 1 hts gX12_comes_X12_room rfl rfl rfl (by decide +kernel) ⟨Nat.le_of_ble_eq_true rfl, Nat.le_of_ble_eq_true rfl⟩) ⟨PR.blind, va_recv hK hP (ci := 12) (q0 := 0) rfl rfl, fun U hU hW => ⟨rfl, by rw [hU]; exact hP, hCx.warm hW⟩⟩ rfl rfl hl.1 rfl (lv_room (Nat.le_of_ble_eq_true rfl)) dX12_comes_55 ⟨Nat.zero_le _, Nat.zero_le _⟩) ?_
    refine lv_imul hx hb dX12_comes_58 ?_
    exact L59 M_h p3 r3 r11 ((r18 * p2) / (100 : Int32)) (((r18 * p2) / (100 : Int32)) / (10 : Int32)) ((M_h 0 ((11 : Int32)).toNatClampNeg) * r55) _ _ ls hf hP hD hS (lv_sub hl [4, 7, 3, 2, 1, 0] rfl)
  · rw [if_pos hc39] at hf
    refine lv_iconst (v := (0 : Int32)) hx hb dX12_comes_42 (by decide) ?_
    refine lv_goto (tgt := 59) hx hb dX12_comes_43 (by decide) ?_
    exact L59 M_h p3 r3 r11 ((r18 * p2) / (100 : Int32)) (((r18 * p2) / (100 : Int32)) / (10 : Int32)) (0 : Int32) _ _ ls hf hP hD hS (lv_sub hl [4, 7, 3, 2, 1, 0] rfl)
set_option maxHeartbeats 4000000 in
set_option maxRecDepth 100000 in
theorem c_X12_paysBack (l : Launch) (dC : Nat → ClassId) (dI : Nat → Nat → Nat) (cyB cyI cyZ cyO : ClassId) (h h_all h_has h_read h_test h_rest h_gets h_waits h_way h_good h_left : Nat) (sz : Nat) (M_h : Mem) (p1 : Int32) (R_h : Mem) (hf : f_X12_paysBack M_h p1 = some R_h) : Met l yX12_paysBack wsX12_paysBack ({ frames := 1, cells := 0, slots := 0, locals := 23 } : Room) (PW dC dI cyB cyI cyZ cyO ([.ref h, .int p1] : List Value) (wX12 cyB cyI cyZ cyO h h_all h_has h_read h_test h_rest h_gets h_waits h_way h_good h_left M_h) sz) (QW dC dI none (wX12 cyB cyI cyZ cyO h h_all h_has h_read h_test h_rest h_gets h_waits h_way h_good h_left R_h) (va_A (wX12 cyB cyI cyZ cyO h h_all h_has h_read h_test h_rest h_gets h_waits h_way h_good h_left M_h) sz)) 0 0 (va_A (wX12 cyB cyI cyZ cyO h h_all h_has h_read h_test h_rest h_gets h_waits h_way h_good h_left M_h) sz) := by
  refine Met.ofW (cc := cX12_paysBack) (maxL := 4) (ret := none) (by decide) rfl ?_
  intro p e s m args below meth c s₁ B hml hv
  obtain ⟨rfl, hsz, hP, hCx, hD0⟩ := hv
  have hK := hCx.1
  have hN := hCx.2
  have hx := B.exec
  have hb := B.bytes
  have hr := B.returns
  have hts := atoms_spec (ws := wsX12_paysBack) B.pre
  have hown : s.vm.findClass RX12 = some m.cls := findClass_of_methodNamed B.named
  have hlocks := B.notSynchronized
  have hin12 : ∀ w ∈ u_ws RX12 TX12 21, w ∈ wsX12_paysBack := fun w h => List.mem_cons_of_mem _ (List.mem_append_right _ h)
  have kf7 := hts (.fieldLink RX12 7 "HoldSlipsModel" "all" "[I") (by decide +kernel)
  subst hsz
  have hD := hD0.self (sz := s.heap.size)
  generalize hAe : va_A (wX12 cyB cyI cyZ cyO h h_all h_has h_read h_test h_rest h_gets h_waits h_way h_good h_left M_h) s.heap.size = A at hD ⊢
  have hA : ∀ q : Nat, s.heap.size ≤ q → A q := fun q h => by rw [← hAe]; exact Or.inr h
  have hS : va_S A s.heap s.heap [] := va_S.rf
  have hl := lv_entry ([.ref h, .int p1] : List Value) (n := 4) (Nat.le_of_ble_eq_true rfl)
  rw [lg_entry_eq]
  generalize (lg_sl ([.ref h, .int p1] : List Value) ++ List.replicate (4 - (lg_sl ([.ref h, .int p1] : List Value)).length) Slot.unset).toArray = ls at hl ⊢
  have hl : lv_has ls 4 [(0, .ref h), (1, .int p1)] := hl
  rw [f_X12_paysBack] at hf
  refine lv_sipush (v := (200 : Int32)) hx hb dX12_paysBack_0 (by decide) ?_
  refine lv_iconst (v := (4 : Int32)) hx hb dX12_paysBack_3 (by decide) ?_
  refine lv_iload_n hx hb dX12_paysBack_4 rfl (lv_at hl 1 rfl) ?_
  refine lv_imul hx hb dX12_paysBack_5 ?_
  refine lv_iadd hx hb dX12_paysBack_6 ?_
  refine lv_istore_n (lv' := [(2, .int ((200 : Int32) + ((4 : Int32) * p1))), (0, .ref h), (1, .int p1)]) hx hb dX12_paysBack_7 rfl hl (by decide) rfl (fun ls hl => ?_)
  refine lv_aload_n hx hb dX12_paysBack_8 rfl (lv_at hl 1 rfl) ?_
  refine va_get (D := (dC, dI)) (ci := 12) (v := .ref h_all) (C := RX12) (T := TX12) (N := 21) hx hb hts hin12 hown hK hP 0 rfl rfl 0 (by decide) kf7 (fun _ h9 => h9) rfl dX12_paysBack_9 ?_
  refine lv_iload_n hx hb dX12_paysBack_12 rfl (lv_at hl 0 rfl) ?_
  refine lv_iconst (v := (2 : Int32)) hx hb dX12_paysBack_13 (by decide) ?_
  refine lv_iadd hx hb dX12_paysBack_14 ?_
  have hi15 := if_no hf
  rw [if_neg hi15] at hf
  refine va_iald hx hb hK hP 1 1 rfl rfl hi15 dX12_paysBack_15 ?_
  refine lv_aload_n hx hb dX12_paysBack_16 rfl (lv_at hl 1 rfl) ?_
  refine va_get (D := (dC, dI)) (ci := 12) (v := .ref h_all) (C := RX12) (T := TX12) (N := 21) hx hb hts hin12 hown hK hP 0 rfl rfl 0 (by decide) kf7 (fun _ h9 => h9) rfl dX12_paysBack_17 ?_
  refine lv_iload_n hx hb dX12_paysBack_20 rfl (lv_at hl 0 rfl) ?_
  refine lv_iconst (v := (2 : Int32)) hx hb dX12_paysBack_21 (by decide) ?_
  refine lv_iadd hx hb dX12_paysBack_22 ?_
  refine va_iald hx hb hK hP 1 1 rfl rfl hi15 dX12_paysBack_23 ?_
  refine lv_aload_n hx hb dX12_paysBack_24 rfl (lv_at hl 1 rfl) ?_
  refine va_get (D := (dC, dI)) (ci := 12) (v := .ref h_all) (C := RX12) (T := TX12) (N := 21) hx hb hts hin12 hown hK hP 0 rfl rfl 0 (by decide) kf7 (fun _ h9 => h9) rfl dX12_paysBack_25 ?_
  refine lv_iload_n hx hb dX12_paysBack_28 rfl (lv_at hl 0 rfl) ?_
  refine lv_iconst (v := (3 : Int32)) hx hb dX12_paysBack_29 (by decide) ?_
  refine lv_iadd hx hb dX12_paysBack_30 ?_
  have hi31 := if_no hf
  rw [if_neg hi31] at hf
  refine va_iald hx hb hK hP 1 1 rfl rfl hi31 dX12_paysBack_31 ?_
  refine lv_imul hx hb dX12_paysBack_32 ?_
  refine lv_bipush (v := (100 : Int32)) hx hb dX12_paysBack_33 (by decide) ?_
  refine lv_idiv hx hb dX12_paysBack_35 (by decide) ?_
  refine lv_iadd hx hb dX12_paysBack_36 ?_
  refine lv_istore_n (lv' := [(3, .int ((M_h 0 ((((200 : Int32) + ((4 : Int32) * p1)) + (2 : Int32))).toNatClampNeg) + (((M_h 0 ((((200 : Int32) + ((4 : Int32) * p1)) + (2 : Int32))).toNatClampNeg) * (M_h 0 ((((200 : Int32) + ((4 : Int32) * p1)) + (3 : Int32))).toNatClampNeg)) / (100 : Int32)))), (2, .int ((200 : Int32) + ((4 : Int32) * p1))), (0, .ref h), (1, .int p1)]) hx hb dX12_paysBack_37 rfl hl (by decide) rfl (fun ls hl => ?_)
  refine lv_aload_n hx hb dX12_paysBack_38 rfl (lv_at hl 2 rfl) ?_
  refine lv_aload_n hx hb dX12_paysBack_39 rfl (lv_at hl 2 rfl) ?_
  refine va_get (D := (dC, dI)) (ci := 12) (v := .ref h_all) (C := RX12) (T := TX12) (N := 21) hx hb hts hin12 hown hK hP 0 rfl rfl 0 (by decide) kf7 (fun _ h9 => h9) rfl dX12_paysBack_40 ?_
  refine lv_iload_n hx hb dX12_paysBack_43 rfl (lv_at hl 1 rfl) ?_
  have hi44 := if_no hf
  rw [if_neg hi44] at hf
  refine va_iald hx hb hK hP 1 1 rfl rfl hi44 dX12_paysBack_44 ?_
  refine lv_iconst (v := (4 : Int32)) hx hb dX12_paysBack_45 (by decide) ?_
  refine lv_iload_n hx hb dX12_paysBack_46 rfl (lv_at hl 0 rfl) ?_
  obtain ⟨M_h_47, h47, hf⟩ := bd1_some hf
  refine wr_callv (wc := (wX12 cyB cyI cyZ cyO h h_all h_has h_read h_test h_rest h_gets h_waits h_way h_good h_left M_h)) (wr := ([] : va_W)) (w1 := (wX12 cyB cyI cyZ cyO h h_all h_has h_read h_test h_rest h_gets h_waits h_way h_good h_left M_h_47)) (ws' := (wX12 cyB cyI cyZ cyO h h_all h_has h_read h_test h_rest h_gets h_waits h_way h_good h_left M_h_47)) hP hD hS hA [0, 1, 2, 3, 4, 5, 6, 7, 8, 9, 10] [] [0, 1, 2, 3, 4, 5, 6, 7, 8, 9, 10] rfl rfl (by decide) (by decide) rfl (by decide) (va_runV (As := [.int (M_h 0 (((200 : Int32) + ((4 : Int32) * p1))).toNatClampNeg), .int (4 : Int32), .int ((M_h 0 ((((200 : Int32) + ((4 : Int32) * p1)) + (2 : Int32))).toNatClampNeg) + (((M_h 0 ((((200 : Int32) + ((4 : Int32) * p1)) + (2 : Int32))).toNatClampNeg) * (M_h 0 ((((200 : Int32) + ((4 : Int32) * p1)) + (3 : Int32))).toNatClampNeg)) / (100 : Int32)))]) (rest := []) ⟨hx, hb, hml, hown, hts⟩ (c_X12_adds l dC dI cyB cyI cyZ cyO h h_all h_has h_read h_test h_rest h_gets h_waits h_way h_good h_left _ M_h (M_h 0 (((200 : Int32) + ((4 : Int32) * p1))).toNatClampNeg) (4 : Int32) ((M_h 0 ((((200 : Int32) + ((4 : Int32) * p1)) + (2 : Int32))).toNatClampNeg) + (((M_h 0 ((((200 : Int32) + ((4 : Int32) * p1)) + (2 : Int32))).toNatClampNeg) * (M_h 0 ((((200 : Int32) + ((4 : Int32) * p1)) + (3 : Int32))).toNatClampNeg)) / (100 : Int32))) M_h_47 h47) (cwV 3 hts gX12_paysBack_X12_adds rfl rfl rfl (by decide +kernel) ⟨Nat.le_of_ble_eq_true rfl, Nat.le_of_ble_eq_true rfl⟩) ⟨PW.blind, va_recv hK hP (ci := 12) (q0 := 0) rfl rfl, fun U hU hW => ⟨rfl, by rw [hU], by rw [hU]; exact hP, hCx.warm hW, hD.weaken (fun _ _ _ _ => trivial)⟩⟩ rfl rfl hl.1 rfl (lv_room (Nat.le_of_ble_eq_true rfl)) dX12_paysBack_47 ⟨Nat.zero_le _, Nat.zero_le _⟩) (fun H locs hP hD hS => ?_)
  refine lv_aload_n hx hb dX12_paysBack_50 rfl (lv_at hl 2 rfl) ?_
  refine lv_aload_n hx hb dX12_paysBack_51 rfl (lv_at hl 2 rfl) ?_
  refine va_get (D := (dC, dI)) (ci := 12) (v := .ref h_all) (C := RX12) (T := TX12) (N := 21) hx hb hts hin12 hown hK hP 0 rfl rfl 0 (by decide) kf7 (fun _ h9 => h9) rfl dX12_paysBack_52 ?_
  refine lv_iload_n hx hb dX12_paysBack_55 rfl (lv_at hl 1 rfl) ?_
  refine lv_iconst (v := (1 : Int32)) hx hb dX12_paysBack_56 (by decide) ?_
  refine lv_iadd hx hb dX12_paysBack_57 ?_
  have hi58 := if_no hf
  rw [if_neg hi58] at hf
  refine va_iald hx hb hK hP 1 1 rfl rfl hi58 dX12_paysBack_58 ?_
  refine lv_iconst (v := (4 : Int32)) hx hb dX12_paysBack_59 (by decide) ?_
  refine lv_iload_n hx hb dX12_paysBack_60 rfl (lv_at hl 0 rfl) ?_
  refine lv_ineg hx hb dX12_paysBack_61 ?_
  obtain ⟨M_h_62, h62, hf⟩ := bd1_some hf
  refine wr_callv (wc := (wX12 cyB cyI cyZ cyO h h_all h_has h_read h_test h_rest h_gets h_waits h_way h_good h_left M_h_47)) (wr := ([] : va_W)) (w1 := (wX12 cyB cyI cyZ cyO h h_all h_has h_read h_test h_rest h_gets h_waits h_way h_good h_left M_h_62)) (ws' := (wX12 cyB cyI cyZ cyO h h_all h_has h_read h_test h_rest h_gets h_waits h_way h_good h_left M_h_62)) hP hD hS hA [0, 1, 2, 3, 4, 5, 6, 7, 8, 9, 10] [] [0, 1, 2, 3, 4, 5, 6, 7, 8, 9, 10] rfl rfl (by decide) (by decide) rfl (by decide) (va_runV (As := [.int (M_h_47 0 ((((200 : Int32) + ((4 : Int32) * p1)) + (1 : Int32))).toNatClampNeg), .int (4 : Int32), .int (-((M_h 0 ((((200 : Int32) + ((4 : Int32) * p1)) + (2 : Int32))).toNatClampNeg) + (((M_h 0 ((((200 : Int32) + ((4 : Int32) * p1)) + (2 : Int32))).toNatClampNeg) * (M_h 0 ((((200 : Int32) + ((4 : Int32) * p1)) + (3 : Int32))).toNatClampNeg)) / (100 : Int32))))]) (rest := []) ⟨hx, hb, hml, hown, hts⟩ (c_X12_adds l dC dI cyB cyI cyZ cyO h h_all h_has h_read h_test h_rest h_gets h_waits h_way h_good h_left _ M_h_47 (M_h_47 0 ((((200 : Int32) + ((4 : Int32) * p1)) + (1 : Int32))).toNatClampNeg) (4 : Int32) (-((M_h 0 ((((200 : Int32) + ((4 : Int32) * p1)) + (2 : Int32))).toNatClampNeg) + (((M_h 0 ((((200 : Int32) + ((4 : Int32) * p1)) + (2 : Int32))).toNatClampNeg) * (M_h 0 ((((200 : Int32) + ((4 : Int32) * p1)) + (3 : Int32))).toNatClampNeg)) / (100 : Int32)))) M_h_62 h62) (cwV 3 hts gX12_paysBack_X12_adds rfl rfl rfl (by decide +kernel) ⟨Nat.le_of_ble_eq_true rfl, Nat.le_of_ble_eq_true rfl⟩) ⟨PW.blind, va_recv hK hP (ci := 12) (q0 := 0) rfl rfl, fun U hU hW => ⟨rfl, by rw [hU], by rw [hU]; exact hP, hCx.warm hW, hD.weaken (fun _ _ _ _ => trivial)⟩⟩ rfl rfl hl.1 rfl (lv_room (Nat.le_of_ble_eq_true rfl)) dX12_paysBack_62 ⟨Nat.zero_le _, Nat.zero_le _⟩) (fun H locs hP hD hS => ?_)
  have hq := Option.some.inj hf
  subst hq
  exact W.vret hx hb hr (fun t ht hW => ⟨rfl, by rw [ht]; exact hP, hD, hS.F ht⟩) hS.2.2 dX12_paysBack_65
set_option maxHeartbeats 4000000 in
set_option maxRecDepth 100000 in
theorem c_X12_ends (l : Launch) (dC : Nat → ClassId) (dI : Nat → Nat → Nat) (cyB cyI cyZ cyO : ClassId) (h h_all h_has h_read h_test h_rest h_gets h_waits h_way h_good h_left : Nat) (sz : Nat) (M_h : Mem) (p1 : Int32) (r : Int32) (R_h : Mem) (hf : f_X12_ends M_h p1 = some (r, R_h)) : Met l yX12_ends wsX12_ends ({ frames := 3, cells := 0, slots := 0, locals := 71 } : Room) (PW dC dI cyB cyI cyZ cyO ([.ref h, .int p1] : List Value) (wX12 cyB cyI cyZ cyO h h_all h_has h_read h_test h_rest h_gets h_waits h_way h_good h_left M_h) sz) (QW dC dI (some (.int r)) (wX12 cyB cyI cyZ cyO h h_all h_has h_read h_test h_rest h_gets h_waits h_way h_good h_left R_h) (va_A (wX12 cyB cyI cyZ cyO h h_all h_has h_read h_test h_rest h_gets h_waits h_way h_good h_left M_h) sz)) 0 0 (va_A (wX12 cyB cyI cyZ cyO h h_all h_has h_read h_test h_rest h_gets h_waits h_way h_good h_left M_h) sz) := by
  refine Met.ofW (cc := cX12_ends) (maxL := 6) (ret := (some .int)) (by decide) rfl ?_
  intro p e s m args below meth c s₁ B hml hv
  obtain ⟨rfl, hsz, hP, hCx, hD0⟩ := hv
  have hK := hCx.1
  have hN := hCx.2
  have hx := B.exec
  have hb := B.bytes
  have hr := B.returns
  have hts := atoms_spec (ws := wsX12_ends) B.pre
  have hown : s.vm.findClass RX12 = some m.cls := findClass_of_methodNamed B.named
  have hlocks := B.notSynchronized
  have hin12 : ∀ w ∈ u_ws RX12 TX12 21, w ∈ wsX12_ends := fun w h => List.mem_cons_of_mem _ (List.mem_append_right _ h)
  have kf7 := hts (.fieldLink RX12 7 "HoldSlipsModel" "all" "[I") (by decide +kernel)
  subst hsz
  have hD := hD0.self (sz := s.heap.size)
  generalize hAe : va_A (wX12 cyB cyI cyZ cyO h h_all h_has h_read h_test h_rest h_gets h_waits h_way h_good h_left M_h) s.heap.size = A at hD ⊢
  have hA : ∀ q : Nat, s.heap.size ≤ q → A q := fun q h => by rw [← hAe]; exact Or.inr h
  have hS : va_S A s.heap s.heap [] := va_S.rf
  have hl := lv_entry ([.ref h, .int p1] : List Value) (n := 6) (Nat.le_of_ble_eq_true rfl)
  rw [lg_entry_eq]
  generalize (lg_sl ([.ref h, .int p1] : List Value) ++ List.replicate (6 - (lg_sl ([.ref h, .int p1] : List Value)).length) Slot.unset).toArray = ls at hl ⊢
  have hl : lv_has ls 6 [(0, .ref h), (1, .int p1)] := hl
  have L348 : ∀ (n : Nat), ∀ (M_h : Mem) (x5 : Int32) (H : Heap) (locs : List Loc) (ls : Array Slot), f_X12_ends_L348 n M_h x5 = some (r, R_h) → va_P (dC, dI) vwCl (wX12 cyB cyI cyZ cyO h h_all h_has h_read h_test h_rest h_gets h_waits h_way h_good h_left M_h) H → va_D A (wX12 cyB cyI cyZ cyO h h_all h_has h_read h_test h_rest h_gets h_waits h_way h_good h_left M_h) → va_S A s.heap H locs → lv_has ls 6 [(0, .ref h), (5, .int x5)] → W p l e (headSpec wsX12_ends ({ frames := 3, cells := 0, slots := 0, locals := 71 } : Room)).room s m ([.ref h, .int p1] : List Value).toArray below meth c H locs 0 0 (MQ below (QW dC dI (some (.int r)) (wX12 cyB cyI cyZ cyO h h_all h_has h_read h_test h_rest h_gets h_waits h_way h_good h_left R_h) A) ([.ref h, .int p1] : List Value).toArray s 0 0 A) (F0 m 348 ls []) := by
    intro n
    induction n with
    | zero => intro M_h x5 H locs ls hf hP hD hS hl; rw [f_X12_ends_L348] at hf; cases hf
    | succ n ih =>
      intro M_h x5 H locs ls hf hP hD hS hl
      rw [f_X12_ends_L348] at hf
      refine lv_iload hx hb dX12_ends_348 (lv_at hl 1 rfl) ?_
      refine lv_aload_n hx hb dX12_ends_350 rfl (lv_at hl 0 rfl) ?_
      refine va_get (D := (dC, dI)) (ci := 12) (v := .ref h_all) (C := RX12) (T := TX12) (N := 21) hx hb hts hin12 hown hK hP 0 rfl rfl 0 (by decide) kf7 (fun _ h9 => h9) rfl dX12_ends_351 ?_
      refine lv_iconst (v := (3 : Int32)) hx hb dX12_ends_354 (by decide) ?_
      refine va_iald hx hb hK hP 1 1 rfl rfl (show ¬ ((3 : Int32) < 0 ∨ 11160 ≤ ((3 : Int32)).toNatClampNeg) by decide) dX12_ends_355 ?_
      refine lv_icmp_ge (tgt := 381) hx hb dX12_ends_356 (by decide) (fun hc356 => ?_) (fun hc356 => ?_)
      · rw [if_pos hc356] at hf
        refine lv_aload_n hx hb dX12_ends_381 rfl (lv_at hl 0 rfl) ?_
        refine va_get (D := (dC, dI)) (ci := 12) (v := .ref h_all) (C := RX12) (T := TX12) (N := 21) hx hb hts hin12 hown hK hP 0 rfl rfl 0 (by decide) kf7 (fun _ h9 => h9) rfl dX12_ends_382 ?_
        refine lv_iconst (v := (0 : Int32)) hx hb dX12_ends_385 (by decide) ?_
        refine va_iald hx hb hK hP 1 1 rfl rfl (show ¬ ((0 : Int32) < 0 ∨ 11160 ≤ ((0 : Int32)).toNatClampNeg) by decide) dX12_ends_386 ?_
        obtain ⟨hq0, hq1⟩ := pj2 hf
        subst hq0
        subst hq1
        exact W.iret (v := (M_h 0 ((0 : Int32)).toNatClampNeg)) hx hb hr (fun t ht hW => ⟨rfl, by rw [ht]; exact hP, hD, hS.F ht⟩) hS.2.2 dX12_ends_387
      · rw [if_neg hc356] at hf
        refine lv_aload_n hx hb dX12_ends_359 rfl (lv_at hl 0 rfl) ?_
        refine va_get (D := (dC, dI)) (ci := 12) (v := .ref h_all) (C := RX12) (T := TX12) (N := 21) hx hb hts hin12 hown hK hP 0 rfl rfl 0 (by decide) kf7 (fun _ h9 => h9) rfl dX12_ends_360 ?_
        refine lv_bipush (v := (20 : Int32)) hx hb dX12_ends_363 (by decide) ?_
        refine lv_bipush (v := (8 : Int32)) hx hb dX12_ends_365 (by decide) ?_
        refine lv_iload hx hb dX12_ends_367 (lv_at hl 1 rfl) ?_
        refine lv_imul hx hb dX12_ends_369 ?_
        refine lv_iadd hx hb dX12_ends_370 ?_
        refine lv_iconst (v := (2 : Int32)) hx hb dX12_ends_371 (by decide) ?_
        refine lv_iadd hx hb dX12_ends_372 ?_
        refine lv_iconst (v := (0 : Int32)) hx hb dX12_ends_373 (by decide) ?_
        have hi374 := if_no hf
        rw [if_neg hi374] at hf
        refine va_iast hx hb hK hP hD hS 1 1 rfl rfl hi374 dX12_ends_374 (fun H locs hP hD hS => ?_)
        obtain ⟨M_h_374, eM_h_374, hf⟩ := wr_some hf
        have hP : va_P (dC, dI) vwCl (wX12 cyB cyI cyZ cyO h h_all h_has h_read h_test h_rest h_gets h_waits h_way h_good h_left M_h_374) H := by rw [eM_h_374]; exact hP
        have hD : va_D A (wX12 cyB cyI cyZ cyO h h_all h_has h_read h_test h_rest h_gets h_waits h_way h_good h_left M_h_374) := by rw [eM_h_374]; exact hD
        refine lv_iinc (v := (x5 + (1 : Int32))) (lv' := [(5, .int (x5 + (1 : Int32))), (0, .ref h)]) hx hb dX12_ends_375 hl (k := 1) rfl rfl (by decide) rfl (fun ls hl => ?_)
        refine lv_goto (tgt := 348) hx hb dX12_ends_378 (by decide) ?_
        exact ih M_h_374 (x5 + (1 : Int32)) _ _ ls hf hP hD hS (lv_sub hl [1, 0] rfl)
  have L297 : ∀ (M_h : Mem) (s0 : Int32) (s1 : Int32) (s2 : Int32) (H : Heap) (locs : List Loc) (ls : Array Slot), f_X12_ends_L297 M_h s0 s1 s2 = some (r, R_h) → va_P (dC, dI) vwCl (wX12 cyB cyI cyZ cyO h h_all h_has h_read h_test h_rest h_gets h_waits h_way h_good h_left M_h) H → va_D A (wX12 cyB cyI cyZ cyO h h_all h_has h_read h_test h_rest h_gets h_waits h_way h_good h_left M_h) → va_S A s.heap H locs → lv_has ls 6 [(0, .ref h)] → W p l e (headSpec wsX12_ends ({ frames := 3, cells := 0, slots := 0, locals := 71 } : Room)).room s m ([.ref h, .int p1] : List Value).toArray below meth c H locs 0 0 (MQ below (QW dC dI (some (.int r)) (wX12 cyB cyI cyZ cyO h h_all h_has h_read h_test h_rest h_gets h_waits h_way h_good h_left R_h) A) ([.ref h, .int p1] : List Value).toArray s 0 0 A) (F0 m 297 ls [.int s0, .int s1, .int s2, .ref h_all]) := by
    intro  M_h s0 s1 s2 H locs ls hf hP hD hS hl
    rw [f_X12_ends_L297] at hf
    refine lv_iadd hx hb dX12_ends_297 ?_
    have hi298 := if_no hf
    rw [if_neg hi298] at hf
    refine va_iast hx hb hK hP hD hS 1 1 rfl rfl hi298 dX12_ends_298 (fun H locs hP hD hS => ?_)
    obtain ⟨M_h_298, eM_h_298, hf⟩ := wr_some hf
    have hP : va_P (dC, dI) vwCl (wX12 cyB cyI cyZ cyO h h_all h_has h_read h_test h_rest h_gets h_waits h_way h_good h_left M_h_298) H := by rw [eM_h_298]; exact hP
    have hD : va_D A (wX12 cyB cyI cyZ cyO h h_all h_has h_read h_test h_rest h_gets h_waits h_way h_good h_left M_h_298) := by rw [eM_h_298]; exact hD
    refine lv_aload_n hx hb dX12_ends_299 rfl (lv_at hl 0 rfl) ?_
    refine va_get (D := (dC, dI)) (ci := 12) (v := .ref h_all) (C := RX12) (T := TX12) (N := 21) hx hb hts hin12 hown hK hP 0 rfl rfl 0 (by decide) kf7 (fun _ h9 => h9) rfl dX12_ends_300 ?_
    refine lv_iconst (v := (0 : Int32)) hx hb dX12_ends_303 (by decide) ?_
    refine lv_dup2_11 hx hb dX12_ends_304 rfl rfl ?_
    refine va_iald hx hb hK hP 1 1 rfl rfl (show ¬ ((0 : Int32) < 0 ∨ 11160 ≤ ((0 : Int32)).toNatClampNeg) by decide) dX12_ends_305 ?_
    refine lv_iconst (v := (1 : Int32)) hx hb dX12_ends_306 (by decide) ?_
    refine lv_iadd hx hb dX12_ends_307 ?_
    refine va_iast hx hb hK hP hD hS 1 1 rfl rfl (show ¬ ((0 : Int32) < 0 ∨ 11160 ≤ ((0 : Int32)).toNatClampNeg) by decide) dX12_ends_308 (fun H locs hP hD hS => ?_)
    obtain ⟨M_h_308, eM_h_308, hf⟩ := wr_some hf
    have hP : va_P (dC, dI) vwCl (wX12 cyB cyI cyZ cyO h h_all h_has h_read h_test h_rest h_gets h_waits h_way h_good h_left M_h_308) H := by rw [eM_h_308]; exact hP
    have hD : va_D A (wX12 cyB cyI cyZ cyO h h_all h_has h_read h_test h_rest h_gets h_waits h_way h_good h_left M_h_308) := by rw [eM_h_308]; exact hD
    refine lv_aload_n hx hb dX12_ends_309 rfl (lv_at hl 0 rfl) ?_
    refine va_get (D := (dC, dI)) (ci := 12) (v := .ref h_all) (C := RX12) (T := TX12) (N := 21) hx hb hts hin12 hown hK hP 0 rfl rfl 0 (by decide) kf7 (fun _ h9 => h9) rfl dX12_ends_310 ?_
    refine lv_iconst (v := (1 : Int32)) hx hb dX12_ends_313 (by decide) ?_
    refine lv_iconst (v := (0 : Int32)) hx hb dX12_ends_314 (by decide) ?_
    refine va_iast hx hb hK hP hD hS 1 1 rfl rfl (show ¬ ((1 : Int32) < 0 ∨ 11160 ≤ ((1 : Int32)).toNatClampNeg) by decide) dX12_ends_315 (fun H locs hP hD hS => ?_)
    obtain ⟨M_h_315, eM_h_315, hf⟩ := wr_some hf
    have hP : va_P (dC, dI) vwCl (wX12 cyB cyI cyZ cyO h h_all h_has h_read h_test h_rest h_gets h_waits h_way h_good h_left M_h_315) H := by rw [eM_h_315]; exact hP
    have hD : va_D A (wX12 cyB cyI cyZ cyO h h_all h_has h_read h_test h_rest h_gets h_waits h_way h_good h_left M_h_315) := by rw [eM_h_315]; exact hD
    refine lv_aload_n hx hb dX12_ends_316 rfl (lv_at hl 0 rfl) ?_
    refine va_get (D := (dC, dI)) (ci := 12) (v := .ref h_all) (C := RX12) (T := TX12) (N := 21) hx hb hts hin12 hown hK hP 0 rfl rfl 0 (by decide) kf7 (fun _ h9 => h9) rfl dX12_ends_317 ?_
    refine lv_iconst (v := (2 : Int32)) hx hb dX12_ends_320 (by decide) ?_
    refine lv_iconst (v := (0 : Int32)) hx hb dX12_ends_321 (by decide) ?_
    refine va_iast hx hb hK hP hD hS 1 1 rfl rfl (show ¬ ((2 : Int32) < 0 ∨ 11160 ≤ ((2 : Int32)).toNatClampNeg) by decide) dX12_ends_322 (fun H locs hP hD hS => ?_)
    obtain ⟨M_h_322, eM_h_322, hf⟩ := wr_some hf
    have hP : va_P (dC, dI) vwCl (wX12 cyB cyI cyZ cyO h h_all h_has h_read h_test h_rest h_gets h_waits h_way h_good h_left M_h_322) H := by rw [eM_h_322]; exact hP
    have hD : va_D A (wX12 cyB cyI cyZ cyO h h_all h_has h_read h_test h_rest h_gets h_waits h_way h_good h_left M_h_322) := by rw [eM_h_322]; exact hD
    refine lv_aload_n hx hb dX12_ends_323 rfl (lv_at hl 0 rfl) ?_
    refine va_get (D := (dC, dI)) (ci := 12) (v := .ref h_all) (C := RX12) (T := TX12) (N := 21) hx hb hts hin12 hown hK hP 0 rfl rfl 0 (by decide) kf7 (fun _ h9 => h9) rfl dX12_ends_324 ?_
    refine lv_iconst (v := (4 : Int32)) hx hb dX12_ends_327 (by decide) ?_
    refine lv_iconst (v := (0 : Int32)) hx hb dX12_ends_328 (by decide) ?_
    refine va_iast hx hb hK hP hD hS 1 1 rfl rfl (show ¬ ((4 : Int32) < 0 ∨ 11160 ≤ ((4 : Int32)).toNatClampNeg) by decide) dX12_ends_329 (fun H locs hP hD hS => ?_)
    obtain ⟨M_h_329, eM_h_329, hf⟩ := wr_some hf
    have hP : va_P (dC, dI) vwCl (wX12 cyB cyI cyZ cyO h h_all h_has h_read h_test h_rest h_gets h_waits h_way h_good h_left M_h_329) H := by rw [eM_h_329]; exact hP
    have hD : va_D A (wX12 cyB cyI cyZ cyO h h_all h_has h_read h_test h_rest h_gets h_waits h_way h_good h_left M_h_329) := by rw [eM_h_329]; exact hD
    refine lv_aload_n hx hb dX12_ends_330 rfl (lv_at hl 0 rfl) ?_
    refine va_get (D := (dC, dI)) (ci := 12) (v := .ref h_all) (C := RX12) (T := TX12) (N := 21) hx hb hts hin12 hown hK hP 0 rfl rfl 0 (by decide) kf7 (fun _ h9 => h9) rfl dX12_ends_331 ?_
    refine lv_iconst (v := (5 : Int32)) hx hb dX12_ends_334 (by decide) ?_
    refine lv_iconst (v := (0 : Int32)) hx hb dX12_ends_335 (by decide) ?_
    refine va_iast hx hb hK hP hD hS 1 1 rfl rfl (show ¬ ((5 : Int32) < 0 ∨ 11160 ≤ ((5 : Int32)).toNatClampNeg) by decide) dX12_ends_336 (fun H locs hP hD hS => ?_)
    obtain ⟨M_h_336, eM_h_336, hf⟩ := wr_some hf
    have hP : va_P (dC, dI) vwCl (wX12 cyB cyI cyZ cyO h h_all h_has h_read h_test h_rest h_gets h_waits h_way h_good h_left M_h_336) H := by rw [eM_h_336]; exact hP
    have hD : va_D A (wX12 cyB cyI cyZ cyO h h_all h_has h_read h_test h_rest h_gets h_waits h_way h_good h_left M_h_336) := by rw [eM_h_336]; exact hD
    refine lv_aload_n hx hb dX12_ends_337 rfl (lv_at hl 0 rfl) ?_
    refine va_get (D := (dC, dI)) (ci := 12) (v := .ref h_all) (C := RX12) (T := TX12) (N := 21) hx hb hts hin12 hown hK hP 0 rfl rfl 0 (by decide) kf7 (fun _ h9 => h9) rfl dX12_ends_338 ?_
    refine lv_bipush (v := (16 : Int32)) hx hb dX12_ends_341 (by decide) ?_
    refine lv_iconst (v := (0 : Int32)) hx hb dX12_ends_343 (by decide) ?_
    refine va_iast hx hb hK hP hD hS 1 1 rfl rfl (show ¬ ((16 : Int32) < 0 ∨ 11160 ≤ ((16 : Int32)).toNatClampNeg) by decide) dX12_ends_344 (fun H locs hP hD hS => ?_)
    obtain ⟨M_h_344, eM_h_344, hf⟩ := wr_some hf
    have hP : va_P (dC, dI) vwCl (wX12 cyB cyI cyZ cyO h h_all h_has h_read h_test h_rest h_gets h_waits h_way h_good h_left M_h_344) H := by rw [eM_h_344]; exact hP
    have hD : va_D A (wX12 cyB cyI cyZ cyO h h_all h_has h_read h_test h_rest h_gets h_waits h_way h_good h_left M_h_344) := by rw [eM_h_344]; exact hD
    refine lv_iconst (v := (0 : Int32)) hx hb dX12_ends_345 (by decide) ?_
    refine lv_istore (lv' := [(5, .int (0 : Int32)), (0, .ref h)]) hx hb dX12_ends_346 hl (by decide) rfl (fun ls hl => ?_)
    exact L348 FU M_h_344 (0 : Int32) _ _ ls hf hP hD hS (lv_sub hl [1, 0] rfl)
  have L280 : ∀ (M_h : Mem) (x1 : Int32) (H : Heap) (locs : List Loc) (ls : Array Slot), f_X12_ends_L280 M_h x1 = some (r, R_h) → va_P (dC, dI) vwCl (wX12 cyB cyI cyZ cyO h h_all h_has h_read h_test h_rest h_gets h_waits h_way h_good h_left M_h) H → va_D A (wX12 cyB cyI cyZ cyO h h_all h_has h_read h_test h_rest h_gets h_waits h_way h_good h_left M_h) → va_S A s.heap H locs → lv_has ls 6 [(0, .ref h), (1, .int x1)] → W p l e (headSpec wsX12_ends ({ frames := 3, cells := 0, slots := 0, locals := 71 } : Room)).room s m ([.ref h, .int p1] : List Value).toArray below meth c H locs 0 0 (MQ below (QW dC dI (some (.int r)) (wX12 cyB cyI cyZ cyO h h_all h_has h_read h_test h_rest h_gets h_waits h_way h_good h_left R_h) A) ([.ref h, .int p1] : List Value).toArray s 0 0 A) (F0 m 280 ls []) := by
    intro  M_h x1 H locs ls hf hP hD hS hl
    rw [f_X12_ends_L280] at hf
    refine lv_aload_n hx hb dX12_ends_280 rfl (lv_at hl 0 rfl) ?_
    refine va_get (D := (dC, dI)) (ci := 12) (v := .ref h_all) (C := RX12) (T := TX12) (N := 21) hx hb hts hin12 hown hK hP 0 rfl rfl 0 (by decide) kf7 (fun _ h9 => h9) rfl dX12_ends_281 ?_
    refine lv_bipush (v := (6 : Int32)) hx hb dX12_ends_284 (by decide) ?_
    refine lv_dup2_11 hx hb dX12_ends_286 rfl rfl ?_
    refine va_iald hx hb hK hP 1 1 rfl rfl (show ¬ ((6 : Int32) < 0 ∨ 11160 ≤ ((6 : Int32)).toNatClampNeg) by decide) dX12_ends_287 ?_
    refine lv_iload_n hx hb dX12_ends_288 rfl (lv_at hl 1 rfl) ?_
    refine lv_if_eq (tgt := 296) hx hb dX12_ends_289 (by decide) (fun hc289 => ?_) (fun hc289 => ?_)
    · rw [if_pos hc289] at hf
      refine lv_iconst (v := (0 : Int32)) hx hb dX12_ends_296 (by decide) ?_
      exact L297 M_h (0 : Int32) (M_h 0 ((6 : Int32)).toNatClampNeg) (6 : Int32) _ _ ls hf hP hD hS (lv_sub hl [0] rfl)
    · rw [if_neg hc289] at hf
      refine lv_iconst (v := (1 : Int32)) hx hb dX12_ends_292 (by decide) ?_
      refine lv_goto (tgt := 297) hx hb dX12_ends_293 (by decide) ?_
      exact L297 M_h (1 : Int32) (M_h 0 ((6 : Int32)).toNatClampNeg) (6 : Int32) _ _ ls hf hP hD hS (lv_sub hl [0] rfl)
  have L253 : ∀ (n : Nat), ∀ (M_h : Mem) (x1 : Int32) (x5 : Int32) (H : Heap) (locs : List Loc) (ls : Array Slot), f_X12_ends_L253 n M_h x1 x5 = some (r, R_h) → va_P (dC, dI) vwCl (wX12 cyB cyI cyZ cyO h h_all h_has h_read h_test h_rest h_gets h_waits h_way h_good h_left M_h) H → va_D A (wX12 cyB cyI cyZ cyO h h_all h_has h_read h_test h_rest h_gets h_waits h_way h_good h_left M_h) → va_S A s.heap H locs → lv_has ls 6 [(0, .ref h), (1, .int x1), (5, .int x5)] → W p l e (headSpec wsX12_ends ({ frames := 3, cells := 0, slots := 0, locals := 71 } : Room)).room s m ([.ref h, .int p1] : List Value).toArray below meth c H locs 0 0 (MQ below (QW dC dI (some (.int r)) (wX12 cyB cyI cyZ cyO h h_all h_has h_read h_test h_rest h_gets h_waits h_way h_good h_left R_h) A) ([.ref h, .int p1] : List Value).toArray s 0 0 A) (F0 m 253 ls []) := by
    intro n
    induction n with
    | zero => intro M_h x1 x5 H locs ls hf hP hD hS hl; rw [f_X12_ends_L253] at hf; cases hf
    | succ n ih =>
      intro M_h x1 x5 H locs ls hf hP hD hS hl
      rw [f_X12_ends_L253] at hf
      refine lv_iload hx hb dX12_ends_253 (lv_at hl 2 rfl) ?_
      refine lv_aload_n hx hb dX12_ends_255 rfl (lv_at hl 0 rfl) ?_
      refine va_get (D := (dC, dI)) (ci := 12) (v := .ref h_all) (C := RX12) (T := TX12) (N := 21) hx hb hts hin12 hown hK hP 0 rfl rfl 0 (by decide) kf7 (fun _ h9 => h9) rfl dX12_ends_256 ?_
      refine lv_iconst (v := (5 : Int32)) hx hb dX12_ends_259 (by decide) ?_
      refine va_iald hx hb hK hP 1 1 rfl rfl (show ¬ ((5 : Int32) < 0 ∨ 11160 ≤ ((5 : Int32)).toNatClampNeg) by decide) dX12_ends_260 ?_
      refine lv_icmp_ge (tgt := 280) hx hb dX12_ends_261 (by decide) (fun hc261 => ?_) (fun hc261 => ?_)
      · rw [if_pos hc261] at hf
        exact L280 M_h x1 _ _ ls hf hP hD hS (lv_sub hl [0, 1] rfl)
      · rw [if_neg hc261] at hf
        refine lv_iload_n hx hb dX12_ends_264 rfl (lv_at hl 1 rfl) ?_
        refine lv_if_ne (tgt := 280) hx hb dX12_ends_265 (by decide) (fun hc265 => ?_) (fun hc265 => ?_)
        · rw [if_neg hc265] at hf
          exact L280 M_h x1 _ _ ls hf hP hD hS (lv_sub hl [0, 1] rfl)
        · rw [if_pos hc265] at hf
          refine lv_aload_n hx hb dX12_ends_268 rfl (lv_at hl 0 rfl) ?_
          refine lv_iload hx hb dX12_ends_269 (lv_at hl 2 rfl) ?_
          obtain ⟨M_h_271, h271, hf⟩ := bd1_some hf
          refine wr_callv (wc := (wX12 cyB cyI cyZ cyO h h_all h_has h_read h_test h_rest h_gets h_waits h_way h_good h_left M_h)) (wr := ([] : va_W)) (w1 := (wX12 cyB cyI cyZ cyO h h_all h_has h_read h_test h_rest h_gets h_waits h_way h_good h_left M_h_271)) (ws' := (wX12 cyB cyI cyZ cyO h h_all h_has h_read h_test h_rest h_gets h_waits h_way h_good h_left M_h_271)) hP hD hS hA [0, 1, 2, 3, 4, 5, 6, 7, 8, 9, 10] [] [0, 1, 2, 3, 4, 5, 6, 7, 8, 9, 10] rfl rfl (by decide) (by decide) rfl (by decide) (va_runV (As := [.int x5]) (rest := []) ⟨hx, hb, hml, hown, hts⟩ (c_X12_paysBack l dC dI cyB cyI cyZ cyO h h_all h_has h_read h_test h_rest h_gets h_waits h_way h_good h_left _ M_h x5 M_h_271 h271) (cwV 1 hts gX12_ends_X12_paysBack rfl rfl rfl (by decide +kernel) ⟨Nat.le_of_ble_eq_true rfl, Nat.le_of_ble_eq_true rfl⟩) ⟨PW.blind, va_recv hK hP (ci := 12) (q0 := 0) rfl rfl, fun U hU hW => ⟨rfl, by rw [hU], by rw [hU]; exact hP, hCx.warm hW, hD.weaken (fun _ _ _ _ => trivial)⟩⟩ rfl rfl hl.1 rfl (lv_room (Nat.le_of_ble_eq_true rfl)) dX12_ends_271 ⟨Nat.zero_le _, Nat.zero_le _⟩) (fun H locs hP hD hS => ?_)
          refine lv_iinc (v := (x5 + (1 : Int32))) (lv' := [(5, .int (x5 + (1 : Int32))), (0, .ref h), (1, .int x1)]) hx hb dX12_ends_274 hl (k := 2) rfl rfl (by decide) rfl (fun ls hl => ?_)
          refine lv_goto (tgt := 253) hx hb dX12_ends_277 (by decide) ?_
          exact ih M_h_271 x1 (x5 + (1 : Int32)) _ _ ls hf hP hD hS (lv_sub hl [1, 2, 0] rfl)
  have L211 : ∀ (n : Nat), ∀ (M_h : Mem) (x1 : Int32) (x2 : Int32) (x4 : Int32) (x5 : Int32) (H : Heap) (locs : List Loc) (ls : Array Slot), f_X12_ends_L211 n M_h x1 x2 x4 x5 = some (r, R_h) → va_P (dC, dI) vwCl (wX12 cyB cyI cyZ cyO h h_all h_has h_read h_test h_rest h_gets h_waits h_way h_good h_left M_h) H → va_D A (wX12 cyB cyI cyZ cyO h h_all h_has h_read h_test h_rest h_gets h_waits h_way h_good h_left M_h) → va_S A s.heap H locs → lv_has ls 6 [(0, .ref h), (1, .int x1), (2, .int x2), (4, .int x4), (5, .int x5)] → W p l e (headSpec wsX12_ends ({ frames := 3, cells := 0, slots := 0, locals := 71 } : Room)).room s m ([.ref h, .int p1] : List Value).toArray below meth c H locs 0 0 (MQ below (QW dC dI (some (.int r)) (wX12 cyB cyI cyZ cyO h h_all h_has h_read h_test h_rest h_gets h_waits h_way h_good h_left R_h) A) ([.ref h, .int p1] : List Value).toArray s 0 0 A) (F0 m 211 ls []) := by
    intro n
    induction n with
    | zero => intro M_h x1 x2 x4 x5 H locs ls hf hP hD hS hl; rw [f_X12_ends_L211] at hf; cases hf
    | succ n ih =>
      intro M_h x1 x2 x4 x5 H locs ls hf hP hD hS hl
      rw [f_X12_ends_L211] at hf
      refine lv_iload hx hb dX12_ends_211 (lv_at hl 4 rfl) ?_
      refine lv_aload_n hx hb dX12_ends_213 rfl (lv_at hl 0 rfl) ?_
      refine va_get (D := (dC, dI)) (ci := 12) (v := .ref h_all) (C := RX12) (T := TX12) (N := 21) hx hb hts hin12 hown hK hP 0 rfl rfl 0 (by decide) kf7 (fun _ h9 => h9) rfl dX12_ends_214 ?_
      refine lv_iconst (v := (4 : Int32)) hx hb dX12_ends_217 (by decide) ?_
      refine va_iald hx hb hK hP 1 1 rfl rfl (show ¬ ((4 : Int32) < 0 ∨ 11160 ≤ ((4 : Int32)).toNatClampNeg) by decide) dX12_ends_218 ?_
      refine lv_icmp_ge (tgt := 250) hx hb dX12_ends_219 (by decide) (fun hc219 => ?_) (fun hc219 => ?_)
      · rw [if_pos hc219] at hf
        refine lv_iconst (v := (0 : Int32)) hx hb dX12_ends_250 (by decide) ?_
        refine lv_istore (lv' := [(5, .int (0 : Int32)), (0, .ref h), (1, .int x1), (2, .int x2), (4, .int x4)]) hx hb dX12_ends_251 hl (by decide) rfl (fun ls hl => ?_)
        exact L253 FU M_h x1 (0 : Int32) _ _ ls hf hP hD hS (lv_sub hl [1, 2, 0] rfl)
      · rw [if_neg hc219] at hf
        refine lv_iload_n hx hb dX12_ends_222 rfl (lv_at hl 1 rfl) ?_
        refine lv_if_ne (tgt := 250) hx hb dX12_ends_223 (by decide) (fun hc223 => ?_) (fun hc223 => ?_)
        · rw [if_neg hc223] at hf
          refine lv_iconst (v := (0 : Int32)) hx hb dX12_ends_250 (by decide) ?_
          refine lv_istore (lv' := [(5, .int (0 : Int32)), (0, .ref h), (1, .int x1), (2, .int x2), (4, .int x4)]) hx hb dX12_ends_251 hl (by decide) rfl (fun ls hl => ?_)
          exact L253 FU M_h x1 (0 : Int32) _ _ ls hf hP hD hS (lv_sub hl [1, 2, 0] rfl)
        · rw [if_pos hc223] at hf
          refine lv_aload_n hx hb dX12_ends_226 rfl (lv_at hl 0 rfl) ?_
          refine lv_iload hx hb dX12_ends_227 (lv_at hl 4 rfl) ?_
          obtain ⟨r229, h229, hf⟩ := bd1_some hf
          refine ro_calli (va_runV (As := [.int x5]) (rest := []) ⟨hx, hb, hml, hown, hts⟩ (c_X12_lies l dC dI cyB cyI cyZ cyO h h_all h_has h_read h_test h_rest h_gets h_waits h_way h_good h_left M_h x5 r229 h229) (cwV 1 hts gX12_ends_X12_lies rfl rfl rfl (by decide +kernel) ⟨Nat.le_of_ble_eq_true rfl, Nat.le_of_ble_eq_true rfl⟩) ⟨PR.blind, va_recv hK hP (ci := 12) (q0 := 0) rfl rfl, fun U hU hW => ⟨rfl, by rw [hU]; exact hP, hCx.warm hW⟩⟩ rfl rfl hl.1 rfl (lv_room (Nat.le_of_ble_eq_true rfl)) dX12_ends_229 ⟨Nat.zero_le _, Nat.zero_le _⟩) ?_
          refine lv_if_eq (tgt := 244) hx hb dX12_ends_232 (by decide) (fun hc232 => ?_) (fun hc232 => ?_)
          · rw [if_pos hc232] at hf
            refine lv_iinc (v := (x5 + (1 : Int32))) (lv' := [(5, .int (x5 + (1 : Int32))), (0, .ref h), (1, .int x1), (2, .int x2), (4, .int x4)]) hx hb dX12_ends_244 hl (k := 4) rfl rfl (by decide) rfl (fun ls hl => ?_)
            refine lv_goto (tgt := 211) hx hb dX12_ends_247 (by decide) ?_
            exact ih M_h x1 x2 x4 (x5 + (1 : Int32)) _ _ ls hf hP hD hS (lv_sub hl [1, 2, 3, 4, 0] rfl)
          · rw [if_neg hc232] at hf
            refine lv_aload_n hx hb dX12_ends_235 rfl (lv_at hl 0 rfl) ?_
            refine lv_iload hx hb dX12_ends_236 (lv_at hl 4 rfl) ?_
            refine lv_iload hx hb dX12_ends_238 (lv_at hl 3 rfl) ?_
            refine lv_iload_n hx hb dX12_ends_240 rfl (lv_at hl 2 rfl) ?_
            obtain ⟨M_h_241, h241, hf⟩ := bd1_some hf
            refine wr_callv (wc := (wX12 cyB cyI cyZ cyO h h_all h_has h_read h_test h_rest h_gets h_waits h_way h_good h_left M_h)) (wr := ([] : va_W)) (w1 := (wX12 cyB cyI cyZ cyO h h_all h_has h_read h_test h_rest h_gets h_waits h_way h_good h_left M_h_241)) (ws' := (wX12 cyB cyI cyZ cyO h h_all h_has h_read h_test h_rest h_gets h_waits h_way h_good h_left M_h_241)) hP hD hS hA [0, 1, 2, 3, 4, 5, 6, 7, 8, 9, 10] [] [0, 1, 2, 3, 4, 5, 6, 7, 8, 9, 10] rfl rfl (by decide) (by decide) rfl (by decide) (va_runV (As := [.int x5, .int x4, .int x2]) (rest := []) ⟨hx, hb, hml, hown, hts⟩ (c_X12_comes l dC dI cyB cyI cyZ cyO h h_all h_has h_read h_test h_rest h_gets h_waits h_way h_good h_left _ M_h x5 x4 x2 M_h_241 h241) (cwV 3 hts gX12_ends_X12_comes rfl rfl rfl (by decide +kernel) ⟨Nat.le_of_ble_eq_true rfl, Nat.le_of_ble_eq_true rfl⟩) ⟨PW.blind, va_recv hK hP (ci := 12) (q0 := 0) rfl rfl, fun U hU hW => ⟨rfl, by rw [hU], by rw [hU]; exact hP, hCx.warm hW, hD.weaken (fun _ _ _ _ => trivial)⟩⟩ rfl rfl hl.1 rfl (lv_room (Nat.le_of_ble_eq_true rfl)) dX12_ends_241 ⟨Nat.zero_le _, Nat.zero_le _⟩) (fun H locs hP hD hS => ?_)
            refine lv_iinc (v := (x5 + (1 : Int32))) (lv' := [(5, .int (x5 + (1 : Int32))), (0, .ref h), (1, .int x1), (2, .int x2), (4, .int x4)]) hx hb dX12_ends_244 hl (k := 4) rfl rfl (by decide) rfl (fun ls hl => ?_)
            refine lv_goto (tgt := 211) hx hb dX12_ends_247 (by decide) ?_
            exact ih M_h_241 x1 x2 x4 (x5 + (1 : Int32)) _ _ ls hf hP hD hS (lv_sub hl [1, 2, 3, 4, 0] rfl)
  have L196 : ∀ (M_h : Mem) (x1 : Int32) (x2 : Int32) (s0 : Int32) (H : Heap) (locs : List Loc) (ls : Array Slot), f_X12_ends_L196 M_h x1 x2 s0 = some (r, R_h) → va_P (dC, dI) vwCl (wX12 cyB cyI cyZ cyO h h_all h_has h_read h_test h_rest h_gets h_waits h_way h_good h_left M_h) H → va_D A (wX12 cyB cyI cyZ cyO h h_all h_has h_read h_test h_rest h_gets h_waits h_way h_good h_left M_h) → va_S A s.heap H locs → lv_has ls 6 [(0, .ref h), (1, .int x1), (2, .int x2)] → W p l e (headSpec wsX12_ends ({ frames := 3, cells := 0, slots := 0, locals := 71 } : Room)).room s m ([.ref h, .int p1] : List Value).toArray below meth c H locs 0 0 (MQ below (QW dC dI (some (.int r)) (wX12 cyB cyI cyZ cyO h h_all h_has h_read h_test h_rest h_gets h_waits h_way h_good h_left R_h) A) ([.ref h, .int p1] : List Value).toArray s 0 0 A) (F0 m 196 ls [.int s0]) := by
    intro  M_h x1 x2 s0 H locs ls hf hP hD hS hl
    rw [f_X12_ends_L196] at hf
    refine lv_istore (lv' := [(4, .int s0), (0, .ref h), (1, .int x1), (2, .int x2)]) hx hb dX12_ends_196 hl (by decide) rfl (fun ls hl => ?_)
    refine lv_aload_n hx hb dX12_ends_198 rfl (lv_at hl 1 rfl) ?_
    refine va_get (D := (dC, dI)) (ci := 12) (v := .ref h_all) (C := RX12) (T := TX12) (N := 21) hx hb hts hin12 hown hK hP 0 rfl rfl 0 (by decide) kf7 (fun _ h9 => h9) rfl dX12_ends_199 ?_
    refine lv_iload_n hx hb dX12_ends_202 rfl (lv_at hl 3 rfl) ?_
    refine lv_iconst (v := (4 : Int32)) hx hb dX12_ends_203 (by decide) ?_
    refine lv_iadd hx hb dX12_ends_204 ?_
    refine lv_iload hx hb dX12_ends_205 (lv_at hl 0 rfl) ?_
    have hi207 := if_no hf
    rw [if_neg hi207] at hf
    refine va_iast hx hb hK hP hD hS 1 1 rfl rfl hi207 dX12_ends_207 (fun H locs hP hD hS => ?_)
    obtain ⟨M_h_207, eM_h_207, hf⟩ := wr_some hf
    have hP : va_P (dC, dI) vwCl (wX12 cyB cyI cyZ cyO h h_all h_has h_read h_test h_rest h_gets h_waits h_way h_good h_left M_h_207) H := by rw [eM_h_207]; exact hP
    have hD : va_D A (wX12 cyB cyI cyZ cyO h h_all h_has h_read h_test h_rest h_gets h_waits h_way h_good h_left M_h_207) := by rw [eM_h_207]; exact hD
    refine lv_iconst (v := (0 : Int32)) hx hb dX12_ends_208 (by decide) ?_
    refine lv_istore (lv' := [(5, .int (0 : Int32)), (4, .int s0), (0, .ref h), (1, .int x1), (2, .int x2)]) hx hb dX12_ends_209 hl (by decide) rfl (fun ls hl => ?_)
    exact L211 FU M_h_207 x1 x2 s0 (0 : Int32) _ _ ls hf hP hD hS (lv_sub hl [2, 3, 4, 1, 0] rfl)
  have L95 : ∀ (n : Nat), ∀ (M_h : Mem) (x1 : Int32) (x2 : Int32) (x3 : Int32) (x4 : Int32) (H : Heap) (locs : List Loc) (ls : Array Slot), f_X12_ends_L95 n M_h x1 x2 x3 x4 = some (r, R_h) → va_P (dC, dI) vwCl (wX12 cyB cyI cyZ cyO h h_all h_has h_read h_test h_rest h_gets h_waits h_way h_good h_left M_h) H → va_D A (wX12 cyB cyI cyZ cyO h h_all h_has h_read h_test h_rest h_gets h_waits h_way h_good h_left M_h) → va_S A s.heap H locs → lv_has ls 6 [(0, .ref h), (1, .int x1), (2, .int x2), (3, .int x3), (4, .int x4)] → W p l e (headSpec wsX12_ends ({ frames := 3, cells := 0, slots := 0, locals := 71 } : Room)).room s m ([.ref h, .int p1] : List Value).toArray below meth c H locs 0 0 (MQ below (QW dC dI (some (.int r)) (wX12 cyB cyI cyZ cyO h h_all h_has h_read h_test h_rest h_gets h_waits h_way h_good h_left R_h) A) ([.ref h, .int p1] : List Value).toArray s 0 0 A) (F0 m 95 ls []) := by
    intro n
    induction n with
    | zero => intro M_h x1 x2 x3 x4 H locs ls hf hP hD hS hl; rw [f_X12_ends_L95] at hf; cases hf
    | succ n ih =>
      intro M_h x1 x2 x3 x4 H locs ls hf hP hD hS hl
      rw [f_X12_ends_L95] at hf
      refine lv_iload hx hb dX12_ends_95 (lv_at hl 4 rfl) ?_
      refine lv_aload_n hx hb dX12_ends_97 rfl (lv_at hl 0 rfl) ?_
      refine va_get (D := (dC, dI)) (ci := 12) (v := .ref h_all) (C := RX12) (T := TX12) (N := 21) hx hb hts hin12 hown hK hP 0 rfl rfl 0 (by decide) kf7 (fun _ h9 => h9) rfl dX12_ends_98 ?_
      refine lv_iconst (v := (4 : Int32)) hx hb dX12_ends_101 (by decide) ?_
      refine va_iald hx hb hK hP 1 1 rfl rfl (show ¬ ((4 : Int32) < 0 ∨ 11160 ≤ ((4 : Int32)).toNatClampNeg) by decide) dX12_ends_102 ?_
      refine lv_icmp_ge (tgt := 180) hx hb dX12_ends_103 (by decide) (fun hc103 => ?_) (fun hc103 => ?_)
      · rw [if_pos hc103] at hf
        refine lv_iload_n hx hb dX12_ends_180 rfl (lv_at hl 1 rfl) ?_
        refine lv_if_eq (tgt := 188) hx hb dX12_ends_181 (by decide) (fun hc181 => ?_) (fun hc181 => ?_)
        · rw [if_pos hc181] at hf
          refine lv_sipush (v := (20000 : Int32)) hx hb dX12_ends_188 (by decide) ?_
          refine lv_bipush (v := (100 : Int32)) hx hb dX12_ends_191 (by decide) ?_
          refine lv_iload_n hx hb dX12_ends_193 rfl (lv_at hl 3 rfl) ?_
          refine lv_iadd hx hb dX12_ends_194 ?_
          have hz195 := if_no hf
          rw [if_neg hz195] at hf
          refine lv_idiv hx hb dX12_ends_195 hz195 ?_
          exact L196 M_h x1 x2 ((20000 : Int32) / ((100 : Int32) + x3)) _ _ ls hf hP hD hS (lv_sub hl [0, 1, 2] rfl)
        · rw [if_neg hc181] at hf
          refine lv_iconst (v := (0 : Int32)) hx hb dX12_ends_184 (by decide) ?_
          refine lv_goto (tgt := 196) hx hb dX12_ends_185 (by decide) ?_
          exact L196 M_h x1 x2 (0 : Int32) _ _ ls hf hP hD hS (lv_sub hl [0, 1, 2] rfl)
      · rw [if_neg hc103] at hf
        refine lv_aload_n hx hb dX12_ends_106 rfl (lv_at hl 0 rfl) ?_
        refine lv_iload hx hb dX12_ends_107 (lv_at hl 4 rfl) ?_
        obtain ⟨r109, h109, hf⟩ := bd1_some hf
        refine ro_calli (va_runV (As := [.int x4]) (rest := []) ⟨hx, hb, hml, hown, hts⟩ (c_X12_lies l dC dI cyB cyI cyZ cyO h h_all h_has h_read h_test h_rest h_gets h_waits h_way h_good h_left M_h x4 r109 h109) (cwV 1 hts gX12_ends_X12_lies rfl rfl rfl (by decide +kernel) ⟨Nat.le_of_ble_eq_true rfl, Nat.le_of_ble_eq_true rfl⟩) ⟨PR.blind, va_recv hK hP (ci := 12) (q0 := 0) rfl rfl, fun U hU hW => ⟨rfl, by rw [hU]; exact hP, hCx.warm hW⟩⟩ rfl rfl hl.1 rfl (lv_room (Nat.le_of_ble_eq_true rfl)) dX12_ends_109 ⟨Nat.zero_le _, Nat.zero_le _⟩) ?_
        refine lv_if_ne (tgt := 118) hx hb dX12_ends_112 (by decide) (fun hc112 => ?_) (fun hc112 => ?_)
        · rw [if_neg hc112] at hf
          refine lv_aload_n hx hb dX12_ends_118 rfl (lv_at hl 0 rfl) ?_
          refine va_get (D := (dC, dI)) (ci := 12) (v := .ref h_all) (C := RX12) (T := TX12) (N := 21) hx hb hts hin12 hown hK hP 0 rfl rfl 0 (by decide) kf7 (fun _ h9 => h9) rfl dX12_ends_119 ?_
          refine lv_iload_n hx hb dX12_ends_122 rfl (lv_at hl 2 rfl) ?_
          refine lv_iconst (v := (1 : Int32)) hx hb dX12_ends_123 (by decide) ?_
          refine lv_iadd hx hb dX12_ends_124 ?_
          refine lv_dup2_11 hx hb dX12_ends_125 rfl rfl ?_
          have hi126 := if_no hf
          rw [if_neg hi126] at hf
          refine va_iald hx hb hK hP 1 1 rfl rfl hi126 dX12_ends_126 ?_
          refine lv_iconst (v := (1 : Int32)) hx hb dX12_ends_127 (by decide) ?_
          refine lv_iadd hx hb dX12_ends_128 ?_
          refine va_iast hx hb hK hP hD hS 1 1 rfl rfl hi126 dX12_ends_129 (fun H locs hP hD hS => ?_)
          obtain ⟨M_h_129, eM_h_129, hf⟩ := wr_some hf
          have hP : va_P (dC, dI) vwCl (wX12 cyB cyI cyZ cyO h h_all h_has h_read h_test h_rest h_gets h_waits h_way h_good h_left M_h_129) H := by rw [eM_h_129]; exact hP
          have hD : va_D A (wX12 cyB cyI cyZ cyO h h_all h_has h_read h_test h_rest h_gets h_waits h_way h_good h_left M_h_129) := by rw [eM_h_129]; exact hD
          refine lv_aload_n hx hb dX12_ends_130 rfl (lv_at hl 0 rfl) ?_
          refine va_get (D := (dC, dI)) (ci := 12) (v := .ref h_all) (C := RX12) (T := TX12) (N := 21) hx hb hts hin12 hown hK hP 0 rfl rfl 0 (by decide) kf7 (fun _ h9 => h9) rfl dX12_ends_131 ?_
          refine lv_iload_n hx hb dX12_ends_134 rfl (lv_at hl 2 rfl) ?_
          refine lv_iconst (v := (2 : Int32)) hx hb dX12_ends_135 (by decide) ?_
          refine lv_iadd hx hb dX12_ends_136 ?_
          refine lv_dup2_11 hx hb dX12_ends_137 rfl rfl ?_
          have hi138 := if_no hf
          rw [if_neg hi138] at hf
          refine va_iald hx hb hK hP 1 1 rfl rfl hi138 dX12_ends_138 ?_
          refine lv_aload_n hx hb dX12_ends_139 rfl (lv_at hl 0 rfl) ?_
          refine lv_iload hx hb dX12_ends_140 (lv_at hl 4 rfl) ?_
          obtain ⟨r142, h142, hf⟩ := bd1_some hf
          refine ro_calli (va_runV (As := [.int x4]) (rest := [.int (M_h_129 0 ((x2 + (2 : Int32))).toNatClampNeg), .int (x2 + (2 : Int32)), .ref h_all]) ⟨hx, hb, hml, hown, hts⟩ (c_X12_value l dC dI cyB cyI cyZ cyO h h_all h_has h_read h_test h_rest h_gets h_waits h_way h_good h_left M_h_129 x4 r142 h142) (cwV 1 hts gX12_ends_X12_value rfl rfl rfl (by decide +kernel) ⟨Nat.le_of_ble_eq_true rfl, Nat.le_of_ble_eq_true rfl⟩) ⟨PR.blind, va_recv hK hP (ci := 12) (q0 := 0) rfl rfl, fun U hU hW => ⟨rfl, by rw [hU]; exact hP, hCx.warm hW⟩⟩ rfl rfl hl.1 rfl (lv_room (Nat.le_of_ble_eq_true rfl)) dX12_ends_142 ⟨Nat.zero_le _, Nat.zero_le _⟩) ?_
          refine lv_iadd hx hb dX12_ends_145 ?_
          refine va_iast hx hb hK hP hD hS 1 1 rfl rfl hi138 dX12_ends_146 (fun H locs hP hD hS => ?_)
          obtain ⟨M_h_146, eM_h_146, hf⟩ := wr_some hf
          have hP : va_P (dC, dI) vwCl (wX12 cyB cyI cyZ cyO h h_all h_has h_read h_test h_rest h_gets h_waits h_way h_good h_left M_h_146) H := by rw [eM_h_146]; exact hP
          have hD : va_D A (wX12 cyB cyI cyZ cyO h h_all h_has h_read h_test h_rest h_gets h_waits h_way h_good h_left M_h_146) := by rw [eM_h_146]; exact hD
          refine lv_aload_n hx hb dX12_ends_147 rfl (lv_at hl 0 rfl) ?_
          refine va_get (D := (dC, dI)) (ci := 12) (v := .ref h_all) (C := RX12) (T := TX12) (N := 21) hx hb hts hin12 hown hK hP 0 rfl rfl 0 (by decide) kf7 (fun _ h9 => h9) rfl dX12_ends_148 ?_
          refine lv_iload_n hx hb dX12_ends_151 rfl (lv_at hl 2 rfl) ?_
          refine lv_iconst (v := (3 : Int32)) hx hb dX12_ends_152 (by decide) ?_
          refine lv_iadd hx hb dX12_ends_153 ?_
          refine lv_dup2_11 hx hb dX12_ends_154 rfl rfl ?_
          have hi155 := if_no hf
          rw [if_neg hi155] at hf
          refine va_iald hx hb hK hP 1 1 rfl rfl hi155 dX12_ends_155 ?_
          refine lv_aload_n hx hb dX12_ends_156 rfl (lv_at hl 0 rfl) ?_
          refine lv_iload hx hb dX12_ends_157 (lv_at hl 4 rfl) ?_
          refine lv_iconst (v := (2 : Int32)) hx hb dX12_ends_159 (by decide) ?_
          obtain ⟨r160, h160, hf⟩ := bd1_some hf
          refine ro_calli (va_runV (As := [.int x4, .int (2 : Int32)]) (rest := [.int (M_h_146 0 ((x2 + (3 : Int32))).toNatClampNeg), .int (x2 + (3 : Int32)), .ref h_all]) ⟨hx, hb, hml, hown, hts⟩ (c_X12_its l dC dI cyB cyI cyZ cyO h h_all h_has h_read h_test h_rest h_gets h_waits h_way h_good h_left M_h_146 x4 (2 : Int32) r160 h160) (cwV 2 hts gX12_ends_X12_its rfl rfl rfl (by decide +kernel) ⟨Nat.le_of_ble_eq_true rfl, Nat.le_of_ble_eq_true rfl⟩) ⟨PR.blind, va_recv hK hP (ci := 12) (q0 := 0) rfl rfl, fun U hU hW => ⟨rfl, by rw [hU]; exact hP, hCx.warm hW⟩⟩ rfl rfl hl.1 rfl (lv_room (Nat.le_of_ble_eq_true rfl)) dX12_ends_160 ⟨Nat.zero_le _, Nat.zero_le _⟩) ?_
          refine lv_iadd hx hb dX12_ends_163 ?_
          refine va_iast hx hb hK hP hD hS 1 1 rfl rfl hi155 dX12_ends_164 (fun H locs hP hD hS => ?_)
          obtain ⟨M_h_164, eM_h_164, hf⟩ := wr_some hf
          have hP : va_P (dC, dI) vwCl (wX12 cyB cyI cyZ cyO h h_all h_has h_read h_test h_rest h_gets h_waits h_way h_good h_left M_h_164) H := by rw [eM_h_164]; exact hP
          have hD : va_D A (wX12 cyB cyI cyZ cyO h h_all h_has h_read h_test h_rest h_gets h_waits h_way h_good h_left M_h_164) := by rw [eM_h_164]; exact hD
          refine lv_iload_n hx hb dX12_ends_165 rfl (lv_at hl 3 rfl) ?_
          refine lv_aload_n hx hb dX12_ends_166 rfl (lv_at hl 0 rfl) ?_
          refine lv_iload hx hb dX12_ends_167 (lv_at hl 4 rfl) ?_
          obtain ⟨r169, h169, hf⟩ := bd1_some hf
          refine ro_calli (va_runV (As := [.int x4]) (rest := [.int x3]) ⟨hx, hb, hml, hown, hts⟩ (c_X12_room l dC dI cyB cyI cyZ cyO h h_all h_has h_read h_test h_rest h_gets h_waits h_way h_good h_left M_h_164 x4 r169 h169) (cwV 1 hts gX12_ends_X12_room rfl rfl rfl (by decide +kernel) ⟨Nat.le_of_ble_eq_true rfl, Nat.le_of_ble_eq_true rfl⟩) ⟨PR.blind, va_recv hK hP (ci := 12) (q0 := 0) rfl rfl, fun U hU hW => ⟨rfl, by rw [hU]; exact hP, hCx.warm hW⟩⟩ rfl rfl hl.1 rfl (lv_room (Nat.le_of_ble_eq_true rfl)) dX12_ends_169 ⟨Nat.zero_le _, Nat.zero_le _⟩) ?_
          refine lv_iadd hx hb dX12_ends_172 ?_
          refine lv_istore_n (lv' := [(3, .int (x3 + r169)), (0, .ref h), (1, .int x1), (2, .int x2), (4, .int x4)]) hx hb dX12_ends_173 rfl hl (by decide) rfl (fun ls hl => ?_)
          refine lv_iinc (v := (x4 + (1 : Int32))) (lv' := [(4, .int (x4 + (1 : Int32))), (3, .int (x3 + r169)), (0, .ref h), (1, .int x1), (2, .int x2)]) hx hb dX12_ends_174 hl (k := 4) rfl rfl (by decide) rfl (fun ls hl => ?_)
          refine lv_goto (tgt := 95) hx hb dX12_ends_177 (by decide) ?_
          exact ih M_h_164 x1 x2 (x3 + r169) (x4 + (1 : Int32)) _ _ ls hf hP hD hS (lv_sub hl [2, 3, 4, 1, 0] rfl)
        · rw [if_pos hc112] at hf
          refine lv_goto (tgt := 174) hx hb dX12_ends_115 (by decide) ?_
          refine lv_iinc (v := (x4 + (1 : Int32))) (lv' := [(4, .int (x4 + (1 : Int32))), (0, .ref h), (1, .int x1), (2, .int x2), (3, .int x3)]) hx hb dX12_ends_174 hl (k := 4) rfl rfl (by decide) rfl (fun ls hl => ?_)
          refine lv_goto (tgt := 95) hx hb dX12_ends_177 (by decide) ?_
          exact ih M_h x1 x2 x3 (x4 + (1 : Int32)) _ _ ls hf hP hD hS (lv_sub hl [1, 2, 3, 4, 0] rfl)
  have L39 : ∀ (n : Nat), ∀ (M_h : Mem) (x1 : Int32) (x2 : Int32) (x3 : Int32) (H : Heap) (locs : List Loc) (ls : Array Slot), f_X12_ends_L39 n M_h x1 x2 x3 = some (r, R_h) → va_P (dC, dI) vwCl (wX12 cyB cyI cyZ cyO h h_all h_has h_read h_test h_rest h_gets h_waits h_way h_good h_left M_h) H → va_D A (wX12 cyB cyI cyZ cyO h h_all h_has h_read h_test h_rest h_gets h_waits h_way h_good h_left M_h) → va_S A s.heap H locs → lv_has ls 6 [(0, .ref h), (1, .int x1), (2, .int x2), (3, .int x3)] → W p l e (headSpec wsX12_ends ({ frames := 3, cells := 0, slots := 0, locals := 71 } : Room)).room s m ([.ref h, .int p1] : List Value).toArray below meth c H locs 0 0 (MQ below (QW dC dI (some (.int r)) (wX12 cyB cyI cyZ cyO h h_all h_has h_read h_test h_rest h_gets h_waits h_way h_good h_left R_h) A) ([.ref h, .int p1] : List Value).toArray s 0 0 A) (F0 m 39 ls []) := by
    intro n
    induction n with
    | zero => intro M_h x1 x2 x3 H locs ls hf hP hD hS hl; rw [f_X12_ends_L39] at hf; cases hf
    | succ n ih =>
      intro M_h x1 x2 x3 H locs ls hf hP hD hS hl
      rw [f_X12_ends_L39] at hf
      refine lv_iload_n hx hb dX12_ends_39 rfl (lv_at hl 3 rfl) ?_
      refine lv_bipush (v := (9 : Int32)) hx hb dX12_ends_40 (by decide) ?_
      refine lv_icmp_ge (tgt := 60) hx hb dX12_ends_42 (by decide) (fun hc42 => ?_) (fun hc42 => ?_)
      · rw [if_pos hc42] at hf
        refine lv_aload_n hx hb dX12_ends_60 rfl (lv_at hl 0 rfl) ?_
        refine va_get (D := (dC, dI)) (ci := 12) (v := .ref h_all) (C := RX12) (T := TX12) (N := 21) hx hb hts hin12 hown hK hP 0 rfl rfl 0 (by decide) kf7 (fun _ h9 => h9) rfl dX12_ends_61 ?_
        refine lv_iload_n hx hb dX12_ends_64 rfl (lv_at hl 2 rfl) ?_
        refine lv_aload_n hx hb dX12_ends_65 rfl (lv_at hl 0 rfl) ?_
        refine va_get (D := (dC, dI)) (ci := 12) (v := .ref h_all) (C := RX12) (T := TX12) (N := 21) hx hb hts hin12 hown hK hP 0 rfl rfl 0 (by decide) kf7 (fun _ h9 => h9) rfl dX12_ends_66 ?_
        refine lv_iconst (v := (2 : Int32)) hx hb dX12_ends_69 (by decide) ?_
        refine va_iald hx hb hK hP 1 1 rfl rfl (show ¬ ((2 : Int32) < 0 ∨ 11160 ≤ ((2 : Int32)).toNatClampNeg) by decide) dX12_ends_70 ?_
        have hi71 := if_no hf
        rw [if_neg hi71] at hf
        refine va_iast hx hb hK hP hD hS 1 1 rfl rfl hi71 dX12_ends_71 (fun H locs hP hD hS => ?_)
        obtain ⟨M_h_71, eM_h_71, hf⟩ := wr_some hf
        have hP : va_P (dC, dI) vwCl (wX12 cyB cyI cyZ cyO h h_all h_has h_read h_test h_rest h_gets h_waits h_way h_good h_left M_h_71) H := by rw [eM_h_71]; exact hP
        have hD : va_D A (wX12 cyB cyI cyZ cyO h h_all h_has h_read h_test h_rest h_gets h_waits h_way h_good h_left M_h_71) := by rw [eM_h_71]; exact hD
        refine lv_aload_n hx hb dX12_ends_72 rfl (lv_at hl 0 rfl) ?_
        refine va_get (D := (dC, dI)) (ci := 12) (v := .ref h_all) (C := RX12) (T := TX12) (N := 21) hx hb hts hin12 hown hK hP 0 rfl rfl 0 (by decide) kf7 (fun _ h9 => h9) rfl dX12_ends_73 ?_
        refine lv_iload_n hx hb dX12_ends_76 rfl (lv_at hl 2 rfl) ?_
        refine lv_bipush (v := (8 : Int32)) hx hb dX12_ends_77 (by decide) ?_
        refine lv_iadd hx hb dX12_ends_79 ?_
        refine lv_iload_n hx hb dX12_ends_80 rfl (lv_at hl 1 rfl) ?_
        refine lv_if_eq (tgt := 88) hx hb dX12_ends_81 (by decide) (fun hc81 => ?_) (fun hc81 => ?_)
        · rw [if_pos hc81] at hf
          refine lv_iconst (v := (0 : Int32)) hx hb dX12_ends_88 (by decide) ?_
          have hi89 := if_no hf
          rw [if_neg hi89] at hf
          refine va_iast hx hb hK hP hD hS 1 1 rfl rfl hi89 dX12_ends_89 (fun H locs hP hD hS => ?_)
          obtain ⟨M_h_89, eM_h_89, hf⟩ := wr_some hf
          have hP : va_P (dC, dI) vwCl (wX12 cyB cyI cyZ cyO h h_all h_has h_read h_test h_rest h_gets h_waits h_way h_good h_left M_h_89) H := by rw [eM_h_89]; exact hP
          have hD : va_D A (wX12 cyB cyI cyZ cyO h h_all h_has h_read h_test h_rest h_gets h_waits h_way h_good h_left M_h_89) := by rw [eM_h_89]; exact hD
          refine lv_iconst (v := (0 : Int32)) hx hb dX12_ends_90 (by decide) ?_
          refine lv_istore_n (lv' := [(3, .int (0 : Int32)), (0, .ref h), (1, .int x1), (2, .int x2)]) hx hb dX12_ends_91 rfl hl (by decide) rfl (fun ls hl => ?_)
          refine lv_iconst (v := (0 : Int32)) hx hb dX12_ends_92 (by decide) ?_
          refine lv_istore (lv' := [(4, .int (0 : Int32)), (3, .int (0 : Int32)), (0, .ref h), (1, .int x1), (2, .int x2)]) hx hb dX12_ends_93 hl (by decide) rfl (fun ls hl => ?_)
          exact L95 FU M_h_89 x1 x2 (0 : Int32) (0 : Int32) _ _ ls hf hP hD hS (lv_sub hl [2, 3, 4, 1, 0] rfl)
        · rw [if_neg hc81] at hf
          refine lv_iconst (v := (1 : Int32)) hx hb dX12_ends_84 (by decide) ?_
          refine lv_goto (tgt := 89) hx hb dX12_ends_85 (by decide) ?_
          have hi89 := if_no hf
          rw [if_neg hi89] at hf
          refine va_iast hx hb hK hP hD hS 1 1 rfl rfl hi89 dX12_ends_89 (fun H locs hP hD hS => ?_)
          obtain ⟨M_h_89, eM_h_89, hf⟩ := wr_some hf
          have hP : va_P (dC, dI) vwCl (wX12 cyB cyI cyZ cyO h h_all h_has h_read h_test h_rest h_gets h_waits h_way h_good h_left M_h_89) H := by rw [eM_h_89]; exact hP
          have hD : va_D A (wX12 cyB cyI cyZ cyO h h_all h_has h_read h_test h_rest h_gets h_waits h_way h_good h_left M_h_89) := by rw [eM_h_89]; exact hD
          refine lv_iconst (v := (0 : Int32)) hx hb dX12_ends_90 (by decide) ?_
          refine lv_istore_n (lv' := [(3, .int (0 : Int32)), (0, .ref h), (1, .int x1), (2, .int x2)]) hx hb dX12_ends_91 rfl hl (by decide) rfl (fun ls hl => ?_)
          refine lv_iconst (v := (0 : Int32)) hx hb dX12_ends_92 (by decide) ?_
          refine lv_istore (lv' := [(4, .int (0 : Int32)), (3, .int (0 : Int32)), (0, .ref h), (1, .int x1), (2, .int x2)]) hx hb dX12_ends_93 hl (by decide) rfl (fun ls hl => ?_)
          exact L95 FU M_h_89 x1 x2 (0 : Int32) (0 : Int32) _ _ ls hf hP hD hS (lv_sub hl [2, 3, 4, 1, 0] rfl)
      · rw [if_neg hc42] at hf
        refine lv_aload_n hx hb dX12_ends_45 rfl (lv_at hl 0 rfl) ?_
        refine va_get (D := (dC, dI)) (ci := 12) (v := .ref h_all) (C := RX12) (T := TX12) (N := 21) hx hb hts hin12 hown hK hP 0 rfl rfl 0 (by decide) kf7 (fun _ h9 => h9) rfl dX12_ends_46 ?_
        refine lv_iload_n hx hb dX12_ends_49 rfl (lv_at hl 2 rfl) ?_
        refine lv_iload_n hx hb dX12_ends_50 rfl (lv_at hl 3 rfl) ?_
        refine lv_iadd hx hb dX12_ends_51 ?_
        refine lv_iconst (v := (0 : Int32)) hx hb dX12_ends_52 (by decide) ?_
        have hi53 := if_no hf
        rw [if_neg hi53] at hf
        refine va_iast hx hb hK hP hD hS 1 1 rfl rfl hi53 dX12_ends_53 (fun H locs hP hD hS => ?_)
        obtain ⟨M_h_53, eM_h_53, hf⟩ := wr_some hf
        have hP : va_P (dC, dI) vwCl (wX12 cyB cyI cyZ cyO h h_all h_has h_read h_test h_rest h_gets h_waits h_way h_good h_left M_h_53) H := by rw [eM_h_53]; exact hP
        have hD : va_D A (wX12 cyB cyI cyZ cyO h h_all h_has h_read h_test h_rest h_gets h_waits h_way h_good h_left M_h_53) := by rw [eM_h_53]; exact hD
        refine lv_iinc (v := (x3 + (1 : Int32))) (lv' := [(3, .int (x3 + (1 : Int32))), (0, .ref h), (1, .int x1), (2, .int x2)]) hx hb dX12_ends_54 hl (k := 3) rfl rfl (by decide) rfl (fun ls hl => ?_)
        refine lv_goto (tgt := 39) hx hb dX12_ends_57 (by decide) ?_
        exact ih M_h_53 x1 x2 (x3 + (1 : Int32)) _ _ ls hf hP hD hS (lv_sub hl [1, 2, 3, 0] rfl)
  rw [f_X12_ends] at hf
  refine lv_aload_n hx hb dX12_ends_0 rfl (lv_at hl 0 rfl) ?_
  refine va_get (D := (dC, dI)) (ci := 12) (v := .ref h_all) (C := RX12) (T := TX12) (N := 21) hx hb hts hin12 hown hK hP 0 rfl rfl 0 (by decide) kf7 (fun _ h9 => h9) rfl dX12_ends_1 ?_
  refine lv_iconst (v := (1 : Int32)) hx hb dX12_ends_4 (by decide) ?_
  refine va_iald hx hb hK hP 1 1 rfl rfl (show ¬ ((1 : Int32) < 0 ∨ 11160 ≤ ((1 : Int32)).toNatClampNeg) by decide) dX12_ends_5 ?_
  refine lv_if_eq (tgt := 21) hx hb dX12_ends_6 (by decide) (fun hc6 => ?_) (fun hc6 => ?_)
  · rw [if_pos hc6] at hf
    refine lv_iconst (v := (-1 : Int32)) hx hb dX12_ends_21 (by decide) ?_
    obtain ⟨hq0, hq1⟩ := pj2 hf
    subst hq0
    subst hq1
    exact W.iret (v := (-1 : Int32)) hx hb hr (fun t ht hW => ⟨rfl, by rw [ht]; exact hP, hD, hS.F ht⟩) hS.2.2 dX12_ends_22
  · rw [if_neg hc6] at hf
    refine lv_aload_n hx hb dX12_ends_9 rfl (lv_at hl 0 rfl) ?_
    refine va_get (D := (dC, dI)) (ci := 12) (v := .ref h_all) (C := RX12) (T := TX12) (N := 21) hx hb hts hin12 hown hK hP 0 rfl rfl 0 (by decide) kf7 (fun _ h9 => h9) rfl dX12_ends_10 ?_
    refine lv_iconst (v := (0 : Int32)) hx hb dX12_ends_13 (by decide) ?_
    refine va_iald hx hb hK hP 1 1 rfl rfl (show ¬ ((0 : Int32) < 0 ∨ 11160 ≤ ((0 : Int32)).toNatClampNeg) by decide) dX12_ends_14 ?_
    refine lv_sipush (v := (199 : Int32)) hx hb dX12_ends_15 (by decide) ?_
    refine lv_icmp_ne (tgt := 23) hx hb dX12_ends_18 (by decide) (fun hc18 => ?_) (fun hc18 => ?_)
    · rw [if_neg hc18] at hf
      refine lv_sipush (v := (280 : Int32)) hx hb dX12_ends_23 (by decide) ?_
      refine lv_bipush (v := (9 : Int32)) hx hb dX12_ends_26 (by decide) ?_
      refine lv_aload_n hx hb dX12_ends_28 rfl (lv_at hl 0 rfl) ?_
      refine va_get (D := (dC, dI)) (ci := 12) (v := .ref h_all) (C := RX12) (T := TX12) (N := 21) hx hb hts hin12 hown hK hP 0 rfl rfl 0 (by decide) kf7 (fun _ h9 => h9) rfl dX12_ends_29 ?_
      refine lv_iconst (v := (0 : Int32)) hx hb dX12_ends_32 (by decide) ?_
      refine va_iald hx hb hK hP 1 1 rfl rfl (show ¬ ((0 : Int32) < 0 ∨ 11160 ≤ ((0 : Int32)).toNatClampNeg) by decide) dX12_ends_33 ?_
      refine lv_imul hx hb dX12_ends_34 ?_
      refine lv_iadd hx hb dX12_ends_35 ?_
      refine lv_istore_n (lv' := [(2, .int ((280 : Int32) + ((9 : Int32) * (M_h 0 ((0 : Int32)).toNatClampNeg)))), (0, .ref h), (1, .int p1)]) hx hb dX12_ends_36 rfl hl (by decide) rfl (fun ls hl => ?_)
      refine lv_iconst (v := (0 : Int32)) hx hb dX12_ends_37 (by decide) ?_
      refine lv_istore_n (lv' := [(3, .int (0 : Int32)), (2, .int ((280 : Int32) + ((9 : Int32) * (M_h 0 ((0 : Int32)).toNatClampNeg)))), (0, .ref h), (1, .int p1)]) hx hb dX12_ends_38 rfl hl (by decide) rfl (fun ls hl => ?_)
      exact L39 FU M_h p1 ((280 : Int32) + ((9 : Int32) * (M_h 0 ((0 : Int32)).toNatClampNeg))) (0 : Int32) _ _ ls hf hP hD hS (lv_sub hl [2, 3, 1, 0] rfl)
    · rw [if_pos hc18] at hf
      refine lv_iconst (v := (-1 : Int32)) hx hb dX12_ends_21 (by decide) ?_
      obtain ⟨hq0, hq1⟩ := pj2 hf
      subst hq0
      subst hq1
      exact W.iret (v := (-1 : Int32)) hx hb hr (fun t ht hW => ⟨rfl, by rw [ht]; exact hP, hD, hS.F ht⟩) hS.2.2 dX12_ends_22
set_option maxHeartbeats 4000000 in
set_option maxRecDepth 100000 in
theorem c_X12_tell (l : Launch) (dC : Nat → ClassId) (dI : Nat → Nat → Nat) (cyB cyI cyZ cyO : ClassId) (h h_all h_has h_read h_test h_rest h_gets h_waits h_way h_good h_left : Nat) (M_h : Mem) (p1 : Int32) (p2 : Int32) (r : Int32) (hf : f_X12_tell M_h p1 p2 = some r) : Met l yX12_tell wsX12_tell ({ frames := 4, cells := 0, slots := 0, locals := 96 } : Room) (PR dC dI cyB cyI cyZ cyO ([.ref h, .int p1, .int p2] : List Value) (wX12 cyB cyI cyZ cyO h h_all h_has h_read h_test h_rest h_gets h_waits h_way h_good h_left M_h)) (QR (some (.int r))) 0 0 (fun _ => False) := by
  refine Met.ofW (cc := cX12_tell) (maxL := 3) (ret := (some .int)) (by decide) rfl ?_
  intro p e s m args below meth c s₁ B hml hv
  obtain ⟨rfl, hP, hCx⟩ := hv
  have hK := hCx.1
  have hN := hCx.2
  have hx := B.exec
  have hb := B.bytes
  have hr := B.returns
  have hts := atoms_spec (ws := wsX12_tell) B.pre
  have hown : s.vm.findClass RX12 = some m.cls := findClass_of_methodNamed B.named
  have hlocks := B.notSynchronized
  have hl := lv_entry ([.ref h, .int p1, .int p2] : List Value) (n := 3) (Nat.le_of_ble_eq_true rfl)
  rw [lg_entry_eq]
  generalize (lg_sl ([.ref h, .int p1, .int p2] : List Value) ++ List.replicate (3 - (lg_sl ([.ref h, .int p1, .int p2] : List Value)).length) Slot.unset).toArray = ls at hl ⊢
  have hl : lv_has ls 3 [(0, .ref h), (1, .int p1), (2, .int p2)] := hl
  rw [f_X12_tell] at hf
  refine lv_aload_n hx hb dX12_tell_0 rfl (lv_at hl 0 rfl) ?_
  refine lv_iload_n hx hb dX12_tell_1 rfl (lv_at hl 1 rfl) ?_
  obtain ⟨r2, h2, hf⟩ := bd1_some hf
  refine ro_calli (va_runV (As := [.int p1]) (rest := []) ⟨hx, hb, hml, hown, hts⟩ (c_X12_isCitizen l dC dI cyB cyI cyZ cyO h h_all h_has h_read h_test h_rest h_gets h_waits h_way h_good h_left M_h p1 r2 h2) (cwV 1 hts gX12_tell_X12_isCitizen rfl rfl rfl (by decide +kernel) ⟨Nat.le_of_ble_eq_true rfl, Nat.le_of_ble_eq_true rfl⟩) ⟨PR.blind, va_recv hK hP (ci := 12) (q0 := 0) rfl rfl, fun U hU hW => ⟨rfl, by rw [hU]; exact hP, hCx.warm hW⟩⟩ rfl rfl hl.1 rfl (lv_room (Nat.le_of_ble_eq_true rfl)) dX12_tell_2 ⟨Nat.zero_le _, Nat.zero_le _⟩) ?_
  refine lv_if_ne (tgt := 11) hx hb dX12_tell_5 (by decide) (fun hc5 => ?_) (fun hc5 => ?_)
  · rw [if_neg hc5] at hf
    refine lv_iload_n hx hb dX12_tell_11 rfl (lv_at hl 2 rfl) ?_
    by_cases hs12_0 : p2 = (0 : Int32)
    · rw [if_pos hs12_0] at hf
      refine lv_tableIn (off := 48) (tgt := 60) hx hb dX12_tell_12 (by rw [hs12_0]; decide) (by rw [hs12_0]; decide) (by rw [hs12_0]; rfl) (by decide) ?_
      refine lv_aload_n hx hb dX12_tell_60 rfl (lv_at hl 0 rfl) ?_
      refine lv_iload_n hx hb dX12_tell_61 rfl (lv_at hl 1 rfl) ?_
      refine lv_iload_n hx hb dX12_tell_62 rfl (lv_at hl 2 rfl) ?_
      obtain ⟨r63, h63, hf⟩ := bd1_some hf
      refine ro_calli (va_runV (As := [.int p1, .int p2]) (rest := []) ⟨hx, hb, hml, hown, hts⟩ (c_X12_of l dC dI cyB cyI cyZ cyO h h_all h_has h_read h_test h_rest h_gets h_waits h_way h_good h_left M_h p1 p2 r63 h63) (cwV 2 hts gX12_tell_X12_of rfl rfl rfl (by decide +kernel) ⟨Nat.le_of_ble_eq_true rfl, Nat.le_of_ble_eq_true rfl⟩) ⟨PR.blind, va_recv hK hP (ci := 12) (q0 := 0) rfl rfl, fun U hU hW => ⟨rfl, by rw [hU]; exact hP, hCx.warm hW⟩⟩ rfl rfl hl.1 rfl (lv_room (Nat.le_of_ble_eq_true rfl)) dX12_tell_63 ⟨Nat.zero_le _, Nat.zero_le _⟩) ?_
      have hq := Option.some.inj hf
      subst hq
      exact W.iret (v := r63) hx hb hr (fun t ht hW => ⟨rfl, ht⟩) (fun q h => by cases h) dX12_tell_66
    · rw [if_neg hs12_0] at hf
      by_cases hs12_1 : p2 = (1 : Int32)
      · rw [if_pos hs12_1] at hf
        refine lv_tableIn (off := 48) (tgt := 60) hx hb dX12_tell_12 (by rw [hs12_1]; decide) (by rw [hs12_1]; decide) (by rw [hs12_1]; rfl) (by decide) ?_
        refine lv_aload_n hx hb dX12_tell_60 rfl (lv_at hl 0 rfl) ?_
        refine lv_iload_n hx hb dX12_tell_61 rfl (lv_at hl 1 rfl) ?_
        refine lv_iload_n hx hb dX12_tell_62 rfl (lv_at hl 2 rfl) ?_
        obtain ⟨r63, h63, hf⟩ := bd1_some hf
        refine ro_calli (va_runV (As := [.int p1, .int p2]) (rest := []) ⟨hx, hb, hml, hown, hts⟩ (c_X12_of l dC dI cyB cyI cyZ cyO h h_all h_has h_read h_test h_rest h_gets h_waits h_way h_good h_left M_h p1 p2 r63 h63) (cwV 2 hts gX12_tell_X12_of rfl rfl rfl (by decide +kernel) ⟨Nat.le_of_ble_eq_true rfl, Nat.le_of_ble_eq_true rfl⟩) ⟨PR.blind, va_recv hK hP (ci := 12) (q0 := 0) rfl rfl, fun U hU hW => ⟨rfl, by rw [hU]; exact hP, hCx.warm hW⟩⟩ rfl rfl hl.1 rfl (lv_room (Nat.le_of_ble_eq_true rfl)) dX12_tell_63 ⟨Nat.zero_le _, Nat.zero_le _⟩) ?_
        have hq := Option.some.inj hf
        subst hq
        exact W.iret (v := r63) hx hb hr (fun t ht hW => ⟨rfl, ht⟩) (fun q h => by cases h) dX12_tell_66
      · rw [if_neg hs12_1] at hf
        by_cases hs12_2 : p2 = (2 : Int32)
        · rw [if_pos hs12_2] at hf
          refine lv_tableIn (off := 55) (tgt := 67) hx hb dX12_tell_12 (by rw [hs12_2]; decide) (by rw [hs12_2]; decide) (by rw [hs12_2]; rfl) (by decide) ?_
          refine lv_aload_n hx hb dX12_tell_67 rfl (lv_at hl 0 rfl) ?_
          refine lv_iload_n hx hb dX12_tell_68 rfl (lv_at hl 1 rfl) ?_
          obtain ⟨r69, h69, hf⟩ := bd1_some hf
          refine ro_calli (va_runV (As := [.int p1]) (rest := []) ⟨hx, hb, hml, hown, hts⟩ (c_X12_share l dC dI cyB cyI cyZ cyO h h_all h_has h_read h_test h_rest h_gets h_waits h_way h_good h_left M_h p1 r69 h69) (cwV 1 hts gX12_tell_X12_share rfl rfl rfl (by decide +kernel) ⟨Nat.le_of_ble_eq_true rfl, Nat.le_of_ble_eq_true rfl⟩) ⟨PR.blind, va_recv hK hP (ci := 12) (q0 := 0) rfl rfl, fun U hU hW => ⟨rfl, by rw [hU]; exact hP, hCx.warm hW⟩⟩ rfl rfl hl.1 rfl (lv_room (Nat.le_of_ble_eq_true rfl)) dX12_tell_69 ⟨Nat.zero_le _, Nat.zero_le _⟩) ?_
          have hq := Option.some.inj hf
          subst hq
          exact W.iret (v := r69) hx hb hr (fun t ht hW => ⟨rfl, ht⟩) (fun q h => by cases h) dX12_tell_72
        · rw [if_neg hs12_2] at hf
          by_cases hs12_3 : p2 = (3 : Int32)
          · rw [if_pos hs12_3] at hf
            refine lv_tableIn (off := 61) (tgt := 73) hx hb dX12_tell_12 (by rw [hs12_3]; decide) (by rw [hs12_3]; decide) (by rw [hs12_3]; rfl) (by decide) ?_
            refine lv_aload_n hx hb dX12_tell_73 rfl (lv_at hl 0 rfl) ?_
            refine lv_iload_n hx hb dX12_tell_74 rfl (lv_at hl 1 rfl) ?_
            refine lv_iconst (v := (2 : Int32)) hx hb dX12_tell_75 (by decide) ?_
            obtain ⟨r76, h76, hf⟩ := bd1_some hf
            refine ro_calli (va_runV (As := [.int p1, .int (2 : Int32)]) (rest := []) ⟨hx, hb, hml, hown, hts⟩ (c_X12_of l dC dI cyB cyI cyZ cyO h h_all h_has h_read h_test h_rest h_gets h_waits h_way h_good h_left M_h p1 (2 : Int32) r76 h76) (cwV 2 hts gX12_tell_X12_of rfl rfl rfl (by decide +kernel) ⟨Nat.le_of_ble_eq_true rfl, Nat.le_of_ble_eq_true rfl⟩) ⟨PR.blind, va_recv hK hP (ci := 12) (q0 := 0) rfl rfl, fun U hU hW => ⟨rfl, by rw [hU]; exact hP, hCx.warm hW⟩⟩ rfl rfl hl.1 rfl (lv_room (Nat.le_of_ble_eq_true rfl)) dX12_tell_76 ⟨Nat.zero_le _, Nat.zero_le _⟩) ?_
            have hq := Option.some.inj hf
            subst hq
            exact W.iret (v := r76) hx hb hr (fun t ht hW => ⟨rfl, ht⟩) (fun q h => by cases h) dX12_tell_79
          · rw [if_neg hs12_3] at hf
            by_cases hs12_4 : p2 = (4 : Int32)
            · rw [if_pos hs12_4] at hf
              refine lv_tableIn (off := 68) (tgt := 80) hx hb dX12_tell_12 (by rw [hs12_4]; decide) (by rw [hs12_4]; decide) (by rw [hs12_4]; rfl) (by decide) ?_
              refine lv_aload_n hx hb dX12_tell_80 rfl (lv_at hl 0 rfl) ?_
              refine lv_iload_n hx hb dX12_tell_81 rfl (lv_at hl 1 rfl) ?_
              obtain ⟨r82, h82, hf⟩ := bd1_some hf
              refine ro_calli (va_runV (As := [.int p1]) (rest := []) ⟨hx, hb, hml, hown, hts⟩ (c_X12_free l dC dI cyB cyI cyZ cyO h h_all h_has h_read h_test h_rest h_gets h_waits h_way h_good h_left M_h p1 r82 h82) (cwV 1 hts gX12_tell_X12_free rfl rfl rfl (by decide +kernel) ⟨Nat.le_of_ble_eq_true rfl, Nat.le_of_ble_eq_true rfl⟩) ⟨PR.blind, va_recv hK hP (ci := 12) (q0 := 0) rfl rfl, fun U hU hW => ⟨rfl, by rw [hU]; exact hP, hCx.warm hW⟩⟩ rfl rfl hl.1 rfl (lv_room (Nat.le_of_ble_eq_true rfl)) dX12_tell_82 ⟨Nat.zero_le _, Nat.zero_le _⟩) ?_
              have hq := Option.some.inj hf
              subst hq
              exact W.iret (v := r82) hx hb hr (fun t ht hW => ⟨rfl, ht⟩) (fun q h => by cases h) dX12_tell_85
            · rw [if_neg hs12_4] at hf
              by_cases hs12_5 : p2 = (5 : Int32)
              · rw [if_pos hs12_5] at hf
                refine lv_tableIn (off := 74) (tgt := 86) hx hb dX12_tell_12 (by rw [hs12_5]; decide) (by rw [hs12_5]; decide) (by rw [hs12_5]; rfl) (by decide) ?_
                refine lv_aload_n hx hb dX12_tell_86 rfl (lv_at hl 0 rfl) ?_
                refine lv_iload_n hx hb dX12_tell_87 rfl (lv_at hl 1 rfl) ?_
                refine lv_iload_n hx hb dX12_tell_88 rfl (lv_at hl 2 rfl) ?_
                refine lv_iconst (v := (1 : Int32)) hx hb dX12_tell_89 (by decide) ?_
                refine lv_isub hx hb dX12_tell_90 ?_
                obtain ⟨r91, h91, hf⟩ := bd1_some hf
                refine ro_calli (va_runV (As := [.int p1, .int (p2 - (1 : Int32))]) (rest := []) ⟨hx, hb, hml, hown, hts⟩ (c_X12_of l dC dI cyB cyI cyZ cyO h h_all h_has h_read h_test h_rest h_gets h_waits h_way h_good h_left M_h p1 (p2 - (1 : Int32)) r91 h91) (cwV 2 hts gX12_tell_X12_of rfl rfl rfl (by decide +kernel) ⟨Nat.le_of_ble_eq_true rfl, Nat.le_of_ble_eq_true rfl⟩) ⟨PR.blind, va_recv hK hP (ci := 12) (q0 := 0) rfl rfl, fun U hU hW => ⟨rfl, by rw [hU]; exact hP, hCx.warm hW⟩⟩ rfl rfl hl.1 rfl (lv_room (Nat.le_of_ble_eq_true rfl)) dX12_tell_91 ⟨Nat.zero_le _, Nat.zero_le _⟩) ?_
                have hq := Option.some.inj hf
                subst hq
                exact W.iret (v := r91) hx hb hr (fun t ht hW => ⟨rfl, ht⟩) (fun q h => by cases h) dX12_tell_94
              · rw [if_neg hs12_5] at hf
                by_cases hs12_6 : p2 = (6 : Int32)
                · rw [if_pos hs12_6] at hf
                  refine lv_tableIn (off := 74) (tgt := 86) hx hb dX12_tell_12 (by rw [hs12_6]; decide) (by rw [hs12_6]; decide) (by rw [hs12_6]; rfl) (by decide) ?_
                  refine lv_aload_n hx hb dX12_tell_86 rfl (lv_at hl 0 rfl) ?_
                  refine lv_iload_n hx hb dX12_tell_87 rfl (lv_at hl 1 rfl) ?_
                  refine lv_iload_n hx hb dX12_tell_88 rfl (lv_at hl 2 rfl) ?_
                  refine lv_iconst (v := (1 : Int32)) hx hb dX12_tell_89 (by decide) ?_
                  refine lv_isub hx hb dX12_tell_90 ?_
                  obtain ⟨r91, h91, hf⟩ := bd1_some hf
                  refine ro_calli (va_runV (As := [.int p1, .int (p2 - (1 : Int32))]) (rest := []) ⟨hx, hb, hml, hown, hts⟩ (c_X12_of l dC dI cyB cyI cyZ cyO h h_all h_has h_read h_test h_rest h_gets h_waits h_way h_good h_left M_h p1 (p2 - (1 : Int32)) r91 h91) (cwV 2 hts gX12_tell_X12_of rfl rfl rfl (by decide +kernel) ⟨Nat.le_of_ble_eq_true rfl, Nat.le_of_ble_eq_true rfl⟩) ⟨PR.blind, va_recv hK hP (ci := 12) (q0 := 0) rfl rfl, fun U hU hW => ⟨rfl, by rw [hU]; exact hP, hCx.warm hW⟩⟩ rfl rfl hl.1 rfl (lv_room (Nat.le_of_ble_eq_true rfl)) dX12_tell_91 ⟨Nat.zero_le _, Nat.zero_le _⟩) ?_
                  have hq := Option.some.inj hf
                  subst hq
                  exact W.iret (v := r91) hx hb hr (fun t ht hW => ⟨rfl, ht⟩) (fun q h => by cases h) dX12_tell_94
                · rw [if_neg hs12_6] at hf
                  by_cases hs12_7 : p2 = (7 : Int32)
                  · rw [if_pos hs12_7] at hf
                    refine lv_tableIn (off := 74) (tgt := 86) hx hb dX12_tell_12 (by rw [hs12_7]; decide) (by rw [hs12_7]; decide) (by rw [hs12_7]; rfl) (by decide) ?_
                    refine lv_aload_n hx hb dX12_tell_86 rfl (lv_at hl 0 rfl) ?_
                    refine lv_iload_n hx hb dX12_tell_87 rfl (lv_at hl 1 rfl) ?_
                    refine lv_iload_n hx hb dX12_tell_88 rfl (lv_at hl 2 rfl) ?_
                    refine lv_iconst (v := (1 : Int32)) hx hb dX12_tell_89 (by decide) ?_
                    refine lv_isub hx hb dX12_tell_90 ?_
                    obtain ⟨r91, h91, hf⟩ := bd1_some hf
                    refine ro_calli (va_runV (As := [.int p1, .int (p2 - (1 : Int32))]) (rest := []) ⟨hx, hb, hml, hown, hts⟩ (c_X12_of l dC dI cyB cyI cyZ cyO h h_all h_has h_read h_test h_rest h_gets h_waits h_way h_good h_left M_h p1 (p2 - (1 : Int32)) r91 h91) (cwV 2 hts gX12_tell_X12_of rfl rfl rfl (by decide +kernel) ⟨Nat.le_of_ble_eq_true rfl, Nat.le_of_ble_eq_true rfl⟩) ⟨PR.blind, va_recv hK hP (ci := 12) (q0 := 0) rfl rfl, fun U hU hW => ⟨rfl, by rw [hU]; exact hP, hCx.warm hW⟩⟩ rfl rfl hl.1 rfl (lv_room (Nat.le_of_ble_eq_true rfl)) dX12_tell_91 ⟨Nat.zero_le _, Nat.zero_le _⟩) ?_
                    have hq := Option.some.inj hf
                    subst hq
                    exact W.iret (v := r91) hx hb hr (fun t ht hW => ⟨rfl, ht⟩) (fun q h => by cases h) dX12_tell_94
                  · rw [if_neg hs12_7] at hf
                    refine lv_tableOut (tgt := 95) hx hb dX12_tell_12 (by have z0 := lv_neT hs12_0 (show (0 : Int32).toInt = 0 by decide); have z1 := lv_neT hs12_1 (show (1 : Int32).toInt = 1 by decide); have z2 := lv_neT hs12_2 (show (2 : Int32).toInt = 2 by decide); have z3 := lv_neT hs12_3 (show (3 : Int32).toInt = 3 by decide); have z4 := lv_neT hs12_4 (show (4 : Int32).toInt = 4 by decide); have z5 := lv_neT hs12_5 (show (5 : Int32).toInt = 5 by decide); have z6 := lv_neT hs12_6 (show (6 : Int32).toInt = 6 by decide); have z7 := lv_neT hs12_7 (show (7 : Int32).toInt = 7 by decide); omega) (by decide) ?_
                    refine lv_ldc (v := (-1000000000 : Int32)) hx hb hown (hts (.constant RX12 217 (-1000000000)) (by decide +kernel)) dX12_tell_95 ?_
                    have hq := Option.some.inj hf
                    subst hq
                    exact W.iret (v := (-1000000000 : Int32)) hx hb hr (fun t ht hW => ⟨rfl, ht⟩) (fun q h => by cases h) dX12_tell_97
  · rw [if_pos hc5] at hf
    refine lv_ldc (v := (-1000000000 : Int32)) hx hb hown (hts (.constant RX12 217 (-1000000000)) (by decide +kernel)) dX12_tell_8 ?_
    have hq := Option.some.inj hf
    subst hq
    exact W.iret (v := (-1000000000 : Int32)) hx hb hr (fun t ht hW => ⟨rfl, ht⟩) (fun q h => by cases h) dX12_tell_10
set_option maxHeartbeats 4000000 in
set_option maxRecDepth 100000 in
theorem c_X12_about (l : Launch) (dC : Nat → ClassId) (dI : Nat → Nat → Nat) (cyB cyI cyZ cyO : ClassId) (h h_all h_has h_read h_test h_rest h_gets h_waits h_way h_good h_left : Nat) (M_h : Mem) (p1 : Int32) (p2 : Int32) (r : Int32) (hf : f_X12_about M_h p1 p2 = some r) : Met l yX12_about wsX12_about ({ frames := 2, cells := 0, slots := 0, locals := 43 } : Room) (PR dC dI cyB cyI cyZ cyO ([.ref h, .int p1, .int p2] : List Value) (wX12 cyB cyI cyZ cyO h h_all h_has h_read h_test h_rest h_gets h_waits h_way h_good h_left M_h)) (QR (some (.int r))) 0 0 (fun _ => False) := by
  refine Met.ofW (cc := cX12_about) (maxL := 3) (ret := (some .int)) (by decide) rfl ?_
  intro p e s m args below meth c s₁ B hml hv
  obtain ⟨rfl, hP, hCx⟩ := hv
  have hK := hCx.1
  have hN := hCx.2
  have hx := B.exec
  have hb := B.bytes
  have hr := B.returns
  have hts := atoms_spec (ws := wsX12_about) B.pre
  have hown : s.vm.findClass RX12 = some m.cls := findClass_of_methodNamed B.named
  have hlocks := B.notSynchronized
  have hl := lv_entry ([.ref h, .int p1, .int p2] : List Value) (n := 3) (Nat.le_of_ble_eq_true rfl)
  rw [lg_entry_eq]
  generalize (lg_sl ([.ref h, .int p1, .int p2] : List Value) ++ List.replicate (3 - (lg_sl ([.ref h, .int p1, .int p2] : List Value)).length) Slot.unset).toArray = ls at hl ⊢
  have hl : lv_has ls 3 [(0, .ref h), (1, .int p1), (2, .int p2)] := hl
  rw [f_X12_about] at hf
  refine lv_aload_n hx hb dX12_about_0 rfl (lv_at hl 0 rfl) ?_
  refine lv_iload_n hx hb dX12_about_1 rfl (lv_at hl 1 rfl) ?_
  obtain ⟨r2, h2, hf⟩ := bd1_some hf
  refine ro_calli (va_runV (As := [.int p1]) (rest := []) ⟨hx, hb, hml, hown, hts⟩ (c_X12_isBale l dC dI cyB cyI cyZ cyO h h_all h_has h_read h_test h_rest h_gets h_waits h_way h_good h_left M_h p1 r2 h2) (cwV 1 hts gX12_about_X12_isBale rfl rfl rfl (by decide +kernel) ⟨Nat.le_of_ble_eq_true rfl, Nat.le_of_ble_eq_true rfl⟩) ⟨PR.blind, va_recv hK hP (ci := 12) (q0 := 0) rfl rfl, fun U hU hW => ⟨rfl, by rw [hU]; exact hP, hCx.warm hW⟩⟩ rfl rfl hl.1 rfl (lv_room (Nat.le_of_ble_eq_true rfl)) dX12_about_2 ⟨Nat.zero_le _, Nat.zero_le _⟩) ?_
  refine lv_if_ne (tgt := 10) hx hb dX12_about_5 (by decide) (fun hc5 => ?_) (fun hc5 => ?_)
  · rw [if_neg hc5] at hf
    refine lv_iload_n hx hb dX12_about_10 rfl (lv_at hl 2 rfl) ?_
    by_cases hs11_0 : p2 = (0 : Int32)
    · rw [if_pos hs11_0] at hf
      refine lv_tableIn (off := 49) (tgt := 60) hx hb dX12_about_11 (by rw [hs11_0]; decide) (by rw [hs11_0]; decide) (by rw [hs11_0]; rfl) (by decide) ?_
      refine lv_aload_n hx hb dX12_about_60 rfl (lv_at hl 0 rfl) ?_
      refine lv_iload_n hx hb dX12_about_61 rfl (lv_at hl 1 rfl) ?_
      refine lv_iload_n hx hb dX12_about_62 rfl (lv_at hl 2 rfl) ?_
      obtain ⟨r63, h63, hf⟩ := bd1_some hf
      refine ro_calli (va_runV (As := [.int p1, .int p2]) (rest := []) ⟨hx, hb, hml, hown, hts⟩ (c_X12_its l dC dI cyB cyI cyZ cyO h h_all h_has h_read h_test h_rest h_gets h_waits h_way h_good h_left M_h p1 p2 r63 h63) (cwV 2 hts gX12_about_X12_its rfl rfl rfl (by decide +kernel) ⟨Nat.le_of_ble_eq_true rfl, Nat.le_of_ble_eq_true rfl⟩) ⟨PR.blind, va_recv hK hP (ci := 12) (q0 := 0) rfl rfl, fun U hU hW => ⟨rfl, by rw [hU]; exact hP, hCx.warm hW⟩⟩ rfl rfl hl.1 rfl (lv_room (Nat.le_of_ble_eq_true rfl)) dX12_about_63 ⟨Nat.zero_le _, Nat.zero_le _⟩) ?_
      have hq := Option.some.inj hf
      subst hq
      exact W.iret (v := r63) hx hb hr (fun t ht hW => ⟨rfl, ht⟩) (fun q h => by cases h) dX12_about_66
    · rw [if_neg hs11_0] at hf
      by_cases hs11_1 : p2 = (1 : Int32)
      · rw [if_pos hs11_1] at hf
        refine lv_tableIn (off := 49) (tgt := 60) hx hb dX12_about_11 (by rw [hs11_1]; decide) (by rw [hs11_1]; decide) (by rw [hs11_1]; rfl) (by decide) ?_
        refine lv_aload_n hx hb dX12_about_60 rfl (lv_at hl 0 rfl) ?_
        refine lv_iload_n hx hb dX12_about_61 rfl (lv_at hl 1 rfl) ?_
        refine lv_iload_n hx hb dX12_about_62 rfl (lv_at hl 2 rfl) ?_
        obtain ⟨r63, h63, hf⟩ := bd1_some hf
        refine ro_calli (va_runV (As := [.int p1, .int p2]) (rest := []) ⟨hx, hb, hml, hown, hts⟩ (c_X12_its l dC dI cyB cyI cyZ cyO h h_all h_has h_read h_test h_rest h_gets h_waits h_way h_good h_left M_h p1 p2 r63 h63) (cwV 2 hts gX12_about_X12_its rfl rfl rfl (by decide +kernel) ⟨Nat.le_of_ble_eq_true rfl, Nat.le_of_ble_eq_true rfl⟩) ⟨PR.blind, va_recv hK hP (ci := 12) (q0 := 0) rfl rfl, fun U hU hW => ⟨rfl, by rw [hU]; exact hP, hCx.warm hW⟩⟩ rfl rfl hl.1 rfl (lv_room (Nat.le_of_ble_eq_true rfl)) dX12_about_63 ⟨Nat.zero_le _, Nat.zero_le _⟩) ?_
        have hq := Option.some.inj hf
        subst hq
        exact W.iret (v := r63) hx hb hr (fun t ht hW => ⟨rfl, ht⟩) (fun q h => by cases h) dX12_about_66
      · rw [if_neg hs11_1] at hf
        by_cases hs11_2 : p2 = (2 : Int32)
        · rw [if_pos hs11_2] at hf
          refine lv_tableIn (off := 49) (tgt := 60) hx hb dX12_about_11 (by rw [hs11_2]; decide) (by rw [hs11_2]; decide) (by rw [hs11_2]; rfl) (by decide) ?_
          refine lv_aload_n hx hb dX12_about_60 rfl (lv_at hl 0 rfl) ?_
          refine lv_iload_n hx hb dX12_about_61 rfl (lv_at hl 1 rfl) ?_
          refine lv_iload_n hx hb dX12_about_62 rfl (lv_at hl 2 rfl) ?_
          obtain ⟨r63, h63, hf⟩ := bd1_some hf
          refine ro_calli (va_runV (As := [.int p1, .int p2]) (rest := []) ⟨hx, hb, hml, hown, hts⟩ (c_X12_its l dC dI cyB cyI cyZ cyO h h_all h_has h_read h_test h_rest h_gets h_waits h_way h_good h_left M_h p1 p2 r63 h63) (cwV 2 hts gX12_about_X12_its rfl rfl rfl (by decide +kernel) ⟨Nat.le_of_ble_eq_true rfl, Nat.le_of_ble_eq_true rfl⟩) ⟨PR.blind, va_recv hK hP (ci := 12) (q0 := 0) rfl rfl, fun U hU hW => ⟨rfl, by rw [hU]; exact hP, hCx.warm hW⟩⟩ rfl rfl hl.1 rfl (lv_room (Nat.le_of_ble_eq_true rfl)) dX12_about_63 ⟨Nat.zero_le _, Nat.zero_le _⟩) ?_
          have hq := Option.some.inj hf
          subst hq
          exact W.iret (v := r63) hx hb hr (fun t ht hW => ⟨rfl, ht⟩) (fun q h => by cases h) dX12_about_66
        · rw [if_neg hs11_2] at hf
          by_cases hs11_3 : p2 = (3 : Int32)
          · rw [if_pos hs11_3] at hf
            refine lv_tableIn (off := 49) (tgt := 60) hx hb dX12_about_11 (by rw [hs11_3]; decide) (by rw [hs11_3]; decide) (by rw [hs11_3]; rfl) (by decide) ?_
            refine lv_aload_n hx hb dX12_about_60 rfl (lv_at hl 0 rfl) ?_
            refine lv_iload_n hx hb dX12_about_61 rfl (lv_at hl 1 rfl) ?_
            refine lv_iload_n hx hb dX12_about_62 rfl (lv_at hl 2 rfl) ?_
            obtain ⟨r63, h63, hf⟩ := bd1_some hf
            refine ro_calli (va_runV (As := [.int p1, .int p2]) (rest := []) ⟨hx, hb, hml, hown, hts⟩ (c_X12_its l dC dI cyB cyI cyZ cyO h h_all h_has h_read h_test h_rest h_gets h_waits h_way h_good h_left M_h p1 p2 r63 h63) (cwV 2 hts gX12_about_X12_its rfl rfl rfl (by decide +kernel) ⟨Nat.le_of_ble_eq_true rfl, Nat.le_of_ble_eq_true rfl⟩) ⟨PR.blind, va_recv hK hP (ci := 12) (q0 := 0) rfl rfl, fun U hU hW => ⟨rfl, by rw [hU]; exact hP, hCx.warm hW⟩⟩ rfl rfl hl.1 rfl (lv_room (Nat.le_of_ble_eq_true rfl)) dX12_about_63 ⟨Nat.zero_le _, Nat.zero_le _⟩) ?_
            have hq := Option.some.inj hf
            subst hq
            exact W.iret (v := r63) hx hb hr (fun t ht hW => ⟨rfl, ht⟩) (fun q h => by cases h) dX12_about_66
          · rw [if_neg hs11_3] at hf
            by_cases hs11_4 : p2 = (4 : Int32)
            · rw [if_pos hs11_4] at hf
              refine lv_tableIn (off := 49) (tgt := 60) hx hb dX12_about_11 (by rw [hs11_4]; decide) (by rw [hs11_4]; decide) (by rw [hs11_4]; rfl) (by decide) ?_
              refine lv_aload_n hx hb dX12_about_60 rfl (lv_at hl 0 rfl) ?_
              refine lv_iload_n hx hb dX12_about_61 rfl (lv_at hl 1 rfl) ?_
              refine lv_iload_n hx hb dX12_about_62 rfl (lv_at hl 2 rfl) ?_
              obtain ⟨r63, h63, hf⟩ := bd1_some hf
              refine ro_calli (va_runV (As := [.int p1, .int p2]) (rest := []) ⟨hx, hb, hml, hown, hts⟩ (c_X12_its l dC dI cyB cyI cyZ cyO h h_all h_has h_read h_test h_rest h_gets h_waits h_way h_good h_left M_h p1 p2 r63 h63) (cwV 2 hts gX12_about_X12_its rfl rfl rfl (by decide +kernel) ⟨Nat.le_of_ble_eq_true rfl, Nat.le_of_ble_eq_true rfl⟩) ⟨PR.blind, va_recv hK hP (ci := 12) (q0 := 0) rfl rfl, fun U hU hW => ⟨rfl, by rw [hU]; exact hP, hCx.warm hW⟩⟩ rfl rfl hl.1 rfl (lv_room (Nat.le_of_ble_eq_true rfl)) dX12_about_63 ⟨Nat.zero_le _, Nat.zero_le _⟩) ?_
              have hq := Option.some.inj hf
              subst hq
              exact W.iret (v := r63) hx hb hr (fun t ht hW => ⟨rfl, ht⟩) (fun q h => by cases h) dX12_about_66
            · rw [if_neg hs11_4] at hf
              by_cases hs11_5 : p2 = (5 : Int32)
              · rw [if_pos hs11_5] at hf
                refine lv_tableIn (off := 56) (tgt := 67) hx hb dX12_about_11 (by rw [hs11_5]; decide) (by rw [hs11_5]; decide) (by rw [hs11_5]; rfl) (by decide) ?_
                refine lv_aload_n hx hb dX12_about_67 rfl (lv_at hl 0 rfl) ?_
                refine lv_iload_n hx hb dX12_about_68 rfl (lv_at hl 1 rfl) ?_
                obtain ⟨r69, h69, hf⟩ := bd1_some hf
                refine ro_calli (va_runV (As := [.int p1]) (rest := []) ⟨hx, hb, hml, hown, hts⟩ (c_X12_room l dC dI cyB cyI cyZ cyO h h_all h_has h_read h_test h_rest h_gets h_waits h_way h_good h_left M_h p1 r69 h69) (cwV 1 hts gX12_about_X12_room rfl rfl rfl (by decide +kernel) ⟨Nat.le_of_ble_eq_true rfl, Nat.le_of_ble_eq_true rfl⟩) ⟨PR.blind, va_recv hK hP (ci := 12) (q0 := 0) rfl rfl, fun U hU hW => ⟨rfl, by rw [hU]; exact hP, hCx.warm hW⟩⟩ rfl rfl hl.1 rfl (lv_room (Nat.le_of_ble_eq_true rfl)) dX12_about_69 ⟨Nat.zero_le _, Nat.zero_le _⟩) ?_
                have hq := Option.some.inj hf
                subst hq
                exact W.iret (v := r69) hx hb hr (fun t ht hW => ⟨rfl, ht⟩) (fun q h => by cases h) dX12_about_72
              · rw [if_neg hs11_5] at hf
                by_cases hs11_6 : p2 = (6 : Int32)
                · rw [if_pos hs11_6] at hf
                  refine lv_tableIn (off := 62) (tgt := 73) hx hb dX12_about_11 (by rw [hs11_6]; decide) (by rw [hs11_6]; decide) (by rw [hs11_6]; rfl) (by decide) ?_
                  refine lv_aload_n hx hb dX12_about_73 rfl (lv_at hl 0 rfl) ?_
                  refine lv_iload_n hx hb dX12_about_74 rfl (lv_at hl 1 rfl) ?_
                  obtain ⟨r75, h75, hf⟩ := bd1_some hf
                  refine ro_calli (va_runV (As := [.int p1]) (rest := []) ⟨hx, hb, hml, hown, hts⟩ (c_X12_value l dC dI cyB cyI cyZ cyO h h_all h_has h_read h_test h_rest h_gets h_waits h_way h_good h_left M_h p1 r75 h75) (cwV 1 hts gX12_about_X12_value rfl rfl rfl (by decide +kernel) ⟨Nat.le_of_ble_eq_true rfl, Nat.le_of_ble_eq_true rfl⟩) ⟨PR.blind, va_recv hK hP (ci := 12) (q0 := 0) rfl rfl, fun U hU hW => ⟨rfl, by rw [hU]; exact hP, hCx.warm hW⟩⟩ rfl rfl hl.1 rfl (lv_room (Nat.le_of_ble_eq_true rfl)) dX12_about_75 ⟨Nat.zero_le _, Nat.zero_le _⟩) ?_
                  have hq := Option.some.inj hf
                  subst hq
                  exact W.iret (v := r75) hx hb hr (fun t ht hW => ⟨rfl, ht⟩) (fun q h => by cases h) dX12_about_78
                · rw [if_neg hs11_6] at hf
                  by_cases hs11_7 : p2 = (7 : Int32)
                  · rw [if_pos hs11_7] at hf
                    refine lv_tableIn (off := 68) (tgt := 79) hx hb dX12_about_11 (by rw [hs11_7]; decide) (by rw [hs11_7]; decide) (by rw [hs11_7]; rfl) (by decide) ?_
                    refine lv_aload_n hx hb dX12_about_79 rfl (lv_at hl 0 rfl) ?_
                    refine lv_iload_n hx hb dX12_about_80 rfl (lv_at hl 1 rfl) ?_
                    refine lv_iload_n hx hb dX12_about_81 rfl (lv_at hl 2 rfl) ?_
                    refine lv_iconst (v := (2 : Int32)) hx hb dX12_about_82 (by decide) ?_
                    refine lv_isub hx hb dX12_about_83 ?_
                    obtain ⟨r84, h84, hf⟩ := bd1_some hf
                    refine ro_calli (va_runV (As := [.int p1, .int (p2 - (2 : Int32))]) (rest := []) ⟨hx, hb, hml, hown, hts⟩ (c_X12_its l dC dI cyB cyI cyZ cyO h h_all h_has h_read h_test h_rest h_gets h_waits h_way h_good h_left M_h p1 (p2 - (2 : Int32)) r84 h84) (cwV 2 hts gX12_about_X12_its rfl rfl rfl (by decide +kernel) ⟨Nat.le_of_ble_eq_true rfl, Nat.le_of_ble_eq_true rfl⟩) ⟨PR.blind, va_recv hK hP (ci := 12) (q0 := 0) rfl rfl, fun U hU hW => ⟨rfl, by rw [hU]; exact hP, hCx.warm hW⟩⟩ rfl rfl hl.1 rfl (lv_room (Nat.le_of_ble_eq_true rfl)) dX12_about_84 ⟨Nat.zero_le _, Nat.zero_le _⟩) ?_
                    have hq := Option.some.inj hf
                    subst hq
                    exact W.iret (v := r84) hx hb hr (fun t ht hW => ⟨rfl, ht⟩) (fun q h => by cases h) dX12_about_87
                  · rw [if_neg hs11_7] at hf
                    by_cases hs11_8 : p2 = (8 : Int32)
                    · rw [if_pos hs11_8] at hf
                      refine lv_tableIn (off := 68) (tgt := 79) hx hb dX12_about_11 (by rw [hs11_8]; decide) (by rw [hs11_8]; decide) (by rw [hs11_8]; rfl) (by decide) ?_
                      refine lv_aload_n hx hb dX12_about_79 rfl (lv_at hl 0 rfl) ?_
                      refine lv_iload_n hx hb dX12_about_80 rfl (lv_at hl 1 rfl) ?_
                      refine lv_iload_n hx hb dX12_about_81 rfl (lv_at hl 2 rfl) ?_
                      refine lv_iconst (v := (2 : Int32)) hx hb dX12_about_82 (by decide) ?_
                      refine lv_isub hx hb dX12_about_83 ?_
                      obtain ⟨r84, h84, hf⟩ := bd1_some hf
                      refine ro_calli (va_runV (As := [.int p1, .int (p2 - (2 : Int32))]) (rest := []) ⟨hx, hb, hml, hown, hts⟩ (c_X12_its l dC dI cyB cyI cyZ cyO h h_all h_has h_read h_test h_rest h_gets h_waits h_way h_good h_left M_h p1 (p2 - (2 : Int32)) r84 h84) (cwV 2 hts gX12_about_X12_its rfl rfl rfl (by decide +kernel) ⟨Nat.le_of_ble_eq_true rfl, Nat.le_of_ble_eq_true rfl⟩) ⟨PR.blind, va_recv hK hP (ci := 12) (q0 := 0) rfl rfl, fun U hU hW => ⟨rfl, by rw [hU]; exact hP, hCx.warm hW⟩⟩ rfl rfl hl.1 rfl (lv_room (Nat.le_of_ble_eq_true rfl)) dX12_about_84 ⟨Nat.zero_le _, Nat.zero_le _⟩) ?_
                      have hq := Option.some.inj hf
                      subst hq
                      exact W.iret (v := r84) hx hb hr (fun t ht hW => ⟨rfl, ht⟩) (fun q h => by cases h) dX12_about_87
                    · rw [if_neg hs11_8] at hf
                      refine lv_tableOut (tgt := 88) hx hb dX12_about_11 (by have z0 := lv_neT hs11_0 (show (0 : Int32).toInt = 0 by decide); have z1 := lv_neT hs11_1 (show (1 : Int32).toInt = 1 by decide); have z2 := lv_neT hs11_2 (show (2 : Int32).toInt = 2 by decide); have z3 := lv_neT hs11_3 (show (3 : Int32).toInt = 3 by decide); have z4 := lv_neT hs11_4 (show (4 : Int32).toInt = 4 by decide); have z5 := lv_neT hs11_5 (show (5 : Int32).toInt = 5 by decide); have z6 := lv_neT hs11_6 (show (6 : Int32).toInt = 6 by decide); have z7 := lv_neT hs11_7 (show (7 : Int32).toInt = 7 by decide); have z8 := lv_neT hs11_8 (show (8 : Int32).toInt = 8 by decide); omega) (by decide) ?_
                      refine lv_iconst (v := (-1 : Int32)) hx hb dX12_about_88 (by decide) ?_
                      have hq := Option.some.inj hf
                      subst hq
                      exact W.iret (v := (-1 : Int32)) hx hb hr (fun t ht hW => ⟨rfl, ht⟩) (fun q h => by cases h) dX12_about_89
  · rw [if_pos hc5] at hf
    refine lv_iconst (v := (-1 : Int32)) hx hb dX12_about_8 (by decide) ?_
    have hq := Option.some.inj hf
    subst hq
    exact W.iret (v := (-1 : Int32)) hx hb hr (fun t ht hW => ⟨rfl, ht⟩) (fun q h => by cases h) dX12_about_9
set_option maxHeartbeats 4000000 in
set_option maxRecDepth 100000 in
theorem c_X12_book (l : Launch) (dC : Nat → ClassId) (dI : Nat → Nat → Nat) (cyB cyI cyZ cyO : ClassId) (h h_all h_has h_read h_test h_rest h_gets h_waits h_way h_good h_left : Nat) (M_h : Mem) (p1 : Int32) (p2 : Int32) (r : Int32) (hf : f_X12_book M_h p1 p2 = some r) : Met l yX12_book wsX12_book ({ frames := 1, cells := 0, slots := 0, locals := 22 } : Room) (PR dC dI cyB cyI cyZ cyO ([.ref h, .int p1, .int p2] : List Value) (wX12 cyB cyI cyZ cyO h h_all h_has h_read h_test h_rest h_gets h_waits h_way h_good h_left M_h)) (QR (some (.int r))) 0 0 (fun _ => False) := by
  refine Met.ofW (cc := cX12_book) (maxL := 3) (ret := (some .int)) (by decide) rfl ?_
  intro p e s m args below meth c s₁ B hml hv
  obtain ⟨rfl, hP, hCx⟩ := hv
  have hK := hCx.1
  have hN := hCx.2
  have hx := B.exec
  have hb := B.bytes
  have hr := B.returns
  have hts := atoms_spec (ws := wsX12_book) B.pre
  have hown : s.vm.findClass RX12 = some m.cls := findClass_of_methodNamed B.named
  have hlocks := B.notSynchronized
  have hin12 : ∀ w ∈ u_ws RX12 TX12 21, w ∈ wsX12_book := fun w h => List.mem_cons_of_mem _ (List.mem_append_right _ h)
  have kf7 := hts (.fieldLink RX12 7 "HoldSlipsModel" "all" "[I") (by decide +kernel)
  have hl := lv_entry ([.ref h, .int p1, .int p2] : List Value) (n := 3) (Nat.le_of_ble_eq_true rfl)
  rw [lg_entry_eq]
  generalize (lg_sl ([.ref h, .int p1, .int p2] : List Value) ++ List.replicate (3 - (lg_sl ([.ref h, .int p1, .int p2] : List Value)).length) Slot.unset).toArray = ls at hl ⊢
  have hl : lv_has ls 3 [(0, .ref h), (1, .int p1), (2, .int p2)] := hl
  rw [f_X12_book] at hf
  refine lv_iload_n hx hb dX12_book_0 rfl (lv_at hl 1 rfl) ?_
  refine lv_iconst (v := (0 : Int32)) hx hb dX12_book_1 (by decide) ?_
  refine lv_aload_n hx hb dX12_book_2 rfl (lv_at hl 0 rfl) ?_
  refine va_get (D := (dC, dI)) (ci := 12) (v := .ref h_all) (C := RX12) (T := TX12) (N := 21) hx hb hts hin12 hown hK hP 0 rfl rfl 0 (by decide) kf7 (fun _ h9 => h9) rfl dX12_book_3 ?_
  refine lv_iconst (v := (0 : Int32)) hx hb dX12_book_6 (by decide) ?_
  refine va_iald hx hb hK hP 1 1 rfl rfl (show ¬ ((0 : Int32) < 0 ∨ 11160 ≤ ((0 : Int32)).toNatClampNeg) by decide) dX12_book_7 ?_
  refine lv_iconst (v := (1 : Int32)) hx hb dX12_book_8 (by decide) ?_
  refine lv_isub hx hb dX12_book_9 ?_
  obtain ⟨r10, h10, hf⟩ := bd1_some hf
  have hPc := hP.sub (ws' := ([] : va_W)) [] rfl
  refine ro_calli (va_runS (As := [.int p1, .int (0 : Int32), .int ((M_h 0 ((0 : Int32)).toNatClampNeg) - (1 : Int32))]) (rest := []) ⟨hx, hb, hml, hown, hts⟩ (c_X12_isIn l dC dI cyB cyI cyZ cyO p1 (0 : Int32) ((M_h 0 ((0 : Int32)).toNatClampNeg) - (1 : Int32)) r10 h10) (va_cwS 3 hts gX12_book_X12_isIn rfl rfl rfl (by decide +kernel) ⟨Nat.le_of_ble_eq_true rfl, Nat.le_of_ble_eq_true rfl⟩) ⟨PR.blind, fun U hU hW => ⟨rfl, by rw [hU]; exact hPc, hCx.warm hW⟩⟩ rfl rfl hl.1 rfl (lv_room (Nat.le_of_ble_eq_true rfl)) dX12_book_10 ⟨Nat.zero_le _, Nat.zero_le _⟩) ?_
  refine lv_if_eq (tgt := 44) hx hb dX12_book_13 (by decide) (fun hc13 => ?_) (fun hc13 => ?_)
  · rw [if_pos hc13] at hf
    refine lv_iconst (v := (-1 : Int32)) hx hb dX12_book_44 (by decide) ?_
    have hq := Option.some.inj hf
    subst hq
    exact W.iret (v := (-1 : Int32)) hx hb hr (fun t ht hW => ⟨rfl, ht⟩) (fun q h => by cases h) dX12_book_45
  · rw [if_neg hc13] at hf
    refine lv_iload_n hx hb dX12_book_16 rfl (lv_at hl 2 rfl) ?_
    refine lv_iconst (v := (0 : Int32)) hx hb dX12_book_17 (by decide) ?_
    refine lv_bipush (v := (8 : Int32)) hx hb dX12_book_18 (by decide) ?_
    obtain ⟨r20, h20, hf⟩ := bd1_some hf
    have hPc := hP.sub (ws' := ([] : va_W)) [] rfl
    refine ro_calli (va_runS (As := [.int p2, .int (0 : Int32), .int (8 : Int32)]) (rest := []) ⟨hx, hb, hml, hown, hts⟩ (c_X12_isIn l dC dI cyB cyI cyZ cyO p2 (0 : Int32) (8 : Int32) r20 h20) (va_cwS 3 hts gX12_book_X12_isIn rfl rfl rfl (by decide +kernel) ⟨Nat.le_of_ble_eq_true rfl, Nat.le_of_ble_eq_true rfl⟩) ⟨PR.blind, fun U hU hW => ⟨rfl, by rw [hU]; exact hPc, hCx.warm hW⟩⟩ rfl rfl hl.1 rfl (lv_room (Nat.le_of_ble_eq_true rfl)) dX12_book_20 ⟨Nat.zero_le _, Nat.zero_le _⟩) ?_
    refine lv_if_eq (tgt := 44) hx hb dX12_book_23 (by decide) (fun hc23 => ?_) (fun hc23 => ?_)
    · rw [if_pos hc23] at hf
      refine lv_iconst (v := (-1 : Int32)) hx hb dX12_book_44 (by decide) ?_
      have hq := Option.some.inj hf
      subst hq
      exact W.iret (v := (-1 : Int32)) hx hb hr (fun t ht hW => ⟨rfl, ht⟩) (fun q h => by cases h) dX12_book_45
    · rw [if_neg hc23] at hf
      refine lv_aload_n hx hb dX12_book_26 rfl (lv_at hl 0 rfl) ?_
      refine va_get (D := (dC, dI)) (ci := 12) (v := .ref h_all) (C := RX12) (T := TX12) (N := 21) hx hb hts hin12 hown hK hP 0 rfl rfl 0 (by decide) kf7 (fun _ h9 => h9) rfl dX12_book_27 ?_
      refine lv_sipush (v := (280 : Int32)) hx hb dX12_book_30 (by decide) ?_
      refine lv_bipush (v := (9 : Int32)) hx hb dX12_book_33 (by decide) ?_
      refine lv_iload_n hx hb dX12_book_35 rfl (lv_at hl 1 rfl) ?_
      refine lv_imul hx hb dX12_book_36 ?_
      refine lv_iadd hx hb dX12_book_37 ?_
      refine lv_iload_n hx hb dX12_book_38 rfl (lv_at hl 2 rfl) ?_
      refine lv_iadd hx hb dX12_book_39 ?_
      have hi40 := if_no hf
      rw [if_neg hi40] at hf
      refine va_iald hx hb hK hP 1 1 rfl rfl hi40 dX12_book_40 ?_
      refine lv_goto (tgt := 45) hx hb dX12_book_41 (by decide) ?_
      have hq := Option.some.inj hf
      subst hq
      exact W.iret (v := (M_h 0 ((((280 : Int32) + ((9 : Int32) * p1)) + p2)).toNatClampNeg)) hx hb hr (fun t ht hW => ⟨rfl, ht⟩) (fun q h => by cases h) dX12_book_45
set_option maxHeartbeats 4000000 in
set_option maxRecDepth 100000 in
theorem c_X12_count (l : Launch) (dC : Nat → ClassId) (dI : Nat → Nat → Nat) (cyB cyI cyZ cyO : ClassId) (h h_all h_has h_read h_test h_rest h_gets h_waits h_way h_good h_left : Nat) (M_h : Mem) (p1 : Int32) (r : Int32) (hf : f_X12_count M_h p1 = some r) : Met l yX12_count wsX12_count ({ frames := 3, cells := 0, slots := 0, locals := 65 } : Room) (PR dC dI cyB cyI cyZ cyO ([.ref h, .int p1] : List Value) (wX12 cyB cyI cyZ cyO h h_all h_has h_read h_test h_rest h_gets h_waits h_way h_good h_left M_h)) (QR (some (.int r))) 0 0 (fun _ => False) := by
  refine Met.ofW (cc := cX12_count) (maxL := 4) (ret := (some .int)) (by decide) rfl ?_
  intro p e s m args below meth c s₁ B hml hv
  obtain ⟨rfl, hP, hCx⟩ := hv
  have hK := hCx.1
  have hN := hCx.2
  have hx := B.exec
  have hb := B.bytes
  have hr := B.returns
  have hts := atoms_spec (ws := wsX12_count) B.pre
  have hown : s.vm.findClass RX12 = some m.cls := findClass_of_methodNamed B.named
  have hlocks := B.notSynchronized
  have hin12 : ∀ w ∈ u_ws RX12 TX12 21, w ∈ wsX12_count := fun w h => List.mem_cons_of_mem _ (List.mem_append_right _ h)
  have kf7 := hts (.fieldLink RX12 7 "HoldSlipsModel" "all" "[I") (by decide +kernel)
  have hl := lv_entry ([.ref h, .int p1] : List Value) (n := 4) (Nat.le_of_ble_eq_true rfl)
  rw [lg_entry_eq]
  generalize (lg_sl ([.ref h, .int p1] : List Value) ++ List.replicate (4 - (lg_sl ([.ref h, .int p1] : List Value)).length) Slot.unset).toArray = ls at hl ⊢
  have hl : lv_has ls 4 [(0, .ref h), (1, .int p1)] := hl
  have L4 : ∀ (n : Nat), ∀ (x1 : Int32) (x2 : Int32) (x3 : Int32) (ls : Array Slot), f_X12_count_L4 n M_h x1 x2 x3 = some r → lv_has ls 4 [(0, .ref h), (1, .int x1), (2, .int x2), (3, .int x3)] → W p l e (headSpec wsX12_count ({ frames := 3, cells := 0, slots := 0, locals := 65 } : Room)).room s m ([.ref h, .int p1] : List Value).toArray below meth c s.heap [] 0 0 (MQ below (QR (some (.int r))) ([.ref h, .int p1] : List Value).toArray s 0 0 (fun _ => False)) (F0 m 4 ls []) := by
    intro n
    induction n with
    | zero => intro x1 x2 x3 ls hf hl; rw [f_X12_count_L4] at hf; cases hf
    | succ n ih =>
      intro x1 x2 x3 ls hf hl
      rw [f_X12_count_L4] at hf
      refine lv_iload_n hx hb dX12_count_4 rfl (lv_at hl 3 rfl) ?_
      refine lv_aload_n hx hb dX12_count_5 rfl (lv_at hl 0 rfl) ?_
      refine va_get (D := (dC, dI)) (ci := 12) (v := .ref h_all) (C := RX12) (T := TX12) (N := 21) hx hb hts hin12 hown hK hP 0 rfl rfl 0 (by decide) kf7 (fun _ h9 => h9) rfl dX12_count_6 ?_
      refine lv_iconst (v := (4 : Int32)) hx hb dX12_count_9 (by decide) ?_
      refine va_iald hx hb hK hP 1 1 rfl rfl (show ¬ ((4 : Int32) < 0 ∨ 11160 ≤ ((4 : Int32)).toNatClampNeg) by decide) dX12_count_10 ?_
      refine lv_icmp_ge (tgt := 36) hx hb dX12_count_11 (by decide) (fun hc11 => ?_) (fun hc11 => ?_)
      · rw [if_pos hc11] at hf
        refine lv_iload_n hx hb dX12_count_36 rfl (lv_at hl 1 rfl) ?_
        by_cases hs37_0 : x1 = (0 : Int32)
        · rw [if_pos hs37_0] at hf
          refine lv_tableIn (off := 55) (tgt := 92) hx hb dX12_count_37 (by rw [hs37_0]; decide) (by rw [hs37_0]; decide) (by rw [hs37_0]; rfl) (by decide) ?_
          refine lv_aload_n hx hb dX12_count_92 rfl (lv_at hl 0 rfl) ?_
          refine va_get (D := (dC, dI)) (ci := 12) (v := .ref h_all) (C := RX12) (T := TX12) (N := 21) hx hb hts hin12 hown hK hP 0 rfl rfl 0 (by decide) kf7 (fun _ h9 => h9) rfl dX12_count_93 ?_
          refine lv_iconst (v := (3 : Int32)) hx hb dX12_count_96 (by decide) ?_
          refine va_iald hx hb hK hP 1 1 rfl rfl (show ¬ ((3 : Int32) < 0 ∨ 11160 ≤ ((3 : Int32)).toNatClampNeg) by decide) dX12_count_97 ?_
          have hq := Option.some.inj hf
          subst hq
          exact W.iret (v := (M_h 0 ((3 : Int32)).toNatClampNeg)) hx hb hr (fun t ht hW => ⟨rfl, ht⟩) (fun q h => by cases h) dX12_count_98
        · rw [if_neg hs37_0] at hf
          by_cases hs37_1 : x1 = (1 : Int32)
          · rw [if_pos hs37_1] at hf
            refine lv_tableIn (off := 62) (tgt := 99) hx hb dX12_count_37 (by rw [hs37_1]; decide) (by rw [hs37_1]; decide) (by rw [hs37_1]; rfl) (by decide) ?_
            refine lv_aload_n hx hb dX12_count_99 rfl (lv_at hl 0 rfl) ?_
            refine va_get (D := (dC, dI)) (ci := 12) (v := .ref h_all) (C := RX12) (T := TX12) (N := 21) hx hb hts hin12 hown hK hP 0 rfl rfl 0 (by decide) kf7 (fun _ h9 => h9) rfl dX12_count_100 ?_
            refine lv_iconst (v := (4 : Int32)) hx hb dX12_count_103 (by decide) ?_
            refine va_iald hx hb hK hP 1 1 rfl rfl (show ¬ ((4 : Int32) < 0 ∨ 11160 ≤ ((4 : Int32)).toNatClampNeg) by decide) dX12_count_104 ?_
            have hq := Option.some.inj hf
            subst hq
            exact W.iret (v := (M_h 0 ((4 : Int32)).toNatClampNeg)) hx hb hr (fun t ht hW => ⟨rfl, ht⟩) (fun q h => by cases h) dX12_count_105
          · rw [if_neg hs37_1] at hf
            by_cases hs37_2 : x1 = (2 : Int32)
            · rw [if_pos hs37_2] at hf
              refine lv_tableIn (off := 69) (tgt := 106) hx hb dX12_count_37 (by rw [hs37_2]; decide) (by rw [hs37_2]; decide) (by rw [hs37_2]; rfl) (by decide) ?_
              refine lv_iload_n hx hb dX12_count_106 rfl (lv_at hl 2 rfl) ?_
              have hq := Option.some.inj hf
              subst hq
              exact W.iret (v := x2) hx hb hr (fun t ht hW => ⟨rfl, ht⟩) (fun q h => by cases h) dX12_count_107
            · rw [if_neg hs37_2] at hf
              by_cases hs37_3 : x1 = (3 : Int32)
              · rw [if_pos hs37_3] at hf
                refine lv_tableIn (off := 71) (tgt := 108) hx hb dX12_count_37 (by rw [hs37_3]; decide) (by rw [hs37_3]; decide) (by rw [hs37_3]; rfl) (by decide) ?_
                refine lv_aload_n hx hb dX12_count_108 rfl (lv_at hl 0 rfl) ?_
                refine va_get (D := (dC, dI)) (ci := 12) (v := .ref h_all) (C := RX12) (T := TX12) (N := 21) hx hb hts hin12 hown hK hP 0 rfl rfl 0 (by decide) kf7 (fun _ h9 => h9) rfl dX12_count_109 ?_
                refine lv_iconst (v := (5 : Int32)) hx hb dX12_count_112 (by decide) ?_
                refine va_iald hx hb hK hP 1 1 rfl rfl (show ¬ ((5 : Int32) < 0 ∨ 11160 ≤ ((5 : Int32)).toNatClampNeg) by decide) dX12_count_113 ?_
                have hq := Option.some.inj hf
                subst hq
                exact W.iret (v := (M_h 0 ((5 : Int32)).toNatClampNeg)) hx hb hr (fun t ht hW => ⟨rfl, ht⟩) (fun q h => by cases h) dX12_count_114
              · rw [if_neg hs37_3] at hf
                by_cases hs37_4 : x1 = (4 : Int32)
                · rw [if_pos hs37_4] at hf
                  refine lv_tableIn (off := 78) (tgt := 115) hx hb dX12_count_37 (by rw [hs37_4]; decide) (by rw [hs37_4]; decide) (by rw [hs37_4]; rfl) (by decide) ?_
                  refine lv_aload_n hx hb dX12_count_115 rfl (lv_at hl 0 rfl) ?_
                  refine va_get (D := (dC, dI)) (ci := 12) (v := .ref h_all) (C := RX12) (T := TX12) (N := 21) hx hb hts hin12 hown hK hP 0 rfl rfl 0 (by decide) kf7 (fun _ h9 => h9) rfl dX12_count_116 ?_
                  refine lv_iconst (v := (0 : Int32)) hx hb dX12_count_119 (by decide) ?_
                  refine va_iald hx hb hK hP 1 1 rfl rfl (show ¬ ((0 : Int32) < 0 ∨ 11160 ≤ ((0 : Int32)).toNatClampNeg) by decide) dX12_count_120 ?_
                  have hq := Option.some.inj hf
                  subst hq
                  exact W.iret (v := (M_h 0 ((0 : Int32)).toNatClampNeg)) hx hb hr (fun t ht hW => ⟨rfl, ht⟩) (fun q h => by cases h) dX12_count_121
                · rw [if_neg hs37_4] at hf
                  by_cases hs37_5 : x1 = (5 : Int32)
                  · rw [if_pos hs37_5] at hf
                    refine lv_tableIn (off := 85) (tgt := 122) hx hb dX12_count_37 (by rw [hs37_5]; decide) (by rw [hs37_5]; decide) (by rw [hs37_5]; rfl) (by decide) ?_
                    refine lv_aload_n hx hb dX12_count_122 rfl (lv_at hl 0 rfl) ?_
                    refine va_get (D := (dC, dI)) (ci := 12) (v := .ref h_all) (C := RX12) (T := TX12) (N := 21) hx hb hts hin12 hown hK hP 0 rfl rfl 0 (by decide) kf7 (fun _ h9 => h9) rfl dX12_count_123 ?_
                    refine lv_iconst (v := (1 : Int32)) hx hb dX12_count_126 (by decide) ?_
                    refine va_iald hx hb hK hP 1 1 rfl rfl (show ¬ ((1 : Int32) < 0 ∨ 11160 ≤ ((1 : Int32)).toNatClampNeg) by decide) dX12_count_127 ?_
                    have hq := Option.some.inj hf
                    subst hq
                    exact W.iret (v := (M_h 0 ((1 : Int32)).toNatClampNeg)) hx hb hr (fun t ht hW => ⟨rfl, ht⟩) (fun q h => by cases h) dX12_count_128
                  · rw [if_neg hs37_5] at hf
                    by_cases hs37_6 : x1 = (6 : Int32)
                    · rw [if_pos hs37_6] at hf
                      refine lv_tableIn (off := 92) (tgt := 129) hx hb dX12_count_37 (by rw [hs37_6]; decide) (by rw [hs37_6]; decide) (by rw [hs37_6]; rfl) (by decide) ?_
                      refine lv_aload_n hx hb dX12_count_129 rfl (lv_at hl 0 rfl) ?_
                      refine va_get (D := (dC, dI)) (ci := 12) (v := .ref h_all) (C := RX12) (T := TX12) (N := 21) hx hb hts hin12 hown hK hP 0 rfl rfl 0 (by decide) kf7 (fun _ h9 => h9) rfl dX12_count_130 ?_
                      refine lv_bipush (v := (7 : Int32)) hx hb dX12_count_133 (by decide) ?_
                      refine va_iald hx hb hK hP 1 1 rfl rfl (show ¬ ((7 : Int32) < 0 ∨ 11160 ≤ ((7 : Int32)).toNatClampNeg) by decide) dX12_count_135 ?_
                      have hq := Option.some.inj hf
                      subst hq
                      exact W.iret (v := (M_h 0 ((7 : Int32)).toNatClampNeg)) hx hb hr (fun t ht hW => ⟨rfl, ht⟩) (fun q h => by cases h) dX12_count_136
                    · rw [if_neg hs37_6] at hf
                      by_cases hs37_7 : x1 = (7 : Int32)
                      · rw [if_pos hs37_7] at hf
                        refine lv_tableIn (off := 100) (tgt := 137) hx hb dX12_count_37 (by rw [hs37_7]; decide) (by rw [hs37_7]; decide) (by rw [hs37_7]; rfl) (by decide) ?_
                        refine lv_aload_n hx hb dX12_count_137 rfl (lv_at hl 0 rfl) ?_
                        obtain ⟨r138, h138, hf⟩ := bd1_some hf
                        refine ro_calli (va_runV (As := []) (rest := []) ⟨hx, hb, hml, hown, hts⟩ (c_X12_tilt l dC dI cyB cyI cyZ cyO h h_all h_has h_read h_test h_rest h_gets h_waits h_way h_good h_left M_h r138 h138) (cwV 0 hts gX12_count_X12_tilt rfl rfl rfl (by decide +kernel) ⟨Nat.le_of_ble_eq_true rfl, Nat.le_of_ble_eq_true rfl⟩) ⟨PR.blind, va_recv hK hP (ci := 12) (q0 := 0) rfl rfl, fun U hU hW => ⟨rfl, by rw [hU]; exact hP, hCx.warm hW⟩⟩ rfl rfl hl.1 rfl (lv_room (Nat.le_of_ble_eq_true rfl)) dX12_count_138 ⟨Nat.zero_le _, Nat.zero_le _⟩) ?_
                        have hq := Option.some.inj hf
                        subst hq
                        exact W.iret (v := r138) hx hb hr (fun t ht hW => ⟨rfl, ht⟩) (fun q h => by cases h) dX12_count_141
                      · rw [if_neg hs37_7] at hf
                        by_cases hs37_8 : x1 = (8 : Int32)
                        · rw [if_pos hs37_8] at hf
                          refine lv_tableIn (off := 105) (tgt := 142) hx hb dX12_count_37 (by rw [hs37_8]; decide) (by rw [hs37_8]; decide) (by rw [hs37_8]; rfl) (by decide) ?_
                          refine lv_aload_n hx hb dX12_count_142 rfl (lv_at hl 0 rfl) ?_
                          obtain ⟨r143, h143, hf⟩ := bd1_some hf
                          refine ro_calli (va_runV (As := []) (rest := []) ⟨hx, hb, hml, hown, hts⟩ (c_X12_weight l dC dI cyB cyI cyZ cyO h h_all h_has h_read h_test h_rest h_gets h_waits h_way h_good h_left M_h r143 h143) (cwV 0 hts gX12_count_X12_weight rfl rfl rfl (by decide +kernel) ⟨Nat.le_of_ble_eq_true rfl, Nat.le_of_ble_eq_true rfl⟩) ⟨PR.blind, va_recv hK hP (ci := 12) (q0 := 0) rfl rfl, fun U hU hW => ⟨rfl, by rw [hU]; exact hP, hCx.warm hW⟩⟩ rfl rfl hl.1 rfl (lv_room (Nat.le_of_ble_eq_true rfl)) dX12_count_143 ⟨Nat.zero_le _, Nat.zero_le _⟩) ?_
                          have hq := Option.some.inj hf
                          subst hq
                          exact W.iret (v := r143) hx hb hr (fun t ht hW => ⟨rfl, ht⟩) (fun q h => by cases h) dX12_count_146
                        · rw [if_neg hs37_8] at hf
                          by_cases hs37_9 : x1 = (9 : Int32)
                          · rw [if_pos hs37_9] at hf
                            refine lv_tableIn (off := 110) (tgt := 147) hx hb dX12_count_37 (by rw [hs37_9]; decide) (by rw [hs37_9]; decide) (by rw [hs37_9]; rfl) (by decide) ?_
                            refine lv_aload_n hx hb dX12_count_147 rfl (lv_at hl 0 rfl) ?_
                            refine va_get (D := (dC, dI)) (ci := 12) (v := .ref h_all) (C := RX12) (T := TX12) (N := 21) hx hb hts hin12 hown hK hP 0 rfl rfl 0 (by decide) kf7 (fun _ h9 => h9) rfl dX12_count_148 ?_
                            refine lv_bipush (v := (15 : Int32)) hx hb dX12_count_151 (by decide) ?_
                            refine va_iald hx hb hK hP 1 1 rfl rfl (show ¬ ((15 : Int32) < 0 ∨ 11160 ≤ ((15 : Int32)).toNatClampNeg) by decide) dX12_count_153 ?_
                            have hq := Option.some.inj hf
                            subst hq
                            exact W.iret (v := (M_h 0 ((15 : Int32)).toNatClampNeg)) hx hb hr (fun t ht hW => ⟨rfl, ht⟩) (fun q h => by cases h) dX12_count_154
                          · rw [if_neg hs37_9] at hf
                            refine lv_tableOut (tgt := 155) hx hb dX12_count_37 (by have z0 := lv_neT hs37_0 (show (0 : Int32).toInt = 0 by decide); have z1 := lv_neT hs37_1 (show (1 : Int32).toInt = 1 by decide); have z2 := lv_neT hs37_2 (show (2 : Int32).toInt = 2 by decide); have z3 := lv_neT hs37_3 (show (3 : Int32).toInt = 3 by decide); have z4 := lv_neT hs37_4 (show (4 : Int32).toInt = 4 by decide); have z5 := lv_neT hs37_5 (show (5 : Int32).toInt = 5 by decide); have z6 := lv_neT hs37_6 (show (6 : Int32).toInt = 6 by decide); have z7 := lv_neT hs37_7 (show (7 : Int32).toInt = 7 by decide); have z8 := lv_neT hs37_8 (show (8 : Int32).toInt = 8 by decide); have z9 := lv_neT hs37_9 (show (9 : Int32).toInt = 9 by decide); omega) (by decide) ?_
                            refine lv_ldc (v := (-1000000000 : Int32)) hx hb hown (hts (.constant RX12 217 (-1000000000)) (by decide +kernel)) dX12_count_155 ?_
                            have hq := Option.some.inj hf
                            subst hq
                            exact W.iret (v := (-1000000000 : Int32)) hx hb hr (fun t ht hW => ⟨rfl, ht⟩) (fun q h => by cases h) dX12_count_157
      · rw [if_neg hc11] at hf
        refine lv_iload_n hx hb dX12_count_14 rfl (lv_at hl 2 rfl) ?_
        refine lv_aload_n hx hb dX12_count_15 rfl (lv_at hl 0 rfl) ?_
        refine lv_iload_n hx hb dX12_count_16 rfl (lv_at hl 3 rfl) ?_
        obtain ⟨r17, h17, hf⟩ := bd1_some hf
        refine ro_calli (va_runV (As := [.int x3]) (rest := [.int x2]) ⟨hx, hb, hml, hown, hts⟩ (c_X12_lies l dC dI cyB cyI cyZ cyO h h_all h_has h_read h_test h_rest h_gets h_waits h_way h_good h_left M_h x3 r17 h17) (cwV 1 hts gX12_count_X12_lies rfl rfl rfl (by decide +kernel) ⟨Nat.le_of_ble_eq_true rfl, Nat.le_of_ble_eq_true rfl⟩) ⟨PR.blind, va_recv hK hP (ci := 12) (q0 := 0) rfl rfl, fun U hU hW => ⟨rfl, by rw [hU]; exact hP, hCx.warm hW⟩⟩ rfl rfl hl.1 rfl (lv_room (Nat.le_of_ble_eq_true rfl)) dX12_count_17 ⟨Nat.zero_le _, Nat.zero_le _⟩) ?_
        refine lv_if_eq (tgt := 27) hx hb dX12_count_20 (by decide) (fun hc20 => ?_) (fun hc20 => ?_)
        · rw [if_pos hc20] at hf
          refine lv_iconst (v := (0 : Int32)) hx hb dX12_count_27 (by decide) ?_
          refine lv_iadd hx hb dX12_count_28 ?_
          refine lv_istore_n (lv' := [(2, .int (x2 + (0 : Int32))), (0, .ref h), (1, .int x1), (3, .int x3)]) hx hb dX12_count_29 rfl hl (by decide) rfl (fun ls hl => ?_)
          refine lv_iinc (v := (x3 + (1 : Int32))) (lv' := [(3, .int (x3 + (1 : Int32))), (2, .int (x2 + (0 : Int32))), (0, .ref h), (1, .int x1)]) hx hb dX12_count_30 hl (k := 3) rfl rfl (by decide) rfl (fun ls hl => ?_)
          refine lv_goto (tgt := 4) hx hb dX12_count_33 (by decide) ?_
          exact ih x1 (x2 + (0 : Int32)) (x3 + (1 : Int32)) ls hf (lv_sub hl [2, 3, 1, 0] rfl)
        · rw [if_neg hc20] at hf
          refine lv_iconst (v := (1 : Int32)) hx hb dX12_count_23 (by decide) ?_
          refine lv_goto (tgt := 28) hx hb dX12_count_24 (by decide) ?_
          refine lv_iadd hx hb dX12_count_28 ?_
          refine lv_istore_n (lv' := [(2, .int (x2 + (1 : Int32))), (0, .ref h), (1, .int x1), (3, .int x3)]) hx hb dX12_count_29 rfl hl (by decide) rfl (fun ls hl => ?_)
          refine lv_iinc (v := (x3 + (1 : Int32))) (lv' := [(3, .int (x3 + (1 : Int32))), (2, .int (x2 + (1 : Int32))), (0, .ref h), (1, .int x1)]) hx hb dX12_count_30 hl (k := 3) rfl rfl (by decide) rfl (fun ls hl => ?_)
          refine lv_goto (tgt := 4) hx hb dX12_count_33 (by decide) ?_
          exact ih x1 (x2 + (1 : Int32)) (x3 + (1 : Int32)) ls hf (lv_sub hl [2, 3, 1, 0] rfl)
  rw [f_X12_count] at hf
  refine lv_iconst (v := (0 : Int32)) hx hb dX12_count_0 (by decide) ?_
  refine lv_istore_n (lv' := [(2, .int (0 : Int32)), (0, .ref h), (1, .int p1)]) hx hb dX12_count_1 rfl hl (by decide) rfl (fun ls hl => ?_)
  refine lv_iconst (v := (0 : Int32)) hx hb dX12_count_2 (by decide) ?_
  refine lv_istore_n (lv' := [(3, .int (0 : Int32)), (2, .int (0 : Int32)), (0, .ref h), (1, .int p1)]) hx hb dX12_count_3 rfl hl (by decide) rfl (fun ls hl => ?_)
  exact L4 FU p1 (0 : Int32) (0 : Int32) ls hf (lv_sub hl [2, 3, 1, 0] rfl)
set_option maxHeartbeats 4000000 in
set_option maxRecDepth 100000 in
theorem c_X12_image (l : Launch) (dC : Nat → ClassId) (dI : Nat → Nat → Nat) (cyB cyI cyZ cyO : ClassId) (h h_all h_has h_read h_test h_rest h_gets h_waits h_way h_good h_left : Nat) (sz : Nat) (M_h : Mem) (p1 : Int32) (r : Int32) (R_h : Mem) (hf : f_X12_image M_h p1 = some (r, R_h)) : Met l yX12_image wsX12_image ({ frames := 1, cells := 0, slots := 0, locals := 22 } : Room) (PW dC dI cyB cyI cyZ cyO ([.ref h, .int p1] : List Value) (wX12 cyB cyI cyZ cyO h h_all h_has h_read h_test h_rest h_gets h_waits h_way h_good h_left M_h) sz) (QW dC dI (some (.int r)) (wX12 cyB cyI cyZ cyO h h_all h_has h_read h_test h_rest h_gets h_waits h_way h_good h_left R_h) (va_A (wX12 cyB cyI cyZ cyO h h_all h_has h_read h_test h_rest h_gets h_waits h_way h_good h_left M_h) sz)) 0 0 (va_A (wX12 cyB cyI cyZ cyO h h_all h_has h_read h_test h_rest h_gets h_waits h_way h_good h_left M_h) sz) := by
  refine Met.ofW (cc := cX12_image) (maxL := 3) (ret := (some .boolean)) (by decide) rfl ?_
  intro p e s m args below meth c s₁ B hml hv
  obtain ⟨rfl, hsz, hP, hCx, hD0⟩ := hv
  have hK := hCx.1
  have hN := hCx.2
  have hx := B.exec
  have hb := B.bytes
  have hr := B.returns
  have hts := atoms_spec (ws := wsX12_image) B.pre
  have hown : s.vm.findClass RX12 = some m.cls := findClass_of_methodNamed B.named
  have hlocks := B.notSynchronized
  have hin12 : ∀ w ∈ u_ws RX12 TX12 21, w ∈ wsX12_image := fun w h => List.mem_cons_of_mem _ (List.mem_append_right _ h)
  have kf7 := hts (.fieldLink RX12 7 "HoldSlipsModel" "all" "[I") (by decide +kernel)
  have kf13 := hts (.fieldLink RX12 13 "HoldSlipsModel" "has" "[Z") (by decide +kernel)
  subst hsz
  have hD := hD0.self (sz := s.heap.size)
  generalize hAe : va_A (wX12 cyB cyI cyZ cyO h h_all h_has h_read h_test h_rest h_gets h_waits h_way h_good h_left M_h) s.heap.size = A at hD ⊢
  have hA : ∀ q : Nat, s.heap.size ≤ q → A q := fun q h => by rw [← hAe]; exact Or.inr h
  have hS : va_S A s.heap s.heap [] := va_S.rf
  have hl := lv_entry ([.ref h, .int p1] : List Value) (n := 3) (Nat.le_of_ble_eq_true rfl)
  rw [lg_entry_eq]
  generalize (lg_sl ([.ref h, .int p1] : List Value) ++ List.replicate (3 - (lg_sl ([.ref h, .int p1] : List Value)).length) Slot.unset).toArray = ls at hl ⊢
  have hl : lv_has ls 3 [(0, .ref h), (1, .int p1)] := hl
  have L20 : ∀ (n : Nat), ∀ (M_h : Mem) (x1 : Int32) (x2 : Int32) (H : Heap) (locs : List Loc) (ls : Array Slot), f_X12_image_L20 n M_h x1 x2 = some (r, R_h) → va_P (dC, dI) vwCl (wX12 cyB cyI cyZ cyO h h_all h_has h_read h_test h_rest h_gets h_waits h_way h_good h_left M_h) H → va_D A (wX12 cyB cyI cyZ cyO h h_all h_has h_read h_test h_rest h_gets h_waits h_way h_good h_left M_h) → va_S A s.heap H locs → lv_has ls 3 [(0, .ref h), (1, .int x1), (2, .int x2)] → W p l e (headSpec wsX12_image ({ frames := 1, cells := 0, slots := 0, locals := 22 } : Room)).room s m ([.ref h, .int p1] : List Value).toArray below meth c H locs 0 0 (MQ below (QW dC dI (some (.int r)) (wX12 cyB cyI cyZ cyO h h_all h_has h_read h_test h_rest h_gets h_waits h_way h_good h_left R_h) A) ([.ref h, .int p1] : List Value).toArray s 0 0 A) (F0 m 20 ls []) := by
    intro n
    induction n with
    | zero => intro M_h x1 x2 H locs ls hf hP hD hS hl; rw [f_X12_image_L20] at hf; cases hf
    | succ n ih =>
      intro M_h x1 x2 H locs ls hf hP hD hS hl
      rw [f_X12_image_L20] at hf
      refine lv_iload_n hx hb dX12_image_20 rfl (lv_at hl 2 rfl) ?_
      refine lv_sipush (v := (2790 : Int32)) hx hb dX12_image_21 (by decide) ?_
      refine lv_icmp_ge (tgt := 53) hx hb dX12_image_24 (by decide) (fun hc24 => ?_) (fun hc24 => ?_)
      · rw [if_pos hc24] at hf
        refine lv_iconst (v := (1 : Int32)) hx hb dX12_image_53 (by decide) ?_
        obtain ⟨hq0, hq1⟩ := pj2 hf
        subst hq0
        subst hq1
        exact W.zret (v := (1 : Int32)) hx hb hr rfl (fun t ht hW => ⟨rfl, by rw [ht]; exact hP, hD, hS.F ht⟩) hS.2.2 dX12_image_54
      · rw [if_neg hc24] at hf
        refine lv_aload_n hx hb dX12_image_27 rfl (lv_at hl 0 rfl) ?_
        refine va_get (D := (dC, dI)) (ci := 12) (v := .ref h_all) (C := RX12) (T := TX12) (N := 21) hx hb hts hin12 hown hK hP 0 rfl rfl 0 (by decide) kf7 (fun _ h9 => h9) rfl dX12_image_28 ?_
        refine lv_sipush (v := (2790 : Int32)) hx hb dX12_image_31 (by decide) ?_
        refine lv_iload_n hx hb dX12_image_34 rfl (lv_at hl 1 rfl) ?_
        refine lv_iconst (v := (1 : Int32)) hx hb dX12_image_35 (by decide) ?_
        refine lv_iadd hx hb dX12_image_36 ?_
        refine lv_imul hx hb dX12_image_37 ?_
        refine lv_iload_n hx hb dX12_image_38 rfl (lv_at hl 2 rfl) ?_
        refine lv_iadd hx hb dX12_image_39 ?_
        refine lv_aload_n hx hb dX12_image_40 rfl (lv_at hl 0 rfl) ?_
        refine va_get (D := (dC, dI)) (ci := 12) (v := .ref h_all) (C := RX12) (T := TX12) (N := 21) hx hb hts hin12 hown hK hP 0 rfl rfl 0 (by decide) kf7 (fun _ h9 => h9) rfl dX12_image_41 ?_
        refine lv_iload_n hx hb dX12_image_44 rfl (lv_at hl 2 rfl) ?_
        have hi45 := if_no hf
        rw [if_neg hi45] at hf
        refine va_iald hx hb hK hP 1 1 rfl rfl hi45 dX12_image_45 ?_
        have hi46 := if_no hf
        rw [if_neg hi46] at hf
        refine va_iast hx hb hK hP hD hS 1 1 rfl rfl hi46 dX12_image_46 (fun H locs hP hD hS => ?_)
        obtain ⟨M_h_46, eM_h_46, hf⟩ := wr_some hf
        have hP : va_P (dC, dI) vwCl (wX12 cyB cyI cyZ cyO h h_all h_has h_read h_test h_rest h_gets h_waits h_way h_good h_left M_h_46) H := by rw [eM_h_46]; exact hP
        have hD : va_D A (wX12 cyB cyI cyZ cyO h h_all h_has h_read h_test h_rest h_gets h_waits h_way h_good h_left M_h_46) := by rw [eM_h_46]; exact hD
        refine lv_iinc (v := (x2 + (1 : Int32))) (lv' := [(2, .int (x2 + (1 : Int32))), (0, .ref h), (1, .int x1)]) hx hb dX12_image_47 hl (k := 2) rfl rfl (by decide) rfl (fun ls hl => ?_)
        refine lv_goto (tgt := 20) hx hb dX12_image_50 (by decide) ?_
        exact ih M_h_46 x1 (x2 + (1 : Int32)) _ _ ls hf hP hD hS (lv_sub hl [1, 2, 0] rfl)
  rw [f_X12_image] at hf
  refine lv_iload_n hx hb dX12_image_0 rfl (lv_at hl 1 rfl) ?_
  refine lv_iconst (v := (0 : Int32)) hx hb dX12_image_1 (by decide) ?_
  refine lv_iconst (v := (2 : Int32)) hx hb dX12_image_2 (by decide) ?_
  obtain ⟨r3, h3, hf⟩ := bd1_some hf
  have hPc := hP.sub (ws' := ([] : va_W)) [] rfl
  refine ro_calli (va_runS (As := [.int p1, .int (0 : Int32), .int (2 : Int32)]) (rest := []) ⟨hx, hb, hml, hown, hts⟩ (c_X12_isIn l dC dI cyB cyI cyZ cyO p1 (0 : Int32) (2 : Int32) r3 h3) (va_cwS 3 hts gX12_image_X12_isIn rfl rfl rfl (by decide +kernel) ⟨Nat.le_of_ble_eq_true rfl, Nat.le_of_ble_eq_true rfl⟩) ⟨PR.blind, fun U hU hW => ⟨rfl, by rw [hU]; exact hPc, hCx.warm hW⟩⟩ rfl rfl hl.1 rfl (lv_room (Nat.le_of_ble_eq_true rfl)) dX12_image_3 ⟨Nat.zero_le _, Nat.zero_le _⟩) ?_
  refine lv_if_ne (tgt := 11) hx hb dX12_image_6 (by decide) (fun hc6 => ?_) (fun hc6 => ?_)
  · rw [if_neg hc6] at hf
    refine lv_aload_n hx hb dX12_image_11 rfl (lv_at hl 0 rfl) ?_
    refine va_get (D := (dC, dI)) (ci := 12) (v := .ref h_has) (C := RX12) (T := TX12) (N := 21) hx hb hts hin12 hown hK hP 0 rfl rfl 1 (by decide) kf13 (fun _ h9 => h9) rfl dX12_image_12 ?_
    refine lv_iload_n hx hb dX12_image_15 rfl (lv_at hl 1 rfl) ?_
    refine lv_iconst (v := (1 : Int32)) hx hb dX12_image_16 (by decide) ?_
    have hi17 := if_no hf
    rw [if_neg hi17] at hf
    refine va_zast hx hb hK hP hD hS 2 2 rfl rfl hi17 dX12_image_17 (fun H locs hP hD hS => ?_)
    obtain ⟨M_h_17, eM_h_17, hf⟩ := wr_some hf
    have hP : va_P (dC, dI) vwCl (wX12 cyB cyI cyZ cyO h h_all h_has h_read h_test h_rest h_gets h_waits h_way h_good h_left M_h_17) H := by rw [eM_h_17]; exact hP
    have hD : va_D A (wX12 cyB cyI cyZ cyO h h_all h_has h_read h_test h_rest h_gets h_waits h_way h_good h_left M_h_17) := by rw [eM_h_17]; exact hD
    refine lv_iconst (v := (0 : Int32)) hx hb dX12_image_18 (by decide) ?_
    refine lv_istore_n (lv' := [(2, .int (0 : Int32)), (0, .ref h), (1, .int p1)]) hx hb dX12_image_19 rfl hl (by decide) rfl (fun ls hl => ?_)
    exact L20 FU M_h_17 p1 (0 : Int32) _ _ ls hf hP hD hS (lv_sub hl [1, 2, 0] rfl)
  · rw [if_pos hc6] at hf
    refine lv_iconst (v := (0 : Int32)) hx hb dX12_image_9 (by decide) ?_
    obtain ⟨hq0, hq1⟩ := pj2 hf
    subst hq0
    subst hq1
    exact W.zret (v := (0 : Int32)) hx hb hr rfl (fun t ht hW => ⟨rfl, by rw [ht]; exact hP, hD, hS.F ht⟩) hS.2.2 dX12_image_10
set_option maxHeartbeats 4000000 in
set_option maxRecDepth 100000 in
theorem c_X12_again (l : Launch) (dC : Nat → ClassId) (dI : Nat → Nat → Nat) (cyB cyI cyZ cyO : ClassId) (h h_all h_has h_read h_test h_rest h_gets h_waits h_way h_good h_left : Nat) (sz : Nat) (M_h : Mem) (p1 : Int32) (r : Int32) (R_h : Mem) (hf : f_X12_again M_h p1 = some (r, R_h)) : Met l yX12_again wsX12_again ({ frames := 1, cells := 0, slots := 0, locals := 22 } : Room) (PW dC dI cyB cyI cyZ cyO ([.ref h, .int p1] : List Value) (wX12 cyB cyI cyZ cyO h h_all h_has h_read h_test h_rest h_gets h_waits h_way h_good h_left M_h) sz) (QW dC dI (some (.int r)) (wX12 cyB cyI cyZ cyO h h_all h_has h_read h_test h_rest h_gets h_waits h_way h_good h_left R_h) (va_A (wX12 cyB cyI cyZ cyO h h_all h_has h_read h_test h_rest h_gets h_waits h_way h_good h_left M_h) sz)) 0 0 (va_A (wX12 cyB cyI cyZ cyO h h_all h_has h_read h_test h_rest h_gets h_waits h_way h_good h_left M_h) sz) := by
  refine Met.ofW (cc := cX12_again) (maxL := 3) (ret := (some .boolean)) (by decide) rfl ?_
  intro p e s m args below meth c s₁ B hml hv
  obtain ⟨rfl, hsz, hP, hCx, hD0⟩ := hv
  have hK := hCx.1
  have hN := hCx.2
  have hx := B.exec
  have hb := B.bytes
  have hr := B.returns
  have hts := atoms_spec (ws := wsX12_again) B.pre
  have hown : s.vm.findClass RX12 = some m.cls := findClass_of_methodNamed B.named
  have hlocks := B.notSynchronized
  have hin12 : ∀ w ∈ u_ws RX12 TX12 21, w ∈ wsX12_again := fun w h => List.mem_cons_of_mem _ (List.mem_append_right _ h)
  have kf7 := hts (.fieldLink RX12 7 "HoldSlipsModel" "all" "[I") (by decide +kernel)
  have kf13 := hts (.fieldLink RX12 13 "HoldSlipsModel" "has" "[Z") (by decide +kernel)
  subst hsz
  have hD := hD0.self (sz := s.heap.size)
  generalize hAe : va_A (wX12 cyB cyI cyZ cyO h h_all h_has h_read h_test h_rest h_gets h_waits h_way h_good h_left M_h) s.heap.size = A at hD ⊢
  have hA : ∀ q : Nat, s.heap.size ≤ q → A q := fun q h => by rw [← hAe]; exact Or.inr h
  have hS : va_S A s.heap s.heap [] := va_S.rf
  have hl := lv_entry ([.ref h, .int p1] : List Value) (n := 3) (Nat.le_of_ble_eq_true rfl)
  rw [lg_entry_eq]
  generalize (lg_sl ([.ref h, .int p1] : List Value) ++ List.replicate (3 - (lg_sl ([.ref h, .int p1] : List Value)).length) Slot.unset).toArray = ls at hl ⊢
  have hl : lv_has ls 3 [(0, .ref h), (1, .int p1)] := hl
  have L22 : ∀ (n : Nat), ∀ (M_h : Mem) (x1 : Int32) (x2 : Int32) (H : Heap) (locs : List Loc) (ls : Array Slot), f_X12_again_L22 n M_h x1 x2 = some (r, R_h) → va_P (dC, dI) vwCl (wX12 cyB cyI cyZ cyO h h_all h_has h_read h_test h_rest h_gets h_waits h_way h_good h_left M_h) H → va_D A (wX12 cyB cyI cyZ cyO h h_all h_has h_read h_test h_rest h_gets h_waits h_way h_good h_left M_h) → va_S A s.heap H locs → lv_has ls 3 [(0, .ref h), (1, .int x1), (2, .int x2)] → W p l e (headSpec wsX12_again ({ frames := 1, cells := 0, slots := 0, locals := 22 } : Room)).room s m ([.ref h, .int p1] : List Value).toArray below meth c H locs 0 0 (MQ below (QW dC dI (some (.int r)) (wX12 cyB cyI cyZ cyO h h_all h_has h_read h_test h_rest h_gets h_waits h_way h_good h_left R_h) A) ([.ref h, .int p1] : List Value).toArray s 0 0 A) (F0 m 22 ls []) := by
    intro n
    induction n with
    | zero => intro M_h x1 x2 H locs ls hf hP hD hS hl; rw [f_X12_again_L22] at hf; cases hf
    | succ n ih =>
      intro M_h x1 x2 H locs ls hf hP hD hS hl
      rw [f_X12_again_L22] at hf
      refine lv_iload_n hx hb dX12_again_22 rfl (lv_at hl 2 rfl) ?_
      refine lv_sipush (v := (2790 : Int32)) hx hb dX12_again_23 (by decide) ?_
      refine lv_icmp_ge (tgt := 55) hx hb dX12_again_26 (by decide) (fun hc26 => ?_) (fun hc26 => ?_)
      · rw [if_pos hc26] at hf
        refine lv_iconst (v := (1 : Int32)) hx hb dX12_again_55 (by decide) ?_
        obtain ⟨hq0, hq1⟩ := pj2 hf
        subst hq0
        subst hq1
        exact W.zret (v := (1 : Int32)) hx hb hr rfl (fun t ht hW => ⟨rfl, by rw [ht]; exact hP, hD, hS.F ht⟩) hS.2.2 dX12_again_56
      · rw [if_neg hc26] at hf
        refine lv_aload_n hx hb dX12_again_29 rfl (lv_at hl 0 rfl) ?_
        refine va_get (D := (dC, dI)) (ci := 12) (v := .ref h_all) (C := RX12) (T := TX12) (N := 21) hx hb hts hin12 hown hK hP 0 rfl rfl 0 (by decide) kf7 (fun _ h9 => h9) rfl dX12_again_30 ?_
        refine lv_iload_n hx hb dX12_again_33 rfl (lv_at hl 2 rfl) ?_
        refine lv_aload_n hx hb dX12_again_34 rfl (lv_at hl 0 rfl) ?_
        refine va_get (D := (dC, dI)) (ci := 12) (v := .ref h_all) (C := RX12) (T := TX12) (N := 21) hx hb hts hin12 hown hK hP 0 rfl rfl 0 (by decide) kf7 (fun _ h9 => h9) rfl dX12_again_35 ?_
        refine lv_sipush (v := (2790 : Int32)) hx hb dX12_again_38 (by decide) ?_
        refine lv_iload_n hx hb dX12_again_41 rfl (lv_at hl 1 rfl) ?_
        refine lv_iconst (v := (1 : Int32)) hx hb dX12_again_42 (by decide) ?_
        refine lv_iadd hx hb dX12_again_43 ?_
        refine lv_imul hx hb dX12_again_44 ?_
        refine lv_iload_n hx hb dX12_again_45 rfl (lv_at hl 2 rfl) ?_
        refine lv_iadd hx hb dX12_again_46 ?_
        have hi47 := if_no hf
        rw [if_neg hi47] at hf
        refine va_iald hx hb hK hP 1 1 rfl rfl hi47 dX12_again_47 ?_
        have hi48 := if_no hf
        rw [if_neg hi48] at hf
        refine va_iast hx hb hK hP hD hS 1 1 rfl rfl hi48 dX12_again_48 (fun H locs hP hD hS => ?_)
        obtain ⟨M_h_48, eM_h_48, hf⟩ := wr_some hf
        have hP : va_P (dC, dI) vwCl (wX12 cyB cyI cyZ cyO h h_all h_has h_read h_test h_rest h_gets h_waits h_way h_good h_left M_h_48) H := by rw [eM_h_48]; exact hP
        have hD : va_D A (wX12 cyB cyI cyZ cyO h h_all h_has h_read h_test h_rest h_gets h_waits h_way h_good h_left M_h_48) := by rw [eM_h_48]; exact hD
        refine lv_iinc (v := (x2 + (1 : Int32))) (lv' := [(2, .int (x2 + (1 : Int32))), (0, .ref h), (1, .int x1)]) hx hb dX12_again_49 hl (k := 2) rfl rfl (by decide) rfl (fun ls hl => ?_)
        refine lv_goto (tgt := 22) hx hb dX12_again_52 (by decide) ?_
        exact ih M_h_48 x1 (x2 + (1 : Int32)) _ _ ls hf hP hD hS (lv_sub hl [1, 2, 0] rfl)
  rw [f_X12_again] at hf
  refine lv_iload_n hx hb dX12_again_0 rfl (lv_at hl 1 rfl) ?_
  refine lv_iconst (v := (0 : Int32)) hx hb dX12_again_1 (by decide) ?_
  refine lv_iconst (v := (2 : Int32)) hx hb dX12_again_2 (by decide) ?_
  obtain ⟨r3, h3, hf⟩ := bd1_some hf
  have hPc := hP.sub (ws' := ([] : va_W)) [] rfl
  refine ro_calli (va_runS (As := [.int p1, .int (0 : Int32), .int (2 : Int32)]) (rest := []) ⟨hx, hb, hml, hown, hts⟩ (c_X12_isIn l dC dI cyB cyI cyZ cyO p1 (0 : Int32) (2 : Int32) r3 h3) (va_cwS 3 hts gX12_again_X12_isIn rfl rfl rfl (by decide +kernel) ⟨Nat.le_of_ble_eq_true rfl, Nat.le_of_ble_eq_true rfl⟩) ⟨PR.blind, fun U hU hW => ⟨rfl, by rw [hU]; exact hPc, hCx.warm hW⟩⟩ rfl rfl hl.1 rfl (lv_room (Nat.le_of_ble_eq_true rfl)) dX12_again_3 ⟨Nat.zero_le _, Nat.zero_le _⟩) ?_
  refine lv_if_eq (tgt := 18) hx hb dX12_again_6 (by decide) (fun hc6 => ?_) (fun hc6 => ?_)
  · rw [if_pos hc6] at hf
    refine lv_iconst (v := (0 : Int32)) hx hb dX12_again_18 (by decide) ?_
    obtain ⟨hq0, hq1⟩ := pj2 hf
    subst hq0
    subst hq1
    exact W.zret (v := (0 : Int32)) hx hb hr rfl (fun t ht hW => ⟨rfl, by rw [ht]; exact hP, hD, hS.F ht⟩) hS.2.2 dX12_again_19
  · rw [if_neg hc6] at hf
    refine lv_aload_n hx hb dX12_again_9 rfl (lv_at hl 0 rfl) ?_
    refine va_get (D := (dC, dI)) (ci := 12) (v := .ref h_has) (C := RX12) (T := TX12) (N := 21) hx hb hts hin12 hown hK hP 0 rfl rfl 1 (by decide) kf13 (fun _ h9 => h9) rfl dX12_again_10 ?_
    refine lv_iload_n hx hb dX12_again_13 rfl (lv_at hl 1 rfl) ?_
    have hi14 := if_no hf
    rw [if_neg hi14] at hf
    refine va_zald hx hb hK hP 2 2 rfl rfl hi14 dX12_again_14 ?_
    refine lv_if_ne (tgt := 20) hx hb dX12_again_15 (by decide) (fun hc15 => ?_) (fun hc15 => ?_)
    · rw [if_neg hc15] at hf
      refine lv_iconst (v := (0 : Int32)) hx hb dX12_again_20 (by decide) ?_
      refine lv_istore_n (lv' := [(2, .int (0 : Int32)), (0, .ref h), (1, .int p1)]) hx hb dX12_again_21 rfl hl (by decide) rfl (fun ls hl => ?_)
      exact L22 FU M_h p1 (0 : Int32) _ _ ls hf hP hD hS (lv_sub hl [1, 2, 0] rfl)
    · rw [if_pos hc15] at hf
      refine lv_iconst (v := (0 : Int32)) hx hb dX12_again_18 (by decide) ?_
      obtain ⟨hq0, hq1⟩ := pj2 hf
      subst hq0
      subst hq1
      exact W.zret (v := (0 : Int32)) hx hb hr rfl (fun t ht hW => ⟨rfl, by rw [ht]; exact hP, hD, hS.F ht⟩) hS.2.2 dX12_again_19
