set_option maxHeartbeats 4000000 in
set_option maxRecDepth 100000 in
theorem c_X12_isCitizen (l : Launch) (dC : Nat → ClassId) (dI : Nat → Nat → Nat) (cyB cyI cyZ cyO : ClassId) (h h_all h_has h_read h_test h_rest h_gets h_waits h_way h_good h_left : Nat) (M_h : Mem) (p1 : Int32) (r : Int32) (hf : f_X12_isCitizen M_h p1 = some r) : Met l yX12_isCitizen wsX12_isCitizen ({ frames := 1, cells := 0, slots := 0, locals := 22 } : Room) (PR dC dI cyB cyI cyZ cyO ([.ref h, .int p1] : List Value) (wX12 cyB cyI cyZ cyO h h_all h_has h_read h_test h_rest h_gets h_waits h_way h_good h_left M_h)) (QR (some (.int r))) 0 0 (fun _ => False) := by
  refine Met.ofW (cc := cX12_isCitizen) (maxL := 2) (ret := (some .boolean)) (by decide) rfl ?_
  intro p e s m args below meth c s₁ B hml hv
  obtain ⟨rfl, hP, hCx⟩ := hv
  have hK := hCx.1
  have hN := hCx.2
  have hx := B.exec
  have hb := B.bytes
  have hr := B.returns
  have hts := atoms_spec (ws := wsX12_isCitizen) B.pre
  have hown : s.vm.findClass RX12 = some m.cls := findClass_of_methodNamed B.named
  have hlocks := B.notSynchronized
  have hin12 : ∀ w ∈ u_ws RX12 TX12 21, w ∈ wsX12_isCitizen := fun w h => List.mem_cons_of_mem _ (List.mem_append_right _ h)
  have kf7 := hts (.fieldLink RX12 7 "HoldSlipsModel" "all" "[I") (by decide +kernel)
  have hl := lv_entry ([.ref h, .int p1] : List Value) (n := 2) (Nat.le_of_ble_eq_true rfl)
  rw [lg_entry_eq]
  generalize (lg_sl ([.ref h, .int p1] : List Value) ++ List.replicate (2 - (lg_sl ([.ref h, .int p1] : List Value)).length) Slot.unset).toArray = ls at hl ⊢
  have hl : lv_has ls 2 [(0, .ref h), (1, .int p1)] := hl
  rw [f_X12_isCitizen] at hf
  refine lv_iload_n hx hb dX12_isCitizen_0 rfl (lv_at hl 1 rfl) ?_
  refine lv_iconst (v := (0 : Int32)) hx hb dX12_isCitizen_1 (by decide) ?_
  refine lv_aload_n hx hb dX12_isCitizen_2 rfl (lv_at hl 0 rfl) ?_
  refine va_get (D := (dC, dI)) (ci := 12) (v := .ref h_all) (C := RX12) (T := TX12) (N := 21) hx hb hts hin12 hown hK hP 0 rfl rfl 0 (by decide) kf7 (fun _ h9 => h9) rfl dX12_isCitizen_3 ?_
  refine lv_iconst (v := (3 : Int32)) hx hb dX12_isCitizen_6 (by decide) ?_
  refine va_iald hx hb hK hP 1 1 rfl rfl (show ¬ ((3 : Int32) < 0 ∨ 11160 ≤ ((3 : Int32)).toNatClampNeg) by decide) dX12_isCitizen_7 ?_
  refine lv_iconst (v := (1 : Int32)) hx hb dX12_isCitizen_8 (by decide) ?_
  refine lv_isub hx hb dX12_isCitizen_9 ?_
  obtain ⟨r10, h10, hf⟩ := bd1_some hf
  have hPc := hP.sub (ws' := ([] : va_W)) [] rfl
  refine ro_calli (va_runS (As := [.int p1, .int (0 : Int32), .int ((M_h 0 ((3 : Int32)).toNatClampNeg) - (1 : Int32))]) (rest := []) ⟨hx, hb, hml, hown, hts⟩ (c_X12_isIn l dC dI cyB cyI cyZ cyO p1 (0 : Int32) ((M_h 0 ((3 : Int32)).toNatClampNeg) - (1 : Int32)) r10 h10) (va_cwS 3 hts gX12_isCitizen_X12_isIn rfl rfl rfl (by decide +kernel) ⟨Nat.le_of_ble_eq_true rfl, Nat.le_of_ble_eq_true rfl⟩) ⟨PR.blind, fun U hU hW => ⟨rfl, by rw [hU]; exact hPc, hCx.warm hW⟩⟩ rfl rfl hl.1 rfl (lv_room (Nat.le_of_ble_eq_true rfl)) dX12_isCitizen_10 ⟨Nat.zero_le _, Nat.zero_le _⟩) ?_
  have hb13 := Decidable.not_not.mp (if_no hf)
  rw [if_neg (not_not_intro hb13)] at hf
  have hq := Option.some.inj hf
  subst hq
  exact W.zret (v := r10) hx hb hr (nar_b hb13) (fun t ht hW => ⟨rfl, ht⟩) (fun q h => by cases h) dX12_isCitizen_13
set_option maxHeartbeats 4000000 in
set_option maxRecDepth 100000 in
theorem c_X12_of (l : Launch) (dC : Nat → ClassId) (dI : Nat → Nat → Nat) (cyB cyI cyZ cyO : ClassId) (h h_all h_has h_read h_test h_rest h_gets h_waits h_way h_good h_left : Nat) (M_h : Mem) (p1 : Int32) (p2 : Int32) (r : Int32) (hf : f_X12_of M_h p1 p2 = some r) : Met l yX12_of wsX12_of ({ frames := 0, cells := 0, slots := 0, locals := 0 } : Room) (PR dC dI cyB cyI cyZ cyO ([.ref h, .int p1, .int p2] : List Value) (wX12 cyB cyI cyZ cyO h h_all h_has h_read h_test h_rest h_gets h_waits h_way h_good h_left M_h)) (QR (some (.int r))) 0 0 (fun _ => False) := by
  refine Met.ofW (cc := cX12_of) (maxL := 3) (ret := (some .int)) (by decide) rfl ?_
  intro p e s m args below meth c s₁ B hml hv
  obtain ⟨rfl, hP, hCx⟩ := hv
  have hK := hCx.1
  have hN := hCx.2
  have hx := B.exec
  have hb := B.bytes
  have hr := B.returns
  have hts := atoms_spec (ws := wsX12_of) B.pre
  have hown : s.vm.findClass RX12 = some m.cls := findClass_of_methodNamed B.named
  have hlocks := B.notSynchronized
  have hin12 : ∀ w ∈ u_ws RX12 TX12 21, w ∈ wsX12_of := fun w h => List.mem_cons_of_mem _ (List.mem_append_right _ h)
  have kf7 := hts (.fieldLink RX12 7 "HoldSlipsModel" "all" "[I") (by decide +kernel)
  have hl := lv_entry ([.ref h, .int p1, .int p2] : List Value) (n := 3) (Nat.le_of_ble_eq_true rfl)
  rw [lg_entry_eq]
  generalize (lg_sl ([.ref h, .int p1, .int p2] : List Value) ++ List.replicate (3 - (lg_sl ([.ref h, .int p1, .int p2] : List Value)).length) Slot.unset).toArray = ls at hl ⊢
  have hl : lv_has ls 3 [(0, .ref h), (1, .int p1), (2, .int p2)] := hl
  rw [f_X12_of] at hf
  refine lv_aload_n hx hb dX12_of_0 rfl (lv_at hl 0 rfl) ?_
  refine va_get (D := (dC, dI)) (ci := 12) (v := .ref h_all) (C := RX12) (T := TX12) (N := 21) hx hb hts hin12 hown hK hP 0 rfl rfl 0 (by decide) kf7 (fun _ h9 => h9) rfl dX12_of_1 ?_
  refine lv_bipush (v := (20 : Int32)) hx hb dX12_of_4 (by decide) ?_
  refine lv_bipush (v := (8 : Int32)) hx hb dX12_of_6 (by decide) ?_
  refine lv_iload_n hx hb dX12_of_8 rfl (lv_at hl 1 rfl) ?_
  refine lv_imul hx hb dX12_of_9 ?_
  refine lv_iadd hx hb dX12_of_10 ?_
  refine lv_iload_n hx hb dX12_of_11 rfl (lv_at hl 2 rfl) ?_
  refine lv_iadd hx hb dX12_of_12 ?_
  have hi13 := if_no hf
  rw [if_neg hi13] at hf
  refine va_iald hx hb hK hP 1 1 rfl rfl hi13 dX12_of_13 ?_
  have hq := Option.some.inj hf
  subst hq
  exact W.iret (v := (M_h 0 ((((20 : Int32) + ((8 : Int32) * p1)) + p2)).toNatClampNeg)) hx hb hr (fun t ht hW => ⟨rfl, ht⟩) (fun q h => by cases h) dX12_of_14
set_option maxHeartbeats 4000000 in
set_option maxRecDepth 100000 in
theorem c_X12_adds (l : Launch) (dC : Nat → ClassId) (dI : Nat → Nat → Nat) (cyB cyI cyZ cyO : ClassId) (h h_all h_has h_read h_test h_rest h_gets h_waits h_way h_good h_left : Nat) (sz : Nat) (M_h : Mem) (p1 : Int32) (p2 : Int32) (p3 : Int32) (R_h : Mem) (hf : f_X12_adds M_h p1 p2 p3 = some R_h) : Met l yX12_adds wsX12_adds ({ frames := 0, cells := 0, slots := 0, locals := 0 } : Room) (PW dC dI cyB cyI cyZ cyO ([.ref h, .int p1, .int p2, .int p3] : List Value) (wX12 cyB cyI cyZ cyO h h_all h_has h_read h_test h_rest h_gets h_waits h_way h_good h_left M_h) sz) (QW dC dI none (wX12 cyB cyI cyZ cyO h h_all h_has h_read h_test h_rest h_gets h_waits h_way h_good h_left R_h) (va_A (wX12 cyB cyI cyZ cyO h h_all h_has h_read h_test h_rest h_gets h_waits h_way h_good h_left M_h) sz)) 0 0 (va_A (wX12 cyB cyI cyZ cyO h h_all h_has h_read h_test h_rest h_gets h_waits h_way h_good h_left M_h) sz) := by
  refine Met.ofW (cc := cX12_adds) (maxL := 4) (ret := none) (by decide) rfl ?_
  intro p e s m args below meth c s₁ B hml hv
  obtain ⟨rfl, hsz, hP, hCx, hD0⟩ := hv
  have hK := hCx.1
  have hN := hCx.2
  have hx := B.exec
  have hb := B.bytes
  have hr := B.returns
  have hts := atoms_spec (ws := wsX12_adds) B.pre
  have hown : s.vm.findClass RX12 = some m.cls := findClass_of_methodNamed B.named
  have hlocks := B.notSynchronized
  have hin12 : ∀ w ∈ u_ws RX12 TX12 21, w ∈ wsX12_adds := fun w h => List.mem_cons_of_mem _ (List.mem_append_right _ h)
  have kf7 := hts (.fieldLink RX12 7 "HoldSlipsModel" "all" "[I") (by decide +kernel)
  subst hsz
  have hD := hD0.self (sz := s.heap.size)
  generalize hAe : va_A (wX12 cyB cyI cyZ cyO h h_all h_has h_read h_test h_rest h_gets h_waits h_way h_good h_left M_h) s.heap.size = A at hD ⊢
  have hA : ∀ q : Nat, s.heap.size ≤ q → A q := fun q h => by rw [← hAe]; exact Or.inr h
  have hS : va_S A s.heap s.heap [] := va_S.rf
  have hl := lv_entry ([.ref h, .int p1, .int p2, .int p3] : List Value) (n := 4) (Nat.le_of_ble_eq_true rfl)
  rw [lg_entry_eq]
  generalize (lg_sl ([.ref h, .int p1, .int p2, .int p3] : List Value) ++ List.replicate (4 - (lg_sl ([.ref h, .int p1, .int p2, .int p3] : List Value)).length) Slot.unset).toArray = ls at hl ⊢
  have hl : lv_has ls 4 [(0, .ref h), (1, .int p1), (2, .int p2), (3, .int p3)] := hl
  rw [f_X12_adds] at hf
  refine lv_aload_n hx hb dX12_adds_0 rfl (lv_at hl 0 rfl) ?_
  refine va_get (D := (dC, dI)) (ci := 12) (v := .ref h_all) (C := RX12) (T := TX12) (N := 21) hx hb hts hin12 hown hK hP 0 rfl rfl 0 (by decide) kf7 (fun _ h9 => h9) rfl dX12_adds_1 ?_
  refine lv_bipush (v := (20 : Int32)) hx hb dX12_adds_4 (by decide) ?_
  refine lv_bipush (v := (8 : Int32)) hx hb dX12_adds_6 (by decide) ?_
  refine lv_iload_n hx hb dX12_adds_8 rfl (lv_at hl 1 rfl) ?_
  refine lv_imul hx hb dX12_adds_9 ?_
  refine lv_iadd hx hb dX12_adds_10 ?_
  refine lv_iload_n hx hb dX12_adds_11 rfl (lv_at hl 2 rfl) ?_
  refine lv_iadd hx hb dX12_adds_12 ?_
  refine lv_dup2_11 hx hb dX12_adds_13 rfl rfl ?_
  have hi14 := if_no hf
  rw [if_neg hi14] at hf
  refine va_iald hx hb hK hP 1 1 rfl rfl hi14 dX12_adds_14 ?_
  refine lv_iload_n hx hb dX12_adds_15 rfl (lv_at hl 3 rfl) ?_
  refine lv_iadd hx hb dX12_adds_16 ?_
  refine va_iast hx hb hK hP hD hS 1 1 rfl rfl hi14 dX12_adds_17 (fun H locs hP hD hS => ?_)
  obtain ⟨M_h_17, eM_h_17, hf⟩ := wr_some hf
  have hP : va_P (dC, dI) vwCl (wX12 cyB cyI cyZ cyO h h_all h_has h_read h_test h_rest h_gets h_waits h_way h_good h_left M_h_17) H := by rw [eM_h_17]; exact hP
  have hD : va_D A (wX12 cyB cyI cyZ cyO h h_all h_has h_read h_test h_rest h_gets h_waits h_way h_good h_left M_h_17) := by rw [eM_h_17]; exact hD
  have hq := Option.some.inj hf
  subst hq
  exact W.vret hx hb hr (fun t ht hW => ⟨rfl, by rw [ht]; exact hP, hD, hS.F ht⟩) hS.2.2 dX12_adds_18
set_option maxHeartbeats 4000000 in
set_option maxRecDepth 100000 in
theorem c_X12_citizen (l : Launch) (dC : Nat → ClassId) (dI : Nat → Nat → Nat) (cyB cyI cyZ cyO : ClassId) (h h_all h_has h_read h_test h_rest h_gets h_waits h_way h_good h_left : Nat) (sz : Nat) (M_h : Mem) (p1 : Int32) (p2 : Int32) (r : Int32) (R_h : Mem) (hf : f_X12_citizen M_h p1 p2 = some (r, R_h)) : Met l yX12_citizen wsX12_citizen ({ frames := 1, cells := 0, slots := 0, locals := 22 } : Room) (PW dC dI cyB cyI cyZ cyO ([.ref h, .int p1, .int p2] : List Value) (wX12 cyB cyI cyZ cyO h h_all h_has h_read h_test h_rest h_gets h_waits h_way h_good h_left M_h) sz) (QW dC dI (some (.int r)) (wX12 cyB cyI cyZ cyO h h_all h_has h_read h_test h_rest h_gets h_waits h_way h_good h_left R_h) (va_A (wX12 cyB cyI cyZ cyO h h_all h_has h_read h_test h_rest h_gets h_waits h_way h_good h_left M_h) sz)) 0 0 (va_A (wX12 cyB cyI cyZ cyO h h_all h_has h_read h_test h_rest h_gets h_waits h_way h_good h_left M_h) sz) := by
  refine Met.ofW (cc := cX12_citizen) (maxL := 5) (ret := (some .int)) (by decide) rfl ?_
  intro p e s m args below meth c s₁ B hml hv
  obtain ⟨rfl, hsz, hP, hCx, hD0⟩ := hv
  have hK := hCx.1
  have hN := hCx.2
  have hx := B.exec
  have hb := B.bytes
  have hr := B.returns
  have hts := atoms_spec (ws := wsX12_citizen) B.pre
  have hown : s.vm.findClass RX12 = some m.cls := findClass_of_methodNamed B.named
  have hlocks := B.notSynchronized
  have hin12 : ∀ w ∈ u_ws RX12 TX12 21, w ∈ wsX12_citizen := fun w h => List.mem_cons_of_mem _ (List.mem_append_right _ h)
  have kf7 := hts (.fieldLink RX12 7 "HoldSlipsModel" "all" "[I") (by decide +kernel)
  subst hsz
  have hD := hD0.self (sz := s.heap.size)
  generalize hAe : va_A (wX12 cyB cyI cyZ cyO h h_all h_has h_read h_test h_rest h_gets h_waits h_way h_good h_left M_h) s.heap.size = A at hD ⊢
  have hA : ∀ q : Nat, s.heap.size ≤ q → A q := fun q h => by rw [← hAe]; exact Or.inr h
  have hS : va_S A s.heap s.heap [] := va_S.rf
  have hl := lv_entry ([.ref h, .int p1, .int p2] : List Value) (n := 5) (Nat.le_of_ble_eq_true rfl)
  rw [lg_entry_eq]
  generalize (lg_sl ([.ref h, .int p1, .int p2] : List Value) ++ List.replicate (5 - (lg_sl ([.ref h, .int p1, .int p2] : List Value)).length) Slot.unset).toArray = ls at hl ⊢
  have hl : lv_has ls 5 [(0, .ref h), (1, .int p1), (2, .int p2)] := hl
  have L43 : ∀ (n : Nat), ∀ (M_h : Mem) (x1 : Int32) (x2 : Int32) (x3 : Int32) (x4 : Int32) (H : Heap) (locs : List Loc) (ls : Array Slot), f_X12_citizen_L43 n M_h x1 x2 x3 x4 = some (r, R_h) → va_P (dC, dI) vwCl (wX12 cyB cyI cyZ cyO h h_all h_has h_read h_test h_rest h_gets h_waits h_way h_good h_left M_h) H → va_D A (wX12 cyB cyI cyZ cyO h h_all h_has h_read h_test h_rest h_gets h_waits h_way h_good h_left M_h) → va_S A s.heap H locs → lv_has ls 5 [(0, .ref h), (1, .int x1), (2, .int x2), (3, .int x3), (4, .int x4)] → W p l e (headSpec wsX12_citizen ({ frames := 1, cells := 0, slots := 0, locals := 22 } : Room)).room s m ([.ref h, .int p1, .int p2] : List Value).toArray below meth c H locs 0 0 (MQ below (QW dC dI (some (.int r)) (wX12 cyB cyI cyZ cyO h h_all h_has h_read h_test h_rest h_gets h_waits h_way h_good h_left R_h) A) ([.ref h, .int p1, .int p2] : List Value).toArray s 0 0 A) (F0 m 43 ls []) := by
    intro n
    induction n with
    | zero => intro M_h x1 x2 x3 x4 H locs ls hf hP hD hS hl; rw [f_X12_citizen_L43] at hf; cases hf
    | succ n ih =>
      intro M_h x1 x2 x3 x4 H locs ls hf hP hD hS hl
      rw [f_X12_citizen_L43] at hf
      refine lv_iload hx hb dX12_citizen_43 (lv_at hl 4 rfl) ?_
      refine lv_bipush (v := (8 : Int32)) hx hb dX12_citizen_45 (by decide) ?_
      refine lv_icmp_ge (tgt := 72) hx hb dX12_citizen_47 (by decide) (fun hc47 => ?_) (fun hc47 => ?_)
      · rw [if_pos hc47] at hf
        refine lv_aload_n hx hb dX12_citizen_72 rfl (lv_at hl 0 rfl) ?_
        refine va_get (D := (dC, dI)) (ci := 12) (v := .ref h_all) (C := RX12) (T := TX12) (N := 21) hx hb hts hin12 hown hK hP 0 rfl rfl 0 (by decide) kf7 (fun _ h9 => h9) rfl dX12_citizen_73 ?_
        refine lv_bipush (v := (20 : Int32)) hx hb dX12_citizen_76 (by decide) ?_
        refine lv_bipush (v := (8 : Int32)) hx hb dX12_citizen_78 (by decide) ?_
        refine lv_iload_n hx hb dX12_citizen_80 rfl (lv_at hl 3 rfl) ?_
        refine lv_imul hx hb dX12_citizen_81 ?_
        refine lv_iadd hx hb dX12_citizen_82 ?_
        refine lv_iload_n hx hb dX12_citizen_83 rfl (lv_at hl 1 rfl) ?_
        have hi84 := if_no hf
        rw [if_neg hi84] at hf
        refine va_iast hx hb hK hP hD hS 1 1 rfl rfl hi84 dX12_citizen_84 (fun H locs hP hD hS => ?_)
        obtain ⟨M_h_84, eM_h_84, hf⟩ := wr_some hf
        have hP : va_P (dC, dI) vwCl (wX12 cyB cyI cyZ cyO h h_all h_has h_read h_test h_rest h_gets h_waits h_way h_good h_left M_h_84) H := by rw [eM_h_84]; exact hP
        have hD : va_D A (wX12 cyB cyI cyZ cyO h h_all h_has h_read h_test h_rest h_gets h_waits h_way h_good h_left M_h_84) := by rw [eM_h_84]; exact hD
        refine lv_aload_n hx hb dX12_citizen_85 rfl (lv_at hl 0 rfl) ?_
        refine va_get (D := (dC, dI)) (ci := 12) (v := .ref h_all) (C := RX12) (T := TX12) (N := 21) hx hb hts hin12 hown hK hP 0 rfl rfl 0 (by decide) kf7 (fun _ h9 => h9) rfl dX12_citizen_86 ?_
        refine lv_bipush (v := (20 : Int32)) hx hb dX12_citizen_89 (by decide) ?_
        refine lv_bipush (v := (8 : Int32)) hx hb dX12_citizen_91 (by decide) ?_
        refine lv_iload_n hx hb dX12_citizen_93 rfl (lv_at hl 3 rfl) ?_
        refine lv_imul hx hb dX12_citizen_94 ?_
        refine lv_iadd hx hb dX12_citizen_95 ?_
        refine lv_iconst (v := (1 : Int32)) hx hb dX12_citizen_96 (by decide) ?_
        refine lv_iadd hx hb dX12_citizen_97 ?_
        refine lv_iload_n hx hb dX12_citizen_98 rfl (lv_at hl 2 rfl) ?_
        refine lv_if_eq (tgt := 106) hx hb dX12_citizen_99 (by decide) (fun hc99 => ?_) (fun hc99 => ?_)
        · rw [if_pos hc99] at hf
          refine lv_iconst (v := (0 : Int32)) hx hb dX12_citizen_106 (by decide) ?_
          have hi107 := if_no hf
          rw [if_neg hi107] at hf
          refine va_iast hx hb hK hP hD hS 1 1 rfl rfl hi107 dX12_citizen_107 (fun H locs hP hD hS => ?_)
          obtain ⟨M_h_107, eM_h_107, hf⟩ := wr_some hf
          have hP : va_P (dC, dI) vwCl (wX12 cyB cyI cyZ cyO h h_all h_has h_read h_test h_rest h_gets h_waits h_way h_good h_left M_h_107) H := by rw [eM_h_107]; exact hP
          have hD : va_D A (wX12 cyB cyI cyZ cyO h h_all h_has h_read h_test h_rest h_gets h_waits h_way h_good h_left M_h_107) := by rw [eM_h_107]; exact hD
          refine lv_iload_n hx hb dX12_citizen_108 rfl (lv_at hl 3 rfl) ?_
          obtain ⟨hq0, hq1⟩ := pj2 hf
          subst hq0
          subst hq1
          exact W.iret (v := x3) hx hb hr (fun t ht hW => ⟨rfl, by rw [ht]; exact hP, hD, hS.F ht⟩) hS.2.2 dX12_citizen_109
        · rw [if_neg hc99] at hf
          refine lv_iconst (v := (1 : Int32)) hx hb dX12_citizen_102 (by decide) ?_
          refine lv_goto (tgt := 107) hx hb dX12_citizen_103 (by decide) ?_
          have hi107 := if_no hf
          rw [if_neg hi107] at hf
          refine va_iast hx hb hK hP hD hS 1 1 rfl rfl hi107 dX12_citizen_107 (fun H locs hP hD hS => ?_)
          obtain ⟨M_h_107, eM_h_107, hf⟩ := wr_some hf
          have hP : va_P (dC, dI) vwCl (wX12 cyB cyI cyZ cyO h h_all h_has h_read h_test h_rest h_gets h_waits h_way h_good h_left M_h_107) H := by rw [eM_h_107]; exact hP
          have hD : va_D A (wX12 cyB cyI cyZ cyO h h_all h_has h_read h_test h_rest h_gets h_waits h_way h_good h_left M_h_107) := by rw [eM_h_107]; exact hD
          refine lv_iload_n hx hb dX12_citizen_108 rfl (lv_at hl 3 rfl) ?_
          obtain ⟨hq0, hq1⟩ := pj2 hf
          subst hq0
          subst hq1
          exact W.iret (v := x3) hx hb hr (fun t ht hW => ⟨rfl, by rw [ht]; exact hP, hD, hS.F ht⟩) hS.2.2 dX12_citizen_109
      · rw [if_neg hc47] at hf
        refine lv_aload_n hx hb dX12_citizen_50 rfl (lv_at hl 0 rfl) ?_
        refine va_get (D := (dC, dI)) (ci := 12) (v := .ref h_all) (C := RX12) (T := TX12) (N := 21) hx hb hts hin12 hown hK hP 0 rfl rfl 0 (by decide) kf7 (fun _ h9 => h9) rfl dX12_citizen_51 ?_
        refine lv_bipush (v := (20 : Int32)) hx hb dX12_citizen_54 (by decide) ?_
        refine lv_bipush (v := (8 : Int32)) hx hb dX12_citizen_56 (by decide) ?_
        refine lv_iload_n hx hb dX12_citizen_58 rfl (lv_at hl 3 rfl) ?_
        refine lv_imul hx hb dX12_citizen_59 ?_
        refine lv_iadd hx hb dX12_citizen_60 ?_
        refine lv_iload hx hb dX12_citizen_61 (lv_at hl 4 rfl) ?_
        refine lv_iadd hx hb dX12_citizen_63 ?_
        refine lv_iconst (v := (0 : Int32)) hx hb dX12_citizen_64 (by decide) ?_
        have hi65 := if_no hf
        rw [if_neg hi65] at hf
        refine va_iast hx hb hK hP hD hS 1 1 rfl rfl hi65 dX12_citizen_65 (fun H locs hP hD hS => ?_)
        obtain ⟨M_h_65, eM_h_65, hf⟩ := wr_some hf
        have hP : va_P (dC, dI) vwCl (wX12 cyB cyI cyZ cyO h h_all h_has h_read h_test h_rest h_gets h_waits h_way h_good h_left M_h_65) H := by rw [eM_h_65]; exact hP
        have hD : va_D A (wX12 cyB cyI cyZ cyO h h_all h_has h_read h_test h_rest h_gets h_waits h_way h_good h_left M_h_65) := by rw [eM_h_65]; exact hD
        refine lv_iinc (v := (x4 + (1 : Int32))) (lv' := [(4, .int (x4 + (1 : Int32))), (0, .ref h), (1, .int x1), (2, .int x2), (3, .int x3)]) hx hb dX12_citizen_66 hl (k := 4) rfl rfl (by decide) rfl (fun ls hl => ?_)
        refine lv_goto (tgt := 43) hx hb dX12_citizen_69 (by decide) ?_
        exact ih M_h_65 x1 x2 x3 (x4 + (1 : Int32)) _ _ ls hf hP hD hS (lv_sub hl [1, 2, 3, 4, 0] rfl)
  rw [f_X12_citizen] at hf
  refine lv_aload_n hx hb dX12_citizen_0 rfl (lv_at hl 0 rfl) ?_
  refine va_get (D := (dC, dI)) (ci := 12) (v := .ref h_all) (C := RX12) (T := TX12) (N := 21) hx hb hts hin12 hown hK hP 0 rfl rfl 0 (by decide) kf7 (fun _ h9 => h9) rfl dX12_citizen_1 ?_
  refine lv_iconst (v := (3 : Int32)) hx hb dX12_citizen_4 (by decide) ?_
  refine va_iald hx hb hK hP 1 1 rfl rfl (show ¬ ((3 : Int32) < 0 ∨ 11160 ≤ ((3 : Int32)).toNatClampNeg) by decide) dX12_citizen_5 ?_
  refine lv_bipush (v := (8 : Int32)) hx hb dX12_citizen_6 (by decide) ?_
  refine lv_icmp_eq (tgt := 21) hx hb dX12_citizen_8 (by decide) (fun hc8 => ?_) (fun hc8 => ?_)
  · rw [if_pos hc8] at hf
    refine lv_iconst (v := (-1 : Int32)) hx hb dX12_citizen_21 (by decide) ?_
    obtain ⟨hq0, hq1⟩ := pj2 hf
    subst hq0
    subst hq1
    exact W.iret (v := (-1 : Int32)) hx hb hr (fun t ht hW => ⟨rfl, by rw [ht]; exact hP, hD, hS.F ht⟩) hS.2.2 dX12_citizen_22
  · rw [if_neg hc8] at hf
    refine lv_iload_n hx hb dX12_citizen_11 rfl (lv_at hl 1 rfl) ?_
    refine lv_iconst (v := (0 : Int32)) hx hb dX12_citizen_12 (by decide) ?_
    refine lv_bipush (v := (9 : Int32)) hx hb dX12_citizen_13 (by decide) ?_
    obtain ⟨r15, h15, hf⟩ := bd1_some hf
    have hPc := hP.sub (ws' := ([] : va_W)) [] rfl
    refine ro_calli (va_runS (As := [.int p1, .int (0 : Int32), .int (9 : Int32)]) (rest := []) ⟨hx, hb, hml, hown, hts⟩ (c_X12_isIn l dC dI cyB cyI cyZ cyO p1 (0 : Int32) (9 : Int32) r15 h15) (va_cwS 3 hts gX12_citizen_X12_isIn rfl rfl rfl (by decide +kernel) ⟨Nat.le_of_ble_eq_true rfl, Nat.le_of_ble_eq_true rfl⟩) ⟨PR.blind, fun U hU hW => ⟨rfl, by rw [hU]; exact hPc, hCx.warm hW⟩⟩ rfl rfl hl.1 rfl (lv_room (Nat.le_of_ble_eq_true rfl)) dX12_citizen_15 ⟨Nat.zero_le _, Nat.zero_le _⟩) ?_
    refine lv_if_ne (tgt := 23) hx hb dX12_citizen_18 (by decide) (fun hc18 => ?_) (fun hc18 => ?_)
    · rw [if_neg hc18] at hf
      refine lv_aload_n hx hb dX12_citizen_23 rfl (lv_at hl 0 rfl) ?_
      refine va_get (D := (dC, dI)) (ci := 12) (v := .ref h_all) (C := RX12) (T := TX12) (N := 21) hx hb hts hin12 hown hK hP 0 rfl rfl 0 (by decide) kf7 (fun _ h9 => h9) rfl dX12_citizen_24 ?_
      refine lv_iconst (v := (3 : Int32)) hx hb dX12_citizen_27 (by decide) ?_
      refine va_iald hx hb hK hP 1 1 rfl rfl (show ¬ ((3 : Int32) < 0 ∨ 11160 ≤ ((3 : Int32)).toNatClampNeg) by decide) dX12_citizen_28 ?_
      refine lv_istore_n (lv' := [(3, .int (M_h 0 ((3 : Int32)).toNatClampNeg)), (0, .ref h), (1, .int p1), (2, .int p2)]) hx hb dX12_citizen_29 rfl hl (by decide) rfl (fun ls hl => ?_)
      refine lv_aload_n hx hb dX12_citizen_30 rfl (lv_at hl 1 rfl) ?_
      refine va_get (D := (dC, dI)) (ci := 12) (v := .ref h_all) (C := RX12) (T := TX12) (N := 21) hx hb hts hin12 hown hK hP 0 rfl rfl 0 (by decide) kf7 (fun _ h9 => h9) rfl dX12_citizen_31 ?_
      refine lv_iconst (v := (3 : Int32)) hx hb dX12_citizen_34 (by decide) ?_
      refine lv_dup2_11 hx hb dX12_citizen_35 rfl rfl ?_
      refine va_iald hx hb hK hP 1 1 rfl rfl (show ¬ ((3 : Int32) < 0 ∨ 11160 ≤ ((3 : Int32)).toNatClampNeg) by decide) dX12_citizen_36 ?_
      refine lv_iconst (v := (1 : Int32)) hx hb dX12_citizen_37 (by decide) ?_
      refine lv_iadd hx hb dX12_citizen_38 ?_
      refine va_iast hx hb hK hP hD hS 1 1 rfl rfl (show ¬ ((3 : Int32) < 0 ∨ 11160 ≤ ((3 : Int32)).toNatClampNeg) by decide) dX12_citizen_39 (fun H locs hP hD hS => ?_)
      obtain ⟨M_h_39, eM_h_39, hf⟩ := wr_some hf
      have hP : va_P (dC, dI) vwCl (wX12 cyB cyI cyZ cyO h h_all h_has h_read h_test h_rest h_gets h_waits h_way h_good h_left M_h_39) H := by rw [eM_h_39]; exact hP
      have hD : va_D A (wX12 cyB cyI cyZ cyO h h_all h_has h_read h_test h_rest h_gets h_waits h_way h_good h_left M_h_39) := by rw [eM_h_39]; exact hD
      refine lv_iconst (v := (0 : Int32)) hx hb dX12_citizen_40 (by decide) ?_
      refine lv_istore (lv' := [(4, .int (0 : Int32)), (3, .int (M_h 0 ((3 : Int32)).toNatClampNeg)), (0, .ref h), (1, .int p1), (2, .int p2)]) hx hb dX12_citizen_41 hl (by decide) rfl (fun ls hl => ?_)
      exact L43 FU M_h_39 p1 p2 (M_h 0 ((3 : Int32)).toNatClampNeg) (0 : Int32) _ _ ls hf hP hD hS (lv_sub hl [2, 3, 4, 1, 0] rfl)
    · rw [if_pos hc18] at hf
      refine lv_iconst (v := (-1 : Int32)) hx hb dX12_citizen_21 (by decide) ?_
      obtain ⟨hq0, hq1⟩ := pj2 hf
      subst hq0
      subst hq1
      exact W.iret (v := (-1 : Int32)) hx hb hr (fun t ht hW => ⟨rfl, by rw [ht]; exact hP, hD, hS.F ht⟩) hS.2.2 dX12_citizen_22
set_option maxHeartbeats 4000000 in
set_option maxRecDepth 100000 in
theorem c_X12_mostOf (l : Launch) (dC : Nat → ClassId) (dI : Nat → Nat → Nat) (cyB cyI cyZ cyO : ClassId) (p0 : Int32) (r : Int32) (hf : f_X12_mostOf p0 = some r) : Met l yX12_mostOf wsX12_mostOf ({ frames := 0, cells := 0, slots := 0, locals := 0 } : Room) (PR dC dI cyB cyI cyZ cyO ([.int p0] : List Value) ([] : va_W)) (QR (some (.int r))) 0 0 (fun _ => False) := by
  refine Met.ofW (cc := cX12_mostOf) (maxL := 1) (ret := (some .int)) (by decide) rfl ?_
  intro p e s m args below meth c s₁ B hml hv
  obtain ⟨rfl, hP, hCx⟩ := hv
  have hK := hCx.1
  have hN := hCx.2
  have hx := B.exec
  have hb := B.bytes
  have hr := B.returns
  have hts := atoms_spec (ws := wsX12_mostOf) B.pre
  have hown : s.vm.findClass RX12 = some m.cls := findClass_of_methodNamed B.named
  have hlocks := B.notSynchronized
  have hl := lv_entry ([.int p0] : List Value) (n := 1) (Nat.le_of_ble_eq_true rfl)
  rw [lg_entry_eq]
  generalize (lg_sl ([.int p0] : List Value) ++ List.replicate (1 - (lg_sl ([.int p0] : List Value)).length) Slot.unset).toArray = ls at hl ⊢
  have hl : lv_has ls 1 [(0, .int p0)] := hl
  rw [f_X12_mostOf] at hf
  refine lv_iload_n hx hb dX12_mostOf_0 rfl (lv_at hl 0 rfl) ?_
  refine lv_iconst (v := (2 : Int32)) hx hb dX12_mostOf_1 (by decide) ?_
  refine lv_icmp_ne (tgt := 11) hx hb dX12_mostOf_2 (by decide) (fun hc2 => ?_) (fun hc2 => ?_)
  · rw [if_neg hc2] at hf
    refine lv_iload_n hx hb dX12_mostOf_11 rfl (lv_at hl 0 rfl) ?_
    refine lv_iconst (v := (3 : Int32)) hx hb dX12_mostOf_12 (by decide) ?_
    refine lv_icmp_ne (tgt := 21) hx hb dX12_mostOf_13 (by decide) (fun hc13 => ?_) (fun hc13 => ?_)
    · rw [if_neg hc13] at hf
      refine lv_sipush (v := (2400 : Int32)) hx hb dX12_mostOf_21 (by decide) ?_
      have hq := Option.some.inj hf
      subst hq
      exact W.iret (v := (2400 : Int32)) hx hb hr (fun t ht hW => ⟨rfl, ht⟩) (fun q h => by cases h) dX12_mostOf_24
    · rw [if_pos hc13] at hf
      refine lv_bipush (v := (9 : Int32)) hx hb dX12_mostOf_16 (by decide) ?_
      refine lv_goto (tgt := 24) hx hb dX12_mostOf_18 (by decide) ?_
      have hq := Option.some.inj hf
      subst hq
      exact W.iret (v := (9 : Int32)) hx hb hr (fun t ht hW => ⟨rfl, ht⟩) (fun q h => by cases h) dX12_mostOf_24
  · rw [if_pos hc2] at hf
    refine lv_sipush (v := (12000 : Int32)) hx hb dX12_mostOf_5 (by decide) ?_
    refine lv_goto (tgt := 24) hx hb dX12_mostOf_8 (by decide) ?_
    have hq := Option.some.inj hf
    subst hq
    exact W.iret (v := (12000 : Int32)) hx hb hr (fun t ht hW => ⟨rfl, ht⟩) (fun q h => by cases h) dX12_mostOf_24
set_option maxHeartbeats 4000000 in
set_option maxRecDepth 100000 in
theorem c_X12_rule (l : Launch) (dC : Nat → ClassId) (dI : Nat → Nat → Nat) (cyB cyI cyZ cyO : ClassId) (h h_all h_has h_read h_test h_rest h_gets h_waits h_way h_good h_left : Nat) (sz : Nat) (M_h : Mem) (p1 : Int32) (p2 : Int32) (r : Int32) (R_h : Mem) (hf : f_X12_rule M_h p1 p2 = some (r, R_h)) : Met l yX12_rule wsX12_rule ({ frames := 1, cells := 0, slots := 0, locals := 22 } : Room) (PW dC dI cyB cyI cyZ cyO ([.ref h, .int p1, .int p2] : List Value) (wX12 cyB cyI cyZ cyO h h_all h_has h_read h_test h_rest h_gets h_waits h_way h_good h_left M_h) sz) (QW dC dI (some (.int r)) (wX12 cyB cyI cyZ cyO h h_all h_has h_read h_test h_rest h_gets h_waits h_way h_good h_left R_h) (va_A (wX12 cyB cyI cyZ cyO h h_all h_has h_read h_test h_rest h_gets h_waits h_way h_good h_left M_h) sz)) 0 0 (va_A (wX12 cyB cyI cyZ cyO h h_all h_has h_read h_test h_rest h_gets h_waits h_way h_good h_left M_h) sz) := by
  refine Met.ofW (cc := cX12_rule) (maxL := 3) (ret := (some .boolean)) (by decide) rfl ?_
  intro p e s m args below meth c s₁ B hml hv
  obtain ⟨rfl, hsz, hP, hCx, hD0⟩ := hv
  have hK := hCx.1
  have hN := hCx.2
  have hx := B.exec
  have hb := B.bytes
  have hr := B.returns
  have hts := atoms_spec (ws := wsX12_rule) B.pre
  have hown : s.vm.findClass RX12 = some m.cls := findClass_of_methodNamed B.named
  have hlocks := B.notSynchronized
  have hin12 : ∀ w ∈ u_ws RX12 TX12 21, w ∈ wsX12_rule := fun w h => List.mem_cons_of_mem _ (List.mem_append_right _ h)
  have kf7 := hts (.fieldLink RX12 7 "HoldSlipsModel" "all" "[I") (by decide +kernel)
  subst hsz
  have hD := hD0.self (sz := s.heap.size)
  generalize hAe : va_A (wX12 cyB cyI cyZ cyO h h_all h_has h_read h_test h_rest h_gets h_waits h_way h_good h_left M_h) s.heap.size = A at hD ⊢
  have hA : ∀ q : Nat, s.heap.size ≤ q → A q := fun q h => by rw [← hAe]; exact Or.inr h
  have hS : va_S A s.heap s.heap [] := va_S.rf
  have hl := lv_entry ([.ref h, .int p1, .int p2] : List Value) (n := 3) (Nat.le_of_ble_eq_true rfl)
  rw [lg_entry_eq]
  generalize (lg_sl ([.ref h, .int p1, .int p2] : List Value) ++ List.replicate (3 - (lg_sl ([.ref h, .int p1, .int p2] : List Value)).length) Slot.unset).toArray = ls at hl ⊢
  have hl : lv_has ls 3 [(0, .ref h), (1, .int p1), (2, .int p2)] := hl
  rw [f_X12_rule] at hf
  refine lv_iload_n hx hb dX12_rule_0 rfl (lv_at hl 1 rfl) ?_
  refine lv_iconst (v := (0 : Int32)) hx hb dX12_rule_1 (by decide) ?_
  refine lv_iconst (v := (3 : Int32)) hx hb dX12_rule_2 (by decide) ?_
  obtain ⟨r3, h3, hf⟩ := bd1_some hf
  have hPc := hP.sub (ws' := ([] : va_W)) [] rfl
  refine ro_calli (va_runS (As := [.int p1, .int (0 : Int32), .int (3 : Int32)]) (rest := []) ⟨hx, hb, hml, hown, hts⟩ (c_X12_isIn l dC dI cyB cyI cyZ cyO p1 (0 : Int32) (3 : Int32) r3 h3) (va_cwS 3 hts gX12_rule_X12_isIn rfl rfl rfl (by decide +kernel) ⟨Nat.le_of_ble_eq_true rfl, Nat.le_of_ble_eq_true rfl⟩) ⟨PR.blind, fun U hU hW => ⟨rfl, by rw [hU]; exact hPc, hCx.warm hW⟩⟩ rfl rfl hl.1 rfl (lv_room (Nat.le_of_ble_eq_true rfl)) dX12_rule_3 ⟨Nat.zero_le _, Nat.zero_le _⟩) ?_
  refine lv_if_eq (tgt := 21) hx hb dX12_rule_6 (by decide) (fun hc6 => ?_) (fun hc6 => ?_)
  · rw [if_pos hc6] at hf
    refine lv_iconst (v := (0 : Int32)) hx hb dX12_rule_21 (by decide) ?_
    obtain ⟨hq0, hq1⟩ := pj2 hf
    subst hq0
    subst hq1
    exact W.zret (v := (0 : Int32)) hx hb hr rfl (fun t ht hW => ⟨rfl, by rw [ht]; exact hP, hD, hS.F ht⟩) hS.2.2 dX12_rule_22
  · rw [if_neg hc6] at hf
    refine lv_iload_n hx hb dX12_rule_9 rfl (lv_at hl 2 rfl) ?_
    refine lv_iconst (v := (0 : Int32)) hx hb dX12_rule_10 (by decide) ?_
    refine lv_iload_n hx hb dX12_rule_11 rfl (lv_at hl 1 rfl) ?_
    obtain ⟨r12, h12, hf⟩ := bd1_some hf
    have hPc := hP.sub (ws' := ([] : va_W)) [] rfl
    refine ro_calli (va_runS (As := [.int p1]) (rest := [.int (0 : Int32), .int p2]) ⟨hx, hb, hml, hown, hts⟩ (c_X12_mostOf l dC dI cyB cyI cyZ cyO p1 r12 h12) (va_cwS 1 hts gX12_rule_X12_mostOf rfl rfl rfl (by decide +kernel) ⟨Nat.le_of_ble_eq_true rfl, Nat.le_of_ble_eq_true rfl⟩) ⟨PR.blind, fun U hU hW => ⟨rfl, by rw [hU]; exact hPc, hCx.warm hW⟩⟩ rfl rfl hl.1 rfl (lv_room (Nat.le_of_ble_eq_true rfl)) dX12_rule_12 ⟨Nat.zero_le _, Nat.zero_le _⟩) ?_
    obtain ⟨r15, h15, hf⟩ := bd1_some hf
    have hPc := hP.sub (ws' := ([] : va_W)) [] rfl
    refine ro_calli (va_runS (As := [.int p2, .int (0 : Int32), .int r12]) (rest := []) ⟨hx, hb, hml, hown, hts⟩ (c_X12_isIn l dC dI cyB cyI cyZ cyO p2 (0 : Int32) r12 r15 h15) (va_cwS 3 hts gX12_rule_X12_isIn rfl rfl rfl (by decide +kernel) ⟨Nat.le_of_ble_eq_true rfl, Nat.le_of_ble_eq_true rfl⟩) ⟨PR.blind, fun U hU hW => ⟨rfl, by rw [hU]; exact hPc, hCx.warm hW⟩⟩ rfl rfl hl.1 rfl (lv_room (Nat.le_of_ble_eq_true rfl)) dX12_rule_15 ⟨Nat.zero_le _, Nat.zero_le _⟩) ?_
    refine lv_if_ne (tgt := 23) hx hb dX12_rule_18 (by decide) (fun hc18 => ?_) (fun hc18 => ?_)
    · rw [if_neg hc18] at hf
      refine lv_aload_n hx hb dX12_rule_23 rfl (lv_at hl 0 rfl) ?_
      refine va_get (D := (dC, dI)) (ci := 12) (v := .ref h_all) (C := RX12) (T := TX12) (N := 21) hx hb hts hin12 hown hK hP 0 rfl rfl 0 (by decide) kf7 (fun _ h9 => h9) rfl dX12_rule_24 ?_
      refine lv_bipush (v := (8 : Int32)) hx hb dX12_rule_27 (by decide) ?_
      refine lv_iload_n hx hb dX12_rule_29 rfl (lv_at hl 1 rfl) ?_
      refine lv_iadd hx hb dX12_rule_30 ?_
      refine lv_iload_n hx hb dX12_rule_31 rfl (lv_at hl 2 rfl) ?_
      have hi32 := if_no hf
      rw [if_neg hi32] at hf
      refine va_iast hx hb hK hP hD hS 1 1 rfl rfl hi32 dX12_rule_32 (fun H locs hP hD hS => ?_)
      obtain ⟨M_h_32, eM_h_32, hf⟩ := wr_some hf
      have hP : va_P (dC, dI) vwCl (wX12 cyB cyI cyZ cyO h h_all h_has h_read h_test h_rest h_gets h_waits h_way h_good h_left M_h_32) H := by rw [eM_h_32]; exact hP
      have hD : va_D A (wX12 cyB cyI cyZ cyO h h_all h_has h_read h_test h_rest h_gets h_waits h_way h_good h_left M_h_32) := by rw [eM_h_32]; exact hD
      refine lv_iconst (v := (1 : Int32)) hx hb dX12_rule_33 (by decide) ?_
      obtain ⟨hq0, hq1⟩ := pj2 hf
      subst hq0
      subst hq1
      exact W.zret (v := (1 : Int32)) hx hb hr rfl (fun t ht hW => ⟨rfl, by rw [ht]; exact hP, hD, hS.F ht⟩) hS.2.2 dX12_rule_34
    · rw [if_pos hc18] at hf
      refine lv_iconst (v := (0 : Int32)) hx hb dX12_rule_21 (by decide) ?_
      obtain ⟨hq0, hq1⟩ := pj2 hf
      subst hq0
      subst hq1
      exact W.zret (v := (0 : Int32)) hx hb hr rfl (fun t ht hW => ⟨rfl, by rw [ht]; exact hP, hD, hS.F ht⟩) hS.2.2 dX12_rule_22
set_option maxHeartbeats 4000000 in
set_option maxRecDepth 100000 in
theorem c_X12_asked (l : Launch) (dC : Nat → ClassId) (dI : Nat → Nat → Nat) (cyB cyI cyZ cyO : ClassId) (h h_all h_has h_read h_test h_rest h_gets h_waits h_way h_good h_left : Nat) (M_h : Mem) (p1 : Int32) (p2 : Int32) (r : Int32) (hf : f_X12_asked M_h p1 p2 = some r) : Met l yX12_asked wsX12_asked ({ frames := 1, cells := 0, slots := 0, locals := 22 } : Room) (PR dC dI cyB cyI cyZ cyO ([.ref h, .int p1, .int p2] : List Value) (wX12 cyB cyI cyZ cyO h h_all h_has h_read h_test h_rest h_gets h_waits h_way h_good h_left M_h)) (QR (some (.int r))) 0 0 (fun _ => False) := by
  refine Met.ofW (cc := cX12_asked) (maxL := 3) (ret := (some .int)) (by decide) rfl ?_
  intro p e s m args below meth c s₁ B hml hv
  obtain ⟨rfl, hP, hCx⟩ := hv
  have hK := hCx.1
  have hN := hCx.2
  have hx := B.exec
  have hb := B.bytes
  have hr := B.returns
  have hts := atoms_spec (ws := wsX12_asked) B.pre
  have hown : s.vm.findClass RX12 = some m.cls := findClass_of_methodNamed B.named
  have hlocks := B.notSynchronized
  have hin12 : ∀ w ∈ u_ws RX12 TX12 21, w ∈ wsX12_asked := fun w h => List.mem_cons_of_mem _ (List.mem_append_right _ h)
  have kf7 := hts (.fieldLink RX12 7 "HoldSlipsModel" "all" "[I") (by decide +kernel)
  have hl := lv_entry ([.ref h, .int p1, .int p2] : List Value) (n := 3) (Nat.le_of_ble_eq_true rfl)
  rw [lg_entry_eq]
  generalize (lg_sl ([.ref h, .int p1, .int p2] : List Value) ++ List.replicate (3 - (lg_sl ([.ref h, .int p1, .int p2] : List Value)).length) Slot.unset).toArray = ls at hl ⊢
  have hl : lv_has ls 3 [(0, .ref h), (1, .int p1), (2, .int p2)] := hl
  rw [f_X12_asked] at hf
  refine lv_iload_n hx hb dX12_asked_0 rfl (lv_at hl 2 rfl) ?_
  by_cases hs1_0 : p2 = (1 : Int32)
  · rw [if_pos hs1_0] at hf
    refine lv_tableIn (off := 31) (tgt := 32) hx hb dX12_asked_1 (by rw [hs1_0]; decide) (by rw [hs1_0]; decide) (by rw [hs1_0]; rfl) (by decide) ?_
    refine lv_aload_n hx hb dX12_asked_32 rfl (lv_at hl 0 rfl) ?_
    refine lv_iload_n hx hb dX12_asked_33 rfl (lv_at hl 1 rfl) ?_
    refine lv_iconst (v := (1 : Int32)) hx hb dX12_asked_34 (by decide) ?_
    obtain ⟨r35, h35, hf⟩ := bd1_some hf
    refine ro_calli (va_runV (As := [.int p1, .int (1 : Int32)]) (rest := []) ⟨hx, hb, hml, hown, hts⟩ (c_X12_of l dC dI cyB cyI cyZ cyO h h_all h_has h_read h_test h_rest h_gets h_waits h_way h_good h_left M_h p1 (1 : Int32) r35 h35) (cwV 2 hts gX12_asked_X12_of rfl rfl rfl (by decide +kernel) ⟨Nat.le_of_ble_eq_true rfl, Nat.le_of_ble_eq_true rfl⟩) ⟨PR.blind, va_recv hK hP (ci := 12) (q0 := 0) rfl rfl, fun U hU hW => ⟨rfl, by rw [hU]; exact hP, hCx.warm hW⟩⟩ rfl rfl hl.1 rfl (lv_room (Nat.le_of_ble_eq_true rfl)) dX12_asked_35 ⟨Nat.zero_le _, Nat.zero_le _⟩) ?_
    have hq := Option.some.inj hf
    subst hq
    exact W.iret (v := r35) hx hb hr (fun t ht hW => ⟨rfl, ht⟩) (fun q h => by cases h) dX12_asked_38
  · rw [if_neg hs1_0] at hf
    by_cases hs1_1 : p2 = (2 : Int32)
    · rw [if_pos hs1_1] at hf
      refine lv_tableIn (off := 38) (tgt := 39) hx hb dX12_asked_1 (by rw [hs1_1]; decide) (by rw [hs1_1]; decide) (by rw [hs1_1]; rfl) (by decide) ?_
      refine lv_aload_n hx hb dX12_asked_39 rfl (lv_at hl 0 rfl) ?_
      refine lv_iload_n hx hb dX12_asked_40 rfl (lv_at hl 1 rfl) ?_
      refine lv_iconst (v := (0 : Int32)) hx hb dX12_asked_41 (by decide) ?_
      obtain ⟨r42, h42, hf⟩ := bd1_some hf
      refine ro_calli (va_runV (As := [.int p1, .int (0 : Int32)]) (rest := []) ⟨hx, hb, hml, hown, hts⟩ (c_X12_of l dC dI cyB cyI cyZ cyO h h_all h_has h_read h_test h_rest h_gets h_waits h_way h_good h_left M_h p1 (0 : Int32) r42 h42) (cwV 2 hts gX12_asked_X12_of rfl rfl rfl (by decide +kernel) ⟨Nat.le_of_ble_eq_true rfl, Nat.le_of_ble_eq_true rfl⟩) ⟨PR.blind, va_recv hK hP (ci := 12) (q0 := 0) rfl rfl, fun U hU hW => ⟨rfl, by rw [hU]; exact hP, hCx.warm hW⟩⟩ rfl rfl hl.1 rfl (lv_room (Nat.le_of_ble_eq_true rfl)) dX12_asked_42 ⟨Nat.zero_le _, Nat.zero_le _⟩) ?_
      have hq := Option.some.inj hf
      subst hq
      exact W.iret (v := r42) hx hb hr (fun t ht hW => ⟨rfl, ht⟩) (fun q h => by cases h) dX12_asked_45
    · rw [if_neg hs1_1] at hf
      by_cases hs1_2 : p2 = (3 : Int32)
      · rw [if_pos hs1_2] at hf
        refine lv_tableIn (off := 45) (tgt := 46) hx hb dX12_asked_1 (by rw [hs1_2]; decide) (by rw [hs1_2]; decide) (by rw [hs1_2]; rfl) (by decide) ?_
        refine lv_aload_n hx hb dX12_asked_46 rfl (lv_at hl 0 rfl) ?_
        refine va_get (D := (dC, dI)) (ci := 12) (v := .ref h_all) (C := RX12) (T := TX12) (N := 21) hx hb hts hin12 hown hK hP 0 rfl rfl 0 (by decide) kf7 (fun _ h9 => h9) rfl dX12_asked_47 ?_
        refine lv_iconst (v := (0 : Int32)) hx hb dX12_asked_50 (by decide) ?_
        refine va_iald hx hb hK hP 1 1 rfl rfl (show ¬ ((0 : Int32) < 0 ∨ 11160 ≤ ((0 : Int32)).toNatClampNeg) by decide) dX12_asked_51 ?_
        have hq := Option.some.inj hf
        subst hq
        exact W.iret (v := (M_h 0 ((0 : Int32)).toNatClampNeg)) hx hb hr (fun t ht hW => ⟨rfl, ht⟩) (fun q h => by cases h) dX12_asked_52
      · rw [if_neg hs1_2] at hf
        by_cases hs1_3 : p2 = (4 : Int32)
        · rw [if_pos hs1_3] at hf
          refine lv_tableIn (off := 52) (tgt := 53) hx hb dX12_asked_1 (by rw [hs1_3]; decide) (by rw [hs1_3]; decide) (by rw [hs1_3]; rfl) (by decide) ?_
          refine lv_aload_n hx hb dX12_asked_53 rfl (lv_at hl 0 rfl) ?_
          refine lv_iload_n hx hb dX12_asked_54 rfl (lv_at hl 1 rfl) ?_
          refine lv_iconst (v := (3 : Int32)) hx hb dX12_asked_55 (by decide) ?_
          obtain ⟨r56, h56, hf⟩ := bd1_some hf
          refine ro_calli (va_runV (As := [.int p1, .int (3 : Int32)]) (rest := []) ⟨hx, hb, hml, hown, hts⟩ (c_X12_of l dC dI cyB cyI cyZ cyO h h_all h_has h_read h_test h_rest h_gets h_waits h_way h_good h_left M_h p1 (3 : Int32) r56 h56) (cwV 2 hts gX12_asked_X12_of rfl rfl rfl (by decide +kernel) ⟨Nat.le_of_ble_eq_true rfl, Nat.le_of_ble_eq_true rfl⟩) ⟨PR.blind, va_recv hK hP (ci := 12) (q0 := 0) rfl rfl, fun U hU hW => ⟨rfl, by rw [hU]; exact hP, hCx.warm hW⟩⟩ rfl rfl hl.1 rfl (lv_room (Nat.le_of_ble_eq_true rfl)) dX12_asked_56 ⟨Nat.zero_le _, Nat.zero_le _⟩) ?_
          have hq := Option.some.inj hf
          subst hq
          exact W.iret (v := r56) hx hb hr (fun t ht hW => ⟨rfl, ht⟩) (fun q h => by cases h) dX12_asked_59
        · rw [if_neg hs1_3] at hf
          refine lv_tableOut (tgt := 60) hx hb dX12_asked_1 (by have z0 := lv_neT hs1_0 (show (1 : Int32).toInt = 1 by decide); have z1 := lv_neT hs1_1 (show (2 : Int32).toInt = 2 by decide); have z2 := lv_neT hs1_2 (show (3 : Int32).toInt = 3 by decide); have z3 := lv_neT hs1_3 (show (4 : Int32).toInt = 4 by decide); omega) (by decide) ?_
          refine lv_aload_n hx hb dX12_asked_60 rfl (lv_at hl 0 rfl) ?_
          refine va_get (D := (dC, dI)) (ci := 12) (v := .ref h_all) (C := RX12) (T := TX12) (N := 21) hx hb hts hin12 hown hK hP 0 rfl rfl 0 (by decide) kf7 (fun _ h9 => h9) rfl dX12_asked_61 ?_
          refine lv_bipush (v := (6 : Int32)) hx hb dX12_asked_64 (by decide) ?_
          refine va_iald hx hb hK hP 1 1 rfl rfl (show ¬ ((6 : Int32) < 0 ∨ 11160 ≤ ((6 : Int32)).toNatClampNeg) by decide) dX12_asked_66 ?_
          have hq := Option.some.inj hf
          subst hq
          exact W.iret (v := (M_h 0 ((6 : Int32)).toNatClampNeg)) hx hb hr (fun t ht hW => ⟨rfl, ht⟩) (fun q h => by cases h) dX12_asked_67
set_option maxHeartbeats 4000000 in
set_option maxRecDepth 100000 in
theorem c_X12_holds (l : Launch) (dC : Nat → ClassId) (dI : Nat → Nat → Nat) (cyB cyI cyZ cyO : ClassId) (h h_all h_has h_read h_test h_rest h_gets h_waits h_way h_good h_left : Nat) (M_h : Mem) (p1 : Int32) (p2 : Int32) (r : Int32) (hf : f_X12_holds M_h p1 p2 = some r) : Met l yX12_holds wsX12_holds ({ frames := 2, cells := 0, slots := 0, locals := 44 } : Room) (PR dC dI cyB cyI cyZ cyO ([.ref h, .int p1, .int p2] : List Value) (wX12 cyB cyI cyZ cyO h h_all h_has h_read h_test h_rest h_gets h_waits h_way h_good h_left M_h)) (QR (some (.int r))) 0 0 (fun _ => False) := by
  refine Met.ofW (cc := cX12_holds) (maxL := 9) (ret := (some .boolean)) (by decide) rfl ?_
  intro p e s m args below meth c s₁ B hml hv
  obtain ⟨rfl, hP, hCx⟩ := hv
  have hK := hCx.1
  have hN := hCx.2
  have hx := B.exec
  have hb := B.bytes
  have hr := B.returns
  have hts := atoms_spec (ws := wsX12_holds) B.pre
  have hown : s.vm.findClass RX12 = some m.cls := findClass_of_methodNamed B.named
  have hlocks := B.notSynchronized
  have hin12 : ∀ w ∈ u_ws RX12 TX12 21, w ∈ wsX12_holds := fun w h => List.mem_cons_of_mem _ (List.mem_append_right _ h)
  have kf7 := hts (.fieldLink RX12 7 "HoldSlipsModel" "all" "[I") (by decide +kernel)
  have hl := lv_entry ([.ref h, .int p1, .int p2] : List Value) (n := 9) (Nat.le_of_ble_eq_true rfl)
  rw [lg_entry_eq]
  generalize (lg_sl ([.ref h, .int p1, .int p2] : List Value) ++ List.replicate (9 - (lg_sl ([.ref h, .int p1, .int p2] : List Value)).length) Slot.unset).toArray = ls at hl ⊢
  have hl : lv_has ls 9 [(0, .ref h), (1, .int p1), (2, .int p2)] := hl
  have L147 : ∀ (K5 : Mem → Int32 → Int32 → Int32 → Int32 → Option (Int32)) (hK5 : ∀ (x1 : Int32) (x2 : Int32) (x3 : Int32) (x4 : Int32) (ls : Array Slot), K5 M_h x1 x2 x3 x4 = some r → lv_has ls 9 [(0, .ref h), (1, .int x1), (2, .int x2), (3, .int x3), (4, .int x4)] → W p l e (headSpec wsX12_holds ({ frames := 2, cells := 0, slots := 0, locals := 44 } : Room)).room s m ([.ref h, .int p1, .int p2] : List Value).toArray below meth c s.heap [] 0 0 (MQ below (QR (some (.int r))) ([.ref h, .int p1, .int p2] : List Value).toArray s 0 0 (fun _ => False)) (F0 m 5 ls [])), ∀ (x1 : Int32) (x2 : Int32) (x4 : Int32) (s0 : Int32) (s1 : Int32) (ls : Array Slot), f_X12_holds_L147 K5 M_h x1 x2 x4 s0 s1 = some r → lv_has ls 9 [(0, .ref h), (1, .int x1), (2, .int x2), (4, .int x4)] → W p l e (headSpec wsX12_holds ({ frames := 2, cells := 0, slots := 0, locals := 44 } : Room)).room s m ([.ref h, .int p1, .int p2] : List Value).toArray below meth c s.heap [] 0 0 (MQ below (QR (some (.int r))) ([.ref h, .int p1, .int p2] : List Value).toArray s 0 0 (fun _ => False)) (F0 m 147 ls [.int s0, .int s1]) := by
    intro K5 hK5 x1 x2 x4 s0 s1 ls hf hl
    rw [f_X12_holds_L147] at hf
    refine lv_icmp_eq (tgt := 154) hx hb dX12_holds_147 (by decide) (fun hc147 => ?_) (fun hc147 => ?_)
    · rw [if_pos hc147] at hf
      refine lv_iconst (v := (0 : Int32)) hx hb dX12_holds_154 (by decide) ?_
      refine lv_istore_n (lv' := [(3, .int (0 : Int32)), (0, .ref h), (1, .int x1), (2, .int x2), (4, .int x4)]) hx hb dX12_holds_155 rfl hl (by decide) rfl (fun ls hl => ?_)
      refine lv_iinc (v := (x4 + (1 : Int32))) (lv' := [(4, .int (x4 + (1 : Int32))), (3, .int (0 : Int32)), (0, .ref h), (1, .int x1), (2, .int x2)]) hx hb dX12_holds_156 hl (k := 4) rfl rfl (by decide) rfl (fun ls hl => ?_)
      refine lv_goto (tgt := 5) hx hb dX12_holds_159 (by decide) ?_
      exact hK5 x1 x2 (0 : Int32) (x4 + (1 : Int32)) ls hf (lv_sub hl [2, 3, 4, 1, 0] rfl)
    · rw [if_neg hc147] at hf
      refine lv_iconst (v := (1 : Int32)) hx hb dX12_holds_150 (by decide) ?_
      refine lv_goto (tgt := 155) hx hb dX12_holds_151 (by decide) ?_
      refine lv_istore_n (lv' := [(3, .int (1 : Int32)), (0, .ref h), (1, .int x1), (2, .int x2), (4, .int x4)]) hx hb dX12_holds_155 rfl hl (by decide) rfl (fun ls hl => ?_)
      refine lv_iinc (v := (x4 + (1 : Int32))) (lv' := [(4, .int (x4 + (1 : Int32))), (3, .int (1 : Int32)), (0, .ref h), (1, .int x1), (2, .int x2)]) hx hb dX12_holds_156 hl (k := 4) rfl rfl (by decide) rfl (fun ls hl => ?_)
      refine lv_goto (tgt := 5) hx hb dX12_holds_159 (by decide) ?_
      exact hK5 x1 x2 (1 : Int32) (x4 + (1 : Int32)) ls hf (lv_sub hl [2, 3, 4, 1, 0] rfl)
  have L127 : ∀ (K5 : Mem → Int32 → Int32 → Int32 → Int32 → Option (Int32)) (hK5 : ∀ (x1 : Int32) (x2 : Int32) (x3 : Int32) (x4 : Int32) (ls : Array Slot), K5 M_h x1 x2 x3 x4 = some r → lv_has ls 9 [(0, .ref h), (1, .int x1), (2, .int x2), (3, .int x3), (4, .int x4)] → W p l e (headSpec wsX12_holds ({ frames := 2, cells := 0, slots := 0, locals := 44 } : Room)).room s m ([.ref h, .int p1, .int p2] : List Value).toArray below meth c s.heap [] 0 0 (MQ below (QR (some (.int r))) ([.ref h, .int p1, .int p2] : List Value).toArray s 0 0 (fun _ => False)) (F0 m 5 ls [])), ∀ (x1 : Int32) (x2 : Int32) (x4 : Int32) (x5 : Int32) (s0 : Int32) (ls : Array Slot), f_X12_holds_L127 K5 M_h x1 x2 x4 x5 s0 = some r → lv_has ls 9 [(0, .ref h), (1, .int x1), (2, .int x2), (4, .int x4), (5, .int x5)] → W p l e (headSpec wsX12_holds ({ frames := 2, cells := 0, slots := 0, locals := 44 } : Room)).room s m ([.ref h, .int p1, .int p2] : List Value).toArray below meth c s.heap [] 0 0 (MQ below (QR (some (.int r))) ([.ref h, .int p1, .int p2] : List Value).toArray s 0 0 (fun _ => False)) (F0 m 127 ls [.int s0]) := by
    intro K5 hK5 x1 x2 x4 x5 s0 ls hf hl
    rw [f_X12_holds_L127] at hf
    refine lv_istore (lv' := [(8, .int s0), (0, .ref h), (1, .int x1), (2, .int x2), (4, .int x4), (5, .int x5)]) hx hb dX12_holds_127 hl (by decide) rfl (fun ls hl => ?_)
    refine lv_iload hx hb dX12_holds_129 (lv_at hl 0 rfl) ?_
    refine lv_aload_n hx hb dX12_holds_131 rfl (lv_at hl 1 rfl) ?_
    refine va_get (D := (dC, dI)) (ci := 12) (v := .ref h_all) (C := RX12) (T := TX12) (N := 21) hx hb hts hin12 hown hK hP 0 rfl rfl 0 (by decide) kf7 (fun _ h9 => h9) rfl dX12_holds_132 ?_
    refine lv_iload hx hb dX12_holds_135 (lv_at hl 5 rfl) ?_
    have hi137 := if_no hf
    rw [if_neg hi137] at hf
    refine va_iald hx hb hK hP 1 1 rfl rfl hi137 dX12_holds_137 ?_
    refine lv_iconst (v := (1 : Int32)) hx hb dX12_holds_138 (by decide) ?_
    refine lv_icmp_ne (tgt := 146) hx hb dX12_holds_139 (by decide) (fun hc139 => ?_) (fun hc139 => ?_)
    · rw [if_neg hc139] at hf
      refine lv_iconst (v := (0 : Int32)) hx hb dX12_holds_146 (by decide) ?_
      exact L147 K5 hK5 x1 x2 x4 (0 : Int32) s0 ls hf (lv_sub hl [1, 2, 3, 4] rfl)
    · rw [if_pos hc139] at hf
      refine lv_iconst (v := (1 : Int32)) hx hb dX12_holds_142 (by decide) ?_
      refine lv_goto (tgt := 147) hx hb dX12_holds_143 (by decide) ?_
      exact L147 K5 hK5 x1 x2 x4 (1 : Int32) s0 ls hf (lv_sub hl [1, 2, 3, 4] rfl)
  have L5 : ∀ (n : Nat), ∀ (x1 : Int32) (x2 : Int32) (x3 : Int32) (x4 : Int32) (ls : Array Slot), f_X12_holds_L5 n M_h x1 x2 x3 x4 = some r → lv_has ls 9 [(0, .ref h), (1, .int x1), (2, .int x2), (3, .int x3), (4, .int x4)] → W p l e (headSpec wsX12_holds ({ frames := 2, cells := 0, slots := 0, locals := 44 } : Room)).room s m ([.ref h, .int p1, .int p2] : List Value).toArray below meth c s.heap [] 0 0 (MQ below (QR (some (.int r))) ([.ref h, .int p1, .int p2] : List Value).toArray s 0 0 (fun _ => False)) (F0 m 5 ls []) := by
    intro n
    induction n with
    | zero => intro x1 x2 x3 x4 ls hf hl; rw [f_X12_holds_L5] at hf; cases hf
    | succ n ih =>
      intro x1 x2 x3 x4 ls hf hl
      rw [f_X12_holds_L5] at hf
      refine lv_iload hx hb dX12_holds_5 (lv_at hl 4 rfl) ?_
      refine lv_aload_n hx hb dX12_holds_7 rfl (lv_at hl 0 rfl) ?_
      refine va_get (D := (dC, dI)) (ci := 12) (v := .ref h_all) (C := RX12) (T := TX12) (N := 21) hx hb hts hin12 hown hK hP 0 rfl rfl 0 (by decide) kf7 (fun _ h9 => h9) rfl dX12_holds_8 ?_
      refine lv_iload_n hx hb dX12_holds_11 rfl (lv_at hl 2 rfl) ?_
      have hi12 := if_no hf
      rw [if_neg hi12] at hf
      refine va_iald hx hb hK hP 1 1 rfl rfl hi12 dX12_holds_12 ?_
      refine lv_icmp_ge (tgt := 162) hx hb dX12_holds_13 (by decide) (fun hc13 => ?_) (fun hc13 => ?_)
      · rw [if_pos hc13] at hf
        refine lv_iload_n hx hb dX12_holds_162 rfl (lv_at hl 3 rfl) ?_
        have hb163 := Decidable.not_not.mp (if_no hf)
        rw [if_neg (not_not_intro hb163)] at hf
        have hq := Option.some.inj hf
        subst hq
        exact W.zret (v := x3) hx hb hr (nar_b hb163) (fun t ht hW => ⟨rfl, ht⟩) (fun q h => by cases h) dX12_holds_163
      · rw [if_neg hc13] at hf
        refine lv_iload_n hx hb dX12_holds_16 rfl (lv_at hl 3 rfl) ?_
        refine lv_if_eq (tgt := 162) hx hb dX12_holds_17 (by decide) (fun hc17 => ?_) (fun hc17 => ?_)
        · rw [if_pos hc17] at hf
          refine lv_iload_n hx hb dX12_holds_162 rfl (lv_at hl 3 rfl) ?_
          have hb163 := Decidable.not_not.mp (if_no hf)
          rw [if_neg (not_not_intro hb163)] at hf
          have hq := Option.some.inj hf
          subst hq
          exact W.zret (v := x3) hx hb hr (nar_b hb163) (fun t ht hW => ⟨rfl, ht⟩) (fun q h => by cases h) dX12_holds_163
        · rw [if_neg hc17] at hf
          refine lv_iload_n hx hb dX12_holds_20 rfl (lv_at hl 2 rfl) ?_
          refine lv_iconst (v := (1 : Int32)) hx hb dX12_holds_21 (by decide) ?_
          refine lv_iadd hx hb dX12_holds_22 ?_
          refine lv_iconst (v := (4 : Int32)) hx hb dX12_holds_23 (by decide) ?_
          refine lv_iload hx hb dX12_holds_24 (lv_at hl 4 rfl) ?_
          refine lv_imul hx hb dX12_holds_26 ?_
          refine lv_iadd hx hb dX12_holds_27 ?_
          refine lv_istore (lv' := [(5, .int ((x2 + (1 : Int32)) + ((4 : Int32) * x4))), (0, .ref h), (1, .int x1), (2, .int x2), (3, .int x3), (4, .int x4)]) hx hb dX12_holds_28 hl (by decide) rfl (fun ls hl => ?_)
          refine lv_aload_n hx hb dX12_holds_30 rfl (lv_at hl 1 rfl) ?_
          refine lv_iload_n hx hb dX12_holds_31 rfl (lv_at hl 2 rfl) ?_
          refine lv_aload_n hx hb dX12_holds_32 rfl (lv_at hl 1 rfl) ?_
          refine va_get (D := (dC, dI)) (ci := 12) (v := .ref h_all) (C := RX12) (T := TX12) (N := 21) hx hb hts hin12 hown hK hP 0 rfl rfl 0 (by decide) kf7 (fun _ h9 => h9) rfl dX12_holds_33 ?_
          refine lv_iload hx hb dX12_holds_36 (lv_at hl 0 rfl) ?_
          refine lv_iconst (v := (1 : Int32)) hx hb dX12_holds_38 (by decide) ?_
          refine lv_iadd hx hb dX12_holds_39 ?_
          have hi40 := if_no hf
          rw [if_neg hi40] at hf
          refine va_iald hx hb hK hP 1 1 rfl rfl hi40 dX12_holds_40 ?_
          obtain ⟨r41, h41, hf⟩ := bd1_some hf
          refine ro_calli (va_runV (As := [.int x1, .int (M_h 0 ((((x2 + (1 : Int32)) + ((4 : Int32) * x4)) + (1 : Int32))).toNatClampNeg)]) (rest := []) ⟨hx, hb, hml, hown, hts⟩ (c_X12_asked l dC dI cyB cyI cyZ cyO h h_all h_has h_read h_test h_rest h_gets h_waits h_way h_good h_left M_h x1 (M_h 0 ((((x2 + (1 : Int32)) + ((4 : Int32) * x4)) + (1 : Int32))).toNatClampNeg) r41 h41) (cwV 2 hts gX12_holds_X12_asked rfl rfl rfl (by decide +kernel) ⟨Nat.le_of_ble_eq_true rfl, Nat.le_of_ble_eq_true rfl⟩) ⟨PR.blind, va_recv hK hP (ci := 12) (q0 := 0) rfl rfl, fun U hU hW => ⟨rfl, by rw [hU]; exact hP, hCx.warm hW⟩⟩ rfl rfl hl.1 rfl (lv_room (Nat.le_of_ble_eq_true rfl)) dX12_holds_41 ⟨Nat.zero_le _, Nat.zero_le _⟩) ?_
          refine lv_istore (lv' := [(6, .int r41), (5, .int ((x2 + (1 : Int32)) + ((4 : Int32) * x4))), (0, .ref h), (1, .int x1), (2, .int x2), (3, .int x3), (4, .int x4)]) hx hb dX12_holds_44 hl (by decide) rfl (fun ls hl => ?_)
          refine lv_aload_n hx hb dX12_holds_46 rfl (lv_at hl 2 rfl) ?_
          refine va_get (D := (dC, dI)) (ci := 12) (v := .ref h_all) (C := RX12) (T := TX12) (N := 21) hx hb hts hin12 hown hK hP 0 rfl rfl 0 (by decide) kf7 (fun _ h9 => h9) rfl dX12_holds_47 ?_
          refine lv_iload hx hb dX12_holds_50 (lv_at hl 1 rfl) ?_
          refine lv_iconst (v := (3 : Int32)) hx hb dX12_holds_52 (by decide) ?_
          refine lv_iadd hx hb dX12_holds_53 ?_
          have hi54 := if_no hf
          rw [if_neg hi54] at hf
          refine va_iald hx hb hK hP 1 1 rfl rfl hi54 dX12_holds_54 ?_
          refine lv_istore (lv' := [(7, .int (M_h 0 ((((x2 + (1 : Int32)) + ((4 : Int32) * x4)) + (3 : Int32))).toNatClampNeg)), (6, .int r41), (5, .int ((x2 + (1 : Int32)) + ((4 : Int32) * x4))), (0, .ref h), (1, .int x1), (2, .int x2), (3, .int x3), (4, .int x4)]) hx hb dX12_holds_55 hl (by decide) rfl (fun ls hl => ?_)
          refine lv_aload_n hx hb dX12_holds_57 rfl (lv_at hl 3 rfl) ?_
          refine va_get (D := (dC, dI)) (ci := 12) (v := .ref h_all) (C := RX12) (T := TX12) (N := 21) hx hb hts hin12 hown hK hP 0 rfl rfl 0 (by decide) kf7 (fun _ h9 => h9) rfl dX12_holds_58 ?_
          refine lv_iload hx hb dX12_holds_61 (lv_at hl 2 rfl) ?_
          refine lv_iconst (v := (2 : Int32)) hx hb dX12_holds_63 (by decide) ?_
          refine lv_iadd hx hb dX12_holds_64 ?_
          have hi65 := if_no hf
          rw [if_neg hi65] at hf
          refine va_iald hx hb hK hP 1 1 rfl rfl hi65 dX12_holds_65 ?_
          refine lv_bipush (v := (60 : Int32)) hx hb dX12_holds_66 (by decide) ?_
          refine lv_icmp_ne (tgt := 86) hx hb dX12_holds_68 (by decide) (fun hc68 => ?_) (fun hc68 => ?_)
          · rw [if_neg hc68] at hf
            refine lv_aload_n hx hb dX12_holds_86 rfl (lv_at hl 3 rfl) ?_
            refine va_get (D := (dC, dI)) (ci := 12) (v := .ref h_all) (C := RX12) (T := TX12) (N := 21) hx hb hts hin12 hown hK hP 0 rfl rfl 0 (by decide) kf7 (fun _ h9 => h9) rfl dX12_holds_87 ?_
            refine lv_iload hx hb dX12_holds_90 (lv_at hl 2 rfl) ?_
            refine lv_iconst (v := (2 : Int32)) hx hb dX12_holds_92 (by decide) ?_
            refine lv_iadd hx hb dX12_holds_93 ?_
            refine va_iald hx hb hK hP 1 1 rfl rfl hi65 dX12_holds_94 ?_
            refine lv_bipush (v := (62 : Int32)) hx hb dX12_holds_95 (by decide) ?_
            refine lv_icmp_ne (tgt := 115) hx hb dX12_holds_97 (by decide) (fun hc97 => ?_) (fun hc97 => ?_)
            · rw [if_neg hc97] at hf
              refine lv_iload hx hb dX12_holds_115 (lv_at hl 1 rfl) ?_
              refine lv_iload hx hb dX12_holds_117 (lv_at hl 0 rfl) ?_
              refine lv_icmp_ne (tgt := 126) hx hb dX12_holds_119 (by decide) (fun hc119 => ?_) (fun hc119 => ?_)
              · rw [if_neg hc119] at hf
                refine lv_iconst (v := (0 : Int32)) hx hb dX12_holds_126 (by decide) ?_
                exact L127 (f_X12_holds_L5 n) (fun z0 z1 z2 z3 z4 z5 z6 => ih z0 z1 z2 z3 z4 z5 z6) x1 x2 x4 ((x2 + (1 : Int32)) + ((4 : Int32) * x4)) (0 : Int32) ls hf (lv_sub hl [3, 4, 5, 7, 2] rfl)
              · rw [if_pos hc119] at hf
                refine lv_iconst (v := (1 : Int32)) hx hb dX12_holds_122 (by decide) ?_
                refine lv_goto (tgt := 127) hx hb dX12_holds_123 (by decide) ?_
                exact L127 (f_X12_holds_L5 n) (fun z0 z1 z2 z3 z4 z5 z6 => ih z0 z1 z2 z3 z4 z5 z6) x1 x2 x4 ((x2 + (1 : Int32)) + ((4 : Int32) * x4)) (1 : Int32) ls hf (lv_sub hl [3, 4, 5, 7, 2] rfl)
            · rw [if_pos hc97] at hf
              refine lv_iload hx hb dX12_holds_100 (lv_at hl 1 rfl) ?_
              refine lv_iload hx hb dX12_holds_102 (lv_at hl 0 rfl) ?_
              refine lv_icmp_le (tgt := 111) hx hb dX12_holds_104 (by decide) (fun hc104 => ?_) (fun hc104 => ?_)
              · rw [if_pos hc104] at hf
                refine lv_iconst (v := (0 : Int32)) hx hb dX12_holds_111 (by decide) ?_
                refine lv_goto (tgt := 127) hx hb dX12_holds_112 (by decide) ?_
                exact L127 (f_X12_holds_L5 n) (fun z0 z1 z2 z3 z4 z5 z6 => ih z0 z1 z2 z3 z4 z5 z6) x1 x2 x4 ((x2 + (1 : Int32)) + ((4 : Int32) * x4)) (0 : Int32) ls hf (lv_sub hl [3, 4, 5, 7, 2] rfl)
              · rw [if_neg hc104] at hf
                refine lv_iconst (v := (1 : Int32)) hx hb dX12_holds_107 (by decide) ?_
                refine lv_goto (tgt := 127) hx hb dX12_holds_108 (by decide) ?_
                exact L127 (f_X12_holds_L5 n) (fun z0 z1 z2 z3 z4 z5 z6 => ih z0 z1 z2 z3 z4 z5 z6) x1 x2 x4 ((x2 + (1 : Int32)) + ((4 : Int32) * x4)) (1 : Int32) ls hf (lv_sub hl [3, 4, 5, 7, 2] rfl)
          · rw [if_pos hc68] at hf
            refine lv_iload hx hb dX12_holds_71 (lv_at hl 1 rfl) ?_
            refine lv_iload hx hb dX12_holds_73 (lv_at hl 0 rfl) ?_
            refine lv_icmp_ge (tgt := 82) hx hb dX12_holds_75 (by decide) (fun hc75 => ?_) (fun hc75 => ?_)
            · rw [if_pos hc75] at hf
              refine lv_iconst (v := (0 : Int32)) hx hb dX12_holds_82 (by decide) ?_
              refine lv_goto (tgt := 127) hx hb dX12_holds_83 (by decide) ?_
              exact L127 (f_X12_holds_L5 n) (fun z0 z1 z2 z3 z4 z5 z6 => ih z0 z1 z2 z3 z4 z5 z6) x1 x2 x4 ((x2 + (1 : Int32)) + ((4 : Int32) * x4)) (0 : Int32) ls hf (lv_sub hl [3, 4, 5, 7, 2] rfl)
            · rw [if_neg hc75] at hf
              refine lv_iconst (v := (1 : Int32)) hx hb dX12_holds_78 (by decide) ?_
              refine lv_goto (tgt := 127) hx hb dX12_holds_79 (by decide) ?_
              exact L127 (f_X12_holds_L5 n) (fun z0 z1 z2 z3 z4 z5 z6 => ih z0 z1 z2 z3 z4 z5 z6) x1 x2 x4 ((x2 + (1 : Int32)) + ((4 : Int32) * x4)) (1 : Int32) ls hf (lv_sub hl [3, 4, 5, 7, 2] rfl)
  rw [f_X12_holds] at hf
  refine lv_iconst (v := (1 : Int32)) hx hb dX12_holds_0 (by decide) ?_
  refine lv_istore_n (lv' := [(3, .int (1 : Int32)), (0, .ref h), (1, .int p1), (2, .int p2)]) hx hb dX12_holds_1 rfl hl (by decide) rfl (fun ls hl => ?_)
  refine lv_iconst (v := (0 : Int32)) hx hb dX12_holds_2 (by decide) ?_
  refine lv_istore (lv' := [(4, .int (0 : Int32)), (3, .int (1 : Int32)), (0, .ref h), (1, .int p1), (2, .int p2)]) hx hb dX12_holds_3 hl (by decide) rfl (fun ls hl => ?_)
  exact L5 FU p1 p2 (1 : Int32) (0 : Int32) ls hf (lv_sub hl [2, 3, 4, 1, 0] rfl)
set_option maxHeartbeats 4000000 in
set_option maxRecDepth 100000 in
theorem c_X12_share (l : Launch) (dC : Nat → ClassId) (dI : Nat → Nat → Nat) (cyB cyI cyZ cyO : ClassId) (h h_all h_has h_read h_test h_rest h_gets h_waits h_way h_good h_left : Nat) (M_h : Mem) (p1 : Int32) (r : Int32) (hf : f_X12_share M_h p1 = some r) : Met l yX12_share wsX12_share ({ frames := 3, cells := 0, slots := 0, locals := 72 } : Room) (PR dC dI cyB cyI cyZ cyO ([.ref h, .int p1] : List Value) (wX12 cyB cyI cyZ cyO h h_all h_has h_read h_test h_rest h_gets h_waits h_way h_good h_left M_h)) (QR (some (.int r))) 0 0 (fun _ => False) := by
  refine Met.ofW (cc := cX12_share) (maxL := 5) (ret := (some .int)) (by decide) rfl ?_
  intro p e s m args below meth c s₁ B hml hv
  obtain ⟨rfl, hP, hCx⟩ := hv
  have hK := hCx.1
  have hN := hCx.2
  have hx := B.exec
  have hb := B.bytes
  have hr := B.returns
  have hts := atoms_spec (ws := wsX12_share) B.pre
  have hown : s.vm.findClass RX12 = some m.cls := findClass_of_methodNamed B.named
  have hlocks := B.notSynchronized
  have hin12 : ∀ w ∈ u_ws RX12 TX12 21, w ∈ wsX12_share := fun w h => List.mem_cons_of_mem _ (List.mem_append_right _ h)
  have kf7 := hts (.fieldLink RX12 7 "HoldSlipsModel" "all" "[I") (by decide +kernel)
  have hl := lv_entry ([.ref h, .int p1] : List Value) (n := 5) (Nat.le_of_ble_eq_true rfl)
  rw [lg_entry_eq]
  generalize (lg_sl ([.ref h, .int p1] : List Value) ++ List.replicate (5 - (lg_sl ([.ref h, .int p1] : List Value)).length) Slot.unset).toArray = ls at hl ⊢
  have hl : lv_has ls 5 [(0, .ref h), (1, .int p1)] := hl
  have L4 : ∀ (n : Nat), ∀ (x1 : Int32) (x2 : Int32) (x3 : Int32) (ls : Array Slot), f_X12_share_L4 n M_h x1 x2 x3 = some r → lv_has ls 5 [(0, .ref h), (1, .int x1), (2, .int x2), (3, .int x3)] → W p l e (headSpec wsX12_share ({ frames := 3, cells := 0, slots := 0, locals := 72 } : Room)).room s m ([.ref h, .int p1] : List Value).toArray below meth c s.heap [] 0 0 (MQ below (QR (some (.int r))) ([.ref h, .int p1] : List Value).toArray s 0 0 (fun _ => False)) (F0 m 4 ls []) := by
    intro n
    induction n with
    | zero => intro x1 x2 x3 ls hf hl; rw [f_X12_share_L4] at hf; cases hf
    | succ n ih =>
      intro x1 x2 x3 ls hf hl
      rw [f_X12_share_L4] at hf
      refine lv_iload_n hx hb dX12_share_4 rfl (lv_at hl 3 rfl) ?_
      refine lv_aload_n hx hb dX12_share_5 rfl (lv_at hl 0 rfl) ?_
      refine va_get (D := (dC, dI)) (ci := 12) (v := .ref h_all) (C := RX12) (T := TX12) (N := 21) hx hb hts hin12 hown hK hP 0 rfl rfl 0 (by decide) kf7 (fun _ h9 => h9) rfl dX12_share_6 ?_
      refine lv_bipush (v := (7 : Int32)) hx hb dX12_share_9 (by decide) ?_
      refine va_iald hx hb hK hP 1 1 rfl rfl (show ¬ ((7 : Int32) < 0 ∨ 11160 ≤ ((7 : Int32)).toNatClampNeg) by decide) dX12_share_11 ?_
      refine lv_icmp_ge (tgt := 102) hx hb dX12_share_12 (by decide) (fun hc12 => ?_) (fun hc12 => ?_)
      · rw [if_pos hc12] at hf
        refine lv_iload_n hx hb dX12_share_102 rfl (lv_at hl 2 rfl) ?_
        have hq := Option.some.inj hf
        subst hq
        exact W.iret (v := x2) hx hb hr (fun t ht hW => ⟨rfl, ht⟩) (fun q h => by cases h) dX12_share_103
      · rw [if_neg hc12] at hf
        refine lv_sipush (v := (2080 : Int32)) hx hb dX12_share_15 (by decide) ?_
        refine lv_bipush (v := (19 : Int32)) hx hb dX12_share_18 (by decide) ?_
        refine lv_iload_n hx hb dX12_share_20 rfl (lv_at hl 3 rfl) ?_
        refine lv_imul hx hb dX12_share_21 ?_
        refine lv_iadd hx hb dX12_share_22 ?_
        refine lv_istore (lv' := [(4, .int ((2080 : Int32) + ((19 : Int32) * x3))), (0, .ref h), (1, .int x1), (2, .int x2), (3, .int x3)]) hx hb dX12_share_23 hl (by decide) rfl (fun ls hl => ?_)
        refine lv_aload_n hx hb dX12_share_25 rfl (lv_at hl 1 rfl) ?_
        refine lv_iload_n hx hb dX12_share_26 rfl (lv_at hl 2 rfl) ?_
        refine lv_iload hx hb dX12_share_27 (lv_at hl 0 rfl) ?_
        obtain ⟨r29, h29, hf⟩ := bd1_some hf
        refine ro_calli (va_runV (As := [.int x1, .int ((2080 : Int32) + ((19 : Int32) * x3))]) (rest := []) ⟨hx, hb, hml, hown, hts⟩ (c_X12_holds l dC dI cyB cyI cyZ cyO h h_all h_has h_read h_test h_rest h_gets h_waits h_way h_good h_left M_h x1 ((2080 : Int32) + ((19 : Int32) * x3)) r29 h29) (cwV 2 hts gX12_share_X12_holds rfl rfl rfl (by decide +kernel) ⟨Nat.le_of_ble_eq_true rfl, Nat.le_of_ble_eq_true rfl⟩) ⟨PR.blind, va_recv hK hP (ci := 12) (q0 := 0) rfl rfl, fun U hU hW => ⟨rfl, by rw [hU]; exact hP, hCx.warm hW⟩⟩ rfl rfl hl.1 rfl (lv_room (Nat.le_of_ble_eq_true rfl)) dX12_share_29 ⟨Nat.zero_le _, Nat.zero_le _⟩) ?_
        refine lv_if_ne (tgt := 38) hx hb dX12_share_32 (by decide) (fun hc32 => ?_) (fun hc32 => ?_)
        · rw [if_neg hc32] at hf
          refine lv_aload_n hx hb dX12_share_38 rfl (lv_at hl 1 rfl) ?_
          refine va_get (D := (dC, dI)) (ci := 12) (v := .ref h_all) (C := RX12) (T := TX12) (N := 21) hx hb hts hin12 hown hK hP 0 rfl rfl 0 (by decide) kf7 (fun _ h9 => h9) rfl dX12_share_39 ?_
          refine lv_iload hx hb dX12_share_42 (lv_at hl 0 rfl) ?_
          refine lv_bipush (v := (17 : Int32)) hx hb dX12_share_44 (by decide) ?_
          refine lv_iadd hx hb dX12_share_46 ?_
          have hi47 := if_no hf
          rw [if_neg hi47] at hf
          refine va_iald hx hb hK hP 1 1 rfl rfl hi47 dX12_share_47 ?_
          refine lv_bipush (v := (22 : Int32)) hx hb dX12_share_48 (by decide) ?_
          refine lv_icmp_ne (tgt := 55) hx hb dX12_share_50 (by decide) (fun hc50 => ?_) (fun hc50 => ?_)
          · rw [if_neg hc50] at hf
            refine lv_aload_n hx hb dX12_share_55 rfl (lv_at hl 1 rfl) ?_
            refine va_get (D := (dC, dI)) (ci := 12) (v := .ref h_all) (C := RX12) (T := TX12) (N := 21) hx hb hts hin12 hown hK hP 0 rfl rfl 0 (by decide) kf7 (fun _ h9 => h9) rfl dX12_share_56 ?_
            refine lv_iload hx hb dX12_share_59 (lv_at hl 0 rfl) ?_
            refine lv_bipush (v := (17 : Int32)) hx hb dX12_share_61 (by decide) ?_
            refine lv_iadd hx hb dX12_share_63 ?_
            refine va_iald hx hb hK hP 1 1 rfl rfl hi47 dX12_share_64 ?_
            refine lv_bipush (v := (20 : Int32)) hx hb dX12_share_65 (by decide) ?_
            refine lv_icmp_ne (tgt := 83) hx hb dX12_share_67 (by decide) (fun hc67 => ?_) (fun hc67 => ?_)
            · rw [if_neg hc67] at hf
              refine lv_iload_n hx hb dX12_share_83 rfl (lv_at hl 3 rfl) ?_
              refine lv_aload_n hx hb dX12_share_84 rfl (lv_at hl 1 rfl) ?_
              refine va_get (D := (dC, dI)) (ci := 12) (v := .ref h_all) (C := RX12) (T := TX12) (N := 21) hx hb hts hin12 hown hK hP 0 rfl rfl 0 (by decide) kf7 (fun _ h9 => h9) rfl dX12_share_85 ?_
              refine lv_iload hx hb dX12_share_88 (lv_at hl 0 rfl) ?_
              refine lv_bipush (v := (18 : Int32)) hx hb dX12_share_90 (by decide) ?_
              refine lv_iadd hx hb dX12_share_92 ?_
              have hi93 := if_no hf
              rw [if_neg hi93] at hf
              refine va_iald hx hb hK hP 1 1 rfl rfl hi93 dX12_share_93 ?_
              refine lv_iadd hx hb dX12_share_94 ?_
              refine lv_istore_n (lv' := [(2, .int (x2 + (M_h 0 ((((2080 : Int32) + ((19 : Int32) * x3)) + (18 : Int32))).toNatClampNeg))), (4, .int ((2080 : Int32) + ((19 : Int32) * x3))), (0, .ref h), (1, .int x1), (3, .int x3)]) hx hb dX12_share_95 rfl hl (by decide) rfl (fun ls hl => ?_)
              refine lv_iinc (v := (x3 + (1 : Int32))) (lv' := [(3, .int (x3 + (1 : Int32))), (2, .int (x2 + (M_h 0 ((((2080 : Int32) + ((19 : Int32) * x3)) + (18 : Int32))).toNatClampNeg))), (4, .int ((2080 : Int32) + ((19 : Int32) * x3))), (0, .ref h), (1, .int x1)]) hx hb dX12_share_96 hl (k := 4) rfl rfl (by decide) rfl (fun ls hl => ?_)
              refine lv_goto (tgt := 4) hx hb dX12_share_99 (by decide) ?_
              exact ih x1 (x2 + (M_h 0 ((((2080 : Int32) + ((19 : Int32) * x3)) + (18 : Int32))).toNatClampNeg)) (x3 + (1 : Int32)) ls hf (lv_sub hl [3, 4, 1, 0] rfl)
            · rw [if_pos hc67] at hf
              refine lv_aload_n hx hb dX12_share_70 rfl (lv_at hl 1 rfl) ?_
              refine va_get (D := (dC, dI)) (ci := 12) (v := .ref h_all) (C := RX12) (T := TX12) (N := 21) hx hb hts hin12 hown hK hP 0 rfl rfl 0 (by decide) kf7 (fun _ h9 => h9) rfl dX12_share_71 ?_
              refine lv_iload hx hb dX12_share_74 (lv_at hl 0 rfl) ?_
              refine lv_bipush (v := (18 : Int32)) hx hb dX12_share_76 (by decide) ?_
              refine lv_iadd hx hb dX12_share_78 ?_
              have hi79 := if_no hf
              rw [if_neg hi79] at hf
              refine va_iald hx hb hK hP 1 1 rfl rfl hi79 dX12_share_79 ?_
              refine lv_goto (tgt := 95) hx hb dX12_share_80 (by decide) ?_
              refine lv_istore_n (lv' := [(2, .int (M_h 0 ((((2080 : Int32) + ((19 : Int32) * x3)) + (18 : Int32))).toNatClampNeg)), (4, .int ((2080 : Int32) + ((19 : Int32) * x3))), (0, .ref h), (1, .int x1), (3, .int x3)]) hx hb dX12_share_95 rfl hl (by decide) rfl (fun ls hl => ?_)
              refine lv_iinc (v := (x3 + (1 : Int32))) (lv' := [(3, .int (x3 + (1 : Int32))), (2, .int (M_h 0 ((((2080 : Int32) + ((19 : Int32) * x3)) + (18 : Int32))).toNatClampNeg)), (4, .int ((2080 : Int32) + ((19 : Int32) * x3))), (0, .ref h), (1, .int x1)]) hx hb dX12_share_96 hl (k := 4) rfl rfl (by decide) rfl (fun ls hl => ?_)
              refine lv_goto (tgt := 4) hx hb dX12_share_99 (by decide) ?_
              exact ih x1 (M_h 0 ((((2080 : Int32) + ((19 : Int32) * x3)) + (18 : Int32))).toNatClampNeg) (x3 + (1 : Int32)) ls hf (lv_sub hl [3, 4, 1, 0] rfl)
          · rw [if_pos hc50] at hf
            refine lv_iconst (v := (0 : Int32)) hx hb dX12_share_53 (by decide) ?_
            have hq := Option.some.inj hf
            subst hq
            exact W.iret (v := (0 : Int32)) hx hb hr (fun t ht hW => ⟨rfl, ht⟩) (fun q h => by cases h) dX12_share_54
        · rw [if_pos hc32] at hf
          refine lv_goto (tgt := 96) hx hb dX12_share_35 (by decide) ?_
          refine lv_iinc (v := (x3 + (1 : Int32))) (lv' := [(3, .int (x3 + (1 : Int32))), (4, .int ((2080 : Int32) + ((19 : Int32) * x3))), (0, .ref h), (1, .int x1), (2, .int x2)]) hx hb dX12_share_96 hl (k := 4) rfl rfl (by decide) rfl (fun ls hl => ?_)
          refine lv_goto (tgt := 4) hx hb dX12_share_99 (by decide) ?_
          exact ih x1 x2 (x3 + (1 : Int32)) ls hf (lv_sub hl [2, 3, 4, 0] rfl)
  rw [f_X12_share] at hf
  refine lv_iconst (v := (0 : Int32)) hx hb dX12_share_0 (by decide) ?_
  refine lv_istore_n (lv' := [(2, .int (0 : Int32)), (0, .ref h), (1, .int p1)]) hx hb dX12_share_1 rfl hl (by decide) rfl (fun ls hl => ?_)
  refine lv_iconst (v := (0 : Int32)) hx hb dX12_share_2 (by decide) ?_
  refine lv_istore_n (lv' := [(3, .int (0 : Int32)), (2, .int (0 : Int32)), (0, .ref h), (1, .int p1)]) hx hb dX12_share_3 rfl hl (by decide) rfl (fun ls hl => ?_)
  exact L4 FU p1 (0 : Int32) (0 : Int32) ls hf (lv_sub hl [2, 3, 1, 0] rfl)
set_option maxHeartbeats 4000000 in
set_option maxRecDepth 100000 in
theorem c_X12_give (l : Launch) (dC : Nat → ClassId) (dI : Nat → Nat → Nat) (cyB cyI cyZ cyO : ClassId) (h h_all h_has h_read h_test h_rest h_gets h_waits h_way h_good h_left : Nat) (sz : Nat) (M_h : Mem) (p1 : Int32) (r : Int32) (R_h : Mem) (hf : f_X12_give M_h p1 = some (r, R_h)) : Met l yX12_give wsX12_give ({ frames := 4, cells := 0, slots := 0, locals := 96 } : Room) (PW dC dI cyB cyI cyZ cyO ([.ref h, .int p1] : List Value) (wX12 cyB cyI cyZ cyO h h_all h_has h_read h_test h_rest h_gets h_waits h_way h_good h_left M_h) sz) (QW dC dI (some (.int r)) (wX12 cyB cyI cyZ cyO h h_all h_has h_read h_test h_rest h_gets h_waits h_way h_good h_left R_h) (va_A (wX12 cyB cyI cyZ cyO h h_all h_has h_read h_test h_rest h_gets h_waits h_way h_good h_left M_h) sz)) 0 0 (va_A (wX12 cyB cyI cyZ cyO h h_all h_has h_read h_test h_rest h_gets h_waits h_way h_good h_left M_h) sz) := by
  refine Met.ofW (cc := cX12_give) (maxL := 6) (ret := (some .boolean)) (by decide) rfl ?_
  intro p e s m args below meth c s₁ B hml hv
  obtain ⟨rfl, hsz, hP, hCx, hD0⟩ := hv
  have hK := hCx.1
  have hN := hCx.2
  have hx := B.exec
  have hb := B.bytes
  have hr := B.returns
  have hts := atoms_spec (ws := wsX12_give) B.pre
  have hown : s.vm.findClass RX12 = some m.cls := findClass_of_methodNamed B.named
  have hlocks := B.notSynchronized
  have hin12 : ∀ w ∈ u_ws RX12 TX12 21, w ∈ wsX12_give := fun w h => List.mem_cons_of_mem _ (List.mem_append_right _ h)
  have kf7 := hts (.fieldLink RX12 7 "HoldSlipsModel" "all" "[I") (by decide +kernel)
  have kf23 := hts (.fieldLink RX12 23 "HoldSlipsModel" "rest" "[I") (by decide +kernel)
  have kf26 := hts (.fieldLink RX12 26 "HoldSlipsModel" "gets" "[I") (by decide +kernel)
  subst hsz
  have hD := hD0.self (sz := s.heap.size)
  generalize hAe : va_A (wX12 cyB cyI cyZ cyO h h_all h_has h_read h_test h_rest h_gets h_waits h_way h_good h_left M_h) s.heap.size = A at hD ⊢
  have hA : ∀ q : Nat, s.heap.size ≤ q → A q := fun q h => by rw [← hAe]; exact Or.inr h
  have hS : va_S A s.heap s.heap [] := va_S.rf
  have hl := lv_entry ([.ref h, .int p1] : List Value) (n := 6) (Nat.le_of_ble_eq_true rfl)
  rw [lg_entry_eq]
  generalize (lg_sl ([.ref h, .int p1] : List Value) ++ List.replicate (6 - (lg_sl ([.ref h, .int p1] : List Value)).length) Slot.unset).toArray = ls at hl ⊢
  have hl : lv_has ls 6 [(0, .ref h), (1, .int p1)] := hl
  have L140 : ∀ (K130 : Mem → Int32 → Int32 → Option (Int32 × Mem)) (hK130 : ∀ (M_h : Mem) (x1 : Int32) (x3 : Int32) (H : Heap) (locs : List Loc) (ls : Array Slot), K130 M_h x1 x3 = some (r, R_h) → va_P (dC, dI) vwCl (wX12 cyB cyI cyZ cyO h h_all h_has h_read h_test h_rest h_gets h_waits h_way h_good h_left M_h) H → va_D A (wX12 cyB cyI cyZ cyO h h_all h_has h_read h_test h_rest h_gets h_waits h_way h_good h_left M_h) → va_S A s.heap H locs → lv_has ls 6 [(0, .ref h), (1, .int x1), (3, .int x3)] → W p l e (headSpec wsX12_give ({ frames := 4, cells := 0, slots := 0, locals := 96 } : Room)).room s m ([.ref h, .int p1] : List Value).toArray below meth c H locs 0 0 (MQ below (QW dC dI (some (.int r)) (wX12 cyB cyI cyZ cyO h h_all h_has h_read h_test h_rest h_gets h_waits h_way h_good h_left R_h) A) ([.ref h, .int p1] : List Value).toArray s 0 0 A) (F0 m 130 ls [])) (n : Nat), ∀ (M_h : Mem) (x1 : Int32) (x3 : Int32) (x4 : Int32) (x5 : Int32) (H : Heap) (locs : List Loc) (ls : Array Slot), f_X12_give_L140 K130 n M_h x1 x3 x4 x5 = some (r, R_h) → va_P (dC, dI) vwCl (wX12 cyB cyI cyZ cyO h h_all h_has h_read h_test h_rest h_gets h_waits h_way h_good h_left M_h) H → va_D A (wX12 cyB cyI cyZ cyO h h_all h_has h_read h_test h_rest h_gets h_waits h_way h_good h_left M_h) → va_S A s.heap H locs → lv_has ls 6 [(0, .ref h), (1, .int x1), (3, .int x3), (4, .int x4), (5, .int x5)] → W p l e (headSpec wsX12_give ({ frames := 4, cells := 0, slots := 0, locals := 96 } : Room)).room s m ([.ref h, .int p1] : List Value).toArray below meth c H locs 0 0 (MQ below (QW dC dI (some (.int r)) (wX12 cyB cyI cyZ cyO h h_all h_has h_read h_test h_rest h_gets h_waits h_way h_good h_left R_h) A) ([.ref h, .int p1] : List Value).toArray s 0 0 A) (F0 m 140 ls []) := by
    intro K130 hK130 n
    induction n with
    | zero => intro M_h x1 x3 x4 x5 H locs ls hf hP hD hS hl; rw [f_X12_give_L140] at hf; cases hf
    | succ n ih =>
      intro M_h x1 x3 x4 x5 H locs ls hf hP hD hS hl
      rw [f_X12_give_L140] at hf
      refine lv_iload hx hb dX12_give_140 (lv_at hl 4 rfl) ?_
      refine lv_aload_n hx hb dX12_give_142 rfl (lv_at hl 0 rfl) ?_
      refine va_get (D := (dC, dI)) (ci := 12) (v := .ref h_all) (C := RX12) (T := TX12) (N := 21) hx hb hts hin12 hown hK hP 0 rfl rfl 0 (by decide) kf7 (fun _ h9 => h9) rfl dX12_give_143 ?_
      refine lv_iconst (v := (3 : Int32)) hx hb dX12_give_146 (by decide) ?_
      refine va_iald hx hb hK hP 1 1 rfl rfl (show ¬ ((3 : Int32) < 0 ∨ 11160 ≤ ((3 : Int32)).toNatClampNeg) by decide) dX12_give_147 ?_
      refine lv_icmp_ge (tgt := 178) hx hb dX12_give_148 (by decide) (fun hc148 => ?_) (fun hc148 => ?_)
      · rw [if_pos hc148] at hf
        refine lv_aload_n hx hb dX12_give_178 rfl (lv_at hl 0 rfl) ?_
        refine va_get (D := (dC, dI)) (ci := 12) (v := .ref h_gets) (C := RX12) (T := TX12) (N := 21) hx hb hts hin12 hown hK hP 0 rfl rfl 14 (by decide) kf26 (fun _ h9 => h9) rfl dX12_give_179 ?_
        refine lv_iload hx hb dX12_give_182 (lv_at hl 3 rfl) ?_
        refine lv_dup2_11 hx hb dX12_give_184 rfl rfl ?_
        have hi185 := if_no hf
        rw [if_neg hi185] at hf
        refine va_iald hx hb hK hP 6 1 rfl rfl hi185 dX12_give_185 ?_
        refine lv_iconst (v := (1 : Int32)) hx hb dX12_give_186 (by decide) ?_
        refine lv_iadd hx hb dX12_give_187 ?_
        refine va_iast hx hb hK hP hD hS 6 1 rfl rfl hi185 dX12_give_188 (fun H locs hP hD hS => ?_)
        obtain ⟨M_h_188, eM_h_188, hf⟩ := wr_some hf
        have hP : va_P (dC, dI) vwCl (wX12 cyB cyI cyZ cyO h h_all h_has h_read h_test h_rest h_gets h_waits h_way h_good h_left M_h_188) H := by rw [eM_h_188]; exact hP
        have hD : va_D A (wX12 cyB cyI cyZ cyO h h_all h_has h_read h_test h_rest h_gets h_waits h_way h_good h_left M_h_188) := by rw [eM_h_188]; exact hD
        refine lv_aload_n hx hb dX12_give_189 rfl (lv_at hl 0 rfl) ?_
        refine va_get (D := (dC, dI)) (ci := 12) (v := .ref h_rest) (C := RX12) (T := TX12) (N := 21) hx hb hts hin12 hown hK hP 0 rfl rfl 13 (by decide) kf23 (fun _ h9 => h9) rfl dX12_give_190 ?_
        refine lv_iload hx hb dX12_give_193 (lv_at hl 3 rfl) ?_
        refine lv_iconst (v := (-1 : Int32)) hx hb dX12_give_195 (by decide) ?_
        refine va_iast hx hb hK hP hD hS 5 1 rfl rfl hi185 dX12_give_196 (fun H locs hP hD hS => ?_)
        obtain ⟨M_h_196, eM_h_196, hf⟩ := wr_some hf
        have hP : va_P (dC, dI) vwCl (wX12 cyB cyI cyZ cyO h h_all h_has h_read h_test h_rest h_gets h_waits h_way h_good h_left M_h_196) H := by rw [eM_h_196]; exact hP
        have hD : va_D A (wX12 cyB cyI cyZ cyO h h_all h_has h_read h_test h_rest h_gets h_waits h_way h_good h_left M_h_196) := by rw [eM_h_196]; exact hD
        refine lv_iinc (v := (x3 + (-1 : Int32))) (lv' := [(3, .int (x3 + (-1 : Int32))), (0, .ref h), (1, .int x1), (4, .int x4), (5, .int x5)]) hx hb dX12_give_197 hl (k := 2) rfl rfl (by decide) rfl (fun ls hl => ?_)
        refine lv_goto (tgt := 130) hx hb dX12_give_200 (by decide) ?_
        exact hK130 M_h_196 x1 (x3 + (-1 : Int32)) _ _ ls hf hP hD hS (lv_sub hl [1, 2, 0] rfl)
      · rw [if_neg hc148] at hf
        refine lv_aload_n hx hb dX12_give_151 rfl (lv_at hl 0 rfl) ?_
        refine va_get (D := (dC, dI)) (ci := 12) (v := .ref h_rest) (C := RX12) (T := TX12) (N := 21) hx hb hts hin12 hown hK hP 0 rfl rfl 13 (by decide) kf23 (fun _ h9 => h9) rfl dX12_give_152 ?_
        refine lv_iload hx hb dX12_give_155 (lv_at hl 4 rfl) ?_
        have hi157 := if_no hf
        rw [if_neg hi157] at hf
        refine va_iald hx hb hK hP 5 1 rfl rfl hi157 dX12_give_157 ?_
        refine lv_aload_n hx hb dX12_give_158 rfl (lv_at hl 0 rfl) ?_
        refine va_get (D := (dC, dI)) (ci := 12) (v := .ref h_rest) (C := RX12) (T := TX12) (N := 21) hx hb hts hin12 hown hK hP 0 rfl rfl 13 (by decide) kf23 (fun _ h9 => h9) rfl dX12_give_159 ?_
        refine lv_iload hx hb dX12_give_162 (lv_at hl 3 rfl) ?_
        have hi164 := if_no hf
        rw [if_neg hi164] at hf
        refine va_iald hx hb hK hP 5 1 rfl rfl hi164 dX12_give_164 ?_
        refine lv_icmp_le (tgt := 172) hx hb dX12_give_165 (by decide) (fun hc165 => ?_) (fun hc165 => ?_)
        · rw [if_pos hc165] at hf
          refine lv_iinc (v := (x5 + (1 : Int32))) (lv' := [(5, .int (x5 + (1 : Int32))), (0, .ref h), (1, .int x1), (3, .int x3), (4, .int x4)]) hx hb dX12_give_172 hl (k := 4) rfl rfl (by decide) rfl (fun ls hl => ?_)
          refine lv_goto (tgt := 140) hx hb dX12_give_175 (by decide) ?_
          exact ih M_h x1 x3 x4 (x5 + (1 : Int32)) _ _ ls hf hP hD hS (lv_sub hl [1, 2, 3, 4, 0] rfl)
        · rw [if_neg hc165] at hf
          refine lv_iload hx hb dX12_give_168 (lv_at hl 4 rfl) ?_
          refine lv_istore (lv' := [(4, .int x5), (0, .ref h), (1, .int x1), (3, .int x3), (5, .int x5)]) hx hb dX12_give_170 hl (by decide) rfl (fun ls hl => ?_)
          refine lv_iinc (v := (x5 + (1 : Int32))) (lv' := [(5, .int (x5 + (1 : Int32))), (4, .int x5), (0, .ref h), (1, .int x1), (3, .int x3)]) hx hb dX12_give_172 hl (k := 4) rfl rfl (by decide) rfl (fun ls hl => ?_)
          refine lv_goto (tgt := 140) hx hb dX12_give_175 (by decide) ?_
          exact ih M_h x1 x3 x5 (x5 + (1 : Int32)) _ _ ls hf hP hD hS (lv_sub hl [2, 3, 4, 1, 0] rfl)
  have L206 : ∀ (n : Nat), ∀ (M_h : Mem) (x1 : Int32) (x4 : Int32) (H : Heap) (locs : List Loc) (ls : Array Slot), f_X12_give_L206 n M_h x1 x4 = some (r, R_h) → va_P (dC, dI) vwCl (wX12 cyB cyI cyZ cyO h h_all h_has h_read h_test h_rest h_gets h_waits h_way h_good h_left M_h) H → va_D A (wX12 cyB cyI cyZ cyO h h_all h_has h_read h_test h_rest h_gets h_waits h_way h_good h_left M_h) → va_S A s.heap H locs → lv_has ls 6 [(0, .ref h), (1, .int x1), (4, .int x4)] → W p l e (headSpec wsX12_give ({ frames := 4, cells := 0, slots := 0, locals := 96 } : Room)).room s m ([.ref h, .int p1] : List Value).toArray below meth c H locs 0 0 (MQ below (QW dC dI (some (.int r)) (wX12 cyB cyI cyZ cyO h h_all h_has h_read h_test h_rest h_gets h_waits h_way h_good h_left R_h) A) ([.ref h, .int p1] : List Value).toArray s 0 0 A) (F0 m 206 ls []) := by
    intro n
    induction n with
    | zero => intro M_h x1 x4 H locs ls hf hP hD hS hl; rw [f_X12_give_L206] at hf; cases hf
    | succ n ih =>
      intro M_h x1 x4 H locs ls hf hP hD hS hl
      rw [f_X12_give_L206] at hf
      refine lv_iload hx hb dX12_give_206 (lv_at hl 2 rfl) ?_
      refine lv_aload_n hx hb dX12_give_208 rfl (lv_at hl 0 rfl) ?_
      refine va_get (D := (dC, dI)) (ci := 12) (v := .ref h_all) (C := RX12) (T := TX12) (N := 21) hx hb hts hin12 hown hK hP 0 rfl rfl 0 (by decide) kf7 (fun _ h9 => h9) rfl dX12_give_209 ?_
      refine lv_iconst (v := (3 : Int32)) hx hb dX12_give_212 (by decide) ?_
      refine va_iald hx hb hK hP 1 1 rfl rfl (show ¬ ((3 : Int32) < 0 ∨ 11160 ≤ ((3 : Int32)).toNatClampNeg) by decide) dX12_give_213 ?_
      refine lv_icmp_ge (tgt := 267) hx hb dX12_give_214 (by decide) (fun hc214 => ?_) (fun hc214 => ?_)
      · rw [if_pos hc214] at hf
        refine lv_aload_n hx hb dX12_give_267 rfl (lv_at hl 0 rfl) ?_
        refine va_get (D := (dC, dI)) (ci := 12) (v := .ref h_all) (C := RX12) (T := TX12) (N := 21) hx hb hts hin12 hown hK hP 0 rfl rfl 0 (by decide) kf7 (fun _ h9 => h9) rfl dX12_give_268 ?_
        refine lv_iconst (v := (2 : Int32)) hx hb dX12_give_271 (by decide) ?_
        refine lv_iload_n hx hb dX12_give_272 rfl (lv_at hl 1 rfl) ?_
        refine va_iast hx hb hK hP hD hS 1 1 rfl rfl (show ¬ ((2 : Int32) < 0 ∨ 11160 ≤ ((2 : Int32)).toNatClampNeg) by decide) dX12_give_273 (fun H locs hP hD hS => ?_)
        obtain ⟨M_h_273, eM_h_273, hf⟩ := wr_some hf
        have hP : va_P (dC, dI) vwCl (wX12 cyB cyI cyZ cyO h h_all h_has h_read h_test h_rest h_gets h_waits h_way h_good h_left M_h_273) H := by rw [eM_h_273]; exact hP
        have hD : va_D A (wX12 cyB cyI cyZ cyO h h_all h_has h_read h_test h_rest h_gets h_waits h_way h_good h_left M_h_273) := by rw [eM_h_273]; exact hD
        refine lv_iconst (v := (1 : Int32)) hx hb dX12_give_274 (by decide) ?_
        obtain ⟨hq0, hq1⟩ := pj2 hf
        subst hq0
        subst hq1
        exact W.zret (v := (1 : Int32)) hx hb hr rfl (fun t ht hW => ⟨rfl, by rw [ht]; exact hP, hD, hS.F ht⟩) hS.2.2 dX12_give_275
      · rw [if_neg hc214] at hf
        refine lv_aload_n hx hb dX12_give_217 rfl (lv_at hl 0 rfl) ?_
        refine va_get (D := (dC, dI)) (ci := 12) (v := .ref h_all) (C := RX12) (T := TX12) (N := 21) hx hb hts hin12 hown hK hP 0 rfl rfl 0 (by decide) kf7 (fun _ h9 => h9) rfl dX12_give_218 ?_
        refine lv_bipush (v := (20 : Int32)) hx hb dX12_give_221 (by decide) ?_
        refine lv_bipush (v := (8 : Int32)) hx hb dX12_give_223 (by decide) ?_
        refine lv_iload hx hb dX12_give_225 (lv_at hl 2 rfl) ?_
        refine lv_imul hx hb dX12_give_227 ?_
        refine lv_iadd hx hb dX12_give_228 ?_
        refine lv_iconst (v := (2 : Int32)) hx hb dX12_give_229 (by decide) ?_
        refine lv_iadd hx hb dX12_give_230 ?_
        refine lv_aload_n hx hb dX12_give_231 rfl (lv_at hl 0 rfl) ?_
        refine va_get (D := (dC, dI)) (ci := 12) (v := .ref h_gets) (C := RX12) (T := TX12) (N := 21) hx hb hts hin12 hown hK hP 0 rfl rfl 14 (by decide) kf26 (fun _ h9 => h9) rfl dX12_give_232 ?_
        refine lv_iload hx hb dX12_give_235 (lv_at hl 2 rfl) ?_
        have hi237 := if_no hf
        rw [if_neg hi237] at hf
        refine va_iald hx hb hK hP 6 1 rfl rfl hi237 dX12_give_237 ?_
        have hi238 := if_no hf
        rw [if_neg hi238] at hf
        refine va_iast hx hb hK hP hD hS 1 1 rfl rfl hi238 dX12_give_238 (fun H locs hP hD hS => ?_)
        obtain ⟨M_h_238, eM_h_238, hf⟩ := wr_some hf
        have hP : va_P (dC, dI) vwCl (wX12 cyB cyI cyZ cyO h h_all h_has h_read h_test h_rest h_gets h_waits h_way h_good h_left M_h_238) H := by rw [eM_h_238]; exact hP
        have hD : va_D A (wX12 cyB cyI cyZ cyO h h_all h_has h_read h_test h_rest h_gets h_waits h_way h_good h_left M_h_238) := by rw [eM_h_238]; exact hD
        refine lv_aload_n hx hb dX12_give_239 rfl (lv_at hl 0 rfl) ?_
        refine va_get (D := (dC, dI)) (ci := 12) (v := .ref h_all) (C := RX12) (T := TX12) (N := 21) hx hb hts hin12 hown hK hP 0 rfl rfl 0 (by decide) kf7 (fun _ h9 => h9) rfl dX12_give_240 ?_
        refine lv_bipush (v := (20 : Int32)) hx hb dX12_give_243 (by decide) ?_
        refine lv_bipush (v := (8 : Int32)) hx hb dX12_give_245 (by decide) ?_
        refine lv_iload hx hb dX12_give_247 (lv_at hl 2 rfl) ?_
        refine lv_imul hx hb dX12_give_249 ?_
        refine lv_iadd hx hb dX12_give_250 ?_
        refine lv_iconst (v := (3 : Int32)) hx hb dX12_give_251 (by decide) ?_
        refine lv_iadd hx hb dX12_give_252 ?_
        refine lv_aload_n hx hb dX12_give_253 rfl (lv_at hl 0 rfl) ?_
        refine va_get (D := (dC, dI)) (ci := 12) (v := .ref h_gets) (C := RX12) (T := TX12) (N := 21) hx hb hts hin12 hown hK hP 0 rfl rfl 14 (by decide) kf26 (fun _ h9 => h9) rfl dX12_give_254 ?_
        refine lv_iload hx hb dX12_give_257 (lv_at hl 2 rfl) ?_
        refine va_iald hx hb hK hP 6 1 rfl rfl hi237 dX12_give_259 ?_
        have hi260 := if_no hf
        rw [if_neg hi260] at hf
        refine va_iast hx hb hK hP hD hS 1 1 rfl rfl hi260 dX12_give_260 (fun H locs hP hD hS => ?_)
        obtain ⟨M_h_260, eM_h_260, hf⟩ := wr_some hf
        have hP : va_P (dC, dI) vwCl (wX12 cyB cyI cyZ cyO h h_all h_has h_read h_test h_rest h_gets h_waits h_way h_good h_left M_h_260) H := by rw [eM_h_260]; exact hP
        have hD : va_D A (wX12 cyB cyI cyZ cyO h h_all h_has h_read h_test h_rest h_gets h_waits h_way h_good h_left M_h_260) := by rw [eM_h_260]; exact hD
        refine lv_iinc (v := (x4 + (1 : Int32))) (lv' := [(4, .int (x4 + (1 : Int32))), (0, .ref h), (1, .int x1)]) hx hb dX12_give_261 hl (k := 2) rfl rfl (by decide) rfl (fun ls hl => ?_)
        refine lv_goto (tgt := 206) hx hb dX12_give_264 (by decide) ?_
        exact ih M_h_260 x1 (x4 + (1 : Int32)) _ _ ls hf hP hD hS (lv_sub hl [1, 2, 0] rfl)
  have L130 : ∀ (n : Nat), ∀ (M_h : Mem) (x1 : Int32) (x3 : Int32) (H : Heap) (locs : List Loc) (ls : Array Slot), f_X12_give_L130 n M_h x1 x3 = some (r, R_h) → va_P (dC, dI) vwCl (wX12 cyB cyI cyZ cyO h h_all h_has h_read h_test h_rest h_gets h_waits h_way h_good h_left M_h) H → va_D A (wX12 cyB cyI cyZ cyO h h_all h_has h_read h_test h_rest h_gets h_waits h_way h_good h_left M_h) → va_S A s.heap H locs → lv_has ls 6 [(0, .ref h), (1, .int x1), (3, .int x3)] → W p l e (headSpec wsX12_give ({ frames := 4, cells := 0, slots := 0, locals := 96 } : Room)).room s m ([.ref h, .int p1] : List Value).toArray below meth c H locs 0 0 (MQ below (QW dC dI (some (.int r)) (wX12 cyB cyI cyZ cyO h h_all h_has h_read h_test h_rest h_gets h_waits h_way h_good h_left R_h) A) ([.ref h, .int p1] : List Value).toArray s 0 0 A) (F0 m 130 ls []) := by
    intro n
    induction n with
    | zero => intro M_h x1 x3 H locs ls hf hP hD hS hl; rw [f_X12_give_L130] at hf; cases hf
    | succ n ih =>
      intro M_h x1 x3 H locs ls hf hP hD hS hl
      rw [f_X12_give_L130] at hf
      refine lv_iload_n hx hb dX12_give_130 rfl (lv_at hl 2 rfl) ?_
      refine lv_if_le (tgt := 203) hx hb dX12_give_131 (by decide) (fun hc131 => ?_) (fun hc131 => ?_)
      · rw [if_pos hc131] at hf
        refine lv_iconst (v := (0 : Int32)) hx hb dX12_give_203 (by decide) ?_
        refine lv_istore (lv' := [(4, .int (0 : Int32)), (0, .ref h), (1, .int x1), (3, .int x3)]) hx hb dX12_give_204 hl (by decide) rfl (fun ls hl => ?_)
        exact L206 FU M_h x1 (0 : Int32) _ _ ls hf hP hD hS (lv_sub hl [1, 2, 0] rfl)
      · rw [if_neg hc131] at hf
        refine lv_iconst (v := (0 : Int32)) hx hb dX12_give_134 (by decide) ?_
        refine lv_istore (lv' := [(4, .int (0 : Int32)), (0, .ref h), (1, .int x1), (3, .int x3)]) hx hb dX12_give_135 hl (by decide) rfl (fun ls hl => ?_)
        refine lv_iconst (v := (1 : Int32)) hx hb dX12_give_137 (by decide) ?_
        refine lv_istore (lv' := [(5, .int (1 : Int32)), (4, .int (0 : Int32)), (0, .ref h), (1, .int x1), (3, .int x3)]) hx hb dX12_give_138 hl (by decide) rfl (fun ls hl => ?_)
        exact L140 (f_X12_give_L130 n) (fun z0 z1 z2 z3 z4 z5 z6 z7 z8 z9 z10 => ih z0 z1 z2 z3 z4 z5 z6 z7 z8 z9 z10) FU M_h x1 x3 (0 : Int32) (1 : Int32) _ _ ls hf hP hD hS (lv_sub hl [2, 3, 4, 1, 0] rfl)
  have L69 : ∀ (n : Nat), ∀ (M_h : Mem) (x1 : Int32) (x2 : Int32) (x3 : Int32) (x4 : Int32) (H : Heap) (locs : List Loc) (ls : Array Slot), f_X12_give_L69 n M_h x1 x2 x3 x4 = some (r, R_h) → va_P (dC, dI) vwCl (wX12 cyB cyI cyZ cyO h h_all h_has h_read h_test h_rest h_gets h_waits h_way h_good h_left M_h) H → va_D A (wX12 cyB cyI cyZ cyO h h_all h_has h_read h_test h_rest h_gets h_waits h_way h_good h_left M_h) → va_S A s.heap H locs → lv_has ls 6 [(0, .ref h), (1, .int x1), (2, .int x2), (3, .int x3), (4, .int x4)] → W p l e (headSpec wsX12_give ({ frames := 4, cells := 0, slots := 0, locals := 96 } : Room)).room s m ([.ref h, .int p1] : List Value).toArray below meth c H locs 0 0 (MQ below (QW dC dI (some (.int r)) (wX12 cyB cyI cyZ cyO h h_all h_has h_read h_test h_rest h_gets h_waits h_way h_good h_left R_h) A) ([.ref h, .int p1] : List Value).toArray s 0 0 A) (F0 m 69 ls []) := by
    intro n
    induction n with
    | zero => intro M_h x1 x2 x3 x4 H locs ls hf hP hD hS hl; rw [f_X12_give_L69] at hf; cases hf
    | succ n ih =>
      intro M_h x1 x2 x3 x4 H locs ls hf hP hD hS hl
      rw [f_X12_give_L69] at hf
      refine lv_iload hx hb dX12_give_69 (lv_at hl 4 rfl) ?_
      refine lv_aload_n hx hb dX12_give_71 rfl (lv_at hl 0 rfl) ?_
      refine va_get (D := (dC, dI)) (ci := 12) (v := .ref h_all) (C := RX12) (T := TX12) (N := 21) hx hb hts hin12 hown hK hP 0 rfl rfl 0 (by decide) kf7 (fun _ h9 => h9) rfl dX12_give_72 ?_
      refine lv_iconst (v := (3 : Int32)) hx hb dX12_give_75 (by decide) ?_
      refine va_iald hx hb hK hP 1 1 rfl rfl (show ¬ ((3 : Int32) < 0 ∨ 11160 ≤ ((3 : Int32)).toNatClampNeg) by decide) dX12_give_76 ?_
      refine lv_icmp_ge (tgt := 130) hx hb dX12_give_77 (by decide) (fun hc77 => ?_) (fun hc77 => ?_)
      · rw [if_pos hc77] at hf
        exact L130 FU M_h x1 x3 _ _ ls hf hP hD hS (lv_sub hl [0, 1, 3] rfl)
      · rw [if_neg hc77] at hf
        refine lv_aload_n hx hb dX12_give_80 rfl (lv_at hl 0 rfl) ?_
        refine va_get (D := (dC, dI)) (ci := 12) (v := .ref h_gets) (C := RX12) (T := TX12) (N := 21) hx hb hts hin12 hown hK hP 0 rfl rfl 14 (by decide) kf26 (fun _ h9 => h9) rfl dX12_give_81 ?_
        refine lv_iload hx hb dX12_give_84 (lv_at hl 4 rfl) ?_
        refine lv_iload_n hx hb dX12_give_86 rfl (lv_at hl 1 rfl) ?_
        refine lv_aload_n hx hb dX12_give_87 rfl (lv_at hl 0 rfl) ?_
        refine lv_iload hx hb dX12_give_88 (lv_at hl 4 rfl) ?_
        obtain ⟨r90, h90, hf⟩ := bd1_some hf
        refine ro_calli (va_runV (As := [.int x4]) (rest := [.int x1, .int x4, .ref h_gets]) ⟨hx, hb, hml, hown, hts⟩ (c_X12_share l dC dI cyB cyI cyZ cyO h h_all h_has h_read h_test h_rest h_gets h_waits h_way h_good h_left M_h x4 r90 h90) (cwV 1 hts gX12_give_X12_share rfl rfl rfl (by decide +kernel) ⟨Nat.le_of_ble_eq_true rfl, Nat.le_of_ble_eq_true rfl⟩) ⟨PR.blind, va_recv hK hP (ci := 12) (q0 := 0) rfl rfl, fun U hU hW => ⟨rfl, by rw [hU]; exact hP, hCx.warm hW⟩⟩ rfl rfl hl.1 rfl (lv_room (Nat.le_of_ble_eq_true rfl)) dX12_give_90 ⟨Nat.zero_le _, Nat.zero_le _⟩) ?_
        refine lv_imul hx hb dX12_give_93 ?_
        refine lv_iload_n hx hb dX12_give_94 rfl (lv_at hl 2 rfl) ?_
        have hz95 := if_no hf
        rw [if_neg hz95] at hf
        refine lv_idiv hx hb dX12_give_95 hz95 ?_
        have hi96 := if_no hf
        rw [if_neg hi96] at hf
        refine va_iast hx hb hK hP hD hS 6 1 rfl rfl hi96 dX12_give_96 (fun H locs hP hD hS => ?_)
        obtain ⟨M_h_96, eM_h_96, hf⟩ := wr_some hf
        have hP : va_P (dC, dI) vwCl (wX12 cyB cyI cyZ cyO h h_all h_has h_read h_test h_rest h_gets h_waits h_way h_good h_left M_h_96) H := by rw [eM_h_96]; exact hP
        have hD : va_D A (wX12 cyB cyI cyZ cyO h h_all h_has h_read h_test h_rest h_gets h_waits h_way h_good h_left M_h_96) := by rw [eM_h_96]; exact hD
        refine lv_aload_n hx hb dX12_give_97 rfl (lv_at hl 0 rfl) ?_
        refine va_get (D := (dC, dI)) (ci := 12) (v := .ref h_rest) (C := RX12) (T := TX12) (N := 21) hx hb hts hin12 hown hK hP 0 rfl rfl 13 (by decide) kf23 (fun _ h9 => h9) rfl dX12_give_98 ?_
        refine lv_iload hx hb dX12_give_101 (lv_at hl 4 rfl) ?_
        refine lv_iload_n hx hb dX12_give_103 rfl (lv_at hl 1 rfl) ?_
        refine lv_aload_n hx hb dX12_give_104 rfl (lv_at hl 0 rfl) ?_
        refine lv_iload hx hb dX12_give_105 (lv_at hl 4 rfl) ?_
        obtain ⟨r107, h107, hf⟩ := bd1_some hf
        refine ro_calli (va_runV (As := [.int x4]) (rest := [.int x1, .int x4, .ref h_rest]) ⟨hx, hb, hml, hown, hts⟩ (c_X12_share l dC dI cyB cyI cyZ cyO h h_all h_has h_read h_test h_rest h_gets h_waits h_way h_good h_left M_h_96 x4 r107 h107) (cwV 1 hts gX12_give_X12_share rfl rfl rfl (by decide +kernel) ⟨Nat.le_of_ble_eq_true rfl, Nat.le_of_ble_eq_true rfl⟩) ⟨PR.blind, va_recv hK hP (ci := 12) (q0 := 0) rfl rfl, fun U hU hW => ⟨rfl, by rw [hU]; exact hP, hCx.warm hW⟩⟩ rfl rfl hl.1 rfl (lv_room (Nat.le_of_ble_eq_true rfl)) dX12_give_107 ⟨Nat.zero_le _, Nat.zero_le _⟩) ?_
        refine lv_imul hx hb dX12_give_110 ?_
        refine lv_iload_n hx hb dX12_give_111 rfl (lv_at hl 2 rfl) ?_
        have hz112 := if_no hf
        rw [if_neg hz112] at hf
        refine lv_irem hx hb dX12_give_112 hz112 ?_
        refine va_iast hx hb hK hP hD hS 5 1 rfl rfl hi96 dX12_give_113 (fun H locs hP hD hS => ?_)
        obtain ⟨M_h_113, eM_h_113, hf⟩ := wr_some hf
        have hP : va_P (dC, dI) vwCl (wX12 cyB cyI cyZ cyO h h_all h_has h_read h_test h_rest h_gets h_waits h_way h_good h_left M_h_113) H := by rw [eM_h_113]; exact hP
        have hD : va_D A (wX12 cyB cyI cyZ cyO h h_all h_has h_read h_test h_rest h_gets h_waits h_way h_good h_left M_h_113) := by rw [eM_h_113]; exact hD
        refine lv_iload_n hx hb dX12_give_114 rfl (lv_at hl 3 rfl) ?_
        refine lv_aload_n hx hb dX12_give_115 rfl (lv_at hl 0 rfl) ?_
        refine va_get (D := (dC, dI)) (ci := 12) (v := .ref h_gets) (C := RX12) (T := TX12) (N := 21) hx hb hts hin12 hown hK hP 0 rfl rfl 14 (by decide) kf26 (fun _ h9 => h9) rfl dX12_give_116 ?_
        refine lv_iload hx hb dX12_give_119 (lv_at hl 4 rfl) ?_
        refine va_iald hx hb hK hP 6 1 rfl rfl hi96 dX12_give_121 ?_
        refine lv_isub hx hb dX12_give_122 ?_
        refine lv_istore_n (lv' := [(3, .int (x3 - (M_h_113 14 (x4).toNatClampNeg))), (0, .ref h), (1, .int x1), (2, .int x2), (4, .int x4)]) hx hb dX12_give_123 rfl hl (by decide) rfl (fun ls hl => ?_)
        refine lv_iinc (v := (x4 + (1 : Int32))) (lv' := [(4, .int (x4 + (1 : Int32))), (3, .int (x3 - (M_h_113 14 (x4).toNatClampNeg))), (0, .ref h), (1, .int x1), (2, .int x2)]) hx hb dX12_give_124 hl (k := 4) rfl rfl (by decide) rfl (fun ls hl => ?_)
        refine lv_goto (tgt := 69) hx hb dX12_give_127 (by decide) ?_
        exact ih M_h_113 x1 x2 (x3 - (M_h_113 14 (x4).toNatClampNeg)) (x4 + (1 : Int32)) _ _ ls hf hP hD hS (lv_sub hl [2, 3, 4, 1, 0] rfl)
  have L4 : ∀ (n : Nat), ∀ (M_h : Mem) (x1 : Int32) (x2 : Int32) (x3 : Int32) (H : Heap) (locs : List Loc) (ls : Array Slot), f_X12_give_L4 n M_h x1 x2 x3 = some (r, R_h) → va_P (dC, dI) vwCl (wX12 cyB cyI cyZ cyO h h_all h_has h_read h_test h_rest h_gets h_waits h_way h_good h_left M_h) H → va_D A (wX12 cyB cyI cyZ cyO h h_all h_has h_read h_test h_rest h_gets h_waits h_way h_good h_left M_h) → va_S A s.heap H locs → lv_has ls 6 [(0, .ref h), (1, .int x1), (2, .int x2), (3, .int x3)] → W p l e (headSpec wsX12_give ({ frames := 4, cells := 0, slots := 0, locals := 96 } : Room)).room s m ([.ref h, .int p1] : List Value).toArray below meth c H locs 0 0 (MQ below (QW dC dI (some (.int r)) (wX12 cyB cyI cyZ cyO h h_all h_has h_read h_test h_rest h_gets h_waits h_way h_good h_left R_h) A) ([.ref h, .int p1] : List Value).toArray s 0 0 A) (F0 m 4 ls []) := by
    intro n
    induction n with
    | zero => intro M_h x1 x2 x3 H locs ls hf hP hD hS hl; rw [f_X12_give_L4] at hf; cases hf
    | succ n ih =>
      intro M_h x1 x2 x3 H locs ls hf hP hD hS hl
      rw [f_X12_give_L4] at hf
      refine lv_iload_n hx hb dX12_give_4 rfl (lv_at hl 3 rfl) ?_
      refine lv_aload_n hx hb dX12_give_5 rfl (lv_at hl 0 rfl) ?_
      refine va_get (D := (dC, dI)) (ci := 12) (v := .ref h_all) (C := RX12) (T := TX12) (N := 21) hx hb hts hin12 hown hK hP 0 rfl rfl 0 (by decide) kf7 (fun _ h9 => h9) rfl dX12_give_6 ?_
      refine lv_iconst (v := (3 : Int32)) hx hb dX12_give_9 (by decide) ?_
      refine va_iald hx hb hK hP 1 1 rfl rfl (show ¬ ((3 : Int32) < 0 ∨ 11160 ≤ ((3 : Int32)).toNatClampNeg) by decide) dX12_give_10 ?_
      refine lv_icmp_ge (tgt := 28) hx hb dX12_give_11 (by decide) (fun hc11 => ?_) (fun hc11 => ?_)
      · rw [if_pos hc11] at hf
        refine lv_aload_n hx hb dX12_give_28 rfl (lv_at hl 0 rfl) ?_
        refine va_get (D := (dC, dI)) (ci := 12) (v := .ref h_all) (C := RX12) (T := TX12) (N := 21) hx hb hts hin12 hown hK hP 0 rfl rfl 0 (by decide) kf7 (fun _ h9 => h9) rfl dX12_give_29 ?_
        refine lv_iconst (v := (1 : Int32)) hx hb dX12_give_32 (by decide) ?_
        refine va_iald hx hb hK hP 1 1 rfl rfl (show ¬ ((1 : Int32) < 0 ∨ 11160 ≤ ((1 : Int32)).toNatClampNeg) by decide) dX12_give_33 ?_
        refine lv_iconst (v := (1 : Int32)) hx hb dX12_give_34 (by decide) ?_
        refine lv_icmp_eq (tgt := 62) hx hb dX12_give_35 (by decide) (fun hc35 => ?_) (fun hc35 => ?_)
        · rw [if_pos hc35] at hf
          refine lv_iconst (v := (0 : Int32)) hx hb dX12_give_62 (by decide) ?_
          obtain ⟨hq0, hq1⟩ := pj2 hf
          subst hq0
          subst hq1
          exact W.zret (v := (0 : Int32)) hx hb hr rfl (fun t ht hW => ⟨rfl, by rw [ht]; exact hP, hD, hS.F ht⟩) hS.2.2 dX12_give_63
        · rw [if_neg hc35] at hf
          refine lv_aload_n hx hb dX12_give_38 rfl (lv_at hl 0 rfl) ?_
          refine va_get (D := (dC, dI)) (ci := 12) (v := .ref h_all) (C := RX12) (T := TX12) (N := 21) hx hb hts hin12 hown hK hP 0 rfl rfl 0 (by decide) kf7 (fun _ h9 => h9) rfl dX12_give_39 ?_
          refine lv_iconst (v := (2 : Int32)) hx hb dX12_give_42 (by decide) ?_
          refine va_iald hx hb hK hP 1 1 rfl rfl (show ¬ ((2 : Int32) < 0 ∨ 11160 ≤ ((2 : Int32)).toNatClampNeg) by decide) dX12_give_43 ?_
          refine lv_if_gt (tgt := 62) hx hb dX12_give_44 (by decide) (fun hc44 => ?_) (fun hc44 => ?_)
          · rw [if_pos hc44] at hf
            refine lv_iconst (v := (0 : Int32)) hx hb dX12_give_62 (by decide) ?_
            obtain ⟨hq0, hq1⟩ := pj2 hf
            subst hq0
            subst hq1
            exact W.zret (v := (0 : Int32)) hx hb hr rfl (fun t ht hW => ⟨rfl, by rw [ht]; exact hP, hD, hS.F ht⟩) hS.2.2 dX12_give_63
          · rw [if_neg hc44] at hf
            refine lv_iload_n hx hb dX12_give_47 rfl (lv_at hl 1 rfl) ?_
            refine lv_iconst (v := (1 : Int32)) hx hb dX12_give_48 (by decide) ?_
            refine lv_sipush (v := (400 : Int32)) hx hb dX12_give_49 (by decide) ?_
            obtain ⟨r52, h52, hf⟩ := bd1_some hf
            have hPc := hP.sub (ws' := ([] : va_W)) [] rfl
            refine ro_calli (va_runS (As := [.int x1, .int (1 : Int32), .int (400 : Int32)]) (rest := []) ⟨hx, hb, hml, hown, hts⟩ (c_X12_isIn l dC dI cyB cyI cyZ cyO x1 (1 : Int32) (400 : Int32) r52 h52) (va_cwS 3 hts gX12_give_X12_isIn rfl rfl rfl (by decide +kernel) ⟨Nat.le_of_ble_eq_true rfl, Nat.le_of_ble_eq_true rfl⟩) ⟨PR.blind, fun U hU hW => ⟨rfl, by rw [hU]; exact hPc, hCx.warm hW⟩⟩ rfl rfl hl.1 rfl (lv_room (Nat.le_of_ble_eq_true rfl)) dX12_give_52 ⟨Nat.zero_le _, Nat.zero_le _⟩) ?_
            refine lv_if_eq (tgt := 62) hx hb dX12_give_55 (by decide) (fun hc55 => ?_) (fun hc55 => ?_)
            · rw [if_pos hc55] at hf
              refine lv_iconst (v := (0 : Int32)) hx hb dX12_give_62 (by decide) ?_
              obtain ⟨hq0, hq1⟩ := pj2 hf
              subst hq0
              subst hq1
              exact W.zret (v := (0 : Int32)) hx hb hr rfl (fun t ht hW => ⟨rfl, by rw [ht]; exact hP, hD, hS.F ht⟩) hS.2.2 dX12_give_63
            · rw [if_neg hc55] at hf
              refine lv_iload_n hx hb dX12_give_58 rfl (lv_at hl 2 rfl) ?_
              refine lv_if_ne (tgt := 64) hx hb dX12_give_59 (by decide) (fun hc59 => ?_) (fun hc59 => ?_)
              · rw [if_neg hc59] at hf
                refine lv_iload_n hx hb dX12_give_64 rfl (lv_at hl 1 rfl) ?_
                refine lv_istore_n (lv' := [(3, .int x1), (0, .ref h), (1, .int x1), (2, .int x2)]) hx hb dX12_give_65 rfl hl (by decide) rfl (fun ls hl => ?_)
                refine lv_iconst (v := (0 : Int32)) hx hb dX12_give_66 (by decide) ?_
                refine lv_istore (lv' := [(4, .int (0 : Int32)), (3, .int x1), (0, .ref h), (1, .int x1), (2, .int x2)]) hx hb dX12_give_67 hl (by decide) rfl (fun ls hl => ?_)
                exact L69 FU M_h x1 x2 x1 (0 : Int32) _ _ ls hf hP hD hS (lv_sub hl [2, 3, 4, 1, 0] rfl)
              · rw [if_pos hc59] at hf
                refine lv_iconst (v := (0 : Int32)) hx hb dX12_give_62 (by decide) ?_
                obtain ⟨hq0, hq1⟩ := pj2 hf
                subst hq0
                subst hq1
                exact W.zret (v := (0 : Int32)) hx hb hr rfl (fun t ht hW => ⟨rfl, by rw [ht]; exact hP, hD, hS.F ht⟩) hS.2.2 dX12_give_63
      · rw [if_neg hc11] at hf
        refine lv_iload_n hx hb dX12_give_14 rfl (lv_at hl 2 rfl) ?_
        refine lv_aload_n hx hb dX12_give_15 rfl (lv_at hl 0 rfl) ?_
        refine lv_iload_n hx hb dX12_give_16 rfl (lv_at hl 3 rfl) ?_
        obtain ⟨r17, h17, hf⟩ := bd1_some hf
        refine ro_calli (va_runV (As := [.int x3]) (rest := [.int x2]) ⟨hx, hb, hml, hown, hts⟩ (c_X12_share l dC dI cyB cyI cyZ cyO h h_all h_has h_read h_test h_rest h_gets h_waits h_way h_good h_left M_h x3 r17 h17) (cwV 1 hts gX12_give_X12_share rfl rfl rfl (by decide +kernel) ⟨Nat.le_of_ble_eq_true rfl, Nat.le_of_ble_eq_true rfl⟩) ⟨PR.blind, va_recv hK hP (ci := 12) (q0 := 0) rfl rfl, fun U hU hW => ⟨rfl, by rw [hU]; exact hP, hCx.warm hW⟩⟩ rfl rfl hl.1 rfl (lv_room (Nat.le_of_ble_eq_true rfl)) dX12_give_17 ⟨Nat.zero_le _, Nat.zero_le _⟩) ?_
        refine lv_iadd hx hb dX12_give_20 ?_
        refine lv_istore_n (lv' := [(2, .int (x2 + r17)), (0, .ref h), (1, .int x1), (3, .int x3)]) hx hb dX12_give_21 rfl hl (by decide) rfl (fun ls hl => ?_)
        refine lv_iinc (v := (x3 + (1 : Int32))) (lv' := [(3, .int (x3 + (1 : Int32))), (2, .int (x2 + r17)), (0, .ref h), (1, .int x1)]) hx hb dX12_give_22 hl (k := 3) rfl rfl (by decide) rfl (fun ls hl => ?_)
        refine lv_goto (tgt := 4) hx hb dX12_give_25 (by decide) ?_
        exact ih M_h x1 (x2 + r17) (x3 + (1 : Int32)) _ _ ls hf hP hD hS (lv_sub hl [2, 3, 1, 0] rfl)
  rw [f_X12_give] at hf
  refine lv_iconst (v := (0 : Int32)) hx hb dX12_give_0 (by decide) ?_
  refine lv_istore_n (lv' := [(2, .int (0 : Int32)), (0, .ref h), (1, .int p1)]) hx hb dX12_give_1 rfl hl (by decide) rfl (fun ls hl => ?_)
  refine lv_iconst (v := (0 : Int32)) hx hb dX12_give_2 (by decide) ?_
  refine lv_istore_n (lv' := [(3, .int (0 : Int32)), (2, .int (0 : Int32)), (0, .ref h), (1, .int p1)]) hx hb dX12_give_3 rfl hl (by decide) rfl (fun ls hl => ?_)
  exact L4 FU M_h p1 (0 : Int32) (0 : Int32) _ _ ls hf hP hD hS (lv_sub hl [2, 3, 1, 0] rfl)
set_option maxHeartbeats 4000000 in
set_option maxRecDepth 100000 in
theorem c_X12_its (l : Launch) (dC : Nat → ClassId) (dI : Nat → Nat → Nat) (cyB cyI cyZ cyO : ClassId) (h h_all h_has h_read h_test h_rest h_gets h_waits h_way h_good h_left : Nat) (M_h : Mem) (p1 : Int32) (p2 : Int32) (r : Int32) (hf : f_X12_its M_h p1 p2 = some r) : Met l yX12_its wsX12_its ({ frames := 0, cells := 0, slots := 0, locals := 0 } : Room) (PR dC dI cyB cyI cyZ cyO ([.ref h, .int p1, .int p2] : List Value) (wX12 cyB cyI cyZ cyO h h_all h_has h_read h_test h_rest h_gets h_waits h_way h_good h_left M_h)) (QR (some (.int r))) 0 0 (fun _ => False) := by
  refine Met.ofW (cc := cX12_its) (maxL := 3) (ret := (some .int)) (by decide) rfl ?_
  intro p e s m args below meth c s₁ B hml hv
  obtain ⟨rfl, hP, hCx⟩ := hv
  have hK := hCx.1
  have hN := hCx.2
  have hx := B.exec
  have hb := B.bytes
  have hr := B.returns
  have hts := atoms_spec (ws := wsX12_its) B.pre
  have hown : s.vm.findClass RX12 = some m.cls := findClass_of_methodNamed B.named
  have hlocks := B.notSynchronized
  have hin12 : ∀ w ∈ u_ws RX12 TX12 21, w ∈ wsX12_its := fun w h => List.mem_cons_of_mem _ (List.mem_append_right _ h)
  have kf7 := hts (.fieldLink RX12 7 "HoldSlipsModel" "all" "[I") (by decide +kernel)
  have hl := lv_entry ([.ref h, .int p1, .int p2] : List Value) (n := 3) (Nat.le_of_ble_eq_true rfl)
  rw [lg_entry_eq]
  generalize (lg_sl ([.ref h, .int p1, .int p2] : List Value) ++ List.replicate (3 - (lg_sl ([.ref h, .int p1, .int p2] : List Value)).length) Slot.unset).toArray = ls at hl ⊢
  have hl : lv_has ls 3 [(0, .ref h), (1, .int p1), (2, .int p2)] := hl
  rw [f_X12_its] at hf
  refine lv_aload_n hx hb dX12_its_0 rfl (lv_at hl 0 rfl) ?_
  refine va_get (D := (dC, dI)) (ci := 12) (v := .ref h_all) (C := RX12) (T := TX12) (N := 21) hx hb hts hin12 hown hK hP 0 rfl rfl 0 (by decide) kf7 (fun _ h9 => h9) rfl dX12_its_1 ?_
  refine lv_bipush (v := (90 : Int32)) hx hb dX12_its_4 (by decide) ?_
  refine lv_bipush (v := (9 : Int32)) hx hb dX12_its_6 (by decide) ?_
  refine lv_iload_n hx hb dX12_its_8 rfl (lv_at hl 1 rfl) ?_
  refine lv_imul hx hb dX12_its_9 ?_
  refine lv_iadd hx hb dX12_its_10 ?_
  refine lv_iload_n hx hb dX12_its_11 rfl (lv_at hl 2 rfl) ?_
  refine lv_iadd hx hb dX12_its_12 ?_
  have hi13 := if_no hf
  rw [if_neg hi13] at hf
  refine va_iald hx hb hK hP 1 1 rfl rfl hi13 dX12_its_13 ?_
  have hq := Option.some.inj hf
  subst hq
  exact W.iret (v := (M_h 0 ((((90 : Int32) + ((9 : Int32) * p1)) + p2)).toNatClampNeg)) hx hb hr (fun t ht hW => ⟨rfl, ht⟩) (fun q h => by cases h) dX12_its_14
set_option maxHeartbeats 4000000 in
set_option maxRecDepth 100000 in
theorem c_X12_sets (l : Launch) (dC : Nat → ClassId) (dI : Nat → Nat → Nat) (cyB cyI cyZ cyO : ClassId) (h h_all h_has h_read h_test h_rest h_gets h_waits h_way h_good h_left : Nat) (sz : Nat) (M_h : Mem) (p1 : Int32) (p2 : Int32) (p3 : Int32) (R_h : Mem) (hf : f_X12_sets M_h p1 p2 p3 = some R_h) : Met l yX12_sets wsX12_sets ({ frames := 0, cells := 0, slots := 0, locals := 0 } : Room) (PW dC dI cyB cyI cyZ cyO ([.ref h, .int p1, .int p2, .int p3] : List Value) (wX12 cyB cyI cyZ cyO h h_all h_has h_read h_test h_rest h_gets h_waits h_way h_good h_left M_h) sz) (QW dC dI none (wX12 cyB cyI cyZ cyO h h_all h_has h_read h_test h_rest h_gets h_waits h_way h_good h_left R_h) (va_A (wX12 cyB cyI cyZ cyO h h_all h_has h_read h_test h_rest h_gets h_waits h_way h_good h_left M_h) sz)) 0 0 (va_A (wX12 cyB cyI cyZ cyO h h_all h_has h_read h_test h_rest h_gets h_waits h_way h_good h_left M_h) sz) := by
  refine Met.ofW (cc := cX12_sets) (maxL := 4) (ret := none) (by decide) rfl ?_
  intro p e s m args below meth c s₁ B hml hv
  obtain ⟨rfl, hsz, hP, hCx, hD0⟩ := hv
  have hK := hCx.1
  have hN := hCx.2
  have hx := B.exec
  have hb := B.bytes
  have hr := B.returns
  have hts := atoms_spec (ws := wsX12_sets) B.pre
  have hown : s.vm.findClass RX12 = some m.cls := findClass_of_methodNamed B.named
  have hlocks := B.notSynchronized
  have hin12 : ∀ w ∈ u_ws RX12 TX12 21, w ∈ wsX12_sets := fun w h => List.mem_cons_of_mem _ (List.mem_append_right _ h)
  have kf7 := hts (.fieldLink RX12 7 "HoldSlipsModel" "all" "[I") (by decide +kernel)
  subst hsz
  have hD := hD0.self (sz := s.heap.size)
  generalize hAe : va_A (wX12 cyB cyI cyZ cyO h h_all h_has h_read h_test h_rest h_gets h_waits h_way h_good h_left M_h) s.heap.size = A at hD ⊢
  have hA : ∀ q : Nat, s.heap.size ≤ q → A q := fun q h => by rw [← hAe]; exact Or.inr h
  have hS : va_S A s.heap s.heap [] := va_S.rf
  have hl := lv_entry ([.ref h, .int p1, .int p2, .int p3] : List Value) (n := 4) (Nat.le_of_ble_eq_true rfl)
  rw [lg_entry_eq]
  generalize (lg_sl ([.ref h, .int p1, .int p2, .int p3] : List Value) ++ List.replicate (4 - (lg_sl ([.ref h, .int p1, .int p2, .int p3] : List Value)).length) Slot.unset).toArray = ls at hl ⊢
  have hl : lv_has ls 4 [(0, .ref h), (1, .int p1), (2, .int p2), (3, .int p3)] := hl
  rw [f_X12_sets] at hf
  refine lv_aload_n hx hb dX12_sets_0 rfl (lv_at hl 0 rfl) ?_
  refine va_get (D := (dC, dI)) (ci := 12) (v := .ref h_all) (C := RX12) (T := TX12) (N := 21) hx hb hts hin12 hown hK hP 0 rfl rfl 0 (by decide) kf7 (fun _ h9 => h9) rfl dX12_sets_1 ?_
  refine lv_bipush (v := (90 : Int32)) hx hb dX12_sets_4 (by decide) ?_
  refine lv_bipush (v := (9 : Int32)) hx hb dX12_sets_6 (by decide) ?_
  refine lv_iload_n hx hb dX12_sets_8 rfl (lv_at hl 1 rfl) ?_
  refine lv_imul hx hb dX12_sets_9 ?_
  refine lv_iadd hx hb dX12_sets_10 ?_
  refine lv_iload_n hx hb dX12_sets_11 rfl (lv_at hl 2 rfl) ?_
  refine lv_iadd hx hb dX12_sets_12 ?_
  refine lv_iload_n hx hb dX12_sets_13 rfl (lv_at hl 3 rfl) ?_
  have hi14 := if_no hf
  rw [if_neg hi14] at hf
  refine va_iast hx hb hK hP hD hS 1 1 rfl rfl hi14 dX12_sets_14 (fun H locs hP hD hS => ?_)
  obtain ⟨M_h_14, eM_h_14, hf⟩ := wr_some hf
  have hP : va_P (dC, dI) vwCl (wX12 cyB cyI cyZ cyO h h_all h_has h_read h_test h_rest h_gets h_waits h_way h_good h_left M_h_14) H := by rw [eM_h_14]; exact hP
  have hD : va_D A (wX12 cyB cyI cyZ cyO h h_all h_has h_read h_test h_rest h_gets h_waits h_way h_good h_left M_h_14) := by rw [eM_h_14]; exact hD
  have hq := Option.some.inj hf
  subst hq
  exact W.vret hx hb hr (fun t ht hW => ⟨rfl, by rw [ht]; exact hP, hD, hS.F ht⟩) hS.2.2 dX12_sets_15
set_option maxHeartbeats 4000000 in
set_option maxRecDepth 100000 in
theorem c_X12_isBale (l : Launch) (dC : Nat → ClassId) (dI : Nat → Nat → Nat) (cyB cyI cyZ cyO : ClassId) (h h_all h_has h_read h_test h_rest h_gets h_waits h_way h_good h_left : Nat) (M_h : Mem) (p1 : Int32) (r : Int32) (hf : f_X12_isBale M_h p1 = some r) : Met l yX12_isBale wsX12_isBale ({ frames := 1, cells := 0, slots := 0, locals := 22 } : Room) (PR dC dI cyB cyI cyZ cyO ([.ref h, .int p1] : List Value) (wX12 cyB cyI cyZ cyO h h_all h_has h_read h_test h_rest h_gets h_waits h_way h_good h_left M_h)) (QR (some (.int r))) 0 0 (fun _ => False) := by
  refine Met.ofW (cc := cX12_isBale) (maxL := 2) (ret := (some .boolean)) (by decide) rfl ?_
  intro p e s m args below meth c s₁ B hml hv
  obtain ⟨rfl, hP, hCx⟩ := hv
  have hK := hCx.1
  have hN := hCx.2
  have hx := B.exec
  have hb := B.bytes
  have hr := B.returns
  have hts := atoms_spec (ws := wsX12_isBale) B.pre
  have hown : s.vm.findClass RX12 = some m.cls := findClass_of_methodNamed B.named
  have hlocks := B.notSynchronized
  have hin12 : ∀ w ∈ u_ws RX12 TX12 21, w ∈ wsX12_isBale := fun w h => List.mem_cons_of_mem _ (List.mem_append_right _ h)
  have kf7 := hts (.fieldLink RX12 7 "HoldSlipsModel" "all" "[I") (by decide +kernel)
  have hl := lv_entry ([.ref h, .int p1] : List Value) (n := 2) (Nat.le_of_ble_eq_true rfl)
  rw [lg_entry_eq]
  generalize (lg_sl ([.ref h, .int p1] : List Value) ++ List.replicate (2 - (lg_sl ([.ref h, .int p1] : List Value)).length) Slot.unset).toArray = ls at hl ⊢
  have hl : lv_has ls 2 [(0, .ref h), (1, .int p1)] := hl
  rw [f_X12_isBale] at hf
  refine lv_iload_n hx hb dX12_isBale_0 rfl (lv_at hl 1 rfl) ?_
  refine lv_iconst (v := (0 : Int32)) hx hb dX12_isBale_1 (by decide) ?_
  refine lv_aload_n hx hb dX12_isBale_2 rfl (lv_at hl 0 rfl) ?_
  refine va_get (D := (dC, dI)) (ci := 12) (v := .ref h_all) (C := RX12) (T := TX12) (N := 21) hx hb hts hin12 hown hK hP 0 rfl rfl 0 (by decide) kf7 (fun _ h9 => h9) rfl dX12_isBale_3 ?_
  refine lv_iconst (v := (4 : Int32)) hx hb dX12_isBale_6 (by decide) ?_
  refine va_iald hx hb hK hP 1 1 rfl rfl (show ¬ ((4 : Int32) < 0 ∨ 11160 ≤ ((4 : Int32)).toNatClampNeg) by decide) dX12_isBale_7 ?_
  refine lv_iconst (v := (1 : Int32)) hx hb dX12_isBale_8 (by decide) ?_
  refine lv_isub hx hb dX12_isBale_9 ?_
  obtain ⟨r10, h10, hf⟩ := bd1_some hf
  have hPc := hP.sub (ws' := ([] : va_W)) [] rfl
  refine ro_calli (va_runS (As := [.int p1, .int (0 : Int32), .int ((M_h 0 ((4 : Int32)).toNatClampNeg) - (1 : Int32))]) (rest := []) ⟨hx, hb, hml, hown, hts⟩ (c_X12_isIn l dC dI cyB cyI cyZ cyO p1 (0 : Int32) ((M_h 0 ((4 : Int32)).toNatClampNeg) - (1 : Int32)) r10 h10) (va_cwS 3 hts gX12_isBale_X12_isIn rfl rfl rfl (by decide +kernel) ⟨Nat.le_of_ble_eq_true rfl, Nat.le_of_ble_eq_true rfl⟩) ⟨PR.blind, fun U hU hW => ⟨rfl, by rw [hU]; exact hPc, hCx.warm hW⟩⟩ rfl rfl hl.1 rfl (lv_room (Nat.le_of_ble_eq_true rfl)) dX12_isBale_10 ⟨Nat.zero_le _, Nat.zero_le _⟩) ?_
  have hb13 := Decidable.not_not.mp (if_no hf)
  rw [if_neg (not_not_intro hb13)] at hf
  have hq := Option.some.inj hf
  subst hq
  exact W.zret (v := r10) hx hb hr (nar_b hb13) (fun t ht hW => ⟨rfl, ht⟩) (fun q h => by cases h) dX12_isBale_13
set_option maxHeartbeats 4000000 in
set_option maxRecDepth 100000 in
theorem c_X12_lies (l : Launch) (dC : Nat → ClassId) (dI : Nat → Nat → Nat) (cyB cyI cyZ cyO : ClassId) (h h_all h_has h_read h_test h_rest h_gets h_waits h_way h_good h_left : Nat) (M_h : Mem) (p1 : Int32) (r : Int32) (hf : f_X12_lies M_h p1 = some r) : Met l yX12_lies wsX12_lies ({ frames := 1, cells := 0, slots := 0, locals := 22 } : Room) (PR dC dI cyB cyI cyZ cyO ([.ref h, .int p1] : List Value) (wX12 cyB cyI cyZ cyO h h_all h_has h_read h_test h_rest h_gets h_waits h_way h_good h_left M_h)) (QR (some (.int r))) 0 0 (fun _ => False) := by
  refine Met.ofW (cc := cX12_lies) (maxL := 2) (ret := (some .boolean)) (by decide) rfl ?_
  intro p e s m args below meth c s₁ B hml hv
  obtain ⟨rfl, hP, hCx⟩ := hv
  have hK := hCx.1
  have hN := hCx.2
  have hx := B.exec
  have hb := B.bytes
  have hr := B.returns
  have hts := atoms_spec (ws := wsX12_lies) B.pre
  have hown : s.vm.findClass RX12 = some m.cls := findClass_of_methodNamed B.named
  have hlocks := B.notSynchronized
  have hl := lv_entry ([.ref h, .int p1] : List Value) (n := 2) (Nat.le_of_ble_eq_true rfl)
  rw [lg_entry_eq]
  generalize (lg_sl ([.ref h, .int p1] : List Value) ++ List.replicate (2 - (lg_sl ([.ref h, .int p1] : List Value)).length) Slot.unset).toArray = ls at hl ⊢
  have hl : lv_has ls 2 [(0, .ref h), (1, .int p1)] := hl
  rw [f_X12_lies] at hf
  refine lv_aload_n hx hb dX12_lies_0 rfl (lv_at hl 0 rfl) ?_
  refine lv_iload_n hx hb dX12_lies_1 rfl (lv_at hl 1 rfl) ?_
  refine lv_iconst (v := (5 : Int32)) hx hb dX12_lies_2 (by decide) ?_
  obtain ⟨r3, h3, hf⟩ := bd1_some hf
  refine ro_calli (va_runV (As := [.int p1, .int (5 : Int32)]) (rest := []) ⟨hx, hb, hml, hown, hts⟩ (c_X12_its l dC dI cyB cyI cyZ cyO h h_all h_has h_read h_test h_rest h_gets h_waits h_way h_good h_left M_h p1 (5 : Int32) r3 h3) (cwV 2 hts gX12_lies_X12_its rfl rfl rfl (by decide +kernel) ⟨Nat.le_of_ble_eq_true rfl, Nat.le_of_ble_eq_true rfl⟩) ⟨PR.blind, va_recv hK hP (ci := 12) (q0 := 0) rfl rfl, fun U hU hW => ⟨rfl, by rw [hU]; exact hP, hCx.warm hW⟩⟩ rfl rfl hl.1 rfl (lv_room (Nat.le_of_ble_eq_true rfl)) dX12_lies_3 ⟨Nat.zero_le _, Nat.zero_le _⟩) ?_
  refine lv_if_lt (tgt := 13) hx hb dX12_lies_6 (by decide) (fun hc6 => ?_) (fun hc6 => ?_)
  · rw [if_pos hc6] at hf
    refine lv_iconst (v := (0 : Int32)) hx hb dX12_lies_13 (by decide) ?_
    have hq := Option.some.inj hf
    subst hq
    exact W.zret (v := (0 : Int32)) hx hb hr rfl (fun t ht hW => ⟨rfl, ht⟩) (fun q h => by cases h) dX12_lies_14
  · rw [if_neg hc6] at hf
    refine lv_iconst (v := (1 : Int32)) hx hb dX12_lies_9 (by decide) ?_
    refine lv_goto (tgt := 14) hx hb dX12_lies_10 (by decide) ?_
    have hq := Option.some.inj hf
    subst hq
    exact W.zret (v := (1 : Int32)) hx hb hr rfl (fun t ht hW => ⟨rfl, ht⟩) (fun q h => by cases h) dX12_lies_14
set_option maxHeartbeats 4000000 in
set_option maxRecDepth 100000 in
theorem c_X12_room (l : Launch) (dC : Nat → ClassId) (dI : Nat → Nat → Nat) (cyB cyI cyZ cyO : ClassId) (h h_all h_has h_read h_test h_rest h_gets h_waits h_way h_good h_left : Nat) (M_h : Mem) (p1 : Int32) (r : Int32) (hf : f_X12_room M_h p1 = some r) : Met l yX12_room wsX12_room ({ frames := 1, cells := 0, slots := 0, locals := 22 } : Room) (PR dC dI cyB cyI cyZ cyO ([.ref h, .int p1] : List Value) (wX12 cyB cyI cyZ cyO h h_all h_has h_read h_test h_rest h_gets h_waits h_way h_good h_left M_h)) (QR (some (.int r))) 0 0 (fun _ => False) := by
  refine Met.ofW (cc := cX12_room) (maxL := 2) (ret := (some .int)) (by decide) rfl ?_
  intro p e s m args below meth c s₁ B hml hv
  obtain ⟨rfl, hP, hCx⟩ := hv
  have hK := hCx.1
  have hN := hCx.2
  have hx := B.exec
  have hb := B.bytes
  have hr := B.returns
  have hts := atoms_spec (ws := wsX12_room) B.pre
  have hown : s.vm.findClass RX12 = some m.cls := findClass_of_methodNamed B.named
  have hlocks := B.notSynchronized
  have hl := lv_entry ([.ref h, .int p1] : List Value) (n := 2) (Nat.le_of_ble_eq_true rfl)
  rw [lg_entry_eq]
  generalize (lg_sl ([.ref h, .int p1] : List Value) ++ List.replicate (2 - (lg_sl ([.ref h, .int p1] : List Value)).length) Slot.unset).toArray = ls at hl ⊢
  have hl : lv_has ls 2 [(0, .ref h), (1, .int p1)] := hl
  rw [f_X12_room] at hf
  refine lv_aload_n hx hb dX12_room_0 rfl (lv_at hl 0 rfl) ?_
  refine lv_iload_n hx hb dX12_room_1 rfl (lv_at hl 1 rfl) ?_
  refine lv_iconst (v := (1 : Int32)) hx hb dX12_room_2 (by decide) ?_
  obtain ⟨r3, h3, hf⟩ := bd1_some hf
  refine ro_calli (va_runV (As := [.int p1, .int (1 : Int32)]) (rest := []) ⟨hx, hb, hml, hown, hts⟩ (c_X12_its l dC dI cyB cyI cyZ cyO h h_all h_has h_read h_test h_rest h_gets h_waits h_way h_good h_left M_h p1 (1 : Int32) r3 h3) (cwV 2 hts gX12_room_X12_its rfl rfl rfl (by decide +kernel) ⟨Nat.le_of_ble_eq_true rfl, Nat.le_of_ble_eq_true rfl⟩) ⟨PR.blind, va_recv hK hP (ci := 12) (q0 := 0) rfl rfl, fun U hU hW => ⟨rfl, by rw [hU]; exact hP, hCx.warm hW⟩⟩ rfl rfl hl.1 rfl (lv_room (Nat.le_of_ble_eq_true rfl)) dX12_room_3 ⟨Nat.zero_le _, Nat.zero_le _⟩) ?_
  refine lv_aload_n hx hb dX12_room_6 rfl (lv_at hl 0 rfl) ?_
  refine lv_iload_n hx hb dX12_room_7 rfl (lv_at hl 1 rfl) ?_
  refine lv_iconst (v := (1 : Int32)) hx hb dX12_room_8 (by decide) ?_
  obtain ⟨r9, h9, hf⟩ := bd1_some hf
  refine ro_calli (va_runV (As := [.int p1, .int (1 : Int32)]) (rest := [.int r3]) ⟨hx, hb, hml, hown, hts⟩ (c_X12_its l dC dI cyB cyI cyZ cyO h h_all h_has h_read h_test h_rest h_gets h_waits h_way h_good h_left M_h p1 (1 : Int32) r9 h9) (cwV 2 hts gX12_room_X12_its rfl rfl rfl (by decide +kernel) ⟨Nat.le_of_ble_eq_true rfl, Nat.le_of_ble_eq_true rfl⟩) ⟨PR.blind, va_recv hK hP (ci := 12) (q0 := 0) rfl rfl, fun U hU hW => ⟨rfl, by rw [hU]; exact hP, hCx.warm hW⟩⟩ rfl rfl hl.1 rfl (lv_room (Nat.le_of_ble_eq_true rfl)) dX12_room_9 ⟨Nat.zero_le _, Nat.zero_le _⟩) ?_
  refine lv_aload_n hx hb dX12_room_12 rfl (lv_at hl 0 rfl) ?_
  refine lv_iload_n hx hb dX12_room_13 rfl (lv_at hl 1 rfl) ?_
  refine lv_iconst (v := (4 : Int32)) hx hb dX12_room_14 (by decide) ?_
  obtain ⟨r15, h15, hf⟩ := bd1_some hf
  refine ro_calli (va_runV (As := [.int p1, .int (4 : Int32)]) (rest := [.int r9, .int r3]) ⟨hx, hb, hml, hown, hts⟩ (c_X12_its l dC dI cyB cyI cyZ cyO h h_all h_has h_read h_test h_rest h_gets h_waits h_way h_good h_left M_h p1 (4 : Int32) r15 h15) (cwV 2 hts gX12_room_X12_its rfl rfl rfl (by decide +kernel) ⟨Nat.le_of_ble_eq_true rfl, Nat.le_of_ble_eq_true rfl⟩) ⟨PR.blind, va_recv hK hP (ci := 12) (q0 := 0) rfl rfl, fun U hU hW => ⟨rfl, by rw [hU]; exact hP, hCx.warm hW⟩⟩ rfl rfl hl.1 rfl (lv_room (Nat.le_of_ble_eq_true rfl)) dX12_room_15 ⟨Nat.zero_le _, Nat.zero_le _⟩) ?_
  refine lv_imul hx hb dX12_room_18 ?_
  refine lv_bipush (v := (10 : Int32)) hx hb dX12_room_19 (by decide) ?_
  refine lv_idiv hx hb dX12_room_21 (by decide) ?_
  refine lv_isub hx hb dX12_room_22 ?_
  have hq := Option.some.inj hf
  subst hq
  exact W.iret (v := (r3 - ((r9 * r15) / (10 : Int32)))) hx hb hr (fun t ht hW => ⟨rfl, ht⟩) (fun q h => by cases h) dX12_room_23
set_option maxHeartbeats 4000000 in
set_option maxRecDepth 100000 in
theorem c_X12_value (l : Launch) (dC : Nat → ClassId) (dI : Nat → Nat → Nat) (cyB cyI cyZ cyO : ClassId) (h h_all h_has h_read h_test h_rest h_gets h_waits h_way h_good h_left : Nat) (M_h : Mem) (p1 : Int32) (r : Int32) (hf : f_X12_value M_h p1 = some r) : Met l yX12_value wsX12_value ({ frames := 1, cells := 0, slots := 0, locals := 22 } : Room) (PR dC dI cyB cyI cyZ cyO ([.ref h, .int p1] : List Value) (wX12 cyB cyI cyZ cyO h h_all h_has h_read h_test h_rest h_gets h_waits h_way h_good h_left M_h)) (QR (some (.int r))) 0 0 (fun _ => False) := by
  refine Met.ofW (cc := cX12_value) (maxL := 2) (ret := (some .int)) (by decide) rfl ?_
  intro p e s m args below meth c s₁ B hml hv
  obtain ⟨rfl, hP, hCx⟩ := hv
  have hK := hCx.1
  have hN := hCx.2
  have hx := B.exec
  have hb := B.bytes
  have hr := B.returns
  have hts := atoms_spec (ws := wsX12_value) B.pre
  have hown : s.vm.findClass RX12 = some m.cls := findClass_of_methodNamed B.named
  have hlocks := B.notSynchronized
  have hl := lv_entry ([.ref h, .int p1] : List Value) (n := 2) (Nat.le_of_ble_eq_true rfl)
  rw [lg_entry_eq]
  generalize (lg_sl ([.ref h, .int p1] : List Value) ++ List.replicate (2 - (lg_sl ([.ref h, .int p1] : List Value)).length) Slot.unset).toArray = ls at hl ⊢
  have hl : lv_has ls 2 [(0, .ref h), (1, .int p1)] := hl
  rw [f_X12_value] at hf
  refine lv_aload_n hx hb dX12_value_0 rfl (lv_at hl 0 rfl) ?_
  refine lv_iload_n hx hb dX12_value_1 rfl (lv_at hl 1 rfl) ?_
  refine lv_iconst (v := (3 : Int32)) hx hb dX12_value_2 (by decide) ?_
  obtain ⟨r3, h3, hf⟩ := bd1_some hf
  refine ro_calli (va_runV (As := [.int p1, .int (3 : Int32)]) (rest := []) ⟨hx, hb, hml, hown, hts⟩ (c_X12_its l dC dI cyB cyI cyZ cyO h h_all h_has h_read h_test h_rest h_gets h_waits h_way h_good h_left M_h p1 (3 : Int32) r3 h3) (cwV 2 hts gX12_value_X12_its rfl rfl rfl (by decide +kernel) ⟨Nat.le_of_ble_eq_true rfl, Nat.le_of_ble_eq_true rfl⟩) ⟨PR.blind, va_recv hK hP (ci := 12) (q0 := 0) rfl rfl, fun U hU hW => ⟨rfl, by rw [hU]; exact hP, hCx.warm hW⟩⟩ rfl rfl hl.1 rfl (lv_room (Nat.le_of_ble_eq_true rfl)) dX12_value_3 ⟨Nat.zero_le _, Nat.zero_le _⟩) ?_
  refine lv_aload_n hx hb dX12_value_6 rfl (lv_at hl 0 rfl) ?_
  refine lv_iload_n hx hb dX12_value_7 rfl (lv_at hl 1 rfl) ?_
  refine lv_iconst (v := (3 : Int32)) hx hb dX12_value_8 (by decide) ?_
  obtain ⟨r9, h9, hf⟩ := bd1_some hf
  refine ro_calli (va_runV (As := [.int p1, .int (3 : Int32)]) (rest := [.int r3]) ⟨hx, hb, hml, hown, hts⟩ (c_X12_its l dC dI cyB cyI cyZ cyO h h_all h_has h_read h_test h_rest h_gets h_waits h_way h_good h_left M_h p1 (3 : Int32) r9 h9) (cwV 2 hts gX12_value_X12_its rfl rfl rfl (by decide +kernel) ⟨Nat.le_of_ble_eq_true rfl, Nat.le_of_ble_eq_true rfl⟩) ⟨PR.blind, va_recv hK hP (ci := 12) (q0 := 0) rfl rfl, fun U hU hW => ⟨rfl, by rw [hU]; exact hP, hCx.warm hW⟩⟩ rfl rfl hl.1 rfl (lv_room (Nat.le_of_ble_eq_true rfl)) dX12_value_9 ⟨Nat.zero_le _, Nat.zero_le _⟩) ?_
  refine lv_aload_n hx hb dX12_value_12 rfl (lv_at hl 0 rfl) ?_
  refine lv_iload_n hx hb dX12_value_13 rfl (lv_at hl 1 rfl) ?_
  refine lv_iconst (v := (4 : Int32)) hx hb dX12_value_14 (by decide) ?_
  obtain ⟨r15, h15, hf⟩ := bd1_some hf
  refine ro_calli (va_runV (As := [.int p1, .int (4 : Int32)]) (rest := [.int r9, .int r3]) ⟨hx, hb, hml, hown, hts⟩ (c_X12_its l dC dI cyB cyI cyZ cyO h h_all h_has h_read h_test h_rest h_gets h_waits h_way h_good h_left M_h p1 (4 : Int32) r15 h15) (cwV 2 hts gX12_value_X12_its rfl rfl rfl (by decide +kernel) ⟨Nat.le_of_ble_eq_true rfl, Nat.le_of_ble_eq_true rfl⟩) ⟨PR.blind, va_recv hK hP (ci := 12) (q0 := 0) rfl rfl, fun U hU hW => ⟨rfl, by rw [hU]; exact hP, hCx.warm hW⟩⟩ rfl rfl hl.1 rfl (lv_room (Nat.le_of_ble_eq_true rfl)) dX12_value_15 ⟨Nat.zero_le _, Nat.zero_le _⟩) ?_
  refine lv_imul hx hb dX12_value_18 ?_
  refine lv_bipush (v := (20 : Int32)) hx hb dX12_value_19 (by decide) ?_
  refine lv_idiv hx hb dX12_value_21 (by decide) ?_
  refine lv_isub hx hb dX12_value_22 ?_
  have hq := Option.some.inj hf
  subst hq
  exact W.iret (v := (r3 - ((r9 * r15) / (20 : Int32)))) hx hb hr (fun t ht hW => ⟨rfl, ht⟩) (fun q h => by cases h) dX12_value_23
set_option maxHeartbeats 4000000 in
set_option maxRecDepth 100000 in
theorem c_X12_free (l : Launch) (dC : Nat → ClassId) (dI : Nat → Nat → Nat) (cyB cyI cyZ cyO : ClassId) (h h_all h_has h_read h_test h_rest h_gets h_waits h_way h_good h_left : Nat) (M_h : Mem) (p1 : Int32) (r : Int32) (hf : f_X12_free M_h p1 = some r) : Met l yX12_free wsX12_free ({ frames := 2, cells := 0, slots := 0, locals := 43 } : Room) (PR dC dI cyB cyI cyZ cyO ([.ref h, .int p1] : List Value) (wX12 cyB cyI cyZ cyO h h_all h_has h_read h_test h_rest h_gets h_waits h_way h_good h_left M_h)) (QR (some (.int r))) 0 0 (fun _ => False) := by
  refine Met.ofW (cc := cX12_free) (maxL := 4) (ret := (some .int)) (by decide) rfl ?_
  intro p e s m args below meth c s₁ B hml hv
  obtain ⟨rfl, hP, hCx⟩ := hv
  have hK := hCx.1
  have hN := hCx.2
  have hx := B.exec
  have hb := B.bytes
  have hr := B.returns
  have hts := atoms_spec (ws := wsX12_free) B.pre
  have hown : s.vm.findClass RX12 = some m.cls := findClass_of_methodNamed B.named
  have hlocks := B.notSynchronized
  have hin12 : ∀ w ∈ u_ws RX12 TX12 21, w ∈ wsX12_free := fun w h => List.mem_cons_of_mem _ (List.mem_append_right _ h)
  have kf7 := hts (.fieldLink RX12 7 "HoldSlipsModel" "all" "[I") (by decide +kernel)
  have hl := lv_entry ([.ref h, .int p1] : List Value) (n := 4) (Nat.le_of_ble_eq_true rfl)
  rw [lg_entry_eq]
  generalize (lg_sl ([.ref h, .int p1] : List Value) ++ List.replicate (4 - (lg_sl ([.ref h, .int p1] : List Value)).length) Slot.unset).toArray = ls at hl ⊢
  have hl : lv_has ls 4 [(0, .ref h), (1, .int p1)] := hl
  have L9 : ∀ (n : Nat), ∀ (x1 : Int32) (x2 : Int32) (x3 : Int32) (ls : Array Slot), f_X12_free_L9 n M_h x1 x2 x3 = some r → lv_has ls 4 [(0, .ref h), (1, .int x1), (2, .int x2), (3, .int x3)] → W p l e (headSpec wsX12_free ({ frames := 2, cells := 0, slots := 0, locals := 43 } : Room)).room s m ([.ref h, .int p1] : List Value).toArray below meth c s.heap [] 0 0 (MQ below (QR (some (.int r))) ([.ref h, .int p1] : List Value).toArray s 0 0 (fun _ => False)) (F0 m 9 ls []) := by
    intro n
    induction n with
    | zero => intro x1 x2 x3 ls hf hl; rw [f_X12_free_L9] at hf; cases hf
    | succ n ih =>
      intro x1 x2 x3 ls hf hl
      rw [f_X12_free_L9] at hf
      refine lv_iload_n hx hb dX12_free_9 rfl (lv_at hl 3 rfl) ?_
      refine lv_aload_n hx hb dX12_free_10 rfl (lv_at hl 0 rfl) ?_
      refine va_get (D := (dC, dI)) (ci := 12) (v := .ref h_all) (C := RX12) (T := TX12) (N := 21) hx hb hts hin12 hown hK hP 0 rfl rfl 0 (by decide) kf7 (fun _ h9 => h9) rfl dX12_free_11 ?_
      refine lv_iconst (v := (4 : Int32)) hx hb dX12_free_14 (by decide) ?_
      refine va_iald hx hb hK hP 1 1 rfl rfl (show ¬ ((4 : Int32) < 0 ∨ 11160 ≤ ((4 : Int32)).toNatClampNeg) by decide) dX12_free_15 ?_
      refine lv_icmp_ge (tgt := 43) hx hb dX12_free_16 (by decide) (fun hc16 => ?_) (fun hc16 => ?_)
      · rw [if_pos hc16] at hf
        refine lv_iload_n hx hb dX12_free_43 rfl (lv_at hl 2 rfl) ?_
        have hq := Option.some.inj hf
        subst hq
        exact W.iret (v := x2) hx hb hr (fun t ht hW => ⟨rfl, ht⟩) (fun q h => by cases h) dX12_free_44
      · rw [if_neg hc16] at hf
        refine lv_aload_n hx hb dX12_free_19 rfl (lv_at hl 0 rfl) ?_
        refine lv_iload_n hx hb dX12_free_20 rfl (lv_at hl 3 rfl) ?_
        refine lv_iconst (v := (5 : Int32)) hx hb dX12_free_21 (by decide) ?_
        obtain ⟨r22, h22, hf⟩ := bd1_some hf
        refine ro_calli (va_runV (As := [.int x3, .int (5 : Int32)]) (rest := []) ⟨hx, hb, hml, hown, hts⟩ (c_X12_its l dC dI cyB cyI cyZ cyO h h_all h_has h_read h_test h_rest h_gets h_waits h_way h_good h_left M_h x3 (5 : Int32) r22 h22) (cwV 2 hts gX12_free_X12_its rfl rfl rfl (by decide +kernel) ⟨Nat.le_of_ble_eq_true rfl, Nat.le_of_ble_eq_true rfl⟩) ⟨PR.blind, va_recv hK hP (ci := 12) (q0 := 0) rfl rfl, fun U hU hW => ⟨rfl, by rw [hU]; exact hP, hCx.warm hW⟩⟩ rfl rfl hl.1 rfl (lv_room (Nat.le_of_ble_eq_true rfl)) dX12_free_22 ⟨Nat.zero_le _, Nat.zero_le _⟩) ?_
        refine lv_iload_n hx hb dX12_free_25 rfl (lv_at hl 1 rfl) ?_
        refine lv_icmp_ne (tgt := 37) hx hb dX12_free_26 (by decide) (fun hc26 => ?_) (fun hc26 => ?_)
        · rw [if_neg hc26] at hf
          refine lv_iinc (v := (x3 + (1 : Int32))) (lv' := [(3, .int (x3 + (1 : Int32))), (0, .ref h), (1, .int x1), (2, .int x2)]) hx hb dX12_free_37 hl (k := 3) rfl rfl (by decide) rfl (fun ls hl => ?_)
          refine lv_goto (tgt := 9) hx hb dX12_free_40 (by decide) ?_
          exact ih x1 x2 (x3 + (1 : Int32)) ls hf (lv_sub hl [1, 2, 3, 0] rfl)
        · rw [if_pos hc26] at hf
          refine lv_iload_n hx hb dX12_free_29 rfl (lv_at hl 2 rfl) ?_
          refine lv_aload_n hx hb dX12_free_30 rfl (lv_at hl 0 rfl) ?_
          refine lv_iload_n hx hb dX12_free_31 rfl (lv_at hl 3 rfl) ?_
          obtain ⟨r32, h32, hf⟩ := bd1_some hf
          refine ro_calli (va_runV (As := [.int x3]) (rest := [.int x2]) ⟨hx, hb, hml, hown, hts⟩ (c_X12_room l dC dI cyB cyI cyZ cyO h h_all h_has h_read h_test h_rest h_gets h_waits h_way h_good h_left M_h x3 r32 h32) (cwV 1 hts gX12_free_X12_room rfl rfl rfl (by decide +kernel) ⟨Nat.le_of_ble_eq_true rfl, Nat.le_of_ble_eq_true rfl⟩) ⟨PR.blind, va_recv hK hP (ci := 12) (q0 := 0) rfl rfl, fun U hU hW => ⟨rfl, by rw [hU]; exact hP, hCx.warm hW⟩⟩ rfl rfl hl.1 rfl (lv_room (Nat.le_of_ble_eq_true rfl)) dX12_free_32 ⟨Nat.zero_le _, Nat.zero_le _⟩) ?_
          refine lv_isub hx hb dX12_free_35 ?_
          refine lv_istore_n (lv' := [(2, .int (x2 - r32)), (0, .ref h), (1, .int x1), (3, .int x3)]) hx hb dX12_free_36 rfl hl (by decide) rfl (fun ls hl => ?_)
          refine lv_iinc (v := (x3 + (1 : Int32))) (lv' := [(3, .int (x3 + (1 : Int32))), (2, .int (x2 - r32)), (0, .ref h), (1, .int x1)]) hx hb dX12_free_37 hl (k := 3) rfl rfl (by decide) rfl (fun ls hl => ?_)
          refine lv_goto (tgt := 9) hx hb dX12_free_40 (by decide) ?_
          exact ih x1 (x2 - r32) (x3 + (1 : Int32)) ls hf (lv_sub hl [2, 3, 1, 0] rfl)
  rw [f_X12_free] at hf
  refine lv_aload_n hx hb dX12_free_0 rfl (lv_at hl 0 rfl) ?_
  refine lv_iload_n hx hb dX12_free_1 rfl (lv_at hl 1 rfl) ?_
  refine lv_iconst (v := (2 : Int32)) hx hb dX12_free_2 (by decide) ?_
  obtain ⟨r3, h3, hf⟩ := bd1_some hf
  refine ro_calli (va_runV (As := [.int p1, .int (2 : Int32)]) (rest := []) ⟨hx, hb, hml, hown, hts⟩ (c_X12_of l dC dI cyB cyI cyZ cyO h h_all h_has h_read h_test h_rest h_gets h_waits h_way h_good h_left M_h p1 (2 : Int32) r3 h3) (cwV 2 hts gX12_free_X12_of rfl rfl rfl (by decide +kernel) ⟨Nat.le_of_ble_eq_true rfl, Nat.le_of_ble_eq_true rfl⟩) ⟨PR.blind, va_recv hK hP (ci := 12) (q0 := 0) rfl rfl, fun U hU hW => ⟨rfl, by rw [hU]; exact hP, hCx.warm hW⟩⟩ rfl rfl hl.1 rfl (lv_room (Nat.le_of_ble_eq_true rfl)) dX12_free_3 ⟨Nat.zero_le _, Nat.zero_le _⟩) ?_
  refine lv_istore_n (lv' := [(2, .int r3), (0, .ref h), (1, .int p1)]) hx hb dX12_free_6 rfl hl (by decide) rfl (fun ls hl => ?_)
  refine lv_iconst (v := (0 : Int32)) hx hb dX12_free_7 (by decide) ?_
  refine lv_istore_n (lv' := [(3, .int (0 : Int32)), (2, .int r3), (0, .ref h), (1, .int p1)]) hx hb dX12_free_8 rfl hl (by decide) rfl (fun ls hl => ?_)
  exact L9 FU p1 r3 (0 : Int32) ls hf (lv_sub hl [2, 3, 1, 0] rfl)
set_option maxHeartbeats 4000000 in
set_option maxRecDepth 100000 in
theorem c_X12_sell (l : Launch) (dC : Nat → ClassId) (dI : Nat → Nat → Nat) (cyB cyI cyZ cyO : ClassId) (h h_all h_has h_read h_test h_rest h_gets h_waits h_way h_good h_left : Nat) (sz : Nat) (M_h : Mem) (p1 : Int32) (p2 : Int32) (p3 : Int32) (p4 : Int32) (r : Int32) (R_h : Mem) (hf : f_X12_sell M_h p1 p2 p3 p4 = some (r, R_h)) : Met l yX12_sell wsX12_sell ({ frames := 3, cells := 0, slots := 0, locals := 66 } : Room) (PW dC dI cyB cyI cyZ cyO ([.ref h, .int p1, .int p2, .int p3, .int p4] : List Value) (wX12 cyB cyI cyZ cyO h h_all h_has h_read h_test h_rest h_gets h_waits h_way h_good h_left M_h) sz) (QW dC dI (some (.int r)) (wX12 cyB cyI cyZ cyO h h_all h_has h_read h_test h_rest h_gets h_waits h_way h_good h_left R_h) (va_A (wX12 cyB cyI cyZ cyO h h_all h_has h_read h_test h_rest h_gets h_waits h_way h_good h_left M_h) sz)) 0 0 (va_A (wX12 cyB cyI cyZ cyO h h_all h_has h_read h_test h_rest h_gets h_waits h_way h_good h_left M_h) sz) := by
  refine Met.ofW (cc := cX12_sell) (maxL := 5) (ret := (some .boolean)) (by decide) rfl ?_
  intro p e s m args below meth c s₁ B hml hv
  obtain ⟨rfl, hsz, hP, hCx, hD0⟩ := hv
  have hK := hCx.1
  have hN := hCx.2
  have hx := B.exec
  have hb := B.bytes
  have hr := B.returns
  have hts := atoms_spec (ws := wsX12_sell) B.pre
  have hown : s.vm.findClass RX12 = some m.cls := findClass_of_methodNamed B.named
  have hlocks := B.notSynchronized
  have hin12 : ∀ w ∈ u_ws RX12 TX12 21, w ∈ wsX12_sell := fun w h => List.mem_cons_of_mem _ (List.mem_append_right _ h)
  have kf7 := hts (.fieldLink RX12 7 "HoldSlipsModel" "all" "[I") (by decide +kernel)
  subst hsz
  have hD := hD0.self (sz := s.heap.size)
  generalize hAe : va_A (wX12 cyB cyI cyZ cyO h h_all h_has h_read h_test h_rest h_gets h_waits h_way h_good h_left M_h) s.heap.size = A at hD ⊢
  have hA : ∀ q : Nat, s.heap.size ≤ q → A q := fun q h => by rw [← hAe]; exact Or.inr h
  have hS : va_S A s.heap s.heap [] := va_S.rf
  have hl := lv_entry ([.ref h, .int p1, .int p2, .int p3, .int p4] : List Value) (n := 5) (Nat.le_of_ble_eq_true rfl)
  rw [lg_entry_eq]
  generalize (lg_sl ([.ref h, .int p1, .int p2, .int p3, .int p4] : List Value) ++ List.replicate (5 - (lg_sl ([.ref h, .int p1, .int p2, .int p3, .int p4] : List Value)).length) Slot.unset).toArray = ls at hl ⊢
  have hl : lv_has ls 5 [(0, .ref h), (1, .int p1), (2, .int p2), (3, .int p3), (4, .int p4)] := hl
  rw [f_X12_sell] at hf
  refine lv_aload_n hx hb dX12_sell_0 rfl (lv_at hl 0 rfl) ?_
  refine va_get (D := (dC, dI)) (ci := 12) (v := .ref h_all) (C := RX12) (T := TX12) (N := 21) hx hb hts hin12 hown hK hP 0 rfl rfl 0 (by decide) kf7 (fun _ h9 => h9) rfl dX12_sell_1 ?_
  refine lv_iconst (v := (1 : Int32)) hx hb dX12_sell_4 (by decide) ?_
  refine va_iald hx hb hK hP 1 1 rfl rfl (show ¬ ((1 : Int32) < 0 ∨ 11160 ≤ ((1 : Int32)).toNatClampNeg) by decide) dX12_sell_5 ?_
  refine lv_iconst (v := (1 : Int32)) hx hb dX12_sell_6 (by decide) ?_
  refine lv_icmp_eq (tgt := 57) hx hb dX12_sell_7 (by decide) (fun hc7 => ?_) (fun hc7 => ?_)
  · rw [if_pos hc7] at hf
    refine lv_iconst (v := (0 : Int32)) hx hb dX12_sell_57 (by decide) ?_
    obtain ⟨hq0, hq1⟩ := pj2 hf
    subst hq0
    subst hq1
    exact W.zret (v := (0 : Int32)) hx hb hr rfl (fun t ht hW => ⟨rfl, by rw [ht]; exact hP, hD, hS.F ht⟩) hS.2.2 dX12_sell_58
  · rw [if_neg hc7] at hf
    refine lv_aload_n hx hb dX12_sell_10 rfl (lv_at hl 0 rfl) ?_
    refine lv_iload_n hx hb dX12_sell_11 rfl (lv_at hl 1 rfl) ?_
    obtain ⟨r12, h12, hf⟩ := bd1_some hf
    refine ro_calli (va_runV (As := [.int p1]) (rest := []) ⟨hx, hb, hml, hown, hts⟩ (c_X12_isCitizen l dC dI cyB cyI cyZ cyO h h_all h_has h_read h_test h_rest h_gets h_waits h_way h_good h_left M_h p1 r12 h12) (cwV 1 hts gX12_sell_X12_isCitizen rfl rfl rfl (by decide +kernel) ⟨Nat.le_of_ble_eq_true rfl, Nat.le_of_ble_eq_true rfl⟩) ⟨PR.blind, va_recv hK hP (ci := 12) (q0 := 0) rfl rfl, fun U hU hW => ⟨rfl, by rw [hU]; exact hP, hCx.warm hW⟩⟩ rfl rfl hl.1 rfl (lv_room (Nat.le_of_ble_eq_true rfl)) dX12_sell_12 ⟨Nat.zero_le _, Nat.zero_le _⟩) ?_
    refine lv_if_eq (tgt := 57) hx hb dX12_sell_15 (by decide) (fun hc15 => ?_) (fun hc15 => ?_)
    · rw [if_pos hc15] at hf
      refine lv_iconst (v := (0 : Int32)) hx hb dX12_sell_57 (by decide) ?_
      obtain ⟨hq0, hq1⟩ := pj2 hf
      subst hq0
      subst hq1
      exact W.zret (v := (0 : Int32)) hx hb hr rfl (fun t ht hW => ⟨rfl, by rw [ht]; exact hP, hD, hS.F ht⟩) hS.2.2 dX12_sell_58
    · rw [if_neg hc15] at hf
      refine lv_aload_n hx hb dX12_sell_18 rfl (lv_at hl 0 rfl) ?_
      refine lv_iload_n hx hb dX12_sell_19 rfl (lv_at hl 2 rfl) ?_
      obtain ⟨r20, h20, hf⟩ := bd1_some hf
      refine ro_calli (va_runV (As := [.int p2]) (rest := []) ⟨hx, hb, hml, hown, hts⟩ (c_X12_isCitizen l dC dI cyB cyI cyZ cyO h h_all h_has h_read h_test h_rest h_gets h_waits h_way h_good h_left M_h p2 r20 h20) (cwV 1 hts gX12_sell_X12_isCitizen rfl rfl rfl (by decide +kernel) ⟨Nat.le_of_ble_eq_true rfl, Nat.le_of_ble_eq_true rfl⟩) ⟨PR.blind, va_recv hK hP (ci := 12) (q0 := 0) rfl rfl, fun U hU hW => ⟨rfl, by rw [hU]; exact hP, hCx.warm hW⟩⟩ rfl rfl hl.1 rfl (lv_room (Nat.le_of_ble_eq_true rfl)) dX12_sell_20 ⟨Nat.zero_le _, Nat.zero_le _⟩) ?_
      refine lv_if_eq (tgt := 57) hx hb dX12_sell_23 (by decide) (fun hc23 => ?_) (fun hc23 => ?_)
      · rw [if_pos hc23] at hf
        refine lv_iconst (v := (0 : Int32)) hx hb dX12_sell_57 (by decide) ?_
        obtain ⟨hq0, hq1⟩ := pj2 hf
        subst hq0
        subst hq1
        exact W.zret (v := (0 : Int32)) hx hb hr rfl (fun t ht hW => ⟨rfl, by rw [ht]; exact hP, hD, hS.F ht⟩) hS.2.2 dX12_sell_58
      · rw [if_neg hc23] at hf
        refine lv_iload_n hx hb dX12_sell_26 rfl (lv_at hl 1 rfl) ?_
        refine lv_iload_n hx hb dX12_sell_27 rfl (lv_at hl 2 rfl) ?_
        refine lv_icmp_eq (tgt := 57) hx hb dX12_sell_28 (by decide) (fun hc28 => ?_) (fun hc28 => ?_)
        · rw [if_pos hc28] at hf
          refine lv_iconst (v := (0 : Int32)) hx hb dX12_sell_57 (by decide) ?_
          obtain ⟨hq0, hq1⟩ := pj2 hf
          subst hq0
          subst hq1
          exact W.zret (v := (0 : Int32)) hx hb hr rfl (fun t ht hW => ⟨rfl, by rw [ht]; exact hP, hD, hS.F ht⟩) hS.2.2 dX12_sell_58
        · rw [if_neg hc28] at hf
          refine lv_iload_n hx hb dX12_sell_31 rfl (lv_at hl 3 rfl) ?_
          refine lv_iconst (v := (1 : Int32)) hx hb dX12_sell_32 (by decide) ?_
          refine lv_icmp_lt (tgt := 57) hx hb dX12_sell_33 (by decide) (fun hc33 => ?_) (fun hc33 => ?_)
          · rw [if_pos hc33] at hf
            refine lv_iconst (v := (0 : Int32)) hx hb dX12_sell_57 (by decide) ?_
            obtain ⟨hq0, hq1⟩ := pj2 hf
            subst hq0
            subst hq1
            exact W.zret (v := (0 : Int32)) hx hb hr rfl (fun t ht hW => ⟨rfl, by rw [ht]; exact hP, hD, hS.F ht⟩) hS.2.2 dX12_sell_58
          · rw [if_neg hc33] at hf
            refine lv_iload_n hx hb dX12_sell_36 rfl (lv_at hl 3 rfl) ?_
            refine lv_aload_n hx hb dX12_sell_37 rfl (lv_at hl 0 rfl) ?_
            refine lv_iload_n hx hb dX12_sell_38 rfl (lv_at hl 1 rfl) ?_
            obtain ⟨r39, h39, hf⟩ := bd1_some hf
            refine ro_calli (va_runV (As := [.int p1]) (rest := [.int p3]) ⟨hx, hb, hml, hown, hts⟩ (c_X12_free l dC dI cyB cyI cyZ cyO h h_all h_has h_read h_test h_rest h_gets h_waits h_way h_good h_left M_h p1 r39 h39) (cwV 1 hts gX12_sell_X12_free rfl rfl rfl (by decide +kernel) ⟨Nat.le_of_ble_eq_true rfl, Nat.le_of_ble_eq_true rfl⟩) ⟨PR.blind, va_recv hK hP (ci := 12) (q0 := 0) rfl rfl, fun U hU hW => ⟨rfl, by rw [hU]; exact hP, hCx.warm hW⟩⟩ rfl rfl hl.1 rfl (lv_room (Nat.le_of_ble_eq_true rfl)) dX12_sell_39 ⟨Nat.zero_le _, Nat.zero_le _⟩) ?_
            refine lv_icmp_gt (tgt := 57) hx hb dX12_sell_42 (by decide) (fun hc42 => ?_) (fun hc42 => ?_)
            · rw [if_pos hc42] at hf
              refine lv_iconst (v := (0 : Int32)) hx hb dX12_sell_57 (by decide) ?_
              obtain ⟨hq0, hq1⟩ := pj2 hf
              subst hq0
              subst hq1
              exact W.zret (v := (0 : Int32)) hx hb hr rfl (fun t ht hW => ⟨rfl, by rw [ht]; exact hP, hD, hS.F ht⟩) hS.2.2 dX12_sell_58
            · rw [if_neg hc42] at hf
              refine lv_iload hx hb dX12_sell_45 (lv_at hl 4 rfl) ?_
              refine lv_iconst (v := (0 : Int32)) hx hb dX12_sell_47 (by decide) ?_
              refine lv_sipush (v := (10000 : Int32)) hx hb dX12_sell_48 (by decide) ?_
              obtain ⟨r51, h51, hf⟩ := bd1_some hf
              have hPc := hP.sub (ws' := ([] : va_W)) [] rfl
              refine ro_calli (va_runS (As := [.int p4, .int (0 : Int32), .int (10000 : Int32)]) (rest := []) ⟨hx, hb, hml, hown, hts⟩ (c_X12_isIn l dC dI cyB cyI cyZ cyO p4 (0 : Int32) (10000 : Int32) r51 h51) (va_cwS 3 hts gX12_sell_X12_isIn rfl rfl rfl (by decide +kernel) ⟨Nat.le_of_ble_eq_true rfl, Nat.le_of_ble_eq_true rfl⟩) ⟨PR.blind, fun U hU hW => ⟨rfl, by rw [hU]; exact hPc, hCx.warm hW⟩⟩ rfl rfl hl.1 rfl (lv_room (Nat.le_of_ble_eq_true rfl)) dX12_sell_51 ⟨Nat.zero_le _, Nat.zero_le _⟩) ?_
              refine lv_if_ne (tgt := 59) hx hb dX12_sell_54 (by decide) (fun hc54 => ?_) (fun hc54 => ?_)
              · rw [if_neg hc54] at hf
                refine lv_aload_n hx hb dX12_sell_59 rfl (lv_at hl 0 rfl) ?_
                refine lv_iload_n hx hb dX12_sell_60 rfl (lv_at hl 1 rfl) ?_
                refine lv_iconst (v := (2 : Int32)) hx hb dX12_sell_61 (by decide) ?_
                refine lv_iload_n hx hb dX12_sell_62 rfl (lv_at hl 3 rfl) ?_
                refine lv_ineg hx hb dX12_sell_63 ?_
                obtain ⟨M_h_64, h64, hf⟩ := bd1_some hf
                refine wr_callv (wc := (wX12 cyB cyI cyZ cyO h h_all h_has h_read h_test h_rest h_gets h_waits h_way h_good h_left M_h)) (wr := ([] : va_W)) (w1 := (wX12 cyB cyI cyZ cyO h h_all h_has h_read h_test h_rest h_gets h_waits h_way h_good h_left M_h_64)) (ws' := (wX12 cyB cyI cyZ cyO h h_all h_has h_read h_test h_rest h_gets h_waits h_way h_good h_left M_h_64)) hP hD hS hA [0, 1, 2, 3, 4, 5, 6, 7, 8, 9, 10] [] [0, 1, 2, 3, 4, 5, 6, 7, 8, 9, 10] rfl rfl (by decide) (by decide) rfl (by decide) (va_runV (As := [.int p1, .int (2 : Int32), .int (-p3)]) (rest := []) ⟨hx, hb, hml, hown, hts⟩ (c_X12_adds l dC dI cyB cyI cyZ cyO h h_all h_has h_read h_test h_rest h_gets h_waits h_way h_good h_left _ M_h p1 (2 : Int32) (-p3) M_h_64 h64) (cwV 3 hts gX12_sell_X12_adds rfl rfl rfl (by decide +kernel) ⟨Nat.le_of_ble_eq_true rfl, Nat.le_of_ble_eq_true rfl⟩) ⟨PW.blind, va_recv hK hP (ci := 12) (q0 := 0) rfl rfl, fun U hU hW => ⟨rfl, by rw [hU], by rw [hU]; exact hP, hCx.warm hW, hD.weaken (fun _ _ _ _ => trivial)⟩⟩ rfl rfl hl.1 rfl (lv_room (Nat.le_of_ble_eq_true rfl)) dX12_sell_64 ⟨Nat.zero_le _, Nat.zero_le _⟩) (fun H locs hP hD hS => ?_)
                refine lv_aload_n hx hb dX12_sell_67 rfl (lv_at hl 0 rfl) ?_
                refine lv_iload_n hx hb dX12_sell_68 rfl (lv_at hl 2 rfl) ?_
                refine lv_iconst (v := (2 : Int32)) hx hb dX12_sell_69 (by decide) ?_
                refine lv_iload_n hx hb dX12_sell_70 rfl (lv_at hl 3 rfl) ?_
                obtain ⟨M_h_71, h71, hf⟩ := bd1_some hf
                refine wr_callv (wc := (wX12 cyB cyI cyZ cyO h h_all h_has h_read h_test h_rest h_gets h_waits h_way h_good h_left M_h_64)) (wr := ([] : va_W)) (w1 := (wX12 cyB cyI cyZ cyO h h_all h_has h_read h_test h_rest h_gets h_waits h_way h_good h_left M_h_71)) (ws' := (wX12 cyB cyI cyZ cyO h h_all h_has h_read h_test h_rest h_gets h_waits h_way h_good h_left M_h_71)) hP hD hS hA [0, 1, 2, 3, 4, 5, 6, 7, 8, 9, 10] [] [0, 1, 2, 3, 4, 5, 6, 7, 8, 9, 10] rfl rfl (by decide) (by decide) rfl (by decide) (va_runV (As := [.int p2, .int (2 : Int32), .int p3]) (rest := []) ⟨hx, hb, hml, hown, hts⟩ (c_X12_adds l dC dI cyB cyI cyZ cyO h h_all h_has h_read h_test h_rest h_gets h_waits h_way h_good h_left _ M_h_64 p2 (2 : Int32) p3 M_h_71 h71) (cwV 3 hts gX12_sell_X12_adds rfl rfl rfl (by decide +kernel) ⟨Nat.le_of_ble_eq_true rfl, Nat.le_of_ble_eq_true rfl⟩) ⟨PW.blind, va_recv hK hP (ci := 12) (q0 := 0) rfl rfl, fun U hU hW => ⟨rfl, by rw [hU], by rw [hU]; exact hP, hCx.warm hW, hD.weaken (fun _ _ _ _ => trivial)⟩⟩ rfl rfl hl.1 rfl (lv_room (Nat.le_of_ble_eq_true rfl)) dX12_sell_71 ⟨Nat.zero_le _, Nat.zero_le _⟩) (fun H locs hP hD hS => ?_)
                refine lv_aload_n hx hb dX12_sell_74 rfl (lv_at hl 0 rfl) ?_
                refine lv_iload_n hx hb dX12_sell_75 rfl (lv_at hl 1 rfl) ?_
                refine lv_iconst (v := (4 : Int32)) hx hb dX12_sell_76 (by decide) ?_
                refine lv_iload hx hb dX12_sell_77 (lv_at hl 4 rfl) ?_
                obtain ⟨M_h_79, h79, hf⟩ := bd1_some hf
                refine wr_callv (wc := (wX12 cyB cyI cyZ cyO h h_all h_has h_read h_test h_rest h_gets h_waits h_way h_good h_left M_h_71)) (wr := ([] : va_W)) (w1 := (wX12 cyB cyI cyZ cyO h h_all h_has h_read h_test h_rest h_gets h_waits h_way h_good h_left M_h_79)) (ws' := (wX12 cyB cyI cyZ cyO h h_all h_has h_read h_test h_rest h_gets h_waits h_way h_good h_left M_h_79)) hP hD hS hA [0, 1, 2, 3, 4, 5, 6, 7, 8, 9, 10] [] [0, 1, 2, 3, 4, 5, 6, 7, 8, 9, 10] rfl rfl (by decide) (by decide) rfl (by decide) (va_runV (As := [.int p1, .int (4 : Int32), .int p4]) (rest := []) ⟨hx, hb, hml, hown, hts⟩ (c_X12_adds l dC dI cyB cyI cyZ cyO h h_all h_has h_read h_test h_rest h_gets h_waits h_way h_good h_left _ M_h_71 p1 (4 : Int32) p4 M_h_79 h79) (cwV 3 hts gX12_sell_X12_adds rfl rfl rfl (by decide +kernel) ⟨Nat.le_of_ble_eq_true rfl, Nat.le_of_ble_eq_true rfl⟩) ⟨PW.blind, va_recv hK hP (ci := 12) (q0 := 0) rfl rfl, fun U hU hW => ⟨rfl, by rw [hU], by rw [hU]; exact hP, hCx.warm hW, hD.weaken (fun _ _ _ _ => trivial)⟩⟩ rfl rfl hl.1 rfl (lv_room (Nat.le_of_ble_eq_true rfl)) dX12_sell_79 ⟨Nat.zero_le _, Nat.zero_le _⟩) (fun H locs hP hD hS => ?_)
                refine lv_aload_n hx hb dX12_sell_82 rfl (lv_at hl 0 rfl) ?_
                refine lv_iload_n hx hb dX12_sell_83 rfl (lv_at hl 2 rfl) ?_
                refine lv_iconst (v := (4 : Int32)) hx hb dX12_sell_84 (by decide) ?_
                refine lv_iload hx hb dX12_sell_85 (lv_at hl 4 rfl) ?_
                refine lv_ineg hx hb dX12_sell_87 ?_
                obtain ⟨M_h_88, h88, hf⟩ := bd1_some hf
                refine wr_callv (wc := (wX12 cyB cyI cyZ cyO h h_all h_has h_read h_test h_rest h_gets h_waits h_way h_good h_left M_h_79)) (wr := ([] : va_W)) (w1 := (wX12 cyB cyI cyZ cyO h h_all h_has h_read h_test h_rest h_gets h_waits h_way h_good h_left M_h_88)) (ws' := (wX12 cyB cyI cyZ cyO h h_all h_has h_read h_test h_rest h_gets h_waits h_way h_good h_left M_h_88)) hP hD hS hA [0, 1, 2, 3, 4, 5, 6, 7, 8, 9, 10] [] [0, 1, 2, 3, 4, 5, 6, 7, 8, 9, 10] rfl rfl (by decide) (by decide) rfl (by decide) (va_runV (As := [.int p2, .int (4 : Int32), .int (-p4)]) (rest := []) ⟨hx, hb, hml, hown, hts⟩ (c_X12_adds l dC dI cyB cyI cyZ cyO h h_all h_has h_read h_test h_rest h_gets h_waits h_way h_good h_left _ M_h_79 p2 (4 : Int32) (-p4) M_h_88 h88) (cwV 3 hts gX12_sell_X12_adds rfl rfl rfl (by decide +kernel) ⟨Nat.le_of_ble_eq_true rfl, Nat.le_of_ble_eq_true rfl⟩) ⟨PW.blind, va_recv hK hP (ci := 12) (q0 := 0) rfl rfl, fun U hU hW => ⟨rfl, by rw [hU], by rw [hU]; exact hP, hCx.warm hW, hD.weaken (fun _ _ _ _ => trivial)⟩⟩ rfl rfl hl.1 rfl (lv_room (Nat.le_of_ble_eq_true rfl)) dX12_sell_88 ⟨Nat.zero_le _, Nat.zero_le _⟩) (fun H locs hP hD hS => ?_)
                refine lv_iconst (v := (1 : Int32)) hx hb dX12_sell_91 (by decide) ?_
                obtain ⟨hq0, hq1⟩ := pj2 hf
                subst hq0
                subst hq1
                exact W.zret (v := (1 : Int32)) hx hb hr rfl (fun t ht hW => ⟨rfl, by rw [ht]; exact hP, hD, hS.F ht⟩) hS.2.2 dX12_sell_92
              · rw [if_pos hc54] at hf
                refine lv_iconst (v := (0 : Int32)) hx hb dX12_sell_57 (by decide) ?_
                obtain ⟨hq0, hq1⟩ := pj2 hf
                subst hq0
                subst hq1
                exact W.zret (v := (0 : Int32)) hx hb hr rfl (fun t ht hW => ⟨rfl, by rw [ht]; exact hP, hD, hS.F ht⟩) hS.2.2 dX12_sell_58
set_option maxHeartbeats 4000000 in
set_option maxRecDepth 100000 in
theorem c_X12_bale (l : Launch) (dC : Nat → ClassId) (dI : Nat → Nat → Nat) (cyB cyI cyZ cyO : ClassId) (h h_all h_has h_read h_test h_rest h_gets h_waits h_way h_good h_left : Nat) (sz : Nat) (M_h : Mem) (p1 : Int32) (p2 : Int32) (p3 : Int32) (p4 : Int32) (r : Int32) (R_h : Mem) (hf : f_X12_bale M_h p1 p2 p3 p4 = some (r, R_h)) : Met l yX12_bale wsX12_bale ({ frames := 2, cells := 0, slots := 0, locals := 43 } : Room) (PW dC dI cyB cyI cyZ cyO ([.ref h, .int p1, .int p2, .int p3, .int p4] : List Value) (wX12 cyB cyI cyZ cyO h h_all h_has h_read h_test h_rest h_gets h_waits h_way h_good h_left M_h) sz) (QW dC dI (some (.int r)) (wX12 cyB cyI cyZ cyO h h_all h_has h_read h_test h_rest h_gets h_waits h_way h_good h_left R_h) (va_A (wX12 cyB cyI cyZ cyO h h_all h_has h_read h_test h_rest h_gets h_waits h_way h_good h_left M_h) sz)) 0 0 (va_A (wX12 cyB cyI cyZ cyO h h_all h_has h_read h_test h_rest h_gets h_waits h_way h_good h_left M_h) sz) := by
  refine Met.ofW (cc := cX12_bale) (maxL := 6) (ret := (some .int)) (by decide) rfl ?_
  intro p e s m args below meth c s₁ B hml hv
  obtain ⟨rfl, hsz, hP, hCx, hD0⟩ := hv
  have hK := hCx.1
  have hN := hCx.2
  have hx := B.exec
  have hb := B.bytes
  have hr := B.returns
  have hts := atoms_spec (ws := wsX12_bale) B.pre
  have hown : s.vm.findClass RX12 = some m.cls := findClass_of_methodNamed B.named
  have hlocks := B.notSynchronized
  have hin12 : ∀ w ∈ u_ws RX12 TX12 21, w ∈ wsX12_bale := fun w h => List.mem_cons_of_mem _ (List.mem_append_right _ h)
  have kf7 := hts (.fieldLink RX12 7 "HoldSlipsModel" "all" "[I") (by decide +kernel)
  subst hsz
  have hD := hD0.self (sz := s.heap.size)
  generalize hAe : va_A (wX12 cyB cyI cyZ cyO h h_all h_has h_read h_test h_rest h_gets h_waits h_way h_good h_left M_h) s.heap.size = A at hD ⊢
  have hA : ∀ q : Nat, s.heap.size ≤ q → A q := fun q h => by rw [← hAe]; exact Or.inr h
  have hS : va_S A s.heap s.heap [] := va_S.rf
  have hl := lv_entry ([.ref h, .int p1, .int p2, .int p3, .int p4] : List Value) (n := 6) (Nat.le_of_ble_eq_true rfl)
  rw [lg_entry_eq]
  generalize (lg_sl ([.ref h, .int p1, .int p2, .int p3, .int p4] : List Value) ++ List.replicate (6 - (lg_sl ([.ref h, .int p1, .int p2, .int p3, .int p4] : List Value)).length) Slot.unset).toArray = ls at hl ⊢
  have hl : lv_has ls 6 [(0, .ref h), (1, .int p1), (2, .int p2), (3, .int p3), (4, .int p4)] := hl
  rw [f_X12_bale] at hf
  refine lv_aload_n hx hb dX12_bale_0 rfl (lv_at hl 0 rfl) ?_
  refine va_get (D := (dC, dI)) (ci := 12) (v := .ref h_all) (C := RX12) (T := TX12) (N := 21) hx hb hts hin12 hown hK hP 0 rfl rfl 0 (by decide) kf7 (fun _ h9 => h9) rfl dX12_bale_1 ?_
  refine lv_iconst (v := (1 : Int32)) hx hb dX12_bale_4 (by decide) ?_
  refine va_iald hx hb hK hP 1 1 rfl rfl (show ¬ ((1 : Int32) < 0 ∨ 11160 ≤ ((1 : Int32)).toNatClampNeg) by decide) dX12_bale_5 ?_
  refine lv_iconst (v := (1 : Int32)) hx hb dX12_bale_6 (by decide) ?_
  refine lv_icmp_eq (tgt := 62) hx hb dX12_bale_7 (by decide) (fun hc7 => ?_) (fun hc7 => ?_)
  · rw [if_pos hc7] at hf
    refine lv_iconst (v := (-1 : Int32)) hx hb dX12_bale_62 (by decide) ?_
    obtain ⟨hq0, hq1⟩ := pj2 hf
    subst hq0
    subst hq1
    exact W.iret (v := (-1 : Int32)) hx hb hr (fun t ht hW => ⟨rfl, by rw [ht]; exact hP, hD, hS.F ht⟩) hS.2.2 dX12_bale_63
  · rw [if_neg hc7] at hf
    refine lv_aload_n hx hb dX12_bale_10 rfl (lv_at hl 0 rfl) ?_
    refine va_get (D := (dC, dI)) (ci := 12) (v := .ref h_all) (C := RX12) (T := TX12) (N := 21) hx hb hts hin12 hown hK hP 0 rfl rfl 0 (by decide) kf7 (fun _ h9 => h9) rfl dX12_bale_11 ?_
    refine lv_iconst (v := (4 : Int32)) hx hb dX12_bale_14 (by decide) ?_
    refine va_iald hx hb hK hP 1 1 rfl rfl (show ¬ ((4 : Int32) < 0 ∨ 11160 ≤ ((4 : Int32)).toNatClampNeg) by decide) dX12_bale_15 ?_
    refine lv_bipush (v := (12 : Int32)) hx hb dX12_bale_16 (by decide) ?_
    refine lv_icmp_eq (tgt := 62) hx hb dX12_bale_18 (by decide) (fun hc18 => ?_) (fun hc18 => ?_)
    · rw [if_pos hc18] at hf
      refine lv_iconst (v := (-1 : Int32)) hx hb dX12_bale_62 (by decide) ?_
      obtain ⟨hq0, hq1⟩ := pj2 hf
      subst hq0
      subst hq1
      exact W.iret (v := (-1 : Int32)) hx hb hr (fun t ht hW => ⟨rfl, by rw [ht]; exact hP, hD, hS.F ht⟩) hS.2.2 dX12_bale_63
    · rw [if_neg hc18] at hf
      refine lv_aload_n hx hb dX12_bale_21 rfl (lv_at hl 0 rfl) ?_
      refine lv_iload_n hx hb dX12_bale_22 rfl (lv_at hl 1 rfl) ?_
      obtain ⟨r23, h23, hf⟩ := bd1_some hf
      refine ro_calli (va_runV (As := [.int p1]) (rest := []) ⟨hx, hb, hml, hown, hts⟩ (c_X12_isCitizen l dC dI cyB cyI cyZ cyO h h_all h_has h_read h_test h_rest h_gets h_waits h_way h_good h_left M_h p1 r23 h23) (cwV 1 hts gX12_bale_X12_isCitizen rfl rfl rfl (by decide +kernel) ⟨Nat.le_of_ble_eq_true rfl, Nat.le_of_ble_eq_true rfl⟩) ⟨PR.blind, va_recv hK hP (ci := 12) (q0 := 0) rfl rfl, fun U hU hW => ⟨rfl, by rw [hU]; exact hP, hCx.warm hW⟩⟩ rfl rfl hl.1 rfl (lv_room (Nat.le_of_ble_eq_true rfl)) dX12_bale_23 ⟨Nat.zero_le _, Nat.zero_le _⟩) ?_
      refine lv_if_eq (tgt := 62) hx hb dX12_bale_26 (by decide) (fun hc26 => ?_) (fun hc26 => ?_)
      · rw [if_pos hc26] at hf
        refine lv_iconst (v := (-1 : Int32)) hx hb dX12_bale_62 (by decide) ?_
        obtain ⟨hq0, hq1⟩ := pj2 hf
        subst hq0
        subst hq1
        exact W.iret (v := (-1 : Int32)) hx hb hr (fun t ht hW => ⟨rfl, by rw [ht]; exact hP, hD, hS.F ht⟩) hS.2.2 dX12_bale_63
      · rw [if_neg hc26] at hf
        refine lv_iload_n hx hb dX12_bale_29 rfl (lv_at hl 2 rfl) ?_
        refine lv_iconst (v := (1 : Int32)) hx hb dX12_bale_30 (by decide) ?_
        refine lv_bipush (v := (40 : Int32)) hx hb dX12_bale_31 (by decide) ?_
        obtain ⟨r33, h33, hf⟩ := bd1_some hf
        have hPc := hP.sub (ws' := ([] : va_W)) [] rfl
        refine ro_calli (va_runS (As := [.int p2, .int (1 : Int32), .int (40 : Int32)]) (rest := []) ⟨hx, hb, hml, hown, hts⟩ (c_X12_isIn l dC dI cyB cyI cyZ cyO p2 (1 : Int32) (40 : Int32) r33 h33) (va_cwS 3 hts gX12_bale_X12_isIn rfl rfl rfl (by decide +kernel) ⟨Nat.le_of_ble_eq_true rfl, Nat.le_of_ble_eq_true rfl⟩) ⟨PR.blind, fun U hU hW => ⟨rfl, by rw [hU]; exact hPc, hCx.warm hW⟩⟩ rfl rfl hl.1 rfl (lv_room (Nat.le_of_ble_eq_true rfl)) dX12_bale_33 ⟨Nat.zero_le _, Nat.zero_le _⟩) ?_
        refine lv_if_eq (tgt := 62) hx hb dX12_bale_36 (by decide) (fun hc36 => ?_) (fun hc36 => ?_)
        · rw [if_pos hc36] at hf
          refine lv_iconst (v := (-1 : Int32)) hx hb dX12_bale_62 (by decide) ?_
          obtain ⟨hq0, hq1⟩ := pj2 hf
          subst hq0
          subst hq1
          exact W.iret (v := (-1 : Int32)) hx hb hr (fun t ht hW => ⟨rfl, by rw [ht]; exact hP, hD, hS.F ht⟩) hS.2.2 dX12_bale_63
        · rw [if_neg hc36] at hf
          refine lv_iload_n hx hb dX12_bale_39 rfl (lv_at hl 3 rfl) ?_
          refine lv_iconst (v := (1 : Int32)) hx hb dX12_bale_40 (by decide) ?_
          refine lv_sipush (v := (200 : Int32)) hx hb dX12_bale_41 (by decide) ?_
          obtain ⟨r44, h44, hf⟩ := bd1_some hf
          have hPc := hP.sub (ws' := ([] : va_W)) [] rfl
          refine ro_calli (va_runS (As := [.int p3, .int (1 : Int32), .int (200 : Int32)]) (rest := []) ⟨hx, hb, hml, hown, hts⟩ (c_X12_isIn l dC dI cyB cyI cyZ cyO p3 (1 : Int32) (200 : Int32) r44 h44) (va_cwS 3 hts gX12_bale_X12_isIn rfl rfl rfl (by decide +kernel) ⟨Nat.le_of_ble_eq_true rfl, Nat.le_of_ble_eq_true rfl⟩) ⟨PR.blind, fun U hU hW => ⟨rfl, by rw [hU]; exact hPc, hCx.warm hW⟩⟩ rfl rfl hl.1 rfl (lv_room (Nat.le_of_ble_eq_true rfl)) dX12_bale_44 ⟨Nat.zero_le _, Nat.zero_le _⟩) ?_
          refine lv_if_eq (tgt := 62) hx hb dX12_bale_47 (by decide) (fun hc47 => ?_) (fun hc47 => ?_)
          · rw [if_pos hc47] at hf
            refine lv_iconst (v := (-1 : Int32)) hx hb dX12_bale_62 (by decide) ?_
            obtain ⟨hq0, hq1⟩ := pj2 hf
            subst hq0
            subst hq1
            exact W.iret (v := (-1 : Int32)) hx hb hr (fun t ht hW => ⟨rfl, by rw [ht]; exact hP, hD, hS.F ht⟩) hS.2.2 dX12_bale_63
          · rw [if_neg hc47] at hf
            refine lv_iload hx hb dX12_bale_50 (lv_at hl 4 rfl) ?_
            refine lv_iconst (v := (1 : Int32)) hx hb dX12_bale_52 (by decide) ?_
            refine lv_sipush (v := (1000 : Int32)) hx hb dX12_bale_53 (by decide) ?_
            obtain ⟨r56, h56, hf⟩ := bd1_some hf
            have hPc := hP.sub (ws' := ([] : va_W)) [] rfl
            refine ro_calli (va_runS (As := [.int p4, .int (1 : Int32), .int (1000 : Int32)]) (rest := []) ⟨hx, hb, hml, hown, hts⟩ (c_X12_isIn l dC dI cyB cyI cyZ cyO p4 (1 : Int32) (1000 : Int32) r56 h56) (va_cwS 3 hts gX12_bale_X12_isIn rfl rfl rfl (by decide +kernel) ⟨Nat.le_of_ble_eq_true rfl, Nat.le_of_ble_eq_true rfl⟩) ⟨PR.blind, fun U hU hW => ⟨rfl, by rw [hU]; exact hPc, hCx.warm hW⟩⟩ rfl rfl hl.1 rfl (lv_room (Nat.le_of_ble_eq_true rfl)) dX12_bale_56 ⟨Nat.zero_le _, Nat.zero_le _⟩) ?_
            refine lv_if_ne (tgt := 64) hx hb dX12_bale_59 (by decide) (fun hc59 => ?_) (fun hc59 => ?_)
            · rw [if_neg hc59] at hf
              refine lv_aload_n hx hb dX12_bale_64 rfl (lv_at hl 0 rfl) ?_
              refine va_get (D := (dC, dI)) (ci := 12) (v := .ref h_all) (C := RX12) (T := TX12) (N := 21) hx hb hts hin12 hown hK hP 0 rfl rfl 0 (by decide) kf7 (fun _ h9 => h9) rfl dX12_bale_65 ?_
              refine lv_iconst (v := (4 : Int32)) hx hb dX12_bale_68 (by decide) ?_
              refine va_iald hx hb hK hP 1 1 rfl rfl (show ¬ ((4 : Int32) < 0 ∨ 11160 ≤ ((4 : Int32)).toNatClampNeg) by decide) dX12_bale_69 ?_
              refine lv_istore (lv' := [(5, .int (M_h 0 ((4 : Int32)).toNatClampNeg)), (0, .ref h), (1, .int p1), (2, .int p2), (3, .int p3), (4, .int p4)]) hx hb dX12_bale_70 hl (by decide) rfl (fun ls hl => ?_)
              refine lv_aload_n hx hb dX12_bale_72 rfl (lv_at hl 1 rfl) ?_
              refine va_get (D := (dC, dI)) (ci := 12) (v := .ref h_all) (C := RX12) (T := TX12) (N := 21) hx hb hts hin12 hown hK hP 0 rfl rfl 0 (by decide) kf7 (fun _ h9 => h9) rfl dX12_bale_73 ?_
              refine lv_iconst (v := (4 : Int32)) hx hb dX12_bale_76 (by decide) ?_
              refine lv_dup2_11 hx hb dX12_bale_77 rfl rfl ?_
              refine va_iald hx hb hK hP 1 1 rfl rfl (show ¬ ((4 : Int32) < 0 ∨ 11160 ≤ ((4 : Int32)).toNatClampNeg) by decide) dX12_bale_78 ?_
              refine lv_iconst (v := (1 : Int32)) hx hb dX12_bale_79 (by decide) ?_
              refine lv_iadd hx hb dX12_bale_80 ?_
              refine va_iast hx hb hK hP hD hS 1 1 rfl rfl (show ¬ ((4 : Int32) < 0 ∨ 11160 ≤ ((4 : Int32)).toNatClampNeg) by decide) dX12_bale_81 (fun H locs hP hD hS => ?_)
              obtain ⟨M_h_81, eM_h_81, hf⟩ := wr_some hf
              have hP : va_P (dC, dI) vwCl (wX12 cyB cyI cyZ cyO h h_all h_has h_read h_test h_rest h_gets h_waits h_way h_good h_left M_h_81) H := by rw [eM_h_81]; exact hP
              have hD : va_D A (wX12 cyB cyI cyZ cyO h h_all h_has h_read h_test h_rest h_gets h_waits h_way h_good h_left M_h_81) := by rw [eM_h_81]; exact hD
              refine lv_aload_n hx hb dX12_bale_82 rfl (lv_at hl 1 rfl) ?_
              refine lv_iload hx hb dX12_bale_83 (lv_at hl 0 rfl) ?_
              refine lv_iconst (v := (0 : Int32)) hx hb dX12_bale_85 (by decide) ?_
              refine lv_iload_n hx hb dX12_bale_86 rfl (lv_at hl 2 rfl) ?_
              obtain ⟨M_h_87, h87, hf⟩ := bd1_some hf
              refine wr_callv (wc := (wX12 cyB cyI cyZ cyO h h_all h_has h_read h_test h_rest h_gets h_waits h_way h_good h_left M_h_81)) (wr := ([] : va_W)) (w1 := (wX12 cyB cyI cyZ cyO h h_all h_has h_read h_test h_rest h_gets h_waits h_way h_good h_left M_h_87)) (ws' := (wX12 cyB cyI cyZ cyO h h_all h_has h_read h_test h_rest h_gets h_waits h_way h_good h_left M_h_87)) hP hD hS hA [0, 1, 2, 3, 4, 5, 6, 7, 8, 9, 10] [] [0, 1, 2, 3, 4, 5, 6, 7, 8, 9, 10] rfl rfl (by decide) (by decide) rfl (by decide) (va_runV (As := [.int (M_h 0 ((4 : Int32)).toNatClampNeg), .int (0 : Int32), .int p1]) (rest := []) ⟨hx, hb, hml, hown, hts⟩ (c_X12_sets l dC dI cyB cyI cyZ cyO h h_all h_has h_read h_test h_rest h_gets h_waits h_way h_good h_left _ M_h_81 (M_h 0 ((4 : Int32)).toNatClampNeg) (0 : Int32) p1 M_h_87 h87) (cwV 3 hts gX12_bale_X12_sets rfl rfl rfl (by decide +kernel) ⟨Nat.le_of_ble_eq_true rfl, Nat.le_of_ble_eq_true rfl⟩) ⟨PW.blind, va_recv hK hP (ci := 12) (q0 := 0) rfl rfl, fun U hU hW => ⟨rfl, by rw [hU], by rw [hU]; exact hP, hCx.warm hW, hD.weaken (fun _ _ _ _ => trivial)⟩⟩ rfl rfl hl.1 rfl (lv_room (Nat.le_of_ble_eq_true rfl)) dX12_bale_87 ⟨Nat.zero_le _, Nat.zero_le _⟩) (fun H locs hP hD hS => ?_)
              refine lv_aload_n hx hb dX12_bale_90 rfl (lv_at hl 1 rfl) ?_
              refine lv_iload hx hb dX12_bale_91 (lv_at hl 0 rfl) ?_
              refine lv_iconst (v := (1 : Int32)) hx hb dX12_bale_93 (by decide) ?_
              refine lv_iload_n hx hb dX12_bale_94 rfl (lv_at hl 3 rfl) ?_
              obtain ⟨M_h_95, h95, hf⟩ := bd1_some hf
              refine wr_callv (wc := (wX12 cyB cyI cyZ cyO h h_all h_has h_read h_test h_rest h_gets h_waits h_way h_good h_left M_h_87)) (wr := ([] : va_W)) (w1 := (wX12 cyB cyI cyZ cyO h h_all h_has h_read h_test h_rest h_gets h_waits h_way h_good h_left M_h_95)) (ws' := (wX12 cyB cyI cyZ cyO h h_all h_has h_read h_test h_rest h_gets h_waits h_way h_good h_left M_h_95)) hP hD hS hA [0, 1, 2, 3, 4, 5, 6, 7, 8, 9, 10] [] [0, 1, 2, 3, 4, 5, 6, 7, 8, 9, 10] rfl rfl (by decide) (by decide) rfl (by decide) (va_runV (As := [.int (M_h 0 ((4 : Int32)).toNatClampNeg), .int (1 : Int32), .int p2]) (rest := []) ⟨hx, hb, hml, hown, hts⟩ (c_X12_sets l dC dI cyB cyI cyZ cyO h h_all h_has h_read h_test h_rest h_gets h_waits h_way h_good h_left _ M_h_87 (M_h 0 ((4 : Int32)).toNatClampNeg) (1 : Int32) p2 M_h_95 h95) (cwV 3 hts gX12_bale_X12_sets rfl rfl rfl (by decide +kernel) ⟨Nat.le_of_ble_eq_true rfl, Nat.le_of_ble_eq_true rfl⟩) ⟨PW.blind, va_recv hK hP (ci := 12) (q0 := 0) rfl rfl, fun U hU hW => ⟨rfl, by rw [hU], by rw [hU]; exact hP, hCx.warm hW, hD.weaken (fun _ _ _ _ => trivial)⟩⟩ rfl rfl hl.1 rfl (lv_room (Nat.le_of_ble_eq_true rfl)) dX12_bale_95 ⟨Nat.zero_le _, Nat.zero_le _⟩) (fun H locs hP hD hS => ?_)
              refine lv_aload_n hx hb dX12_bale_98 rfl (lv_at hl 1 rfl) ?_
              refine lv_iload hx hb dX12_bale_99 (lv_at hl 0 rfl) ?_
              refine lv_iconst (v := (2 : Int32)) hx hb dX12_bale_101 (by decide) ?_
              refine lv_iload_n hx hb dX12_bale_102 rfl (lv_at hl 4 rfl) ?_
              obtain ⟨M_h_103, h103, hf⟩ := bd1_some hf
              refine wr_callv (wc := (wX12 cyB cyI cyZ cyO h h_all h_has h_read h_test h_rest h_gets h_waits h_way h_good h_left M_h_95)) (wr := ([] : va_W)) (w1 := (wX12 cyB cyI cyZ cyO h h_all h_has h_read h_test h_rest h_gets h_waits h_way h_good h_left M_h_103)) (ws' := (wX12 cyB cyI cyZ cyO h h_all h_has h_read h_test h_rest h_gets h_waits h_way h_good h_left M_h_103)) hP hD hS hA [0, 1, 2, 3, 4, 5, 6, 7, 8, 9, 10] [] [0, 1, 2, 3, 4, 5, 6, 7, 8, 9, 10] rfl rfl (by decide) (by decide) rfl (by decide) (va_runV (As := [.int (M_h 0 ((4 : Int32)).toNatClampNeg), .int (2 : Int32), .int p3]) (rest := []) ⟨hx, hb, hml, hown, hts⟩ (c_X12_sets l dC dI cyB cyI cyZ cyO h h_all h_has h_read h_test h_rest h_gets h_waits h_way h_good h_left _ M_h_95 (M_h 0 ((4 : Int32)).toNatClampNeg) (2 : Int32) p3 M_h_103 h103) (cwV 3 hts gX12_bale_X12_sets rfl rfl rfl (by decide +kernel) ⟨Nat.le_of_ble_eq_true rfl, Nat.le_of_ble_eq_true rfl⟩) ⟨PW.blind, va_recv hK hP (ci := 12) (q0 := 0) rfl rfl, fun U hU hW => ⟨rfl, by rw [hU], by rw [hU]; exact hP, hCx.warm hW, hD.weaken (fun _ _ _ _ => trivial)⟩⟩ rfl rfl hl.1 rfl (lv_room (Nat.le_of_ble_eq_true rfl)) dX12_bale_103 ⟨Nat.zero_le _, Nat.zero_le _⟩) (fun H locs hP hD hS => ?_)
              refine lv_aload_n hx hb dX12_bale_106 rfl (lv_at hl 1 rfl) ?_
              refine lv_iload hx hb dX12_bale_107 (lv_at hl 0 rfl) ?_
              refine lv_iconst (v := (3 : Int32)) hx hb dX12_bale_109 (by decide) ?_
              refine lv_iload hx hb dX12_bale_110 (lv_at hl 5 rfl) ?_
              obtain ⟨M_h_112, h112, hf⟩ := bd1_some hf
              refine wr_callv (wc := (wX12 cyB cyI cyZ cyO h h_all h_has h_read h_test h_rest h_gets h_waits h_way h_good h_left M_h_103)) (wr := ([] : va_W)) (w1 := (wX12 cyB cyI cyZ cyO h h_all h_has h_read h_test h_rest h_gets h_waits h_way h_good h_left M_h_112)) (ws' := (wX12 cyB cyI cyZ cyO h h_all h_has h_read h_test h_rest h_gets h_waits h_way h_good h_left M_h_112)) hP hD hS hA [0, 1, 2, 3, 4, 5, 6, 7, 8, 9, 10] [] [0, 1, 2, 3, 4, 5, 6, 7, 8, 9, 10] rfl rfl (by decide) (by decide) rfl (by decide) (va_runV (As := [.int (M_h 0 ((4 : Int32)).toNatClampNeg), .int (3 : Int32), .int p4]) (rest := []) ⟨hx, hb, hml, hown, hts⟩ (c_X12_sets l dC dI cyB cyI cyZ cyO h h_all h_has h_read h_test h_rest h_gets h_waits h_way h_good h_left _ M_h_103 (M_h 0 ((4 : Int32)).toNatClampNeg) (3 : Int32) p4 M_h_112 h112) (cwV 3 hts gX12_bale_X12_sets rfl rfl rfl (by decide +kernel) ⟨Nat.le_of_ble_eq_true rfl, Nat.le_of_ble_eq_true rfl⟩) ⟨PW.blind, va_recv hK hP (ci := 12) (q0 := 0) rfl rfl, fun U hU hW => ⟨rfl, by rw [hU], by rw [hU]; exact hP, hCx.warm hW, hD.weaken (fun _ _ _ _ => trivial)⟩⟩ rfl rfl hl.1 rfl (lv_room (Nat.le_of_ble_eq_true rfl)) dX12_bale_112 ⟨Nat.zero_le _, Nat.zero_le _⟩) (fun H locs hP hD hS => ?_)
              refine lv_aload_n hx hb dX12_bale_115 rfl (lv_at hl 1 rfl) ?_
              refine lv_iload hx hb dX12_bale_116 (lv_at hl 0 rfl) ?_
              refine lv_iconst (v := (4 : Int32)) hx hb dX12_bale_118 (by decide) ?_
              refine lv_iconst (v := (0 : Int32)) hx hb dX12_bale_119 (by decide) ?_
              obtain ⟨M_h_120, h120, hf⟩ := bd1_some hf
              refine wr_callv (wc := (wX12 cyB cyI cyZ cyO h h_all h_has h_read h_test h_rest h_gets h_waits h_way h_good h_left M_h_112)) (wr := ([] : va_W)) (w1 := (wX12 cyB cyI cyZ cyO h h_all h_has h_read h_test h_rest h_gets h_waits h_way h_good h_left M_h_120)) (ws' := (wX12 cyB cyI cyZ cyO h h_all h_has h_read h_test h_rest h_gets h_waits h_way h_good h_left M_h_120)) hP hD hS hA [0, 1, 2, 3, 4, 5, 6, 7, 8, 9, 10] [] [0, 1, 2, 3, 4, 5, 6, 7, 8, 9, 10] rfl rfl (by decide) (by decide) rfl (by decide) (va_runV (As := [.int (M_h 0 ((4 : Int32)).toNatClampNeg), .int (4 : Int32), .int (0 : Int32)]) (rest := []) ⟨hx, hb, hml, hown, hts⟩ (c_X12_sets l dC dI cyB cyI cyZ cyO h h_all h_has h_read h_test h_rest h_gets h_waits h_way h_good h_left _ M_h_112 (M_h 0 ((4 : Int32)).toNatClampNeg) (4 : Int32) (0 : Int32) M_h_120 h120) (cwV 3 hts gX12_bale_X12_sets rfl rfl rfl (by decide +kernel) ⟨Nat.le_of_ble_eq_true rfl, Nat.le_of_ble_eq_true rfl⟩) ⟨PW.blind, va_recv hK hP (ci := 12) (q0 := 0) rfl rfl, fun U hU hW => ⟨rfl, by rw [hU], by rw [hU]; exact hP, hCx.warm hW, hD.weaken (fun _ _ _ _ => trivial)⟩⟩ rfl rfl hl.1 rfl (lv_room (Nat.le_of_ble_eq_true rfl)) dX12_bale_120 ⟨Nat.zero_le _, Nat.zero_le _⟩) (fun H locs hP hD hS => ?_)
              refine lv_aload_n hx hb dX12_bale_123 rfl (lv_at hl 1 rfl) ?_
              refine lv_iload hx hb dX12_bale_124 (lv_at hl 0 rfl) ?_
              refine lv_iconst (v := (5 : Int32)) hx hb dX12_bale_126 (by decide) ?_
              refine lv_iconst (v := (-1 : Int32)) hx hb dX12_bale_127 (by decide) ?_
              obtain ⟨M_h_128, h128, hf⟩ := bd1_some hf
              refine wr_callv (wc := (wX12 cyB cyI cyZ cyO h h_all h_has h_read h_test h_rest h_gets h_waits h_way h_good h_left M_h_120)) (wr := ([] : va_W)) (w1 := (wX12 cyB cyI cyZ cyO h h_all h_has h_read h_test h_rest h_gets h_waits h_way h_good h_left M_h_128)) (ws' := (wX12 cyB cyI cyZ cyO h h_all h_has h_read h_test h_rest h_gets h_waits h_way h_good h_left M_h_128)) hP hD hS hA [0, 1, 2, 3, 4, 5, 6, 7, 8, 9, 10] [] [0, 1, 2, 3, 4, 5, 6, 7, 8, 9, 10] rfl rfl (by decide) (by decide) rfl (by decide) (va_runV (As := [.int (M_h 0 ((4 : Int32)).toNatClampNeg), .int (5 : Int32), .int (-1 : Int32)]) (rest := []) ⟨hx, hb, hml, hown, hts⟩ (c_X12_sets l dC dI cyB cyI cyZ cyO h h_all h_has h_read h_test h_rest h_gets h_waits h_way h_good h_left _ M_h_120 (M_h 0 ((4 : Int32)).toNatClampNeg) (5 : Int32) (-1 : Int32) M_h_128 h128) (cwV 3 hts gX12_bale_X12_sets rfl rfl rfl (by decide +kernel) ⟨Nat.le_of_ble_eq_true rfl, Nat.le_of_ble_eq_true rfl⟩) ⟨PW.blind, va_recv hK hP (ci := 12) (q0 := 0) rfl rfl, fun U hU hW => ⟨rfl, by rw [hU], by rw [hU]; exact hP, hCx.warm hW, hD.weaken (fun _ _ _ _ => trivial)⟩⟩ rfl rfl hl.1 rfl (lv_room (Nat.le_of_ble_eq_true rfl)) dX12_bale_128 ⟨Nat.zero_le _, Nat.zero_le _⟩) (fun H locs hP hD hS => ?_)
              refine lv_aload_n hx hb dX12_bale_131 rfl (lv_at hl 1 rfl) ?_
              refine lv_iload hx hb dX12_bale_132 (lv_at hl 0 rfl) ?_
              refine lv_bipush (v := (6 : Int32)) hx hb dX12_bale_134 (by decide) ?_
              refine lv_iconst (v := (-1 : Int32)) hx hb dX12_bale_136 (by decide) ?_
              obtain ⟨M_h_137, h137, hf⟩ := bd1_some hf
              refine wr_callv (wc := (wX12 cyB cyI cyZ cyO h h_all h_has h_read h_test h_rest h_gets h_waits h_way h_good h_left M_h_128)) (wr := ([] : va_W)) (w1 := (wX12 cyB cyI cyZ cyO h h_all h_has h_read h_test h_rest h_gets h_waits h_way h_good h_left M_h_137)) (ws' := (wX12 cyB cyI cyZ cyO h h_all h_has h_read h_test h_rest h_gets h_waits h_way h_good h_left M_h_137)) hP hD hS hA [0, 1, 2, 3, 4, 5, 6, 7, 8, 9, 10] [] [0, 1, 2, 3, 4, 5, 6, 7, 8, 9, 10] rfl rfl (by decide) (by decide) rfl (by decide) (va_runV (As := [.int (M_h 0 ((4 : Int32)).toNatClampNeg), .int (6 : Int32), .int (-1 : Int32)]) (rest := []) ⟨hx, hb, hml, hown, hts⟩ (c_X12_sets l dC dI cyB cyI cyZ cyO h h_all h_has h_read h_test h_rest h_gets h_waits h_way h_good h_left _ M_h_128 (M_h 0 ((4 : Int32)).toNatClampNeg) (6 : Int32) (-1 : Int32) M_h_137 h137) (cwV 3 hts gX12_bale_X12_sets rfl rfl rfl (by decide +kernel) ⟨Nat.le_of_ble_eq_true rfl, Nat.le_of_ble_eq_true rfl⟩) ⟨PW.blind, va_recv hK hP (ci := 12) (q0 := 0) rfl rfl, fun U hU hW => ⟨rfl, by rw [hU], by rw [hU]; exact hP, hCx.warm hW, hD.weaken (fun _ _ _ _ => trivial)⟩⟩ rfl rfl hl.1 rfl (lv_room (Nat.le_of_ble_eq_true rfl)) dX12_bale_137 ⟨Nat.zero_le _, Nat.zero_le _⟩) (fun H locs hP hD hS => ?_)
              refine lv_aload_n hx hb dX12_bale_140 rfl (lv_at hl 1 rfl) ?_
              refine lv_iload hx hb dX12_bale_141 (lv_at hl 0 rfl) ?_
              refine lv_bipush (v := (7 : Int32)) hx hb dX12_bale_143 (by decide) ?_
              refine lv_iconst (v := (2 : Int32)) hx hb dX12_bale_145 (by decide) ?_
              obtain ⟨M_h_146, h146, hf⟩ := bd1_some hf
              refine wr_callv (wc := (wX12 cyB cyI cyZ cyO h h_all h_has h_read h_test h_rest h_gets h_waits h_way h_good h_left M_h_137)) (wr := ([] : va_W)) (w1 := (wX12 cyB cyI cyZ cyO h h_all h_has h_read h_test h_rest h_gets h_waits h_way h_good h_left M_h_146)) (ws' := (wX12 cyB cyI cyZ cyO h h_all h_has h_read h_test h_rest h_gets h_waits h_way h_good h_left M_h_146)) hP hD hS hA [0, 1, 2, 3, 4, 5, 6, 7, 8, 9, 10] [] [0, 1, 2, 3, 4, 5, 6, 7, 8, 9, 10] rfl rfl (by decide) (by decide) rfl (by decide) (va_runV (As := [.int (M_h 0 ((4 : Int32)).toNatClampNeg), .int (7 : Int32), .int (2 : Int32)]) (rest := []) ⟨hx, hb, hml, hown, hts⟩ (c_X12_sets l dC dI cyB cyI cyZ cyO h h_all h_has h_read h_test h_rest h_gets h_waits h_way h_good h_left _ M_h_137 (M_h 0 ((4 : Int32)).toNatClampNeg) (7 : Int32) (2 : Int32) M_h_146 h146) (cwV 3 hts gX12_bale_X12_sets rfl rfl rfl (by decide +kernel) ⟨Nat.le_of_ble_eq_true rfl, Nat.le_of_ble_eq_true rfl⟩) ⟨PW.blind, va_recv hK hP (ci := 12) (q0 := 0) rfl rfl, fun U hU hW => ⟨rfl, by rw [hU], by rw [hU]; exact hP, hCx.warm hW, hD.weaken (fun _ _ _ _ => trivial)⟩⟩ rfl rfl hl.1 rfl (lv_room (Nat.le_of_ble_eq_true rfl)) dX12_bale_146 ⟨Nat.zero_le _, Nat.zero_le _⟩) (fun H locs hP hD hS => ?_)
              refine lv_iload hx hb dX12_bale_149 (lv_at hl 0 rfl) ?_
              obtain ⟨hq0, hq1⟩ := pj2 hf
              subst hq0
              subst hq1
              exact W.iret (v := (M_h 0 ((4 : Int32)).toNatClampNeg)) hx hb hr (fun t ht hW => ⟨rfl, by rw [ht]; exact hP, hD, hS.F ht⟩) hS.2.2 dX12_bale_151
            · rw [if_pos hc59] at hf
              refine lv_iconst (v := (-1 : Int32)) hx hb dX12_bale_62 (by decide) ?_
              obtain ⟨hq0, hq1⟩ := pj2 hf
              subst hq0
              subst hq1
              exact W.iret (v := (-1 : Int32)) hx hb hr (fun t ht hW => ⟨rfl, by rw [ht]; exact hP, hD, hS.F ht⟩) hS.2.2 dX12_bale_63
set_option maxHeartbeats 4000000 in
set_option maxRecDepth 100000 in
theorem c_X12_press (l : Launch) (dC : Nat → ClassId) (dI : Nat → Nat → Nat) (cyB cyI cyZ cyO : ClassId) (h h_all h_has h_read h_test h_rest h_gets h_waits h_way h_good h_left : Nat) (sz : Nat) (M_h : Mem) (p1 : Int32) (p2 : Int32) (r : Int32) (R_h : Mem) (hf : f_X12_press M_h p1 p2 = some (r, R_h)) : Met l yX12_press wsX12_press ({ frames := 2, cells := 0, slots := 0, locals := 43 } : Room) (PW dC dI cyB cyI cyZ cyO ([.ref h, .int p1, .int p2] : List Value) (wX12 cyB cyI cyZ cyO h h_all h_has h_read h_test h_rest h_gets h_waits h_way h_good h_left M_h) sz) (QW dC dI (some (.int r)) (wX12 cyB cyI cyZ cyO h h_all h_has h_read h_test h_rest h_gets h_waits h_way h_good h_left R_h) (va_A (wX12 cyB cyI cyZ cyO h h_all h_has h_read h_test h_rest h_gets h_waits h_way h_good h_left M_h) sz)) 0 0 (va_A (wX12 cyB cyI cyZ cyO h h_all h_has h_read h_test h_rest h_gets h_waits h_way h_good h_left M_h) sz) := by
  refine Met.ofW (cc := cX12_press) (maxL := 3) (ret := (some .boolean)) (by decide) rfl ?_
  intro p e s m args below meth c s₁ B hml hv
  obtain ⟨rfl, hsz, hP, hCx, hD0⟩ := hv
  have hK := hCx.1
  have hN := hCx.2
  have hx := B.exec
  have hb := B.bytes
  have hr := B.returns
  have hts := atoms_spec (ws := wsX12_press) B.pre
  have hown : s.vm.findClass RX12 = some m.cls := findClass_of_methodNamed B.named
  have hlocks := B.notSynchronized
  have hin12 : ∀ w ∈ u_ws RX12 TX12 21, w ∈ wsX12_press := fun w h => List.mem_cons_of_mem _ (List.mem_append_right _ h)
  have kf7 := hts (.fieldLink RX12 7 "HoldSlipsModel" "all" "[I") (by decide +kernel)
  subst hsz
  have hD := hD0.self (sz := s.heap.size)
  generalize hAe : va_A (wX12 cyB cyI cyZ cyO h h_all h_has h_read h_test h_rest h_gets h_waits h_way h_good h_left M_h) s.heap.size = A at hD ⊢
  have hA : ∀ q : Nat, s.heap.size ≤ q → A q := fun q h => by rw [← hAe]; exact Or.inr h
  have hS : va_S A s.heap s.heap [] := va_S.rf
  have hl := lv_entry ([.ref h, .int p1, .int p2] : List Value) (n := 3) (Nat.le_of_ble_eq_true rfl)
  rw [lg_entry_eq]
  generalize (lg_sl ([.ref h, .int p1, .int p2] : List Value) ++ List.replicate (3 - (lg_sl ([.ref h, .int p1, .int p2] : List Value)).length) Slot.unset).toArray = ls at hl ⊢
  have hl : lv_has ls 3 [(0, .ref h), (1, .int p1), (2, .int p2)] := hl
  rw [f_X12_press] at hf
  refine lv_aload_n hx hb dX12_press_0 rfl (lv_at hl 0 rfl) ?_
  refine va_get (D := (dC, dI)) (ci := 12) (v := .ref h_all) (C := RX12) (T := TX12) (N := 21) hx hb hts hin12 hown hK hP 0 rfl rfl 0 (by decide) kf7 (fun _ h9 => h9) rfl dX12_press_1 ?_
  refine lv_iconst (v := (1 : Int32)) hx hb dX12_press_4 (by decide) ?_
  refine va_iald hx hb hK hP 1 1 rfl rfl (show ¬ ((1 : Int32) < 0 ∨ 11160 ≤ ((1 : Int32)).toNatClampNeg) by decide) dX12_press_5 ?_
  refine lv_iconst (v := (1 : Int32)) hx hb dX12_press_6 (by decide) ?_
  refine lv_icmp_eq (tgt := 35) hx hb dX12_press_7 (by decide) (fun hc7 => ?_) (fun hc7 => ?_)
  · rw [if_pos hc7] at hf
    refine lv_iconst (v := (0 : Int32)) hx hb dX12_press_35 (by decide) ?_
    obtain ⟨hq0, hq1⟩ := pj2 hf
    subst hq0
    subst hq1
    exact W.zret (v := (0 : Int32)) hx hb hr rfl (fun t ht hW => ⟨rfl, by rw [ht]; exact hP, hD, hS.F ht⟩) hS.2.2 dX12_press_36
  · rw [if_neg hc7] at hf
    refine lv_aload_n hx hb dX12_press_10 rfl (lv_at hl 0 rfl) ?_
    refine lv_iload_n hx hb dX12_press_11 rfl (lv_at hl 1 rfl) ?_
    obtain ⟨r12, h12, hf⟩ := bd1_some hf
    refine ro_calli (va_runV (As := [.int p1]) (rest := []) ⟨hx, hb, hml, hown, hts⟩ (c_X12_isBale l dC dI cyB cyI cyZ cyO h h_all h_has h_read h_test h_rest h_gets h_waits h_way h_good h_left M_h p1 r12 h12) (cwV 1 hts gX12_press_X12_isBale rfl rfl rfl (by decide +kernel) ⟨Nat.le_of_ble_eq_true rfl, Nat.le_of_ble_eq_true rfl⟩) ⟨PR.blind, va_recv hK hP (ci := 12) (q0 := 0) rfl rfl, fun U hU hW => ⟨rfl, by rw [hU]; exact hP, hCx.warm hW⟩⟩ rfl rfl hl.1 rfl (lv_room (Nat.le_of_ble_eq_true rfl)) dX12_press_12 ⟨Nat.zero_le _, Nat.zero_le _⟩) ?_
    refine lv_if_eq (tgt := 35) hx hb dX12_press_15 (by decide) (fun hc15 => ?_) (fun hc15 => ?_)
    · rw [if_pos hc15] at hf
      refine lv_iconst (v := (0 : Int32)) hx hb dX12_press_35 (by decide) ?_
      obtain ⟨hq0, hq1⟩ := pj2 hf
      subst hq0
      subst hq1
      exact W.zret (v := (0 : Int32)) hx hb hr rfl (fun t ht hW => ⟨rfl, by rw [ht]; exact hP, hD, hS.F ht⟩) hS.2.2 dX12_press_36
    · rw [if_neg hc15] at hf
      refine lv_aload_n hx hb dX12_press_18 rfl (lv_at hl 0 rfl) ?_
      refine lv_iload_n hx hb dX12_press_19 rfl (lv_at hl 1 rfl) ?_
      obtain ⟨r20, h20, hf⟩ := bd1_some hf
      refine ro_calli (va_runV (As := [.int p1]) (rest := []) ⟨hx, hb, hml, hown, hts⟩ (c_X12_lies l dC dI cyB cyI cyZ cyO h h_all h_has h_read h_test h_rest h_gets h_waits h_way h_good h_left M_h p1 r20 h20) (cwV 1 hts gX12_press_X12_lies rfl rfl rfl (by decide +kernel) ⟨Nat.le_of_ble_eq_true rfl, Nat.le_of_ble_eq_true rfl⟩) ⟨PR.blind, va_recv hK hP (ci := 12) (q0 := 0) rfl rfl, fun U hU hW => ⟨rfl, by rw [hU]; exact hP, hCx.warm hW⟩⟩ rfl rfl hl.1 rfl (lv_room (Nat.le_of_ble_eq_true rfl)) dX12_press_20 ⟨Nat.zero_le _, Nat.zero_le _⟩) ?_
      refine lv_if_ne (tgt := 35) hx hb dX12_press_23 (by decide) (fun hc23 => ?_) (fun hc23 => ?_)
      · rw [if_neg hc23] at hf
        refine lv_iconst (v := (0 : Int32)) hx hb dX12_press_35 (by decide) ?_
        obtain ⟨hq0, hq1⟩ := pj2 hf
        subst hq0
        subst hq1
        exact W.zret (v := (0 : Int32)) hx hb hr rfl (fun t ht hW => ⟨rfl, by rw [ht]; exact hP, hD, hS.F ht⟩) hS.2.2 dX12_press_36
      · rw [if_pos hc23] at hf
        refine lv_iload_n hx hb dX12_press_26 rfl (lv_at hl 2 rfl) ?_
        refine lv_iconst (v := (0 : Int32)) hx hb dX12_press_27 (by decide) ?_
        refine lv_iconst (v := (3 : Int32)) hx hb dX12_press_28 (by decide) ?_
        obtain ⟨r29, h29, hf⟩ := bd1_some hf
        have hPc := hP.sub (ws' := ([] : va_W)) [] rfl
        refine ro_calli (va_runS (As := [.int p2, .int (0 : Int32), .int (3 : Int32)]) (rest := []) ⟨hx, hb, hml, hown, hts⟩ (c_X12_isIn l dC dI cyB cyI cyZ cyO p2 (0 : Int32) (3 : Int32) r29 h29) (va_cwS 3 hts gX12_press_X12_isIn rfl rfl rfl (by decide +kernel) ⟨Nat.le_of_ble_eq_true rfl, Nat.le_of_ble_eq_true rfl⟩) ⟨PR.blind, fun U hU hW => ⟨rfl, by rw [hU]; exact hPc, hCx.warm hW⟩⟩ rfl rfl hl.1 rfl (lv_room (Nat.le_of_ble_eq_true rfl)) dX12_press_29 ⟨Nat.zero_le _, Nat.zero_le _⟩) ?_
        refine lv_if_ne (tgt := 37) hx hb dX12_press_32 (by decide) (fun hc32 => ?_) (fun hc32 => ?_)
        · rw [if_neg hc32] at hf
          refine lv_aload_n hx hb dX12_press_37 rfl (lv_at hl 0 rfl) ?_
          refine lv_iload_n hx hb dX12_press_38 rfl (lv_at hl 1 rfl) ?_
          refine lv_iconst (v := (4 : Int32)) hx hb dX12_press_39 (by decide) ?_
          refine lv_iload_n hx hb dX12_press_40 rfl (lv_at hl 2 rfl) ?_
          obtain ⟨M_h_41, h41, hf⟩ := bd1_some hf
          refine wr_callv (wc := (wX12 cyB cyI cyZ cyO h h_all h_has h_read h_test h_rest h_gets h_waits h_way h_good h_left M_h)) (wr := ([] : va_W)) (w1 := (wX12 cyB cyI cyZ cyO h h_all h_has h_read h_test h_rest h_gets h_waits h_way h_good h_left M_h_41)) (ws' := (wX12 cyB cyI cyZ cyO h h_all h_has h_read h_test h_rest h_gets h_waits h_way h_good h_left M_h_41)) hP hD hS hA [0, 1, 2, 3, 4, 5, 6, 7, 8, 9, 10] [] [0, 1, 2, 3, 4, 5, 6, 7, 8, 9, 10] rfl rfl (by decide) (by decide) rfl (by decide) (va_runV (As := [.int p1, .int (4 : Int32), .int p2]) (rest := []) ⟨hx, hb, hml, hown, hts⟩ (c_X12_sets l dC dI cyB cyI cyZ cyO h h_all h_has h_read h_test h_rest h_gets h_waits h_way h_good h_left _ M_h p1 (4 : Int32) p2 M_h_41 h41) (cwV 3 hts gX12_press_X12_sets rfl rfl rfl (by decide +kernel) ⟨Nat.le_of_ble_eq_true rfl, Nat.le_of_ble_eq_true rfl⟩) ⟨PW.blind, va_recv hK hP (ci := 12) (q0 := 0) rfl rfl, fun U hU hW => ⟨rfl, by rw [hU], by rw [hU]; exact hP, hCx.warm hW, hD.weaken (fun _ _ _ _ => trivial)⟩⟩ rfl rfl hl.1 rfl (lv_room (Nat.le_of_ble_eq_true rfl)) dX12_press_41 ⟨Nat.zero_le _, Nat.zero_le _⟩) (fun H locs hP hD hS => ?_)
          refine lv_iconst (v := (1 : Int32)) hx hb dX12_press_44 (by decide) ?_
          obtain ⟨hq0, hq1⟩ := pj2 hf
          subst hq0
          subst hq1
          exact W.zret (v := (1 : Int32)) hx hb hr rfl (fun t ht hW => ⟨rfl, by rw [ht]; exact hP, hD, hS.F ht⟩) hS.2.2 dX12_press_45
        · rw [if_pos hc32] at hf
          refine lv_iconst (v := (0 : Int32)) hx hb dX12_press_35 (by decide) ?_
          obtain ⟨hq0, hq1⟩ := pj2 hf
          subst hq0
          subst hq1
          exact W.zret (v := (0 : Int32)) hx hb hr rfl (fun t ht hW => ⟨rfl, by rw [ht]; exact hP, hD, hS.F ht⟩) hS.2.2 dX12_press_36
set_option maxHeartbeats 4000000 in
set_option maxRecDepth 100000 in
theorem c_X12_lade (l : Launch) (dC : Nat → ClassId) (dI : Nat → Nat → Nat) (cyB cyI cyZ cyO : ClassId) (h h_all h_has h_read h_test h_rest h_gets h_waits h_way h_good h_left : Nat) (sz : Nat) (M_h : Mem) (p1 : Int32) (p2 : Int32) (p3 : Int32) (r : Int32) (R_h : Mem) (hf : f_X12_lade M_h p1 p2 p3 = some (r, R_h)) : Met l yX12_lade wsX12_lade ({ frames := 3, cells := 0, slots := 0, locals := 66 } : Room) (PW dC dI cyB cyI cyZ cyO ([.ref h, .int p1, .int p2, .int p3] : List Value) (wX12 cyB cyI cyZ cyO h h_all h_has h_read h_test h_rest h_gets h_waits h_way h_good h_left M_h) sz) (QW dC dI (some (.int r)) (wX12 cyB cyI cyZ cyO h h_all h_has h_read h_test h_rest h_gets h_waits h_way h_good h_left R_h) (va_A (wX12 cyB cyI cyZ cyO h h_all h_has h_read h_test h_rest h_gets h_waits h_way h_good h_left M_h) sz)) 0 0 (va_A (wX12 cyB cyI cyZ cyO h h_all h_has h_read h_test h_rest h_gets h_waits h_way h_good h_left M_h) sz) := by
  refine Met.ofW (cc := cX12_lade) (maxL := 4) (ret := (some .boolean)) (by decide) rfl ?_
  intro p e s m args below meth c s₁ B hml hv
  obtain ⟨rfl, hsz, hP, hCx, hD0⟩ := hv
  have hK := hCx.1
  have hN := hCx.2
  have hx := B.exec
  have hb := B.bytes
  have hr := B.returns
  have hts := atoms_spec (ws := wsX12_lade) B.pre
  have hown : s.vm.findClass RX12 = some m.cls := findClass_of_methodNamed B.named
  have hlocks := B.notSynchronized
  have hin12 : ∀ w ∈ u_ws RX12 TX12 21, w ∈ wsX12_lade := fun w h => List.mem_cons_of_mem _ (List.mem_append_right _ h)
  have kf7 := hts (.fieldLink RX12 7 "HoldSlipsModel" "all" "[I") (by decide +kernel)
  subst hsz
  have hD := hD0.self (sz := s.heap.size)
  generalize hAe : va_A (wX12 cyB cyI cyZ cyO h h_all h_has h_read h_test h_rest h_gets h_waits h_way h_good h_left M_h) s.heap.size = A at hD ⊢
  have hA : ∀ q : Nat, s.heap.size ≤ q → A q := fun q h => by rw [← hAe]; exact Or.inr h
  have hS : va_S A s.heap s.heap [] := va_S.rf
  have hl := lv_entry ([.ref h, .int p1, .int p2, .int p3] : List Value) (n := 4) (Nat.le_of_ble_eq_true rfl)
  rw [lg_entry_eq]
  generalize (lg_sl ([.ref h, .int p1, .int p2, .int p3] : List Value) ++ List.replicate (4 - (lg_sl ([.ref h, .int p1, .int p2, .int p3] : List Value)).length) Slot.unset).toArray = ls at hl ⊢
  have hl : lv_has ls 4 [(0, .ref h), (1, .int p1), (2, .int p2), (3, .int p3)] := hl
  rw [f_X12_lade] at hf
  refine lv_aload_n hx hb dX12_lade_0 rfl (lv_at hl 0 rfl) ?_
  refine va_get (D := (dC, dI)) (ci := 12) (v := .ref h_all) (C := RX12) (T := TX12) (N := 21) hx hb hts hin12 hown hK hP 0 rfl rfl 0 (by decide) kf7 (fun _ h9 => h9) rfl dX12_lade_1 ?_
  refine lv_iconst (v := (1 : Int32)) hx hb dX12_lade_4 (by decide) ?_
  refine va_iald hx hb hK hP 1 1 rfl rfl (show ¬ ((1 : Int32) < 0 ∨ 11160 ≤ ((1 : Int32)).toNatClampNeg) by decide) dX12_lade_5 ?_
  refine lv_iconst (v := (1 : Int32)) hx hb dX12_lade_6 (by decide) ?_
  refine lv_icmp_eq (tgt := 56) hx hb dX12_lade_7 (by decide) (fun hc7 => ?_) (fun hc7 => ?_)
  · rw [if_pos hc7] at hf
    refine lv_iconst (v := (0 : Int32)) hx hb dX12_lade_56 (by decide) ?_
    obtain ⟨hq0, hq1⟩ := pj2 hf
    subst hq0
    subst hq1
    exact W.zret (v := (0 : Int32)) hx hb hr rfl (fun t ht hW => ⟨rfl, by rw [ht]; exact hP, hD, hS.F ht⟩) hS.2.2 dX12_lade_57
  · rw [if_neg hc7] at hf
    refine lv_aload_n hx hb dX12_lade_10 rfl (lv_at hl 0 rfl) ?_
    refine lv_iload_n hx hb dX12_lade_11 rfl (lv_at hl 1 rfl) ?_
    obtain ⟨r12, h12, hf⟩ := bd1_some hf
    refine ro_calli (va_runV (As := [.int p1]) (rest := []) ⟨hx, hb, hml, hown, hts⟩ (c_X12_isBale l dC dI cyB cyI cyZ cyO h h_all h_has h_read h_test h_rest h_gets h_waits h_way h_good h_left M_h p1 r12 h12) (cwV 1 hts gX12_lade_X12_isBale rfl rfl rfl (by decide +kernel) ⟨Nat.le_of_ble_eq_true rfl, Nat.le_of_ble_eq_true rfl⟩) ⟨PR.blind, va_recv hK hP (ci := 12) (q0 := 0) rfl rfl, fun U hU hW => ⟨rfl, by rw [hU]; exact hP, hCx.warm hW⟩⟩ rfl rfl hl.1 rfl (lv_room (Nat.le_of_ble_eq_true rfl)) dX12_lade_12 ⟨Nat.zero_le _, Nat.zero_le _⟩) ?_
    refine lv_if_eq (tgt := 56) hx hb dX12_lade_15 (by decide) (fun hc15 => ?_) (fun hc15 => ?_)
    · rw [if_pos hc15] at hf
      refine lv_iconst (v := (0 : Int32)) hx hb dX12_lade_56 (by decide) ?_
      obtain ⟨hq0, hq1⟩ := pj2 hf
      subst hq0
      subst hq1
      exact W.zret (v := (0 : Int32)) hx hb hr rfl (fun t ht hW => ⟨rfl, by rw [ht]; exact hP, hD, hS.F ht⟩) hS.2.2 dX12_lade_57
    · rw [if_neg hc15] at hf
      refine lv_aload_n hx hb dX12_lade_18 rfl (lv_at hl 0 rfl) ?_
      refine lv_iload_n hx hb dX12_lade_19 rfl (lv_at hl 1 rfl) ?_
      obtain ⟨r20, h20, hf⟩ := bd1_some hf
      refine ro_calli (va_runV (As := [.int p1]) (rest := []) ⟨hx, hb, hml, hown, hts⟩ (c_X12_lies l dC dI cyB cyI cyZ cyO h h_all h_has h_read h_test h_rest h_gets h_waits h_way h_good h_left M_h p1 r20 h20) (cwV 1 hts gX12_lade_X12_lies rfl rfl rfl (by decide +kernel) ⟨Nat.le_of_ble_eq_true rfl, Nat.le_of_ble_eq_true rfl⟩) ⟨PR.blind, va_recv hK hP (ci := 12) (q0 := 0) rfl rfl, fun U hU hW => ⟨rfl, by rw [hU]; exact hP, hCx.warm hW⟩⟩ rfl rfl hl.1 rfl (lv_room (Nat.le_of_ble_eq_true rfl)) dX12_lade_20 ⟨Nat.zero_le _, Nat.zero_le _⟩) ?_
      refine lv_if_ne (tgt := 56) hx hb dX12_lade_23 (by decide) (fun hc23 => ?_) (fun hc23 => ?_)
      · rw [if_neg hc23] at hf
        refine lv_iconst (v := (0 : Int32)) hx hb dX12_lade_56 (by decide) ?_
        obtain ⟨hq0, hq1⟩ := pj2 hf
        subst hq0
        subst hq1
        exact W.zret (v := (0 : Int32)) hx hb hr rfl (fun t ht hW => ⟨rfl, by rw [ht]; exact hP, hD, hS.F ht⟩) hS.2.2 dX12_lade_57
      · rw [if_pos hc23] at hf
        refine lv_aload_n hx hb dX12_lade_26 rfl (lv_at hl 0 rfl) ?_
        refine lv_iload_n hx hb dX12_lade_27 rfl (lv_at hl 2 rfl) ?_
        obtain ⟨r28, h28, hf⟩ := bd1_some hf
        refine ro_calli (va_runV (As := [.int p2]) (rest := []) ⟨hx, hb, hml, hown, hts⟩ (c_X12_isCitizen l dC dI cyB cyI cyZ cyO h h_all h_has h_read h_test h_rest h_gets h_waits h_way h_good h_left M_h p2 r28 h28) (cwV 1 hts gX12_lade_X12_isCitizen rfl rfl rfl (by decide +kernel) ⟨Nat.le_of_ble_eq_true rfl, Nat.le_of_ble_eq_true rfl⟩) ⟨PR.blind, va_recv hK hP (ci := 12) (q0 := 0) rfl rfl, fun U hU hW => ⟨rfl, by rw [hU]; exact hP, hCx.warm hW⟩⟩ rfl rfl hl.1 rfl (lv_room (Nat.le_of_ble_eq_true rfl)) dX12_lade_28 ⟨Nat.zero_le _, Nat.zero_le _⟩) ?_
        refine lv_if_eq (tgt := 56) hx hb dX12_lade_31 (by decide) (fun hc31 => ?_) (fun hc31 => ?_)
        · rw [if_pos hc31] at hf
          refine lv_iconst (v := (0 : Int32)) hx hb dX12_lade_56 (by decide) ?_
          obtain ⟨hq0, hq1⟩ := pj2 hf
          subst hq0
          subst hq1
          exact W.zret (v := (0 : Int32)) hx hb hr rfl (fun t ht hW => ⟨rfl, by rw [ht]; exact hP, hD, hS.F ht⟩) hS.2.2 dX12_lade_57
        · rw [if_neg hc31] at hf
          refine lv_iload_n hx hb dX12_lade_34 rfl (lv_at hl 3 rfl) ?_
          refine lv_iconst (v := (0 : Int32)) hx hb dX12_lade_35 (by decide) ?_
          refine lv_iconst (v := (1 : Int32)) hx hb dX12_lade_36 (by decide) ?_
          obtain ⟨r37, h37, hf⟩ := bd1_some hf
          have hPc := hP.sub (ws' := ([] : va_W)) [] rfl
          refine ro_calli (va_runS (As := [.int p3, .int (0 : Int32), .int (1 : Int32)]) (rest := []) ⟨hx, hb, hml, hown, hts⟩ (c_X12_isIn l dC dI cyB cyI cyZ cyO p3 (0 : Int32) (1 : Int32) r37 h37) (va_cwS 3 hts gX12_lade_X12_isIn rfl rfl rfl (by decide +kernel) ⟨Nat.le_of_ble_eq_true rfl, Nat.le_of_ble_eq_true rfl⟩) ⟨PR.blind, fun U hU hW => ⟨rfl, by rw [hU]; exact hPc, hCx.warm hW⟩⟩ rfl rfl hl.1 rfl (lv_room (Nat.le_of_ble_eq_true rfl)) dX12_lade_37 ⟨Nat.zero_le _, Nat.zero_le _⟩) ?_
          refine lv_if_eq (tgt := 56) hx hb dX12_lade_40 (by decide) (fun hc40 => ?_) (fun hc40 => ?_)
          · rw [if_pos hc40] at hf
            refine lv_iconst (v := (0 : Int32)) hx hb dX12_lade_56 (by decide) ?_
            obtain ⟨hq0, hq1⟩ := pj2 hf
            subst hq0
            subst hq1
            exact W.zret (v := (0 : Int32)) hx hb hr rfl (fun t ht hW => ⟨rfl, by rw [ht]; exact hP, hD, hS.F ht⟩) hS.2.2 dX12_lade_57
          · rw [if_neg hc40] at hf
            refine lv_aload_n hx hb dX12_lade_43 rfl (lv_at hl 0 rfl) ?_
            refine lv_iload_n hx hb dX12_lade_44 rfl (lv_at hl 1 rfl) ?_
            obtain ⟨r45, h45, hf⟩ := bd1_some hf
            refine ro_calli (va_runV (As := [.int p1]) (rest := []) ⟨hx, hb, hml, hown, hts⟩ (c_X12_room l dC dI cyB cyI cyZ cyO h h_all h_has h_read h_test h_rest h_gets h_waits h_way h_good h_left M_h p1 r45 h45) (cwV 1 hts gX12_lade_X12_room rfl rfl rfl (by decide +kernel) ⟨Nat.le_of_ble_eq_true rfl, Nat.le_of_ble_eq_true rfl⟩) ⟨PR.blind, va_recv hK hP (ci := 12) (q0 := 0) rfl rfl, fun U hU hW => ⟨rfl, by rw [hU]; exact hP, hCx.warm hW⟩⟩ rfl rfl hl.1 rfl (lv_room (Nat.le_of_ble_eq_true rfl)) dX12_lade_45 ⟨Nat.zero_le _, Nat.zero_le _⟩) ?_
            refine lv_aload_n hx hb dX12_lade_48 rfl (lv_at hl 0 rfl) ?_
            refine lv_iload_n hx hb dX12_lade_49 rfl (lv_at hl 2 rfl) ?_
            obtain ⟨r50, h50, hf⟩ := bd1_some hf
            refine ro_calli (va_runV (As := [.int p2]) (rest := [.int r45]) ⟨hx, hb, hml, hown, hts⟩ (c_X12_free l dC dI cyB cyI cyZ cyO h h_all h_has h_read h_test h_rest h_gets h_waits h_way h_good h_left M_h p2 r50 h50) (cwV 1 hts gX12_lade_X12_free rfl rfl rfl (by decide +kernel) ⟨Nat.le_of_ble_eq_true rfl, Nat.le_of_ble_eq_true rfl⟩) ⟨PR.blind, va_recv hK hP (ci := 12) (q0 := 0) rfl rfl, fun U hU hW => ⟨rfl, by rw [hU]; exact hP, hCx.warm hW⟩⟩ rfl rfl hl.1 rfl (lv_room (Nat.le_of_ble_eq_true rfl)) dX12_lade_50 ⟨Nat.zero_le _, Nat.zero_le _⟩) ?_
            refine lv_icmp_le (tgt := 58) hx hb dX12_lade_53 (by decide) (fun hc53 => ?_) (fun hc53 => ?_)
            · rw [if_pos hc53] at hf
              refine lv_aload_n hx hb dX12_lade_58 rfl (lv_at hl 0 rfl) ?_
              refine lv_iload_n hx hb dX12_lade_59 rfl (lv_at hl 1 rfl) ?_
              refine lv_iconst (v := (5 : Int32)) hx hb dX12_lade_60 (by decide) ?_
              refine lv_iload_n hx hb dX12_lade_61 rfl (lv_at hl 2 rfl) ?_
              obtain ⟨M_h_62, h62, hf⟩ := bd1_some hf
              refine wr_callv (wc := (wX12 cyB cyI cyZ cyO h h_all h_has h_read h_test h_rest h_gets h_waits h_way h_good h_left M_h)) (wr := ([] : va_W)) (w1 := (wX12 cyB cyI cyZ cyO h h_all h_has h_read h_test h_rest h_gets h_waits h_way h_good h_left M_h_62)) (ws' := (wX12 cyB cyI cyZ cyO h h_all h_has h_read h_test h_rest h_gets h_waits h_way h_good h_left M_h_62)) hP hD hS hA [0, 1, 2, 3, 4, 5, 6, 7, 8, 9, 10] [] [0, 1, 2, 3, 4, 5, 6, 7, 8, 9, 10] rfl rfl (by decide) (by decide) rfl (by decide) (va_runV (As := [.int p1, .int (5 : Int32), .int p2]) (rest := []) ⟨hx, hb, hml, hown, hts⟩ (c_X12_sets l dC dI cyB cyI cyZ cyO h h_all h_has h_read h_test h_rest h_gets h_waits h_way h_good h_left _ M_h p1 (5 : Int32) p2 M_h_62 h62) (cwV 3 hts gX12_lade_X12_sets rfl rfl rfl (by decide +kernel) ⟨Nat.le_of_ble_eq_true rfl, Nat.le_of_ble_eq_true rfl⟩) ⟨PW.blind, va_recv hK hP (ci := 12) (q0 := 0) rfl rfl, fun U hU hW => ⟨rfl, by rw [hU], by rw [hU]; exact hP, hCx.warm hW, hD.weaken (fun _ _ _ _ => trivial)⟩⟩ rfl rfl hl.1 rfl (lv_room (Nat.le_of_ble_eq_true rfl)) dX12_lade_62 ⟨Nat.zero_le _, Nat.zero_le _⟩) (fun H locs hP hD hS => ?_)
              refine lv_aload_n hx hb dX12_lade_65 rfl (lv_at hl 0 rfl) ?_
              refine lv_iload_n hx hb dX12_lade_66 rfl (lv_at hl 1 rfl) ?_
              refine lv_bipush (v := (6 : Int32)) hx hb dX12_lade_67 (by decide) ?_
              refine lv_iload_n hx hb dX12_lade_69 rfl (lv_at hl 3 rfl) ?_
              obtain ⟨M_h_70, h70, hf⟩ := bd1_some hf
              refine wr_callv (wc := (wX12 cyB cyI cyZ cyO h h_all h_has h_read h_test h_rest h_gets h_waits h_way h_good h_left M_h_62)) (wr := ([] : va_W)) (w1 := (wX12 cyB cyI cyZ cyO h h_all h_has h_read h_test h_rest h_gets h_waits h_way h_good h_left M_h_70)) (ws' := (wX12 cyB cyI cyZ cyO h h_all h_has h_read h_test h_rest h_gets h_waits h_way h_good h_left M_h_70)) hP hD hS hA [0, 1, 2, 3, 4, 5, 6, 7, 8, 9, 10] [] [0, 1, 2, 3, 4, 5, 6, 7, 8, 9, 10] rfl rfl (by decide) (by decide) rfl (by decide) (va_runV (As := [.int p1, .int (6 : Int32), .int p3]) (rest := []) ⟨hx, hb, hml, hown, hts⟩ (c_X12_sets l dC dI cyB cyI cyZ cyO h h_all h_has h_read h_test h_rest h_gets h_waits h_way h_good h_left _ M_h_62 p1 (6 : Int32) p3 M_h_70 h70) (cwV 3 hts gX12_lade_X12_sets rfl rfl rfl (by decide +kernel) ⟨Nat.le_of_ble_eq_true rfl, Nat.le_of_ble_eq_true rfl⟩) ⟨PW.blind, va_recv hK hP (ci := 12) (q0 := 0) rfl rfl, fun U hU hW => ⟨rfl, by rw [hU], by rw [hU]; exact hP, hCx.warm hW, hD.weaken (fun _ _ _ _ => trivial)⟩⟩ rfl rfl hl.1 rfl (lv_room (Nat.le_of_ble_eq_true rfl)) dX12_lade_70 ⟨Nat.zero_le _, Nat.zero_le _⟩) (fun H locs hP hD hS => ?_)
              refine lv_iconst (v := (1 : Int32)) hx hb dX12_lade_73 (by decide) ?_
              obtain ⟨hq0, hq1⟩ := pj2 hf
              subst hq0
              subst hq1
              exact W.zret (v := (1 : Int32)) hx hb hr rfl (fun t ht hW => ⟨rfl, by rw [ht]; exact hP, hD, hS.F ht⟩) hS.2.2 dX12_lade_74
            · rw [if_neg hc53] at hf
              refine lv_iconst (v := (0 : Int32)) hx hb dX12_lade_56 (by decide) ?_
              obtain ⟨hq0, hq1⟩ := pj2 hf
              subst hq0
              subst hq1
              exact W.zret (v := (0 : Int32)) hx hb hr rfl (fun t ht hW => ⟨rfl, by rw [ht]; exact hP, hD, hS.F ht⟩) hS.2.2 dX12_lade_57
