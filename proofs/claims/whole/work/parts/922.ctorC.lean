set_option maxHeartbeats 4000000 in
set_option maxRecDepth 100000 in
theorem c_X4_init (l : Launch) (dC : Nat → ClassId) (dI : Nat → Nat → Nat) (cyB cyI cyZ cyO : ClassId) (h t1 : Nat) (sz : Nat) : Met l yX4_init wsX4_init ({ frames := 2, cells := 9, slots := 317, locals := 61 } : Room) (PW dC dI cyB cyI cyZ cyO ([.ref h, .ref t1] : List Value) ([(h, .inr (4, [.null, .null, .int 0, .int 0, .int 0, .int 0, .int 0, .int 0, .int 0, .int 0, .int 0, .int 0]))] : va_W) sz) (QC dC dI (fun w => ∃ q5 q5_0 q5_1 q5_2 q5_3 q5_4 q5_5 q5_6 q66 : Nat, w = ((wX4 cyB cyI cyZ cyO h q66 q5 m0X4) ++ ((wX3 cyB cyI cyZ cyO q5 q5_0 q5_1 q5_2 q5_3 q5_4 q5_5 q5_6 m0X3) ++ (wX9 cyB cyI cyZ cyO q66 t1 m0X9)))) (va_A ([(h, .inr (4, [.null, .null, .int 0, .int 0, .int 0, .int 0, .int 0, .int 0, .int 0, .int 0, .int 0, .int 0]))] : va_W) sz)) 9 317 (va_A ([(h, .inr (4, [.null, .null, .int 0, .int 0, .int 0, .int 0, .int 0, .int 0, .int 0, .int 0, .int 0, .int 0]))] : va_W) sz) := by
  refine Met.ofW (cc := cX4_init) (maxL := 2) (ret := none) (by decide) rfl ?_
  intro p e s m args below meth c s₁ B hml hv
  obtain ⟨rfl, hsz, hP, hCx, hD0⟩ := hv
  have hK := hCx.1
  have hN := hCx.2
  have hx := B.exec
  have hb := B.bytes
  have hr := B.returns
  have hts := atoms_spec (ws := wsX4_init) B.pre
  have hown : s.vm.findClass RX4 = some m.cls := findClass_of_methodNamed B.named
  have hlocks := B.notSynchronized
  have hin : meth.name = "<init>" := (name_of_methodNamed B.named B.method).1
  have hin3 : ∀ w ∈ u_ws RX3 TX3 8, w ∈ wsX4_init := fun w h => List.mem_cons_of_mem _ (List.mem_append_left _ (List.mem_append_left _ (List.mem_append_right _ h)))
  have hin4 : ∀ w ∈ u_ws RX4 TX4 12, w ∈ wsX4_init := fun w h => List.mem_cons_of_mem _ (List.mem_append_left _ (List.mem_append_right _ h))
  have hin9 : ∀ w ∈ u_ws RX9 TX9 5, w ∈ wsX4_init := fun w h => List.mem_cons_of_mem _ (List.mem_append_right _ h)
  have kf12 := hts (.fieldLink RX4 12 "HoldSlips$DecreeReader" "text" "LHoldSlips$Decree;") (by decide +kernel)
  have kf18 := hts (.fieldLink RX4 18 "HoldSlips$DecreeReader" "fault" "I") (by decide +kernel)
  have kf22 := hts (.fieldLink RX4 22 "HoldSlips$DecreeReader" "place" "I") (by decide +kernel)
  have kf25 := hts (.fieldLink RX4 25 "HoldSlips$DecreeReader" "excess" "I") (by decide +kernel)
  have kf28 := hts (.fieldLink RX4 28 "HoldSlips$DecreeReader" "state" "I") (by decide +kernel)
  have kf31 := hts (.fieldLink RX4 31 "HoldSlips$DecreeReader" "line" "I") (by decide +kernel)
  have kf34 := hts (.fieldLink RX4 34 "HoldSlips$DecreeReader" "tests" "I") (by decide +kernel)
  have kf37 := hts (.fieldLink RX4 37 "HoldSlips$DecreeReader" "negated" "Z") (by decide +kernel)
  have kf41 := hts (.fieldLink RX4 41 "HoldSlips$DecreeReader" "subject" "I") (by decide +kernel)
  have kf44 := hts (.fieldLink RX4 44 "HoldSlips$DecreeReader" "sign" "I") (by decide +kernel)
  have kf47 := hts (.fieldLink RX4 47 "HoldSlips$DecreeReader" "action" "I") (by decide +kernel)
  have kf55 := hts (.fieldLink RX4 55 "HoldSlips$DecreeReader" "at" "LHoldSlips$TokenReader;") (by decide +kernel)
  subst hsz
  have hD := hD0.self (sz := s.heap.size)
  generalize hAe : va_A ([(h, .inr (4, [.null, .null, .int 0, .int 0, .int 0, .int 0, .int 0, .int 0, .int 0, .int 0, .int 0, .int 0]))] : va_W) s.heap.size = A at hD ⊢
  have hA : ∀ q : Nat, s.heap.size ≤ q → A q := fun q h => by rw [← hAe]; exact Or.inr h
  have hS : va_S A s.heap s.heap [] := va_S.rf
  have hl := lv_entry ([.ref h, .ref t1] : List Value) (n := 2) (Nat.le_of_ble_eq_true rfl)
  rw [lg_entry_eq]
  generalize (lg_sl ([.ref h, .ref t1] : List Value) ++ List.replicate (2 - (lg_sl ([.ref h, .ref t1] : List Value)).length) Slot.unset).toArray = ls at hl ⊢
  have hl : lv_has ls 2 [(0, .ref h), (1, .ref t1)] := hl
  refine lv_aload_n hx hb dX4_init_0 rfl (lv_at hl 0 rfl) ?_
  refine W.objInit hx hb hown (hts (.methodLink RX4 3 objectInit) (by decide +kernel)) (hts (.instanceMethod objectInit) (by decide +kernel)) (hts (.code objectInit ⟨#[0xb1]⟩ 1 none) (by decide +kernel)) rfl (by rw [hml]; exact hl.1) rfl dX4_init_1 (Nat.le_of_ble_eq_true rfl) (Nat.le_of_ble_eq_true rfl) ?_
  refine W.eq (g2 := F0 m 4 ls []) rfl ?_
  refine lv_aload_n hx hb dX4_init_4 rfl (lv_at hl 0 rfl) ?_
  refine va_new (ci := 3) (fs := [.int 0, .null, .null, .null, .null, .null, .null, .null]) (C := RX3) (T := TX3) (N := 8) hx hb hts hin3 tyX3 tyX3_ok hown (hts (.classLink RX4 9 RX3) (by decide +kernel)) (hts (.instantiable RX3 8) (by decide +kernel)) (hts (.initialized RX3) (by decide +kernel)) hK hP hD hS hA rfl (fun j hj => by rcases (show j = 0 ∨ j = 1 ∨ j = 2 ∨ j = 3 ∨ j = 4 ∨ j = 5 ∨ j = 6 ∨ j = 7 by omega) with rfl | rfl | rfl | rfl | rfl | rfl | rfl | rfl <;> rfl) (Nat.le_of_ble_eq_true rfl) (Nat.le_of_ble_eq_true rfl) dX4_init_5 (fun q5 H hP hD hS => ?_)
  have hP : va_P (dC, dI) vwCl (([(h, .inr (4, [.null, .null, .int 0, .int 0, .int 0, .int 0, .int 0, .int 0, .int 0, .int 0, .int 0, .int 0]))] : va_W) ++ ([(q5, .inr (3, [.int 0, .null, .null, .null, .null, .null, .null, .null]))] : va_W)) H := hP
  have hD : va_D A (([(h, .inr (4, [.null, .null, .int 0, .int 0, .int 0, .int 0, .int 0, .int 0, .int 0, .int 0, .int 0, .int 0]))] : va_W) ++ ([(q5, .inr (3, [.int 0, .null, .null, .null, .null, .null, .null, .null]))] : va_W)) := hD
  refine W.widen (k := 1) (n := 8) (by omega) (by omega) ?_
  refine lv_dup hx hb dX4_init_8 rfl ?_
  have hPc := hP.sub (ws' := ([(q5, .inr (3, [.int 0, .null, .null, .null, .null, .null, .null, .null]))] : va_W)) [1] rfl
  have hDc := hD.sub (ws' := ([(q5, .inr (3, [.int 0, .null, .null, .null, .null, .null, .null, .null]))] : va_W)) [1] (by decide) rfl
  refine cn_call (wc := ([(q5, .inr (3, [.int 0, .null, .null, .null, .null, .null, .null, .null]))] : va_W)) (wr := ([(h, .inr (4, [.null, .null, .int 0, .int 0, .int 0, .int 0, .int 0, .int 0, .int 0, .int 0, .int 0, .int 0]))] : va_W)) hP hD hS hA [1] [0] rfl rfl (by decide) (by decide) (va_runIN (As := []) (rest := [.ref q5, .ref h]) ⟨hx, hb, hml, hown, hts⟩ (c_X3_init l dC dI cyB cyI cyZ cyO q5 H.size) ⟨va_cnB 0 hts gX4_init_X3_init_n11 rfl rfl rfl (hN _ (by decide +kernel : Cond.methodLinkNest RX4 11 yX3_init "HoldSlips" ∈ nw_all)) (hts (.initialized RX3) (by decide +kernel)) (by decide +kernel) ⟨Nat.le_of_ble_eq_true rfl, Nat.le_of_ble_eq_true rfl⟩, rfl, hts (.instanceMethod yX3_init) (by decide +kernel)⟩ ⟨PW.blind, fun U hU hW => ⟨rfl, by rw [hU], by rw [hU]; exact hPc, hCx.warm hW, hDc.weaken (fun _ _ _ _ => trivial)⟩⟩ rfl rfl hl.1 rfl (lv_room (Nat.le_of_ble_eq_true rfl)) dX4_init_9 ⟨Nat.le_of_ble_eq_true rfl, Nat.le_of_ble_eq_true rfl⟩) (fun w1 H locs hΦ hP hD hS => ?_)
  obtain ⟨q5_0, q5_1, q5_2, q5_3, q5_4, q5_5, q5_6, rfl⟩ := hΦ
  have hP : va_P (dC, dI) vwCl (([(h, .inr (4, [.null, .null, .int 0, .int 0, .int 0, .int 0, .int 0, .int 0, .int 0, .int 0, .int 0, .int 0]))] : va_W) ++ (wX3 cyB cyI cyZ cyO q5 q5_0 q5_1 q5_2 q5_3 q5_4 q5_5 q5_6 m0X3)) H := hP
  have hD : va_D A (([(h, .inr (4, [.null, .null, .int 0, .int 0, .int 0, .int 0, .int 0, .int 0, .int 0, .int 0, .int 0, .int 0]))] : va_W) ++ (wX3 cyB cyI cyZ cyO q5 q5_0 q5_1 q5_2 q5_3 q5_4 q5_5 q5_6 m0X3)) := hD
  refine W.widen (k := 8) (n := 312) (by omega) (by omega) ?_
  refine va_putF (D := (dC, dI)) (ci := 4) (v := .ref q5) (ty := .object "HoldSlips$Decree") (C := RX4) (T := TX4) (N := 12) hx hb hts hin4 tyX4 tyX4_ok nmX4 hown hK hP hD hS 0 rfl rfl 1 (by decide) kf12 (fun _ h9 => h9) rfl hin rfl (by decide +kernel) rfl rfl (Nat.le_of_ble_eq_true rfl) dX4_init_12 (fun H locs hP hD hS => ?_)
  have hP : va_P (dC, dI) vwCl (([(h, .inr (4, [.null, .ref q5, .int 0, .int 0, .int 0, .int 0, .int 0, .int 0, .int 0, .int 0, .int 0, .int 0]))] : va_W) ++ (wX3 cyB cyI cyZ cyO q5 q5_0 q5_1 q5_2 q5_3 q5_4 q5_5 q5_6 m0X3)) H := hP
  have hD : va_D A (([(h, .inr (4, [.null, .ref q5, .int 0, .int 0, .int 0, .int 0, .int 0, .int 0, .int 0, .int 0, .int 0, .int 0]))] : va_W) ++ (wX3 cyB cyI cyZ cyO q5 q5_0 q5_1 q5_2 q5_3 q5_4 q5_5 q5_6 m0X3)) := hD
  refine lv_aload_n hx hb dX4_init_15 rfl (lv_at hl 0 rfl) ?_
  refine lv_iconst (v := (0 : Int32)) hx hb dX4_init_16 (by decide) ?_
  refine va_put (D := (dC, dI)) (ci := 4) (v := .int (0 : Int32)) (ty := .int) (C := RX4) (T := TX4) (N := 12) hx hb hts hin4 tyX4 tyX4_ok nmX4 hown hK hP hD hS 0 rfl rfl 2 (by decide) kf18 (fun _ h9 => h9) rfl (by decide +kernel) rfl rfl (Nat.le_of_ble_eq_true rfl) dX4_init_17 (fun H locs hP hD hS => ?_)
  have hP : va_P (dC, dI) vwCl (([(h, .inr (4, [.null, .ref q5, .int (0 : Int32), .int 0, .int 0, .int 0, .int 0, .int 0, .int 0, .int 0, .int 0, .int 0]))] : va_W) ++ (wX3 cyB cyI cyZ cyO q5 q5_0 q5_1 q5_2 q5_3 q5_4 q5_5 q5_6 m0X3)) H := hP
  have hD : va_D A (([(h, .inr (4, [.null, .ref q5, .int (0 : Int32), .int 0, .int 0, .int 0, .int 0, .int 0, .int 0, .int 0, .int 0, .int 0]))] : va_W) ++ (wX3 cyB cyI cyZ cyO q5 q5_0 q5_1 q5_2 q5_3 q5_4 q5_5 q5_6 m0X3)) := hD
  refine lv_aload_n hx hb dX4_init_20 rfl (lv_at hl 0 rfl) ?_
  refine lv_iconst (v := (-1 : Int32)) hx hb dX4_init_21 (by decide) ?_
  refine va_put (D := (dC, dI)) (ci := 4) (v := .int (-1 : Int32)) (ty := .int) (C := RX4) (T := TX4) (N := 12) hx hb hts hin4 tyX4 tyX4_ok nmX4 hown hK hP hD hS 0 rfl rfl 3 (by decide) kf22 (fun _ h9 => h9) rfl (by decide +kernel) rfl rfl (Nat.le_of_ble_eq_true rfl) dX4_init_22 (fun H locs hP hD hS => ?_)
  have hP : va_P (dC, dI) vwCl (([(h, .inr (4, [.null, .ref q5, .int (0 : Int32), .int (-1 : Int32), .int 0, .int 0, .int 0, .int 0, .int 0, .int 0, .int 0, .int 0]))] : va_W) ++ (wX3 cyB cyI cyZ cyO q5 q5_0 q5_1 q5_2 q5_3 q5_4 q5_5 q5_6 m0X3)) H := hP
  have hD : va_D A (([(h, .inr (4, [.null, .ref q5, .int (0 : Int32), .int (-1 : Int32), .int 0, .int 0, .int 0, .int 0, .int 0, .int 0, .int 0, .int 0]))] : va_W) ++ (wX3 cyB cyI cyZ cyO q5 q5_0 q5_1 q5_2 q5_3 q5_4 q5_5 q5_6 m0X3)) := hD
  refine lv_aload_n hx hb dX4_init_25 rfl (lv_at hl 0 rfl) ?_
  refine lv_iconst (v := (-1 : Int32)) hx hb dX4_init_26 (by decide) ?_
  refine va_put (D := (dC, dI)) (ci := 4) (v := .int (-1 : Int32)) (ty := .int) (C := RX4) (T := TX4) (N := 12) hx hb hts hin4 tyX4 tyX4_ok nmX4 hown hK hP hD hS 0 rfl rfl 4 (by decide) kf25 (fun _ h9 => h9) rfl (by decide +kernel) rfl rfl (Nat.le_of_ble_eq_true rfl) dX4_init_27 (fun H locs hP hD hS => ?_)
  have hP : va_P (dC, dI) vwCl (([(h, .inr (4, [.null, .ref q5, .int (0 : Int32), .int (-1 : Int32), .int (-1 : Int32), .int 0, .int 0, .int 0, .int 0, .int 0, .int 0, .int 0]))] : va_W) ++ (wX3 cyB cyI cyZ cyO q5 q5_0 q5_1 q5_2 q5_3 q5_4 q5_5 q5_6 m0X3)) H := hP
  have hD : va_D A (([(h, .inr (4, [.null, .ref q5, .int (0 : Int32), .int (-1 : Int32), .int (-1 : Int32), .int 0, .int 0, .int 0, .int 0, .int 0, .int 0, .int 0]))] : va_W) ++ (wX3 cyB cyI cyZ cyO q5 q5_0 q5_1 q5_2 q5_3 q5_4 q5_5 q5_6 m0X3)) := hD
  refine lv_aload_n hx hb dX4_init_30 rfl (lv_at hl 0 rfl) ?_
  refine lv_iconst (v := (0 : Int32)) hx hb dX4_init_31 (by decide) ?_
  refine va_put (D := (dC, dI)) (ci := 4) (v := .int (0 : Int32)) (ty := .int) (C := RX4) (T := TX4) (N := 12) hx hb hts hin4 tyX4 tyX4_ok nmX4 hown hK hP hD hS 0 rfl rfl 5 (by decide) kf28 (fun _ h9 => h9) rfl (by decide +kernel) rfl rfl (Nat.le_of_ble_eq_true rfl) dX4_init_32 (fun H locs hP hD hS => ?_)
  have hP : va_P (dC, dI) vwCl (([(h, .inr (4, [.null, .ref q5, .int (0 : Int32), .int (-1 : Int32), .int (-1 : Int32), .int (0 : Int32), .int 0, .int 0, .int 0, .int 0, .int 0, .int 0]))] : va_W) ++ (wX3 cyB cyI cyZ cyO q5 q5_0 q5_1 q5_2 q5_3 q5_4 q5_5 q5_6 m0X3)) H := hP
  have hD : va_D A (([(h, .inr (4, [.null, .ref q5, .int (0 : Int32), .int (-1 : Int32), .int (-1 : Int32), .int (0 : Int32), .int 0, .int 0, .int 0, .int 0, .int 0, .int 0]))] : va_W) ++ (wX3 cyB cyI cyZ cyO q5 q5_0 q5_1 q5_2 q5_3 q5_4 q5_5 q5_6 m0X3)) := hD
  refine lv_aload_n hx hb dX4_init_35 rfl (lv_at hl 0 rfl) ?_
  refine lv_iconst (v := (0 : Int32)) hx hb dX4_init_36 (by decide) ?_
  refine va_put (D := (dC, dI)) (ci := 4) (v := .int (0 : Int32)) (ty := .int) (C := RX4) (T := TX4) (N := 12) hx hb hts hin4 tyX4 tyX4_ok nmX4 hown hK hP hD hS 0 rfl rfl 6 (by decide) kf31 (fun _ h9 => h9) rfl (by decide +kernel) rfl rfl (Nat.le_of_ble_eq_true rfl) dX4_init_37 (fun H locs hP hD hS => ?_)
  have hP : va_P (dC, dI) vwCl (([(h, .inr (4, [.null, .ref q5, .int (0 : Int32), .int (-1 : Int32), .int (-1 : Int32), .int (0 : Int32), .int (0 : Int32), .int 0, .int 0, .int 0, .int 0, .int 0]))] : va_W) ++ (wX3 cyB cyI cyZ cyO q5 q5_0 q5_1 q5_2 q5_3 q5_4 q5_5 q5_6 m0X3)) H := hP
  have hD : va_D A (([(h, .inr (4, [.null, .ref q5, .int (0 : Int32), .int (-1 : Int32), .int (-1 : Int32), .int (0 : Int32), .int (0 : Int32), .int 0, .int 0, .int 0, .int 0, .int 0]))] : va_W) ++ (wX3 cyB cyI cyZ cyO q5 q5_0 q5_1 q5_2 q5_3 q5_4 q5_5 q5_6 m0X3)) := hD
  refine lv_aload_n hx hb dX4_init_40 rfl (lv_at hl 0 rfl) ?_
  refine lv_iconst (v := (0 : Int32)) hx hb dX4_init_41 (by decide) ?_
  refine va_put (D := (dC, dI)) (ci := 4) (v := .int (0 : Int32)) (ty := .int) (C := RX4) (T := TX4) (N := 12) hx hb hts hin4 tyX4 tyX4_ok nmX4 hown hK hP hD hS 0 rfl rfl 7 (by decide) kf34 (fun _ h9 => h9) rfl (by decide +kernel) rfl rfl (Nat.le_of_ble_eq_true rfl) dX4_init_42 (fun H locs hP hD hS => ?_)
  have hP : va_P (dC, dI) vwCl (([(h, .inr (4, [.null, .ref q5, .int (0 : Int32), .int (-1 : Int32), .int (-1 : Int32), .int (0 : Int32), .int (0 : Int32), .int (0 : Int32), .int 0, .int 0, .int 0, .int 0]))] : va_W) ++ (wX3 cyB cyI cyZ cyO q5 q5_0 q5_1 q5_2 q5_3 q5_4 q5_5 q5_6 m0X3)) H := hP
  have hD : va_D A (([(h, .inr (4, [.null, .ref q5, .int (0 : Int32), .int (-1 : Int32), .int (-1 : Int32), .int (0 : Int32), .int (0 : Int32), .int (0 : Int32), .int 0, .int 0, .int 0, .int 0]))] : va_W) ++ (wX3 cyB cyI cyZ cyO q5 q5_0 q5_1 q5_2 q5_3 q5_4 q5_5 q5_6 m0X3)) := hD
  refine lv_aload_n hx hb dX4_init_45 rfl (lv_at hl 0 rfl) ?_
  refine lv_iconst (v := (0 : Int32)) hx hb dX4_init_46 (by decide) ?_
  refine va_put (D := (dC, dI)) (ci := 4) (v := .int (0 : Int32)) (ty := .boolean) (C := RX4) (T := TX4) (N := 12) hx hb hts hin4 tyX4 tyX4_ok nmX4 hown hK hP hD hS 0 rfl rfl 8 (by decide) kf37 (fun _ h9 => h9) rfl (by decide +kernel) rfl rfl (Nat.le_of_ble_eq_true rfl) dX4_init_47 (fun H locs hP hD hS => ?_)
  have hP : va_P (dC, dI) vwCl (([(h, .inr (4, [.null, .ref q5, .int (0 : Int32), .int (-1 : Int32), .int (-1 : Int32), .int (0 : Int32), .int (0 : Int32), .int (0 : Int32), .int (0 : Int32), .int 0, .int 0, .int 0]))] : va_W) ++ (wX3 cyB cyI cyZ cyO q5 q5_0 q5_1 q5_2 q5_3 q5_4 q5_5 q5_6 m0X3)) H := hP
  have hD : va_D A (([(h, .inr (4, [.null, .ref q5, .int (0 : Int32), .int (-1 : Int32), .int (-1 : Int32), .int (0 : Int32), .int (0 : Int32), .int (0 : Int32), .int (0 : Int32), .int 0, .int 0, .int 0]))] : va_W) ++ (wX3 cyB cyI cyZ cyO q5 q5_0 q5_1 q5_2 q5_3 q5_4 q5_5 q5_6 m0X3)) := hD
  refine lv_aload_n hx hb dX4_init_50 rfl (lv_at hl 0 rfl) ?_
  refine lv_iconst (v := (0 : Int32)) hx hb dX4_init_51 (by decide) ?_
  refine va_put (D := (dC, dI)) (ci := 4) (v := .int (0 : Int32)) (ty := .int) (C := RX4) (T := TX4) (N := 12) hx hb hts hin4 tyX4 tyX4_ok nmX4 hown hK hP hD hS 0 rfl rfl 9 (by decide) kf41 (fun _ h9 => h9) rfl (by decide +kernel) rfl rfl (Nat.le_of_ble_eq_true rfl) dX4_init_52 (fun H locs hP hD hS => ?_)
  have hP : va_P (dC, dI) vwCl (([(h, .inr (4, [.null, .ref q5, .int (0 : Int32), .int (-1 : Int32), .int (-1 : Int32), .int (0 : Int32), .int (0 : Int32), .int (0 : Int32), .int (0 : Int32), .int (0 : Int32), .int 0, .int 0]))] : va_W) ++ (wX3 cyB cyI cyZ cyO q5 q5_0 q5_1 q5_2 q5_3 q5_4 q5_5 q5_6 m0X3)) H := hP
  have hD : va_D A (([(h, .inr (4, [.null, .ref q5, .int (0 : Int32), .int (-1 : Int32), .int (-1 : Int32), .int (0 : Int32), .int (0 : Int32), .int (0 : Int32), .int (0 : Int32), .int (0 : Int32), .int 0, .int 0]))] : va_W) ++ (wX3 cyB cyI cyZ cyO q5 q5_0 q5_1 q5_2 q5_3 q5_4 q5_5 q5_6 m0X3)) := hD
  refine lv_aload_n hx hb dX4_init_55 rfl (lv_at hl 0 rfl) ?_
  refine lv_iconst (v := (0 : Int32)) hx hb dX4_init_56 (by decide) ?_
  refine va_put (D := (dC, dI)) (ci := 4) (v := .int (0 : Int32)) (ty := .int) (C := RX4) (T := TX4) (N := 12) hx hb hts hin4 tyX4 tyX4_ok nmX4 hown hK hP hD hS 0 rfl rfl 10 (by decide) kf44 (fun _ h9 => h9) rfl (by decide +kernel) rfl rfl (Nat.le_of_ble_eq_true rfl) dX4_init_57 (fun H locs hP hD hS => ?_)
  have hP : va_P (dC, dI) vwCl (([(h, .inr (4, [.null, .ref q5, .int (0 : Int32), .int (-1 : Int32), .int (-1 : Int32), .int (0 : Int32), .int (0 : Int32), .int (0 : Int32), .int (0 : Int32), .int (0 : Int32), .int (0 : Int32), .int 0]))] : va_W) ++ (wX3 cyB cyI cyZ cyO q5 q5_0 q5_1 q5_2 q5_3 q5_4 q5_5 q5_6 m0X3)) H := hP
  have hD : va_D A (([(h, .inr (4, [.null, .ref q5, .int (0 : Int32), .int (-1 : Int32), .int (-1 : Int32), .int (0 : Int32), .int (0 : Int32), .int (0 : Int32), .int (0 : Int32), .int (0 : Int32), .int (0 : Int32), .int 0]))] : va_W) ++ (wX3 cyB cyI cyZ cyO q5 q5_0 q5_1 q5_2 q5_3 q5_4 q5_5 q5_6 m0X3)) := hD
  refine lv_aload_n hx hb dX4_init_60 rfl (lv_at hl 0 rfl) ?_
  refine lv_iconst (v := (0 : Int32)) hx hb dX4_init_61 (by decide) ?_
  refine va_put (D := (dC, dI)) (ci := 4) (v := .int (0 : Int32)) (ty := .int) (C := RX4) (T := TX4) (N := 12) hx hb hts hin4 tyX4 tyX4_ok nmX4 hown hK hP hD hS 0 rfl rfl 11 (by decide) kf47 (fun _ h9 => h9) rfl (by decide +kernel) rfl rfl (Nat.le_of_ble_eq_true rfl) dX4_init_62 (fun H locs hP hD hS => ?_)
  have hP : va_P (dC, dI) vwCl (([(h, .inr (4, [.null, .ref q5, .int (0 : Int32), .int (-1 : Int32), .int (-1 : Int32), .int (0 : Int32), .int (0 : Int32), .int (0 : Int32), .int (0 : Int32), .int (0 : Int32), .int (0 : Int32), .int (0 : Int32)]))] : va_W) ++ (wX3 cyB cyI cyZ cyO q5 q5_0 q5_1 q5_2 q5_3 q5_4 q5_5 q5_6 m0X3)) H := hP
  have hD : va_D A (([(h, .inr (4, [.null, .ref q5, .int (0 : Int32), .int (-1 : Int32), .int (-1 : Int32), .int (0 : Int32), .int (0 : Int32), .int (0 : Int32), .int (0 : Int32), .int (0 : Int32), .int (0 : Int32), .int (0 : Int32)]))] : va_W) ++ (wX3 cyB cyI cyZ cyO q5 q5_0 q5_1 q5_2 q5_3 q5_4 q5_5 q5_6 m0X3)) := hD
  refine lv_aload_n hx hb dX4_init_65 rfl (lv_at hl 0 rfl) ?_
  refine va_new (ci := 9) (fs := [.null, .int 0, .int 0, .int 0, .int 0]) (C := RX9) (T := TX9) (N := 5) hx hb hts hin9 tyX9 tyX9_ok hown (hts (.classLink RX4 50 RX9) (by decide +kernel)) (hts (.instantiable RX9 5) (by decide +kernel)) (hts (.initialized RX9) (by decide +kernel)) hK hP hD hS hA rfl (fun j hj => by rcases (show j = 0 ∨ j = 1 ∨ j = 2 ∨ j = 3 ∨ j = 4 by omega) with rfl | rfl | rfl | rfl | rfl <;> rfl) (Nat.le_of_ble_eq_true rfl) (Nat.le_of_ble_eq_true rfl) dX4_init_66 (fun q66 H hP hD hS => ?_)
  have hP : va_P (dC, dI) vwCl (([(h, .inr (4, [.null, .ref q5, .int (0 : Int32), .int (-1 : Int32), .int (-1 : Int32), .int (0 : Int32), .int (0 : Int32), .int (0 : Int32), .int (0 : Int32), .int (0 : Int32), .int (0 : Int32), .int (0 : Int32)]))] : va_W) ++ ((wX3 cyB cyI cyZ cyO q5 q5_0 q5_1 q5_2 q5_3 q5_4 q5_5 q5_6 m0X3) ++ ([(q66, .inr (9, [.null, .int 0, .int 0, .int 0, .int 0]))] : va_W))) H := hP
  have hD : va_D A (([(h, .inr (4, [.null, .ref q5, .int (0 : Int32), .int (-1 : Int32), .int (-1 : Int32), .int (0 : Int32), .int (0 : Int32), .int (0 : Int32), .int (0 : Int32), .int (0 : Int32), .int (0 : Int32), .int (0 : Int32)]))] : va_W) ++ ((wX3 cyB cyI cyZ cyO q5 q5_0 q5_1 q5_2 q5_3 q5_4 q5_5 q5_6 m0X3) ++ ([(q66, .inr (9, [.null, .int 0, .int 0, .int 0, .int 0]))] : va_W))) := hD
  refine W.widen (k := 9) (n := 317) (by omega) (by omega) ?_
  refine lv_dup hx hb dX4_init_69 rfl ?_
  refine lv_aload_n hx hb dX4_init_70 rfl (lv_at hl 1 rfl) ?_
  have hPc := hP.sub (ws' := ([(q66, .inr (9, [.null, .int 0, .int 0, .int 0, .int 0]))] : va_W)) [9] rfl
  have hDc := hD.sub (ws' := ([(q66, .inr (9, [.null, .int 0, .int 0, .int 0, .int 0]))] : va_W)) [9] (by decide) rfl
  refine cn_call (wc := ([(q66, .inr (9, [.null, .int 0, .int 0, .int 0, .int 0]))] : va_W)) (wr := (([(h, .inr (4, [.null, .ref q5, .int (0 : Int32), .int (-1 : Int32), .int (-1 : Int32), .int (0 : Int32), .int (0 : Int32), .int (0 : Int32), .int (0 : Int32), .int (0 : Int32), .int (0 : Int32), .int (0 : Int32)]))] : va_W) ++ (wX3 cyB cyI cyZ cyO q5 q5_0 q5_1 q5_2 q5_3 q5_4 q5_5 q5_6 m0X3))) hP hD hS hA [9] [0, 1, 2, 3, 4, 5, 6, 7, 8] rfl rfl (by decide) (by decide) (va_runI (As := [.ref t1]) (rest := [.ref q66, .ref h]) ⟨hx, hb, hml, hown, hts⟩ (c_X9_init l dC dI cyB cyI cyZ cyO q66 t1 H.size) (cwI 1 hts gX4_init_X9_init rfl rfl rfl (hts (.initialized RX9) (by decide +kernel)) (hts (.methodLink RX4 52 yX9_init) (by decide +kernel)) (hts (.instanceMethod yX9_init) (by decide +kernel)) rfl (by decide +kernel) ⟨Nat.le_of_ble_eq_true rfl, Nat.le_of_ble_eq_true rfl⟩) ⟨PW.blind, fun U hU hW => ⟨rfl, by rw [hU], by rw [hU]; exact hPc, hCx.warm hW, hDc.weaken (fun _ _ _ _ => trivial)⟩⟩ rfl rfl hl.1 rfl (lv_room (Nat.le_of_ble_eq_true rfl)) dX4_init_71 ⟨Nat.le_of_ble_eq_true rfl, Nat.le_of_ble_eq_true rfl⟩) (fun w1 H locs hΦ hP hD hS => ?_)
  obtain ⟨rfl⟩ := hΦ
  have hP : va_P (dC, dI) vwCl (([(h, .inr (4, [.null, .ref q5, .int (0 : Int32), .int (-1 : Int32), .int (-1 : Int32), .int (0 : Int32), .int (0 : Int32), .int (0 : Int32), .int (0 : Int32), .int (0 : Int32), .int (0 : Int32), .int (0 : Int32)]))] : va_W) ++ ((wX3 cyB cyI cyZ cyO q5 q5_0 q5_1 q5_2 q5_3 q5_4 q5_5 q5_6 m0X3) ++ (wX9 cyB cyI cyZ cyO q66 t1 m0X9))) H := hP
  have hD : va_D A (([(h, .inr (4, [.null, .ref q5, .int (0 : Int32), .int (-1 : Int32), .int (-1 : Int32), .int (0 : Int32), .int (0 : Int32), .int (0 : Int32), .int (0 : Int32), .int (0 : Int32), .int (0 : Int32), .int (0 : Int32)]))] : va_W) ++ ((wX3 cyB cyI cyZ cyO q5 q5_0 q5_1 q5_2 q5_3 q5_4 q5_5 q5_6 m0X3) ++ (wX9 cyB cyI cyZ cyO q66 t1 m0X9))) := hD
  refine W.widen (k := 9) (n := 317) (by omega) (by omega) ?_
  refine va_putF (D := (dC, dI)) (ci := 4) (v := .ref q66) (ty := .object "HoldSlips$TokenReader") (C := RX4) (T := TX4) (N := 12) hx hb hts hin4 tyX4 tyX4_ok nmX4 hown hK hP hD hS 0 rfl rfl 0 (by decide) kf55 (fun _ h9 => h9) rfl hin rfl (by decide +kernel) rfl rfl (Nat.le_of_ble_eq_true rfl) dX4_init_74 (fun H locs hP hD hS => ?_)
  have hP : va_P (dC, dI) vwCl (([(h, .inr (4, [.ref q66, .ref q5, .int (0 : Int32), .int (-1 : Int32), .int (-1 : Int32), .int (0 : Int32), .int (0 : Int32), .int (0 : Int32), .int (0 : Int32), .int (0 : Int32), .int (0 : Int32), .int (0 : Int32)]))] : va_W) ++ ((wX3 cyB cyI cyZ cyO q5 q5_0 q5_1 q5_2 q5_3 q5_4 q5_5 q5_6 m0X3) ++ (wX9 cyB cyI cyZ cyO q66 t1 m0X9))) H := hP
  have hD : va_D A (([(h, .inr (4, [.ref q66, .ref q5, .int (0 : Int32), .int (-1 : Int32), .int (-1 : Int32), .int (0 : Int32), .int (0 : Int32), .int (0 : Int32), .int (0 : Int32), .int (0 : Int32), .int (0 : Int32), .int (0 : Int32)]))] : va_W) ++ ((wX3 cyB cyI cyZ cyO q5 q5_0 q5_1 q5_2 q5_3 q5_4 q5_5 q5_6 m0X3) ++ (wX9 cyB cyI cyZ cyO q66 t1 m0X9))) := hD
  have hP9 : va_P (dC, dI) vwCl ((wX4 cyB cyI cyZ cyO h q66 q5 m0X4) ++ ((wX3 cyB cyI cyZ cyO q5 q5_0 q5_1 q5_2 q5_3 q5_4 q5_5 q5_6 m0X3) ++ (wX9 cyB cyI cyZ cyO q66 t1 m0X9))) H := hP.sub (ws' := ((wX4 cyB cyI cyZ cyO h q66 q5 m0X4) ++ ((wX3 cyB cyI cyZ cyO q5 q5_0 q5_1 q5_2 q5_3 q5_4 q5_5 q5_6 m0X3) ++ (wX9 cyB cyI cyZ cyO q66 t1 m0X9)))) [0, 1, 2, 3, 4, 5, 6, 7, 8, 9] rfl
  have hD9 : va_D A ((wX4 cyB cyI cyZ cyO h q66 q5 m0X4) ++ ((wX3 cyB cyI cyZ cyO q5 q5_0 q5_1 q5_2 q5_3 q5_4 q5_5 q5_6 m0X3) ++ (wX9 cyB cyI cyZ cyO q66 t1 m0X9))) := hD.sub (ws' := ((wX4 cyB cyI cyZ cyO h q66 q5 m0X4) ++ ((wX3 cyB cyI cyZ cyO q5 q5_0 q5_1 q5_2 q5_3 q5_4 q5_5 q5_6 m0X3) ++ (wX9 cyB cyI cyZ cyO q66 t1 m0X9)))) [0, 1, 2, 3, 4, 5, 6, 7, 8, 9] (by decide) rfl
  exact W.vret hx hb hr (fun t ht hW => ⟨rfl, _, ⟨q5, q5_0, q5_1, q5_2, q5_3, q5_4, q5_5, q5_6, q66, rfl⟩, by rw [ht]; exact hP9, hD9, hS.F ht⟩) hS.2.2 dX4_init_77
