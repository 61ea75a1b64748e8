set_option maxHeartbeats 4000000 in
set_option maxRecDepth 100000 in
theorem c_X9_isWord (l : Launch) (dC : Nat → ClassId) (dI : Nat → Nat → Nat) (cyB cyI cyZ cyO : ClassId) (adK adV : Nat → Nat) (h h_tape h_tape_bytes : Nat) (M_h : Mem) (M_h_tape : Mem) (k1 : Nat) (r : Int32) (hk_k1 : k1 < 11) (hf : f_X9_isWord M_h M_h_tape k1 = some r) : Met l yX9_isWord wsX9_isWord ({ frames := 5, cells := 0, slots := 0, locals := 131 } : Room) (PRS dC dI cyB cyI cyZ cyO adK adV ([.ref h, .ref (adK k1)] : List Value) ((wX9 cyB cyI cyZ cyO h h_tape M_h) ++ (wX8 cyB cyI cyZ cyO h_tape h_tape_bytes M_h_tape))) (QR (some (.int r))) 0 0 (fun _ => False) := by
  refine Met.ofW (cc := cX9_isWord) (maxL := 3) (ret := (some .boolean)) (by decide) rfl ?_
  intro p e s m args below meth c s₁ B hml hv
  obtain ⟨rfl, hP, hCx, hX⟩ := hv
  have hK := hCx.1
  have hN := hCx.2
  have hx := B.exec
  have hb := B.bytes
  have hr := B.returns
  have hts := atoms_spec (ws := wsX9_isWord) B.pre
  have hown : s.vm.findClass RX9 = some m.cls := findClass_of_methodNamed B.named
  have hlocks := B.notSynchronized
  have hin8 : ∀ w ∈ u_ws RX8 TX8 2, w ∈ wsX9_isWord := fun w h => List.mem_cons_of_mem _ (List.mem_append_right _ h)
  have hin9 : ∀ w ∈ u_ws RX9 TX9 5, w ∈ wsX9_isWord := fun w h => List.mem_cons_of_mem _ (List.mem_append_left _ (List.mem_append_right _ h))
  have kf10 := hts (.fieldLink RX9 10 "HoldSlips$TokenReader" "tape" "LHoldSlips$Tape;") (by decide +kernel)
  have kf20 := hts (.fieldLink RX9 20 "HoldSlips$TokenReader" "start" "I") (by decide +kernel)
  have kf23 := hts (.fieldLink RX9 23 "HoldSlips$TokenReader" "next" "I") (by decide +kernel)
  have kf36 := hts (.fieldLink RX9 36 "HoldSlips$Tape" "bytes" "[B") (by decide +kernel)
  have hl := lv_entry ([.ref h, .ref (adK k1)] : List Value) (n := 3) (Nat.le_of_ble_eq_true rfl)
  rw [lg_entry_eq]
  generalize (lg_sl ([.ref h, .ref (adK k1)] : List Value) ++ List.replicate (3 - (lg_sl ([.ref h, .ref (adK k1)] : List Value)).length) Slot.unset).toArray = ls at hl ⊢
  have hl : lv_has ls 3 [(0, .ref h), (1, .ref (adK k1))] := hl
  have L20 : ∀ (n : Nat), ∀ (x2 : Int32) (ls : Array Slot), f_X9_isWord_L20 k1 n M_h M_h_tape x2 = some r → lv_has ls 3 [(0, .ref h), (1, .ref (adK k1)), (2, .int x2)] → W p l e (headSpec wsX9_isWord ({ frames := 5, cells := 0, slots := 0, locals := 131 } : Room)).room s m ([.ref h, .ref (adK k1)] : List Value).toArray below meth c s.heap [] 0 0 (MQ below (QR (some (.int r))) ([.ref h, .ref (adK k1)] : List Value).toArray s 0 0 (fun _ => False)) (F0 m 20 ls []) := by
    intro n
    induction n with
    | zero => intro x2 ls hf hl; rw [f_X9_isWord_L20] at hf; cases hf
    | succ n ih =>
      intro x2 ls hf hl
      rw [f_X9_isWord_L20] at hf
      refine lv_iload_n hx hb dX9_isWord_20 rfl (lv_at hl 2 rfl) ?_
      refine lv_aload_n hx hb dX9_isWord_21 rfl (lv_at hl 1 rfl) ?_
      refine ro_calli (r := (slen k1)) (va_runV (C := RJ0) (As := []) (rest := [.int x2]) ⟨hx, hb, hml, hown, hts⟩ (c_str_length l adK adV k1 hk_k1) (cwV 0 hts gX9_isWord_J0_length_8abf5 rfl rfl rfl (by decide +kernel) ⟨Nat.le_of_ble_eq_true rfl, Nat.le_of_ble_eq_true rfl⟩) ⟨PS.blind, vk_recv hX.1 hk_k1 (va_S.rf (A := fun _ => False)), fun U hU hW => ⟨rfl, hX.at (locs := []) va_S.rf (fun _ h => h) hU hW⟩⟩ rfl rfl hl.1 rfl (lv_room (Nat.le_of_ble_eq_true rfl)) dX9_isWord_22 ⟨Nat.zero_le _, Nat.zero_le _⟩) ?_
      refine lv_icmp_ge (tgt := 58) hx hb dX9_isWord_25 (by decide) (fun hc25 => ?_) (fun hc25 => ?_)
      · rw [if_pos hc25] at hf
        refine lv_iconst (v := (1 : Int32)) hx hb dX9_isWord_58 (by decide) ?_
        have hq := Option.some.inj hf
        subst hq
        exact W.zret (v := (1 : Int32)) hx hb hr rfl (fun t ht hW => ⟨rfl, ht⟩) (fun q h => by cases h) dX9_isWord_59
      · rw [if_neg hc25] at hf
        refine lv_aload_n hx hb dX9_isWord_28 rfl (lv_at hl 0 rfl) ?_
        refine va_get (D := (dC, dI)) (ci := 9) (v := .ref h_tape) (C := RX9) (T := TX9) (N := 5) hx hb hts hin9 hown hK hP 0 rfl rfl 0 (by decide) kf10 (fun _ h9 => h9) rfl dX9_isWord_29 ?_
        refine va_get (D := (dC, dI)) (ci := 8) (v := .ref h_tape_bytes) (C := RX8) (T := TX8) (N := 2) hx hb hts hin8 hown hK hP 1 rfl rfl 0 (by decide) kf36 (fun _ h9 => h9) rfl dX9_isWord_32 ?_
        refine lv_aload_n hx hb dX9_isWord_35 rfl (lv_at hl 0 rfl) ?_
        refine va_get (D := (dC, dI)) (ci := 9) (v := .int (M_h 2 0)) (C := RX9) (T := TX9) (N := 5) hx hb hts hin9 hown hK hP 0 rfl rfl 2 (by decide) kf20 (fun _ h9 => h9) rfl dX9_isWord_36 ?_
        refine lv_iload_n hx hb dX9_isWord_39 rfl (lv_at hl 2 rfl) ?_
        refine lv_iadd hx hb dX9_isWord_40 ?_
        have hi41 := if_no hf
        rw [if_neg hi41] at hf
        refine va_bald hx hb hK hP 2 0 rfl rfl hi41 dX9_isWord_41 ?_
        refine lv_aload_n hx hb dX9_isWord_42 rfl (lv_at hl 1 rfl) ?_
        refine lv_iload_n hx hb dX9_isWord_43 rfl (lv_at hl 2 rfl) ?_
        have hi44 := if_no hf
        rw [if_neg hi44] at hf
        refine ro_calli (r := (sch k1 (x2).toNatClampNeg)) (va_runV (C := RJ0) (As := [.int x2]) (rest := [.int (M_h_tape 0 (((M_h 2 0) + x2)).toNatClampNeg)]) ⟨hx, hb, hml, hown, hts⟩ (c_str_charAt l adK adV k1 hk_k1 x2 hi44) (cwV 1 hts gX9_isWord_J0_charAt_5068e rfl rfl rfl (by decide +kernel) ⟨Nat.le_of_ble_eq_true rfl, Nat.le_of_ble_eq_true rfl⟩) ⟨PS.blind, vk_recv hX.1 hk_k1 (va_S.rf (A := fun _ => False)), fun U hU hW => ⟨rfl, hX.at (locs := []) va_S.rf (fun _ h => h) hU hW⟩⟩ rfl rfl hl.1 rfl (lv_room (Nat.le_of_ble_eq_true rfl)) dX9_isWord_44 ⟨Nat.zero_le _, Nat.zero_le _⟩) ?_
        refine lv_icmp_eq (tgt := 52) hx hb dX9_isWord_47 (by decide) (fun hc47 => ?_) (fun hc47 => ?_)
        · rw [if_pos hc47] at hf
          refine lv_iinc (v := (x2 + (1 : Int32))) (lv' := [(2, .int (x2 + (1 : Int32))), (0, .ref h), (1, .ref (adK k1))]) hx hb dX9_isWord_52 hl (k := 2) rfl rfl (by decide) rfl (fun ls hl => ?_)
          refine lv_goto (tgt := 20) hx hb dX9_isWord_55 (by decide) ?_
          exact ih (x2 + (1 : Int32)) ls hf (lv_sub hl [1, 2, 0] rfl)
        · rw [if_neg hc47] at hf
          refine lv_iconst (v := (0 : Int32)) hx hb dX9_isWord_50 (by decide) ?_
          have hq := Option.some.inj hf
          subst hq
          exact W.zret (v := (0 : Int32)) hx hb hr rfl (fun t ht hW => ⟨rfl, ht⟩) (fun q h => by cases h) dX9_isWord_51
  rw [f_X9_isWord] at hf
  refine lv_aload_n hx hb dX9_isWord_0 rfl (lv_at hl 0 rfl) ?_
  refine va_get (D := (dC, dI)) (ci := 9) (v := .int (M_h 3 0)) (C := RX9) (T := TX9) (N := 5) hx hb hts hin9 hown hK hP 0 rfl rfl 3 (by decide) kf23 (fun _ h9 => h9) rfl dX9_isWord_1 ?_
  refine lv_aload_n hx hb dX9_isWord_4 rfl (lv_at hl 0 rfl) ?_
  refine va_get (D := (dC, dI)) (ci := 9) (v := .int (M_h 2 0)) (C := RX9) (T := TX9) (N := 5) hx hb hts hin9 hown hK hP 0 rfl rfl 2 (by decide) kf20 (fun _ h9 => h9) rfl dX9_isWord_5 ?_
  refine lv_isub hx hb dX9_isWord_8 ?_
  refine lv_aload_n hx hb dX9_isWord_9 rfl (lv_at hl 1 rfl) ?_
  refine ro_calli (r := (slen k1)) (va_runV (C := RJ0) (As := []) (rest := [.int ((M_h 3 0) - (M_h 2 0))]) ⟨hx, hb, hml, hown, hts⟩ (c_str_length l adK adV k1 hk_k1) (cwV 0 hts gX9_isWord_J0_length_8abf5 rfl rfl rfl (by decide +kernel) ⟨Nat.le_of_ble_eq_true rfl, Nat.le_of_ble_eq_true rfl⟩) ⟨PS.blind, vk_recv hX.1 hk_k1 (va_S.rf (A := fun _ => False)), fun U hU hW => ⟨rfl, hX.at (locs := []) va_S.rf (fun _ h => h) hU hW⟩⟩ rfl rfl hl.1 rfl (lv_room (Nat.le_of_ble_eq_true rfl)) dX9_isWord_10 ⟨Nat.zero_le _, Nat.zero_le _⟩) ?_
  refine lv_icmp_eq (tgt := 18) hx hb dX9_isWord_13 (by decide) (fun hc13 => ?_) (fun hc13 => ?_)
  · rw [if_pos hc13] at hf
    refine lv_iconst (v := (0 : Int32)) hx hb dX9_isWord_18 (by decide) ?_
    refine lv_istore_n (lv' := [(2, .int (0 : Int32)), (0, .ref h), (1, .ref (adK k1))]) hx hb dX9_isWord_19 rfl hl (by decide) rfl (fun ls hl => ?_)
    exact L20 FU (0 : Int32) ls hf (lv_sub hl [1, 2, 0] rfl)
  · rw [if_neg hc13] at hf
    refine lv_iconst (v := (0 : Int32)) hx hb dX9_isWord_16 (by decide) ?_
    have hq := Option.some.inj hf
    subst hq
    exact W.zret (v := (0 : Int32)) hx hb hr rfl (fun t ht hW => ⟨rfl, ht⟩) (fun q h => by cases h) dX9_isWord_17
set_option maxHeartbeats 4000000 in
set_option maxRecDepth 100000 in
theorem c_X9_wordToken (l : Launch) (dC : Nat → ClassId) (dI : Nat → Nat → Nat) (cyB cyI cyZ cyO : ClassId) (adK adV : Nat → Nat) (h h_tape h_tape_bytes : Nat) (M_h : Mem) (M_h_tape : Mem) (r : Int32) (hf : f_X9_wordToken M_h M_h_tape = some r) : Met l yX9_wordToken wsX9_wordToken ({ frames := 6, cells := 0, slots := 0, locals := 153 } : Room) (PRS dC dI cyB cyI cyZ cyO adK adV ([.ref h] : List Value) ((wX9 cyB cyI cyZ cyO h h_tape M_h) ++ (wX8 cyB cyI cyZ cyO h_tape h_tape_bytes M_h_tape))) (QR (some (.int r))) 0 0 (fun _ => False) := by
  refine Met.ofW (cc := cX9_wordToken) (maxL := 1) (ret := (some .int)) (by decide) rfl ?_
  intro p e s m args below meth c s₁ B hml hv
  obtain ⟨rfl, hP, hCx, hX⟩ := hv
  have hK := hCx.1
  have hN := hCx.2
  have hx := B.exec
  have hb := B.bytes
  have hr := B.returns
  have hts := atoms_spec (ws := wsX9_wordToken) B.pre
  have hown : s.vm.findClass RX9 = some m.cls := findClass_of_methodNamed B.named
  have hlocks := B.notSynchronized
  have hin8 : ∀ w ∈ u_ws RX8 TX8 2, w ∈ wsX9_wordToken := fun w h => List.mem_cons_of_mem _ (List.mem_append_right _ h)
  have hin9 : ∀ w ∈ u_ws RX9 TX9 5, w ∈ wsX9_wordToken := fun w h => List.mem_cons_of_mem _ (List.mem_append_left _ (List.mem_append_right _ h))
  have kf10 := hts (.fieldLink RX9 10 "HoldSlips$TokenReader" "tape" "LHoldSlips$Tape;") (by decide +kernel)
  have kf20 := hts (.fieldLink RX9 20 "HoldSlips$TokenReader" "start" "I") (by decide +kernel)
  have kf36 := hts (.fieldLink RX9 36 "HoldSlips$Tape" "bytes" "[B") (by decide +kernel)
  have hl := lv_entry ([.ref h] : List Value) (n := 1) (Nat.le_of_ble_eq_true rfl)
  rw [lg_entry_eq]
  generalize (lg_sl ([.ref h] : List Value) ++ List.replicate (1 - (lg_sl ([.ref h] : List Value)).length) Slot.unset).toArray = ls at hl ⊢
  have hl : lv_has ls 1 [(0, .ref h)] := hl
  rw [f_X9_wordToken] at hf
  refine lv_aload_n hx hb dX9_wordToken_0 rfl (lv_at hl 0 rfl) ?_
  refine va_get (D := (dC, dI)) (ci := 9) (v := .ref h_tape) (C := RX9) (T := TX9) (N := 5) hx hb hts hin9 hown hK hP 0 rfl rfl 0 (by decide) kf10 (fun _ h9 => h9) rfl dX9_wordToken_1 ?_
  refine va_get (D := (dC, dI)) (ci := 8) (v := .ref h_tape_bytes) (C := RX8) (T := TX8) (N := 2) hx hb hts hin8 hown hK hP 1 rfl rfl 0 (by decide) kf36 (fun _ h9 => h9) rfl dX9_wordToken_4 ?_
  refine lv_aload_n hx hb dX9_wordToken_7 rfl (lv_at hl 0 rfl) ?_
  refine va_get (D := (dC, dI)) (ci := 9) (v := .int (M_h 2 0)) (C := RX9) (T := TX9) (N := 5) hx hb hts hin9 hown hK hP 0 rfl rfl 2 (by decide) kf20 (fun _ h9 => h9) rfl dX9_wordToken_8 ?_
  have hi11 := if_no hf
  rw [if_neg hi11] at hf
  refine va_bald hx hb hK hP 2 0 rfl rfl hi11 dX9_wordToken_11 ?_
  by_cases hs12_0 : (M_h_tape 0 ((M_h 2 0)).toNatClampNeg) = (97 : Int32)
  · rw [if_pos hs12_0] at hf
    refine lv_tableIn (off := 133) (tgt := 145) hx hb dX9_wordToken_12 (by rw [hs12_0]; decide) (by rw [hs12_0]; decide) (by rw [hs12_0]; rfl) (by decide) ?_
    refine lv_aload_n hx hb dX9_wordToken_145 rfl (lv_at hl 0 rfl) ?_
    refine va_ldcS (tx := "and") (q := adK 1) hx hb hown (hX.2.1 1 (by decide)) dX9_wordToken_146 ?_
    obtain ⟨r148, h148, hf⟩ := bd1_some hf
    refine ro_calli (va_runV (As := [.ref (adK 1)]) (rest := []) ⟨hx, hb, hml, hown, hts⟩ (c_X9_isWord l dC dI cyB cyI cyZ cyO adK adV h h_tape h_tape_bytes M_h M_h_tape 1 r148 (by decide) h148) (cwV 1 hts gX9_wordToken_X9_isWord rfl rfl rfl (by decide +kernel) ⟨Nat.le_of_ble_eq_true rfl, Nat.le_of_ble_eq_true rfl⟩) ⟨PRS.blind, va_recv hK hP (ci := 9) (q0 := 0) rfl rfl, fun U hU hW => ⟨rfl, by rw [hU]; exact hP, hCx.warm hW, hX.at (locs := []) va_S.rf (fun _ h => h) hU hW⟩⟩ rfl rfl hl.1 rfl (lv_room (Nat.le_of_ble_eq_true rfl)) dX9_wordToken_148 ⟨Nat.zero_le _, Nat.zero_le _⟩) ?_
    refine lv_if_eq (tgt := 159) hx hb dX9_wordToken_151 (by decide) (fun hc151 => ?_) (fun hc151 => ?_)
    · rw [if_pos hc151] at hf
      refine lv_bipush (v := (13 : Int32)) hx hb dX9_wordToken_159 (by decide) ?_
      have hq := Option.some.inj hf
      subst hq
      exact W.iret (v := (13 : Int32)) hx hb hr (fun t ht hW => ⟨rfl, ht⟩) (fun q h => by cases h) dX9_wordToken_161
    · rw [if_neg hc151] at hf
      refine lv_bipush (v := (10 : Int32)) hx hb dX9_wordToken_154 (by decide) ?_
      refine lv_goto (tgt := 161) hx hb dX9_wordToken_156 (by decide) ?_
      have hq := Option.some.inj hf
      subst hq
      exact W.iret (v := (10 : Int32)) hx hb hr (fun t ht hW => ⟨rfl, ht⟩) (fun q h => by cases h) dX9_wordToken_161
  · rw [if_neg hs12_0] at hf
    by_cases hs12_1 : (M_h_tape 0 ((M_h 2 0)).toNatClampNeg) = (98 : Int32)
    · rw [if_pos hs12_1] at hf
      refine lv_tableIn (off := 288) (tgt := 300) hx hb dX9_wordToken_12 (by rw [hs12_1]; decide) (by rw [hs12_1]; decide) (by rw [hs12_1]; rfl) (by decide) ?_
      refine lv_bipush (v := (13 : Int32)) hx hb dX9_wordToken_300 (by decide) ?_
      have hq := Option.some.inj hf
      subst hq
      exact W.iret (v := (13 : Int32)) hx hb hr (fun t ht hW => ⟨rfl, ht⟩) (fun q h => by cases h) dX9_wordToken_302
    · rw [if_neg hs12_1] at hf
      by_cases hs12_2 : (M_h_tape 0 ((M_h 2 0)).toNatClampNeg) = (99 : Int32)
      · rw [if_pos hs12_2] at hf
        refine lv_tableIn (off := 288) (tgt := 300) hx hb dX9_wordToken_12 (by rw [hs12_2]; decide) (by rw [hs12_2]; decide) (by rw [hs12_2]; rfl) (by decide) ?_
        refine lv_bipush (v := (13 : Int32)) hx hb dX9_wordToken_300 (by decide) ?_
        have hq := Option.some.inj hf
        subst hq
        exact W.iret (v := (13 : Int32)) hx hb hr (fun t ht hW => ⟨rfl, ht⟩) (fun q h => by cases h) dX9_wordToken_302
      · rw [if_neg hs12_2] at hf
        by_cases hs12_3 : (M_h_tape 0 ((M_h 2 0)).toNatClampNeg) = (100 : Int32)
        · rw [if_pos hs12_3] at hf
          refine lv_tableIn (off := 288) (tgt := 300) hx hb dX9_wordToken_12 (by rw [hs12_3]; decide) (by rw [hs12_3]; decide) (by rw [hs12_3]; rfl) (by decide) ?_
          refine lv_bipush (v := (13 : Int32)) hx hb dX9_wordToken_300 (by decide) ?_
          have hq := Option.some.inj hf
          subst hq
          exact W.iret (v := (13 : Int32)) hx hb hr (fun t ht hW => ⟨rfl, ht⟩) (fun q h => by cases h) dX9_wordToken_302
        · rw [if_neg hs12_3] at hf
          by_cases hs12_4 : (M_h_tape 0 ((M_h 2 0)).toNatClampNeg) = (101 : Int32)
          · rw [if_pos hs12_4] at hf
            refine lv_tableIn (off := 288) (tgt := 300) hx hb dX9_wordToken_12 (by rw [hs12_4]; decide) (by rw [hs12_4]; decide) (by rw [hs12_4]; rfl) (by decide) ?_
            refine lv_bipush (v := (13 : Int32)) hx hb dX9_wordToken_300 (by decide) ?_
            have hq := Option.some.inj hf
            subst hq
            exact W.iret (v := (13 : Int32)) hx hb hr (fun t ht hW => ⟨rfl, ht⟩) (fun q h => by cases h) dX9_wordToken_302
          · rw [if_neg hs12_4] at hf
            by_cases hs12_5 : (M_h_tape 0 ((M_h 2 0)).toNatClampNeg) = (102 : Int32)
            · rw [if_pos hs12_5] at hf
              refine lv_tableIn (off := 288) (tgt := 300) hx hb dX9_wordToken_12 (by rw [hs12_5]; decide) (by rw [hs12_5]; decide) (by rw [hs12_5]; rfl) (by decide) ?_
              refine lv_bipush (v := (13 : Int32)) hx hb dX9_wordToken_300 (by decide) ?_
              have hq := Option.some.inj hf
              subst hq
              exact W.iret (v := (13 : Int32)) hx hb hr (fun t ht hW => ⟨rfl, ht⟩) (fun q h => by cases h) dX9_wordToken_302
            · rw [if_neg hs12_5] at hf
              by_cases hs12_6 : (M_h_tape 0 ((M_h 2 0)).toNatClampNeg) = (103 : Int32)
              · rw [if_pos hs12_6] at hf
                refine lv_tableIn (off := 288) (tgt := 300) hx hb dX9_wordToken_12 (by rw [hs12_6]; decide) (by rw [hs12_6]; decide) (by rw [hs12_6]; rfl) (by decide) ?_
                refine lv_bipush (v := (13 : Int32)) hx hb dX9_wordToken_300 (by decide) ?_
                have hq := Option.some.inj hf
                subst hq
                exact W.iret (v := (13 : Int32)) hx hb hr (fun t ht hW => ⟨rfl, ht⟩) (fun q h => by cases h) dX9_wordToken_302
              · rw [if_neg hs12_6] at hf
                by_cases hs12_7 : (M_h_tape 0 ((M_h 2 0)).toNatClampNeg) = (104 : Int32)
                · rw [if_pos hs12_7] at hf
                  refine lv_tableIn (off := 288) (tgt := 300) hx hb dX9_wordToken_12 (by rw [hs12_7]; decide) (by rw [hs12_7]; decide) (by rw [hs12_7]; rfl) (by decide) ?_
                  refine lv_bipush (v := (13 : Int32)) hx hb dX9_wordToken_300 (by decide) ?_
                  have hq := Option.some.inj hf
                  subst hq
                  exact W.iret (v := (13 : Int32)) hx hb hr (fun t ht hW => ⟨rfl, ht⟩) (fun q h => by cases h) dX9_wordToken_302
                · rw [if_neg hs12_7] at hf
                  by_cases hs12_8 : (M_h_tape 0 ((M_h 2 0)).toNatClampNeg) = (105 : Int32)
                  · rw [if_pos hs12_8] at hf
                    refine lv_tableIn (off := 116) (tgt := 128) hx hb dX9_wordToken_12 (by rw [hs12_8]; decide) (by rw [hs12_8]; decide) (by rw [hs12_8]; rfl) (by decide) ?_
                    refine lv_aload_n hx hb dX9_wordToken_128 rfl (lv_at hl 0 rfl) ?_
                    refine va_ldcS (tx := "if") (q := adK 0) hx hb hown (hX.2.1 0 (by decide)) dX9_wordToken_129 ?_
                    obtain ⟨r131, h131, hf⟩ := bd1_some hf
                    refine ro_calli (va_runV (As := [.ref (adK 0)]) (rest := []) ⟨hx, hb, hml, hown, hts⟩ (c_X9_isWord l dC dI cyB cyI cyZ cyO adK adV h h_tape h_tape_bytes M_h M_h_tape 0 r131 (by decide) h131) (cwV 1 hts gX9_wordToken_X9_isWord rfl rfl rfl (by decide +kernel) ⟨Nat.le_of_ble_eq_true rfl, Nat.le_of_ble_eq_true rfl⟩) ⟨PRS.blind, va_recv hK hP (ci := 9) (q0 := 0) rfl rfl, fun U hU hW => ⟨rfl, by rw [hU]; exact hP, hCx.warm hW, hX.at (locs := []) va_S.rf (fun _ h => h) hU hW⟩⟩ rfl rfl hl.1 rfl (lv_room (Nat.le_of_ble_eq_true rfl)) dX9_wordToken_131 ⟨Nat.zero_le _, Nat.zero_le _⟩) ?_
                    refine lv_if_eq (tgt := 142) hx hb dX9_wordToken_134 (by decide) (fun hc134 => ?_) (fun hc134 => ?_)
                    · rw [if_pos hc134] at hf
                      refine lv_bipush (v := (13 : Int32)) hx hb dX9_wordToken_142 (by decide) ?_
                      have hq := Option.some.inj hf
                      subst hq
                      exact W.iret (v := (13 : Int32)) hx hb hr (fun t ht hW => ⟨rfl, ht⟩) (fun q h => by cases h) dX9_wordToken_144
                    · rw [if_neg hc134] at hf
                      refine lv_bipush (v := (9 : Int32)) hx hb dX9_wordToken_137 (by decide) ?_
                      refine lv_goto (tgt := 144) hx hb dX9_wordToken_139 (by decide) ?_
                      have hq := Option.some.inj hf
                      subst hq
                      exact W.iret (v := (9 : Int32)) hx hb hr (fun t ht hW => ⟨rfl, ht⟩) (fun q h => by cases h) dX9_wordToken_144
                  · rw [if_neg hs12_8] at hf
                    by_cases hs12_9 : (M_h_tape 0 ((M_h 2 0)).toNatClampNeg) = (106 : Int32)
                    · rw [if_pos hs12_9] at hf
                      refine lv_tableIn (off := 288) (tgt := 300) hx hb dX9_wordToken_12 (by rw [hs12_9]; decide) (by rw [hs12_9]; decide) (by rw [hs12_9]; rfl) (by decide) ?_
                      refine lv_bipush (v := (13 : Int32)) hx hb dX9_wordToken_300 (by decide) ?_
                      have hq := Option.some.inj hf
                      subst hq
                      exact W.iret (v := (13 : Int32)) hx hb hr (fun t ht hW => ⟨rfl, ht⟩) (fun q h => by cases h) dX9_wordToken_302
                    · rw [if_neg hs12_9] at hf
                      by_cases hs12_10 : (M_h_tape 0 ((M_h 2 0)).toNatClampNeg) = (107 : Int32)
                      · rw [if_pos hs12_10] at hf
                        refine lv_tableIn (off := 288) (tgt := 300) hx hb dX9_wordToken_12 (by rw [hs12_10]; decide) (by rw [hs12_10]; decide) (by rw [hs12_10]; rfl) (by decide) ?_
                        refine lv_bipush (v := (13 : Int32)) hx hb dX9_wordToken_300 (by decide) ?_
                        have hq := Option.some.inj hf
                        subst hq
                        exact W.iret (v := (13 : Int32)) hx hb hr (fun t ht hW => ⟨rfl, ht⟩) (fun q h => by cases h) dX9_wordToken_302
                      · rw [if_neg hs12_10] at hf
                        by_cases hs12_11 : (M_h_tape 0 ((M_h 2 0)).toNatClampNeg) = (108 : Int32)
                        · rw [if_pos hs12_11] at hf
                          refine lv_tableIn (off := 198) (tgt := 210) hx hb dX9_wordToken_12 (by rw [hs12_11]; decide) (by rw [hs12_11]; decide) (by rw [hs12_11]; rfl) (by decide) ?_
                          refine lv_aload_n hx hb dX9_wordToken_210 rfl (lv_at hl 0 rfl) ?_
                          refine va_ldcS (tx := "lost") (q := adK 5) hx hb hown (hX.2.1 5 (by decide)) dX9_wordToken_211 ?_
                          obtain ⟨r213, h213, hf⟩ := bd1_some hf
                          refine ro_calli (va_runV (As := [.ref (adK 5)]) (rest := []) ⟨hx, hb, hml, hown, hts⟩ (c_X9_isWord l dC dI cyB cyI cyZ cyO adK adV h h_tape h_tape_bytes M_h M_h_tape 5 r213 (by decide) h213) (cwV 1 hts gX9_wordToken_X9_isWord rfl rfl rfl (by decide +kernel) ⟨Nat.le_of_ble_eq_true rfl, Nat.le_of_ble_eq_true rfl⟩) ⟨PRS.blind, va_recv hK hP (ci := 9) (q0 := 0) rfl rfl, fun U hU hW => ⟨rfl, by rw [hU]; exact hP, hCx.warm hW, hX.at (locs := []) va_S.rf (fun _ h => h) hU hW⟩⟩ rfl rfl hl.1 rfl (lv_room (Nat.le_of_ble_eq_true rfl)) dX9_wordToken_213 ⟨Nat.zero_le _, Nat.zero_le _⟩) ?_
                          refine lv_if_eq (tgt := 223) hx hb dX9_wordToken_216 (by decide) (fun hc216 => ?_) (fun hc216 => ?_)
                          · rw [if_pos hc216] at hf
                            refine lv_bipush (v := (13 : Int32)) hx hb dX9_wordToken_223 (by decide) ?_
                            have hq := Option.some.inj hf
                            subst hq
                            exact W.iret (v := (13 : Int32)) hx hb hr (fun t ht hW => ⟨rfl, ht⟩) (fun q h => by cases h) dX9_wordToken_225
                          · rw [if_neg hc216] at hf
                            refine lv_iconst (v := (5 : Int32)) hx hb dX9_wordToken_219 (by decide) ?_
                            refine lv_goto (tgt := 225) hx hb dX9_wordToken_220 (by decide) ?_
                            have hq := Option.some.inj hf
                            subst hq
                            exact W.iret (v := (5 : Int32)) hx hb hr (fun t ht hW => ⟨rfl, ht⟩) (fun q h => by cases h) dX9_wordToken_225
                        · rw [if_neg hs12_11] at hf
                          by_cases hs12_12 : (M_h_tape 0 ((M_h 2 0)).toNatClampNeg) = (109 : Int32)
                          · rw [if_pos hs12_12] at hf
                            refine lv_tableIn (off := 288) (tgt := 300) hx hb dX9_wordToken_12 (by rw [hs12_12]; decide) (by rw [hs12_12]; decide) (by rw [hs12_12]; rfl) (by decide) ?_
                            refine lv_bipush (v := (13 : Int32)) hx hb dX9_wordToken_300 (by decide) ?_
                            have hq := Option.some.inj hf
                            subst hq
                            exact W.iret (v := (13 : Int32)) hx hb hr (fun t ht hW => ⟨rfl, ht⟩) (fun q h => by cases h) dX9_wordToken_302
                          · rw [if_neg hs12_12] at hf
                            by_cases hs12_13 : (M_h_tape 0 ((M_h 2 0)).toNatClampNeg) = (110 : Int32)
                            · rw [if_pos hs12_13] at hf
                              refine lv_tableIn (off := 231) (tgt := 243) hx hb dX9_wordToken_12 (by rw [hs12_13]; decide) (by rw [hs12_13]; decide) (by rw [hs12_13]; rfl) (by decide) ?_
                              refine lv_aload_n hx hb dX9_wordToken_243 rfl (lv_at hl 0 rfl) ?_
                              refine va_ldcS (tx := "not") (q := adK 7) hx hb hown (hX.2.1 7 (by decide)) dX9_wordToken_244 ?_
                              obtain ⟨r246, h246, hf⟩ := bd1_some hf
                              refine ro_calli (va_runV (As := [.ref (adK 7)]) (rest := []) ⟨hx, hb, hml, hown, hts⟩ (c_X9_isWord l dC dI cyB cyI cyZ cyO adK adV h h_tape h_tape_bytes M_h M_h_tape 7 r246 (by decide) h246) (cwV 1 hts gX9_wordToken_X9_isWord rfl rfl rfl (by decide +kernel) ⟨Nat.le_of_ble_eq_true rfl, Nat.le_of_ble_eq_true rfl⟩) ⟨PRS.blind, va_recv hK hP (ci := 9) (q0 := 0) rfl rfl, fun U hU hW => ⟨rfl, by rw [hU]; exact hP, hCx.warm hW, hX.at (locs := []) va_S.rf (fun _ h => h) hU hW⟩⟩ rfl rfl hl.1 rfl (lv_room (Nat.le_of_ble_eq_true rfl)) dX9_wordToken_246 ⟨Nat.zero_le _, Nat.zero_le _⟩) ?_
                              refine lv_if_eq (tgt := 255) hx hb dX9_wordToken_249 (by decide) (fun hc249 => ?_) (fun hc249 => ?_)
                              · rw [if_pos hc249] at hf
                                refine lv_aload_n hx hb dX9_wordToken_255 rfl (lv_at hl 0 rfl) ?_
                                refine va_ldcS (tx := "none") (q := adK 8) hx hb hown (hX.2.1 8 (by decide)) dX9_wordToken_256 ?_
                                obtain ⟨r258, h258, hf⟩ := bd1_some hf
                                refine ro_calli (va_runV (As := [.ref (adK 8)]) (rest := []) ⟨hx, hb, hml, hown, hts⟩ (c_X9_isWord l dC dI cyB cyI cyZ cyO adK adV h h_tape h_tape_bytes M_h M_h_tape 8 r258 (by decide) h258) (cwV 1 hts gX9_wordToken_X9_isWord rfl rfl rfl (by decide +kernel) ⟨Nat.le_of_ble_eq_true rfl, Nat.le_of_ble_eq_true rfl⟩) ⟨PRS.blind, va_recv hK hP (ci := 9) (q0 := 0) rfl rfl, fun U hU hW => ⟨rfl, by rw [hU]; exact hP, hCx.warm hW, hX.at (locs := []) va_S.rf (fun _ h => h) hU hW⟩⟩ rfl rfl hl.1 rfl (lv_room (Nat.le_of_ble_eq_true rfl)) dX9_wordToken_258 ⟨Nat.zero_le _, Nat.zero_le _⟩) ?_
                                refine lv_if_eq (tgt := 269) hx hb dX9_wordToken_261 (by decide) (fun hc261 => ?_) (fun hc261 => ?_)
                                · rw [if_pos hc261] at hf
                                  refine lv_bipush (v := (13 : Int32)) hx hb dX9_wordToken_269 (by decide) ?_
                                  have hq := Option.some.inj hf
                                  subst hq
                                  exact W.iret (v := (13 : Int32)) hx hb hr (fun t ht hW => ⟨rfl, ht⟩) (fun q h => by cases h) dX9_wordToken_271
                                · rw [if_neg hc261] at hf
                                  refine lv_bipush (v := (8 : Int32)) hx hb dX9_wordToken_264 (by decide) ?_
                                  refine lv_goto (tgt := 271) hx hb dX9_wordToken_266 (by decide) ?_
                                  have hq := Option.some.inj hf
                                  subst hq
                                  exact W.iret (v := (8 : Int32)) hx hb hr (fun t ht hW => ⟨rfl, ht⟩) (fun q h => by cases h) dX9_wordToken_271
                              · rw [if_neg hc249] at hf
                                refine lv_bipush (v := (11 : Int32)) hx hb dX9_wordToken_252 (by decide) ?_
                                have hq := Option.some.inj hf
                                subst hq
                                exact W.iret (v := (11 : Int32)) hx hb hr (fun t ht hW => ⟨rfl, ht⟩) (fun q h => by cases h) dX9_wordToken_254
                            · rw [if_neg hs12_13] at hf
                              by_cases hs12_14 : (M_h_tape 0 ((M_h 2 0)).toNatClampNeg) = (111 : Int32)
                              · rw [if_pos hs12_14] at hf
                                refine lv_tableIn (off := 288) (tgt := 300) hx hb dX9_wordToken_12 (by rw [hs12_14]; decide) (by rw [hs12_14]; decide) (by rw [hs12_14]; rfl) (by decide) ?_
                                refine lv_bipush (v := (13 : Int32)) hx hb dX9_wordToken_300 (by decide) ?_
                                have hq := Option.some.inj hf
                                subst hq
                                exact W.iret (v := (13 : Int32)) hx hb hr (fun t ht hW => ⟨rfl, ht⟩) (fun q h => by cases h) dX9_wordToken_302
                              · rw [if_neg hs12_14] at hf
                                by_cases hs12_15 : (M_h_tape 0 ((M_h 2 0)).toNatClampNeg) = (112 : Int32)
                                · rw [if_pos hs12_15] at hf
                                  refine lv_tableIn (off := 214) (tgt := 226) hx hb dX9_wordToken_12 (by rw [hs12_15]; decide) (by rw [hs12_15]; decide) (by rw [hs12_15]; rfl) (by decide) ?_
                                  refine lv_aload_n hx hb dX9_wordToken_226 rfl (lv_at hl 0 rfl) ?_
                                  refine va_ldcS (tx := "plus") (q := adK 6) hx hb hown (hX.2.1 6 (by decide)) dX9_wordToken_227 ?_
                                  obtain ⟨r229, h229, hf⟩ := bd1_some hf
                                  refine ro_calli (va_runV (As := [.ref (adK 6)]) (rest := []) ⟨hx, hb, hml, hown, hts⟩ (c_X9_isWord l dC dI cyB cyI cyZ cyO adK adV h h_tape h_tape_bytes M_h M_h_tape 6 r229 (by decide) h229) (cwV 1 hts gX9_wordToken_X9_isWord rfl rfl rfl (by decide +kernel) ⟨Nat.le_of_ble_eq_true rfl, Nat.le_of_ble_eq_true rfl⟩) ⟨PRS.blind, va_recv hK hP (ci := 9) (q0 := 0) rfl rfl, fun U hU hW => ⟨rfl, by rw [hU]; exact hP, hCx.warm hW, hX.at (locs := []) va_S.rf (fun _ h => h) hU hW⟩⟩ rfl rfl hl.1 rfl (lv_room (Nat.le_of_ble_eq_true rfl)) dX9_wordToken_229 ⟨Nat.zero_le _, Nat.zero_le _⟩) ?_
                                  refine lv_if_eq (tgt := 240) hx hb dX9_wordToken_232 (by decide) (fun hc232 => ?_) (fun hc232 => ?_)
                                  · rw [if_pos hc232] at hf
                                    refine lv_bipush (v := (13 : Int32)) hx hb dX9_wordToken_240 (by decide) ?_
                                    have hq := Option.some.inj hf
                                    subst hq
                                    exact W.iret (v := (13 : Int32)) hx hb hr (fun t ht hW => ⟨rfl, ht⟩) (fun q h => by cases h) dX9_wordToken_242
                                  · rw [if_neg hc232] at hf
                                    refine lv_bipush (v := (7 : Int32)) hx hb dX9_wordToken_235 (by decide) ?_
                                    refine lv_goto (tgt := 242) hx hb dX9_wordToken_237 (by decide) ?_
                                    have hq := Option.some.inj hf
                                    subst hq
                                    exact W.iret (v := (7 : Int32)) hx hb hr (fun t ht hW => ⟨rfl, ht⟩) (fun q h => by cases h) dX9_wordToken_242
                                · rw [if_neg hs12_15] at hf
                                  by_cases hs12_16 : (M_h_tape 0 ((M_h 2 0)).toNatClampNeg) = (113 : Int32)
                                  · rw [if_pos hs12_16] at hf
                                    refine lv_tableIn (off := 288) (tgt := 300) hx hb dX9_wordToken_12 (by rw [hs12_16]; decide) (by rw [hs12_16]; decide) (by rw [hs12_16]; rfl) (by decide) ?_
                                    refine lv_bipush (v := (13 : Int32)) hx hb dX9_wordToken_300 (by decide) ?_
                                    have hq := Option.some.inj hf
                                    subst hq
                                    exact W.iret (v := (13 : Int32)) hx hb hr (fun t ht hW => ⟨rfl, ht⟩) (fun q h => by cases h) dX9_wordToken_302
                                  · rw [if_neg hs12_16] at hf
                                    by_cases hs12_17 : (M_h_tape 0 ((M_h 2 0)).toNatClampNeg) = (114 : Int32)
                                    · rw [if_pos hs12_17] at hf
                                      refine lv_tableIn (off := 166) (tgt := 178) hx hb dX9_wordToken_12 (by rw [hs12_17]; decide) (by rw [hs12_17]; decide) (by rw [hs12_17]; rfl) (by decide) ?_
                                      refine lv_aload_n hx hb dX9_wordToken_178 rfl (lv_at hl 0 rfl) ?_
                                      refine va_ldcS (tx := "rank") (q := adK 3) hx hb hown (hX.2.1 3 (by decide)) dX9_wordToken_179 ?_
                                      obtain ⟨r181, h181, hf⟩ := bd1_some hf
                                      refine ro_calli (va_runV (As := [.ref (adK 3)]) (rest := []) ⟨hx, hb, hml, hown, hts⟩ (c_X9_isWord l dC dI cyB cyI cyZ cyO adK adV h h_tape h_tape_bytes M_h M_h_tape 3 r181 (by decide) h181) (cwV 1 hts gX9_wordToken_X9_isWord rfl rfl rfl (by decide +kernel) ⟨Nat.le_of_ble_eq_true rfl, Nat.le_of_ble_eq_true rfl⟩) ⟨PRS.blind, va_recv hK hP (ci := 9) (q0 := 0) rfl rfl, fun U hU hW => ⟨rfl, by rw [hU]; exact hP, hCx.warm hW, hX.at (locs := []) va_S.rf (fun _ h => h) hU hW⟩⟩ rfl rfl hl.1 rfl (lv_room (Nat.le_of_ble_eq_true rfl)) dX9_wordToken_181 ⟨Nat.zero_le _, Nat.zero_le _⟩) ?_
                                      refine lv_if_eq (tgt := 191) hx hb dX9_wordToken_184 (by decide) (fun hc184 => ?_) (fun hc184 => ?_)
                                      · rw [if_pos hc184] at hf
                                        refine lv_bipush (v := (13 : Int32)) hx hb dX9_wordToken_191 (by decide) ?_
                                        have hq := Option.some.inj hf
                                        subst hq
                                        exact W.iret (v := (13 : Int32)) hx hb hr (fun t ht hW => ⟨rfl, ht⟩) (fun q h => by cases h) dX9_wordToken_193
                                      · rw [if_neg hc184] at hf
                                        refine lv_iconst (v := (2 : Int32)) hx hb dX9_wordToken_187 (by decide) ?_
                                        refine lv_goto (tgt := 193) hx hb dX9_wordToken_188 (by decide) ?_
                                        have hq := Option.some.inj hf
                                        subst hq
                                        exact W.iret (v := (2 : Int32)) hx hb hr (fun t ht hW => ⟨rfl, ht⟩) (fun q h => by cases h) dX9_wordToken_193
                                    · rw [if_neg hs12_17] at hf
                                      by_cases hs12_18 : (M_h_tape 0 ((M_h 2 0)).toNatClampNeg) = (115 : Int32)
                                      · rw [if_pos hs12_18] at hf
                                        refine lv_tableIn (off := 260) (tgt := 272) hx hb dX9_wordToken_12 (by rw [hs12_18]; decide) (by rw [hs12_18]; decide) (by rw [hs12_18]; rfl) (by decide) ?_
                                        refine lv_aload_n hx hb dX9_wordToken_272 rfl (lv_at hl 0 rfl) ?_
                                        refine va_ldcS (tx := "slips") (q := adK 9) hx hb hown (hX.2.1 9 (by decide)) dX9_wordToken_273 ?_
                                        obtain ⟨r275, h275, hf⟩ := bd1_some hf
                                        refine ro_calli (va_runV (As := [.ref (adK 9)]) (rest := []) ⟨hx, hb, hml, hown, hts⟩ (c_X9_isWord l dC dI cyB cyI cyZ cyO adK adV h h_tape h_tape_bytes M_h M_h_tape 9 r275 (by decide) h275) (cwV 1 hts gX9_wordToken_X9_isWord rfl rfl rfl (by decide +kernel) ⟨Nat.le_of_ble_eq_true rfl, Nat.le_of_ble_eq_true rfl⟩) ⟨PRS.blind, va_recv hK hP (ci := 9) (q0 := 0) rfl rfl, fun U hU hW => ⟨rfl, by rw [hU]; exact hP, hCx.warm hW, hX.at (locs := []) va_S.rf (fun _ h => h) hU hW⟩⟩ rfl rfl hl.1 rfl (lv_room (Nat.le_of_ble_eq_true rfl)) dX9_wordToken_275 ⟨Nat.zero_le _, Nat.zero_le _⟩) ?_
                                        refine lv_if_eq (tgt := 283) hx hb dX9_wordToken_278 (by decide) (fun hc278 => ?_) (fun hc278 => ?_)
                                        · rw [if_pos hc278] at hf
                                          refine lv_aload_n hx hb dX9_wordToken_283 rfl (lv_at hl 0 rfl) ?_
                                          refine va_ldcS (tx := "share") (q := adK 10) hx hb hown (hX.2.1 10 (by decide)) dX9_wordToken_284 ?_
                                          obtain ⟨r286, h286, hf⟩ := bd1_some hf
                                          refine ro_calli (va_runV (As := [.ref (adK 10)]) (rest := []) ⟨hx, hb, hml, hown, hts⟩ (c_X9_isWord l dC dI cyB cyI cyZ cyO adK adV h h_tape h_tape_bytes M_h M_h_tape 10 r286 (by decide) h286) (cwV 1 hts gX9_wordToken_X9_isWord rfl rfl rfl (by decide +kernel) ⟨Nat.le_of_ble_eq_true rfl, Nat.le_of_ble_eq_true rfl⟩) ⟨PRS.blind, va_recv hK hP (ci := 9) (q0 := 0) rfl rfl, fun U hU hW => ⟨rfl, by rw [hU]; exact hP, hCx.warm hW, hX.at (locs := []) va_S.rf (fun _ h => h) hU hW⟩⟩ rfl rfl hl.1 rfl (lv_room (Nat.le_of_ble_eq_true rfl)) dX9_wordToken_286 ⟨Nat.zero_le _, Nat.zero_le _⟩) ?_
                                          refine lv_if_eq (tgt := 297) hx hb dX9_wordToken_289 (by decide) (fun hc289 => ?_) (fun hc289 => ?_)
                                          · rw [if_pos hc289] at hf
                                            refine lv_bipush (v := (13 : Int32)) hx hb dX9_wordToken_297 (by decide) ?_
                                            have hq := Option.some.inj hf
                                            subst hq
                                            exact W.iret (v := (13 : Int32)) hx hb hr (fun t ht hW => ⟨rfl, ht⟩) (fun q h => by cases h) dX9_wordToken_299
                                          · rw [if_neg hc289] at hf
                                            refine lv_bipush (v := (6 : Int32)) hx hb dX9_wordToken_292 (by decide) ?_
                                            refine lv_goto (tgt := 299) hx hb dX9_wordToken_294 (by decide) ?_
                                            have hq := Option.some.inj hf
                                            subst hq
                                            exact W.iret (v := (6 : Int32)) hx hb hr (fun t ht hW => ⟨rfl, ht⟩) (fun q h => by cases h) dX9_wordToken_299
                                        · rw [if_neg hc278] at hf
                                          refine lv_iconst (v := (4 : Int32)) hx hb dX9_wordToken_281 (by decide) ?_
                                          have hq := Option.some.inj hf
                                          subst hq
                                          exact W.iret (v := (4 : Int32)) hx hb hr (fun t ht hW => ⟨rfl, ht⟩) (fun q h => by cases h) dX9_wordToken_282
                                      · rw [if_neg hs12_18] at hf
                                        by_cases hs12_19 : (M_h_tape 0 ((M_h 2 0)).toNatClampNeg) = (116 : Int32)
                                        · rw [if_pos hs12_19] at hf
                                          refine lv_tableIn (off := 288) (tgt := 300) hx hb dX9_wordToken_12 (by rw [hs12_19]; decide) (by rw [hs12_19]; decide) (by rw [hs12_19]; rfl) (by decide) ?_
                                          refine lv_bipush (v := (13 : Int32)) hx hb dX9_wordToken_300 (by decide) ?_
                                          have hq := Option.some.inj hf
                                          subst hq
                                          exact W.iret (v := (13 : Int32)) hx hb hr (fun t ht hW => ⟨rfl, ht⟩) (fun q h => by cases h) dX9_wordToken_302
                                        · rw [if_neg hs12_19] at hf
                                          by_cases hs12_20 : (M_h_tape 0 ((M_h 2 0)).toNatClampNeg) = (117 : Int32)
                                          · rw [if_pos hs12_20] at hf
                                            refine lv_tableIn (off := 288) (tgt := 300) hx hb dX9_wordToken_12 (by rw [hs12_20]; decide) (by rw [hs12_20]; decide) (by rw [hs12_20]; rfl) (by decide) ?_
                                            refine lv_bipush (v := (13 : Int32)) hx hb dX9_wordToken_300 (by decide) ?_
                                            have hq := Option.some.inj hf
                                            subst hq
                                            exact W.iret (v := (13 : Int32)) hx hb hr (fun t ht hW => ⟨rfl, ht⟩) (fun q h => by cases h) dX9_wordToken_302
                                          · rw [if_neg hs12_20] at hf
                                            by_cases hs12_21 : (M_h_tape 0 ((M_h 2 0)).toNatClampNeg) = (118 : Int32)
                                            · rw [if_pos hs12_21] at hf
                                              refine lv_tableIn (off := 288) (tgt := 300) hx hb dX9_wordToken_12 (by rw [hs12_21]; decide) (by rw [hs12_21]; decide) (by rw [hs12_21]; rfl) (by decide) ?_
                                              refine lv_bipush (v := (13 : Int32)) hx hb dX9_wordToken_300 (by decide) ?_
                                              have hq := Option.some.inj hf
                                              subst hq
                                              exact W.iret (v := (13 : Int32)) hx hb hr (fun t ht hW => ⟨rfl, ht⟩) (fun q h => by cases h) dX9_wordToken_302
                                            · rw [if_neg hs12_21] at hf
                                              by_cases hs12_22 : (M_h_tape 0 ((M_h 2 0)).toNatClampNeg) = (119 : Int32)
                                              · rw [if_pos hs12_22] at hf
                                                refine lv_tableIn (off := 150) (tgt := 162) hx hb dX9_wordToken_12 (by rw [hs12_22]; decide) (by rw [hs12_22]; decide) (by rw [hs12_22]; rfl) (by decide) ?_
                                                refine lv_aload_n hx hb dX9_wordToken_162 rfl (lv_at hl 0 rfl) ?_
                                                refine va_ldcS (tx := "widow") (q := adK 2) hx hb hown (hX.2.1 2 (by decide)) dX9_wordToken_163 ?_
                                                obtain ⟨r165, h165, hf⟩ := bd1_some hf
                                                refine ro_calli (va_runV (As := [.ref (adK 2)]) (rest := []) ⟨hx, hb, hml, hown, hts⟩ (c_X9_isWord l dC dI cyB cyI cyZ cyO adK adV h h_tape h_tape_bytes M_h M_h_tape 2 r165 (by decide) h165) (cwV 1 hts gX9_wordToken_X9_isWord rfl rfl rfl (by decide +kernel) ⟨Nat.le_of_ble_eq_true rfl, Nat.le_of_ble_eq_true rfl⟩) ⟨PRS.blind, va_recv hK hP (ci := 9) (q0 := 0) rfl rfl, fun U hU hW => ⟨rfl, by rw [hU]; exact hP, hCx.warm hW, hX.at (locs := []) va_S.rf (fun _ h => h) hU hW⟩⟩ rfl rfl hl.1 rfl (lv_room (Nat.le_of_ble_eq_true rfl)) dX9_wordToken_165 ⟨Nat.zero_le _, Nat.zero_le _⟩) ?_
                                                refine lv_if_eq (tgt := 175) hx hb dX9_wordToken_168 (by decide) (fun hc168 => ?_) (fun hc168 => ?_)
                                                · rw [if_pos hc168] at hf
                                                  refine lv_bipush (v := (13 : Int32)) hx hb dX9_wordToken_175 (by decide) ?_
                                                  have hq := Option.some.inj hf
                                                  subst hq
                                                  exact W.iret (v := (13 : Int32)) hx hb hr (fun t ht hW => ⟨rfl, ht⟩) (fun q h => by cases h) dX9_wordToken_177
                                                · rw [if_neg hc168] at hf
                                                  refine lv_iconst (v := (1 : Int32)) hx hb dX9_wordToken_171 (by decide) ?_
                                                  refine lv_goto (tgt := 177) hx hb dX9_wordToken_172 (by decide) ?_
                                                  have hq := Option.some.inj hf
                                                  subst hq
                                                  exact W.iret (v := (1 : Int32)) hx hb hr (fun t ht hW => ⟨rfl, ht⟩) (fun q h => by cases h) dX9_wordToken_177
                                              · rw [if_neg hs12_22] at hf
                                                by_cases hs12_23 : (M_h_tape 0 ((M_h 2 0)).toNatClampNeg) = (120 : Int32)
                                                · rw [if_pos hs12_23] at hf
                                                  refine lv_tableIn (off := 288) (tgt := 300) hx hb dX9_wordToken_12 (by rw [hs12_23]; decide) (by rw [hs12_23]; decide) (by rw [hs12_23]; rfl) (by decide) ?_
                                                  refine lv_bipush (v := (13 : Int32)) hx hb dX9_wordToken_300 (by decide) ?_
                                                  have hq := Option.some.inj hf
                                                  subst hq
                                                  exact W.iret (v := (13 : Int32)) hx hb hr (fun t ht hW => ⟨rfl, ht⟩) (fun q h => by cases h) dX9_wordToken_302
                                                · rw [if_neg hs12_23] at hf
                                                  by_cases hs12_24 : (M_h_tape 0 ((M_h 2 0)).toNatClampNeg) = (121 : Int32)
                                                  · rw [if_pos hs12_24] at hf
                                                    refine lv_tableIn (off := 182) (tgt := 194) hx hb dX9_wordToken_12 (by rw [hs12_24]; decide) (by rw [hs12_24]; decide) (by rw [hs12_24]; rfl) (by decide) ?_
                                                    refine lv_aload_n hx hb dX9_wordToken_194 rfl (lv_at hl 0 rfl) ?_
                                                    refine va_ldcS (tx := "year") (q := adK 4) hx hb hown (hX.2.1 4 (by decide)) dX9_wordToken_195 ?_
                                                    obtain ⟨r197, h197, hf⟩ := bd1_some hf
                                                    refine ro_calli (va_runV (As := [.ref (adK 4)]) (rest := []) ⟨hx, hb, hml, hown, hts⟩ (c_X9_isWord l dC dI cyB cyI cyZ cyO adK adV h h_tape h_tape_bytes M_h M_h_tape 4 r197 (by decide) h197) (cwV 1 hts gX9_wordToken_X9_isWord rfl rfl rfl (by decide +kernel) ⟨Nat.le_of_ble_eq_true rfl, Nat.le_of_ble_eq_true rfl⟩) ⟨PRS.blind, va_recv hK hP (ci := 9) (q0 := 0) rfl rfl, fun U hU hW => ⟨rfl, by rw [hU]; exact hP, hCx.warm hW, hX.at (locs := []) va_S.rf (fun _ h => h) hU hW⟩⟩ rfl rfl hl.1 rfl (lv_room (Nat.le_of_ble_eq_true rfl)) dX9_wordToken_197 ⟨Nat.zero_le _, Nat.zero_le _⟩) ?_
                                                    refine lv_if_eq (tgt := 207) hx hb dX9_wordToken_200 (by decide) (fun hc200 => ?_) (fun hc200 => ?_)
                                                    · rw [if_pos hc200] at hf
                                                      refine lv_bipush (v := (13 : Int32)) hx hb dX9_wordToken_207 (by decide) ?_
                                                      have hq := Option.some.inj hf
                                                      subst hq
                                                      exact W.iret (v := (13 : Int32)) hx hb hr (fun t ht hW => ⟨rfl, ht⟩) (fun q h => by cases h) dX9_wordToken_209
                                                    · rw [if_neg hc200] at hf
                                                      refine lv_iconst (v := (3 : Int32)) hx hb dX9_wordToken_203 (by decide) ?_
                                                      refine lv_goto (tgt := 209) hx hb dX9_wordToken_204 (by decide) ?_
                                                      have hq := Option.some.inj hf
                                                      subst hq
                                                      exact W.iret (v := (3 : Int32)) hx hb hr (fun t ht hW => ⟨rfl, ht⟩) (fun q h => by cases h) dX9_wordToken_209
                                                  · rw [if_neg hs12_24] at hf
                                                    refine lv_tableOut (tgt := 300) hx hb dX9_wordToken_12 (by have z0 := lv_neT hs12_0 (show (97 : Int32).toInt = 97 by decide); have z1 := lv_neT hs12_1 (show (98 : Int32).toInt = 98 by decide); have z2 := lv_neT hs12_2 (show (99 : Int32).toInt = 99 by decide); have z3 := lv_neT hs12_3 (show (100 : Int32).toInt = 100 by decide); have z4 := lv_neT hs12_4 (show (101 : Int32).toInt = 101 by decide); have z5 := lv_neT hs12_5 (show (102 : Int32).toInt = 102 by decide); have z6 := lv_neT hs12_6 (show (103 : Int32).toInt = 103 by decide); have z7 := lv_neT hs12_7 (show (104 : Int32).toInt = 104 by decide); have z8 := lv_neT hs12_8 (show (105 : Int32).toInt = 105 by decide); have z9 := lv_neT hs12_9 (show (106 : Int32).toInt = 106 by decide); have z10 := lv_neT hs12_10 (show (107 : Int32).toInt = 107 by decide); have z11 := lv_neT hs12_11 (show (108 : Int32).toInt = 108 by decide); have z12 := lv_neT hs12_12 (show (109 : Int32).toInt = 109 by decide); have z13 := lv_neT hs12_13 (show (110 : Int32).toInt = 110 by decide); have z14 := lv_neT hs12_14 (show (111 : Int32).toInt = 111 by decide); have z15 := lv_neT hs12_15 (show (112 : Int32).toInt = 112 by decide); have z16 := lv_neT hs12_16 (show (113 : Int32).toInt = 113 by decide); have z17 := lv_neT hs12_17 (show (114 : Int32).toInt = 114 by decide); have z18 := lv_neT hs12_18 (show (115 : Int32).toInt = 115 by decide); have z19 := lv_neT hs12_19 (show (116 : Int32).toInt = 116 by decide); have z20 := lv_neT hs12_20 (show (117 : Int32).toInt = 117 by decide); have z21 := lv_neT hs12_21 (show (118 : Int32).toInt = 118 by decide); have z22 := lv_neT hs12_22 (show (119 : Int32).toInt = 119 by decide); have z23 := lv_neT hs12_23 (show (120 : Int32).toInt = 120 by decide); have z24 := lv_neT hs12_24 (show (121 : Int32).toInt = 121 by decide); omega) (by decide) ?_
                                                    refine lv_bipush (v := (13 : Int32)) hx hb dX9_wordToken_300 (by decide) ?_
                                                    have hq := Option.some.inj hf
                                                    subst hq
                                                    exact W.iret (v := (13 : Int32)) hx hb hr (fun t ht hW => ⟨rfl, ht⟩) (fun q h => by cases h) dX9_wordToken_302
set_option maxHeartbeats 4000000 in
set_option maxRecDepth 100000 in
theorem c_X9_stepWord (l : Launch) (dC : Nat → ClassId) (dI : Nat → Nat → Nat) (cyB cyI cyZ cyO : ClassId) (adK adV : Nat → Nat) (h h_tape h_tape_bytes : Nat) (sz : Nat) (M_h : Mem) (M_h_tape : Mem) (R_h : Mem) (hf : f_X9_stepWord M_h M_h_tape = some R_h) : Met l yX9_stepWord wsX9_stepWord ({ frames := 7, cells := 0, slots := 0, locals := 173 } : Room) (PWS dC dI cyB cyI cyZ cyO adK adV ([.ref h] : List Value) ((wX9 cyB cyI cyZ cyO h h_tape M_h) ++ (wX8 cyB cyI cyZ cyO h_tape h_tape_bytes M_h_tape)) sz) (QW dC dI none ((wX9 cyB cyI cyZ cyO h h_tape R_h) ++ (wX8 cyB cyI cyZ cyO h_tape h_tape_bytes M_h_tape)) (va_A ((wX9 cyB cyI cyZ cyO h h_tape M_h) ++ (wX8 cyB cyI cyZ cyO h_tape h_tape_bytes M_h_tape)) sz)) 0 0 (va_A ((wX9 cyB cyI cyZ cyO h h_tape M_h) ++ (wX8 cyB cyI cyZ cyO h_tape h_tape_bytes M_h_tape)) sz) := by
  refine Met.ofW (cc := cX9_stepWord) (maxL := 1) (ret := none) (by decide) rfl ?_
  intro p e s m args below meth c s₁ B hml hv
  obtain ⟨rfl, hsz, hP, hCx, hD0, hX⟩ := hv
  have hK := hCx.1
  have hN := hCx.2
  have hx := B.exec
  have hb := B.bytes
  have hr := B.returns
  have hts := atoms_spec (ws := wsX9_stepWord) B.pre
  have hown : s.vm.findClass RX9 = some m.cls := findClass_of_methodNamed B.named
  have hlocks := B.notSynchronized
  have hin8 : ∀ w ∈ u_ws RX8 TX8 2, w ∈ wsX9_stepWord := fun w h => List.mem_cons_of_mem _ (List.mem_append_right _ h)
  have hin9 : ∀ w ∈ u_ws RX9 TX9 5, w ∈ wsX9_stepWord := fun w h => List.mem_cons_of_mem _ (List.mem_append_left _ (List.mem_append_right _ h))
  have kf10 := hts (.fieldLink RX9 10 "HoldSlips$TokenReader" "tape" "LHoldSlips$Tape;") (by decide +kernel)
  have kf16 := hts (.fieldLink RX9 16 "HoldSlips$TokenReader" "token" "I") (by decide +kernel)
  have kf23 := hts (.fieldLink RX9 23 "HoldSlips$TokenReader" "next" "I") (by decide +kernel)
  have kf33 := hts (.fieldLink RX9 33 "HoldSlips$Tape" "length" "I") (by decide +kernel)
  have kf36 := hts (.fieldLink RX9 36 "HoldSlips$Tape" "bytes" "[B") (by decide +kernel)
  subst hsz
  have hD := hD0.self (sz := s.heap.size)
  generalize hAe : va_A ((wX9 cyB cyI cyZ cyO h h_tape M_h) ++ (wX8 cyB cyI cyZ cyO h_tape h_tape_bytes M_h_tape)) s.heap.size = A at hD hX ⊢
  have hA : ∀ q : Nat, s.heap.size ≤ q → A q := fun q h => by rw [← hAe]; exact Or.inr h
  have hS : va_S A s.heap s.heap [] := va_S.rf
  have hl := lv_entry ([.ref h] : List Value) (n := 1) (Nat.le_of_ble_eq_true rfl)
  rw [lg_entry_eq]
  generalize (lg_sl ([.ref h] : List Value) ++ List.replicate (1 - (lg_sl ([.ref h] : List Value)).length) Slot.unset).toArray = ls at hl ⊢
  have hl : lv_has ls 1 [(0, .ref h)] := hl
  have L0 : ∀ (n : Nat), ∀ (M_h : Mem) (H : Heap) (locs : List Loc) (ls : Array Slot), f_X9_stepWord_L0 n M_h M_h_tape = some R_h → va_P (dC, dI) vwCl ((wX9 cyB cyI cyZ cyO h h_tape M_h) ++ (wX8 cyB cyI cyZ cyO h_tape h_tape_bytes M_h_tape)) H → va_D A ((wX9 cyB cyI cyZ cyO h h_tape M_h) ++ (wX8 cyB cyI cyZ cyO h_tape h_tape_bytes M_h_tape)) → va_S A s.heap H locs → lv_has ls 1 [(0, .ref h)] → W p l e (headSpec wsX9_stepWord ({ frames := 7, cells := 0, slots := 0, locals := 173 } : Room)).room s m ([.ref h] : List Value).toArray below meth c H locs 0 0 (MQ below (QW dC dI none ((wX9 cyB cyI cyZ cyO h h_tape R_h) ++ (wX8 cyB cyI cyZ cyO h_tape h_tape_bytes M_h_tape)) A) ([.ref h] : List Value).toArray s 0 0 A) (F0 m 0 ls []) := by
    intro n
    induction n with
    | zero => intro M_h H locs ls hf hP hD hS hl; rw [f_X9_stepWord_L0] at hf; cases hf
    | succ n ih =>
      intro M_h H locs ls hf hP hD hS hl
      rw [f_X9_stepWord_L0] at hf
      refine lv_aload_n hx hb dX9_stepWord_0 rfl (lv_at hl 0 rfl) ?_
      refine va_get (D := (dC, dI)) (ci := 9) (v := .int (M_h 3 0)) (C := RX9) (T := TX9) (N := 5) hx hb hts hin9 hown hK hP 0 rfl rfl 3 (by decide) kf23 (fun _ h9 => h9) rfl dX9_stepWord_1 ?_
      refine lv_aload_n hx hb dX9_stepWord_4 rfl (lv_at hl 0 rfl) ?_
      refine va_get (D := (dC, dI)) (ci := 9) (v := .ref h_tape) (C := RX9) (T := TX9) (N := 5) hx hb hts hin9 hown hK hP 0 rfl rfl 0 (by decide) kf10 (fun _ h9 => h9) rfl dX9_stepWord_5 ?_
      refine va_get (D := (dC, dI)) (ci := 8) (v := .int (M_h_tape 1 0)) (C := RX8) (T := TX8) (N := 2) hx hb hts hin8 hown hK hP 1 rfl rfl 1 (by decide) kf33 (fun _ h9 => h9) rfl dX9_stepWord_8 ?_
      refine lv_icmp_ge (tgt := 45) hx hb dX9_stepWord_11 (by decide) (fun hc11 => ?_) (fun hc11 => ?_)
      · rw [if_pos hc11] at hf
        refine lv_aload_n hx hb dX9_stepWord_45 rfl (lv_at hl 0 rfl) ?_
        refine lv_aload_n hx hb dX9_stepWord_46 rfl (lv_at hl 0 rfl) ?_
        obtain ⟨r47, h47, hf⟩ := bd1_some hf
        refine ro_calli (va_runV (As := []) (rest := [.ref h]) ⟨hx, hb, hml, hown, hts⟩ (c_X9_wordToken l dC dI cyB cyI cyZ cyO adK adV h h_tape h_tape_bytes M_h M_h_tape r47 h47) (cwV 0 hts gX9_stepWord_X9_wordToken rfl rfl rfl (by decide +kernel) ⟨Nat.le_of_ble_eq_true rfl, Nat.le_of_ble_eq_true rfl⟩) ⟨PRS.blind, va_recv hK hP (ci := 9) (q0 := 0) rfl rfl, fun U hU hW => ⟨rfl, by rw [hU]; exact hP, hCx.warm hW, hX.at hS (fun _ h => False.elim h) hU hW⟩⟩ rfl rfl hl.1 rfl (lv_room (Nat.le_of_ble_eq_true rfl)) dX9_stepWord_47 ⟨Nat.zero_le _, Nat.zero_le _⟩) ?_
        refine va_put (D := (dC, dI)) (ci := 9) (v := .int r47) (ty := .int) (C := RX9) (T := TX9) (N := 5) hx hb hts hin9 tyX9 tyX9_ok nmX9 hown hK hP hD hS 0 rfl rfl 1 (by decide) kf16 (fun _ h9 => h9) rfl (by decide +kernel) rfl rfl (Nat.le_of_ble_eq_true rfl) dX9_stepWord_50 (fun H locs hP hD hS => ?_)
        obtain ⟨M_h_50, eM_h_50, hf⟩ := wr_some hf
        have hP : va_P (dC, dI) vwCl ((wX9 cyB cyI cyZ cyO h h_tape M_h_50) ++ (wX8 cyB cyI cyZ cyO h_tape h_tape_bytes M_h_tape)) H := by rw [eM_h_50]; exact hP
        have hD : va_D A ((wX9 cyB cyI cyZ cyO h h_tape M_h_50) ++ (wX8 cyB cyI cyZ cyO h_tape h_tape_bytes M_h_tape)) := by rw [eM_h_50]; exact hD
        have hq := Option.some.inj hf
        subst hq
        exact W.vret hx hb hr (fun t ht hW => ⟨rfl, by rw [ht]; exact hP, hD, hS.F ht⟩) hS.2.2 dX9_stepWord_53
      · rw [if_neg hc11] at hf
        refine lv_aload_n hx hb dX9_stepWord_14 rfl (lv_at hl 0 rfl) ?_
        refine va_get (D := (dC, dI)) (ci := 9) (v := .ref h_tape) (C := RX9) (T := TX9) (N := 5) hx hb hts hin9 hown hK hP 0 rfl rfl 0 (by decide) kf10 (fun _ h9 => h9) rfl dX9_stepWord_15 ?_
        refine va_get (D := (dC, dI)) (ci := 8) (v := .ref h_tape_bytes) (C := RX8) (T := TX8) (N := 2) hx hb hts hin8 hown hK hP 1 rfl rfl 0 (by decide) kf36 (fun _ h9 => h9) rfl dX9_stepWord_18 ?_
        refine lv_aload_n hx hb dX9_stepWord_21 rfl (lv_at hl 0 rfl) ?_
        refine va_get (D := (dC, dI)) (ci := 9) (v := .int (M_h 3 0)) (C := RX9) (T := TX9) (N := 5) hx hb hts hin9 hown hK hP 0 rfl rfl 3 (by decide) kf23 (fun _ h9 => h9) rfl dX9_stepWord_22 ?_
        have hi25 := if_no hf
        rw [if_neg hi25] at hf
        refine va_bald hx hb hK hP 2 0 rfl rfl hi25 dX9_stepWord_25 ?_
        obtain ⟨r26, h26, hf⟩ := bd1_some hf
        have hPc := hP.sub (ws' := ([] : va_W)) [] rfl
        refine ro_calli (va_runS (As := [.int (M_h_tape 0 ((M_h 3 0)).toNatClampNeg)]) (rest := []) ⟨hx, hb, hml, hown, hts⟩ (c_X9_isLetter l dC dI cyB cyI cyZ cyO (M_h_tape 0 ((M_h 3 0)).toNatClampNeg) r26 h26) (va_cwS 1 hts gX9_stepWord_X9_isLetter rfl rfl rfl (by decide +kernel) ⟨Nat.le_of_ble_eq_true rfl, Nat.le_of_ble_eq_true rfl⟩) ⟨PR.blind, fun U hU hW => ⟨rfl, by rw [hU]; exact hPc, hCx.warm hW⟩⟩ rfl rfl hl.1 rfl (lv_room (Nat.le_of_ble_eq_true rfl)) dX9_stepWord_26 ⟨Nat.zero_le _, Nat.zero_le _⟩) ?_
        refine lv_if_eq (tgt := 45) hx hb dX9_stepWord_29 (by decide) (fun hc29 => ?_) (fun hc29 => ?_)
        · rw [if_pos hc29] at hf
          refine lv_aload_n hx hb dX9_stepWord_45 rfl (lv_at hl 0 rfl) ?_
          refine lv_aload_n hx hb dX9_stepWord_46 rfl (lv_at hl 0 rfl) ?_
          obtain ⟨r47, h47, hf⟩ := bd1_some hf
          refine ro_calli (va_runV (As := []) (rest := [.ref h]) ⟨hx, hb, hml, hown, hts⟩ (c_X9_wordToken l dC dI cyB cyI cyZ cyO adK adV h h_tape h_tape_bytes M_h M_h_tape r47 h47) (cwV 0 hts gX9_stepWord_X9_wordToken rfl rfl rfl (by decide +kernel) ⟨Nat.le_of_ble_eq_true rfl, Nat.le_of_ble_eq_true rfl⟩) ⟨PRS.blind, va_recv hK hP (ci := 9) (q0 := 0) rfl rfl, fun U hU hW => ⟨rfl, by rw [hU]; exact hP, hCx.warm hW, hX.at hS (fun _ h => False.elim h) hU hW⟩⟩ rfl rfl hl.1 rfl (lv_room (Nat.le_of_ble_eq_true rfl)) dX9_stepWord_47 ⟨Nat.zero_le _, Nat.zero_le _⟩) ?_
          refine va_put (D := (dC, dI)) (ci := 9) (v := .int r47) (ty := .int) (C := RX9) (T := TX9) (N := 5) hx hb hts hin9 tyX9 tyX9_ok nmX9 hown hK hP hD hS 0 rfl rfl 1 (by decide) kf16 (fun _ h9 => h9) rfl (by decide +kernel) rfl rfl (Nat.le_of_ble_eq_true rfl) dX9_stepWord_50 (fun H locs hP hD hS => ?_)
          obtain ⟨M_h_50, eM_h_50, hf⟩ := wr_some hf
          have hP : va_P (dC, dI) vwCl ((wX9 cyB cyI cyZ cyO h h_tape M_h_50) ++ (wX8 cyB cyI cyZ cyO h_tape h_tape_bytes M_h_tape)) H := by rw [eM_h_50]; exact hP
          have hD : va_D A ((wX9 cyB cyI cyZ cyO h h_tape M_h_50) ++ (wX8 cyB cyI cyZ cyO h_tape h_tape_bytes M_h_tape)) := by rw [eM_h_50]; exact hD
          have hq := Option.some.inj hf
          subst hq
          exact W.vret hx hb hr (fun t ht hW => ⟨rfl, by rw [ht]; exact hP, hD, hS.F ht⟩) hS.2.2 dX9_stepWord_53
        · rw [if_neg hc29] at hf
          refine lv_aload_n hx hb dX9_stepWord_32 rfl (lv_at hl 0 rfl) ?_
          refine lv_dup hx hb dX9_stepWord_33 rfl ?_
          refine va_get (D := (dC, dI)) (ci := 9) (v := .int (M_h 3 0)) (C := RX9) (T := TX9) (N := 5) hx hb hts hin9 hown hK hP 0 rfl rfl 3 (by decide) kf23 (fun _ h9 => h9) rfl dX9_stepWord_34 ?_
          refine lv_iconst (v := (1 : Int32)) hx hb dX9_stepWord_37 (by decide) ?_
          refine lv_iadd hx hb dX9_stepWord_38 ?_
          refine va_put (D := (dC, dI)) (ci := 9) (v := .int ((M_h 3 0) + (1 : Int32))) (ty := .int) (C := RX9) (T := TX9) (N := 5) hx hb hts hin9 tyX9 tyX9_ok nmX9 hown hK hP hD hS 0 rfl rfl 3 (by decide) kf23 (fun _ h9 => h9) rfl (by decide +kernel) rfl rfl (Nat.le_of_ble_eq_true rfl) dX9_stepWord_39 (fun H locs hP hD hS => ?_)
          obtain ⟨M_h_39, eM_h_39, hf⟩ := wr_some hf
          have hP : va_P (dC, dI) vwCl ((wX9 cyB cyI cyZ cyO h h_tape M_h_39) ++ (wX8 cyB cyI cyZ cyO h_tape h_tape_bytes M_h_tape)) H := by rw [eM_h_39]; exact hP
          have hD : va_D A ((wX9 cyB cyI cyZ cyO h h_tape M_h_39) ++ (wX8 cyB cyI cyZ cyO h_tape h_tape_bytes M_h_tape)) := by rw [eM_h_39]; exact hD
          refine lv_goto (tgt := 0) hx hb dX9_stepWord_42 (by decide) ?_
          exact ih M_h_39 _ _ ls hf hP hD hS (lv_sub hl [0] rfl)
  rw [f_X9_stepWord] at hf
  exact L0 FU M_h _ _ ls hf hP hD hS (lv_sub hl [0] rfl)
set_option maxHeartbeats 4000000 in
set_option maxRecDepth 100000 in
theorem c_X9_step (l : Launch) (dC : Nat → ClassId) (dI : Nat → Nat → Nat) (cyB cyI cyZ cyO : ClassId) (adK adV : Nat → Nat) (h h_tape h_tape_bytes : Nat) (sz : Nat) (M_h : Mem) (M_h_tape : Mem) (R_h : Mem) (hf : f_X9_step M_h M_h_tape = some R_h) : Met l yX9_step wsX9_step ({ frames := 8, cells := 0, slots := 0, locals := 193 } : Room) (PWS dC dI cyB cyI cyZ cyO adK adV ([.ref h] : List Value) ((wX9 cyB cyI cyZ cyO h h_tape M_h) ++ (wX8 cyB cyI cyZ cyO h_tape h_tape_bytes M_h_tape)) sz) (QW dC dI none ((wX9 cyB cyI cyZ cyO h h_tape R_h) ++ (wX8 cyB cyI cyZ cyO h_tape h_tape_bytes M_h_tape)) (va_A ((wX9 cyB cyI cyZ cyO h h_tape M_h) ++ (wX8 cyB cyI cyZ cyO h_tape h_tape_bytes M_h_tape)) sz)) 0 0 (va_A ((wX9 cyB cyI cyZ cyO h h_tape M_h) ++ (wX8 cyB cyI cyZ cyO h_tape h_tape_bytes M_h_tape)) sz) := by
  refine Met.ofW (cc := cX9_step) (maxL := 2) (ret := none) (by decide) rfl ?_
  intro p e s m args below meth c s₁ B hml hv
  obtain ⟨rfl, hsz, hP, hCx, hD0, hX⟩ := hv
  have hK := hCx.1
  have hN := hCx.2
  have hx := B.exec
  have hb := B.bytes
  have hr := B.returns
  have hts := atoms_spec (ws := wsX9_step) B.pre
  have hown : s.vm.findClass RX9 = some m.cls := findClass_of_methodNamed B.named
  have hlocks := B.notSynchronized
  have hin8 : ∀ w ∈ u_ws RX8 TX8 2, w ∈ wsX9_step := fun w h => List.mem_cons_of_mem _ (List.mem_append_right _ h)
  have hin9 : ∀ w ∈ u_ws RX9 TX9 5, w ∈ wsX9_step := fun w h => List.mem_cons_of_mem _ (List.mem_append_left _ (List.mem_append_right _ h))
  have kf10 := hts (.fieldLink RX9 10 "HoldSlips$TokenReader" "tape" "LHoldSlips$Tape;") (by decide +kernel)
  have kf16 := hts (.fieldLink RX9 16 "HoldSlips$TokenReader" "token" "I") (by decide +kernel)
  have kf20 := hts (.fieldLink RX9 20 "HoldSlips$TokenReader" "start" "I") (by decide +kernel)
  have kf23 := hts (.fieldLink RX9 23 "HoldSlips$TokenReader" "next" "I") (by decide +kernel)
  have kf33 := hts (.fieldLink RX9 33 "HoldSlips$Tape" "length" "I") (by decide +kernel)
  have kf36 := hts (.fieldLink RX9 36 "HoldSlips$Tape" "bytes" "[B") (by decide +kernel)
  subst hsz
  have hD := hD0.self (sz := s.heap.size)
  generalize hAe : va_A ((wX9 cyB cyI cyZ cyO h h_tape M_h) ++ (wX8 cyB cyI cyZ cyO h_tape h_tape_bytes M_h_tape)) s.heap.size = A at hD hX ⊢
  have hA : ∀ q : Nat, s.heap.size ≤ q → A q := fun q h => by rw [← hAe]; exact Or.inr h
  have hS : va_S A s.heap s.heap [] := va_S.rf
  have hl := lv_entry ([.ref h] : List Value) (n := 2) (Nat.le_of_ble_eq_true rfl)
  rw [lg_entry_eq]
  generalize (lg_sl ([.ref h] : List Value) ++ List.replicate (2 - (lg_sl ([.ref h] : List Value)).length) Slot.unset).toArray = ls at hl ⊢
  have hl : lv_has ls 2 [(0, .ref h)] := hl
  have L45 : ∀ (M_h : Mem) (H : Heap) (locs : List Loc) (ls : Array Slot), f_X9_step_L45 M_h M_h_tape = some R_h → va_P (dC, dI) vwCl ((wX9 cyB cyI cyZ cyO h h_tape M_h) ++ (wX8 cyB cyI cyZ cyO h_tape h_tape_bytes M_h_tape)) H → va_D A ((wX9 cyB cyI cyZ cyO h h_tape M_h) ++ (wX8 cyB cyI cyZ cyO h_tape h_tape_bytes M_h_tape)) → va_S A s.heap H locs → lv_has ls 2 [(0, .ref h)] → W p l e (headSpec wsX9_step ({ frames := 8, cells := 0, slots := 0, locals := 193 } : Room)).room s m ([.ref h] : List Value).toArray below meth c H locs 0 0 (MQ below (QW dC dI none ((wX9 cyB cyI cyZ cyO h h_tape R_h) ++ (wX8 cyB cyI cyZ cyO h_tape h_tape_bytes M_h_tape)) A) ([.ref h] : List Value).toArray s 0 0 A) (F0 m 45 ls []) := by
    intro  M_h H locs ls hf hP hD hS hl
    rw [f_X9_step_L45] at hf
    refine lv_aload_n hx hb dX9_step_45 rfl (lv_at hl 0 rfl) ?_
    refine lv_aload_n hx hb dX9_step_46 rfl (lv_at hl 0 rfl) ?_
    refine va_get (D := (dC, dI)) (ci := 9) (v := .int (M_h 3 0)) (C := RX9) (T := TX9) (N := 5) hx hb hts hin9 hown hK hP 0 rfl rfl 3 (by decide) kf23 (fun _ h9 => h9) rfl dX9_step_47 ?_
    refine va_put (D := (dC, dI)) (ci := 9) (v := .int (M_h 3 0)) (ty := .int) (C := RX9) (T := TX9) (N := 5) hx hb hts hin9 tyX9 tyX9_ok nmX9 hown hK hP hD hS 0 rfl rfl 2 (by decide) kf20 (fun _ h9 => h9) rfl (by decide +kernel) rfl rfl (Nat.le_of_ble_eq_true rfl) dX9_step_50 (fun H locs hP hD hS => ?_)
    obtain ⟨M_h_50, eM_h_50, hf⟩ := wr_some hf
    have hP : va_P (dC, dI) vwCl ((wX9 cyB cyI cyZ cyO h h_tape M_h_50) ++ (wX8 cyB cyI cyZ cyO h_tape h_tape_bytes M_h_tape)) H := by rw [eM_h_50]; exact hP
    have hD : va_D A ((wX9 cyB cyI cyZ cyO h h_tape M_h_50) ++ (wX8 cyB cyI cyZ cyO h_tape h_tape_bytes M_h_tape)) := by rw [eM_h_50]; exact hD
    refine lv_aload_n hx hb dX9_step_53 rfl (lv_at hl 0 rfl) ?_
    refine va_get (D := (dC, dI)) (ci := 9) (v := .int (M_h_50 3 0)) (C := RX9) (T := TX9) (N := 5) hx hb hts hin9 hown hK hP 0 rfl rfl 3 (by decide) kf23 (fun _ h9 => h9) rfl dX9_step_54 ?_
    refine lv_aload_n hx hb dX9_step_57 rfl (lv_at hl 0 rfl) ?_
    refine va_get (D := (dC, dI)) (ci := 9) (v := .ref h_tape) (C := RX9) (T := TX9) (N := 5) hx hb hts hin9 hown hK hP 0 rfl rfl 0 (by decide) kf10 (fun _ h9 => h9) rfl dX9_step_58 ?_
    refine va_get (D := (dC, dI)) (ci := 8) (v := .int (M_h_tape 1 0)) (C := RX8) (T := TX8) (N := 2) hx hb hts hin8 hown hK hP 1 rfl rfl 1 (by decide) kf33 (fun _ h9 => h9) rfl dX9_step_61 ?_
    refine lv_icmp_lt (tgt := 73) hx hb dX9_step_64 (by decide) (fun hc64 => ?_) (fun hc64 => ?_)
    · rw [if_pos hc64] at hf
      refine lv_aload_n hx hb dX9_step_73 rfl (lv_at hl 0 rfl) ?_
      refine va_get (D := (dC, dI)) (ci := 9) (v := .ref h_tape) (C := RX9) (T := TX9) (N := 5) hx hb hts hin9 hown hK hP 0 rfl rfl 0 (by decide) kf10 (fun _ h9 => h9) rfl dX9_step_74 ?_
      refine va_get (D := (dC, dI)) (ci := 8) (v := .ref h_tape_bytes) (C := RX8) (T := TX8) (N := 2) hx hb hts hin8 hown hK hP 1 rfl rfl 0 (by decide) kf36 (fun _ h9 => h9) rfl dX9_step_77 ?_
      refine lv_aload_n hx hb dX9_step_80 rfl (lv_at hl 0 rfl) ?_
      refine va_get (D := (dC, dI)) (ci := 9) (v := .int (M_h_50 3 0)) (C := RX9) (T := TX9) (N := 5) hx hb hts hin9 hown hK hP 0 rfl rfl 3 (by decide) kf23 (fun _ h9 => h9) rfl dX9_step_81 ?_
      have hi84 := if_no hf
      rw [if_neg hi84] at hf
      refine va_bald hx hb hK hP 2 0 rfl rfl hi84 dX9_step_84 ?_
      refine lv_istore_n (lv' := [(1, .int (M_h_tape 0 ((M_h_50 3 0)).toNatClampNeg)), (0, .ref h)]) hx hb dX9_step_85 rfl hl (by decide) rfl (fun ls hl => ?_)
      refine lv_iload_n hx hb dX9_step_86 rfl (lv_at hl 0 rfl) ?_
      obtain ⟨r87, h87, hf⟩ := bd1_some hf
      have hPc := hP.sub (ws' := ([] : va_W)) [] rfl
      refine ro_calli (va_runS (As := [.int (M_h_tape 0 ((M_h_50 3 0)).toNatClampNeg)]) (rest := []) ⟨hx, hb, hml, hown, hts⟩ (c_X9_isLetter l dC dI cyB cyI cyZ cyO (M_h_tape 0 ((M_h_50 3 0)).toNatClampNeg) r87 h87) (va_cwS 1 hts gX9_step_X9_isLetter rfl rfl rfl (by decide +kernel) ⟨Nat.le_of_ble_eq_true rfl, Nat.le_of_ble_eq_true rfl⟩) ⟨PR.blind, fun U hU hW => ⟨rfl, by rw [hU]; exact hPc, hCx.warm hW⟩⟩ rfl rfl hl.1 rfl (lv_room (Nat.le_of_ble_eq_true rfl)) dX9_step_87 ⟨Nat.zero_le _, Nat.zero_le _⟩) ?_
      refine lv_if_eq (tgt := 100) hx hb dX9_step_90 (by decide) (fun hc90 => ?_) (fun hc90 => ?_)
      · rw [if_pos hc90] at hf
        refine lv_iload_n hx hb dX9_step_100 rfl (lv_at hl 0 rfl) ?_
        obtain ⟨r101, h101, hf⟩ := bd1_some hf
        have hPc := hP.sub (ws' := ([] : va_W)) [] rfl
        refine ro_calli (va_runS (As := [.int (M_h_tape 0 ((M_h_50 3 0)).toNatClampNeg)]) (rest := []) ⟨hx, hb, hml, hown, hts⟩ (c_X9_isDigit l dC dI cyB cyI cyZ cyO (M_h_tape 0 ((M_h_50 3 0)).toNatClampNeg) r101 h101) (va_cwS 1 hts gX9_step_X9_isDigit rfl rfl rfl (by decide +kernel) ⟨Nat.le_of_ble_eq_true rfl, Nat.le_of_ble_eq_true rfl⟩) ⟨PR.blind, fun U hU hW => ⟨rfl, by rw [hU]; exact hPc, hCx.warm hW⟩⟩ rfl rfl hl.1 rfl (lv_room (Nat.le_of_ble_eq_true rfl)) dX9_step_101 ⟨Nat.zero_le _, Nat.zero_le _⟩) ?_
        refine lv_if_eq (tgt := 114) hx hb dX9_step_104 (by decide) (fun hc104 => ?_) (fun hc104 => ?_)
        · rw [if_pos hc104] at hf
          refine lv_aload_n hx hb dX9_step_114 rfl (lv_at hl 1 rfl) ?_
          refine lv_iload_n hx hb dX9_step_115 rfl (lv_at hl 0 rfl) ?_
          refine lv_bipush (v := (58 : Int32)) hx hb dX9_step_116 (by decide) ?_
          refine lv_bipush (v := (62 : Int32)) hx hb dX9_step_118 (by decide) ?_
          obtain ⟨r120, h120, hf⟩ := bd1_some hf
          have hPc := hP.sub (ws' := ([] : va_W)) [] rfl
          refine ro_calli (va_runSN (As := [.int (M_h_tape 0 ((M_h_50 3 0)).toNatClampNeg), .int (58 : Int32), .int (62 : Int32)]) (rest := [.ref h]) ⟨hx, hb, hml, hown, hts⟩ (c_X11_within l dC dI cyB cyI cyZ cyO (M_h_tape 0 ((M_h_50 3 0)).toNatClampNeg) (58 : Int32) (62 : Int32) r120 h120) ⟨va_cnB 3 hts gX9_step_X11_within_n56 rfl rfl rfl (hN _ (by decide +kernel : Cond.methodLinkNest RX9 56 yX11_within "HoldSlips" ∈ nw_all)) (hts (.initialized RX11) (by decide +kernel)) (by decide +kernel) ⟨Nat.le_of_ble_eq_true rfl, Nat.le_of_ble_eq_true rfl⟩, hts (.static yX11_within) (by decide +kernel), trivial⟩ ⟨PR.blind, fun U hU hW => ⟨rfl, by rw [hU]; exact hPc, hCx.warm hW⟩⟩ rfl rfl hl.1 rfl (lv_room (Nat.le_of_ble_eq_true rfl)) dX9_step_120 ⟨Nat.zero_le _, Nat.zero_le _⟩) ?_
          refine lv_if_eq (tgt := 130) hx hb dX9_step_123 (by decide) (fun hc123 => ?_) (fun hc123 => ?_)
          · rw [if_pos hc123] at hf
            refine lv_bipush (v := (13 : Int32)) hx hb dX9_step_130 (by decide) ?_
            refine va_put (D := (dC, dI)) (ci := 9) (v := .int (13 : Int32)) (ty := .int) (C := RX9) (T := TX9) (N := 5) hx hb hts hin9 tyX9 tyX9_ok nmX9 hown hK hP hD hS 0 rfl rfl 1 (by decide) kf16 (fun _ h9 => h9) rfl (by decide +kernel) rfl rfl (Nat.le_of_ble_eq_true rfl) dX9_step_132 (fun H locs hP hD hS => ?_)
            obtain ⟨M_h_132, eM_h_132, hf⟩ := wr_some hf
            have hP : va_P (dC, dI) vwCl ((wX9 cyB cyI cyZ cyO h h_tape M_h_132) ++ (wX8 cyB cyI cyZ cyO h_tape h_tape_bytes M_h_tape)) H := by rw [eM_h_132]; exact hP
            have hD : va_D A ((wX9 cyB cyI cyZ cyO h h_tape M_h_132) ++ (wX8 cyB cyI cyZ cyO h_tape h_tape_bytes M_h_tape)) := by rw [eM_h_132]; exact hD
            refine lv_aload_n hx hb dX9_step_135 rfl (lv_at hl 1 rfl) ?_
            refine lv_dup hx hb dX9_step_136 rfl ?_
            refine va_get (D := (dC, dI)) (ci := 9) (v := .int (M_h_132 3 0)) (C := RX9) (T := TX9) (N := 5) hx hb hts hin9 hown hK hP 0 rfl rfl 3 (by decide) kf23 (fun _ h9 => h9) rfl dX9_step_137 ?_
            refine lv_iconst (v := (1 : Int32)) hx hb dX9_step_140 (by decide) ?_
            refine lv_iadd hx hb dX9_step_141 ?_
            refine va_put (D := (dC, dI)) (ci := 9) (v := .int ((M_h_132 3 0) + (1 : Int32))) (ty := .int) (C := RX9) (T := TX9) (N := 5) hx hb hts hin9 tyX9 tyX9_ok nmX9 hown hK hP hD hS 0 rfl rfl 3 (by decide) kf23 (fun _ h9 => h9) rfl (by decide +kernel) rfl rfl (Nat.le_of_ble_eq_true rfl) dX9_step_142 (fun H locs hP hD hS => ?_)
            obtain ⟨M_h_142, eM_h_142, hf⟩ := wr_some hf
            have hP : va_P (dC, dI) vwCl ((wX9 cyB cyI cyZ cyO h h_tape M_h_142) ++ (wX8 cyB cyI cyZ cyO h_tape h_tape_bytes M_h_tape)) H := by rw [eM_h_142]; exact hP
            have hD : va_D A ((wX9 cyB cyI cyZ cyO h h_tape M_h_142) ++ (wX8 cyB cyI cyZ cyO h_tape h_tape_bytes M_h_tape)) := by rw [eM_h_142]; exact hD
            have hq := Option.some.inj hf
            subst hq
            exact W.vret hx hb hr (fun t ht hW => ⟨rfl, by rw [ht]; exact hP, hD, hS.F ht⟩) hS.2.2 dX9_step_145
          · rw [if_neg hc123] at hf
            refine lv_iload_n hx hb dX9_step_126 rfl (lv_at hl 0 rfl) ?_
            refine lv_goto (tgt := 132) hx hb dX9_step_127 (by decide) ?_
            refine va_put (D := (dC, dI)) (ci := 9) (v := .int (M_h_tape 0 ((M_h_50 3 0)).toNatClampNeg)) (ty := .int) (C := RX9) (T := TX9) (N := 5) hx hb hts hin9 tyX9 tyX9_ok nmX9 hown hK hP hD hS 0 rfl rfl 1 (by decide) kf16 (fun _ h9 => h9) rfl (by decide +kernel) rfl rfl (Nat.le_of_ble_eq_true rfl) dX9_step_132 (fun H locs hP hD hS => ?_)
            obtain ⟨M_h_132, eM_h_132, hf⟩ := wr_some hf
            have hP : va_P (dC, dI) vwCl ((wX9 cyB cyI cyZ cyO h h_tape M_h_132) ++ (wX8 cyB cyI cyZ cyO h_tape h_tape_bytes M_h_tape)) H := by rw [eM_h_132]; exact hP
            have hD : va_D A ((wX9 cyB cyI cyZ cyO h h_tape M_h_132) ++ (wX8 cyB cyI cyZ cyO h_tape h_tape_bytes M_h_tape)) := by rw [eM_h_132]; exact hD
            refine lv_aload_n hx hb dX9_step_135 rfl (lv_at hl 1 rfl) ?_
            refine lv_dup hx hb dX9_step_136 rfl ?_
            refine va_get (D := (dC, dI)) (ci := 9) (v := .int (M_h_132 3 0)) (C := RX9) (T := TX9) (N := 5) hx hb hts hin9 hown hK hP 0 rfl rfl 3 (by decide) kf23 (fun _ h9 => h9) rfl dX9_step_137 ?_
            refine lv_iconst (v := (1 : Int32)) hx hb dX9_step_140 (by decide) ?_
            refine lv_iadd hx hb dX9_step_141 ?_
            refine va_put (D := (dC, dI)) (ci := 9) (v := .int ((M_h_132 3 0) + (1 : Int32))) (ty := .int) (C := RX9) (T := TX9) (N := 5) hx hb hts hin9 tyX9 tyX9_ok nmX9 hown hK hP hD hS 0 rfl rfl 3 (by decide) kf23 (fun _ h9 => h9) rfl (by decide +kernel) rfl rfl (Nat.le_of_ble_eq_true rfl) dX9_step_142 (fun H locs hP hD hS => ?_)
            obtain ⟨M_h_142, eM_h_142, hf⟩ := wr_some hf
            have hP : va_P (dC, dI) vwCl ((wX9 cyB cyI cyZ cyO h h_tape M_h_142) ++ (wX8 cyB cyI cyZ cyO h_tape h_tape_bytes M_h_tape)) H := by rw [eM_h_142]; exact hP
            have hD : va_D A ((wX9 cyB cyI cyZ cyO h h_tape M_h_142) ++ (wX8 cyB cyI cyZ cyO h_tape h_tape_bytes M_h_tape)) := by rw [eM_h_142]; exact hD
            have hq := Option.some.inj hf
            subst hq
            exact W.vret hx hb hr (fun t ht hW => ⟨rfl, by rw [ht]; exact hP, hD, hS.F ht⟩) hS.2.2 dX9_step_145
        · rw [if_neg hc104] at hf
          refine lv_aload_n hx hb dX9_step_107 rfl (lv_at hl 1 rfl) ?_
          obtain ⟨M_h_108, h108, hf⟩ := bd1_some hf
          refine wr_callv (wc := ((wX9 cyB cyI cyZ cyO h h_tape M_h_50) ++ (wX8 cyB cyI cyZ cyO h_tape h_tape_bytes M_h_tape))) (wr := ([] : va_W)) (w1 := ((wX9 cyB cyI cyZ cyO h h_tape M_h_108) ++ (wX8 cyB cyI cyZ cyO h_tape h_tape_bytes M_h_tape))) (ws' := ((wX9 cyB cyI cyZ cyO h h_tape M_h_108) ++ (wX8 cyB cyI cyZ cyO h_tape h_tape_bytes M_h_tape))) hP hD hS hA [0, 1, 2] [] [0, 1, 2] rfl rfl (by decide) (by decide) rfl (by decide) (va_runV (As := []) (rest := []) ⟨hx, hb, hml, hown, hts⟩ (c_X9_stepNumber l dC dI cyB cyI cyZ cyO h h_tape h_tape_bytes _ M_h_50 M_h_tape M_h_108 h108) (cwV 0 hts gX9_step_X9_stepNumber rfl rfl rfl (by decide +kernel) ⟨Nat.le_of_ble_eq_true rfl, Nat.le_of_ble_eq_true rfl⟩) ⟨PW.blind, va_recv hK hP (ci := 9) (q0 := 0) rfl rfl, fun U hU hW => ⟨rfl, by rw [hU], by rw [hU]; exact hP, hCx.warm hW, hD.weaken (fun _ _ _ _ => trivial)⟩⟩ rfl rfl hl.1 rfl (lv_room (Nat.le_of_ble_eq_true rfl)) dX9_step_108 ⟨Nat.zero_le _, Nat.zero_le _⟩) (fun H locs hP hD hS => ?_)
          refine lv_goto (tgt := 145) hx hb dX9_step_111 (by decide) ?_
          have hq := Option.some.inj hf
          subst hq
          exact W.vret hx hb hr (fun t ht hW => ⟨rfl, by rw [ht]; exact hP, hD, hS.F ht⟩) hS.2.2 dX9_step_145
      · rw [if_neg hc90] at hf
        refine lv_aload_n hx hb dX9_step_93 rfl (lv_at hl 1 rfl) ?_
        obtain ⟨M_h_94, h94, hf⟩ := bd1_some hf
        refine wr_callv (wc := ((wX9 cyB cyI cyZ cyO h h_tape M_h_50) ++ (wX8 cyB cyI cyZ cyO h_tape h_tape_bytes M_h_tape))) (wr := ([] : va_W)) (w1 := ((wX9 cyB cyI cyZ cyO h h_tape M_h_94) ++ (wX8 cyB cyI cyZ cyO h_tape h_tape_bytes M_h_tape))) (ws' := ((wX9 cyB cyI cyZ cyO h h_tape M_h_94) ++ (wX8 cyB cyI cyZ cyO h_tape h_tape_bytes M_h_tape))) hP hD hS hA [0, 1, 2] [] [0, 1, 2] rfl rfl (by decide) (by decide) rfl (by decide) (va_runV (As := []) (rest := []) ⟨hx, hb, hml, hown, hts⟩ (c_X9_stepWord l dC dI cyB cyI cyZ cyO adK adV h h_tape h_tape_bytes _ M_h_50 M_h_tape M_h_94 h94) (cwV 0 hts gX9_step_X9_stepWord rfl rfl rfl (by decide +kernel) ⟨Nat.le_of_ble_eq_true rfl, Nat.le_of_ble_eq_true rfl⟩) ⟨PWS.blind, va_recv hK hP (ci := 9) (q0 := 0) rfl rfl, fun U hU hW => ⟨rfl, by rw [hU], by rw [hU]; exact hP, hCx.warm hW, hD.weaken (fun _ _ _ _ => trivial), hX.at hS (va_free (wc := ((wX9 cyB cyI cyZ cyO h h_tape M_h_50) ++ (wX8 cyB cyI cyZ cyO h_tape h_tape_bytes M_h_tape))) hD hS hA [0, 1, 2] rfl) hU hW⟩⟩ rfl rfl hl.1 rfl (lv_room (Nat.le_of_ble_eq_true rfl)) dX9_step_94 ⟨Nat.zero_le _, Nat.zero_le _⟩) (fun H locs hP hD hS => ?_)
        refine lv_goto (tgt := 145) hx hb dX9_step_97 (by decide) ?_
        have hq := Option.some.inj hf
        subst hq
        exact W.vret hx hb hr (fun t ht hW => ⟨rfl, by rw [ht]; exact hP, hD, hS.F ht⟩) hS.2.2 dX9_step_145
    · rw [if_neg hc64] at hf
      refine lv_aload_n hx hb dX9_step_67 rfl (lv_at hl 0 rfl) ?_
      refine lv_iconst (v := (0 : Int32)) hx hb dX9_step_68 (by decide) ?_
      refine va_put (D := (dC, dI)) (ci := 9) (v := .int (0 : Int32)) (ty := .int) (C := RX9) (T := TX9) (N := 5) hx hb hts hin9 tyX9 tyX9_ok nmX9 hown hK hP hD hS 0 rfl rfl 1 (by decide) kf16 (fun _ h9 => h9) rfl (by decide +kernel) rfl rfl (Nat.le_of_ble_eq_true rfl) dX9_step_69 (fun H locs hP hD hS => ?_)
      obtain ⟨M_h_69, eM_h_69, hf⟩ := wr_some hf
      have hP : va_P (dC, dI) vwCl ((wX9 cyB cyI cyZ cyO h h_tape M_h_69) ++ (wX8 cyB cyI cyZ cyO h_tape h_tape_bytes M_h_tape)) H := by rw [eM_h_69]; exact hP
      have hD : va_D A ((wX9 cyB cyI cyZ cyO h h_tape M_h_69) ++ (wX8 cyB cyI cyZ cyO h_tape h_tape_bytes M_h_tape)) := by rw [eM_h_69]; exact hD
      have hq := Option.some.inj hf
      subst hq
      exact W.vret hx hb hr (fun t ht hW => ⟨rfl, by rw [ht]; exact hP, hD, hS.F ht⟩) hS.2.2 dX9_step_72
  have L0 : ∀ (n : Nat), ∀ (M_h : Mem) (H : Heap) (locs : List Loc) (ls : Array Slot), f_X9_step_L0 n M_h M_h_tape = some R_h → va_P (dC, dI) vwCl ((wX9 cyB cyI cyZ cyO h h_tape M_h) ++ (wX8 cyB cyI cyZ cyO h_tape h_tape_bytes M_h_tape)) H → va_D A ((wX9 cyB cyI cyZ cyO h h_tape M_h) ++ (wX8 cyB cyI cyZ cyO h_tape h_tape_bytes M_h_tape)) → va_S A s.heap H locs → lv_has ls 2 [(0, .ref h)] → W p l e (headSpec wsX9_step ({ frames := 8, cells := 0, slots := 0, locals := 193 } : Room)).room s m ([.ref h] : List Value).toArray below meth c H locs 0 0 (MQ below (QW dC dI none ((wX9 cyB cyI cyZ cyO h h_tape R_h) ++ (wX8 cyB cyI cyZ cyO h_tape h_tape_bytes M_h_tape)) A) ([.ref h] : List Value).toArray s 0 0 A) (F0 m 0 ls []) := by
    intro n
    induction n with
    | zero => intro M_h H locs ls hf hP hD hS hl; rw [f_X9_step_L0] at hf; cases hf
    | succ n ih =>
      intro M_h H locs ls hf hP hD hS hl
      rw [f_X9_step_L0] at hf
      refine lv_aload_n hx hb dX9_step_0 rfl (lv_at hl 0 rfl) ?_
      refine va_get (D := (dC, dI)) (ci := 9) (v := .int (M_h 3 0)) (C := RX9) (T := TX9) (N := 5) hx hb hts hin9 hown hK hP 0 rfl rfl 3 (by decide) kf23 (fun _ h9 => h9) rfl dX9_step_1 ?_
      refine lv_aload_n hx hb dX9_step_4 rfl (lv_at hl 0 rfl) ?_
      refine va_get (D := (dC, dI)) (ci := 9) (v := .ref h_tape) (C := RX9) (T := TX9) (N := 5) hx hb hts hin9 hown hK hP 0 rfl rfl 0 (by decide) kf10 (fun _ h9 => h9) rfl dX9_step_5 ?_
      refine va_get (D := (dC, dI)) (ci := 8) (v := .int (M_h_tape 1 0)) (C := RX8) (T := TX8) (N := 2) hx hb hts hin8 hown hK hP 1 rfl rfl 1 (by decide) kf33 (fun _ h9 => h9) rfl dX9_step_8 ?_
      refine lv_icmp_ge (tgt := 45) hx hb dX9_step_11 (by decide) (fun hc11 => ?_) (fun hc11 => ?_)
      · rw [if_pos hc11] at hf
        exact L45 M_h _ _ ls hf hP hD hS (lv_sub hl [0] rfl)
      · rw [if_neg hc11] at hf
        refine lv_aload_n hx hb dX9_step_14 rfl (lv_at hl 0 rfl) ?_
        refine va_get (D := (dC, dI)) (ci := 9) (v := .ref h_tape) (C := RX9) (T := TX9) (N := 5) hx hb hts hin9 hown hK hP 0 rfl rfl 0 (by decide) kf10 (fun _ h9 => h9) rfl dX9_step_15 ?_
        refine va_get (D := (dC, dI)) (ci := 8) (v := .ref h_tape_bytes) (C := RX8) (T := TX8) (N := 2) hx hb hts hin8 hown hK hP 1 rfl rfl 0 (by decide) kf36 (fun _ h9 => h9) rfl dX9_step_18 ?_
        refine lv_aload_n hx hb dX9_step_21 rfl (lv_at hl 0 rfl) ?_
        refine va_get (D := (dC, dI)) (ci := 9) (v := .int (M_h 3 0)) (C := RX9) (T := TX9) (N := 5) hx hb hts hin9 hown hK hP 0 rfl rfl 3 (by decide) kf23 (fun _ h9 => h9) rfl dX9_step_22 ?_
        have hi25 := if_no hf
        rw [if_neg hi25] at hf
        refine va_bald hx hb hK hP 2 0 rfl rfl hi25 dX9_step_25 ?_
        obtain ⟨r26, h26, hf⟩ := bd1_some hf
        have hPc := hP.sub (ws' := ([] : va_W)) [] rfl
        refine ro_calli (va_runS (As := [.int (M_h_tape 0 ((M_h 3 0)).toNatClampNeg)]) (rest := []) ⟨hx, hb, hml, hown, hts⟩ (c_X9_isBlank l dC dI cyB cyI cyZ cyO (M_h_tape 0 ((M_h 3 0)).toNatClampNeg) r26 h26) (va_cwS 1 hts gX9_step_X9_isBlank rfl rfl rfl (by decide +kernel) ⟨Nat.le_of_ble_eq_true rfl, Nat.le_of_ble_eq_true rfl⟩) ⟨PR.blind, fun U hU hW => ⟨rfl, by rw [hU]; exact hPc, hCx.warm hW⟩⟩ rfl rfl hl.1 rfl (lv_room (Nat.le_of_ble_eq_true rfl)) dX9_step_26 ⟨Nat.zero_le _, Nat.zero_le _⟩) ?_
        refine lv_if_eq (tgt := 45) hx hb dX9_step_29 (by decide) (fun hc29 => ?_) (fun hc29 => ?_)
        · rw [if_pos hc29] at hf
          exact L45 M_h _ _ ls hf hP hD hS (lv_sub hl [0] rfl)
        · rw [if_neg hc29] at hf
          refine lv_aload_n hx hb dX9_step_32 rfl (lv_at hl 0 rfl) ?_
          refine lv_dup hx hb dX9_step_33 rfl ?_
          refine va_get (D := (dC, dI)) (ci := 9) (v := .int (M_h 3 0)) (C := RX9) (T := TX9) (N := 5) hx hb hts hin9 hown hK hP 0 rfl rfl 3 (by decide) kf23 (fun _ h9 => h9) rfl dX9_step_34 ?_
          refine lv_iconst (v := (1 : Int32)) hx hb dX9_step_37 (by decide) ?_
          refine lv_iadd hx hb dX9_step_38 ?_
          refine va_put (D := (dC, dI)) (ci := 9) (v := .int ((M_h 3 0) + (1 : Int32))) (ty := .int) (C := RX9) (T := TX9) (N := 5) hx hb hts hin9 tyX9 tyX9_ok nmX9 hown hK hP hD hS 0 rfl rfl 3 (by decide) kf23 (fun _ h9 => h9) rfl (by decide +kernel) rfl rfl (Nat.le_of_ble_eq_true rfl) dX9_step_39 (fun H locs hP hD hS => ?_)
          obtain ⟨M_h_39, eM_h_39, hf⟩ := wr_some hf
          have hP : va_P (dC, dI) vwCl ((wX9 cyB cyI cyZ cyO h h_tape M_h_39) ++ (wX8 cyB cyI cyZ cyO h_tape h_tape_bytes M_h_tape)) H := by rw [eM_h_39]; exact hP
          have hD : va_D A ((wX9 cyB cyI cyZ cyO h h_tape M_h_39) ++ (wX8 cyB cyI cyZ cyO h_tape h_tape_bytes M_h_tape)) := by rw [eM_h_39]; exact hD
          refine lv_goto (tgt := 0) hx hb dX9_step_42 (by decide) ?_
          exact ih M_h_39 _ _ ls hf hP hD hS (lv_sub hl [0] rfl)
  rw [f_X9_step] at hf
  exact L0 FU M_h _ _ ls hf hP hD hS (lv_sub hl [0] rfl)
set_option maxHeartbeats 4000000 in
set_option maxRecDepth 100000 in
theorem c_X4_read (l : Launch) (dC : Nat → ClassId) (dI : Nat → Nat → Nat) (cyB cyI cyZ cyO : ClassId) (adK adV : Nat → Nat) (a1 a1_bytes h h_at h_text h_at_tape h_at_tape_bytes h_text_action h_text_amount h_text_tests h_text_negated h_text_subject h_text_sign h_text_limit : Nat) (sz : Nat) (M_a1 : Mem) (M_h : Mem) (M_h_at : Mem) (M_h_at_tape : Mem) (M_h_text : Mem) (R_h : Mem) (R_h_at : Mem) (R_h_at_tape : Mem) (R_h_text : Mem) (hf : f_X4_read M_a1 M_h M_h_at M_h_at_tape M_h_text = some (R_h, R_h_at, R_h_at_tape, R_h_text)) : Met l yX4_read wsX4_read ({ frames := 9, cells := 0, slots := 0, locals := 214 } : Room) (PWS dC dI cyB cyI cyZ cyO adK adV ([.ref h, .ref a1] : List Value) ((wX8 cyB cyI cyZ cyO a1 a1_bytes M_a1) ++ ((wX4 cyB cyI cyZ cyO h h_at h_text M_h) ++ ((wX9 cyB cyI cyZ cyO h_at h_at_tape M_h_at) ++ ((wX8 cyB cyI cyZ cyO h_at_tape h_at_tape_bytes M_h_at_tape) ++ (wX3 cyB cyI cyZ cyO h_text h_text_action h_text_amount h_text_tests h_text_negated h_text_subject h_text_sign h_text_limit M_h_text))))) sz) (QW dC dI none ((wX8 cyB cyI cyZ cyO a1 a1_bytes M_a1) ++ ((wX4 cyB cyI cyZ cyO h h_at h_text R_h) ++ ((wX9 cyB cyI cyZ cyO h_at h_at_tape R_h_at) ++ ((wX8 cyB cyI cyZ cyO h_at_tape h_at_tape_bytes R_h_at_tape) ++ (wX3 cyB cyI cyZ cyO h_text h_text_action h_text_amount h_text_tests h_text_negated h_text_subject h_text_sign h_text_limit R_h_text))))) (va_A ((wX8 cyB cyI cyZ cyO a1 a1_bytes M_a1) ++ ((wX4 cyB cyI cyZ cyO h h_at h_text M_h) ++ ((wX9 cyB cyI cyZ cyO h_at h_at_tape M_h_at) ++ ((wX8 cyB cyI cyZ cyO h_at_tape h_at_tape_bytes M_h_at_tape) ++ (wX3 cyB cyI cyZ cyO h_text h_text_action h_text_amount h_text_tests h_text_negated h_text_subject h_text_sign h_text_limit M_h_text))))) sz)) 0 0 (va_A ((wX8 cyB cyI cyZ cyO a1 a1_bytes M_a1) ++ ((wX4 cyB cyI cyZ cyO h h_at h_text M_h) ++ ((wX9 cyB cyI cyZ cyO h_at h_at_tape M_h_at) ++ ((wX8 cyB cyI cyZ cyO h_at_tape h_at_tape_bytes M_h_at_tape) ++ (wX3 cyB cyI cyZ cyO h_text h_text_action h_text_amount h_text_tests h_text_negated h_text_subject h_text_sign h_text_limit M_h_text))))) sz) := by
  refine Met.ofW (cc := cX4_read) (maxL := 3) (ret := none) (by decide) rfl ?_
  intro p e s m args below meth c s₁ B hml hv
  obtain ⟨rfl, hsz, hP, hCx, hD0, hX⟩ := hv
  have hK := hCx.1
  have hN := hCx.2
  have hx := B.exec
  have hb := B.bytes
  have hr := B.returns
  have hts := atoms_spec (ws := wsX4_read) B.pre
  have hown : s.vm.findClass RX4 = some m.cls := findClass_of_methodNamed B.named
  have hlocks := B.notSynchronized
  have hin4 : ∀ w ∈ u_ws RX4 TX4 12, w ∈ wsX4_read := fun w h => List.mem_cons_of_mem _ (List.mem_append_left _ (List.mem_append_left _ (List.mem_append_left _ (List.mem_append_right _ h))))
  have hin9 : ∀ w ∈ u_ws RX9 TX9 5, w ∈ wsX4_read := fun w h => List.mem_cons_of_mem _ (List.mem_append_left _ (List.mem_append_left _ (List.mem_append_right _ h)))
  have kf12 := hts (.fieldLink RX4 12 "HoldSlips$DecreeReader" "at" "LHoldSlips$TokenReader;") (by decide +kernel)
  have kf25 := hts (.fieldLink RX4 25 "HoldSlips$DecreeReader" "fault" "I") (by decide +kernel)
  have kf29 := hts (.fieldLink RX4 29 "HoldSlips$DecreeReader" "place" "I") (by decide +kernel)
  have kf32 := hts (.fieldLink RX4 32 "HoldSlips$DecreeReader" "excess" "I") (by decide +kernel)
  have kf35 := hts (.fieldLink RX4 35 "HoldSlips$DecreeReader" "state" "I") (by decide +kernel)
  have kf66 := hts (.fieldLink RX4 66 "HoldSlips$TokenReader" "token" "I") (by decide +kernel)
  have kf73 := hts (.fieldLink RX4 73 "HoldSlips$TokenReader" "start" "I") (by decide +kernel)
  subst hsz
  have hD := hD0.self (sz := s.heap.size)
  generalize hAe : va_A ((wX8 cyB cyI cyZ cyO a1 a1_bytes M_a1) ++ ((wX4 cyB cyI cyZ cyO h h_at h_text M_h) ++ ((wX9 cyB cyI cyZ cyO h_at h_at_tape M_h_at) ++ ((wX8 cyB cyI cyZ cyO h_at_tape h_at_tape_bytes M_h_at_tape) ++ (wX3 cyB cyI cyZ cyO h_text h_text_action h_text_amount h_text_tests h_text_negated h_text_subject h_text_sign h_text_limit M_h_text))))) s.heap.size = A at hD hX ⊢
  have hA : ∀ q : Nat, s.heap.size ≤ q → A q := fun q h => by rw [← hAe]; exact Or.inr h
  have hS : va_S A s.heap s.heap [] := va_S.rf
  have hl := lv_entry ([.ref h, .ref a1] : List Value) (n := 3) (Nat.le_of_ble_eq_true rfl)
  rw [lg_entry_eq]
  generalize (lg_sl ([.ref h, .ref a1] : List Value) ++ List.replicate (3 - (lg_sl ([.ref h, .ref a1] : List Value)).length) Slot.unset).toArray = ls at hl ⊢
  have hl : lv_has ls 3 [(0, .ref h), (1, .ref a1)] := hl
  have L48 : ∀ (K14 : Mem → Mem → Mem → Mem → Mem → Int32 → Option (Mem × Mem × Mem × Mem)) (hK14 : ∀ (M_h M_h_at M_h_at_tape M_h_text : Mem) (x2 : Int32) (H : Heap) (locs : List Loc) (ls : Array Slot), K14 M_a1 M_h M_h_at M_h_at_tape M_h_text x2 = some (R_h, R_h_at, R_h_at_tape, R_h_text) → va_P (dC, dI) vwCl ((wX8 cyB cyI cyZ cyO a1 a1_bytes M_a1) ++ ((wX4 cyB cyI cyZ cyO h h_at h_text M_h) ++ ((wX9 cyB cyI cyZ cyO h_at h_at_tape M_h_at) ++ ((wX8 cyB cyI cyZ cyO h_at_tape h_at_tape_bytes M_h_at_tape) ++ (wX3 cyB cyI cyZ cyO h_text h_text_action h_text_amount h_text_tests h_text_negated h_text_subject h_text_sign h_text_limit M_h_text))))) H → va_D A ((wX8 cyB cyI cyZ cyO a1 a1_bytes M_a1) ++ ((wX4 cyB cyI cyZ cyO h h_at h_text M_h) ++ ((wX9 cyB cyI cyZ cyO h_at h_at_tape M_h_at) ++ ((wX8 cyB cyI cyZ cyO h_at_tape h_at_tape_bytes M_h_at_tape) ++ (wX3 cyB cyI cyZ cyO h_text h_text_action h_text_amount h_text_tests h_text_negated h_text_subject h_text_sign h_text_limit M_h_text))))) → va_S A s.heap H locs → lv_has ls 3 [(0, .ref h), (2, .int x2)] → W p l e (headSpec wsX4_read ({ frames := 9, cells := 0, slots := 0, locals := 214 } : Room)).room s m ([.ref h, .ref a1] : List Value).toArray below meth c H locs 0 0 (MQ below (QW dC dI none ((wX8 cyB cyI cyZ cyO a1 a1_bytes M_a1) ++ ((wX4 cyB cyI cyZ cyO h h_at h_text R_h) ++ ((wX9 cyB cyI cyZ cyO h_at h_at_tape R_h_at) ++ ((wX8 cyB cyI cyZ cyO h_at_tape h_at_tape_bytes R_h_at_tape) ++ (wX3 cyB cyI cyZ cyO h_text h_text_action h_text_amount h_text_tests h_text_negated h_text_subject h_text_sign h_text_limit R_h_text))))) A) ([.ref h, .ref a1] : List Value).toArray s 0 0 A) (F0 m 14 ls [])), ∀ (M_h M_h_at M_h_at_tape M_h_text : Mem) (x2 : Int32) (H : Heap) (locs : List Loc) (ls : Array Slot), f_X4_read_L48 K14 M_a1 M_h M_h_at M_h_at_tape M_h_text x2 = some (R_h, R_h_at, R_h_at_tape, R_h_text) → va_P (dC, dI) vwCl ((wX8 cyB cyI cyZ cyO a1 a1_bytes M_a1) ++ ((wX4 cyB cyI cyZ cyO h h_at h_text M_h) ++ ((wX9 cyB cyI cyZ cyO h_at h_at_tape M_h_at) ++ ((wX8 cyB cyI cyZ cyO h_at_tape h_at_tape_bytes M_h_at_tape) ++ (wX3 cyB cyI cyZ cyO h_text h_text_action h_text_amount h_text_tests h_text_negated h_text_subject h_text_sign h_text_limit M_h_text))))) H → va_D A ((wX8 cyB cyI cyZ cyO a1 a1_bytes M_a1) ++ ((wX4 cyB cyI cyZ cyO h h_at h_text M_h) ++ ((wX9 cyB cyI cyZ cyO h_at h_at_tape M_h_at) ++ ((wX8 cyB cyI cyZ cyO h_at_tape h_at_tape_bytes M_h_at_tape) ++ (wX3 cyB cyI cyZ cyO h_text h_text_action h_text_amount h_text_tests h_text_negated h_text_subject h_text_sign h_text_limit M_h_text))))) → va_S A s.heap H locs → lv_has ls 3 [(0, .ref h), (2, .int x2)] → W p l e (headSpec wsX4_read ({ frames := 9, cells := 0, slots := 0, locals := 214 } : Room)).room s m ([.ref h, .ref a1] : List Value).toArray below meth c H locs 0 0 (MQ below (QW dC dI none ((wX8 cyB cyI cyZ cyO a1 a1_bytes M_a1) ++ ((wX4 cyB cyI cyZ cyO h h_at h_text R_h) ++ ((wX9 cyB cyI cyZ cyO h_at h_at_tape R_h_at) ++ ((wX8 cyB cyI cyZ cyO h_at_tape h_at_tape_bytes R_h_at_tape) ++ (wX3 cyB cyI cyZ cyO h_text h_text_action h_text_amount h_text_tests h_text_negated h_text_subject h_text_sign h_text_limit R_h_text))))) A) ([.ref h, .ref a1] : List Value).toArray s 0 0 A) (F0 m 48 ls []) := by
    intro K14 hK14 M_h M_h_at M_h_at_tape M_h_text x2 H locs ls hf hP hD hS hl
    rw [f_X4_read_L48] at hf
    refine lv_aload_n hx hb dX4_read_48 rfl (lv_at hl 0 rfl) ?_
    obtain ⟨r49, M_h_49, M_h_text_49, h49, hf⟩ := bd3_some hf
    have hPc := hP.sub (ws' := ((wX4 cyB cyI cyZ cyO h h_at h_text M_h) ++ ((wX9 cyB cyI cyZ cyO h_at h_at_tape M_h_at) ++ (wX3 cyB cyI cyZ cyO h_text h_text_action h_text_amount h_text_tests h_text_negated h_text_subject h_text_sign h_text_limit M_h_text)))) [2, 3, 6, 7, 8, 9, 10, 11, 12, 13] rfl
    have hDc := hD.sub (ws' := ((wX4 cyB cyI cyZ cyO h h_at h_text M_h) ++ ((wX9 cyB cyI cyZ cyO h_at h_at_tape M_h_at) ++ (wX3 cyB cyI cyZ cyO h_text h_text_action h_text_amount h_text_tests h_text_negated h_text_subject h_text_sign h_text_limit M_h_text)))) [2, 3, 6, 7, 8, 9, 10, 11, 12, 13] (by decide) rfl
    refine wr_calli (wc := ((wX4 cyB cyI cyZ cyO h h_at h_text M_h) ++ ((wX9 cyB cyI cyZ cyO h_at h_at_tape M_h_at) ++ (wX3 cyB cyI cyZ cyO h_text h_text_action h_text_amount h_text_tests h_text_negated h_text_subject h_text_sign h_text_limit M_h_text)))) (wr := ((wX8 cyB cyI cyZ cyO a1 a1_bytes M_a1) ++ (wX8 cyB cyI cyZ cyO h_at_tape h_at_tape_bytes M_h_at_tape))) (w1 := ((wX4 cyB cyI cyZ cyO h h_at h_text M_h_49) ++ ((wX9 cyB cyI cyZ cyO h_at h_at_tape M_h_at) ++ (wX3 cyB cyI cyZ cyO h_text h_text_action h_text_amount h_text_tests h_text_negated h_text_subject h_text_sign h_text_limit M_h_text_49)))) (ws' := ((wX8 cyB cyI cyZ cyO a1 a1_bytes M_a1) ++ ((wX4 cyB cyI cyZ cyO h h_at h_text M_h_49) ++ ((wX9 cyB cyI cyZ cyO h_at h_at_tape M_h_at) ++ ((wX8 cyB cyI cyZ cyO h_at_tape h_at_tape_bytes M_h_at_tape) ++ (wX3 cyB cyI cyZ cyO h_text h_text_action h_text_amount h_text_tests h_text_negated h_text_subject h_text_sign h_text_limit M_h_text_49)))))) hP hD hS hA [2, 3, 6, 7, 8, 9, 10, 11, 12, 13] [0, 1, 4, 5] [0, 1, 4, 5, 2, 3, 6, 7, 8, 9, 10, 11, 12, 13] rfl rfl (by decide) (by decide) rfl (by decide) (va_runV (As := []) (rest := []) ⟨hx, hb, hml, hown, hts⟩ (c_X4_take l dC dI cyB cyI cyZ cyO h h_at h_text h_at_tape h_text_action h_text_amount h_text_tests h_text_negated h_text_subject h_text_sign h_text_limit _ M_h M_h_at M_h_text r49 M_h_49 M_h_text_49 h49) (cwV 0 hts gX4_read_X4_take rfl rfl rfl (by decide +kernel) ⟨Nat.le_of_ble_eq_true rfl, Nat.le_of_ble_eq_true rfl⟩) ⟨PW.blind, va_recv hK hP (ci := 4) (q0 := 2) rfl rfl, fun U hU hW => ⟨rfl, by rw [hU], by rw [hU]; exact hPc, hCx.warm hW, hDc.weaken (fun _ _ _ _ => trivial)⟩⟩ rfl rfl hl.1 rfl (lv_room (Nat.le_of_ble_eq_true rfl)) dX4_read_49 ⟨Nat.zero_le _, Nat.zero_le _⟩) (fun H locs hP hD hS => ?_)
    refine lv_if_ne (tgt := 72) hx hb dX4_read_52 (by decide) (fun hc52 => ?_) (fun hc52 => ?_)
    · rw [if_neg hc52] at hf
      refine lv_iinc (v := (x2 + (1 : Int32))) (lv' := [(2, .int (x2 + (1 : Int32))), (0, .ref h)]) hx hb dX4_read_72 hl (k := 1) rfl rfl (by decide) rfl (fun ls hl => ?_)
      refine lv_goto (tgt := 14) hx hb dX4_read_75 (by decide) ?_
      exact hK14 M_h_49 M_h_at M_h_at_tape M_h_text_49 (x2 + (1 : Int32)) _ _ ls hf hP hD hS (lv_sub hl [1, 0] rfl)
    · rw [if_pos hc52] at hf
      refine lv_aload_n hx hb dX4_read_55 rfl (lv_at hl 0 rfl) ?_
      refine lv_iconst (v := (1 : Int32)) hx hb dX4_read_56 (by decide) ?_
      refine va_put (D := (dC, dI)) (ci := 4) (v := .int (1 : Int32)) (ty := .int) (C := RX4) (T := TX4) (N := 12) hx hb hts hin4 tyX4 tyX4_ok nmX4 hown hK hP hD hS 2 rfl rfl 2 (by decide) kf25 (fun _ h9 => h9) rfl (by decide +kernel) rfl rfl (Nat.le_of_ble_eq_true rfl) dX4_read_57 (fun H locs hP hD hS => ?_)
      obtain ⟨M_h_57, eM_h_57, hf⟩ := wr_some hf
      have hP : va_P (dC, dI) vwCl ((wX8 cyB cyI cyZ cyO a1 a1_bytes M_a1) ++ ((wX4 cyB cyI cyZ cyO h h_at h_text M_h_57) ++ ((wX9 cyB cyI cyZ cyO h_at h_at_tape M_h_at) ++ ((wX8 cyB cyI cyZ cyO h_at_tape h_at_tape_bytes M_h_at_tape) ++ (wX3 cyB cyI cyZ cyO h_text h_text_action h_text_amount h_text_tests h_text_negated h_text_subject h_text_sign h_text_limit M_h_text_49))))) H := by rw [eM_h_57]; exact hP
      have hD : va_D A ((wX8 cyB cyI cyZ cyO a1 a1_bytes M_a1) ++ ((wX4 cyB cyI cyZ cyO h h_at h_text M_h_57) ++ ((wX9 cyB cyI cyZ cyO h_at h_at_tape M_h_at) ++ ((wX8 cyB cyI cyZ cyO h_at_tape h_at_tape_bytes M_h_at_tape) ++ (wX3 cyB cyI cyZ cyO h_text h_text_action h_text_amount h_text_tests h_text_negated h_text_subject h_text_sign h_text_limit M_h_text_49))))) := by rw [eM_h_57]; exact hD
      refine lv_aload_n hx hb dX4_read_60 rfl (lv_at hl 0 rfl) ?_
      refine lv_aload_n hx hb dX4_read_61 rfl (lv_at hl 0 rfl) ?_
      refine va_get (D := (dC, dI)) (ci := 4) (v := .ref h_at) (C := RX4) (T := TX4) (N := 12) hx hb hts hin4 hown hK hP 2 rfl rfl 0 (by decide) kf12 (fun _ h9 => h9) rfl dX4_read_62 ?_
      refine va_get (D := (dC, dI)) (ci := 9) (v := .int (M_h_at 2 0)) (C := RX9) (T := TX9) (N := 5) hx hb hts hin9 hown hK hP 3 rfl rfl 2 (by decide) kf73 (fun _ h9 => h9) rfl dX4_read_65 ?_
      refine va_put (D := (dC, dI)) (ci := 4) (v := .int (M_h_at 2 0)) (ty := .int) (C := RX4) (T := TX4) (N := 12) hx hb hts hin4 tyX4 tyX4_ok nmX4 hown hK hP hD hS 2 rfl rfl 3 (by decide) kf29 (fun _ h9 => h9) rfl (by decide +kernel) rfl rfl (Nat.le_of_ble_eq_true rfl) dX4_read_68 (fun H locs hP hD hS => ?_)
      obtain ⟨M_h_68, eM_h_68, hf⟩ := wr_some hf
      have hP : va_P (dC, dI) vwCl ((wX8 cyB cyI cyZ cyO a1 a1_bytes M_a1) ++ ((wX4 cyB cyI cyZ cyO h h_at h_text M_h_68) ++ ((wX9 cyB cyI cyZ cyO h_at h_at_tape M_h_at) ++ ((wX8 cyB cyI cyZ cyO h_at_tape h_at_tape_bytes M_h_at_tape) ++ (wX3 cyB cyI cyZ cyO h_text h_text_action h_text_amount h_text_tests h_text_negated h_text_subject h_text_sign h_text_limit M_h_text_49))))) H := by rw [eM_h_68]; exact hP
      have hD : va_D A ((wX8 cyB cyI cyZ cyO a1 a1_bytes M_a1) ++ ((wX4 cyB cyI cyZ cyO h h_at h_text M_h_68) ++ ((wX9 cyB cyI cyZ cyO h_at h_at_tape M_h_at) ++ ((wX8 cyB cyI cyZ cyO h_at_tape h_at_tape_bytes M_h_at_tape) ++ (wX3 cyB cyI cyZ cyO h_text h_text_action h_text_amount h_text_tests h_text_negated h_text_subject h_text_sign h_text_limit M_h_text_49))))) := by rw [eM_h_68]; exact hD
      obtain ⟨hq0, hq1, hq2, hq3⟩ := pj4 hf
      subst hq0
      subst hq1
      subst hq2
      subst hq3
      exact W.vret hx hb hr (fun t ht hW => ⟨rfl, by rw [ht]; exact hP, hD, hS.F ht⟩) hS.2.2 dX4_read_71
  have L78 : ∀ (M_h M_h_at M_h_at_tape M_h_text : Mem) (H : Heap) (locs : List Loc) (ls : Array Slot), f_X4_read_L78 M_a1 M_h M_h_at M_h_at_tape M_h_text = some (R_h, R_h_at, R_h_at_tape, R_h_text) → va_P (dC, dI) vwCl ((wX8 cyB cyI cyZ cyO a1 a1_bytes M_a1) ++ ((wX4 cyB cyI cyZ cyO h h_at h_text M_h) ++ ((wX9 cyB cyI cyZ cyO h_at h_at_tape M_h_at) ++ ((wX8 cyB cyI cyZ cyO h_at_tape h_at_tape_bytes M_h_at_tape) ++ (wX3 cyB cyI cyZ cyO h_text h_text_action h_text_amount h_text_tests h_text_negated h_text_subject h_text_sign h_text_limit M_h_text))))) H → va_D A ((wX8 cyB cyI cyZ cyO a1 a1_bytes M_a1) ++ ((wX4 cyB cyI cyZ cyO h h_at h_text M_h) ++ ((wX9 cyB cyI cyZ cyO h_at h_at_tape M_h_at) ++ ((wX8 cyB cyI cyZ cyO h_at_tape h_at_tape_bytes M_h_at_tape) ++ (wX3 cyB cyI cyZ cyO h_text h_text_action h_text_amount h_text_tests h_text_negated h_text_subject h_text_sign h_text_limit M_h_text))))) → va_S A s.heap H locs → lv_has ls 3 [(0, .ref h)] → W p l e (headSpec wsX4_read ({ frames := 9, cells := 0, slots := 0, locals := 214 } : Room)).room s m ([.ref h, .ref a1] : List Value).toArray below meth c H locs 0 0 (MQ below (QW dC dI none ((wX8 cyB cyI cyZ cyO a1 a1_bytes M_a1) ++ ((wX4 cyB cyI cyZ cyO h h_at h_text R_h) ++ ((wX9 cyB cyI cyZ cyO h_at h_at_tape R_h_at) ++ ((wX8 cyB cyI cyZ cyO h_at_tape h_at_tape_bytes R_h_at_tape) ++ (wX3 cyB cyI cyZ cyO h_text h_text_action h_text_amount h_text_tests h_text_negated h_text_subject h_text_sign h_text_limit R_h_text))))) A) ([.ref h, .ref a1] : List Value).toArray s 0 0 A) (F0 m 78 ls []) := by
    intro  M_h M_h_at M_h_at_tape M_h_text H locs ls hf hP hD hS hl
    rw [f_X4_read_L78] at hf
    refine lv_aload_n hx hb dX4_read_78 rfl (lv_at hl 0 rfl) ?_
    refine va_get (D := (dC, dI)) (ci := 4) (v := .int (M_h 4 0)) (C := RX4) (T := TX4) (N := 12) hx hb hts hin4 hown hK hP 2 rfl rfl 4 (by decide) kf32 (fun _ h9 => h9) rfl dX4_read_79 ?_
    refine lv_iconst (v := (-1 : Int32)) hx hb dX4_read_82 (by decide) ?_
    refine lv_icmp_eq (tgt := 99) hx hb dX4_read_83 (by decide) (fun hc83 => ?_) (fun hc83 => ?_)
    · rw [if_pos hc83] at hf
      obtain ⟨hq0, hq1, hq2, hq3⟩ := pj4 hf
      subst hq0
      subst hq1
      subst hq2
      subst hq3
      exact W.vret hx hb hr (fun t ht hW => ⟨rfl, by rw [ht]; exact hP, hD, hS.F ht⟩) hS.2.2 dX4_read_99
    · rw [if_neg hc83] at hf
      refine lv_aload_n hx hb dX4_read_86 rfl (lv_at hl 0 rfl) ?_
      refine lv_iconst (v := (3 : Int32)) hx hb dX4_read_87 (by decide) ?_
      refine va_put (D := (dC, dI)) (ci := 4) (v := .int (3 : Int32)) (ty := .int) (C := RX4) (T := TX4) (N := 12) hx hb hts hin4 tyX4 tyX4_ok nmX4 hown hK hP hD hS 2 rfl rfl 2 (by decide) kf25 (fun _ h9 => h9) rfl (by decide +kernel) rfl rfl (Nat.le_of_ble_eq_true rfl) dX4_read_88 (fun H locs hP hD hS => ?_)
      obtain ⟨M_h_88, eM_h_88, hf⟩ := wr_some hf
      have hP : va_P (dC, dI) vwCl ((wX8 cyB cyI cyZ cyO a1 a1_bytes M_a1) ++ ((wX4 cyB cyI cyZ cyO h h_at h_text M_h_88) ++ ((wX9 cyB cyI cyZ cyO h_at h_at_tape M_h_at) ++ ((wX8 cyB cyI cyZ cyO h_at_tape h_at_tape_bytes M_h_at_tape) ++ (wX3 cyB cyI cyZ cyO h_text h_text_action h_text_amount h_text_tests h_text_negated h_text_subject h_text_sign h_text_limit M_h_text))))) H := by rw [eM_h_88]; exact hP
      have hD : va_D A ((wX8 cyB cyI cyZ cyO a1 a1_bytes M_a1) ++ ((wX4 cyB cyI cyZ cyO h h_at h_text M_h_88) ++ ((wX9 cyB cyI cyZ cyO h_at h_at_tape M_h_at) ++ ((wX8 cyB cyI cyZ cyO h_at_tape h_at_tape_bytes M_h_at_tape) ++ (wX3 cyB cyI cyZ cyO h_text h_text_action h_text_amount h_text_tests h_text_negated h_text_subject h_text_sign h_text_limit M_h_text))))) := by rw [eM_h_88]; exact hD
      refine lv_aload_n hx hb dX4_read_91 rfl (lv_at hl 0 rfl) ?_
      refine lv_aload_n hx hb dX4_read_92 rfl (lv_at hl 0 rfl) ?_
      refine va_get (D := (dC, dI)) (ci := 4) (v := .int (M_h_88 4 0)) (C := RX4) (T := TX4) (N := 12) hx hb hts hin4 hown hK hP 2 rfl rfl 4 (by decide) kf32 (fun _ h9 => h9) rfl dX4_read_93 ?_
      refine va_put (D := (dC, dI)) (ci := 4) (v := .int (M_h_88 4 0)) (ty := .int) (C := RX4) (T := TX4) (N := 12) hx hb hts hin4 tyX4 tyX4_ok nmX4 hown hK hP hD hS 2 rfl rfl 3 (by decide) kf29 (fun _ h9 => h9) rfl (by decide +kernel) rfl rfl (Nat.le_of_ble_eq_true rfl) dX4_read_96 (fun H locs hP hD hS => ?_)
      obtain ⟨M_h_96, eM_h_96, hf⟩ := wr_some hf
      have hP : va_P (dC, dI) vwCl ((wX8 cyB cyI cyZ cyO a1 a1_bytes M_a1) ++ ((wX4 cyB cyI cyZ cyO h h_at h_text M_h_96) ++ ((wX9 cyB cyI cyZ cyO h_at h_at_tape M_h_at) ++ ((wX8 cyB cyI cyZ cyO h_at_tape h_at_tape_bytes M_h_at_tape) ++ (wX3 cyB cyI cyZ cyO h_text h_text_action h_text_amount h_text_tests h_text_negated h_text_subject h_text_sign h_text_limit M_h_text))))) H := by rw [eM_h_96]; exact hP
      have hD : va_D A ((wX8 cyB cyI cyZ cyO a1 a1_bytes M_a1) ++ ((wX4 cyB cyI cyZ cyO h h_at h_text M_h_96) ++ ((wX9 cyB cyI cyZ cyO h_at h_at_tape M_h_at) ++ ((wX8 cyB cyI cyZ cyO h_at_tape h_at_tape_bytes M_h_at_tape) ++ (wX3 cyB cyI cyZ cyO h_text h_text_action h_text_amount h_text_tests h_text_negated h_text_subject h_text_sign h_text_limit M_h_text))))) := by rw [eM_h_96]; exact hD
      obtain ⟨hq0, hq1, hq2, hq3⟩ := pj4 hf
      subst hq0
      subst hq1
      subst hq2
      subst hq3
      exact W.vret hx hb hr (fun t ht hW => ⟨rfl, by rw [ht]; exact hP, hD, hS.F ht⟩) hS.2.2 dX4_read_99
  have L14 : ∀ (n : Nat), ∀ (M_h M_h_at M_h_at_tape M_h_text : Mem) (x2 : Int32) (H : Heap) (locs : List Loc) (ls : Array Slot), f_X4_read_L14 n M_a1 M_h M_h_at M_h_at_tape M_h_text x2 = some (R_h, R_h_at, R_h_at_tape, R_h_text) → va_P (dC, dI) vwCl ((wX8 cyB cyI cyZ cyO a1 a1_bytes M_a1) ++ ((wX4 cyB cyI cyZ cyO h h_at h_text M_h) ++ ((wX9 cyB cyI cyZ cyO h_at h_at_tape M_h_at) ++ ((wX8 cyB cyI cyZ cyO h_at_tape h_at_tape_bytes M_h_at_tape) ++ (wX3 cyB cyI cyZ cyO h_text h_text_action h_text_amount h_text_tests h_text_negated h_text_subject h_text_sign h_text_limit M_h_text))))) H → va_D A ((wX8 cyB cyI cyZ cyO a1 a1_bytes M_a1) ++ ((wX4 cyB cyI cyZ cyO h h_at h_text M_h) ++ ((wX9 cyB cyI cyZ cyO h_at h_at_tape M_h_at) ++ ((wX8 cyB cyI cyZ cyO h_at_tape h_at_tape_bytes M_h_at_tape) ++ (wX3 cyB cyI cyZ cyO h_text h_text_action h_text_amount h_text_tests h_text_negated h_text_subject h_text_sign h_text_limit M_h_text))))) → va_S A s.heap H locs → lv_has ls 3 [(0, .ref h), (2, .int x2)] → W p l e (headSpec wsX4_read ({ frames := 9, cells := 0, slots := 0, locals := 214 } : Room)).room s m ([.ref h, .ref a1] : List Value).toArray below meth c H locs 0 0 (MQ below (QW dC dI none ((wX8 cyB cyI cyZ cyO a1 a1_bytes M_a1) ++ ((wX4 cyB cyI cyZ cyO h h_at h_text R_h) ++ ((wX9 cyB cyI cyZ cyO h_at h_at_tape R_h_at) ++ ((wX8 cyB cyI cyZ cyO h_at_tape h_at_tape_bytes R_h_at_tape) ++ (wX3 cyB cyI cyZ cyO h_text h_text_action h_text_amount h_text_tests h_text_negated h_text_subject h_text_sign h_text_limit R_h_text))))) A) ([.ref h, .ref a1] : List Value).toArray s 0 0 A) (F0 m 14 ls []) := by
    intro n
    induction n with
    | zero => intro M_h M_h_at M_h_at_tape M_h_text x2 H locs ls hf hP hD hS hl; rw [f_X4_read_L14] at hf; cases hf
    | succ n ih =>
      intro M_h M_h_at M_h_at_tape M_h_text x2 H locs ls hf hP hD hS hl
      rw [f_X4_read_L14] at hf
      refine lv_iload_n hx hb dX4_read_14 rfl (lv_at hl 1 rfl) ?_
      refine lv_sipush (v := (400 : Int32)) hx hb dX4_read_15 (by decide) ?_
      refine lv_icmp_gt (tgt := 78) hx hb dX4_read_18 (by decide) (fun hc18 => ?_) (fun hc18 => ?_)
      · rw [if_pos hc18] at hf
        exact L78 M_h M_h_at M_h_at_tape M_h_text _ _ ls hf hP hD hS (lv_sub hl [0] rfl)
      · rw [if_neg hc18] at hf
        refine lv_aload_n hx hb dX4_read_21 rfl (lv_at hl 0 rfl) ?_
        refine va_get (D := (dC, dI)) (ci := 4) (v := .ref h_at) (C := RX4) (T := TX4) (N := 12) hx hb hts hin4 hown hK hP 2 rfl rfl 0 (by decide) kf12 (fun _ h9 => h9) rfl dX4_read_22 ?_
        obtain ⟨M_h_at_25, h25, hf⟩ := bd1_some hf
        have hPc := hP.sub (ws' := ((wX9 cyB cyI cyZ cyO h_at h_at_tape M_h_at) ++ (wX8 cyB cyI cyZ cyO h_at_tape h_at_tape_bytes M_h_at_tape))) [3, 4, 5] rfl
        have hDc := hD.sub (ws' := ((wX9 cyB cyI cyZ cyO h_at h_at_tape M_h_at) ++ (wX8 cyB cyI cyZ cyO h_at_tape h_at_tape_bytes M_h_at_tape))) [3, 4, 5] (by decide) rfl
        refine wr_callv (wc := ((wX9 cyB cyI cyZ cyO h_at h_at_tape M_h_at) ++ (wX8 cyB cyI cyZ cyO h_at_tape h_at_tape_bytes M_h_at_tape))) (wr := ((wX8 cyB cyI cyZ cyO a1 a1_bytes M_a1) ++ ((wX4 cyB cyI cyZ cyO h h_at h_text M_h) ++ (wX3 cyB cyI cyZ cyO h_text h_text_action h_text_amount h_text_tests h_text_negated h_text_subject h_text_sign h_text_limit M_h_text)))) (w1 := ((wX9 cyB cyI cyZ cyO h_at h_at_tape M_h_at_25) ++ (wX8 cyB cyI cyZ cyO h_at_tape h_at_tape_bytes M_h_at_tape))) (ws' := ((wX8 cyB cyI cyZ cyO a1 a1_bytes M_a1) ++ ((wX4 cyB cyI cyZ cyO h h_at h_text M_h) ++ ((wX9 cyB cyI cyZ cyO h_at h_at_tape M_h_at_25) ++ ((wX8 cyB cyI cyZ cyO h_at_tape h_at_tape_bytes M_h_at_tape) ++ (wX3 cyB cyI cyZ cyO h_text h_text_action h_text_amount h_text_tests h_text_negated h_text_subject h_text_sign h_text_limit M_h_text)))))) hP hD hS hA [3, 4, 5] [0, 1, 2, 6, 7, 8, 9, 10, 11, 12, 13] [0, 1, 2, 11, 12, 13, 3, 4, 5, 6, 7, 8, 9, 10] rfl rfl (by decide) (by decide) rfl (by decide) (va_runV (As := []) (rest := []) ⟨hx, hb, hml, hown, hts⟩ (c_X9_step l dC dI cyB cyI cyZ cyO adK adV h_at h_at_tape h_at_tape_bytes _ M_h_at M_h_at_tape M_h_at_25 h25) (cwV 0 hts gX4_read_X9_step rfl rfl rfl (by decide +kernel) ⟨Nat.le_of_ble_eq_true rfl, Nat.le_of_ble_eq_true rfl⟩) ⟨PWS.blind, va_recv hK hP (ci := 9) (q0 := 3) rfl rfl, fun U hU hW => ⟨rfl, by rw [hU], by rw [hU]; exact hPc, hCx.warm hW, hDc.weaken (fun _ _ _ _ => trivial), hX.at hS (va_free (wc := ((wX9 cyB cyI cyZ cyO h_at h_at_tape M_h_at) ++ (wX8 cyB cyI cyZ cyO h_at_tape h_at_tape_bytes M_h_at_tape))) hD hS hA [3, 4, 5] rfl) hU hW⟩⟩ rfl rfl hl.1 rfl (lv_room (Nat.le_of_ble_eq_true rfl)) dX4_read_25 ⟨Nat.zero_le _, Nat.zero_le _⟩) (fun H locs hP hD hS => ?_)
        refine lv_aload_n hx hb dX4_read_28 rfl (lv_at hl 0 rfl) ?_
        refine va_get (D := (dC, dI)) (ci := 4) (v := .ref h_at) (C := RX4) (T := TX4) (N := 12) hx hb hts hin4 hown hK hP 2 rfl rfl 0 (by decide) kf12 (fun _ h9 => h9) rfl dX4_read_29 ?_
        refine va_get (D := (dC, dI)) (ci := 9) (v := .int (M_h_at_25 1 0)) (C := RX9) (T := TX9) (N := 5) hx hb hts hin9 hown hK hP 3 rfl rfl 1 (by decide) kf66 (fun _ h9 => h9) rfl dX4_read_32 ?_
        refine lv_if_ne (tgt := 48) hx hb dX4_read_35 (by decide) (fun hc35 => ?_) (fun hc35 => ?_)
        · rw [if_neg hc35] at hf
          exact L48 (f_X4_read_L14 n) (fun z0 z1 z2 z3 z4 z5 z6 z7 z8 z9 z10 z11 z12 => ih z0 z1 z2 z3 z4 z5 z6 z7 z8 z9 z10 z11 z12) M_h M_h_at_25 M_h_at_tape M_h_text x2 _ _ ls hf hP hD hS (lv_sub hl [0, 1] rfl)
        · rw [if_pos hc35] at hf
          refine lv_aload_n hx hb dX4_read_38 rfl (lv_at hl 0 rfl) ?_
          refine va_get (D := (dC, dI)) (ci := 4) (v := .int (M_h 5 0)) (C := RX4) (T := TX4) (N := 12) hx hb hts hin4 hown hK hP 2 rfl rfl 5 (by decide) kf35 (fun _ h9 => h9) rfl dX4_read_39 ?_
          refine lv_if_ne (tgt := 48) hx hb dX4_read_42 (by decide) (fun hc42 => ?_) (fun hc42 => ?_)
          · rw [if_neg hc42] at hf
            exact L48 (f_X4_read_L14 n) (fun z0 z1 z2 z3 z4 z5 z6 z7 z8 z9 z10 z11 z12 => ih z0 z1 z2 z3 z4 z5 z6 z7 z8 z9 z10 z11 z12) M_h M_h_at_25 M_h_at_tape M_h_text x2 _ _ ls hf hP hD hS (lv_sub hl [0, 1] rfl)
          · rw [if_pos hc42] at hf
            refine lv_goto (tgt := 78) hx hb dX4_read_45 (by decide) ?_
            exact L78 M_h M_h_at_25 M_h_at_tape M_h_text _ _ ls hf hP hD hS (lv_sub hl [0] rfl)
  rw [f_X4_read] at hf
  refine lv_aload_n hx hb dX4_read_0 rfl (lv_at hl 0 rfl) ?_
  obtain ⟨M_h_1, M_h_text_1, h1, hf⟩ := bd2_some hf
  have hPc := hP.sub (ws' := ((wX4 cyB cyI cyZ cyO h h_at h_text M_h) ++ (wX3 cyB cyI cyZ cyO h_text h_text_action h_text_amount h_text_tests h_text_negated h_text_subject h_text_sign h_text_limit M_h_text))) [2, 6, 7, 8, 9, 10, 11, 12, 13] rfl
  have hDc := hD.sub (ws' := ((wX4 cyB cyI cyZ cyO h h_at h_text M_h) ++ (wX3 cyB cyI cyZ cyO h_text h_text_action h_text_amount h_text_tests h_text_negated h_text_subject h_text_sign h_text_limit M_h_text))) [2, 6, 7, 8, 9, 10, 11, 12, 13] (by decide) rfl
  refine wr_callv (wc := ((wX4 cyB cyI cyZ cyO h h_at h_text M_h) ++ (wX3 cyB cyI cyZ cyO h_text h_text_action h_text_amount h_text_tests h_text_negated h_text_subject h_text_sign h_text_limit M_h_text))) (wr := ((wX8 cyB cyI cyZ cyO a1 a1_bytes M_a1) ++ ((wX9 cyB cyI cyZ cyO h_at h_at_tape M_h_at) ++ (wX8 cyB cyI cyZ cyO h_at_tape h_at_tape_bytes M_h_at_tape)))) (w1 := ((wX4 cyB cyI cyZ cyO h h_at h_text M_h_1) ++ (wX3 cyB cyI cyZ cyO h_text h_text_action h_text_amount h_text_tests h_text_negated h_text_subject h_text_sign h_text_limit M_h_text_1))) (ws' := ((wX8 cyB cyI cyZ cyO a1 a1_bytes M_a1) ++ ((wX4 cyB cyI cyZ cyO h h_at h_text M_h_1) ++ ((wX9 cyB cyI cyZ cyO h_at h_at_tape M_h_at) ++ ((wX8 cyB cyI cyZ cyO h_at_tape h_at_tape_bytes M_h_at_tape) ++ (wX3 cyB cyI cyZ cyO h_text h_text_action h_text_amount h_text_tests h_text_negated h_text_subject h_text_sign h_text_limit M_h_text_1)))))) hP hD hS hA [2, 6, 7, 8, 9, 10, 11, 12, 13] [0, 1, 3, 4, 5] [0, 1, 5, 2, 3, 4, 6, 7, 8, 9, 10, 11, 12, 13] rfl rfl (by decide) (by decide) rfl (by decide) (va_runV (As := []) (rest := []) ⟨hx, hb, hml, hown, hts⟩ (c_X4_begin l dC dI cyB cyI cyZ cyO h h_at h_text h_text_action h_text_amount h_text_tests h_text_negated h_text_subject h_text_sign h_text_limit _ M_h M_h_text M_h_1 M_h_text_1 h1) (cwV 0 hts gX4_read_X4_begin rfl rfl rfl (by decide +kernel) ⟨Nat.le_of_ble_eq_true rfl, Nat.le_of_ble_eq_true rfl⟩) ⟨PW.blind, va_recv hK hP (ci := 4) (q0 := 2) rfl rfl, fun U hU hW => ⟨rfl, by rw [hU], by rw [hU]; exact hPc, hCx.warm hW, hDc.weaken (fun _ _ _ _ => trivial)⟩⟩ rfl rfl hl.1 rfl (lv_room (Nat.le_of_ble_eq_true rfl)) dX4_read_1 ⟨Nat.zero_le _, Nat.zero_le _⟩) (fun H locs hP hD hS => ?_)
  refine lv_aload_n hx hb dX4_read_4 rfl (lv_at hl 0 rfl) ?_
  refine va_get (D := (dC, dI)) (ci := 4) (v := .ref h_at) (C := RX4) (T := TX4) (N := 12) hx hb hts hin4 hown hK hP 2 rfl rfl 0 (by decide) kf12 (fun _ h9 => h9) rfl dX4_read_5 ?_
  refine lv_aload_n hx hb dX4_read_8 rfl (lv_at hl 1 rfl) ?_
  obtain ⟨M_h_at_9, M_h_at_tape_9, h9, hf⟩ := bd2_some hf
  have hPc := hP.sub (ws' := ((wX8 cyB cyI cyZ cyO a1 a1_bytes M_a1) ++ ((wX9 cyB cyI cyZ cyO h_at h_at_tape M_h_at) ++ (wX8 cyB cyI cyZ cyO h_at_tape h_at_tape_bytes M_h_at_tape)))) [0, 1, 3, 4, 5] rfl
  have hDc := hD.sub (ws' := ((wX8 cyB cyI cyZ cyO a1 a1_bytes M_a1) ++ ((wX9 cyB cyI cyZ cyO h_at h_at_tape M_h_at) ++ (wX8 cyB cyI cyZ cyO h_at_tape h_at_tape_bytes M_h_at_tape)))) [0, 1, 3, 4, 5] (by decide) rfl
  refine wr_callv (wc := ((wX8 cyB cyI cyZ cyO a1 a1_bytes M_a1) ++ ((wX9 cyB cyI cyZ cyO h_at h_at_tape M_h_at) ++ (wX8 cyB cyI cyZ cyO h_at_tape h_at_tape_bytes M_h_at_tape)))) (wr := ((wX4 cyB cyI cyZ cyO h h_at h_text M_h_1) ++ (wX3 cyB cyI cyZ cyO h_text h_text_action h_text_amount h_text_tests h_text_negated h_text_subject h_text_sign h_text_limit M_h_text_1))) (w1 := ((wX8 cyB cyI cyZ cyO a1 a1_bytes M_a1) ++ ((wX9 cyB cyI cyZ cyO h_at h_at_tape M_h_at_9) ++ (wX8 cyB cyI cyZ cyO h_at_tape h_at_tape_bytes M_h_at_tape_9)))) (ws' := ((wX8 cyB cyI cyZ cyO a1 a1_bytes M_a1) ++ ((wX4 cyB cyI cyZ cyO h h_at h_text M_h_1) ++ ((wX9 cyB cyI cyZ cyO h_at h_at_tape M_h_at_9) ++ ((wX8 cyB cyI cyZ cyO h_at_tape h_at_tape_bytes M_h_at_tape_9) ++ (wX3 cyB cyI cyZ cyO h_text h_text_action h_text_amount h_text_tests h_text_negated h_text_subject h_text_sign h_text_limit M_h_text_1)))))) hP hD hS hA [0, 1, 3, 4, 5] [2, 6, 7, 8, 9, 10, 11, 12, 13] [9, 10, 0, 11, 12, 13, 1, 2, 3, 4, 5, 6, 7, 8] rfl rfl (by decide) (by decide) rfl (by decide) (va_runV (As := [.ref a1]) (rest := []) ⟨hx, hb, hml, hown, hts⟩ (c_X9_begin l dC dI cyB cyI cyZ cyO a1 a1_bytes h_at h_at_tape h_at_tape_bytes _ M_a1 M_h_at M_h_at_tape M_h_at_9 M_h_at_tape_9 h9) (cwV 1 hts gX4_read_X9_begin rfl rfl rfl (by decide +kernel) ⟨Nat.le_of_ble_eq_true rfl, Nat.le_of_ble_eq_true rfl⟩) ⟨PW.blind, va_recv hK hP (ci := 9) (q0 := 3) rfl rfl, fun U hU hW => ⟨rfl, by rw [hU], by rw [hU]; exact hPc, hCx.warm hW, hDc.weaken (fun _ _ _ _ => trivial)⟩⟩ rfl rfl hl.1 rfl (lv_room (Nat.le_of_ble_eq_true rfl)) dX4_read_9 ⟨Nat.zero_le _, Nat.zero_le _⟩) (fun H locs hP hD hS => ?_)
  refine lv_iconst (v := (0 : Int32)) hx hb dX4_read_12 (by decide) ?_
  refine lv_istore_n (lv' := [(2, .int (0 : Int32)), (0, .ref h), (1, .ref a1)]) hx hb dX4_read_13 rfl hl (by decide) rfl (fun ls hl => ?_)
  exact L14 FU M_h_1 M_h_at_9 M_h_at_tape_9 M_h_text_1 (0 : Int32) _ _ ls hf hP hD hS (lv_sub hl [1, 0] rfl)
set_option maxHeartbeats 4000000 in
set_option maxRecDepth 100000 in
theorem c_X11_decree (l : Launch) (dC : Nat → ClassId) (dI : Nat → Nat → Nat) (cyB cyI cyZ cyO : ClassId) (adK adV : Nat → Nat) (h h_now h_images h_reader h_search h_now_tape h_now_law h_now_people h_now_rules h_now_cargo h_now_debts h_now_ledger h_now_law_action h_now_law_amount h_now_law_tests h_now_law_negated h_now_law_subject h_now_law_sign h_now_law_limit h_now_tape_bytes h_reader_at h_reader_text h_reader_at_tape h_reader_at_tape_bytes h_reader_text_action h_reader_text_amount h_reader_text_tests h_reader_text_negated h_reader_text_subject h_reader_text_sign h_reader_text_limit : Nat) (sz : Nat) (M_h_now : Mem) (M_h_now_law : Mem) (M_h_now_tape : Mem) (M_h_reader : Mem) (M_h_reader_at : Mem) (M_h_reader_at_tape : Mem) (M_h_reader_text : Mem) (r : Int32) (R_h_now : Mem) (R_h_now_law : Mem) (R_h_now_tape : Mem) (R_h_reader : Mem) (R_h_reader_at : Mem) (R_h_reader_at_tape : Mem) (R_h_reader_text : Mem) (hf : f_X11_decree M_h_now M_h_now_law M_h_now_tape M_h_reader M_h_reader_at M_h_reader_at_tape M_h_reader_text = some (r, R_h_now, R_h_now_law, R_h_now_tape, R_h_reader, R_h_reader_at, R_h_reader_at_tape, R_h_reader_text)) : Met l yX11_decree wsX11_decree ({ frames := 10, cells := 0, slots := 0, locals := 236 } : Room) (PWS dC dI cyB cyI cyZ cyO adK adV ([.ref h] : List Value) ((wX11 cyB cyI cyZ cyO h h_now h_images h_reader h_search) ++ ((wX7 cyB cyI cyZ cyO h_now h_now_tape h_now_law h_now_people h_now_rules h_now_cargo h_now_debts h_now_ledger M_h_now) ++ ((wX3 cyB cyI cyZ cyO h_now_law h_now_law_action h_now_law_amount h_now_law_tests h_now_law_negated h_now_law_subject h_now_law_sign h_now_law_limit M_h_now_law) ++ ((wX8 cyB cyI cyZ cyO h_now_tape h_now_tape_bytes M_h_now_tape) ++ ((wX4 cyB cyI cyZ cyO h_reader h_reader_at h_reader_text M_h_reader) ++ ((wX9 cyB cyI cyZ cyO h_reader_at h_reader_at_tape M_h_reader_at) ++ ((wX8 cyB cyI cyZ cyO h_reader_at_tape h_reader_at_tape_bytes M_h_reader_at_tape) ++ (wX3 cyB cyI cyZ cyO h_reader_text h_reader_text_action h_reader_text_amount h_reader_text_tests h_reader_text_negated h_reader_text_subject h_reader_text_sign h_reader_text_limit M_h_reader_text)))))))) sz) (QW dC dI (some (.int r)) ((wX11 cyB cyI cyZ cyO h h_now h_images h_reader h_search) ++ ((wX7 cyB cyI cyZ cyO h_now h_now_tape h_now_law h_now_people h_now_rules h_now_cargo h_now_debts h_now_ledger R_h_now) ++ ((wX3 cyB cyI cyZ cyO h_now_law h_now_law_action h_now_law_amount h_now_law_tests h_now_law_negated h_now_law_subject h_now_law_sign h_now_law_limit R_h_now_law) ++ ((wX8 cyB cyI cyZ cyO h_now_tape h_now_tape_bytes R_h_now_tape) ++ ((wX4 cyB cyI cyZ cyO h_reader h_reader_at h_reader_text R_h_reader) ++ ((wX9 cyB cyI cyZ cyO h_reader_at h_reader_at_tape R_h_reader_at) ++ ((wX8 cyB cyI cyZ cyO h_reader_at_tape h_reader_at_tape_bytes R_h_reader_at_tape) ++ (wX3 cyB cyI cyZ cyO h_reader_text h_reader_text_action h_reader_text_amount h_reader_text_tests h_reader_text_negated h_reader_text_subject h_reader_text_sign h_reader_text_limit R_h_reader_text)))))))) (va_A ((wX11 cyB cyI cyZ cyO h h_now h_images h_reader h_search) ++ ((wX7 cyB cyI cyZ cyO h_now h_now_tape h_now_law h_now_people h_now_rules h_now_cargo h_now_debts h_now_ledger M_h_now) ++ ((wX3 cyB cyI cyZ cyO h_now_law h_now_law_action h_now_law_amount h_now_law_tests h_now_law_negated h_now_law_subject h_now_law_sign h_now_law_limit M_h_now_law) ++ ((wX8 cyB cyI cyZ cyO h_now_tape h_now_tape_bytes M_h_now_tape) ++ ((wX4 cyB cyI cyZ cyO h_reader h_reader_at h_reader_text M_h_reader) ++ ((wX9 cyB cyI cyZ cyO h_reader_at h_reader_at_tape M_h_reader_at) ++ ((wX8 cyB cyI cyZ cyO h_reader_at_tape h_reader_at_tape_bytes M_h_reader_at_tape) ++ (wX3 cyB cyI cyZ cyO h_reader_text h_reader_text_action h_reader_text_amount h_reader_text_tests h_reader_text_negated h_reader_text_subject h_reader_text_sign h_reader_text_limit M_h_reader_text)))))))) sz)) 0 0 (va_A ((wX11 cyB cyI cyZ cyO h h_now h_images h_reader h_search) ++ ((wX7 cyB cyI cyZ cyO h_now h_now_tape h_now_law h_now_people h_now_rules h_now_cargo h_now_debts h_now_ledger M_h_now) ++ ((wX3 cyB cyI cyZ cyO h_now_law h_now_law_action h_now_law_amount h_now_law_tests h_now_law_negated h_now_law_subject h_now_law_sign h_now_law_limit M_h_now_law) ++ ((wX8 cyB cyI cyZ cyO h_now_tape h_now_tape_bytes M_h_now_tape) ++ ((wX4 cyB cyI cyZ cyO h_reader h_reader_at h_reader_text M_h_reader) ++ ((wX9 cyB cyI cyZ cyO h_reader_at h_reader_at_tape M_h_reader_at) ++ ((wX8 cyB cyI cyZ cyO h_reader_at_tape h_reader_at_tape_bytes M_h_reader_at_tape) ++ (wX3 cyB cyI cyZ cyO h_reader_text h_reader_text_action h_reader_text_amount h_reader_text_tests h_reader_text_negated h_reader_text_subject h_reader_text_sign h_reader_text_limit M_h_reader_text)))))))) sz) := by
  refine Met.ofW (cc := cX11_decree) (maxL := 1) (ret := (some .int)) (by decide) rfl ?_
  intro p e s m args below meth c s₁ B hml hv
  obtain ⟨rfl, hsz, hP, hCx, hD0, hX⟩ := hv
  have hK := hCx.1
  have hN := hCx.2
  have hx := B.exec
  have hb := B.bytes
  have hr := B.returns
  have hts := atoms_spec (ws := wsX11_decree) B.pre
  have hown : s.vm.findClass RX11 = some m.cls := findClass_of_methodNamed B.named
  have hlocks := B.notSynchronized
  have hin3 : ∀ w ∈ u_ws RX3 TX3 8, w ∈ wsX11_decree := fun w h => List.mem_cons_of_mem _ (List.mem_append_left _ (List.mem_append_right _ h))
  have hin4 : ∀ w ∈ u_ws RX4 TX4 12, w ∈ wsX11_decree := fun w h => List.mem_cons_of_mem _ (List.mem_append_left _ (List.mem_append_left _ (List.mem_append_right _ h)))
  have hin7 : ∀ w ∈ u_ws RX7 TX7 14, w ∈ wsX11_decree := fun w h => List.mem_cons_of_mem _ (List.mem_append_left _ (List.mem_append_left _ (List.mem_append_left _ (List.mem_append_left _ (List.mem_append_right _ h)))))
  have hin8 : ∀ w ∈ u_ws RX8 TX8 2, w ∈ wsX11_decree := fun w h => List.mem_cons_of_mem _ (List.mem_append_left _ (List.mem_append_left _ (List.mem_append_left _ (List.mem_append_right _ h))))
  have hin11 : ∀ w ∈ u_ws RX11 TX11 4, w ∈ wsX11_decree := fun w h => List.mem_cons_of_mem _ (List.mem_append_left _ (List.mem_append_left _ (List.mem_append_left _ (List.mem_append_left _ (List.mem_append_left _ (List.mem_append_right _ h))))))
  have kf10 := hts (.fieldLink RX11 10 "HoldSlips" "now" "LHoldSlips$State;") (by decide +kernel)
  have kf23 := hts (.fieldLink RX11 23 "HoldSlips" "reader" "LHoldSlips$DecreeReader;") (by decide +kernel)
  have kf34 := hts (.fieldLink RX11 34 "HoldSlips$State" "tape" "LHoldSlips$Tape;") (by decide +kernel)
  have kf38 := hts (.fieldLink RX11 38 "HoldSlips$Tape" "length" "I") (by decide +kernel)
  have kf52 := hts (.fieldLink RX11 52 "HoldSlips$DecreeReader" "fault" "I") (by decide +kernel)
  have kf55 := hts (.fieldLink RX11 55 "HoldSlips$State" "fault" "I") (by decide +kernel)
  have kf56 := hts (.fieldLink RX11 56 "HoldSlips$DecreeReader" "place" "I") (by decide +kernel)
  have kf59 := hts (.fieldLink RX11 59 "HoldSlips$State" "faultPlace" "I") (by decide +kernel)
  have kf62 := hts (.fieldLink RX11 62 "HoldSlips$State" "law" "LHoldSlips$Decree;") (by decide +kernel)
  have kf66 := hts (.fieldLink RX11 66 "HoldSlips$DecreeReader" "text" "LHoldSlips$Decree;") (by decide +kernel)
  have kf75 := hts (.fieldLink RX11 75 "HoldSlips$Decree" "lines" "I") (by decide +kernel)
  subst hsz
  have hD := hD0.self (sz := s.heap.size)
  generalize hAe : va_A ((wX11 cyB cyI cyZ cyO h h_now h_images h_reader h_search) ++ ((wX7 cyB cyI cyZ cyO h_now h_now_tape h_now_law h_now_people h_now_rules h_now_cargo h_now_debts h_now_ledger M_h_now) ++ ((wX3 cyB cyI cyZ cyO h_now_law h_now_law_action h_now_law_amount h_now_law_tests h_now_law_negated h_now_law_subject h_now_law_sign h_now_law_limit M_h_now_law) ++ ((wX8 cyB cyI cyZ cyO h_now_tape h_now_tape_bytes M_h_now_tape) ++ ((wX4 cyB cyI cyZ cyO h_reader h_reader_at h_reader_text M_h_reader) ++ ((wX9 cyB cyI cyZ cyO h_reader_at h_reader_at_tape M_h_reader_at) ++ ((wX8 cyB cyI cyZ cyO h_reader_at_tape h_reader_at_tape_bytes M_h_reader_at_tape) ++ (wX3 cyB cyI cyZ cyO h_reader_text h_reader_text_action h_reader_text_amount h_reader_text_tests h_reader_text_negated h_reader_text_subject h_reader_text_sign h_reader_text_limit M_h_reader_text)))))))) s.heap.size = A at hD hX ⊢
  have hA : ∀ q : Nat, s.heap.size ≤ q → A q := fun q h => by rw [← hAe]; exact Or.inr h
  have hS : va_S A s.heap s.heap [] := va_S.rf
  have hl := lv_entry ([.ref h] : List Value) (n := 1) (Nat.le_of_ble_eq_true rfl)
  rw [lg_entry_eq]
  generalize (lg_sl ([.ref h] : List Value) ++ List.replicate (1 - (lg_sl ([.ref h] : List Value)).length) Slot.unset).toArray = ls at hl ⊢
  have hl : lv_has ls 1 [(0, .ref h)] := hl
  rw [f_X11_decree] at hf
  refine lv_aload_n hx hb dX11_decree_0 rfl (lv_at hl 0 rfl) ?_
  refine va_get (D := (dC, dI)) (ci := 11) (v := .ref h_reader) (C := RX11) (T := TX11) (N := 4) hx hb hts hin11 hown hK hP 0 rfl rfl 2 (by decide) kf23 (fun _ h9 => h9) rfl dX11_decree_1 ?_
  refine lv_aload_n hx hb dX11_decree_4 rfl (lv_at hl 0 rfl) ?_
  refine va_get (D := (dC, dI)) (ci := 11) (v := .ref h_now) (C := RX11) (T := TX11) (N := 4) hx hb hts hin11 hown hK hP 0 rfl rfl 0 (by decide) kf10 (fun _ h9 => h9) rfl dX11_decree_5 ?_
  refine va_get (D := (dC, dI)) (ci := 7) (v := .ref h_now_tape) (C := RX7) (T := TX7) (N := 14) hx hb hts hin7 hown hK hP 1 rfl rfl 0 (by decide) kf34 (fun _ h9 => h9) rfl dX11_decree_8 ?_
  obtain ⟨M_h_reader_11, M_h_reader_at_11, M_h_reader_at_tape_11, M_h_reader_text_11, h11, hf⟩ := bd4_some hf
  have hPc := hP.sub (ws' := ((wX8 cyB cyI cyZ cyO h_now_tape h_now_tape_bytes M_h_now_tape) ++ ((wX4 cyB cyI cyZ cyO h_reader h_reader_at h_reader_text M_h_reader) ++ ((wX9 cyB cyI cyZ cyO h_reader_at h_reader_at_tape M_h_reader_at) ++ ((wX8 cyB cyI cyZ cyO h_reader_at_tape h_reader_at_tape_bytes M_h_reader_at_tape) ++ (wX3 cyB cyI cyZ cyO h_reader_text h_reader_text_action h_reader_text_amount h_reader_text_tests h_reader_text_negated h_reader_text_subject h_reader_text_sign h_reader_text_limit M_h_reader_text)))))) [10, 11, 12, 13, 14, 15, 16, 17, 18, 19, 20, 21, 22, 23] rfl
  have hDc := hD.sub (ws' := ((wX8 cyB cyI cyZ cyO h_now_tape h_now_tape_bytes M_h_now_tape) ++ ((wX4 cyB cyI cyZ cyO h_reader h_reader_at h_reader_text M_h_reader) ++ ((wX9 cyB cyI cyZ cyO h_reader_at h_reader_at_tape M_h_reader_at) ++ ((wX8 cyB cyI cyZ cyO h_reader_at_tape h_reader_at_tape_bytes M_h_reader_at_tape) ++ (wX3 cyB cyI cyZ cyO h_reader_text h_reader_text_action h_reader_text_amount h_reader_text_tests h_reader_text_negated h_reader_text_subject h_reader_text_sign h_reader_text_limit M_h_reader_text)))))) [10, 11, 12, 13, 14, 15, 16, 17, 18, 19, 20, 21, 22, 23] (by decide) rfl
  refine wr_callv (wc := ((wX8 cyB cyI cyZ cyO h_now_tape h_now_tape_bytes M_h_now_tape) ++ ((wX4 cyB cyI cyZ cyO h_reader h_reader_at h_reader_text M_h_reader) ++ ((wX9 cyB cyI cyZ cyO h_reader_at h_reader_at_tape M_h_reader_at) ++ ((wX8 cyB cyI cyZ cyO h_reader_at_tape h_reader_at_tape_bytes M_h_reader_at_tape) ++ (wX3 cyB cyI cyZ cyO h_reader_text h_reader_text_action h_reader_text_amount h_reader_text_tests h_reader_text_negated h_reader_text_subject h_reader_text_sign h_reader_text_limit M_h_reader_text)))))) (wr := ((wX11 cyB cyI cyZ cyO h h_now h_images h_reader h_search) ++ ((wX7 cyB cyI cyZ cyO h_now h_now_tape h_now_law h_now_people h_now_rules h_now_cargo h_now_debts h_now_ledger M_h_now) ++ (wX3 cyB cyI cyZ cyO h_now_law h_now_law_action h_now_law_amount h_now_law_tests h_now_law_negated h_now_law_subject h_now_law_sign h_now_law_limit M_h_now_law)))) (w1 := ((wX8 cyB cyI cyZ cyO h_now_tape h_now_tape_bytes M_h_now_tape) ++ ((wX4 cyB cyI cyZ cyO h_reader h_reader_at h_reader_text M_h_reader_11) ++ ((wX9 cyB cyI cyZ cyO h_reader_at h_reader_at_tape M_h_reader_at_11) ++ ((wX8 cyB cyI cyZ cyO h_reader_at_tape h_reader_at_tape_bytes M_h_reader_at_tape_11) ++ (wX3 cyB cyI cyZ cyO h_reader_text h_reader_text_action h_reader_text_amount h_reader_text_tests h_reader_text_negated h_reader_text_subject h_reader_text_sign h_reader_text_limit M_h_reader_text_11)))))) (ws' := ((wX11 cyB cyI cyZ cyO h h_now h_images h_reader h_search) ++ ((wX7 cyB cyI cyZ cyO h_now h_now_tape h_now_law h_now_people h_now_rules h_now_cargo h_now_debts h_now_ledger M_h_now) ++ ((wX3 cyB cyI cyZ cyO h_now_law h_now_law_action h_now_law_amount h_now_law_tests h_now_law_negated h_now_law_subject h_now_law_sign h_now_law_limit M_h_now_law) ++ ((wX8 cyB cyI cyZ cyO h_now_tape h_now_tape_bytes M_h_now_tape) ++ ((wX4 cyB cyI cyZ cyO h_reader h_reader_at h_reader_text M_h_reader_11) ++ ((wX9 cyB cyI cyZ cyO h_reader_at h_reader_at_tape M_h_reader_at_11) ++ ((wX8 cyB cyI cyZ cyO h_reader_at_tape h_reader_at_tape_bytes M_h_reader_at_tape_11) ++ (wX3 cyB cyI cyZ cyO h_reader_text h_reader_text_action h_reader_text_amount h_reader_text_tests h_reader_text_negated h_reader_text_subject h_reader_text_sign h_reader_text_limit M_h_reader_text_11))))))))) hP hD hS hA [10, 11, 12, 13, 14, 15, 16, 17, 18, 19, 20, 21, 22, 23] [0, 1, 2, 3, 4, 5, 6, 7, 8, 9] [0, 1, 2, 3, 4, 5, 6, 7, 8, 9, 10, 11, 12, 13, 14, 15, 16, 17, 18, 19, 20, 21, 22, 23] rfl rfl (by decide) (by decide) rfl (by decide) (va_runV (As := [.ref h_now_tape]) (rest := []) ⟨hx, hb, hml, hown, hts⟩ (c_X4_read l dC dI cyB cyI cyZ cyO adK adV h_now_tape h_now_tape_bytes h_reader h_reader_at h_reader_text h_reader_at_tape h_reader_at_tape_bytes h_reader_text_action h_reader_text_amount h_reader_text_tests h_reader_text_negated h_reader_text_subject h_reader_text_sign h_reader_text_limit _ M_h_now_tape M_h_reader M_h_reader_at M_h_reader_at_tape M_h_reader_text M_h_reader_11 M_h_reader_at_11 M_h_reader_at_tape_11 M_h_reader_text_11 h11) (cwV 1 hts gX11_decree_X4_read rfl rfl rfl (by decide +kernel) ⟨Nat.le_of_ble_eq_true rfl, Nat.le_of_ble_eq_true rfl⟩) ⟨PWS.blind, va_recv hK hP (ci := 4) (q0 := 12) rfl rfl, fun U hU hW => ⟨rfl, by rw [hU], by rw [hU]; exact hPc, hCx.warm hW, hDc.weaken (fun _ _ _ _ => trivial), hX.at hS (va_free (wc := ((wX8 cyB cyI cyZ cyO h_now_tape h_now_tape_bytes M_h_now_tape) ++ ((wX4 cyB cyI cyZ cyO h_reader h_reader_at h_reader_text M_h_reader) ++ ((wX9 cyB cyI cyZ cyO h_reader_at h_reader_at_tape M_h_reader_at) ++ ((wX8 cyB cyI cyZ cyO h_reader_at_tape h_reader_at_tape_bytes M_h_reader_at_tape) ++ (wX3 cyB cyI cyZ cyO h_reader_text h_reader_text_action h_reader_text_amount h_reader_text_tests h_reader_text_negated h_reader_text_subject h_reader_text_sign h_reader_text_limit M_h_reader_text)))))) hD hS hA [10, 11, 12, 13, 14, 15, 16, 17, 18, 19, 20, 21, 22, 23] rfl) hU hW⟩⟩ rfl rfl hl.1 rfl (lv_room (Nat.le_of_ble_eq_true rfl)) dX11_decree_11 ⟨Nat.zero_le _, Nat.zero_le _⟩) (fun H locs hP hD hS => ?_)
  refine lv_aload_n hx hb dX11_decree_14 rfl (lv_at hl 0 rfl) ?_
  refine va_get (D := (dC, dI)) (ci := 11) (v := .ref h_now) (C := RX11) (T := TX11) (N := 4) hx hb hts hin11 hown hK hP 0 rfl rfl 0 (by decide) kf10 (fun _ h9 => h9) rfl dX11_decree_15 ?_
  refine va_get (D := (dC, dI)) (ci := 7) (v := .ref h_now_tape) (C := RX7) (T := TX7) (N := 14) hx hb hts hin7 hown hK hP 1 rfl rfl 0 (by decide) kf34 (fun _ h9 => h9) rfl dX11_decree_18 ?_
  refine lv_iconst (v := (0 : Int32)) hx hb dX11_decree_21 (by decide) ?_
  refine va_put (D := (dC, dI)) (ci := 8) (v := .int (0 : Int32)) (ty := .int) (C := RX8) (T := TX8) (N := 2) hx hb hts hin8 tyX8 tyX8_ok nmX8 hown hK hP hD hS 10 rfl rfl 1 (by decide) kf38 (fun _ h9 => h9) rfl (by decide +kernel) rfl rfl (Nat.le_of_ble_eq_true rfl) dX11_decree_22 (fun H locs hP hD hS => ?_)
  obtain ⟨M_h_now_tape_22, eM_h_now_tape_22, hf⟩ := wr_some hf
  have hP : va_P (dC, dI) vwCl ((wX11 cyB cyI cyZ cyO h h_now h_images h_reader h_search) ++ ((wX7 cyB cyI cyZ cyO h_now h_now_tape h_now_law h_now_people h_now_rules h_now_cargo h_now_debts h_now_ledger M_h_now) ++ ((wX3 cyB cyI cyZ cyO h_now_law h_now_law_action h_now_law_amount h_now_law_tests h_now_law_negated h_now_law_subject h_now_law_sign h_now_law_limit M_h_now_law) ++ ((wX8 cyB cyI cyZ cyO h_now_tape h_now_tape_bytes M_h_now_tape_22) ++ ((wX4 cyB cyI cyZ cyO h_reader h_reader_at h_reader_text M_h_reader_11) ++ ((wX9 cyB cyI cyZ cyO h_reader_at h_reader_at_tape M_h_reader_at_11) ++ ((wX8 cyB cyI cyZ cyO h_reader_at_tape h_reader_at_tape_bytes M_h_reader_at_tape_11) ++ (wX3 cyB cyI cyZ cyO h_reader_text h_reader_text_action h_reader_text_amount h_reader_text_tests h_reader_text_negated h_reader_text_subject h_reader_text_sign h_reader_text_limit M_h_reader_text_11)))))))) H := by rw [eM_h_now_tape_22]; exact hP
  have hD : va_D A ((wX11 cyB cyI cyZ cyO h h_now h_images h_reader h_search) ++ ((wX7 cyB cyI cyZ cyO h_now h_now_tape h_now_law h_now_people h_now_rules h_now_cargo h_now_debts h_now_ledger M_h_now) ++ ((wX3 cyB cyI cyZ cyO h_now_law h_now_law_action h_now_law_amount h_now_law_tests h_now_law_negated h_now_law_subject h_now_law_sign h_now_law_limit M_h_now_law) ++ ((wX8 cyB cyI cyZ cyO h_now_tape h_now_tape_bytes M_h_now_tape_22) ++ ((wX4 cyB cyI cyZ cyO h_reader h_reader_at h_reader_text M_h_reader_11) ++ ((wX9 cyB cyI cyZ cyO h_reader_at h_reader_at_tape M_h_reader_at_11) ++ ((wX8 cyB cyI cyZ cyO h_reader_at_tape h_reader_at_tape_bytes M_h_reader_at_tape_11) ++ (wX3 cyB cyI cyZ cyO h_reader_text h_reader_text_action h_reader_text_amount h_reader_text_tests h_reader_text_negated h_reader_text_subject h_reader_text_sign h_reader_text_limit M_h_reader_text_11)))))))) := by rw [eM_h_now_tape_22]; exact hD
  refine lv_aload_n hx hb dX11_decree_25 rfl (lv_at hl 0 rfl) ?_
  refine va_get (D := (dC, dI)) (ci := 11) (v := .ref h_now) (C := RX11) (T := TX11) (N := 4) hx hb hts hin11 hown hK hP 0 rfl rfl 0 (by decide) kf10 (fun _ h9 => h9) rfl dX11_decree_26 ?_
  refine lv_aload_n hx hb dX11_decree_29 rfl (lv_at hl 0 rfl) ?_
  refine va_get (D := (dC, dI)) (ci := 11) (v := .ref h_reader) (C := RX11) (T := TX11) (N := 4) hx hb hts hin11 hown hK hP 0 rfl rfl 2 (by decide) kf23 (fun _ h9 => h9) rfl dX11_decree_30 ?_
  refine va_get (D := (dC, dI)) (ci := 4) (v := .int (M_h_reader_11 2 0)) (C := RX4) (T := TX4) (N := 12) hx hb hts hin4 hown hK hP 12 rfl rfl 2 (by decide) kf52 (fun _ h9 => h9) rfl dX11_decree_33 ?_
  refine va_put (D := (dC, dI)) (ci := 7) (v := .int (M_h_reader_11 2 0)) (ty := .int) (C := RX7) (T := TX7) (N := 14) hx hb hts hin7 tyX7 tyX7_ok nmX7 hown hK hP hD hS 1 rfl rfl 7 (by decide) kf55 (fun _ h9 => h9) rfl (by decide +kernel) rfl rfl (Nat.le_of_ble_eq_true rfl) dX11_decree_36 (fun H locs hP hD hS => ?_)
  obtain ⟨M_h_now_36, eM_h_now_36, hf⟩ := wr_some hf
  have hP : va_P (dC, dI) vwCl ((wX11 cyB cyI cyZ cyO h h_now h_images h_reader h_search) ++ ((wX7 cyB cyI cyZ cyO h_now h_now_tape h_now_law h_now_people h_now_rules h_now_cargo h_now_debts h_now_ledger M_h_now_36) ++ ((wX3 cyB cyI cyZ cyO h_now_law h_now_law_action h_now_law_amount h_now_law_tests h_now_law_negated h_now_law_subject h_now_law_sign h_now_law_limit M_h_now_law) ++ ((wX8 cyB cyI cyZ cyO h_now_tape h_now_tape_bytes M_h_now_tape_22) ++ ((wX4 cyB cyI cyZ cyO h_reader h_reader_at h_reader_text M_h_reader_11) ++ ((wX9 cyB cyI cyZ cyO h_reader_at h_reader_at_tape M_h_reader_at_11) ++ ((wX8 cyB cyI cyZ cyO h_reader_at_tape h_reader_at_tape_bytes M_h_reader_at_tape_11) ++ (wX3 cyB cyI cyZ cyO h_reader_text h_reader_text_action h_reader_text_amount h_reader_text_tests h_reader_text_negated h_reader_text_subject h_reader_text_sign h_reader_text_limit M_h_reader_text_11)))))))) H := by rw [eM_h_now_36]; exact hP
  have hD : va_D A ((wX11 cyB cyI cyZ cyO h h_now h_images h_reader h_search) ++ ((wX7 cyB cyI cyZ cyO h_now h_now_tape h_now_law h_now_people h_now_rules h_now_cargo h_now_debts h_now_ledger M_h_now_36) ++ ((wX3 cyB cyI cyZ cyO h_now_law h_now_law_action h_now_law_amount h_now_law_tests h_now_law_negated h_now_law_subject h_now_law_sign h_now_law_limit M_h_now_law) ++ ((wX8 cyB cyI cyZ cyO h_now_tape h_now_tape_bytes M_h_now_tape_22) ++ ((wX4 cyB cyI cyZ cyO h_reader h_reader_at h_reader_text M_h_reader_11) ++ ((wX9 cyB cyI cyZ cyO h_reader_at h_reader_at_tape M_h_reader_at_11) ++ ((wX8 cyB cyI cyZ cyO h_reader_at_tape h_reader_at_tape_bytes M_h_reader_at_tape_11) ++ (wX3 cyB cyI cyZ cyO h_reader_text h_reader_text_action h_reader_text_amount h_reader_text_tests h_reader_text_negated h_reader_text_subject h_reader_text_sign h_reader_text_limit M_h_reader_text_11)))))))) := by rw [eM_h_now_36]; exact hD
  refine lv_aload_n hx hb dX11_decree_39 rfl (lv_at hl 0 rfl) ?_
  refine va_get (D := (dC, dI)) (ci := 11) (v := .ref h_now) (C := RX11) (T := TX11) (N := 4) hx hb hts hin11 hown hK hP 0 rfl rfl 0 (by decide) kf10 (fun _ h9 => h9) rfl dX11_decree_40 ?_
  refine lv_aload_n hx hb dX11_decree_43 rfl (lv_at hl 0 rfl) ?_
  refine va_get (D := (dC, dI)) (ci := 11) (v := .ref h_reader) (C := RX11) (T := TX11) (N := 4) hx hb hts hin11 hown hK hP 0 rfl rfl 2 (by decide) kf23 (fun _ h9 => h9) rfl dX11_decree_44 ?_
  refine va_get (D := (dC, dI)) (ci := 4) (v := .int (M_h_reader_11 3 0)) (C := RX4) (T := TX4) (N := 12) hx hb hts hin4 hown hK hP 12 rfl rfl 3 (by decide) kf56 (fun _ h9 => h9) rfl dX11_decree_47 ?_
  refine va_put (D := (dC, dI)) (ci := 7) (v := .int (M_h_reader_11 3 0)) (ty := .int) (C := RX7) (T := TX7) (N := 14) hx hb hts hin7 tyX7 tyX7_ok nmX7 hown hK hP hD hS 1 rfl rfl 8 (by decide) kf59 (fun _ h9 => h9) rfl (by decide +kernel) rfl rfl (Nat.le_of_ble_eq_true rfl) dX11_decree_50 (fun H locs hP hD hS => ?_)
  obtain ⟨M_h_now_50, eM_h_now_50, hf⟩ := wr_some hf
  have hP : va_P (dC, dI) vwCl ((wX11 cyB cyI cyZ cyO h h_now h_images h_reader h_search) ++ ((wX7 cyB cyI cyZ cyO h_now h_now_tape h_now_law h_now_people h_now_rules h_now_cargo h_now_debts h_now_ledger M_h_now_50) ++ ((wX3 cyB cyI cyZ cyO h_now_law h_now_law_action h_now_law_amount h_now_law_tests h_now_law_negated h_now_law_subject h_now_law_sign h_now_law_limit M_h_now_law) ++ ((wX8 cyB cyI cyZ cyO h_now_tape h_now_tape_bytes M_h_now_tape_22) ++ ((wX4 cyB cyI cyZ cyO h_reader h_reader_at h_reader_text M_h_reader_11) ++ ((wX9 cyB cyI cyZ cyO h_reader_at h_reader_at_tape M_h_reader_at_11) ++ ((wX8 cyB cyI cyZ cyO h_reader_at_tape h_reader_at_tape_bytes M_h_reader_at_tape_11) ++ (wX3 cyB cyI cyZ cyO h_reader_text h_reader_text_action h_reader_text_amount h_reader_text_tests h_reader_text_negated h_reader_text_subject h_reader_text_sign h_reader_text_limit M_h_reader_text_11)))))))) H := by rw [eM_h_now_50]; exact hP
  have hD : va_D A ((wX11 cyB cyI cyZ cyO h h_now h_images h_reader h_search) ++ ((wX7 cyB cyI cyZ cyO h_now h_now_tape h_now_law h_now_people h_now_rules h_now_cargo h_now_debts h_now_ledger M_h_now_50) ++ ((wX3 cyB cyI cyZ cyO h_now_law h_now_law_action h_now_law_amount h_now_law_tests h_now_law_negated h_now_law_subject h_now_law_sign h_now_law_limit M_h_now_law) ++ ((wX8 cyB cyI cyZ cyO h_now_tape h_now_tape_bytes M_h_now_tape_22) ++ ((wX4 cyB cyI cyZ cyO h_reader h_reader_at h_reader_text M_h_reader_11) ++ ((wX9 cyB cyI cyZ cyO h_reader_at h_reader_at_tape M_h_reader_at_11) ++ ((wX8 cyB cyI cyZ cyO h_reader_at_tape h_reader_at_tape_bytes M_h_reader_at_tape_11) ++ (wX3 cyB cyI cyZ cyO h_reader_text h_reader_text_action h_reader_text_amount h_reader_text_tests h_reader_text_negated h_reader_text_subject h_reader_text_sign h_reader_text_limit M_h_reader_text_11)))))))) := by rw [eM_h_now_50]; exact hD
  refine lv_aload_n hx hb dX11_decree_53 rfl (lv_at hl 0 rfl) ?_
  refine va_get (D := (dC, dI)) (ci := 11) (v := .ref h_reader) (C := RX11) (T := TX11) (N := 4) hx hb hts hin11 hown hK hP 0 rfl rfl 2 (by decide) kf23 (fun _ h9 => h9) rfl dX11_decree_54 ?_
  refine va_get (D := (dC, dI)) (ci := 4) (v := .int (M_h_reader_11 2 0)) (C := RX4) (T := TX4) (N := 12) hx hb hts hin4 hown hK hP 12 rfl rfl 2 (by decide) kf52 (fun _ h9 => h9) rfl dX11_decree_57 ?_
  refine lv_if_eq (tgt := 65) hx hb dX11_decree_60 (by decide) (fun hc60 => ?_) (fun hc60 => ?_)
  · rw [if_pos hc60] at hf
    refine lv_aload_n hx hb dX11_decree_65 rfl (lv_at hl 0 rfl) ?_
    refine va_get (D := (dC, dI)) (ci := 11) (v := .ref h_now) (C := RX11) (T := TX11) (N := 4) hx hb hts hin11 hown hK hP 0 rfl rfl 0 (by decide) kf10 (fun _ h9 => h9) rfl dX11_decree_66 ?_
    refine va_get (D := (dC, dI)) (ci := 7) (v := .ref h_now_law) (C := RX7) (T := TX7) (N := 14) hx hb hts hin7 hown hK hP 1 rfl rfl 1 (by decide) kf62 (fun _ h9 => h9) rfl dX11_decree_69 ?_
    refine lv_aload_n hx hb dX11_decree_72 rfl (lv_at hl 0 rfl) ?_
    refine va_get (D := (dC, dI)) (ci := 11) (v := .ref h_reader) (C := RX11) (T := TX11) (N := 4) hx hb hts hin11 hown hK hP 0 rfl rfl 2 (by decide) kf23 (fun _ h9 => h9) rfl dX11_decree_73 ?_
    refine va_get (D := (dC, dI)) (ci := 4) (v := .ref h_reader_text) (C := RX4) (T := TX4) (N := 12) hx hb hts hin4 hown hK hP 12 rfl rfl 1 (by decide) kf66 (fun _ h9 => h9) rfl dX11_decree_76 ?_
    obtain ⟨M_h_now_law_79, h79, hf⟩ := bd1_some hf
    have hPc := hP.sub (ws' := ((wX3 cyB cyI cyZ cyO h_reader_text h_reader_text_action h_reader_text_amount h_reader_text_tests h_reader_text_negated h_reader_text_subject h_reader_text_sign h_reader_text_limit M_h_reader_text_11) ++ (wX3 cyB cyI cyZ cyO h_now_law h_now_law_action h_now_law_amount h_now_law_tests h_now_law_negated h_now_law_subject h_now_law_sign h_now_law_limit M_h_now_law))) [16, 17, 18, 19, 20, 21, 22, 23, 2, 3, 4, 5, 6, 7, 8, 9] rfl
    have hDc := hD.sub (ws' := ((wX3 cyB cyI cyZ cyO h_reader_text h_reader_text_action h_reader_text_amount h_reader_text_tests h_reader_text_negated h_reader_text_subject h_reader_text_sign h_reader_text_limit M_h_reader_text_11) ++ (wX3 cyB cyI cyZ cyO h_now_law h_now_law_action h_now_law_amount h_now_law_tests h_now_law_negated h_now_law_subject h_now_law_sign h_now_law_limit M_h_now_law))) [16, 17, 18, 19, 20, 21, 22, 23, 2, 3, 4, 5, 6, 7, 8, 9] (by decide) rfl
    refine wr_callv (wc := ((wX3 cyB cyI cyZ cyO h_reader_text h_reader_text_action h_reader_text_amount h_reader_text_tests h_reader_text_negated h_reader_text_subject h_reader_text_sign h_reader_text_limit M_h_reader_text_11) ++ (wX3 cyB cyI cyZ cyO h_now_law h_now_law_action h_now_law_amount h_now_law_tests h_now_law_negated h_now_law_subject h_now_law_sign h_now_law_limit M_h_now_law))) (wr := ((wX11 cyB cyI cyZ cyO h h_now h_images h_reader h_search) ++ ((wX7 cyB cyI cyZ cyO h_now h_now_tape h_now_law h_now_people h_now_rules h_now_cargo h_now_debts h_now_ledger M_h_now_50) ++ ((wX8 cyB cyI cyZ cyO h_now_tape h_now_tape_bytes M_h_now_tape_22) ++ ((wX4 cyB cyI cyZ cyO h_reader h_reader_at h_reader_text M_h_reader_11) ++ ((wX9 cyB cyI cyZ cyO h_reader_at h_reader_at_tape M_h_reader_at_11) ++ (wX8 cyB cyI cyZ cyO h_reader_at_tape h_reader_at_tape_bytes M_h_reader_at_tape_11))))))) (w1 := ((wX3 cyB cyI cyZ cyO h_reader_text h_reader_text_action h_reader_text_amount h_reader_text_tests h_reader_text_negated h_reader_text_subject h_reader_text_sign h_reader_text_limit M_h_reader_text_11) ++ (wX3 cyB cyI cyZ cyO h_now_law h_now_law_action h_now_law_amount h_now_law_tests h_now_law_negated h_now_law_subject h_now_law_sign h_now_law_limit M_h_now_law_79))) (ws' := ((wX11 cyB cyI cyZ cyO h h_now h_images h_reader h_search) ++ ((wX7 cyB cyI cyZ cyO h_now h_now_tape h_now_law h_now_people h_now_rules h_now_cargo h_now_debts h_now_ledger M_h_now_50) ++ ((wX3 cyB cyI cyZ cyO h_now_law h_now_law_action h_now_law_amount h_now_law_tests h_now_law_negated h_now_law_subject h_now_law_sign h_now_law_limit M_h_now_law_79) ++ ((wX8 cyB cyI cyZ cyO h_now_tape h_now_tape_bytes M_h_now_tape_22) ++ ((wX4 cyB cyI cyZ cyO h_reader h_reader_at h_reader_text M_h_reader_11) ++ ((wX9 cyB cyI cyZ cyO h_reader_at h_reader_at_tape M_h_reader_at_11) ++ ((wX8 cyB cyI cyZ cyO h_reader_at_tape h_reader_at_tape_bytes M_h_reader_at_tape_11) ++ (wX3 cyB cyI cyZ cyO h_reader_text h_reader_text_action h_reader_text_amount h_reader_text_tests h_reader_text_negated h_reader_text_subject h_reader_text_sign h_reader_text_limit M_h_reader_text_11))))))))) hP hD hS hA [16, 17, 18, 19, 20, 21, 22, 23, 2, 3, 4, 5, 6, 7, 8, 9] [0, 1, 10, 11, 12, 13, 14, 15] [0, 1, 16, 17, 18, 19, 20, 21, 22, 23, 2, 3, 4, 5, 6, 7, 8, 9, 10, 11, 12, 13, 14, 15] rfl rfl (by decide) (by decide) rfl (by decide) (va_runV (As := [.ref h_reader_text]) (rest := []) ⟨hx, hb, hml, hown, hts⟩ (c_X3_copyFrom l dC dI cyB cyI cyZ cyO h_reader_text h_reader_text_action h_reader_text_amount h_reader_text_tests h_reader_text_negated h_reader_text_subject h_reader_text_sign h_reader_text_limit h_now_law h_now_law_action h_now_law_amount h_now_law_tests h_now_law_negated h_now_law_subject h_now_law_sign h_now_law_limit _ M_h_reader_text_11 M_h_now_law M_h_now_law_79 h79) (cwV 1 hts gX11_decree_X3_copyFrom rfl rfl rfl (by decide +kernel) ⟨Nat.le_of_ble_eq_true rfl, Nat.le_of_ble_eq_true rfl⟩) ⟨PW.blind, va_recv hK hP (ci := 3) (q0 := 2) rfl rfl, fun U hU hW => ⟨rfl, by rw [hU], by rw [hU]; exact hPc, hCx.warm hW, hDc.weaken (fun _ _ _ _ => trivial)⟩⟩ rfl rfl hl.1 rfl (lv_room (Nat.le_of_ble_eq_true rfl)) dX11_decree_79 ⟨Nat.zero_le _, Nat.zero_le _⟩) (fun H locs hP hD hS => ?_)
    refine lv_aload_n hx hb dX11_decree_82 rfl (lv_at hl 0 rfl) ?_
    refine va_get (D := (dC, dI)) (ci := 11) (v := .ref h_now) (C := RX11) (T := TX11) (N := 4) hx hb hts hin11 hown hK hP 0 rfl rfl 0 (by decide) kf10 (fun _ h9 => h9) rfl dX11_decree_83 ?_
    refine va_get (D := (dC, dI)) (ci := 7) (v := .ref h_now_law) (C := RX7) (T := TX7) (N := 14) hx hb hts hin7 hown hK hP 1 rfl rfl 1 (by decide) kf62 (fun _ h9 => h9) rfl dX11_decree_86 ?_
    refine va_get (D := (dC, dI)) (ci := 3) (v := .int (M_h_now_law_79 0 0)) (C := RX3) (T := TX3) (N := 8) hx hb hts hin3 hown hK hP 2 rfl rfl 0 (by decide) kf75 (fun _ h9 => h9) rfl dX11_decree_89 ?_
    obtain ⟨hq0, hq1, hq2, hq3, hq4, hq5, hq6, hq7⟩ := pj8 hf
    subst hq0
    subst hq1
    subst hq2
    subst hq3
    subst hq4
    subst hq5
    subst hq6
    subst hq7
    exact W.iret (v := (M_h_now_law_79 0 0)) hx hb hr (fun t ht hW => ⟨rfl, by rw [ht]; exact hP, hD, hS.F ht⟩) hS.2.2 dX11_decree_92
  · rw [if_neg hc60] at hf
    refine lv_iconst (v := (-1 : Int32)) hx hb dX11_decree_63 (by decide) ?_
    obtain ⟨hq0, hq1, hq2, hq3, hq4, hq5, hq6, hq7⟩ := pj8 hf
    subst hq0
    subst hq1
    subst hq2
    subst hq3
    subst hq4
    subst hq5
    subst hq6
    subst hq7
    exact W.iret (v := (-1 : Int32)) hx hb hr (fun t ht hW => ⟨rfl, by rw [ht]; exact hP, hD, hS.F ht⟩) hS.2.2 dX11_decree_64
