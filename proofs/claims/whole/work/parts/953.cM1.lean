set_option maxHeartbeats 4000000 in
set_option maxRecDepth 100000 in
theorem c_X12_isIn (l : Launch) (dC : Nat → ClassId) (dI : Nat → Nat → Nat) (cyB cyI cyZ cyO : ClassId) (p0 : Int32) (p1 : Int32) (p2 : Int32) (r : Int32) (hf : f_X12_isIn p0 p1 p2 = some r) : Met l yX12_isIn wsX12_isIn ({ frames := 0, cells := 0, slots := 0, locals := 0 } : Room) (PR dC dI cyB cyI cyZ cyO ([.int p0, .int p1, .int p2] : List Value) ([] : va_W)) (QR (some (.int r))) 0 0 (fun _ => False) := by
  refine Met.ofW (cc := cX12_isIn) (maxL := 3) (ret := (some .boolean)) (by decide) rfl ?_
  intro p e s m args below meth c s₁ B hml hv
  obtain ⟨rfl, hP, hCx⟩ := hv
  have hK := hCx.1
  have hN := hCx.2
  have hx := B.exec
  have hb := B.bytes
  have hr := B.returns
  have hts := atoms_spec (ws := wsX12_isIn) B.pre
  have hown : s.vm.findClass RX12 = some m.cls := findClass_of_methodNamed B.named
  have hlocks := B.notSynchronized
  have hl := lv_entry ([.int p0, .int p1, .int p2] : List Value) (n := 3) (Nat.le_of_ble_eq_true rfl)
  rw [lg_entry_eq]
  generalize (lg_sl ([.int p0, .int p1, .int p2] : List Value) ++ List.replicate (3 - (lg_sl ([.int p0, .int p1, .int p2] : List Value)).length) Slot.unset).toArray = ls at hl ⊢
  have hl : lv_has ls 3 [(0, .int p0), (1, .int p1), (2, .int p2)] := hl
  rw [f_X12_isIn] at hf
  refine lv_iload_n hx hb dX12_isIn_0 rfl (lv_at hl 0 rfl) ?_
  refine lv_iload_n hx hb dX12_isIn_1 rfl (lv_at hl 1 rfl) ?_
  refine lv_icmp_lt (tgt := 14) hx hb dX12_isIn_2 (by decide) (fun hc2 => ?_) (fun hc2 => ?_)
  · rw [if_pos hc2] at hf
    refine lv_iconst (v := (0 : Int32)) hx hb dX12_isIn_14 (by decide) ?_
    have hq := Option.some.inj hf
    subst hq
    exact W.zret (v := (0 : Int32)) hx hb hr rfl (fun t ht hW => ⟨rfl, ht⟩) (fun q h => by cases h) dX12_isIn_15
  · rw [if_neg hc2] at hf
    refine lv_iload_n hx hb dX12_isIn_5 rfl (lv_at hl 0 rfl) ?_
    refine lv_iload_n hx hb dX12_isIn_6 rfl (lv_at hl 2 rfl) ?_
    refine lv_icmp_gt (tgt := 14) hx hb dX12_isIn_7 (by decide) (fun hc7 => ?_) (fun hc7 => ?_)
    · rw [if_pos hc7] at hf
      refine lv_iconst (v := (0 : Int32)) hx hb dX12_isIn_14 (by decide) ?_
      have hq := Option.some.inj hf
      subst hq
      exact W.zret (v := (0 : Int32)) hx hb hr rfl (fun t ht hW => ⟨rfl, ht⟩) (fun q h => by cases h) dX12_isIn_15
    · rw [if_neg hc7] at hf
      refine lv_iconst (v := (1 : Int32)) hx hb dX12_isIn_10 (by decide) ?_
      refine lv_goto (tgt := 15) hx hb dX12_isIn_11 (by decide) ?_
      have hq := Option.some.inj hf
      subst hq
      exact W.zret (v := (1 : Int32)) hx hb hr rfl (fun t ht hW => ⟨rfl, ht⟩) (fun q h => by cases h) dX12_isIn_15
set_option maxHeartbeats 4000000 in
set_option maxRecDepth 100000 in
theorem c_X12_feed (l : Launch) (dC : Nat → ClassId) (dI : Nat → Nat → Nat) (cyB cyI cyZ cyO : ClassId) (h h_all h_has h_read h_test h_rest h_gets h_waits h_way h_good h_left : Nat) (sz : Nat) (M_h : Mem) (p1 : Int32) (p2 : Int32) (p3 : Int32) (p4 : Int32) (p5 : Int32) (r : Int32) (R_h : Mem) (hf : f_X12_feed M_h p1 p2 p3 p4 p5 = some (r, R_h)) : Met l yX12_feed wsX12_feed ({ frames := 0, cells := 0, slots := 0, locals := 0 } : Room) (PW dC dI cyB cyI cyZ cyO ([.ref h, .int p1, .int p2, .int p3, .int p4, .int p5] : List Value) (wX12 cyB cyI cyZ cyO h h_all h_has h_read h_test h_rest h_gets h_waits h_way h_good h_left M_h) sz) (QW dC dI (some (.int r)) (wX12 cyB cyI cyZ cyO h h_all h_has h_read h_test h_rest h_gets h_waits h_way h_good h_left R_h) (va_A (wX12 cyB cyI cyZ cyO h h_all h_has h_read h_test h_rest h_gets h_waits h_way h_good h_left M_h) sz)) 0 0 (va_A (wX12 cyB cyI cyZ cyO h h_all h_has h_read h_test h_rest h_gets h_waits h_way h_good h_left M_h) sz) := by
  refine Met.ofW (cc := cX12_feed) (maxL := 8) (ret := (some .int)) (by decide) rfl ?_
  intro p e s m args below meth c s₁ B hml hv
  obtain ⟨rfl, hsz, hP, hCx, hD0⟩ := hv
  have hK := hCx.1
  have hN := hCx.2
  have hx := B.exec
  have hb := B.bytes
  have hr := B.returns
  have hts := atoms_spec (ws := wsX12_feed) B.pre
  have hown : s.vm.findClass RX12 = some m.cls := findClass_of_methodNamed B.named
  have hlocks := B.notSynchronized
  have hin12 : ∀ w ∈ u_ws RX12 TX12 21, w ∈ wsX12_feed := fun w h => List.mem_cons_of_mem _ (List.mem_append_right _ h)
  have kf7 := hts (.fieldLink RX12 7 "HoldSlipsModel" "all" "[I") (by decide +kernel)
  subst hsz
  have hD := hD0.self (sz := s.heap.size)
  generalize hAe : va_A (wX12 cyB cyI cyZ cyO h h_all h_has h_read h_test h_rest h_gets h_waits h_way h_good h_left M_h) s.heap.size = A at hD ⊢
  have hA : ∀ q : Nat, s.heap.size ≤ q → A q := fun q h => by rw [← hAe]; exact Or.inr h
  have hS : va_S A s.heap s.heap [] := va_S.rf
  have hl := lv_entry ([.ref h, .int p1, .int p2, .int p3, .int p4, .int p5] : List Value) (n := 8) (Nat.le_of_ble_eq_true rfl)
  rw [lg_entry_eq]
  generalize (lg_sl ([.ref h, .int p1, .int p2, .int p3, .int p4, .int p5] : List Value) ++ List.replicate (8 - (lg_sl ([.ref h, .int p1, .int p2, .int p3, .int p4, .int p5] : List Value)).length) Slot.unset).toArray = ls at hl ⊢
  have hl : lv_has ls 8 [(0, .ref h), (1, .int p1), (2, .int p2), (3, .int p3), (4, .int p4), (5, .int p5)] := hl
  have L74 : ∀ (K21 : Mem → Int32 → Int32 → Int32 → Int32 → Int32 → Int32 → Option (Int32 × Mem)) (hK21 : ∀ (M_h : Mem) (x1 : Int32) (x2 : Int32) (x3 : Int32) (x4 : Int32) (x5 : Int32) (x6 : Int32) (H : Heap) (locs : List Loc) (ls : Array Slot), K21 M_h x1 x2 x3 x4 x5 x6 = some (r, R_h) → va_P (dC, dI) vwCl (wX12 cyB cyI cyZ cyO h h_all h_has h_read h_test h_rest h_gets h_waits h_way h_good h_left M_h) H → va_D A (wX12 cyB cyI cyZ cyO h h_all h_has h_read h_test h_rest h_gets h_waits h_way h_good h_left M_h) → va_S A s.heap H locs → lv_has ls 8 [(0, .ref h), (1, .int x1), (2, .int x2), (3, .int x3), (4, .int x4), (5, .int x5), (6, .int x6)] → W p l e (headSpec wsX12_feed ({ frames := 0, cells := 0, slots := 0, locals := 0 } : Room)).room s m ([.ref h, .int p1, .int p2, .int p3, .int p4, .int p5] : List Value).toArray below meth c H locs 0 0 (MQ below (QW dC dI (some (.int r)) (wX12 cyB cyI cyZ cyO h h_all h_has h_read h_test h_rest h_gets h_waits h_way h_good h_left R_h) A) ([.ref h, .int p1, .int p2, .int p3, .int p4, .int p5] : List Value).toArray s 0 0 A) (F0 m 21 ls [])), ∀ (M_h : Mem) (x1 : Int32) (x2 : Int32) (x3 : Int32) (x4 : Int32) (x5 : Int32) (x6 : Int32) (s0 : Int32) (H : Heap) (locs : List Loc) (ls : Array Slot), f_X12_feed_L74 K21 M_h x1 x2 x3 x4 x5 x6 s0 = some (r, R_h) → va_P (dC, dI) vwCl (wX12 cyB cyI cyZ cyO h h_all h_has h_read h_test h_rest h_gets h_waits h_way h_good h_left M_h) H → va_D A (wX12 cyB cyI cyZ cyO h h_all h_has h_read h_test h_rest h_gets h_waits h_way h_good h_left M_h) → va_S A s.heap H locs → lv_has ls 8 [(0, .ref h), (1, .int x1), (2, .int x2), (3, .int x3), (4, .int x4), (5, .int x5), (6, .int x6)] → W p l e (headSpec wsX12_feed ({ frames := 0, cells := 0, slots := 0, locals := 0 } : Room)).room s m ([.ref h, .int p1, .int p2, .int p3, .int p4, .int p5] : List Value).toArray below meth c H locs 0 0 (MQ below (QW dC dI (some (.int r)) (wX12 cyB cyI cyZ cyO h h_all h_has h_read h_test h_rest h_gets h_waits h_way h_good h_left R_h) A) ([.ref h, .int p1, .int p2, .int p3, .int p4, .int p5] : List Value).toArray s 0 0 A) (F0 m 74 ls [.int s0]) := by
    intro K21 hK21 M_h x1 x2 x3 x4 x5 x6 s0 H locs ls hf hP hD hS hl
    rw [f_X12_feed_L74] at hf
    refine lv_istore (lv' := [(7, .int s0), (0, .ref h), (1, .int x1), (2, .int x2), (3, .int x3), (4, .int x4), (5, .int x5), (6, .int x6)]) hx hb dX12_feed_74 hl (by decide) rfl (fun ls hl => ?_)
    refine lv_aload_n hx hb dX12_feed_76 rfl (lv_at hl 1 rfl) ?_
    refine va_get (D := (dC, dI)) (ci := 12) (v := .ref h_all) (C := RX12) (T := TX12) (N := 21) hx hb hts hin12 hown hK hP 0 rfl rfl 0 (by decide) kf7 (fun _ h9 => h9) rfl dX12_feed_77 ?_
    refine lv_sipush (v := (2390 : Int32)) hx hb dX12_feed_80 (by decide) ?_
    refine lv_aload_n hx hb dX12_feed_83 rfl (lv_at hl 1 rfl) ?_
    refine va_get (D := (dC, dI)) (ci := 12) (v := .ref h_all) (C := RX12) (T := TX12) (N := 21) hx hb hts hin12 hown hK hP 0 rfl rfl 0 (by decide) kf7 (fun _ h9 => h9) rfl dX12_feed_84 ?_
    refine lv_bipush (v := (12 : Int32)) hx hb dX12_feed_87 (by decide) ?_
    refine va_iald hx hb hK hP 1 1 rfl rfl (show ¬ ((12 : Int32) < 0 ∨ 11160 ≤ ((12 : Int32)).toNatClampNeg) by decide) dX12_feed_89 ?_
    refine lv_iadd hx hb dX12_feed_90 ?_
    refine lv_iload hx hb dX12_feed_91 (lv_at hl 0 rfl) ?_
    refine lv_bipush (v := (24 : Int32)) hx hb dX12_feed_93 (by decide) ?_
    refine lv_bipush (v := (8 : Int32)) hx hb dX12_feed_95 (by decide) ?_
    refine lv_iload hx hb dX12_feed_97 (lv_at hl 7 rfl) ?_
    refine lv_iconst (v := (4 : Int32)) hx hb dX12_feed_99 (by decide) ?_
    refine lv_irem hx hb dX12_feed_100 (by decide) ?_
    refine lv_imul hx hb dX12_feed_101 ?_
    refine lv_isub hx hb dX12_feed_102 ?_
    refine lv_ishr hx hb dX12_feed_103 ?_
    refine lv_sipush (v := (255 : Int32)) hx hb dX12_feed_104 (by decide) ?_
    refine lv_iand hx hb dX12_feed_107 ?_
    have hi108 := if_no hf
    rw [if_neg hi108] at hf
    refine va_iast hx hb hK hP hD hS 1 1 rfl rfl hi108 dX12_feed_108 (fun H locs hP hD hS => ?_)
    obtain ⟨M_h_108, eM_h_108, hf⟩ := wr_some hf
    have hP : va_P (dC, dI) vwCl (wX12 cyB cyI cyZ cyO h h_all h_has h_read h_test h_rest h_gets h_waits h_way h_good h_left M_h_108) H := by rw [eM_h_108]; exact hP
    have hD : va_D A (wX12 cyB cyI cyZ cyO h h_all h_has h_read h_test h_rest h_gets h_waits h_way h_good h_left M_h_108) := by rw [eM_h_108]; exact hD
    refine lv_aload_n hx hb dX12_feed_109 rfl (lv_at hl 1 rfl) ?_
    refine va_get (D := (dC, dI)) (ci := 12) (v := .ref h_all) (C := RX12) (T := TX12) (N := 21) hx hb hts hin12 hown hK hP 0 rfl rfl 0 (by decide) kf7 (fun _ h9 => h9) rfl dX12_feed_110 ?_
    refine lv_bipush (v := (12 : Int32)) hx hb dX12_feed_113 (by decide) ?_
    refine lv_dup2_11 hx hb dX12_feed_115 rfl rfl ?_
    refine va_iald hx hb hK hP 1 1 rfl rfl (show ¬ ((12 : Int32) < 0 ∨ 11160 ≤ ((12 : Int32)).toNatClampNeg) by decide) dX12_feed_116 ?_
    refine lv_iconst (v := (1 : Int32)) hx hb dX12_feed_117 (by decide) ?_
    refine lv_iadd hx hb dX12_feed_118 ?_
    refine va_iast hx hb hK hP hD hS 1 1 rfl rfl (show ¬ ((12 : Int32) < 0 ∨ 11160 ≤ ((12 : Int32)).toNatClampNeg) by decide) dX12_feed_119 (fun H locs hP hD hS => ?_)
    obtain ⟨M_h_119, eM_h_119, hf⟩ := wr_some hf
    have hP : va_P (dC, dI) vwCl (wX12 cyB cyI cyZ cyO h h_all h_has h_read h_test h_rest h_gets h_waits h_way h_good h_left M_h_119) H := by rw [eM_h_119]; exact hP
    have hD : va_D A (wX12 cyB cyI cyZ cyO h h_all h_has h_read h_test h_rest h_gets h_waits h_way h_good h_left M_h_119) := by rw [eM_h_119]; exact hD
    refine lv_iinc (v := (x6 + (1 : Int32))) (lv' := [(6, .int (x6 + (1 : Int32))), (7, .int s0), (0, .ref h), (1, .int x1), (2, .int x2), (3, .int x3), (4, .int x4), (5, .int x5)]) hx hb dX12_feed_120 hl (k := 7) rfl rfl (by decide) rfl (fun ls hl => ?_)
    refine lv_goto (tgt := 21) hx hb dX12_feed_123 (by decide) ?_
    exact hK21 M_h_119 x1 x2 x3 x4 x5 (x6 + (1 : Int32)) _ _ ls hf hP hD hS (lv_sub hl [2, 3, 4, 5, 6, 7, 0] rfl)
  have L21 : ∀ (n : Nat), ∀ (M_h : Mem) (x1 : Int32) (x2 : Int32) (x3 : Int32) (x4 : Int32) (x5 : Int32) (x6 : Int32) (H : Heap) (locs : List Loc) (ls : Array Slot), f_X12_feed_L21 n M_h x1 x2 x3 x4 x5 x6 = some (r, R_h) → va_P (dC, dI) vwCl (wX12 cyB cyI cyZ cyO h h_all h_has h_read h_test h_rest h_gets h_waits h_way h_good h_left M_h) H → va_D A (wX12 cyB cyI cyZ cyO h h_all h_has h_read h_test h_rest h_gets h_waits h_way h_good h_left M_h) → va_S A s.heap H locs → lv_has ls 8 [(0, .ref h), (1, .int x1), (2, .int x2), (3, .int x3), (4, .int x4), (5, .int x5), (6, .int x6)] → W p l e (headSpec wsX12_feed ({ frames := 0, cells := 0, slots := 0, locals := 0 } : Room)).room s m ([.ref h, .int p1, .int p2, .int p3, .int p4, .int p5] : List Value).toArray below meth c H locs 0 0 (MQ below (QW dC dI (some (.int r)) (wX12 cyB cyI cyZ cyO h h_all h_has h_read h_test h_rest h_gets h_waits h_way h_good h_left R_h) A) ([.ref h, .int p1, .int p2, .int p3, .int p4, .int p5] : List Value).toArray s 0 0 A) (F0 m 21 ls []) := by
    intro n
    induction n with
    | zero => intro M_h x1 x2 x3 x4 x5 x6 H locs ls hf hP hD hS hl; rw [f_X12_feed_L21] at hf; cases hf
    | succ n ih =>
      intro M_h x1 x2 x3 x4 x5 x6 H locs ls hf hP hD hS hl
      rw [f_X12_feed_L21] at hf
      refine lv_iload hx hb dX12_feed_21 (lv_at hl 6 rfl) ?_
      refine lv_bipush (v := (20 : Int32)) hx hb dX12_feed_23 (by decide) ?_
      refine lv_icmp_ge (tgt := 126) hx hb dX12_feed_25 (by decide) (fun hc25 => ?_) (fun hc25 => ?_)
      · rw [if_pos hc25] at hf
        refine lv_aload_n hx hb dX12_feed_126 rfl (lv_at hl 0 rfl) ?_
        refine va_get (D := (dC, dI)) (ci := 12) (v := .ref h_all) (C := RX12) (T := TX12) (N := 21) hx hb hts hin12 hown hK hP 0 rfl rfl 0 (by decide) kf7 (fun _ h9 => h9) rfl dX12_feed_127 ?_
        refine lv_bipush (v := (12 : Int32)) hx hb dX12_feed_130 (by decide) ?_
        refine va_iald hx hb hK hP 1 1 rfl rfl (show ¬ ((12 : Int32) < 0 ∨ 11160 ≤ ((12 : Int32)).toNatClampNeg) by decide) dX12_feed_132 ?_
        obtain ⟨hq0, hq1⟩ := pj2 hf
        subst hq0
        subst hq1
        exact W.iret (v := (M_h 0 ((12 : Int32)).toNatClampNeg)) hx hb hr (fun t ht hW => ⟨rfl, by rw [ht]; exact hP, hD, hS.F ht⟩) hS.2.2 dX12_feed_133
      · rw [if_neg hc25] at hf
        refine lv_iload hx hb dX12_feed_28 (lv_at hl 6 rfl) ?_
        refine lv_iconst (v := (4 : Int32)) hx hb dX12_feed_30 (by decide) ?_
        refine lv_icmp_ge (tgt := 38) hx hb dX12_feed_31 (by decide) (fun hc31 => ?_) (fun hc31 => ?_)
        · rw [if_pos hc31] at hf
          refine lv_iload hx hb dX12_feed_38 (lv_at hl 6 rfl) ?_
          refine lv_bipush (v := (8 : Int32)) hx hb dX12_feed_40 (by decide) ?_
          refine lv_icmp_ge (tgt := 49) hx hb dX12_feed_42 (by decide) (fun hc42 => ?_) (fun hc42 => ?_)
          · rw [if_pos hc42] at hf
            refine lv_iload hx hb dX12_feed_49 (lv_at hl 6 rfl) ?_
            refine lv_bipush (v := (12 : Int32)) hx hb dX12_feed_51 (by decide) ?_
            refine lv_icmp_ge (tgt := 60) hx hb dX12_feed_53 (by decide) (fun hc53 => ?_) (fun hc53 => ?_)
            · rw [if_pos hc53] at hf
              refine lv_iload hx hb dX12_feed_60 (lv_at hl 6 rfl) ?_
              refine lv_bipush (v := (16 : Int32)) hx hb dX12_feed_62 (by decide) ?_
              refine lv_icmp_ge (tgt := 72) hx hb dX12_feed_64 (by decide) (fun hc64 => ?_) (fun hc64 => ?_)
              · rw [if_pos hc64] at hf
                refine lv_iload hx hb dX12_feed_72 (lv_at hl 5 rfl) ?_
                exact L74 (f_X12_feed_L21 n) (fun z0 z1 z2 z3 z4 z5 z6 z7 z8 z9 z10 z11 z12 z13 z14 => ih z0 z1 z2 z3 z4 z5 z6 z7 z8 z9 z10 z11 z12 z13 z14) M_h x1 x2 x3 x4 x5 x6 x5 _ _ ls hf hP hD hS (lv_sub hl [0, 1, 2, 3, 4, 5, 6] rfl)
              · rw [if_neg hc64] at hf
                refine lv_iload hx hb dX12_feed_67 (lv_at hl 4 rfl) ?_
                refine lv_goto (tgt := 74) hx hb dX12_feed_69 (by decide) ?_
                exact L74 (f_X12_feed_L21 n) (fun z0 z1 z2 z3 z4 z5 z6 z7 z8 z9 z10 z11 z12 z13 z14 => ih z0 z1 z2 z3 z4 z5 z6 z7 z8 z9 z10 z11 z12 z13 z14) M_h x1 x2 x3 x4 x5 x6 x4 _ _ ls hf hP hD hS (lv_sub hl [0, 1, 2, 3, 4, 5, 6] rfl)
            · rw [if_neg hc53] at hf
              refine lv_iload_n hx hb dX12_feed_56 rfl (lv_at hl 3 rfl) ?_
              refine lv_goto (tgt := 74) hx hb dX12_feed_57 (by decide) ?_
              exact L74 (f_X12_feed_L21 n) (fun z0 z1 z2 z3 z4 z5 z6 z7 z8 z9 z10 z11 z12 z13 z14 => ih z0 z1 z2 z3 z4 z5 z6 z7 z8 z9 z10 z11 z12 z13 z14) M_h x1 x2 x3 x4 x5 x6 x3 _ _ ls hf hP hD hS (lv_sub hl [0, 1, 2, 3, 4, 5, 6] rfl)
          · rw [if_neg hc42] at hf
            refine lv_iload_n hx hb dX12_feed_45 rfl (lv_at hl 2 rfl) ?_
            refine lv_goto (tgt := 74) hx hb dX12_feed_46 (by decide) ?_
            exact L74 (f_X12_feed_L21 n) (fun z0 z1 z2 z3 z4 z5 z6 z7 z8 z9 z10 z11 z12 z13 z14 => ih z0 z1 z2 z3 z4 z5 z6 z7 z8 z9 z10 z11 z12 z13 z14) M_h x1 x2 x3 x4 x5 x6 x2 _ _ ls hf hP hD hS (lv_sub hl [0, 1, 2, 3, 4, 5, 6] rfl)
        · rw [if_neg hc31] at hf
          refine lv_iload_n hx hb dX12_feed_34 rfl (lv_at hl 1 rfl) ?_
          refine lv_goto (tgt := 74) hx hb dX12_feed_35 (by decide) ?_
          exact L74 (f_X12_feed_L21 n) (fun z0 z1 z2 z3 z4 z5 z6 z7 z8 z9 z10 z11 z12 z13 z14 => ih z0 z1 z2 z3 z4 z5 z6 z7 z8 z9 z10 z11 z12 z13 z14) M_h x1 x2 x3 x4 x5 x6 x1 _ _ ls hf hP hD hS (lv_sub hl [0, 1, 2, 3, 4, 5, 6] rfl)
  rw [f_X12_feed] at hf
  refine lv_aload_n hx hb dX12_feed_0 rfl (lv_at hl 0 rfl) ?_
  refine va_get (D := (dC, dI)) (ci := 12) (v := .ref h_all) (C := RX12) (T := TX12) (N := 21) hx hb hts hin12 hown hK hP 0 rfl rfl 0 (by decide) kf7 (fun _ h9 => h9) rfl dX12_feed_1 ?_
  refine lv_bipush (v := (12 : Int32)) hx hb dX12_feed_4 (by decide) ?_
  refine va_iald hx hb hK hP 1 1 rfl rfl (show ¬ ((12 : Int32) < 0 ∨ 11160 ≤ ((12 : Int32)).toNatClampNeg) by decide) dX12_feed_6 ?_
  refine lv_bipush (v := (20 : Int32)) hx hb dX12_feed_7 (by decide) ?_
  refine lv_iadd hx hb dX12_feed_9 ?_
  refine lv_sipush (v := (400 : Int32)) hx hb dX12_feed_10 (by decide) ?_
  refine lv_icmp_le (tgt := 18) hx hb dX12_feed_13 (by decide) (fun hc13 => ?_) (fun hc13 => ?_)
  · rw [if_pos hc13] at hf
    refine lv_iconst (v := (0 : Int32)) hx hb dX12_feed_18 (by decide) ?_
    refine lv_istore (lv' := [(6, .int (0 : Int32)), (0, .ref h), (1, .int p1), (2, .int p2), (3, .int p3), (4, .int p4), (5, .int p5)]) hx hb dX12_feed_19 hl (by decide) rfl (fun ls hl => ?_)
    exact L21 FU M_h p1 p2 p3 p4 p5 (0 : Int32) _ _ ls hf hP hD hS (lv_sub hl [1, 2, 3, 4, 5, 6, 0] rfl)
  · rw [if_neg hc13] at hf
    refine lv_iconst (v := (-1 : Int32)) hx hb dX12_feed_16 (by decide) ?_
    obtain ⟨hq0, hq1⟩ := pj2 hf
    subst hq0
    subst hq1
    exact W.iret (v := (-1 : Int32)) hx hb hr (fun t ht hW => ⟨rfl, by rw [ht]; exact hP, hD, hS.F ht⟩) hS.2.2 dX12_feed_17
set_option maxHeartbeats 4000000 in
set_option maxRecDepth 100000 in
theorem c_X12_end (l : Launch) (dC : Nat → ClassId) (dI : Nat → Nat → Nat) (cyB cyI cyZ cyO : ClassId) (h h_all h_has h_read h_test h_rest h_gets h_waits h_way h_good h_left : Nat) (sz : Nat) (M_h : Mem) (p1 : Int32) (r : Int32) (R_h : Mem) (hf : f_X12_end M_h p1 = some (r, R_h)) : Met l yX12_end wsX12_end ({ frames := 0, cells := 0, slots := 0, locals := 0 } : Room) (PW dC dI cyB cyI cyZ cyO ([.ref h, .int p1] : List Value) (wX12 cyB cyI cyZ cyO h h_all h_has h_read h_test h_rest h_gets h_waits h_way h_good h_left M_h) sz) (QW dC dI (some (.int r)) (wX12 cyB cyI cyZ cyO h h_all h_has h_read h_test h_rest h_gets h_waits h_way h_good h_left R_h) (va_A (wX12 cyB cyI cyZ cyO h h_all h_has h_read h_test h_rest h_gets h_waits h_way h_good h_left M_h) sz)) 0 0 (va_A (wX12 cyB cyI cyZ cyO h h_all h_has h_read h_test h_rest h_gets h_waits h_way h_good h_left M_h) sz) := by
  refine Met.ofW (cc := cX12_end) (maxL := 2) (ret := (some .int)) (by decide) rfl ?_
  intro p e s m args below meth c s₁ B hml hv
  obtain ⟨rfl, hsz, hP, hCx, hD0⟩ := hv
  have hK := hCx.1
  have hN := hCx.2
  have hx := B.exec
  have hb := B.bytes
  have hr := B.returns
  have hts := atoms_spec (ws := wsX12_end) B.pre
  have hown : s.vm.findClass RX12 = some m.cls := findClass_of_methodNamed B.named
  have hlocks := B.notSynchronized
  have hin12 : ∀ w ∈ u_ws RX12 TX12 21, w ∈ wsX12_end := fun w h => List.mem_cons_of_mem _ (List.mem_append_right _ h)
  have kf7 := hts (.fieldLink RX12 7 "HoldSlipsModel" "all" "[I") (by decide +kernel)
  subst hsz
  have hD := hD0.self (sz := s.heap.size)
  generalize hAe : va_A (wX12 cyB cyI cyZ cyO h h_all h_has h_read h_test h_rest h_gets h_waits h_way h_good h_left M_h) s.heap.size = A at hD ⊢
  have hA : ∀ q : Nat, s.heap.size ≤ q → A q := fun q h => by rw [← hAe]; exact Or.inr h
  have hS : va_S A s.heap s.heap [] := va_S.rf
  have hl := lv_entry ([.ref h, .int p1] : List Value) (n := 2) (Nat.le_of_ble_eq_true rfl)
  rw [lg_entry_eq]
  generalize (lg_sl ([.ref h, .int p1] : List Value) ++ List.replicate (2 - (lg_sl ([.ref h, .int p1] : List Value)).length) Slot.unset).toArray = ls at hl ⊢
  have hl : lv_has ls 2 [(0, .ref h), (1, .int p1)] := hl
  rw [f_X12_end] at hf
  refine lv_iload_n hx hb dX12_end_0 rfl (lv_at hl 1 rfl) ?_
  refine lv_if_lt (tgt := 15) hx hb dX12_end_1 (by decide) (fun hc1 => ?_) (fun hc1 => ?_)
  · rw [if_pos hc1] at hf
    refine lv_iconst (v := (-1 : Int32)) hx hb dX12_end_15 (by decide) ?_
    obtain ⟨hq0, hq1⟩ := pj2 hf
    subst hq0
    subst hq1
    exact W.iret (v := (-1 : Int32)) hx hb hr (fun t ht hW => ⟨rfl, by rw [ht]; exact hP, hD, hS.F ht⟩) hS.2.2 dX12_end_16
  · rw [if_neg hc1] at hf
    refine lv_iload_n hx hb dX12_end_4 rfl (lv_at hl 1 rfl) ?_
    refine lv_aload_n hx hb dX12_end_5 rfl (lv_at hl 0 rfl) ?_
    refine va_get (D := (dC, dI)) (ci := 12) (v := .ref h_all) (C := RX12) (T := TX12) (N := 21) hx hb hts hin12 hown hK hP 0 rfl rfl 0 (by decide) kf7 (fun _ h9 => h9) rfl dX12_end_6 ?_
    refine lv_bipush (v := (12 : Int32)) hx hb dX12_end_9 (by decide) ?_
    refine va_iald hx hb hK hP 1 1 rfl rfl (show ¬ ((12 : Int32) < 0 ∨ 11160 ≤ ((12 : Int32)).toNatClampNeg) by decide) dX12_end_11 ?_
    refine lv_icmp_le (tgt := 17) hx hb dX12_end_12 (by decide) (fun hc12 => ?_) (fun hc12 => ?_)
    · rw [if_pos hc12] at hf
      refine lv_aload_n hx hb dX12_end_17 rfl (lv_at hl 0 rfl) ?_
      refine va_get (D := (dC, dI)) (ci := 12) (v := .ref h_all) (C := RX12) (T := TX12) (N := 21) hx hb hts hin12 hown hK hP 0 rfl rfl 0 (by decide) kf7 (fun _ h9 => h9) rfl dX12_end_18 ?_
      refine lv_bipush (v := (12 : Int32)) hx hb dX12_end_21 (by decide) ?_
      refine lv_iload_n hx hb dX12_end_23 rfl (lv_at hl 1 rfl) ?_
      refine va_iast hx hb hK hP hD hS 1 1 rfl rfl (show ¬ ((12 : Int32) < 0 ∨ 11160 ≤ ((12 : Int32)).toNatClampNeg) by decide) dX12_end_24 (fun H locs hP hD hS => ?_)
      obtain ⟨M_h_24, eM_h_24, hf⟩ := wr_some hf
      have hP : va_P (dC, dI) vwCl (wX12 cyB cyI cyZ cyO h h_all h_has h_read h_test h_rest h_gets h_waits h_way h_good h_left M_h_24) H := by rw [eM_h_24]; exact hP
      have hD : va_D A (wX12 cyB cyI cyZ cyO h h_all h_has h_read h_test h_rest h_gets h_waits h_way h_good h_left M_h_24) := by rw [eM_h_24]; exact hD
      refine lv_iload_n hx hb dX12_end_25 rfl (lv_at hl 1 rfl) ?_
      obtain ⟨hq0, hq1⟩ := pj2 hf
      subst hq0
      subst hq1
      exact W.iret (v := p1) hx hb hr (fun t ht hW => ⟨rfl, by rw [ht]; exact hP, hD, hS.F ht⟩) hS.2.2 dX12_end_26
    · rw [if_neg hc12] at hf
      refine lv_iconst (v := (-1 : Int32)) hx hb dX12_end_15 (by decide) ?_
      obtain ⟨hq0, hq1⟩ := pj2 hf
      subst hq0
      subst hq1
      exact W.iret (v := (-1 : Int32)) hx hb hr (fun t ht hW => ⟨rfl, by rw [ht]; exact hP, hD, hS.F ht⟩) hS.2.2 dX12_end_16
set_option maxHeartbeats 4000000 in
set_option maxRecDepth 100000 in
theorem c_X12_byteAt (l : Launch) (dC : Nat → ClassId) (dI : Nat → Nat → Nat) (cyB cyI cyZ cyO : ClassId) (h h_all h_has h_read h_test h_rest h_gets h_waits h_way h_good h_left : Nat) (M_h : Mem) (p1 : Int32) (r : Int32) (hf : f_X12_byteAt M_h p1 = some r) : Met l yX12_byteAt wsX12_byteAt ({ frames := 0, cells := 0, slots := 0, locals := 0 } : Room) (PR dC dI cyB cyI cyZ cyO ([.ref h, .int p1] : List Value) (wX12 cyB cyI cyZ cyO h h_all h_has h_read h_test h_rest h_gets h_waits h_way h_good h_left M_h)) (QR (some (.int r))) 0 0 (fun _ => False) := by
  refine Met.ofW (cc := cX12_byteAt) (maxL := 2) (ret := (some .int)) (by decide) rfl ?_
  intro p e s m args below meth c s₁ B hml hv
  obtain ⟨rfl, hP, hCx⟩ := hv
  have hK := hCx.1
  have hN := hCx.2
  have hx := B.exec
  have hb := B.bytes
  have hr := B.returns
  have hts := atoms_spec (ws := wsX12_byteAt) B.pre
  have hown : s.vm.findClass RX12 = some m.cls := findClass_of_methodNamed B.named
  have hlocks := B.notSynchronized
  have hin12 : ∀ w ∈ u_ws RX12 TX12 21, w ∈ wsX12_byteAt := fun w h => List.mem_cons_of_mem _ (List.mem_append_right _ h)
  have kf7 := hts (.fieldLink RX12 7 "HoldSlipsModel" "all" "[I") (by decide +kernel)
  have kf41 := hts (.fieldLink RX12 41 "HoldSlipsModel" "size" "I") (by decide +kernel)
  have hl := lv_entry ([.ref h, .int p1] : List Value) (n := 2) (Nat.le_of_ble_eq_true rfl)
  rw [lg_entry_eq]
  generalize (lg_sl ([.ref h, .int p1] : List Value) ++ List.replicate (2 - (lg_sl ([.ref h, .int p1] : List Value)).length) Slot.unset).toArray = ls at hl ⊢
  have hl : lv_has ls 2 [(0, .ref h), (1, .int p1)] := hl
  rw [f_X12_byteAt] at hf
  refine lv_iload_n hx hb dX12_byteAt_0 rfl (lv_at hl 1 rfl) ?_
  refine lv_aload_n hx hb dX12_byteAt_1 rfl (lv_at hl 0 rfl) ?_
  refine va_get (D := (dC, dI)) (ci := 12) (v := .int (M_h 2 0)) (C := RX12) (T := TX12) (N := 21) hx hb hts hin12 hown hK hP 0 rfl rfl 2 (by decide) kf41 (fun _ h9 => h9) rfl dX12_byteAt_2 ?_
  refine lv_icmp_ge (tgt := 21) hx hb dX12_byteAt_5 (by decide) (fun hc5 => ?_) (fun hc5 => ?_)
  · rw [if_pos hc5] at hf
    refine lv_iconst (v := (-1 : Int32)) hx hb dX12_byteAt_21 (by decide) ?_
    have hq := Option.some.inj hf
    subst hq
    exact W.iret (v := (-1 : Int32)) hx hb hr (fun t ht hW => ⟨rfl, ht⟩) (fun q h => by cases h) dX12_byteAt_22
  · rw [if_neg hc5] at hf
    refine lv_aload_n hx hb dX12_byteAt_8 rfl (lv_at hl 0 rfl) ?_
    refine va_get (D := (dC, dI)) (ci := 12) (v := .ref h_all) (C := RX12) (T := TX12) (N := 21) hx hb hts hin12 hown hK hP 0 rfl rfl 0 (by decide) kf7 (fun _ h9 => h9) rfl dX12_byteAt_9 ?_
    refine lv_sipush (v := (2390 : Int32)) hx hb dX12_byteAt_12 (by decide) ?_
    refine lv_iload_n hx hb dX12_byteAt_15 rfl (lv_at hl 1 rfl) ?_
    refine lv_iadd hx hb dX12_byteAt_16 ?_
    have hi17 := if_no hf
    rw [if_neg hi17] at hf
    refine va_iald hx hb hK hP 1 1 rfl rfl hi17 dX12_byteAt_17 ?_
    refine lv_goto (tgt := 22) hx hb dX12_byteAt_18 (by decide) ?_
    have hq := Option.some.inj hf
    subst hq
    exact W.iret (v := (M_h 0 (((2390 : Int32) + p1)).toNatClampNeg)) hx hb hr (fun t ht hW => ⟨rfl, ht⟩) (fun q h => by cases h) dX12_byteAt_22
set_option maxHeartbeats 4000000 in
set_option maxRecDepth 100000 in
theorem c_X12_isLetter (l : Launch) (dC : Nat → ClassId) (dI : Nat → Nat → Nat) (cyB cyI cyZ cyO : ClassId) (p0 : Int32) (r : Int32) (hf : f_X12_isLetter p0 = some r) : Met l yX12_isLetter wsX12_isLetter ({ frames := 0, cells := 0, slots := 0, locals := 0 } : Room) (PR dC dI cyB cyI cyZ cyO ([.int p0] : List Value) ([] : va_W)) (QR (some (.int r))) 0 0 (fun _ => False) := by
  refine Met.ofW (cc := cX12_isLetter) (maxL := 1) (ret := (some .boolean)) (by decide) rfl ?_
  intro p e s m args below meth c s₁ B hml hv
  obtain ⟨rfl, hP, hCx⟩ := hv
  have hK := hCx.1
  have hN := hCx.2
  have hx := B.exec
  have hb := B.bytes
  have hr := B.returns
  have hts := atoms_spec (ws := wsX12_isLetter) B.pre
  have hown : s.vm.findClass RX12 = some m.cls := findClass_of_methodNamed B.named
  have hlocks := B.notSynchronized
  have hl := lv_entry ([.int p0] : List Value) (n := 1) (Nat.le_of_ble_eq_true rfl)
  rw [lg_entry_eq]
  generalize (lg_sl ([.int p0] : List Value) ++ List.replicate (1 - (lg_sl ([.int p0] : List Value)).length) Slot.unset).toArray = ls at hl ⊢
  have hl : lv_has ls 1 [(0, .int p0)] := hl
  rw [f_X12_isLetter] at hf
  refine lv_iload_n hx hb dX12_isLetter_0 rfl (lv_at hl 0 rfl) ?_
  refine lv_bipush (v := (97 : Int32)) hx hb dX12_isLetter_1 (by decide) ?_
  refine lv_icmp_lt (tgt := 16) hx hb dX12_isLetter_3 (by decide) (fun hc3 => ?_) (fun hc3 => ?_)
  · rw [if_pos hc3] at hf
    refine lv_iconst (v := (0 : Int32)) hx hb dX12_isLetter_16 (by decide) ?_
    have hq := Option.some.inj hf
    subst hq
    exact W.zret (v := (0 : Int32)) hx hb hr rfl (fun t ht hW => ⟨rfl, ht⟩) (fun q h => by cases h) dX12_isLetter_17
  · rw [if_neg hc3] at hf
    refine lv_iload_n hx hb dX12_isLetter_6 rfl (lv_at hl 0 rfl) ?_
    refine lv_bipush (v := (122 : Int32)) hx hb dX12_isLetter_7 (by decide) ?_
    refine lv_icmp_gt (tgt := 16) hx hb dX12_isLetter_9 (by decide) (fun hc9 => ?_) (fun hc9 => ?_)
    · rw [if_pos hc9] at hf
      refine lv_iconst (v := (0 : Int32)) hx hb dX12_isLetter_16 (by decide) ?_
      have hq := Option.some.inj hf
      subst hq
      exact W.zret (v := (0 : Int32)) hx hb hr rfl (fun t ht hW => ⟨rfl, ht⟩) (fun q h => by cases h) dX12_isLetter_17
    · rw [if_neg hc9] at hf
      refine lv_iconst (v := (1 : Int32)) hx hb dX12_isLetter_12 (by decide) ?_
      refine lv_goto (tgt := 17) hx hb dX12_isLetter_13 (by decide) ?_
      have hq := Option.some.inj hf
      subst hq
      exact W.zret (v := (1 : Int32)) hx hb hr rfl (fun t ht hW => ⟨rfl, ht⟩) (fun q h => by cases h) dX12_isLetter_17
set_option maxHeartbeats 4000000 in
set_option maxRecDepth 100000 in
theorem c_X12_isDigit (l : Launch) (dC : Nat → ClassId) (dI : Nat → Nat → Nat) (cyB cyI cyZ cyO : ClassId) (p0 : Int32) (r : Int32) (hf : f_X12_isDigit p0 = some r) : Met l yX12_isDigit wsX12_isDigit ({ frames := 0, cells := 0, slots := 0, locals := 0 } : Room) (PR dC dI cyB cyI cyZ cyO ([.int p0] : List Value) ([] : va_W)) (QR (some (.int r))) 0 0 (fun _ => False) := by
  refine Met.ofW (cc := cX12_isDigit) (maxL := 1) (ret := (some .boolean)) (by decide) rfl ?_
  intro p e s m args below meth c s₁ B hml hv
  obtain ⟨rfl, hP, hCx⟩ := hv
  have hK := hCx.1
  have hN := hCx.2
  have hx := B.exec
  have hb := B.bytes
  have hr := B.returns
  have hts := atoms_spec (ws := wsX12_isDigit) B.pre
  have hown : s.vm.findClass RX12 = some m.cls := findClass_of_methodNamed B.named
  have hlocks := B.notSynchronized
  have hl := lv_entry ([.int p0] : List Value) (n := 1) (Nat.le_of_ble_eq_true rfl)
  rw [lg_entry_eq]
  generalize (lg_sl ([.int p0] : List Value) ++ List.replicate (1 - (lg_sl ([.int p0] : List Value)).length) Slot.unset).toArray = ls at hl ⊢
  have hl : lv_has ls 1 [(0, .int p0)] := hl
  rw [f_X12_isDigit] at hf
  refine lv_iload_n hx hb dX12_isDigit_0 rfl (lv_at hl 0 rfl) ?_
  refine lv_bipush (v := (48 : Int32)) hx hb dX12_isDigit_1 (by decide) ?_
  refine lv_icmp_lt (tgt := 16) hx hb dX12_isDigit_3 (by decide) (fun hc3 => ?_) (fun hc3 => ?_)
  · rw [if_pos hc3] at hf
    refine lv_iconst (v := (0 : Int32)) hx hb dX12_isDigit_16 (by decide) ?_
    have hq := Option.some.inj hf
    subst hq
    exact W.zret (v := (0 : Int32)) hx hb hr rfl (fun t ht hW => ⟨rfl, ht⟩) (fun q h => by cases h) dX12_isDigit_17
  · rw [if_neg hc3] at hf
    refine lv_iload_n hx hb dX12_isDigit_6 rfl (lv_at hl 0 rfl) ?_
    refine lv_bipush (v := (57 : Int32)) hx hb dX12_isDigit_7 (by decide) ?_
    refine lv_icmp_gt (tgt := 16) hx hb dX12_isDigit_9 (by decide) (fun hc9 => ?_) (fun hc9 => ?_)
    · rw [if_pos hc9] at hf
      refine lv_iconst (v := (0 : Int32)) hx hb dX12_isDigit_16 (by decide) ?_
      have hq := Option.some.inj hf
      subst hq
      exact W.zret (v := (0 : Int32)) hx hb hr rfl (fun t ht hW => ⟨rfl, ht⟩) (fun q h => by cases h) dX12_isDigit_17
    · rw [if_neg hc9] at hf
      refine lv_iconst (v := (1 : Int32)) hx hb dX12_isDigit_12 (by decide) ?_
      refine lv_goto (tgt := 17) hx hb dX12_isDigit_13 (by decide) ?_
      have hq := Option.some.inj hf
      subst hq
      exact W.zret (v := (1 : Int32)) hx hb hr rfl (fun t ht hW => ⟨rfl, ht⟩) (fun q h => by cases h) dX12_isDigit_17
set_option maxHeartbeats 4000000 in
set_option maxRecDepth 100000 in
theorem c_X12_three (l : Launch) (dC : Nat → ClassId) (dI : Nat → Nat → Nat) (cyB cyI cyZ cyO : ClassId) (p0 : Int32) (p1 : Int32) (p2 : Int32) (r : Int64) (hf : f_X12_three p0 p1 p2 = some r) : Met l yX12_three wsX12_three ({ frames := 0, cells := 0, slots := 0, locals := 0 } : Room) (PR dC dI cyB cyI cyZ cyO ([.int p0, .int p1, .int p2] : List Value) ([] : va_W)) (QR (some (.long r))) 0 0 (fun _ => False) := by
  refine Met.ofW (cc := cX12_three) (maxL := 3) (ret := (some .long)) (by decide) rfl ?_
  intro p e s m args below meth c s₁ B hml hv
  obtain ⟨rfl, hP, hCx⟩ := hv
  have hK := hCx.1
  have hN := hCx.2
  have hx := B.exec
  have hb := B.bytes
  have hr := B.returns
  have hts := atoms_spec (ws := wsX12_three) B.pre
  have hown : s.vm.findClass RX12 = some m.cls := findClass_of_methodNamed B.named
  have hlocks := B.notSynchronized
  have hl := lv_entry ([.int p0, .int p1, .int p2] : List Value) (n := 3) (Nat.le_of_ble_eq_true rfl)
  rw [lg_entry_eq]
  generalize (lg_sl ([.int p0, .int p1, .int p2] : List Value) ++ List.replicate (3 - (lg_sl ([.int p0, .int p1, .int p2] : List Value)).length) Slot.unset).toArray = ls at hl ⊢
  have hl : lv_has ls 3 [(0, .int p0), (1, .int p1), (2, .int p2)] := hl
  rw [f_X12_three] at hf
  refine lv_ldc2 (v := (32 : Int64)) hx hb hown (hts (.constantLong RX12 45 (32)) (by decide +kernel)) dX12_three_0 ?_
  refine lv_iload_n hx hb dX12_three_3 rfl (lv_at hl 0 rfl) ?_
  refine lv_bipush (v := (96 : Int32)) hx hb dX12_three_4 (by decide) ?_
  refine lv_isub hx hb dX12_three_6 ?_
  refine lv_i2l (v := ((p0 - (96 : Int32))).toInt64) hx hb dX12_three_7 rfl ?_
  refine lv_lmul hx hb dX12_three_8 ?_
  refine lv_iload_n hx hb dX12_three_9 rfl (lv_at hl 1 rfl) ?_
  refine lv_i2l (v := (p1).toInt64) hx hb dX12_three_10 rfl ?_
  refine lv_ladd hx hb dX12_three_11 ?_
  refine lv_ldc2 (v := (96 : Int64)) hx hb hown (hts (.constantLong RX12 47 (96)) (by decide +kernel)) dX12_three_12 ?_
  refine lv_lsub hx hb dX12_three_15 ?_
  refine lv_ldc2 (v := (32 : Int64)) hx hb hown (hts (.constantLong RX12 45 (32)) (by decide +kernel)) dX12_three_16 ?_
  refine lv_lmul hx hb dX12_three_19 ?_
  refine lv_iload_n hx hb dX12_three_20 rfl (lv_at hl 2 rfl) ?_
  refine lv_i2l (v := (p2).toInt64) hx hb dX12_three_21 rfl ?_
  refine lv_ladd hx hb dX12_three_22 ?_
  refine lv_ldc2 (v := (96 : Int64)) hx hb hown (hts (.constantLong RX12 47 (96)) (by decide +kernel)) dX12_three_23 ?_
  refine lv_lsub hx hb dX12_three_26 ?_
  have hq := Option.some.inj hf
  subst hq
  exact W.lret (v := (((((((32 : Int64) * ((p0 - (96 : Int32))).toInt64) + (p1).toInt64) - (96 : Int64)) * (32 : Int64)) + (p2).toInt64) - (96 : Int64))) hx hb hr (fun t ht hW => ⟨rfl, ht⟩) (fun q h => by cases h) dX12_three_27
set_option maxHeartbeats 4000000 in
set_option maxRecDepth 100000 in
theorem c_X12_four (l : Launch) (dC : Nat → ClassId) (dI : Nat → Nat → Nat) (cyB cyI cyZ cyO : ClassId) (p0 : Int32) (p1 : Int32) (p2 : Int32) (p3 : Int32) (r : Int64) (hf : f_X12_four p0 p1 p2 p3 = some r) : Met l yX12_four wsX12_four ({ frames := 1, cells := 0, slots := 0, locals := 22 } : Room) (PR dC dI cyB cyI cyZ cyO ([.int p0, .int p1, .int p2, .int p3] : List Value) ([] : va_W)) (QR (some (.long r))) 0 0 (fun _ => False) := by
  refine Met.ofW (cc := cX12_four) (maxL := 4) (ret := (some .long)) (by decide) rfl ?_
  intro p e s m args below meth c s₁ B hml hv
  obtain ⟨rfl, hP, hCx⟩ := hv
  have hK := hCx.1
  have hN := hCx.2
  have hx := B.exec
  have hb := B.bytes
  have hr := B.returns
  have hts := atoms_spec (ws := wsX12_four) B.pre
  have hown : s.vm.findClass RX12 = some m.cls := findClass_of_methodNamed B.named
  have hlocks := B.notSynchronized
  have hl := lv_entry ([.int p0, .int p1, .int p2, .int p3] : List Value) (n := 4) (Nat.le_of_ble_eq_true rfl)
  rw [lg_entry_eq]
  generalize (lg_sl ([.int p0, .int p1, .int p2, .int p3] : List Value) ++ List.replicate (4 - (lg_sl ([.int p0, .int p1, .int p2, .int p3] : List Value)).length) Slot.unset).toArray = ls at hl ⊢
  have hl : lv_has ls 4 [(0, .int p0), (1, .int p1), (2, .int p2), (3, .int p3)] := hl
  rw [f_X12_four] at hf
  refine lv_iload_n hx hb dX12_four_0 rfl (lv_at hl 0 rfl) ?_
  refine lv_iload_n hx hb dX12_four_1 rfl (lv_at hl 1 rfl) ?_
  refine lv_iload_n hx hb dX12_four_2 rfl (lv_at hl 2 rfl) ?_
  obtain ⟨r3, h3, hf⟩ := bd1_some hf
  refine ro_calll (va_runS (As := [.int p0, .int p1, .int p2]) (rest := []) ⟨hx, hb, hml, hown, hts⟩ (c_X12_three l dC dI cyB cyI cyZ cyO p0 p1 p2 r3 h3) (va_cwS 3 hts gX12_four_X12_three rfl rfl rfl (by decide +kernel) ⟨Nat.le_of_ble_eq_true rfl, Nat.le_of_ble_eq_true rfl⟩) ⟨PR.blind, fun U hU hW => ⟨rfl, by rw [hU]; exact hP, hCx.warm hW⟩⟩ rfl rfl hl.1 rfl (lv_room (Nat.le_of_ble_eq_true rfl)) dX12_four_3 ⟨Nat.zero_le _, Nat.zero_le _⟩) ?_
  refine lv_ldc2 (v := (32 : Int64)) hx hb hown (hts (.constantLong RX12 45 (32)) (by decide +kernel)) dX12_four_6 ?_
  refine lv_lmul hx hb dX12_four_9 ?_
  refine lv_iload_n hx hb dX12_four_10 rfl (lv_at hl 3 rfl) ?_
  refine lv_i2l (v := (p3).toInt64) hx hb dX12_four_11 rfl ?_
  refine lv_ladd hx hb dX12_four_12 ?_
  refine lv_ldc2 (v := (96 : Int64)) hx hb hown (hts (.constantLong RX12 47 (96)) (by decide +kernel)) dX12_four_13 ?_
  refine lv_lsub hx hb dX12_four_16 ?_
  have hq := Option.some.inj hf
  subst hq
  exact W.lret (v := (((r3 * (32 : Int64)) + (p3).toInt64) - (96 : Int64))) hx hb hr (fun t ht hW => ⟨rfl, ht⟩) (fun q h => by cases h) dX12_four_17
set_option maxHeartbeats 4000000 in
set_option maxRecDepth 100000 in
theorem c_X12_wordOf (l : Launch) (dC : Nat → ClassId) (dI : Nat → Nat → Nat) (cyB cyI cyZ cyO : ClassId) (p0 : Int64) (r : Int32) (hf : f_X12_wordOf p0 = some r) : Met l yX12_wordOf wsX12_wordOf ({ frames := 2, cells := 0, slots := 0, locals := 45 } : Room) (PR dC dI cyB cyI cyZ cyO ([.long p0] : List Value) ([] : va_W)) (QR (some (.int r))) 0 0 (fun _ => False) := by
  refine Met.ofW (cc := cX12_wordOf) (maxL := 2) (ret := (some .int)) (by decide) rfl ?_
  intro p e s m args below meth c s₁ B hml hv
  obtain ⟨rfl, hP, hCx⟩ := hv
  have hK := hCx.1
  have hN := hCx.2
  have hx := B.exec
  have hb := B.bytes
  have hr := B.returns
  have hts := atoms_spec (ws := wsX12_wordOf) B.pre
  have hown : s.vm.findClass RX12 = some m.cls := findClass_of_methodNamed B.named
  have hlocks := B.notSynchronized
  have hl := lv_entry ([.long p0] : List Value) (n := 2) (Nat.le_of_ble_eq_true rfl)
  rw [lg_entry_eq]
  generalize (lg_sl ([.long p0] : List Value) ++ List.replicate (2 - (lg_sl ([.long p0] : List Value)).length) Slot.unset).toArray = ls at hl ⊢
  have hl : lv_has ls 2 [(0, .long p0)] := hl
  rw [f_X12_wordOf] at hf
  refine lv_lload_n hx hb dX12_wordOf_0 rfl (lv_at hl 0 rfl) ?_
  refine lv_bipush (v := (119 : Int32)) hx hb dX12_wordOf_1 (by decide) ?_
  refine lv_bipush (v := (105 : Int32)) hx hb dX12_wordOf_3 (by decide) ?_
  refine lv_bipush (v := (100 : Int32)) hx hb dX12_wordOf_5 (by decide) ?_
  refine lv_bipush (v := (111 : Int32)) hx hb dX12_wordOf_7 (by decide) ?_
  obtain ⟨r9, h9, hf⟩ := bd1_some hf
  refine ro_calll (va_runS (As := [.int (119 : Int32), .int (105 : Int32), .int (100 : Int32), .int (111 : Int32)]) (rest := [.long p0]) ⟨hx, hb, hml, hown, hts⟩ (c_X12_four l dC dI cyB cyI cyZ cyO (119 : Int32) (105 : Int32) (100 : Int32) (111 : Int32) r9 h9) (va_cwS 4 hts gX12_wordOf_X12_four rfl rfl rfl (by decide +kernel) ⟨Nat.le_of_ble_eq_true rfl, Nat.le_of_ble_eq_true rfl⟩) ⟨PR.blind, fun U hU hW => ⟨rfl, by rw [hU]; exact hP, hCx.warm hW⟩⟩ rfl rfl hl.1 rfl (lv_room (Nat.le_of_ble_eq_true rfl)) dX12_wordOf_9 ⟨Nat.zero_le _, Nat.zero_le _⟩) ?_
  refine lv_ldc2 (v := (32 : Int64)) hx hb hown (hts (.constantLong RX12 45 (32)) (by decide +kernel)) dX12_wordOf_12 ?_
  refine lv_lmul hx hb dX12_wordOf_15 ?_
  refine lv_ldc2 (v := (119 : Int64)) hx hb hown (hts (.constantLong RX12 57 (119)) (by decide +kernel)) dX12_wordOf_16 ?_
  refine lv_ladd hx hb dX12_wordOf_19 ?_
  refine lv_ldc2 (v := (96 : Int64)) hx hb hown (hts (.constantLong RX12 47 (96)) (by decide +kernel)) dX12_wordOf_20 ?_
  refine lv_lsub hx hb dX12_wordOf_23 ?_
  refine W.lcmp hx hb dX12_wordOf_24 ?_
  refine lv_if_ne (tgt := 30) hx hb dX12_wordOf_25 (by decide) (fun hc25 => ?_) (fun hc25 => ?_)
  · rw [if_neg hc25] at hf
    refine lv_lload_n hx hb dX12_wordOf_30 rfl (lv_at hl 0 rfl) ?_
    refine lv_bipush (v := (114 : Int32)) hx hb dX12_wordOf_31 (by decide) ?_
    refine lv_bipush (v := (97 : Int32)) hx hb dX12_wordOf_33 (by decide) ?_
    refine lv_bipush (v := (110 : Int32)) hx hb dX12_wordOf_35 (by decide) ?_
    refine lv_bipush (v := (107 : Int32)) hx hb dX12_wordOf_37 (by decide) ?_
    obtain ⟨r39, h39, hf⟩ := bd1_some hf
    refine ro_calll (va_runS (As := [.int (114 : Int32), .int (97 : Int32), .int (110 : Int32), .int (107 : Int32)]) (rest := [.long p0]) ⟨hx, hb, hml, hown, hts⟩ (c_X12_four l dC dI cyB cyI cyZ cyO (114 : Int32) (97 : Int32) (110 : Int32) (107 : Int32) r39 h39) (va_cwS 4 hts gX12_wordOf_X12_four rfl rfl rfl (by decide +kernel) ⟨Nat.le_of_ble_eq_true rfl, Nat.le_of_ble_eq_true rfl⟩) ⟨PR.blind, fun U hU hW => ⟨rfl, by rw [hU]; exact hP, hCx.warm hW⟩⟩ rfl rfl hl.1 rfl (lv_room (Nat.le_of_ble_eq_true rfl)) dX12_wordOf_39 ⟨Nat.zero_le _, Nat.zero_le _⟩) ?_
    refine W.lcmp hx hb dX12_wordOf_42 ?_
    refine lv_if_ne (tgt := 48) hx hb dX12_wordOf_43 (by decide) (fun hc43 => ?_) (fun hc43 => ?_)
    · rw [if_neg hc43] at hf
      refine lv_lload_n hx hb dX12_wordOf_48 rfl (lv_at hl 0 rfl) ?_
      refine lv_bipush (v := (121 : Int32)) hx hb dX12_wordOf_49 (by decide) ?_
      refine lv_bipush (v := (101 : Int32)) hx hb dX12_wordOf_51 (by decide) ?_
      refine lv_bipush (v := (97 : Int32)) hx hb dX12_wordOf_53 (by decide) ?_
      refine lv_bipush (v := (114 : Int32)) hx hb dX12_wordOf_55 (by decide) ?_
      obtain ⟨r57, h57, hf⟩ := bd1_some hf
      refine ro_calll (va_runS (As := [.int (121 : Int32), .int (101 : Int32), .int (97 : Int32), .int (114 : Int32)]) (rest := [.long p0]) ⟨hx, hb, hml, hown, hts⟩ (c_X12_four l dC dI cyB cyI cyZ cyO (121 : Int32) (101 : Int32) (97 : Int32) (114 : Int32) r57 h57) (va_cwS 4 hts gX12_wordOf_X12_four rfl rfl rfl (by decide +kernel) ⟨Nat.le_of_ble_eq_true rfl, Nat.le_of_ble_eq_true rfl⟩) ⟨PR.blind, fun U hU hW => ⟨rfl, by rw [hU]; exact hP, hCx.warm hW⟩⟩ rfl rfl hl.1 rfl (lv_room (Nat.le_of_ble_eq_true rfl)) dX12_wordOf_57 ⟨Nat.zero_le _, Nat.zero_le _⟩) ?_
      refine W.lcmp hx hb dX12_wordOf_60 ?_
      refine lv_if_ne (tgt := 66) hx hb dX12_wordOf_61 (by decide) (fun hc61 => ?_) (fun hc61 => ?_)
      · rw [if_neg hc61] at hf
        refine lv_lload_n hx hb dX12_wordOf_66 rfl (lv_at hl 0 rfl) ?_
        refine lv_bipush (v := (115 : Int32)) hx hb dX12_wordOf_67 (by decide) ?_
        refine lv_bipush (v := (108 : Int32)) hx hb dX12_wordOf_69 (by decide) ?_
        refine lv_bipush (v := (105 : Int32)) hx hb dX12_wordOf_71 (by decide) ?_
        refine lv_bipush (v := (112 : Int32)) hx hb dX12_wordOf_73 (by decide) ?_
        obtain ⟨r75, h75, hf⟩ := bd1_some hf
        refine ro_calll (va_runS (As := [.int (115 : Int32), .int (108 : Int32), .int (105 : Int32), .int (112 : Int32)]) (rest := [.long p0]) ⟨hx, hb, hml, hown, hts⟩ (c_X12_four l dC dI cyB cyI cyZ cyO (115 : Int32) (108 : Int32) (105 : Int32) (112 : Int32) r75 h75) (va_cwS 4 hts gX12_wordOf_X12_four rfl rfl rfl (by decide +kernel) ⟨Nat.le_of_ble_eq_true rfl, Nat.le_of_ble_eq_true rfl⟩) ⟨PR.blind, fun U hU hW => ⟨rfl, by rw [hU]; exact hP, hCx.warm hW⟩⟩ rfl rfl hl.1 rfl (lv_room (Nat.le_of_ble_eq_true rfl)) dX12_wordOf_75 ⟨Nat.zero_le _, Nat.zero_le _⟩) ?_
        refine lv_ldc2 (v := (32 : Int64)) hx hb hown (hts (.constantLong RX12 45 (32)) (by decide +kernel)) dX12_wordOf_78 ?_
        refine lv_lmul hx hb dX12_wordOf_81 ?_
        refine lv_ldc2 (v := (115 : Int64)) hx hb hown (hts (.constantLong RX12 59 (115)) (by decide +kernel)) dX12_wordOf_82 ?_
        refine lv_ladd hx hb dX12_wordOf_85 ?_
        refine lv_ldc2 (v := (96 : Int64)) hx hb hown (hts (.constantLong RX12 47 (96)) (by decide +kernel)) dX12_wordOf_86 ?_
        refine lv_lsub hx hb dX12_wordOf_89 ?_
        refine W.lcmp hx hb dX12_wordOf_90 ?_
        refine lv_if_ne (tgt := 96) hx hb dX12_wordOf_91 (by decide) (fun hc91 => ?_) (fun hc91 => ?_)
        · rw [if_neg hc91] at hf
          refine lv_lload_n hx hb dX12_wordOf_96 rfl (lv_at hl 0 rfl) ?_
          refine lv_bipush (v := (108 : Int32)) hx hb dX12_wordOf_97 (by decide) ?_
          refine lv_bipush (v := (111 : Int32)) hx hb dX12_wordOf_99 (by decide) ?_
          refine lv_bipush (v := (115 : Int32)) hx hb dX12_wordOf_101 (by decide) ?_
          refine lv_bipush (v := (116 : Int32)) hx hb dX12_wordOf_103 (by decide) ?_
          obtain ⟨r105, h105, hf⟩ := bd1_some hf
          refine ro_calll (va_runS (As := [.int (108 : Int32), .int (111 : Int32), .int (115 : Int32), .int (116 : Int32)]) (rest := [.long p0]) ⟨hx, hb, hml, hown, hts⟩ (c_X12_four l dC dI cyB cyI cyZ cyO (108 : Int32) (111 : Int32) (115 : Int32) (116 : Int32) r105 h105) (va_cwS 4 hts gX12_wordOf_X12_four rfl rfl rfl (by decide +kernel) ⟨Nat.le_of_ble_eq_true rfl, Nat.le_of_ble_eq_true rfl⟩) ⟨PR.blind, fun U hU hW => ⟨rfl, by rw [hU]; exact hP, hCx.warm hW⟩⟩ rfl rfl hl.1 rfl (lv_room (Nat.le_of_ble_eq_true rfl)) dX12_wordOf_105 ⟨Nat.zero_le _, Nat.zero_le _⟩) ?_
          refine W.lcmp hx hb dX12_wordOf_108 ?_
          refine lv_if_ne (tgt := 114) hx hb dX12_wordOf_109 (by decide) (fun hc109 => ?_) (fun hc109 => ?_)
          · rw [if_neg hc109] at hf
            refine lv_lload_n hx hb dX12_wordOf_114 rfl (lv_at hl 0 rfl) ?_
            refine lv_bipush (v := (115 : Int32)) hx hb dX12_wordOf_115 (by decide) ?_
            refine lv_bipush (v := (104 : Int32)) hx hb dX12_wordOf_117 (by decide) ?_
            refine lv_bipush (v := (97 : Int32)) hx hb dX12_wordOf_119 (by decide) ?_
            refine lv_bipush (v := (114 : Int32)) hx hb dX12_wordOf_121 (by decide) ?_
            obtain ⟨r123, h123, hf⟩ := bd1_some hf
            refine ro_calll (va_runS (As := [.int (115 : Int32), .int (104 : Int32), .int (97 : Int32), .int (114 : Int32)]) (rest := [.long p0]) ⟨hx, hb, hml, hown, hts⟩ (c_X12_four l dC dI cyB cyI cyZ cyO (115 : Int32) (104 : Int32) (97 : Int32) (114 : Int32) r123 h123) (va_cwS 4 hts gX12_wordOf_X12_four rfl rfl rfl (by decide +kernel) ⟨Nat.le_of_ble_eq_true rfl, Nat.le_of_ble_eq_true rfl⟩) ⟨PR.blind, fun U hU hW => ⟨rfl, by rw [hU]; exact hP, hCx.warm hW⟩⟩ rfl rfl hl.1 rfl (lv_room (Nat.le_of_ble_eq_true rfl)) dX12_wordOf_123 ⟨Nat.zero_le _, Nat.zero_le _⟩) ?_
            refine lv_ldc2 (v := (32 : Int64)) hx hb hown (hts (.constantLong RX12 45 (32)) (by decide +kernel)) dX12_wordOf_126 ?_
            refine lv_lmul hx hb dX12_wordOf_129 ?_
            refine lv_ldc2 (v := (101 : Int64)) hx hb hown (hts (.constantLong RX12 61 (101)) (by decide +kernel)) dX12_wordOf_130 ?_
            refine lv_ladd hx hb dX12_wordOf_133 ?_
            refine lv_ldc2 (v := (96 : Int64)) hx hb hown (hts (.constantLong RX12 47 (96)) (by decide +kernel)) dX12_wordOf_134 ?_
            refine lv_lsub hx hb dX12_wordOf_137 ?_
            refine W.lcmp hx hb dX12_wordOf_138 ?_
            refine lv_if_ne (tgt := 145) hx hb dX12_wordOf_139 (by decide) (fun hc139 => ?_) (fun hc139 => ?_)
            · rw [if_neg hc139] at hf
              refine lv_lload_n hx hb dX12_wordOf_145 rfl (lv_at hl 0 rfl) ?_
              refine lv_bipush (v := (112 : Int32)) hx hb dX12_wordOf_146 (by decide) ?_
              refine lv_bipush (v := (108 : Int32)) hx hb dX12_wordOf_148 (by decide) ?_
              refine lv_bipush (v := (117 : Int32)) hx hb dX12_wordOf_150 (by decide) ?_
              refine lv_bipush (v := (115 : Int32)) hx hb dX12_wordOf_152 (by decide) ?_
              obtain ⟨r154, h154, hf⟩ := bd1_some hf
              refine ro_calll (va_runS (As := [.int (112 : Int32), .int (108 : Int32), .int (117 : Int32), .int (115 : Int32)]) (rest := [.long p0]) ⟨hx, hb, hml, hown, hts⟩ (c_X12_four l dC dI cyB cyI cyZ cyO (112 : Int32) (108 : Int32) (117 : Int32) (115 : Int32) r154 h154) (va_cwS 4 hts gX12_wordOf_X12_four rfl rfl rfl (by decide +kernel) ⟨Nat.le_of_ble_eq_true rfl, Nat.le_of_ble_eq_true rfl⟩) ⟨PR.blind, fun U hU hW => ⟨rfl, by rw [hU]; exact hP, hCx.warm hW⟩⟩ rfl rfl hl.1 rfl (lv_room (Nat.le_of_ble_eq_true rfl)) dX12_wordOf_154 ⟨Nat.zero_le _, Nat.zero_le _⟩) ?_
              refine W.lcmp hx hb dX12_wordOf_157 ?_
              refine lv_if_ne (tgt := 164) hx hb dX12_wordOf_158 (by decide) (fun hc158 => ?_) (fun hc158 => ?_)
              · rw [if_neg hc158] at hf
                refine lv_lload_n hx hb dX12_wordOf_164 rfl (lv_at hl 0 rfl) ?_
                refine lv_bipush (v := (110 : Int32)) hx hb dX12_wordOf_165 (by decide) ?_
                refine lv_bipush (v := (111 : Int32)) hx hb dX12_wordOf_167 (by decide) ?_
                refine lv_bipush (v := (110 : Int32)) hx hb dX12_wordOf_169 (by decide) ?_
                refine lv_bipush (v := (101 : Int32)) hx hb dX12_wordOf_171 (by decide) ?_
                obtain ⟨r173, h173, hf⟩ := bd1_some hf
                refine ro_calll (va_runS (As := [.int (110 : Int32), .int (111 : Int32), .int (110 : Int32), .int (101 : Int32)]) (rest := [.long p0]) ⟨hx, hb, hml, hown, hts⟩ (c_X12_four l dC dI cyB cyI cyZ cyO (110 : Int32) (111 : Int32) (110 : Int32) (101 : Int32) r173 h173) (va_cwS 4 hts gX12_wordOf_X12_four rfl rfl rfl (by decide +kernel) ⟨Nat.le_of_ble_eq_true rfl, Nat.le_of_ble_eq_true rfl⟩) ⟨PR.blind, fun U hU hW => ⟨rfl, by rw [hU]; exact hP, hCx.warm hW⟩⟩ rfl rfl hl.1 rfl (lv_room (Nat.le_of_ble_eq_true rfl)) dX12_wordOf_173 ⟨Nat.zero_le _, Nat.zero_le _⟩) ?_
                refine W.lcmp hx hb dX12_wordOf_176 ?_
                refine lv_if_ne (tgt := 183) hx hb dX12_wordOf_177 (by decide) (fun hc177 => ?_) (fun hc177 => ?_)
                · rw [if_neg hc177] at hf
                  refine lv_lload_n hx hb dX12_wordOf_183 rfl (lv_at hl 0 rfl) ?_
                  refine lv_ldc2 (v := (294 : Int64)) hx hb hown (hts (.constantLong RX12 63 (294)) (by decide +kernel)) dX12_wordOf_184 ?_
                  refine W.lcmp hx hb dX12_wordOf_187 ?_
                  refine lv_if_ne (tgt := 194) hx hb dX12_wordOf_188 (by decide) (fun hc188 => ?_) (fun hc188 => ?_)
                  · rw [if_neg hc188] at hf
                    refine lv_lload_n hx hb dX12_wordOf_194 rfl (lv_at hl 0 rfl) ?_
                    refine lv_bipush (v := (97 : Int32)) hx hb dX12_wordOf_195 (by decide) ?_
                    refine lv_bipush (v := (110 : Int32)) hx hb dX12_wordOf_197 (by decide) ?_
                    refine lv_bipush (v := (100 : Int32)) hx hb dX12_wordOf_199 (by decide) ?_
                    obtain ⟨r201, h201, hf⟩ := bd1_some hf
                    refine ro_calll (va_runS (As := [.int (97 : Int32), .int (110 : Int32), .int (100 : Int32)]) (rest := [.long p0]) ⟨hx, hb, hml, hown, hts⟩ (c_X12_three l dC dI cyB cyI cyZ cyO (97 : Int32) (110 : Int32) (100 : Int32) r201 h201) (va_cwS 3 hts gX12_wordOf_X12_three rfl rfl rfl (by decide +kernel) ⟨Nat.le_of_ble_eq_true rfl, Nat.le_of_ble_eq_true rfl⟩) ⟨PR.blind, fun U hU hW => ⟨rfl, by rw [hU]; exact hP, hCx.warm hW⟩⟩ rfl rfl hl.1 rfl (lv_room (Nat.le_of_ble_eq_true rfl)) dX12_wordOf_201 ⟨Nat.zero_le _, Nat.zero_le _⟩) ?_
                    refine W.lcmp hx hb dX12_wordOf_204 ?_
                    refine lv_if_ne (tgt := 211) hx hb dX12_wordOf_205 (by decide) (fun hc205 => ?_) (fun hc205 => ?_)
                    · rw [if_neg hc205] at hf
                      refine lv_lload_n hx hb dX12_wordOf_211 rfl (lv_at hl 0 rfl) ?_
                      refine lv_bipush (v := (110 : Int32)) hx hb dX12_wordOf_212 (by decide) ?_
                      refine lv_bipush (v := (111 : Int32)) hx hb dX12_wordOf_214 (by decide) ?_
                      refine lv_bipush (v := (116 : Int32)) hx hb dX12_wordOf_216 (by decide) ?_
                      obtain ⟨r218, h218, hf⟩ := bd1_some hf
                      refine ro_calll (va_runS (As := [.int (110 : Int32), .int (111 : Int32), .int (116 : Int32)]) (rest := [.long p0]) ⟨hx, hb, hml, hown, hts⟩ (c_X12_three l dC dI cyB cyI cyZ cyO (110 : Int32) (111 : Int32) (116 : Int32) r218 h218) (va_cwS 3 hts gX12_wordOf_X12_three rfl rfl rfl (by decide +kernel) ⟨Nat.le_of_ble_eq_true rfl, Nat.le_of_ble_eq_true rfl⟩) ⟨PR.blind, fun U hU hW => ⟨rfl, by rw [hU]; exact hP, hCx.warm hW⟩⟩ rfl rfl hl.1 rfl (lv_room (Nat.le_of_ble_eq_true rfl)) dX12_wordOf_218 ⟨Nat.zero_le _, Nat.zero_le _⟩) ?_
                      refine W.lcmp hx hb dX12_wordOf_221 ?_
                      refine lv_if_ne (tgt := 228) hx hb dX12_wordOf_222 (by decide) (fun hc222 => ?_) (fun hc222 => ?_)
                      · rw [if_neg hc222] at hf
                        refine lv_bipush (v := (99 : Int32)) hx hb dX12_wordOf_228 (by decide) ?_
                        have hq := Option.some.inj hf
                        subst hq
                        exact W.iret (v := (99 : Int32)) hx hb hr (fun t ht hW => ⟨rfl, ht⟩) (fun q h => by cases h) dX12_wordOf_230
                      · rw [if_pos hc222] at hf
                        refine lv_bipush (v := (32 : Int32)) hx hb dX12_wordOf_225 (by decide) ?_
                        have hq := Option.some.inj hf
                        subst hq
                        exact W.iret (v := (32 : Int32)) hx hb hr (fun t ht hW => ⟨rfl, ht⟩) (fun q h => by cases h) dX12_wordOf_227
                    · rw [if_pos hc205] at hf
                      refine lv_bipush (v := (31 : Int32)) hx hb dX12_wordOf_208 (by decide) ?_
                      have hq := Option.some.inj hf
                      subst hq
                      exact W.iret (v := (31 : Int32)) hx hb hr (fun t ht hW => ⟨rfl, ht⟩) (fun q h => by cases h) dX12_wordOf_210
                  · rw [if_pos hc188] at hf
                    refine lv_bipush (v := (30 : Int32)) hx hb dX12_wordOf_191 (by decide) ?_
                    have hq := Option.some.inj hf
                    subst hq
                    exact W.iret (v := (30 : Int32)) hx hb hr (fun t ht hW => ⟨rfl, ht⟩) (fun q h => by cases h) dX12_wordOf_193
                · rw [if_pos hc177] at hf
                  refine lv_bipush (v := (22 : Int32)) hx hb dX12_wordOf_180 (by decide) ?_
                  have hq := Option.some.inj hf
                  subst hq
                  exact W.iret (v := (22 : Int32)) hx hb hr (fun t ht hW => ⟨rfl, ht⟩) (fun q h => by cases h) dX12_wordOf_182
              · rw [if_pos hc158] at hf
                refine lv_bipush (v := (21 : Int32)) hx hb dX12_wordOf_161 (by decide) ?_
                have hq := Option.some.inj hf
                subst hq
                exact W.iret (v := (21 : Int32)) hx hb hr (fun t ht hW => ⟨rfl, ht⟩) (fun q h => by cases h) dX12_wordOf_163
            · rw [if_pos hc139] at hf
              refine lv_bipush (v := (20 : Int32)) hx hb dX12_wordOf_142 (by decide) ?_
              have hq := Option.some.inj hf
              subst hq
              exact W.iret (v := (20 : Int32)) hx hb hr (fun t ht hW => ⟨rfl, ht⟩) (fun q h => by cases h) dX12_wordOf_144
          · rw [if_pos hc109] at hf
            refine lv_iconst (v := (5 : Int32)) hx hb dX12_wordOf_112 (by decide) ?_
            have hq := Option.some.inj hf
            subst hq
            exact W.iret (v := (5 : Int32)) hx hb hr (fun t ht hW => ⟨rfl, ht⟩) (fun q h => by cases h) dX12_wordOf_113
        · rw [if_pos hc91] at hf
          refine lv_iconst (v := (4 : Int32)) hx hb dX12_wordOf_94 (by decide) ?_
          have hq := Option.some.inj hf
          subst hq
          exact W.iret (v := (4 : Int32)) hx hb hr (fun t ht hW => ⟨rfl, ht⟩) (fun q h => by cases h) dX12_wordOf_95
      · rw [if_pos hc61] at hf
        refine lv_iconst (v := (3 : Int32)) hx hb dX12_wordOf_64 (by decide) ?_
        have hq := Option.some.inj hf
        subst hq
        exact W.iret (v := (3 : Int32)) hx hb hr (fun t ht hW => ⟨rfl, ht⟩) (fun q h => by cases h) dX12_wordOf_65
    · rw [if_pos hc43] at hf
      refine lv_iconst (v := (2 : Int32)) hx hb dX12_wordOf_46 (by decide) ?_
      have hq := Option.some.inj hf
      subst hq
      exact W.iret (v := (2 : Int32)) hx hb hr (fun t ht hW => ⟨rfl, ht⟩) (fun q h => by cases h) dX12_wordOf_47
  · rw [if_pos hc25] at hf
    refine lv_iconst (v := (1 : Int32)) hx hb dX12_wordOf_28 (by decide) ?_
    have hq := Option.some.inj hf
    subst hq
    exact W.iret (v := (1 : Int32)) hx hb hr (fun t ht hW => ⟨rfl, ht⟩) (fun q h => by cases h) dX12_wordOf_29
set_option maxHeartbeats 4000000 in
set_option maxRecDepth 100000 in
theorem c_X12_isSignByte (l : Launch) (dC : Nat → ClassId) (dI : Nat → Nat → Nat) (cyB cyI cyZ cyO : ClassId) (p0 : Int32) (r : Int32) (hf : f_X12_isSignByte p0 = some r) : Met l yX12_isSignByte wsX12_isSignByte ({ frames := 0, cells := 0, slots := 0, locals := 0 } : Room) (PR dC dI cyB cyI cyZ cyO ([.int p0] : List Value) ([] : va_W)) (QR (some (.int r))) 0 0 (fun _ => False) := by
  refine Met.ofW (cc := cX12_isSignByte) (maxL := 1) (ret := (some .boolean)) (by decide) rfl ?_
  intro p e s m args below meth c s₁ B hml hv
  obtain ⟨rfl, hP, hCx⟩ := hv
  have hK := hCx.1
  have hN := hCx.2
  have hx := B.exec
  have hb := B.bytes
  have hr := B.returns
  have hts := atoms_spec (ws := wsX12_isSignByte) B.pre
  have hown : s.vm.findClass RX12 = some m.cls := findClass_of_methodNamed B.named
  have hlocks := B.notSynchronized
  have hl := lv_entry ([.int p0] : List Value) (n := 1) (Nat.le_of_ble_eq_true rfl)
  rw [lg_entry_eq]
  generalize (lg_sl ([.int p0] : List Value) ++ List.replicate (1 - (lg_sl ([.int p0] : List Value)).length) Slot.unset).toArray = ls at hl ⊢
  have hl : lv_has ls 1 [(0, .int p0)] := hl
  rw [f_X12_isSignByte] at hf
  refine lv_iload_n hx hb dX12_isSignByte_0 rfl (lv_at hl 0 rfl) ?_
  refine lv_bipush (v := (58 : Int32)) hx hb dX12_isSignByte_1 (by decide) ?_
  refine lv_icmp_eq (tgt := 30) hx hb dX12_isSignByte_3 (by decide) (fun hc3 => ?_) (fun hc3 => ?_)
  · rw [if_pos hc3] at hf
    refine lv_iconst (v := (1 : Int32)) hx hb dX12_isSignByte_30 (by decide) ?_
    refine lv_goto (tgt := 35) hx hb dX12_isSignByte_31 (by decide) ?_
    have hq := Option.some.inj hf
    subst hq
    exact W.zret (v := (1 : Int32)) hx hb hr rfl (fun t ht hW => ⟨rfl, ht⟩) (fun q h => by cases h) dX12_isSignByte_35
  · rw [if_neg hc3] at hf
    refine lv_iload_n hx hb dX12_isSignByte_6 rfl (lv_at hl 0 rfl) ?_
    refine lv_bipush (v := (59 : Int32)) hx hb dX12_isSignByte_7 (by decide) ?_
    refine lv_icmp_eq (tgt := 30) hx hb dX12_isSignByte_9 (by decide) (fun hc9 => ?_) (fun hc9 => ?_)
    · rw [if_pos hc9] at hf
      refine lv_iconst (v := (1 : Int32)) hx hb dX12_isSignByte_30 (by decide) ?_
      refine lv_goto (tgt := 35) hx hb dX12_isSignByte_31 (by decide) ?_
      have hq := Option.some.inj hf
      subst hq
      exact W.zret (v := (1 : Int32)) hx hb hr rfl (fun t ht hW => ⟨rfl, ht⟩) (fun q h => by cases h) dX12_isSignByte_35
    · rw [if_neg hc9] at hf
      refine lv_iload_n hx hb dX12_isSignByte_12 rfl (lv_at hl 0 rfl) ?_
      refine lv_bipush (v := (60 : Int32)) hx hb dX12_isSignByte_13 (by decide) ?_
      refine lv_icmp_eq (tgt := 30) hx hb dX12_isSignByte_15 (by decide) (fun hc15 => ?_) (fun hc15 => ?_)
      · rw [if_pos hc15] at hf
        refine lv_iconst (v := (1 : Int32)) hx hb dX12_isSignByte_30 (by decide) ?_
        refine lv_goto (tgt := 35) hx hb dX12_isSignByte_31 (by decide) ?_
        have hq := Option.some.inj hf
        subst hq
        exact W.zret (v := (1 : Int32)) hx hb hr rfl (fun t ht hW => ⟨rfl, ht⟩) (fun q h => by cases h) dX12_isSignByte_35
      · rw [if_neg hc15] at hf
        refine lv_iload_n hx hb dX12_isSignByte_18 rfl (lv_at hl 0 rfl) ?_
        refine lv_bipush (v := (62 : Int32)) hx hb dX12_isSignByte_19 (by decide) ?_
        refine lv_icmp_eq (tgt := 30) hx hb dX12_isSignByte_21 (by decide) (fun hc21 => ?_) (fun hc21 => ?_)
        · rw [if_pos hc21] at hf
          refine lv_iconst (v := (1 : Int32)) hx hb dX12_isSignByte_30 (by decide) ?_
          refine lv_goto (tgt := 35) hx hb dX12_isSignByte_31 (by decide) ?_
          have hq := Option.some.inj hf
          subst hq
          exact W.zret (v := (1 : Int32)) hx hb hr rfl (fun t ht hW => ⟨rfl, ht⟩) (fun q h => by cases h) dX12_isSignByte_35
        · rw [if_neg hc21] at hf
          refine lv_iload_n hx hb dX12_isSignByte_24 rfl (lv_at hl 0 rfl) ?_
          refine lv_bipush (v := (61 : Int32)) hx hb dX12_isSignByte_25 (by decide) ?_
          refine lv_icmp_ne (tgt := 34) hx hb dX12_isSignByte_27 (by decide) (fun hc27 => ?_) (fun hc27 => ?_)
          · rw [if_neg hc27] at hf
            refine lv_iconst (v := (0 : Int32)) hx hb dX12_isSignByte_34 (by decide) ?_
            have hq := Option.some.inj hf
            subst hq
            exact W.zret (v := (0 : Int32)) hx hb hr rfl (fun t ht hW => ⟨rfl, ht⟩) (fun q h => by cases h) dX12_isSignByte_35
          · rw [if_pos hc27] at hf
            refine lv_iconst (v := (1 : Int32)) hx hb dX12_isSignByte_30 (by decide) ?_
            refine lv_goto (tgt := 35) hx hb dX12_isSignByte_31 (by decide) ?_
            have hq := Option.some.inj hf
            subst hq
            exact W.zret (v := (1 : Int32)) hx hb hr rfl (fun t ht hW => ⟨rfl, ht⟩) (fun q h => by cases h) dX12_isSignByte_35
set_option maxHeartbeats 4000000 in
set_option maxRecDepth 100000 in
theorem c_X12_advance (l : Launch) (dC : Nat → ClassId) (dI : Nat → Nat → Nat) (cyB cyI cyZ cyO : ClassId) (h h_all h_has h_read h_test h_rest h_gets h_waits h_way h_good h_left : Nat) (sz : Nat) (M_h : Mem) (R_h : Mem) (hf : f_X12_advance M_h = some R_h) : Met l yX12_advance wsX12_advance ({ frames := 3, cells := 0, slots := 0, locals := 66 } : Room) (PW dC dI cyB cyI cyZ cyO ([.ref h] : List Value) (wX12 cyB cyI cyZ cyO h h_all h_has h_read h_test h_rest h_gets h_waits h_way h_good h_left M_h) sz) (QW dC dI none (wX12 cyB cyI cyZ cyO h h_all h_has h_read h_test h_rest h_gets h_waits h_way h_good h_left R_h) (va_A (wX12 cyB cyI cyZ cyO h h_all h_has h_read h_test h_rest h_gets h_waits h_way h_good h_left M_h) sz)) 0 0 (va_A (wX12 cyB cyI cyZ cyO h h_all h_has h_read h_test h_rest h_gets h_waits h_way h_good h_left M_h) sz) := by
  refine Met.ofW (cc := cX12_advance) (maxL := 4) (ret := none) (by decide) rfl ?_
  intro p e s m args below meth c s₁ B hml hv
  obtain ⟨rfl, hsz, hP, hCx, hD0⟩ := hv
  have hK := hCx.1
  have hN := hCx.2
  have hx := B.exec
  have hb := B.bytes
  have hr := B.returns
  have hts := atoms_spec (ws := wsX12_advance) B.pre
  have hown : s.vm.findClass RX12 = some m.cls := findClass_of_methodNamed B.named
  have hlocks := B.notSynchronized
  have hin12 : ∀ w ∈ u_ws RX12 TX12 21, w ∈ wsX12_advance := fun w h => List.mem_cons_of_mem _ (List.mem_append_right _ h)
  have kf65 := hts (.fieldLink RX12 65 "HoldSlipsModel" "next" "I") (by decide +kernel)
  have kf72 := hts (.fieldLink RX12 72 "HoldSlipsModel" "where" "I") (by decide +kernel)
  have kf75 := hts (.fieldLink RX12 75 "HoldSlipsModel" "token" "I") (by decide +kernel)
  have kf86 := hts (.fieldLink RX12 86 "HoldSlipsModel" "word" "I") (by decide +kernel)
  have kf92 := hts (.fieldLink RX12 92 "HoldSlipsModel" "number" "I") (by decide +kernel)
  have kf95 := hts (.fieldLink RX12 95 "HoldSlipsModel" "sign" "I") (by decide +kernel)
  subst hsz
  have hD := hD0.self (sz := s.heap.size)
  generalize hAe : va_A (wX12 cyB cyI cyZ cyO h h_all h_has h_read h_test h_rest h_gets h_waits h_way h_good h_left M_h) s.heap.size = A at hD ⊢
  have hA : ∀ q : Nat, s.heap.size ≤ q → A q := fun q h => by rw [← hAe]; exact Or.inr h
  have hS : va_S A s.heap s.heap [] := va_S.rf
  have hl := lv_entry ([.ref h] : List Value) (n := 4) (Nat.le_of_ble_eq_true rfl)
  rw [lg_entry_eq]
  generalize (lg_sl ([.ref h] : List Value) ++ List.replicate (4 - (lg_sl ([.ref h] : List Value)).length) Slot.unset).toArray = ls at hl ⊢
  have hl : lv_has ls 4 [(0, .ref h)] := hl
  have L161 : ∀ (M_h : Mem) (s0 : Int32) (H : Heap) (locs : List Loc) (ls : Array Slot), f_X12_advance_L161 M_h s0 = some R_h → va_P (dC, dI) vwCl (wX12 cyB cyI cyZ cyO h h_all h_has h_read h_test h_rest h_gets h_waits h_way h_good h_left M_h) H → va_D A (wX12 cyB cyI cyZ cyO h h_all h_has h_read h_test h_rest h_gets h_waits h_way h_good h_left M_h) → va_S A s.heap H locs → lv_has ls 4 [(0, .ref h)] → W p l e (headSpec wsX12_advance ({ frames := 3, cells := 0, slots := 0, locals := 66 } : Room)).room s m ([.ref h] : List Value).toArray below meth c H locs 0 0 (MQ below (QW dC dI none (wX12 cyB cyI cyZ cyO h h_all h_has h_read h_test h_rest h_gets h_waits h_way h_good h_left R_h) A) ([.ref h] : List Value).toArray s 0 0 A) (F0 m 161 ls [.int s0, .ref h]) := by
    intro  M_h s0 H locs ls hf hP hD hS hl
    rw [f_X12_advance_L161] at hf
    refine va_put (D := (dC, dI)) (ci := 12) (v := .int s0) (ty := .int) (C := RX12) (T := TX12) (N := 21) hx hb hts hin12 tyX12 tyX12_ok nmX12 hown hK hP hD hS 0 rfl rfl 8 (by decide) kf86 (fun _ h9 => h9) rfl (by decide +kernel) rfl rfl (Nat.le_of_ble_eq_true rfl) dX12_advance_161 (fun H locs hP hD hS => ?_)
    obtain ⟨M_h_161, eM_h_161, hf⟩ := wr_some hf
    have hP : va_P (dC, dI) vwCl (wX12 cyB cyI cyZ cyO h h_all h_has h_read h_test h_rest h_gets h_waits h_way h_good h_left M_h_161) H := by rw [eM_h_161]; exact hP
    have hD : va_D A (wX12 cyB cyI cyZ cyO h h_all h_has h_read h_test h_rest h_gets h_waits h_way h_good h_left M_h_161) := by rw [eM_h_161]; exact hD
    refine lv_aload_n hx hb dX12_advance_164 rfl (lv_at hl 0 rfl) ?_
    refine lv_aload_n hx hb dX12_advance_165 rfl (lv_at hl 0 rfl) ?_
    refine va_get (D := (dC, dI)) (ci := 12) (v := .int (M_h_161 8 0)) (C := RX12) (T := TX12) (N := 21) hx hb hts hin12 hown hK hP 0 rfl rfl 8 (by decide) kf86 (fun _ h9 => h9) rfl dX12_advance_166 ?_
    refine lv_bipush (v := (99 : Int32)) hx hb dX12_advance_169 (by decide) ?_
    refine lv_icmp_ne (tgt := 178) hx hb dX12_advance_171 (by decide) (fun hc171 => ?_) (fun hc171 => ?_)
    · rw [if_neg hc171] at hf
      refine lv_iconst (v := (3 : Int32)) hx hb dX12_advance_178 (by decide) ?_
      refine va_put (D := (dC, dI)) (ci := 12) (v := .int (3 : Int32)) (ty := .int) (C := RX12) (T := TX12) (N := 21) hx hb hts hin12 tyX12 tyX12_ok nmX12 hown hK hP hD hS 0 rfl rfl 5 (by decide) kf75 (fun _ h9 => h9) rfl (by decide +kernel) rfl rfl (Nat.le_of_ble_eq_true rfl) dX12_advance_179 (fun H locs hP hD hS => ?_)
      obtain ⟨M_h_179, eM_h_179, hf⟩ := wr_some hf
      have hP : va_P (dC, dI) vwCl (wX12 cyB cyI cyZ cyO h h_all h_has h_read h_test h_rest h_gets h_waits h_way h_good h_left M_h_179) H := by rw [eM_h_179]; exact hP
      have hD : va_D A (wX12 cyB cyI cyZ cyO h h_all h_has h_read h_test h_rest h_gets h_waits h_way h_good h_left M_h_179) := by rw [eM_h_179]; exact hD
      refine lv_goto (tgt := 316) hx hb dX12_advance_182 (by decide) ?_
      have hq := Option.some.inj hf
      subst hq
      exact W.vret hx hb hr (fun t ht hW => ⟨rfl, by rw [ht]; exact hP, hD, hS.F ht⟩) hS.2.2 dX12_advance_316
    · rw [if_pos hc171] at hf
      refine lv_iconst (v := (4 : Int32)) hx hb dX12_advance_174 (by decide) ?_
      refine lv_goto (tgt := 179) hx hb dX12_advance_175 (by decide) ?_
      refine va_put (D := (dC, dI)) (ci := 12) (v := .int (4 : Int32)) (ty := .int) (C := RX12) (T := TX12) (N := 21) hx hb hts hin12 tyX12 tyX12_ok nmX12 hown hK hP hD hS 0 rfl rfl 5 (by decide) kf75 (fun _ h9 => h9) rfl (by decide +kernel) rfl rfl (Nat.le_of_ble_eq_true rfl) dX12_advance_179 (fun H locs hP hD hS => ?_)
      obtain ⟨M_h_179, eM_h_179, hf⟩ := wr_some hf
      have hP : va_P (dC, dI) vwCl (wX12 cyB cyI cyZ cyO h h_all h_has h_read h_test h_rest h_gets h_waits h_way h_good h_left M_h_179) H := by rw [eM_h_179]; exact hP
      have hD : va_D A (wX12 cyB cyI cyZ cyO h h_all h_has h_read h_test h_rest h_gets h_waits h_way h_good h_left M_h_179) := by rw [eM_h_179]; exact hD
      refine lv_goto (tgt := 316) hx hb dX12_advance_182 (by decide) ?_
      have hq := Option.some.inj hf
      subst hq
      exact W.vret hx hb hr (fun t ht hW => ⟨rfl, by rw [ht]; exact hP, hD, hS.F ht⟩) hS.2.2 dX12_advance_316
  have L77 : ∀ (n : Nat), ∀ (M_h : Mem) (x2 : Int64) (H : Heap) (locs : List Loc) (ls : Array Slot), f_X12_advance_L77 n M_h x2 = some R_h → va_P (dC, dI) vwCl (wX12 cyB cyI cyZ cyO h h_all h_has h_read h_test h_rest h_gets h_waits h_way h_good h_left M_h) H → va_D A (wX12 cyB cyI cyZ cyO h h_all h_has h_read h_test h_rest h_gets h_waits h_way h_good h_left M_h) → va_S A s.heap H locs → lv_has ls 4 [(0, .ref h), (2, .long x2)] → W p l e (headSpec wsX12_advance ({ frames := 3, cells := 0, slots := 0, locals := 66 } : Room)).room s m ([.ref h] : List Value).toArray below meth c H locs 0 0 (MQ below (QW dC dI none (wX12 cyB cyI cyZ cyO h h_all h_has h_read h_test h_rest h_gets h_waits h_way h_good h_left R_h) A) ([.ref h] : List Value).toArray s 0 0 A) (F0 m 77 ls []) := by
    intro n
    induction n with
    | zero => intro M_h x2 H locs ls hf hP hD hS hl; rw [f_X12_advance_L77] at hf; cases hf
    | succ n ih =>
      intro M_h x2 H locs ls hf hP hD hS hl
      rw [f_X12_advance_L77] at hf
      refine lv_aload_n hx hb dX12_advance_77 rfl (lv_at hl 0 rfl) ?_
      refine lv_aload_n hx hb dX12_advance_78 rfl (lv_at hl 0 rfl) ?_
      refine va_get (D := (dC, dI)) (ci := 12) (v := .int (M_h 3 0)) (C := RX12) (T := TX12) (N := 21) hx hb hts hin12 hown hK hP 0 rfl rfl 3 (by decide) kf65 (fun _ h9 => h9) rfl dX12_advance_79 ?_
      obtain ⟨r82, h82, hf⟩ := bd1_some hf
      refine ro_calli (va_runV (As := [.int (M_h 3 0)]) (rest := []) ⟨hx, hb, hml, hown, hts⟩ (c_X12_byteAt l dC dI cyB cyI cyZ cyO h h_all h_has h_read h_test h_rest h_gets h_waits h_way h_good h_left M_h (M_h 3 0) r82 h82) (cwV 1 hts gX12_advance_X12_byteAt rfl rfl rfl (by decide +kernel) ⟨Nat.le_of_ble_eq_true rfl, Nat.le_of_ble_eq_true rfl⟩) ⟨PR.blind, va_recv hK hP (ci := 12) (q0 := 0) rfl rfl, fun U hU hW => ⟨rfl, by rw [hU]; exact hP, hCx.warm hW⟩⟩ rfl rfl hl.1 rfl (lv_room (Nat.le_of_ble_eq_true rfl)) dX12_advance_82 ⟨Nat.zero_le _, Nat.zero_le _⟩) ?_
      obtain ⟨r85, h85, hf⟩ := bd1_some hf
      have hPc := hP.sub (ws' := ([] : va_W)) [] rfl
      refine ro_calli (va_runS (As := [.int r82]) (rest := []) ⟨hx, hb, hml, hown, hts⟩ (c_X12_isLetter l dC dI cyB cyI cyZ cyO r82 r85 h85) (va_cwS 1 hts gX12_advance_X12_isLetter rfl rfl rfl (by decide +kernel) ⟨Nat.le_of_ble_eq_true rfl, Nat.le_of_ble_eq_true rfl⟩) ⟨PR.blind, fun U hU hW => ⟨rfl, by rw [hU]; exact hPc, hCx.warm hW⟩⟩ rfl rfl hl.1 rfl (lv_room (Nat.le_of_ble_eq_true rfl)) dX12_advance_85 ⟨Nat.zero_le _, Nat.zero_le _⟩) ?_
      refine lv_if_eq (tgt := 138) hx hb dX12_advance_88 (by decide) (fun hc88 => ?_) (fun hc88 => ?_)
      · rw [if_pos hc88] at hf
        refine lv_aload_n hx hb dX12_advance_138 rfl (lv_at hl 0 rfl) ?_
        refine lv_aload_n hx hb dX12_advance_139 rfl (lv_at hl 0 rfl) ?_
        refine va_get (D := (dC, dI)) (ci := 12) (v := .int (M_h 3 0)) (C := RX12) (T := TX12) (N := 21) hx hb hts hin12 hown hK hP 0 rfl rfl 3 (by decide) kf65 (fun _ h9 => h9) rfl dX12_advance_140 ?_
        refine lv_aload_n hx hb dX12_advance_143 rfl (lv_at hl 0 rfl) ?_
        refine va_get (D := (dC, dI)) (ci := 12) (v := .int (M_h 4 0)) (C := RX12) (T := TX12) (N := 21) hx hb hts hin12 hown hK hP 0 rfl rfl 4 (by decide) kf72 (fun _ h9 => h9) rfl dX12_advance_144 ?_
        refine lv_isub hx hb dX12_advance_147 ?_
        refine lv_iconst (v := (5 : Int32)) hx hb dX12_advance_148 (by decide) ?_
        refine lv_icmp_le (tgt := 157) hx hb dX12_advance_149 (by decide) (fun hc149 => ?_) (fun hc149 => ?_)
        · rw [if_pos hc149] at hf
          refine lv_lload_n hx hb dX12_advance_157 rfl (lv_at hl 1 rfl) ?_
          obtain ⟨r158, h158, hf⟩ := bd1_some hf
          have hPc := hP.sub (ws' := ([] : va_W)) [] rfl
          refine ro_calli (va_runS (As := [.long x2]) (rest := [.ref h]) ⟨hx, hb, hml, hown, hts⟩ (c_X12_wordOf l dC dI cyB cyI cyZ cyO x2 r158 h158) (va_cwS 1 hts gX12_advance_X12_wordOf rfl rfl rfl (by decide +kernel) ⟨Nat.le_of_ble_eq_true rfl, Nat.le_of_ble_eq_true rfl⟩) ⟨PR.blind, fun U hU hW => ⟨rfl, by rw [hU]; exact hPc, hCx.warm hW⟩⟩ rfl rfl hl.1 rfl (lv_room (Nat.le_of_ble_eq_true rfl)) dX12_advance_158 ⟨Nat.zero_le _, Nat.zero_le _⟩) ?_
          exact L161 M_h r158 _ _ ls hf hP hD hS (lv_sub hl [0] rfl)
        · rw [if_neg hc149] at hf
          refine lv_bipush (v := (99 : Int32)) hx hb dX12_advance_152 (by decide) ?_
          refine lv_goto (tgt := 161) hx hb dX12_advance_154 (by decide) ?_
          exact L161 M_h (99 : Int32) _ _ ls hf hP hD hS (lv_sub hl [0] rfl)
      · rw [if_neg hc88] at hf
        refine lv_aload_n hx hb dX12_advance_91 rfl (lv_at hl 0 rfl) ?_
        refine va_get (D := (dC, dI)) (ci := 12) (v := .int (M_h 3 0)) (C := RX12) (T := TX12) (N := 21) hx hb hts hin12 hown hK hP 0 rfl rfl 3 (by decide) kf65 (fun _ h9 => h9) rfl dX12_advance_92 ?_
        refine lv_aload_n hx hb dX12_advance_95 rfl (lv_at hl 0 rfl) ?_
        refine va_get (D := (dC, dI)) (ci := 12) (v := .int (M_h 4 0)) (C := RX12) (T := TX12) (N := 21) hx hb hts hin12 hown hK hP 0 rfl rfl 4 (by decide) kf72 (fun _ h9 => h9) rfl dX12_advance_96 ?_
        refine lv_isub hx hb dX12_advance_99 ?_
        refine lv_bipush (v := (6 : Int32)) hx hb dX12_advance_100 (by decide) ?_
        refine lv_icmp_ge (tgt := 125) hx hb dX12_advance_102 (by decide) (fun hc102 => ?_) (fun hc102 => ?_)
        · rw [if_pos hc102] at hf
          refine lv_aload_n hx hb dX12_advance_125 rfl (lv_at hl 0 rfl) ?_
          refine lv_dup hx hb dX12_advance_126 rfl ?_
          refine va_get (D := (dC, dI)) (ci := 12) (v := .int (M_h 3 0)) (C := RX12) (T := TX12) (N := 21) hx hb hts hin12 hown hK hP 0 rfl rfl 3 (by decide) kf65 (fun _ h9 => h9) rfl dX12_advance_127 ?_
          refine lv_iconst (v := (1 : Int32)) hx hb dX12_advance_130 (by decide) ?_
          refine lv_iadd hx hb dX12_advance_131 ?_
          refine va_put (D := (dC, dI)) (ci := 12) (v := .int ((M_h 3 0) + (1 : Int32))) (ty := .int) (C := RX12) (T := TX12) (N := 21) hx hb hts hin12 tyX12 tyX12_ok nmX12 hown hK hP hD hS 0 rfl rfl 3 (by decide) kf65 (fun _ h9 => h9) rfl (by decide +kernel) rfl rfl (Nat.le_of_ble_eq_true rfl) dX12_advance_132 (fun H locs hP hD hS => ?_)
          obtain ⟨M_h_132, eM_h_132, hf⟩ := wr_some hf
          have hP : va_P (dC, dI) vwCl (wX12 cyB cyI cyZ cyO h h_all h_has h_read h_test h_rest h_gets h_waits h_way h_good h_left M_h_132) H := by rw [eM_h_132]; exact hP
          have hD : va_D A (wX12 cyB cyI cyZ cyO h h_all h_has h_read h_test h_rest h_gets h_waits h_way h_good h_left M_h_132) := by rw [eM_h_132]; exact hD
          refine lv_goto (tgt := 77) hx hb dX12_advance_135 (by decide) ?_
          exact ih M_h_132 x2 _ _ ls hf hP hD hS (lv_sub hl [0, 1] rfl)
        · rw [if_neg hc102] at hf
          refine lv_ldc2 (v := (32 : Int64)) hx hb hown (hts (.constantLong RX12 45 (32)) (by decide +kernel)) dX12_advance_105 ?_
          refine lv_lload_n hx hb dX12_advance_108 rfl (lv_at hl 1 rfl) ?_
          refine lv_lmul hx hb dX12_advance_109 ?_
          refine lv_aload_n hx hb dX12_advance_110 rfl (lv_at hl 0 rfl) ?_
          refine lv_aload_n hx hb dX12_advance_111 rfl (lv_at hl 0 rfl) ?_
          refine va_get (D := (dC, dI)) (ci := 12) (v := .int (M_h 3 0)) (C := RX12) (T := TX12) (N := 21) hx hb hts hin12 hown hK hP 0 rfl rfl 3 (by decide) kf65 (fun _ h9 => h9) rfl dX12_advance_112 ?_
          obtain ⟨r115, h115, hf⟩ := bd1_some hf
          refine ro_calli (va_runV (As := [.int (M_h 3 0)]) (rest := [.long ((32 : Int64) * x2)]) ⟨hx, hb, hml, hown, hts⟩ (c_X12_byteAt l dC dI cyB cyI cyZ cyO h h_all h_has h_read h_test h_rest h_gets h_waits h_way h_good h_left M_h (M_h 3 0) r115 h115) (cwV 1 hts gX12_advance_X12_byteAt rfl rfl rfl (by decide +kernel) ⟨Nat.le_of_ble_eq_true rfl, Nat.le_of_ble_eq_true rfl⟩) ⟨PR.blind, va_recv hK hP (ci := 12) (q0 := 0) rfl rfl, fun U hU hW => ⟨rfl, by rw [hU]; exact hP, hCx.warm hW⟩⟩ rfl rfl hl.1 rfl (lv_room (Nat.le_of_ble_eq_true rfl)) dX12_advance_115 ⟨Nat.zero_le _, Nat.zero_le _⟩) ?_
          refine lv_i2l (v := (r115).toInt64) hx hb dX12_advance_118 rfl ?_
          refine lv_ladd hx hb dX12_advance_119 ?_
          refine lv_ldc2 (v := (96 : Int64)) hx hb hown (hts (.constantLong RX12 47 (96)) (by decide +kernel)) dX12_advance_120 ?_
          refine lv_lsub hx hb dX12_advance_123 ?_
          refine lv_lstore_n (lv' := [(2, .long ((((32 : Int64) * x2) + (r115).toInt64) - (96 : Int64))), (0, .ref h)]) hx hb dX12_advance_124 rfl hl (by decide) rfl (fun ls hl => ?_)
          refine lv_aload_n hx hb dX12_advance_125 rfl (lv_at hl 1 rfl) ?_
          refine lv_dup hx hb dX12_advance_126 rfl ?_
          refine va_get (D := (dC, dI)) (ci := 12) (v := .int (M_h 3 0)) (C := RX12) (T := TX12) (N := 21) hx hb hts hin12 hown hK hP 0 rfl rfl 3 (by decide) kf65 (fun _ h9 => h9) rfl dX12_advance_127 ?_
          refine lv_iconst (v := (1 : Int32)) hx hb dX12_advance_130 (by decide) ?_
          refine lv_iadd hx hb dX12_advance_131 ?_
          refine va_put (D := (dC, dI)) (ci := 12) (v := .int ((M_h 3 0) + (1 : Int32))) (ty := .int) (C := RX12) (T := TX12) (N := 21) hx hb hts hin12 tyX12 tyX12_ok nmX12 hown hK hP hD hS 0 rfl rfl 3 (by decide) kf65 (fun _ h9 => h9) rfl (by decide +kernel) rfl rfl (Nat.le_of_ble_eq_true rfl) dX12_advance_132 (fun H locs hP hD hS => ?_)
          obtain ⟨M_h_132, eM_h_132, hf⟩ := wr_some hf
          have hP : va_P (dC, dI) vwCl (wX12 cyB cyI cyZ cyO h h_all h_has h_read h_test h_rest h_gets h_waits h_way h_good h_left M_h_132) H := by rw [eM_h_132]; exact hP
          have hD : va_D A (wX12 cyB cyI cyZ cyO h h_all h_has h_read h_test h_rest h_gets h_waits h_way h_good h_left M_h_132) := by rw [eM_h_132]; exact hD
          refine lv_goto (tgt := 77) hx hb dX12_advance_135 (by decide) ?_
          exact ih M_h_132 ((((32 : Int64) * x2) + (r115).toInt64) - (96 : Int64)) _ _ ls hf hP hD hS (lv_sub hl [1, 0] rfl)
  have L197 : ∀ (n : Nat), ∀ (M_h : Mem) (H : Heap) (locs : List Loc) (ls : Array Slot), f_X12_advance_L197 n M_h = some R_h → va_P (dC, dI) vwCl (wX12 cyB cyI cyZ cyO h h_all h_has h_read h_test h_rest h_gets h_waits h_way h_good h_left M_h) H → va_D A (wX12 cyB cyI cyZ cyO h h_all h_has h_read h_test h_rest h_gets h_waits h_way h_good h_left M_h) → va_S A s.heap H locs → lv_has ls 4 [(0, .ref h)] → W p l e (headSpec wsX12_advance ({ frames := 3, cells := 0, slots := 0, locals := 66 } : Room)).room s m ([.ref h] : List Value).toArray below meth c H locs 0 0 (MQ below (QW dC dI none (wX12 cyB cyI cyZ cyO h h_all h_has h_read h_test h_rest h_gets h_waits h_way h_good h_left R_h) A) ([.ref h] : List Value).toArray s 0 0 A) (F0 m 197 ls []) := by
    intro n
    induction n with
    | zero => intro M_h H locs ls hf hP hD hS hl; rw [f_X12_advance_L197] at hf; cases hf
    | succ n ih =>
      intro M_h H locs ls hf hP hD hS hl
      rw [f_X12_advance_L197] at hf
      refine lv_aload_n hx hb dX12_advance_197 rfl (lv_at hl 0 rfl) ?_
      refine lv_aload_n hx hb dX12_advance_198 rfl (lv_at hl 0 rfl) ?_
      refine va_get (D := (dC, dI)) (ci := 12) (v := .int (M_h 3 0)) (C := RX12) (T := TX12) (N := 21) hx hb hts hin12 hown hK hP 0 rfl rfl 3 (by decide) kf65 (fun _ h9 => h9) rfl dX12_advance_199 ?_
      obtain ⟨r202, h202, hf⟩ := bd1_some hf
      refine ro_calli (va_runV (As := [.int (M_h 3 0)]) (rest := []) ⟨hx, hb, hml, hown, hts⟩ (c_X12_byteAt l dC dI cyB cyI cyZ cyO h h_all h_has h_read h_test h_rest h_gets h_waits h_way h_good h_left M_h (M_h 3 0) r202 h202) (cwV 1 hts gX12_advance_X12_byteAt rfl rfl rfl (by decide +kernel) ⟨Nat.le_of_ble_eq_true rfl, Nat.le_of_ble_eq_true rfl⟩) ⟨PR.blind, va_recv hK hP (ci := 12) (q0 := 0) rfl rfl, fun U hU hW => ⟨rfl, by rw [hU]; exact hP, hCx.warm hW⟩⟩ rfl rfl hl.1 rfl (lv_room (Nat.le_of_ble_eq_true rfl)) dX12_advance_202 ⟨Nat.zero_le _, Nat.zero_le _⟩) ?_
      obtain ⟨r205, h205, hf⟩ := bd1_some hf
      have hPc := hP.sub (ws' := ([] : va_W)) [] rfl
      refine ro_calli (va_runS (As := [.int r202]) (rest := []) ⟨hx, hb, hml, hown, hts⟩ (c_X12_isDigit l dC dI cyB cyI cyZ cyO r202 r205 h205) (va_cwS 1 hts gX12_advance_X12_isDigit rfl rfl rfl (by decide +kernel) ⟨Nat.le_of_ble_eq_true rfl, Nat.le_of_ble_eq_true rfl⟩) ⟨PR.blind, fun U hU hW => ⟨rfl, by rw [hU]; exact hPc, hCx.warm hW⟩⟩ rfl rfl hl.1 rfl (lv_room (Nat.le_of_ble_eq_true rfl)) dX12_advance_205 ⟨Nat.zero_le _, Nat.zero_le _⟩) ?_
      refine lv_if_eq (tgt := 260) hx hb dX12_advance_208 (by decide) (fun hc208 => ?_) (fun hc208 => ?_)
      · rw [if_pos hc208] at hf
        refine lv_aload_n hx hb dX12_advance_260 rfl (lv_at hl 0 rfl) ?_
        refine lv_aload_n hx hb dX12_advance_261 rfl (lv_at hl 0 rfl) ?_
        refine va_get (D := (dC, dI)) (ci := 12) (v := .int (M_h 3 0)) (C := RX12) (T := TX12) (N := 21) hx hb hts hin12 hown hK hP 0 rfl rfl 3 (by decide) kf65 (fun _ h9 => h9) rfl dX12_advance_262 ?_
        refine lv_aload_n hx hb dX12_advance_265 rfl (lv_at hl 0 rfl) ?_
        refine va_get (D := (dC, dI)) (ci := 12) (v := .int (M_h 4 0)) (C := RX12) (T := TX12) (N := 21) hx hb hts hin12 hown hK hP 0 rfl rfl 4 (by decide) kf72 (fun _ h9 => h9) rfl dX12_advance_266 ?_
        refine lv_isub hx hb dX12_advance_269 ?_
        refine lv_iconst (v := (3 : Int32)) hx hb dX12_advance_270 (by decide) ?_
        refine lv_icmp_le (tgt := 278) hx hb dX12_advance_271 (by decide) (fun hc271 => ?_) (fun hc271 => ?_)
        · rw [if_pos hc271] at hf
          refine lv_iconst (v := (1 : Int32)) hx hb dX12_advance_278 (by decide) ?_
          refine va_put (D := (dC, dI)) (ci := 12) (v := .int (1 : Int32)) (ty := .int) (C := RX12) (T := TX12) (N := 21) hx hb hts hin12 tyX12 tyX12_ok nmX12 hown hK hP hD hS 0 rfl rfl 5 (by decide) kf75 (fun _ h9 => h9) rfl (by decide +kernel) rfl rfl (Nat.le_of_ble_eq_true rfl) dX12_advance_279 (fun H locs hP hD hS => ?_)
          obtain ⟨M_h_279, eM_h_279, hf⟩ := wr_some hf
          have hP : va_P (dC, dI) vwCl (wX12 cyB cyI cyZ cyO h h_all h_has h_read h_test h_rest h_gets h_waits h_way h_good h_left M_h_279) H := by rw [eM_h_279]; exact hP
          have hD : va_D A (wX12 cyB cyI cyZ cyO h h_all h_has h_read h_test h_rest h_gets h_waits h_way h_good h_left M_h_279) := by rw [eM_h_279]; exact hD
          refine lv_goto (tgt := 316) hx hb dX12_advance_282 (by decide) ?_
          have hq := Option.some.inj hf
          subst hq
          exact W.vret hx hb hr (fun t ht hW => ⟨rfl, by rw [ht]; exact hP, hD, hS.F ht⟩) hS.2.2 dX12_advance_316
        · rw [if_neg hc271] at hf
          refine lv_iconst (v := (4 : Int32)) hx hb dX12_advance_274 (by decide) ?_
          refine lv_goto (tgt := 279) hx hb dX12_advance_275 (by decide) ?_
          refine va_put (D := (dC, dI)) (ci := 12) (v := .int (4 : Int32)) (ty := .int) (C := RX12) (T := TX12) (N := 21) hx hb hts hin12 tyX12 tyX12_ok nmX12 hown hK hP hD hS 0 rfl rfl 5 (by decide) kf75 (fun _ h9 => h9) rfl (by decide +kernel) rfl rfl (Nat.le_of_ble_eq_true rfl) dX12_advance_279 (fun H locs hP hD hS => ?_)
          obtain ⟨M_h_279, eM_h_279, hf⟩ := wr_some hf
          have hP : va_P (dC, dI) vwCl (wX12 cyB cyI cyZ cyO h h_all h_has h_read h_test h_rest h_gets h_waits h_way h_good h_left M_h_279) H := by rw [eM_h_279]; exact hP
          have hD : va_D A (wX12 cyB cyI cyZ cyO h h_all h_has h_read h_test h_rest h_gets h_waits h_way h_good h_left M_h_279) := by rw [eM_h_279]; exact hD
          refine lv_goto (tgt := 316) hx hb dX12_advance_282 (by decide) ?_
          have hq := Option.some.inj hf
          subst hq
          exact W.vret hx hb hr (fun t ht hW => ⟨rfl, by rw [ht]; exact hP, hD, hS.F ht⟩) hS.2.2 dX12_advance_316
      · rw [if_neg hc208] at hf
        refine lv_aload_n hx hb dX12_advance_211 rfl (lv_at hl 0 rfl) ?_
        refine va_get (D := (dC, dI)) (ci := 12) (v := .int (M_h 3 0)) (C := RX12) (T := TX12) (N := 21) hx hb hts hin12 hown hK hP 0 rfl rfl 3 (by decide) kf65 (fun _ h9 => h9) rfl dX12_advance_212 ?_
        refine lv_aload_n hx hb dX12_advance_215 rfl (lv_at hl 0 rfl) ?_
        refine va_get (D := (dC, dI)) (ci := 12) (v := .int (M_h 4 0)) (C := RX12) (T := TX12) (N := 21) hx hb hts hin12 hown hK hP 0 rfl rfl 4 (by decide) kf72 (fun _ h9 => h9) rfl dX12_advance_216 ?_
        refine lv_isub hx hb dX12_advance_219 ?_
        refine lv_iconst (v := (3 : Int32)) hx hb dX12_advance_220 (by decide) ?_
        refine lv_icmp_ge (tgt := 247) hx hb dX12_advance_221 (by decide) (fun hc221 => ?_) (fun hc221 => ?_)
        · rw [if_pos hc221] at hf
          refine lv_aload_n hx hb dX12_advance_247 rfl (lv_at hl 0 rfl) ?_
          refine lv_dup hx hb dX12_advance_248 rfl ?_
          refine va_get (D := (dC, dI)) (ci := 12) (v := .int (M_h 3 0)) (C := RX12) (T := TX12) (N := 21) hx hb hts hin12 hown hK hP 0 rfl rfl 3 (by decide) kf65 (fun _ h9 => h9) rfl dX12_advance_249 ?_
          refine lv_iconst (v := (1 : Int32)) hx hb dX12_advance_252 (by decide) ?_
          refine lv_iadd hx hb dX12_advance_253 ?_
          refine va_put (D := (dC, dI)) (ci := 12) (v := .int ((M_h 3 0) + (1 : Int32))) (ty := .int) (C := RX12) (T := TX12) (N := 21) hx hb hts hin12 tyX12 tyX12_ok nmX12 hown hK hP hD hS 0 rfl rfl 3 (by decide) kf65 (fun _ h9 => h9) rfl (by decide +kernel) rfl rfl (Nat.le_of_ble_eq_true rfl) dX12_advance_254 (fun H locs hP hD hS => ?_)
          obtain ⟨M_h_254, eM_h_254, hf⟩ := wr_some hf
          have hP : va_P (dC, dI) vwCl (wX12 cyB cyI cyZ cyO h h_all h_has h_read h_test h_rest h_gets h_waits h_way h_good h_left M_h_254) H := by rw [eM_h_254]; exact hP
          have hD : va_D A (wX12 cyB cyI cyZ cyO h h_all h_has h_read h_test h_rest h_gets h_waits h_way h_good h_left M_h_254) := by rw [eM_h_254]; exact hD
          refine lv_goto (tgt := 197) hx hb dX12_advance_257 (by decide) ?_
          exact ih M_h_254 _ _ ls hf hP hD hS (lv_sub hl [0] rfl)
        · rw [if_neg hc221] at hf
          refine lv_aload_n hx hb dX12_advance_224 rfl (lv_at hl 0 rfl) ?_
          refine lv_bipush (v := (10 : Int32)) hx hb dX12_advance_225 (by decide) ?_
          refine lv_aload_n hx hb dX12_advance_227 rfl (lv_at hl 0 rfl) ?_
          refine va_get (D := (dC, dI)) (ci := 12) (v := .int (M_h 6 0)) (C := RX12) (T := TX12) (N := 21) hx hb hts hin12 hown hK hP 0 rfl rfl 6 (by decide) kf92 (fun _ h9 => h9) rfl dX12_advance_228 ?_
          refine lv_imul hx hb dX12_advance_231 ?_
          refine lv_aload_n hx hb dX12_advance_232 rfl (lv_at hl 0 rfl) ?_
          refine lv_aload_n hx hb dX12_advance_233 rfl (lv_at hl 0 rfl) ?_
          refine va_get (D := (dC, dI)) (ci := 12) (v := .int (M_h 3 0)) (C := RX12) (T := TX12) (N := 21) hx hb hts hin12 hown hK hP 0 rfl rfl 3 (by decide) kf65 (fun _ h9 => h9) rfl dX12_advance_234 ?_
          obtain ⟨r237, h237, hf⟩ := bd1_some hf
          refine ro_calli (va_runV (As := [.int (M_h 3 0)]) (rest := [.int ((10 : Int32) * (M_h 6 0)), .ref h]) ⟨hx, hb, hml, hown, hts⟩ (c_X12_byteAt l dC dI cyB cyI cyZ cyO h h_all h_has h_read h_test h_rest h_gets h_waits h_way h_good h_left M_h (M_h 3 0) r237 h237) (cwV 1 hts gX12_advance_X12_byteAt rfl rfl rfl (by decide +kernel) ⟨Nat.le_of_ble_eq_true rfl, Nat.le_of_ble_eq_true rfl⟩) ⟨PR.blind, va_recv hK hP (ci := 12) (q0 := 0) rfl rfl, fun U hU hW => ⟨rfl, by rw [hU]; exact hP, hCx.warm hW⟩⟩ rfl rfl hl.1 rfl (lv_room (Nat.le_of_ble_eq_true rfl)) dX12_advance_237 ⟨Nat.zero_le _, Nat.zero_le _⟩) ?_
          refine lv_iadd hx hb dX12_advance_240 ?_
          refine lv_bipush (v := (48 : Int32)) hx hb dX12_advance_241 (by decide) ?_
          refine lv_isub hx hb dX12_advance_243 ?_
          refine va_put (D := (dC, dI)) (ci := 12) (v := .int ((((10 : Int32) * (M_h 6 0)) + r237) - (48 : Int32))) (ty := .int) (C := RX12) (T := TX12) (N := 21) hx hb hts hin12 tyX12 tyX12_ok nmX12 hown hK hP hD hS 0 rfl rfl 6 (by decide) kf92 (fun _ h9 => h9) rfl (by decide +kernel) rfl rfl (Nat.le_of_ble_eq_true rfl) dX12_advance_244 (fun H locs hP hD hS => ?_)
          obtain ⟨M_h_244, eM_h_244, hf⟩ := wr_some hf
          have hP : va_P (dC, dI) vwCl (wX12 cyB cyI cyZ cyO h h_all h_has h_read h_test h_rest h_gets h_waits h_way h_good h_left M_h_244) H := by rw [eM_h_244]; exact hP
          have hD : va_D A (wX12 cyB cyI cyZ cyO h h_all h_has h_read h_test h_rest h_gets h_waits h_way h_good h_left M_h_244) := by rw [eM_h_244]; exact hD
          refine lv_aload_n hx hb dX12_advance_247 rfl (lv_at hl 0 rfl) ?_
          refine lv_dup hx hb dX12_advance_248 rfl ?_
          refine va_get (D := (dC, dI)) (ci := 12) (v := .int (M_h_244 3 0)) (C := RX12) (T := TX12) (N := 21) hx hb hts hin12 hown hK hP 0 rfl rfl 3 (by decide) kf65 (fun _ h9 => h9) rfl dX12_advance_249 ?_
          refine lv_iconst (v := (1 : Int32)) hx hb dX12_advance_252 (by decide) ?_
          refine lv_iadd hx hb dX12_advance_253 ?_
          refine va_put (D := (dC, dI)) (ci := 12) (v := .int ((M_h_244 3 0) + (1 : Int32))) (ty := .int) (C := RX12) (T := TX12) (N := 21) hx hb hts hin12 tyX12 tyX12_ok nmX12 hown hK hP hD hS 0 rfl rfl 3 (by decide) kf65 (fun _ h9 => h9) rfl (by decide +kernel) rfl rfl (Nat.le_of_ble_eq_true rfl) dX12_advance_254 (fun H locs hP hD hS => ?_)
          obtain ⟨M_h_254, eM_h_254, hf⟩ := wr_some hf
          have hP : va_P (dC, dI) vwCl (wX12 cyB cyI cyZ cyO h h_all h_has h_read h_test h_rest h_gets h_waits h_way h_good h_left M_h_254) H := by rw [eM_h_254]; exact hP
          have hD : va_D A (wX12 cyB cyI cyZ cyO h h_all h_has h_read h_test h_rest h_gets h_waits h_way h_good h_left M_h_254) := by rw [eM_h_254]; exact hD
          refine lv_goto (tgt := 197) hx hb dX12_advance_257 (by decide) ?_
          exact ih M_h_254 _ _ ls hf hP hD hS (lv_sub hl [0] rfl)
  have L0 : ∀ (n : Nat), ∀ (M_h : Mem) (H : Heap) (locs : List Loc) (ls : Array Slot), f_X12_advance_L0 n M_h = some R_h → va_P (dC, dI) vwCl (wX12 cyB cyI cyZ cyO h h_all h_has h_read h_test h_rest h_gets h_waits h_way h_good h_left M_h) H → va_D A (wX12 cyB cyI cyZ cyO h h_all h_has h_read h_test h_rest h_gets h_waits h_way h_good h_left M_h) → va_S A s.heap H locs → lv_has ls 4 [(0, .ref h)] → W p l e (headSpec wsX12_advance ({ frames := 3, cells := 0, slots := 0, locals := 66 } : Room)).room s m ([.ref h] : List Value).toArray below meth c H locs 0 0 (MQ below (QW dC dI none (wX12 cyB cyI cyZ cyO h h_all h_has h_read h_test h_rest h_gets h_waits h_way h_good h_left R_h) A) ([.ref h] : List Value).toArray s 0 0 A) (F0 m 0 ls []) := by
    intro n
    induction n with
    | zero => intro M_h H locs ls hf hP hD hS hl; rw [f_X12_advance_L0] at hf; cases hf
    | succ n ih =>
      intro M_h H locs ls hf hP hD hS hl
      rw [f_X12_advance_L0] at hf
      refine lv_aload_n hx hb dX12_advance_0 rfl (lv_at hl 0 rfl) ?_
      refine lv_aload_n hx hb dX12_advance_1 rfl (lv_at hl 0 rfl) ?_
      refine va_get (D := (dC, dI)) (ci := 12) (v := .int (M_h 3 0)) (C := RX12) (T := TX12) (N := 21) hx hb hts hin12 hown hK hP 0 rfl rfl 3 (by decide) kf65 (fun _ h9 => h9) rfl dX12_advance_2 ?_
      obtain ⟨r5, h5, hf⟩ := bd1_some hf
      refine ro_calli (va_runV (As := [.int (M_h 3 0)]) (rest := []) ⟨hx, hb, hml, hown, hts⟩ (c_X12_byteAt l dC dI cyB cyI cyZ cyO h h_all h_has h_read h_test h_rest h_gets h_waits h_way h_good h_left M_h (M_h 3 0) r5 h5) (cwV 1 hts gX12_advance_X12_byteAt rfl rfl rfl (by decide +kernel) ⟨Nat.le_of_ble_eq_true rfl, Nat.le_of_ble_eq_true rfl⟩) ⟨PR.blind, va_recv hK hP (ci := 12) (q0 := 0) rfl rfl, fun U hU hW => ⟨rfl, by rw [hU]; exact hP, hCx.warm hW⟩⟩ rfl rfl hl.1 rfl (lv_room (Nat.le_of_ble_eq_true rfl)) dX12_advance_5 ⟨Nat.zero_le _, Nat.zero_le _⟩) ?_
      refine lv_bipush (v := (10 : Int32)) hx hb dX12_advance_8 (by decide) ?_
      refine lv_icmp_eq (tgt := 26) hx hb dX12_advance_10 (by decide) (fun hc10 => ?_) (fun hc10 => ?_)
      · rw [if_pos hc10] at hf
        refine lv_aload_n hx hb dX12_advance_26 rfl (lv_at hl 0 rfl) ?_
        refine lv_dup hx hb dX12_advance_27 rfl ?_
        refine va_get (D := (dC, dI)) (ci := 12) (v := .int (M_h 3 0)) (C := RX12) (T := TX12) (N := 21) hx hb hts hin12 hown hK hP 0 rfl rfl 3 (by decide) kf65 (fun _ h9 => h9) rfl dX12_advance_28 ?_
        refine lv_iconst (v := (1 : Int32)) hx hb dX12_advance_31 (by decide) ?_
        refine lv_iadd hx hb dX12_advance_32 ?_
        refine va_put (D := (dC, dI)) (ci := 12) (v := .int ((M_h 3 0) + (1 : Int32))) (ty := .int) (C := RX12) (T := TX12) (N := 21) hx hb hts hin12 tyX12 tyX12_ok nmX12 hown hK hP hD hS 0 rfl rfl 3 (by decide) kf65 (fun _ h9 => h9) rfl (by decide +kernel) rfl rfl (Nat.le_of_ble_eq_true rfl) dX12_advance_33 (fun H locs hP hD hS => ?_)
        obtain ⟨M_h_33, eM_h_33, hf⟩ := wr_some hf
        have hP : va_P (dC, dI) vwCl (wX12 cyB cyI cyZ cyO h h_all h_has h_read h_test h_rest h_gets h_waits h_way h_good h_left M_h_33) H := by rw [eM_h_33]; exact hP
        have hD : va_D A (wX12 cyB cyI cyZ cyO h h_all h_has h_read h_test h_rest h_gets h_waits h_way h_good h_left M_h_33) := by rw [eM_h_33]; exact hD
        refine lv_goto (tgt := 0) hx hb dX12_advance_36 (by decide) ?_
        exact ih M_h_33 _ _ ls hf hP hD hS (lv_sub hl [0] rfl)
      · rw [if_neg hc10] at hf
        refine lv_aload_n hx hb dX12_advance_13 rfl (lv_at hl 0 rfl) ?_
        refine lv_aload_n hx hb dX12_advance_14 rfl (lv_at hl 0 rfl) ?_
        refine va_get (D := (dC, dI)) (ci := 12) (v := .int (M_h 3 0)) (C := RX12) (T := TX12) (N := 21) hx hb hts hin12 hown hK hP 0 rfl rfl 3 (by decide) kf65 (fun _ h9 => h9) rfl dX12_advance_15 ?_
        obtain ⟨r18, h18, hf⟩ := bd1_some hf
        refine ro_calli (va_runV (As := [.int (M_h 3 0)]) (rest := []) ⟨hx, hb, hml, hown, hts⟩ (c_X12_byteAt l dC dI cyB cyI cyZ cyO h h_all h_has h_read h_test h_rest h_gets h_waits h_way h_good h_left M_h (M_h 3 0) r18 h18) (cwV 1 hts gX12_advance_X12_byteAt rfl rfl rfl (by decide +kernel) ⟨Nat.le_of_ble_eq_true rfl, Nat.le_of_ble_eq_true rfl⟩) ⟨PR.blind, va_recv hK hP (ci := 12) (q0 := 0) rfl rfl, fun U hU hW => ⟨rfl, by rw [hU]; exact hP, hCx.warm hW⟩⟩ rfl rfl hl.1 rfl (lv_room (Nat.le_of_ble_eq_true rfl)) dX12_advance_18 ⟨Nat.zero_le _, Nat.zero_le _⟩) ?_
        refine lv_bipush (v := (32 : Int32)) hx hb dX12_advance_21 (by decide) ?_
        refine lv_icmp_ne (tgt := 39) hx hb dX12_advance_23 (by decide) (fun hc23 => ?_) (fun hc23 => ?_)
        · rw [if_neg hc23] at hf
          refine lv_aload_n hx hb dX12_advance_39 rfl (lv_at hl 0 rfl) ?_
          refine lv_aload_n hx hb dX12_advance_40 rfl (lv_at hl 0 rfl) ?_
          refine va_get (D := (dC, dI)) (ci := 12) (v := .int (M_h 3 0)) (C := RX12) (T := TX12) (N := 21) hx hb hts hin12 hown hK hP 0 rfl rfl 3 (by decide) kf65 (fun _ h9 => h9) rfl dX12_advance_41 ?_
          refine va_put (D := (dC, dI)) (ci := 12) (v := .int (M_h 3 0)) (ty := .int) (C := RX12) (T := TX12) (N := 21) hx hb hts hin12 tyX12 tyX12_ok nmX12 hown hK hP hD hS 0 rfl rfl 4 (by decide) kf72 (fun _ h9 => h9) rfl (by decide +kernel) rfl rfl (Nat.le_of_ble_eq_true rfl) dX12_advance_44 (fun H locs hP hD hS => ?_)
          obtain ⟨M_h_44, eM_h_44, hf⟩ := wr_some hf
          have hP : va_P (dC, dI) vwCl (wX12 cyB cyI cyZ cyO h h_all h_has h_read h_test h_rest h_gets h_waits h_way h_good h_left M_h_44) H := by rw [eM_h_44]; exact hP
          have hD : va_D A (wX12 cyB cyI cyZ cyO h h_all h_has h_read h_test h_rest h_gets h_waits h_way h_good h_left M_h_44) := by rw [eM_h_44]; exact hD
          refine lv_aload_n hx hb dX12_advance_47 rfl (lv_at hl 0 rfl) ?_
          refine lv_aload_n hx hb dX12_advance_48 rfl (lv_at hl 0 rfl) ?_
          refine va_get (D := (dC, dI)) (ci := 12) (v := .int (M_h_44 3 0)) (C := RX12) (T := TX12) (N := 21) hx hb hts hin12 hown hK hP 0 rfl rfl 3 (by decide) kf65 (fun _ h9 => h9) rfl dX12_advance_49 ?_
          obtain ⟨r52, h52, hf⟩ := bd1_some hf
          refine ro_calli (va_runV (As := [.int (M_h_44 3 0)]) (rest := []) ⟨hx, hb, hml, hown, hts⟩ (c_X12_byteAt l dC dI cyB cyI cyZ cyO h h_all h_has h_read h_test h_rest h_gets h_waits h_way h_good h_left M_h_44 (M_h_44 3 0) r52 h52) (cwV 1 hts gX12_advance_X12_byteAt rfl rfl rfl (by decide +kernel) ⟨Nat.le_of_ble_eq_true rfl, Nat.le_of_ble_eq_true rfl⟩) ⟨PR.blind, va_recv hK hP (ci := 12) (q0 := 0) rfl rfl, fun U hU hW => ⟨rfl, by rw [hU]; exact hP, hCx.warm hW⟩⟩ rfl rfl hl.1 rfl (lv_room (Nat.le_of_ble_eq_true rfl)) dX12_advance_52 ⟨Nat.zero_le _, Nat.zero_le _⟩) ?_
          refine lv_istore_n (lv' := [(1, .int r52), (0, .ref h)]) hx hb dX12_advance_55 rfl hl (by decide) rfl (fun ls hl => ?_)
          refine lv_iload_n hx hb dX12_advance_56 rfl (lv_at hl 0 rfl) ?_
          refine lv_if_ge (tgt := 68) hx hb dX12_advance_57 (by decide) (fun hc57 => ?_) (fun hc57 => ?_)
          · rw [if_pos hc57] at hf
            refine lv_iload_n hx hb dX12_advance_68 rfl (lv_at hl 0 rfl) ?_
            obtain ⟨r69, h69, hf⟩ := bd1_some hf
            have hPc := hP.sub (ws' := ([] : va_W)) [] rfl
            refine ro_calli (va_runS (As := [.int r52]) (rest := []) ⟨hx, hb, hml, hown, hts⟩ (c_X12_isLetter l dC dI cyB cyI cyZ cyO r52 r69 h69) (va_cwS 1 hts gX12_advance_X12_isLetter rfl rfl rfl (by decide +kernel) ⟨Nat.le_of_ble_eq_true rfl, Nat.le_of_ble_eq_true rfl⟩) ⟨PR.blind, fun U hU hW => ⟨rfl, by rw [hU]; exact hPc, hCx.warm hW⟩⟩ rfl rfl hl.1 rfl (lv_room (Nat.le_of_ble_eq_true rfl)) dX12_advance_69 ⟨Nat.zero_le _, Nat.zero_le _⟩) ?_
            refine lv_if_eq (tgt := 185) hx hb dX12_advance_72 (by decide) (fun hc72 => ?_) (fun hc72 => ?_)
            · rw [if_pos hc72] at hf
              refine lv_iload_n hx hb dX12_advance_185 rfl (lv_at hl 0 rfl) ?_
              obtain ⟨r186, h186, hf⟩ := bd1_some hf
              have hPc := hP.sub (ws' := ([] : va_W)) [] rfl
              refine ro_calli (va_runS (As := [.int r52]) (rest := []) ⟨hx, hb, hml, hown, hts⟩ (c_X12_isDigit l dC dI cyB cyI cyZ cyO r52 r186 h186) (va_cwS 1 hts gX12_advance_X12_isDigit rfl rfl rfl (by decide +kernel) ⟨Nat.le_of_ble_eq_true rfl, Nat.le_of_ble_eq_true rfl⟩) ⟨PR.blind, fun U hU hW => ⟨rfl, by rw [hU]; exact hPc, hCx.warm hW⟩⟩ rfl rfl hl.1 rfl (lv_room (Nat.le_of_ble_eq_true rfl)) dX12_advance_186 ⟨Nat.zero_le _, Nat.zero_le _⟩) ?_
              refine lv_if_eq (tgt := 285) hx hb dX12_advance_189 (by decide) (fun hc189 => ?_) (fun hc189 => ?_)
              · rw [if_pos hc189] at hf
                refine lv_aload_n hx hb dX12_advance_285 rfl (lv_at hl 1 rfl) ?_
                refine lv_dup hx hb dX12_advance_286 rfl ?_
                refine va_get (D := (dC, dI)) (ci := 12) (v := .int (M_h_44 3 0)) (C := RX12) (T := TX12) (N := 21) hx hb hts hin12 hown hK hP 0 rfl rfl 3 (by decide) kf65 (fun _ h9 => h9) rfl dX12_advance_287 ?_
                refine lv_iconst (v := (1 : Int32)) hx hb dX12_advance_290 (by decide) ?_
                refine lv_iadd hx hb dX12_advance_291 ?_
                refine va_put (D := (dC, dI)) (ci := 12) (v := .int ((M_h_44 3 0) + (1 : Int32))) (ty := .int) (C := RX12) (T := TX12) (N := 21) hx hb hts hin12 tyX12 tyX12_ok nmX12 hown hK hP hD hS 0 rfl rfl 3 (by decide) kf65 (fun _ h9 => h9) rfl (by decide +kernel) rfl rfl (Nat.le_of_ble_eq_true rfl) dX12_advance_292 (fun H locs hP hD hS => ?_)
                obtain ⟨M_h_292, eM_h_292, hf⟩ := wr_some hf
                have hP : va_P (dC, dI) vwCl (wX12 cyB cyI cyZ cyO h h_all h_has h_read h_test h_rest h_gets h_waits h_way h_good h_left M_h_292) H := by rw [eM_h_292]; exact hP
                have hD : va_D A (wX12 cyB cyI cyZ cyO h h_all h_has h_read h_test h_rest h_gets h_waits h_way h_good h_left M_h_292) := by rw [eM_h_292]; exact hD
                refine lv_aload_n hx hb dX12_advance_295 rfl (lv_at hl 1 rfl) ?_
                refine lv_iload_n hx hb dX12_advance_296 rfl (lv_at hl 0 rfl) ?_
                refine va_put (D := (dC, dI)) (ci := 12) (v := .int r52) (ty := .int) (C := RX12) (T := TX12) (N := 21) hx hb hts hin12 tyX12 tyX12_ok nmX12 hown hK hP hD hS 0 rfl rfl 7 (by decide) kf95 (fun _ h9 => h9) rfl (by decide +kernel) rfl rfl (Nat.le_of_ble_eq_true rfl) dX12_advance_297 (fun H locs hP hD hS => ?_)
                obtain ⟨M_h_297, eM_h_297, hf⟩ := wr_some hf
                have hP : va_P (dC, dI) vwCl (wX12 cyB cyI cyZ cyO h h_all h_has h_read h_test h_rest h_gets h_waits h_way h_good h_left M_h_297) H := by rw [eM_h_297]; exact hP
                have hD : va_D A (wX12 cyB cyI cyZ cyO h h_all h_has h_read h_test h_rest h_gets h_waits h_way h_good h_left M_h_297) := by rw [eM_h_297]; exact hD
                refine lv_aload_n hx hb dX12_advance_300 rfl (lv_at hl 1 rfl) ?_
                refine lv_iload_n hx hb dX12_advance_301 rfl (lv_at hl 0 rfl) ?_
                obtain ⟨r302, h302, hf⟩ := bd1_some hf
                have hPc := hP.sub (ws' := ([] : va_W)) [] rfl
                refine ro_calli (va_runS (As := [.int r52]) (rest := [.ref h]) ⟨hx, hb, hml, hown, hts⟩ (c_X12_isSignByte l dC dI cyB cyI cyZ cyO r52 r302 h302) (va_cwS 1 hts gX12_advance_X12_isSignByte rfl rfl rfl (by decide +kernel) ⟨Nat.le_of_ble_eq_true rfl, Nat.le_of_ble_eq_true rfl⟩) ⟨PR.blind, fun U hU hW => ⟨rfl, by rw [hU]; exact hPc, hCx.warm hW⟩⟩ rfl rfl hl.1 rfl (lv_room (Nat.le_of_ble_eq_true rfl)) dX12_advance_302 ⟨Nat.zero_le _, Nat.zero_le _⟩) ?_
                refine lv_if_eq (tgt := 312) hx hb dX12_advance_305 (by decide) (fun hc305 => ?_) (fun hc305 => ?_)
                · rw [if_pos hc305] at hf
                  refine lv_iconst (v := (4 : Int32)) hx hb dX12_advance_312 (by decide) ?_
                  refine va_put (D := (dC, dI)) (ci := 12) (v := .int (4 : Int32)) (ty := .int) (C := RX12) (T := TX12) (N := 21) hx hb hts hin12 tyX12 tyX12_ok nmX12 hown hK hP hD hS 0 rfl rfl 5 (by decide) kf75 (fun _ h9 => h9) rfl (by decide +kernel) rfl rfl (Nat.le_of_ble_eq_true rfl) dX12_advance_313 (fun H locs hP hD hS => ?_)
                  obtain ⟨M_h_313, eM_h_313, hf⟩ := wr_some hf
                  have hP : va_P (dC, dI) vwCl (wX12 cyB cyI cyZ cyO h h_all h_has h_read h_test h_rest h_gets h_waits h_way h_good h_left M_h_313) H := by rw [eM_h_313]; exact hP
                  have hD : va_D A (wX12 cyB cyI cyZ cyO h h_all h_has h_read h_test h_rest h_gets h_waits h_way h_good h_left M_h_313) := by rw [eM_h_313]; exact hD
                  have hq := Option.some.inj hf
                  subst hq
                  exact W.vret hx hb hr (fun t ht hW => ⟨rfl, by rw [ht]; exact hP, hD, hS.F ht⟩) hS.2.2 dX12_advance_316
                · rw [if_neg hc305] at hf
                  refine lv_iconst (v := (2 : Int32)) hx hb dX12_advance_308 (by decide) ?_
                  refine lv_goto (tgt := 313) hx hb dX12_advance_309 (by decide) ?_
                  refine va_put (D := (dC, dI)) (ci := 12) (v := .int (2 : Int32)) (ty := .int) (C := RX12) (T := TX12) (N := 21) hx hb hts hin12 tyX12 tyX12_ok nmX12 hown hK hP hD hS 0 rfl rfl 5 (by decide) kf75 (fun _ h9 => h9) rfl (by decide +kernel) rfl rfl (Nat.le_of_ble_eq_true rfl) dX12_advance_313 (fun H locs hP hD hS => ?_)
                  obtain ⟨M_h_313, eM_h_313, hf⟩ := wr_some hf
                  have hP : va_P (dC, dI) vwCl (wX12 cyB cyI cyZ cyO h h_all h_has h_read h_test h_rest h_gets h_waits h_way h_good h_left M_h_313) H := by rw [eM_h_313]; exact hP
                  have hD : va_D A (wX12 cyB cyI cyZ cyO h h_all h_has h_read h_test h_rest h_gets h_waits h_way h_good h_left M_h_313) := by rw [eM_h_313]; exact hD
                  have hq := Option.some.inj hf
                  subst hq
                  exact W.vret hx hb hr (fun t ht hW => ⟨rfl, by rw [ht]; exact hP, hD, hS.F ht⟩) hS.2.2 dX12_advance_316
              · rw [if_neg hc189] at hf
                refine lv_aload_n hx hb dX12_advance_192 rfl (lv_at hl 1 rfl) ?_
                refine lv_iconst (v := (0 : Int32)) hx hb dX12_advance_193 (by decide) ?_
                refine va_put (D := (dC, dI)) (ci := 12) (v := .int (0 : Int32)) (ty := .int) (C := RX12) (T := TX12) (N := 21) hx hb hts hin12 tyX12 tyX12_ok nmX12 hown hK hP hD hS 0 rfl rfl 6 (by decide) kf92 (fun _ h9 => h9) rfl (by decide +kernel) rfl rfl (Nat.le_of_ble_eq_true rfl) dX12_advance_194 (fun H locs hP hD hS => ?_)
                obtain ⟨M_h_194, eM_h_194, hf⟩ := wr_some hf
                have hP : va_P (dC, dI) vwCl (wX12 cyB cyI cyZ cyO h h_all h_has h_read h_test h_rest h_gets h_waits h_way h_good h_left M_h_194) H := by rw [eM_h_194]; exact hP
                have hD : va_D A (wX12 cyB cyI cyZ cyO h h_all h_has h_read h_test h_rest h_gets h_waits h_way h_good h_left M_h_194) := by rw [eM_h_194]; exact hD
                exact L197 FU M_h_194 _ _ ls hf hP hD hS (lv_sub hl [1] rfl)
            · rw [if_neg hc72] at hf
              refine lv_lconst (v := (0 : Int64)) hx hb dX12_advance_75 rfl ?_
              refine lv_lstore_n (lv' := [(2, .long (0 : Int64)), (1, .int r52), (0, .ref h)]) hx hb dX12_advance_76 rfl hl (by decide) rfl (fun ls hl => ?_)
              exact L77 FU M_h_44 (0 : Int64) _ _ ls hf hP hD hS (lv_sub hl [2, 0] rfl)
          · rw [if_neg hc57] at hf
            refine lv_aload_n hx hb dX12_advance_60 rfl (lv_at hl 1 rfl) ?_
            refine lv_iconst (v := (0 : Int32)) hx hb dX12_advance_61 (by decide) ?_
            refine va_put (D := (dC, dI)) (ci := 12) (v := .int (0 : Int32)) (ty := .int) (C := RX12) (T := TX12) (N := 21) hx hb hts hin12 tyX12 tyX12_ok nmX12 hown hK hP hD hS 0 rfl rfl 5 (by decide) kf75 (fun _ h9 => h9) rfl (by decide +kernel) rfl rfl (Nat.le_of_ble_eq_true rfl) dX12_advance_62 (fun H locs hP hD hS => ?_)
            obtain ⟨M_h_62, eM_h_62, hf⟩ := wr_some hf
            have hP : va_P (dC, dI) vwCl (wX12 cyB cyI cyZ cyO h h_all h_has h_read h_test h_rest h_gets h_waits h_way h_good h_left M_h_62) H := by rw [eM_h_62]; exact hP
            have hD : va_D A (wX12 cyB cyI cyZ cyO h h_all h_has h_read h_test h_rest h_gets h_waits h_way h_good h_left M_h_62) := by rw [eM_h_62]; exact hD
            refine lv_goto (tgt := 316) hx hb dX12_advance_65 (by decide) ?_
            have hq := Option.some.inj hf
            subst hq
            exact W.vret hx hb hr (fun t ht hW => ⟨rfl, by rw [ht]; exact hP, hD, hS.F ht⟩) hS.2.2 dX12_advance_316
        · rw [if_pos hc23] at hf
          refine lv_aload_n hx hb dX12_advance_26 rfl (lv_at hl 0 rfl) ?_
          refine lv_dup hx hb dX12_advance_27 rfl ?_
          refine va_get (D := (dC, dI)) (ci := 12) (v := .int (M_h 3 0)) (C := RX12) (T := TX12) (N := 21) hx hb hts hin12 hown hK hP 0 rfl rfl 3 (by decide) kf65 (fun _ h9 => h9) rfl dX12_advance_28 ?_
          refine lv_iconst (v := (1 : Int32)) hx hb dX12_advance_31 (by decide) ?_
          refine lv_iadd hx hb dX12_advance_32 ?_
          refine va_put (D := (dC, dI)) (ci := 12) (v := .int ((M_h 3 0) + (1 : Int32))) (ty := .int) (C := RX12) (T := TX12) (N := 21) hx hb hts hin12 tyX12 tyX12_ok nmX12 hown hK hP hD hS 0 rfl rfl 3 (by decide) kf65 (fun _ h9 => h9) rfl (by decide +kernel) rfl rfl (Nat.le_of_ble_eq_true rfl) dX12_advance_33 (fun H locs hP hD hS => ?_)
          obtain ⟨M_h_33, eM_h_33, hf⟩ := wr_some hf
          have hP : va_P (dC, dI) vwCl (wX12 cyB cyI cyZ cyO h h_all h_has h_read h_test h_rest h_gets h_waits h_way h_good h_left M_h_33) H := by rw [eM_h_33]; exact hP
          have hD : va_D A (wX12 cyB cyI cyZ cyO h h_all h_has h_read h_test h_rest h_gets h_waits h_way h_good h_left M_h_33) := by rw [eM_h_33]; exact hD
          refine lv_goto (tgt := 0) hx hb dX12_advance_36 (by decide) ?_
          exact ih M_h_33 _ _ ls hf hP hD hS (lv_sub hl [0] rfl)
  rw [f_X12_advance] at hf
  exact L0 FU M_h _ _ ls hf hP hD hS (lv_sub hl [0] rfl)
set_option maxHeartbeats 4000000 in
set_option maxRecDepth 100000 in
theorem c_X12_stops (l : Launch) (dC : Nat → ClassId) (dI : Nat → Nat → Nat) (cyB cyI cyZ cyO : ClassId) (h h_all h_has h_read h_test h_rest h_gets h_waits h_way h_good h_left : Nat) (sz : Nat) (M_h : Mem) (R_h : Mem) (hf : f_X12_stops M_h = some R_h) : Met l yX12_stops wsX12_stops ({ frames := 0, cells := 0, slots := 0, locals := 0 } : Room) (PW dC dI cyB cyI cyZ cyO ([.ref h] : List Value) (wX12 cyB cyI cyZ cyO h h_all h_has h_read h_test h_rest h_gets h_waits h_way h_good h_left M_h) sz) (QW dC dI none (wX12 cyB cyI cyZ cyO h h_all h_has h_read h_test h_rest h_gets h_waits h_way h_good h_left R_h) (va_A (wX12 cyB cyI cyZ cyO h h_all h_has h_read h_test h_rest h_gets h_waits h_way h_good h_left M_h) sz)) 0 0 (va_A (wX12 cyB cyI cyZ cyO h h_all h_has h_read h_test h_rest h_gets h_waits h_way h_good h_left M_h) sz) := by
  refine Met.ofW (cc := cX12_stops) (maxL := 1) (ret := none) (by decide) rfl ?_
  intro p e s m args below meth c s₁ B hml hv
  obtain ⟨rfl, hsz, hP, hCx, hD0⟩ := hv
  have hK := hCx.1
  have hN := hCx.2
  have hx := B.exec
  have hb := B.bytes
  have hr := B.returns
  have hts := atoms_spec (ws := wsX12_stops) B.pre
  have hown : s.vm.findClass RX12 = some m.cls := findClass_of_methodNamed B.named
  have hlocks := B.notSynchronized
  have hin12 : ∀ w ∈ u_ws RX12 TX12 21, w ∈ wsX12_stops := fun w h => List.mem_cons_of_mem _ (List.mem_append_right _ h)
  have kf7 := hts (.fieldLink RX12 7 "HoldSlipsModel" "all" "[I") (by decide +kernel)
  have kf72 := hts (.fieldLink RX12 72 "HoldSlipsModel" "where" "I") (by decide +kernel)
  have kf101 := hts (.fieldLink RX12 101 "HoldSlipsModel" "wrong" "Z") (by decide +kernel)
  subst hsz
  have hD := hD0.self (sz := s.heap.size)
  generalize hAe : va_A (wX12 cyB cyI cyZ cyO h h_all h_has h_read h_test h_rest h_gets h_waits h_way h_good h_left M_h) s.heap.size = A at hD ⊢
  have hA : ∀ q : Nat, s.heap.size ≤ q → A q := fun q h => by rw [← hAe]; exact Or.inr h
  have hS : va_S A s.heap s.heap [] := va_S.rf
  have hl := lv_entry ([.ref h] : List Value) (n := 1) (Nat.le_of_ble_eq_true rfl)
  rw [lg_entry_eq]
  generalize (lg_sl ([.ref h] : List Value) ++ List.replicate (1 - (lg_sl ([.ref h] : List Value)).length) Slot.unset).toArray = ls at hl ⊢
  have hl : lv_has ls 1 [(0, .ref h)] := hl
  rw [f_X12_stops] at hf
  refine lv_aload_n hx hb dX12_stops_0 rfl (lv_at hl 0 rfl) ?_
  refine va_get (D := (dC, dI)) (ci := 12) (v := .int (M_h 9 0)) (C := RX12) (T := TX12) (N := 21) hx hb hts hin12 hown hK hP 0 rfl rfl 9 (by decide) kf101 (fun _ h9 => h9) rfl dX12_stops_1 ?_
  refine lv_if_eq (tgt := 8) hx hb dX12_stops_4 (by decide) (fun hc4 => ?_) (fun hc4 => ?_)
  · rw [if_pos hc4] at hf
    refine lv_aload_n hx hb dX12_stops_8 rfl (lv_at hl 0 rfl) ?_
    refine lv_iconst (v := (1 : Int32)) hx hb dX12_stops_9 (by decide) ?_
    refine va_put (D := (dC, dI)) (ci := 12) (v := .int (1 : Int32)) (ty := .boolean) (C := RX12) (T := TX12) (N := 21) hx hb hts hin12 tyX12 tyX12_ok nmX12 hown hK hP hD hS 0 rfl rfl 9 (by decide) kf101 (fun _ h9 => h9) rfl (by decide +kernel) rfl rfl (Nat.le_of_ble_eq_true rfl) dX12_stops_10 (fun H locs hP hD hS => ?_)
    obtain ⟨M_h_10, eM_h_10, hf⟩ := wr_some hf
    have hP : va_P (dC, dI) vwCl (wX12 cyB cyI cyZ cyO h h_all h_has h_read h_test h_rest h_gets h_waits h_way h_good h_left M_h_10) H := by rw [eM_h_10]; exact hP
    have hD : va_D A (wX12 cyB cyI cyZ cyO h h_all h_has h_read h_test h_rest h_gets h_waits h_way h_good h_left M_h_10) := by rw [eM_h_10]; exact hD
    refine lv_aload_n hx hb dX12_stops_13 rfl (lv_at hl 0 rfl) ?_
    refine va_get (D := (dC, dI)) (ci := 12) (v := .ref h_all) (C := RX12) (T := TX12) (N := 21) hx hb hts hin12 hown hK hP 0 rfl rfl 0 (by decide) kf7 (fun _ h9 => h9) rfl dX12_stops_14 ?_
    refine lv_bipush (v := (13 : Int32)) hx hb dX12_stops_17 (by decide) ?_
    refine lv_iconst (v := (1 : Int32)) hx hb dX12_stops_19 (by decide) ?_
    refine va_iast hx hb hK hP hD hS 1 1 rfl rfl (show ¬ ((13 : Int32) < 0 ∨ 11160 ≤ ((13 : Int32)).toNatClampNeg) by decide) dX12_stops_20 (fun H locs hP hD hS => ?_)
    obtain ⟨M_h_20, eM_h_20, hf⟩ := wr_some hf
    have hP : va_P (dC, dI) vwCl (wX12 cyB cyI cyZ cyO h h_all h_has h_read h_test h_rest h_gets h_waits h_way h_good h_left M_h_20) H := by rw [eM_h_20]; exact hP
    have hD : va_D A (wX12 cyB cyI cyZ cyO h h_all h_has h_read h_test h_rest h_gets h_waits h_way h_good h_left M_h_20) := by rw [eM_h_20]; exact hD
    refine lv_aload_n hx hb dX12_stops_21 rfl (lv_at hl 0 rfl) ?_
    refine va_get (D := (dC, dI)) (ci := 12) (v := .ref h_all) (C := RX12) (T := TX12) (N := 21) hx hb hts hin12 hown hK hP 0 rfl rfl 0 (by decide) kf7 (fun _ h9 => h9) rfl dX12_stops_22 ?_
    refine lv_bipush (v := (14 : Int32)) hx hb dX12_stops_25 (by decide) ?_
    refine lv_aload_n hx hb dX12_stops_27 rfl (lv_at hl 0 rfl) ?_
    refine va_get (D := (dC, dI)) (ci := 12) (v := .int (M_h_20 4 0)) (C := RX12) (T := TX12) (N := 21) hx hb hts hin12 hown hK hP 0 rfl rfl 4 (by decide) kf72 (fun _ h9 => h9) rfl dX12_stops_28 ?_
    refine va_iast hx hb hK hP hD hS 1 1 rfl rfl (show ¬ ((14 : Int32) < 0 ∨ 11160 ≤ ((14 : Int32)).toNatClampNeg) by decide) dX12_stops_31 (fun H locs hP hD hS => ?_)
    obtain ⟨M_h_31, eM_h_31, hf⟩ := wr_some hf
    have hP : va_P (dC, dI) vwCl (wX12 cyB cyI cyZ cyO h h_all h_has h_read h_test h_rest h_gets h_waits h_way h_good h_left M_h_31) H := by rw [eM_h_31]; exact hP
    have hD : va_D A (wX12 cyB cyI cyZ cyO h h_all h_has h_read h_test h_rest h_gets h_waits h_way h_good h_left M_h_31) := by rw [eM_h_31]; exact hD
    have hq := Option.some.inj hf
    subst hq
    exact W.vret hx hb hr (fun t ht hW => ⟨rfl, by rw [ht]; exact hP, hD, hS.F ht⟩) hS.2.2 dX12_stops_32
  · rw [if_neg hc4] at hf
    have hq := Option.some.inj hf
    subst hq
    exact W.vret hx hb hr (fun t ht hW => ⟨rfl, by rw [ht]; exact hP, hD, hS.F ht⟩) hS.2.2 dX12_stops_7
set_option maxHeartbeats 4000000 in
set_option maxRecDepth 100000 in
theorem c_X12_tooMany (l : Launch) (dC : Nat → ClassId) (dI : Nat → Nat → Nat) (cyB cyI cyZ cyO : ClassId) (h h_all h_has h_read h_test h_rest h_gets h_waits h_way h_good h_left : Nat) (sz : Nat) (M_h : Mem) (R_h : Mem) (hf : f_X12_tooMany M_h = some R_h) : Met l yX12_tooMany wsX12_tooMany ({ frames := 0, cells := 0, slots := 0, locals := 0 } : Room) (PW dC dI cyB cyI cyZ cyO ([.ref h] : List Value) (wX12 cyB cyI cyZ cyO h h_all h_has h_read h_test h_rest h_gets h_waits h_way h_good h_left M_h) sz) (QW dC dI none (wX12 cyB cyI cyZ cyO h h_all h_has h_read h_test h_rest h_gets h_waits h_way h_good h_left R_h) (va_A (wX12 cyB cyI cyZ cyO h h_all h_has h_read h_test h_rest h_gets h_waits h_way h_good h_left M_h) sz)) 0 0 (va_A (wX12 cyB cyI cyZ cyO h h_all h_has h_read h_test h_rest h_gets h_waits h_way h_good h_left M_h) sz) := by
  refine Met.ofW (cc := cX12_tooMany) (maxL := 1) (ret := none) (by decide) rfl ?_
  intro p e s m args below meth c s₁ B hml hv
  obtain ⟨rfl, hsz, hP, hCx, hD0⟩ := hv
  have hK := hCx.1
  have hN := hCx.2
  have hx := B.exec
  have hb := B.bytes
  have hr := B.returns
  have hts := atoms_spec (ws := wsX12_tooMany) B.pre
  have hown : s.vm.findClass RX12 = some m.cls := findClass_of_methodNamed B.named
  have hlocks := B.notSynchronized
  have hin12 : ∀ w ∈ u_ws RX12 TX12 21, w ∈ wsX12_tooMany := fun w h => List.mem_cons_of_mem _ (List.mem_append_right _ h)
  have kf7 := hts (.fieldLink RX12 7 "HoldSlipsModel" "all" "[I") (by decide +kernel)
  have kf72 := hts (.fieldLink RX12 72 "HoldSlipsModel" "where" "I") (by decide +kernel)
  have kf101 := hts (.fieldLink RX12 101 "HoldSlipsModel" "wrong" "Z") (by decide +kernel)
  subst hsz
  have hD := hD0.self (sz := s.heap.size)
  generalize hAe : va_A (wX12 cyB cyI cyZ cyO h h_all h_has h_read h_test h_rest h_gets h_waits h_way h_good h_left M_h) s.heap.size = A at hD ⊢
  have hA : ∀ q : Nat, s.heap.size ≤ q → A q := fun q h => by rw [← hAe]; exact Or.inr h
  have hS : va_S A s.heap s.heap [] := va_S.rf
  have hl := lv_entry ([.ref h] : List Value) (n := 1) (Nat.le_of_ble_eq_true rfl)
  rw [lg_entry_eq]
  generalize (lg_sl ([.ref h] : List Value) ++ List.replicate (1 - (lg_sl ([.ref h] : List Value)).length) Slot.unset).toArray = ls at hl ⊢
  have hl : lv_has ls 1 [(0, .ref h)] := hl
  rw [f_X12_tooMany] at hf
  refine lv_aload_n hx hb dX12_tooMany_0 rfl (lv_at hl 0 rfl) ?_
  refine va_get (D := (dC, dI)) (ci := 12) (v := .int (M_h 9 0)) (C := RX12) (T := TX12) (N := 21) hx hb hts hin12 hown hK hP 0 rfl rfl 9 (by decide) kf101 (fun _ h9 => h9) rfl dX12_tooMany_1 ?_
  refine lv_if_ne (tgt := 17) hx hb dX12_tooMany_4 (by decide) (fun hc4 => ?_) (fun hc4 => ?_)
  · rw [if_neg hc4] at hf
    have hq := Option.some.inj hf
    subst hq
    exact W.vret hx hb hr (fun t ht hW => ⟨rfl, by rw [ht]; exact hP, hD, hS.F ht⟩) hS.2.2 dX12_tooMany_17
  · rw [if_pos hc4] at hf
    refine lv_aload_n hx hb dX12_tooMany_7 rfl (lv_at hl 0 rfl) ?_
    refine va_get (D := (dC, dI)) (ci := 12) (v := .ref h_all) (C := RX12) (T := TX12) (N := 21) hx hb hts hin12 hown hK hP 0 rfl rfl 0 (by decide) kf7 (fun _ h9 => h9) rfl dX12_tooMany_8 ?_
    refine lv_bipush (v := (13 : Int32)) hx hb dX12_tooMany_11 (by decide) ?_
    refine va_iald hx hb hK hP 1 1 rfl rfl (show ¬ ((13 : Int32) < 0 ∨ 11160 ≤ ((13 : Int32)).toNatClampNeg) by decide) dX12_tooMany_13 ?_
    refine lv_if_eq (tgt := 18) hx hb dX12_tooMany_14 (by decide) (fun hc14 => ?_) (fun hc14 => ?_)
    · rw [if_pos hc14] at hf
      refine lv_aload_n hx hb dX12_tooMany_18 rfl (lv_at hl 0 rfl) ?_
      refine va_get (D := (dC, dI)) (ci := 12) (v := .ref h_all) (C := RX12) (T := TX12) (N := 21) hx hb hts hin12 hown hK hP 0 rfl rfl 0 (by decide) kf7 (fun _ h9 => h9) rfl dX12_tooMany_19 ?_
      refine lv_bipush (v := (13 : Int32)) hx hb dX12_tooMany_22 (by decide) ?_
      refine lv_iconst (v := (3 : Int32)) hx hb dX12_tooMany_24 (by decide) ?_
      refine va_iast hx hb hK hP hD hS 1 1 rfl rfl (show ¬ ((13 : Int32) < 0 ∨ 11160 ≤ ((13 : Int32)).toNatClampNeg) by decide) dX12_tooMany_25 (fun H locs hP hD hS => ?_)
      obtain ⟨M_h_25, eM_h_25, hf⟩ := wr_some hf
      have hP : va_P (dC, dI) vwCl (wX12 cyB cyI cyZ cyO h h_all h_has h_read h_test h_rest h_gets h_waits h_way h_good h_left M_h_25) H := by rw [eM_h_25]; exact hP
      have hD : va_D A (wX12 cyB cyI cyZ cyO h h_all h_has h_read h_test h_rest h_gets h_waits h_way h_good h_left M_h_25) := by rw [eM_h_25]; exact hD
      refine lv_aload_n hx hb dX12_tooMany_26 rfl (lv_at hl 0 rfl) ?_
      refine va_get (D := (dC, dI)) (ci := 12) (v := .ref h_all) (C := RX12) (T := TX12) (N := 21) hx hb hts hin12 hown hK hP 0 rfl rfl 0 (by decide) kf7 (fun _ h9 => h9) rfl dX12_tooMany_27 ?_
      refine lv_bipush (v := (14 : Int32)) hx hb dX12_tooMany_30 (by decide) ?_
      refine lv_aload_n hx hb dX12_tooMany_32 rfl (lv_at hl 0 rfl) ?_
      refine va_get (D := (dC, dI)) (ci := 12) (v := .int (M_h_25 4 0)) (C := RX12) (T := TX12) (N := 21) hx hb hts hin12 hown hK hP 0 rfl rfl 4 (by decide) kf72 (fun _ h9 => h9) rfl dX12_tooMany_33 ?_
      refine va_iast hx hb hK hP hD hS 1 1 rfl rfl (show ¬ ((14 : Int32) < 0 ∨ 11160 ≤ ((14 : Int32)).toNatClampNeg) by decide) dX12_tooMany_36 (fun H locs hP hD hS => ?_)
      obtain ⟨M_h_36, eM_h_36, hf⟩ := wr_some hf
      have hP : va_P (dC, dI) vwCl (wX12 cyB cyI cyZ cyO h h_all h_has h_read h_test h_rest h_gets h_waits h_way h_good h_left M_h_36) H := by rw [eM_h_36]; exact hP
      have hD : va_D A (wX12 cyB cyI cyZ cyO h h_all h_has h_read h_test h_rest h_gets h_waits h_way h_good h_left M_h_36) := by rw [eM_h_36]; exact hD
      have hq := Option.some.inj hf
      subst hq
      exact W.vret hx hb hr (fun t ht hW => ⟨rfl, by rw [ht]; exact hP, hD, hS.F ht⟩) hS.2.2 dX12_tooMany_37
    · rw [if_neg hc14] at hf
      have hq := Option.some.inj hf
      subst hq
      exact W.vret hx hb hr (fun t ht hW => ⟨rfl, by rw [ht]; exact hP, hD, hS.F ht⟩) hS.2.2 dX12_tooMany_17
set_option maxHeartbeats 4000000 in
set_option maxRecDepth 100000 in
theorem c_X12_takes (l : Launch) (dC : Nat → ClassId) (dI : Nat → Nat → Nat) (cyB cyI cyZ cyO : ClassId) (h h_all h_has h_read h_test h_rest h_gets h_waits h_way h_good h_left : Nat) (sz : Nat) (M_h : Mem) (p1 : Int32) (r : Int32) (R_h : Mem) (hf : f_X12_takes M_h p1 = some (r, R_h)) : Met l yX12_takes wsX12_takes ({ frames := 4, cells := 0, slots := 0, locals := 89 } : Room) (PW dC dI cyB cyI cyZ cyO ([.ref h, .int p1] : List Value) (wX12 cyB cyI cyZ cyO h h_all h_has h_read h_test h_rest h_gets h_waits h_way h_good h_left M_h) sz) (QW dC dI (some (.int r)) (wX12 cyB cyI cyZ cyO h h_all h_has h_read h_test h_rest h_gets h_waits h_way h_good h_left R_h) (va_A (wX12 cyB cyI cyZ cyO h h_all h_has h_read h_test h_rest h_gets h_waits h_way h_good h_left M_h) sz)) 0 0 (va_A (wX12 cyB cyI cyZ cyO h h_all h_has h_read h_test h_rest h_gets h_waits h_way h_good h_left M_h) sz) := by
  refine Met.ofW (cc := cX12_takes) (maxL := 2) (ret := (some .boolean)) (by decide) rfl ?_
  intro p e s m args below meth c s₁ B hml hv
  obtain ⟨rfl, hsz, hP, hCx, hD0⟩ := hv
  have hK := hCx.1
  have hN := hCx.2
  have hx := B.exec
  have hb := B.bytes
  have hr := B.returns
  have hts := atoms_spec (ws := wsX12_takes) B.pre
  have hown : s.vm.findClass RX12 = some m.cls := findClass_of_methodNamed B.named
  have hlocks := B.notSynchronized
  have hin12 : ∀ w ∈ u_ws RX12 TX12 21, w ∈ wsX12_takes := fun w h => List.mem_cons_of_mem _ (List.mem_append_right _ h)
  have kf75 := hts (.fieldLink RX12 75 "HoldSlipsModel" "token" "I") (by decide +kernel)
  have kf86 := hts (.fieldLink RX12 86 "HoldSlipsModel" "word" "I") (by decide +kernel)
  have kf101 := hts (.fieldLink RX12 101 "HoldSlipsModel" "wrong" "Z") (by decide +kernel)
  subst hsz
  have hD := hD0.self (sz := s.heap.size)
  generalize hAe : va_A (wX12 cyB cyI cyZ cyO h h_all h_has h_read h_test h_rest h_gets h_waits h_way h_good h_left M_h) s.heap.size = A at hD ⊢
  have hA : ∀ q : Nat, s.heap.size ≤ q → A q := fun q h => by rw [← hAe]; exact Or.inr h
  have hS : va_S A s.heap s.heap [] := va_S.rf
  have hl := lv_entry ([.ref h, .int p1] : List Value) (n := 2) (Nat.le_of_ble_eq_true rfl)
  rw [lg_entry_eq]
  generalize (lg_sl ([.ref h, .int p1] : List Value) ++ List.replicate (2 - (lg_sl ([.ref h, .int p1] : List Value)).length) Slot.unset).toArray = ls at hl ⊢
  have hl : lv_has ls 2 [(0, .ref h), (1, .int p1)] := hl
  rw [f_X12_takes] at hf
  refine lv_aload_n hx hb dX12_takes_0 rfl (lv_at hl 0 rfl) ?_
  refine va_get (D := (dC, dI)) (ci := 12) (v := .int (M_h 9 0)) (C := RX12) (T := TX12) (N := 21) hx hb hts hin12 hown hK hP 0 rfl rfl 9 (by decide) kf101 (fun _ h9 => h9) rfl dX12_takes_1 ?_
  refine lv_if_ne (tgt := 23) hx hb dX12_takes_4 (by decide) (fun hc4 => ?_) (fun hc4 => ?_)
  · rw [if_neg hc4] at hf
    refine lv_iconst (v := (0 : Int32)) hx hb dX12_takes_23 (by decide) ?_
    obtain ⟨hq0, hq1⟩ := pj2 hf
    subst hq0
    subst hq1
    exact W.zret (v := (0 : Int32)) hx hb hr rfl (fun t ht hW => ⟨rfl, by rw [ht]; exact hP, hD, hS.F ht⟩) hS.2.2 dX12_takes_24
  · rw [if_pos hc4] at hf
    refine lv_aload_n hx hb dX12_takes_7 rfl (lv_at hl 0 rfl) ?_
    refine va_get (D := (dC, dI)) (ci := 12) (v := .int (M_h 5 0)) (C := RX12) (T := TX12) (N := 21) hx hb hts hin12 hown hK hP 0 rfl rfl 5 (by decide) kf75 (fun _ h9 => h9) rfl dX12_takes_8 ?_
    refine lv_iconst (v := (3 : Int32)) hx hb dX12_takes_11 (by decide) ?_
    refine lv_icmp_ne (tgt := 23) hx hb dX12_takes_12 (by decide) (fun hc12 => ?_) (fun hc12 => ?_)
    · rw [if_neg hc12] at hf
      refine lv_iconst (v := (0 : Int32)) hx hb dX12_takes_23 (by decide) ?_
      obtain ⟨hq0, hq1⟩ := pj2 hf
      subst hq0
      subst hq1
      exact W.zret (v := (0 : Int32)) hx hb hr rfl (fun t ht hW => ⟨rfl, by rw [ht]; exact hP, hD, hS.F ht⟩) hS.2.2 dX12_takes_24
    · rw [if_pos hc12] at hf
      refine lv_aload_n hx hb dX12_takes_15 rfl (lv_at hl 0 rfl) ?_
      refine va_get (D := (dC, dI)) (ci := 12) (v := .int (M_h 8 0)) (C := RX12) (T := TX12) (N := 21) hx hb hts hin12 hown hK hP 0 rfl rfl 8 (by decide) kf86 (fun _ h9 => h9) rfl dX12_takes_16 ?_
      refine lv_iload_n hx hb dX12_takes_19 rfl (lv_at hl 1 rfl) ?_
      refine lv_icmp_eq (tgt := 25) hx hb dX12_takes_20 (by decide) (fun hc20 => ?_) (fun hc20 => ?_)
      · rw [if_pos hc20] at hf
        refine lv_aload_n hx hb dX12_takes_25 rfl (lv_at hl 0 rfl) ?_
        obtain ⟨M_h_26, h26, hf⟩ := bd1_some hf
        refine wr_callv (wc := (wX12 cyB cyI cyZ cyO h h_all h_has h_read h_test h_rest h_gets h_waits h_way h_good h_left M_h)) (wr := ([] : va_W)) (w1 := (wX12 cyB cyI cyZ cyO h h_all h_has h_read h_test h_rest h_gets h_waits h_way h_good h_left M_h_26)) (ws' := (wX12 cyB cyI cyZ cyO h h_all h_has h_read h_test h_rest h_gets h_waits h_way h_good h_left M_h_26)) hP hD hS hA [0, 1, 2, 3, 4, 5, 6, 7, 8, 9, 10] [] [0, 1, 2, 3, 4, 5, 6, 7, 8, 9, 10] rfl rfl (by decide) (by decide) rfl (by decide) (va_runV (As := []) (rest := []) ⟨hx, hb, hml, hown, hts⟩ (c_X12_advance l dC dI cyB cyI cyZ cyO h h_all h_has h_read h_test h_rest h_gets h_waits h_way h_good h_left _ M_h M_h_26 h26) (cwV 0 hts gX12_takes_X12_advance rfl rfl rfl (by decide +kernel) ⟨Nat.le_of_ble_eq_true rfl, Nat.le_of_ble_eq_true rfl⟩) ⟨PW.blind, va_recv hK hP (ci := 12) (q0 := 0) rfl rfl, fun U hU hW => ⟨rfl, by rw [hU], by rw [hU]; exact hP, hCx.warm hW, hD.weaken (fun _ _ _ _ => trivial)⟩⟩ rfl rfl hl.1 rfl (lv_room (Nat.le_of_ble_eq_true rfl)) dX12_takes_26 ⟨Nat.zero_le _, Nat.zero_le _⟩) (fun H locs hP hD hS => ?_)
        refine lv_iconst (v := (1 : Int32)) hx hb dX12_takes_29 (by decide) ?_
        obtain ⟨hq0, hq1⟩ := pj2 hf
        subst hq0
        subst hq1
        exact W.zret (v := (1 : Int32)) hx hb hr rfl (fun t ht hW => ⟨rfl, by rw [ht]; exact hP, hD, hS.F ht⟩) hS.2.2 dX12_takes_30
      · rw [if_neg hc20] at hf
        refine lv_iconst (v := (0 : Int32)) hx hb dX12_takes_23 (by decide) ?_
        obtain ⟨hq0, hq1⟩ := pj2 hf
        subst hq0
        subst hq1
        exact W.zret (v := (0 : Int32)) hx hb hr rfl (fun t ht hW => ⟨rfl, by rw [ht]; exact hP, hD, hS.F ht⟩) hS.2.2 dX12_takes_24
set_option maxHeartbeats 4000000 in
set_option maxRecDepth 100000 in
theorem c_X12_must (l : Launch) (dC : Nat → ClassId) (dI : Nat → Nat → Nat) (cyB cyI cyZ cyO : ClassId) (h h_all h_has h_read h_test h_rest h_gets h_waits h_way h_good h_left : Nat) (sz : Nat) (M_h : Mem) (p1 : Int32) (R_h : Mem) (hf : f_X12_must M_h p1 = some R_h) : Met l yX12_must wsX12_must ({ frames := 4, cells := 0, slots := 0, locals := 89 } : Room) (PW dC dI cyB cyI cyZ cyO ([.ref h, .int p1] : List Value) (wX12 cyB cyI cyZ cyO h h_all h_has h_read h_test h_rest h_gets h_waits h_way h_good h_left M_h) sz) (QW dC dI none (wX12 cyB cyI cyZ cyO h h_all h_has h_read h_test h_rest h_gets h_waits h_way h_good h_left R_h) (va_A (wX12 cyB cyI cyZ cyO h h_all h_has h_read h_test h_rest h_gets h_waits h_way h_good h_left M_h) sz)) 0 0 (va_A (wX12 cyB cyI cyZ cyO h h_all h_has h_read h_test h_rest h_gets h_waits h_way h_good h_left M_h) sz) := by
  refine Met.ofW (cc := cX12_must) (maxL := 2) (ret := none) (by decide) rfl ?_
  intro p e s m args below meth c s₁ B hml hv
  obtain ⟨rfl, hsz, hP, hCx, hD0⟩ := hv
  have hK := hCx.1
  have hN := hCx.2
  have hx := B.exec
  have hb := B.bytes
  have hr := B.returns
  have hts := atoms_spec (ws := wsX12_must) B.pre
  have hown : s.vm.findClass RX12 = some m.cls := findClass_of_methodNamed B.named
  have hlocks := B.notSynchronized
  have hin12 : ∀ w ∈ u_ws RX12 TX12 21, w ∈ wsX12_must := fun w h => List.mem_cons_of_mem _ (List.mem_append_right _ h)
  have kf75 := hts (.fieldLink RX12 75 "HoldSlipsModel" "token" "I") (by decide +kernel)
  have kf95 := hts (.fieldLink RX12 95 "HoldSlipsModel" "sign" "I") (by decide +kernel)
  have kf101 := hts (.fieldLink RX12 101 "HoldSlipsModel" "wrong" "Z") (by decide +kernel)
  subst hsz
  have hD := hD0.self (sz := s.heap.size)
  generalize hAe : va_A (wX12 cyB cyI cyZ cyO h h_all h_has h_read h_test h_rest h_gets h_waits h_way h_good h_left M_h) s.heap.size = A at hD ⊢
  have hA : ∀ q : Nat, s.heap.size ≤ q → A q := fun q h => by rw [← hAe]; exact Or.inr h
  have hS : va_S A s.heap s.heap [] := va_S.rf
  have hl := lv_entry ([.ref h, .int p1] : List Value) (n := 2) (Nat.le_of_ble_eq_true rfl)
  rw [lg_entry_eq]
  generalize (lg_sl ([.ref h, .int p1] : List Value) ++ List.replicate (2 - (lg_sl ([.ref h, .int p1] : List Value)).length) Slot.unset).toArray = ls at hl ⊢
  have hl : lv_has ls 2 [(0, .ref h), (1, .int p1)] := hl
  rw [f_X12_must] at hf
  refine lv_aload_n hx hb dX12_must_0 rfl (lv_at hl 0 rfl) ?_
  refine va_get (D := (dC, dI)) (ci := 12) (v := .int (M_h 9 0)) (C := RX12) (T := TX12) (N := 21) hx hb hts hin12 hown hK hP 0 rfl rfl 9 (by decide) kf101 (fun _ h9 => h9) rfl dX12_must_1 ?_
  refine lv_if_ne (tgt := 30) hx hb dX12_must_4 (by decide) (fun hc4 => ?_) (fun hc4 => ?_)
  · rw [if_neg hc4] at hf
    refine lv_aload_n hx hb dX12_must_30 rfl (lv_at hl 0 rfl) ?_
    obtain ⟨M_h_31, h31, hf⟩ := bd1_some hf
    refine wr_callv (wc := (wX12 cyB cyI cyZ cyO h h_all h_has h_read h_test h_rest h_gets h_waits h_way h_good h_left M_h)) (wr := ([] : va_W)) (w1 := (wX12 cyB cyI cyZ cyO h h_all h_has h_read h_test h_rest h_gets h_waits h_way h_good h_left M_h_31)) (ws' := (wX12 cyB cyI cyZ cyO h h_all h_has h_read h_test h_rest h_gets h_waits h_way h_good h_left M_h_31)) hP hD hS hA [0, 1, 2, 3, 4, 5, 6, 7, 8, 9, 10] [] [0, 1, 2, 3, 4, 5, 6, 7, 8, 9, 10] rfl rfl (by decide) (by decide) rfl (by decide) (va_runV (As := []) (rest := []) ⟨hx, hb, hml, hown, hts⟩ (c_X12_stops l dC dI cyB cyI cyZ cyO h h_all h_has h_read h_test h_rest h_gets h_waits h_way h_good h_left _ M_h M_h_31 h31) (cwV 0 hts gX12_must_X12_stops rfl rfl rfl (by decide +kernel) ⟨Nat.le_of_ble_eq_true rfl, Nat.le_of_ble_eq_true rfl⟩) ⟨PW.blind, va_recv hK hP (ci := 12) (q0 := 0) rfl rfl, fun U hU hW => ⟨rfl, by rw [hU], by rw [hU]; exact hP, hCx.warm hW, hD.weaken (fun _ _ _ _ => trivial)⟩⟩ rfl rfl hl.1 rfl (lv_room (Nat.le_of_ble_eq_true rfl)) dX12_must_31 ⟨Nat.zero_le _, Nat.zero_le _⟩) (fun H locs hP hD hS => ?_)
    have hq := Option.some.inj hf
    subst hq
    exact W.vret hx hb hr (fun t ht hW => ⟨rfl, by rw [ht]; exact hP, hD, hS.F ht⟩) hS.2.2 dX12_must_34
  · rw [if_pos hc4] at hf
    refine lv_aload_n hx hb dX12_must_7 rfl (lv_at hl 0 rfl) ?_
    refine va_get (D := (dC, dI)) (ci := 12) (v := .int (M_h 5 0)) (C := RX12) (T := TX12) (N := 21) hx hb hts hin12 hown hK hP 0 rfl rfl 5 (by decide) kf75 (fun _ h9 => h9) rfl dX12_must_8 ?_
    refine lv_iconst (v := (2 : Int32)) hx hb dX12_must_11 (by decide) ?_
    refine lv_icmp_ne (tgt := 30) hx hb dX12_must_12 (by decide) (fun hc12 => ?_) (fun hc12 => ?_)
    · rw [if_neg hc12] at hf
      refine lv_aload_n hx hb dX12_must_30 rfl (lv_at hl 0 rfl) ?_
      obtain ⟨M_h_31, h31, hf⟩ := bd1_some hf
      refine wr_callv (wc := (wX12 cyB cyI cyZ cyO h h_all h_has h_read h_test h_rest h_gets h_waits h_way h_good h_left M_h)) (wr := ([] : va_W)) (w1 := (wX12 cyB cyI cyZ cyO h h_all h_has h_read h_test h_rest h_gets h_waits h_way h_good h_left M_h_31)) (ws' := (wX12 cyB cyI cyZ cyO h h_all h_has h_read h_test h_rest h_gets h_waits h_way h_good h_left M_h_31)) hP hD hS hA [0, 1, 2, 3, 4, 5, 6, 7, 8, 9, 10] [] [0, 1, 2, 3, 4, 5, 6, 7, 8, 9, 10] rfl rfl (by decide) (by decide) rfl (by decide) (va_runV (As := []) (rest := []) ⟨hx, hb, hml, hown, hts⟩ (c_X12_stops l dC dI cyB cyI cyZ cyO h h_all h_has h_read h_test h_rest h_gets h_waits h_way h_good h_left _ M_h M_h_31 h31) (cwV 0 hts gX12_must_X12_stops rfl rfl rfl (by decide +kernel) ⟨Nat.le_of_ble_eq_true rfl, Nat.le_of_ble_eq_true rfl⟩) ⟨PW.blind, va_recv hK hP (ci := 12) (q0 := 0) rfl rfl, fun U hU hW => ⟨rfl, by rw [hU], by rw [hU]; exact hP, hCx.warm hW, hD.weaken (fun _ _ _ _ => trivial)⟩⟩ rfl rfl hl.1 rfl (lv_room (Nat.le_of_ble_eq_true rfl)) dX12_must_31 ⟨Nat.zero_le _, Nat.zero_le _⟩) (fun H locs hP hD hS => ?_)
      have hq := Option.some.inj hf
      subst hq
      exact W.vret hx hb hr (fun t ht hW => ⟨rfl, by rw [ht]; exact hP, hD, hS.F ht⟩) hS.2.2 dX12_must_34
    · rw [if_pos hc12] at hf
      refine lv_aload_n hx hb dX12_must_15 rfl (lv_at hl 0 rfl) ?_
      refine va_get (D := (dC, dI)) (ci := 12) (v := .int (M_h 7 0)) (C := RX12) (T := TX12) (N := 21) hx hb hts hin12 hown hK hP 0 rfl rfl 7 (by decide) kf95 (fun _ h9 => h9) rfl dX12_must_16 ?_
      refine lv_iload_n hx hb dX12_must_19 rfl (lv_at hl 1 rfl) ?_
      refine lv_icmp_ne (tgt := 30) hx hb dX12_must_20 (by decide) (fun hc20 => ?_) (fun hc20 => ?_)
      · rw [if_neg hc20] at hf
        refine lv_aload_n hx hb dX12_must_30 rfl (lv_at hl 0 rfl) ?_
        obtain ⟨M_h_31, h31, hf⟩ := bd1_some hf
        refine wr_callv (wc := (wX12 cyB cyI cyZ cyO h h_all h_has h_read h_test h_rest h_gets h_waits h_way h_good h_left M_h)) (wr := ([] : va_W)) (w1 := (wX12 cyB cyI cyZ cyO h h_all h_has h_read h_test h_rest h_gets h_waits h_way h_good h_left M_h_31)) (ws' := (wX12 cyB cyI cyZ cyO h h_all h_has h_read h_test h_rest h_gets h_waits h_way h_good h_left M_h_31)) hP hD hS hA [0, 1, 2, 3, 4, 5, 6, 7, 8, 9, 10] [] [0, 1, 2, 3, 4, 5, 6, 7, 8, 9, 10] rfl rfl (by decide) (by decide) rfl (by decide) (va_runV (As := []) (rest := []) ⟨hx, hb, hml, hown, hts⟩ (c_X12_stops l dC dI cyB cyI cyZ cyO h h_all h_has h_read h_test h_rest h_gets h_waits h_way h_good h_left _ M_h M_h_31 h31) (cwV 0 hts gX12_must_X12_stops rfl rfl rfl (by decide +kernel) ⟨Nat.le_of_ble_eq_true rfl, Nat.le_of_ble_eq_true rfl⟩) ⟨PW.blind, va_recv hK hP (ci := 12) (q0 := 0) rfl rfl, fun U hU hW => ⟨rfl, by rw [hU], by rw [hU]; exact hP, hCx.warm hW, hD.weaken (fun _ _ _ _ => trivial)⟩⟩ rfl rfl hl.1 rfl (lv_room (Nat.le_of_ble_eq_true rfl)) dX12_must_31 ⟨Nat.zero_le _, Nat.zero_le _⟩) (fun H locs hP hD hS => ?_)
        have hq := Option.some.inj hf
        subst hq
        exact W.vret hx hb hr (fun t ht hW => ⟨rfl, by rw [ht]; exact hP, hD, hS.F ht⟩) hS.2.2 dX12_must_34
      · rw [if_pos hc20] at hf
        refine lv_aload_n hx hb dX12_must_23 rfl (lv_at hl 0 rfl) ?_
        obtain ⟨M_h_24, h24, hf⟩ := bd1_some hf
        refine wr_callv (wc := (wX12 cyB cyI cyZ cyO h h_all h_has h_read h_test h_rest h_gets h_waits h_way h_good h_left M_h)) (wr := ([] : va_W)) (w1 := (wX12 cyB cyI cyZ cyO h h_all h_has h_read h_test h_rest h_gets h_waits h_way h_good h_left M_h_24)) (ws' := (wX12 cyB cyI cyZ cyO h h_all h_has h_read h_test h_rest h_gets h_waits h_way h_good h_left M_h_24)) hP hD hS hA [0, 1, 2, 3, 4, 5, 6, 7, 8, 9, 10] [] [0, 1, 2, 3, 4, 5, 6, 7, 8, 9, 10] rfl rfl (by decide) (by decide) rfl (by decide) (va_runV (As := []) (rest := []) ⟨hx, hb, hml, hown, hts⟩ (c_X12_advance l dC dI cyB cyI cyZ cyO h h_all h_has h_read h_test h_rest h_gets h_waits h_way h_good h_left _ M_h M_h_24 h24) (cwV 0 hts gX12_must_X12_advance rfl rfl rfl (by decide +kernel) ⟨Nat.le_of_ble_eq_true rfl, Nat.le_of_ble_eq_true rfl⟩) ⟨PW.blind, va_recv hK hP (ci := 12) (q0 := 0) rfl rfl, fun U hU hW => ⟨rfl, by rw [hU], by rw [hU]; exact hP, hCx.warm hW, hD.weaken (fun _ _ _ _ => trivial)⟩⟩ rfl rfl hl.1 rfl (lv_room (Nat.le_of_ble_eq_true rfl)) dX12_must_24 ⟨Nat.zero_le _, Nat.zero_le _⟩) (fun H locs hP hD hS => ?_)
        refine lv_goto (tgt := 34) hx hb dX12_must_27 (by decide) ?_
        have hq := Option.some.inj hf
        subst hq
        exact W.vret hx hb hr (fun t ht hW => ⟨rfl, by rw [ht]; exact hP, hD, hS.F ht⟩) hS.2.2 dX12_must_34
set_option maxHeartbeats 4000000 in
set_option maxRecDepth 100000 in
theorem c_X12_numbered (l : Launch) (dC : Nat → ClassId) (dI : Nat → Nat → Nat) (cyB cyI cyZ cyO : ClassId) (h h_all h_has h_read h_test h_rest h_gets h_waits h_way h_good h_left : Nat) (sz : Nat) (M_h : Mem) (r : Int32) (R_h : Mem) (hf : f_X12_numbered M_h = some (r, R_h)) : Met l yX12_numbered wsX12_numbered ({ frames := 4, cells := 0, slots := 0, locals := 89 } : Room) (PW dC dI cyB cyI cyZ cyO ([.ref h] : List Value) (wX12 cyB cyI cyZ cyO h h_all h_has h_read h_test h_rest h_gets h_waits h_way h_good h_left M_h) sz) (QW dC dI (some (.int r)) (wX12 cyB cyI cyZ cyO h h_all h_has h_read h_test h_rest h_gets h_waits h_way h_good h_left R_h) (va_A (wX12 cyB cyI cyZ cyO h h_all h_has h_read h_test h_rest h_gets h_waits h_way h_good h_left M_h) sz)) 0 0 (va_A (wX12 cyB cyI cyZ cyO h h_all h_has h_read h_test h_rest h_gets h_waits h_way h_good h_left M_h) sz) := by
  refine Met.ofW (cc := cX12_numbered) (maxL := 2) (ret := (some .int)) (by decide) rfl ?_
  intro p e s m args below meth c s₁ B hml hv
  obtain ⟨rfl, hsz, hP, hCx, hD0⟩ := hv
  have hK := hCx.1
  have hN := hCx.2
  have hx := B.exec
  have hb := B.bytes
  have hr := B.returns
  have hts := atoms_spec (ws := wsX12_numbered) B.pre
  have hown : s.vm.findClass RX12 = some m.cls := findClass_of_methodNamed B.named
  have hlocks := B.notSynchronized
  have hin12 : ∀ w ∈ u_ws RX12 TX12 21, w ∈ wsX12_numbered := fun w h => List.mem_cons_of_mem _ (List.mem_append_right _ h)
  have kf75 := hts (.fieldLink RX12 75 "HoldSlipsModel" "token" "I") (by decide +kernel)
  have kf92 := hts (.fieldLink RX12 92 "HoldSlipsModel" "number" "I") (by decide +kernel)
  have kf101 := hts (.fieldLink RX12 101 "HoldSlipsModel" "wrong" "Z") (by decide +kernel)
  subst hsz
  have hD := hD0.self (sz := s.heap.size)
  generalize hAe : va_A (wX12 cyB cyI cyZ cyO h h_all h_has h_read h_test h_rest h_gets h_waits h_way h_good h_left M_h) s.heap.size = A at hD ⊢
  have hA : ∀ q : Nat, s.heap.size ≤ q → A q := fun q h => by rw [← hAe]; exact Or.inr h
  have hS : va_S A s.heap s.heap [] := va_S.rf
  have hl := lv_entry ([.ref h] : List Value) (n := 2) (Nat.le_of_ble_eq_true rfl)
  rw [lg_entry_eq]
  generalize (lg_sl ([.ref h] : List Value) ++ List.replicate (2 - (lg_sl ([.ref h] : List Value)).length) Slot.unset).toArray = ls at hl ⊢
  have hl : lv_has ls 2 [(0, .ref h)] := hl
  rw [f_X12_numbered] at hf
  refine lv_aload_n hx hb dX12_numbered_0 rfl (lv_at hl 0 rfl) ?_
  refine va_get (D := (dC, dI)) (ci := 12) (v := .int (M_h 6 0)) (C := RX12) (T := TX12) (N := 21) hx hb hts hin12 hown hK hP 0 rfl rfl 6 (by decide) kf92 (fun _ h9 => h9) rfl dX12_numbered_1 ?_
  refine lv_istore_n (lv' := [(1, .int (M_h 6 0)), (0, .ref h)]) hx hb dX12_numbered_4 rfl hl (by decide) rfl (fun ls hl => ?_)
  refine lv_aload_n hx hb dX12_numbered_5 rfl (lv_at hl 1 rfl) ?_
  refine va_get (D := (dC, dI)) (ci := 12) (v := .int (M_h 9 0)) (C := RX12) (T := TX12) (N := 21) hx hb hts hin12 hown hK hP 0 rfl rfl 9 (by decide) kf101 (fun _ h9 => h9) rfl dX12_numbered_6 ?_
  refine lv_if_ne (tgt := 27) hx hb dX12_numbered_9 (by decide) (fun hc9 => ?_) (fun hc9 => ?_)
  · rw [if_neg hc9] at hf
    refine lv_aload_n hx hb dX12_numbered_27 rfl (lv_at hl 1 rfl) ?_
    obtain ⟨M_h_28, h28, hf⟩ := bd1_some hf
    refine wr_callv (wc := (wX12 cyB cyI cyZ cyO h h_all h_has h_read h_test h_rest h_gets h_waits h_way h_good h_left M_h)) (wr := ([] : va_W)) (w1 := (wX12 cyB cyI cyZ cyO h h_all h_has h_read h_test h_rest h_gets h_waits h_way h_good h_left M_h_28)) (ws' := (wX12 cyB cyI cyZ cyO h h_all h_has h_read h_test h_rest h_gets h_waits h_way h_good h_left M_h_28)) hP hD hS hA [0, 1, 2, 3, 4, 5, 6, 7, 8, 9, 10] [] [0, 1, 2, 3, 4, 5, 6, 7, 8, 9, 10] rfl rfl (by decide) (by decide) rfl (by decide) (va_runV (As := []) (rest := []) ⟨hx, hb, hml, hown, hts⟩ (c_X12_stops l dC dI cyB cyI cyZ cyO h h_all h_has h_read h_test h_rest h_gets h_waits h_way h_good h_left _ M_h M_h_28 h28) (cwV 0 hts gX12_numbered_X12_stops rfl rfl rfl (by decide +kernel) ⟨Nat.le_of_ble_eq_true rfl, Nat.le_of_ble_eq_true rfl⟩) ⟨PW.blind, va_recv hK hP (ci := 12) (q0 := 0) rfl rfl, fun U hU hW => ⟨rfl, by rw [hU], by rw [hU]; exact hP, hCx.warm hW, hD.weaken (fun _ _ _ _ => trivial)⟩⟩ rfl rfl hl.1 rfl (lv_room (Nat.le_of_ble_eq_true rfl)) dX12_numbered_28 ⟨Nat.zero_le _, Nat.zero_le _⟩) (fun H locs hP hD hS => ?_)
    refine lv_iload_n hx hb dX12_numbered_31 rfl (lv_at hl 0 rfl) ?_
    obtain ⟨hq0, hq1⟩ := pj2 hf
    subst hq0
    subst hq1
    exact W.iret (v := (M_h 6 0)) hx hb hr (fun t ht hW => ⟨rfl, by rw [ht]; exact hP, hD, hS.F ht⟩) hS.2.2 dX12_numbered_32
  · rw [if_pos hc9] at hf
    refine lv_aload_n hx hb dX12_numbered_12 rfl (lv_at hl 1 rfl) ?_
    refine va_get (D := (dC, dI)) (ci := 12) (v := .int (M_h 5 0)) (C := RX12) (T := TX12) (N := 21) hx hb hts hin12 hown hK hP 0 rfl rfl 5 (by decide) kf75 (fun _ h9 => h9) rfl dX12_numbered_13 ?_
    refine lv_iconst (v := (1 : Int32)) hx hb dX12_numbered_16 (by decide) ?_
    refine lv_icmp_ne (tgt := 27) hx hb dX12_numbered_17 (by decide) (fun hc17 => ?_) (fun hc17 => ?_)
    · rw [if_neg hc17] at hf
      refine lv_aload_n hx hb dX12_numbered_27 rfl (lv_at hl 1 rfl) ?_
      obtain ⟨M_h_28, h28, hf⟩ := bd1_some hf
      refine wr_callv (wc := (wX12 cyB cyI cyZ cyO h h_all h_has h_read h_test h_rest h_gets h_waits h_way h_good h_left M_h)) (wr := ([] : va_W)) (w1 := (wX12 cyB cyI cyZ cyO h h_all h_has h_read h_test h_rest h_gets h_waits h_way h_good h_left M_h_28)) (ws' := (wX12 cyB cyI cyZ cyO h h_all h_has h_read h_test h_rest h_gets h_waits h_way h_good h_left M_h_28)) hP hD hS hA [0, 1, 2, 3, 4, 5, 6, 7, 8, 9, 10] [] [0, 1, 2, 3, 4, 5, 6, 7, 8, 9, 10] rfl rfl (by decide) (by decide) rfl (by decide) (va_runV (As := []) (rest := []) ⟨hx, hb, hml, hown, hts⟩ (c_X12_stops l dC dI cyB cyI cyZ cyO h h_all h_has h_read h_test h_rest h_gets h_waits h_way h_good h_left _ M_h M_h_28 h28) (cwV 0 hts gX12_numbered_X12_stops rfl rfl rfl (by decide +kernel) ⟨Nat.le_of_ble_eq_true rfl, Nat.le_of_ble_eq_true rfl⟩) ⟨PW.blind, va_recv hK hP (ci := 12) (q0 := 0) rfl rfl, fun U hU hW => ⟨rfl, by rw [hU], by rw [hU]; exact hP, hCx.warm hW, hD.weaken (fun _ _ _ _ => trivial)⟩⟩ rfl rfl hl.1 rfl (lv_room (Nat.le_of_ble_eq_true rfl)) dX12_numbered_28 ⟨Nat.zero_le _, Nat.zero_le _⟩) (fun H locs hP hD hS => ?_)
      refine lv_iload_n hx hb dX12_numbered_31 rfl (lv_at hl 0 rfl) ?_
      obtain ⟨hq0, hq1⟩ := pj2 hf
      subst hq0
      subst hq1
      exact W.iret (v := (M_h 6 0)) hx hb hr (fun t ht hW => ⟨rfl, by rw [ht]; exact hP, hD, hS.F ht⟩) hS.2.2 dX12_numbered_32
    · rw [if_pos hc17] at hf
      refine lv_aload_n hx hb dX12_numbered_20 rfl (lv_at hl 1 rfl) ?_
      obtain ⟨M_h_21, h21, hf⟩ := bd1_some hf
      refine wr_callv (wc := (wX12 cyB cyI cyZ cyO h h_all h_has h_read h_test h_rest h_gets h_waits h_way h_good h_left M_h)) (wr := ([] : va_W)) (w1 := (wX12 cyB cyI cyZ cyO h h_all h_has h_read h_test h_rest h_gets h_waits h_way h_good h_left M_h_21)) (ws' := (wX12 cyB cyI cyZ cyO h h_all h_has h_read h_test h_rest h_gets h_waits h_way h_good h_left M_h_21)) hP hD hS hA [0, 1, 2, 3, 4, 5, 6, 7, 8, 9, 10] [] [0, 1, 2, 3, 4, 5, 6, 7, 8, 9, 10] rfl rfl (by decide) (by decide) rfl (by decide) (va_runV (As := []) (rest := []) ⟨hx, hb, hml, hown, hts⟩ (c_X12_advance l dC dI cyB cyI cyZ cyO h h_all h_has h_read h_test h_rest h_gets h_waits h_way h_good h_left _ M_h M_h_21 h21) (cwV 0 hts gX12_numbered_X12_advance rfl rfl rfl (by decide +kernel) ⟨Nat.le_of_ble_eq_true rfl, Nat.le_of_ble_eq_true rfl⟩) ⟨PW.blind, va_recv hK hP (ci := 12) (q0 := 0) rfl rfl, fun U hU hW => ⟨rfl, by rw [hU], by rw [hU]; exact hP, hCx.warm hW, hD.weaken (fun _ _ _ _ => trivial)⟩⟩ rfl rfl hl.1 rfl (lv_room (Nat.le_of_ble_eq_true rfl)) dX12_numbered_21 ⟨Nat.zero_le _, Nat.zero_le _⟩) (fun H locs hP hD hS => ?_)
      refine lv_goto (tgt := 31) hx hb dX12_numbered_24 (by decide) ?_
      refine lv_iload_n hx hb dX12_numbered_31 rfl (lv_at hl 0 rfl) ?_
      obtain ⟨hq0, hq1⟩ := pj2 hf
      subst hq0
      subst hq1
      exact W.iret (v := (M_h 6 0)) hx hb hr (fun t ht hW => ⟨rfl, by rw [ht]; exact hP, hD, hS.F ht⟩) hS.2.2 dX12_numbered_32
set_option maxHeartbeats 4000000 in
set_option maxRecDepth 100000 in
theorem c_X12_aTest (l : Launch) (dC : Nat → ClassId) (dI : Nat → Nat → Nat) (cyB cyI cyZ cyO : ClassId) (h h_all h_has h_read h_test h_rest h_gets h_waits h_way h_good h_left : Nat) (sz : Nat) (M_h : Mem) (R_h : Mem) (hf : f_X12_aTest M_h = some R_h) : Met l yX12_aTest wsX12_aTest ({ frames := 5, cells := 0, slots := 0, locals := 110 } : Room) (PW dC dI cyB cyI cyZ cyO ([.ref h] : List Value) (wX12 cyB cyI cyZ cyO h h_all h_has h_read h_test h_rest h_gets h_waits h_way h_good h_left M_h) sz) (QW dC dI none (wX12 cyB cyI cyZ cyO h h_all h_has h_read h_test h_rest h_gets h_waits h_way h_good h_left R_h) (va_A (wX12 cyB cyI cyZ cyO h h_all h_has h_read h_test h_rest h_gets h_waits h_way h_good h_left M_h) sz)) 0 0 (va_A (wX12 cyB cyI cyZ cyO h h_all h_has h_read h_test h_rest h_gets h_waits h_way h_good h_left M_h) sz) := by
  refine Met.ofW (cc := cX12_aTest) (maxL := 1) (ret := none) (by decide) rfl ?_
  intro p e s m args below meth c s₁ B hml hv
  obtain ⟨rfl, hsz, hP, hCx, hD0⟩ := hv
  have hK := hCx.1
  have hN := hCx.2
  have hx := B.exec
  have hb := B.bytes
  have hr := B.returns
  have hts := atoms_spec (ws := wsX12_aTest) B.pre
  have hown : s.vm.findClass RX12 = some m.cls := findClass_of_methodNamed B.named
  have hlocks := B.notSynchronized
  have hin12 : ∀ w ∈ u_ws RX12 TX12 21, w ∈ wsX12_aTest := fun w h => List.mem_cons_of_mem _ (List.mem_append_right _ h)
  have kf20 := hts (.fieldLink RX12 20 "HoldSlipsModel" "test" "[I") (by decide +kernel)
  have kf75 := hts (.fieldLink RX12 75 "HoldSlipsModel" "token" "I") (by decide +kernel)
  have kf86 := hts (.fieldLink RX12 86 "HoldSlipsModel" "word" "I") (by decide +kernel)
  have kf95 := hts (.fieldLink RX12 95 "HoldSlipsModel" "sign" "I") (by decide +kernel)
  have kf101 := hts (.fieldLink RX12 101 "HoldSlipsModel" "wrong" "Z") (by decide +kernel)
  subst hsz
  have hD := hD0.self (sz := s.heap.size)
  generalize hAe : va_A (wX12 cyB cyI cyZ cyO h h_all h_has h_read h_test h_rest h_gets h_waits h_way h_good h_left M_h) s.heap.size = A at hD ⊢
  have hA : ∀ q : Nat, s.heap.size ≤ q → A q := fun q h => by rw [← hAe]; exact Or.inr h
  have hS : va_S A s.heap s.heap [] := va_S.rf
  have hl := lv_entry ([.ref h] : List Value) (n := 1) (Nat.le_of_ble_eq_true rfl)
  rw [lg_entry_eq]
  generalize (lg_sl ([.ref h] : List Value) ++ List.replicate (1 - (lg_sl ([.ref h] : List Value)).length) Slot.unset).toArray = ls at hl ⊢
  have hl : lv_has ls 1 [(0, .ref h)] := hl
  have L19 : ∀ (M_h : Mem) (s0 : Int32) (s1 : Int32) (H : Heap) (locs : List Loc) (ls : Array Slot), f_X12_aTest_L19 M_h s0 s1 = some R_h → va_P (dC, dI) vwCl (wX12 cyB cyI cyZ cyO h h_all h_has h_read h_test h_rest h_gets h_waits h_way h_good h_left M_h) H → va_D A (wX12 cyB cyI cyZ cyO h h_all h_has h_read h_test h_rest h_gets h_waits h_way h_good h_left M_h) → va_S A s.heap H locs → lv_has ls 1 [(0, .ref h)] → W p l e (headSpec wsX12_aTest ({ frames := 5, cells := 0, slots := 0, locals := 110 } : Room)).room s m ([.ref h] : List Value).toArray below meth c H locs 0 0 (MQ below (QW dC dI none (wX12 cyB cyI cyZ cyO h h_all h_has h_read h_test h_rest h_gets h_waits h_way h_good h_left R_h) A) ([.ref h] : List Value).toArray s 0 0 A) (F0 m 19 ls [.int s0, .int s1, .ref h_test]) := by
    intro  M_h s0 s1 H locs ls hf hP hD hS hl
    rw [f_X12_aTest_L19] at hf
    have hi19 := if_no hf
    rw [if_neg hi19] at hf
    refine va_iast hx hb hK hP hD hS 4 1 rfl rfl hi19 dX12_aTest_19 (fun H locs hP hD hS => ?_)
    obtain ⟨M_h_19, eM_h_19, hf⟩ := wr_some hf
    have hP : va_P (dC, dI) vwCl (wX12 cyB cyI cyZ cyO h h_all h_has h_read h_test h_rest h_gets h_waits h_way h_good h_left M_h_19) H := by rw [eM_h_19]; exact hP
    have hD : va_D A (wX12 cyB cyI cyZ cyO h h_all h_has h_read h_test h_rest h_gets h_waits h_way h_good h_left M_h_19) := by rw [eM_h_19]; exact hD
    refine lv_aload_n hx hb dX12_aTest_20 rfl (lv_at hl 0 rfl) ?_
    refine va_get (D := (dC, dI)) (ci := 12) (v := .ref h_test) (C := RX12) (T := TX12) (N := 21) hx hb hts hin12 hown hK hP 0 rfl rfl 12 (by decide) kf20 (fun _ h9 => h9) rfl dX12_aTest_21 ?_
    refine lv_iconst (v := (1 : Int32)) hx hb dX12_aTest_24 (by decide) ?_
    refine lv_aload_n hx hb dX12_aTest_25 rfl (lv_at hl 0 rfl) ?_
    refine va_get (D := (dC, dI)) (ci := 12) (v := .int (M_h_19 8 0)) (C := RX12) (T := TX12) (N := 21) hx hb hts hin12 hown hK hP 0 rfl rfl 8 (by decide) kf86 (fun _ h9 => h9) rfl dX12_aTest_26 ?_
    refine va_iast hx hb hK hP hD hS 4 1 rfl rfl (show ¬ ((1 : Int32) < 0 ∨ 4 ≤ ((1 : Int32)).toNatClampNeg) by decide) dX12_aTest_29 (fun H locs hP hD hS => ?_)
    obtain ⟨M_h_29, eM_h_29, hf⟩ := wr_some hf
    have hP : va_P (dC, dI) vwCl (wX12 cyB cyI cyZ cyO h h_all h_has h_read h_test h_rest h_gets h_waits h_way h_good h_left M_h_29) H := by rw [eM_h_29]; exact hP
    have hD : va_D A (wX12 cyB cyI cyZ cyO h h_all h_has h_read h_test h_rest h_gets h_waits h_way h_good h_left M_h_29) := by rw [eM_h_29]; exact hD
    refine lv_aload_n hx hb dX12_aTest_30 rfl (lv_at hl 0 rfl) ?_
    refine va_get (D := (dC, dI)) (ci := 12) (v := .ref h_test) (C := RX12) (T := TX12) (N := 21) hx hb hts hin12 hown hK hP 0 rfl rfl 12 (by decide) kf20 (fun _ h9 => h9) rfl dX12_aTest_31 ?_
    refine lv_iconst (v := (2 : Int32)) hx hb dX12_aTest_34 (by decide) ?_
    refine lv_bipush (v := (61 : Int32)) hx hb dX12_aTest_35 (by decide) ?_
    refine va_iast hx hb hK hP hD hS 4 1 rfl rfl (show ¬ ((2 : Int32) < 0 ∨ 4 ≤ ((2 : Int32)).toNatClampNeg) by decide) dX12_aTest_37 (fun H locs hP hD hS => ?_)
    obtain ⟨M_h_37, eM_h_37, hf⟩ := wr_some hf
    have hP : va_P (dC, dI) vwCl (wX12 cyB cyI cyZ cyO h h_all h_has h_read h_test h_rest h_gets h_waits h_way h_good h_left M_h_37) H := by rw [eM_h_37]; exact hP
    have hD : va_D A (wX12 cyB cyI cyZ cyO h h_all h_has h_read h_test h_rest h_gets h_waits h_way h_good h_left M_h_37) := by rw [eM_h_37]; exact hD
    refine lv_aload_n hx hb dX12_aTest_38 rfl (lv_at hl 0 rfl) ?_
    refine va_get (D := (dC, dI)) (ci := 12) (v := .ref h_test) (C := RX12) (T := TX12) (N := 21) hx hb hts hin12 hown hK hP 0 rfl rfl 12 (by decide) kf20 (fun _ h9 => h9) rfl dX12_aTest_39 ?_
    refine lv_iconst (v := (3 : Int32)) hx hb dX12_aTest_42 (by decide) ?_
    refine lv_iconst (v := (1 : Int32)) hx hb dX12_aTest_43 (by decide) ?_
    refine va_iast hx hb hK hP hD hS 4 1 rfl rfl (show ¬ ((3 : Int32) < 0 ∨ 4 ≤ ((3 : Int32)).toNatClampNeg) by decide) dX12_aTest_44 (fun H locs hP hD hS => ?_)
    obtain ⟨M_h_44, eM_h_44, hf⟩ := wr_some hf
    have hP : va_P (dC, dI) vwCl (wX12 cyB cyI cyZ cyO h h_all h_has h_read h_test h_rest h_gets h_waits h_way h_good h_left M_h_44) H := by rw [eM_h_44]; exact hP
    have hD : va_D A (wX12 cyB cyI cyZ cyO h h_all h_has h_read h_test h_rest h_gets h_waits h_way h_good h_left M_h_44) := by rw [eM_h_44]; exact hD
    refine lv_aload_n hx hb dX12_aTest_45 rfl (lv_at hl 0 rfl) ?_
    refine va_get (D := (dC, dI)) (ci := 12) (v := .int (M_h_44 9 0)) (C := RX12) (T := TX12) (N := 21) hx hb hts hin12 hown hK hP 0 rfl rfl 9 (by decide) kf101 (fun _ h9 => h9) rfl dX12_aTest_46 ?_
    refine lv_if_ne (tgt := 72) hx hb dX12_aTest_49 (by decide) (fun hc49 => ?_) (fun hc49 => ?_)
    · rw [if_neg hc49] at hf
      refine lv_aload_n hx hb dX12_aTest_72 rfl (lv_at hl 0 rfl) ?_
      obtain ⟨M_h_73, h73, hf⟩ := bd1_some hf
      refine wr_callv (wc := (wX12 cyB cyI cyZ cyO h h_all h_has h_read h_test h_rest h_gets h_waits h_way h_good h_left M_h_44)) (wr := ([] : va_W)) (w1 := (wX12 cyB cyI cyZ cyO h h_all h_has h_read h_test h_rest h_gets h_waits h_way h_good h_left M_h_73)) (ws' := (wX12 cyB cyI cyZ cyO h h_all h_has h_read h_test h_rest h_gets h_waits h_way h_good h_left M_h_73)) hP hD hS hA [0, 1, 2, 3, 4, 5, 6, 7, 8, 9, 10] [] [0, 1, 2, 3, 4, 5, 6, 7, 8, 9, 10] rfl rfl (by decide) (by decide) rfl (by decide) (va_runV (As := []) (rest := []) ⟨hx, hb, hml, hown, hts⟩ (c_X12_stops l dC dI cyB cyI cyZ cyO h h_all h_has h_read h_test h_rest h_gets h_waits h_way h_good h_left _ M_h_44 M_h_73 h73) (cwV 0 hts gX12_aTest_X12_stops rfl rfl rfl (by decide +kernel) ⟨Nat.le_of_ble_eq_true rfl, Nat.le_of_ble_eq_true rfl⟩) ⟨PW.blind, va_recv hK hP (ci := 12) (q0 := 0) rfl rfl, fun U hU hW => ⟨rfl, by rw [hU], by rw [hU]; exact hP, hCx.warm hW, hD.weaken (fun _ _ _ _ => trivial)⟩⟩ rfl rfl hl.1 rfl (lv_room (Nat.le_of_ble_eq_true rfl)) dX12_aTest_73 ⟨Nat.zero_le _, Nat.zero_le _⟩) (fun H locs hP hD hS => ?_)
      have hq := Option.some.inj hf
      subst hq
      exact W.vret hx hb hr (fun t ht hW => ⟨rfl, by rw [ht]; exact hP, hD, hS.F ht⟩) hS.2.2 dX12_aTest_76
    · rw [if_pos hc49] at hf
      refine lv_aload_n hx hb dX12_aTest_52 rfl (lv_at hl 0 rfl) ?_
      refine va_get (D := (dC, dI)) (ci := 12) (v := .int (M_h_44 5 0)) (C := RX12) (T := TX12) (N := 21) hx hb hts hin12 hown hK hP 0 rfl rfl 5 (by decide) kf75 (fun _ h9 => h9) rfl dX12_aTest_53 ?_
      refine lv_iconst (v := (3 : Int32)) hx hb dX12_aTest_56 (by decide) ?_
      refine lv_icmp_ne (tgt := 72) hx hb dX12_aTest_57 (by decide) (fun hc57 => ?_) (fun hc57 => ?_)
      · rw [if_neg hc57] at hf
        refine lv_aload_n hx hb dX12_aTest_72 rfl (lv_at hl 0 rfl) ?_
        obtain ⟨M_h_73, h73, hf⟩ := bd1_some hf
        refine wr_callv (wc := (wX12 cyB cyI cyZ cyO h h_all h_has h_read h_test h_rest h_gets h_waits h_way h_good h_left M_h_44)) (wr := ([] : va_W)) (w1 := (wX12 cyB cyI cyZ cyO h h_all h_has h_read h_test h_rest h_gets h_waits h_way h_good h_left M_h_73)) (ws' := (wX12 cyB cyI cyZ cyO h h_all h_has h_read h_test h_rest h_gets h_waits h_way h_good h_left M_h_73)) hP hD hS hA [0, 1, 2, 3, 4, 5, 6, 7, 8, 9, 10] [] [0, 1, 2, 3, 4, 5, 6, 7, 8, 9, 10] rfl rfl (by decide) (by decide) rfl (by decide) (va_runV (As := []) (rest := []) ⟨hx, hb, hml, hown, hts⟩ (c_X12_stops l dC dI cyB cyI cyZ cyO h h_all h_has h_read h_test h_rest h_gets h_waits h_way h_good h_left _ M_h_44 M_h_73 h73) (cwV 0 hts gX12_aTest_X12_stops rfl rfl rfl (by decide +kernel) ⟨Nat.le_of_ble_eq_true rfl, Nat.le_of_ble_eq_true rfl⟩) ⟨PW.blind, va_recv hK hP (ci := 12) (q0 := 0) rfl rfl, fun U hU hW => ⟨rfl, by rw [hU], by rw [hU]; exact hP, hCx.warm hW, hD.weaken (fun _ _ _ _ => trivial)⟩⟩ rfl rfl hl.1 rfl (lv_room (Nat.le_of_ble_eq_true rfl)) dX12_aTest_73 ⟨Nat.zero_le _, Nat.zero_le _⟩) (fun H locs hP hD hS => ?_)
        have hq := Option.some.inj hf
        subst hq
        exact W.vret hx hb hr (fun t ht hW => ⟨rfl, by rw [ht]; exact hP, hD, hS.F ht⟩) hS.2.2 dX12_aTest_76
      · rw [if_pos hc57] at hf
        refine lv_aload_n hx hb dX12_aTest_60 rfl (lv_at hl 0 rfl) ?_
        refine va_get (D := (dC, dI)) (ci := 12) (v := .int (M_h_44 8 0)) (C := RX12) (T := TX12) (N := 21) hx hb hts hin12 hown hK hP 0 rfl rfl 8 (by decide) kf86 (fun _ h9 => h9) rfl dX12_aTest_61 ?_
        refine lv_iconst (v := (1 : Int32)) hx hb dX12_aTest_64 (by decide) ?_
        refine lv_iconst (v := (5 : Int32)) hx hb dX12_aTest_65 (by decide) ?_
        obtain ⟨r66, h66, hf⟩ := bd1_some hf
        have hPc := hP.sub (ws' := ([] : va_W)) [] rfl
        refine ro_calli (va_runS (As := [.int (M_h_44 8 0), .int (1 : Int32), .int (5 : Int32)]) (rest := []) ⟨hx, hb, hml, hown, hts⟩ (c_X12_isIn l dC dI cyB cyI cyZ cyO (M_h_44 8 0) (1 : Int32) (5 : Int32) r66 h66) (va_cwS 3 hts gX12_aTest_X12_isIn rfl rfl rfl (by decide +kernel) ⟨Nat.le_of_ble_eq_true rfl, Nat.le_of_ble_eq_true rfl⟩) ⟨PR.blind, fun U hU hW => ⟨rfl, by rw [hU]; exact hPc, hCx.warm hW⟩⟩ rfl rfl hl.1 rfl (lv_room (Nat.le_of_ble_eq_true rfl)) dX12_aTest_66 ⟨Nat.zero_le _, Nat.zero_le _⟩) ?_
        refine lv_if_ne (tgt := 77) hx hb dX12_aTest_69 (by decide) (fun hc69 => ?_) (fun hc69 => ?_)
        · rw [if_neg hc69] at hf
          refine lv_aload_n hx hb dX12_aTest_77 rfl (lv_at hl 0 rfl) ?_
          obtain ⟨M_h_78, h78, hf⟩ := bd1_some hf
          refine wr_callv (wc := (wX12 cyB cyI cyZ cyO h h_all h_has h_read h_test h_rest h_gets h_waits h_way h_good h_left M_h_44)) (wr := ([] : va_W)) (w1 := (wX12 cyB cyI cyZ cyO h h_all h_has h_read h_test h_rest h_gets h_waits h_way h_good h_left M_h_78)) (ws' := (wX12 cyB cyI cyZ cyO h h_all h_has h_read h_test h_rest h_gets h_waits h_way h_good h_left M_h_78)) hP hD hS hA [0, 1, 2, 3, 4, 5, 6, 7, 8, 9, 10] [] [0, 1, 2, 3, 4, 5, 6, 7, 8, 9, 10] rfl rfl (by decide) (by decide) rfl (by decide) (va_runV (As := []) (rest := []) ⟨hx, hb, hml, hown, hts⟩ (c_X12_advance l dC dI cyB cyI cyZ cyO h h_all h_has h_read h_test h_rest h_gets h_waits h_way h_good h_left _ M_h_44 M_h_78 h78) (cwV 0 hts gX12_aTest_X12_advance rfl rfl rfl (by decide +kernel) ⟨Nat.le_of_ble_eq_true rfl, Nat.le_of_ble_eq_true rfl⟩) ⟨PW.blind, va_recv hK hP (ci := 12) (q0 := 0) rfl rfl, fun U hU hW => ⟨rfl, by rw [hU], by rw [hU]; exact hP, hCx.warm hW, hD.weaken (fun _ _ _ _ => trivial)⟩⟩ rfl rfl hl.1 rfl (lv_room (Nat.le_of_ble_eq_true rfl)) dX12_aTest_78 ⟨Nat.zero_le _, Nat.zero_le _⟩) (fun H locs hP hD hS => ?_)
          refine lv_aload_n hx hb dX12_aTest_81 rfl (lv_at hl 0 rfl) ?_
          refine va_get (D := (dC, dI)) (ci := 12) (v := .ref h_test) (C := RX12) (T := TX12) (N := 21) hx hb hts hin12 hown hK hP 0 rfl rfl 12 (by decide) kf20 (fun _ h9 => h9) rfl dX12_aTest_82 ?_
          refine lv_iconst (v := (1 : Int32)) hx hb dX12_aTest_85 (by decide) ?_
          refine va_iald hx hb hK hP 4 1 rfl rfl (show ¬ ((1 : Int32) < 0 ∨ 4 ≤ ((1 : Int32)).toNatClampNeg) by decide) dX12_aTest_86 ?_
          refine lv_iconst (v := (1 : Int32)) hx hb dX12_aTest_87 (by decide) ?_
          refine lv_icmp_ne (tgt := 92) hx hb dX12_aTest_88 (by decide) (fun hc88 => ?_) (fun hc88 => ?_)
          · rw [if_neg hc88] at hf
            refine lv_aload_n hx hb dX12_aTest_92 rfl (lv_at hl 0 rfl) ?_
            refine va_get (D := (dC, dI)) (ci := 12) (v := .ref h_test) (C := RX12) (T := TX12) (N := 21) hx hb hts hin12 hown hK hP 0 rfl rfl 12 (by decide) kf20 (fun _ h9 => h9) rfl dX12_aTest_93 ?_
            refine lv_iconst (v := (2 : Int32)) hx hb dX12_aTest_96 (by decide) ?_
            refine lv_aload_n hx hb dX12_aTest_97 rfl (lv_at hl 0 rfl) ?_
            refine va_get (D := (dC, dI)) (ci := 12) (v := .int (M_h_78 7 0)) (C := RX12) (T := TX12) (N := 21) hx hb hts hin12 hown hK hP 0 rfl rfl 7 (by decide) kf95 (fun _ h9 => h9) rfl dX12_aTest_98 ?_
            refine va_iast hx hb hK hP hD hS 4 1 rfl rfl (show ¬ ((2 : Int32) < 0 ∨ 4 ≤ ((2 : Int32)).toNatClampNeg) by decide) dX12_aTest_101 (fun H locs hP hD hS => ?_)
            obtain ⟨M_h_101, eM_h_101, hf⟩ := wr_some hf
            have hP : va_P (dC, dI) vwCl (wX12 cyB cyI cyZ cyO h h_all h_has h_read h_test h_rest h_gets h_waits h_way h_good h_left M_h_101) H := by rw [eM_h_101]; exact hP
            have hD : va_D A (wX12 cyB cyI cyZ cyO h h_all h_has h_read h_test h_rest h_gets h_waits h_way h_good h_left M_h_101) := by rw [eM_h_101]; exact hD
            refine lv_aload_n hx hb dX12_aTest_102 rfl (lv_at hl 0 rfl) ?_
            refine va_get (D := (dC, dI)) (ci := 12) (v := .int (M_h_101 5 0)) (C := RX12) (T := TX12) (N := 21) hx hb hts hin12 hown hK hP 0 rfl rfl 5 (by decide) kf75 (fun _ h9 => h9) rfl dX12_aTest_103 ?_
            refine lv_iconst (v := (2 : Int32)) hx hb dX12_aTest_106 (by decide) ?_
            refine lv_icmp_ne (tgt := 128) hx hb dX12_aTest_107 (by decide) (fun hc107 => ?_) (fun hc107 => ?_)
            · rw [if_neg hc107] at hf
              refine lv_aload_n hx hb dX12_aTest_128 rfl (lv_at hl 0 rfl) ?_
              obtain ⟨M_h_129, h129, hf⟩ := bd1_some hf
              refine wr_callv (wc := (wX12 cyB cyI cyZ cyO h h_all h_has h_read h_test h_rest h_gets h_waits h_way h_good h_left M_h_101)) (wr := ([] : va_W)) (w1 := (wX12 cyB cyI cyZ cyO h h_all h_has h_read h_test h_rest h_gets h_waits h_way h_good h_left M_h_129)) (ws' := (wX12 cyB cyI cyZ cyO h h_all h_has h_read h_test h_rest h_gets h_waits h_way h_good h_left M_h_129)) hP hD hS hA [0, 1, 2, 3, 4, 5, 6, 7, 8, 9, 10] [] [0, 1, 2, 3, 4, 5, 6, 7, 8, 9, 10] rfl rfl (by decide) (by decide) rfl (by decide) (va_runV (As := []) (rest := []) ⟨hx, hb, hml, hown, hts⟩ (c_X12_stops l dC dI cyB cyI cyZ cyO h h_all h_has h_read h_test h_rest h_gets h_waits h_way h_good h_left _ M_h_101 M_h_129 h129) (cwV 0 hts gX12_aTest_X12_stops rfl rfl rfl (by decide +kernel) ⟨Nat.le_of_ble_eq_true rfl, Nat.le_of_ble_eq_true rfl⟩) ⟨PW.blind, va_recv hK hP (ci := 12) (q0 := 0) rfl rfl, fun U hU hW => ⟨rfl, by rw [hU], by rw [hU]; exact hP, hCx.warm hW, hD.weaken (fun _ _ _ _ => trivial)⟩⟩ rfl rfl hl.1 rfl (lv_room (Nat.le_of_ble_eq_true rfl)) dX12_aTest_129 ⟨Nat.zero_le _, Nat.zero_le _⟩) (fun H locs hP hD hS => ?_)
              have hq := Option.some.inj hf
              subst hq
              exact W.vret hx hb hr (fun t ht hW => ⟨rfl, by rw [ht]; exact hP, hD, hS.F ht⟩) hS.2.2 dX12_aTest_132
            · rw [if_pos hc107] at hf
              refine lv_aload_n hx hb dX12_aTest_110 rfl (lv_at hl 0 rfl) ?_
              refine va_get (D := (dC, dI)) (ci := 12) (v := .int (M_h_101 7 0)) (C := RX12) (T := TX12) (N := 21) hx hb hts hin12 hown hK hP 0 rfl rfl 7 (by decide) kf95 (fun _ h9 => h9) rfl dX12_aTest_111 ?_
              refine lv_bipush (v := (58 : Int32)) hx hb dX12_aTest_114 (by decide) ?_
              refine lv_icmp_eq (tgt := 128) hx hb dX12_aTest_116 (by decide) (fun hc116 => ?_) (fun hc116 => ?_)
              · rw [if_pos hc116] at hf
                refine lv_aload_n hx hb dX12_aTest_128 rfl (lv_at hl 0 rfl) ?_
                obtain ⟨M_h_129, h129, hf⟩ := bd1_some hf
                refine wr_callv (wc := (wX12 cyB cyI cyZ cyO h h_all h_has h_read h_test h_rest h_gets h_waits h_way h_good h_left M_h_101)) (wr := ([] : va_W)) (w1 := (wX12 cyB cyI cyZ cyO h h_all h_has h_read h_test h_rest h_gets h_waits h_way h_good h_left M_h_129)) (ws' := (wX12 cyB cyI cyZ cyO h h_all h_has h_read h_test h_rest h_gets h_waits h_way h_good h_left M_h_129)) hP hD hS hA [0, 1, 2, 3, 4, 5, 6, 7, 8, 9, 10] [] [0, 1, 2, 3, 4, 5, 6, 7, 8, 9, 10] rfl rfl (by decide) (by decide) rfl (by decide) (va_runV (As := []) (rest := []) ⟨hx, hb, hml, hown, hts⟩ (c_X12_stops l dC dI cyB cyI cyZ cyO h h_all h_has h_read h_test h_rest h_gets h_waits h_way h_good h_left _ M_h_101 M_h_129 h129) (cwV 0 hts gX12_aTest_X12_stops rfl rfl rfl (by decide +kernel) ⟨Nat.le_of_ble_eq_true rfl, Nat.le_of_ble_eq_true rfl⟩) ⟨PW.blind, va_recv hK hP (ci := 12) (q0 := 0) rfl rfl, fun U hU hW => ⟨rfl, by rw [hU], by rw [hU]; exact hP, hCx.warm hW, hD.weaken (fun _ _ _ _ => trivial)⟩⟩ rfl rfl hl.1 rfl (lv_room (Nat.le_of_ble_eq_true rfl)) dX12_aTest_129 ⟨Nat.zero_le _, Nat.zero_le _⟩) (fun H locs hP hD hS => ?_)
                have hq := Option.some.inj hf
                subst hq
                exact W.vret hx hb hr (fun t ht hW => ⟨rfl, by rw [ht]; exact hP, hD, hS.F ht⟩) hS.2.2 dX12_aTest_132
              · rw [if_neg hc116] at hf
                refine lv_aload_n hx hb dX12_aTest_119 rfl (lv_at hl 0 rfl) ?_
                refine va_get (D := (dC, dI)) (ci := 12) (v := .int (M_h_101 7 0)) (C := RX12) (T := TX12) (N := 21) hx hb hts hin12 hown hK hP 0 rfl rfl 7 (by decide) kf95 (fun _ h9 => h9) rfl dX12_aTest_120 ?_
                refine lv_bipush (v := (59 : Int32)) hx hb dX12_aTest_123 (by decide) ?_
                refine lv_icmp_ne (tgt := 133) hx hb dX12_aTest_125 (by decide) (fun hc125 => ?_) (fun hc125 => ?_)
                · rw [if_neg hc125] at hf
                  refine lv_aload_n hx hb dX12_aTest_133 rfl (lv_at hl 0 rfl) ?_
                  obtain ⟨M_h_134, h134, hf⟩ := bd1_some hf
                  refine wr_callv (wc := (wX12 cyB cyI cyZ cyO h h_all h_has h_read h_test h_rest h_gets h_waits h_way h_good h_left M_h_101)) (wr := ([] : va_W)) (w1 := (wX12 cyB cyI cyZ cyO h h_all h_has h_read h_test h_rest h_gets h_waits h_way h_good h_left M_h_134)) (ws' := (wX12 cyB cyI cyZ cyO h h_all h_has h_read h_test h_rest h_gets h_waits h_way h_good h_left M_h_134)) hP hD hS hA [0, 1, 2, 3, 4, 5, 6, 7, 8, 9, 10] [] [0, 1, 2, 3, 4, 5, 6, 7, 8, 9, 10] rfl rfl (by decide) (by decide) rfl (by decide) (va_runV (As := []) (rest := []) ⟨hx, hb, hml, hown, hts⟩ (c_X12_advance l dC dI cyB cyI cyZ cyO h h_all h_has h_read h_test h_rest h_gets h_waits h_way h_good h_left _ M_h_101 M_h_134 h134) (cwV 0 hts gX12_aTest_X12_advance rfl rfl rfl (by decide +kernel) ⟨Nat.le_of_ble_eq_true rfl, Nat.le_of_ble_eq_true rfl⟩) ⟨PW.blind, va_recv hK hP (ci := 12) (q0 := 0) rfl rfl, fun U hU hW => ⟨rfl, by rw [hU], by rw [hU]; exact hP, hCx.warm hW, hD.weaken (fun _ _ _ _ => trivial)⟩⟩ rfl rfl hl.1 rfl (lv_room (Nat.le_of_ble_eq_true rfl)) dX12_aTest_134 ⟨Nat.zero_le _, Nat.zero_le _⟩) (fun H locs hP hD hS => ?_)
                  refine lv_aload_n hx hb dX12_aTest_137 rfl (lv_at hl 0 rfl) ?_
                  refine va_get (D := (dC, dI)) (ci := 12) (v := .ref h_test) (C := RX12) (T := TX12) (N := 21) hx hb hts hin12 hown hK hP 0 rfl rfl 12 (by decide) kf20 (fun _ h9 => h9) rfl dX12_aTest_138 ?_
                  refine lv_iconst (v := (3 : Int32)) hx hb dX12_aTest_141 (by decide) ?_
                  refine lv_aload_n hx hb dX12_aTest_142 rfl (lv_at hl 0 rfl) ?_
                  obtain ⟨r143, M_h_143, h143, hf⟩ := bd2_some hf
                  refine wr_calli (wc := (wX12 cyB cyI cyZ cyO h h_all h_has h_read h_test h_rest h_gets h_waits h_way h_good h_left M_h_134)) (wr := ([] : va_W)) (w1 := (wX12 cyB cyI cyZ cyO h h_all h_has h_read h_test h_rest h_gets h_waits h_way h_good h_left M_h_143)) (ws' := (wX12 cyB cyI cyZ cyO h h_all h_has h_read h_test h_rest h_gets h_waits h_way h_good h_left M_h_143)) hP hD hS hA [0, 1, 2, 3, 4, 5, 6, 7, 8, 9, 10] [] [0, 1, 2, 3, 4, 5, 6, 7, 8, 9, 10] rfl rfl (by decide) (by decide) rfl (by decide) (va_runV (As := []) (rest := [.int (3 : Int32), .ref h_test]) ⟨hx, hb, hml, hown, hts⟩ (c_X12_numbered l dC dI cyB cyI cyZ cyO h h_all h_has h_read h_test h_rest h_gets h_waits h_way h_good h_left _ M_h_134 r143 M_h_143 h143) (cwV 0 hts gX12_aTest_X12_numbered rfl rfl rfl (by decide +kernel) ⟨Nat.le_of_ble_eq_true rfl, Nat.le_of_ble_eq_true rfl⟩) ⟨PW.blind, va_recv hK hP (ci := 12) (q0 := 0) rfl rfl, fun U hU hW => ⟨rfl, by rw [hU], by rw [hU]; exact hP, hCx.warm hW, hD.weaken (fun _ _ _ _ => trivial)⟩⟩ rfl rfl hl.1 rfl (lv_room (Nat.le_of_ble_eq_true rfl)) dX12_aTest_143 ⟨Nat.zero_le _, Nat.zero_le _⟩) (fun H locs hP hD hS => ?_)
                  refine va_iast hx hb hK hP hD hS 4 1 rfl rfl (show ¬ ((3 : Int32) < 0 ∨ 4 ≤ ((3 : Int32)).toNatClampNeg) by decide) dX12_aTest_146 (fun H locs hP hD hS => ?_)
                  obtain ⟨M_h_146, eM_h_146, hf⟩ := wr_some hf
                  have hP : va_P (dC, dI) vwCl (wX12 cyB cyI cyZ cyO h h_all h_has h_read h_test h_rest h_gets h_waits h_way h_good h_left M_h_146) H := by rw [eM_h_146]; exact hP
                  have hD : va_D A (wX12 cyB cyI cyZ cyO h h_all h_has h_read h_test h_rest h_gets h_waits h_way h_good h_left M_h_146) := by rw [eM_h_146]; exact hD
                  have hq := Option.some.inj hf
                  subst hq
                  exact W.vret hx hb hr (fun t ht hW => ⟨rfl, by rw [ht]; exact hP, hD, hS.F ht⟩) hS.2.2 dX12_aTest_147
                · rw [if_pos hc125] at hf
                  refine lv_aload_n hx hb dX12_aTest_128 rfl (lv_at hl 0 rfl) ?_
                  obtain ⟨M_h_129, h129, hf⟩ := bd1_some hf
                  refine wr_callv (wc := (wX12 cyB cyI cyZ cyO h h_all h_has h_read h_test h_rest h_gets h_waits h_way h_good h_left M_h_101)) (wr := ([] : va_W)) (w1 := (wX12 cyB cyI cyZ cyO h h_all h_has h_read h_test h_rest h_gets h_waits h_way h_good h_left M_h_129)) (ws' := (wX12 cyB cyI cyZ cyO h h_all h_has h_read h_test h_rest h_gets h_waits h_way h_good h_left M_h_129)) hP hD hS hA [0, 1, 2, 3, 4, 5, 6, 7, 8, 9, 10] [] [0, 1, 2, 3, 4, 5, 6, 7, 8, 9, 10] rfl rfl (by decide) (by decide) rfl (by decide) (va_runV (As := []) (rest := []) ⟨hx, hb, hml, hown, hts⟩ (c_X12_stops l dC dI cyB cyI cyZ cyO h h_all h_has h_read h_test h_rest h_gets h_waits h_way h_good h_left _ M_h_101 M_h_129 h129) (cwV 0 hts gX12_aTest_X12_stops rfl rfl rfl (by decide +kernel) ⟨Nat.le_of_ble_eq_true rfl, Nat.le_of_ble_eq_true rfl⟩) ⟨PW.blind, va_recv hK hP (ci := 12) (q0 := 0) rfl rfl, fun U hU hW => ⟨rfl, by rw [hU], by rw [hU]; exact hP, hCx.warm hW, hD.weaken (fun _ _ _ _ => trivial)⟩⟩ rfl rfl hl.1 rfl (lv_room (Nat.le_of_ble_eq_true rfl)) dX12_aTest_129 ⟨Nat.zero_le _, Nat.zero_le _⟩) (fun H locs hP hD hS => ?_)
                  have hq := Option.some.inj hf
                  subst hq
                  exact W.vret hx hb hr (fun t ht hW => ⟨rfl, by rw [ht]; exact hP, hD, hS.F ht⟩) hS.2.2 dX12_aTest_132
          · rw [if_pos hc88] at hf
            have hq := Option.some.inj hf
            subst hq
            exact W.vret hx hb hr (fun t ht hW => ⟨rfl, by rw [ht]; exact hP, hD, hS.F ht⟩) hS.2.2 dX12_aTest_91
        · rw [if_pos hc69] at hf
          refine lv_aload_n hx hb dX12_aTest_72 rfl (lv_at hl 0 rfl) ?_
          obtain ⟨M_h_73, h73, hf⟩ := bd1_some hf
          refine wr_callv (wc := (wX12 cyB cyI cyZ cyO h h_all h_has h_read h_test h_rest h_gets h_waits h_way h_good h_left M_h_44)) (wr := ([] : va_W)) (w1 := (wX12 cyB cyI cyZ cyO h h_all h_has h_read h_test h_rest h_gets h_waits h_way h_good h_left M_h_73)) (ws' := (wX12 cyB cyI cyZ cyO h h_all h_has h_read h_test h_rest h_gets h_waits h_way h_good h_left M_h_73)) hP hD hS hA [0, 1, 2, 3, 4, 5, 6, 7, 8, 9, 10] [] [0, 1, 2, 3, 4, 5, 6, 7, 8, 9, 10] rfl rfl (by decide) (by decide) rfl (by decide) (va_runV (As := []) (rest := []) ⟨hx, hb, hml, hown, hts⟩ (c_X12_stops l dC dI cyB cyI cyZ cyO h h_all h_has h_read h_test h_rest h_gets h_waits h_way h_good h_left _ M_h_44 M_h_73 h73) (cwV 0 hts gX12_aTest_X12_stops rfl rfl rfl (by decide +kernel) ⟨Nat.le_of_ble_eq_true rfl, Nat.le_of_ble_eq_true rfl⟩) ⟨PW.blind, va_recv hK hP (ci := 12) (q0 := 0) rfl rfl, fun U hU hW => ⟨rfl, by rw [hU], by rw [hU]; exact hP, hCx.warm hW, hD.weaken (fun _ _ _ _ => trivial)⟩⟩ rfl rfl hl.1 rfl (lv_room (Nat.le_of_ble_eq_true rfl)) dX12_aTest_73 ⟨Nat.zero_le _, Nat.zero_le _⟩) (fun H locs hP hD hS => ?_)
          have hq := Option.some.inj hf
          subst hq
          exact W.vret hx hb hr (fun t ht hW => ⟨rfl, by rw [ht]; exact hP, hD, hS.F ht⟩) hS.2.2 dX12_aTest_76
  rw [f_X12_aTest] at hf
  refine lv_aload_n hx hb dX12_aTest_0 rfl (lv_at hl 0 rfl) ?_
  refine va_get (D := (dC, dI)) (ci := 12) (v := .ref h_test) (C := RX12) (T := TX12) (N := 21) hx hb hts hin12 hown hK hP 0 rfl rfl 12 (by decide) kf20 (fun _ h9 => h9) rfl dX12_aTest_1 ?_
  refine lv_iconst (v := (0 : Int32)) hx hb dX12_aTest_4 (by decide) ?_
  refine lv_aload_n hx hb dX12_aTest_5 rfl (lv_at hl 0 rfl) ?_
  refine lv_bipush (v := (32 : Int32)) hx hb dX12_aTest_6 (by decide) ?_
  obtain ⟨r8, M_h_8, h8, hf⟩ := bd2_some hf
  refine wr_calli (wc := (wX12 cyB cyI cyZ cyO h h_all h_has h_read h_test h_rest h_gets h_waits h_way h_good h_left M_h)) (wr := ([] : va_W)) (w1 := (wX12 cyB cyI cyZ cyO h h_all h_has h_read h_test h_rest h_gets h_waits h_way h_good h_left M_h_8)) (ws' := (wX12 cyB cyI cyZ cyO h h_all h_has h_read h_test h_rest h_gets h_waits h_way h_good h_left M_h_8)) hP hD hS hA [0, 1, 2, 3, 4, 5, 6, 7, 8, 9, 10] [] [0, 1, 2, 3, 4, 5, 6, 7, 8, 9, 10] rfl rfl (by decide) (by decide) rfl (by decide) (va_runV (As := [.int (32 : Int32)]) (rest := [.int (0 : Int32), .ref h_test]) ⟨hx, hb, hml, hown, hts⟩ (c_X12_takes l dC dI cyB cyI cyZ cyO h h_all h_has h_read h_test h_rest h_gets h_waits h_way h_good h_left _ M_h (32 : Int32) r8 M_h_8 h8) (cwV 1 hts gX12_aTest_X12_takes rfl rfl rfl (by decide +kernel) ⟨Nat.le_of_ble_eq_true rfl, Nat.le_of_ble_eq_true rfl⟩) ⟨PW.blind, va_recv hK hP (ci := 12) (q0 := 0) rfl rfl, fun U hU hW => ⟨rfl, by rw [hU], by rw [hU]; exact hP, hCx.warm hW, hD.weaken (fun _ _ _ _ => trivial)⟩⟩ rfl rfl hl.1 rfl (lv_room (Nat.le_of_ble_eq_true rfl)) dX12_aTest_8 ⟨Nat.zero_le _, Nat.zero_le _⟩) (fun H locs hP hD hS => ?_)
  refine lv_if_eq (tgt := 18) hx hb dX12_aTest_11 (by decide) (fun hc11 => ?_) (fun hc11 => ?_)
  · rw [if_pos hc11] at hf
    refine lv_iconst (v := (0 : Int32)) hx hb dX12_aTest_18 (by decide) ?_
    exact L19 M_h_8 (0 : Int32) (0 : Int32) _ _ ls hf hP hD hS (lv_sub hl [0] rfl)
  · rw [if_neg hc11] at hf
    refine lv_iconst (v := (1 : Int32)) hx hb dX12_aTest_14 (by decide) ?_
    refine lv_goto (tgt := 19) hx hb dX12_aTest_15 (by decide) ?_
    exact L19 M_h_8 (1 : Int32) (0 : Int32) _ _ ls hf hP hD hS (lv_sub hl [0] rfl)
set_option maxHeartbeats 4000000 in
set_option maxRecDepth 100000 in
theorem c_X12_puts (l : Launch) (dC : Nat → ClassId) (dI : Nat → Nat → Nat) (cyB cyI cyZ cyO : ClassId) (h h_all h_has h_read h_test h_rest h_gets h_waits h_way h_good h_left : Nat) (sz : Nat) (M_h : Mem) (p1 : Int32) (p2 : Int32) (R_h : Mem) (hf : f_X12_puts M_h p1 p2 = some R_h) : Met l yX12_puts wsX12_puts ({ frames := 0, cells := 0, slots := 0, locals := 0 } : Room) (PW dC dI cyB cyI cyZ cyO ([.ref h, .int p1, .int p2] : List Value) (wX12 cyB cyI cyZ cyO h h_all h_has h_read h_test h_rest h_gets h_waits h_way h_good h_left M_h) sz) (QW dC dI none (wX12 cyB cyI cyZ cyO h h_all h_has h_read h_test h_rest h_gets h_waits h_way h_good h_left R_h) (va_A (wX12 cyB cyI cyZ cyO h h_all h_has h_read h_test h_rest h_gets h_waits h_way h_good h_left M_h) sz)) 0 0 (va_A (wX12 cyB cyI cyZ cyO h h_all h_has h_read h_test h_rest h_gets h_waits h_way h_good h_left M_h) sz) := by
  refine Met.ofW (cc := cX12_puts) (maxL := 3) (ret := none) (by decide) rfl ?_
  intro p e s m args below meth c s₁ B hml hv
  obtain ⟨rfl, hsz, hP, hCx, hD0⟩ := hv
  have hK := hCx.1
  have hN := hCx.2
  have hx := B.exec
  have hb := B.bytes
  have hr := B.returns
  have hts := atoms_spec (ws := wsX12_puts) B.pre
  have hown : s.vm.findClass RX12 = some m.cls := findClass_of_methodNamed B.named
  have hlocks := B.notSynchronized
  have hin12 : ∀ w ∈ u_ws RX12 TX12 21, w ∈ wsX12_puts := fun w h => List.mem_cons_of_mem _ (List.mem_append_right _ h)
  have kf17 := hts (.fieldLink RX12 17 "HoldSlipsModel" "read" "[I") (by decide +kernel)
  have kf122 := hts (.fieldLink RX12 122 "HoldSlipsModel" "lines" "I") (by decide +kernel)
  subst hsz
  have hD := hD0.self (sz := s.heap.size)
  generalize hAe : va_A (wX12 cyB cyI cyZ cyO h h_all h_has h_read h_test h_rest h_gets h_waits h_way h_good h_left M_h) s.heap.size = A at hD ⊢
  have hA : ∀ q : Nat, s.heap.size ≤ q → A q := fun q h => by rw [← hAe]; exact Or.inr h
  have hS : va_S A s.heap s.heap [] := va_S.rf
  have hl := lv_entry ([.ref h, .int p1, .int p2] : List Value) (n := 3) (Nat.le_of_ble_eq_true rfl)
  rw [lg_entry_eq]
  generalize (lg_sl ([.ref h, .int p1, .int p2] : List Value) ++ List.replicate (3 - (lg_sl ([.ref h, .int p1, .int p2] : List Value)).length) Slot.unset).toArray = ls at hl ⊢
  have hl : lv_has ls 3 [(0, .ref h), (1, .int p1), (2, .int p2)] := hl
  rw [f_X12_puts] at hf
  refine lv_aload_n hx hb dX12_puts_0 rfl (lv_at hl 0 rfl) ?_
  refine va_get (D := (dC, dI)) (ci := 12) (v := .int (M_h 10 0)) (C := RX12) (T := TX12) (N := 21) hx hb hts hin12 hown hK hP 0 rfl rfl 10 (by decide) kf122 (fun _ h9 => h9) rfl dX12_puts_1 ?_
  refine lv_bipush (v := (16 : Int32)) hx hb dX12_puts_4 (by decide) ?_
  refine lv_icmp_ge (tgt := 24) hx hb dX12_puts_6 (by decide) (fun hc6 => ?_) (fun hc6 => ?_)
  · rw [if_pos hc6] at hf
    have hq := Option.some.inj hf
    subst hq
    exact W.vret hx hb hr (fun t ht hW => ⟨rfl, by rw [ht]; exact hP, hD, hS.F ht⟩) hS.2.2 dX12_puts_24
  · rw [if_neg hc6] at hf
    refine lv_aload_n hx hb dX12_puts_9 rfl (lv_at hl 0 rfl) ?_
    refine va_get (D := (dC, dI)) (ci := 12) (v := .ref h_read) (C := RX12) (T := TX12) (N := 21) hx hb hts hin12 hown hK hP 0 rfl rfl 11 (by decide) kf17 (fun _ h9 => h9) rfl dX12_puts_10 ?_
    refine lv_bipush (v := (19 : Int32)) hx hb dX12_puts_13 (by decide) ?_
    refine lv_aload_n hx hb dX12_puts_15 rfl (lv_at hl 0 rfl) ?_
    refine va_get (D := (dC, dI)) (ci := 12) (v := .int (M_h 10 0)) (C := RX12) (T := TX12) (N := 21) hx hb hts hin12 hown hK hP 0 rfl rfl 10 (by decide) kf122 (fun _ h9 => h9) rfl dX12_puts_16 ?_
    refine lv_imul hx hb dX12_puts_19 ?_
    refine lv_iload_n hx hb dX12_puts_20 rfl (lv_at hl 1 rfl) ?_
    refine lv_iadd hx hb dX12_puts_21 ?_
    refine lv_iload_n hx hb dX12_puts_22 rfl (lv_at hl 2 rfl) ?_
    have hi23 := if_no hf
    rw [if_neg hi23] at hf
    refine va_iast hx hb hK hP hD hS 3 1 rfl rfl hi23 dX12_puts_23 (fun H locs hP hD hS => ?_)
    obtain ⟨M_h_23, eM_h_23, hf⟩ := wr_some hf
    have hP : va_P (dC, dI) vwCl (wX12 cyB cyI cyZ cyO h h_all h_has h_read h_test h_rest h_gets h_waits h_way h_good h_left M_h_23) H := by rw [eM_h_23]; exact hP
    have hD : va_D A (wX12 cyB cyI cyZ cyO h h_all h_has h_read h_test h_rest h_gets h_waits h_way h_good h_left M_h_23) := by rw [eM_h_23]; exact hD
    have hq := Option.some.inj hf
    subst hq
    exact W.vret hx hb hr (fun t ht hW => ⟨rfl, by rw [ht]; exact hP, hD, hS.F ht⟩) hS.2.2 dX12_puts_24
set_option maxHeartbeats 4000000 in
set_option maxRecDepth 100000 in
theorem c_X12_aLine (l : Launch) (dC : Nat → ClassId) (dI : Nat → Nat → Nat) (cyB cyI cyZ cyO : ClassId) (h h_all h_has h_read h_test h_rest h_gets h_waits h_way h_good h_left : Nat) (sz : Nat) (M_h : Mem) (R_h : Mem) (hf : f_X12_aLine M_h = some R_h) : Met l yX12_aLine wsX12_aLine ({ frames := 6, cells := 0, slots := 0, locals := 130 } : Room) (PW dC dI cyB cyI cyZ cyO ([.ref h] : List Value) (wX12 cyB cyI cyZ cyO h h_all h_has h_read h_test h_rest h_gets h_waits h_way h_good h_left M_h) sz) (QW dC dI none (wX12 cyB cyI cyZ cyO h h_all h_has h_read h_test h_rest h_gets h_waits h_way h_good h_left R_h) (va_A (wX12 cyB cyI cyZ cyO h h_all h_has h_read h_test h_rest h_gets h_waits h_way h_good h_left M_h) sz)) 0 0 (va_A (wX12 cyB cyI cyZ cyO h h_all h_has h_read h_test h_rest h_gets h_waits h_way h_good h_left M_h) sz) := by
  refine Met.ofW (cc := cX12_aLine) (maxL := 4) (ret := none) (by decide) rfl ?_
  intro p e s m args below meth c s₁ B hml hv
  obtain ⟨rfl, hsz, hP, hCx, hD0⟩ := hv
  have hK := hCx.1
  have hN := hCx.2
  have hx := B.exec
  have hb := B.bytes
  have hr := B.returns
  have hts := atoms_spec (ws := wsX12_aLine) B.pre
  have hown : s.vm.findClass RX12 = some m.cls := findClass_of_methodNamed B.named
  have hlocks := B.notSynchronized
  have hin12 : ∀ w ∈ u_ws RX12 TX12 21, w ∈ wsX12_aLine := fun w h => List.mem_cons_of_mem _ (List.mem_append_right _ h)
  have kf20 := hts (.fieldLink RX12 20 "HoldSlipsModel" "test" "[I") (by decide +kernel)
  have kf75 := hts (.fieldLink RX12 75 "HoldSlipsModel" "token" "I") (by decide +kernel)
  have kf86 := hts (.fieldLink RX12 86 "HoldSlipsModel" "word" "I") (by decide +kernel)
  have kf101 := hts (.fieldLink RX12 101 "HoldSlipsModel" "wrong" "Z") (by decide +kernel)
  have kf122 := hts (.fieldLink RX12 122 "HoldSlipsModel" "lines" "I") (by decide +kernel)
  subst hsz
  have hD := hD0.self (sz := s.heap.size)
  generalize hAe : va_A (wX12 cyB cyI cyZ cyO h h_all h_has h_read h_test h_rest h_gets h_waits h_way h_good h_left M_h) s.heap.size = A at hD ⊢
  have hA : ∀ q : Nat, s.heap.size ≤ q → A q := fun q h => by rw [← hAe]; exact Or.inr h
  have hS : va_S A s.heap s.heap [] := va_S.rf
  have hl := lv_entry ([.ref h] : List Value) (n := 4) (Nat.le_of_ble_eq_true rfl)
  rw [lg_entry_eq]
  generalize (lg_sl ([.ref h] : List Value) ++ List.replicate (4 - (lg_sl ([.ref h] : List Value)).length) Slot.unset).toArray = ls at hl ⊢
  have hl : lv_has ls 4 [(0, .ref h)] := hl
  have L45 : ∀ (K26 : Mem → Int32 → Int32 → Option (Mem)) (hK26 : ∀ (M_h : Mem) (x1 : Int32) (x2 : Int32) (H : Heap) (locs : List Loc) (ls : Array Slot), K26 M_h x1 x2 = some R_h → va_P (dC, dI) vwCl (wX12 cyB cyI cyZ cyO h h_all h_has h_read h_test h_rest h_gets h_waits h_way h_good h_left M_h) H → va_D A (wX12 cyB cyI cyZ cyO h h_all h_has h_read h_test h_rest h_gets h_waits h_way h_good h_left M_h) → va_S A s.heap H locs → lv_has ls 4 [(0, .ref h), (1, .int x1), (2, .int x2)] → W p l e (headSpec wsX12_aLine ({ frames := 6, cells := 0, slots := 0, locals := 130 } : Room)).room s m ([.ref h] : List Value).toArray below meth c H locs 0 0 (MQ below (QW dC dI none (wX12 cyB cyI cyZ cyO h h_all h_has h_read h_test h_rest h_gets h_waits h_way h_good h_left R_h) A) ([.ref h] : List Value).toArray s 0 0 A) (F0 m 26 ls [])) (n : Nat), ∀ (M_h : Mem) (x1 : Int32) (x3 : Int32) (H : Heap) (locs : List Loc) (ls : Array Slot), f_X12_aLine_L45 K26 n M_h x1 x3 = some R_h → va_P (dC, dI) vwCl (wX12 cyB cyI cyZ cyO h h_all h_has h_read h_test h_rest h_gets h_waits h_way h_good h_left M_h) H → va_D A (wX12 cyB cyI cyZ cyO h h_all h_has h_read h_test h_rest h_gets h_waits h_way h_good h_left M_h) → va_S A s.heap H locs → lv_has ls 4 [(0, .ref h), (1, .int x1), (3, .int x3)] → W p l e (headSpec wsX12_aLine ({ frames := 6, cells := 0, slots := 0, locals := 130 } : Room)).room s m ([.ref h] : List Value).toArray below meth c H locs 0 0 (MQ below (QW dC dI none (wX12 cyB cyI cyZ cyO h h_all h_has h_read h_test h_rest h_gets h_waits h_way h_good h_left R_h) A) ([.ref h] : List Value).toArray s 0 0 A) (F0 m 45 ls []) := by
    intro K26 hK26 n
    induction n with
    | zero => intro M_h x1 x3 H locs ls hf hP hD hS hl; rw [f_X12_aLine_L45] at hf; cases hf
    | succ n ih =>
      intro M_h x1 x3 H locs ls hf hP hD hS hl
      rw [f_X12_aLine_L45] at hf
      refine lv_iload_n hx hb dX12_aLine_45 rfl (lv_at hl 2 rfl) ?_
      refine lv_iconst (v := (4 : Int32)) hx hb dX12_aLine_46 (by decide) ?_
      refine lv_icmp_ge (tgt := 78) hx hb dX12_aLine_47 (by decide) (fun hc47 => ?_) (fun hc47 => ?_)
      · rw [if_pos hc47] at hf
        refine lv_iinc (v := (x1 + (1 : Int32))) (lv' := [(1, .int (x1 + (1 : Int32))), (0, .ref h), (3, .int x3)]) hx hb dX12_aLine_78 hl (k := 1) rfl rfl (by decide) rfl (fun ls hl => ?_)
        refine lv_aload_n hx hb dX12_aLine_81 rfl (lv_at hl 1 rfl) ?_
        refine lv_bipush (v := (31 : Int32)) hx hb dX12_aLine_82 (by decide) ?_
        obtain ⟨r84, M_h_84, h84, hf⟩ := bd2_some hf
        refine wr_calli (wc := (wX12 cyB cyI cyZ cyO h h_all h_has h_read h_test h_rest h_gets h_waits h_way h_good h_left M_h)) (wr := ([] : va_W)) (w1 := (wX12 cyB cyI cyZ cyO h h_all h_has h_read h_test h_rest h_gets h_waits h_way h_good h_left M_h_84)) (ws' := (wX12 cyB cyI cyZ cyO h h_all h_has h_read h_test h_rest h_gets h_waits h_way h_good h_left M_h_84)) hP hD hS hA [0, 1, 2, 3, 4, 5, 6, 7, 8, 9, 10] [] [0, 1, 2, 3, 4, 5, 6, 7, 8, 9, 10] rfl rfl (by decide) (by decide) rfl (by decide) (va_runV (As := [.int (31 : Int32)]) (rest := []) ⟨hx, hb, hml, hown, hts⟩ (c_X12_takes l dC dI cyB cyI cyZ cyO h h_all h_has h_read h_test h_rest h_gets h_waits h_way h_good h_left _ M_h (31 : Int32) r84 M_h_84 h84) (cwV 1 hts gX12_aLine_X12_takes rfl rfl rfl (by decide +kernel) ⟨Nat.le_of_ble_eq_true rfl, Nat.le_of_ble_eq_true rfl⟩) ⟨PW.blind, va_recv hK hP (ci := 12) (q0 := 0) rfl rfl, fun U hU hW => ⟨rfl, by rw [hU], by rw [hU]; exact hP, hCx.warm hW, hD.weaken (fun _ _ _ _ => trivial)⟩⟩ rfl rfl hl.1 rfl (lv_room (Nat.le_of_ble_eq_true rfl)) dX12_aLine_84 ⟨Nat.zero_le _, Nat.zero_le _⟩) (fun H locs hP hD hS => ?_)
        refine lv_istore_n (lv' := [(2, .int r84), (1, .int (x1 + (1 : Int32))), (0, .ref h), (3, .int x3)]) hx hb dX12_aLine_87 rfl hl (by decide) rfl (fun ls hl => ?_)
        refine lv_goto (tgt := 26) hx hb dX12_aLine_88 (by decide) ?_
        exact hK26 M_h_84 (x1 + (1 : Int32)) r84 _ _ ls hf hP hD hS (lv_sub hl [2, 1, 0] rfl)
      · rw [if_neg hc47] at hf
        refine lv_iload_n hx hb dX12_aLine_50 rfl (lv_at hl 1 rfl) ?_
        refine lv_iconst (v := (4 : Int32)) hx hb dX12_aLine_51 (by decide) ?_
        refine lv_icmp_ge (tgt := 78) hx hb dX12_aLine_52 (by decide) (fun hc52 => ?_) (fun hc52 => ?_)
        · rw [if_pos hc52] at hf
          refine lv_iinc (v := (x1 + (1 : Int32))) (lv' := [(1, .int (x1 + (1 : Int32))), (0, .ref h), (3, .int x3)]) hx hb dX12_aLine_78 hl (k := 1) rfl rfl (by decide) rfl (fun ls hl => ?_)
          refine lv_aload_n hx hb dX12_aLine_81 rfl (lv_at hl 1 rfl) ?_
          refine lv_bipush (v := (31 : Int32)) hx hb dX12_aLine_82 (by decide) ?_
          obtain ⟨r84, M_h_84, h84, hf⟩ := bd2_some hf
          refine wr_calli (wc := (wX12 cyB cyI cyZ cyO h h_all h_has h_read h_test h_rest h_gets h_waits h_way h_good h_left M_h)) (wr := ([] : va_W)) (w1 := (wX12 cyB cyI cyZ cyO h h_all h_has h_read h_test h_rest h_gets h_waits h_way h_good h_left M_h_84)) (ws' := (wX12 cyB cyI cyZ cyO h h_all h_has h_read h_test h_rest h_gets h_waits h_way h_good h_left M_h_84)) hP hD hS hA [0, 1, 2, 3, 4, 5, 6, 7, 8, 9, 10] [] [0, 1, 2, 3, 4, 5, 6, 7, 8, 9, 10] rfl rfl (by decide) (by decide) rfl (by decide) (va_runV (As := [.int (31 : Int32)]) (rest := []) ⟨hx, hb, hml, hown, hts⟩ (c_X12_takes l dC dI cyB cyI cyZ cyO h h_all h_has h_read h_test h_rest h_gets h_waits h_way h_good h_left _ M_h (31 : Int32) r84 M_h_84 h84) (cwV 1 hts gX12_aLine_X12_takes rfl rfl rfl (by decide +kernel) ⟨Nat.le_of_ble_eq_true rfl, Nat.le_of_ble_eq_true rfl⟩) ⟨PW.blind, va_recv hK hP (ci := 12) (q0 := 0) rfl rfl, fun U hU hW => ⟨rfl, by rw [hU], by rw [hU]; exact hP, hCx.warm hW, hD.weaken (fun _ _ _ _ => trivial)⟩⟩ rfl rfl hl.1 rfl (lv_room (Nat.le_of_ble_eq_true rfl)) dX12_aLine_84 ⟨Nat.zero_le _, Nat.zero_le _⟩) (fun H locs hP hD hS => ?_)
          refine lv_istore_n (lv' := [(2, .int r84), (1, .int (x1 + (1 : Int32))), (0, .ref h), (3, .int x3)]) hx hb dX12_aLine_87 rfl hl (by decide) rfl (fun ls hl => ?_)
          refine lv_goto (tgt := 26) hx hb dX12_aLine_88 (by decide) ?_
          exact hK26 M_h_84 (x1 + (1 : Int32)) r84 _ _ ls hf hP hD hS (lv_sub hl [2, 1, 0] rfl)
        · rw [if_neg hc52] at hf
          refine lv_aload_n hx hb dX12_aLine_55 rfl (lv_at hl 0 rfl) ?_
          refine lv_iconst (v := (1 : Int32)) hx hb dX12_aLine_56 (by decide) ?_
          refine lv_iconst (v := (4 : Int32)) hx hb dX12_aLine_57 (by decide) ?_
          refine lv_iload_n hx hb dX12_aLine_58 rfl (lv_at hl 1 rfl) ?_
          refine lv_imul hx hb dX12_aLine_59 ?_
          refine lv_iadd hx hb dX12_aLine_60 ?_
          refine lv_iload_n hx hb dX12_aLine_61 rfl (lv_at hl 2 rfl) ?_
          refine lv_iadd hx hb dX12_aLine_62 ?_
          refine lv_aload_n hx hb dX12_aLine_63 rfl (lv_at hl 0 rfl) ?_
          refine va_get (D := (dC, dI)) (ci := 12) (v := .ref h_test) (C := RX12) (T := TX12) (N := 21) hx hb hts hin12 hown hK hP 0 rfl rfl 12 (by decide) kf20 (fun _ h9 => h9) rfl dX12_aLine_64 ?_
          refine lv_iload_n hx hb dX12_aLine_67 rfl (lv_at hl 2 rfl) ?_
          have hi68 := if_no hf
          rw [if_neg hi68] at hf
          refine va_iald hx hb hK hP 4 1 rfl rfl hi68 dX12_aLine_68 ?_
          obtain ⟨M_h_69, h69, hf⟩ := bd1_some hf
          refine wr_callv (wc := (wX12 cyB cyI cyZ cyO h h_all h_has h_read h_test h_rest h_gets h_waits h_way h_good h_left M_h)) (wr := ([] : va_W)) (w1 := (wX12 cyB cyI cyZ cyO h h_all h_has h_read h_test h_rest h_gets h_waits h_way h_good h_left M_h_69)) (ws' := (wX12 cyB cyI cyZ cyO h h_all h_has h_read h_test h_rest h_gets h_waits h_way h_good h_left M_h_69)) hP hD hS hA [0, 1, 2, 3, 4, 5, 6, 7, 8, 9, 10] [] [0, 1, 2, 3, 4, 5, 6, 7, 8, 9, 10] rfl rfl (by decide) (by decide) rfl (by decide) (va_runV (As := [.int (((1 : Int32) + ((4 : Int32) * x1)) + x3), .int (M_h 12 (x3).toNatClampNeg)]) (rest := []) ⟨hx, hb, hml, hown, hts⟩ (c_X12_puts l dC dI cyB cyI cyZ cyO h h_all h_has h_read h_test h_rest h_gets h_waits h_way h_good h_left _ M_h (((1 : Int32) + ((4 : Int32) * x1)) + x3) (M_h 12 (x3).toNatClampNeg) M_h_69 h69) (cwV 2 hts gX12_aLine_X12_puts rfl rfl rfl (by decide +kernel) ⟨Nat.le_of_ble_eq_true rfl, Nat.le_of_ble_eq_true rfl⟩) ⟨PW.blind, va_recv hK hP (ci := 12) (q0 := 0) rfl rfl, fun U hU hW => ⟨rfl, by rw [hU], by rw [hU]; exact hP, hCx.warm hW, hD.weaken (fun _ _ _ _ => trivial)⟩⟩ rfl rfl hl.1 rfl (lv_room (Nat.le_of_ble_eq_true rfl)) dX12_aLine_69 ⟨Nat.zero_le _, Nat.zero_le _⟩) (fun H locs hP hD hS => ?_)
          refine lv_iinc (v := (x3 + (1 : Int32))) (lv' := [(3, .int (x3 + (1 : Int32))), (0, .ref h), (1, .int x1)]) hx hb dX12_aLine_72 hl (k := 2) rfl rfl (by decide) rfl (fun ls hl => ?_)
          refine lv_goto (tgt := 45) hx hb dX12_aLine_75 (by decide) ?_
          exact ih M_h_69 x1 (x3 + (1 : Int32)) _ _ ls hf hP hD hS (lv_sub hl [1, 2, 0] rfl)
  have L154 : ∀ (M_h : Mem) (x1 : Int32) (x2 : Int32) (s0 : Int32) (H : Heap) (locs : List Loc) (ls : Array Slot), f_X12_aLine_L154 M_h x1 x2 s0 = some R_h → va_P (dC, dI) vwCl (wX12 cyB cyI cyZ cyO h h_all h_has h_read h_test h_rest h_gets h_waits h_way h_good h_left M_h) H → va_D A (wX12 cyB cyI cyZ cyO h h_all h_has h_read h_test h_rest h_gets h_waits h_way h_good h_left M_h) → va_S A s.heap H locs → lv_has ls 4 [(0, .ref h), (1, .int x1), (2, .int x2)] → W p l e (headSpec wsX12_aLine ({ frames := 6, cells := 0, slots := 0, locals := 130 } : Room)).room s m ([.ref h] : List Value).toArray below meth c H locs 0 0 (MQ below (QW dC dI none (wX12 cyB cyI cyZ cyO h h_all h_has h_read h_test h_rest h_gets h_waits h_way h_good h_left R_h) A) ([.ref h] : List Value).toArray s 0 0 A) (F0 m 154 ls [.int s0]) := by
    intro  M_h x1 x2 s0 H locs ls hf hP hD hS hl
    rw [f_X12_aLine_L154] at hf
    refine lv_istore_n (lv' := [(3, .int s0), (0, .ref h), (1, .int x1), (2, .int x2)]) hx hb dX12_aLine_154 rfl hl (by decide) rfl (fun ls hl => ?_)
    refine lv_aload_n hx hb dX12_aLine_155 rfl (lv_at hl 1 rfl) ?_
    refine lv_bipush (v := (59 : Int32)) hx hb dX12_aLine_156 (by decide) ?_
    obtain ⟨M_h_158, h158, hf⟩ := bd1_some hf
    refine wr_callv (wc := (wX12 cyB cyI cyZ cyO h h_all h_has h_read h_test h_rest h_gets h_waits h_way h_good h_left M_h)) (wr := ([] : va_W)) (w1 := (wX12 cyB cyI cyZ cyO h h_all h_has h_read h_test h_rest h_gets h_waits h_way h_good h_left M_h_158)) (ws' := (wX12 cyB cyI cyZ cyO h h_all h_has h_read h_test h_rest h_gets h_waits h_way h_good h_left M_h_158)) hP hD hS hA [0, 1, 2, 3, 4, 5, 6, 7, 8, 9, 10] [] [0, 1, 2, 3, 4, 5, 6, 7, 8, 9, 10] rfl rfl (by decide) (by decide) rfl (by decide) (va_runV (As := [.int (59 : Int32)]) (rest := []) ⟨hx, hb, hml, hown, hts⟩ (c_X12_must l dC dI cyB cyI cyZ cyO h h_all h_has h_read h_test h_rest h_gets h_waits h_way h_good h_left _ M_h (59 : Int32) M_h_158 h158) (cwV 1 hts gX12_aLine_X12_must rfl rfl rfl (by decide +kernel) ⟨Nat.le_of_ble_eq_true rfl, Nat.le_of_ble_eq_true rfl⟩) ⟨PW.blind, va_recv hK hP (ci := 12) (q0 := 0) rfl rfl, fun U hU hW => ⟨rfl, by rw [hU], by rw [hU]; exact hP, hCx.warm hW, hD.weaken (fun _ _ _ _ => trivial)⟩⟩ rfl rfl hl.1 rfl (lv_room (Nat.le_of_ble_eq_true rfl)) dX12_aLine_158 ⟨Nat.zero_le _, Nat.zero_le _⟩) (fun H locs hP hD hS => ?_)
    refine lv_aload_n hx hb dX12_aLine_161 rfl (lv_at hl 1 rfl) ?_
    refine lv_iconst (v := (0 : Int32)) hx hb dX12_aLine_162 (by decide) ?_
    refine lv_iload_n hx hb dX12_aLine_163 rfl (lv_at hl 2 rfl) ?_
    obtain ⟨M_h_164, h164, hf⟩ := bd1_some hf
    refine wr_callv (wc := (wX12 cyB cyI cyZ cyO h h_all h_has h_read h_test h_rest h_gets h_waits h_way h_good h_left M_h_158)) (wr := ([] : va_W)) (w1 := (wX12 cyB cyI cyZ cyO h h_all h_has h_read h_test h_rest h_gets h_waits h_way h_good h_left M_h_164)) (ws' := (wX12 cyB cyI cyZ cyO h h_all h_has h_read h_test h_rest h_gets h_waits h_way h_good h_left M_h_164)) hP hD hS hA [0, 1, 2, 3, 4, 5, 6, 7, 8, 9, 10] [] [0, 1, 2, 3, 4, 5, 6, 7, 8, 9, 10] rfl rfl (by decide) (by decide) rfl (by decide) (va_runV (As := [.int (0 : Int32), .int x1]) (rest := []) ⟨hx, hb, hml, hown, hts⟩ (c_X12_puts l dC dI cyB cyI cyZ cyO h h_all h_has h_read h_test h_rest h_gets h_waits h_way h_good h_left _ M_h_158 (0 : Int32) x1 M_h_164 h164) (cwV 2 hts gX12_aLine_X12_puts rfl rfl rfl (by decide +kernel) ⟨Nat.le_of_ble_eq_true rfl, Nat.le_of_ble_eq_true rfl⟩) ⟨PW.blind, va_recv hK hP (ci := 12) (q0 := 0) rfl rfl, fun U hU hW => ⟨rfl, by rw [hU], by rw [hU]; exact hP, hCx.warm hW, hD.weaken (fun _ _ _ _ => trivial)⟩⟩ rfl rfl hl.1 rfl (lv_room (Nat.le_of_ble_eq_true rfl)) dX12_aLine_164 ⟨Nat.zero_le _, Nat.zero_le _⟩) (fun H locs hP hD hS => ?_)
    refine lv_aload_n hx hb dX12_aLine_167 rfl (lv_at hl 1 rfl) ?_
    refine lv_bipush (v := (17 : Int32)) hx hb dX12_aLine_168 (by decide) ?_
    refine lv_iload_n hx hb dX12_aLine_170 rfl (lv_at hl 3 rfl) ?_
    obtain ⟨M_h_171, h171, hf⟩ := bd1_some hf
    refine wr_callv (wc := (wX12 cyB cyI cyZ cyO h h_all h_has h_read h_test h_rest h_gets h_waits h_way h_good h_left M_h_164)) (wr := ([] : va_W)) (w1 := (wX12 cyB cyI cyZ cyO h h_all h_has h_read h_test h_rest h_gets h_waits h_way h_good h_left M_h_171)) (ws' := (wX12 cyB cyI cyZ cyO h h_all h_has h_read h_test h_rest h_gets h_waits h_way h_good h_left M_h_171)) hP hD hS hA [0, 1, 2, 3, 4, 5, 6, 7, 8, 9, 10] [] [0, 1, 2, 3, 4, 5, 6, 7, 8, 9, 10] rfl rfl (by decide) (by decide) rfl (by decide) (va_runV (As := [.int (17 : Int32), .int x2]) (rest := []) ⟨hx, hb, hml, hown, hts⟩ (c_X12_puts l dC dI cyB cyI cyZ cyO h h_all h_has h_read h_test h_rest h_gets h_waits h_way h_good h_left _ M_h_164 (17 : Int32) x2 M_h_171 h171) (cwV 2 hts gX12_aLine_X12_puts rfl rfl rfl (by decide +kernel) ⟨Nat.le_of_ble_eq_true rfl, Nat.le_of_ble_eq_true rfl⟩) ⟨PW.blind, va_recv hK hP (ci := 12) (q0 := 0) rfl rfl, fun U hU hW => ⟨rfl, by rw [hU], by rw [hU]; exact hP, hCx.warm hW, hD.weaken (fun _ _ _ _ => trivial)⟩⟩ rfl rfl hl.1 rfl (lv_room (Nat.le_of_ble_eq_true rfl)) dX12_aLine_171 ⟨Nat.zero_le _, Nat.zero_le _⟩) (fun H locs hP hD hS => ?_)
    refine lv_aload_n hx hb dX12_aLine_174 rfl (lv_at hl 1 rfl) ?_
    refine lv_bipush (v := (18 : Int32)) hx hb dX12_aLine_175 (by decide) ?_
    refine lv_iload_n hx hb dX12_aLine_177 rfl (lv_at hl 0 rfl) ?_
    obtain ⟨M_h_178, h178, hf⟩ := bd1_some hf
    refine wr_callv (wc := (wX12 cyB cyI cyZ cyO h h_all h_has h_read h_test h_rest h_gets h_waits h_way h_good h_left M_h_171)) (wr := ([] : va_W)) (w1 := (wX12 cyB cyI cyZ cyO h h_all h_has h_read h_test h_rest h_gets h_waits h_way h_good h_left M_h_178)) (ws' := (wX12 cyB cyI cyZ cyO h h_all h_has h_read h_test h_rest h_gets h_waits h_way h_good h_left M_h_178)) hP hD hS hA [0, 1, 2, 3, 4, 5, 6, 7, 8, 9, 10] [] [0, 1, 2, 3, 4, 5, 6, 7, 8, 9, 10] rfl rfl (by decide) (by decide) rfl (by decide) (va_runV (As := [.int (18 : Int32), .int s0]) (rest := []) ⟨hx, hb, hml, hown, hts⟩ (c_X12_puts l dC dI cyB cyI cyZ cyO h h_all h_has h_read h_test h_rest h_gets h_waits h_way h_good h_left _ M_h_171 (18 : Int32) s0 M_h_178 h178) (cwV 2 hts gX12_aLine_X12_puts rfl rfl rfl (by decide +kernel) ⟨Nat.le_of_ble_eq_true rfl, Nat.le_of_ble_eq_true rfl⟩) ⟨PW.blind, va_recv hK hP (ci := 12) (q0 := 0) rfl rfl, fun U hU hW => ⟨rfl, by rw [hU], by rw [hU]; exact hP, hCx.warm hW, hD.weaken (fun _ _ _ _ => trivial)⟩⟩ rfl rfl hl.1 rfl (lv_room (Nat.le_of_ble_eq_true rfl)) dX12_aLine_178 ⟨Nat.zero_le _, Nat.zero_le _⟩) (fun H locs hP hD hS => ?_)
    refine lv_aload_n hx hb dX12_aLine_181 rfl (lv_at hl 1 rfl) ?_
    refine lv_dup hx hb dX12_aLine_182 rfl ?_
    refine va_get (D := (dC, dI)) (ci := 12) (v := .int (M_h_178 10 0)) (C := RX12) (T := TX12) (N := 21) hx hb hts hin12 hown hK hP 0 rfl rfl 10 (by decide) kf122 (fun _ h9 => h9) rfl dX12_aLine_183 ?_
    refine lv_iconst (v := (1 : Int32)) hx hb dX12_aLine_186 (by decide) ?_
    refine lv_iadd hx hb dX12_aLine_187 ?_
    refine va_put (D := (dC, dI)) (ci := 12) (v := .int ((M_h_178 10 0) + (1 : Int32))) (ty := .int) (C := RX12) (T := TX12) (N := 21) hx hb hts hin12 tyX12 tyX12_ok nmX12 hown hK hP hD hS 0 rfl rfl 10 (by decide) kf122 (fun _ h9 => h9) rfl (by decide +kernel) rfl rfl (Nat.le_of_ble_eq_true rfl) dX12_aLine_188 (fun H locs hP hD hS => ?_)
    obtain ⟨M_h_188, eM_h_188, hf⟩ := wr_some hf
    have hP : va_P (dC, dI) vwCl (wX12 cyB cyI cyZ cyO h h_all h_has h_read h_test h_rest h_gets h_waits h_way h_good h_left M_h_188) H := by rw [eM_h_188]; exact hP
    have hD : va_D A (wX12 cyB cyI cyZ cyO h h_all h_has h_read h_test h_rest h_gets h_waits h_way h_good h_left M_h_188) := by rw [eM_h_188]; exact hD
    have hq := Option.some.inj hf
    subst hq
    exact W.vret hx hb hr (fun t ht hW => ⟨rfl, by rw [ht]; exact hP, hD, hS.F ht⟩) hS.2.2 dX12_aLine_191
  have L97 : ∀ (M_h : Mem) (x1 : Int32) (H : Heap) (locs : List Loc) (ls : Array Slot), f_X12_aLine_L97 M_h x1 = some R_h → va_P (dC, dI) vwCl (wX12 cyB cyI cyZ cyO h h_all h_has h_read h_test h_rest h_gets h_waits h_way h_good h_left M_h) H → va_D A (wX12 cyB cyI cyZ cyO h h_all h_has h_read h_test h_rest h_gets h_waits h_way h_good h_left M_h) → va_S A s.heap H locs → lv_has ls 4 [(0, .ref h), (1, .int x1)] → W p l e (headSpec wsX12_aLine ({ frames := 6, cells := 0, slots := 0, locals := 130 } : Room)).room s m ([.ref h] : List Value).toArray below meth c H locs 0 0 (MQ below (QW dC dI none (wX12 cyB cyI cyZ cyO h h_all h_has h_read h_test h_rest h_gets h_waits h_way h_good h_left R_h) A) ([.ref h] : List Value).toArray s 0 0 A) (F0 m 97 ls []) := by
    intro  M_h x1 H locs ls hf hP hD hS hl
    rw [f_X12_aLine_L97] at hf
    refine lv_aload_n hx hb dX12_aLine_97 rfl (lv_at hl 0 rfl) ?_
    refine va_get (D := (dC, dI)) (ci := 12) (v := .int (M_h 9 0)) (C := RX12) (T := TX12) (N := 21) hx hb hts hin12 hown hK hP 0 rfl rfl 9 (by decide) kf101 (fun _ h9 => h9) rfl dX12_aLine_98 ?_
    refine lv_if_ne (tgt := 126) hx hb dX12_aLine_101 (by decide) (fun hc101 => ?_) (fun hc101 => ?_)
    · rw [if_neg hc101] at hf
      refine lv_aload_n hx hb dX12_aLine_126 rfl (lv_at hl 0 rfl) ?_
      obtain ⟨M_h_127, h127, hf⟩ := bd1_some hf
      refine wr_callv (wc := (wX12 cyB cyI cyZ cyO h h_all h_has h_read h_test h_rest h_gets h_waits h_way h_good h_left M_h)) (wr := ([] : va_W)) (w1 := (wX12 cyB cyI cyZ cyO h h_all h_has h_read h_test h_rest h_gets h_waits h_way h_good h_left M_h_127)) (ws' := (wX12 cyB cyI cyZ cyO h h_all h_has h_read h_test h_rest h_gets h_waits h_way h_good h_left M_h_127)) hP hD hS hA [0, 1, 2, 3, 4, 5, 6, 7, 8, 9, 10] [] [0, 1, 2, 3, 4, 5, 6, 7, 8, 9, 10] rfl rfl (by decide) (by decide) rfl (by decide) (va_runV (As := []) (rest := []) ⟨hx, hb, hml, hown, hts⟩ (c_X12_stops l dC dI cyB cyI cyZ cyO h h_all h_has h_read h_test h_rest h_gets h_waits h_way h_good h_left _ M_h M_h_127 h127) (cwV 0 hts gX12_aLine_X12_stops rfl rfl rfl (by decide +kernel) ⟨Nat.le_of_ble_eq_true rfl, Nat.le_of_ble_eq_true rfl⟩) ⟨PW.blind, va_recv hK hP (ci := 12) (q0 := 0) rfl rfl, fun U hU hW => ⟨rfl, by rw [hU], by rw [hU]; exact hP, hCx.warm hW, hD.weaken (fun _ _ _ _ => trivial)⟩⟩ rfl rfl hl.1 rfl (lv_room (Nat.le_of_ble_eq_true rfl)) dX12_aLine_127 ⟨Nat.zero_le _, Nat.zero_le _⟩) (fun H locs hP hD hS => ?_)
      have hq := Option.some.inj hf
      subst hq
      exact W.vret hx hb hr (fun t ht hW => ⟨rfl, by rw [ht]; exact hP, hD, hS.F ht⟩) hS.2.2 dX12_aLine_130
    · rw [if_pos hc101] at hf
      refine lv_aload_n hx hb dX12_aLine_104 rfl (lv_at hl 0 rfl) ?_
      refine va_get (D := (dC, dI)) (ci := 12) (v := .int (M_h 5 0)) (C := RX12) (T := TX12) (N := 21) hx hb hts hin12 hown hK hP 0 rfl rfl 5 (by decide) kf75 (fun _ h9 => h9) rfl dX12_aLine_105 ?_
      refine lv_iconst (v := (3 : Int32)) hx hb dX12_aLine_108 (by decide) ?_
      refine lv_icmp_ne (tgt := 126) hx hb dX12_aLine_109 (by decide) (fun hc109 => ?_) (fun hc109 => ?_)
      · rw [if_neg hc109] at hf
        refine lv_aload_n hx hb dX12_aLine_126 rfl (lv_at hl 0 rfl) ?_
        obtain ⟨M_h_127, h127, hf⟩ := bd1_some hf
        refine wr_callv (wc := (wX12 cyB cyI cyZ cyO h h_all h_has h_read h_test h_rest h_gets h_waits h_way h_good h_left M_h)) (wr := ([] : va_W)) (w1 := (wX12 cyB cyI cyZ cyO h h_all h_has h_read h_test h_rest h_gets h_waits h_way h_good h_left M_h_127)) (ws' := (wX12 cyB cyI cyZ cyO h h_all h_has h_read h_test h_rest h_gets h_waits h_way h_good h_left M_h_127)) hP hD hS hA [0, 1, 2, 3, 4, 5, 6, 7, 8, 9, 10] [] [0, 1, 2, 3, 4, 5, 6, 7, 8, 9, 10] rfl rfl (by decide) (by decide) rfl (by decide) (va_runV (As := []) (rest := []) ⟨hx, hb, hml, hown, hts⟩ (c_X12_stops l dC dI cyB cyI cyZ cyO h h_all h_has h_read h_test h_rest h_gets h_waits h_way h_good h_left _ M_h M_h_127 h127) (cwV 0 hts gX12_aLine_X12_stops rfl rfl rfl (by decide +kernel) ⟨Nat.le_of_ble_eq_true rfl, Nat.le_of_ble_eq_true rfl⟩) ⟨PW.blind, va_recv hK hP (ci := 12) (q0 := 0) rfl rfl, fun U hU hW => ⟨rfl, by rw [hU], by rw [hU]; exact hP, hCx.warm hW, hD.weaken (fun _ _ _ _ => trivial)⟩⟩ rfl rfl hl.1 rfl (lv_room (Nat.le_of_ble_eq_true rfl)) dX12_aLine_127 ⟨Nat.zero_le _, Nat.zero_le _⟩) (fun H locs hP hD hS => ?_)
        have hq := Option.some.inj hf
        subst hq
        exact W.vret hx hb hr (fun t ht hW => ⟨rfl, by rw [ht]; exact hP, hD, hS.F ht⟩) hS.2.2 dX12_aLine_130
      · rw [if_pos hc109] at hf
        refine lv_aload_n hx hb dX12_aLine_112 rfl (lv_at hl 0 rfl) ?_
        refine va_get (D := (dC, dI)) (ci := 12) (v := .int (M_h 8 0)) (C := RX12) (T := TX12) (N := 21) hx hb hts hin12 hown hK hP 0 rfl rfl 8 (by decide) kf86 (fun _ h9 => h9) rfl dX12_aLine_113 ?_
        refine lv_bipush (v := (20 : Int32)) hx hb dX12_aLine_116 (by decide) ?_
        refine lv_bipush (v := (22 : Int32)) hx hb dX12_aLine_118 (by decide) ?_
        obtain ⟨r120, h120, hf⟩ := bd1_some hf
        have hPc := hP.sub (ws' := ([] : va_W)) [] rfl
        refine ro_calli (va_runS (As := [.int (M_h 8 0), .int (20 : Int32), .int (22 : Int32)]) (rest := []) ⟨hx, hb, hml, hown, hts⟩ (c_X12_isIn l dC dI cyB cyI cyZ cyO (M_h 8 0) (20 : Int32) (22 : Int32) r120 h120) (va_cwS 3 hts gX12_aLine_X12_isIn rfl rfl rfl (by decide +kernel) ⟨Nat.le_of_ble_eq_true rfl, Nat.le_of_ble_eq_true rfl⟩) ⟨PR.blind, fun U hU hW => ⟨rfl, by rw [hU]; exact hPc, hCx.warm hW⟩⟩ rfl rfl hl.1 rfl (lv_room (Nat.le_of_ble_eq_true rfl)) dX12_aLine_120 ⟨Nat.zero_le _, Nat.zero_le _⟩) ?_
        refine lv_if_ne (tgt := 131) hx hb dX12_aLine_123 (by decide) (fun hc123 => ?_) (fun hc123 => ?_)
        · rw [if_neg hc123] at hf
          refine lv_aload_n hx hb dX12_aLine_131 rfl (lv_at hl 0 rfl) ?_
          refine va_get (D := (dC, dI)) (ci := 12) (v := .int (M_h 8 0)) (C := RX12) (T := TX12) (N := 21) hx hb hts hin12 hown hK hP 0 rfl rfl 8 (by decide) kf86 (fun _ h9 => h9) rfl dX12_aLine_132 ?_
          refine lv_istore_n (lv' := [(2, .int (M_h 8 0)), (0, .ref h), (1, .int x1)]) hx hb dX12_aLine_135 rfl hl (by decide) rfl (fun ls hl => ?_)
          refine lv_aload_n hx hb dX12_aLine_136 rfl (lv_at hl 1 rfl) ?_
          obtain ⟨M_h_137, h137, hf⟩ := bd1_some hf
          refine wr_callv (wc := (wX12 cyB cyI cyZ cyO h h_all h_has h_read h_test h_rest h_gets h_waits h_way h_good h_left M_h)) (wr := ([] : va_W)) (w1 := (wX12 cyB cyI cyZ cyO h h_all h_has h_read h_test h_rest h_gets h_waits h_way h_good h_left M_h_137)) (ws' := (wX12 cyB cyI cyZ cyO h h_all h_has h_read h_test h_rest h_gets h_waits h_way h_good h_left M_h_137)) hP hD hS hA [0, 1, 2, 3, 4, 5, 6, 7, 8, 9, 10] [] [0, 1, 2, 3, 4, 5, 6, 7, 8, 9, 10] rfl rfl (by decide) (by decide) rfl (by decide) (va_runV (As := []) (rest := []) ⟨hx, hb, hml, hown, hts⟩ (c_X12_advance l dC dI cyB cyI cyZ cyO h h_all h_has h_read h_test h_rest h_gets h_waits h_way h_good h_left _ M_h M_h_137 h137) (cwV 0 hts gX12_aLine_X12_advance rfl rfl rfl (by decide +kernel) ⟨Nat.le_of_ble_eq_true rfl, Nat.le_of_ble_eq_true rfl⟩) ⟨PW.blind, va_recv hK hP (ci := 12) (q0 := 0) rfl rfl, fun U hU hW => ⟨rfl, by rw [hU], by rw [hU]; exact hP, hCx.warm hW, hD.weaken (fun _ _ _ _ => trivial)⟩⟩ rfl rfl hl.1 rfl (lv_room (Nat.le_of_ble_eq_true rfl)) dX12_aLine_137 ⟨Nat.zero_le _, Nat.zero_le _⟩) (fun H locs hP hD hS => ?_)
          refine lv_iload_n hx hb dX12_aLine_140 rfl (lv_at hl 0 rfl) ?_
          refine lv_bipush (v := (22 : Int32)) hx hb dX12_aLine_141 (by decide) ?_
          refine lv_icmp_ne (tgt := 150) hx hb dX12_aLine_143 (by decide) (fun hc143 => ?_) (fun hc143 => ?_)
          · rw [if_neg hc143] at hf
            refine lv_aload_n hx hb dX12_aLine_150 rfl (lv_at hl 1 rfl) ?_
            obtain ⟨r151, M_h_151, h151, hf⟩ := bd2_some hf
            refine wr_calli (wc := (wX12 cyB cyI cyZ cyO h h_all h_has h_read h_test h_rest h_gets h_waits h_way h_good h_left M_h_137)) (wr := ([] : va_W)) (w1 := (wX12 cyB cyI cyZ cyO h h_all h_has h_read h_test h_rest h_gets h_waits h_way h_good h_left M_h_151)) (ws' := (wX12 cyB cyI cyZ cyO h h_all h_has h_read h_test h_rest h_gets h_waits h_way h_good h_left M_h_151)) hP hD hS hA [0, 1, 2, 3, 4, 5, 6, 7, 8, 9, 10] [] [0, 1, 2, 3, 4, 5, 6, 7, 8, 9, 10] rfl rfl (by decide) (by decide) rfl (by decide) (va_runV (As := []) (rest := []) ⟨hx, hb, hml, hown, hts⟩ (c_X12_numbered l dC dI cyB cyI cyZ cyO h h_all h_has h_read h_test h_rest h_gets h_waits h_way h_good h_left _ M_h_137 r151 M_h_151 h151) (cwV 0 hts gX12_aLine_X12_numbered rfl rfl rfl (by decide +kernel) ⟨Nat.le_of_ble_eq_true rfl, Nat.le_of_ble_eq_true rfl⟩) ⟨PW.blind, va_recv hK hP (ci := 12) (q0 := 0) rfl rfl, fun U hU hW => ⟨rfl, by rw [hU], by rw [hU]; exact hP, hCx.warm hW, hD.weaken (fun _ _ _ _ => trivial)⟩⟩ rfl rfl hl.1 rfl (lv_room (Nat.le_of_ble_eq_true rfl)) dX12_aLine_151 ⟨Nat.zero_le _, Nat.zero_le _⟩) (fun H locs hP hD hS => ?_)
            exact L154 M_h_151 x1 (M_h 8 0) r151 _ _ ls hf hP hD hS (lv_sub hl [1, 2, 0] rfl)
          · rw [if_pos hc143] at hf
            refine lv_iconst (v := (0 : Int32)) hx hb dX12_aLine_146 (by decide) ?_
            refine lv_goto (tgt := 154) hx hb dX12_aLine_147 (by decide) ?_
            exact L154 M_h_137 x1 (M_h 8 0) (0 : Int32) _ _ ls hf hP hD hS (lv_sub hl [1, 2, 0] rfl)
        · rw [if_pos hc123] at hf
          refine lv_aload_n hx hb dX12_aLine_126 rfl (lv_at hl 0 rfl) ?_
          obtain ⟨M_h_127, h127, hf⟩ := bd1_some hf
          refine wr_callv (wc := (wX12 cyB cyI cyZ cyO h h_all h_has h_read h_test h_rest h_gets h_waits h_way h_good h_left M_h)) (wr := ([] : va_W)) (w1 := (wX12 cyB cyI cyZ cyO h h_all h_has h_read h_test h_rest h_gets h_waits h_way h_good h_left M_h_127)) (ws' := (wX12 cyB cyI cyZ cyO h h_all h_has h_read h_test h_rest h_gets h_waits h_way h_good h_left M_h_127)) hP hD hS hA [0, 1, 2, 3, 4, 5, 6, 7, 8, 9, 10] [] [0, 1, 2, 3, 4, 5, 6, 7, 8, 9, 10] rfl rfl (by decide) (by decide) rfl (by decide) (va_runV (As := []) (rest := []) ⟨hx, hb, hml, hown, hts⟩ (c_X12_stops l dC dI cyB cyI cyZ cyO h h_all h_has h_read h_test h_rest h_gets h_waits h_way h_good h_left _ M_h M_h_127 h127) (cwV 0 hts gX12_aLine_X12_stops rfl rfl rfl (by decide +kernel) ⟨Nat.le_of_ble_eq_true rfl, Nat.le_of_ble_eq_true rfl⟩) ⟨PW.blind, va_recv hK hP (ci := 12) (q0 := 0) rfl rfl, fun U hU hW => ⟨rfl, by rw [hU], by rw [hU]; exact hP, hCx.warm hW, hD.weaken (fun _ _ _ _ => trivial)⟩⟩ rfl rfl hl.1 rfl (lv_room (Nat.le_of_ble_eq_true rfl)) dX12_aLine_127 ⟨Nat.zero_le _, Nat.zero_le _⟩) (fun H locs hP hD hS => ?_)
          have hq := Option.some.inj hf
          subst hq
          exact W.vret hx hb hr (fun t ht hW => ⟨rfl, by rw [ht]; exact hP, hD, hS.F ht⟩) hS.2.2 dX12_aLine_130
  have L26 : ∀ (n : Nat), ∀ (M_h : Mem) (x1 : Int32) (x2 : Int32) (H : Heap) (locs : List Loc) (ls : Array Slot), f_X12_aLine_L26 n M_h x1 x2 = some R_h → va_P (dC, dI) vwCl (wX12 cyB cyI cyZ cyO h h_all h_has h_read h_test h_rest h_gets h_waits h_way h_good h_left M_h) H → va_D A (wX12 cyB cyI cyZ cyO h h_all h_has h_read h_test h_rest h_gets h_waits h_way h_good h_left M_h) → va_S A s.heap H locs → lv_has ls 4 [(0, .ref h), (1, .int x1), (2, .int x2)] → W p l e (headSpec wsX12_aLine ({ frames := 6, cells := 0, slots := 0, locals := 130 } : Room)).room s m ([.ref h] : List Value).toArray below meth c H locs 0 0 (MQ below (QW dC dI none (wX12 cyB cyI cyZ cyO h h_all h_has h_read h_test h_rest h_gets h_waits h_way h_good h_left R_h) A) ([.ref h] : List Value).toArray s 0 0 A) (F0 m 26 ls []) := by
    intro n
    induction n with
    | zero => intro M_h x1 x2 H locs ls hf hP hD hS hl; rw [f_X12_aLine_L26] at hf; cases hf
    | succ n ih =>
      intro M_h x1 x2 H locs ls hf hP hD hS hl
      rw [f_X12_aLine_L26] at hf
      refine lv_iload_n hx hb dX12_aLine_26 rfl (lv_at hl 2 rfl) ?_
      refine lv_if_eq (tgt := 91) hx hb dX12_aLine_27 (by decide) (fun hc27 => ?_) (fun hc27 => ?_)
      · rw [if_pos hc27] at hf
        refine lv_aload_n hx hb dX12_aLine_91 rfl (lv_at hl 0 rfl) ?_
        refine lv_bipush (v := (58 : Int32)) hx hb dX12_aLine_92 (by decide) ?_
        obtain ⟨M_h_94, h94, hf⟩ := bd1_some hf
        refine wr_callv (wc := (wX12 cyB cyI cyZ cyO h h_all h_has h_read h_test h_rest h_gets h_waits h_way h_good h_left M_h)) (wr := ([] : va_W)) (w1 := (wX12 cyB cyI cyZ cyO h h_all h_has h_read h_test h_rest h_gets h_waits h_way h_good h_left M_h_94)) (ws' := (wX12 cyB cyI cyZ cyO h h_all h_has h_read h_test h_rest h_gets h_waits h_way h_good h_left M_h_94)) hP hD hS hA [0, 1, 2, 3, 4, 5, 6, 7, 8, 9, 10] [] [0, 1, 2, 3, 4, 5, 6, 7, 8, 9, 10] rfl rfl (by decide) (by decide) rfl (by decide) (va_runV (As := [.int (58 : Int32)]) (rest := []) ⟨hx, hb, hml, hown, hts⟩ (c_X12_must l dC dI cyB cyI cyZ cyO h h_all h_has h_read h_test h_rest h_gets h_waits h_way h_good h_left _ M_h (58 : Int32) M_h_94 h94) (cwV 1 hts gX12_aLine_X12_must rfl rfl rfl (by decide +kernel) ⟨Nat.le_of_ble_eq_true rfl, Nat.le_of_ble_eq_true rfl⟩) ⟨PW.blind, va_recv hK hP (ci := 12) (q0 := 0) rfl rfl, fun U hU hW => ⟨rfl, by rw [hU], by rw [hU]; exact hP, hCx.warm hW, hD.weaken (fun _ _ _ _ => trivial)⟩⟩ rfl rfl hl.1 rfl (lv_room (Nat.le_of_ble_eq_true rfl)) dX12_aLine_94 ⟨Nat.zero_le _, Nat.zero_le _⟩) (fun H locs hP hD hS => ?_)
        exact L97 M_h_94 x1 _ _ ls hf hP hD hS (lv_sub hl [0, 1] rfl)
      · rw [if_neg hc27] at hf
        refine lv_iload_n hx hb dX12_aLine_30 rfl (lv_at hl 1 rfl) ?_
        refine lv_iconst (v := (3 : Int32)) hx hb dX12_aLine_31 (by decide) ?_
        refine lv_icmp_le (tgt := 39) hx hb dX12_aLine_32 (by decide) (fun hc32 => ?_) (fun hc32 => ?_)
        · rw [if_pos hc32] at hf
          refine lv_aload_n hx hb dX12_aLine_39 rfl (lv_at hl 0 rfl) ?_
          obtain ⟨M_h_40, h40, hf⟩ := bd1_some hf
          refine wr_callv (wc := (wX12 cyB cyI cyZ cyO h h_all h_has h_read h_test h_rest h_gets h_waits h_way h_good h_left M_h)) (wr := ([] : va_W)) (w1 := (wX12 cyB cyI cyZ cyO h h_all h_has h_read h_test h_rest h_gets h_waits h_way h_good h_left M_h_40)) (ws' := (wX12 cyB cyI cyZ cyO h h_all h_has h_read h_test h_rest h_gets h_waits h_way h_good h_left M_h_40)) hP hD hS hA [0, 1, 2, 3, 4, 5, 6, 7, 8, 9, 10] [] [0, 1, 2, 3, 4, 5, 6, 7, 8, 9, 10] rfl rfl (by decide) (by decide) rfl (by decide) (va_runV (As := []) (rest := []) ⟨hx, hb, hml, hown, hts⟩ (c_X12_aTest l dC dI cyB cyI cyZ cyO h h_all h_has h_read h_test h_rest h_gets h_waits h_way h_good h_left _ M_h M_h_40 h40) (cwV 0 hts gX12_aLine_X12_aTest rfl rfl rfl (by decide +kernel) ⟨Nat.le_of_ble_eq_true rfl, Nat.le_of_ble_eq_true rfl⟩) ⟨PW.blind, va_recv hK hP (ci := 12) (q0 := 0) rfl rfl, fun U hU hW => ⟨rfl, by rw [hU], by rw [hU]; exact hP, hCx.warm hW, hD.weaken (fun _ _ _ _ => trivial)⟩⟩ rfl rfl hl.1 rfl (lv_room (Nat.le_of_ble_eq_true rfl)) dX12_aLine_40 ⟨Nat.zero_le _, Nat.zero_le _⟩) (fun H locs hP hD hS => ?_)
          refine lv_iconst (v := (0 : Int32)) hx hb dX12_aLine_43 (by decide) ?_
          refine lv_istore_n (lv' := [(3, .int (0 : Int32)), (0, .ref h), (1, .int x1), (2, .int x2)]) hx hb dX12_aLine_44 rfl hl (by decide) rfl (fun ls hl => ?_)
          exact L45 (f_X12_aLine_L26 n) (fun z0 z1 z2 z3 z4 z5 z6 z7 z8 z9 z10 => ih z0 z1 z2 z3 z4 z5 z6 z7 z8 z9 z10) FU M_h_40 x1 (0 : Int32) _ _ ls hf hP hD hS (lv_sub hl [1, 2, 0] rfl)
        · rw [if_neg hc32] at hf
          refine lv_aload_n hx hb dX12_aLine_35 rfl (lv_at hl 0 rfl) ?_
          obtain ⟨M_h_36, h36, hf⟩ := bd1_some hf
          refine wr_callv (wc := (wX12 cyB cyI cyZ cyO h h_all h_has h_read h_test h_rest h_gets h_waits h_way h_good h_left M_h)) (wr := ([] : va_W)) (w1 := (wX12 cyB cyI cyZ cyO h h_all h_has h_read h_test h_rest h_gets h_waits h_way h_good h_left M_h_36)) (ws' := (wX12 cyB cyI cyZ cyO h h_all h_has h_read h_test h_rest h_gets h_waits h_way h_good h_left M_h_36)) hP hD hS hA [0, 1, 2, 3, 4, 5, 6, 7, 8, 9, 10] [] [0, 1, 2, 3, 4, 5, 6, 7, 8, 9, 10] rfl rfl (by decide) (by decide) rfl (by decide) (va_runV (As := []) (rest := []) ⟨hx, hb, hml, hown, hts⟩ (c_X12_tooMany l dC dI cyB cyI cyZ cyO h h_all h_has h_read h_test h_rest h_gets h_waits h_way h_good h_left _ M_h M_h_36 h36) (cwV 0 hts gX12_aLine_X12_tooMany rfl rfl rfl (by decide +kernel) ⟨Nat.le_of_ble_eq_true rfl, Nat.le_of_ble_eq_true rfl⟩) ⟨PW.blind, va_recv hK hP (ci := 12) (q0 := 0) rfl rfl, fun U hU hW => ⟨rfl, by rw [hU], by rw [hU]; exact hP, hCx.warm hW, hD.weaken (fun _ _ _ _ => trivial)⟩⟩ rfl rfl hl.1 rfl (lv_room (Nat.le_of_ble_eq_true rfl)) dX12_aLine_36 ⟨Nat.zero_le _, Nat.zero_le _⟩) (fun H locs hP hD hS => ?_)
          refine lv_aload_n hx hb dX12_aLine_39 rfl (lv_at hl 0 rfl) ?_
          obtain ⟨M_h_40, h40, hf⟩ := bd1_some hf
          refine wr_callv (wc := (wX12 cyB cyI cyZ cyO h h_all h_has h_read h_test h_rest h_gets h_waits h_way h_good h_left M_h_36)) (wr := ([] : va_W)) (w1 := (wX12 cyB cyI cyZ cyO h h_all h_has h_read h_test h_rest h_gets h_waits h_way h_good h_left M_h_40)) (ws' := (wX12 cyB cyI cyZ cyO h h_all h_has h_read h_test h_rest h_gets h_waits h_way h_good h_left M_h_40)) hP hD hS hA [0, 1, 2, 3, 4, 5, 6, 7, 8, 9, 10] [] [0, 1, 2, 3, 4, 5, 6, 7, 8, 9, 10] rfl rfl (by decide) (by decide) rfl (by decide) (va_runV (As := []) (rest := []) ⟨hx, hb, hml, hown, hts⟩ (c_X12_aTest l dC dI cyB cyI cyZ cyO h h_all h_has h_read h_test h_rest h_gets h_waits h_way h_good h_left _ M_h_36 M_h_40 h40) (cwV 0 hts gX12_aLine_X12_aTest rfl rfl rfl (by decide +kernel) ⟨Nat.le_of_ble_eq_true rfl, Nat.le_of_ble_eq_true rfl⟩) ⟨PW.blind, va_recv hK hP (ci := 12) (q0 := 0) rfl rfl, fun U hU hW => ⟨rfl, by rw [hU], by rw [hU]; exact hP, hCx.warm hW, hD.weaken (fun _ _ _ _ => trivial)⟩⟩ rfl rfl hl.1 rfl (lv_room (Nat.le_of_ble_eq_true rfl)) dX12_aLine_40 ⟨Nat.zero_le _, Nat.zero_le _⟩) (fun H locs hP hD hS => ?_)
          refine lv_iconst (v := (0 : Int32)) hx hb dX12_aLine_43 (by decide) ?_
          refine lv_istore_n (lv' := [(3, .int (0 : Int32)), (0, .ref h), (1, .int x1), (2, .int x2)]) hx hb dX12_aLine_44 rfl hl (by decide) rfl (fun ls hl => ?_)
          exact L45 (f_X12_aLine_L26 n) (fun z0 z1 z2 z3 z4 z5 z6 z7 z8 z9 z10 => ih z0 z1 z2 z3 z4 z5 z6 z7 z8 z9 z10) FU M_h_40 x1 (0 : Int32) _ _ ls hf hP hD hS (lv_sub hl [1, 2, 0] rfl)
  have L13 : ∀ (M_h : Mem) (H : Heap) (locs : List Loc) (ls : Array Slot), f_X12_aLine_L13 M_h = some R_h → va_P (dC, dI) vwCl (wX12 cyB cyI cyZ cyO h h_all h_has h_read h_test h_rest h_gets h_waits h_way h_good h_left M_h) H → va_D A (wX12 cyB cyI cyZ cyO h h_all h_has h_read h_test h_rest h_gets h_waits h_way h_good h_left M_h) → va_S A s.heap H locs → lv_has ls 4 [(0, .ref h)] → W p l e (headSpec wsX12_aLine ({ frames := 6, cells := 0, slots := 0, locals := 130 } : Room)).room s m ([.ref h] : List Value).toArray below meth c H locs 0 0 (MQ below (QW dC dI none (wX12 cyB cyI cyZ cyO h h_all h_has h_read h_test h_rest h_gets h_waits h_way h_good h_left R_h) A) ([.ref h] : List Value).toArray s 0 0 A) (F0 m 13 ls []) := by
    intro  M_h H locs ls hf hP hD hS hl
    rw [f_X12_aLine_L13] at hf
    refine lv_iconst (v := (0 : Int32)) hx hb dX12_aLine_13 (by decide) ?_
    refine lv_istore_n (lv' := [(1, .int (0 : Int32)), (0, .ref h)]) hx hb dX12_aLine_14 rfl hl (by decide) rfl (fun ls hl => ?_)
    refine lv_aload_n hx hb dX12_aLine_15 rfl (lv_at hl 1 rfl) ?_
    refine lv_bipush (v := (30 : Int32)) hx hb dX12_aLine_16 (by decide) ?_
    obtain ⟨r18, M_h_18, h18, hf⟩ := bd2_some hf
    refine wr_calli (wc := (wX12 cyB cyI cyZ cyO h h_all h_has h_read h_test h_rest h_gets h_waits h_way h_good h_left M_h)) (wr := ([] : va_W)) (w1 := (wX12 cyB cyI cyZ cyO h h_all h_has h_read h_test h_rest h_gets h_waits h_way h_good h_left M_h_18)) (ws' := (wX12 cyB cyI cyZ cyO h h_all h_has h_read h_test h_rest h_gets h_waits h_way h_good h_left M_h_18)) hP hD hS hA [0, 1, 2, 3, 4, 5, 6, 7, 8, 9, 10] [] [0, 1, 2, 3, 4, 5, 6, 7, 8, 9, 10] rfl rfl (by decide) (by decide) rfl (by decide) (va_runV (As := [.int (30 : Int32)]) (rest := []) ⟨hx, hb, hml, hown, hts⟩ (c_X12_takes l dC dI cyB cyI cyZ cyO h h_all h_has h_read h_test h_rest h_gets h_waits h_way h_good h_left _ M_h (30 : Int32) r18 M_h_18 h18) (cwV 1 hts gX12_aLine_X12_takes rfl rfl rfl (by decide +kernel) ⟨Nat.le_of_ble_eq_true rfl, Nat.le_of_ble_eq_true rfl⟩) ⟨PW.blind, va_recv hK hP (ci := 12) (q0 := 0) rfl rfl, fun U hU hW => ⟨rfl, by rw [hU], by rw [hU]; exact hP, hCx.warm hW, hD.weaken (fun _ _ _ _ => trivial)⟩⟩ rfl rfl hl.1 rfl (lv_room (Nat.le_of_ble_eq_true rfl)) dX12_aLine_18 ⟨Nat.zero_le _, Nat.zero_le _⟩) (fun H locs hP hD hS => ?_)
    refine lv_if_eq (tgt := 97) hx hb dX12_aLine_21 (by decide) (fun hc21 => ?_) (fun hc21 => ?_)
    · rw [if_pos hc21] at hf
      exact L97 M_h_18 (0 : Int32) _ _ ls hf hP hD hS (lv_sub hl [1, 0] rfl)
    · rw [if_neg hc21] at hf
      refine lv_iconst (v := (1 : Int32)) hx hb dX12_aLine_24 (by decide) ?_
      refine lv_istore_n (lv' := [(2, .int (1 : Int32)), (1, .int (0 : Int32)), (0, .ref h)]) hx hb dX12_aLine_25 rfl hl (by decide) rfl (fun ls hl => ?_)
      exact L26 FU M_h_18 (0 : Int32) (1 : Int32) _ _ ls hf hP hD hS (lv_sub hl [2, 1, 0] rfl)
  rw [f_X12_aLine] at hf
  refine lv_aload_n hx hb dX12_aLine_0 rfl (lv_at hl 0 rfl) ?_
  refine va_get (D := (dC, dI)) (ci := 12) (v := .int (M_h 10 0)) (C := RX12) (T := TX12) (N := 21) hx hb hts hin12 hown hK hP 0 rfl rfl 10 (by decide) kf122 (fun _ h9 => h9) rfl dX12_aLine_1 ?_
  refine lv_bipush (v := (16 : Int32)) hx hb dX12_aLine_4 (by decide) ?_
  refine lv_icmp_lt (tgt := 13) hx hb dX12_aLine_6 (by decide) (fun hc6 => ?_) (fun hc6 => ?_)
  · rw [if_pos hc6] at hf
    exact L13 M_h _ _ ls hf hP hD hS (lv_sub hl [0] rfl)
  · rw [if_neg hc6] at hf
    refine lv_aload_n hx hb dX12_aLine_9 rfl (lv_at hl 0 rfl) ?_
    obtain ⟨M_h_10, h10, hf⟩ := bd1_some hf
    refine wr_callv (wc := (wX12 cyB cyI cyZ cyO h h_all h_has h_read h_test h_rest h_gets h_waits h_way h_good h_left M_h)) (wr := ([] : va_W)) (w1 := (wX12 cyB cyI cyZ cyO h h_all h_has h_read h_test h_rest h_gets h_waits h_way h_good h_left M_h_10)) (ws' := (wX12 cyB cyI cyZ cyO h h_all h_has h_read h_test h_rest h_gets h_waits h_way h_good h_left M_h_10)) hP hD hS hA [0, 1, 2, 3, 4, 5, 6, 7, 8, 9, 10] [] [0, 1, 2, 3, 4, 5, 6, 7, 8, 9, 10] rfl rfl (by decide) (by decide) rfl (by decide) (va_runV (As := []) (rest := []) ⟨hx, hb, hml, hown, hts⟩ (c_X12_tooMany l dC dI cyB cyI cyZ cyO h h_all h_has h_read h_test h_rest h_gets h_waits h_way h_good h_left _ M_h M_h_10 h10) (cwV 0 hts gX12_aLine_X12_tooMany rfl rfl rfl (by decide +kernel) ⟨Nat.le_of_ble_eq_true rfl, Nat.le_of_ble_eq_true rfl⟩) ⟨PW.blind, va_recv hK hP (ci := 12) (q0 := 0) rfl rfl, fun U hU hW => ⟨rfl, by rw [hU], by rw [hU]; exact hP, hCx.warm hW, hD.weaken (fun _ _ _ _ => trivial)⟩⟩ rfl rfl hl.1 rfl (lv_room (Nat.le_of_ble_eq_true rfl)) dX12_aLine_10 ⟨Nat.zero_le _, Nat.zero_le _⟩) (fun H locs hP hD hS => ?_)
    exact L13 M_h_10 _ _ ls hf hP hD hS (lv_sub hl [0] rfl)
set_option maxHeartbeats 4000000 in
set_option maxRecDepth 100000 in
theorem c_X12_decree (l : Launch) (dC : Nat → ClassId) (dI : Nat → Nat → Nat) (cyB cyI cyZ cyO : ClassId) (h h_all h_has h_read h_test h_rest h_gets h_waits h_way h_good h_left : Nat) (sz : Nat) (M_h : Mem) (r : Int32) (R_h : Mem) (hf : f_X12_decree M_h = some (r, R_h)) : Met l yX12_decree wsX12_decree ({ frames := 7, cells := 0, slots := 0, locals := 153 } : Room) (PW dC dI cyB cyI cyZ cyO ([.ref h] : List Value) (wX12 cyB cyI cyZ cyO h h_all h_has h_read h_test h_rest h_gets h_waits h_way h_good h_left M_h) sz) (QW dC dI (some (.int r)) (wX12 cyB cyI cyZ cyO h h_all h_has h_read h_test h_rest h_gets h_waits h_way h_good h_left R_h) (va_A (wX12 cyB cyI cyZ cyO h h_all h_has h_read h_test h_rest h_gets h_waits h_way h_good h_left M_h) sz)) 0 0 (va_A (wX12 cyB cyI cyZ cyO h h_all h_has h_read h_test h_rest h_gets h_waits h_way h_good h_left M_h) sz) := by
  refine Met.ofW (cc := cX12_decree) (maxL := 2) (ret := (some .int)) (by decide) rfl ?_
  intro p e s m args below meth c s₁ B hml hv
  obtain ⟨rfl, hsz, hP, hCx, hD0⟩ := hv
  have hK := hCx.1
  have hN := hCx.2
  have hx := B.exec
  have hb := B.bytes
  have hr := B.returns
  have hts := atoms_spec (ws := wsX12_decree) B.pre
  have hown : s.vm.findClass RX12 = some m.cls := findClass_of_methodNamed B.named
  have hlocks := B.notSynchronized
  have hin12 : ∀ w ∈ u_ws RX12 TX12 21, w ∈ wsX12_decree := fun w h => List.mem_cons_of_mem _ (List.mem_append_right _ h)
  have kf7 := hts (.fieldLink RX12 7 "HoldSlipsModel" "all" "[I") (by decide +kernel)
  have kf17 := hts (.fieldLink RX12 17 "HoldSlipsModel" "read" "[I") (by decide +kernel)
  have kf41 := hts (.fieldLink RX12 41 "HoldSlipsModel" "size" "I") (by decide +kernel)
  have kf65 := hts (.fieldLink RX12 65 "HoldSlipsModel" "next" "I") (by decide +kernel)
  have kf75 := hts (.fieldLink RX12 75 "HoldSlipsModel" "token" "I") (by decide +kernel)
  have kf101 := hts (.fieldLink RX12 101 "HoldSlipsModel" "wrong" "Z") (by decide +kernel)
  have kf122 := hts (.fieldLink RX12 122 "HoldSlipsModel" "lines" "I") (by decide +kernel)
  subst hsz
  have hD := hD0.self (sz := s.heap.size)
  generalize hAe : va_A (wX12 cyB cyI cyZ cyO h h_all h_has h_read h_test h_rest h_gets h_waits h_way h_good h_left M_h) s.heap.size = A at hD ⊢
  have hA : ∀ q : Nat, s.heap.size ≤ q → A q := fun q h => by rw [← hAe]; exact Or.inr h
  have hS : va_S A s.heap s.heap [] := va_S.rf
  have hl := lv_entry ([.ref h] : List Value) (n := 2) (Nat.le_of_ble_eq_true rfl)
  rw [lg_entry_eq]
  generalize (lg_sl ([.ref h] : List Value) ++ List.replicate (2 - (lg_sl ([.ref h] : List Value)).length) Slot.unset).toArray = ls at hl ⊢
  have hl : lv_has ls 2 [(0, .ref h)] := hl
  have L89 : ∀ (n : Nat), ∀ (M_h : Mem) (x1 : Int32) (H : Heap) (locs : List Loc) (ls : Array Slot), f_X12_decree_L89 n M_h x1 = some (r, R_h) → va_P (dC, dI) vwCl (wX12 cyB cyI cyZ cyO h h_all h_has h_read h_test h_rest h_gets h_waits h_way h_good h_left M_h) H → va_D A (wX12 cyB cyI cyZ cyO h h_all h_has h_read h_test h_rest h_gets h_waits h_way h_good h_left M_h) → va_S A s.heap H locs → lv_has ls 2 [(0, .ref h), (1, .int x1)] → W p l e (headSpec wsX12_decree ({ frames := 7, cells := 0, slots := 0, locals := 153 } : Room)).room s m ([.ref h] : List Value).toArray below meth c H locs 0 0 (MQ below (QW dC dI (some (.int r)) (wX12 cyB cyI cyZ cyO h h_all h_has h_read h_test h_rest h_gets h_waits h_way h_good h_left R_h) A) ([.ref h] : List Value).toArray s 0 0 A) (F0 m 89 ls []) := by
    intro n
    induction n with
    | zero => intro M_h x1 H locs ls hf hP hD hS hl; rw [f_X12_decree_L89] at hf; cases hf
    | succ n ih =>
      intro M_h x1 H locs ls hf hP hD hS hl
      rw [f_X12_decree_L89] at hf
      refine lv_iload_n hx hb dX12_decree_89 rfl (lv_at hl 1 rfl) ?_
      refine lv_sipush (v := (304 : Int32)) hx hb dX12_decree_90 (by decide) ?_
      refine lv_icmp_ge (tgt := 118) hx hb dX12_decree_93 (by decide) (fun hc93 => ?_) (fun hc93 => ?_)
      · rw [if_pos hc93] at hf
        refine lv_aload_n hx hb dX12_decree_118 rfl (lv_at hl 0 rfl) ?_
        refine va_get (D := (dC, dI)) (ci := 12) (v := .ref h_all) (C := RX12) (T := TX12) (N := 21) hx hb hts hin12 hown hK hP 0 rfl rfl 0 (by decide) kf7 (fun _ h9 => h9) rfl dX12_decree_119 ?_
        refine lv_bipush (v := (7 : Int32)) hx hb dX12_decree_122 (by decide) ?_
        refine lv_aload_n hx hb dX12_decree_124 rfl (lv_at hl 0 rfl) ?_
        refine va_get (D := (dC, dI)) (ci := 12) (v := .int (M_h 10 0)) (C := RX12) (T := TX12) (N := 21) hx hb hts hin12 hown hK hP 0 rfl rfl 10 (by decide) kf122 (fun _ h9 => h9) rfl dX12_decree_125 ?_
        refine va_iast hx hb hK hP hD hS 1 1 rfl rfl (show ¬ ((7 : Int32) < 0 ∨ 11160 ≤ ((7 : Int32)).toNatClampNeg) by decide) dX12_decree_128 (fun H locs hP hD hS => ?_)
        obtain ⟨M_h_128, eM_h_128, hf⟩ := wr_some hf
        have hP : va_P (dC, dI) vwCl (wX12 cyB cyI cyZ cyO h h_all h_has h_read h_test h_rest h_gets h_waits h_way h_good h_left M_h_128) H := by rw [eM_h_128]; exact hP
        have hD : va_D A (wX12 cyB cyI cyZ cyO h h_all h_has h_read h_test h_rest h_gets h_waits h_way h_good h_left M_h_128) := by rw [eM_h_128]; exact hD
        refine lv_aload_n hx hb dX12_decree_129 rfl (lv_at hl 0 rfl) ?_
        refine va_get (D := (dC, dI)) (ci := 12) (v := .int (M_h_128 10 0)) (C := RX12) (T := TX12) (N := 21) hx hb hts hin12 hown hK hP 0 rfl rfl 10 (by decide) kf122 (fun _ h9 => h9) rfl dX12_decree_130 ?_
        obtain ⟨hq0, hq1⟩ := pj2 hf
        subst hq0
        subst hq1
        exact W.iret (v := (M_h_128 10 0)) hx hb hr (fun t ht hW => ⟨rfl, by rw [ht]; exact hP, hD, hS.F ht⟩) hS.2.2 dX12_decree_133
      · rw [if_neg hc93] at hf
        refine lv_aload_n hx hb dX12_decree_96 rfl (lv_at hl 0 rfl) ?_
        refine va_get (D := (dC, dI)) (ci := 12) (v := .ref h_all) (C := RX12) (T := TX12) (N := 21) hx hb hts hin12 hown hK hP 0 rfl rfl 0 (by decide) kf7 (fun _ h9 => h9) rfl dX12_decree_97 ?_
        refine lv_sipush (v := (2080 : Int32)) hx hb dX12_decree_100 (by decide) ?_
        refine lv_iload_n hx hb dX12_decree_103 rfl (lv_at hl 1 rfl) ?_
        refine lv_iadd hx hb dX12_decree_104 ?_
        refine lv_aload_n hx hb dX12_decree_105 rfl (lv_at hl 0 rfl) ?_
        refine va_get (D := (dC, dI)) (ci := 12) (v := .ref h_read) (C := RX12) (T := TX12) (N := 21) hx hb hts hin12 hown hK hP 0 rfl rfl 11 (by decide) kf17 (fun _ h9 => h9) rfl dX12_decree_106 ?_
        refine lv_iload_n hx hb dX12_decree_109 rfl (lv_at hl 1 rfl) ?_
        have hi110 := if_no hf
        rw [if_neg hi110] at hf
        refine va_iald hx hb hK hP 3 1 rfl rfl hi110 dX12_decree_110 ?_
        have hi111 := if_no hf
        rw [if_neg hi111] at hf
        refine va_iast hx hb hK hP hD hS 1 1 rfl rfl hi111 dX12_decree_111 (fun H locs hP hD hS => ?_)
        obtain ⟨M_h_111, eM_h_111, hf⟩ := wr_some hf
        have hP : va_P (dC, dI) vwCl (wX12 cyB cyI cyZ cyO h h_all h_has h_read h_test h_rest h_gets h_waits h_way h_good h_left M_h_111) H := by rw [eM_h_111]; exact hP
        have hD : va_D A (wX12 cyB cyI cyZ cyO h h_all h_has h_read h_test h_rest h_gets h_waits h_way h_good h_left M_h_111) := by rw [eM_h_111]; exact hD
        refine lv_iinc (v := (x1 + (1 : Int32))) (lv' := [(1, .int (x1 + (1 : Int32))), (0, .ref h)]) hx hb dX12_decree_112 hl (k := 1) rfl rfl (by decide) rfl (fun ls hl => ?_)
        refine lv_goto (tgt := 89) hx hb dX12_decree_115 (by decide) ?_
        exact ih M_h_111 (x1 + (1 : Int32)) _ _ ls hf hP hD hS (lv_sub hl [1, 0] rfl)
  have L75 : ∀ (M_h : Mem) (H : Heap) (locs : List Loc) (ls : Array Slot), f_X12_decree_L75 M_h = some (r, R_h) → va_P (dC, dI) vwCl (wX12 cyB cyI cyZ cyO h h_all h_has h_read h_test h_rest h_gets h_waits h_way h_good h_left M_h) H → va_D A (wX12 cyB cyI cyZ cyO h h_all h_has h_read h_test h_rest h_gets h_waits h_way h_good h_left M_h) → va_S A s.heap H locs → lv_has ls 2 [(0, .ref h)] → W p l e (headSpec wsX12_decree ({ frames := 7, cells := 0, slots := 0, locals := 153 } : Room)).room s m ([.ref h] : List Value).toArray below meth c H locs 0 0 (MQ below (QW dC dI (some (.int r)) (wX12 cyB cyI cyZ cyO h h_all h_has h_read h_test h_rest h_gets h_waits h_way h_good h_left R_h) A) ([.ref h] : List Value).toArray s 0 0 A) (F0 m 75 ls []) := by
    intro  M_h H locs ls hf hP hD hS hl
    rw [f_X12_decree_L75] at hf
    refine lv_aload_n hx hb dX12_decree_75 rfl (lv_at hl 0 rfl) ?_
    refine va_get (D := (dC, dI)) (ci := 12) (v := .ref h_all) (C := RX12) (T := TX12) (N := 21) hx hb hts hin12 hown hK hP 0 rfl rfl 0 (by decide) kf7 (fun _ h9 => h9) rfl dX12_decree_76 ?_
    refine lv_bipush (v := (13 : Int32)) hx hb dX12_decree_79 (by decide) ?_
    refine va_iald hx hb hK hP 1 1 rfl rfl (show ¬ ((13 : Int32) < 0 ∨ 11160 ≤ ((13 : Int32)).toNatClampNeg) by decide) dX12_decree_81 ?_
    refine lv_if_eq (tgt := 87) hx hb dX12_decree_82 (by decide) (fun hc82 => ?_) (fun hc82 => ?_)
    · rw [if_pos hc82] at hf
      refine lv_iconst (v := (0 : Int32)) hx hb dX12_decree_87 (by decide) ?_
      refine lv_istore_n (lv' := [(1, .int (0 : Int32)), (0, .ref h)]) hx hb dX12_decree_88 rfl hl (by decide) rfl (fun ls hl => ?_)
      exact L89 FU M_h (0 : Int32) _ _ ls hf hP hD hS (lv_sub hl [1, 0] rfl)
    · rw [if_neg hc82] at hf
      refine lv_iconst (v := (-1 : Int32)) hx hb dX12_decree_85 (by decide) ?_
      obtain ⟨hq0, hq1⟩ := pj2 hf
      subst hq0
      subst hq1
      exact W.iret (v := (-1 : Int32)) hx hb hr (fun t ht hW => ⟨rfl, by rw [ht]; exact hP, hD, hS.F ht⟩) hS.2.2 dX12_decree_86
  have L54 : ∀ (n : Nat), ∀ (M_h : Mem) (H : Heap) (locs : List Loc) (ls : Array Slot), f_X12_decree_L54 n M_h = some (r, R_h) → va_P (dC, dI) vwCl (wX12 cyB cyI cyZ cyO h h_all h_has h_read h_test h_rest h_gets h_waits h_way h_good h_left M_h) H → va_D A (wX12 cyB cyI cyZ cyO h h_all h_has h_read h_test h_rest h_gets h_waits h_way h_good h_left M_h) → va_S A s.heap H locs → lv_has ls 2 [(0, .ref h)] → W p l e (headSpec wsX12_decree ({ frames := 7, cells := 0, slots := 0, locals := 153 } : Room)).room s m ([.ref h] : List Value).toArray below meth c H locs 0 0 (MQ below (QW dC dI (some (.int r)) (wX12 cyB cyI cyZ cyO h h_all h_has h_read h_test h_rest h_gets h_waits h_way h_good h_left R_h) A) ([.ref h] : List Value).toArray s 0 0 A) (F0 m 54 ls []) := by
    intro n
    induction n with
    | zero => intro M_h H locs ls hf hP hD hS hl; rw [f_X12_decree_L54] at hf; cases hf
    | succ n ih =>
      intro M_h H locs ls hf hP hD hS hl
      rw [f_X12_decree_L54] at hf
      refine lv_aload_n hx hb dX12_decree_54 rfl (lv_at hl 0 rfl) ?_
      refine va_get (D := (dC, dI)) (ci := 12) (v := .int (M_h 9 0)) (C := RX12) (T := TX12) (N := 21) hx hb hts hin12 hown hK hP 0 rfl rfl 9 (by decide) kf101 (fun _ h9 => h9) rfl dX12_decree_55 ?_
      refine lv_if_ne (tgt := 75) hx hb dX12_decree_58 (by decide) (fun hc58 => ?_) (fun hc58 => ?_)
      · rw [if_neg hc58] at hf
        exact L75 M_h _ _ ls hf hP hD hS (lv_sub hl [0] rfl)
      · rw [if_pos hc58] at hf
        refine lv_aload_n hx hb dX12_decree_61 rfl (lv_at hl 0 rfl) ?_
        refine va_get (D := (dC, dI)) (ci := 12) (v := .int (M_h 5 0)) (C := RX12) (T := TX12) (N := 21) hx hb hts hin12 hown hK hP 0 rfl rfl 5 (by decide) kf75 (fun _ h9 => h9) rfl dX12_decree_62 ?_
        refine lv_if_eq (tgt := 75) hx hb dX12_decree_65 (by decide) (fun hc65 => ?_) (fun hc65 => ?_)
        · rw [if_pos hc65] at hf
          exact L75 M_h _ _ ls hf hP hD hS (lv_sub hl [0] rfl)
        · rw [if_neg hc65] at hf
          refine lv_aload_n hx hb dX12_decree_68 rfl (lv_at hl 0 rfl) ?_
          obtain ⟨M_h_69, h69, hf⟩ := bd1_some hf
          refine wr_callv (wc := (wX12 cyB cyI cyZ cyO h h_all h_has h_read h_test h_rest h_gets h_waits h_way h_good h_left M_h)) (wr := ([] : va_W)) (w1 := (wX12 cyB cyI cyZ cyO h h_all h_has h_read h_test h_rest h_gets h_waits h_way h_good h_left M_h_69)) (ws' := (wX12 cyB cyI cyZ cyO h h_all h_has h_read h_test h_rest h_gets h_waits h_way h_good h_left M_h_69)) hP hD hS hA [0, 1, 2, 3, 4, 5, 6, 7, 8, 9, 10] [] [0, 1, 2, 3, 4, 5, 6, 7, 8, 9, 10] rfl rfl (by decide) (by decide) rfl (by decide) (va_runV (As := []) (rest := []) ⟨hx, hb, hml, hown, hts⟩ (c_X12_aLine l dC dI cyB cyI cyZ cyO h h_all h_has h_read h_test h_rest h_gets h_waits h_way h_good h_left _ M_h M_h_69 h69) (cwV 0 hts gX12_decree_X12_aLine rfl rfl rfl (by decide +kernel) ⟨Nat.le_of_ble_eq_true rfl, Nat.le_of_ble_eq_true rfl⟩) ⟨PW.blind, va_recv hK hP (ci := 12) (q0 := 0) rfl rfl, fun U hU hW => ⟨rfl, by rw [hU], by rw [hU]; exact hP, hCx.warm hW, hD.weaken (fun _ _ _ _ => trivial)⟩⟩ rfl rfl hl.1 rfl (lv_room (Nat.le_of_ble_eq_true rfl)) dX12_decree_69 ⟨Nat.zero_le _, Nat.zero_le _⟩) (fun H locs hP hD hS => ?_)
          refine lv_goto (tgt := 54) hx hb dX12_decree_72 (by decide) ?_
          exact ih M_h_69 _ _ ls hf hP hD hS (lv_sub hl [0] rfl)
  rw [f_X12_decree] at hf
  refine lv_aload_n hx hb dX12_decree_0 rfl (lv_at hl 0 rfl) ?_
  refine lv_aload_n hx hb dX12_decree_1 rfl (lv_at hl 0 rfl) ?_
  refine va_get (D := (dC, dI)) (ci := 12) (v := .ref h_all) (C := RX12) (T := TX12) (N := 21) hx hb hts hin12 hown hK hP 0 rfl rfl 0 (by decide) kf7 (fun _ h9 => h9) rfl dX12_decree_2 ?_
  refine lv_bipush (v := (12 : Int32)) hx hb dX12_decree_5 (by decide) ?_
  refine va_iald hx hb hK hP 1 1 rfl rfl (show ¬ ((12 : Int32) < 0 ∨ 11160 ≤ ((12 : Int32)).toNatClampNeg) by decide) dX12_decree_7 ?_
  refine va_put (D := (dC, dI)) (ci := 12) (v := .int (M_h 0 ((12 : Int32)).toNatClampNeg)) (ty := .int) (C := RX12) (T := TX12) (N := 21) hx hb hts hin12 tyX12 tyX12_ok nmX12 hown hK hP hD hS 0 rfl rfl 2 (by decide) kf41 (fun _ h9 => h9) rfl (by decide +kernel) rfl rfl (Nat.le_of_ble_eq_true rfl) dX12_decree_8 (fun H locs hP hD hS => ?_)
  obtain ⟨M_h_8, eM_h_8, hf⟩ := wr_some hf
  have hP : va_P (dC, dI) vwCl (wX12 cyB cyI cyZ cyO h h_all h_has h_read h_test h_rest h_gets h_waits h_way h_good h_left M_h_8) H := by rw [eM_h_8]; exact hP
  have hD : va_D A (wX12 cyB cyI cyZ cyO h h_all h_has h_read h_test h_rest h_gets h_waits h_way h_good h_left M_h_8) := by rw [eM_h_8]; exact hD
  refine lv_aload_n hx hb dX12_decree_11 rfl (lv_at hl 0 rfl) ?_
  refine va_get (D := (dC, dI)) (ci := 12) (v := .ref h_all) (C := RX12) (T := TX12) (N := 21) hx hb hts hin12 hown hK hP 0 rfl rfl 0 (by decide) kf7 (fun _ h9 => h9) rfl dX12_decree_12 ?_
  refine lv_bipush (v := (12 : Int32)) hx hb dX12_decree_15 (by decide) ?_
  refine lv_iconst (v := (0 : Int32)) hx hb dX12_decree_17 (by decide) ?_
  refine va_iast hx hb hK hP hD hS 1 1 rfl rfl (show ¬ ((12 : Int32) < 0 ∨ 11160 ≤ ((12 : Int32)).toNatClampNeg) by decide) dX12_decree_18 (fun H locs hP hD hS => ?_)
  obtain ⟨M_h_18, eM_h_18, hf⟩ := wr_some hf
  have hP : va_P (dC, dI) vwCl (wX12 cyB cyI cyZ cyO h h_all h_has h_read h_test h_rest h_gets h_waits h_way h_good h_left M_h_18) H := by rw [eM_h_18]; exact hP
  have hD : va_D A (wX12 cyB cyI cyZ cyO h h_all h_has h_read h_test h_rest h_gets h_waits h_way h_good h_left M_h_18) := by rw [eM_h_18]; exact hD
  refine lv_aload_n hx hb dX12_decree_19 rfl (lv_at hl 0 rfl) ?_
  refine lv_iconst (v := (0 : Int32)) hx hb dX12_decree_20 (by decide) ?_
  refine va_put (D := (dC, dI)) (ci := 12) (v := .int (0 : Int32)) (ty := .int) (C := RX12) (T := TX12) (N := 21) hx hb hts hin12 tyX12 tyX12_ok nmX12 hown hK hP hD hS 0 rfl rfl 3 (by decide) kf65 (fun _ h9 => h9) rfl (by decide +kernel) rfl rfl (Nat.le_of_ble_eq_true rfl) dX12_decree_21 (fun H locs hP hD hS => ?_)
  obtain ⟨M_h_21, eM_h_21, hf⟩ := wr_some hf
  have hP : va_P (dC, dI) vwCl (wX12 cyB cyI cyZ cyO h h_all h_has h_read h_test h_rest h_gets h_waits h_way h_good h_left M_h_21) H := by rw [eM_h_21]; exact hP
  have hD : va_D A (wX12 cyB cyI cyZ cyO h h_all h_has h_read h_test h_rest h_gets h_waits h_way h_good h_left M_h_21) := by rw [eM_h_21]; exact hD
  refine lv_aload_n hx hb dX12_decree_24 rfl (lv_at hl 0 rfl) ?_
  refine va_get (D := (dC, dI)) (ci := 12) (v := .ref h_all) (C := RX12) (T := TX12) (N := 21) hx hb hts hin12 hown hK hP 0 rfl rfl 0 (by decide) kf7 (fun _ h9 => h9) rfl dX12_decree_25 ?_
  refine lv_bipush (v := (13 : Int32)) hx hb dX12_decree_28 (by decide) ?_
  refine lv_iconst (v := (0 : Int32)) hx hb dX12_decree_30 (by decide) ?_
  refine va_iast hx hb hK hP hD hS 1 1 rfl rfl (show ¬ ((13 : Int32) < 0 ∨ 11160 ≤ ((13 : Int32)).toNatClampNeg) by decide) dX12_decree_31 (fun H locs hP hD hS => ?_)
  obtain ⟨M_h_31, eM_h_31, hf⟩ := wr_some hf
  have hP : va_P (dC, dI) vwCl (wX12 cyB cyI cyZ cyO h h_all h_has h_read h_test h_rest h_gets h_waits h_way h_good h_left M_h_31) H := by rw [eM_h_31]; exact hP
  have hD : va_D A (wX12 cyB cyI cyZ cyO h h_all h_has h_read h_test h_rest h_gets h_waits h_way h_good h_left M_h_31) := by rw [eM_h_31]; exact hD
  refine lv_aload_n hx hb dX12_decree_32 rfl (lv_at hl 0 rfl) ?_
  refine va_get (D := (dC, dI)) (ci := 12) (v := .ref h_all) (C := RX12) (T := TX12) (N := 21) hx hb hts hin12 hown hK hP 0 rfl rfl 0 (by decide) kf7 (fun _ h9 => h9) rfl dX12_decree_33 ?_
  refine lv_bipush (v := (14 : Int32)) hx hb dX12_decree_36 (by decide) ?_
  refine lv_iconst (v := (-1 : Int32)) hx hb dX12_decree_38 (by decide) ?_
  refine va_iast hx hb hK hP hD hS 1 1 rfl rfl (show ¬ ((14 : Int32) < 0 ∨ 11160 ≤ ((14 : Int32)).toNatClampNeg) by decide) dX12_decree_39 (fun H locs hP hD hS => ?_)
  obtain ⟨M_h_39, eM_h_39, hf⟩ := wr_some hf
  have hP : va_P (dC, dI) vwCl (wX12 cyB cyI cyZ cyO h h_all h_has h_read h_test h_rest h_gets h_waits h_way h_good h_left M_h_39) H := by rw [eM_h_39]; exact hP
  have hD : va_D A (wX12 cyB cyI cyZ cyO h h_all h_has h_read h_test h_rest h_gets h_waits h_way h_good h_left M_h_39) := by rw [eM_h_39]; exact hD
  refine lv_aload_n hx hb dX12_decree_40 rfl (lv_at hl 0 rfl) ?_
  refine lv_iconst (v := (0 : Int32)) hx hb dX12_decree_41 (by decide) ?_
  refine va_put (D := (dC, dI)) (ci := 12) (v := .int (0 : Int32)) (ty := .boolean) (C := RX12) (T := TX12) (N := 21) hx hb hts hin12 tyX12 tyX12_ok nmX12 hown hK hP hD hS 0 rfl rfl 9 (by decide) kf101 (fun _ h9 => h9) rfl (by decide +kernel) rfl rfl (Nat.le_of_ble_eq_true rfl) dX12_decree_42 (fun H locs hP hD hS => ?_)
  obtain ⟨M_h_42, eM_h_42, hf⟩ := wr_some hf
  have hP : va_P (dC, dI) vwCl (wX12 cyB cyI cyZ cyO h h_all h_has h_read h_test h_rest h_gets h_waits h_way h_good h_left M_h_42) H := by rw [eM_h_42]; exact hP
  have hD : va_D A (wX12 cyB cyI cyZ cyO h h_all h_has h_read h_test h_rest h_gets h_waits h_way h_good h_left M_h_42) := by rw [eM_h_42]; exact hD
  refine lv_aload_n hx hb dX12_decree_45 rfl (lv_at hl 0 rfl) ?_
  refine lv_iconst (v := (0 : Int32)) hx hb dX12_decree_46 (by decide) ?_
  refine va_put (D := (dC, dI)) (ci := 12) (v := .int (0 : Int32)) (ty := .int) (C := RX12) (T := TX12) (N := 21) hx hb hts hin12 tyX12 tyX12_ok nmX12 hown hK hP hD hS 0 rfl rfl 10 (by decide) kf122 (fun _ h9 => h9) rfl (by decide +kernel) rfl rfl (Nat.le_of_ble_eq_true rfl) dX12_decree_47 (fun H locs hP hD hS => ?_)
  obtain ⟨M_h_47, eM_h_47, hf⟩ := wr_some hf
  have hP : va_P (dC, dI) vwCl (wX12 cyB cyI cyZ cyO h h_all h_has h_read h_test h_rest h_gets h_waits h_way h_good h_left M_h_47) H := by rw [eM_h_47]; exact hP
  have hD : va_D A (wX12 cyB cyI cyZ cyO h h_all h_has h_read h_test h_rest h_gets h_waits h_way h_good h_left M_h_47) := by rw [eM_h_47]; exact hD
  refine lv_aload_n hx hb dX12_decree_50 rfl (lv_at hl 0 rfl) ?_
  obtain ⟨M_h_51, h51, hf⟩ := bd1_some hf
  refine wr_callv (wc := (wX12 cyB cyI cyZ cyO h h_all h_has h_read h_test h_rest h_gets h_waits h_way h_good h_left M_h_47)) (wr := ([] : va_W)) (w1 := (wX12 cyB cyI cyZ cyO h h_all h_has h_read h_test h_rest h_gets h_waits h_way h_good h_left M_h_51)) (ws' := (wX12 cyB cyI cyZ cyO h h_all h_has h_read h_test h_rest h_gets h_waits h_way h_good h_left M_h_51)) hP hD hS hA [0, 1, 2, 3, 4, 5, 6, 7, 8, 9, 10] [] [0, 1, 2, 3, 4, 5, 6, 7, 8, 9, 10] rfl rfl (by decide) (by decide) rfl (by decide) (va_runV (As := []) (rest := []) ⟨hx, hb, hml, hown, hts⟩ (c_X12_advance l dC dI cyB cyI cyZ cyO h h_all h_has h_read h_test h_rest h_gets h_waits h_way h_good h_left _ M_h_47 M_h_51 h51) (cwV 0 hts gX12_decree_X12_advance rfl rfl rfl (by decide +kernel) ⟨Nat.le_of_ble_eq_true rfl, Nat.le_of_ble_eq_true rfl⟩) ⟨PW.blind, va_recv hK hP (ci := 12) (q0 := 0) rfl rfl, fun U hU hW => ⟨rfl, by rw [hU], by rw [hU]; exact hP, hCx.warm hW, hD.weaken (fun _ _ _ _ => trivial)⟩⟩ rfl rfl hl.1 rfl (lv_room (Nat.le_of_ble_eq_true rfl)) dX12_decree_51 ⟨Nat.zero_le _, Nat.zero_le _⟩) (fun H locs hP hD hS => ?_)
  exact L54 FU M_h_51 _ _ ls hf hP hD hS (lv_sub hl [0] rfl)
set_option maxHeartbeats 4000000 in
set_option maxRecDepth 100000 in
theorem c_X12_fault (l : Launch) (dC : Nat → ClassId) (dI : Nat → Nat → Nat) (cyB cyI cyZ cyO : ClassId) (h h_all h_has h_read h_test h_rest h_gets h_waits h_way h_good h_left : Nat) (M_h : Mem) (p1 : Int32) (r : Int32) (hf : f_X12_fault M_h p1 = some r) : Met l yX12_fault wsX12_fault ({ frames := 0, cells := 0, slots := 0, locals := 0 } : Room) (PR dC dI cyB cyI cyZ cyO ([.ref h, .int p1] : List Value) (wX12 cyB cyI cyZ cyO h h_all h_has h_read h_test h_rest h_gets h_waits h_way h_good h_left M_h)) (QR (some (.int r))) 0 0 (fun _ => False) := by
  refine Met.ofW (cc := cX12_fault) (maxL := 2) (ret := (some .int)) (by decide) rfl ?_
  intro p e s m args below meth c s₁ B hml hv
  obtain ⟨rfl, hP, hCx⟩ := hv
  have hK := hCx.1
  have hN := hCx.2
  have hx := B.exec
  have hb := B.bytes
  have hr := B.returns
  have hts := atoms_spec (ws := wsX12_fault) B.pre
  have hown : s.vm.findClass RX12 = some m.cls := findClass_of_methodNamed B.named
  have hlocks := B.notSynchronized
  have hin12 : ∀ w ∈ u_ws RX12 TX12 21, w ∈ wsX12_fault := fun w h => List.mem_cons_of_mem _ (List.mem_append_right _ h)
  have kf7 := hts (.fieldLink RX12 7 "HoldSlipsModel" "all" "[I") (by decide +kernel)
  have hl := lv_entry ([.ref h, .int p1] : List Value) (n := 2) (Nat.le_of_ble_eq_true rfl)
  rw [lg_entry_eq]
  generalize (lg_sl ([.ref h, .int p1] : List Value) ++ List.replicate (2 - (lg_sl ([.ref h, .int p1] : List Value)).length) Slot.unset).toArray = ls at hl ⊢
  have hl : lv_has ls 2 [(0, .ref h), (1, .int p1)] := hl
  rw [f_X12_fault] at hf
  refine lv_iload_n hx hb dX12_fault_0 rfl (lv_at hl 1 rfl) ?_
  refine lv_if_ne (tgt := 14) hx hb dX12_fault_1 (by decide) (fun hc1 => ?_) (fun hc1 => ?_)
  · rw [if_neg hc1] at hf
    refine lv_iload_n hx hb dX12_fault_14 rfl (lv_at hl 1 rfl) ?_
    refine lv_iconst (v := (1 : Int32)) hx hb dX12_fault_15 (by decide) ?_
    refine lv_icmp_ne (tgt := 29) hx hb dX12_fault_16 (by decide) (fun hc16 => ?_) (fun hc16 => ?_)
    · rw [if_neg hc16] at hf
      refine lv_iconst (v := (-1 : Int32)) hx hb dX12_fault_29 (by decide) ?_
      have hq := Option.some.inj hf
      subst hq
      exact W.iret (v := (-1 : Int32)) hx hb hr (fun t ht hW => ⟨rfl, ht⟩) (fun q h => by cases h) dX12_fault_30
    · rw [if_pos hc16] at hf
      refine lv_aload_n hx hb dX12_fault_19 rfl (lv_at hl 0 rfl) ?_
      refine va_get (D := (dC, dI)) (ci := 12) (v := .ref h_all) (C := RX12) (T := TX12) (N := 21) hx hb hts hin12 hown hK hP 0 rfl rfl 0 (by decide) kf7 (fun _ h9 => h9) rfl dX12_fault_20 ?_
      refine lv_bipush (v := (14 : Int32)) hx hb dX12_fault_23 (by decide) ?_
      refine va_iald hx hb hK hP 1 1 rfl rfl (show ¬ ((14 : Int32) < 0 ∨ 11160 ≤ ((14 : Int32)).toNatClampNeg) by decide) dX12_fault_25 ?_
      refine lv_goto (tgt := 30) hx hb dX12_fault_26 (by decide) ?_
      have hq := Option.some.inj hf
      subst hq
      exact W.iret (v := (M_h 0 ((14 : Int32)).toNatClampNeg)) hx hb hr (fun t ht hW => ⟨rfl, ht⟩) (fun q h => by cases h) dX12_fault_30
  · rw [if_pos hc1] at hf
    refine lv_aload_n hx hb dX12_fault_4 rfl (lv_at hl 0 rfl) ?_
    refine va_get (D := (dC, dI)) (ci := 12) (v := .ref h_all) (C := RX12) (T := TX12) (N := 21) hx hb hts hin12 hown hK hP 0 rfl rfl 0 (by decide) kf7 (fun _ h9 => h9) rfl dX12_fault_5 ?_
    refine lv_bipush (v := (13 : Int32)) hx hb dX12_fault_8 (by decide) ?_
    refine va_iald hx hb hK hP 1 1 rfl rfl (show ¬ ((13 : Int32) < 0 ∨ 11160 ≤ ((13 : Int32)).toNatClampNeg) by decide) dX12_fault_10 ?_
    refine lv_goto (tgt := 30) hx hb dX12_fault_11 (by decide) ?_
    have hq := Option.some.inj hf
    subst hq
    exact W.iret (v := (M_h 0 ((13 : Int32)).toNatClampNeg)) hx hb hr (fun t ht hW => ⟨rfl, ht⟩) (fun q h => by cases h) dX12_fault_30
