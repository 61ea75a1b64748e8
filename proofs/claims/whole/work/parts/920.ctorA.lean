/-! ===== constructors: their ends, their calls ===== -/
def QC (dC : Nat → ClassId) (dI : Nat → Nat → Nat) (Φ : va_W → Prop) (A : Nat → Prop) : Array Value → State → Outcome → State → Prop := fun _ st o t => o = .returned none ∧ ∃ w1, Φ w1 ∧ va_P (dC, dI) vwCl w1 t.heap ∧ va_D A w1 ∧ va_F A st t
theorem cn_call {p : Program} {l : Launch} {e : Env} {R : Room} {s : State} {m : MethodId} {args : Array Value} {below : List Frame} {meth : Method} {c : Code} {H : Heap} {locs : List Loc} {cells slots : Nat} {Q : State → Prop} {pc : Nat} {ls : Array Slot} {rest st0 : List Value} {a : Array Value} {dC : Nat → ClassId} {dI : Nat → Nat → Nat} {A0 : Nat → Prop} {H0 : Heap} {mc ms : Nat} {ws wc wr : va_W} {Φ : va_W → Prop} (hP : va_P (dC, dI) vwCl ws H) (hD : va_D A0 ws) (hS : va_S A0 H0 H locs) (hA : ∀ q, H0.size ≤ q → A0 q)
    (isC isR : List Nat) (hC : isC.map (fun i => ws[i]?) = wc.map some) (hR : isR.map (fun i => ws[i]?) = wr.map some) (hn : va_nd isR = true) (hdis : ∀ i ∈ isR, i ∉ isC)
    (hr : va_Run p l e R s m args below meth c H locs cells slots mc ms (F0 m pc ls st0) rest (QC dC dI Φ (va_A wc H.size) a) (va_A wc H.size))
    (kk : ∀ (w1 : va_W) (H1 : Heap) (locs1 : List Loc), Φ w1 → va_P (dC, dI) vwCl (wr ++ w1) H1 → va_D A0 (wr ++ w1) → va_S A0 H0 H1 locs1 → W p l e R s m args below meth c H1 locs1 (cells + mc) (slots + ms) Q (F0 m (pc + 3) ls rest)) : W p l e R s m args below meth c H locs cells slots Q (F0 m pc ls st0) := by
  intro T hT X
  have hF := va_free (wc := wc) hD hS hA isC hC
  obtain ⟨v', st₀, t, T', L, h0, X', hL, e1, e2, ⟨hv, w1, hΦ, hP1, hD1, hz, hk⟩, st⟩ := hr T hT X
  cases hv
  rw [h0] at hz hk
  have hj := va_join hP hD isC isR hC hR hn hdis hk hF hP1 hD1
  obtain ⟨t2, a1, b1⟩ := kk w1 T'.heap (locs ++ L) hΦ (by rw [e1]; exact hj.1) hj.2
    ⟨Nat.le_trans hS.1 (by rw [e1]; exact hz), fun q h1 h2 => by rw [e1, hk q (Nat.lt_of_lt_of_le h1 hS.1) (fun z => h2 (hF q z))]; exact hS.2.1 q h1 h2, fun q hq => by
      rcases List.mem_append.mp hq with h | h
      · exact hS.2.2 q h
      · exact hF _ (hL q h)⟩ T' rfl X'
  exact ⟨t2, st t2 a1, b1⟩
def PWO (dC : Nat → ClassId) (dI : Nat → Nat → Nat) (cyB cyI cyZ cyO : ClassId) (av : List Value) (w : va_W) (sz : Nat) : Array Value → State → Prop := va_Pc av (fun U => U.heap.size = sz ∧ va_P (dC, dI) vwCl w U.heap ∧ Cx dC dI cyB cyI cyZ cyO U ∧ va_D (fun _ => True) w ∧ va_AO RX7 U)
theorem PWO.blind {dC : Nat → ClassId} {dI : Nat → Nat → Nat} {cyB cyI cyZ cyO : ClassId} {av : List Value} {w : va_W} {sz : Nat} : FrameBlind (PWO dC dI cyB cyI cyZ cyO av w sz) := fun a U g mk q => ⟨q.1, q.2.1, q.2.2.1, q.2.2.2.1.calling g mk a, q.2.2.2.2.1, va_AO.moved (u := U) (U := U.calling g mk a) (Vm.Alike.refl U.vm) q.2.2.2.2.2⟩
set_option maxHeartbeats 4000000 in
set_option maxRecDepth 100000 in
theorem c_X0_init (l : Launch) (dC : Nat → ClassId) (dI : Nat → Nat → Nat) (cyB cyI cyZ cyO : ClassId) (h : Nat) (sz : Nat) : Met l yX0_init wsX0_init ({ frames := 1, cells := 8, slots := 96, locals := 40 } : Room) (PW dC dI cyB cyI cyZ cyO ([.ref h] : List Value) ([(h, .inr (0, [.int 0, .null, .null, .null, .null, .null, .null, .null, .int 0, .null]))] : va_W) sz) (QC dC dI (fun w => ∃ q12 q20 q28 q36 q44 q52 q60 q73 : Nat, w = (wX0 cyB cyI cyZ cyO h q12 q20 q28 q36 q44 q52 q60 q73 m0X0)) (va_A ([(h, .inr (0, [.int 0, .null, .null, .null, .null, .null, .null, .null, .int 0, .null]))] : va_W) sz)) 8 96 (va_A ([(h, .inr (0, [.int 0, .null, .null, .null, .null, .null, .null, .null, .int 0, .null]))] : va_W) sz) := by
  refine Met.ofW (cc := cX0_init) (maxL := 1) (ret := none) (by decide) rfl ?_
  intro p e s m args below meth c s₁ B hml hv
  obtain ⟨rfl, hsz, hP, hCx, hD0⟩ := hv
  have hK := hCx.1
  have hN := hCx.2
  have hx := B.exec
  have hb := B.bytes
  have hr := B.returns
  have hts := atoms_spec (ws := wsX0_init) B.pre
  have hown : s.vm.findClass RX0 = some m.cls := findClass_of_methodNamed B.named
  have hlocks := B.notSynchronized
  have hin : meth.name = "<init>" := (name_of_methodNamed B.named B.method).1
  have hin0 : ∀ w ∈ u_ws RX0 TX0 10, w ∈ wsX0_init := fun w h => List.mem_cons_of_mem _ (List.mem_append_right _ h)
  have kf9 := hts (.fieldLink RX0 9 "HoldSlips$Bales" "number" "I") (by decide +kernel)
  have kf15 := hts (.fieldLink RX0 15 "HoldSlips$Bales" "owner" "[I") (by decide +kernel)
  have kf19 := hts (.fieldLink RX0 19 "HoldSlips$Bales" "size" "[I") (by decide +kernel)
  have kf22 := hts (.fieldLink RX0 22 "HoldSlips$Bales" "weight" "[I") (by decide +kernel)
  have kf25 := hts (.fieldLink RX0 25 "HoldSlips$Bales" "worth" "[I") (by decide +kernel)
  have kf28 := hts (.fieldLink RX0 28 "HoldSlips$Bales" "level" "[I") (by decide +kernel)
  have kf31 := hts (.fieldLink RX0 31 "HoldSlips$Bales" "holder" "[I") (by decide +kernel)
  have kf34 := hts (.fieldLink RX0 34 "HoldSlips$Bales" "side" "[I") (by decide +kernel)
  have kf37 := hts (.fieldLink RX0 37 "HoldSlips$Bales" "isPlanned" "Z") (by decide +kernel)
  have kf41 := hts (.fieldLink RX0 41 "HoldSlips$Bales" "planned" "[I") (by decide +kernel)
  subst hsz
  have hD := hD0.self (sz := s.heap.size)
  generalize hAe : va_A ([(h, .inr (0, [.int 0, .null, .null, .null, .null, .null, .null, .null, .int 0, .null]))] : va_W) s.heap.size = A at hD ⊢
  have hA : ∀ q : Nat, s.heap.size ≤ q → A q := fun q h => by rw [← hAe]; exact Or.inr h
  have hS : va_S A s.heap s.heap [] := va_S.rf
  have hl := lv_entry ([.ref h] : List Value) (n := 1) (Nat.le_of_ble_eq_true rfl)
  rw [lg_entry_eq]
  generalize (lg_sl ([.ref h] : List Value) ++ List.replicate (1 - (lg_sl ([.ref h] : List Value)).length) Slot.unset).toArray = ls at hl ⊢
  have hl : lv_has ls 1 [(0, .ref h)] := hl
  refine lv_aload_n hx hb dX0_init_0 rfl (lv_at hl 0 rfl) ?_
  refine W.objInit hx hb hown (hts (.methodLink RX0 3 objectInit) (by decide +kernel)) (hts (.instanceMethod objectInit) (by decide +kernel)) (hts (.code objectInit ⟨#[0xb1]⟩ 1 none) (by decide +kernel)) rfl (by rw [hml]; exact hl.1) rfl dX0_init_1 (Nat.le_of_ble_eq_true rfl) (Nat.le_of_ble_eq_true rfl) ?_
  refine W.eq (g2 := F0 m 4 ls []) rfl ?_
  refine lv_aload_n hx hb dX0_init_4 rfl (lv_at hl 0 rfl) ?_
  refine lv_iconst (v := (0 : Int32)) hx hb dX0_init_5 (by decide) ?_
  refine va_put (D := (dC, dI)) (ci := 0) (v := .int (0 : Int32)) (ty := .int) (C := RX0) (T := TX0) (N := 10) hx hb hts hin0 tyX0 tyX0_ok nmX0 hown hK hP hD hS 0 rfl rfl 0 (by decide) kf9 (fun _ h9 => h9) rfl (by decide +kernel) rfl rfl (Nat.le_of_ble_eq_true rfl) dX0_init_6 (fun H locs hP hD hS => ?_)
  have hP : va_P (dC, dI) vwCl ([(h, .inr (0, [.int (0 : Int32), .null, .null, .null, .null, .null, .null, .null, .int 0, .null]))] : va_W) H := hP
  have hD : va_D A ([(h, .inr (0, [.int (0 : Int32), .null, .null, .null, .null, .null, .null, .null, .int 0, .null]))] : va_W) := hD
  refine lv_aload_n hx hb dX0_init_9 rfl (lv_at hl 0 rfl) ?_
  refine lv_bipush (v := (12 : Int32)) hx hb dX0_init_10 (by decide) ?_
  refine va_newa (atype := .int) (ty := .int) (n := (12 : Int32)) (a0 := (12, .inl (fun _ => 0))) hx hb (hts (.arrayClass .int) (by decide +kernel)) rfl hK hP hD hS hA (fun cA => vp_cell_i cA 12 (fun _ => 0)) (by decide) (N' := 12) (by decide) (by decide) (Nat.le_of_ble_eq_true rfl) (Nat.le_of_ble_eq_true rfl) dX0_init_12 (fun q12 cA H hKn hP hD hS => ?_)
  have eA := Option.some.inj ((hK.2 1 _ rfl).2.symm.trans (hKn.2 4 _ rfl).2)
  subst eA
  clear hKn
  have hP : va_P (dC, dI) vwCl (([(h, .inr (0, [.int (0 : Int32), .null, .null, .null, .null, .null, .null, .null, .int 0, .null]))] : va_W) ++ ([(q12, .inl (cyI, 12, .inl (fun _ => 0)))] : va_W)) H := hP
  have hD : va_D A (([(h, .inr (0, [.int (0 : Int32), .null, .null, .null, .null, .null, .null, .null, .int 0, .null]))] : va_W) ++ ([(q12, .inl (cyI, 12, .inl (fun _ => 0)))] : va_W)) := hD
  refine W.widen (k := 1) (n := 12) (by omega) (by omega) ?_
  refine va_putF (D := (dC, dI)) (ci := 0) (v := .ref q12) (ty := .array .int) (C := RX0) (T := TX0) (N := 10) hx hb hts hin0 tyX0 tyX0_ok nmX0 hown hK hP hD hS 0 rfl rfl 1 (by decide) kf15 (fun _ h9 => h9) rfl hin rfl (by decide +kernel) rfl rfl (Nat.le_of_ble_eq_true rfl) dX0_init_14 (fun H locs hP hD hS => ?_)
  have hP : va_P (dC, dI) vwCl (([(h, .inr (0, [.int (0 : Int32), .ref q12, .null, .null, .null, .null, .null, .null, .int 0, .null]))] : va_W) ++ ([(q12, .inl (cyI, 12, .inl (fun _ => 0)))] : va_W)) H := hP
  have hD : va_D A (([(h, .inr (0, [.int (0 : Int32), .ref q12, .null, .null, .null, .null, .null, .null, .int 0, .null]))] : va_W) ++ ([(q12, .inl (cyI, 12, .inl (fun _ => 0)))] : va_W)) := hD
  refine lv_aload_n hx hb dX0_init_17 rfl (lv_at hl 0 rfl) ?_
  refine lv_bipush (v := (12 : Int32)) hx hb dX0_init_18 (by decide) ?_
  refine va_newa (atype := .int) (ty := .int) (n := (12 : Int32)) (a0 := (12, .inl (fun _ => 0))) hx hb (hts (.arrayClass .int) (by decide +kernel)) rfl hK hP hD hS hA (fun cA => vp_cell_i cA 12 (fun _ => 0)) (by decide) (N' := 12) (by decide) (by decide) (Nat.le_of_ble_eq_true rfl) (Nat.le_of_ble_eq_true rfl) dX0_init_20 (fun q20 cA H hKn hP hD hS => ?_)
  have eA := Option.some.inj ((hK.2 1 _ rfl).2.symm.trans (hKn.2 4 _ rfl).2)
  subst eA
  clear hKn
  have hP : va_P (dC, dI) vwCl (([(h, .inr (0, [.int (0 : Int32), .ref q12, .null, .null, .null, .null, .null, .null, .int 0, .null]))] : va_W) ++ (([(q12, .inl (cyI, 12, .inl (fun _ => 0)))] : va_W) ++ ([(q20, .inl (cyI, 12, .inl (fun _ => 0)))] : va_W))) H := hP
  have hD : va_D A (([(h, .inr (0, [.int (0 : Int32), .ref q12, .null, .null, .null, .null, .null, .null, .int 0, .null]))] : va_W) ++ (([(q12, .inl (cyI, 12, .inl (fun _ => 0)))] : va_W) ++ ([(q20, .inl (cyI, 12, .inl (fun _ => 0)))] : va_W))) := hD
  refine W.widen (k := 2) (n := 24) (by omega) (by omega) ?_
  refine va_putF (D := (dC, dI)) (ci := 0) (v := .ref q20) (ty := .array .int) (C := RX0) (T := TX0) (N := 10) hx hb hts hin0 tyX0 tyX0_ok nmX0 hown hK hP hD hS 0 rfl rfl 2 (by decide) kf19 (fun _ h9 => h9) rfl hin rfl (by decide +kernel) rfl rfl (Nat.le_of_ble_eq_true rfl) dX0_init_22 (fun H locs hP hD hS => ?_)
  have hP : va_P (dC, dI) vwCl (([(h, .inr (0, [.int (0 : Int32), .ref q12, .ref q20, .null, .null, .null, .null, .null, .int 0, .null]))] : va_W) ++ (([(q12, .inl (cyI, 12, .inl (fun _ => 0)))] : va_W) ++ ([(q20, .inl (cyI, 12, .inl (fun _ => 0)))] : va_W))) H := hP
  have hD : va_D A (([(h, .inr (0, [.int (0 : Int32), .ref q12, .ref q20, .null, .null, .null, .null, .null, .int 0, .null]))] : va_W) ++ (([(q12, .inl (cyI, 12, .inl (fun _ => 0)))] : va_W) ++ ([(q20, .inl (cyI, 12, .inl (fun _ => 0)))] : va_W))) := hD
  refine lv_aload_n hx hb dX0_init_25 rfl (lv_at hl 0 rfl) ?_
  refine lv_bipush (v := (12 : Int32)) hx hb dX0_init_26 (by decide) ?_
  refine va_newa (atype := .int) (ty := .int) (n := (12 : Int32)) (a0 := (12, .inl (fun _ => 0))) hx hb (hts (.arrayClass .int) (by decide +kernel)) rfl hK hP hD hS hA (fun cA => vp_cell_i cA 12 (fun _ => 0)) (by decide) (N' := 12) (by decide) (by decide) (Nat.le_of_ble_eq_true rfl) (Nat.le_of_ble_eq_true rfl) dX0_init_28 (fun q28 cA H hKn hP hD hS => ?_)
  have eA := Option.some.inj ((hK.2 1 _ rfl).2.symm.trans (hKn.2 4 _ rfl).2)
  subst eA
  clear hKn
  have hP : va_P (dC, dI) vwCl (([(h, .inr (0, [.int (0 : Int32), .ref q12, .ref q20, .null, .null, .null, .null, .null, .int 0, .null]))] : va_W) ++ (([(q12, .inl (cyI, 12, .inl (fun _ => 0)))] : va_W) ++ (([(q20, .inl (cyI, 12, .inl (fun _ => 0)))] : va_W) ++ ([(q28, .inl (cyI, 12, .inl (fun _ => 0)))] : va_W)))) H := hP
  have hD : va_D A (([(h, .inr (0, [.int (0 : Int32), .ref q12, .ref q20, .null, .null, .null, .null, .null, .int 0, .null]))] : va_W) ++ (([(q12, .inl (cyI, 12, .inl (fun _ => 0)))] : va_W) ++ (([(q20, .inl (cyI, 12, .inl (fun _ => 0)))] : va_W) ++ ([(q28, .inl (cyI, 12, .inl (fun _ => 0)))] : va_W)))) := hD
  refine W.widen (k := 3) (n := 36) (by omega) (by omega) ?_
  refine va_putF (D := (dC, dI)) (ci := 0) (v := .ref q28) (ty := .array .int) (C := RX0) (T := TX0) (N := 10) hx hb hts hin0 tyX0 tyX0_ok nmX0 hown hK hP hD hS 0 rfl rfl 3 (by decide) kf22 (fun _ h9 => h9) rfl hin rfl (by decide +kernel) rfl rfl (Nat.le_of_ble_eq_true rfl) dX0_init_30 (fun H locs hP hD hS => ?_)
  have hP : va_P (dC, dI) vwCl (([(h, .inr (0, [.int (0 : Int32), .ref q12, .ref q20, .ref q28, .null, .null, .null, .null, .int 0, .null]))] : va_W) ++ (([(q12, .inl (cyI, 12, .inl (fun _ => 0)))] : va_W) ++ (([(q20, .inl (cyI, 12, .inl (fun _ => 0)))] : va_W) ++ ([(q28, .inl (cyI, 12, .inl (fun _ => 0)))] : va_W)))) H := hP
  have hD : va_D A (([(h, .inr (0, [.int (0 : Int32), .ref q12, .ref q20, .ref q28, .null, .null, .null, .null, .int 0, .null]))] : va_W) ++ (([(q12, .inl (cyI, 12, .inl (fun _ => 0)))] : va_W) ++ (([(q20, .inl (cyI, 12, .inl (fun _ => 0)))] : va_W) ++ ([(q28, .inl (cyI, 12, .inl (fun _ => 0)))] : va_W)))) := hD
  refine lv_aload_n hx hb dX0_init_33 rfl (lv_at hl 0 rfl) ?_
  refine lv_bipush (v := (12 : Int32)) hx hb dX0_init_34 (by decide) ?_
  refine va_newa (atype := .int) (ty := .int) (n := (12 : Int32)) (a0 := (12, .inl (fun _ => 0))) hx hb (hts (.arrayClass .int) (by decide +kernel)) rfl hK hP hD hS hA (fun cA => vp_cell_i cA 12 (fun _ => 0)) (by decide) (N' := 12) (by decide) (by decide) (Nat.le_of_ble_eq_true rfl) (Nat.le_of_ble_eq_true rfl) dX0_init_36 (fun q36 cA H hKn hP hD hS => ?_)
  have eA := Option.some.inj ((hK.2 1 _ rfl).2.symm.trans (hKn.2 4 _ rfl).2)
  subst eA
  clear hKn
  have hP : va_P (dC, dI) vwCl (([(h, .inr (0, [.int (0 : Int32), .ref q12, .ref q20, .ref q28, .null, .null, .null, .null, .int 0, .null]))] : va_W) ++ (([(q12, .inl (cyI, 12, .inl (fun _ => 0)))] : va_W) ++ (([(q20, .inl (cyI, 12, .inl (fun _ => 0)))] : va_W) ++ (([(q28, .inl (cyI, 12, .inl (fun _ => 0)))] : va_W) ++ ([(q36, .inl (cyI, 12, .inl (fun _ => 0)))] : va_W))))) H := hP
  have hD : va_D A (([(h, .inr (0, [.int (0 : Int32), .ref q12, .ref q20, .ref q28, .null, .null, .null, .null, .int 0, .null]))] : va_W) ++ (([(q12, .inl (cyI, 12, .inl (fun _ => 0)))] : va_W) ++ (([(q20, .inl (cyI, 12, .inl (fun _ => 0)))] : va_W) ++ (([(q28, .inl (cyI, 12, .inl (fun _ => 0)))] : va_W) ++ ([(q36, .inl (cyI, 12, .inl (fun _ => 0)))] : va_W))))) := hD
  refine W.widen (k := 4) (n := 48) (by omega) (by omega) ?_
  refine va_putF (D := (dC, dI)) (ci := 0) (v := .ref q36) (ty := .array .int) (C := RX0) (T := TX0) (N := 10) hx hb hts hin0 tyX0 tyX0_ok nmX0 hown hK hP hD hS 0 rfl rfl 4 (by decide) kf25 (fun _ h9 => h9) rfl hin rfl (by decide +kernel) rfl rfl (Nat.le_of_ble_eq_true rfl) dX0_init_38 (fun H locs hP hD hS => ?_)
  have hP : va_P (dC, dI) vwCl (([(h, .inr (0, [.int (0 : Int32), .ref q12, .ref q20, .ref q28, .ref q36, .null, .null, .null, .int 0, .null]))] : va_W) ++ (([(q12, .inl (cyI, 12, .inl (fun _ => 0)))] : va_W) ++ (([(q20, .inl (cyI, 12, .inl (fun _ => 0)))] : va_W) ++ (([(q28, .inl (cyI, 12, .inl (fun _ => 0)))] : va_W) ++ ([(q36, .inl (cyI, 12, .inl (fun _ => 0)))] : va_W))))) H := hP
  have hD : va_D A (([(h, .inr (0, [.int (0 : Int32), .ref q12, .ref q20, .ref q28, .ref q36, .null, .null, .null, .int 0, .null]))] : va_W) ++ (([(q12, .inl (cyI, 12, .inl (fun _ => 0)))] : va_W) ++ (([(q20, .inl (cyI, 12, .inl (fun _ => 0)))] : va_W) ++ (([(q28, .inl (cyI, 12, .inl (fun _ => 0)))] : va_W) ++ ([(q36, .inl (cyI, 12, .inl (fun _ => 0)))] : va_W))))) := hD
  refine lv_aload_n hx hb dX0_init_41 rfl (lv_at hl 0 rfl) ?_
  refine lv_bipush (v := (12 : Int32)) hx hb dX0_init_42 (by decide) ?_
  refine va_newa (atype := .int) (ty := .int) (n := (12 : Int32)) (a0 := (12, .inl (fun _ => 0))) hx hb (hts (.arrayClass .int) (by decide +kernel)) rfl hK hP hD hS hA (fun cA => vp_cell_i cA 12 (fun _ => 0)) (by decide) (N' := 12) (by decide) (by decide) (Nat.le_of_ble_eq_true rfl) (Nat.le_of_ble_eq_true rfl) dX0_init_44 (fun q44 cA H hKn hP hD hS => ?_)
  have eA := Option.some.inj ((hK.2 1 _ rfl).2.symm.trans (hKn.2 4 _ rfl).2)
  subst eA
  clear hKn
  have hP : va_P (dC, dI) vwCl (([(h, .inr (0, [.int (0 : Int32), .ref q12, .ref q20, .ref q28, .ref q36, .null, .null, .null, .int 0, .null]))] : va_W) ++ (([(q12, .inl (cyI, 12, .inl (fun _ => 0)))] : va_W) ++ (([(q20, .inl (cyI, 12, .inl (fun _ => 0)))] : va_W) ++ (([(q28, .inl (cyI, 12, .inl (fun _ => 0)))] : va_W) ++ (([(q36, .inl (cyI, 12, .inl (fun _ => 0)))] : va_W) ++ ([(q44, .inl (cyI, 12, .inl (fun _ => 0)))] : va_W)))))) H := hP
  have hD : va_D A (([(h, .inr (0, [.int (0 : Int32), .ref q12, .ref q20, .ref q28, .ref q36, .null, .null, .null, .int 0, .null]))] : va_W) ++ (([(q12, .inl (cyI, 12, .inl (fun _ => 0)))] : va_W) ++ (([(q20, .inl (cyI, 12, .inl (fun _ => 0)))] : va_W) ++ (([(q28, .inl (cyI, 12, .inl (fun _ => 0)))] : va_W) ++ (([(q36, .inl (cyI, 12, .inl (fun _ => 0)))] : va_W) ++ ([(q44, .inl (cyI, 12, .inl (fun _ => 0)))] : va_W)))))) := hD
  refine W.widen (k := 5) (n := 60) (by omega) (by omega) ?_
  refine va_putF (D := (dC, dI)) (ci := 0) (v := .ref q44) (ty := .array .int) (C := RX0) (T := TX0) (N := 10) hx hb hts hin0 tyX0 tyX0_ok nmX0 hown hK hP hD hS 0 rfl rfl 5 (by decide) kf28 (fun _ h9 => h9) rfl hin rfl (by decide +kernel) rfl rfl (Nat.le_of_ble_eq_true rfl) dX0_init_46 (fun H locs hP hD hS => ?_)
  have hP : va_P (dC, dI) vwCl (([(h, .inr (0, [.int (0 : Int32), .ref q12, .ref q20, .ref q28, .ref q36, .ref q44, .null, .null, .int 0, .null]))] : va_W) ++ (([(q12, .inl (cyI, 12, .inl (fun _ => 0)))] : va_W) ++ (([(q20, .inl (cyI, 12, .inl (fun _ => 0)))] : va_W) ++ (([(q28, .inl (cyI, 12, .inl (fun _ => 0)))] : va_W) ++ (([(q36, .inl (cyI, 12, .inl (fun _ => 0)))] : va_W) ++ ([(q44, .inl (cyI, 12, .inl (fun _ => 0)))] : va_W)))))) H := hP
  have hD : va_D A (([(h, .inr (0, [.int (0 : Int32), .ref q12, .ref q20, .ref q28, .ref q36, .ref q44, .null, .null, .int 0, .null]))] : va_W) ++ (([(q12, .inl (cyI, 12, .inl (fun _ => 0)))] : va_W) ++ (([(q20, .inl (cyI, 12, .inl (fun _ => 0)))] : va_W) ++ (([(q28, .inl (cyI, 12, .inl (fun _ => 0)))] : va_W) ++ (([(q36, .inl (cyI, 12, .inl (fun _ => 0)))] : va_W) ++ ([(q44, .inl (cyI, 12, .inl (fun _ => 0)))] : va_W)))))) := hD
  refine lv_aload_n hx hb dX0_init_49 rfl (lv_at hl 0 rfl) ?_
  refine lv_bipush (v := (12 : Int32)) hx hb dX0_init_50 (by decide) ?_
  refine va_newa (atype := .int) (ty := .int) (n := (12 : Int32)) (a0 := (12, .inl (fun _ => 0))) hx hb (hts (.arrayClass .int) (by decide +kernel)) rfl hK hP hD hS hA (fun cA => vp_cell_i cA 12 (fun _ => 0)) (by decide) (N' := 12) (by decide) (by decide) (Nat.le_of_ble_eq_true rfl) (Nat.le_of_ble_eq_true rfl) dX0_init_52 (fun q52 cA H hKn hP hD hS => ?_)
  have eA := Option.some.inj ((hK.2 1 _ rfl).2.symm.trans (hKn.2 4 _ rfl).2)
  subst eA
  clear hKn
  have hP : va_P (dC, dI) vwCl (([(h, .inr (0, [.int (0 : Int32), .ref q12, .ref q20, .ref q28, .ref q36, .ref q44, .null, .null, .int 0, .null]))] : va_W) ++ (([(q12, .inl (cyI, 12, .inl (fun _ => 0)))] : va_W) ++ (([(q20, .inl (cyI, 12, .inl (fun _ => 0)))] : va_W) ++ (([(q28, .inl (cyI, 12, .inl (fun _ => 0)))] : va_W) ++ (([(q36, .inl (cyI, 12, .inl (fun _ => 0)))] : va_W) ++ (([(q44, .inl (cyI, 12, .inl (fun _ => 0)))] : va_W) ++ ([(q52, .inl (cyI, 12, .inl (fun _ => 0)))] : va_W))))))) H := hP
  have hD : va_D A (([(h, .inr (0, [.int (0 : Int32), .ref q12, .ref q20, .ref q28, .ref q36, .ref q44, .null, .null, .int 0, .null]))] : va_W) ++ (([(q12, .inl (cyI, 12, .inl (fun _ => 0)))] : va_W) ++ (([(q20, .inl (cyI, 12, .inl (fun _ => 0)))] : va_W) ++ (([(q28, .inl (cyI, 12, .inl (fun _ => 0)))] : va_W) ++ (([(q36, .inl (cyI, 12, .inl (fun _ => 0)))] : va_W) ++ (([(q44, .inl (cyI, 12, .inl (fun _ => 0)))] : va_W) ++ ([(q52, .inl (cyI, 12, .inl (fun _ => 0)))] : va_W))))))) := hD
  refine W.widen (k := 6) (n := 72) (by omega) (by omega) ?_
  refine va_putF (D := (dC, dI)) (ci := 0) (v := .ref q52) (ty := .array .int) (C := RX0) (T := TX0) (N := 10) hx hb hts hin0 tyX0 tyX0_ok nmX0 hown hK hP hD hS 0 rfl rfl 6 (by decide) kf31 (fun _ h9 => h9) rfl hin rfl (by decide +kernel) rfl rfl (Nat.le_of_ble_eq_true rfl) dX0_init_54 (fun H locs hP hD hS => ?_)
  have hP : va_P (dC, dI) vwCl (([(h, .inr (0, [.int (0 : Int32), .ref q12, .ref q20, .ref q28, .ref q36, .ref q44, .ref q52, .null, .int 0, .null]))] : va_W) ++ (([(q12, .inl (cyI, 12, .inl (fun _ => 0)))] : va_W) ++ (([(q20, .inl (cyI, 12, .inl (fun _ => 0)))] : va_W) ++ (([(q28, .inl (cyI, 12, .inl (fun _ => 0)))] : va_W) ++ (([(q36, .inl (cyI, 12, .inl (fun _ => 0)))] : va_W) ++ (([(q44, .inl (cyI, 12, .inl (fun _ => 0)))] : va_W) ++ ([(q52, .inl (cyI, 12, .inl (fun _ => 0)))] : va_W))))))) H := hP
  have hD : va_D A (([(h, .inr (0, [.int (0 : Int32), .ref q12, .ref q20, .ref q28, .ref q36, .ref q44, .ref q52, .null, .int 0, .null]))] : va_W) ++ (([(q12, .inl (cyI, 12, .inl (fun _ => 0)))] : va_W) ++ (([(q20, .inl (cyI, 12, .inl (fun _ => 0)))] : va_W) ++ (([(q28, .inl (cyI, 12, .inl (fun _ => 0)))] : va_W) ++ (([(q36, .inl (cyI, 12, .inl (fun _ => 0)))] : va_W) ++ (([(q44, .inl (cyI, 12, .inl (fun _ => 0)))] : va_W) ++ ([(q52, .inl (cyI, 12, .inl (fun _ => 0)))] : va_W))))))) := hD
  refine lv_aload_n hx hb dX0_init_57 rfl (lv_at hl 0 rfl) ?_
  refine lv_bipush (v := (12 : Int32)) hx hb dX0_init_58 (by decide) ?_
  refine va_newa (atype := .int) (ty := .int) (n := (12 : Int32)) (a0 := (12, .inl (fun _ => 0))) hx hb (hts (.arrayClass .int) (by decide +kernel)) rfl hK hP hD hS hA (fun cA => vp_cell_i cA 12 (fun _ => 0)) (by decide) (N' := 12) (by decide) (by decide) (Nat.le_of_ble_eq_true rfl) (Nat.le_of_ble_eq_true rfl) dX0_init_60 (fun q60 cA H hKn hP hD hS => ?_)
  have eA := Option.some.inj ((hK.2 1 _ rfl).2.symm.trans (hKn.2 4 _ rfl).2)
  subst eA
  clear hKn
  have hP : va_P (dC, dI) vwCl (([(h, .inr (0, [.int (0 : Int32), .ref q12, .ref q20, .ref q28, .ref q36, .ref q44, .ref q52, .null, .int 0, .null]))] : va_W) ++ (([(q12, .inl (cyI, 12, .inl (fun _ => 0)))] : va_W) ++ (([(q20, .inl (cyI, 12, .inl (fun _ => 0)))] : va_W) ++ (([(q28, .inl (cyI, 12, .inl (fun _ => 0)))] : va_W) ++ (([(q36, .inl (cyI, 12, .inl (fun _ => 0)))] : va_W) ++ (([(q44, .inl (cyI, 12, .inl (fun _ => 0)))] : va_W) ++ (([(q52, .inl (cyI, 12, .inl (fun _ => 0)))] : va_W) ++ ([(q60, .inl (cyI, 12, .inl (fun _ => 0)))] : va_W)))))))) H := hP
  have hD : va_D A (([(h, .inr (0, [.int (0 : Int32), .ref q12, .ref q20, .ref q28, .ref q36, .ref q44, .ref q52, .null, .int 0, .null]))] : va_W) ++ (([(q12, .inl (cyI, 12, .inl (fun _ => 0)))] : va_W) ++ (([(q20, .inl (cyI, 12, .inl (fun _ => 0)))] : va_W) ++ (([(q28, .inl (cyI, 12, .inl (fun _ => 0)))] : va_W) ++ (([(q36, .inl (cyI, 12, .inl (fun _ => 0)))] : va_W) ++ (([(q44, .inl (cyI, 12, .inl (fun _ => 0)))] : va_W) ++ (([(q52, .inl (cyI, 12, .inl (fun _ => 0)))] : va_W) ++ ([(q60, .inl (cyI, 12, .inl (fun _ => 0)))] : va_W)))))))) := hD
  refine W.widen (k := 7) (n := 84) (by omega) (by omega) ?_
  refine va_putF (D := (dC, dI)) (ci := 0) (v := .ref q60) (ty := .array .int) (C := RX0) (T := TX0) (N := 10) hx hb hts hin0 tyX0 tyX0_ok nmX0 hown hK hP hD hS 0 rfl rfl 7 (by decide) kf34 (fun _ h9 => h9) rfl hin rfl (by decide +kernel) rfl rfl (Nat.le_of_ble_eq_true rfl) dX0_init_62 (fun H locs hP hD hS => ?_)
  have hP : va_P (dC, dI) vwCl (([(h, .inr (0, [.int (0 : Int32), .ref q12, .ref q20, .ref q28, .ref q36, .ref q44, .ref q52, .ref q60, .int 0, .null]))] : va_W) ++ (([(q12, .inl (cyI, 12, .inl (fun _ => 0)))] : va_W) ++ (([(q20, .inl (cyI, 12, .inl (fun _ => 0)))] : va_W) ++ (([(q28, .inl (cyI, 12, .inl (fun _ => 0)))] : va_W) ++ (([(q36, .inl (cyI, 12, .inl (fun _ => 0)))] : va_W) ++ (([(q44, .inl (cyI, 12, .inl (fun _ => 0)))] : va_W) ++ (([(q52, .inl (cyI, 12, .inl (fun _ => 0)))] : va_W) ++ ([(q60, .inl (cyI, 12, .inl (fun _ => 0)))] : va_W)))))))) H := hP
  have hD : va_D A (([(h, .inr (0, [.int (0 : Int32), .ref q12, .ref q20, .ref q28, .ref q36, .ref q44, .ref q52, .ref q60, .int 0, .null]))] : va_W) ++ (([(q12, .inl (cyI, 12, .inl (fun _ => 0)))] : va_W) ++ (([(q20, .inl (cyI, 12, .inl (fun _ => 0)))] : va_W) ++ (([(q28, .inl (cyI, 12, .inl (fun _ => 0)))] : va_W) ++ (([(q36, .inl (cyI, 12, .inl (fun _ => 0)))] : va_W) ++ (([(q44, .inl (cyI, 12, .inl (fun _ => 0)))] : va_W) ++ (([(q52, .inl (cyI, 12, .inl (fun _ => 0)))] : va_W) ++ ([(q60, .inl (cyI, 12, .inl (fun _ => 0)))] : va_W)))))))) := hD
  refine lv_aload_n hx hb dX0_init_65 rfl (lv_at hl 0 rfl) ?_
  refine lv_iconst (v := (0 : Int32)) hx hb dX0_init_66 (by decide) ?_
  refine va_put (D := (dC, dI)) (ci := 0) (v := .int (0 : Int32)) (ty := .boolean) (C := RX0) (T := TX0) (N := 10) hx hb hts hin0 tyX0 tyX0_ok nmX0 hown hK hP hD hS 0 rfl rfl 8 (by decide) kf37 (fun _ h9 => h9) rfl (by decide +kernel) rfl rfl (Nat.le_of_ble_eq_true rfl) dX0_init_67 (fun H locs hP hD hS => ?_)
  have hP : va_P (dC, dI) vwCl (([(h, .inr (0, [.int (0 : Int32), .ref q12, .ref q20, .ref q28, .ref q36, .ref q44, .ref q52, .ref q60, .int (0 : Int32), .null]))] : va_W) ++ (([(q12, .inl (cyI, 12, .inl (fun _ => 0)))] : va_W) ++ (([(q20, .inl (cyI, 12, .inl (fun _ => 0)))] : va_W) ++ (([(q28, .inl (cyI, 12, .inl (fun _ => 0)))] : va_W) ++ (([(q36, .inl (cyI, 12, .inl (fun _ => 0)))] : va_W) ++ (([(q44, .inl (cyI, 12, .inl (fun _ => 0)))] : va_W) ++ (([(q52, .inl (cyI, 12, .inl (fun _ => 0)))] : va_W) ++ ([(q60, .inl (cyI, 12, .inl (fun _ => 0)))] : va_W)))))))) H := hP
  have hD : va_D A (([(h, .inr (0, [.int (0 : Int32), .ref q12, .ref q20, .ref q28, .ref q36, .ref q44, .ref q52, .ref q60, .int (0 : Int32), .null]))] : va_W) ++ (([(q12, .inl (cyI, 12, .inl (fun _ => 0)))] : va_W) ++ (([(q20, .inl (cyI, 12, .inl (fun _ => 0)))] : va_W) ++ (([(q28, .inl (cyI, 12, .inl (fun _ => 0)))] : va_W) ++ (([(q36, .inl (cyI, 12, .inl (fun _ => 0)))] : va_W) ++ (([(q44, .inl (cyI, 12, .inl (fun _ => 0)))] : va_W) ++ (([(q52, .inl (cyI, 12, .inl (fun _ => 0)))] : va_W) ++ ([(q60, .inl (cyI, 12, .inl (fun _ => 0)))] : va_W)))))))) := hD
  refine lv_aload_n hx hb dX0_init_70 rfl (lv_at hl 0 rfl) ?_
  refine lv_bipush (v := (12 : Int32)) hx hb dX0_init_71 (by decide) ?_
  refine va_newa (atype := .int) (ty := .int) (n := (12 : Int32)) (a0 := (12, .inl (fun _ => 0))) hx hb (hts (.arrayClass .int) (by decide +kernel)) rfl hK hP hD hS hA (fun cA => vp_cell_i cA 12 (fun _ => 0)) (by decide) (N' := 12) (by decide) (by decide) (Nat.le_of_ble_eq_true rfl) (Nat.le_of_ble_eq_true rfl) dX0_init_73 (fun q73 cA H hKn hP hD hS => ?_)
  have eA := Option.some.inj ((hK.2 1 _ rfl).2.symm.trans (hKn.2 4 _ rfl).2)
  subst eA
  clear hKn
  have hP : va_P (dC, dI) vwCl (([(h, .inr (0, [.int (0 : Int32), .ref q12, .ref q20, .ref q28, .ref q36, .ref q44, .ref q52, .ref q60, .int (0 : Int32), .null]))] : va_W) ++ (([(q12, .inl (cyI, 12, .inl (fun _ => 0)))] : va_W) ++ (([(q20, .inl (cyI, 12, .inl (fun _ => 0)))] : va_W) ++ (([(q28, .inl (cyI, 12, .inl (fun _ => 0)))] : va_W) ++ (([(q36, .inl (cyI, 12, .inl (fun _ => 0)))] : va_W) ++ (([(q44, .inl (cyI, 12, .inl (fun _ => 0)))] : va_W) ++ (([(q52, .inl (cyI, 12, .inl (fun _ => 0)))] : va_W) ++ (([(q60, .inl (cyI, 12, .inl (fun _ => 0)))] : va_W) ++ ([(q73, .inl (cyI, 12, .inl (fun _ => 0)))] : va_W))))))))) H := hP
  have hD : va_D A (([(h, .inr (0, [.int (0 : Int32), .ref q12, .ref q20, .ref q28, .ref q36, .ref q44, .ref q52, .ref q60, .int (0 : Int32), .null]))] : va_W) ++ (([(q12, .inl (cyI, 12, .inl (fun _ => 0)))] : va_W) ++ (([(q20, .inl (cyI, 12, .inl (fun _ => 0)))] : va_W) ++ (([(q28, .inl (cyI, 12, .inl (fun _ => 0)))] : va_W) ++ (([(q36, .inl (cyI, 12, .inl (fun _ => 0)))] : va_W) ++ (([(q44, .inl (cyI, 12, .inl (fun _ => 0)))] : va_W) ++ (([(q52, .inl (cyI, 12, .inl (fun _ => 0)))] : va_W) ++ (([(q60, .inl (cyI, 12, .inl (fun _ => 0)))] : va_W) ++ ([(q73, .inl (cyI, 12, .inl (fun _ => 0)))] : va_W))))))))) := hD
  refine W.widen (k := 8) (n := 96) (by omega) (by omega) ?_
  refine va_putF (D := (dC, dI)) (ci := 0) (v := .ref q73) (ty := .array .int) (C := RX0) (T := TX0) (N := 10) hx hb hts hin0 tyX0 tyX0_ok nmX0 hown hK hP hD hS 0 rfl rfl 9 (by decide) kf41 (fun _ h9 => h9) rfl hin rfl (by decide +kernel) rfl rfl (Nat.le_of_ble_eq_true rfl) dX0_init_75 (fun H locs hP hD hS => ?_)
  have hP : va_P (dC, dI) vwCl (([(h, .inr (0, [.int (0 : Int32), .ref q12, .ref q20, .ref q28, .ref q36, .ref q44, .ref q52, .ref q60, .int (0 : Int32), .ref q73]))] : va_W) ++ (([(q12, .inl (cyI, 12, .inl (fun _ => 0)))] : va_W) ++ (([(q20, .inl (cyI, 12, .inl (fun _ => 0)))] : va_W) ++ (([(q28, .inl (cyI, 12, .inl (fun _ => 0)))] : va_W) ++ (([(q36, .inl (cyI, 12, .inl (fun _ => 0)))] : va_W) ++ (([(q44, .inl (cyI, 12, .inl (fun _ => 0)))] : va_W) ++ (([(q52, .inl (cyI, 12, .inl (fun _ => 0)))] : va_W) ++ (([(q60, .inl (cyI, 12, .inl (fun _ => 0)))] : va_W) ++ ([(q73, .inl (cyI, 12, .inl (fun _ => 0)))] : va_W))))))))) H := hP
  have hD : va_D A (([(h, .inr (0, [.int (0 : Int32), .ref q12, .ref q20, .ref q28, .ref q36, .ref q44, .ref q52, .ref q60, .int (0 : Int32), .ref q73]))] : va_W) ++ (([(q12, .inl (cyI, 12, .inl (fun _ => 0)))] : va_W) ++ (([(q20, .inl (cyI, 12, .inl (fun _ => 0)))] : va_W) ++ (([(q28, .inl (cyI, 12, .inl (fun _ => 0)))] : va_W) ++ (([(q36, .inl (cyI, 12, .inl (fun _ => 0)))] : va_W) ++ (([(q44, .inl (cyI, 12, .inl (fun _ => 0)))] : va_W) ++ (([(q52, .inl (cyI, 12, .inl (fun _ => 0)))] : va_W) ++ (([(q60, .inl (cyI, 12, .inl (fun _ => 0)))] : va_W) ++ ([(q73, .inl (cyI, 12, .inl (fun _ => 0)))] : va_W))))))))) := hD
  have hP9 : va_P (dC, dI) vwCl (wX0 cyB cyI cyZ cyO h q12 q20 q28 q36 q44 q52 q60 q73 m0X0) H := hP.sub (ws' := (wX0 cyB cyI cyZ cyO h q12 q20 q28 q36 q44 q52 q60 q73 m0X0)) [0, 1, 2, 3, 4, 5, 6, 7, 8] rfl
  have hD9 : va_D A (wX0 cyB cyI cyZ cyO h q12 q20 q28 q36 q44 q52 q60 q73 m0X0) := hD.sub (ws' := (wX0 cyB cyI cyZ cyO h q12 q20 q28 q36 q44 q52 q60 q73 m0X0)) [0, 1, 2, 3, 4, 5, 6, 7, 8] (by decide) rfl
  exact W.vret hx hb hr (fun t ht hW => ⟨rfl, _, ⟨q12, q20, q28, q36, q44, q52, q60, q73, rfl⟩, by rw [ht]; exact hP9, hD9, hS.F ht⟩) hS.2.2 dX0_init_78
set_option maxHeartbeats 4000000 in
set_option maxRecDepth 100000 in
theorem c_X2_init (l : Launch) (dC : Nat → ClassId) (dI : Nat → Nat → Nat) (cyB cyI cyZ cyO : ClassId) (h : Nat) (sz : Nat) : Met l yX2_init wsX2_init ({ frames := 1, cells := 9, slots := 72, locals := 40 } : Room) (PW dC dI cyB cyI cyZ cyO ([.ref h] : List Value) ([(h, .inr (2, [.int 0, .null, .null, .null, .null, .null, .null, .null, .null, .null]))] : va_W) sz) (QC dC dI (fun w => ∃ q12 q20 q28 q36 q44 q52 q60 q68 q76 : Nat, w = (wX2 cyB cyI cyZ cyO h q12 q20 q28 q36 q44 q52 q60 q68 q76 m0X2)) (va_A ([(h, .inr (2, [.int 0, .null, .null, .null, .null, .null, .null, .null, .null, .null]))] : va_W) sz)) 9 72 (va_A ([(h, .inr (2, [.int 0, .null, .null, .null, .null, .null, .null, .null, .null, .null]))] : va_W) sz) := by
  refine Met.ofW (cc := cX2_init) (maxL := 1) (ret := none) (by decide) rfl ?_
  intro p e s m args below meth c s₁ B hml hv
  obtain ⟨rfl, hsz, hP, hCx, hD0⟩ := hv
  have hK := hCx.1
  have hN := hCx.2
  have hx := B.exec
  have hb := B.bytes
  have hr := B.returns
  have hts := atoms_spec (ws := wsX2_init) B.pre
  have hown : s.vm.findClass RX2 = some m.cls := findClass_of_methodNamed B.named
  have hlocks := B.notSynchronized
  have hin : meth.name = "<init>" := (name_of_methodNamed B.named B.method).1
  have hin2 : ∀ w ∈ u_ws RX2 TX2 10, w ∈ wsX2_init := fun w h => List.mem_cons_of_mem _ (List.mem_append_right _ h)
  have kf9 := hts (.fieldLink RX2 9 "HoldSlips$Citizens" "number" "I") (by decide +kernel)
  have kf15 := hts (.fieldLink RX2 15 "HoldSlips$Citizens" "rank" "[I") (by decide +kernel)
  have kf19 := hts (.fieldLink RX2 19 "HoldSlips$Citizens" "widow" "[I") (by decide +kernel)
  have kf22 := hts (.fieldLink RX2 22 "HoldSlips$Citizens" "slips" "[I") (by decide +kernel)
  have kf25 := hts (.fieldLink RX2 25 "HoldSlips$Citizens" "given" "[I") (by decide +kernel)
  have kf28 := hts (.fieldLink RX2 28 "HoldSlips$Citizens" "silver" "[I") (by decide +kernel)
  have kf31 := hts (.fieldLink RX2 31 "HoldSlips$Citizens" "returns" "[I") (by decide +kernel)
  have kf34 := hts (.fieldLink RX2 34 "HoldSlips$Citizens" "rents" "[I") (by decide +kernel)
  have kf37 := hts (.fieldLink RX2 37 "HoldSlips$Citizens" "share" "[I") (by decide +kernel)
  have kf40 := hts (.fieldLink RX2 40 "HoldSlips$Citizens" "rest" "[I") (by decide +kernel)
  subst hsz
  have hD := hD0.self (sz := s.heap.size)
  generalize hAe : va_A ([(h, .inr (2, [.int 0, .null, .null, .null, .null, .null, .null, .null, .null, .null]))] : va_W) s.heap.size = A at hD ⊢
  have hA : ∀ q : Nat, s.heap.size ≤ q → A q := fun q h => by rw [← hAe]; exact Or.inr h
  have hS : va_S A s.heap s.heap [] := va_S.rf
  have hl := lv_entry ([.ref h] : List Value) (n := 1) (Nat.le_of_ble_eq_true rfl)
  rw [lg_entry_eq]
  generalize (lg_sl ([.ref h] : List Value) ++ List.replicate (1 - (lg_sl ([.ref h] : List Value)).length) Slot.unset).toArray = ls at hl ⊢
  have hl : lv_has ls 1 [(0, .ref h)] := hl
  refine lv_aload_n hx hb dX2_init_0 rfl (lv_at hl 0 rfl) ?_
  refine W.objInit hx hb hown (hts (.methodLink RX2 3 objectInit) (by decide +kernel)) (hts (.instanceMethod objectInit) (by decide +kernel)) (hts (.code objectInit ⟨#[0xb1]⟩ 1 none) (by decide +kernel)) rfl (by rw [hml]; exact hl.1) rfl dX2_init_1 (Nat.le_of_ble_eq_true rfl) (Nat.le_of_ble_eq_true rfl) ?_
  refine W.eq (g2 := F0 m 4 ls []) rfl ?_
  refine lv_aload_n hx hb dX2_init_4 rfl (lv_at hl 0 rfl) ?_
  refine lv_iconst (v := (0 : Int32)) hx hb dX2_init_5 (by decide) ?_
  refine va_put (D := (dC, dI)) (ci := 2) (v := .int (0 : Int32)) (ty := .int) (C := RX2) (T := TX2) (N := 10) hx hb hts hin2 tyX2 tyX2_ok nmX2 hown hK hP hD hS 0 rfl rfl 0 (by decide) kf9 (fun _ h9 => h9) rfl (by decide +kernel) rfl rfl (Nat.le_of_ble_eq_true rfl) dX2_init_6 (fun H locs hP hD hS => ?_)
  have hP : va_P (dC, dI) vwCl ([(h, .inr (2, [.int (0 : Int32), .null, .null, .null, .null, .null, .null, .null, .null, .null]))] : va_W) H := hP
  have hD : va_D A ([(h, .inr (2, [.int (0 : Int32), .null, .null, .null, .null, .null, .null, .null, .null, .null]))] : va_W) := hD
  refine lv_aload_n hx hb dX2_init_9 rfl (lv_at hl 0 rfl) ?_
  refine lv_bipush (v := (8 : Int32)) hx hb dX2_init_10 (by decide) ?_
  refine va_newa (atype := .int) (ty := .int) (n := (8 : Int32)) (a0 := (8, .inl (fun _ => 0))) hx hb (hts (.arrayClass .int) (by decide +kernel)) rfl hK hP hD hS hA (fun cA => vp_cell_i cA 8 (fun _ => 0)) (by decide) (N' := 8) (by decide) (by decide) (Nat.le_of_ble_eq_true rfl) (Nat.le_of_ble_eq_true rfl) dX2_init_12 (fun q12 cA H hKn hP hD hS => ?_)
  have eA := Option.some.inj ((hK.2 1 _ rfl).2.symm.trans (hKn.2 4 _ rfl).2)
  subst eA
  clear hKn
  have hP : va_P (dC, dI) vwCl (([(h, .inr (2, [.int (0 : Int32), .null, .null, .null, .null, .null, .null, .null, .null, .null]))] : va_W) ++ ([(q12, .inl (cyI, 8, .inl (fun _ => 0)))] : va_W)) H := hP
  have hD : va_D A (([(h, .inr (2, [.int (0 : Int32), .null, .null, .null, .null, .null, .null, .null, .null, .null]))] : va_W) ++ ([(q12, .inl (cyI, 8, .inl (fun _ => 0)))] : va_W)) := hD
  refine W.widen (k := 1) (n := 8) (by omega) (by omega) ?_
  refine va_putF (D := (dC, dI)) (ci := 2) (v := .ref q12) (ty := .array .int) (C := RX2) (T := TX2) (N := 10) hx hb hts hin2 tyX2 tyX2_ok nmX2 hown hK hP hD hS 0 rfl rfl 1 (by decide) kf15 (fun _ h9 => h9) rfl hin rfl (by decide +kernel) rfl rfl (Nat.le_of_ble_eq_true rfl) dX2_init_14 (fun H locs hP hD hS => ?_)
  have hP : va_P (dC, dI) vwCl (([(h, .inr (2, [.int (0 : Int32), .ref q12, .null, .null, .null, .null, .null, .null, .null, .null]))] : va_W) ++ ([(q12, .inl (cyI, 8, .inl (fun _ => 0)))] : va_W)) H := hP
  have hD : va_D A (([(h, .inr (2, [.int (0 : Int32), .ref q12, .null, .null, .null, .null, .null, .null, .null, .null]))] : va_W) ++ ([(q12, .inl (cyI, 8, .inl (fun _ => 0)))] : va_W)) := hD
  refine lv_aload_n hx hb dX2_init_17 rfl (lv_at hl 0 rfl) ?_
  refine lv_bipush (v := (8 : Int32)) hx hb dX2_init_18 (by decide) ?_
  refine va_newa (atype := .int) (ty := .int) (n := (8 : Int32)) (a0 := (8, .inl (fun _ => 0))) hx hb (hts (.arrayClass .int) (by decide +kernel)) rfl hK hP hD hS hA (fun cA => vp_cell_i cA 8 (fun _ => 0)) (by decide) (N' := 8) (by decide) (by decide) (Nat.le_of_ble_eq_true rfl) (Nat.le_of_ble_eq_true rfl) dX2_init_20 (fun q20 cA H hKn hP hD hS => ?_)
  have eA := Option.some.inj ((hK.2 1 _ rfl).2.symm.trans (hKn.2 4 _ rfl).2)
  subst eA
  clear hKn
  have hP : va_P (dC, dI) vwCl (([(h, .inr (2, [.int (0 : Int32), .ref q12, .null, .null, .null, .null, .null, .null, .null, .null]))] : va_W) ++ (([(q12, .inl (cyI, 8, .inl (fun _ => 0)))] : va_W) ++ ([(q20, .inl (cyI, 8, .inl (fun _ => 0)))] : va_W))) H := hP
  have hD : va_D A (([(h, .inr (2, [.int (0 : Int32), .ref q12, .null, .null, .null, .null, .null, .null, .null, .null]))] : va_W) ++ (([(q12, .inl (cyI, 8, .inl (fun _ => 0)))] : va_W) ++ ([(q20, .inl (cyI, 8, .inl (fun _ => 0)))] : va_W))) := hD
  refine W.widen (k := 2) (n := 16) (by omega) (by omega) ?_
  refine va_putF (D := (dC, dI)) (ci := 2) (v := .ref q20) (ty := .array .int) (C := RX2) (T := TX2) (N := 10) hx hb hts hin2 tyX2 tyX2_ok nmX2 hown hK hP hD hS 0 rfl rfl 2 (by decide) kf19 (fun _ h9 => h9) rfl hin rfl (by decide +kernel) rfl rfl (Nat.le_of_ble_eq_true rfl) dX2_init_22 (fun H locs hP hD hS => ?_)
  have hP : va_P (dC, dI) vwCl (([(h, .inr (2, [.int (0 : Int32), .ref q12, .ref q20, .null, .null, .null, .null, .null, .null, .null]))] : va_W) ++ (([(q12, .inl (cyI, 8, .inl (fun _ => 0)))] : va_W) ++ ([(q20, .inl (cyI, 8, .inl (fun _ => 0)))] : va_W))) H := hP
  have hD : va_D A (([(h, .inr (2, [.int (0 : Int32), .ref q12, .ref q20, .null, .null, .null, .null, .null, .null, .null]))] : va_W) ++ (([(q12, .inl (cyI, 8, .inl (fun _ => 0)))] : va_W) ++ ([(q20, .inl (cyI, 8, .inl (fun _ => 0)))] : va_W))) := hD
  refine lv_aload_n hx hb dX2_init_25 rfl (lv_at hl 0 rfl) ?_
  refine lv_bipush (v := (8 : Int32)) hx hb dX2_init_26 (by decide) ?_
  refine va_newa (atype := .int) (ty := .int) (n := (8 : Int32)) (a0 := (8, .inl (fun _ => 0))) hx hb (hts (.arrayClass .int) (by decide +kernel)) rfl hK hP hD hS hA (fun cA => vp_cell_i cA 8 (fun _ => 0)) (by decide) (N' := 8) (by decide) (by decide) (Nat.le_of_ble_eq_true rfl) (Nat.le_of_ble_eq_true rfl) dX2_init_28 (fun q28 cA H hKn hP hD hS => ?_)
  have eA := Option.some.inj ((hK.2 1 _ rfl).2.symm.trans (hKn.2 4 _ rfl).2)
  subst eA
  clear hKn
  have hP : va_P (dC, dI) vwCl (([(h, .inr (2, [.int (0 : Int32), .ref q12, .ref q20, .null, .null, .null, .null, .null, .null, .null]))] : va_W) ++ (([(q12, .inl (cyI, 8, .inl (fun _ => 0)))] : va_W) ++ (([(q20, .inl (cyI, 8, .inl (fun _ => 0)))] : va_W) ++ ([(q28, .inl (cyI, 8, .inl (fun _ => 0)))] : va_W)))) H := hP
  have hD : va_D A (([(h, .inr (2, [.int (0 : Int32), .ref q12, .ref q20, .null, .null, .null, .null, .null, .null, .null]))] : va_W) ++ (([(q12, .inl (cyI, 8, .inl (fun _ => 0)))] : va_W) ++ (([(q20, .inl (cyI, 8, .inl (fun _ => 0)))] : va_W) ++ ([(q28, .inl (cyI, 8, .inl (fun _ => 0)))] : va_W)))) := hD
  refine W.widen (k := 3) (n := 24) (by omega) (by omega) ?_
  refine va_putF (D := (dC, dI)) (ci := 2) (v := .ref q28) (ty := .array .int) (C := RX2) (T := TX2) (N := 10) hx hb hts hin2 tyX2 tyX2_ok nmX2 hown hK hP hD hS 0 rfl rfl 3 (by decide) kf22 (fun _ h9 => h9) rfl hin rfl (by decide +kernel) rfl rfl (Nat.le_of_ble_eq_true rfl) dX2_init_30 (fun H locs hP hD hS => ?_)
  have hP : va_P (dC, dI) vwCl (([(h, .inr (2, [.int (0 : Int32), .ref q12, .ref q20, .ref q28, .null, .null, .null, .null, .null, .null]))] : va_W) ++ (([(q12, .inl (cyI, 8, .inl (fun _ => 0)))] : va_W) ++ (([(q20, .inl (cyI, 8, .inl (fun _ => 0)))] : va_W) ++ ([(q28, .inl (cyI, 8, .inl (fun _ => 0)))] : va_W)))) H := hP
  have hD : va_D A (([(h, .inr (2, [.int (0 : Int32), .ref q12, .ref q20, .ref q28, .null, .null, .null, .null, .null, .null]))] : va_W) ++ (([(q12, .inl (cyI, 8, .inl (fun _ => 0)))] : va_W) ++ (([(q20, .inl (cyI, 8, .inl (fun _ => 0)))] : va_W) ++ ([(q28, .inl (cyI, 8, .inl (fun _ => 0)))] : va_W)))) := hD
  refine lv_aload_n hx hb dX2_init_33 rfl (lv_at hl 0 rfl) ?_
  refine lv_bipush (v := (8 : Int32)) hx hb dX2_init_34 (by decide) ?_
  refine va_newa (atype := .int) (ty := .int) (n := (8 : Int32)) (a0 := (8, .inl (fun _ => 0))) hx hb (hts (.arrayClass .int) (by decide +kernel)) rfl hK hP hD hS hA (fun cA => vp_cell_i cA 8 (fun _ => 0)) (by decide) (N' := 8) (by decide) (by decide) (Nat.le_of_ble_eq_true rfl) (Nat.le_of_ble_eq_true rfl) dX2_init_36 (fun q36 cA H hKn hP hD hS => ?_)
  have eA := Option.some.inj ((hK.2 1 _ rfl).2.symm.trans (hKn.2 4 _ rfl).2)
  subst eA
  clear hKn
  have hP : va_P (dC, dI) vwCl (([(h, .inr (2, [.int (0 : Int32), .ref q12, .ref q20, .ref q28, .null, .null, .null, .null, .null, .null]))] : va_W) ++ (([(q12, .inl (cyI, 8, .inl (fun _ => 0)))] : va_W) ++ (([(q20, .inl (cyI, 8, .inl (fun _ => 0)))] : va_W) ++ (([(q28, .inl (cyI, 8, .inl (fun _ => 0)))] : va_W) ++ ([(q36, .inl (cyI, 8, .inl (fun _ => 0)))] : va_W))))) H := hP
  have hD : va_D A (([(h, .inr (2, [.int (0 : Int32), .ref q12, .ref q20, .ref q28, .null, .null, .null, .null, .null, .null]))] : va_W) ++ (([(q12, .inl (cyI, 8, .inl (fun _ => 0)))] : va_W) ++ (([(q20, .inl (cyI, 8, .inl (fun _ => 0)))] : va_W) ++ (([(q28, .inl (cyI, 8, .inl (fun _ => 0)))] : va_W) ++ ([(q36, .inl (cyI, 8, .inl (fun _ => 0)))] : va_W))))) := hD
  refine W.widen (k := 4) (n := 32) (by omega) (by omega) ?_
  refine va_putF (D := (dC, dI)) (ci := 2) (v := .ref q36) (ty := .array .int) (C := RX2) (T := TX2) (N := 10) hx hb hts hin2 tyX2 tyX2_ok nmX2 hown hK hP hD hS 0 rfl rfl 4 (by decide) kf25 (fun _ h9 => h9) rfl hin rfl (by decide +kernel) rfl rfl (Nat.le_of_ble_eq_true rfl) dX2_init_38 (fun H locs hP hD hS => ?_)
  have hP : va_P (dC, dI) vwCl (([(h, .inr (2, [.int (0 : Int32), .ref q12, .ref q20, .ref q28, .ref q36, .null, .null, .null, .null, .null]))] : va_W) ++ (([(q12, .inl (cyI, 8, .inl (fun _ => 0)))] : va_W) ++ (([(q20, .inl (cyI, 8, .inl (fun _ => 0)))] : va_W) ++ (([(q28, .inl (cyI, 8, .inl (fun _ => 0)))] : va_W) ++ ([(q36, .inl (cyI, 8, .inl (fun _ => 0)))] : va_W))))) H := hP
  have hD : va_D A (([(h, .inr (2, [.int (0 : Int32), .ref q12, .ref q20, .ref q28, .ref q36, .null, .null, .null, .null, .null]))] : va_W) ++ (([(q12, .inl (cyI, 8, .inl (fun _ => 0)))] : va_W) ++ (([(q20, .inl (cyI, 8, .inl (fun _ => 0)))] : va_W) ++ (([(q28, .inl (cyI, 8, .inl (fun _ => 0)))] : va_W) ++ ([(q36, .inl (cyI, 8, .inl (fun _ => 0)))] : va_W))))) := hD
  refine lv_aload_n hx hb dX2_init_41 rfl (lv_at hl 0 rfl) ?_
  refine lv_bipush (v := (8 : Int32)) hx hb dX2_init_42 (by decide) ?_
  refine va_newa (atype := .int) (ty := .int) (n := (8 : Int32)) (a0 := (8, .inl (fun _ => 0))) hx hb (hts (.arrayClass .int) (by decide +kernel)) rfl hK hP hD hS hA (fun cA => vp_cell_i cA 8 (fun _ => 0)) (by decide) (N' := 8) (by decide) (by decide) (Nat.le_of_ble_eq_true rfl) (Nat.le_of_ble_eq_true rfl) dX2_init_44 (fun q44 cA H hKn hP hD hS => ?_)
  have eA := Option.some.inj ((hK.2 1 _ rfl).2.symm.trans (hKn.2 4 _ rfl).2)
  subst eA
  clear hKn
  have hP : va_P (dC, dI) vwCl (([(h, .inr (2, [.int (0 : Int32), .ref q12, .ref q20, .ref q28, .ref q36, .null, .null, .null, .null, .null]))] : va_W) ++ (([(q12, .inl (cyI, 8, .inl (fun _ => 0)))] : va_W) ++ (([(q20, .inl (cyI, 8, .inl (fun _ => 0)))] : va_W) ++ (([(q28, .inl (cyI, 8, .inl (fun _ => 0)))] : va_W) ++ (([(q36, .inl (cyI, 8, .inl (fun _ => 0)))] : va_W) ++ ([(q44, .inl (cyI, 8, .inl (fun _ => 0)))] : va_W)))))) H := hP
  have hD : va_D A (([(h, .inr (2, [.int (0 : Int32), .ref q12, .ref q20, .ref q28, .ref q36, .null, .null, .null, .null, .null]))] : va_W) ++ (([(q12, .inl (cyI, 8, .inl (fun _ => 0)))] : va_W) ++ (([(q20, .inl (cyI, 8, .inl (fun _ => 0)))] : va_W) ++ (([(q28, .inl (cyI, 8, .inl (fun _ => 0)))] : va_W) ++ (([(q36, .inl (cyI, 8, .inl (fun _ => 0)))] : va_W) ++ ([(q44, .inl (cyI, 8, .inl (fun _ => 0)))] : va_W)))))) := hD
  refine W.widen (k := 5) (n := 40) (by omega) (by omega) ?_
  refine va_putF (D := (dC, dI)) (ci := 2) (v := .ref q44) (ty := .array .int) (C := RX2) (T := TX2) (N := 10) hx hb hts hin2 tyX2 tyX2_ok nmX2 hown hK hP hD hS 0 rfl rfl 5 (by decide) kf28 (fun _ h9 => h9) rfl hin rfl (by decide +kernel) rfl rfl (Nat.le_of_ble_eq_true rfl) dX2_init_46 (fun H locs hP hD hS => ?_)
  have hP : va_P (dC, dI) vwCl (([(h, .inr (2, [.int (0 : Int32), .ref q12, .ref q20, .ref q28, .ref q36, .ref q44, .null, .null, .null, .null]))] : va_W) ++ (([(q12, .inl (cyI, 8, .inl (fun _ => 0)))] : va_W) ++ (([(q20, .inl (cyI, 8, .inl (fun _ => 0)))] : va_W) ++ (([(q28, .inl (cyI, 8, .inl (fun _ => 0)))] : va_W) ++ (([(q36, .inl (cyI, 8, .inl (fun _ => 0)))] : va_W) ++ ([(q44, .inl (cyI, 8, .inl (fun _ => 0)))] : va_W)))))) H := hP
  have hD : va_D A (([(h, .inr (2, [.int (0 : Int32), .ref q12, .ref q20, .ref q28, .ref q36, .ref q44, .null, .null, .null, .null]))] : va_W) ++ (([(q12, .inl (cyI, 8, .inl (fun _ => 0)))] : va_W) ++ (([(q20, .inl (cyI, 8, .inl (fun _ => 0)))] : va_W) ++ (([(q28, .inl (cyI, 8, .inl (fun _ => 0)))] : va_W) ++ (([(q36, .inl (cyI, 8, .inl (fun _ => 0)))] : va_W) ++ ([(q44, .inl (cyI, 8, .inl (fun _ => 0)))] : va_W)))))) := hD
  refine lv_aload_n hx hb dX2_init_49 rfl (lv_at hl 0 rfl) ?_
  refine lv_bipush (v := (8 : Int32)) hx hb dX2_init_50 (by decide) ?_
  refine va_newa (atype := .int) (ty := .int) (n := (8 : Int32)) (a0 := (8, .inl (fun _ => 0))) hx hb (hts (.arrayClass .int) (by decide +kernel)) rfl hK hP hD hS hA (fun cA => vp_cell_i cA 8 (fun _ => 0)) (by decide) (N' := 8) (by decide) (by decide) (Nat.le_of_ble_eq_true rfl) (Nat.le_of_ble_eq_true rfl) dX2_init_52 (fun q52 cA H hKn hP hD hS => ?_)
  have eA := Option.some.inj ((hK.2 1 _ rfl).2.symm.trans (hKn.2 4 _ rfl).2)
  subst eA
  clear hKn
  have hP : va_P (dC, dI) vwCl (([(h, .inr (2, [.int (0 : Int32), .ref q12, .ref q20, .ref q28, .ref q36, .ref q44, .null, .null, .null, .null]))] : va_W) ++ (([(q12, .inl (cyI, 8, .inl (fun _ => 0)))] : va_W) ++ (([(q20, .inl (cyI, 8, .inl (fun _ => 0)))] : va_W) ++ (([(q28, .inl (cyI, 8, .inl (fun _ => 0)))] : va_W) ++ (([(q36, .inl (cyI, 8, .inl (fun _ => 0)))] : va_W) ++ (([(q44, .inl (cyI, 8, .inl (fun _ => 0)))] : va_W) ++ ([(q52, .inl (cyI, 8, .inl (fun _ => 0)))] : va_W))))))) H := hP
  have hD : va_D A (([(h, .inr (2, [.int (0 : Int32), .ref q12, .ref q20, .ref q28, .ref q36, .ref q44, .null, .null, .null, .null]))] : va_W) ++ (([(q12, .inl (cyI, 8, .inl (fun _ => 0)))] : va_W) ++ (([(q20, .inl (cyI, 8, .inl (fun _ => 0)))] : va_W) ++ (([(q28, .inl (cyI, 8, .inl (fun _ => 0)))] : va_W) ++ (([(q36, .inl (cyI, 8, .inl (fun _ => 0)))] : va_W) ++ (([(q44, .inl (cyI, 8, .inl (fun _ => 0)))] : va_W) ++ ([(q52, .inl (cyI, 8, .inl (fun _ => 0)))] : va_W))))))) := hD
  refine W.widen (k := 6) (n := 48) (by omega) (by omega) ?_
  refine va_putF (D := (dC, dI)) (ci := 2) (v := .ref q52) (ty := .array .int) (C := RX2) (T := TX2) (N := 10) hx hb hts hin2 tyX2 tyX2_ok nmX2 hown hK hP hD hS 0 rfl rfl 6 (by decide) kf31 (fun _ h9 => h9) rfl hin rfl (by decide +kernel) rfl rfl (Nat.le_of_ble_eq_true rfl) dX2_init_54 (fun H locs hP hD hS => ?_)
  have hP : va_P (dC, dI) vwCl (([(h, .inr (2, [.int (0 : Int32), .ref q12, .ref q20, .ref q28, .ref q36, .ref q44, .ref q52, .null, .null, .null]))] : va_W) ++ (([(q12, .inl (cyI, 8, .inl (fun _ => 0)))] : va_W) ++ (([(q20, .inl (cyI, 8, .inl (fun _ => 0)))] : va_W) ++ (([(q28, .inl (cyI, 8, .inl (fun _ => 0)))] : va_W) ++ (([(q36, .inl (cyI, 8, .inl (fun _ => 0)))] : va_W) ++ (([(q44, .inl (cyI, 8, .inl (fun _ => 0)))] : va_W) ++ ([(q52, .inl (cyI, 8, .inl (fun _ => 0)))] : va_W))))))) H := hP
  have hD : va_D A (([(h, .inr (2, [.int (0 : Int32), .ref q12, .ref q20, .ref q28, .ref q36, .ref q44, .ref q52, .null, .null, .null]))] : va_W) ++ (([(q12, .inl (cyI, 8, .inl (fun _ => 0)))] : va_W) ++ (([(q20, .inl (cyI, 8, .inl (fun _ => 0)))] : va_W) ++ (([(q28, .inl (cyI, 8, .inl (fun _ => 0)))] : va_W) ++ (([(q36, .inl (cyI, 8, .inl (fun _ => 0)))] : va_W) ++ (([(q44, .inl (cyI, 8, .inl (fun _ => 0)))] : va_W) ++ ([(q52, .inl (cyI, 8, .inl (fun _ => 0)))] : va_W))))))) := hD
  refine lv_aload_n hx hb dX2_init_57 rfl (lv_at hl 0 rfl) ?_
  refine lv_bipush (v := (8 : Int32)) hx hb dX2_init_58 (by decide) ?_
  refine va_newa (atype := .int) (ty := .int) (n := (8 : Int32)) (a0 := (8, .inl (fun _ => 0))) hx hb (hts (.arrayClass .int) (by decide +kernel)) rfl hK hP hD hS hA (fun cA => vp_cell_i cA 8 (fun _ => 0)) (by decide) (N' := 8) (by decide) (by decide) (Nat.le_of_ble_eq_true rfl) (Nat.le_of_ble_eq_true rfl) dX2_init_60 (fun q60 cA H hKn hP hD hS => ?_)
  have eA := Option.some.inj ((hK.2 1 _ rfl).2.symm.trans (hKn.2 4 _ rfl).2)
  subst eA
  clear hKn
  have hP : va_P (dC, dI) vwCl (([(h, .inr (2, [.int (0 : Int32), .ref q12, .ref q20, .ref q28, .ref q36, .ref q44, .ref q52, .null, .null, .null]))] : va_W) ++ (([(q12, .inl (cyI, 8, .inl (fun _ => 0)))] : va_W) ++ (([(q20, .inl (cyI, 8, .inl (fun _ => 0)))] : va_W) ++ (([(q28, .inl (cyI, 8, .inl (fun _ => 0)))] : va_W) ++ (([(q36, .inl (cyI, 8, .inl (fun _ => 0)))] : va_W) ++ (([(q44, .inl (cyI, 8, .inl (fun _ => 0)))] : va_W) ++ (([(q52, .inl (cyI, 8, .inl (fun _ => 0)))] : va_W) ++ ([(q60, .inl (cyI, 8, .inl (fun _ => 0)))] : va_W)))))))) H := hP
  have hD : va_D A (([(h, .inr (2, [.int (0 : Int32), .ref q12, .ref q20, .ref q28, .ref q36, .ref q44, .ref q52, .null, .null, .null]))] : va_W) ++ (([(q12, .inl (cyI, 8, .inl (fun _ => 0)))] : va_W) ++ (([(q20, .inl (cyI, 8, .inl (fun _ => 0)))] : va_W) ++ (([(q28, .inl (cyI, 8, .inl (fun _ => 0)))] : va_W) ++ (([(q36, .inl (cyI, 8, .inl (fun _ => 0)))] : va_W) ++ (([(q44, .inl (cyI, 8, .inl (fun _ => 0)))] : va_W) ++ (([(q52, .inl (cyI, 8, .inl (fun _ => 0)))] : va_W) ++ ([(q60, .inl (cyI, 8, .inl (fun _ => 0)))] : va_W)))))))) := hD
  refine W.widen (k := 7) (n := 56) (by omega) (by omega) ?_
  refine va_putF (D := (dC, dI)) (ci := 2) (v := .ref q60) (ty := .array .int) (C := RX2) (T := TX2) (N := 10) hx hb hts hin2 tyX2 tyX2_ok nmX2 hown hK hP hD hS 0 rfl rfl 7 (by decide) kf34 (fun _ h9 => h9) rfl hin rfl (by decide +kernel) rfl rfl (Nat.le_of_ble_eq_true rfl) dX2_init_62 (fun H locs hP hD hS => ?_)
  have hP : va_P (dC, dI) vwCl (([(h, .inr (2, [.int (0 : Int32), .ref q12, .ref q20, .ref q28, .ref q36, .ref q44, .ref q52, .ref q60, .null, .null]))] : va_W) ++ (([(q12, .inl (cyI, 8, .inl (fun _ => 0)))] : va_W) ++ (([(q20, .inl (cyI, 8, .inl (fun _ => 0)))] : va_W) ++ (([(q28, .inl (cyI, 8, .inl (fun _ => 0)))] : va_W) ++ (([(q36, .inl (cyI, 8, .inl (fun _ => 0)))] : va_W) ++ (([(q44, .inl (cyI, 8, .inl (fun _ => 0)))] : va_W) ++ (([(q52, .inl (cyI, 8, .inl (fun _ => 0)))] : va_W) ++ ([(q60, .inl (cyI, 8, .inl (fun _ => 0)))] : va_W)))))))) H := hP
  have hD : va_D A (([(h, .inr (2, [.int (0 : Int32), .ref q12, .ref q20, .ref q28, .ref q36, .ref q44, .ref q52, .ref q60, .null, .null]))] : va_W) ++ (([(q12, .inl (cyI, 8, .inl (fun _ => 0)))] : va_W) ++ (([(q20, .inl (cyI, 8, .inl (fun _ => 0)))] : va_W) ++ (([(q28, .inl (cyI, 8, .inl (fun _ => 0)))] : va_W) ++ (([(q36, .inl (cyI, 8, .inl (fun _ => 0)))] : va_W) ++ (([(q44, .inl (cyI, 8, .inl (fun _ => 0)))] : va_W) ++ (([(q52, .inl (cyI, 8, .inl (fun _ => 0)))] : va_W) ++ ([(q60, .inl (cyI, 8, .inl (fun _ => 0)))] : va_W)))))))) := hD
  refine lv_aload_n hx hb dX2_init_65 rfl (lv_at hl 0 rfl) ?_
  refine lv_bipush (v := (8 : Int32)) hx hb dX2_init_66 (by decide) ?_
  refine va_newa (atype := .int) (ty := .int) (n := (8 : Int32)) (a0 := (8, .inl (fun _ => 0))) hx hb (hts (.arrayClass .int) (by decide +kernel)) rfl hK hP hD hS hA (fun cA => vp_cell_i cA 8 (fun _ => 0)) (by decide) (N' := 8) (by decide) (by decide) (Nat.le_of_ble_eq_true rfl) (Nat.le_of_ble_eq_true rfl) dX2_init_68 (fun q68 cA H hKn hP hD hS => ?_)
  have eA := Option.some.inj ((hK.2 1 _ rfl).2.symm.trans (hKn.2 4 _ rfl).2)
  subst eA
  clear hKn
  have hP : va_P (dC, dI) vwCl (([(h, .inr (2, [.int (0 : Int32), .ref q12, .ref q20, .ref q28, .ref q36, .ref q44, .ref q52, .ref q60, .null, .null]))] : va_W) ++ (([(q12, .inl (cyI, 8, .inl (fun _ => 0)))] : va_W) ++ (([(q20, .inl (cyI, 8, .inl (fun _ => 0)))] : va_W) ++ (([(q28, .inl (cyI, 8, .inl (fun _ => 0)))] : va_W) ++ (([(q36, .inl (cyI, 8, .inl (fun _ => 0)))] : va_W) ++ (([(q44, .inl (cyI, 8, .inl (fun _ => 0)))] : va_W) ++ (([(q52, .inl (cyI, 8, .inl (fun _ => 0)))] : va_W) ++ (([(q60, .inl (cyI, 8, .inl (fun _ => 0)))] : va_W) ++ ([(q68, .inl (cyI, 8, .inl (fun _ => 0)))] : va_W))))))))) H := hP
  have hD : va_D A (([(h, .inr (2, [.int (0 : Int32), .ref q12, .ref q20, .ref q28, .ref q36, .ref q44, .ref q52, .ref q60, .null, .null]))] : va_W) ++ (([(q12, .inl (cyI, 8, .inl (fun _ => 0)))] : va_W) ++ (([(q20, .inl (cyI, 8, .inl (fun _ => 0)))] : va_W) ++ (([(q28, .inl (cyI, 8, .inl (fun _ => 0)))] : va_W) ++ (([(q36, .inl (cyI, 8, .inl (fun _ => 0)))] : va_W) ++ (([(q44, .inl (cyI, 8, .inl (fun _ => 0)))] : va_W) ++ (([(q52, .inl (cyI, 8, .inl (fun _ => 0)))] : va_W) ++ (([(q60, .inl (cyI, 8, .inl (fun _ => 0)))] : va_W) ++ ([(q68, .inl (cyI, 8, .inl (fun _ => 0)))] : va_W))))))))) := hD
  refine W.widen (k := 8) (n := 64) (by omega) (by omega) ?_
  refine va_putF (D := (dC, dI)) (ci := 2) (v := .ref q68) (ty := .array .int) (C := RX2) (T := TX2) (N := 10) hx hb hts hin2 tyX2 tyX2_ok nmX2 hown hK hP hD hS 0 rfl rfl 8 (by decide) kf37 (fun _ h9 => h9) rfl hin rfl (by decide +kernel) rfl rfl (Nat.le_of_ble_eq_true rfl) dX2_init_70 (fun H locs hP hD hS => ?_)
  have hP : va_P (dC, dI) vwCl (([(h, .inr (2, [.int (0 : Int32), .ref q12, .ref q20, .ref q28, .ref q36, .ref q44, .ref q52, .ref q60, .ref q68, .null]))] : va_W) ++ (([(q12, .inl (cyI, 8, .inl (fun _ => 0)))] : va_W) ++ (([(q20, .inl (cyI, 8, .inl (fun _ => 0)))] : va_W) ++ (([(q28, .inl (cyI, 8, .inl (fun _ => 0)))] : va_W) ++ (([(q36, .inl (cyI, 8, .inl (fun _ => 0)))] : va_W) ++ (([(q44, .inl (cyI, 8, .inl (fun _ => 0)))] : va_W) ++ (([(q52, .inl (cyI, 8, .inl (fun _ => 0)))] : va_W) ++ (([(q60, .inl (cyI, 8, .inl (fun _ => 0)))] : va_W) ++ ([(q68, .inl (cyI, 8, .inl (fun _ => 0)))] : va_W))))))))) H := hP
  have hD : va_D A (([(h, .inr (2, [.int (0 : Int32), .ref q12, .ref q20, .ref q28, .ref q36, .ref q44, .ref q52, .ref q60, .ref q68, .null]))] : va_W) ++ (([(q12, .inl (cyI, 8, .inl (fun _ => 0)))] : va_W) ++ (([(q20, .inl (cyI, 8, .inl (fun _ => 0)))] : va_W) ++ (([(q28, .inl (cyI, 8, .inl (fun _ => 0)))] : va_W) ++ (([(q36, .inl (cyI, 8, .inl (fun _ => 0)))] : va_W) ++ (([(q44, .inl (cyI, 8, .inl (fun _ => 0)))] : va_W) ++ (([(q52, .inl (cyI, 8, .inl (fun _ => 0)))] : va_W) ++ (([(q60, .inl (cyI, 8, .inl (fun _ => 0)))] : va_W) ++ ([(q68, .inl (cyI, 8, .inl (fun _ => 0)))] : va_W))))))))) := hD
  refine lv_aload_n hx hb dX2_init_73 rfl (lv_at hl 0 rfl) ?_
  refine lv_bipush (v := (8 : Int32)) hx hb dX2_init_74 (by decide) ?_
  refine va_newa (atype := .int) (ty := .int) (n := (8 : Int32)) (a0 := (8, .inl (fun _ => 0))) hx hb (hts (.arrayClass .int) (by decide +kernel)) rfl hK hP hD hS hA (fun cA => vp_cell_i cA 8 (fun _ => 0)) (by decide) (N' := 8) (by decide) (by decide) (Nat.le_of_ble_eq_true rfl) (Nat.le_of_ble_eq_true rfl) dX2_init_76 (fun q76 cA H hKn hP hD hS => ?_)
  have eA := Option.some.inj ((hK.2 1 _ rfl).2.symm.trans (hKn.2 4 _ rfl).2)
  subst eA
  clear hKn
  have hP : va_P (dC, dI) vwCl (([(h, .inr (2, [.int (0 : Int32), .ref q12, .ref q20, .ref q28, .ref q36, .ref q44, .ref q52, .ref q60, .ref q68, .null]))] : va_W) ++ (([(q12, .inl (cyI, 8, .inl (fun _ => 0)))] : va_W) ++ (([(q20, .inl (cyI, 8, .inl (fun _ => 0)))] : va_W) ++ (([(q28, .inl (cyI, 8, .inl (fun _ => 0)))] : va_W) ++ (([(q36, .inl (cyI, 8, .inl (fun _ => 0)))] : va_W) ++ (([(q44, .inl (cyI, 8, .inl (fun _ => 0)))] : va_W) ++ (([(q52, .inl (cyI, 8, .inl (fun _ => 0)))] : va_W) ++ (([(q60, .inl (cyI, 8, .inl (fun _ => 0)))] : va_W) ++ (([(q68, .inl (cyI, 8, .inl (fun _ => 0)))] : va_W) ++ ([(q76, .inl (cyI, 8, .inl (fun _ => 0)))] : va_W)))))))))) H := hP
  have hD : va_D A (([(h, .inr (2, [.int (0 : Int32), .ref q12, .ref q20, .ref q28, .ref q36, .ref q44, .ref q52, .ref q60, .ref q68, .null]))] : va_W) ++ (([(q12, .inl (cyI, 8, .inl (fun _ => 0)))] : va_W) ++ (([(q20, .inl (cyI, 8, .inl (fun _ => 0)))] : va_W) ++ (([(q28, .inl (cyI, 8, .inl (fun _ => 0)))] : va_W) ++ (([(q36, .inl (cyI, 8, .inl (fun _ => 0)))] : va_W) ++ (([(q44, .inl (cyI, 8, .inl (fun _ => 0)))] : va_W) ++ (([(q52, .inl (cyI, 8, .inl (fun _ => 0)))] : va_W) ++ (([(q60, .inl (cyI, 8, .inl (fun _ => 0)))] : va_W) ++ (([(q68, .inl (cyI, 8, .inl (fun _ => 0)))] : va_W) ++ ([(q76, .inl (cyI, 8, .inl (fun _ => 0)))] : va_W)))))))))) := hD
  refine W.widen (k := 9) (n := 72) (by omega) (by omega) ?_
  refine va_putF (D := (dC, dI)) (ci := 2) (v := .ref q76) (ty := .array .int) (C := RX2) (T := TX2) (N := 10) hx hb hts hin2 tyX2 tyX2_ok nmX2 hown hK hP hD hS 0 rfl rfl 9 (by decide) kf40 (fun _ h9 => h9) rfl hin rfl (by decide +kernel) rfl rfl (Nat.le_of_ble_eq_true rfl) dX2_init_78 (fun H locs hP hD hS => ?_)
  have hP : va_P (dC, dI) vwCl (([(h, .inr (2, [.int (0 : Int32), .ref q12, .ref q20, .ref q28, .ref q36, .ref q44, .ref q52, .ref q60, .ref q68, .ref q76]))] : va_W) ++ (([(q12, .inl (cyI, 8, .inl (fun _ => 0)))] : va_W) ++ (([(q20, .inl (cyI, 8, .inl (fun _ => 0)))] : va_W) ++ (([(q28, .inl (cyI, 8, .inl (fun _ => 0)))] : va_W) ++ (([(q36, .inl (cyI, 8, .inl (fun _ => 0)))] : va_W) ++ (([(q44, .inl (cyI, 8, .inl (fun _ => 0)))] : va_W) ++ (([(q52, .inl (cyI, 8, .inl (fun _ => 0)))] : va_W) ++ (([(q60, .inl (cyI, 8, .inl (fun _ => 0)))] : va_W) ++ (([(q68, .inl (cyI, 8, .inl (fun _ => 0)))] : va_W) ++ ([(q76, .inl (cyI, 8, .inl (fun _ => 0)))] : va_W)))))))))) H := hP
  have hD : va_D A (([(h, .inr (2, [.int (0 : Int32), .ref q12, .ref q20, .ref q28, .ref q36, .ref q44, .ref q52, .ref q60, .ref q68, .ref q76]))] : va_W) ++ (([(q12, .inl (cyI, 8, .inl (fun _ => 0)))] : va_W) ++ (([(q20, .inl (cyI, 8, .inl (fun _ => 0)))] : va_W) ++ (([(q28, .inl (cyI, 8, .inl (fun _ => 0)))] : va_W) ++ (([(q36, .inl (cyI, 8, .inl (fun _ => 0)))] : va_W) ++ (([(q44, .inl (cyI, 8, .inl (fun _ => 0)))] : va_W) ++ (([(q52, .inl (cyI, 8, .inl (fun _ => 0)))] : va_W) ++ (([(q60, .inl (cyI, 8, .inl (fun _ => 0)))] : va_W) ++ (([(q68, .inl (cyI, 8, .inl (fun _ => 0)))] : va_W) ++ ([(q76, .inl (cyI, 8, .inl (fun _ => 0)))] : va_W)))))))))) := hD
  have hP9 : va_P (dC, dI) vwCl (wX2 cyB cyI cyZ cyO h q12 q20 q28 q36 q44 q52 q60 q68 q76 m0X2) H := hP.sub (ws' := (wX2 cyB cyI cyZ cyO h q12 q20 q28 q36 q44 q52 q60 q68 q76 m0X2)) [0, 1, 2, 3, 4, 5, 6, 7, 8, 9] rfl
  have hD9 : va_D A (wX2 cyB cyI cyZ cyO h q12 q20 q28 q36 q44 q52 q60 q68 q76 m0X2) := hD.sub (ws' := (wX2 cyB cyI cyZ cyO h q12 q20 q28 q36 q44 q52 q60 q68 q76 m0X2)) [0, 1, 2, 3, 4, 5, 6, 7, 8, 9] (by decide) rfl
  exact W.vret hx hb hr (fun t ht hW => ⟨rfl, _, ⟨q12, q20, q28, q36, q44, q52, q60, q68, q76, rfl⟩, by rw [ht]; exact hP9, hD9, hS.F ht⟩) hS.2.2 dX2_init_81
set_option maxHeartbeats 4000000 in
set_option maxRecDepth 100000 in
theorem c_X3_init (l : Launch) (dC : Nat → ClassId) (dI : Nat → Nat → Nat) (cyB cyI cyZ cyO : ClassId) (h : Nat) (sz : Nat) : Met l yX3_init wsX3_init ({ frames := 1, cells := 7, slots := 304, locals := 40 } : Room) (PW dC dI cyB cyI cyZ cyO ([.ref h] : List Value) ([(h, .inr (3, [.int 0, .null, .null, .null, .null, .null, .null, .null]))] : va_W) sz) (QC dC dI (fun w => ∃ q12 q20 q28 q36 q44 q52 q60 : Nat, w = (wX3 cyB cyI cyZ cyO h q12 q20 q28 q36 q44 q52 q60 m0X3)) (va_A ([(h, .inr (3, [.int 0, .null, .null, .null, .null, .null, .null, .null]))] : va_W) sz)) 7 304 (va_A ([(h, .inr (3, [.int 0, .null, .null, .null, .null, .null, .null, .null]))] : va_W) sz) := by
  refine Met.ofW (cc := cX3_init) (maxL := 1) (ret := none) (by decide) rfl ?_
  intro p e s m args below meth c s₁ B hml hv
  obtain ⟨rfl, hsz, hP, hCx, hD0⟩ := hv
  have hK := hCx.1
  have hN := hCx.2
  have hx := B.exec
  have hb := B.bytes
  have hr := B.returns
  have hts := atoms_spec (ws := wsX3_init) B.pre
  have hown : s.vm.findClass RX3 = some m.cls := findClass_of_methodNamed B.named
  have hlocks := B.notSynchronized
  have hin : meth.name = "<init>" := (name_of_methodNamed B.named B.method).1
  have hin3 : ∀ w ∈ u_ws RX3 TX3 8, w ∈ wsX3_init := fun w h => List.mem_cons_of_mem _ (List.mem_append_right _ h)
  have kf9 := hts (.fieldLink RX3 9 "HoldSlips$Decree" "lines" "I") (by decide +kernel)
  have kf15 := hts (.fieldLink RX3 15 "HoldSlips$Decree" "action" "[I") (by decide +kernel)
  have kf19 := hts (.fieldLink RX3 19 "HoldSlips$Decree" "amount" "[I") (by decide +kernel)
  have kf22 := hts (.fieldLink RX3 22 "HoldSlips$Decree" "tests" "[I") (by decide +kernel)
  have kf25 := hts (.fieldLink RX3 25 "HoldSlips$Decree" "negated" "[I") (by decide +kernel)
  have kf28 := hts (.fieldLink RX3 28 "HoldSlips$Decree" "subject" "[I") (by decide +kernel)
  have kf31 := hts (.fieldLink RX3 31 "HoldSlips$Decree" "sign" "[I") (by decide +kernel)
  have kf34 := hts (.fieldLink RX3 34 "HoldSlips$Decree" "limit" "[I") (by decide +kernel)
  subst hsz
  have hD := hD0.self (sz := s.heap.size)
  generalize hAe : va_A ([(h, .inr (3, [.int 0, .null, .null, .null, .null, .null, .null, .null]))] : va_W) s.heap.size = A at hD ⊢
  have hA : ∀ q : Nat, s.heap.size ≤ q → A q := fun q h => by rw [← hAe]; exact Or.inr h
  have hS : va_S A s.heap s.heap [] := va_S.rf
  have hl := lv_entry ([.ref h] : List Value) (n := 1) (Nat.le_of_ble_eq_true rfl)
  rw [lg_entry_eq]
  generalize (lg_sl ([.ref h] : List Value) ++ List.replicate (1 - (lg_sl ([.ref h] : List Value)).length) Slot.unset).toArray = ls at hl ⊢
  have hl : lv_has ls 1 [(0, .ref h)] := hl
  refine lv_aload_n hx hb dX3_init_0 rfl (lv_at hl 0 rfl) ?_
  refine W.objInit hx hb hown (hts (.methodLink RX3 3 objectInit) (by decide +kernel)) (hts (.instanceMethod objectInit) (by decide +kernel)) (hts (.code objectInit ⟨#[0xb1]⟩ 1 none) (by decide +kernel)) rfl (by rw [hml]; exact hl.1) rfl dX3_init_1 (Nat.le_of_ble_eq_true rfl) (Nat.le_of_ble_eq_true rfl) ?_
  refine W.eq (g2 := F0 m 4 ls []) rfl ?_
  refine lv_aload_n hx hb dX3_init_4 rfl (lv_at hl 0 rfl) ?_
  refine lv_iconst (v := (0 : Int32)) hx hb dX3_init_5 (by decide) ?_
  refine va_put (D := (dC, dI)) (ci := 3) (v := .int (0 : Int32)) (ty := .int) (C := RX3) (T := TX3) (N := 8) hx hb hts hin3 tyX3 tyX3_ok nmX3 hown hK hP hD hS 0 rfl rfl 0 (by decide) kf9 (fun _ h9 => h9) rfl (by decide +kernel) rfl rfl (Nat.le_of_ble_eq_true rfl) dX3_init_6 (fun H locs hP hD hS => ?_)
  have hP : va_P (dC, dI) vwCl ([(h, .inr (3, [.int (0 : Int32), .null, .null, .null, .null, .null, .null, .null]))] : va_W) H := hP
  have hD : va_D A ([(h, .inr (3, [.int (0 : Int32), .null, .null, .null, .null, .null, .null, .null]))] : va_W) := hD
  refine lv_aload_n hx hb dX3_init_9 rfl (lv_at hl 0 rfl) ?_
  refine lv_bipush (v := (16 : Int32)) hx hb dX3_init_10 (by decide) ?_
  refine va_newa (atype := .int) (ty := .int) (n := (16 : Int32)) (a0 := (16, .inl (fun _ => 0))) hx hb (hts (.arrayClass .int) (by decide +kernel)) rfl hK hP hD hS hA (fun cA => vp_cell_i cA 16 (fun _ => 0)) (by decide) (N' := 16) (by decide) (by decide) (Nat.le_of_ble_eq_true rfl) (Nat.le_of_ble_eq_true rfl) dX3_init_12 (fun q12 cA H hKn hP hD hS => ?_)
  have eA := Option.some.inj ((hK.2 1 _ rfl).2.symm.trans (hKn.2 4 _ rfl).2)
  subst eA
  clear hKn
  have hP : va_P (dC, dI) vwCl (([(h, .inr (3, [.int (0 : Int32), .null, .null, .null, .null, .null, .null, .null]))] : va_W) ++ ([(q12, .inl (cyI, 16, .inl (fun _ => 0)))] : va_W)) H := hP
  have hD : va_D A (([(h, .inr (3, [.int (0 : Int32), .null, .null, .null, .null, .null, .null, .null]))] : va_W) ++ ([(q12, .inl (cyI, 16, .inl (fun _ => 0)))] : va_W)) := hD
  refine W.widen (k := 1) (n := 16) (by omega) (by omega) ?_
  refine va_putF (D := (dC, dI)) (ci := 3) (v := .ref q12) (ty := .array .int) (C := RX3) (T := TX3) (N := 8) hx hb hts hin3 tyX3 tyX3_ok nmX3 hown hK hP hD hS 0 rfl rfl 1 (by decide) kf15 (fun _ h9 => h9) rfl hin rfl (by decide +kernel) rfl rfl (Nat.le_of_ble_eq_true rfl) dX3_init_14 (fun H locs hP hD hS => ?_)
  have hP : va_P (dC, dI) vwCl (([(h, .inr (3, [.int (0 : Int32), .ref q12, .null, .null, .null, .null, .null, .null]))] : va_W) ++ ([(q12, .inl (cyI, 16, .inl (fun _ => 0)))] : va_W)) H := hP
  have hD : va_D A (([(h, .inr (3, [.int (0 : Int32), .ref q12, .null, .null, .null, .null, .null, .null]))] : va_W) ++ ([(q12, .inl (cyI, 16, .inl (fun _ => 0)))] : va_W)) := hD
  refine lv_aload_n hx hb dX3_init_17 rfl (lv_at hl 0 rfl) ?_
  refine lv_bipush (v := (16 : Int32)) hx hb dX3_init_18 (by decide) ?_
  refine va_newa (atype := .int) (ty := .int) (n := (16 : Int32)) (a0 := (16, .inl (fun _ => 0))) hx hb (hts (.arrayClass .int) (by decide +kernel)) rfl hK hP hD hS hA (fun cA => vp_cell_i cA 16 (fun _ => 0)) (by decide) (N' := 16) (by decide) (by decide) (Nat.le_of_ble_eq_true rfl) (Nat.le_of_ble_eq_true rfl) dX3_init_20 (fun q20 cA H hKn hP hD hS => ?_)
  have eA := Option.some.inj ((hK.2 1 _ rfl).2.symm.trans (hKn.2 4 _ rfl).2)
  subst eA
  clear hKn
  have hP : va_P (dC, dI) vwCl (([(h, .inr (3, [.int (0 : Int32), .ref q12, .null, .null, .null, .null, .null, .null]))] : va_W) ++ (([(q12, .inl (cyI, 16, .inl (fun _ => 0)))] : va_W) ++ ([(q20, .inl (cyI, 16, .inl (fun _ => 0)))] : va_W))) H := hP
  have hD : va_D A (([(h, .inr (3, [.int (0 : Int32), .ref q12, .null, .null, .null, .null, .null, .null]))] : va_W) ++ (([(q12, .inl (cyI, 16, .inl (fun _ => 0)))] : va_W) ++ ([(q20, .inl (cyI, 16, .inl (fun _ => 0)))] : va_W))) := hD
  refine W.widen (k := 2) (n := 32) (by omega) (by omega) ?_
  refine va_putF (D := (dC, dI)) (ci := 3) (v := .ref q20) (ty := .array .int) (C := RX3) (T := TX3) (N := 8) hx hb hts hin3 tyX3 tyX3_ok nmX3 hown hK hP hD hS 0 rfl rfl 2 (by decide) kf19 (fun _ h9 => h9) rfl hin rfl (by decide +kernel) rfl rfl (Nat.le_of_ble_eq_true rfl) dX3_init_22 (fun H locs hP hD hS => ?_)
  have hP : va_P (dC, dI) vwCl (([(h, .inr (3, [.int (0 : Int32), .ref q12, .ref q20, .null, .null, .null, .null, .null]))] : va_W) ++ (([(q12, .inl (cyI, 16, .inl (fun _ => 0)))] : va_W) ++ ([(q20, .inl (cyI, 16, .inl (fun _ => 0)))] : va_W))) H := hP
  have hD : va_D A (([(h, .inr (3, [.int (0 : Int32), .ref q12, .ref q20, .null, .null, .null, .null, .null]))] : va_W) ++ (([(q12, .inl (cyI, 16, .inl (fun _ => 0)))] : va_W) ++ ([(q20, .inl (cyI, 16, .inl (fun _ => 0)))] : va_W))) := hD
  refine lv_aload_n hx hb dX3_init_25 rfl (lv_at hl 0 rfl) ?_
  refine lv_bipush (v := (16 : Int32)) hx hb dX3_init_26 (by decide) ?_
  refine va_newa (atype := .int) (ty := .int) (n := (16 : Int32)) (a0 := (16, .inl (fun _ => 0))) hx hb (hts (.arrayClass .int) (by decide +kernel)) rfl hK hP hD hS hA (fun cA => vp_cell_i cA 16 (fun _ => 0)) (by decide) (N' := 16) (by decide) (by decide) (Nat.le_of_ble_eq_true rfl) (Nat.le_of_ble_eq_true rfl) dX3_init_28 (fun q28 cA H hKn hP hD hS => ?_)
  have eA := Option.some.inj ((hK.2 1 _ rfl).2.symm.trans (hKn.2 4 _ rfl).2)
  subst eA
  clear hKn
  have hP : va_P (dC, dI) vwCl (([(h, .inr (3, [.int (0 : Int32), .ref q12, .ref q20, .null, .null, .null, .null, .null]))] : va_W) ++ (([(q12, .inl (cyI, 16, .inl (fun _ => 0)))] : va_W) ++ (([(q20, .inl (cyI, 16, .inl (fun _ => 0)))] : va_W) ++ ([(q28, .inl (cyI, 16, .inl (fun _ => 0)))] : va_W)))) H := hP
  have hD : va_D A (([(h, .inr (3, [.int (0 : Int32), .ref q12, .ref q20, .null, .null, .null, .null, .null]))] : va_W) ++ (([(q12, .inl (cyI, 16, .inl (fun _ => 0)))] : va_W) ++ (([(q20, .inl (cyI, 16, .inl (fun _ => 0)))] : va_W) ++ ([(q28, .inl (cyI, 16, .inl (fun _ => 0)))] : va_W)))) := hD
  refine W.widen (k := 3) (n := 48) (by omega) (by omega) ?_
  refine va_putF (D := (dC, dI)) (ci := 3) (v := .ref q28) (ty := .array .int) (C := RX3) (T := TX3) (N := 8) hx hb hts hin3 tyX3 tyX3_ok nmX3 hown hK hP hD hS 0 rfl rfl 3 (by decide) kf22 (fun _ h9 => h9) rfl hin rfl (by decide +kernel) rfl rfl (Nat.le_of_ble_eq_true rfl) dX3_init_30 (fun H locs hP hD hS => ?_)
  have hP : va_P (dC, dI) vwCl (([(h, .inr (3, [.int (0 : Int32), .ref q12, .ref q20, .ref q28, .null, .null, .null, .null]))] : va_W) ++ (([(q12, .inl (cyI, 16, .inl (fun _ => 0)))] : va_W) ++ (([(q20, .inl (cyI, 16, .inl (fun _ => 0)))] : va_W) ++ ([(q28, .inl (cyI, 16, .inl (fun _ => 0)))] : va_W)))) H := hP
  have hD : va_D A (([(h, .inr (3, [.int (0 : Int32), .ref q12, .ref q20, .ref q28, .null, .null, .null, .null]))] : va_W) ++ (([(q12, .inl (cyI, 16, .inl (fun _ => 0)))] : va_W) ++ (([(q20, .inl (cyI, 16, .inl (fun _ => 0)))] : va_W) ++ ([(q28, .inl (cyI, 16, .inl (fun _ => 0)))] : va_W)))) := hD
  refine lv_aload_n hx hb dX3_init_33 rfl (lv_at hl 0 rfl) ?_
  refine lv_bipush (v := (64 : Int32)) hx hb dX3_init_34 (by decide) ?_
  refine va_newa (atype := .int) (ty := .int) (n := (64 : Int32)) (a0 := (64, .inl (fun _ => 0))) hx hb (hts (.arrayClass .int) (by decide +kernel)) rfl hK hP hD hS hA (fun cA => vp_cell_i cA 64 (fun _ => 0)) (by decide) (N' := 64) (by decide) (by decide) (Nat.le_of_ble_eq_true rfl) (Nat.le_of_ble_eq_true rfl) dX3_init_36 (fun q36 cA H hKn hP hD hS => ?_)
  have eA := Option.some.inj ((hK.2 1 _ rfl).2.symm.trans (hKn.2 4 _ rfl).2)
  subst eA
  clear hKn
  have hP : va_P (dC, dI) vwCl (([(h, .inr (3, [.int (0 : Int32), .ref q12, .ref q20, .ref q28, .null, .null, .null, .null]))] : va_W) ++ (([(q12, .inl (cyI, 16, .inl (fun _ => 0)))] : va_W) ++ (([(q20, .inl (cyI, 16, .inl (fun _ => 0)))] : va_W) ++ (([(q28, .inl (cyI, 16, .inl (fun _ => 0)))] : va_W) ++ ([(q36, .inl (cyI, 64, .inl (fun _ => 0)))] : va_W))))) H := hP
  have hD : va_D A (([(h, .inr (3, [.int (0 : Int32), .ref q12, .ref q20, .ref q28, .null, .null, .null, .null]))] : va_W) ++ (([(q12, .inl (cyI, 16, .inl (fun _ => 0)))] : va_W) ++ (([(q20, .inl (cyI, 16, .inl (fun _ => 0)))] : va_W) ++ (([(q28, .inl (cyI, 16, .inl (fun _ => 0)))] : va_W) ++ ([(q36, .inl (cyI, 64, .inl (fun _ => 0)))] : va_W))))) := hD
  refine W.widen (k := 4) (n := 112) (by omega) (by omega) ?_
  refine va_putF (D := (dC, dI)) (ci := 3) (v := .ref q36) (ty := .array .int) (C := RX3) (T := TX3) (N := 8) hx hb hts hin3 tyX3 tyX3_ok nmX3 hown hK hP hD hS 0 rfl rfl 4 (by decide) kf25 (fun _ h9 => h9) rfl hin rfl (by decide +kernel) rfl rfl (Nat.le_of_ble_eq_true rfl) dX3_init_38 (fun H locs hP hD hS => ?_)
  have hP : va_P (dC, dI) vwCl (([(h, .inr (3, [.int (0 : Int32), .ref q12, .ref q20, .ref q28, .ref q36, .null, .null, .null]))] : va_W) ++ (([(q12, .inl (cyI, 16, .inl (fun _ => 0)))] : va_W) ++ (([(q20, .inl (cyI, 16, .inl (fun _ => 0)))] : va_W) ++ (([(q28, .inl (cyI, 16, .inl (fun _ => 0)))] : va_W) ++ ([(q36, .inl (cyI, 64, .inl (fun _ => 0)))] : va_W))))) H := hP
  have hD : va_D A (([(h, .inr (3, [.int (0 : Int32), .ref q12, .ref q20, .ref q28, .ref q36, .null, .null, .null]))] : va_W) ++ (([(q12, .inl (cyI, 16, .inl (fun _ => 0)))] : va_W) ++ (([(q20, .inl (cyI, 16, .inl (fun _ => 0)))] : va_W) ++ (([(q28, .inl (cyI, 16, .inl (fun _ => 0)))] : va_W) ++ ([(q36, .inl (cyI, 64, .inl (fun _ => 0)))] : va_W))))) := hD
  refine lv_aload_n hx hb dX3_init_41 rfl (lv_at hl 0 rfl) ?_
  refine lv_bipush (v := (64 : Int32)) hx hb dX3_init_42 (by decide) ?_
  refine va_newa (atype := .int) (ty := .int) (n := (64 : Int32)) (a0 := (64, .inl (fun _ => 0))) hx hb (hts (.arrayClass .int) (by decide +kernel)) rfl hK hP hD hS hA (fun cA => vp_cell_i cA 64 (fun _ => 0)) (by decide) (N' := 64) (by decide) (by decide) (Nat.le_of_ble_eq_true rfl) (Nat.le_of_ble_eq_true rfl) dX3_init_44 (fun q44 cA H hKn hP hD hS => ?_)
  have eA := Option.some.inj ((hK.2 1 _ rfl).2.symm.trans (hKn.2 4 _ rfl).2)
  subst eA
  clear hKn
  have hP : va_P (dC, dI) vwCl (([(h, .inr (3, [.int (0 : Int32), .ref q12, .ref q20, .ref q28, .ref q36, .null, .null, .null]))] : va_W) ++ (([(q12, .inl (cyI, 16, .inl (fun _ => 0)))] : va_W) ++ (([(q20, .inl (cyI, 16, .inl (fun _ => 0)))] : va_W) ++ (([(q28, .inl (cyI, 16, .inl (fun _ => 0)))] : va_W) ++ (([(q36, .inl (cyI, 64, .inl (fun _ => 0)))] : va_W) ++ ([(q44, .inl (cyI, 64, .inl (fun _ => 0)))] : va_W)))))) H := hP
  have hD : va_D A (([(h, .inr (3, [.int (0 : Int32), .ref q12, .ref q20, .ref q28, .ref q36, .null, .null, .null]))] : va_W) ++ (([(q12, .inl (cyI, 16, .inl (fun _ => 0)))] : va_W) ++ (([(q20, .inl (cyI, 16, .inl (fun _ => 0)))] : va_W) ++ (([(q28, .inl (cyI, 16, .inl (fun _ => 0)))] : va_W) ++ (([(q36, .inl (cyI, 64, .inl (fun _ => 0)))] : va_W) ++ ([(q44, .inl (cyI, 64, .inl (fun _ => 0)))] : va_W)))))) := hD
  refine W.widen (k := 5) (n := 176) (by omega) (by omega) ?_
  refine va_putF (D := (dC, dI)) (ci := 3) (v := .ref q44) (ty := .array .int) (C := RX3) (T := TX3) (N := 8) hx hb hts hin3 tyX3 tyX3_ok nmX3 hown hK hP hD hS 0 rfl rfl 5 (by decide) kf28 (fun _ h9 => h9) rfl hin rfl (by decide +kernel) rfl rfl (Nat.le_of_ble_eq_true rfl) dX3_init_46 (fun H locs hP hD hS => ?_)
  have hP : va_P (dC, dI) vwCl (([(h, .inr (3, [.int (0 : Int32), .ref q12, .ref q20, .ref q28, .ref q36, .ref q44, .null, .null]))] : va_W) ++ (([(q12, .inl (cyI, 16, .inl (fun _ => 0)))] : va_W) ++ (([(q20, .inl (cyI, 16, .inl (fun _ => 0)))] : va_W) ++ (([(q28, .inl (cyI, 16, .inl (fun _ => 0)))] : va_W) ++ (([(q36, .inl (cyI, 64, .inl (fun _ => 0)))] : va_W) ++ ([(q44, .inl (cyI, 64, .inl (fun _ => 0)))] : va_W)))))) H := hP
  have hD : va_D A (([(h, .inr (3, [.int (0 : Int32), .ref q12, .ref q20, .ref q28, .ref q36, .ref q44, .null, .null]))] : va_W) ++ (([(q12, .inl (cyI, 16, .inl (fun _ => 0)))] : va_W) ++ (([(q20, .inl (cyI, 16, .inl (fun _ => 0)))] : va_W) ++ (([(q28, .inl (cyI, 16, .inl (fun _ => 0)))] : va_W) ++ (([(q36, .inl (cyI, 64, .inl (fun _ => 0)))] : va_W) ++ ([(q44, .inl (cyI, 64, .inl (fun _ => 0)))] : va_W)))))) := hD
  refine lv_aload_n hx hb dX3_init_49 rfl (lv_at hl 0 rfl) ?_
  refine lv_bipush (v := (64 : Int32)) hx hb dX3_init_50 (by decide) ?_
  refine va_newa (atype := .int) (ty := .int) (n := (64 : Int32)) (a0 := (64, .inl (fun _ => 0))) hx hb (hts (.arrayClass .int) (by decide +kernel)) rfl hK hP hD hS hA (fun cA => vp_cell_i cA 64 (fun _ => 0)) (by decide) (N' := 64) (by decide) (by decide) (Nat.le_of_ble_eq_true rfl) (Nat.le_of_ble_eq_true rfl) dX3_init_52 (fun q52 cA H hKn hP hD hS => ?_)
  have eA := Option.some.inj ((hK.2 1 _ rfl).2.symm.trans (hKn.2 4 _ rfl).2)
  subst eA
  clear hKn
  have hP : va_P (dC, dI) vwCl (([(h, .inr (3, [.int (0 : Int32), .ref q12, .ref q20, .ref q28, .ref q36, .ref q44, .null, .null]))] : va_W) ++ (([(q12, .inl (cyI, 16, .inl (fun _ => 0)))] : va_W) ++ (([(q20, .inl (cyI, 16, .inl (fun _ => 0)))] : va_W) ++ (([(q28, .inl (cyI, 16, .inl (fun _ => 0)))] : va_W) ++ (([(q36, .inl (cyI, 64, .inl (fun _ => 0)))] : va_W) ++ (([(q44, .inl (cyI, 64, .inl (fun _ => 0)))] : va_W) ++ ([(q52, .inl (cyI, 64, .inl (fun _ => 0)))] : va_W))))))) H := hP
  have hD : va_D A (([(h, .inr (3, [.int (0 : Int32), .ref q12, .ref q20, .ref q28, .ref q36, .ref q44, .null, .null]))] : va_W) ++ (([(q12, .inl (cyI, 16, .inl (fun _ => 0)))] : va_W) ++ (([(q20, .inl (cyI, 16, .inl (fun _ => 0)))] : va_W) ++ (([(q28, .inl (cyI, 16, .inl (fun _ => 0)))] : va_W) ++ (([(q36, .inl (cyI, 64, .inl (fun _ => 0)))] : va_W) ++ (([(q44, .inl (cyI, 64, .inl (fun _ => 0)))] : va_W) ++ ([(q52, .inl (cyI, 64, .inl (fun _ => 0)))] : va_W))))))) := hD
  refine W.widen (k := 6) (n := 240) (by omega) (by omega) ?_
  refine va_putF (D := (dC, dI)) (ci := 3) (v := .ref q52) (ty := .array .int) (C := RX3) (T := TX3) (N := 8) hx hb hts hin3 tyX3 tyX3_ok nmX3 hown hK hP hD hS 0 rfl rfl 6 (by decide) kf31 (fun _ h9 => h9) rfl hin rfl (by decide +kernel) rfl rfl (Nat.le_of_ble_eq_true rfl) dX3_init_54 (fun H locs hP hD hS => ?_)
  have hP : va_P (dC, dI) vwCl (([(h, .inr (3, [.int (0 : Int32), .ref q12, .ref q20, .ref q28, .ref q36, .ref q44, .ref q52, .null]))] : va_W) ++ (([(q12, .inl (cyI, 16, .inl (fun _ => 0)))] : va_W) ++ (([(q20, .inl (cyI, 16, .inl (fun _ => 0)))] : va_W) ++ (([(q28, .inl (cyI, 16, .inl (fun _ => 0)))] : va_W) ++ (([(q36, .inl (cyI, 64, .inl (fun _ => 0)))] : va_W) ++ (([(q44, .inl (cyI, 64, .inl (fun _ => 0)))] : va_W) ++ ([(q52, .inl (cyI, 64, .inl (fun _ => 0)))] : va_W))))))) H := hP
  have hD : va_D A (([(h, .inr (3, [.int (0 : Int32), .ref q12, .ref q20, .ref q28, .ref q36, .ref q44, .ref q52, .null]))] : va_W) ++ (([(q12, .inl (cyI, 16, .inl (fun _ => 0)))] : va_W) ++ (([(q20, .inl (cyI, 16, .inl (fun _ => 0)))] : va_W) ++ (([(q28, .inl (cyI, 16, .inl (fun _ => 0)))] : va_W) ++ (([(q36, .inl (cyI, 64, .inl (fun _ => 0)))] : va_W) ++ (([(q44, .inl (cyI, 64, .inl (fun _ => 0)))] : va_W) ++ ([(q52, .inl (cyI, 64, .inl (fun _ => 0)))] : va_W))))))) := hD
  refine lv_aload_n hx hb dX3_init_57 rfl (lv_at hl 0 rfl) ?_
  refine lv_bipush (v := (64 : Int32)) hx hb dX3_init_58 (by decide) ?_
  refine va_newa (atype := .int) (ty := .int) (n := (64 : Int32)) (a0 := (64, .inl (fun _ => 0))) hx hb (hts (.arrayClass .int) (by decide +kernel)) rfl hK hP hD hS hA (fun cA => vp_cell_i cA 64 (fun _ => 0)) (by decide) (N' := 64) (by decide) (by decide) (Nat.le_of_ble_eq_true rfl) (Nat.le_of_ble_eq_true rfl) dX3_init_60 (fun q60 cA H hKn hP hD hS => ?_)
  have eA := Option.some.inj ((hK.2 1 _ rfl).2.symm.trans (hKn.2 4 _ rfl).2)
  subst eA
  clear hKn
  have hP : va_P (dC, dI) vwCl (([(h, .inr (3, [.int (0 : Int32), .ref q12, .ref q20, .ref q28, .ref q36, .ref q44, .ref q52, .null]))] : va_W) ++ (([(q12, .inl (cyI, 16, .inl (fun _ => 0)))] : va_W) ++ (([(q20, .inl (cyI, 16, .inl (fun _ => 0)))] : va_W) ++ (([(q28, .inl (cyI, 16, .inl (fun _ => 0)))] : va_W) ++ (([(q36, .inl (cyI, 64, .inl (fun _ => 0)))] : va_W) ++ (([(q44, .inl (cyI, 64, .inl (fun _ => 0)))] : va_W) ++ (([(q52, .inl (cyI, 64, .inl (fun _ => 0)))] : va_W) ++ ([(q60, .inl (cyI, 64, .inl (fun _ => 0)))] : va_W)))))))) H := hP
  have hD : va_D A (([(h, .inr (3, [.int (0 : Int32), .ref q12, .ref q20, .ref q28, .ref q36, .ref q44, .ref q52, .null]))] : va_W) ++ (([(q12, .inl (cyI, 16, .inl (fun _ => 0)))] : va_W) ++ (([(q20, .inl (cyI, 16, .inl (fun _ => 0)))] : va_W) ++ (([(q28, .inl (cyI, 16, .inl (fun _ => 0)))] : va_W) ++ (([(q36, .inl (cyI, 64, .inl (fun _ => 0)))] : va_W) ++ (([(q44, .inl (cyI, 64, .inl (fun _ => 0)))] : va_W) ++ (([(q52, .inl (cyI, 64, .inl (fun _ => 0)))] : va_W) ++ ([(q60, .inl (cyI, 64, .inl (fun _ => 0)))] : va_W)))))))) := hD
  refine W.widen (k := 7) (n := 304) (by omega) (by omega) ?_
  refine va_putF (D := (dC, dI)) (ci := 3) (v := .ref q60) (ty := .array .int) (C := RX3) (T := TX3) (N := 8) hx hb hts hin3 tyX3 tyX3_ok nmX3 hown hK hP hD hS 0 rfl rfl 7 (by decide) kf34 (fun _ h9 => h9) rfl hin rfl (by decide +kernel) rfl rfl (Nat.le_of_ble_eq_true rfl) dX3_init_62 (fun H locs hP hD hS => ?_)
  have hP : va_P (dC, dI) vwCl (([(h, .inr (3, [.int (0 : Int32), .ref q12, .ref q20, .ref q28, .ref q36, .ref q44, .ref q52, .ref q60]))] : va_W) ++ (([(q12, .inl (cyI, 16, .inl (fun _ => 0)))] : va_W) ++ (([(q20, .inl (cyI, 16, .inl (fun _ => 0)))] : va_W) ++ (([(q28, .inl (cyI, 16, .inl (fun _ => 0)))] : va_W) ++ (([(q36, .inl (cyI, 64, .inl (fun _ => 0)))] : va_W) ++ (([(q44, .inl (cyI, 64, .inl (fun _ => 0)))] : va_W) ++ (([(q52, .inl (cyI, 64, .inl (fun _ => 0)))] : va_W) ++ ([(q60, .inl (cyI, 64, .inl (fun _ => 0)))] : va_W)))))))) H := hP
  have hD : va_D A (([(h, .inr (3, [.int (0 : Int32), .ref q12, .ref q20, .ref q28, .ref q36, .ref q44, .ref q52, .ref q60]))] : va_W) ++ (([(q12, .inl (cyI, 16, .inl (fun _ => 0)))] : va_W) ++ (([(q20, .inl (cyI, 16, .inl (fun _ => 0)))] : va_W) ++ (([(q28, .inl (cyI, 16, .inl (fun _ => 0)))] : va_W) ++ (([(q36, .inl (cyI, 64, .inl (fun _ => 0)))] : va_W) ++ (([(q44, .inl (cyI, 64, .inl (fun _ => 0)))] : va_W) ++ (([(q52, .inl (cyI, 64, .inl (fun _ => 0)))] : va_W) ++ ([(q60, .inl (cyI, 64, .inl (fun _ => 0)))] : va_W)))))))) := hD
  have hP9 : va_P (dC, dI) vwCl (wX3 cyB cyI cyZ cyO h q12 q20 q28 q36 q44 q52 q60 m0X3) H := hP.sub (ws' := (wX3 cyB cyI cyZ cyO h q12 q20 q28 q36 q44 q52 q60 m0X3)) [0, 1, 2, 3, 4, 5, 6, 7] rfl
  have hD9 : va_D A (wX3 cyB cyI cyZ cyO h q12 q20 q28 q36 q44 q52 q60 m0X3) := hD.sub (ws' := (wX3 cyB cyI cyZ cyO h q12 q20 q28 q36 q44 q52 q60 m0X3)) [0, 1, 2, 3, 4, 5, 6, 7] (by decide) rfl
  exact W.vret hx hb hr (fun t ht hW => ⟨rfl, _, ⟨q12, q20, q28, q36, q44, q52, q60, rfl⟩, by rw [ht]; exact hP9, hD9, hS.F ht⟩) hS.2.2 dX3_init_65
set_option maxHeartbeats 4000000 in
set_option maxRecDepth 100000 in
theorem c_X5_init (l : Launch) (dC : Nat → ClassId) (dI : Nat → Nat → Nat) (cyB cyI cyZ cyO : ClassId) (h : Nat) (sz : Nat) : Met l yX5_init wsX5_init ({ frames := 1, cells := 4, slots := 80, locals := 40 } : Room) (PW dC dI cyB cyI cyZ cyO ([.ref h] : List Value) ([(h, .inr (5, [.int 0, .null, .null, .null, .null]))] : va_W) sz) (QC dC dI (fun w => ∃ q12 q20 q28 q36 : Nat, w = (wX5 cyB cyI cyZ cyO h q12 q20 q28 q36 m0X5)) (va_A ([(h, .inr (5, [.int 0, .null, .null, .null, .null]))] : va_W) sz)) 4 80 (va_A ([(h, .inr (5, [.int 0, .null, .null, .null, .null]))] : va_W) sz) := by
  refine Met.ofW (cc := cX5_init) (maxL := 1) (ret := none) (by decide) rfl ?_
  intro p e s m args below meth c s₁ B hml hv
  obtain ⟨rfl, hsz, hP, hCx, hD0⟩ := hv
  have hK := hCx.1
  have hN := hCx.2
  have hx := B.exec
  have hb := B.bytes
  have hr := B.returns
  have hts := atoms_spec (ws := wsX5_init) B.pre
  have hown : s.vm.findClass RX5 = some m.cls := findClass_of_methodNamed B.named
  have hlocks := B.notSynchronized
  have hin : meth.name = "<init>" := (name_of_methodNamed B.named B.method).1
  have hin5 : ∀ w ∈ u_ws RX5 TX5 5, w ∈ wsX5_init := fun w h => List.mem_cons_of_mem _ (List.mem_append_right _ h)
  have kf9 := hts (.fieldLink RX5 9 "HoldSlips$Loans" "number" "I") (by decide +kernel)
  have kf15 := hts (.fieldLink RX5 15 "HoldSlips$Loans" "lender" "[I") (by decide +kernel)
  have kf19 := hts (.fieldLink RX5 19 "HoldSlips$Loans" "borrower" "[I") (by decide +kernel)
  have kf22 := hts (.fieldLink RX5 22 "HoldSlips$Loans" "sum" "[I") (by decide +kernel)
  have kf25 := hts (.fieldLink RX5 25 "HoldSlips$Loans" "percent" "[I") (by decide +kernel)
  subst hsz
  have hD := hD0.self (sz := s.heap.size)
  generalize hAe : va_A ([(h, .inr (5, [.int 0, .null, .null, .null, .null]))] : va_W) s.heap.size = A at hD ⊢
  have hA : ∀ q : Nat, s.heap.size ≤ q → A q := fun q h => by rw [← hAe]; exact Or.inr h
  have hS : va_S A s.heap s.heap [] := va_S.rf
  have hl := lv_entry ([.ref h] : List Value) (n := 1) (Nat.le_of_ble_eq_true rfl)
  rw [lg_entry_eq]
  generalize (lg_sl ([.ref h] : List Value) ++ List.replicate (1 - (lg_sl ([.ref h] : List Value)).length) Slot.unset).toArray = ls at hl ⊢
  have hl : lv_has ls 1 [(0, .ref h)] := hl
  refine lv_aload_n hx hb dX5_init_0 rfl (lv_at hl 0 rfl) ?_
  refine W.objInit hx hb hown (hts (.methodLink RX5 3 objectInit) (by decide +kernel)) (hts (.instanceMethod objectInit) (by decide +kernel)) (hts (.code objectInit ⟨#[0xb1]⟩ 1 none) (by decide +kernel)) rfl (by rw [hml]; exact hl.1) rfl dX5_init_1 (Nat.le_of_ble_eq_true rfl) (Nat.le_of_ble_eq_true rfl) ?_
  refine W.eq (g2 := F0 m 4 ls []) rfl ?_
  refine lv_aload_n hx hb dX5_init_4 rfl (lv_at hl 0 rfl) ?_
  refine lv_iconst (v := (0 : Int32)) hx hb dX5_init_5 (by decide) ?_
  refine va_put (D := (dC, dI)) (ci := 5) (v := .int (0 : Int32)) (ty := .int) (C := RX5) (T := TX5) (N := 5) hx hb hts hin5 tyX5 tyX5_ok nmX5 hown hK hP hD hS 0 rfl rfl 0 (by decide) kf9 (fun _ h9 => h9) rfl (by decide +kernel) rfl rfl (Nat.le_of_ble_eq_true rfl) dX5_init_6 (fun H locs hP hD hS => ?_)
  have hP : va_P (dC, dI) vwCl ([(h, .inr (5, [.int (0 : Int32), .null, .null, .null, .null]))] : va_W) H := hP
  have hD : va_D A ([(h, .inr (5, [.int (0 : Int32), .null, .null, .null, .null]))] : va_W) := hD
  refine lv_aload_n hx hb dX5_init_9 rfl (lv_at hl 0 rfl) ?_
  refine lv_bipush (v := (20 : Int32)) hx hb dX5_init_10 (by decide) ?_
  refine va_newa (atype := .int) (ty := .int) (n := (20 : Int32)) (a0 := (20, .inl (fun _ => 0))) hx hb (hts (.arrayClass .int) (by decide +kernel)) rfl hK hP hD hS hA (fun cA => vp_cell_i cA 20 (fun _ => 0)) (by decide) (N' := 20) (by decide) (by decide) (Nat.le_of_ble_eq_true rfl) (Nat.le_of_ble_eq_true rfl) dX5_init_12 (fun q12 cA H hKn hP hD hS => ?_)
  have eA := Option.some.inj ((hK.2 1 _ rfl).2.symm.trans (hKn.2 4 _ rfl).2)
  subst eA
  clear hKn
  have hP : va_P (dC, dI) vwCl (([(h, .inr (5, [.int (0 : Int32), .null, .null, .null, .null]))] : va_W) ++ ([(q12, .inl (cyI, 20, .inl (fun _ => 0)))] : va_W)) H := hP
  have hD : va_D A (([(h, .inr (5, [.int (0 : Int32), .null, .null, .null, .null]))] : va_W) ++ ([(q12, .inl (cyI, 20, .inl (fun _ => 0)))] : va_W)) := hD
  refine W.widen (k := 1) (n := 20) (by omega) (by omega) ?_
  refine va_putF (D := (dC, dI)) (ci := 5) (v := .ref q12) (ty := .array .int) (C := RX5) (T := TX5) (N := 5) hx hb hts hin5 tyX5 tyX5_ok nmX5 hown hK hP hD hS 0 rfl rfl 1 (by decide) kf15 (fun _ h9 => h9) rfl hin rfl (by decide +kernel) rfl rfl (Nat.le_of_ble_eq_true rfl) dX5_init_14 (fun H locs hP hD hS => ?_)
  have hP : va_P (dC, dI) vwCl (([(h, .inr (5, [.int (0 : Int32), .ref q12, .null, .null, .null]))] : va_W) ++ ([(q12, .inl (cyI, 20, .inl (fun _ => 0)))] : va_W)) H := hP
  have hD : va_D A (([(h, .inr (5, [.int (0 : Int32), .ref q12, .null, .null, .null]))] : va_W) ++ ([(q12, .inl (cyI, 20, .inl (fun _ => 0)))] : va_W)) := hD
  refine lv_aload_n hx hb dX5_init_17 rfl (lv_at hl 0 rfl) ?_
  refine lv_bipush (v := (20 : Int32)) hx hb dX5_init_18 (by decide) ?_
  refine va_newa (atype := .int) (ty := .int) (n := (20 : Int32)) (a0 := (20, .inl (fun _ => 0))) hx hb (hts (.arrayClass .int) (by decide +kernel)) rfl hK hP hD hS hA (fun cA => vp_cell_i cA 20 (fun _ => 0)) (by decide) (N' := 20) (by decide) (by decide) (Nat.le_of_ble_eq_true rfl) (Nat.le_of_ble_eq_true rfl) dX5_init_20 (fun q20 cA H hKn hP hD hS => ?_)
  have eA := Option.some.inj ((hK.2 1 _ rfl).2.symm.trans (hKn.2 4 _ rfl).2)
  subst eA
  clear hKn
  have hP : va_P (dC, dI) vwCl (([(h, .inr (5, [.int (0 : Int32), .ref q12, .null, .null, .null]))] : va_W) ++ (([(q12, .inl (cyI, 20, .inl (fun _ => 0)))] : va_W) ++ ([(q20, .inl (cyI, 20, .inl (fun _ => 0)))] : va_W))) H := hP
  have hD : va_D A (([(h, .inr (5, [.int (0 : Int32), .ref q12, .null, .null, .null]))] : va_W) ++ (([(q12, .inl (cyI, 20, .inl (fun _ => 0)))] : va_W) ++ ([(q20, .inl (cyI, 20, .inl (fun _ => 0)))] : va_W))) := hD
  refine W.widen (k := 2) (n := 40) (by omega) (by omega) ?_
  refine va_putF (D := (dC, dI)) (ci := 5) (v := .ref q20) (ty := .array .int) (C := RX5) (T := TX5) (N := 5) hx hb hts hin5 tyX5 tyX5_ok nmX5 hown hK hP hD hS 0 rfl rfl 2 (by decide) kf19 (fun _ h9 => h9) rfl hin rfl (by decide +kernel) rfl rfl (Nat.le_of_ble_eq_true rfl) dX5_init_22 (fun H locs hP hD hS => ?_)
  have hP : va_P (dC, dI) vwCl (([(h, .inr (5, [.int (0 : Int32), .ref q12, .ref q20, .null, .null]))] : va_W) ++ (([(q12, .inl (cyI, 20, .inl (fun _ => 0)))] : va_W) ++ ([(q20, .inl (cyI, 20, .inl (fun _ => 0)))] : va_W))) H := hP
  have hD : va_D A (([(h, .inr (5, [.int (0 : Int32), .ref q12, .ref q20, .null, .null]))] : va_W) ++ (([(q12, .inl (cyI, 20, .inl (fun _ => 0)))] : va_W) ++ ([(q20, .inl (cyI, 20, .inl (fun _ => 0)))] : va_W))) := hD
  refine lv_aload_n hx hb dX5_init_25 rfl (lv_at hl 0 rfl) ?_
  refine lv_bipush (v := (20 : Int32)) hx hb dX5_init_26 (by decide) ?_
  refine va_newa (atype := .int) (ty := .int) (n := (20 : Int32)) (a0 := (20, .inl (fun _ => 0))) hx hb (hts (.arrayClass .int) (by decide +kernel)) rfl hK hP hD hS hA (fun cA => vp_cell_i cA 20 (fun _ => 0)) (by decide) (N' := 20) (by decide) (by decide) (Nat.le_of_ble_eq_true rfl) (Nat.le_of_ble_eq_true rfl) dX5_init_28 (fun q28 cA H hKn hP hD hS => ?_)
  have eA := Option.some.inj ((hK.2 1 _ rfl).2.symm.trans (hKn.2 4 _ rfl).2)
  subst eA
  clear hKn
  have hP : va_P (dC, dI) vwCl (([(h, .inr (5, [.int (0 : Int32), .ref q12, .ref q20, .null, .null]))] : va_W) ++ (([(q12, .inl (cyI, 20, .inl (fun _ => 0)))] : va_W) ++ (([(q20, .inl (cyI, 20, .inl (fun _ => 0)))] : va_W) ++ ([(q28, .inl (cyI, 20, .inl (fun _ => 0)))] : va_W)))) H := hP
  have hD : va_D A (([(h, .inr (5, [.int (0 : Int32), .ref q12, .ref q20, .null, .null]))] : va_W) ++ (([(q12, .inl (cyI, 20, .inl (fun _ => 0)))] : va_W) ++ (([(q20, .inl (cyI, 20, .inl (fun _ => 0)))] : va_W) ++ ([(q28, .inl (cyI, 20, .inl (fun _ => 0)))] : va_W)))) := hD
  refine W.widen (k := 3) (n := 60) (by omega) (by omega) ?_
  refine va_putF (D := (dC, dI)) (ci := 5) (v := .ref q28) (ty := .array .int) (C := RX5) (T := TX5) (N := 5) hx hb hts hin5 tyX5 tyX5_ok nmX5 hown hK hP hD hS 0 rfl rfl 3 (by decide) kf22 (fun _ h9 => h9) rfl hin rfl (by decide +kernel) rfl rfl (Nat.le_of_ble_eq_true rfl) dX5_init_30 (fun H locs hP hD hS => ?_)
  have hP : va_P (dC, dI) vwCl (([(h, .inr (5, [.int (0 : Int32), .ref q12, .ref q20, .ref q28, .null]))] : va_W) ++ (([(q12, .inl (cyI, 20, .inl (fun _ => 0)))] : va_W) ++ (([(q20, .inl (cyI, 20, .inl (fun _ => 0)))] : va_W) ++ ([(q28, .inl (cyI, 20, .inl (fun _ => 0)))] : va_W)))) H := hP
  have hD : va_D A (([(h, .inr (5, [.int (0 : Int32), .ref q12, .ref q20, .ref q28, .null]))] : va_W) ++ (([(q12, .inl (cyI, 20, .inl (fun _ => 0)))] : va_W) ++ (([(q20, .inl (cyI, 20, .inl (fun _ => 0)))] : va_W) ++ ([(q28, .inl (cyI, 20, .inl (fun _ => 0)))] : va_W)))) := hD
  refine lv_aload_n hx hb dX5_init_33 rfl (lv_at hl 0 rfl) ?_
  refine lv_bipush (v := (20 : Int32)) hx hb dX5_init_34 (by decide) ?_
  refine va_newa (atype := .int) (ty := .int) (n := (20 : Int32)) (a0 := (20, .inl (fun _ => 0))) hx hb (hts (.arrayClass .int) (by decide +kernel)) rfl hK hP hD hS hA (fun cA => vp_cell_i cA 20 (fun _ => 0)) (by decide) (N' := 20) (by decide) (by decide) (Nat.le_of_ble_eq_true rfl) (Nat.le_of_ble_eq_true rfl) dX5_init_36 (fun q36 cA H hKn hP hD hS => ?_)
  have eA := Option.some.inj ((hK.2 1 _ rfl).2.symm.trans (hKn.2 4 _ rfl).2)
  subst eA
  clear hKn
  have hP : va_P (dC, dI) vwCl (([(h, .inr (5, [.int (0 : Int32), .ref q12, .ref q20, .ref q28, .null]))] : va_W) ++ (([(q12, .inl (cyI, 20, .inl (fun _ => 0)))] : va_W) ++ (([(q20, .inl (cyI, 20, .inl (fun _ => 0)))] : va_W) ++ (([(q28, .inl (cyI, 20, .inl (fun _ => 0)))] : va_W) ++ ([(q36, .inl (cyI, 20, .inl (fun _ => 0)))] : va_W))))) H := hP
  have hD : va_D A (([(h, .inr (5, [.int (0 : Int32), .ref q12, .ref q20, .ref q28, .null]))] : va_W) ++ (([(q12, .inl (cyI, 20, .inl (fun _ => 0)))] : va_W) ++ (([(q20, .inl (cyI, 20, .inl (fun _ => 0)))] : va_W) ++ (([(q28, .inl (cyI, 20, .inl (fun _ => 0)))] : va_W) ++ ([(q36, .inl (cyI, 20, .inl (fun _ => 0)))] : va_W))))) := hD
  refine W.widen (k := 4) (n := 80) (by omega) (by omega) ?_
  refine va_putF (D := (dC, dI)) (ci := 5) (v := .ref q36) (ty := .array .int) (C := RX5) (T := TX5) (N := 5) hx hb hts hin5 tyX5 tyX5_ok nmX5 hown hK hP hD hS 0 rfl rfl 4 (by decide) kf25 (fun _ h9 => h9) rfl hin rfl (by decide +kernel) rfl rfl (Nat.le_of_ble_eq_true rfl) dX5_init_38 (fun H locs hP hD hS => ?_)
  have hP : va_P (dC, dI) vwCl (([(h, .inr (5, [.int (0 : Int32), .ref q12, .ref q20, .ref q28, .ref q36]))] : va_W) ++ (([(q12, .inl (cyI, 20, .inl (fun _ => 0)))] : va_W) ++ (([(q20, .inl (cyI, 20, .inl (fun _ => 0)))] : va_W) ++ (([(q28, .inl (cyI, 20, .inl (fun _ => 0)))] : va_W) ++ ([(q36, .inl (cyI, 20, .inl (fun _ => 0)))] : va_W))))) H := hP
  have hD : va_D A (([(h, .inr (5, [.int (0 : Int32), .ref q12, .ref q20, .ref q28, .ref q36]))] : va_W) ++ (([(q12, .inl (cyI, 20, .inl (fun _ => 0)))] : va_W) ++ (([(q20, .inl (cyI, 20, .inl (fun _ => 0)))] : va_W) ++ (([(q28, .inl (cyI, 20, .inl (fun _ => 0)))] : va_W) ++ ([(q36, .inl (cyI, 20, .inl (fun _ => 0)))] : va_W))))) := hD
  have hP9 : va_P (dC, dI) vwCl (wX5 cyB cyI cyZ cyO h q12 q20 q28 q36 m0X5) H := hP.sub (ws' := (wX5 cyB cyI cyZ cyO h q12 q20 q28 q36 m0X5)) [0, 1, 2, 3, 4] rfl
  have hD9 : va_D A (wX5 cyB cyI cyZ cyO h q12 q20 q28 q36 m0X5) := hD.sub (ws' := (wX5 cyB cyI cyZ cyO h q12 q20 q28 q36 m0X5)) [0, 1, 2, 3, 4] (by decide) rfl
  exact W.vret hx hb hr (fun t ht hW => ⟨rfl, _, ⟨q12, q20, q28, q36, rfl⟩, by rw [ht]; exact hP9, hD9, hS.F ht⟩) hS.2.2 dX5_init_41
set_option maxHeartbeats 4000000 in
set_option maxRecDepth 100000 in
theorem c_X6_init (l : Launch) (dC : Nat → ClassId) (dI : Nat → Nat → Nat) (cyB cyI cyZ cyO : ClassId) (h : Nat) (sz : Nat) : Met l yX6_init wsX6_init ({ frames := 1, cells := 0, slots := 0, locals := 40 } : Room) (PW dC dI cyB cyI cyZ cyO ([.ref h] : List Value) ([(h, .inr (6, [.int 0, .int 0, .int 0, .int 0]))] : va_W) sz) (QC dC dI (fun w => w = (wX6 cyB cyI cyZ cyO h m0X6)) (va_A ([(h, .inr (6, [.int 0, .int 0, .int 0, .int 0]))] : va_W) sz)) 0 0 (va_A ([(h, .inr (6, [.int 0, .int 0, .int 0, .int 0]))] : va_W) sz) := by
  refine Met.ofW (cc := cX6_init) (maxL := 1) (ret := none) (by decide) rfl ?_
  intro p e s m args below meth c s₁ B hml hv
  obtain ⟨rfl, hsz, hP, hCx, hD0⟩ := hv
  have hK := hCx.1
  have hN := hCx.2
  have hx := B.exec
  have hb := B.bytes
  have hr := B.returns
  have hts := atoms_spec (ws := wsX6_init) B.pre
  have hown : s.vm.findClass RX6 = some m.cls := findClass_of_methodNamed B.named
  have hlocks := B.notSynchronized
  have hin : meth.name = "<init>" := (name_of_methodNamed B.named B.method).1
  have hin6 : ∀ w ∈ u_ws RX6 TX6 4, w ∈ wsX6_init := fun w h => List.mem_cons_of_mem _ (List.mem_append_right _ h)
  have kf9 := hts (.fieldLink RX6 9 "HoldSlips$Rules" "bound" "I") (by decide +kernel)
  have kf15 := hts (.fieldLink RX6 15 "HoldSlips$Rules" "load" "I") (by decide +kernel)
  have kf18 := hts (.fieldLink RX6 18 "HoldSlips$Rules" "permit" "I") (by decide +kernel)
  have kf21 := hts (.fieldLink RX6 21 "HoldSlips$Rules" "rent" "I") (by decide +kernel)
  subst hsz
  have hD := hD0.self (sz := s.heap.size)
  generalize hAe : va_A ([(h, .inr (6, [.int 0, .int 0, .int 0, .int 0]))] : va_W) s.heap.size = A at hD ⊢
  have hA : ∀ q : Nat, s.heap.size ≤ q → A q := fun q h => by rw [← hAe]; exact Or.inr h
  have hS : va_S A s.heap s.heap [] := va_S.rf
  have hl := lv_entry ([.ref h] : List Value) (n := 1) (Nat.le_of_ble_eq_true rfl)
  rw [lg_entry_eq]
  generalize (lg_sl ([.ref h] : List Value) ++ List.replicate (1 - (lg_sl ([.ref h] : List Value)).length) Slot.unset).toArray = ls at hl ⊢
  have hl : lv_has ls 1 [(0, .ref h)] := hl
  refine lv_aload_n hx hb dX6_init_0 rfl (lv_at hl 0 rfl) ?_
  refine W.objInit hx hb hown (hts (.methodLink RX6 3 objectInit) (by decide +kernel)) (hts (.instanceMethod objectInit) (by decide +kernel)) (hts (.code objectInit ⟨#[0xb1]⟩ 1 none) (by decide +kernel)) rfl (by rw [hml]; exact hl.1) rfl dX6_init_1 (Nat.le_of_ble_eq_true rfl) (Nat.le_of_ble_eq_true rfl) ?_
  refine W.eq (g2 := F0 m 4 ls []) rfl ?_
  refine lv_aload_n hx hb dX6_init_4 rfl (lv_at hl 0 rfl) ?_
  refine lv_bipush (v := (100 : Int32)) hx hb dX6_init_5 (by decide) ?_
  refine va_put (D := (dC, dI)) (ci := 6) (v := .int (100 : Int32)) (ty := .int) (C := RX6) (T := TX6) (N := 4) hx hb hts hin6 tyX6 tyX6_ok nmX6 hown hK hP hD hS 0 rfl rfl 0 (by decide) kf9 (fun _ h9 => h9) rfl (by decide +kernel) rfl rfl (Nat.le_of_ble_eq_true rfl) dX6_init_7 (fun H locs hP hD hS => ?_)
  have hP : va_P (dC, dI) vwCl ([(h, .inr (6, [.int (100 : Int32), .int 0, .int 0, .int 0]))] : va_W) H := hP
  have hD : va_D A ([(h, .inr (6, [.int (100 : Int32), .int 0, .int 0, .int 0]))] : va_W) := hD
  refine lv_aload_n hx hb dX6_init_10 rfl (lv_at hl 0 rfl) ?_
  refine lv_sipush (v := (1000 : Int32)) hx hb dX6_init_11 (by decide) ?_
  refine va_put (D := (dC, dI)) (ci := 6) (v := .int (1000 : Int32)) (ty := .int) (C := RX6) (T := TX6) (N := 4) hx hb hts hin6 tyX6 tyX6_ok nmX6 hown hK hP hD hS 0 rfl rfl 1 (by decide) kf15 (fun _ h9 => h9) rfl (by decide +kernel) rfl rfl (Nat.le_of_ble_eq_true rfl) dX6_init_14 (fun H locs hP hD hS => ?_)
  have hP : va_P (dC, dI) vwCl ([(h, .inr (6, [.int (100 : Int32), .int (1000 : Int32), .int 0, .int 0]))] : va_W) H := hP
  have hD : va_D A ([(h, .inr (6, [.int (100 : Int32), .int (1000 : Int32), .int 0, .int 0]))] : va_W) := hD
  refine lv_aload_n hx hb dX6_init_17 rfl (lv_at hl 0 rfl) ?_
  refine lv_sipush (v := (1000 : Int32)) hx hb dX6_init_18 (by decide) ?_
  refine va_put (D := (dC, dI)) (ci := 6) (v := .int (1000 : Int32)) (ty := .int) (C := RX6) (T := TX6) (N := 4) hx hb hts hin6 tyX6 tyX6_ok nmX6 hown hK hP hD hS 0 rfl rfl 2 (by decide) kf18 (fun _ h9 => h9) rfl (by decide +kernel) rfl rfl (Nat.le_of_ble_eq_true rfl) dX6_init_21 (fun H locs hP hD hS => ?_)
  have hP : va_P (dC, dI) vwCl ([(h, .inr (6, [.int (100 : Int32), .int (1000 : Int32), .int (1000 : Int32), .int 0]))] : va_W) H := hP
  have hD : va_D A ([(h, .inr (6, [.int (100 : Int32), .int (1000 : Int32), .int (1000 : Int32), .int 0]))] : va_W) := hD
  refine lv_aload_n hx hb dX6_init_24 rfl (lv_at hl 0 rfl) ?_
  refine lv_iconst (v := (1 : Int32)) hx hb dX6_init_25 (by decide) ?_
  refine va_put (D := (dC, dI)) (ci := 6) (v := .int (1 : Int32)) (ty := .int) (C := RX6) (T := TX6) (N := 4) hx hb hts hin6 tyX6 tyX6_ok nmX6 hown hK hP hD hS 0 rfl rfl 3 (by decide) kf21 (fun _ h9 => h9) rfl (by decide +kernel) rfl rfl (Nat.le_of_ble_eq_true rfl) dX6_init_26 (fun H locs hP hD hS => ?_)
  have hP : va_P (dC, dI) vwCl ([(h, .inr (6, [.int (100 : Int32), .int (1000 : Int32), .int (1000 : Int32), .int (1 : Int32)]))] : va_W) H := hP
  have hD : va_D A ([(h, .inr (6, [.int (100 : Int32), .int (1000 : Int32), .int (1000 : Int32), .int (1 : Int32)]))] : va_W) := hD
  have hP9 : va_P (dC, dI) vwCl (wX6 cyB cyI cyZ cyO h m0X6) H := hP.sub (ws' := (wX6 cyB cyI cyZ cyO h m0X6)) [0] rfl
  have hD9 : va_D A (wX6 cyB cyI cyZ cyO h m0X6) := hD.sub (ws' := (wX6 cyB cyI cyZ cyO h m0X6)) [0] (by decide) rfl
  exact W.vret hx hb hr (fun t ht hW => ⟨rfl, _, rfl, by rw [ht]; exact hP9, hD9, hS.F ht⟩) hS.2.2 dX6_init_29
set_option maxHeartbeats 4000000 in
set_option maxRecDepth 100000 in
theorem c_X8_init (l : Launch) (dC : Nat → ClassId) (dI : Nat → Nat → Nat) (cyB cyI cyZ cyO : ClassId) (h : Nat) (sz : Nat) : Met l yX8_init wsX8_init ({ frames := 1, cells := 1, slots := 400, locals := 40 } : Room) (PW dC dI cyB cyI cyZ cyO ([.ref h] : List Value) ([(h, .inr (8, [.null, .int 0]))] : va_W) sz) (QC dC dI (fun w => ∃ q8 : Nat, w = (wX8 cyB cyI cyZ cyO h q8 m0X8)) (va_A ([(h, .inr (8, [.null, .int 0]))] : va_W) sz)) 1 400 (va_A ([(h, .inr (8, [.null, .int 0]))] : va_W) sz) := by
  refine Met.ofW (cc := cX8_init) (maxL := 1) (ret := none) (by decide) rfl ?_
  intro p e s m args below meth c s₁ B hml hv
  obtain ⟨rfl, hsz, hP, hCx, hD0⟩ := hv
  have hK := hCx.1
  have hN := hCx.2
  have hx := B.exec
  have hb := B.bytes
  have hr := B.returns
  have hts := atoms_spec (ws := wsX8_init) B.pre
  have hown : s.vm.findClass RX8 = some m.cls := findClass_of_methodNamed B.named
  have hlocks := B.notSynchronized
  have hin : meth.name = "<init>" := (name_of_methodNamed B.named B.method).1
  have hin8 : ∀ w ∈ u_ws RX8 TX8 2, w ∈ wsX8_init := fun w h => List.mem_cons_of_mem _ (List.mem_append_right _ h)
  have kf9 := hts (.fieldLink RX8 9 "HoldSlips$Tape" "bytes" "[B") (by decide +kernel)
  have kf15 := hts (.fieldLink RX8 15 "HoldSlips$Tape" "length" "I") (by decide +kernel)
  subst hsz
  have hD := hD0.self (sz := s.heap.size)
  generalize hAe : va_A ([(h, .inr (8, [.null, .int 0]))] : va_W) s.heap.size = A at hD ⊢
  have hA : ∀ q : Nat, s.heap.size ≤ q → A q := fun q h => by rw [← hAe]; exact Or.inr h
  have hS : va_S A s.heap s.heap [] := va_S.rf
  have hl := lv_entry ([.ref h] : List Value) (n := 1) (Nat.le_of_ble_eq_true rfl)
  rw [lg_entry_eq]
  generalize (lg_sl ([.ref h] : List Value) ++ List.replicate (1 - (lg_sl ([.ref h] : List Value)).length) Slot.unset).toArray = ls at hl ⊢
  have hl : lv_has ls 1 [(0, .ref h)] := hl
  refine lv_aload_n hx hb dX8_init_0 rfl (lv_at hl 0 rfl) ?_
  refine W.objInit hx hb hown (hts (.methodLink RX8 3 objectInit) (by decide +kernel)) (hts (.instanceMethod objectInit) (by decide +kernel)) (hts (.code objectInit ⟨#[0xb1]⟩ 1 none) (by decide +kernel)) rfl (by rw [hml]; exact hl.1) rfl dX8_init_1 (Nat.le_of_ble_eq_true rfl) (Nat.le_of_ble_eq_true rfl) ?_
  refine W.eq (g2 := F0 m 4 ls []) rfl ?_
  refine lv_aload_n hx hb dX8_init_4 rfl (lv_at hl 0 rfl) ?_
  refine lv_sipush (v := (400 : Int32)) hx hb dX8_init_5 (by decide) ?_
  refine va_newa (atype := .byte) (ty := .byte) (n := (400 : Int32)) (a0 := (400, .inl (fun _ => 0))) hx hb (hts (.arrayClass .byte) (by decide +kernel)) rfl hK hP hD hS hA (fun cA => vp_cell_i cA 400 (fun _ => 0)) (by decide) (N' := 400) (by decide) (by decide) (Nat.le_of_ble_eq_true rfl) (Nat.le_of_ble_eq_true rfl) dX8_init_8 (fun q8 cA H hKn hP hD hS => ?_)
  have eA := Option.some.inj ((hK.2 0 _ rfl).2.symm.trans (hKn.2 4 _ rfl).2)
  subst eA
  clear hKn
  have hP : va_P (dC, dI) vwCl (([(h, .inr (8, [.null, .int 0]))] : va_W) ++ ([(q8, .inl (cyB, 400, .inl (fun _ => 0)))] : va_W)) H := hP
  have hD : va_D A (([(h, .inr (8, [.null, .int 0]))] : va_W) ++ ([(q8, .inl (cyB, 400, .inl (fun _ => 0)))] : va_W)) := hD
  refine W.widen (k := 1) (n := 400) (by omega) (by omega) ?_
  refine va_putF (D := (dC, dI)) (ci := 8) (v := .ref q8) (ty := .array .byte) (C := RX8) (T := TX8) (N := 2) hx hb hts hin8 tyX8 tyX8_ok nmX8 hown hK hP hD hS 0 rfl rfl 0 (by decide) kf9 (fun _ h9 => h9) rfl hin rfl (by decide +kernel) rfl rfl (Nat.le_of_ble_eq_true rfl) dX8_init_10 (fun H locs hP hD hS => ?_)
  have hP : va_P (dC, dI) vwCl (([(h, .inr (8, [.ref q8, .int 0]))] : va_W) ++ ([(q8, .inl (cyB, 400, .inl (fun _ => 0)))] : va_W)) H := hP
  have hD : va_D A (([(h, .inr (8, [.ref q8, .int 0]))] : va_W) ++ ([(q8, .inl (cyB, 400, .inl (fun _ => 0)))] : va_W)) := hD
  refine lv_aload_n hx hb dX8_init_13 rfl (lv_at hl 0 rfl) ?_
  refine lv_iconst (v := (0 : Int32)) hx hb dX8_init_14 (by decide) ?_
  refine va_put (D := (dC, dI)) (ci := 8) (v := .int (0 : Int32)) (ty := .int) (C := RX8) (T := TX8) (N := 2) hx hb hts hin8 tyX8 tyX8_ok nmX8 hown hK hP hD hS 0 rfl rfl 1 (by decide) kf15 (fun _ h9 => h9) rfl (by decide +kernel) rfl rfl (Nat.le_of_ble_eq_true rfl) dX8_init_15 (fun H locs hP hD hS => ?_)
  have hP : va_P (dC, dI) vwCl (([(h, .inr (8, [.ref q8, .int (0 : Int32)]))] : va_W) ++ ([(q8, .inl (cyB, 400, .inl (fun _ => 0)))] : va_W)) H := hP
  have hD : va_D A (([(h, .inr (8, [.ref q8, .int (0 : Int32)]))] : va_W) ++ ([(q8, .inl (cyB, 400, .inl (fun _ => 0)))] : va_W)) := hD
  have hP9 : va_P (dC, dI) vwCl (wX8 cyB cyI cyZ cyO h q8 m0X8) H := hP.sub (ws' := (wX8 cyB cyI cyZ cyO h q8 m0X8)) [0, 1] rfl
  have hD9 : va_D A (wX8 cyB cyI cyZ cyO h q8 m0X8) := hD.sub (ws' := (wX8 cyB cyI cyZ cyO h q8 m0X8)) [0, 1] (by decide) rfl
  exact W.vret hx hb hr (fun t ht hW => ⟨rfl, _, ⟨q8, rfl⟩, by rw [ht]; exact hP9, hD9, hS.F ht⟩) hS.2.2 dX8_init_18
set_option maxHeartbeats 4000000 in
set_option maxRecDepth 100000 in
theorem c_X10_init (l : Launch) (dC : Nat → ClassId) (dI : Nat → Nat → Nat) (cyB cyI cyZ cyO : ClassId) (h : Nat) (sz : Nat) : Met l yX10_init wsX10_init ({ frames := 1, cells := 1, slots := 1791, locals := 40 } : Room) (PW dC dI cyB cyI cyZ cyO ([.ref h] : List Value) ([(h, .inr (10, [.null]))] : va_W) sz) (QC dC dI (fun w => ∃ q8 : Nat, w = (wX10 cyB cyI cyZ cyO h q8 m0X10)) (va_A ([(h, .inr (10, [.null]))] : va_W) sz)) 1 1791 (va_A ([(h, .inr (10, [.null]))] : va_W) sz) := by
  refine Met.ofW (cc := cX10_init) (maxL := 1) (ret := none) (by decide) rfl ?_
  intro p e s m args below meth c s₁ B hml hv
  obtain ⟨rfl, hsz, hP, hCx, hD0⟩ := hv
  have hK := hCx.1
  have hN := hCx.2
  have hx := B.exec
  have hb := B.bytes
  have hr := B.returns
  have hts := atoms_spec (ws := wsX10_init) B.pre
  have hown : s.vm.findClass RX10 = some m.cls := findClass_of_methodNamed B.named
  have hlocks := B.notSynchronized
  have hin : meth.name = "<init>" := (name_of_methodNamed B.named B.method).1
  have hin10 : ∀ w ∈ u_ws RX10 TX10 1, w ∈ wsX10_init := fun w h => List.mem_cons_of_mem _ (List.mem_append_right _ h)
  have kf11 := hts (.fieldLink RX10 11 "HoldSlips$YearBook" "cells" "[I") (by decide +kernel)
  subst hsz
  have hD := hD0.self (sz := s.heap.size)
  generalize hAe : va_A ([(h, .inr (10, [.null]))] : va_W) s.heap.size = A at hD ⊢
  have hA : ∀ q : Nat, s.heap.size ≤ q → A q := fun q h => by rw [← hAe]; exact Or.inr h
  have hS : va_S A s.heap s.heap [] := va_S.rf
  have hl := lv_entry ([.ref h] : List Value) (n := 1) (Nat.le_of_ble_eq_true rfl)
  rw [lg_entry_eq]
  generalize (lg_sl ([.ref h] : List Value) ++ List.replicate (1 - (lg_sl ([.ref h] : List Value)).length) Slot.unset).toArray = ls at hl ⊢
  have hl : lv_has ls 1 [(0, .ref h)] := hl
  refine lv_aload_n hx hb dX10_init_0 rfl (lv_at hl 0 rfl) ?_
  refine W.objInit hx hb hown (hts (.methodLink RX10 3 objectInit) (by decide +kernel)) (hts (.instanceMethod objectInit) (by decide +kernel)) (hts (.code objectInit ⟨#[0xb1]⟩ 1 none) (by decide +kernel)) rfl (by rw [hml]; exact hl.1) rfl dX10_init_1 (Nat.le_of_ble_eq_true rfl) (Nat.le_of_ble_eq_true rfl) ?_
  refine W.eq (g2 := F0 m 4 ls []) rfl ?_
  refine lv_aload_n hx hb dX10_init_4 rfl (lv_at hl 0 rfl) ?_
  refine lv_sipush (v := (1791 : Int32)) hx hb dX10_init_5 (by decide) ?_
  refine va_newa (atype := .int) (ty := .int) (n := (1791 : Int32)) (a0 := (1791, .inl (fun _ => 0))) hx hb (hts (.arrayClass .int) (by decide +kernel)) rfl hK hP hD hS hA (fun cA => vp_cell_i cA 1791 (fun _ => 0)) (by decide) (N' := 1791) (by decide) (by decide) (Nat.le_of_ble_eq_true rfl) (Nat.le_of_ble_eq_true rfl) dX10_init_8 (fun q8 cA H hKn hP hD hS => ?_)
  have eA := Option.some.inj ((hK.2 1 _ rfl).2.symm.trans (hKn.2 4 _ rfl).2)
  subst eA
  clear hKn
  have hP : va_P (dC, dI) vwCl (([(h, .inr (10, [.null]))] : va_W) ++ ([(q8, .inl (cyI, 1791, .inl (fun _ => 0)))] : va_W)) H := hP
  have hD : va_D A (([(h, .inr (10, [.null]))] : va_W) ++ ([(q8, .inl (cyI, 1791, .inl (fun _ => 0)))] : va_W)) := hD
  refine W.widen (k := 1) (n := 1791) (by omega) (by omega) ?_
  refine va_putF (D := (dC, dI)) (ci := 10) (v := .ref q8) (ty := .array .int) (C := RX10) (T := TX10) (N := 1) hx hb hts hin10 tyX10 tyX10_ok nmX10 hown hK hP hD hS 0 rfl rfl 0 (by decide) kf11 (fun _ h9 => h9) rfl hin rfl (by decide +kernel) rfl rfl (Nat.le_of_ble_eq_true rfl) dX10_init_10 (fun H locs hP hD hS => ?_)
  have hP : va_P (dC, dI) vwCl (([(h, .inr (10, [.ref q8]))] : va_W) ++ ([(q8, .inl (cyI, 1791, .inl (fun _ => 0)))] : va_W)) H := hP
  have hD : va_D A (([(h, .inr (10, [.ref q8]))] : va_W) ++ ([(q8, .inl (cyI, 1791, .inl (fun _ => 0)))] : va_W)) := hD
  have hP9 : va_P (dC, dI) vwCl (wX10 cyB cyI cyZ cyO h q8 m0X10) H := hP.sub (ws' := (wX10 cyB cyI cyZ cyO h q8 m0X10)) [0, 1] rfl
  have hD9 : va_D A (wX10 cyB cyI cyZ cyO h q8 m0X10) := hD.sub (ws' := (wX10 cyB cyI cyZ cyO h q8 m0X10)) [0, 1] (by decide) rfl
  exact W.vret hx hb hr (fun t ht hW => ⟨rfl, _, ⟨q8, rfl⟩, by rw [ht]; exact hP9, hD9, hS.F ht⟩) hS.2.2 dX10_init_13
set_option maxHeartbeats 4000000 in
set_option maxRecDepth 100000 in
theorem c_X1_init (l : Launch) (dC : Nat → ClassId) (dI : Nat → Nat → Nat) (cyB cyI cyZ cyO : ClassId) (h : Nat) (sz : Nat) : Met l yX1_init wsX1_init ({ frames := 1, cells := 11, slots := 131, locals := 40 } : Room) (PW dC dI cyB cyI cyZ cyO ([.ref h] : List Value) ([(h, .inr (1, [.int 0, .null, .null, .null, .null, .null, .null, .null, .null, .null, .null, .null, .int 0, .int 0, .int 0, .int 0, .int 0]))] : va_W) sz) (QC dC dI (fun w => ∃ q12 q20 q28 q36 q44 q52 q60 q68 q76 q84 q92 : Nat, w = (wX1 cyB cyI cyZ cyO h q12 q20 q28 q36 q44 q52 q60 q68 q76 q84 q92 m0X1)) (va_A ([(h, .inr (1, [.int 0, .null, .null, .null, .null, .null, .null, .null, .null, .null, .null, .null, .int 0, .int 0, .int 0, .int 0, .int 0]))] : va_W) sz)) 11 131 (va_A ([(h, .inr (1, [.int 0, .null, .null, .null, .null, .null, .null, .null, .null, .null, .null, .null, .int 0, .int 0, .int 0, .int 0, .int 0]))] : va_W) sz) := by
  refine Met.ofW (cc := cX1_init) (maxL := 1) (ret := none) (by decide) rfl ?_
  intro p e s m args below meth c s₁ B hml hv
  obtain ⟨rfl, hsz, hP, hCx, hD0⟩ := hv
  have hK := hCx.1
  have hN := hCx.2
  have hx := B.exec
  have hb := B.bytes
  have hr := B.returns
  have hts := atoms_spec (ws := wsX1_init) B.pre
  have hown : s.vm.findClass RX1 = some m.cls := findClass_of_methodNamed B.named
  have hlocks := B.notSynchronized
  have hin : meth.name = "<init>" := (name_of_methodNamed B.named B.method).1
  have hin1 : ∀ w ∈ u_ws RX1 TX1 17, w ∈ wsX1_init := fun w h => List.mem_cons_of_mem _ (List.mem_append_right _ h)
  have kf9 := hts (.fieldLink RX1 9 "HoldSlips$BestSearch" "number" "I") (by decide +kernel)
  have kf15 := hts (.fieldLink RX1 15 "HoldSlips$BestSearch" "bale" "[I") (by decide +kernel)
  have kf19 := hts (.fieldLink RX1 19 "HoldSlips$BestSearch" "owner" "[I") (by decide +kernel)
  have kf22 := hts (.fieldLink RX1 22 "HoldSlips$BestSearch" "room" "[I") (by decide +kernel)
  have kf25 := hts (.fieldLink RX1 25 "HoldSlips$BestSearch" "value" "[I") (by decide +kernel)
  have kf28 := hts (.fieldLink RX1 28 "HoldSlips$BestSearch" "weight" "[I") (by decide +kernel)
  have kf31 := hts (.fieldLink RX1 31 "HoldSlips$BestSearch" "roomFrom" "[I") (by decide +kernel)
  have kf34 := hts (.fieldLink RX1 34 "HoldSlips$BestSearch" "valueFrom" "[I") (by decide +kernel)
  have kf37 := hts (.fieldLink RX1 37 "HoldSlips$BestSearch" "weightFrom" "[I") (by decide +kernel)
  have kf40 := hts (.fieldLink RX1 40 "HoldSlips$BestSearch" "free" "[I") (by decide +kernel)
  have kf43 := hts (.fieldLink RX1 43 "HoldSlips$BestSearch" "side" "[I") (by decide +kernel)
  have kf46 := hts (.fieldLink RX1 46 "HoldSlips$BestSearch" "bestSide" "[I") (by decide +kernel)
  have kf49 := hts (.fieldLink RX1 49 "HoldSlips$BestSearch" "bound" "I") (by decide +kernel)
  have kf52 := hts (.fieldLink RX1 52 "HoldSlips$BestSearch" "load" "I") (by decide +kernel)
  have kf55 := hts (.fieldLink RX1 55 "HoldSlips$BestSearch" "found" "Z") (by decide +kernel)
  have kf59 := hts (.fieldLink RX1 59 "HoldSlips$BestSearch" "bestValue" "I") (by decide +kernel)
  have kf62 := hts (.fieldLink RX1 62 "HoldSlips$BestSearch" "bestSlips" "I") (by decide +kernel)
  subst hsz
  have hD := hD0.self (sz := s.heap.size)
  generalize hAe : va_A ([(h, .inr (1, [.int 0, .null, .null, .null, .null, .null, .null, .null, .null, .null, .null, .null, .int 0, .int 0, .int 0, .int 0, .int 0]))] : va_W) s.heap.size = A at hD ⊢
  have hA : ∀ q : Nat, s.heap.size ≤ q → A q := fun q h => by rw [← hAe]; exact Or.inr h
  have hS : va_S A s.heap s.heap [] := va_S.rf
  have hl := lv_entry ([.ref h] : List Value) (n := 1) (Nat.le_of_ble_eq_true rfl)
  rw [lg_entry_eq]
  generalize (lg_sl ([.ref h] : List Value) ++ List.replicate (1 - (lg_sl ([.ref h] : List Value)).length) Slot.unset).toArray = ls at hl ⊢
  have hl : lv_has ls 1 [(0, .ref h)] := hl
  refine lv_aload_n hx hb dX1_init_0 rfl (lv_at hl 0 rfl) ?_
  refine W.objInit hx hb hown (hts (.methodLink RX1 3 objectInit) (by decide +kernel)) (hts (.instanceMethod objectInit) (by decide +kernel)) (hts (.code objectInit ⟨#[0xb1]⟩ 1 none) (by decide +kernel)) rfl (by rw [hml]; exact hl.1) rfl dX1_init_1 (Nat.le_of_ble_eq_true rfl) (Nat.le_of_ble_eq_true rfl) ?_
  refine W.eq (g2 := F0 m 4 ls []) rfl ?_
  refine lv_aload_n hx hb dX1_init_4 rfl (lv_at hl 0 rfl) ?_
  refine lv_iconst (v := (0 : Int32)) hx hb dX1_init_5 (by decide) ?_
  refine va_put (D := (dC, dI)) (ci := 1) (v := .int (0 : Int32)) (ty := .int) (C := RX1) (T := TX1) (N := 17) hx hb hts hin1 tyX1 tyX1_ok nmX1 hown hK hP hD hS 0 rfl rfl 0 (by decide) kf9 (fun _ h9 => h9) rfl (by decide +kernel) rfl rfl (Nat.le_of_ble_eq_true rfl) dX1_init_6 (fun H locs hP hD hS => ?_)
  have hP : va_P (dC, dI) vwCl ([(h, .inr (1, [.int (0 : Int32), .null, .null, .null, .null, .null, .null, .null, .null, .null, .null, .null, .int 0, .int 0, .int 0, .int 0, .int 0]))] : va_W) H := hP
  have hD : va_D A ([(h, .inr (1, [.int (0 : Int32), .null, .null, .null, .null, .null, .null, .null, .null, .null, .null, .null, .int 0, .int 0, .int 0, .int 0, .int 0]))] : va_W) := hD
  refine lv_aload_n hx hb dX1_init_9 rfl (lv_at hl 0 rfl) ?_
  refine lv_bipush (v := (12 : Int32)) hx hb dX1_init_10 (by decide) ?_
  refine va_newa (atype := .int) (ty := .int) (n := (12 : Int32)) (a0 := (12, .inl (fun _ => 0))) hx hb (hts (.arrayClass .int) (by decide +kernel)) rfl hK hP hD hS hA (fun cA => vp_cell_i cA 12 (fun _ => 0)) (by decide) (N' := 12) (by decide) (by decide) (Nat.le_of_ble_eq_true rfl) (Nat.le_of_ble_eq_true rfl) dX1_init_12 (fun q12 cA H hKn hP hD hS => ?_)
  have eA := Option.some.inj ((hK.2 1 _ rfl).2.symm.trans (hKn.2 4 _ rfl).2)
  subst eA
  clear hKn
  have hP : va_P (dC, dI) vwCl (([(h, .inr (1, [.int (0 : Int32), .null, .null, .null, .null, .null, .null, .null, .null, .null, .null, .null, .int 0, .int 0, .int 0, .int 0, .int 0]))] : va_W) ++ ([(q12, .inl (cyI, 12, .inl (fun _ => 0)))] : va_W)) H := hP
  have hD : va_D A (([(h, .inr (1, [.int (0 : Int32), .null, .null, .null, .null, .null, .null, .null, .null, .null, .null, .null, .int 0, .int 0, .int 0, .int 0, .int 0]))] : va_W) ++ ([(q12, .inl (cyI, 12, .inl (fun _ => 0)))] : va_W)) := hD
  refine W.widen (k := 1) (n := 12) (by omega) (by omega) ?_
  refine va_putF (D := (dC, dI)) (ci := 1) (v := .ref q12) (ty := .array .int) (C := RX1) (T := TX1) (N := 17) hx hb hts hin1 tyX1 tyX1_ok nmX1 hown hK hP hD hS 0 rfl rfl 1 (by decide) kf15 (fun _ h9 => h9) rfl hin rfl (by decide +kernel) rfl rfl (Nat.le_of_ble_eq_true rfl) dX1_init_14 (fun H locs hP hD hS => ?_)
  have hP : va_P (dC, dI) vwCl (([(h, .inr (1, [.int (0 : Int32), .ref q12, .null, .null, .null, .null, .null, .null, .null, .null, .null, .null, .int 0, .int 0, .int 0, .int 0, .int 0]))] : va_W) ++ ([(q12, .inl (cyI, 12, .inl (fun _ => 0)))] : va_W)) H := hP
  have hD : va_D A (([(h, .inr (1, [.int (0 : Int32), .ref q12, .null, .null, .null, .null, .null, .null, .null, .null, .null, .null, .int 0, .int 0, .int 0, .int 0, .int 0]))] : va_W) ++ ([(q12, .inl (cyI, 12, .inl (fun _ => 0)))] : va_W)) := hD
  refine lv_aload_n hx hb dX1_init_17 rfl (lv_at hl 0 rfl) ?_
  refine lv_bipush (v := (12 : Int32)) hx hb dX1_init_18 (by decide) ?_
  refine va_newa (atype := .int) (ty := .int) (n := (12 : Int32)) (a0 := (12, .inl (fun _ => 0))) hx hb (hts (.arrayClass .int) (by decide +kernel)) rfl hK hP hD hS hA (fun cA => vp_cell_i cA 12 (fun _ => 0)) (by decide) (N' := 12) (by decide) (by decide) (Nat.le_of_ble_eq_true rfl) (Nat.le_of_ble_eq_true rfl) dX1_init_20 (fun q20 cA H hKn hP hD hS => ?_)
  have eA := Option.some.inj ((hK.2 1 _ rfl).2.symm.trans (hKn.2 4 _ rfl).2)
  subst eA
  clear hKn
  have hP : va_P (dC, dI) vwCl (([(h, .inr (1, [.int (0 : Int32), .ref q12, .null, .null, .null, .null, .null, .null, .null, .null, .null, .null, .int 0, .int 0, .int 0, .int 0, .int 0]))] : va_W) ++ (([(q12, .inl (cyI, 12, .inl (fun _ => 0)))] : va_W) ++ ([(q20, .inl (cyI, 12, .inl (fun _ => 0)))] : va_W))) H := hP
  have hD : va_D A (([(h, .inr (1, [.int (0 : Int32), .ref q12, .null, .null, .null, .null, .null, .null, .null, .null, .null, .null, .int 0, .int 0, .int 0, .int 0, .int 0]))] : va_W) ++ (([(q12, .inl (cyI, 12, .inl (fun _ => 0)))] : va_W) ++ ([(q20, .inl (cyI, 12, .inl (fun _ => 0)))] : va_W))) := hD
  refine W.widen (k := 2) (n := 24) (by omega) (by omega) ?_
  refine va_putF (D := (dC, dI)) (ci := 1) (v := .ref q20) (ty := .array .int) (C := RX1) (T := TX1) (N := 17) hx hb hts hin1 tyX1 tyX1_ok nmX1 hown hK hP hD hS 0 rfl rfl 2 (by decide) kf19 (fun _ h9 => h9) rfl hin rfl (by decide +kernel) rfl rfl (Nat.le_of_ble_eq_true rfl) dX1_init_22 (fun H locs hP hD hS => ?_)
  have hP : va_P (dC, dI) vwCl (([(h, .inr (1, [.int (0 : Int32), .ref q12, .ref q20, .null, .null, .null, .null, .null, .null, .null, .null, .null, .int 0, .int 0, .int 0, .int 0, .int 0]))] : va_W) ++ (([(q12, .inl (cyI, 12, .inl (fun _ => 0)))] : va_W) ++ ([(q20, .inl (cyI, 12, .inl (fun _ => 0)))] : va_W))) H := hP
  have hD : va_D A (([(h, .inr (1, [.int (0 : Int32), .ref q12, .ref q20, .null, .null, .null, .null, .null, .null, .null, .null, .null, .int 0, .int 0, .int 0, .int 0, .int 0]))] : va_W) ++ (([(q12, .inl (cyI, 12, .inl (fun _ => 0)))] : va_W) ++ ([(q20, .inl (cyI, 12, .inl (fun _ => 0)))] : va_W))) := hD
  refine lv_aload_n hx hb dX1_init_25 rfl (lv_at hl 0 rfl) ?_
  refine lv_bipush (v := (12 : Int32)) hx hb dX1_init_26 (by decide) ?_
  refine va_newa (atype := .int) (ty := .int) (n := (12 : Int32)) (a0 := (12, .inl (fun _ => 0))) hx hb (hts (.arrayClass .int) (by decide +kernel)) rfl hK hP hD hS hA (fun cA => vp_cell_i cA 12 (fun _ => 0)) (by decide) (N' := 12) (by decide) (by decide) (Nat.le_of_ble_eq_true rfl) (Nat.le_of_ble_eq_true rfl) dX1_init_28 (fun q28 cA H hKn hP hD hS => ?_)
  have eA := Option.some.inj ((hK.2 1 _ rfl).2.symm.trans (hKn.2 4 _ rfl).2)
  subst eA
  clear hKn
  have hP : va_P (dC, dI) vwCl (([(h, .inr (1, [.int (0 : Int32), .ref q12, .ref q20, .null, .null, .null, .null, .null, .null, .null, .null, .null, .int 0, .int 0, .int 0, .int 0, .int 0]))] : va_W) ++ (([(q12, .inl (cyI, 12, .inl (fun _ => 0)))] : va_W) ++ (([(q20, .inl (cyI, 12, .inl (fun _ => 0)))] : va_W) ++ ([(q28, .inl (cyI, 12, .inl (fun _ => 0)))] : va_W)))) H := hP
  have hD : va_D A (([(h, .inr (1, [.int (0 : Int32), .ref q12, .ref q20, .null, .null, .null, .null, .null, .null, .null, .null, .null, .int 0, .int 0, .int 0, .int 0, .int 0]))] : va_W) ++ (([(q12, .inl (cyI, 12, .inl (fun _ => 0)))] : va_W) ++ (([(q20, .inl (cyI, 12, .inl (fun _ => 0)))] : va_W) ++ ([(q28, .inl (cyI, 12, .inl (fun _ => 0)))] : va_W)))) := hD
  refine W.widen (k := 3) (n := 36) (by omega) (by omega) ?_
  refine va_putF (D := (dC, dI)) (ci := 1) (v := .ref q28) (ty := .array .int) (C := RX1) (T := TX1) (N := 17) hx hb hts hin1 tyX1 tyX1_ok nmX1 hown hK hP hD hS 0 rfl rfl 3 (by decide) kf22 (fun _ h9 => h9) rfl hin rfl (by decide +kernel) rfl rfl (Nat.le_of_ble_eq_true rfl) dX1_init_30 (fun H locs hP hD hS => ?_)
  have hP : va_P (dC, dI) vwCl (([(h, .inr (1, [.int (0 : Int32), .ref q12, .ref q20, .ref q28, .null, .null, .null, .null, .null, .null, .null, .null, .int 0, .int 0, .int 0, .int 0, .int 0]))] : va_W) ++ (([(q12, .inl (cyI, 12, .inl (fun _ => 0)))] : va_W) ++ (([(q20, .inl (cyI, 12, .inl (fun _ => 0)))] : va_W) ++ ([(q28, .inl (cyI, 12, .inl (fun _ => 0)))] : va_W)))) H := hP
  have hD : va_D A (([(h, .inr (1, [.int (0 : Int32), .ref q12, .ref q20, .ref q28, .null, .null, .null, .null, .null, .null, .null, .null, .int 0, .int 0, .int 0, .int 0, .int 0]))] : va_W) ++ (([(q12, .inl (cyI, 12, .inl (fun _ => 0)))] : va_W) ++ (([(q20, .inl (cyI, 12, .inl (fun _ => 0)))] : va_W) ++ ([(q28, .inl (cyI, 12, .inl (fun _ => 0)))] : va_W)))) := hD
  refine lv_aload_n hx hb dX1_init_33 rfl (lv_at hl 0 rfl) ?_
  refine lv_bipush (v := (12 : Int32)) hx hb dX1_init_34 (by decide) ?_
  refine va_newa (atype := .int) (ty := .int) (n := (12 : Int32)) (a0 := (12, .inl (fun _ => 0))) hx hb (hts (.arrayClass .int) (by decide +kernel)) rfl hK hP hD hS hA (fun cA => vp_cell_i cA 12 (fun _ => 0)) (by decide) (N' := 12) (by decide) (by decide) (Nat.le_of_ble_eq_true rfl) (Nat.le_of_ble_eq_true rfl) dX1_init_36 (fun q36 cA H hKn hP hD hS => ?_)
  have eA := Option.some.inj ((hK.2 1 _ rfl).2.symm.trans (hKn.2 4 _ rfl).2)
  subst eA
  clear hKn
  have hP : va_P (dC, dI) vwCl (([(h, .inr (1, [.int (0 : Int32), .ref q12, .ref q20, .ref q28, .null, .null, .null, .null, .null, .null, .null, .null, .int 0, .int 0, .int 0, .int 0, .int 0]))] : va_W) ++ (([(q12, .inl (cyI, 12, .inl (fun _ => 0)))] : va_W) ++ (([(q20, .inl (cyI, 12, .inl (fun _ => 0)))] : va_W) ++ (([(q28, .inl (cyI, 12, .inl (fun _ => 0)))] : va_W) ++ ([(q36, .inl (cyI, 12, .inl (fun _ => 0)))] : va_W))))) H := hP
  have hD : va_D A (([(h, .inr (1, [.int (0 : Int32), .ref q12, .ref q20, .ref q28, .null, .null, .null, .null, .null, .null, .null, .null, .int 0, .int 0, .int 0, .int 0, .int 0]))] : va_W) ++ (([(q12, .inl (cyI, 12, .inl (fun _ => 0)))] : va_W) ++ (([(q20, .inl (cyI, 12, .inl (fun _ => 0)))] : va_W) ++ (([(q28, .inl (cyI, 12, .inl (fun _ => 0)))] : va_W) ++ ([(q36, .inl (cyI, 12, .inl (fun _ => 0)))] : va_W))))) := hD
  refine W.widen (k := 4) (n := 48) (by omega) (by omega) ?_
  refine va_putF (D := (dC, dI)) (ci := 1) (v := .ref q36) (ty := .array .int) (C := RX1) (T := TX1) (N := 17) hx hb hts hin1 tyX1 tyX1_ok nmX1 hown hK hP hD hS 0 rfl rfl 4 (by decide) kf25 (fun _ h9 => h9) rfl hin rfl (by decide +kernel) rfl rfl (Nat.le_of_ble_eq_true rfl) dX1_init_38 (fun H locs hP hD hS => ?_)
  have hP : va_P (dC, dI) vwCl (([(h, .inr (1, [.int (0 : Int32), .ref q12, .ref q20, .ref q28, .ref q36, .null, .null, .null, .null, .null, .null, .null, .int 0, .int 0, .int 0, .int 0, .int 0]))] : va_W) ++ (([(q12, .inl (cyI, 12, .inl (fun _ => 0)))] : va_W) ++ (([(q20, .inl (cyI, 12, .inl (fun _ => 0)))] : va_W) ++ (([(q28, .inl (cyI, 12, .inl (fun _ => 0)))] : va_W) ++ ([(q36, .inl (cyI, 12, .inl (fun _ => 0)))] : va_W))))) H := hP
  have hD : va_D A (([(h, .inr (1, [.int (0 : Int32), .ref q12, .ref q20, .ref q28, .ref q36, .null, .null, .null, .null, .null, .null, .null, .int 0, .int 0, .int 0, .int 0, .int 0]))] : va_W) ++ (([(q12, .inl (cyI, 12, .inl (fun _ => 0)))] : va_W) ++ (([(q20, .inl (cyI, 12, .inl (fun _ => 0)))] : va_W) ++ (([(q28, .inl (cyI, 12, .inl (fun _ => 0)))] : va_W) ++ ([(q36, .inl (cyI, 12, .inl (fun _ => 0)))] : va_W))))) := hD
  refine lv_aload_n hx hb dX1_init_41 rfl (lv_at hl 0 rfl) ?_
  refine lv_bipush (v := (12 : Int32)) hx hb dX1_init_42 (by decide) ?_
  refine va_newa (atype := .int) (ty := .int) (n := (12 : Int32)) (a0 := (12, .inl (fun _ => 0))) hx hb (hts (.arrayClass .int) (by decide +kernel)) rfl hK hP hD hS hA (fun cA => vp_cell_i cA 12 (fun _ => 0)) (by decide) (N' := 12) (by decide) (by decide) (Nat.le_of_ble_eq_true rfl) (Nat.le_of_ble_eq_true rfl) dX1_init_44 (fun q44 cA H hKn hP hD hS => ?_)
  have eA := Option.some.inj ((hK.2 1 _ rfl).2.symm.trans (hKn.2 4 _ rfl).2)
  subst eA
  clear hKn
  have hP : va_P (dC, dI) vwCl (([(h, .inr (1, [.int (0 : Int32), .ref q12, .ref q20, .ref q28, .ref q36, .null, .null, .null, .null, .null, .null, .null, .int 0, .int 0, .int 0, .int 0, .int 0]))] : va_W) ++ (([(q12, .inl (cyI, 12, .inl (fun _ => 0)))] : va_W) ++ (([(q20, .inl (cyI, 12, .inl (fun _ => 0)))] : va_W) ++ (([(q28, .inl (cyI, 12, .inl (fun _ => 0)))] : va_W) ++ (([(q36, .inl (cyI, 12, .inl (fun _ => 0)))] : va_W) ++ ([(q44, .inl (cyI, 12, .inl (fun _ => 0)))] : va_W)))))) H := hP
  have hD : va_D A (([(h, .inr (1, [.int (0 : Int32), .ref q12, .ref q20, .ref q28, .ref q36, .null, .null, .null, .null, .null, .null, .null, .int 0, .int 0, .int 0, .int 0, .int 0]))] : va_W) ++ (([(q12, .inl (cyI, 12, .inl (fun _ => 0)))] : va_W) ++ (([(q20, .inl (cyI, 12, .inl (fun _ => 0)))] : va_W) ++ (([(q28, .inl (cyI, 12, .inl (fun _ => 0)))] : va_W) ++ (([(q36, .inl (cyI, 12, .inl (fun _ => 0)))] : va_W) ++ ([(q44, .inl (cyI, 12, .inl (fun _ => 0)))] : va_W)))))) := hD
  refine W.widen (k := 5) (n := 60) (by omega) (by omega) ?_
  refine va_putF (D := (dC, dI)) (ci := 1) (v := .ref q44) (ty := .array .int) (C := RX1) (T := TX1) (N := 17) hx hb hts hin1 tyX1 tyX1_ok nmX1 hown hK hP hD hS 0 rfl rfl 5 (by decide) kf28 (fun _ h9 => h9) rfl hin rfl (by decide +kernel) rfl rfl (Nat.le_of_ble_eq_true rfl) dX1_init_46 (fun H locs hP hD hS => ?_)
  have hP : va_P (dC, dI) vwCl (([(h, .inr (1, [.int (0 : Int32), .ref q12, .ref q20, .ref q28, .ref q36, .ref q44, .null, .null, .null, .null, .null, .null, .int 0, .int 0, .int 0, .int 0, .int 0]))] : va_W) ++ (([(q12, .inl (cyI, 12, .inl (fun _ => 0)))] : va_W) ++ (([(q20, .inl (cyI, 12, .inl (fun _ => 0)))] : va_W) ++ (([(q28, .inl (cyI, 12, .inl (fun _ => 0)))] : va_W) ++ (([(q36, .inl (cyI, 12, .inl (fun _ => 0)))] : va_W) ++ ([(q44, .inl (cyI, 12, .inl (fun _ => 0)))] : va_W)))))) H := hP
  have hD : va_D A (([(h, .inr (1, [.int (0 : Int32), .ref q12, .ref q20, .ref q28, .ref q36, .ref q44, .null, .null, .null, .null, .null, .null, .int 0, .int 0, .int 0, .int 0, .int 0]))] : va_W) ++ (([(q12, .inl (cyI, 12, .inl (fun _ => 0)))] : va_W) ++ (([(q20, .inl (cyI, 12, .inl (fun _ => 0)))] : va_W) ++ (([(q28, .inl (cyI, 12, .inl (fun _ => 0)))] : va_W) ++ (([(q36, .inl (cyI, 12, .inl (fun _ => 0)))] : va_W) ++ ([(q44, .inl (cyI, 12, .inl (fun _ => 0)))] : va_W)))))) := hD
  refine lv_aload_n hx hb dX1_init_49 rfl (lv_at hl 0 rfl) ?_
  refine lv_bipush (v := (13 : Int32)) hx hb dX1_init_50 (by decide) ?_
  refine va_newa (atype := .int) (ty := .int) (n := (13 : Int32)) (a0 := (13, .inl (fun _ => 0))) hx hb (hts (.arrayClass .int) (by decide +kernel)) rfl hK hP hD hS hA (fun cA => vp_cell_i cA 13 (fun _ => 0)) (by decide) (N' := 13) (by decide) (by decide) (Nat.le_of_ble_eq_true rfl) (Nat.le_of_ble_eq_true rfl) dX1_init_52 (fun q52 cA H hKn hP hD hS => ?_)
  have eA := Option.some.inj ((hK.2 1 _ rfl).2.symm.trans (hKn.2 4 _ rfl).2)
  subst eA
  clear hKn
  have hP : va_P (dC, dI) vwCl (([(h, .inr (1, [.int (0 : Int32), .ref q12, .ref q20, .ref q28, .ref q36, .ref q44, .null, .null, .null, .null, .null, .null, .int 0, .int 0, .int 0, .int 0, .int 0]))] : va_W) ++ (([(q12, .inl (cyI, 12, .inl (fun _ => 0)))] : va_W) ++ (([(q20, .inl (cyI, 12, .inl (fun _ => 0)))] : va_W) ++ (([(q28, .inl (cyI, 12, .inl (fun _ => 0)))] : va_W) ++ (([(q36, .inl (cyI, 12, .inl (fun _ => 0)))] : va_W) ++ (([(q44, .inl (cyI, 12, .inl (fun _ => 0)))] : va_W) ++ ([(q52, .inl (cyI, 13, .inl (fun _ => 0)))] : va_W))))))) H := hP
  have hD : va_D A (([(h, .inr (1, [.int (0 : Int32), .ref q12, .ref q20, .ref q28, .ref q36, .ref q44, .null, .null, .null, .null, .null, .null, .int 0, .int 0, .int 0, .int 0, .int 0]))] : va_W) ++ (([(q12, .inl (cyI, 12, .inl (fun _ => 0)))] : va_W) ++ (([(q20, .inl (cyI, 12, .inl (fun _ => 0)))] : va_W) ++ (([(q28, .inl (cyI, 12, .inl (fun _ => 0)))] : va_W) ++ (([(q36, .inl (cyI, 12, .inl (fun _ => 0)))] : va_W) ++ (([(q44, .inl (cyI, 12, .inl (fun _ => 0)))] : va_W) ++ ([(q52, .inl (cyI, 13, .inl (fun _ => 0)))] : va_W))))))) := hD
  refine W.widen (k := 6) (n := 73) (by omega) (by omega) ?_
  refine va_putF (D := (dC, dI)) (ci := 1) (v := .ref q52) (ty := .array .int) (C := RX1) (T := TX1) (N := 17) hx hb hts hin1 tyX1 tyX1_ok nmX1 hown hK hP hD hS 0 rfl rfl 6 (by decide) kf31 (fun _ h9 => h9) rfl hin rfl (by decide +kernel) rfl rfl (Nat.le_of_ble_eq_true rfl) dX1_init_54 (fun H locs hP hD hS => ?_)
  have hP : va_P (dC, dI) vwCl (([(h, .inr (1, [.int (0 : Int32), .ref q12, .ref q20, .ref q28, .ref q36, .ref q44, .ref q52, .null, .null, .null, .null, .null, .int 0, .int 0, .int 0, .int 0, .int 0]))] : va_W) ++ (([(q12, .inl (cyI, 12, .inl (fun _ => 0)))] : va_W) ++ (([(q20, .inl (cyI, 12, .inl (fun _ => 0)))] : va_W) ++ (([(q28, .inl (cyI, 12, .inl (fun _ => 0)))] : va_W) ++ (([(q36, .inl (cyI, 12, .inl (fun _ => 0)))] : va_W) ++ (([(q44, .inl (cyI, 12, .inl (fun _ => 0)))] : va_W) ++ ([(q52, .inl (cyI, 13, .inl (fun _ => 0)))] : va_W))))))) H := hP
  have hD : va_D A (([(h, .inr (1, [.int (0 : Int32), .ref q12, .ref q20, .ref q28, .ref q36, .ref q44, .ref q52, .null, .null, .null, .null, .null, .int 0, .int 0, .int 0, .int 0, .int 0]))] : va_W) ++ (([(q12, .inl (cyI, 12, .inl (fun _ => 0)))] : va_W) ++ (([(q20, .inl (cyI, 12, .inl (fun _ => 0)))] : va_W) ++ (([(q28, .inl (cyI, 12, .inl (fun _ => 0)))] : va_W) ++ (([(q36, .inl (cyI, 12, .inl (fun _ => 0)))] : va_W) ++ (([(q44, .inl (cyI, 12, .inl (fun _ => 0)))] : va_W) ++ ([(q52, .inl (cyI, 13, .inl (fun _ => 0)))] : va_W))))))) := hD
  refine lv_aload_n hx hb dX1_init_57 rfl (lv_at hl 0 rfl) ?_
  refine lv_bipush (v := (13 : Int32)) hx hb dX1_init_58 (by decide) ?_
  refine va_newa (atype := .int) (ty := .int) (n := (13 : Int32)) (a0 := (13, .inl (fun _ => 0))) hx hb (hts (.arrayClass .int) (by decide +kernel)) rfl hK hP hD hS hA (fun cA => vp_cell_i cA 13 (fun _ => 0)) (by decide) (N' := 13) (by decide) (by decide) (Nat.le_of_ble_eq_true rfl) (Nat.le_of_ble_eq_true rfl) dX1_init_60 (fun q60 cA H hKn hP hD hS => ?_)
  have eA := Option.some.inj ((hK.2 1 _ rfl).2.symm.trans (hKn.2 4 _ rfl).2)
  subst eA
  clear hKn
  have hP : va_P (dC, dI) vwCl (([(h, .inr (1, [.int (0 : Int32), .ref q12, .ref q20, .ref q28, .ref q36, .ref q44, .ref q52, .null, .null, .null, .null, .null, .int 0, .int 0, .int 0, .int 0, .int 0]))] : va_W) ++ (([(q12, .inl (cyI, 12, .inl (fun _ => 0)))] : va_W) ++ (([(q20, .inl (cyI, 12, .inl (fun _ => 0)))] : va_W) ++ (([(q28, .inl (cyI, 12, .inl (fun _ => 0)))] : va_W) ++ (([(q36, .inl (cyI, 12, .inl (fun _ => 0)))] : va_W) ++ (([(q44, .inl (cyI, 12, .inl (fun _ => 0)))] : va_W) ++ (([(q52, .inl (cyI, 13, .inl (fun _ => 0)))] : va_W) ++ ([(q60, .inl (cyI, 13, .inl (fun _ => 0)))] : va_W)))))))) H := hP
  have hD : va_D A (([(h, .inr (1, [.int (0 : Int32), .ref q12, .ref q20, .ref q28, .ref q36, .ref q44, .ref q52, .null, .null, .null, .null, .null, .int 0, .int 0, .int 0, .int 0, .int 0]))] : va_W) ++ (([(q12, .inl (cyI, 12, .inl (fun _ => 0)))] : va_W) ++ (([(q20, .inl (cyI, 12, .inl (fun _ => 0)))] : va_W) ++ (([(q28, .inl (cyI, 12, .inl (fun _ => 0)))] : va_W) ++ (([(q36, .inl (cyI, 12, .inl (fun _ => 0)))] : va_W) ++ (([(q44, .inl (cyI, 12, .inl (fun _ => 0)))] : va_W) ++ (([(q52, .inl (cyI, 13, .inl (fun _ => 0)))] : va_W) ++ ([(q60, .inl (cyI, 13, .inl (fun _ => 0)))] : va_W)))))))) := hD
  refine W.widen (k := 7) (n := 86) (by omega) (by omega) ?_
  refine va_putF (D := (dC, dI)) (ci := 1) (v := .ref q60) (ty := .array .int) (C := RX1) (T := TX1) (N := 17) hx hb hts hin1 tyX1 tyX1_ok nmX1 hown hK hP hD hS 0 rfl rfl 7 (by decide) kf34 (fun _ h9 => h9) rfl hin rfl (by decide +kernel) rfl rfl (Nat.le_of_ble_eq_true rfl) dX1_init_62 (fun H locs hP hD hS => ?_)
  have hP : va_P (dC, dI) vwCl (([(h, .inr (1, [.int (0 : Int32), .ref q12, .ref q20, .ref q28, .ref q36, .ref q44, .ref q52, .ref q60, .null, .null, .null, .null, .int 0, .int 0, .int 0, .int 0, .int 0]))] : va_W) ++ (([(q12, .inl (cyI, 12, .inl (fun _ => 0)))] : va_W) ++ (([(q20, .inl (cyI, 12, .inl (fun _ => 0)))] : va_W) ++ (([(q28, .inl (cyI, 12, .inl (fun _ => 0)))] : va_W) ++ (([(q36, .inl (cyI, 12, .inl (fun _ => 0)))] : va_W) ++ (([(q44, .inl (cyI, 12, .inl (fun _ => 0)))] : va_W) ++ (([(q52, .inl (cyI, 13, .inl (fun _ => 0)))] : va_W) ++ ([(q60, .inl (cyI, 13, .inl (fun _ => 0)))] : va_W)))))))) H := hP
  have hD : va_D A (([(h, .inr (1, [.int (0 : Int32), .ref q12, .ref q20, .ref q28, .ref q36, .ref q44, .ref q52, .ref q60, .null, .null, .null, .null, .int 0, .int 0, .int 0, .int 0, .int 0]))] : va_W) ++ (([(q12, .inl (cyI, 12, .inl (fun _ => 0)))] : va_W) ++ (([(q20, .inl (cyI, 12, .inl (fun _ => 0)))] : va_W) ++ (([(q28, .inl (cyI, 12, .inl (fun _ => 0)))] : va_W) ++ (([(q36, .inl (cyI, 12, .inl (fun _ => 0)))] : va_W) ++ (([(q44, .inl (cyI, 12, .inl (fun _ => 0)))] : va_W) ++ (([(q52, .inl (cyI, 13, .inl (fun _ => 0)))] : va_W) ++ ([(q60, .inl (cyI, 13, .inl (fun _ => 0)))] : va_W)))))))) := hD
  refine lv_aload_n hx hb dX1_init_65 rfl (lv_at hl 0 rfl) ?_
  refine lv_bipush (v := (13 : Int32)) hx hb dX1_init_66 (by decide) ?_
  refine va_newa (atype := .int) (ty := .int) (n := (13 : Int32)) (a0 := (13, .inl (fun _ => 0))) hx hb (hts (.arrayClass .int) (by decide +kernel)) rfl hK hP hD hS hA (fun cA => vp_cell_i cA 13 (fun _ => 0)) (by decide) (N' := 13) (by decide) (by decide) (Nat.le_of_ble_eq_true rfl) (Nat.le_of_ble_eq_true rfl) dX1_init_68 (fun q68 cA H hKn hP hD hS => ?_)
  have eA := Option.some.inj ((hK.2 1 _ rfl).2.symm.trans (hKn.2 4 _ rfl).2)
  subst eA
  clear hKn
  have hP : va_P (dC, dI) vwCl (([(h, .inr (1, [.int (0 : Int32), .ref q12, .ref q20, .ref q28, .ref q36, .ref q44, .ref q52, .ref q60, .null, .null, .null, .null, .int 0, .int 0, .int 0, .int 0, .int 0]))] : va_W) ++ (([(q12, .inl (cyI, 12, .inl (fun _ => 0)))] : va_W) ++ (([(q20, .inl (cyI, 12, .inl (fun _ => 0)))] : va_W) ++ (([(q28, .inl (cyI, 12, .inl (fun _ => 0)))] : va_W) ++ (([(q36, .inl (cyI, 12, .inl (fun _ => 0)))] : va_W) ++ (([(q44, .inl (cyI, 12, .inl (fun _ => 0)))] : va_W) ++ (([(q52, .inl (cyI, 13, .inl (fun _ => 0)))] : va_W) ++ (([(q60, .inl (cyI, 13, .inl (fun _ => 0)))] : va_W) ++ ([(q68, .inl (cyI, 13, .inl (fun _ => 0)))] : va_W))))))))) H := hP
  have hD : va_D A (([(h, .inr (1, [.int (0 : Int32), .ref q12, .ref q20, .ref q28, .ref q36, .ref q44, .ref q52, .ref q60, .null, .null, .null, .null, .int 0, .int 0, .int 0, .int 0, .int 0]))] : va_W) ++ (([(q12, .inl (cyI, 12, .inl (fun _ => 0)))] : va_W) ++ (([(q20, .inl (cyI, 12, .inl (fun _ => 0)))] : va_W) ++ (([(q28, .inl (cyI, 12, .inl (fun _ => 0)))] : va_W) ++ (([(q36, .inl (cyI, 12, .inl (fun _ => 0)))] : va_W) ++ (([(q44, .inl (cyI, 12, .inl (fun _ => 0)))] : va_W) ++ (([(q52, .inl (cyI, 13, .inl (fun _ => 0)))] : va_W) ++ (([(q60, .inl (cyI, 13, .inl (fun _ => 0)))] : va_W) ++ ([(q68, .inl (cyI, 13, .inl (fun _ => 0)))] : va_W))))))))) := hD
  refine W.widen (k := 8) (n := 99) (by omega) (by omega) ?_
  refine va_putF (D := (dC, dI)) (ci := 1) (v := .ref q68) (ty := .array .int) (C := RX1) (T := TX1) (N := 17) hx hb hts hin1 tyX1 tyX1_ok nmX1 hown hK hP hD hS 0 rfl rfl 8 (by decide) kf37 (fun _ h9 => h9) rfl hin rfl (by decide +kernel) rfl rfl (Nat.le_of_ble_eq_true rfl) dX1_init_70 (fun H locs hP hD hS => ?_)
  have hP : va_P (dC, dI) vwCl (([(h, .inr (1, [.int (0 : Int32), .ref q12, .ref q20, .ref q28, .ref q36, .ref q44, .ref q52, .ref q60, .ref q68, .null, .null, .null, .int 0, .int 0, .int 0, .int 0, .int 0]))] : va_W) ++ (([(q12, .inl (cyI, 12, .inl (fun _ => 0)))] : va_W) ++ (([(q20, .inl (cyI, 12, .inl (fun _ => 0)))] : va_W) ++ (([(q28, .inl (cyI, 12, .inl (fun _ => 0)))] : va_W) ++ (([(q36, .inl (cyI, 12, .inl (fun _ => 0)))] : va_W) ++ (([(q44, .inl (cyI, 12, .inl (fun _ => 0)))] : va_W) ++ (([(q52, .inl (cyI, 13, .inl (fun _ => 0)))] : va_W) ++ (([(q60, .inl (cyI, 13, .inl (fun _ => 0)))] : va_W) ++ ([(q68, .inl (cyI, 13, .inl (fun _ => 0)))] : va_W))))))))) H := hP
  have hD : va_D A (([(h, .inr (1, [.int (0 : Int32), .ref q12, .ref q20, .ref q28, .ref q36, .ref q44, .ref q52, .ref q60, .ref q68, .null, .null, .null, .int 0, .int 0, .int 0, .int 0, .int 0]))] : va_W) ++ (([(q12, .inl (cyI, 12, .inl (fun _ => 0)))] : va_W) ++ (([(q20, .inl (cyI, 12, .inl (fun _ => 0)))] : va_W) ++ (([(q28, .inl (cyI, 12, .inl (fun _ => 0)))] : va_W) ++ (([(q36, .inl (cyI, 12, .inl (fun _ => 0)))] : va_W) ++ (([(q44, .inl (cyI, 12, .inl (fun _ => 0)))] : va_W) ++ (([(q52, .inl (cyI, 13, .inl (fun _ => 0)))] : va_W) ++ (([(q60, .inl (cyI, 13, .inl (fun _ => 0)))] : va_W) ++ ([(q68, .inl (cyI, 13, .inl (fun _ => 0)))] : va_W))))))))) := hD
  refine lv_aload_n hx hb dX1_init_73 rfl (lv_at hl 0 rfl) ?_
  refine lv_bipush (v := (8 : Int32)) hx hb dX1_init_74 (by decide) ?_
  refine va_newa (atype := .int) (ty := .int) (n := (8 : Int32)) (a0 := (8, .inl (fun _ => 0))) hx hb (hts (.arrayClass .int) (by decide +kernel)) rfl hK hP hD hS hA (fun cA => vp_cell_i cA 8 (fun _ => 0)) (by decide) (N' := 8) (by decide) (by decide) (Nat.le_of_ble_eq_true rfl) (Nat.le_of_ble_eq_true rfl) dX1_init_76 (fun q76 cA H hKn hP hD hS => ?_)
  have eA := Option.some.inj ((hK.2 1 _ rfl).2.symm.trans (hKn.2 4 _ rfl).2)
  subst eA
  clear hKn
  have hP : va_P (dC, dI) vwCl (([(h, .inr (1, [.int (0 : Int32), .ref q12, .ref q20, .ref q28, .ref q36, .ref q44, .ref q52, .ref q60, .ref q68, .null, .null, .null, .int 0, .int 0, .int 0, .int 0, .int 0]))] : va_W) ++ (([(q12, .inl (cyI, 12, .inl (fun _ => 0)))] : va_W) ++ (([(q20, .inl (cyI, 12, .inl (fun _ => 0)))] : va_W) ++ (([(q28, .inl (cyI, 12, .inl (fun _ => 0)))] : va_W) ++ (([(q36, .inl (cyI, 12, .inl (fun _ => 0)))] : va_W) ++ (([(q44, .inl (cyI, 12, .inl (fun _ => 0)))] : va_W) ++ (([(q52, .inl (cyI, 13, .inl (fun _ => 0)))] : va_W) ++ (([(q60, .inl (cyI, 13, .inl (fun _ => 0)))] : va_W) ++ (([(q68, .inl (cyI, 13, .inl (fun _ => 0)))] : va_W) ++ ([(q76, .inl (cyI, 8, .inl (fun _ => 0)))] : va_W)))))))))) H := hP
  have hD : va_D A (([(h, .inr (1, [.int (0 : Int32), .ref q12, .ref q20, .ref q28, .ref q36, .ref q44, .ref q52, .ref q60, .ref q68, .null, .null, .null, .int 0, .int 0, .int 0, .int 0, .int 0]))] : va_W) ++ (([(q12, .inl (cyI, 12, .inl (fun _ => 0)))] : va_W) ++ (([(q20, .inl (cyI, 12, .inl (fun _ => 0)))] : va_W) ++ (([(q28, .inl (cyI, 12, .inl (fun _ => 0)))] : va_W) ++ (([(q36, .inl (cyI, 12, .inl (fun _ => 0)))] : va_W) ++ (([(q44, .inl (cyI, 12, .inl (fun _ => 0)))] : va_W) ++ (([(q52, .inl (cyI, 13, .inl (fun _ => 0)))] : va_W) ++ (([(q60, .inl (cyI, 13, .inl (fun _ => 0)))] : va_W) ++ (([(q68, .inl (cyI, 13, .inl (fun _ => 0)))] : va_W) ++ ([(q76, .inl (cyI, 8, .inl (fun _ => 0)))] : va_W)))))))))) := hD
  refine W.widen (k := 9) (n := 107) (by omega) (by omega) ?_
  refine va_putF (D := (dC, dI)) (ci := 1) (v := .ref q76) (ty := .array .int) (C := RX1) (T := TX1) (N := 17) hx hb hts hin1 tyX1 tyX1_ok nmX1 hown hK hP hD hS 0 rfl rfl 9 (by decide) kf40 (fun _ h9 => h9) rfl hin rfl (by decide +kernel) rfl rfl (Nat.le_of_ble_eq_true rfl) dX1_init_78 (fun H locs hP hD hS => ?_)
  have hP : va_P (dC, dI) vwCl (([(h, .inr (1, [.int (0 : Int32), .ref q12, .ref q20, .ref q28, .ref q36, .ref q44, .ref q52, .ref q60, .ref q68, .ref q76, .null, .null, .int 0, .int 0, .int 0, .int 0, .int 0]))] : va_W) ++ (([(q12, .inl (cyI, 12, .inl (fun _ => 0)))] : va_W) ++ (([(q20, .inl (cyI, 12, .inl (fun _ => 0)))] : va_W) ++ (([(q28, .inl (cyI, 12, .inl (fun _ => 0)))] : va_W) ++ (([(q36, .inl (cyI, 12, .inl (fun _ => 0)))] : va_W) ++ (([(q44, .inl (cyI, 12, .inl (fun _ => 0)))] : va_W) ++ (([(q52, .inl (cyI, 13, .inl (fun _ => 0)))] : va_W) ++ (([(q60, .inl (cyI, 13, .inl (fun _ => 0)))] : va_W) ++ (([(q68, .inl (cyI, 13, .inl (fun _ => 0)))] : va_W) ++ ([(q76, .inl (cyI, 8, .inl (fun _ => 0)))] : va_W)))))))))) H := hP
  have hD : va_D A (([(h, .inr (1, [.int (0 : Int32), .ref q12, .ref q20, .ref q28, .ref q36, .ref q44, .ref q52, .ref q60, .ref q68, .ref q76, .null, .null, .int 0, .int 0, .int 0, .int 0, .int 0]))] : va_W) ++ (([(q12, .inl (cyI, 12, .inl (fun _ => 0)))] : va_W) ++ (([(q20, .inl (cyI, 12, .inl (fun _ => 0)))] : va_W) ++ (([(q28, .inl (cyI, 12, .inl (fun _ => 0)))] : va_W) ++ (([(q36, .inl (cyI, 12, .inl (fun _ => 0)))] : va_W) ++ (([(q44, .inl (cyI, 12, .inl (fun _ => 0)))] : va_W) ++ (([(q52, .inl (cyI, 13, .inl (fun _ => 0)))] : va_W) ++ (([(q60, .inl (cyI, 13, .inl (fun _ => 0)))] : va_W) ++ (([(q68, .inl (cyI, 13, .inl (fun _ => 0)))] : va_W) ++ ([(q76, .inl (cyI, 8, .inl (fun _ => 0)))] : va_W)))))))))) := hD
  refine lv_aload_n hx hb dX1_init_81 rfl (lv_at hl 0 rfl) ?_
  refine lv_bipush (v := (12 : Int32)) hx hb dX1_init_82 (by decide) ?_
  refine va_newa (atype := .int) (ty := .int) (n := (12 : Int32)) (a0 := (12, .inl (fun _ => 0))) hx hb (hts (.arrayClass .int) (by decide +kernel)) rfl hK hP hD hS hA (fun cA => vp_cell_i cA 12 (fun _ => 0)) (by decide) (N' := 12) (by decide) (by decide) (Nat.le_of_ble_eq_true rfl) (Nat.le_of_ble_eq_true rfl) dX1_init_84 (fun q84 cA H hKn hP hD hS => ?_)
  have eA := Option.some.inj ((hK.2 1 _ rfl).2.symm.trans (hKn.2 4 _ rfl).2)
  subst eA
  clear hKn
  have hP : va_P (dC, dI) vwCl (([(h, .inr (1, [.int (0 : Int32), .ref q12, .ref q20, .ref q28, .ref q36, .ref q44, .ref q52, .ref q60, .ref q68, .ref q76, .null, .null, .int 0, .int 0, .int 0, .int 0, .int 0]))] : va_W) ++ (([(q12, .inl (cyI, 12, .inl (fun _ => 0)))] : va_W) ++ (([(q20, .inl (cyI, 12, .inl (fun _ => 0)))] : va_W) ++ (([(q28, .inl (cyI, 12, .inl (fun _ => 0)))] : va_W) ++ (([(q36, .inl (cyI, 12, .inl (fun _ => 0)))] : va_W) ++ (([(q44, .inl (cyI, 12, .inl (fun _ => 0)))] : va_W) ++ (([(q52, .inl (cyI, 13, .inl (fun _ => 0)))] : va_W) ++ (([(q60, .inl (cyI, 13, .inl (fun _ => 0)))] : va_W) ++ (([(q68, .inl (cyI, 13, .inl (fun _ => 0)))] : va_W) ++ (([(q76, .inl (cyI, 8, .inl (fun _ => 0)))] : va_W) ++ ([(q84, .inl (cyI, 12, .inl (fun _ => 0)))] : va_W))))))))))) H := hP
  have hD : va_D A (([(h, .inr (1, [.int (0 : Int32), .ref q12, .ref q20, .ref q28, .ref q36, .ref q44, .ref q52, .ref q60, .ref q68, .ref q76, .null, .null, .int 0, .int 0, .int 0, .int 0, .int 0]))] : va_W) ++ (([(q12, .inl (cyI, 12, .inl (fun _ => 0)))] : va_W) ++ (([(q20, .inl (cyI, 12, .inl (fun _ => 0)))] : va_W) ++ (([(q28, .inl (cyI, 12, .inl (fun _ => 0)))] : va_W) ++ (([(q36, .inl (cyI, 12, .inl (fun _ => 0)))] : va_W) ++ (([(q44, .inl (cyI, 12, .inl (fun _ => 0)))] : va_W) ++ (([(q52, .inl (cyI, 13, .inl (fun _ => 0)))] : va_W) ++ (([(q60, .inl (cyI, 13, .inl (fun _ => 0)))] : va_W) ++ (([(q68, .inl (cyI, 13, .inl (fun _ => 0)))] : va_W) ++ (([(q76, .inl (cyI, 8, .inl (fun _ => 0)))] : va_W) ++ ([(q84, .inl (cyI, 12, .inl (fun _ => 0)))] : va_W))))))))))) := hD
  refine W.widen (k := 10) (n := 119) (by omega) (by omega) ?_
  refine va_putF (D := (dC, dI)) (ci := 1) (v := .ref q84) (ty := .array .int) (C := RX1) (T := TX1) (N := 17) hx hb hts hin1 tyX1 tyX1_ok nmX1 hown hK hP hD hS 0 rfl rfl 10 (by decide) kf43 (fun _ h9 => h9) rfl hin rfl (by decide +kernel) rfl rfl (Nat.le_of_ble_eq_true rfl) dX1_init_86 (fun H locs hP hD hS => ?_)
  have hP : va_P (dC, dI) vwCl (([(h, .inr (1, [.int (0 : Int32), .ref q12, .ref q20, .ref q28, .ref q36, .ref q44, .ref q52, .ref q60, .ref q68, .ref q76, .ref q84, .null, .int 0, .int 0, .int 0, .int 0, .int 0]))] : va_W) ++ (([(q12, .inl (cyI, 12, .inl (fun _ => 0)))] : va_W) ++ (([(q20, .inl (cyI, 12, .inl (fun _ => 0)))] : va_W) ++ (([(q28, .inl (cyI, 12, .inl (fun _ => 0)))] : va_W) ++ (([(q36, .inl (cyI, 12, .inl (fun _ => 0)))] : va_W) ++ (([(q44, .inl (cyI, 12, .inl (fun _ => 0)))] : va_W) ++ (([(q52, .inl (cyI, 13, .inl (fun _ => 0)))] : va_W) ++ (([(q60, .inl (cyI, 13, .inl (fun _ => 0)))] : va_W) ++ (([(q68, .inl (cyI, 13, .inl (fun _ => 0)))] : va_W) ++ (([(q76, .inl (cyI, 8, .inl (fun _ => 0)))] : va_W) ++ ([(q84, .inl (cyI, 12, .inl (fun _ => 0)))] : va_W))))))))))) H := hP
  have hD : va_D A (([(h, .inr (1, [.int (0 : Int32), .ref q12, .ref q20, .ref q28, .ref q36, .ref q44, .ref q52, .ref q60, .ref q68, .ref q76, .ref q84, .null, .int 0, .int 0, .int 0, .int 0, .int 0]))] : va_W) ++ (([(q12, .inl (cyI, 12, .inl (fun _ => 0)))] : va_W) ++ (([(q20, .inl (cyI, 12, .inl (fun _ => 0)))] : va_W) ++ (([(q28, .inl (cyI, 12, .inl (fun _ => 0)))] : va_W) ++ (([(q36, .inl (cyI, 12, .inl (fun _ => 0)))] : va_W) ++ (([(q44, .inl (cyI, 12, .inl (fun _ => 0)))] : va_W) ++ (([(q52, .inl (cyI, 13, .inl (fun _ => 0)))] : va_W) ++ (([(q60, .inl (cyI, 13, .inl (fun _ => 0)))] : va_W) ++ (([(q68, .inl (cyI, 13, .inl (fun _ => 0)))] : va_W) ++ (([(q76, .inl (cyI, 8, .inl (fun _ => 0)))] : va_W) ++ ([(q84, .inl (cyI, 12, .inl (fun _ => 0)))] : va_W))))))))))) := hD
  refine lv_aload_n hx hb dX1_init_89 rfl (lv_at hl 0 rfl) ?_
  refine lv_bipush (v := (12 : Int32)) hx hb dX1_init_90 (by decide) ?_
  refine va_newa (atype := .int) (ty := .int) (n := (12 : Int32)) (a0 := (12, .inl (fun _ => 0))) hx hb (hts (.arrayClass .int) (by decide +kernel)) rfl hK hP hD hS hA (fun cA => vp_cell_i cA 12 (fun _ => 0)) (by decide) (N' := 12) (by decide) (by decide) (Nat.le_of_ble_eq_true rfl) (Nat.le_of_ble_eq_true rfl) dX1_init_92 (fun q92 cA H hKn hP hD hS => ?_)
  have eA := Option.some.inj ((hK.2 1 _ rfl).2.symm.trans (hKn.2 4 _ rfl).2)
  subst eA
  clear hKn
  have hP : va_P (dC, dI) vwCl (([(h, .inr (1, [.int (0 : Int32), .ref q12, .ref q20, .ref q28, .ref q36, .ref q44, .ref q52, .ref q60, .ref q68, .ref q76, .ref q84, .null, .int 0, .int 0, .int 0, .int 0, .int 0]))] : va_W) ++ (([(q12, .inl (cyI, 12, .inl (fun _ => 0)))] : va_W) ++ (([(q20, .inl (cyI, 12, .inl (fun _ => 0)))] : va_W) ++ (([(q28, .inl (cyI, 12, .inl (fun _ => 0)))] : va_W) ++ (([(q36, .inl (cyI, 12, .inl (fun _ => 0)))] : va_W) ++ (([(q44, .inl (cyI, 12, .inl (fun _ => 0)))] : va_W) ++ (([(q52, .inl (cyI, 13, .inl (fun _ => 0)))] : va_W) ++ (([(q60, .inl (cyI, 13, .inl (fun _ => 0)))] : va_W) ++ (([(q68, .inl (cyI, 13, .inl (fun _ => 0)))] : va_W) ++ (([(q76, .inl (cyI, 8, .inl (fun _ => 0)))] : va_W) ++ (([(q84, .inl (cyI, 12, .inl (fun _ => 0)))] : va_W) ++ ([(q92, .inl (cyI, 12, .inl (fun _ => 0)))] : va_W)))))))))))) H := hP
  have hD : va_D A (([(h, .inr (1, [.int (0 : Int32), .ref q12, .ref q20, .ref q28, .ref q36, .ref q44, .ref q52, .ref q60, .ref q68, .ref q76, .ref q84, .null, .int 0, .int 0, .int 0, .int 0, .int 0]))] : va_W) ++ (([(q12, .inl (cyI, 12, .inl (fun _ => 0)))] : va_W) ++ (([(q20, .inl (cyI, 12, .inl (fun _ => 0)))] : va_W) ++ (([(q28, .inl (cyI, 12, .inl (fun _ => 0)))] : va_W) ++ (([(q36, .inl (cyI, 12, .inl (fun _ => 0)))] : va_W) ++ (([(q44, .inl (cyI, 12, .inl (fun _ => 0)))] : va_W) ++ (([(q52, .inl (cyI, 13, .inl (fun _ => 0)))] : va_W) ++ (([(q60, .inl (cyI, 13, .inl (fun _ => 0)))] : va_W) ++ (([(q68, .inl (cyI, 13, .inl (fun _ => 0)))] : va_W) ++ (([(q76, .inl (cyI, 8, .inl (fun _ => 0)))] : va_W) ++ (([(q84, .inl (cyI, 12, .inl (fun _ => 0)))] : va_W) ++ ([(q92, .inl (cyI, 12, .inl (fun _ => 0)))] : va_W)))))))))))) := hD
  refine W.widen (k := 11) (n := 131) (by omega) (by omega) ?_
  refine va_putF (D := (dC, dI)) (ci := 1) (v := .ref q92) (ty := .array .int) (C := RX1) (T := TX1) (N := 17) hx hb hts hin1 tyX1 tyX1_ok nmX1 hown hK hP hD hS 0 rfl rfl 11 (by decide) kf46 (fun _ h9 => h9) rfl hin rfl (by decide +kernel) rfl rfl (Nat.le_of_ble_eq_true rfl) dX1_init_94 (fun H locs hP hD hS => ?_)
  have hP : va_P (dC, dI) vwCl (([(h, .inr (1, [.int (0 : Int32), .ref q12, .ref q20, .ref q28, .ref q36, .ref q44, .ref q52, .ref q60, .ref q68, .ref q76, .ref q84, .ref q92, .int 0, .int 0, .int 0, .int 0, .int 0]))] : va_W) ++ (([(q12, .inl (cyI, 12, .inl (fun _ => 0)))] : va_W) ++ (([(q20, .inl (cyI, 12, .inl (fun _ => 0)))] : va_W) ++ (([(q28, .inl (cyI, 12, .inl (fun _ => 0)))] : va_W) ++ (([(q36, .inl (cyI, 12, .inl (fun _ => 0)))] : va_W) ++ (([(q44, .inl (cyI, 12, .inl (fun _ => 0)))] : va_W) ++ (([(q52, .inl (cyI, 13, .inl (fun _ => 0)))] : va_W) ++ (([(q60, .inl (cyI, 13, .inl (fun _ => 0)))] : va_W) ++ (([(q68, .inl (cyI, 13, .inl (fun _ => 0)))] : va_W) ++ (([(q76, .inl (cyI, 8, .inl (fun _ => 0)))] : va_W) ++ (([(q84, .inl (cyI, 12, .inl (fun _ => 0)))] : va_W) ++ ([(q92, .inl (cyI, 12, .inl (fun _ => 0)))] : va_W)))))))))))) H := hP
  have hD : va_D A (([(h, .inr (1, [.int (0 : Int32), .ref q12, .ref q20, .ref q28, .ref q36, .ref q44, .ref q52, .ref q60, .ref q68, .ref q76, .ref q84, .ref q92, .int 0, .int 0, .int 0, .int 0, .int 0]))] : va_W) ++ (([(q12, .inl (cyI, 12, .inl (fun _ => 0)))] : va_W) ++ (([(q20, .inl (cyI, 12, .inl (fun _ => 0)))] : va_W) ++ (([(q28, .inl (cyI, 12, .inl (fun _ => 0)))] : va_W) ++ (([(q36, .inl (cyI, 12, .inl (fun _ => 0)))] : va_W) ++ (([(q44, .inl (cyI, 12, .inl (fun _ => 0)))] : va_W) ++ (([(q52, .inl (cyI, 13, .inl (fun _ => 0)))] : va_W) ++ (([(q60, .inl (cyI, 13, .inl (fun _ => 0)))] : va_W) ++ (([(q68, .inl (cyI, 13, .inl (fun _ => 0)))] : va_W) ++ (([(q76, .inl (cyI, 8, .inl (fun _ => 0)))] : va_W) ++ (([(q84, .inl (cyI, 12, .inl (fun _ => 0)))] : va_W) ++ ([(q92, .inl (cyI, 12, .inl (fun _ => 0)))] : va_W)))))))))))) := hD
  refine lv_aload_n hx hb dX1_init_97 rfl (lv_at hl 0 rfl) ?_
  refine lv_iconst (v := (0 : Int32)) hx hb dX1_init_98 (by decide) ?_
  refine va_put (D := (dC, dI)) (ci := 1) (v := .int (0 : Int32)) (ty := .int) (C := RX1) (T := TX1) (N := 17) hx hb hts hin1 tyX1 tyX1_ok nmX1 hown hK hP hD hS 0 rfl rfl 12 (by decide) kf49 (fun _ h9 => h9) rfl (by decide +kernel) rfl rfl (Nat.le_of_ble_eq_true rfl) dX1_init_99 (fun H locs hP hD hS => ?_)
  have hP : va_P (dC, dI) vwCl (([(h, .inr (1, [.int (0 : Int32), .ref q12, .ref q20, .ref q28, .ref q36, .ref q44, .ref q52, .ref q60, .ref q68, .ref q76, .ref q84, .ref q92, .int (0 : Int32), .int 0, .int 0, .int 0, .int 0]))] : va_W) ++ (([(q12, .inl (cyI, 12, .inl (fun _ => 0)))] : va_W) ++ (([(q20, .inl (cyI, 12, .inl (fun _ => 0)))] : va_W) ++ (([(q28, .inl (cyI, 12, .inl (fun _ => 0)))] : va_W) ++ (([(q36, .inl (cyI, 12, .inl (fun _ => 0)))] : va_W) ++ (([(q44, .inl (cyI, 12, .inl (fun _ => 0)))] : va_W) ++ (([(q52, .inl (cyI, 13, .inl (fun _ => 0)))] : va_W) ++ (([(q60, .inl (cyI, 13, .inl (fun _ => 0)))] : va_W) ++ (([(q68, .inl (cyI, 13, .inl (fun _ => 0)))] : va_W) ++ (([(q76, .inl (cyI, 8, .inl (fun _ => 0)))] : va_W) ++ (([(q84, .inl (cyI, 12, .inl (fun _ => 0)))] : va_W) ++ ([(q92, .inl (cyI, 12, .inl (fun _ => 0)))] : va_W)))))))))))) H := hP
  have hD : va_D A (([(h, .inr (1, [.int (0 : Int32), .ref q12, .ref q20, .ref q28, .ref q36, .ref q44, .ref q52, .ref q60, .ref q68, .ref q76, .ref q84, .ref q92, .int (0 : Int32), .int 0, .int 0, .int 0, .int 0]))] : va_W) ++ (([(q12, .inl (cyI, 12, .inl (fun _ => 0)))] : va_W) ++ (([(q20, .inl (cyI, 12, .inl (fun _ => 0)))] : va_W) ++ (([(q28, .inl (cyI, 12, .inl (fun _ => 0)))] : va_W) ++ (([(q36, .inl (cyI, 12, .inl (fun _ => 0)))] : va_W) ++ (([(q44, .inl (cyI, 12, .inl (fun _ => 0)))] : va_W) ++ (([(q52, .inl (cyI, 13, .inl (fun _ => 0)))] : va_W) ++ (([(q60, .inl (cyI, 13, .inl (fun _ => 0)))] : va_W) ++ (([(q68, .inl (cyI, 13, .inl (fun _ => 0)))] : va_W) ++ (([(q76, .inl (cyI, 8, .inl (fun _ => 0)))] : va_W) ++ (([(q84, .inl (cyI, 12, .inl (fun _ => 0)))] : va_W) ++ ([(q92, .inl (cyI, 12, .inl (fun _ => 0)))] : va_W)))))))))))) := hD
  refine lv_aload_n hx hb dX1_init_102 rfl (lv_at hl 0 rfl) ?_
  refine lv_iconst (v := (0 : Int32)) hx hb dX1_init_103 (by decide) ?_
  refine va_put (D := (dC, dI)) (ci := 1) (v := .int (0 : Int32)) (ty := .int) (C := RX1) (T := TX1) (N := 17) hx hb hts hin1 tyX1 tyX1_ok nmX1 hown hK hP hD hS 0 rfl rfl 13 (by decide) kf52 (fun _ h9 => h9) rfl (by decide +kernel) rfl rfl (Nat.le_of_ble_eq_true rfl) dX1_init_104 (fun H locs hP hD hS => ?_)
  have hP : va_P (dC, dI) vwCl (([(h, .inr (1, [.int (0 : Int32), .ref q12, .ref q20, .ref q28, .ref q36, .ref q44, .ref q52, .ref q60, .ref q68, .ref q76, .ref q84, .ref q92, .int (0 : Int32), .int (0 : Int32), .int 0, .int 0, .int 0]))] : va_W) ++ (([(q12, .inl (cyI, 12, .inl (fun _ => 0)))] : va_W) ++ (([(q20, .inl (cyI, 12, .inl (fun _ => 0)))] : va_W) ++ (([(q28, .inl (cyI, 12, .inl (fun _ => 0)))] : va_W) ++ (([(q36, .inl (cyI, 12, .inl (fun _ => 0)))] : va_W) ++ (([(q44, .inl (cyI, 12, .inl (fun _ => 0)))] : va_W) ++ (([(q52, .inl (cyI, 13, .inl (fun _ => 0)))] : va_W) ++ (([(q60, .inl (cyI, 13, .inl (fun _ => 0)))] : va_W) ++ (([(q68, .inl (cyI, 13, .inl (fun _ => 0)))] : va_W) ++ (([(q76, .inl (cyI, 8, .inl (fun _ => 0)))] : va_W) ++ (([(q84, .inl (cyI, 12, .inl (fun _ => 0)))] : va_W) ++ ([(q92, .inl (cyI, 12, .inl (fun _ => 0)))] : va_W)))))))))))) H := hP
  have hD : va_D A (([(h, .inr (1, [.int (0 : Int32), .ref q12, .ref q20, .ref q28, .ref q36, .ref q44, .ref q52, .ref q60, .ref q68, .ref q76, .ref q84, .ref q92, .int (0 : Int32), .int (0 : Int32), .int 0, .int 0, .int 0]))] : va_W) ++ (([(q12, .inl (cyI, 12, .inl (fun _ => 0)))] : va_W) ++ (([(q20, .inl (cyI, 12, .inl (fun _ => 0)))] : va_W) ++ (([(q28, .inl (cyI, 12, .inl (fun _ => 0)))] : va_W) ++ (([(q36, .inl (cyI, 12, .inl (fun _ => 0)))] : va_W) ++ (([(q44, .inl (cyI, 12, .inl (fun _ => 0)))] : va_W) ++ (([(q52, .inl (cyI, 13, .inl (fun _ => 0)))] : va_W) ++ (([(q60, .inl (cyI, 13, .inl (fun _ => 0)))] : va_W) ++ (([(q68, .inl (cyI, 13, .inl (fun _ => 0)))] : va_W) ++ (([(q76, .inl (cyI, 8, .inl (fun _ => 0)))] : va_W) ++ (([(q84, .inl (cyI, 12, .inl (fun _ => 0)))] : va_W) ++ ([(q92, .inl (cyI, 12, .inl (fun _ => 0)))] : va_W)))))))))))) := hD
  refine lv_aload_n hx hb dX1_init_107 rfl (lv_at hl 0 rfl) ?_
  refine lv_iconst (v := (0 : Int32)) hx hb dX1_init_108 (by decide) ?_
  refine va_put (D := (dC, dI)) (ci := 1) (v := .int (0 : Int32)) (ty := .boolean) (C := RX1) (T := TX1) (N := 17) hx hb hts hin1 tyX1 tyX1_ok nmX1 hown hK hP hD hS 0 rfl rfl 14 (by decide) kf55 (fun _ h9 => h9) rfl (by decide +kernel) rfl rfl (Nat.le_of_ble_eq_true rfl) dX1_init_109 (fun H locs hP hD hS => ?_)
  have hP : va_P (dC, dI) vwCl (([(h, .inr (1, [.int (0 : Int32), .ref q12, .ref q20, .ref q28, .ref q36, .ref q44, .ref q52, .ref q60, .ref q68, .ref q76, .ref q84, .ref q92, .int (0 : Int32), .int (0 : Int32), .int (0 : Int32), .int 0, .int 0]))] : va_W) ++ (([(q12, .inl (cyI, 12, .inl (fun _ => 0)))] : va_W) ++ (([(q20, .inl (cyI, 12, .inl (fun _ => 0)))] : va_W) ++ (([(q28, .inl (cyI, 12, .inl (fun _ => 0)))] : va_W) ++ (([(q36, .inl (cyI, 12, .inl (fun _ => 0)))] : va_W) ++ (([(q44, .inl (cyI, 12, .inl (fun _ => 0)))] : va_W) ++ (([(q52, .inl (cyI, 13, .inl (fun _ => 0)))] : va_W) ++ (([(q60, .inl (cyI, 13, .inl (fun _ => 0)))] : va_W) ++ (([(q68, .inl (cyI, 13, .inl (fun _ => 0)))] : va_W) ++ (([(q76, .inl (cyI, 8, .inl (fun _ => 0)))] : va_W) ++ (([(q84, .inl (cyI, 12, .inl (fun _ => 0)))] : va_W) ++ ([(q92, .inl (cyI, 12, .inl (fun _ => 0)))] : va_W)))))))))))) H := hP
  have hD : va_D A (([(h, .inr (1, [.int (0 : Int32), .ref q12, .ref q20, .ref q28, .ref q36, .ref q44, .ref q52, .ref q60, .ref q68, .ref q76, .ref q84, .ref q92, .int (0 : Int32), .int (0 : Int32), .int (0 : Int32), .int 0, .int 0]))] : va_W) ++ (([(q12, .inl (cyI, 12, .inl (fun _ => 0)))] : va_W) ++ (([(q20, .inl (cyI, 12, .inl (fun _ => 0)))] : va_W) ++ (([(q28, .inl (cyI, 12, .inl (fun _ => 0)))] : va_W) ++ (([(q36, .inl (cyI, 12, .inl (fun _ => 0)))] : va_W) ++ (([(q44, .inl (cyI, 12, .inl (fun _ => 0)))] : va_W) ++ (([(q52, .inl (cyI, 13, .inl (fun _ => 0)))] : va_W) ++ (([(q60, .inl (cyI, 13, .inl (fun _ => 0)))] : va_W) ++ (([(q68, .inl (cyI, 13, .inl (fun _ => 0)))] : va_W) ++ (([(q76, .inl (cyI, 8, .inl (fun _ => 0)))] : va_W) ++ (([(q84, .inl (cyI, 12, .inl (fun _ => 0)))] : va_W) ++ ([(q92, .inl (cyI, 12, .inl (fun _ => 0)))] : va_W)))))))))))) := hD
  refine lv_aload_n hx hb dX1_init_112 rfl (lv_at hl 0 rfl) ?_
  refine lv_iconst (v := (0 : Int32)) hx hb dX1_init_113 (by decide) ?_
  refine va_put (D := (dC, dI)) (ci := 1) (v := .int (0 : Int32)) (ty := .int) (C := RX1) (T := TX1) (N := 17) hx hb hts hin1 tyX1 tyX1_ok nmX1 hown hK hP hD hS 0 rfl rfl 15 (by decide) kf59 (fun _ h9 => h9) rfl (by decide +kernel) rfl rfl (Nat.le_of_ble_eq_true rfl) dX1_init_114 (fun H locs hP hD hS => ?_)
  have hP : va_P (dC, dI) vwCl (([(h, .inr (1, [.int (0 : Int32), .ref q12, .ref q20, .ref q28, .ref q36, .ref q44, .ref q52, .ref q60, .ref q68, .ref q76, .ref q84, .ref q92, .int (0 : Int32), .int (0 : Int32), .int (0 : Int32), .int (0 : Int32), .int 0]))] : va_W) ++ (([(q12, .inl (cyI, 12, .inl (fun _ => 0)))] : va_W) ++ (([(q20, .inl (cyI, 12, .inl (fun _ => 0)))] : va_W) ++ (([(q28, .inl (cyI, 12, .inl (fun _ => 0)))] : va_W) ++ (([(q36, .inl (cyI, 12, .inl (fun _ => 0)))] : va_W) ++ (([(q44, .inl (cyI, 12, .inl (fun _ => 0)))] : va_W) ++ (([(q52, .inl (cyI, 13, .inl (fun _ => 0)))] : va_W) ++ (([(q60, .inl (cyI, 13, .inl (fun _ => 0)))] : va_W) ++ (([(q68, .inl (cyI, 13, .inl (fun _ => 0)))] : va_W) ++ (([(q76, .inl (cyI, 8, .inl (fun _ => 0)))] : va_W) ++ (([(q84, .inl (cyI, 12, .inl (fun _ => 0)))] : va_W) ++ ([(q92, .inl (cyI, 12, .inl (fun _ => 0)))] : va_W)))))))))))) H := hP
  have hD : va_D A (([(h, .inr (1, [.int (0 : Int32), .ref q12, .ref q20, .ref q28, .ref q36, .ref q44, .ref q52, .ref q60, .ref q68, .ref q76, .ref q84, .ref q92, .int (0 : Int32), .int (0 : Int32), .int (0 : Int32), .int (0 : Int32), .int 0]))] : va_W) ++ (([(q12, .inl (cyI, 12, .inl (fun _ => 0)))] : va_W) ++ (([(q20, .inl (cyI, 12, .inl (fun _ => 0)))] : va_W) ++ (([(q28, .inl (cyI, 12, .inl (fun _ => 0)))] : va_W) ++ (([(q36, .inl (cyI, 12, .inl (fun _ => 0)))] : va_W) ++ (([(q44, .inl (cyI, 12, .inl (fun _ => 0)))] : va_W) ++ (([(q52, .inl (cyI, 13, .inl (fun _ => 0)))] : va_W) ++ (([(q60, .inl (cyI, 13, .inl (fun _ => 0)))] : va_W) ++ (([(q68, .inl (cyI, 13, .inl (fun _ => 0)))] : va_W) ++ (([(q76, .inl (cyI, 8, .inl (fun _ => 0)))] : va_W) ++ (([(q84, .inl (cyI, 12, .inl (fun _ => 0)))] : va_W) ++ ([(q92, .inl (cyI, 12, .inl (fun _ => 0)))] : va_W)))))))))))) := hD
  refine lv_aload_n hx hb dX1_init_117 rfl (lv_at hl 0 rfl) ?_
  refine lv_iconst (v := (0 : Int32)) hx hb dX1_init_118 (by decide) ?_
  refine va_put (D := (dC, dI)) (ci := 1) (v := .int (0 : Int32)) (ty := .int) (C := RX1) (T := TX1) (N := 17) hx hb hts hin1 tyX1 tyX1_ok nmX1 hown hK hP hD hS 0 rfl rfl 16 (by decide) kf62 (fun _ h9 => h9) rfl (by decide +kernel) rfl rfl (Nat.le_of_ble_eq_true rfl) dX1_init_119 (fun H locs hP hD hS => ?_)
  have hP : va_P (dC, dI) vwCl (([(h, .inr (1, [.int (0 : Int32), .ref q12, .ref q20, .ref q28, .ref q36, .ref q44, .ref q52, .ref q60, .ref q68, .ref q76, .ref q84, .ref q92, .int (0 : Int32), .int (0 : Int32), .int (0 : Int32), .int (0 : Int32), .int (0 : Int32)]))] : va_W) ++ (([(q12, .inl (cyI, 12, .inl (fun _ => 0)))] : va_W) ++ (([(q20, .inl (cyI, 12, .inl (fun _ => 0)))] : va_W) ++ (([(q28, .inl (cyI, 12, .inl (fun _ => 0)))] : va_W) ++ (([(q36, .inl (cyI, 12, .inl (fun _ => 0)))] : va_W) ++ (([(q44, .inl (cyI, 12, .inl (fun _ => 0)))] : va_W) ++ (([(q52, .inl (cyI, 13, .inl (fun _ => 0)))] : va_W) ++ (([(q60, .inl (cyI, 13, .inl (fun _ => 0)))] : va_W) ++ (([(q68, .inl (cyI, 13, .inl (fun _ => 0)))] : va_W) ++ (([(q76, .inl (cyI, 8, .inl (fun _ => 0)))] : va_W) ++ (([(q84, .inl (cyI, 12, .inl (fun _ => 0)))] : va_W) ++ ([(q92, .inl (cyI, 12, .inl (fun _ => 0)))] : va_W)))))))))))) H := hP
  have hD : va_D A (([(h, .inr (1, [.int (0 : Int32), .ref q12, .ref q20, .ref q28, .ref q36, .ref q44, .ref q52, .ref q60, .ref q68, .ref q76, .ref q84, .ref q92, .int (0 : Int32), .int (0 : Int32), .int (0 : Int32), .int (0 : Int32), .int (0 : Int32)]))] : va_W) ++ (([(q12, .inl (cyI, 12, .inl (fun _ => 0)))] : va_W) ++ (([(q20, .inl (cyI, 12, .inl (fun _ => 0)))] : va_W) ++ (([(q28, .inl (cyI, 12, .inl (fun _ => 0)))] : va_W) ++ (([(q36, .inl (cyI, 12, .inl (fun _ => 0)))] : va_W) ++ (([(q44, .inl (cyI, 12, .inl (fun _ => 0)))] : va_W) ++ (([(q52, .inl (cyI, 13, .inl (fun _ => 0)))] : va_W) ++ (([(q60, .inl (cyI, 13, .inl (fun _ => 0)))] : va_W) ++ (([(q68, .inl (cyI, 13, .inl (fun _ => 0)))] : va_W) ++ (([(q76, .inl (cyI, 8, .inl (fun _ => 0)))] : va_W) ++ (([(q84, .inl (cyI, 12, .inl (fun _ => 0)))] : va_W) ++ ([(q92, .inl (cyI, 12, .inl (fun _ => 0)))] : va_W)))))))))))) := hD
  have hP9 : va_P (dC, dI) vwCl (wX1 cyB cyI cyZ cyO h q12 q20 q28 q36 q44 q52 q60 q68 q76 q84 q92 m0X1) H := hP.sub (ws' := (wX1 cyB cyI cyZ cyO h q12 q20 q28 q36 q44 q52 q60 q68 q76 q84 q92 m0X1)) [0, 1, 2, 3, 4, 5, 6, 7, 8, 9, 10, 11] rfl
  have hD9 : va_D A (wX1 cyB cyI cyZ cyO h q12 q20 q28 q36 q44 q52 q60 q68 q76 q84 q92 m0X1) := hD.sub (ws' := (wX1 cyB cyI cyZ cyO h q12 q20 q28 q36 q44 q52 q60 q68 q76 q84 q92 m0X1)) [0, 1, 2, 3, 4, 5, 6, 7, 8, 9, 10, 11] (by decide) rfl
  exact W.vret hx hb hr (fun t ht hW => ⟨rfl, _, ⟨q12, q20, q28, q36, q44, q52, q60, q68, q76, q84, q92, rfl⟩, by rw [ht]; exact hP9, hD9, hS.F ht⟩) hS.2.2 dX1_init_122
set_option maxHeartbeats 4000000 in
set_option maxRecDepth 100000 in
theorem c_X9_init (l : Launch) (dC : Nat → ClassId) (dI : Nat → Nat → Nat) (cyB cyI cyZ cyO : ClassId) (h : Nat) (sz : Nat) : Met l yX9_init wsX9_init ({ frames := 2, cells := 2, slots := 402, locals := 60 } : Room) (PW dC dI cyB cyI cyZ cyO ([.ref h] : List Value) ([(h, .inr (9, [.null, .int 0, .int 0, .int 0, .int 0]))] : va_W) sz) (QC dC dI (fun w => ∃ q5 q5_0 : Nat, w = ((wX9 cyB cyI cyZ cyO h q5 m0X9) ++ (wX8 cyB cyI cyZ cyO q5 q5_0 m0X8))) (va_A ([(h, .inr (9, [.null, .int 0, .int 0, .int 0, .int 0]))] : va_W) sz)) 2 402 (va_A ([(h, .inr (9, [.null, .int 0, .int 0, .int 0, .int 0]))] : va_W) sz) := by
  refine Met.ofW (cc := cX9_init) (maxL := 1) (ret := none) (by decide) rfl ?_
  intro p e s m args below meth c s₁ B hml hv
  obtain ⟨rfl, hsz, hP, hCx, hD0⟩ := hv
  have hK := hCx.1
  have hN := hCx.2
  have hx := B.exec
  have hb := B.bytes
  have hr := B.returns
  have hts := atoms_spec (ws := wsX9_init) B.pre
  have hown : s.vm.findClass RX9 = some m.cls := findClass_of_methodNamed B.named
  have hlocks := B.notSynchronized
  have hin : meth.name = "<init>" := (name_of_methodNamed B.named B.method).1
  have hin8 : ∀ w ∈ u_ws RX8 TX8 2, w ∈ wsX9_init := fun w h => List.mem_cons_of_mem _ (List.mem_append_left _ (List.mem_append_right _ h))
  have hin9 : ∀ w ∈ u_ws RX9 TX9 5, w ∈ wsX9_init := fun w h => List.mem_cons_of_mem _ (List.mem_append_right _ h)
  have kf10 := hts (.fieldLink RX9 10 "HoldSlips$TokenReader" "tape" "LHoldSlips$Tape;") (by decide +kernel)
  have kf16 := hts (.fieldLink RX9 16 "HoldSlips$TokenReader" "token" "I") (by decide +kernel)
  have kf20 := hts (.fieldLink RX9 20 "HoldSlips$TokenReader" "start" "I") (by decide +kernel)
  have kf23 := hts (.fieldLink RX9 23 "HoldSlips$TokenReader" "next" "I") (by decide +kernel)
  have kf26 := hts (.fieldLink RX9 26 "HoldSlips$TokenReader" "number" "I") (by decide +kernel)
  subst hsz
  have hD := hD0.self (sz := s.heap.size)
  generalize hAe : va_A ([(h, .inr (9, [.null, .int 0, .int 0, .int 0, .int 0]))] : va_W) s.heap.size = A at hD ⊢
  have hA : ∀ q : Nat, s.heap.size ≤ q → A q := fun q h => by rw [← hAe]; exact Or.inr h
  have hS : va_S A s.heap s.heap [] := va_S.rf
  have hl := lv_entry ([.ref h] : List Value) (n := 1) (Nat.le_of_ble_eq_true rfl)
  rw [lg_entry_eq]
  generalize (lg_sl ([.ref h] : List Value) ++ List.replicate (1 - (lg_sl ([.ref h] : List Value)).length) Slot.unset).toArray = ls at hl ⊢
  have hl : lv_has ls 1 [(0, .ref h)] := hl
  refine lv_aload_n hx hb dX9_init_0 rfl (lv_at hl 0 rfl) ?_
  refine W.objInit hx hb hown (hts (.methodLink RX9 1 objectInit) (by decide +kernel)) (hts (.instanceMethod objectInit) (by decide +kernel)) (hts (.code objectInit ⟨#[0xb1]⟩ 1 none) (by decide +kernel)) rfl (by rw [hml]; exact hl.1) rfl dX9_init_1 (Nat.le_of_ble_eq_true rfl) (Nat.le_of_ble_eq_true rfl) ?_
  refine W.eq (g2 := F0 m 4 ls []) rfl ?_
  refine lv_aload_n hx hb dX9_init_4 rfl (lv_at hl 0 rfl) ?_
  refine va_new (ci := 8) (fs := [.null, .int 0]) (C := RX8) (T := TX8) (N := 2) hx hb hts hin8 tyX8 tyX8_ok hown (hts (.classLink RX9 7 RX8) (by decide +kernel)) (hts (.instantiable RX8 2) (by decide +kernel)) (hts (.initialized RX8) (by decide +kernel)) hK hP hD hS hA rfl (fun j hj => by rcases (show j = 0 ∨ j = 1 by omega) with rfl | rfl <;> rfl) (Nat.le_of_ble_eq_true rfl) (Nat.le_of_ble_eq_true rfl) dX9_init_5 (fun q5 H hP hD hS => ?_)
  have hP : va_P (dC, dI) vwCl (([(h, .inr (9, [.null, .int 0, .int 0, .int 0, .int 0]))] : va_W) ++ ([(q5, .inr (8, [.null, .int 0]))] : va_W)) H := hP
  have hD : va_D A (([(h, .inr (9, [.null, .int 0, .int 0, .int 0, .int 0]))] : va_W) ++ ([(q5, .inr (8, [.null, .int 0]))] : va_W)) := hD
  refine W.widen (k := 1) (n := 2) (by omega) (by omega) ?_
  refine lv_dup hx hb dX9_init_8 rfl ?_
  have hPc := hP.sub (ws' := ([(q5, .inr (8, [.null, .int 0]))] : va_W)) [1] rfl
  have hDc := hD.sub (ws' := ([(q5, .inr (8, [.null, .int 0]))] : va_W)) [1] (by decide) rfl
  refine cn_call (wc := ([(q5, .inr (8, [.null, .int 0]))] : va_W)) (wr := ([(h, .inr (9, [.null, .int 0, .int 0, .int 0, .int 0]))] : va_W)) hP hD hS hA [1] [0] rfl rfl (by decide) (by decide) (va_runIN (As := []) (rest := [.ref q5, .ref h]) ⟨hx, hb, hml, hown, hts⟩ (c_X8_init l dC dI cyB cyI cyZ cyO q5 H.size) ⟨va_cnB 0 hts gX9_init_X8_init_n9 rfl rfl rfl (hN _ (by decide +kernel : Cond.methodLinkNest RX9 9 yX8_init "HoldSlips" ∈ nw_all)) (hts (.initialized RX8) (by decide +kernel)) (by decide +kernel) ⟨Nat.le_of_ble_eq_true rfl, Nat.le_of_ble_eq_true rfl⟩, rfl, hts (.instanceMethod yX8_init) (by decide +kernel)⟩ ⟨PW.blind, fun U hU hW => ⟨rfl, by rw [hU], by rw [hU]; exact hPc, hCx.warm hW, hDc.weaken (fun _ _ _ _ => trivial)⟩⟩ rfl rfl hl.1 rfl (lv_room (Nat.le_of_ble_eq_true rfl)) dX9_init_9 ⟨Nat.le_of_ble_eq_true rfl, Nat.le_of_ble_eq_true rfl⟩) (fun w1 H locs hΦ hP hD hS => ?_)
  obtain ⟨q5_0, rfl⟩ := hΦ
  have hP : va_P (dC, dI) vwCl (([(h, .inr (9, [.null, .int 0, .int 0, .int 0, .int 0]))] : va_W) ++ (wX8 cyB cyI cyZ cyO q5 q5_0 m0X8)) H := hP
  have hD : va_D A (([(h, .inr (9, [.null, .int 0, .int 0, .int 0, .int 0]))] : va_W) ++ (wX8 cyB cyI cyZ cyO q5 q5_0 m0X8)) := hD
  refine W.widen (k := 2) (n := 402) (by omega) (by omega) ?_
  refine va_putF (D := (dC, dI)) (ci := 9) (v := .ref q5) (ty := .object "HoldSlips$Tape") (C := RX9) (T := TX9) (N := 5) hx hb hts hin9 tyX9 tyX9_ok nmX9 hown hK hP hD hS 0 rfl rfl 0 (by decide) kf10 (fun _ h9 => h9) rfl hin rfl (by decide +kernel) rfl rfl (Nat.le_of_ble_eq_true rfl) dX9_init_12 (fun H locs hP hD hS => ?_)
  have hP : va_P (dC, dI) vwCl (([(h, .inr (9, [.ref q5, .int 0, .int 0, .int 0, .int 0]))] : va_W) ++ (wX8 cyB cyI cyZ cyO q5 q5_0 m0X8)) H := hP
  have hD : va_D A (([(h, .inr (9, [.ref q5, .int 0, .int 0, .int 0, .int 0]))] : va_W) ++ (wX8 cyB cyI cyZ cyO q5 q5_0 m0X8)) := hD
  refine lv_aload_n hx hb dX9_init_15 rfl (lv_at hl 0 rfl) ?_
  refine lv_iconst (v := (0 : Int32)) hx hb dX9_init_16 (by decide) ?_
  refine va_put (D := (dC, dI)) (ci := 9) (v := .int (0 : Int32)) (ty := .int) (C := RX9) (T := TX9) (N := 5) hx hb hts hin9 tyX9 tyX9_ok nmX9 hown hK hP hD hS 0 rfl rfl 1 (by decide) kf16 (fun _ h9 => h9) rfl (by decide +kernel) rfl rfl (Nat.le_of_ble_eq_true rfl) dX9_init_17 (fun H locs hP hD hS => ?_)
  have hP : va_P (dC, dI) vwCl (([(h, .inr (9, [.ref q5, .int (0 : Int32), .int 0, .int 0, .int 0]))] : va_W) ++ (wX8 cyB cyI cyZ cyO q5 q5_0 m0X8)) H := hP
  have hD : va_D A (([(h, .inr (9, [.ref q5, .int (0 : Int32), .int 0, .int 0, .int 0]))] : va_W) ++ (wX8 cyB cyI cyZ cyO q5 q5_0 m0X8)) := hD
  refine lv_aload_n hx hb dX9_init_20 rfl (lv_at hl 0 rfl) ?_
  refine lv_iconst (v := (0 : Int32)) hx hb dX9_init_21 (by decide) ?_
  refine va_put (D := (dC, dI)) (ci := 9) (v := .int (0 : Int32)) (ty := .int) (C := RX9) (T := TX9) (N := 5) hx hb hts hin9 tyX9 tyX9_ok nmX9 hown hK hP hD hS 0 rfl rfl 2 (by decide) kf20 (fun _ h9 => h9) rfl (by decide +kernel) rfl rfl (Nat.le_of_ble_eq_true rfl) dX9_init_22 (fun H locs hP hD hS => ?_)
  have hP : va_P (dC, dI) vwCl (([(h, .inr (9, [.ref q5, .int (0 : Int32), .int (0 : Int32), .int 0, .int 0]))] : va_W) ++ (wX8 cyB cyI cyZ cyO q5 q5_0 m0X8)) H := hP
  have hD : va_D A (([(h, .inr (9, [.ref q5, .int (0 : Int32), .int (0 : Int32), .int 0, .int 0]))] : va_W) ++ (wX8 cyB cyI cyZ cyO q5 q5_0 m0X8)) := hD
  refine lv_aload_n hx hb dX9_init_25 rfl (lv_at hl 0 rfl) ?_
  refine lv_iconst (v := (0 : Int32)) hx hb dX9_init_26 (by decide) ?_
  refine va_put (D := (dC, dI)) (ci := 9) (v := .int (0 : Int32)) (ty := .int) (C := RX9) (T := TX9) (N := 5) hx hb hts hin9 tyX9 tyX9_ok nmX9 hown hK hP hD hS 0 rfl rfl 3 (by decide) kf23 (fun _ h9 => h9) rfl (by decide +kernel) rfl rfl (Nat.le_of_ble_eq_true rfl) dX9_init_27 (fun H locs hP hD hS => ?_)
  have hP : va_P (dC, dI) vwCl (([(h, .inr (9, [.ref q5, .int (0 : Int32), .int (0 : Int32), .int (0 : Int32), .int 0]))] : va_W) ++ (wX8 cyB cyI cyZ cyO q5 q5_0 m0X8)) H := hP
  have hD : va_D A (([(h, .inr (9, [.ref q5, .int (0 : Int32), .int (0 : Int32), .int (0 : Int32), .int 0]))] : va_W) ++ (wX8 cyB cyI cyZ cyO q5 q5_0 m0X8)) := hD
  refine lv_aload_n hx hb dX9_init_30 rfl (lv_at hl 0 rfl) ?_
  refine lv_iconst (v := (0 : Int32)) hx hb dX9_init_31 (by decide) ?_
  refine va_put (D := (dC, dI)) (ci := 9) (v := .int (0 : Int32)) (ty := .int) (C := RX9) (T := TX9) (N := 5) hx hb hts hin9 tyX9 tyX9_ok nmX9 hown hK hP hD hS 0 rfl rfl 4 (by decide) kf26 (fun _ h9 => h9) rfl (by decide +kernel) rfl rfl (Nat.le_of_ble_eq_true rfl) dX9_init_32 (fun H locs hP hD hS => ?_)
  have hP : va_P (dC, dI) vwCl (([(h, .inr (9, [.ref q5, .int (0 : Int32), .int (0 : Int32), .int (0 : Int32), .int (0 : Int32)]))] : va_W) ++ (wX8 cyB cyI cyZ cyO q5 q5_0 m0X8)) H := hP
  have hD : va_D A (([(h, .inr (9, [.ref q5, .int (0 : Int32), .int (0 : Int32), .int (0 : Int32), .int (0 : Int32)]))] : va_W) ++ (wX8 cyB cyI cyZ cyO q5 q5_0 m0X8)) := hD
  have hP9 : va_P (dC, dI) vwCl ((wX9 cyB cyI cyZ cyO h q5 m0X9) ++ (wX8 cyB cyI cyZ cyO q5 q5_0 m0X8)) H := hP.sub (ws' := ((wX9 cyB cyI cyZ cyO h q5 m0X9) ++ (wX8 cyB cyI cyZ cyO q5 q5_0 m0X8))) [0, 1, 2] rfl
  have hD9 : va_D A ((wX9 cyB cyI cyZ cyO h q5 m0X9) ++ (wX8 cyB cyI cyZ cyO q5 q5_0 m0X8)) := hD.sub (ws' := ((wX9 cyB cyI cyZ cyO h q5 m0X9) ++ (wX8 cyB cyI cyZ cyO q5 q5_0 m0X8))) [0, 1, 2] (by decide) rfl
  exact W.vret hx hb hr (fun t ht hW => ⟨rfl, _, ⟨q5, q5_0, rfl⟩, by rw [ht]; exact hP9, hD9, hS.F ht⟩) hS.2.2 dX9_init_35
