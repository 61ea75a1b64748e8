def srefs : List (Nat × String) := [(66, "if"), (72, "and"), (74, "widow"), (78, "rank"), (80, "year"), (82, "lost"), (84, "plus"), (86, "not"), (88, "none"), (90, "slips"), (92, "share")]
def SX (adK adV : Nat → Nat) (A : Nat → Prop) (U : State) : Prop := vk_S 11 slens sbyts adK adV A U U.heap ∧ (∀ i, i < 11 → vk_R RX9 (srefs.getD i (0, "")).1 (srefs.getD i (0, "")).2 (adK i) U) ∧ va_Z RJ0 "COMPACT_STRINGS" "Z" (.int 1) A U U.heap ∧ va_Zq RJ3 "SIOOBE_FORMATTER" "Ljava/util/function/BiFunction;" A U U.heap
theorem SX.at {adK adV : Nat → Nat} {A B : Nat → Prop} {s U : State} {H : Heap} {locs : List Loc} (hX : SX adK adV A s) (hS : va_S A s.heap H locs) (hBA : ∀ q, B q → A q) (hU : U.heap = H) (hW : s.WarmedH U.vm) : SX adK adV B U := by
  obtain ⟨h1, h2, h3, h4⟩ := hX
  refine ⟨?_, fun i hi => (h2 i hi).warm hW, ?_, ?_⟩
  · rw [hU]; exact ((h1.kept hS.2.1).moved hW.alike).narrow hBA
  · rw [hU]; exact ((h3.kept hS.2.1).moved hW.alike).narrow hBA
  · rw [hU]; exact ((h4.kept hS.2.1).moved hW.alike).narrow hBA
theorem SX.calling {adK adV : Nat → Nat} {A : Nat → Prop} {U : State} (h : SX adK adV A U) (g : JFrame) (mk : MethodId) (a : Array Value) : SX adK adV A (U.calling g mk a) :=
  ⟨vk_S.moved (u := U) (U := U.calling g mk a) (Vm.Alike.refl U.vm) h.1, fun i hi => vk_R.same (u := U) (U := U.calling g mk a) rfl (h.2.1 i hi), va_Z.moved (u := U) (U := U.calling g mk a) (Vm.Alike.refl U.vm) h.2.2.1, va_Zq.moved (u := U) (U := U.calling g mk a) (Vm.Alike.refl U.vm) h.2.2.2⟩
def PS (adK adV : Nat → Nat) (av : List Value) : Array Value → State → Prop := va_Pc av (fun U => SX adK adV (fun _ => False) U)
theorem PS.blind {adK adV : Nat → Nat} {av : List Value} : FrameBlind (PS adK adV av) := fun a _ g mk q => ⟨q.1, q.2.calling g mk a⟩
def PRS (dC : Nat → ClassId) (dI : Nat → Nat → Nat) (cyB cyI cyZ cyO : ClassId) (adK adV : Nat → Nat) (av : List Value) (w : va_W) : Array Value → State → Prop := va_Pc av (fun U => va_P (dC, dI) vwCl w U.heap ∧ Cx dC dI cyB cyI cyZ cyO U ∧ SX adK adV (fun _ => False) U)
theorem PRS.blind {dC : Nat → ClassId} {dI : Nat → Nat → Nat} {cyB cyI cyZ cyO : ClassId} {adK adV : Nat → Nat} {av : List Value} {w : va_W} : FrameBlind (PRS dC dI cyB cyI cyZ cyO adK adV av w) := fun a _ g mk q => ⟨q.1, q.2.1, q.2.2.1.calling g mk a, q.2.2.2.calling g mk a⟩
def PWS (dC : Nat → ClassId) (dI : Nat → Nat → Nat) (cyB cyI cyZ cyO : ClassId) (adK adV : Nat → Nat) (av : List Value) (w : va_W) (sz : Nat) : Array Value → State → Prop := va_Pc av (fun U => U.heap.size = sz ∧ va_P (dC, dI) vwCl w U.heap ∧ Cx dC dI cyB cyI cyZ cyO U ∧ va_D (fun _ => True) w ∧ SX adK adV (va_A w sz) U)
theorem PWS.blind {dC : Nat → ClassId} {dI : Nat → Nat → Nat} {cyB cyI cyZ cyO : ClassId} {adK adV : Nat → Nat} {av : List Value} {w : va_W} {sz : Nat} : FrameBlind (PWS dC dI cyB cyI cyZ cyO adK adV av w sz) := fun a _ g mk q => ⟨q.1, q.2.1, q.2.2.1, q.2.2.2.1.calling g mk a, q.2.2.2.2.1, q.2.2.2.2.2.calling g mk a⟩
theorem ro_callv {p : Program} {l : Launch} {e : Env} {R : Room} {s : State} {m : MethodId} {args : Array Value} {below : List Frame} {meth : Method} {c : Code} {H : Heap} {locs : List Loc} {cells slots : Nat} {Q : State → Prop} {pc : Nat} {ls : Array Slot} {rest st0 : List Value} {a : Array Value} (hr : va_Run p l e R s m args below meth c H locs cells slots 0 0 (F0 m pc ls st0) rest (QR none a) (fun _ => False))
    (kk : W p l e R s m args below meth c H locs cells slots Q (F0 m (pc + 3) ls rest)) : W p l e R s m args below meth c H locs cells slots Q (F0 m pc ls st0) := ro_call (fun _ h => h) hr kk
theorem slen_lt : ∀ k, k < 11 → slenN k < 2147483648 := by decide
theorem sch_ok : ∀ k, k < 11 → ∀ j, j < slenN k → (((sch k j) &&& 255).toUInt32 % 65536).toInt32 = sch k j := by decide
theorem sch_nar : ∀ k, k < 11 → ∀ j, j < slenN k → narrow .char (.int (sch k j)) = .int (sch k j) := by
  intro k hk j hj
  rw [← sch_ok k hk j hj]
  exact pk_nc _
set_option maxHeartbeats 4000000 in
set_option maxRecDepth 100000 in
theorem c_str_coder (l : Launch) (adK adV : Nat → Nat) (k : Nat) (hk : k < 11) : Met l yJ0_coder_7d493 wsJ0_coder_7d493 ({ frames := 0, cells := 0, slots := 0, locals := 0 } : Room) (PS adK adV ([.ref (adK k)] : List Value)) (QR (some (.int 0))) 0 0 (fun _ => False) := by
  refine Met.ofW (cc := cJ0_coder_7d493) (maxL := 1) (ret := (some .byte)) (by decide) rfl ?_
  intro p e s m args below meth c s₁ B hml hv
  obtain ⟨rfl, hX⟩ := hv
  have hx := B.exec
  have hb := B.bytes
  have hr := B.returns
  have hts := atoms_spec (ws := wsJ0_coder_7d493) B.pre
  have hown : s.vm.findClass RJ0 = some m.cls := findClass_of_methodNamed B.named
  have hlocks := B.notSynchronized
  have hl := lv_entry ([.ref (adK k)] : List Value) (n := 1) (Nat.le_of_ble_eq_true rfl)
  rw [lg_entry_eq]
  generalize (lg_sl ([.ref (adK k)] : List Value) ++ List.replicate (1 - (lg_sl ([.ref (adK k)] : List Value)).length) Slot.unset).toArray = ls at hl ⊢
  have hl : lv_has ls 1 [(0, .ref (adK k))] := hl
  refine va_gets hx hb hX.2.2.1 (va_S.rf (A := fun _ => False)) hown (hts (.fieldLink RJ0 38 "java/lang/String" "COMPACT_STRINGS" "Z") (by decide +kernel)) (fun _ h9 => h9) dJ0_coder_7d493_0 ?_
  refine lv_if_eq (tgt := 13) hx hb dJ0_coder_7d493_3 (by decide) (fun hc => absurd hc (by decide)) (fun _ => ?_)
  refine lv_aload_n hx hb dJ0_coder_7d493_6 rfl (lv_at hl 0 rfl) ?_
  refine vk_getf hx hb (hX.1.1 k hk).2.1 (va_S.rf (A := fun _ => False)) hown (hts (.fieldLink RJ0 15 "java/lang/String" "coder" "B") (by decide +kernel)) (fun _ h9 => h9) dJ0_coder_7d493_7 ?_
  refine lv_goto (tgt := 14) hx hb dJ0_coder_7d493_10 (by decide) ?_
  exact W.zret (v := (0 : Int32)) hx hb hr rfl (fun t ht hW => ⟨rfl, ht⟩) (fun q h => by cases h) dJ0_coder_7d493_14
set_option maxHeartbeats 4000000 in
set_option maxRecDepth 100000 in
theorem c_str_isLatin1 (l : Launch) (adK adV : Nat → Nat) (k : Nat) (hk : k < 11) : Met l yJ0_isLatin1_aae02 wsJ0_isLatin1_aae02 ({ frames := 0, cells := 0, slots := 0, locals := 0 } : Room) (PS adK adV ([.ref (adK k)] : List Value)) (QR (some (.int 1))) 0 0 (fun _ => False) := by
  refine Met.ofW (cc := cJ0_isLatin1_aae02) (maxL := 1) (ret := (some .boolean)) (by decide) rfl ?_
  intro p e s m args below meth c s₁ B hml hv
  obtain ⟨rfl, hX⟩ := hv
  have hx := B.exec
  have hb := B.bytes
  have hr := B.returns
  have hts := atoms_spec (ws := wsJ0_isLatin1_aae02) B.pre
  have hown : s.vm.findClass RJ0 = some m.cls := findClass_of_methodNamed B.named
  have hlocks := B.notSynchronized
  have hl := lv_entry ([.ref (adK k)] : List Value) (n := 1) (Nat.le_of_ble_eq_true rfl)
  rw [lg_entry_eq]
  generalize (lg_sl ([.ref (adK k)] : List Value) ++ List.replicate (1 - (lg_sl ([.ref (adK k)] : List Value)).length) Slot.unset).toArray = ls at hl ⊢
  have hl : lv_has ls 1 [(0, .ref (adK k))] := hl
  refine va_gets hx hb hX.2.2.1 (va_S.rf (A := fun _ => False)) hown (hts (.fieldLink RJ0 38 "java/lang/String" "COMPACT_STRINGS" "Z") (by decide +kernel)) (fun _ h9 => h9) dJ0_isLatin1_aae02_0 ?_
  refine lv_if_eq (tgt := 17) hx hb dJ0_isLatin1_aae02_3 (by decide) (fun hc => absurd hc (by decide)) (fun _ => ?_)
  refine lv_aload_n hx hb dJ0_isLatin1_aae02_6 rfl (lv_at hl 0 rfl) ?_
  refine vk_getf hx hb (hX.1.1 k hk).2.1 (va_S.rf (A := fun _ => False)) hown (hts (.fieldLink RJ0 15 "java/lang/String" "coder" "B") (by decide +kernel)) (fun _ h9 => h9) dJ0_isLatin1_aae02_7 ?_
  refine lv_if_ne (tgt := 17) hx hb dJ0_isLatin1_aae02_10 (by decide) (fun hc => absurd rfl hc) (fun _ => ?_)
  refine lv_iconst (v := (1 : Int32)) hx hb dJ0_isLatin1_aae02_13 (by decide) ?_
  refine lv_goto (tgt := 18) hx hb dJ0_isLatin1_aae02_14 (by decide) ?_
  exact W.zret (v := (1 : Int32)) hx hb hr rfl (fun t ht hW => ⟨rfl, ht⟩) (fun q h => by cases h) dJ0_isLatin1_aae02_18
set_option maxHeartbeats 4000000 in
set_option maxRecDepth 100000 in
theorem c_str_length (l : Launch) (adK adV : Nat → Nat) (k : Nat) (hk : k < 11) : Met l yJ0_length_8abf5 wsJ0_length_8abf5 ({ frames := 1, cells := 0, slots := 0, locals := 40 } : Room) (PS adK adV ([.ref (adK k)] : List Value)) (QR (some (.int (slen k)))) 0 0 (fun _ => False) := by
  refine Met.ofW (cc := cJ0_length_8abf5) (maxL := 1) (ret := (some .int)) (by decide) rfl ?_
  intro p e s m args below meth c s₁ B hml hv
  obtain ⟨rfl, hX⟩ := hv
  have hx := B.exec
  have hb := B.bytes
  have hr := B.returns
  have hts := atoms_spec (ws := wsJ0_length_8abf5) B.pre
  have hown : s.vm.findClass RJ0 = some m.cls := findClass_of_methodNamed B.named
  have hlocks := B.notSynchronized
  have hl := lv_entry ([.ref (adK k)] : List Value) (n := 1) (Nat.le_of_ble_eq_true rfl)
  rw [lg_entry_eq]
  generalize (lg_sl ([.ref (adK k)] : List Value) ++ List.replicate (1 - (lg_sl ([.ref (adK k)] : List Value)).length) Slot.unset).toArray = ls at hl ⊢
  have hl : lv_has ls 1 [(0, .ref (adK k))] := hl
  refine lv_aload_n hx hb dJ0_length_8abf5_0 rfl (lv_at hl 0 rfl) ?_
  refine vk_getf hx hb (hX.1.1 k hk).2.2.1 (va_S.rf (A := fun _ => False)) hown (hts (.fieldLink RJ0 9 "java/lang/String" "value" "[B") (by decide +kernel)) (fun _ h9 => h9) dJ0_length_8abf5_1 ?_
  refine va_tlen (v := slen k) hx hb (hX.1.1 k hk).2.2.2 (va_S.rf (A := fun _ => False)) rfl dJ0_length_8abf5_4 ?_
  refine lv_aload_n hx hb dJ0_length_8abf5_5 rfl (lv_at hl 0 rfl) ?_
  refine ro_calli (va_runV (C := RJ0) (As := []) (rest := [.int (slen k)]) ⟨hx, hb, hml, hown, hts⟩ (c_str_coder l adK adV k hk) (cwV 0 hts gJ0_length_8abf5_J0_coder_7d493 rfl rfl rfl (by decide +kernel) ⟨Nat.le_of_ble_eq_true rfl, Nat.le_of_ble_eq_true rfl⟩) ⟨PS.blind, vk_recv hX.1 hk (va_S.rf (A := fun _ => False)), fun U hU hW => ⟨rfl, hX.at (locs := []) va_S.rf (fun _ h => h) hU hW⟩⟩ rfl rfl hl.1 rfl (lv_room (Nat.le_of_ble_eq_true rfl)) dJ0_length_8abf5_6 ⟨Nat.zero_le _, Nat.zero_le _⟩) ?_
  refine lv_ishr hx hb dJ0_length_8abf5_9 ?_
  rw [show slen k >>> ((0 : Int32) &&& 31) = slen k from sc_shr0 (slen_lt k hk)]
  exact W.iret (v := slen k) hx hb hr (fun t ht hW => ⟨rfl, ht⟩) (fun q h => by cases h) dJ0_length_8abf5_10
set_option maxHeartbeats 4000000 in
set_option maxRecDepth 100000 in
theorem c_pre_check_n (l : Launch) (i n : Int32) (h1 : ¬ i < 0) (h2 : i < n) : Met l yJ3_checkIndex_8e157 wsJ3_checkIndex_8e157 ({ frames := 0, cells := 0, slots := 0, locals := 0 } : Room) (va_Pc ([.int i, .int n, .null] : List Value) (fun _ => True)) (QR (some (.int i))) 0 0 (fun _ => False) := by
  refine Met.ofW (cc := cJ3_checkIndex_8e157) (maxL := 3) (ret := (some .int)) (by decide) rfl ?_
  intro p e s m args below meth c s₁ B hml hv
  obtain ⟨rfl, _⟩ := hv
  have hx := B.exec
  have hb := B.bytes
  have hr := B.returns
  have hts := atoms_spec (ws := wsJ3_checkIndex_8e157) B.pre
  have hown : s.vm.findClass RJ3 = some m.cls := findClass_of_methodNamed B.named
  have hlocks := B.notSynchronized
  have hl := lv_entry ([.int i, .int n, .null] : List Value) (n := 3) (Nat.le_of_ble_eq_true rfl)
  rw [lg_entry_eq]
  generalize (lg_sl ([.int i, .int n, .null] : List Value) ++ List.replicate (3 - (lg_sl ([.int i, .int n, .null] : List Value)).length) Slot.unset).toArray = ls at hl ⊢
  have hl : lv_has ls 3 [(0, .int i), (1, .int n), (2, .null)] := hl
  refine lv_iload_n hx hb dJ3_checkIndex_8e157_0 rfl (lv_at hl 0 rfl) ?_
  refine lv_if_lt (tgt := 9) hx hb dJ3_checkIndex_8e157_1 (by decide) (fun hc => absurd hc h1) (fun _ => ?_)
  refine lv_iload_n hx hb dJ3_checkIndex_8e157_4 rfl (lv_at hl 0 rfl) ?_
  refine lv_iload_n hx hb dJ3_checkIndex_8e157_5 rfl (lv_at hl 1 rfl) ?_
  refine lv_icmp_lt (tgt := 16) hx hb dJ3_checkIndex_8e157_6 (by decide) (fun _ => ?_) (fun hc => absurd h2 hc)
  refine lv_iload_n hx hb dJ3_checkIndex_8e157_16 rfl (lv_at hl 0 rfl) ?_
  exact W.iret (v := i) hx hb hr (fun t ht hW => ⟨rfl, ht⟩) (fun q h => by cases h) dJ3_checkIndex_8e157_17
set_option maxHeartbeats 4000000 in
set_option maxRecDepth 100000 in
theorem c_pre_check_r (l : Launch) (i n : Int32) (t : Nat) (h1 : ¬ i < 0) (h2 : i < n) : Met l yJ3_checkIndex_8e157 wsJ3_checkIndex_8e157 ({ frames := 0, cells := 0, slots := 0, locals := 0 } : Room) (va_Pc ([.int i, .int n, .ref t] : List Value) (fun _ => True)) (QR (some (.int i))) 0 0 (fun _ => False) := by
  refine Met.ofW (cc := cJ3_checkIndex_8e157) (maxL := 3) (ret := (some .int)) (by decide) rfl ?_
  intro p e s m args below meth c s₁ B hml hv
  obtain ⟨rfl, _⟩ := hv
  have hx := B.exec
  have hb := B.bytes
  have hr := B.returns
  have hts := atoms_spec (ws := wsJ3_checkIndex_8e157) B.pre
  have hown : s.vm.findClass RJ3 = some m.cls := findClass_of_methodNamed B.named
  have hlocks := B.notSynchronized
  have hl := lv_entry ([.int i, .int n, .ref t] : List Value) (n := 3) (Nat.le_of_ble_eq_true rfl)
  rw [lg_entry_eq]
  generalize (lg_sl ([.int i, .int n, .ref t] : List Value) ++ List.replicate (3 - (lg_sl ([.int i, .int n, .ref t] : List Value)).length) Slot.unset).toArray = ls at hl ⊢
  have hl : lv_has ls 3 [(0, .int i), (1, .int n), (2, .ref t)] := hl
  refine lv_iload_n hx hb dJ3_checkIndex_8e157_0 rfl (lv_at hl 0 rfl) ?_
  refine lv_if_lt (tgt := 9) hx hb dJ3_checkIndex_8e157_1 (by decide) (fun hc => absurd hc h1) (fun _ => ?_)
  refine lv_iload_n hx hb dJ3_checkIndex_8e157_4 rfl (lv_at hl 0 rfl) ?_
  refine lv_iload_n hx hb dJ3_checkIndex_8e157_5 rfl (lv_at hl 1 rfl) ?_
  refine lv_icmp_lt (tgt := 16) hx hb dJ3_checkIndex_8e157_6 (by decide) (fun _ => ?_) (fun hc => absurd h2 hc)
  refine lv_iload_n hx hb dJ3_checkIndex_8e157_16 rfl (lv_at hl 0 rfl) ?_
  exact W.iret (v := i) hx hb hr (fun t ht hW => ⟨rfl, ht⟩) (fun q h => by cases h) dJ3_checkIndex_8e157_17
set_option maxHeartbeats 4000000 in
set_option maxRecDepth 100000 in
theorem c_str_check (l : Launch) (adK adV : Nat → Nat) (i n : Int32) (h1 : ¬ i < 0) (h2 : i < n) : Met l yJ0_checkIndex_df160 wsJ0_checkIndex_df160 ({ frames := 1, cells := 0, slots := 0, locals := 30 } : Room) (PS adK adV ([.int i, .int n] : List Value)) (QR none) 0 0 (fun _ => False) := by
  refine Met.ofW (cc := cJ0_checkIndex_df160) (maxL := 2) (ret := none) (by decide) rfl ?_
  intro p e s m args below meth c s₁ B hml hv
  obtain ⟨rfl, hX⟩ := hv
  have hx := B.exec
  have hb := B.bytes
  have hr := B.returns
  have hts := atoms_spec (ws := wsJ0_checkIndex_df160) B.pre
  have hown : s.vm.findClass RJ0 = some m.cls := findClass_of_methodNamed B.named
  have hlocks := B.notSynchronized
  have hl := lv_entry ([.int i, .int n] : List Value) (n := 2) (Nat.le_of_ble_eq_true rfl)
  rw [lg_entry_eq]
  generalize (lg_sl ([.int i, .int n] : List Value) ++ List.replicate (2 - (lg_sl ([.int i, .int n] : List Value)).length) Slot.unset).toArray = ls at hl ⊢
  have hl : lv_has ls 2 [(0, .int i), (1, .int n)] := hl
  refine lv_iload_n hx hb dJ0_checkIndex_df160_0 rfl (lv_at hl 0 rfl) ?_
  refine lv_iload_n hx hb dJ0_checkIndex_df160_1 rfl (lv_at hl 1 rfl) ?_
  rcases hX.2.2.2 with hz | ⟨t, hz⟩
  · refine va_gets hx hb hz (va_S.rf (A := fun _ => False)) hown (hts (.fieldLink RJ0 1053 "jdk/internal/util/Preconditions" "SIOOBE_FORMATTER" "Ljava/util/function/BiFunction;") (by decide +kernel)) (fun _ h9 => h9) dJ0_checkIndex_df160_2 ?_
    refine ro_calli (va_runS (As := [.int i, .int n, .null]) (rest := []) ⟨hx, hb, hml, hown, hts⟩ (c_pre_check_n l i n h1 h2) (va_cwS 3 hts gJ0_checkIndex_df160_J3_checkIndex_8e157 rfl rfl rfl (by decide +kernel) ⟨Nat.le_of_ble_eq_true rfl, Nat.le_of_ble_eq_true rfl⟩) ⟨fun a U g mk q => q, fun U hU hW => ⟨rfl, trivial⟩⟩ rfl rfl hl.1 rfl (lv_room (Nat.le_of_ble_eq_true rfl)) dJ0_checkIndex_df160_5 ⟨Nat.zero_le _, Nat.zero_le _⟩) ?_
    refine lv_pop hx hb dJ0_checkIndex_df160_8 rfl ?_
    exact W.vret hx hb hr (fun t ht hW => ⟨rfl, ht⟩) (fun q h => by cases h) dJ0_checkIndex_df160_9
  · refine va_gets hx hb hz (va_S.rf (A := fun _ => False)) hown (hts (.fieldLink RJ0 1053 "jdk/internal/util/Preconditions" "SIOOBE_FORMATTER" "Ljava/util/function/BiFunction;") (by decide +kernel)) (fun _ h9 => h9) dJ0_checkIndex_df160_2 ?_
    refine ro_calli (va_runS (As := [.int i, .int n, .ref t]) (rest := []) ⟨hx, hb, hml, hown, hts⟩ (c_pre_check_r l i n t h1 h2) (va_cwS 3 hts gJ0_checkIndex_df160_J3_checkIndex_8e157 rfl rfl rfl (by decide +kernel) ⟨Nat.le_of_ble_eq_true rfl, Nat.le_of_ble_eq_true rfl⟩) ⟨fun a U g mk q => q, fun U hU hW => ⟨rfl, trivial⟩⟩ rfl rfl hl.1 rfl (lv_room (Nat.le_of_ble_eq_true rfl)) dJ0_checkIndex_df160_5 ⟨Nat.zero_le _, Nat.zero_le _⟩) ?_
    refine lv_pop hx hb dJ0_checkIndex_df160_8 rfl ?_
    exact W.vret hx hb hr (fun t ht hW => ⟨rfl, ht⟩) (fun q h => by cases h) dJ0_checkIndex_df160_9
set_option maxHeartbeats 4000000 in
set_option maxRecDepth 100000 in
theorem c_lat_charAt (l : Launch) (adK adV : Nat → Nat) (k : Nat) (hk : k < 11) (i : Int32) (hi : ¬ (i < 0 ∨ slenN k ≤ i.toNatClampNeg)) : Met l yJ1_charAt_3b067 wsJ1_charAt_3b067 ({ frames := 2, cells := 0, slots := 0, locals := 60 } : Room) (PS adK adV ([.ref (adV k), .int i] : List Value)) (QR (some (.int (sch k i.toNatClampNeg)))) 0 0 (fun _ => False) := by
  have hin : vp_in i (slenN k) := hi
  obtain ⟨j, hj, rfl⟩ := vp_in_of hin (slen_lt k hk)
  have hjb : j < 2147483648 := Nat.lt_trans hj (slen_lt k hk)
  refine Met.ofW (cc := cJ1_charAt_3b067) (maxL := 2) (ret := (some .char)) (by decide) rfl ?_
  intro p e s m args below meth c s₁ B hml hv
  obtain ⟨rfl, hX⟩ := hv
  have hx := B.exec
  have hb := B.bytes
  have hr := B.returns
  have hts := atoms_spec (ws := wsJ1_charAt_3b067) B.pre
  have hown : s.vm.findClass RJ1 = some m.cls := findClass_of_methodNamed B.named
  have hlocks := B.notSynchronized
  have hl := lv_entry ([.ref (adV k), .int (nI j)] : List Value) (n := 2) (Nat.le_of_ble_eq_true rfl)
  rw [lg_entry_eq]
  generalize (lg_sl ([.ref (adV k), .int (nI j)] : List Value) ++ List.replicate (2 - (lg_sl ([.ref (adV k), .int (nI j)] : List Value)).length) Slot.unset).toArray = ls at hl ⊢
  have hl : lv_has ls 2 [(0, .ref (adV k)), (1, .int (nI j))] := hl
  refine lv_iload_n hx hb dJ1_charAt_3b067_0 rfl (lv_at hl 1 rfl) ?_
  refine lv_aload_n hx hb dJ1_charAt_3b067_1 rfl (lv_at hl 0 rfl) ?_
  refine va_tlen (v := slen k) hx hb (hX.1.1 k hk).2.2.2 (va_S.rf (A := fun _ => False)) rfl dJ1_charAt_3b067_2 ?_
  refine ro_callv (va_runS (As := [.int (nI j), .int (slen k)]) (rest := []) ⟨hx, hb, hml, hown, hts⟩ (c_str_check l adK adV (nI j) (slen k) (nI_pos hjb) (nI_lt hj (slen_lt k hk))) (va_cwS 2 hts gJ1_charAt_3b067_J0_checkIndex_df160 rfl rfl rfl (by decide +kernel) ⟨Nat.le_of_ble_eq_true rfl, Nat.le_of_ble_eq_true rfl⟩) ⟨PS.blind, fun U hU hW => ⟨rfl, hX.at (locs := []) va_S.rf (fun _ h => h) hU hW⟩⟩ rfl rfl hl.1 rfl (lv_room (Nat.le_of_ble_eq_true rfl)) dJ1_charAt_3b067_3 ⟨Nat.zero_le _, Nat.zero_le _⟩) ?_
  refine lv_aload_n hx hb dJ1_charAt_3b067_6 rfl (lv_at hl 0 rfl) ?_
  refine lv_iload_n hx hb dJ1_charAt_3b067_7 rfl (lv_at hl 1 rfl) ?_
  refine va_tb (v := .int (sch k (nI j).toNatClampNeg)) hx hb (hX.1.1 k hk).2.2.2 (va_S.rf (A := fun _ => False)) hin rfl dJ1_charAt_3b067_8 ?_
  refine lv_sipush (v := (255 : Int32)) hx hb dJ1_charAt_3b067_9 (by decide) ?_
  refine lv_iand hx hb dJ1_charAt_3b067_12 ?_
  refine lv_i2c (v := sch k (nI j).toNatClampNeg) hx hb dJ1_charAt_3b067_13 (by rw [nI_clamp hjb]; exact sch_ok k hk j hj) ?_
  exact W.zret (v := sch k (nI j).toNatClampNeg) hx hb hr (by rw [nI_clamp hjb]; exact sch_nar k hk j hj) (fun t ht hW => ⟨rfl, ht⟩) (fun q h => by cases h) dJ1_charAt_3b067_14
set_option maxHeartbeats 4000000 in
set_option maxRecDepth 100000 in
theorem c_str_charAt (l : Launch) (adK adV : Nat → Nat) (k : Nat) (hk : k < 11) (i : Int32) (hi : ¬ (i < 0 ∨ slenN k ≤ i.toNatClampNeg)) : Met l yJ0_charAt_5068e wsJ0_charAt_5068e ({ frames := 4, cells := 0, slots := 0, locals := 110 } : Room) (PS adK adV ([.ref (adK k), .int i] : List Value)) (QR (some (.int (sch k i.toNatClampNeg)))) 0 0 (fun _ => False) := by
  refine Met.ofW (cc := cJ0_charAt_5068e) (maxL := 2) (ret := (some .char)) (by decide) rfl ?_
  intro p e s m args below meth c s₁ B hml hv
  obtain ⟨rfl, hX⟩ := hv
  have hx := B.exec
  have hb := B.bytes
  have hr := B.returns
  have hts := atoms_spec (ws := wsJ0_charAt_5068e) B.pre
  have hown : s.vm.findClass RJ0 = some m.cls := findClass_of_methodNamed B.named
  have hlocks := B.notSynchronized
  have hl := lv_entry ([.ref (adK k), .int i] : List Value) (n := 2) (Nat.le_of_ble_eq_true rfl)
  rw [lg_entry_eq]
  generalize (lg_sl ([.ref (adK k), .int i] : List Value) ++ List.replicate (2 - (lg_sl ([.ref (adK k), .int i] : List Value)).length) Slot.unset).toArray = ls at hl ⊢
  have hl : lv_has ls 2 [(0, .ref (adK k)), (1, .int i)] := hl
  refine lv_aload_n hx hb dJ0_charAt_5068e_0 rfl (lv_at hl 0 rfl) ?_
  refine ro_calli (va_runV (C := RJ0) (As := []) (rest := []) ⟨hx, hb, hml, hown, hts⟩ (c_str_isLatin1 l adK adV k hk) (cwV 0 hts gJ0_charAt_5068e_J0_isLatin1_aae02 rfl rfl rfl (by decide +kernel) ⟨Nat.le_of_ble_eq_true rfl, Nat.le_of_ble_eq_true rfl⟩) ⟨PS.blind, vk_recv hX.1 hk (va_S.rf (A := fun _ => False)), fun U hU hW => ⟨rfl, hX.at (locs := []) va_S.rf (fun _ h => h) hU hW⟩⟩ rfl rfl hl.1 rfl (lv_room (Nat.le_of_ble_eq_true rfl)) dJ0_charAt_5068e_1 ⟨Nat.zero_le _, Nat.zero_le _⟩) ?_
  refine lv_if_eq (tgt := 16) hx hb dJ0_charAt_5068e_4 (by decide) (fun hc => absurd hc (by decide)) (fun _ => ?_)
  refine lv_aload_n hx hb dJ0_charAt_5068e_7 rfl (lv_at hl 0 rfl) ?_
  refine vk_getf hx hb (hX.1.1 k hk).2.2.1 (va_S.rf (A := fun _ => False)) hown (hts (.fieldLink RJ0 9 "java/lang/String" "value" "[B") (by decide +kernel)) (fun _ h9 => h9) dJ0_charAt_5068e_8 ?_
  refine lv_iload_n hx hb dJ0_charAt_5068e_11 rfl (lv_at hl 1 rfl) ?_
  refine ro_calli (va_runS (As := [.ref (adV k), .int i]) (rest := []) ⟨hx, hb, hml, hown, hts⟩ (c_lat_charAt l adK adV k hk i hi) (va_cwS 2 hts gJ0_charAt_5068e_J1_charAt_3b067 rfl rfl rfl (by decide +kernel) ⟨Nat.le_of_ble_eq_true rfl, Nat.le_of_ble_eq_true rfl⟩) ⟨PS.blind, fun U hU hW => ⟨rfl, hX.at (locs := []) va_S.rf (fun _ h => h) hU hW⟩⟩ rfl rfl hl.1 rfl (lv_room (Nat.le_of_ble_eq_true rfl)) dJ0_charAt_5068e_12 ⟨Nat.zero_le _, Nat.zero_le _⟩) ?_
  have hj : i.toNatClampNeg < slenN k := Nat.not_le.mp fun q => hi (Or.inr q)
  exact W.zret (v := sch k i.toNatClampNeg) hx hb hr (sch_nar k hk _ hj) (fun t ht hW => ⟨rfl, ht⟩) (fun q h => by cases h) dJ0_charAt_5068e_15
