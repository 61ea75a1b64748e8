def nw_all : List Cond := [Cond.methodLinkNest RX0 44 yX11_copyRow "HoldSlips", Cond.methodLinkNest RX0 61 yX11_within "HoldSlips", Cond.methodLinkNest RX1 131 yX11_copyRow "HoldSlips", Cond.methodLinkNest RX2 43 yX11_copyRow "HoldSlips", Cond.methodLinkNest RX2 47 yX11_within "HoldSlips", Cond.methodLinkNest RX3 37 yX11_copyRow "HoldSlips", Cond.methodLinkNest RX4 11 yX9_init "HoldSlips", Cond.methodLinkNest RX4 20 yX3_init "HoldSlips", Cond.methodLinkNest RX4 109 yX11_within "HoldSlips", Cond.methodLinkNest RX5 28 yX11_copyRow "HoldSlips", Cond.methodLinkNest RX6 28 yX11_within "HoldSlips", Cond.methodLinkNest RX7 11 yX8_init "HoldSlips", Cond.methodLinkNest RX7 20 yX3_init "HoldSlips", Cond.methodLinkNest RX7 27 yX2_init "HoldSlips", Cond.methodLinkNest RX7 34 yX6_init "HoldSlips", Cond.methodLinkNest RX7 41 yX0_init "HoldSlips", Cond.methodLinkNest RX7 48 yX5_init "HoldSlips", Cond.methodLinkNest RX7 55 yX10_init "HoldSlips", Cond.methodLinkNest RX9 9 yX8_init "HoldSlips", Cond.methodLinkNest RX9 56 yX11_within "HoldSlips", Cond.methodLinkNest RX10 15 yX11_copyRow "HoldSlips", Cond.methodLinkNest RX10 23 yX11_within "HoldSlips", Cond.methodLinkNest RX11 9 yX7_init "HoldSlips", Cond.methodLinkNest RX11 22 yX4_init "HoldSlips", Cond.methodLinkNest RX11 29 yX1_init "HoldSlips"]
theorem nw_tab : ∀ w ∈ nw_all, w.onTables = true := List.forall_mem_cons.mpr ⟨rfl, List.forall_mem_cons.mpr ⟨rfl, List.forall_mem_cons.mpr ⟨rfl, List.forall_mem_cons.mpr ⟨rfl, List.forall_mem_cons.mpr ⟨rfl, List.forall_mem_cons.mpr ⟨rfl, List.forall_mem_cons.mpr ⟨rfl, List.forall_mem_cons.mpr ⟨rfl, List.forall_mem_cons.mpr ⟨rfl, List.forall_mem_cons.mpr ⟨rfl, List.forall_mem_cons.mpr ⟨rfl, List.forall_mem_cons.mpr ⟨rfl, List.forall_mem_cons.mpr ⟨rfl, List.forall_mem_cons.mpr ⟨rfl, List.forall_mem_cons.mpr ⟨rfl, List.forall_mem_cons.mpr ⟨rfl, List.forall_mem_cons.mpr ⟨rfl, List.forall_mem_cons.mpr ⟨rfl, List.forall_mem_cons.mpr ⟨rfl, List.forall_mem_cons.mpr ⟨rfl, List.forall_mem_cons.mpr ⟨rfl, List.forall_mem_cons.mpr ⟨rfl, List.forall_mem_cons.mpr ⟨rfl, List.forall_mem_cons.mpr ⟨rfl, List.forall_mem_cons.mpr ⟨rfl, fun _ h => absurd h List.not_mem_nil⟩⟩⟩⟩⟩⟩⟩⟩⟩⟩⟩⟩⟩⟩⟩⟩⟩⟩⟩⟩⟩⟩⟩⟩⟩
theorem nw_form : ∀ w ∈ nw_all, ∃ (a : String) (i : Nat) (x : MethodName) (h : String), w = Cond.methodLinkNest a i x h := List.forall_mem_cons.mpr ⟨⟨_, _, _, _, rfl⟩, List.forall_mem_cons.mpr ⟨⟨_, _, _, _, rfl⟩, List.forall_mem_cons.mpr ⟨⟨_, _, _, _, rfl⟩, List.forall_mem_cons.mpr ⟨⟨_, _, _, _, rfl⟩, List.forall_mem_cons.mpr ⟨⟨_, _, _, _, rfl⟩, List.forall_mem_cons.mpr ⟨⟨_, _, _, _, rfl⟩, List.forall_mem_cons.mpr ⟨⟨_, _, _, _, rfl⟩, List.forall_mem_cons.mpr ⟨⟨_, _, _, _, rfl⟩, List.forall_mem_cons.mpr ⟨⟨_, _, _, _, rfl⟩, List.forall_mem_cons.mpr ⟨⟨_, _, _, _, rfl⟩, List.forall_mem_cons.mpr ⟨⟨_, _, _, _, rfl⟩, List.forall_mem_cons.mpr ⟨⟨_, _, _, _, rfl⟩, List.forall_mem_cons.mpr ⟨⟨_, _, _, _, rfl⟩, List.forall_mem_cons.mpr ⟨⟨_, _, _, _, rfl⟩, List.forall_mem_cons.mpr ⟨⟨_, _, _, _, rfl⟩, List.forall_mem_cons.mpr ⟨⟨_, _, _, _, rfl⟩, List.forall_mem_cons.mpr ⟨⟨_, _, _, _, rfl⟩, List.forall_mem_cons.mpr ⟨⟨_, _, _, _, rfl⟩, List.forall_mem_cons.mpr ⟨⟨_, _, _, _, rfl⟩, List.forall_mem_cons.mpr ⟨⟨_, _, _, _, rfl⟩, List.forall_mem_cons.mpr ⟨⟨_, _, _, _, rfl⟩, List.forall_mem_cons.mpr ⟨⟨_, _, _, _, rfl⟩, List.forall_mem_cons.mpr ⟨⟨_, _, _, _, rfl⟩, List.forall_mem_cons.mpr ⟨⟨_, _, _, _, rfl⟩, List.forall_mem_cons.mpr ⟨⟨_, _, _, _, rfl⟩, fun _ h => absurd h List.not_mem_nil⟩⟩⟩⟩⟩⟩⟩⟩⟩⟩⟩⟩⟩⟩⟩⟩⟩⟩⟩⟩⟩⟩⟩⟩⟩
/-! ===== the ground of the decompiled functions: memories, binds, the two kinds of contract ===== -/
abbrev Mem : Type := Nat → Nat → Int32
/-- fuel of a loop: far above what any run needs -/
def FU : Nat := 100000
/-- the String constants: their lengths and bytes -/
def slens : List Nat := [2, 3, 5, 4, 4, 4, 4, 3, 4, 5, 5]
def sbyts : List (List Int32) := [[105, 102], [97, 110, 100], [119, 105, 100, 111, 119], [114, 97, 110, 107], [121, 101, 97, 114], [108, 111, 115, 116], [112, 108, 117, 115], [110, 111, 116], [110, 111, 110, 101], [115, 108, 105, 112, 115], [115, 104, 97, 114, 101]]
def slenN (k : Nat) : Nat := slens.getD k 0
def slen (k : Nat) : Int32 := nI (slenN k)
def sch (k i : Nat) : Int32 := (sbyts.getD k []).getD i 0
def upS (C : Mem) (k : Nat) (v : Int32) : Mem := va_up C k (fun _ => v)
def upA (C : Mem) (k : Nat) (i : Int32) (v : Int32) : Mem := va_up C k (upd (C k) i.toNatClampNeg v)
def upR (C : Mem) (k : Nat) (f : Nat → Int32) : Mem := va_up C k f
def bd2 {α β γ : Type} (o : Option (α × β)) (k : α → β → Option γ) : Option γ := o.bind (fun q => k q.1 q.2)
def bd3 {α β δ γ : Type} (o : Option (α × β × δ)) (k : α → β → δ → Option γ) : Option γ := o.bind (fun q => k q.1 q.2.1 q.2.2)
def bd4 {α β δ ε γ : Type} (o : Option (α × β × δ × ε)) (k : α → β → δ → ε → Option γ) : Option γ := o.bind (fun q => k q.1 q.2.1 q.2.2.1 q.2.2.2)
def bd5 {α β δ ε ζ γ : Type} (o : Option (α × β × δ × ε × ζ)) (k : α → β → δ → ε → ζ → Option γ) : Option γ := o.bind (fun q => k q.1 q.2.1 q.2.2.1 q.2.2.2.1 q.2.2.2.2)
def bd6 {α β δ ε ζ η γ : Type} (o : Option (α × β × δ × ε × ζ × η)) (k : α → β → δ → ε → ζ → η → Option γ) : Option γ := o.bind (fun q => k q.1 q.2.1 q.2.2.1 q.2.2.2.1 q.2.2.2.2.1 q.2.2.2.2.2)
def wr {α γ : Type} (x : α) (k : α → Option γ) : Option γ := k x
theorem wr_some {α γ : Type} {x : α} {k : α → Option γ} {c : γ} (h : wr x k = some c) : ∃ y, y = x ∧ k y = some c := ⟨x, rfl, h⟩
theorem bd1_some {α γ : Type} {o : Option α} {k : α → Option γ} {c : γ} (h : o.bind k = some c) : ∃ a, o = some a ∧ k a = some c := by
  cases o with
  | none => cases h
  | some q => exact ⟨q, rfl, h⟩
theorem bd2_some {α β γ : Type} {o : Option (α × β)} {k : α → β → Option γ} {c : γ} (h : bd2 o k = some c) : ∃ a b, o = some (a, b) ∧ k a b = some c := by
  cases o with
  | none => cases h
  | some q => exact ⟨q.1, q.2, rfl, h⟩
theorem bd3_some {α β δ γ : Type} {o : Option (α × β × δ)} {k : α → β → δ → Option γ} {c : γ} (h : bd3 o k = some c) : ∃ a b d, o = some (a, b, d) ∧ k a b d = some c := by
  cases o with
  | none => cases h
  | some q => exact ⟨q.1, q.2.1, q.2.2, rfl, h⟩
theorem bd4_some {α β δ ε γ : Type} {o : Option (α × β × δ × ε)} {k : α → β → δ → ε → Option γ} {c : γ} (h : bd4 o k = some c) : ∃ a b d e, o = some (a, b, d, e) ∧ k a b d e = some c := by
  cases o with
  | none => cases h
  | some q => exact ⟨q.1, q.2.1, q.2.2.1, q.2.2.2, rfl, h⟩
theorem bd5_some {α β δ ε ζ γ : Type} {o : Option (α × β × δ × ε × ζ)} {k : α → β → δ → ε → ζ → Option γ} {c : γ} (h : bd5 o k = some c) : ∃ a b d e f, o = some (a, b, d, e, f) ∧ k a b d e f = some c := by
  cases o with
  | none => cases h
  | some q => exact ⟨q.1, q.2.1, q.2.2.1, q.2.2.2.1, q.2.2.2.2, rfl, h⟩
theorem bd6_some {α β δ ε ζ η γ : Type} {o : Option (α × β × δ × ε × ζ × η)} {k : α → β → δ → ε → ζ → η → Option γ} {c : γ} (h : bd6 o k = some c) : ∃ a b d e f g, o = some (a, b, d, e, f, g) ∧ k a b d e f g = some c := by
  cases o with
  | none => cases h
  | some q => exact ⟨q.1, q.2.1, q.2.2.1, q.2.2.2.1, q.2.2.2.2.1, q.2.2.2.2.2, rfl, h⟩
def bd7 {α β δ ε ζ η θ γ : Type} (o : Option (α × β × δ × ε × ζ × η × θ)) (k : α → β → δ → ε → ζ → η → θ → Option γ) : Option γ := o.bind (fun q => k q.1 q.2.1 q.2.2.1 q.2.2.2.1 q.2.2.2.2.1 q.2.2.2.2.2.1 q.2.2.2.2.2.2)
theorem bd7_some {α β δ ε ζ η θ γ : Type} {o : Option (α × β × δ × ε × ζ × η × θ)} {k : α → β → δ → ε → ζ → η → θ → Option γ} {c : γ} (h : bd7 o k = some c) : ∃ a b d e f g i, o = some (a, b, d, e, f, g, i) ∧ k a b d e f g i = some c := by
  cases o with
  | none => cases h
  | some q => exact ⟨q.1, q.2.1, q.2.2.1, q.2.2.2.1, q.2.2.2.2.1, q.2.2.2.2.2.1, q.2.2.2.2.2.2, rfl, h⟩
def bd8 {α β δ ε ζ η θ ι γ : Type} (o : Option (α × β × δ × ε × ζ × η × θ × ι)) (k : α → β → δ → ε → ζ → η → θ → ι → Option γ) : Option γ := o.bind (fun q => k q.1 q.2.1 q.2.2.1 q.2.2.2.1 q.2.2.2.2.1 q.2.2.2.2.2.1 q.2.2.2.2.2.2.1 q.2.2.2.2.2.2.2)
theorem bd8_some {α β δ ε ζ η θ ι γ : Type} {o : Option (α × β × δ × ε × ζ × η × θ × ι)} {k : α → β → δ → ε → ζ → η → θ → ι → Option γ} {c : γ} (h : bd8 o k = some c) : ∃ a b d e f g i j, o = some (a, b, d, e, f, g, i, j) ∧ k a b d e f g i j = some c := by
  cases o with
  | none => cases h
  | some q => exact ⟨q.1, q.2.1, q.2.2.1, q.2.2.2.1, q.2.2.2.2.1, q.2.2.2.2.2.1, q.2.2.2.2.2.2.1, q.2.2.2.2.2.2.2, rfl, h⟩
theorem pj2 {α β : Type} {a a' : α} {b b' : β} (h : some (a, b) = some (a', b')) : a = a' ∧ b = b' := Prod.mk.inj (Option.some.inj h)
theorem pj3 {α β γ : Type} {a a' : α} {b b' : β} {c c' : γ} (h : some (a, b, c) = some (a', b', c')) : a = a' ∧ b = b' ∧ c = c' := ⟨(Prod.mk.inj (Option.some.inj h)).1, Prod.mk.inj (Prod.mk.inj (Option.some.inj h)).2⟩
theorem pj4 {α β γ δ : Type} {a a' : α} {b b' : β} {c c' : γ} {d d' : δ} (h : some (a, b, c, d) = some (a', b', c', d')) : a = a' ∧ b = b' ∧ c = c' ∧ d = d' := ⟨(Prod.mk.inj (Option.some.inj h)).1, pj3 (congrArg some (Prod.mk.inj (Option.some.inj h)).2)⟩
theorem pj5 {α β γ δ ε : Type} {a a' : α} {b b' : β} {c c' : γ} {d d' : δ} {e e' : ε} (h : some (a, b, c, d, e) = some (a', b', c', d', e')) : a = a' ∧ b = b' ∧ c = c' ∧ d = d' ∧ e = e' := ⟨(Prod.mk.inj (Option.some.inj h)).1, pj4 (congrArg some (Prod.mk.inj (Option.some.inj h)).2)⟩
theorem pj6 {α β γ δ ε ζ : Type} {a a' : α} {b b' : β} {c c' : γ} {d d' : δ} {e e' : ε} {f f' : ζ} (h : some (a, b, c, d, e, f) = some (a', b', c', d', e', f')) : a = a' ∧ b = b' ∧ c = c' ∧ d = d' ∧ e = e' ∧ f = f' := ⟨(Prod.mk.inj (Option.some.inj h)).1, pj5 (congrArg some (Prod.mk.inj (Option.some.inj h)).2)⟩
theorem pj7 {α β δ ε ζ η θ : Type} {a a' : α} {b b' : β} {d d' : δ} {e e' : ε} {f f' : ζ} {g g' : η} {i i' : θ} (h : some (a, b, d, e, f, g, i) = some (a', b', d', e', f', g', i')) : a = a' ∧ b = b' ∧ d = d' ∧ e = e' ∧ f = f' ∧ g = g' ∧ i = i' := ⟨(Prod.mk.inj (Option.some.inj h)).1, pj6 (congrArg some (Prod.mk.inj (Option.some.inj h)).2)⟩
theorem pj8 {α β δ ε ζ η θ ι : Type} {a a' : α} {b b' : β} {d d' : δ} {e e' : ε} {f f' : ζ} {g g' : η} {i i' : θ} {j j' : ι} (h : some (a, b, d, e, f, g, i, j) = some (a', b', d', e', f', g', i', j')) : a = a' ∧ b = b' ∧ d = d' ∧ e = e' ∧ f = f' ∧ g = g' ∧ i = i' ∧ j = j' := ⟨(Prod.mk.inj (Option.some.inj h)).1, pj7 (congrArg some (Prod.mk.inj (Option.some.inj h)).2)⟩
theorem if_no {α : Type} {c : Prop} [Decidable c] {k : Option α} {r : α} (h : (if c then none else k) = some r) : ¬ c := fun hc => by rw [if_pos hc] at h; cases h
theorem if_yes {α : Type} {c : Prop} [Decidable c] {k : Option α} {r : α} (h : (if c then k else none) = some r) : c := Decidable.byContradiction (fun hc => by rw [if_neg hc] at h; cases h)
theorem nar_b {v : Int32} (h : v = 0 ∨ v = 1) : narrow .boolean (.int v) = .int v := by
  rcases h with rfl | rfl <;> rfl
theorem fit_b {v : Int32} (h : v = 0 ∨ v = 1) : fits .boolean (.int v) = true := by
  rcases h with rfl | rfl <;> rfl
/-- the links to private members of nest mates -/
def nw_ok (U : State) : Prop := ∀ w ∈ nw_all, va_Nw w U
theorem nw_same {u U : State} (h : u.vm = U.vm) (hN : nw_ok u) : nw_ok U := fun w hw => va_Nw.same (nw_tab w hw) h (hN w hw)
theorem nw_warm {s U : State} (hW : s.WarmedH U.vm) (hN : nw_ok s) : nw_ok U := by
  intro w hw
  obtain ⟨a, i, x, h, rfl⟩ := nw_form w hw
  exact va_Nw.warmM hW (hN _ hw)
abbrev tys4 (cyB cyI cyZ cyO : ClassId) : List (ClassId × FieldType) := [(cyB, .byte), (cyI, .int), (cyZ, .boolean), (cyO, .object RX7)]
def Cx (dC : Nat → ClassId) (dI : Nat → Nat → Nat) (cyB cyI cyZ cyO : ClassId) (U : State) : Prop := va_K (dC, dI) vwCl (tys4 cyB cyI cyZ cyO) U ∧ nw_ok U
theorem Cx.warm {dC : Nat → ClassId} {dI : Nat → Nat → Nat} {cyB cyI cyZ cyO : ClassId} {s U : State} (h : Cx dC dI cyB cyI cyZ cyO s) (hW : s.WarmedH U.vm) : Cx dC dI cyB cyI cyZ cyO U := ⟨va_K.moved hW.alike h.1, nw_warm hW h.2⟩
theorem Cx.calling {dC : Nat → ClassId} {dI : Nat → Nat → Nat} {cyB cyI cyZ cyO : ClassId} {U : State} (h : Cx dC dI cyB cyI cyZ cyO U) (g : JFrame) (mk : MethodId) (a : Array Value) : Cx dC dI cyB cyI cyZ cyO (U.calling g mk a) := ⟨va_K.moved (u := U) (U := U.calling g mk a) (Vm.Alike.refl U.vm) h.1, nw_same (u := U) (U := U.calling g mk a) rfl h.2⟩
/-- the start of a method that only reads -/
def PR (dC : Nat → ClassId) (dI : Nat → Nat → Nat) (cyB cyI cyZ cyO : ClassId) (av : List Value) (w : va_W) : Array Value → State → Prop := va_Pc av (fun U => va_P (dC, dI) vwCl w U.heap ∧ Cx dC dI cyB cyI cyZ cyO U)
theorem PR.blind {dC : Nat → ClassId} {dI : Nat → Nat → Nat} {cyB cyI cyZ cyO : ClassId} {av : List Value} {w : va_W} : FrameBlind (PR dC dI cyB cyI cyZ cyO av w) := fun a _ g mk q => ⟨q.1, q.2.1, q.2.2.calling g mk a⟩
/-- its end: the answer is v, the heap is as it was -/
def QR (v : Option Value) : Array Value → State → Outcome → State → Prop := fun _ st o t => o = .returned v ∧ t.heap = st.heap
/-- the start of a method that writes -/
def PW (dC : Nat → ClassId) (dI : Nat → Nat → Nat) (cyB cyI cyZ cyO : ClassId) (av : List Value) (w : va_W) (sz : Nat) : Array Value → State → Prop := va_Pc av (fun U => U.heap.size = sz ∧ va_P (dC, dI) vwCl w U.heap ∧ Cx dC dI cyB cyI cyZ cyO U ∧ va_D (fun _ => True) w)
theorem PW.blind {dC : Nat → ClassId} {dI : Nat → Nat → Nat} {cyB cyI cyZ cyO : ClassId} {av : List Value} {w : va_W} {sz : Nat} : FrameBlind (PW dC dI cyB cyI cyZ cyO av w sz) := fun a _ g mk q => ⟨q.1, q.2.1, q.2.2.1, q.2.2.2.1.calling g mk a, q.2.2.2.2⟩
/-- its end: the answer is v, its world is w', what isn't of A stays -/
def QW (dC : Nat → ClassId) (dI : Nat → Nat → Nat) (v : Option Value) (w' : va_W) (A : Nat → Prop) : Array Value → State → Outcome → State → Prop := fun _ st o t => o = .returned v ∧ va_P (dC, dI) vwCl w' t.heap ∧ va_D A w' ∧ va_F A st t
section MyCalls
variable {p : Program} {l : Launch} {e : Env} {R : Room} {s : State} {m : MethodId} {args : Array Value} {below : List Frame} {meth : Method} {c : Code} {H : Heap} {locs : List Loc} {cells slots : Nat} {Q : State → Prop} {pc : Nat} {ls : Array Slot} {rest st0 : List Value} {a : Array Value}
theorem ro_call {v : Option Value} {free : Addr → Prop} (hfree : ∀ q, ¬ free q) (hr : va_Run p l e R s m args below meth c H locs cells slots 0 0 (F0 m pc ls st0) rest (QR v a) free)
    (kk : W p l e R s m args below meth c H locs cells slots Q (F0 m (pc + 3) ls (v.toList ++ rest))) : W p l e R s m args below meth c H locs cells slots Q (F0 m pc ls st0) := by
  intro T hT X
  obtain ⟨v', st₀, t, T', L, h0, X', hL, e1, e2, ⟨hv, hh⟩, st⟩ := hr T hT X
  cases hv
  have hnil : L = [] := List.eq_nil_iff_forall_not_mem.mpr (fun q hq => hfree _ (hL q hq))
  subst hnil
  rw [List.append_nil] at X'
  obtain ⟨t2, a1, b1⟩ := kk T' (by rw [e1, hh, h0]) X'
  exact ⟨t2, st t2 a1, b1⟩
theorem ro_calli {r : Int32} (hr : va_Run p l e R s m args below meth c H locs cells slots 0 0 (F0 m pc ls st0) rest (QR (some (.int r)) a) (fun _ => False))
    (kk : W p l e R s m args below meth c H locs cells slots Q (F0 m (pc + 3) ls (.int r :: rest))) : W p l e R s m args below meth c H locs cells slots Q (F0 m pc ls st0) := ro_call (fun _ h => h) hr kk
theorem ro_calll {r : Int64} (hr : va_Run p l e R s m args below meth c H locs cells slots 0 0 (F0 m pc ls st0) rest (QR (some (.long r)) a) (fun _ => False))
    (kk : W p l e R s m args below meth c H locs cells slots Q (F0 m (pc + 3) ls (.long r :: rest))) : W p l e R s m args below meth c H locs cells slots Q (F0 m pc ls st0) := ro_call (fun _ h => h) hr kk
theorem fm_of {α : Type} {X : List α} {is : List Nat} {w : List α} (h : is.map (fun i => X[i]?) = w.map some) : is.filterMap (fun i => X[i]?) = w := by
  have e1 : is.filterMap (fun i => X[i]?) = (is.map (fun i => X[i]?)).filterMap id := by rw [List.filterMap_map]; rfl
  rw [e1, h, List.filterMap_map]
  exact List.filterMap_some
variable {dC : Nat → ClassId} {dI : Nat → Nat → Nat} {A0 : Nat → Prop} {H0 : Heap} {mc ms : Nat} {ws wc wr w1 ws' : va_W}
theorem wr_call {v : Option Value} (hP : va_P (dC, dI) vwCl ws H) (hD : va_D A0 ws) (hS : va_S A0 H0 H locs) (hA : ∀ q, H0.size ≤ q → A0 q)
    (isC isR pm : List Nat) (hC : isC.map (fun i => ws[i]?) = wc.map some) (hR : isR.map (fun i => ws[i]?) = wr.map some) (hn : va_nd isR = true) (hdis : ∀ i ∈ isR, i ∉ isC) (hp : pm.map (fun i => (wr ++ w1)[i]?) = ws'.map some) (hnp : va_nd pm = true)
    (hr : va_Run p l e R s m args below meth c H locs cells slots mc ms (F0 m pc ls st0) rest (QW dC dI v w1 (va_A wc H.size) a) (va_A wc H.size))
    (kk : ∀ (H1 : Heap) (locs1 : List Loc), va_P (dC, dI) vwCl ws' H1 → va_D A0 ws' → va_S A0 H0 H1 locs1 → W p l e R s m args below meth c H1 locs1 (cells + mc) (slots + ms) Q (F0 m (pc + 3) ls (v.toList ++ rest))) : W p l e R s m args below meth c H locs cells slots Q (F0 m pc ls st0) := by
  intro T hT X
  have hF := va_free (wc := wc) hD hS hA isC hC
  obtain ⟨v', st₀, t, T', L, h0, X', hL, e1, e2, ⟨hv, hP1, hD1, hz, hk⟩, st⟩ := hr T hT X
  cases hv
  rw [h0] at hz hk
  have hj := va_join hP hD isC isR hC hR hn hdis hk hF hP1 hD1
  obtain ⟨t2, a1, b1⟩ := kk T'.heap (locs ++ L) (by rw [e1]; exact hj.1.sub pm (fm_of hp)) (hj.2.sub pm hnp hp)
    ⟨Nat.le_trans hS.1 (by rw [e1]; exact hz), fun q h1 h2 => by rw [e1, hk q (Nat.lt_of_lt_of_le h1 hS.1) (fun z => h2 (hF q z))]; exact hS.2.1 q h1 h2, fun q hq => by
      rcases List.mem_append.mp hq with h | h
      · exact hS.2.2 q h
      · exact hF _ (hL q h)⟩ T' rfl X'
  exact ⟨t2, st t2 a1, b1⟩
theorem wr_calli {r : Int32} (hP : va_P (dC, dI) vwCl ws H) (hD : va_D A0 ws) (hS : va_S A0 H0 H locs) (hA : ∀ q, H0.size ≤ q → A0 q)
    (isC isR pm : List Nat) (hC : isC.map (fun i => ws[i]?) = wc.map some) (hR : isR.map (fun i => ws[i]?) = wr.map some) (hn : va_nd isR = true) (hdis : ∀ i ∈ isR, i ∉ isC) (hp : pm.map (fun i => (wr ++ w1)[i]?) = ws'.map some) (hnp : va_nd pm = true)
    (hr : va_Run p l e R s m args below meth c H locs cells slots 0 0 (F0 m pc ls st0) rest (QW dC dI (some (.int r)) w1 (va_A wc H.size) a) (va_A wc H.size))
    (kk : ∀ (H1 : Heap) (locs1 : List Loc), va_P (dC, dI) vwCl ws' H1 → va_D A0 ws' → va_S A0 H0 H1 locs1 → W p l e R s m args below meth c H1 locs1 cells slots Q (F0 m (pc + 3) ls (.int r :: rest))) : W p l e R s m args below meth c H locs cells slots Q (F0 m pc ls st0) := wr_call hP hD hS hA isC isR pm hC hR hn hdis hp hnp hr kk
theorem wr_callv (hP : va_P (dC, dI) vwCl ws H) (hD : va_D A0 ws) (hS : va_S A0 H0 H locs) (hA : ∀ q, H0.size ≤ q → A0 q)
    (isC isR pm : List Nat) (hC : isC.map (fun i => ws[i]?) = wc.map some) (hR : isR.map (fun i => ws[i]?) = wr.map some) (hn : va_nd isR = true) (hdis : ∀ i ∈ isR, i ∉ isC) (hp : pm.map (fun i => (wr ++ w1)[i]?) = ws'.map some) (hnp : va_nd pm = true)
    (hr : va_Run p l e R s m args below meth c H locs cells slots 0 0 (F0 m pc ls st0) rest (QW dC dI none w1 (va_A wc H.size) a) (va_A wc H.size))
    (kk : ∀ (H1 : Heap) (locs1 : List Loc), va_P (dC, dI) vwCl ws' H1 → va_D A0 ws' → va_S A0 H0 H1 locs1 → W p l e R s m args below meth c H1 locs1 cells slots Q (F0 m (pc + 3) ls rest)) : W p l e R s m args below meth c H locs cells slots Q (F0 m pc ls st0) := wr_call hP hD hS hA isC isR pm hC hR hn hdis hp hnp hr kk
end MyCalls
/-! ===== the worlds, an object each ===== -/
def wX0 (cyB cyI cyZ cyO : ClassId) (h h_owner h_size h_weight h_worth h_level h_holder h_side h_planned : Nat) (M : Mem) : va_W := [(h, .inr (0, [.int (M 0 0), .ref h_owner, .ref h_size, .ref h_weight, .ref h_worth, .ref h_level, .ref h_holder, .ref h_side, .int (M 8 0), .ref h_planned])), (h_owner, .inl (cyI, 12, .inl (M 1))), (h_size, .inl (cyI, 12, .inl (M 2))), (h_weight, .inl (cyI, 12, .inl (M 3))), (h_worth, .inl (cyI, 12, .inl (M 4))), (h_level, .inl (cyI, 12, .inl (M 5))), (h_holder, .inl (cyI, 12, .inl (M 6))), (h_side, .inl (cyI, 12, .inl (M 7))), (h_planned, .inl (cyI, 12, .inl (M 9)))]
def wX1 (cyB cyI cyZ cyO : ClassId) (h h_bale h_owner h_room h_value h_weight h_roomFrom h_valueFrom h_weightFrom h_free h_side h_bestSide : Nat) (M : Mem) : va_W := [(h, .inr (1, [.int (M 0 0), .ref h_bale, .ref h_owner, .ref h_room, .ref h_value, .ref h_weight, .ref h_roomFrom, .ref h_valueFrom, .ref h_weightFrom, .ref h_free, .ref h_side, .ref h_bestSide, .int (M 12 0), .int (M 13 0), .int (M 14 0), .int (M 15 0), .int (M 16 0)])), (h_bale, .inl (cyI, 12, .inl (M 1))), (h_owner, .inl (cyI, 12, .inl (M 2))), (h_room, .inl (cyI, 12, .inl (M 3))), (h_value, .inl (cyI, 12, .inl (M 4))), (h_weight, .inl (cyI, 12, .inl (M 5))), (h_roomFrom, .inl (cyI, 13, .inl (M 6))), (h_valueFrom, .inl (cyI, 13, .inl (M 7))), (h_weightFrom, .inl (cyI, 13, .inl (M 8))), (h_free, .inl (cyI, 8, .inl (M 9))), (h_side, .inl (cyI, 12, .inl (M 10))), (h_bestSide, .inl (cyI, 12, .inl (M 11)))]
def wX2 (cyB cyI cyZ cyO : ClassId) (h h_rank h_widow h_slips h_given h_silver h_returns h_rents h_share h_rest : Nat) (M : Mem) : va_W := [(h, .inr (2, [.int (M 0 0), .ref h_rank, .ref h_widow, .ref h_slips, .ref h_given, .ref h_silver, .ref h_returns, .ref h_rents, .ref h_share, .ref h_rest])), (h_rank, .inl (cyI, 8, .inl (M 1))), (h_widow, .inl (cyI, 8, .inl (M 2))), (h_slips, .inl (cyI, 8, .inl (M 3))), (h_given, .inl (cyI, 8, .inl (M 4))), (h_silver, .inl (cyI, 8, .inl (M 5))), (h_returns, .inl (cyI, 8, .inl (M 6))), (h_rents, .inl (cyI, 8, .inl (M 7))), (h_share, .inl (cyI, 8, .inl (M 8))), (h_rest, .inl (cyI, 8, .inl (M 9)))]
def wX3 (cyB cyI cyZ cyO : ClassId) (h h_action h_amount h_tests h_negated h_subject h_sign h_limit : Nat) (M : Mem) : va_W := [(h, .inr (3, [.int (M 0 0), .ref h_action, .ref h_amount, .ref h_tests, .ref h_negated, .ref h_subject, .ref h_sign, .ref h_limit])), (h_action, .inl (cyI, 16, .inl (M 1))), (h_amount, .inl (cyI, 16, .inl (M 2))), (h_tests, .inl (cyI, 16, .inl (M 3))), (h_negated, .inl (cyI, 64, .inl (M 4))), (h_subject, .inl (cyI, 64, .inl (M 5))), (h_sign, .inl (cyI, 64, .inl (M 6))), (h_limit, .inl (cyI, 64, .inl (M 7)))]
def wX4 (cyB cyI cyZ cyO : ClassId) (h h_at h_text : Nat) (M : Mem) : va_W := [(h, .inr (4, [.ref h_at, .ref h_text, .int (M 2 0), .int (M 3 0), .int (M 4 0), .int (M 5 0), .int (M 6 0), .int (M 7 0), .int (M 8 0), .int (M 9 0), .int (M 10 0), .int (M 11 0)]))]
def wX5 (cyB cyI cyZ cyO : ClassId) (h h_lender h_borrower h_sum h_percent : Nat) (M : Mem) : va_W := [(h, .inr (5, [.int (M 0 0), .ref h_lender, .ref h_borrower, .ref h_sum, .ref h_percent])), (h_lender, .inl (cyI, 20, .inl (M 1))), (h_borrower, .inl (cyI, 20, .inl (M 2))), (h_sum, .inl (cyI, 20, .inl (M 3))), (h_percent, .inl (cyI, 20, .inl (M 4)))]
def wX6 (cyB cyI cyZ cyO : ClassId) (h : Nat) (M : Mem) : va_W := [(h, .inr (6, [.int (M 0 0), .int (M 1 0), .int (M 2 0), .int (M 3 0)]))]
def wX7 (cyB cyI cyZ cyO : ClassId) (h h_tape h_law h_people h_rules h_cargo h_debts h_ledger : Nat) (M : Mem) : va_W := [(h, .inr (7, [.ref h_tape, .ref h_law, .ref h_people, .ref h_rules, .ref h_cargo, .ref h_debts, .ref h_ledger, .int (M 7 0), .int (M 8 0), .int (M 9 0), .int (M 10 0), .int (M 11 0), .int (M 12 0), .int (M 13 0)]))]
def wX8 (cyB cyI cyZ cyO : ClassId) (h h_bytes : Nat) (M : Mem) : va_W := [(h, .inr (8, [.ref h_bytes, .int (M 1 0)])), (h_bytes, .inl (cyB, 400, .inl (M 0)))]
def wX9 (cyB cyI cyZ cyO : ClassId) (h h_tape : Nat) (M : Mem) : va_W := [(h, .inr (9, [.ref h_tape, .int (M 1 0), .int (M 2 0), .int (M 3 0), .int (M 4 0)]))]
def wX10 (cyB cyI cyZ cyO : ClassId) (h h_cells : Nat) (M : Mem) : va_W := [(h, .inr (10, [.ref h_cells])), (h_cells, .inl (cyI, 1791, .inl (M 0)))]
def wX11 (cyB cyI cyZ cyO : ClassId) (h h_now h_images h_reader h_search : Nat) : va_W := [(h, .inr (11, [.ref h_now, .ref h_images, .ref h_reader, .ref h_search]))]
def wX12 (cyB cyI cyZ cyO : ClassId) (h h_all h_has h_read h_test h_rest h_gets h_waits h_way h_good h_left : Nat) (M : Mem) : va_W := [(h, .inr (12, [.ref h_all, .ref h_has, .int (M 2 0), .int (M 3 0), .int (M 4 0), .int (M 5 0), .int (M 6 0), .int (M 7 0), .int (M 8 0), .int (M 9 0), .int (M 10 0), .ref h_read, .ref h_test, .ref h_rest, .ref h_gets, .ref h_waits, .ref h_way, .ref h_good, .ref h_left, .int (M 19 0), .int (M 20 0)])), (h_all, .inl (cyI, 11160, .inl (M 0))), (h_has, .inl (cyZ, 3, .inl (M 1))), (h_read, .inl (cyI, 304, .inl (M 11))), (h_test, .inl (cyI, 4, .inl (M 12))), (h_rest, .inl (cyI, 8, .inl (M 13))), (h_gets, .inl (cyI, 8, .inl (M 14))), (h_waits, .inl (cyI, 12, .inl (M 15))), (h_way, .inl (cyI, 12, .inl (M 16))), (h_good, .inl (cyI, 12, .inl (M 17))), (h_left, .inl (cyI, 8, .inl (M 18)))]
def rowc (n : Nat) (f g : Nat → Int32) : Nat → Int32 := va_cpy f g 0 0 n
set_option maxHeartbeats 4000000 in
set_option maxRecDepth 100000 in
theorem c_X11_copyRow (l : Launch) (dC : Nat → ClassId) (dI : Nat → Nat → Nat) (cyB cyI cyZ cyO : ClassId) (a b : Nat) (sz n : Nat) (f g : Nat → Int32) (hn : n < 2147483648) : Met l yX11_copyRow wsX11_copyRow ({ frames := 1, cells := 0, slots := 0, locals := 60 } : Room) (PW dC dI cyB cyI cyZ cyO ([.ref a, .ref b] : List Value) ([(a, .inl (cyI, n, .inl f)), (b, .inl (cyI, n, .inl g))] : va_W) sz) (QW dC dI none ([(a, .inl (cyI, n, .inl f)), (b, .inl (cyI, n, .inl (rowc n f g)))] : va_W) (va_A ([(a, .inl (cyI, n, .inl f)), (b, .inl (cyI, n, .inl g))] : va_W) sz)) 0 0 (va_A ([(a, .inl (cyI, n, .inl f)), (b, .inl (cyI, n, .inl g))] : va_W) sz) := by
  refine Met.ofW (cc := cX11_copyRow) (maxL := 2) (ret := none) (by decide) rfl ?_
  intro p e s m args below meth c s₁ B hml hv
  obtain ⟨rfl, hsz, hP, hCx, hD0⟩ := hv
  have hK := hCx.1
  have hx := B.exec
  have hb := B.bytes
  have hr := B.returns
  have hts := atoms_spec (ws := wsX11_copyRow) B.pre
  have hown : s.vm.findClass RX11 = some m.cls := findClass_of_methodNamed B.named
  have hlocks := B.notSynchronized
  subst hsz
  have hD := hD0.self (sz := s.heap.size)
  generalize hAe : va_A ([(a, .inl (cyI, n, .inl f)), (b, .inl (cyI, n, .inl g))] : va_W) s.heap.size = A at hD ⊢
  have hA : ∀ q : Nat, s.heap.size ≤ q → A q := fun q h => by rw [← hAe]; exact Or.inr h
  have hS : va_S A s.heap s.heap [] := va_S.rf
  have hl := lv_entry ([.ref a, .ref b] : List Value) (n := 2) (Nat.le_of_ble_eq_true rfl)
  rw [lg_entry_eq]
  generalize (lg_sl ([.ref a, .ref b] : List Value) ++ List.replicate (2 - (lg_sl ([.ref a, .ref b] : List Value)).length) Slot.unset).toArray = ls at hl ⊢
  have hl : lv_has ls 2 [(0, .ref a), (1, .ref b)] := hl
  refine lv_aload_n hx hb dX11_copyRow_0 rfl (lv_at hl 0 rfl) ?_
  refine lv_iconst (v := (0 : Int32)) hx hb dX11_copyRow_1 (by decide) ?_
  refine lv_aload_n hx hb dX11_copyRow_2 rfl (lv_at hl 1 rfl) ?_
  refine lv_iconst (v := (0 : Int32)) hx hb dX11_copyRow_3 (by decide) ?_
  refine lv_aload_n hx hb dX11_copyRow_4 rfl (lv_at hl 0 rfl) ?_
  refine va_alen (v := nI n) hx hb hK hP 0 1 rfl rfl rfl dX11_copyRow_5 ?_
  refine lv_aload_n hx hb dX11_copyRow_6 rfl (lv_at hl 1 rfl) ?_
  refine va_alen (v := nI n) hx hb hK hP 1 1 rfl rfl rfl dX11_copyRow_7 ?_
  refine va_mmin hx hb (hml.trans hl.1.symm) hown (hts (.methodLink RX11 272 Lib.Math.min.name) (by decide +kernel)) (hts (.static Lib.Math.min.name) (by decide +kernel)) (hts (.initialized "java/lang/Math") (by decide +kernel)) (hts (.code Lib.Math.min.name Lib.Math.min.code 2 (some .int)) (by decide +kernel)) (Nat.le_of_ble_eq_true rfl) (Nat.le_of_ble_eq_true rfl) (Nat.zero_le _) (Nat.zero_le _) dX11_copyRow_8 ?_
  rw [show (if nI n < nI n then nI n else nI n) = nI n from ite_self _]
  refine va_copyi hx hb (hml.trans hl.1.symm) hown (hts (.methodLink RX11 277 arraycopyName) (by decide +kernel)) (hts (.native arraycopyName) (by decide +kernel)) (hts (.static arraycopyName) (by decide +kernel)) (hts (.initialized "java/lang/System") (by decide +kernel)) hK hP hD hS 0 1 1 1 rfl rfl rfl rfl rfl (by decide) (by decide) (nI_pos hn) (by rw [nI_clamp hn]; exact Nat.le_of_eq (Nat.zero_add n)) (by rw [nI_clamp hn]; exact Nat.le_of_eq (Nat.zero_add n)) (fun i hi => rfl) (Nat.le_of_ble_eq_true rfl) (Nat.le_of_ble_eq_true rfl) dX11_copyRow_11 (fun H locs hP hD hS => ?_)
  rw [nI_clamp hn] at hP hD
  exact W.vret hx hb hr (fun t ht hW => ⟨rfl, by rw [ht]; exact hP, hD, hS.F ht⟩) hS.2.2 dX11_copyRow_14
