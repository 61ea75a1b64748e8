/-! ===== the relation between the object's memories and the reference's row ===== -/
def RNum (yr : Nat) (Z U : Mem) (A : Nat → Int32) : Prop :=
  yr ≤ 199 ∧ Z 9 0 = nI yr ∧ A 0 = nI yr ∧ (Z 10 0 = 0 ∨ Z 10 0 = 1) ∧ A 1 = Z 10 0 ∧ (∃ g : Nat, g ≤ 400 ∧ Z 11 0 = nI g) ∧ A 2 = Z 11 0 ∧ A 6 = Z 12 0 ∧ A 13 = Z 7 0 ∧ A 14 = Z 8 0 ∧ A 15 = Z 13 0 ∧
  A 8 = U 0 0 ∧ A 9 = U 1 0 ∧ A 10 = U 2 0 ∧ A 11 = U 3 0 ∧ (∃ z : Nat, z ≤ 2400 ∧ U 0 0 = nI z) ∧ (∃ z : Nat, z ≤ 2400 ∧ U 1 0 = nI z) ∧ (∃ z : Nat, z ≤ 12000 ∧ U 2 0 = nI z) ∧ (∃ z : Nat, z ≤ 9 ∧ U 3 0 = nI z)
def RCit (nc : Nat) (P : Mem) (A : Nat → Int32) : Prop :=
  nc ≤ 8 ∧ P 0 0 = nI nc ∧ A 3 = nI nc ∧ (∀ c, c < nc → A (20 + 8 * c) = P 1 c ∧ A (20 + 8 * c + 1) = P 2 c ∧ A (20 + 8 * c + 2) = P 3 c ∧ A (20 + 8 * c + 3) = P 4 c ∧ A (20 + 8 * c + 4) = P 5 c ∧ A (20 + 8 * c + 5) = P 6 c ∧ A (20 + 8 * c + 6) = P 7 c) ∧ (∀ c, nc ≤ c → c < 8 → P 3 c = 0 ∧ P 4 c = 0 ∧ P 5 c = 0 ∧ P 6 c = 0 ∧ P 7 c = 0)
def BalOK (nc : Nat) (C : Mem) (b : Nat) : Prop :=
  (∃ z : Nat, z < nc ∧ C 1 b = nI z) ∧ (∃ z : Nat, 1 ≤ z ∧ z ≤ 40 ∧ C 2 b = nI z) ∧ (∃ z : Nat, 1 ≤ z ∧ z ≤ 200 ∧ C 3 b = nI z) ∧ (∃ z : Nat, 1 ≤ z ∧ z ≤ 1000 ∧ C 4 b = nI z) ∧ (∃ z : Nat, z ≤ 3 ∧ C 5 b = nI z) ∧ ((C 6 b = -1 ∧ C 7 b = -1) ∨ ((∃ z : Nat, z < nc ∧ C 6 b = nI z) ∧ (C 7 b = 0 ∨ C 7 b = 1))) ∧ (C 9 b = 0 ∨ C 9 b = 1 ∨ C 9 b = 2)
def RBal (nb nc : Nat) (C : Mem) (A : Nat → Int32) : Prop :=
  nb ≤ 12 ∧ C 0 0 = nI nb ∧ A 4 = nI nb ∧ A 16 = C 8 0 ∧ (C 8 0 = 0 ∨ C 8 0 = 1) ∧ (∀ b, b < nb → (A (90 + 9 * b) = C 1 b ∧ A (90 + 9 * b + 1) = C 2 b ∧ A (90 + 9 * b + 2) = C 3 b ∧ A (90 + 9 * b + 3) = C 4 b ∧ A (90 + 9 * b + 4) = C 5 b ∧ A (90 + 9 * b + 5) = C 6 b ∧ A (90 + 9 * b + 6) = C 7 b ∧ A (90 + 9 * b + 7) = C 9 b)) ∧ (∀ b, b < nb → BalOK nc C b)
def RLoan (nl nc : Nat) (B : Mem) (A : Nat → Int32) : Prop :=
  nl ≤ 20 ∧ B 0 0 = nI nl ∧ A 5 = nI nl ∧ (∀ k, k < nl → A (200 + 4 * k) = B 1 k ∧ A (200 + 4 * k + 1) = B 2 k ∧ A (200 + 4 * k + 2) = B 3 k ∧ A (200 + 4 * k + 3) = B 4 k) ∧ (∀ k, k < nl → (∃ z : Nat, z < nc ∧ B 1 k = nI z) ∧ (∃ z : Nat, z < nc ∧ B 2 k = nI z))
def RBook (yr : Nat) (Y : Mem) (A : Nat → Int32) : Prop :=
  (∀ i, i < 9 * yr → A (280 + i) = Y 0 i) ∧ (∀ i, 9 * yr ≤ i → i < 1791 → Y 0 i = 0)
def RLine (D : Mem) (A : Nat → Int32) (k : Nat) : Prop :=
  (∃ t : Nat, t ≤ 4 ∧ D 3 k = nI t ∧ A (2080 + 19 * k) = nI t ∧ ∀ i, i < t → A (2080 + 19 * k + 1 + 4 * i) = D 4 (4 * k + i) ∧ A (2080 + 19 * k + 1 + 4 * i + 1) = D 5 (4 * k + i) ∧ A (2080 + 19 * k + 1 + 4 * i + 2) = D 6 (4 * k + i) ∧ A (2080 + 19 * k + 1 + 4 * i + 3) = D 7 (4 * k + i) ∧ (D 4 (4 * k + i) = 0 ∨ D 4 (4 * k + i) = 1) ∧ (∃ z : Nat, 1 ≤ z ∧ z ≤ 5 ∧ D 5 (4 * k + i) = nI z)) ∧
  ((D 1 k = 6 ∧ A (2080 + 19 * k + 17) = 20) ∨ (D 1 k = 7 ∧ A (2080 + 19 * k + 17) = 21) ∨ (D 1 k = 8 ∧ A (2080 + 19 * k + 17) = 22)) ∧ A (2080 + 19 * k + 18) = D 2 k ∧ (∃ z : Nat, z ≤ 999 ∧ D 2 k = nI z)
def RLaw (D : Mem) (A : Nat → Int32) : Prop := ∃ n : Nat, n ≤ 16 ∧ D 0 0 = nI n ∧ A 7 = nI n ∧ ∀ k, k < n → RLine D A k
def RTape (tp : Nat) (T : Mem) (A : Nat → Int32) : Prop :=
  tp ≤ 400 ∧ T 1 0 = nI tp ∧ A 12 = nI tp ∧ (∀ i, i < tp → A (2390 + i) = T 0 i &&& 255) ∧ (∀ i, i < 400 → (T 0 i).toInt8.toInt32 = T 0 i)
def RelN (yr nc nb nl tp : Nat) (ν : Nat → Mem) (A : Nat → Int32) : Prop :=
  RNum yr (ν 0) (ν 6) A ∧ RBal nb nc (ν 1) A ∧ RLoan nl nc (ν 2) A ∧ RLaw (ν 3) A ∧ RBook yr (ν 4) A ∧ RCit nc (ν 5) A ∧ RTape tp (ν 7) A
def RelS (ν : Nat → Mem) (A : Nat → Int32) : Prop := ∃ yr nc nb nl tp, RelN yr nc nb nl tp ν A
def RImg (I : Nat → Option (Nat → Mem)) (M : Mem) : Prop :=
  (∀ k, k < 3 → M 1 k = if (I k).isSome then 1 else 0) ∧ ∀ k ν, k < 3 → I k = some ν → RelS ν (fun i => M 0 (2790 * (k + 1) + i))
def Rel0 : RelT := fun μ I M => RelS μ (M 0) ∧ RImg I M
/-! ===== the same row where a part reads it ===== -/
theorem RNum.cg {yr : Nat} {Z U : Mem} {A A' : Nat → Int32} (h : RNum yr Z U A) (e : ∀ i ∈ [0, 1, 2, 6, 8, 9, 10, 11, 13, 14, 15], A' i = A i) : RNum yr Z U A' := by
  obtain ⟨h0, h1, h2, h3, h4, h5, h6, h7, h8, h9, h10, h11, h12, h13, h14, h15⟩ := h
  exact ⟨h0, h1, (e 0 (by decide)).trans h2, h3, (e 1 (by decide)).trans h4, h5, (e 2 (by decide)).trans h6, (e 6 (by decide)).trans h7, (e 13 (by decide)).trans h8, (e 14 (by decide)).trans h9, (e 15 (by decide)).trans h10, (e 8 (by decide)).trans h11, (e 9 (by decide)).trans h12, (e 10 (by decide)).trans h13, (e 11 (by decide)).trans h14, h15⟩
theorem RCit.cg {nc : Nat} {P : Mem} {A A' : Nat → Int32} (h : RCit nc P A) (e3 : A' 3 = A 3) (e : ∀ i, 20 ≤ i → i < 84 → A' i = A i) : RCit nc P A' := by
  obtain ⟨h0, h1, h2, h3, h4⟩ := h
  refine ⟨h0, h1, e3.trans h2, fun c hc => ?_, h4⟩
  obtain ⟨a, b, d, f, g, i, j⟩ := h3 c hc
  exact ⟨(e _ (by omega) (by omega)).trans a, (e _ (by omega) (by omega)).trans b, (e _ (by omega) (by omega)).trans d, (e _ (by omega) (by omega)).trans f, (e _ (by omega) (by omega)).trans g, (e _ (by omega) (by omega)).trans i, (e _ (by omega) (by omega)).trans j⟩
theorem RBal.cg {nb nc : Nat} {C : Mem} {A A' : Nat → Int32} (h : RBal nb nc C A) (e4 : A' 4 = A 4) (e16 : A' 16 = A 16) (e : ∀ i, 90 ≤ i → i < 198 → A' i = A i) : RBal nb nc C A' := by
  obtain ⟨h0, h1, h2, h3, h4, h5, h6⟩ := h
  refine ⟨h0, h1, e4.trans h2, e16.trans h3, h4, fun c hc => ?_, h6⟩
  obtain ⟨a, b, d, f, g, i, j, k⟩ := h5 c hc
  exact ⟨(e _ (by omega) (by omega)).trans a, (e _ (by omega) (by omega)).trans b, (e _ (by omega) (by omega)).trans d, (e _ (by omega) (by omega)).trans f, (e _ (by omega) (by omega)).trans g, (e _ (by omega) (by omega)).trans i, (e _ (by omega) (by omega)).trans j, (e _ (by omega) (by omega)).trans k⟩
theorem RLoan.cg {nl nc : Nat} {B : Mem} {A A' : Nat → Int32} (h : RLoan nl nc B A) (e5 : A' 5 = A 5) (e : ∀ i, 200 ≤ i → i < 280 → A' i = A i) : RLoan nl nc B A' := by
  obtain ⟨h0, h1, h2, h3, h4⟩ := h
  refine ⟨h0, h1, e5.trans h2, fun c hc => ?_, h4⟩
  obtain ⟨a, b, d, f⟩ := h3 c hc
  exact ⟨(e _ (by omega) (by omega)).trans a, (e _ (by omega) (by omega)).trans b, (e _ (by omega) (by omega)).trans d, (e _ (by omega) (by omega)).trans f⟩
theorem RBook.cg {yr : Nat} {Y : Mem} {A A' : Nat → Int32} (h : RBook yr Y A) (hy : yr ≤ 199) (e : ∀ i, 280 ≤ i → i < 2071 → A' i = A i) : RBook yr Y A' := ⟨fun i hi => (e _ (by omega) (by omega)).trans (h.1 i hi), h.2⟩
theorem RLaw.cg {D : Mem} {A A' : Nat → Int32} (h : RLaw D A) (e7 : A' 7 = A 7) (e : ∀ i, 2080 ≤ i → i < 2384 → A' i = A i) : RLaw D A' := by
  obtain ⟨n, h0, h1, h2, h3⟩ := h
  refine ⟨n, h0, h1, e7.trans h2, fun k hk => ?_⟩
  obtain ⟨⟨t, t0, t1, t2, t3⟩, a, b, d⟩ := h3 k hk
  refine ⟨⟨t, t0, t1, (e _ (by omega) (by omega)).trans t2, fun i hi => ?_⟩, ?_, (e _ (by omega) (by omega)).trans b, d⟩
  · obtain ⟨x1, x2, x3, x4, x5⟩ := t3 i hi
    exact ⟨(e _ (by omega) (by omega)).trans x1, (e _ (by omega) (by omega)).trans x2, (e _ (by omega) (by omega)).trans x3, (e _ (by omega) (by omega)).trans x4, x5⟩
  · rw [e (2080 + 19 * k + 17) (by omega) (by omega)]
    exact a
theorem RTape.cg {tp : Nat} {T : Mem} {A A' : Nat → Int32} (h : RTape tp T A) (e12 : A' 12 = A 12) (e : ∀ i, 2390 ≤ i → i < 2790 → A' i = A i) : RTape tp T A' := by
  obtain ⟨h0, h1, h2, h3, h4⟩ := h
  exact ⟨h0, h1, e12.trans h2, fun i hi => (e _ (by omega) (by omega)).trans (h3 i hi), h4⟩
theorem RelN.cg {yr nc nb nl tp : Nat} {ν : Nat → Mem} {A A' : Nat → Int32} (h : RelN yr nc nb nl tp ν A) (e : ∀ i, i < 2790 → A' i = A i) : RelN yr nc nb nl tp ν A' := by
  obtain ⟨h1, h2, h3, h4, h5, h6, h7⟩ := h
  refine ⟨h1.cg (fun i hi => e i ?_), h2.cg (e _ (by omega)) (e _ (by omega)) (fun i a b => e i (by omega)), h3.cg (e _ (by omega)) (fun i a b => e i (by omega)), h4.cg (e _ (by omega)) (fun i a b => e i (by omega)), h5.cg h1.1 (fun i a b => e i (by omega)), h6.cg (e _ (by omega)) (fun i a b => e i (by omega)), h7.cg (e _ (by omega)) (fun i a b => e i (by omega))⟩
  simp only [List.mem_cons, List.not_mem_nil, or_false] at hi
  omega
theorem RelS.cg {ν : Nat → Mem} {A A' : Nat → Int32} (h : RelS ν A) (e : ∀ i, i < 2790 → A' i = A i) : RelS ν A' := by
  obtain ⟨yr, nc, nb, nl, tp, h⟩ := h
  exact ⟨yr, nc, nb, nl, tp, h.cg e⟩
/-- what a call leaves of the reference's images -/
def Keep (M M' : Mem) : Prop := (∀ i, 2790 ≤ i → M' 0 i = M 0 i) ∧ M' 1 = M 1
theorem Keep.rf (M : Mem) : Keep M M := ⟨fun _ _ => rfl, rfl⟩
theorem Keep.tr {M M' M'' : Mem} (h : Keep M M') (g : Keep M' M'') : Keep M M'' := ⟨fun i hi => (g.1 i hi).trans (h.1 i hi), g.2.trans h.2⟩
theorem RImg.keep {I : Nat → Option (Nat → Mem)} {M M' : Mem} (h : RImg I M) (k : Keep M M') : RImg I M' := by
  refine ⟨fun j hj => by rw [k.2]; exact h.1 j hj, fun j ν hj e => (h.2 j ν hj e).cg (fun i hi => k.1 _ (by omega))⟩
/-! ===== memories ===== -/
theorem upS_at (C : Mem) (k : Nat) (v : Int32) (i : Nat) : upS C k v k i = v := by simp [upS, va_up]
theorem upS_ne {C : Mem} {k j : Nat} {v : Int32} (h : j ≠ k) : upS C k v j = C j := by simp [upS, va_up, h]
theorem upA_at (C : Mem) (k : Nat) (i v : Int32) : upA C k i v k = upd (C k) i.toNatClampNeg v := by simp [upA, va_up]
theorem upA_ne {C : Mem} {k j : Nat} {i v : Int32} (h : j ≠ k) : upA C k i v j = C j := by simp [upA, va_up, h]
theorem upR_at (C : Mem) (k : Nat) (f : Nat → Int32) : upR C k f k = f := by simp [upR, va_up]
theorem upR_ne {C : Mem} {k j : Nat} {f : Nat → Int32} (h : j ≠ k) : upR C k f j = C j := by simp [upR, va_up, h]
theorem Keep.uS {M : Mem} {k : Nat} {v : Int32} (h0 : k ≠ 0) (h1 : k ≠ 1) : Keep M (upS M k v) := ⟨fun i _ => by rw [upS_ne (Ne.symm h0)], by rw [upS_ne (Ne.symm h1)]⟩
theorem Keep.uA {M : Mem} {i v : Int32} (h : i.toNatClampNeg < 2790) : Keep M (upA M 0 i v) := ⟨fun j hj => by rw [upA_at]; exact pk_un (by omega), by rw [upA_ne (by decide)]⟩
theorem Keep.uA2 {M : Mem} {k : Nat} {i v : Int32} (h0 : k ≠ 0) (h1 : k ≠ 1) : Keep M (upA M k i v) := ⟨fun j _ => by rw [upA_ne (Ne.symm h0)], by rw [upA_ne (Ne.symm h1)]⟩
theorem lit_n (n : Nat) : (OfNat.ofNat n : Int32) = nI n := rfl
theorem FU_gt {k : Nat} (h : k < 100000) : k < FU := h
