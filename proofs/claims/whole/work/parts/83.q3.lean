theorem va_eQ {α : Type} (f : Nat → α) (k : Nat) (v : α) : va_up f k v k = v := by simp [va_up]
/-! ===== image, again: copies ===== -/
theorem RNum.cm {yr : Nat} {Z Z' U U' : Mem} {A : Nat → Int32} (h : RNum yr Z U A) (e : ∀ k, 7 ≤ k → k ≤ 13 → Z' k 0 = Z k 0) (u : ∀ k, k < 4 → U' k 0 = U k 0) : RNum yr Z' U' A := by
  unfold RNum at h ⊢
  rw [e 9 (by decide) (by decide), e 10 (by decide) (by decide), e 11 (by decide) (by decide), e 12 (by decide) (by decide), e 7 (by decide) (by decide), e 8 (by decide) (by decide), e 13 (by decide) (by decide), u 0 (by decide), u 1 (by decide), u 2 (by decide), u 3 (by decide)]
  exact h
theorem RCit.cm {nc : Nat} {P P' : Mem} {A : Nat → Int32} (h : RCit nc P A) (e0 : P' 0 0 = P 0 0) (e : ∀ k c, 1 ≤ k → k ≤ 7 → c < 8 → P' k c = P k c) : RCit nc P' A := by
  refine RCit.of h.1 (e0.trans h.2.1) h.2.2.1 (fun c k hc hk => ?_) (fun c a b => ?_)
  · have h8 := h.1
    rw [e (k + 1) c (by omega) (by omega) (by omega)]
    exact h.row hc hk
  · rw [e 3 c (by decide) (by decide) b, e 4 c (by decide) (by decide) b, e 5 c (by decide) (by decide) b, e 6 c (by decide) (by decide) b, e 7 c (by decide) (by decide) b]
    exact h.2.2.2.2 c a b
theorem RBal.cm {nb nc : Nat} {C C' : Mem} {A : Nat → Int32} (h : RBal nb nc C A) (e0 : C' 0 0 = C 0 0) (e8 : C' 8 0 = C 8 0) (e : ∀ k b, 1 ≤ k → k ≤ 9 → k ≠ 8 → b < 12 → C' k b = C k b) : RBal nb nc C' A := by
  obtain ⟨h0, h1, h2, h3, h4, h5, h6⟩ := h
  refine ⟨h0, e0.trans h1, h2, by rw [e8]; exact h3, by rw [e8]; exact h4, fun b hb => ?_, fun b hb => ?_⟩
  · rw [e 1 b (by decide) (by decide) (by decide) (by omega), e 2 b (by decide) (by decide) (by decide) (by omega), e 3 b (by decide) (by decide) (by decide) (by omega), e 4 b (by decide) (by decide) (by decide) (by omega), e 5 b (by decide) (by decide) (by decide) (by omega), e 6 b (by decide) (by decide) (by decide) (by omega), e 7 b (by decide) (by decide) (by decide) (by omega), e 9 b (by decide) (by decide) (by decide) (by omega)]
    exact h5 b hb
  · have := h6 b hb
    unfold BalOK at this ⊢
    rw [e 1 b (by decide) (by decide) (by decide) (by omega), e 2 b (by decide) (by decide) (by decide) (by omega), e 3 b (by decide) (by decide) (by decide) (by omega), e 4 b (by decide) (by decide) (by decide) (by omega), e 5 b (by decide) (by decide) (by decide) (by omega), e 6 b (by decide) (by decide) (by decide) (by omega), e 7 b (by decide) (by decide) (by decide) (by omega), e 9 b (by decide) (by decide) (by decide) (by omega)]
    exact this
theorem RLoan.cm {nl nc : Nat} {B B' : Mem} {A : Nat → Int32} (h : RLoan nl nc B A) (e0 : B' 0 0 = B 0 0) (e : ∀ k b, 1 ≤ k → k ≤ 4 → b < 20 → B' k b = B k b) : RLoan nl nc B' A := by
  obtain ⟨h0, h1, h2, h3, h4⟩ := h
  refine ⟨h0, e0.trans h1, h2, fun k hk => ?_, fun k hk => ?_⟩
  · rw [e 1 k (by decide) (by decide) (by omega), e 2 k (by decide) (by decide) (by omega), e 3 k (by decide) (by decide) (by omega), e 4 k (by decide) (by decide) (by omega)]
    exact h3 k hk
  · rw [e 1 k (by decide) (by decide) (by omega), e 2 k (by decide) (by decide) (by omega)]
    exact h4 k hk
theorem RLaw.cm {D D' : Mem} {A : Nat → Int32} (h : RLaw D A) (e0 : D' 0 0 = D 0 0) (e : ∀ k b, 1 ≤ k → k ≤ 3 → b < 16 → D' k b = D k b) (f : ∀ k b, 4 ≤ k → k ≤ 7 → b < 64 → D' k b = D k b) : RLaw D' A := by
  obtain ⟨n, h0, h1, h2, h3⟩ := h
  refine ⟨n, h0, e0.trans h1, h2, fun k hk => ?_⟩
  obtain ⟨⟨t, t0, t1, t2, t3⟩, a, b, d⟩ := h3 k hk
  unfold RLine
  rw [e 1 k (by decide) (by decide) (by omega), e 2 k (by decide) (by decide) (by omega), e 3 k (by decide) (by decide) (by omega)]
  refine ⟨⟨t, t0, t1, t2, fun i hi => ?_⟩, a, b, d⟩
  rw [f 4 _ (by decide) (by decide) (by omega), f 5 _ (by decide) (by decide) (by omega), f 6 _ (by decide) (by decide) (by omega), f 7 _ (by decide) (by decide) (by omega)]
  exact t3 i hi
theorem RBook.cm {yr : Nat} {Y Y' : Mem} {A : Nat → Int32} (h : RBook yr Y A) (hy : yr ≤ 199) (e : ∀ i, i < 1791 → Y' 0 i = Y 0 i) : RBook yr Y' A := ⟨fun i hi => by rw [e i (by omega)]; exact h.1 i hi, fun i a b => by rw [e i b]; exact h.2 i a b⟩
theorem RTape.cm {tp : Nat} {T T' : Mem} {A : Nat → Int32} (h : RTape tp T A) (e1 : T' 1 0 = T 1 0) (e : ∀ i, i < 400 → T' 0 i = T 0 i) : RTape tp T' A := by
  obtain ⟨h0, h1, h2, h3, h4⟩ := h
  exact ⟨h0, e1.trans h1, h2, fun i hi => by rw [e i (by omega)]; exact h3 i hi, fun i hi => by rw [e i hi]; exact h4 i hi⟩
theorem cpX3 (D H : Mem) : ∃ N, f_X3_copyFrom D H = some N ∧ N 0 0 = D 0 0 ∧ (∀ k b, 1 ≤ k → k ≤ 3 → b < 16 → N k b = D k b) ∧ (∀ k b, 4 ≤ k → k ≤ 7 → b < 64 → N k b = D k b) := by
  refine ⟨_, rfl, ?_, fun k b h1 h2 h3 => ?_, fun k b h1 h2 h3 => ?_⟩
  · rw [upR_ne (by decide), upR_ne (by decide), upR_ne (by decide), upR_ne (by decide), upR_ne (by decide), upR_ne (by decide), upR_ne (by decide), upS_at]
  · rcases (show k = 1 ∨ k = 2 ∨ k = 3 by omega) with rfl | rfl | rfl
    · rw [upR_ne (by decide), upR_ne (by decide), upR_ne (by decide), upR_ne (by decide), upR_ne (by decide), upR_ne (by decide), upR_at, rowc_in _ _ h3]
    · rw [upR_ne (by decide), upR_ne (by decide), upR_ne (by decide), upR_ne (by decide), upR_ne (by decide), upR_at, rowc_in _ _ h3]
    · rw [upR_ne (by decide), upR_ne (by decide), upR_ne (by decide), upR_ne (by decide), upR_at, rowc_in _ _ h3]
  · rcases (show k = 4 ∨ k = 5 ∨ k = 6 ∨ k = 7 by omega) with rfl | rfl | rfl | rfl
    · rw [upR_ne (by decide), upR_ne (by decide), upR_ne (by decide), upR_at, rowc_in _ _ h3]
    · rw [upR_ne (by decide), upR_ne (by decide), upR_at, rowc_in _ _ h3]
    · rw [upR_ne (by decide), upR_at, rowc_in _ _ h3]
    · rw [upR_at, rowc_in _ _ h3]
theorem cpX2 (D H : Mem) : ∃ N, f_X2_copyFrom D H = some N ∧ N 0 0 = D 0 0 ∧ (∀ k b, 1 ≤ k → k ≤ 7 → b < 8 → N k b = D k b) := by
  refine ⟨_, rfl, ?_, fun k b h1 h2 h3 => ?_⟩
  · rw [upR_ne (by decide), upR_ne (by decide), upR_ne (by decide), upR_ne (by decide), upR_ne (by decide), upR_ne (by decide), upR_ne (by decide), upS_at]
  · rcases (show k = 1 ∨ k = 2 ∨ k = 3 ∨ k = 4 ∨ k = 5 ∨ k = 6 ∨ k = 7 by omega) with rfl | rfl | rfl | rfl | rfl | rfl | rfl
    · rw [upR_ne (by decide), upR_ne (by decide), upR_ne (by decide), upR_ne (by decide), upR_ne (by decide), upR_ne (by decide), upR_at, rowc_in _ _ h3]
    · rw [upR_ne (by decide), upR_ne (by decide), upR_ne (by decide), upR_ne (by decide), upR_ne (by decide), upR_at, rowc_in _ _ h3]
    · rw [upR_ne (by decide), upR_ne (by decide), upR_ne (by decide), upR_ne (by decide), upR_at, rowc_in _ _ h3]
    · rw [upR_ne (by decide), upR_ne (by decide), upR_ne (by decide), upR_at, rowc_in _ _ h3]
    · rw [upR_ne (by decide), upR_ne (by decide), upR_at, rowc_in _ _ h3]
    · rw [upR_ne (by decide), upR_at, rowc_in _ _ h3]
    · rw [upR_at, rowc_in _ _ h3]
theorem cpX5 (D H : Mem) : ∃ N, f_X5_copyFrom D H = some N ∧ N 0 0 = D 0 0 ∧ (∀ k b, 1 ≤ k → k ≤ 4 → b < 20 → N k b = D k b) := by
  refine ⟨_, rfl, ?_, fun k b h1 h2 h3 => ?_⟩
  · rw [upR_ne (by decide), upR_ne (by decide), upR_ne (by decide), upR_ne (by decide), upS_at]
  · rcases (show k = 1 ∨ k = 2 ∨ k = 3 ∨ k = 4 by omega) with rfl | rfl | rfl | rfl
    · rw [upR_ne (by decide), upR_ne (by decide), upR_ne (by decide), upR_at, rowc_in _ _ h3]
    · rw [upR_ne (by decide), upR_ne (by decide), upR_at, rowc_in _ _ h3]
    · rw [upR_ne (by decide), upR_at, rowc_in _ _ h3]
    · rw [upR_at, rowc_in _ _ h3]
theorem cpX6 (D H : Mem) : ∃ N, f_X6_copyFrom D H = some N ∧ ∀ k, k < 4 → N k 0 = D k 0 := by
  refine ⟨_, rfl, fun k h => ?_⟩
  rcases (show k = 0 ∨ k = 1 ∨ k = 2 ∨ k = 3 by omega) with rfl | rfl | rfl | rfl
  · rw [upS_ne (by decide), upS_ne (by decide), upS_ne (by decide), upS_at]
  · rw [upS_ne (by decide), upS_ne (by decide), upS_at]
  · rw [upS_ne (by decide), upS_at]
  · rw [upS_at]
theorem cpX10 (D H : Mem) : ∃ N, f_X10_copyFrom D H = some N ∧ ∀ i, i < 1791 → N 0 i = D 0 i := by
  refine ⟨_, rfl, fun i h => ?_⟩
  rw [upR_at, rowc_in _ _ h]
theorem cpX0 (D H : Mem) (h8 : D 8 0 = 0 ∨ D 8 0 = 1) : ∃ N, f_X0_copyFrom D H = some N ∧ N 0 0 = D 0 0 ∧ N 8 0 = D 8 0 ∧ (∀ k b, 1 ≤ k → k ≤ 9 → k ≠ 8 → b < 12 → N k b = D k b) := by
  unfold f_X0_copyFrom
  rw [wr_s, if_neg (not_not_intro h8)]
  refine ⟨_, rfl, ?_, ?_, fun k b h1 h2 hn h3 => ?_⟩
  · rw [upR_ne (by decide), upR_ne (by decide), upR_ne (by decide), upR_ne (by decide), upR_ne (by decide), upR_ne (by decide), upR_ne (by decide), upR_ne (by decide), upS_ne (by decide), upS_at]
  · rw [upR_ne (by decide), upR_ne (by decide), upR_ne (by decide), upR_ne (by decide), upR_ne (by decide), upR_ne (by decide), upR_ne (by decide), upR_ne (by decide), upS_at]
  · rcases (show k = 1 ∨ k = 2 ∨ k = 3 ∨ k = 4 ∨ k = 5 ∨ k = 6 ∨ k = 7 ∨ k = 9 by omega) with rfl | rfl | rfl | rfl | rfl | rfl | rfl | rfl
    · rw [upR_ne (by decide), upR_ne (by decide), upR_ne (by decide), upR_ne (by decide), upR_ne (by decide), upR_ne (by decide), upR_ne (by decide), upR_at, rowc_in _ _ h3]
    · rw [upR_ne (by decide), upR_ne (by decide), upR_ne (by decide), upR_ne (by decide), upR_ne (by decide), upR_ne (by decide), upR_at, rowc_in _ _ h3]
    · rw [upR_ne (by decide), upR_ne (by decide), upR_ne (by decide), upR_ne (by decide), upR_ne (by decide), upR_at, rowc_in _ _ h3]
    · rw [upR_ne (by decide), upR_ne (by decide), upR_ne (by decide), upR_ne (by decide), upR_at, rowc_in _ _ h3]
    · rw [upR_ne (by decide), upR_ne (by decide), upR_ne (by decide), upR_at, rowc_in _ _ h3]
    · rw [upR_ne (by decide), upR_ne (by decide), upR_at, rowc_in _ _ h3]
    · rw [upR_ne (by decide), upR_at, rowc_in _ _ h3]
    · rw [upR_at, rowc_in _ _ h3]
theorem cpX8 (D H : Mem) (h8 : ∀ i, i < 400 → (D 0 i).toInt8.toInt32 = D 0 i) : ∃ N, f_X8_copyFrom D H = some N ∧ N 1 0 = D 1 0 ∧ ∀ i, i < 400 → N 0 i = D 0 i := by
  unfold f_X8_copyFrom
  have hf : (List.range 400).all (fun i => fits .byte (.int (D 0 i))) = true := by
    rw [List.all_eq_true]
    intro i hi
    rw [← h8 i (List.mem_range.mp hi)]
    exact pk_fb _
  rw [wr_s, hf, if_neg (by decide)]
  refine ⟨_, rfl, ?_, fun i hi => ?_⟩
  · rw [upR_ne (by decide), upS_at]
  · rw [upR_at]
    exact rowc_in _ _ hi
/-- a copy of all the memories stands in the relation where they stood -/
theorem copy_rel {yr nc nb nl tp : Nat} {ν : Nat → Mem} {A : Nat → Int32} (h : RelN yr nc nb nl tp ν A) (H0 H1 H2 H3 H4 H5 H6 H7 : Mem) : ∃ N0 N1 N2 N3 N4 N5 N6 N7 : Mem, f_X7_copyFrom (ν 0) (ν 1) (ν 2) (ν 3) (ν 4) (ν 5) (ν 6) (ν 7) H0 H1 H2 H3 H4 H5 H6 H7 = some (N0, N1, N2, N3, N4, N5, N6, N7) ∧ ∀ ν' : Nat → Mem, ν' 0 = N0 → ν' 1 = N1 → ν' 2 = N2 → ν' 3 = N3 → ν' 4 = N4 → ν' 5 = N5 → ν' 6 = N6 → ν' 7 = N7 → RelN yr nc nb nl tp ν' A := by
  obtain ⟨h1, h2, h3, h4, h5, h6, h7⟩ := h
  obtain ⟨N1, e1, a1, b1, c1⟩ := cpX0 (ν 1) H1 h2.2.2.2.2.1
  obtain ⟨N2, e2, a2, b2⟩ := cpX5 (ν 2) H2
  obtain ⟨N3, e3, a3, b3, c3⟩ := cpX3 (ν 3) H3
  obtain ⟨N4, e4, a4⟩ := cpX10 (ν 4) H4
  obtain ⟨N5, e5, a5, b5⟩ := cpX2 (ν 5) H5
  obtain ⟨N6, e6, a6⟩ := cpX6 (ν 6) H6
  obtain ⟨N7, e7, a7, b7⟩ := cpX8 (ν 7) H7 h7.2.2.2.2
  refine ⟨upS (upS (upS (upS (upS (upS (upS H0 7 (ν 0 7 0)) 8 (ν 0 8 0)) 9 (ν 0 9 0)) 10 (ν 0 10 0)) 11 (ν 0 11 0)) 12 (ν 0 12 0)) 13 (ν 0 13 0), N1, N2, N3, N4, N5, N6, N7, ?_, ?_⟩
  · unfold f_X7_copyFrom
    rw [e7, Option.bind_some, e3, Option.bind_some, e5, Option.bind_some, e6, Option.bind_some, e1, Option.bind_some, e2, Option.bind_some, e4, Option.bind_some, wr_s, wr_s, wr_s, if_neg (not_not_intro h1.2.2.2.1)]
    rfl
  · intro ν' f0 f1 f2 f3 f4 f5 f6 f7
    refine ⟨h1.cm (fun k x y => ?_) (fun k x => by rw [f6]; exact a6 k x), ?_, ?_, ?_, ?_, ?_, ?_⟩
    · rw [f0]
      rcases (show k = 7 ∨ k = 8 ∨ k = 9 ∨ k = 10 ∨ k = 11 ∨ k = 12 ∨ k = 13 by omega) with rfl | rfl | rfl | rfl | rfl | rfl | rfl
      · rw [upS_ne (by decide), upS_ne (by decide), upS_ne (by decide), upS_ne (by decide), upS_ne (by decide), upS_ne (by decide), upS_at]
      · rw [upS_ne (by decide), upS_ne (by decide), upS_ne (by decide), upS_ne (by decide), upS_ne (by decide), upS_at]
      · rw [upS_ne (by decide), upS_ne (by decide), upS_ne (by decide), upS_ne (by decide), upS_at]
      · rw [upS_ne (by decide), upS_ne (by decide), upS_ne (by decide), upS_at]
      · rw [upS_ne (by decide), upS_ne (by decide), upS_at]
      · rw [upS_ne (by decide), upS_at]
      · rw [upS_at]
    · rw [f1]; exact h2.cm a1 b1 c1
    · rw [f2]; exact h3.cm a2 b2
    · rw [f3]; exact h4.cm a3 b3 c3
    · rw [f4]; exact h5.cm h1.1 a4
    · rw [f5]; exact h6.cm a5 b5
    · rw [f7]; exact h7.cm a7 b7
theorem ix27 (k i : Nat) : (2790 : Int32) * (nI k + (1 : Int32)) + nI i = nI (2790 * (k + 1) + i) := by
  show nI 2790 * (nI k + nI 1) + nI i = _
  rw [nI_add, pk_mul, nI_add]
theorem image_L {k : Nat} (hk : k < 3) : ∀ (d j n : Nat) (M : Mem), j + d = 2790 → d < n → ∃ M' : Mem, f_X12_image_L20 n M (nI k) (nI j) = some (1, M') ∧ M' 1 = M 1 ∧ (∀ i, j ≤ i → i < 2790 → M' 0 (2790 * (k + 1) + i) = M 0 i) ∧ (∀ i, (i < 2790 * (k + 1) + j ∨ 2790 * (k + 1) + 2790 ≤ i) → M' 0 i = M 0 i)
  | 0, j, n + 1, M, h, _ => by
    have e : j = 2790 := by omega
    subst e
    refine ⟨M, ?_, rfl, fun i a b => absurd a (by omega), fun _ _ => rfl⟩
    rw [f_X12_image_L20, if_pos (by decide)]
  | d + 1, j, n + 1, M, h, hn => by
    obtain ⟨M', g1, g2, g3, g4⟩ := image_L hk d (j + 1) n (put M (2790 * (k + 1) + j) (M 0 j)) (by omega) (by omega)
    have b1 : 2790 * (k + 1) ≤ 2790 * 3 := Nat.mul_le_mul_left _ (by omega)
    have b2 : 2790 ≤ 2790 * (k + 1) := Nat.le_mul_of_pos_right _ (by omega)
    refine ⟨M', ?_, by rw [g2, put_ne (by decide)], fun i a b => ?_, fun i hi => ?_⟩
    · rw [f_X12_image_L20, if_neg (show ¬ (2790 : Int32) ≤ nI j from nI_ge (b := 2790) (by omega) (by decide)), if_neg (nI_in (N := 11160) (by omega) (by decide)), ix27, if_neg (nI_in (N := 11160) (by omega) (by decide)), wr_s, upA_put _ _ (by omega), nI_clamp (n := j) (by omega), nI_1]
      exact g1
    · by_cases q : i = j
      · subst q
        rw [g4 _ (by omega), put_eq]
      · rw [g3 i (by omega) b, put_no (by omega)]
    · rw [g4 i (by omega), put_no (by omega)]
  | d, j, 0, _, _, hn => absurd hn (by omega)
theorem again_L {k : Nat} (hk : k < 3) : ∀ (d j n : Nat) (M : Mem), j + d = 2790 → d < n → ∃ M' : Mem, f_X12_again_L22 n M (nI k) (nI j) = some (1, M') ∧ M' 1 = M 1 ∧ (∀ i, j ≤ i → i < 2790 → M' 0 i = M 0 (2790 * (k + 1) + i)) ∧ (∀ i, (i < j ∨ 2790 ≤ i) → M' 0 i = M 0 i)
  | 0, j, n + 1, M, h, _ => by
    have e : j = 2790 := by omega
    subst e
    refine ⟨M, ?_, rfl, fun i a b => absurd a (by omega), fun _ _ => rfl⟩
    rw [f_X12_again_L22, if_pos (by decide)]
  | d + 1, j, n + 1, M, h, hn => by
    obtain ⟨M', g1, g2, g3, g4⟩ := again_L hk d (j + 1) n (put M j (M 0 (2790 * (k + 1) + j))) (by omega) (by omega)
    have b1 : 2790 * (k + 1) ≤ 2790 * 3 := Nat.mul_le_mul_left _ (by omega)
    have b2 : 2790 ≤ 2790 * (k + 1) := Nat.le_mul_of_pos_right _ (by omega)
    refine ⟨M', ?_, by rw [g2, put_ne (by decide)], fun i a b => ?_, fun i hi => ?_⟩
    · rw [f_X12_again_L22, if_neg (show ¬ (2790 : Int32) ≤ nI j from nI_ge (b := 2790) (by omega) (by decide)), ix27, if_neg (nI_in (N := 11160) (by omega) (by decide)), if_neg (nI_in (N := 11160) (by omega) (by decide)), wr_s, upA_put _ _ (by omega), nI_clamp (n := 2790 * (k + 1) + j) (by omega), nI_1]
      exact g1
    · by_cases q : i = j
      · subst q
        rw [g4 _ (by omega), put_eq]
      · rw [g3 i (by omega) b, put_no (by omega)]
    · rw [g4 i (by omega), put_no (by omega)]
  | d, j, 0, _, _, hn => absurd hn (by omega)
theorem st_image : S_image Rel0 := by
  intro μ I M p1 hR
  obtain ⟨⟨yr, nc, nb, nl, tp, hN⟩, hI1, hI2⟩ := id hR
  by_cases hp : (0 : Int32) ≤ p1 ∧ p1 ≤ 2
  · refine Or.inr ?_
    obtain ⟨k, hk, rfl⟩ := rng (n := 2) (by decide) hp
    obtain ⟨M', g1, g2, g3, g4⟩ := image_L (k := k) (by omega) 2790 0 FU (upA M 1 (nI k) 1) (by omega) (FU_gt (by omega))
    have u0 : upA M 1 (nI k) 1 0 = M 0 := upA_ne (by decide)
    have eB : f_X12_image M (nI k) = some (1, M') := by
      unfold f_X12_image
      rw [isIn_eq, if_pos hp, Option.bind_some, if_neg (show ¬ (1 : Int32) = 0 by decide), if_neg (nI_in (N := 3) (by omega) (by decide)), wr_s, show vp_nar .boolean (1 : Int32) = 1 from rfl]
      exact g1
    have b2 : 2790 ≤ 2790 * (k + 1) := Nat.le_mul_of_pos_right _ (by omega)
    have rel : ∀ N0 N1 N2 N3 N4 N5 N6 N7 : Mem, (∀ ν' : Nat → Mem, ν' 0 = N0 → ν' 1 = N1 → ν' 2 = N2 → ν' 3 = N3 → ν' 4 = N4 → ν' 5 = N5 → ν' 6 = N6 → ν' 7 = N7 → RelN yr nc nb nl tp ν' (M 0)) → Rel0 μ (va_up I k (some (nuOf N0 N1 N2 N3 N4 N5 N6 N7))) M' := by
      intro N0 N1 N2 N3 N4 N5 N6 N7 hc
      refine ⟨⟨yr, nc, nb, nl, tp, hN.cg (fun i hi => by rw [g4 i (by omega), u0])⟩, fun j hj => ?_, fun j ν hj e => ?_⟩
      · rw [g2, upA_get _ _ _ (by omega)]
        by_cases q : j = k
        · subst q
          rw [if_pos ⟨rfl, rfl⟩, va_eQ]
          rfl
        · rw [if_neg (fun w => q w.2), va_nE q]
          exact hI1 j hj
      · by_cases q : j = k
        · subst q
          rw [va_eQ] at e
          have e := Option.some.inj e
          subst e
          have r := hc (nuOf N0 N1 N2 N3 N4 N5 N6 N7) rfl rfl rfl rfl rfl rfl rfl rfl
          refine ⟨yr, nc, nb, nl, tp, r.cg (fun i hi => ?_)⟩
          rw [g3 i (by omega) hi, u0]
        · rw [va_nE q] at e
          refine (hI2 j ν hj e).cg (fun i hi => ?_)
          rw [g4 _ ?_, u0]
          rcases (show j + 1 ≤ k ∨ k + 1 ≤ j by omega) with w | w
          · have : 2790 * (j + 1) + 2790 ≤ 2790 * (k + 1) := by
              have := Nat.mul_le_mul_left 2790 (show j + 1 + 1 ≤ k + 1 by omega)
              rw [Nat.mul_add 2790 (j + 1) 1] at this
              omega
            omega
          · have : 2790 * (k + 1) + 2790 ≤ 2790 * (j + 1) := by
              have := Nat.mul_le_mul_left 2790 (show k + 1 + 1 ≤ j + 1 by omega)
              rw [Nat.mul_add 2790 (k + 1) 1] at this
              omega
            omega
    cases hIk : I k with
    | none =>
      obtain ⟨N0, N1, N2, N3, N4, N5, N6, N7, e, hc⟩ := copy_rel hN m0X7 m0X0 m0X5 m0X3 m0X10 m0X2 m0X6 m0X8
      exact ⟨k, N0, N1, N2, N3, N4, N5, N6, N7, M', by rw [within_eq, if_pos hp], by omega, rfl, fun _ => e, fun ν h => absurd (hIk.symm.trans h) (by simp), eB, rel N0 N1 N2 N3 N4 N5 N6 N7 hc⟩
    | some ν =>
      obtain ⟨N0, N1, N2, N3, N4, N5, N6, N7, e, hc⟩ := copy_rel hN (ν 0) (ν 1) (ν 2) (ν 3) (ν 4) (ν 5) (ν 6) (ν 7)
      refine ⟨k, N0, N1, N2, N3, N4, N5, N6, N7, M', by rw [within_eq, if_pos hp], by omega, rfl, fun h => absurd (hIk.symm.trans h) (by simp), fun ν' h => ?_, eB, rel N0 N1 N2 N3 N4 N5 N6 N7 hc⟩
      have : ν = ν' := Option.some.inj (hIk.symm.trans h)
      subst this
      exact e
  · refine Or.inl ⟨by rw [within_eq, if_neg hp], ?_⟩
    unfold f_X12_image
    rw [isIn_eq, if_neg hp]
    rfl
theorem st_again : S_again Rel0 := by
  intro μ I M p1 hR
  obtain ⟨⟨yr, nc, nb, nl, tp, hN⟩, hI1, hI2⟩ := id hR
  by_cases hp : (0 : Int32) ≤ p1 ∧ p1 ≤ 2
  · refine Or.inr ?_
    obtain ⟨k, hk, rfl⟩ := rng (n := 2) (by decide) hp
    have eB : f_X12_again M (nI k) = if M 1 k = 0 then some (0, M) else f_X12_again_L22 FU M (nI k) 0 := by
      unfold f_X12_again
      rw [isIn_eq, if_pos hp, Option.bind_some, if_neg (show ¬ (1 : Int32) = 0 by decide), if_neg (nI_in (N := 3) (by omega) (by decide)), nI_clamp (n := k) (by omega)]
    refine ⟨k, by rw [within_eq, if_pos hp], by omega, rfl, ?_⟩
    have m := hI1 k (by omega)
    cases hIk : I k with
    | none =>
      rw [hIk] at m
      rw [if_pos (show M 1 k = 0 from m)] at eB
      exact Or.inl ⟨rfl, eB⟩
    | some ν =>
      rw [hIk] at m
      have m : M 1 k = 1 := m
      rw [if_neg (by rw [m]; decide)] at eB
      obtain ⟨M', g1, g2, g3, g4⟩ := again_L (k := k) (by omega) 2790 0 FU M (by omega) (FU_gt (by omega))
      have eB : f_X12_again M (nI k) = some (1, M') := eB.trans g1
      obtain ⟨yr', nc', nb', nl', tp', hV⟩ := hI2 k ν (by omega) hIk
      obtain ⟨N0, N1, N2, N3, N4, N5, N6, N7, e, hc⟩ := copy_rel hV (μ 0) (μ 1) (μ 2) (μ 3) (μ 4) (μ 5) (μ 6) (μ 7)
      refine Or.inr ⟨ν, N0, N1, N2, N3, N4, N5, N6, N7, M', rfl, e, eB, ⟨yr', nc', nb', nl', tp', ?_⟩, ?_⟩
      · refine (hc _ rfl rfl rfl rfl rfl rfl rfl rfl).cg (fun i hi => ?_)
        rw [g3 i (by omega) hi]
      · exact RImg.keep ⟨hI1, hI2⟩ ⟨fun i hi => g4 i (by omega), g2⟩
  · refine Or.inl ⟨by rw [within_eq, if_neg hp], ?_⟩
    unfold f_X12_again
    rw [isIn_eq, if_neg hp]
    rfl
