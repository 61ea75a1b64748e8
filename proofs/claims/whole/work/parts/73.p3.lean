/-! ===== steps: bestSide, about, press, unlade, lade's parts, sums over the bales ===== -/
theorem st_bestSide : S_bestSide Rel0 := by
  intro μ I M p1 hR
  obtain ⟨⟨yr, nc, nb, nl, tp, h1, h2, h3, h4, h5, h6, h7⟩, hI⟩ := id hR
  obtain ⟨b0, b1, b2, b3, b4, b5, b6⟩ := id h2
  rcases b4 with c | c
  · refine ⟨-1, by simp [f_X11_bestSide, c], ?_, hR⟩
    simp [f_X12_bestSide, b3, c]
  · rcases pk_ix p1 (n := nb) (by omega) with d | d | ⟨b, hb, rfl⟩
    · refine ⟨-1, by simp [f_X11_bestSide, c, has0_no b1 (by omega) (Or.inl d)], ?_, hR⟩
      simp [f_X12_bestSide, b3, c, isBale_no b2 (by omega) (Or.inl d)]
    · refine ⟨-1, by simp [f_X11_bestSide, c, has0_no b1 (by omega) (Or.inr d)], ?_, hR⟩
      simp [f_X12_bestSide, b3, c, isBale_no b2 (by omega) (Or.inr d)]
    · refine ⟨μ 1 9 b, ?_, ?_, hR⟩
      · unfold f_X11_bestSide
        rw [c, if_neg (by decide), has0_yes b1 (by omega) hb]
        rw [Option.bind_some]
        rw [if_neg (by decide), if_neg (nI_in (N := 12) (by omega) (by decide)), nI_clamp (by omega)]
      · unfold f_X12_bestSide
        rw [show M 0 ((16 : Int32)).toNatClampNeg = 1 from b3.trans c, if_pos rfl, isBale_yes b2 (by omega) hb]
        rw [Option.bind_some]
        rw [if_neg (by decide), its_eq M b 7 7 rfl (by omega) (by decide), (b5 b hb).2.2.2.2.2.2.2]
        rfl
theorem st_about : S_about Rel0 := by
  intro μ I M p1 p2 hR
  obtain ⟨⟨yr, nc, nb, nl, tp, h1, h2, h3, h4, h5, h6, h7⟩, hI⟩ := id hR
  obtain ⟨b0, b1, b2, b3, b4, b5, b6⟩ := id h2
  rcases pk_ix p1 (n := nb) (by omega) with d | d | ⟨b, hb, rfl⟩
  · refine ⟨-1, by simp [f_X11_about, has0_no b1 (by omega) (Or.inl d)], by simp [f_X12_about, isBale_no b2 (by omega) (Or.inl d)], hR⟩
  · refine ⟨-1, by simp [f_X11_about, has0_no b1 (by omega) (Or.inr d)], by simp [f_X12_about, isBale_no b2 (by omega) (Or.inr d)], hR⟩
  · have hi : ¬ (nI b < 0 ∨ 12 ≤ (nI b).toNatClampNeg) := nI_in (N := 12) (by omega) (by decide)
    have hc : (nI b).toNatClampNeg = b := nI_clamp (by omega)
    have hi2 : b < 12 := by omega
    have hi3 : (0 : Int32) ≤ nI b := nI_pos' (by omega)
    obtain ⟨r0, r1, r2, r3, r4, r5, r6, r7⟩ := b5 b hb
    have y := has0_yes b1 (by omega) hb
    have z := isBale_yes b2 (by omega) hb
    by_cases c0 : p2 = 0
    · subst c0
      exact ⟨μ 1 1 b, by simp [f_X11_about, y, hi2, hi3, hc], by simp [f_X12_about, z, its_eq M b 0 0 rfl (by omega) (by decide), r0], hR⟩
    by_cases c1 : p2 = 1
    · subst c1
      exact ⟨μ 1 2 b, by simp [f_X11_about, y, hi2, hi3, hc], by simp [f_X12_about, z, its_eq M b 1 1 rfl (by omega) (by decide), r1], hR⟩
    by_cases c2 : p2 = 2
    · subst c2
      exact ⟨μ 1 3 b, by simp [f_X11_about, y, hi2, hi3, hc], by simp [f_X12_about, z, its_eq M b 2 2 rfl (by omega) (by decide), r2], hR⟩
    by_cases c3 : p2 = 3
    · subst c3
      exact ⟨μ 1 4 b, by simp [f_X11_about, y, hi2, hi3, hc], by simp [f_X12_about, z, its_eq M b 3 3 rfl (by omega) (by decide), r3], hR⟩
    by_cases c4 : p2 = 4
    · subst c4
      exact ⟨μ 1 5 b, by simp [f_X11_about, y, hi2, hi3, hc], by simp [f_X12_about, z, its_eq M b 4 4 rfl (by omega) (by decide), r4], hR⟩
    by_cases c5 : p2 = 5
    · subst c5
      exact ⟨rmV (μ 1) b, by simp [f_X11_about, y, room0_eq (C := μ 1) (b := b) (by omega)], by simp [f_X12_about, z, mroom_eq h2 hb], hR⟩
    by_cases c6 : p2 = 6
    · subst c6
      exact ⟨vlV (μ 1) b, by simp [f_X11_about, y, value0_eq (C := μ 1) (b := b) (by omega)], by simp [f_X12_about, z, mvalue_eq h2 hb], hR⟩
    by_cases c7 : p2 = 7
    · subst c7
      exact ⟨μ 1 6 b, by simp [f_X11_about, y, hi2, hi3, hc], by simp [f_X12_about, z, its_eq M b 5 5 rfl (by omega) (by decide), r5], hR⟩
    by_cases c8 : p2 = 8
    · subst c8
      exact ⟨μ 1 7 b, by simp [f_X11_about, y, hi2, hi3, hc], by simp [f_X12_about, z, its_eq M b 6 6 rfl (by omega) (by decide), r6], hR⟩
    · exact ⟨-1, by simp [f_X11_about, y, c0, c1, c2, c3, c4, c5, c6, c7, c8], by simp [f_X12_about, z, c0, c1, c2, c3, c4, c5, c6, c7, c8], hR⟩
/-- a new bale row: the relation when one bale's cells change on both sides -/
theorem RBal.set {nb nc b : Nat} {C C' : Mem} {A A' : Nat → Int32} (h : RBal nb nc C A) (hb : b < nb) (e0 : C' 0 0 = C 0 0) (e8 : C' 8 0 = C 8 0) (e : ∀ k j, j ≠ b → 1 ≤ k → k ≤ 9 → k ≠ 8 → C' k j = C k j) (a4 : A' 4 = A 4) (a16 : A' 16 = A 16) (a : ∀ i, 90 ≤ i → i < 198 → (i < 90 + 9 * b ∨ 90 + 9 * b + 8 ≤ i) → A' i = A i)
    (r : A' (90 + 9 * b) = C' 1 b ∧ A' (90 + 9 * b + 1) = C' 2 b ∧ A' (90 + 9 * b + 2) = C' 3 b ∧ A' (90 + 9 * b + 3) = C' 4 b ∧ A' (90 + 9 * b + 4) = C' 5 b ∧ A' (90 + 9 * b + 5) = C' 6 b ∧ A' (90 + 9 * b + 6) = C' 7 b ∧ A' (90 + 9 * b + 7) = C' 9 b) (ok : BalOK nc C' b) : RBal nb nc C' A' := by
  obtain ⟨h0, h1, h2, h3, h4, h5, h6⟩ := h
  refine ⟨h0, e0.trans h1, a4.trans h2, by rw [a16, e8]; exact h3, by rw [e8]; exact h4, fun c hc => ?_, fun c hc => ?_⟩
  · by_cases q : c = b
    · subst q; exact r
    · obtain ⟨x0, x1, x2, x3, x4, x5, x6, x7⟩ := h5 c hc
      rw [e 1 c q (by decide) (by decide) (by decide), e 2 c q (by decide) (by decide) (by decide), e 3 c q (by decide) (by decide) (by decide), e 4 c q (by decide) (by decide) (by decide), e 5 c q (by decide) (by decide) (by decide), e 6 c q (by decide) (by decide) (by decide), e 7 c q (by decide) (by decide) (by decide), e 9 c q (by decide) (by decide) (by decide)]
      exact ⟨(a _ (by omega) (by omega) (by omega)).trans x0, (a _ (by omega) (by omega) (by omega)).trans x1, (a _ (by omega) (by omega) (by omega)).trans x2, (a _ (by omega) (by omega) (by omega)).trans x3, (a _ (by omega) (by omega) (by omega)).trans x4, (a _ (by omega) (by omega) (by omega)).trans x5, (a _ (by omega) (by omega) (by omega)).trans x6, (a _ (by omega) (by omega) (by omega)).trans x7⟩
  · by_cases q : c = b
    · subst q; exact ok
    · have := h6 c hc
      unfold BalOK at this ⊢
      rw [e 1 c q (by decide) (by decide) (by decide), e 2 c q (by decide) (by decide) (by decide), e 3 c q (by decide) (by decide) (by decide), e 4 c q (by decide) (by decide) (by decide), e 5 c q (by decide) (by decide) (by decide), e 6 c q (by decide) (by decide) (by decide), e 7 c q (by decide) (by decide) (by decide), e 9 c q (by decide) (by decide) (by decide)]
      exact this
/-- the whole relation when the bales alone change -/
theorem RelN.bales {yr nc nb nl tp : Nat} {μ : Nat → Mem} {C' : Mem} {A A' : Nat → Int32} (h : RelN yr nc nb nl tp μ A) (e : ∀ i, i < 2790 → i ≠ 4 → i ≠ 16 → (i < 90 ∨ 198 ≤ i) → A' i = A i) {nb' : Nat} (hB : RBal nb' nc C' A') : RelN yr nc nb' nl tp (va_up μ 1 C') A' := by
  obtain ⟨h1, h2, h3, h4, h5, h6, h7⟩ := h
  refine ⟨h1.cg (fun i hi => e i ?_ (mem11 hi (by decide)) (mem11 hi (by decide)) (Or.inl ?_)), hB, h3.cg (e _ (by decide) (by decide) (by decide) (by decide)) (fun i a b => e i (by omega) (by omega) (by omega) (by omega)), h4.cg (e _ (by decide) (by decide) (by decide) (by decide)) (fun i a b => e i (by omega) (by omega) (by omega) (by omega)), h5.cg h1.1 (fun i a b => e i (by omega) (by omega) (by omega) (by omega)), h6.cg (e _ (by decide) (by decide) (by decide) (by decide)) (fun i a b => e i (by omega) (by omega) (by omega) (by omega)), h7.cg (e _ (by decide) (by decide) (by decide) (by decide)) (fun i a b => e i (by omega) (by omega) (by omega) (by omega))⟩
  · simp only [List.mem_cons, List.not_mem_nil, or_false] at hi; omega
  · simp only [List.mem_cons, List.not_mem_nil, or_false] at hi; omega
theorem upd_if (f : Nat → Int32) (k : Nat) (x : Int32) (j : Nat) : upd f k x j = if j = k then x else f j := rfl
theorem st_press : S_press Rel0 := by
  intro μ I M p1 p2 hR
  obtain ⟨⟨yr, nc, nb, nl, tp, hN⟩, hI⟩ := id hR
  obtain ⟨h1, h2, h3, h4, h5, h6, h7⟩ := id hN
  obtain ⟨b0, b1, b2, b3, b4, b5, b6⟩ := id h2
  obtain ⟨-, -, -, s0, s1, -⟩ := id h1
  have no : f_X11_press (μ 0) (μ 1) p1 p2 = some (0, μ 1) → f_X12_press M p1 p2 = some (0, M) → ∃ (r : Int32) (N1 : Mem) (M' : Mem), f_X11_press (μ 0) (μ 1) p1 p2 = some (r, N1) ∧ f_X12_press M p1 p2 = some (r, M') ∧ Rel0 (va_up μ 1 N1) I M' := fun a b => ⟨0, μ 1, M, a, b, by rw [va_up_id]; exact hR⟩
  rcases s0 with c | c
  · have m1 : ¬ M 0 ((1 : Int32)).toNatClampNeg = 1 := by rw [show M 0 ((1 : Int32)).toNatClampNeg = 0 from s1.trans c]; decide
    rcases pk_ix p1 (n := nb) (by omega) with d | d | ⟨b, hb, rfl⟩
    · exact no (by simp [f_X11_press, c, waits_no b1 b0 (Or.inl d)]) (by unfold f_X12_press; rw [if_neg m1, isBale_no b2 (by omega) (Or.inl d)]; rfl)
    · exact no (by simp [f_X11_press, c, waits_no b1 b0 (Or.inr d)]) (by unfold f_X12_press; rw [if_neg m1, isBale_no b2 (by omega) (Or.inr d)]; rfl)
    · have y := waits_yes b1 b0 hb
      have z := isBale_yes b2 (by omega) hb
      have w := mlies_eq h2 h6.1 hb
      by_cases hw : μ 1 6 b = -1
      · rw [if_pos hw] at y w
        by_cases hp : (0 : Int32) ≤ p2 ∧ p2 ≤ 3
        · refine ⟨1, upA (μ 1) 5 (nI b) p2, put M (90 + 9 * b + 4) p2, ?_, ?_, ⟨yr, nc, nb, nl, tp, hN.bales (fun i a0 a1 a2 a3 => put_no (by omega)) (h2.set hb (by rw [upA_ne (by decide)]) (by rw [upA_ne (by decide)]) (fun k j hj _ _ _ => ?_) (put_no (by omega)) (put_no (by omega)) (fun i a0 a1 a2 => put_no (by omega)) ?_ ?_)⟩, hI.keep (Keep.pt (by omega))⟩
          · unfold f_X11_press
            rw [if_pos c, y]
            rw [Option.bind_some]
            rw [if_neg (by decide), within_eq, if_pos hp]
            rw [Option.bind_some]
            rw [if_neg (by decide), if_neg (nI_in (N := 12) (by omega) (by decide))]
            rfl
          · unfold f_X12_press
            rw [if_neg m1, z]
            rw [Option.bind_some]
            rw [if_neg (by decide), w]
            rw [Option.bind_some]
            rw [if_pos rfl, isIn_eq, if_pos hp]
            rw [Option.bind_some]
            rw [if_neg (by decide), sets_eq M b 4 4 _ rfl (by omega) (by decide)]
            rfl
          · by_cases q : k = 5
            · subst q; rw [upA_at, nI_clamp (by omega)]; exact pk_un hj
            · rw [upA_ne q]
          · obtain ⟨x0, x1, x2, x3, x4, x5, x6, x7⟩ := b5 b hb
            rw [upA_at, nI_clamp (by omega), upA_ne (by decide), upA_ne (by decide), upA_ne (by decide), upA_ne (by decide), upA_ne (by decide), upA_ne (by decide), upA_ne (by decide)]
            exact ⟨(put_no (by omega)).trans x0, (put_no (by omega)).trans x1, (put_no (by omega)).trans x2, (put_no (by omega)).trans x3, by rw [put_eq]; exact pk_us.symm, (put_no (by omega)).trans x5, (put_no (by omega)).trans x6, (put_no (by omega)).trans x7⟩
          · obtain ⟨x0, x1, x2, x3, x4, x5, x6⟩ := b6 b hb
            unfold BalOK
            rw [upA_at, nI_clamp (by omega), upA_ne (by decide), upA_ne (by decide), upA_ne (by decide), upA_ne (by decide), upA_ne (by decide), upA_ne (by decide), upA_ne (by decide), pk_us]
            exact ⟨x0, x1, x2, x3, rng (by decide) hp, x5, x6⟩
        · refine no ?_ ?_
          · unfold f_X11_press
            rw [if_pos c, y]
            rw [Option.bind_some]
            rw [if_neg (by decide), within_eq, if_neg hp]
            rfl
          · unfold f_X12_press
            rw [if_neg m1, z]
            rw [Option.bind_some]
            rw [if_neg (by decide), w]
            rw [Option.bind_some]
            rw [if_pos rfl, isIn_eq, if_neg hp]
            rfl
      · rw [if_neg hw] at y w
        refine no ?_ ?_
        · unfold f_X11_press
          rw [if_pos c, y]
          rfl
        · unfold f_X12_press
          rw [if_neg m1, z]
          rw [Option.bind_some]
          rw [if_neg (by decide), w]
          rfl
  · exact no (by simp [f_X11_press, c]) (by unfold f_X12_press; rw [if_pos (show M 0 ((1 : Int32)).toNatClampNeg = 1 from s1.trans c)])
theorem st_unlade : S_unlade Rel0 := by
  intro μ I M p1 hR
  obtain ⟨⟨yr, nc, nb, nl, tp, hN⟩, hI⟩ := id hR
  obtain ⟨h1, h2, h3, h4, h5, h6, h7⟩ := id hN
  obtain ⟨b0, b1, b2, b3, b4, b5, b6⟩ := id h2
  obtain ⟨-, -, -, s0, s1, -⟩ := id h1
  have no : f_X11_unlade (μ 0) (μ 1) p1 = some (0, μ 1) → f_X12_unlade M p1 = some (0, M) → ∃ (r : Int32) (N1 : Mem) (M' : Mem), f_X11_unlade (μ 0) (μ 1) p1 = some (r, N1) ∧ f_X12_unlade M p1 = some (r, M') ∧ Rel0 (va_up μ 1 N1) I M' := fun a b => ⟨0, μ 1, M, a, b, by rw [va_up_id]; exact hR⟩
  rcases s0 with c | c
  · have m1 : ¬ M 0 ((1 : Int32)).toNatClampNeg = 1 := by rw [show M 0 ((1 : Int32)).toNatClampNeg = 0 from s1.trans c]; decide
    rcases pk_ix p1 (n := nb) (by omega) with d | d | ⟨b, hb, rfl⟩
    · exact no (by simp [f_X11_unlade, c, lies_no b1 b0 (Or.inl d)]) (by unfold f_X12_unlade; rw [if_neg m1, isBale_no b2 (by omega) (Or.inl d)]; rfl)
    · exact no (by simp [f_X11_unlade, c, lies_no b1 b0 (Or.inr d)]) (by unfold f_X12_unlade; rw [if_neg m1, isBale_no b2 (by omega) (Or.inr d)]; rfl)
    · have y := lies_yes b1 b0 hb
      have z := isBale_yes b2 (by omega) hb
      have w := mlies_eq h2 h6.1 hb
      by_cases hw : μ 1 6 b = -1
      · rw [if_pos hw] at y w
        refine no ?_ ?_
        · unfold f_X11_unlade
          rw [if_pos c, y]
          rfl
        · unfold f_X12_unlade
          rw [if_neg m1, z]
          rw [Option.bind_some]
          rw [if_neg (by decide), w]
          rfl
      · rw [if_neg hw] at y w
        have t : f_X0_takeOff (μ 1) (nI b) = some (upA (upA (μ 1) 6 (nI b) (-1)) 7 (nI b) (-1)) := by
          unfold f_X0_takeOff
          rw [if_neg (nI_in (N := 12) (by omega) (by decide))]
          rfl
        refine ⟨1, upA (upA (μ 1) 6 (nI b) (-1)) 7 (nI b) (-1), put (put M (90 + 9 * b + 5) (-1)) (90 + 9 * b + 6) (-1), ?_, ?_, ⟨yr, nc, nb, nl, tp, hN.bales (fun i a0 a1 a2 a3 => (put_no (by omega)).trans (put_no (by omega))) (h2.set hb (by rw [upA_ne (by decide), upA_ne (by decide)]) (by rw [upA_ne (by decide), upA_ne (by decide)]) (fun k j hj _ _ _ => ?_) ((put_no (by omega)).trans (put_no (by omega))) ((put_no (by omega)).trans (put_no (by omega))) (fun i a0 a1 a2 => (put_no (by omega)).trans (put_no (by omega))) ?_ ?_)⟩, hI.keep ((Keep.pt (by omega)).tr (Keep.pt (by omega)))⟩
        · unfold f_X11_unlade
          rw [if_pos c, y]
          rw [Option.bind_some]
          rw [if_neg (by decide), t]
          rfl
        · unfold f_X12_unlade
          rw [if_neg m1, z]
          rw [Option.bind_some]
          rw [if_neg (by decide), w]
          rw [Option.bind_some]
          rw [if_neg (by decide), sets_eq M b 5 5 _ rfl (by omega) (by decide)]
          rw [Option.bind_some]
          rw [sets_eq _ b 6 6 _ rfl (by omega) (by decide)]
          rfl
        · by_cases q7 : k = 7
          · subst q7; rw [upA_at, nI_clamp (by omega), pk_un hj, upA_ne (by decide)]
          · rw [upA_ne q7]
            by_cases q6 : k = 6
            · subst q6; rw [upA_at, nI_clamp (by omega)]; exact pk_un hj
            · rw [upA_ne q6]
        · obtain ⟨x0, x1, x2, x3, x4, x5, x6, x7⟩ := b5 b hb
          have u : ∀ k, k ≠ 6 → k ≠ 7 → upA (upA (μ 1) 6 (nI b) (-1)) 7 (nI b) (-1) k = μ 1 k := fun k a a' => by rw [upA_ne a', upA_ne a]
          have u6 : upA (upA (μ 1) 6 (nI b) (-1)) 7 (nI b) (-1) 6 b = -1 := by rw [upA_ne (by decide), upA_at, nI_clamp (by omega)]; exact pk_us
          have u7 : upA (upA (μ 1) 6 (nI b) (-1)) 7 (nI b) (-1) 7 b = -1 := by rw [upA_at, nI_clamp (by omega)]; exact pk_us
          rw [u6, u7, u 1 (by decide) (by decide), u 2 (by decide) (by decide), u 3 (by decide) (by decide), u 4 (by decide) (by decide), u 5 (by decide) (by decide), u 9 (by decide) (by decide)]
          exact ⟨((put_no (by omega)).trans (put_no (by omega))).trans x0, ((put_no (by omega)).trans (put_no (by omega))).trans x1, ((put_no (by omega)).trans (put_no (by omega))).trans x2, ((put_no (by omega)).trans (put_no (by omega))).trans x3, ((put_no (by omega)).trans (put_no (by omega))).trans x4, (put_no (by omega)).trans (put_eq _ _ _), put_eq _ _ _, ((put_no (by omega)).trans (put_no (by omega))).trans x7⟩
        · obtain ⟨x0, x1, x2, x3, x4, x5, x6⟩ := b6 b hb
          have u : ∀ k, k ≠ 6 → k ≠ 7 → upA (upA (μ 1) 6 (nI b) (-1)) 7 (nI b) (-1) k = μ 1 k := fun k a a' => by rw [upA_ne a', upA_ne a]
          have u6 : upA (upA (μ 1) 6 (nI b) (-1)) 7 (nI b) (-1) 6 b = -1 := by rw [upA_ne (by decide), upA_at, nI_clamp (by omega)]; exact pk_us
          have u7 : upA (upA (μ 1) 6 (nI b) (-1)) 7 (nI b) (-1) 7 b = -1 := by rw [upA_at, nI_clamp (by omega)]; exact pk_us
          unfold BalOK
          rw [u6, u7, u 1 (by decide) (by decide), u 2 (by decide) (by decide), u 3 (by decide) (by decide), u 4 (by decide) (by decide), u 5 (by decide) (by decide), u 9 (by decide) (by decide)]
          exact ⟨x0, x1, x2, x3, x4, Or.inl ⟨rfl, rfl⟩, x6⟩
  · exact no (by simp [f_X11_unlade, c]) (by unfold f_X12_unlade; rw [if_pos (show M 0 ((1 : Int32)).toNatClampNeg = 1 from s1.trans c)])
