/-! ===== lade, ladeBest, sail ===== -/
theorem RBal.hold {nb nc b : Nat} {C M : Mem} {v6 v7 : Int32} (h2 : RBal nb nc C (M 0)) (hb : b < nb) (ok : (v6 = -1 ∧ v7 = -1) ∨ ((∃ z : Nat, z < nc ∧ v6 = nI z) ∧ (v7 = 0 ∨ v7 = 1))) : RBal nb nc (upA (upA C 6 (nI b) v6) 7 (nI b) v7) (put (put M (90 + 9 * b + 5) v6) (90 + 9 * b + 6) v7 0) := by
  obtain ⟨b0, b1, b2, b3, b4, b5, b6⟩ := id h2
  have u : ∀ k, k ≠ 6 → k ≠ 7 → upA (upA C 6 (nI b) v6) 7 (nI b) v7 k = C k := fun k a a' => by rw [upA_ne a', upA_ne a]
  have u6 : upA (upA C 6 (nI b) v6) 7 (nI b) v7 6 b = v6 := by rw [upA_ne (by decide), upA_at, nI_clamp (by omega)]; exact pk_us
  have u7 : upA (upA C 6 (nI b) v6) 7 (nI b) v7 7 b = v7 := by rw [upA_at, nI_clamp (by omega)]; exact pk_us
  refine h2.set hb (by rw [u 0 (by decide) (by decide)]) (by rw [u 8 (by decide) (by decide)]) (fun k j hj _ _ _ => ?_) ((put_no (by omega)).trans (put_no (by omega))) ((put_no (by omega)).trans (put_no (by omega))) (fun i a0 a1 a2 => (put_no (by omega)).trans (put_no (by omega))) ?_ ?_
  · by_cases q7 : k = 7
    · subst q7; rw [upA_at, nI_clamp (by omega), pk_un hj, upA_ne (by decide)]
    · rw [upA_ne q7]
      by_cases q6 : k = 6
      · subst q6; rw [upA_at, nI_clamp (by omega)]; exact pk_un hj
      · rw [upA_ne q6]
  · obtain ⟨x0, x1, x2, x3, x4, x5, x6, x7⟩ := b5 b hb
    rw [u6, u7, u 1 (by decide) (by decide), u 2 (by decide) (by decide), u 3 (by decide) (by decide), u 4 (by decide) (by decide), u 5 (by decide) (by decide), u 9 (by decide) (by decide)]
    exact ⟨((put_no (by omega)).trans (put_no (by omega))).trans x0, ((put_no (by omega)).trans (put_no (by omega))).trans x1, ((put_no (by omega)).trans (put_no (by omega))).trans x2, ((put_no (by omega)).trans (put_no (by omega))).trans x3, ((put_no (by omega)).trans (put_no (by omega))).trans x4, (put_no (by omega)).trans (put_eq _ _ _), put_eq _ _ _, ((put_no (by omega)).trans (put_no (by omega))).trans x7⟩
  · obtain ⟨x0, x1, x2, x3, x4, x5, x6⟩ := b6 b hb
    unfold BalOK
    rw [u6, u7, u 1 (by decide) (by decide), u 2 (by decide) (by decide), u 3 (by decide) (by decide), u 4 (by decide) (by decide), u 5 (by decide) (by decide), u 9 (by decide) (by decide)]
    exact ⟨x0, x1, x2, x3, x4, ok, x6⟩
/-- a bale is laid, or not: both sides alike -/
theorem lay_core {yr nc nb nl tp : Nat} {μ : Nat → Mem} {M : Mem} (hN : RelN yr nc nb nl tp μ (M 0)) (hs : μ 0 10 0 = 0) (p1 p2 p3 : Int32) (h3 : p3 = 0 ∨ p3 = 1) :
    ∃ (r : Int32) (C' M' : Mem), f_X7_layBale (μ 0) (μ 1) (μ 5) p1 p2 p3 = some (r, C') ∧ f_X12_lade M p1 p2 p3 = some (r, M') ∧ RelN yr nc nb nl tp (va_up μ 1 C') (M' 0) ∧ Keep M M' ∧ (r = 0 ∨ r = 1) ∧ C' 0 = μ 1 0 ∧ C' 1 = μ 1 1 ∧ C' 9 = μ 1 9 ∧ C' 8 = μ 1 8 := by
  obtain ⟨h1, h2, h3', h4, h5, h6, h7⟩ := id hN
  obtain ⟨b0, b1, b2, b3, b4, b5, b6⟩ := id h2
  obtain ⟨c0, c1, c2, c3, c4⟩ := id h6
  obtain ⟨-, -, -, -, s1, -⟩ := id h1
  have m1 : ¬ M 0 ((1 : Int32)).toNatClampNeg = 1 := by rw [show M 0 ((1 : Int32)).toNatClampNeg = 0 from s1.trans hs]; decide
  have no : f_X7_layBale (μ 0) (μ 1) (μ 5) p1 p2 p3 = some (0, μ 1) → f_X12_lade M p1 p2 p3 = some (0, M) → ∃ (r : Int32) (C' M' : Mem), f_X7_layBale (μ 0) (μ 1) (μ 5) p1 p2 p3 = some (r, C') ∧ f_X12_lade M p1 p2 p3 = some (r, M') ∧ RelN yr nc nb nl tp (va_up μ 1 C') (M' 0) ∧ Keep M M' ∧ (r = 0 ∨ r = 1) ∧ C' 0 = μ 1 0 ∧ C' 1 = μ 1 1 ∧ C' 9 = μ 1 9 ∧ C' 8 = μ 1 8 := fun a b => ⟨0, μ 1, M, a, b, by rw [va_up_id]; exact hN, Keep.rf M, Or.inl rfl, rfl, rfl, rfl, rfl⟩
  have i3 : (0 : Int32) ≤ p3 ∧ p3 ≤ 1 := by rcases h3 with rfl | rfl <;> decide
  rcases pk_ix p1 (n := nb) (by omega) with d | d | ⟨b, hb, rfl⟩
  · exact no (by simp [f_X7_layBale, waits_no b1 b0 (Or.inl d)]) (by unfold f_X12_lade; rw [if_neg m1, isBale_no b2 (by omega) (Or.inl d)]; rfl)
  · exact no (by simp [f_X7_layBale, waits_no b1 b0 (Or.inr d)]) (by unfold f_X12_lade; rw [if_neg m1, isBale_no b2 (by omega) (Or.inr d)]; rfl)
  · have y := waits_yes b1 b0 hb
    have z := isBale_yes b2 (by omega) hb
    have w := mlies_eq h2 c0 hb
    by_cases hw : μ 1 6 b = -1
    · rw [if_pos hw] at y w
      rcases pk_ix p2 (n := nc) (by omega) with d | d | ⟨c, hc, rfl⟩
      · refine no ?_ ?_
        · unfold f_X7_layBale
          rw [y]
          rw [Option.bind_some]
          rw [if_neg (by decide), has2_no c1 (by omega) (Or.inl d)]
          rfl
        · unfold f_X12_lade
          rw [if_neg m1, z]
          rw [Option.bind_some]
          rw [if_neg (by decide), w]
          rw [Option.bind_some]
          rw [if_pos rfl, isCit_no c2 (by omega) (Or.inl d)]
          rfl
      · refine no ?_ ?_
        · unfold f_X7_layBale
          rw [y]
          rw [Option.bind_some]
          rw [if_neg (by decide), has2_no c1 (by omega) (Or.inr d)]
          rfl
        · unfold f_X12_lade
          rw [if_neg m1, z]
          rw [Option.bind_some]
          rw [if_neg (by decide), w]
          rw [Option.bind_some]
          rw [if_pos rfl, isCit_no c2 (by omega) (Or.inr d)]
          rfl
      · have eA : f_X7_layBale (μ 0) (μ 1) (μ 5) (nI b) (nI c) p3 = if rmV (μ 1) b ≤ frV (μ 1) (μ 5) nb c then some (1, upA (upA (μ 1) 6 (nI b) (nI c)) 7 (nI b) p3) else some (0, μ 1) := by
          unfold f_X7_layBale
          rw [y]
          rw [Option.bind_some]
          rw [if_neg (by decide), has2_yes c1 (by omega) hc]
          rw [Option.bind_some]
          rw [if_neg (by decide), room0_eq (by omega), freeSlips_eq b1 b0 (by omega)]
          rw [Option.bind_some, Option.bind_some]
          rw [if_neg (nI_in (N := 12) (by omega) (by decide))]
          rfl
        have eB : f_X12_lade M (nI b) (nI c) p3 = if rmV (μ 1) b ≤ frV (μ 1) (μ 5) nb c then some (1, put (put M (90 + 9 * b + 5) (nI c)) (90 + 9 * b + 6) p3) else some (0, M) := by
          unfold f_X12_lade
          rw [if_neg m1, z]
          rw [Option.bind_some]
          rw [if_neg (by decide), w]
          rw [Option.bind_some]
          rw [if_pos rfl, isCit_yes c2 (by omega) hc]
          rw [Option.bind_some]
          rw [if_neg (by decide), isIn_eq, if_pos i3]
          rw [Option.bind_some]
          rw [if_neg (by decide), mroom_eq h2 hb, mfree_eq h2 h6 hc]
          rw [Option.bind_some, Option.bind_some]
          rw [sets_eq M b 5 5 _ rfl (by omega) (by decide)]
          rw [Option.bind_some]
          rw [sets_eq _ b 6 6 _ rfl (by omega) (by decide)]
          rfl
        by_cases hf : rmV (μ 1) b ≤ frV (μ 1) (μ 5) nb c
        · rw [if_pos hf] at eA eB
          exact ⟨1, _, _, eA, eB, hN.bales (fun i a0 a1 a2 a3 => (put_no (by omega)).trans (put_no (by omega))) (h2.hold hb (Or.inr ⟨⟨c, hc, rfl⟩, h3⟩)), (Keep.pt (by omega)).tr (Keep.pt (by omega)), Or.inr rfl, by rw [upA_ne (by decide), upA_ne (by decide)], by rw [upA_ne (by decide), upA_ne (by decide)], by rw [upA_ne (by decide), upA_ne (by decide)], by rw [upA_ne (by decide), upA_ne (by decide)]⟩
        · rw [if_neg hf] at eA eB
          exact no eA eB
    · rw [if_neg hw] at y w
      refine no ?_ ?_
      · unfold f_X7_layBale
        rw [y]
        rfl
      · unfold f_X12_lade
        rw [if_neg m1, z]
        rw [Option.bind_some]
        rw [if_neg (by decide), w]
        rfl
theorem lade_no3 {M : Mem} {p1 p2 p3 : Int32} {yr nc nb nl tp : Nat} {μ : Nat → Mem} (hN : RelN yr nc nb nl tp μ (M 0)) (h3 : ¬ ((0 : Int32) ≤ p3 ∧ p3 ≤ 1)) : f_X12_lade M p1 p2 p3 = some (0, M) := by
  obtain ⟨h1, h2, h3', h4, h5, h6, h7⟩ := id hN
  obtain ⟨b0, b1, b2, b3, b4, b5, b6⟩ := id h2
  obtain ⟨c0, c1, c2, c3, c4⟩ := id h6
  unfold f_X12_lade
  by_cases m1 : M 0 ((1 : Int32)).toNatClampNeg = 1
  · rw [if_pos m1]
  · rw [if_neg m1]
    rcases pk_ix p1 (n := nb) (by omega) with d | d | ⟨b, hb, rfl⟩
    · rw [isBale_no b2 (by omega) (Or.inl d)]; rfl
    · rw [isBale_no b2 (by omega) (Or.inr d)]; rfl
    · rw [isBale_yes b2 (by omega) hb]
      rw [Option.bind_some]
      rw [if_neg (by decide), mlies_eq h2 c0 hb]
      rw [Option.bind_some]
      by_cases hw : μ 1 6 b = -1
      · rw [if_pos hw, if_pos rfl]
        rcases pk_ix p2 (n := nc) (by omega) with d | d | ⟨c, hc, rfl⟩
        · rw [isCit_no c2 (by omega) (Or.inl d)]; rfl
        · rw [isCit_no c2 (by omega) (Or.inr d)]; rfl
        · rw [isCit_yes c2 (by omega) hc]
          rw [Option.bind_some]
          rw [if_neg (by decide), isIn_eq, if_neg h3]
          rfl
      · rw [if_neg hw]; rfl
theorem side01 {p : Int32} (h : (0 : Int32) ≤ p ∧ p ≤ 1) : p = 0 ∨ p = 1 := by
  obtain ⟨z, hz, rfl⟩ := rng (n := 1) (by decide) h
  rcases (show z = 0 ∨ z = 1 by omega) with rfl | rfl
  · exact Or.inl rfl
  · exact Or.inr rfl
theorem st_lade : S_lade Rel0 := by
  intro μ I M p1 p2 p3 hR
  obtain ⟨⟨yr, nc, nb, nl, tp, hN⟩, hI⟩ := id hR
  obtain ⟨-, -, -, s0, s1, -⟩ := id hN.1
  rcases s0 with c | c
  · by_cases h3 : (0 : Int32) ≤ p3 ∧ p3 ≤ 1
    · obtain ⟨r, C', M', e1, e2, e3, e4, e5, -⟩ := lay_core hN c p1 p2 p3 (side01 h3)
      refine ⟨r, C', M', ?_, e2, ⟨yr, nc, nb, nl, tp, e3⟩, hI.keep e4⟩
      unfold f_X11_lade
      rw [if_pos c, within_eq, if_pos h3]
      rw [Option.bind_some]
      rw [if_neg (by decide), e1]
      show (if ¬ (r = 0 ∨ r = 1) then none else some (r, C')) = _
      rw [if_neg (not_not_intro e5)]
    · refine ⟨0, μ 1, M, ?_, lade_no3 hN h3, by rw [va_up_id]; exact hR⟩
      unfold f_X11_lade
      rw [if_pos c, within_eq, if_neg h3]
      rfl
  · refine ⟨0, μ 1, M, by simp [f_X11_lade, c], ?_, by rw [va_up_id]; exact hR⟩
    unfold f_X12_lade
    rw [if_pos (show M 0 ((1 : Int32)).toNatClampNeg = 1 from s1.trans c)]
