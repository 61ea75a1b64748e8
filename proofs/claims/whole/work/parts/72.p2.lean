/-! ===== steps: fault, end, rule, book, about, bestSide, press, unlade ===== -/
theorem mem11 {i j : Nat} {S : List Nat} (h : i ∈ S) (hj : j ∉ S) : i ≠ j := fun e => hj (e ▸ h)
theorem st_fault : S_fault Rel0 := by
  intro μ I M p1 hR
  obtain ⟨⟨yr, nc, nb, nl, tp, h1, h2, h3, h4, h5, h6, h7⟩, hI⟩ := id hR
  obtain ⟨-, -, -, -, -, -, -, -, e13, e14, -⟩ := h1
  by_cases c0 : p1 = 0
  · exact ⟨μ 0 7 0, by simp [f_X11_fault, c0], by simp [f_X12_fault, c0, e13], hR⟩
  · by_cases c1 : p1 = 1
    · exact ⟨μ 0 8 0, by simp [f_X11_fault, c1], by simp [f_X12_fault, c1, e14], hR⟩
    · exact ⟨-1, by simp [f_X11_fault, c0, c1], by simp [f_X12_fault, c0, c1], hR⟩
theorem st_end : S_end Rel0 := by
  intro μ I M p1 hR
  obtain ⟨⟨yr, nc, nb, nl, tp, h1, h2, h3, h4, h5, h6, h7⟩, hI⟩ := id hR
  obtain ⟨t0, t1, t2, t3, t4⟩ := id h7
  by_cases c0 : p1 < 0
  · exact ⟨-1, μ 7, M, by simp [f_X11_end, c0], by simp [f_X12_end, c0], by rw [va_up_id]; exact hR⟩
  · by_cases c1 : p1 ≤ nI tp
    · obtain ⟨j, hj, rfl⟩ := nI_of2 (nI_toInt (n := tp) (by omega)) c0 c1
      refine ⟨nI j, upS (μ 7) 1 (nI j), put M 12 (nI j), ?_, ?_, ⟨yr, nc, nb, nl, j, ?_⟩, hI.keep (Keep.pt (by decide))⟩
      · unfold f_X11_end
        rw [if_neg c0, t1, if_pos c1]
        rfl
      · unfold f_X12_end
        rw [if_neg c0, show M 0 ((12 : Int32)).toNatClampNeg = nI tp from t2, if_pos c1, upA_lit M 12 12 _ rfl]
        rfl
      · have e : ∀ i, i ≠ 12 → put M 12 (nI j) 0 i = M 0 i := fun i hi => put_no hi
        refine ⟨h1.cg (fun i hi => e i (mem11 hi (by decide))), h2.cg (e _ (by decide)) (e _ (by decide)) (fun i a b => e i (by omega)), h3.cg (e _ (by decide)) (fun i a b => e i (by omega)), h4.cg (e _ (by decide)) (fun i a b => e i (by omega)), h5.cg h1.1 (fun i a b => e i (by omega)), h6.cg (e _ (by decide)) (fun i a b => e i (by omega)), ?_⟩
        show RTape j (upS (μ 7) 1 (nI j)) _
        refine ⟨by omega, upS_at _ _ _ _, put_eq _ _ _, fun i hi => ?_, fun i hi => ?_⟩
        · rw [e _ (by omega), t3 i (by omega), upS_ne (by decide)]
        · rw [upS_ne (by decide)]; exact t4 i hi
    · refine ⟨-1, μ 7, M, ?_, ?_, by rw [va_up_id]; exact hR⟩
      · unfold f_X11_end
        rw [if_neg c0, t1, if_neg c1]
      · unfold f_X12_end
        rw [if_neg c0, show M 0 ((12 : Int32)).toNatClampNeg = nI tp from t2, if_neg c1]
theorem rng {p : Int32} {n : Nat} (hn : n < 2147483648) (h : (0 : Int32) ≤ p ∧ p ≤ nI n) : ∃ z : Nat, z ≤ n ∧ p = nI z := by
  obtain ⟨j, hj, e⟩ := nI_of2 (nI_toInt (n := n) hn) (by rw [Int32.not_lt]; exact h.1) h.2
  exact ⟨j, hj, e⟩
theorem st_rule : S_rule Rel0 := by
  intro μ I M p1 p2 hR
  obtain ⟨⟨yr, nc, nb, nl, tp, h1, h2, h3, h4, h5, h6, h7⟩, hI⟩ := id hR
  have no : (¬ ((0 : Int32) ≤ p1 ∧ p1 ≤ 3)) → f_X11_rule (μ 0) (μ 6) p1 p2 = some (0, μ 6) ∧ f_X12_rule M p1 p2 = some (0, M) := by
    intro h
    have a0 : p1 ≠ 0 := fun e => h (by rw [e]; decide)
    have a1 : p1 ≠ 1 := fun e => h (by rw [e]; decide)
    have a2 : p1 ≠ 2 := fun e => h (by rw [e]; decide)
    have a3 : p1 ≠ 3 := fun e => h (by rw [e]; decide)
    have b : ¬ ((0 : Int32) ≤ p2 ∧ p2 ≤ -1) := by
      intro q
      have := Int32.le_trans q.1 q.2
      exact absurd this (by decide)
    refine ⟨?_, ?_⟩
    · have e : f_X6_change (μ 6) p1 p2 = some (0, μ 6) := by
        unfold f_X6_change f_X6_greatest
        rw [if_neg a0, if_neg a1, if_neg a2, if_neg a3, Option.bind_some, within_eq, if_neg b]
        rfl
      unfold f_X11_rule
      rw [e]
      rfl
    · simp [f_X12_rule, isIn_eq, h]
  by_cases hp : (0 : Int32) ≤ p1 ∧ p1 ≤ 3
  · obtain ⟨k, hk, rfl⟩ := rng (n := 3) (by decide) hp
    have key : ∀ (n : Nat), n < 2147483648 → f_X6_greatest (nI k) = some (nI n) → f_X12_mostOf (nI k) = some (nI n) →
        (∀ q, RNum yr (μ 0) (μ 6) (M 0) → ((0 : Int32) ≤ q ∧ q ≤ nI n) → RNum yr (μ 0) (upS (μ 6) k q) (put M (8 + k) q 0)) →
        (∀ q, (if nI k = (0 : Int32) then wr (upS (μ 6) 0 q) fun m => some ((1 : Int32), m) else if nI k = (1 : Int32) then wr (upS (μ 6) 1 q) fun m => some ((1 : Int32), m) else if nI k = (2 : Int32) then wr (upS (μ 6) 2 q) fun m => some ((1 : Int32), m) else wr (upS (μ 6) 3 q) fun m => some ((1 : Int32), m)) = some (1, upS (μ 6) k q)) →
        ∃ (r : Int32) (N6 : Mem) (M' : Mem), f_X11_rule (μ 0) (μ 6) (nI k) p2 = some (r, N6) ∧ f_X12_rule M (nI k) p2 = some (r, M') ∧ Rel0 (va_up μ 6 N6) I M' := by
      intro n hn g1 g2 g3 g4
      by_cases hq : (0 : Int32) ≤ p2 ∧ p2 ≤ nI n
      · refine ⟨1, upS (μ 6) k p2, put M (8 + k) p2, ?_, ?_, ⟨yr, nc, nb, nl, tp, ?_⟩, hI.keep (Keep.pt (by omega))⟩
        · have e : f_X6_change (μ 6) (nI k) p2 = some (1, upS (μ 6) k p2) := by
            unfold f_X6_change
            rw [g1]
            rw [Option.bind_some]
            rw [within_eq, if_pos hq]
            exact g4 p2
          unfold f_X11_rule
          rw [e]
          rfl
        · unfold f_X12_rule
          rw [isIn_eq, if_pos hp, g2]
          rw [Option.bind_some, if_neg (by decide), Option.bind_some]
          rw [isIn_eq, if_pos hq, Option.bind_some, if_neg (by decide), show (8 : Int32) + nI k = nI (8 + k) from nI_add 8 k]
          rw [if_neg (nI_in (by omega) (by decide)), upA_put _ _ (by omega)]
          rfl
        · have e : ∀ i, i ≠ 8 + k → put M (8 + k) p2 0 i = M 0 i := fun i hi => put_no hi
          exact ⟨g3 p2 h1 hq, h2.cg (e _ (by omega)) (e _ (by omega)) (fun i a b => e i (by omega)), h3.cg (e _ (by omega)) (fun i a b => e i (by omega)), h4.cg (e _ (by omega)) (fun i a b => e i (by omega)), h5.cg h1.1 (fun i a b => e i (by omega)), h6.cg (e _ (by omega)) (fun i a b => e i (by omega)), h7.cg (e _ (by omega)) (fun i a b => e i (by omega))⟩
      · refine ⟨0, μ 6, M, ?_, ?_, by rw [va_up_id]; exact hR⟩
        · have e : f_X6_change (μ 6) (nI k) p2 = some (0, μ 6) := by
            unfold f_X6_change
            rw [g1]
            rw [Option.bind_some]
            rw [within_eq, if_neg hq]
            rfl
          unfold f_X11_rule
          rw [e]
          rfl
        · unfold f_X12_rule
          rw [isIn_eq, if_pos hp, g2]
          rw [Option.bind_some, if_neg (by decide), Option.bind_some]
          rw [isIn_eq, if_neg hq]
          rfl
    have num : ∀ q, RNum yr (μ 0) (μ 6) (M 0) → ∀ i, i ≠ 8 + k → put M (8 + k) q 0 i = M 0 i := fun q _ i hi => put_no hi
    rcases (show k = 0 ∨ k = 1 ∨ k = 2 ∨ k = 3 by omega) with rfl | rfl | rfl | rfl
    · refine key 2400 (by decide) rfl rfl (fun q h hq => ?_) (fun q => rfl)
      obtain ⟨a0, a1, a2, a3, a4, a5, a6, a7, a8, a9, a10, a11, a12, a13, a14, a15, a16, a17, a18⟩ := h
      exact ⟨a0, a1, a2, a3, a4, a5, a6, a7, a8, a9, a10, by rw [put_eq, upS_at], a12, a13, a14, by rw [upS_at]; exact rng (by decide) hq, a16, a17, a18⟩
    · refine key 2400 (by decide) rfl rfl (fun q h hq => ?_) (fun q => rfl)
      obtain ⟨a0, a1, a2, a3, a4, a5, a6, a7, a8, a9, a10, a11, a12, a13, a14, a15, a16, a17, a18⟩ := h
      exact ⟨a0, a1, a2, a3, a4, a5, a6, a7, a8, a9, a10, a11, by rw [put_eq, upS_at], a13, a14, a15, by rw [upS_at]; exact rng (by decide) hq, a17, a18⟩
    · refine key 12000 (by decide) rfl rfl (fun q h hq => ?_) (fun q => rfl)
      obtain ⟨a0, a1, a2, a3, a4, a5, a6, a7, a8, a9, a10, a11, a12, a13, a14, a15, a16, a17, a18⟩ := h
      exact ⟨a0, a1, a2, a3, a4, a5, a6, a7, a8, a9, a10, a11, a12, by rw [put_eq, upS_at], a14, a15, a16, by rw [upS_at]; exact rng (by decide) hq, a18⟩
    · refine key 9 (by decide) rfl rfl (fun q h hq => ?_) (fun q => rfl)
      obtain ⟨a0, a1, a2, a3, a4, a5, a6, a7, a8, a9, a10, a11, a12, a13, a14, a15, a16, a17, a18⟩ := h
      exact ⟨a0, a1, a2, a3, a4, a5, a6, a7, a8, a9, a10, a11, a12, a13, by rw [put_eq, upS_at], a15, a16, a17, by rw [upS_at]; exact rng (by decide) hq⟩
  · obtain ⟨a, b⟩ := no hp
    exact ⟨0, μ 6, M, a, b, by rw [va_up_id]; exact hR⟩
theorem st_book : S_book Rel0 := by
  intro μ I M p1 p2 hR
  obtain ⟨⟨yr, nc, nb, nl, tp, h1, h2, h3, h4, h5, h6, h7⟩, hI⟩ := id hR
  obtain ⟨y0, y1, y2, -⟩ := h1
  rcases pk_ix p1 (n := yr) (by omega) with c | c | ⟨y, hy, rfl⟩
  · refine ⟨-1, ?_, ?_, hR⟩
    · simp [f_X11_book, within_eq, y1, in_no (n := yr) (by omega) (Or.inl c)]
    · simp [f_X12_book, isIn_eq, y2, in_no (n := yr) (by omega) (Or.inl c)]
  · refine ⟨-1, ?_, ?_, hR⟩
    · simp [f_X11_book, within_eq, y1, in_no (n := yr) (by omega) (Or.inr c)]
    · simp [f_X12_book, isIn_eq, y2, in_no (n := yr) (by omega) (Or.inr c)]
  · by_cases hp : (0 : Int32) ≤ p2 ∧ p2 ≤ 8
    · obtain ⟨k, hk, rfl⟩ := rng (n := 8) (by decide) hp
      refine ⟨μ 4 0 (9 * y + k), ?_, ?_, hR⟩
      · have hy2 : (0 : Int32) ≤ nI y ∧ nI y ≤ 198 := ⟨nI_pos' (by omega), nI_le (b := 198) (by omega) (by decide)⟩
        have e : f_X10_entry (μ 4) (nI y) (nI k) = some (μ 4 0 (9 * y + k)) := by
          unfold f_X10_entry f_X10_isCell
          rw [within_eq, if_pos hy2, within_eq, if_pos hp]
          have e1 : nI y * (9 : Int32) + nI k = nI (9 * y + k) := by
            show nI y * nI 9 + nI k = _
            rw [pk_mul, nI_add, Nat.mul_comm]
          show (if nI y * (9 : Int32) + nI k < 0 ∨ 1791 ≤ (nI y * (9 : Int32) + nI k).toNatClampNeg then none else some (μ 4 0 (nI y * (9 : Int32) + nI k).toNatClampNeg)) = _
          rw [e1, if_neg (nI_in (by omega) (by decide)), nI_clamp (by omega)]
        unfold f_X11_book
        rw [y1, within_eq, if_pos (in_yes hy (by omega)), within_eq, if_pos hp, e]
        rfl
      · unfold f_X12_book
        rw [show M 0 ((0 : Int32)).toNatClampNeg = nI yr from y2, isIn_eq, if_pos (in_yes hy (by omega)), isIn_eq, if_pos hp]
        have e1 : ((280 : Int32) + (9 : Int32) * nI y) + nI k = nI (280 + (9 * y + k)) := by
          show (nI 280 + nI 9 * nI y) + nI k = _
          rw [pk_mul, nI_add, nI_add, Nat.add_assoc]
        show (if ((280 : Int32) + (9 : Int32) * nI y) + nI k < 0 ∨ 11160 ≤ (((280 : Int32) + (9 : Int32) * nI y) + nI k).toNatClampNeg then none else some (M 0 (((280 : Int32) + (9 : Int32) * nI y) + nI k).toNatClampNeg)) = _
        rw [e1, if_neg (nI_in (by omega) (by decide)), nI_clamp (by omega), h5.1 _ (by omega)]
    · refine ⟨-1, ?_, ?_, hR⟩
      · simp [f_X11_book, within_eq, y1, in_yes hy (n := yr) (by omega), hp]
      · simp [f_X12_book, isIn_eq, y2, in_yes hy (n := yr) (by omega), hp]
