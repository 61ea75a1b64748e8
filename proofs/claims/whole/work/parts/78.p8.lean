/-! ===== citizen, bale, loan ===== -/
theorem ix20 (c : Nat) : (20 : Int32) + (8 : Int32) * nI c = nI (20 + 8 * c) := by
  show nI 20 + nI 8 * nI c = _
  rw [pk_mul, nI_add]
theorem citizen_L (p1 p2 : Int32) (c : Nat) (hc : c < 8) : ∀ (k j n : Nat) (M : Mem), j + k = 8 → k < n → ∃ M' : Mem, f_X12_citizen_L43 n M p1 p2 (nI c) (nI j) = some (nI c, M') ∧ Keep M M' ∧ M' 0 (20 + 8 * c) = p1 ∧ M' 0 (20 + 8 * c + 1) = (if p2 = 0 then 0 else 1) ∧ (∀ t, 2 ≤ t → t < 8 → j ≤ t → M' 0 (20 + 8 * c + t) = 0) ∧ (∀ i, (i < 20 + 8 * c + j ∧ i ≠ 20 + 8 * c ∧ i ≠ 20 + 8 * c + 1 ∨ 28 + 8 * c ≤ i) → M' 0 i = M 0 i)
  | 0, j, n + 1, M, h, _ => by
    have e : j = 8 := by omega
    subst e
    refine ⟨put (put M (20 + 8 * c) p1) (20 + 8 * c + 1) (if p2 = 0 then 0 else 1), ?_, (Keep.pt (by omega)).tr (Keep.pt (by omega)), ?_, put_eq _ _ _, fun t _ _ _ => absurd ‹t < 8› (by omega), fun i hi => ?_⟩
    · rw [f_X12_citizen_L43, if_pos (by decide), ix20, if_neg (nI_in (by omega) (by decide)), show nI (20 + 8 * c) + (1 : Int32) = nI (20 + 8 * c + 1) from nI_1 _, wr_s, if_neg (nI_in (N := 11160) (c := 20 + 8 * c + 1) (by omega) (by decide)), if_neg (nI_in (N := 11160) (c := 20 + 8 * c + 1) (by omega) (by decide)), wr_s, wr_s, upA_put _ _ (by omega), upA_put _ _ (by omega), upA_put _ _ (by omega)]
      by_cases z : p2 = 0
      · rw [if_pos z, if_pos z]
      · rw [if_neg z, if_neg z]
    · rw [put_no (by omega), put_eq]
    · rw [put_no (by omega), put_no (by omega)]
  | k + 1, j, n + 1, M, h, hn => by
    obtain ⟨M', g1, g2, g3, g4, g5, g6⟩ := citizen_L p1 p2 c hc k (j + 1) n (put M (20 + 8 * c + j) 0) (by omega) (by omega)
    refine ⟨M', ?_, (Keep.pt (by omega)).tr g2, g3, g4, fun t a b d => ?_, fun i hi => ?_⟩
    · rw [f_X12_citizen_L43, if_neg (show ¬ (8 : Int32) ≤ nI j from nI_ge (a := j) (b := 8) (by omega) (by decide)), ix_of, if_neg (nI_in (by omega) (by decide)), upA_put _ _ (by omega), wr_s, nI_1]
      exact g1
    · by_cases q : t = j
      · subst q
        rw [g6 _ (by omega), put_eq]
      · exact g5 t a b (by omega)
    · rw [g6 i (by omega), put_no (by omega)]
  | k, j, 0, _, _, hn => absurd hn (by omega)
theorem BalOK.mono {nc nc' : Nat} {C : Mem} {b : Nat} (h : BalOK nc C b) (hn : nc ≤ nc') : BalOK nc' C b := by
  obtain ⟨⟨z, hz, ez⟩, x1, x2, x3, x4, x5, x6⟩ := h
  refine ⟨⟨z, by omega, ez⟩, x1, x2, x3, x4, ?_, x6⟩
  rcases x5 with x | ⟨⟨w, hw, ew⟩, x⟩
  · exact Or.inl x
  · exact Or.inr ⟨⟨w, by omega, ew⟩, x⟩
theorem RBal.mono {nb nc nc' : Nat} {C : Mem} {A : Nat → Int32} (h : RBal nb nc C A) (hn : nc ≤ nc') : RBal nb nc' C A := by
  obtain ⟨h0, h1, h2, h3, h4, h5, h6⟩ := h
  exact ⟨h0, h1, h2, h3, h4, h5, fun b hb => (h6 b hb).mono hn⟩
theorem RLoan.mono {nl nc nc' : Nat} {B : Mem} {A : Nat → Int32} (h : RLoan nl nc B A) (hn : nc ≤ nc') : RLoan nl nc' B A := by
  obtain ⟨h0, h1, h2, h3, h4⟩ := h
  refine ⟨h0, h1, h2, h3, fun k hk => ?_⟩
  obtain ⟨⟨z, hz, ez⟩, ⟨w, hw, ew⟩⟩ := h4 k hk
  exact ⟨⟨z, by omega, ez⟩, ⟨w, by omega, ew⟩⟩
theorem st_citizen : S_citizen Rel0 := by
  intro μ I M p1 p2 hR hp2
  obtain ⟨⟨yr, nc, nb, nl, tp, hN⟩, hI⟩ := id hR
  obtain ⟨h1, h2, h3, h4, h5, h6, h7⟩ := id hN
  obtain ⟨c0, c1, c2, c3, c4⟩ := id h6
  have m3 : M 0 ((3 : Int32)).toNatClampNeg = nI nc := c2
  have no : f_X11_citizen (μ 0) (μ 5) p1 p2 = some (-1, μ 5) → f_X12_citizen M p1 p2 = some (-1, M) → ∃ (r : Int32) (N5 : Mem) (M' : Mem), f_X11_citizen (μ 0) (μ 5) p1 p2 = some (r, N5) ∧ f_X12_citizen M p1 p2 = some (r, M') ∧ Rel0 (va_up μ 5 N5) I M' := fun a b => ⟨-1, μ 5, M, a, b, by rw [va_up_id]; exact hR⟩
  by_cases hp : (0 : Int32) ≤ p1 ∧ p1 ≤ 9
  · by_cases h8 : nc = 8
    · refine no ?_ ?_
      · unfold f_X11_citizen f_X2_enter
        rw [within_eq, if_pos hp, Option.bind_some, if_neg (by decide), c1, if_neg (show ¬ nI nc < (8 : Int32) from nI_nlt (a := nc) (b := 8) (by omega) (by omega))]
        rfl
      · unfold f_X12_citizen
        rw [m3, if_pos (by rw [h8]; rfl)]
    · obtain ⟨M', g1, g2, g3, g4, g5, g6⟩ := citizen_L p1 p2 nc (by omega) 8 0 FU (put M 3 (nI (nc + 1))) (by omega) (FU_gt (by omega))
      have eA : f_X11_citizen (μ 0) (μ 5) p1 p2 = some (nI nc, upS (upA (upA (μ 5) 1 (nI nc) p1) 2 (nI nc) p2) 0 (nI (nc + 1))) := by
        unfold f_X11_citizen f_X2_enter
        rw [within_eq, if_pos hp, Option.bind_some, if_neg (by decide), c1, if_pos (show nI nc < (8 : Int32) from nI_lt (a := nc) (b := 8) (by omega) (by omega)), if_neg (nI_in (N := 8) (by omega) (by decide)), wr_s, upA_ne (k := 1) (j := 0) (by decide), c1]
        have e38 : ∀ v : Int32, f_X2_enter_L38 (upA (μ 5) 1 (nI nc) p1) v (nI nc) = some (nI nc, upS (upA (upA (μ 5) 1 (nI nc) p1) 2 (nI nc) v) 0 (nI (nc + 1))) := by
          intro v
          unfold f_X2_enter_L38
          rw [if_neg (nI_in (N := 8) (by omega) (by decide)), wr_s, wr_s, upS_at, upA_ne (k := 2) (j := 0) (by decide), upA_ne (k := 1) (j := 0) (by decide), c1, nI_1, nI_pred]
        rcases hp2 with rfl | rfl
        · rw [if_pos rfl, e38, bd2_s]
        · rw [if_neg (by decide), e38, bd2_s]
      have eB : f_X12_citizen M p1 p2 = some (nI nc, M') := by
        unfold f_X12_citizen
        rw [m3, if_neg (fun (e : nI nc = 8) => h8 ((nI_eq (b := 8) (by omega) (by decide)).mp e)), isIn_eq, if_pos hp, Option.bind_some, if_neg (by decide), upA_lit M 3 3 _ rfl, wr_s, nI_1]
        exact g1
      have e3 : ∀ i, i ≠ 3 → (i < 20 + 8 * nc ∨ 28 + 8 * nc ≤ i) → M' 0 i = M 0 i := by
        intro i a b
        by_cases q : 28 + 8 * nc ≤ i
        · rw [g6 i (Or.inr q), put_no a]
        · rw [g6 i (Or.inl (by omega)), put_no a]
      refine ⟨nI nc, _, M', eA, eB, ⟨yr, nc + 1, nb, nl, tp, ?_⟩, hI.keep ((Keep.pt (by decide)).tr g2)⟩
      refine ⟨h1.cg (fun i hi => e3 i (mem11 hi (by decide)) (Or.inl ?_)), (h2.mono (by omega)).cg (e3 _ (by decide) (by omega)) (e3 _ (by decide) (by omega)) (fun i a b => e3 i (by omega) (by omega)), (h3.mono (by omega)).cg (e3 _ (by decide) (by omega)) (fun i a b => e3 i (by omega) (by omega)), h4.cg (e3 _ (by decide) (by omega)) (fun i a b => e3 i (by omega) (by omega)), h5.cg h1.1 (fun i a b => e3 i (by omega) (by omega)), ?_, h7.cg (e3 _ (by decide) (by omega)) (fun i a b => e3 i (by omega) (by omega))⟩
      · simp only [List.mem_cons, List.not_mem_nil, or_false] at hi; omega
      · show RCit (nc + 1) (upS (upA (upA (μ 5) 1 (nI nc) p1) 2 (nI nc) p2) 0 (nI (nc + 1))) (M' 0)
        refine RCit.of (by omega) (upS_at _ _ _ _) ?_ (fun c k hc hk => ?_) (fun c a b => ?_)
        · rw [g6 3 (Or.inl (by omega)), put_eq]
        · rw [upS_ne (by omega), upA_get _ _ _ (by omega), upA_get _ _ _ (by omega)]
          by_cases q : c = nc
          · subst q
            obtain ⟨x3, x4, x5, x6, x7⟩ := c4 c (by omega) (by omega)
            rcases (show k = 0 ∨ k = 1 ∨ 2 ≤ k by omega) with rfl | rfl | hk2
            · rw [if_neg (by omega), if_pos (by omega)]
              exact g3
            · rw [if_pos (by omega), g4]
              rcases hp2 with rfl | rfl
              · rfl
              · rfl
            · rw [if_neg (by omega), if_neg (by omega), g5 k hk2 (by omega) (by omega)]
              rcases (show k = 2 ∨ k = 3 ∨ k = 4 ∨ k = 5 ∨ k = 6 by omega) with rfl | rfl | rfl | rfl | rfl
              · exact x3.symm
              · exact x4.symm
              · exact x5.symm
              · exact x6.symm
              · exact x7.symm
          · rw [if_neg (by omega), if_neg (by omega), e3 _ (by omega) (by omega)]
            exact h6.row (by omega) hk
        · have u : ∀ k, 3 ≤ k → upS (upA (upA (μ 5) 1 (nI nc) p1) 2 (nI nc) p2) 0 (nI (nc + 1)) k c = μ 5 k c := fun k hk => by rw [upS_ne (by omega), upA_ne (by omega), upA_ne (by omega)]
          rw [u 3 (by decide), u 4 (by decide), u 5 (by decide), u 6 (by decide), u 7 (by decide)]
          exact c4 c (by omega) b
  · refine no ?_ ?_
    · unfold f_X11_citizen
      rw [within_eq, if_neg hp]
      rfl
    · unfold f_X12_citizen
      rw [isIn_eq, if_neg hp]
      split <;> rfl
theorem upA_self (C : Mem) (k : Nat) {b : Nat} (v : Int32) (hb : b < 2147483648) : upA C k (nI b) v k b = v := by rw [upA_get _ _ _ hb, if_pos ⟨rfl, rfl⟩]
theorem st_bale : S_bale Rel0 := by
  intro μ I M p1 p2 p3 p4 hR
  obtain ⟨⟨yr, nc, nb, nl, tp, hN⟩, hI⟩ := id hR
  obtain ⟨h1, h2, h3, h4, h5, h6, h7⟩ := id hN
  obtain ⟨b0, b1, b2, b3, b4, b5, b6⟩ := id h2
  obtain ⟨-, -, -, s0, s1, -⟩ := id h1
  have m1 : M 0 ((1 : Int32)).toNatClampNeg = μ 0 10 0 := s1
  have m4 : M 0 ((4 : Int32)).toNatClampNeg = nI nb := b2
  have h8 := h6.1
  have no : f_X11_bale (μ 0) (μ 1) (μ 5) p1 p2 p3 p4 = some (-1, μ 1) → f_X12_bale M p1 p2 p3 p4 = some (-1, M) → ∃ (r : Int32) (N1 : Mem) (M' : Mem), f_X11_bale (μ 0) (μ 1) (μ 5) p1 p2 p3 p4 = some (r, N1) ∧ f_X12_bale M p1 p2 p3 p4 = some (r, M') ∧ Rel0 (va_up μ 1 N1) I M' := fun a b => ⟨-1, μ 1, M, a, b, by rw [va_up_id]; exact hR⟩
  rcases s0 with c | c
  · have n1 : ¬ μ 0 10 0 = 1 := by rw [c]; decide
    by_cases h12 : nb = 12
    · refine no ?_ ?_
      · have e : f_X0_enter (μ 1) p1 p2 p3 p4 = some (-1, μ 1) := by
          unfold f_X0_enter
          rw [b1, if_neg (show ¬ nI nb < (12 : Int32) from nI_nlt (a := nb) (b := 12) (by omega) (by omega))]
        have hh : f_X2_has (μ 5) p1 = some 0 ∨ f_X2_has (μ 5) p1 = some 1 := by
          rcases pk_ix p1 (n := nc) (by omega) with d | d | ⟨b, hb, rfl⟩
          · exact Or.inl (has2_no h6.2.1 (by omega) (Or.inl d))
          · exact Or.inl (has2_no h6.2.1 (by omega) (Or.inr d))
          · exact Or.inr (has2_yes h6.2.1 (by omega) hb)
        unfold f_X11_bale
        rw [if_pos c, within_eq, within_eq, within_eq, e]
        rcases hh with hh | hh
        · rw [hh]; rfl
        · rw [hh, Option.bind_some, if_neg (by decide), Option.bind_some, Option.bind_some, Option.bind_some, bd2_s]
          simp only [ite_self]
      · unfold f_X12_bale
        rw [m1, if_neg n1, m4, if_pos (by rw [h12]; rfl)]
    · have m12 : ¬ nI nb = 12 := fun e => h12 ((nI_eq (b := 12) (by omega) (by decide)).mp e)
      rcases pk_ix p1 (n := nc) (by omega) with d | d | ⟨a, ha, rfl⟩
      · refine no ?_ ?_
        · unfold f_X11_bale
          rw [if_pos c, has2_no h6.2.1 (by omega) (Or.inl d)]; rfl
        · unfold f_X12_bale
          rw [m1, if_neg n1, m4, if_neg m12, isCit_no h6.2.2.1 (by omega) (Or.inl d)]; rfl
      · refine no ?_ ?_
        · unfold f_X11_bale
          rw [if_pos c, has2_no h6.2.1 (by omega) (Or.inr d)]; rfl
        · unfold f_X12_bale
          rw [m1, if_neg n1, m4, if_neg m12, isCit_no h6.2.2.1 (by omega) (Or.inr d)]; rfl
      · by_cases q2 : (1 : Int32) ≤ p2 ∧ p2 ≤ 40
        · by_cases q3 : (1 : Int32) ≤ p3 ∧ p3 ≤ 200
          · by_cases q4 : (1 : Int32) ≤ p4 ∧ p4 ≤ 1000
            · have eA : f_X11_bale (μ 0) (μ 1) (μ 5) (nI a) p2 p3 p4 = some (nI nb, upS (upA (upA (upA (upA (upA (upA (upA (upA (μ 1) 1 (nI nb) (nI a)) 2 (nI nb) p2) 3 (nI nb) p3) 4 (nI nb) p4) 5 (nI nb) 0) 9 (nI nb) 2) 6 (nI nb) (-1)) 7 (nI nb) (-1)) 0 (nI (nb + 1))) := by
                have u : ∀ (C : Mem) (k : Nat) (v : Int32), k ≠ 0 → C 0 0 = nI nb → upA C k (nI nb) v 0 0 = nI nb := fun C k v hk hC => by rw [upA_ne (Ne.symm hk)]; exact hC
                have u1 := u (μ 1) 1 (nI a) (by decide) b1
                have u2 := u _ 2 p2 (by decide) u1
                have u3 := u _ 3 p3 (by decide) u2
                have u4 := u _ 4 p4 (by decide) u3
                have u5 := u _ 5 0 (by decide) u4
                have u9 := u _ 9 2 (by decide) u5
                have u6 := u _ 6 (-1) (by decide) u9
                have u7 := u _ 7 (-1) (by decide) u6
                have hin : ¬ (nI nb < 0 ∨ 12 ≤ (nI nb).toNatClampNeg) := nI_in (N := 12) (by omega) (by decide)
                unfold f_X11_bale f_X0_enter f_X0_takeOff
                rw [if_pos c, has2_yes h6.2.1 (by omega) ha, within_eq, if_pos q2, within_eq, if_pos q3, within_eq, if_pos q4]
                rw [Option.bind_some, if_neg (by decide), Option.bind_some, if_neg (by decide), Option.bind_some, if_neg (by decide), Option.bind_some, if_neg (by decide)]
                rw [b1, if_pos (show nI nb < (12 : Int32) from nI_lt (a := nb) (b := 12) (by omega) (by omega)), if_neg hin, wr_s, u1, if_neg hin, wr_s, u2, if_neg hin, wr_s, u3, if_neg hin, wr_s, u4, if_neg hin, wr_s, u5, if_neg hin, wr_s, u9, if_neg hin, wr_s, wr_s, Option.bind_some, wr_s, bd2_s, upS_at, u7, nI_1, nI_pred]
              have eB : f_X12_bale M (nI a) p2 p3 p4 = some (nI nb, put (put (put (put (put (put (put (put (put M 4 (nI (nb + 1))) (90 + 9 * nb + 0) (nI a)) (90 + 9 * nb + 1) p2) (90 + 9 * nb + 2) p3) (90 + 9 * nb + 3) p4) (90 + 9 * nb + 4) 0) (90 + 9 * nb + 5) (-1)) (90 + 9 * nb + 6) (-1)) (90 + 9 * nb + 7) 2) := by
                unfold f_X12_bale
                rw [m1, if_neg n1, m4, if_neg m12, isCit_yes h6.2.2.1 (by omega) ha, isIn_eq, if_pos q2, isIn_eq, if_pos q3, isIn_eq, if_pos q4]
                rw [Option.bind_some, if_neg (by decide), Option.bind_some, if_neg (by decide), Option.bind_some, if_neg (by decide), Option.bind_some, if_neg (by decide)]
                rw [upA_lit M 4 4 _ rfl, wr_s, nI_1]
                rw [sets_eq _ nb 0 0 _ rfl (by omega) (by decide), Option.bind_some, sets_eq _ nb 1 1 _ rfl (by omega) (by decide), Option.bind_some, sets_eq _ nb 2 2 _ rfl (by omega) (by decide), Option.bind_some, sets_eq _ nb 3 3 _ rfl (by omega) (by decide), Option.bind_some, sets_eq _ nb 4 4 _ rfl (by omega) (by decide), Option.bind_some, sets_eq _ nb 5 5 _ rfl (by omega) (by decide), Option.bind_some, sets_eq _ nb 6 6 _ rfl (by omega) (by decide), Option.bind_some, sets_eq _ nb 7 7 _ rfl (by omega) (by decide), Option.bind_some]
              refine ⟨_, _, _, eA, eB, ⟨yr, nc, nb + 1, nl, tp, hN.bales (fun i a0 a1 a2 a3 => ?_) ?_⟩, hI.keep (((((((((Keep.pt (by omega)).tr (Keep.pt (by omega))).tr (Keep.pt (by omega))).tr (Keep.pt (by omega))).tr (Keep.pt (by omega))).tr (Keep.pt (by omega))).tr (Keep.pt (by omega))).tr (Keep.pt (by omega))).tr (Keep.pt (by omega)))⟩
              · simp only [put_get]
                rw [if_neg (by omega), if_neg (by omega), if_neg (by omega), if_neg (by omega), if_neg (by omega), if_neg (by omega), if_neg (by omega), if_neg (by omega), if_neg (by omega)]
              · have g : ∀ k j, k ≠ 0 → upS (upA (upA (upA (upA (upA (upA (upA (upA (μ 1) 1 (nI nb) (nI a)) 2 (nI nb) p2) 3 (nI nb) p3) 4 (nI nb) p4) 5 (nI nb) 0) 9 (nI nb) 2) 6 (nI nb) (-1)) 7 (nI nb) (-1)) 0 (nI (nb + 1)) k j = if j = nb then (if k = 7 then -1 else if k = 6 then -1 else if k = 9 then 2 else if k = 5 then 0 else if k = 4 then p4 else if k = 3 then p3 else if k = 2 then p2 else if k = 1 then nI a else μ 1 k j) else μ 1 k j := by
                  intro k j hk
                  rw [upS_ne hk]
                  simp only [upA_get _ _ _ (show nb < 2147483648 by omega)]
                  by_cases q : j = nb
                  · simp only [q, and_true, if_true]
                  · simp only [q, and_false, if_false]
                refine ⟨by omega, upS_at _ _ _ _, ?_, ?_, ?_, fun b hb => ?_, fun b hb => ?_⟩
                · simp only [put_get]
                  rw [if_neg (by omega), if_neg (by omega), if_neg (by omega), if_neg (by omega), if_neg (by omega), if_neg (by omega), if_neg (by omega), if_neg (by omega), if_pos trivial]
                · rw [g 8 0 (by decide)]
                  simp only [put_get]
                  rw [if_neg (by omega), if_neg (by omega), if_neg (by omega), if_neg (by omega), if_neg (by omega), if_neg (by omega), if_neg (by omega), if_neg (by omega), if_neg (by omega), b3]
                  by_cases q : 0 = nb
                  · rw [if_pos q]; simp
                  · rw [if_neg q]
                · rw [g 8 0 (by decide)]
                  by_cases q : 0 = nb
                  · rw [if_pos q]; simpa using b4
                  · rw [if_neg q]; exact b4
                · rw [g 1 b (by decide), g 2 b (by decide), g 3 b (by decide), g 4 b (by decide), g 5 b (by decide), g 6 b (by decide), g 7 b (by decide), g 9 b (by decide)]
                  by_cases q : b = nb
                  · subst q
                    simp [put_get]
                  · obtain ⟨x0, x1, x2, x3, x4, x5, x6, x7⟩ := b5 b (by omega)
                    rw [if_neg q, if_neg q, if_neg q, if_neg q, if_neg q, if_neg q, if_neg q, if_neg q]
                    have w : ∀ i, 90 ≤ i → i < 90 + 9 * nb → put (put (put (put (put (put (put (put (put M 4 (nI (nb + 1))) (90 + 9 * nb + 0) (nI a)) (90 + 9 * nb + 1) p2) (90 + 9 * nb + 2) p3) (90 + 9 * nb + 3) p4) (90 + 9 * nb + 4) 0) (90 + 9 * nb + 5) (-1)) (90 + 9 * nb + 6) (-1)) (90 + 9 * nb + 7) 2 0 i = M 0 i := by
                      intro i i1 i2
                      simp only [put_get]
                      rw [if_neg (by omega), if_neg (by omega), if_neg (by omega), if_neg (by omega), if_neg (by omega), if_neg (by omega), if_neg (by omega), if_neg (by omega), if_neg (by omega)]
                    exact ⟨(w _ (by omega) (by omega)).trans x0, (w _ (by omega) (by omega)).trans x1, (w _ (by omega) (by omega)).trans x2, (w _ (by omega) (by omega)).trans x3, (w _ (by omega) (by omega)).trans x4, (w _ (by omega) (by omega)).trans x5, (w _ (by omega) (by omega)).trans x6, (w _ (by omega) (by omega)).trans x7⟩
                · unfold BalOK
                  rw [g 1 b (by decide), g 2 b (by decide), g 3 b (by decide), g 4 b (by decide), g 5 b (by decide), g 6 b (by decide), g 7 b (by decide), g 9 b (by decide)]
                  by_cases q : b = nb
                  · rw [if_pos q, if_pos q, if_pos q, if_pos q, if_pos q, if_pos q, if_pos q, if_pos q]
                    obtain ⟨z2, hz2, e2⟩ := rng (n := 40) (by decide) ⟨Int32.le_trans (by decide) q2.1, q2.2⟩
                    obtain ⟨z3, hz3, e3⟩ := rng (n := 200) (by decide) ⟨Int32.le_trans (by decide) q3.1, q3.2⟩
                    obtain ⟨z4, hz4, e4⟩ := rng (n := 1000) (by decide) ⟨Int32.le_trans (by decide) q4.1, q4.2⟩
                    have l1 : ∀ {p : Int32} {z : Nat}, (1 : Int32) ≤ p → p = nI z → z < 2147483648 → 1 ≤ z := fun {p z} hp hz hl => by
                      rw [hz] at hp
                      exact (nI_leI (a := 1) (by decide) hl).mp hp
                    refine ⟨⟨a, ha, by simp⟩, ⟨z2, l1 q2.1 e2 (by omega), hz2, by simpa using e2⟩, ⟨z3, l1 q3.1 e3 (by omega), hz3, by simpa using e3⟩, ⟨z4, l1 q4.1 e4 (by omega), hz4, by simpa using e4⟩, ⟨0, by omega, by simp [nI_0]⟩, Or.inl ⟨by simp, by simp⟩, by simp⟩
                  · rw [if_neg q, if_neg q, if_neg q, if_neg q, if_neg q, if_neg q, if_neg q, if_neg q]
                    exact b6 b (by omega)
            · refine no ?_ ?_
              · unfold f_X11_bale
                rw [if_pos c, has2_yes h6.2.1 (by omega) ha, within_eq, if_pos q2, within_eq, if_pos q3, within_eq, if_neg q4]; rfl
              · unfold f_X12_bale
                rw [m1, if_neg n1, m4, if_neg m12, isCit_yes h6.2.2.1 (by omega) ha, isIn_eq, if_pos q2, isIn_eq, if_pos q3, isIn_eq, if_neg q4]; rfl
          · refine no ?_ ?_
            · unfold f_X11_bale
              rw [if_pos c, has2_yes h6.2.1 (by omega) ha, within_eq, if_pos q2, within_eq, if_neg q3]; rfl
            · unfold f_X12_bale
              rw [m1, if_neg n1, m4, if_neg m12, isCit_yes h6.2.2.1 (by omega) ha, isIn_eq, if_pos q2, isIn_eq, if_neg q3]; rfl
        · refine no ?_ ?_
          · unfold f_X11_bale
            rw [if_pos c, has2_yes h6.2.1 (by omega) ha, within_eq, if_neg q2]; rfl
          · unfold f_X12_bale
            rw [m1, if_neg n1, m4, if_neg m12, isCit_yes h6.2.2.1 (by omega) ha, isIn_eq, if_neg q2]; rfl
  · refine no ?_ ?_
    · unfold f_X11_bale
      rw [if_neg (by rw [c]; decide)]
    · unfold f_X12_bale
      rw [m1, if_pos c]
