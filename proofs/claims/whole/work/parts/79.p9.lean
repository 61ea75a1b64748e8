/-! ===== loan, count, board ===== -/
theorem ix200 (c n : Nat) : ((200 : Int32) + (4 : Int32) * nI c) + nI n = nI (200 + 4 * c + n) := by
  show (nI 200 + nI 4 * nI c) + nI n = _
  rw [pk_mul, nI_add, nI_add]
theorem ix200' (c : Nat) : (200 : Int32) + (4 : Int32) * nI c = nI (200 + 4 * c) := by
  show nI 200 + nI 4 * nI c = _
  rw [pk_mul, nI_add]
theorem st_loan : S_loan Rel0 := by
  intro μ I M p1 p2 p3 p4 hR
  obtain ⟨⟨yr, nc, nb, nl, tp, hN⟩, hI⟩ := id hR
  obtain ⟨h1, h2, h3, h4, h5, h6, h7⟩ := id hN
  obtain ⟨l0, l1, l2, l3, l4⟩ := id h3
  obtain ⟨-, -, -, s0, s1, -⟩ := id h1
  have m1 : M 0 ((1 : Int32)).toNatClampNeg = μ 0 10 0 := s1
  have m5 : M 0 ((5 : Int32)).toNatClampNeg = nI nl := l2
  have h8 := h6.1
  have no : f_X11_loan (μ 0) (μ 2) (μ 5) p1 p2 p3 p4 = some (-1, μ 2, μ 5) → f_X12_loan M p1 p2 p3 p4 = some (-1, M) → ∃ (r : Int32) (N2 : Mem) (N5 : Mem) (M' : Mem), f_X11_loan (μ 0) (μ 2) (μ 5) p1 p2 p3 p4 = some (r, N2, N5) ∧ f_X12_loan M p1 p2 p3 p4 = some (r, M') ∧ Rel0 (va_up (va_up μ 2 N2) 5 N5) I M' := fun a b => ⟨-1, μ 2, μ 5, M, a, b, by rw [va_up_id μ 2, va_up_id]; exact hR⟩
  rcases s0 with c | c
  · have n1 : ¬ μ 0 10 0 = 1 := by rw [c]; decide
    rcases two_of h6 p1 p2 with ⟨x, y⟩ | ⟨a, b, ha, hb, hab, rfl, rfl, x, y1, y2⟩
    · refine no ?_ ?_
      · unfold f_X11_loan
        rw [if_pos c, x]
        rfl
      · unfold f_X12_loan
        rw [m1, if_neg n1]
        by_cases q : M 0 ((5 : Int32)).toNatClampNeg = 20
        · rw [if_pos q]
        · rw [if_neg q]
          rcases y with y | ⟨y1, y2⟩ | ⟨y1, y2, y3⟩
          · rw [y]; rfl
          · rw [y1, Option.bind_some, if_neg (by decide), y2]; rfl
          · rw [y1, Option.bind_some, if_neg (by decide), y2, Option.bind_some, if_neg (by decide), if_pos y3]
    · have nab : ¬ nI a = nI b := fun e => hab ((nI_eq (by omega) (by omega)).mp e)
      by_cases h20 : nl = 20
      · refine no ?_ ?_
        · have e : f_X5_enter (μ 2) (nI a) (nI b) p3 p4 = some (-1, μ 2) := by
            unfold f_X5_enter
            rw [l1, if_neg (show ¬ nI nl < (20 : Int32) from nI_nlt (a := nl) (b := 20) (by omega) (by omega))]
          unfold f_X11_loan
          rw [if_pos c, x, Option.bind_some, if_neg (by decide), within_eq, within_eq, e, Option.bind_some, Option.bind_some, bd2_s, if_pos rfl]
          simp only [ite_self]
        · unfold f_X12_loan
          rw [m1, if_neg n1, m5, if_pos (by rw [h20]; rfl)]
      · have m20 : ¬ nI nl = 20 := fun e => h20 ((nI_eq (b := 20) (by omega) (by decide)).mp e)
        by_cases q3 : (1 : Int32) ≤ p3 ∧ p3 ≤ 10000
        · by_cases q4 : (0 : Int32) ≤ p4 ∧ p4 ≤ 100
          · have eA : f_X11_loan (μ 0) (μ 2) (μ 5) (nI a) (nI b) p3 p4 = some (nI nl, upS (upA (upA (upA (upA (μ 2) 1 (nI nl) (nI a)) 2 (nI nl) (nI b)) 3 (nI nl) p3) 4 (nI nl) p4) 0 (nI (nl + 1)), upA (upA (μ 5) 5 (nI a) (μ 5 5 a - p3)) 5 (nI b) (μ 5 5 b + p3)) := by
              have u : ∀ (C : Mem) (k : Nat) (v : Int32), k ≠ 0 → C 0 0 = nI nl → upA C k (nI nl) v 0 0 = nI nl := fun C k v hk hC => by rw [upA_ne (Ne.symm hk)]; exact hC
              have u1 := u (μ 2) 1 (nI a) (by decide) l1
              have u2 := u _ 2 (nI b) (by decide) u1
              have u3 := u _ 3 p3 (by decide) u2
              have u4 := u _ 4 p4 (by decide) u3
              have hin : ¬ (nI nl < 0 ∨ 20 ≤ (nI nl).toNatClampNeg) := nI_in (N := 20) (by omega) (by decide)
              unfold f_X11_loan f_X5_enter
              rw [if_pos c, x, within_eq, if_pos q3, within_eq, if_pos q4]
              rw [Option.bind_some, if_neg (by decide), Option.bind_some, if_neg (by decide), Option.bind_some, if_neg (by decide)]
              rw [l1, if_pos (show nI nl < (20 : Int32) from nI_lt (a := nl) (b := 20) (by omega) (by omega)), if_neg hin, wr_s, u1, if_neg hin, wr_s, u2, if_neg hin, wr_s, u3, if_neg hin, wr_s, wr_s, bd2_s, upS_at, u4, nI_1, nI_pred, if_neg (nI_ne_m1 (by omega)), pay_eq p3 (by omega) (by omega) hab, Option.bind_some]
            have r1 := h6.cell ha (show 4 < 7 by decide) (μ 5 5 a - p3)
            have r2 := r1.cell hb (show 4 < 7 by decide) (μ 5 5 b + p3)
            have hM : ∃ M4 : Mem, M4 = put (put (put (put M (200 + 4 * nl) (nI a)) (200 + 4 * nl + 1) (nI b)) (200 + 4 * nl + 2) p3) (200 + 4 * nl + 3) p4 := ⟨_, rfl⟩
            obtain ⟨M4, hM4⟩ := hM
            have e4 : ∀ i, (i < 200 + 4 * nl ∨ 200 + 4 * nl + 4 ≤ i) → M4 0 i = M 0 i := by
              intro i hi
              rw [hM4]
              simp only [put_get]
              rw [if_neg (by omega), if_neg (by omega), if_neg (by omega), if_neg (by omega)]
            have h64 : RCit nc (μ 5) (M4 0) := h6.cg (e4 _ (by omega)) (fun i a b => e4 i (by omega))
            have r1 := h64.cell ha (show 4 < 7 by decide) (μ 5 5 a - p3)
            have r2 := r1.cell hb (show 4 < 7 by decide) (μ 5 5 b + p3)
            have g1 := cit_add h64 ha (show 4 < 7 by decide) (-p3) 4 rfl
            have g2 := cit_add r1 hb (show 4 < 7 by decide) p3 4 rfl
            rw [← Int32.sub_eq_add_neg] at g1
            rw [upA_get _ _ _ (by omega), if_neg (by omega)] at g2
            have hM : ∃ M6 : Mem, M6 = put (put M4 (20 + 8 * a + 4) (μ 5 5 a - p3)) (20 + 8 * b + 4) (μ 5 5 b + p3) := ⟨_, rfl⟩
            obtain ⟨M6, hM6⟩ := hM
            rw [← hM6] at r2 g2
            have e6 : ∀ i, (i < 20 ∨ 84 ≤ i) → M6 0 i = M4 0 i := by
              intro i hi
              rw [hM6]
              simp only [put_get]
              rw [if_neg (by omega), if_neg (by omega)]
            have eB : f_X12_loan M (nI a) (nI b) p3 p4 = some (nI nl, put M6 5 (nI (nl + 1))) := by
              unfold f_X12_loan
              rw [m1, if_neg n1, m5, if_neg m20, y1, y2, isIn_eq, if_pos q3, isIn_eq, if_pos q4, if_neg nab]
              rw [Option.bind_some, if_neg (by decide), Option.bind_some, if_neg (by decide), Option.bind_some, if_neg (by decide), Option.bind_some, if_neg (by decide)]
              rw [ix200', show nI (200 + 4 * nl) + (1 : Int32) = nI (200 + 4 * nl + 1) from nI_add _ 1, show nI (200 + 4 * nl) + (2 : Int32) = nI (200 + 4 * nl + 2) from nI_add _ 2, show nI (200 + 4 * nl) + (3 : Int32) = nI (200 + 4 * nl + 3) from nI_add _ 3]
              rw [if_neg (nI_in (by omega) (by decide)), wr_s, if_neg (nI_in (by omega) (by decide)), wr_s, if_neg (nI_in (by omega) (by decide)), wr_s, if_neg (nI_in (by omega) (by decide)), wr_s]
              rw [upA_put _ _ (by omega), upA_put _ _ (by omega), upA_put _ _ (by omega), upA_put _ _ (by omega), ← hM4, g1, Option.bind_some, g2, Option.bind_some, upA_lit M6 5 5 _ rfl, wr_s]
              rw [show M6 0 ((5 : Int32)).toNatClampNeg = nI nl from (e6 5 (by omega)).trans ((e4 5 (by omega)).trans l2), nI_1, show put M6 5 (nI (nl + 1)) 0 ((5 : Int32)).toNatClampNeg = nI (nl + 1) from put_eq _ _ _, nI_pred]
            have e7 : ∀ i, i ≠ 5 → (i < 20 ∨ 84 ≤ i) → (i < 200 + 4 * nl ∨ 200 + 4 * nl + 4 ≤ i) → put M6 5 (nI (nl + 1)) 0 i = M 0 i := fun i a1 a2 a3 => by rw [put_no a1, e6 i a2, e4 i a3]
            refine ⟨_, _, _, _, eA, eB, ⟨yr, nc, nb, nl + 1, tp, ?_⟩, hI.keep ?_⟩
            · refine ⟨h1.cg (fun i hi => e7 i (mem11 hi (by decide)) (Or.inl ?_) (Or.inl ?_)), h2.cg (e7 _ (by decide) (by decide) (by omega)) (e7 _ (by decide) (by decide) (by omega)) (fun i a b => e7 i (by omega) (by omega) (by omega)), ?_, h4.cg (e7 _ (by decide) (by decide) (by omega)) (fun i a b => e7 i (by omega) (by omega) (by omega)), h5.cg h1.1 (fun i a b => e7 i (by omega) (by omega) (by omega)), ?_, h7.cg (e7 _ (by decide) (by decide) (by omega)) (fun i a b => e7 i (by omega) (by omega) (by omega))⟩
              · simp only [List.mem_cons, List.not_mem_nil, or_false] at hi; omega
              · simp only [List.mem_cons, List.not_mem_nil, or_false] at hi; omega
              · show RLoan (nl + 1) nc (upS (upA (upA (upA (upA (μ 2) 1 (nI nl) (nI a)) 2 (nI nl) (nI b)) 3 (nI nl) p3) 4 (nI nl) p4) 0 (nI (nl + 1))) (put M6 5 (nI (nl + 1)) 0)
                have g : ∀ k j, k ≠ 0 → upS (upA (upA (upA (upA (μ 2) 1 (nI nl) (nI a)) 2 (nI nl) (nI b)) 3 (nI nl) p3) 4 (nI nl) p4) 0 (nI (nl + 1)) k j = if j = nl then (if k = 4 then p4 else if k = 3 then p3 else if k = 2 then nI b else if k = 1 then nI a else μ 2 k j) else μ 2 k j := by
                  intro k j hk
                  rw [upS_ne hk]
                  simp only [upA_get _ _ _ (show nl < 2147483648 by omega)]
                  by_cases q : j = nl
                  · simp only [q, and_true, if_true]
                  · simp only [q, and_false, if_false]
                refine ⟨by omega, upS_at _ _ _ _, put_eq _ _ _, fun k hk => ?_, fun k hk => ?_⟩
                · rw [g 1 k (by decide), g 2 k (by decide), g 3 k (by decide), g 4 k (by decide)]
                  by_cases q : k = nl
                  · subst q
                    rw [put_no (by omega), put_no (by omega), put_no (by omega), put_no (by omega), e6 _ (by omega), e6 _ (by omega), e6 _ (by omega), e6 _ (by omega), hM4]
                    simp [put_get]
                  · rw [if_neg q, if_neg q, if_neg q, if_neg q, e7 _ (by omega) (by omega) (by omega), e7 _ (by omega) (by omega) (by omega), e7 _ (by omega) (by omega) (by omega), e7 _ (by omega) (by omega) (by omega)]
                    exact l3 k (by omega)
                · rw [g 1 k (by decide), g 2 k (by decide)]
                  by_cases q : k = nl
                  · rw [if_pos q, if_pos q]
                    exact ⟨⟨a, ha, by simp⟩, ⟨b, hb, by simp⟩⟩
                  · rw [if_neg q, if_neg q]
                    exact l4 k (by omega)
              · exact r2.cg (put_no (by omega)) (fun i a b => put_no (by omega))
            · rw [hM6, hM4]
              exact ((((((Keep.pt (by omega)).tr (Keep.pt (by omega))).tr (Keep.pt (by omega))).tr (Keep.pt (by omega))).tr (Keep.pt (by omega))).tr (Keep.pt (by omega))).tr (Keep.pt (by omega))
          · refine no ?_ ?_
            · unfold f_X11_loan
              rw [if_pos c, x, within_eq, if_pos q3, within_eq, if_neg q4]; rfl
            · unfold f_X12_loan
              rw [m1, if_neg n1, m5, if_neg m20, y1, y2, isIn_eq, if_pos q3, isIn_eq, if_neg q4, if_neg nab]; rfl
        · refine no ?_ ?_
          · unfold f_X11_loan
            rw [if_pos c, x, within_eq, if_neg q3]; rfl
          · unfold f_X12_loan
            rw [m1, if_neg n1, m5, if_neg m20, y1, y2, isIn_eq, if_neg q3, if_neg nab]; rfl
  · refine no ?_ ?_
    · unfold f_X11_loan
      rw [if_neg (by rw [c]; decide)]
    · unfold f_X12_loan
      rw [m1, if_pos c]
/-! how many bales lie -/
def gW (C : Mem) (b : Nat) : Int32 := if C 6 b = -1 then 1 else 0
def gL (C : Mem) (b : Nat) : Int32 := if C 6 b = -1 then 0 else 1
theorem gL_gW (C : Mem) : ∀ n, sumI (gL C) n = nI n - sumI (gW C) n
  | 0 => (Int32.sub_self (a := 0)).symm
  | n + 1 => by
    rw [sumI, sumI, gL_gW C n, nI_succ, gL, gW]
    by_cases q : C 6 n = -1
    · rw [if_pos q, if_pos q]; grind
    · rw [if_neg q, if_neg q]; grind
theorem waiting_L (C : Mem) (N : Nat) (hN : C 0 0 = nI N) (hb : N ≤ 12) : ∀ (k j n : Nat), j + k = N → k < n → f_X0_waiting_L4 n C (sumI (gW C) j) (nI j) = some (sumI (gW C) N)
  | 0, j, n + 1, h, _ => by
    have e : j = N := by omega
    subst e
    rw [f_X0_waiting_L4, if_pos (by rw [hN]; exact Int32.le_refl _)]
  | k + 1, j, n + 1, h, hn => by
    rw [f_X0_waiting_L4, if_neg (by rw [hN]; exact nI_ge (by omega) (by omega)), waits_yes hN hb (by omega), Option.bind_some]
    have ih := waiting_L C N hN hb k (j + 1) n (by omega) (by omega)
    rw [sumI, gW] at ih
    by_cases q : C 6 j = -1
    · rw [if_pos q] at ih
      rw [if_pos q, if_neg (by decide), nI_1]
      exact ih
    · rw [if_neg q] at ih
      rw [if_neg q, if_pos rfl, nI_1]
      exact ih
  | k, j, 0, _, hn => absurd hn (by omega)
theorem waiting_eq {C : Mem} {N : Nat} (hN : C 0 0 = nI N) (hb : N ≤ 12) : f_X0_waiting C = some (sumI (gW C) N) := waiting_L C N hN hb N 0 FU (by omega) (FU_gt (by omega))
theorem mcount_L {nb nc : Nat} {C M : Mem} (hR : RBal nb nc C (M 0)) (hc : nc ≤ 8) (p : Int32) : ∀ (k j n : Nat), j + k = nb → k < n → ∃ n', f_X12_count_L4 n M p (sumI (gL C) j) (nI j) = f_X12_count_L4 (n' + 1) M p (sumI (gL C) nb) (nI nb)
  | 0, j, n + 1, h, _ => by
    have e : j = nb := by omega
    subst e
    exact ⟨n, rfl⟩
  | k + 1, j, n + 1, h, hn => by
    have hb := hR.1
    obtain ⟨n', ih⟩ := mcount_L hR hc p k (j + 1) n (by omega) (by omega)
    refine ⟨n', ?_⟩
    rw [f_X12_count_L4, if_neg (by rw [show M 0 ((4 : Int32)).toNatClampNeg = nI nb from hR.2.2.1]; exact nI_ge (by omega) (by omega)), mlies_eq hR hc (by omega), Option.bind_some]
    rw [sumI, gL] at ih
    by_cases q : C 6 j = -1
    · rw [if_pos q] at ih
      rw [if_pos q, if_pos rfl, nI_1]
      exact ih
    · rw [if_neg q] at ih
      rw [if_neg q, if_neg (by decide), nI_1]
      exact ih
  | k, j, 0, _, hn => absurd hn (by omega)
theorem st_count : S_count Rel0 := by
  intro μ I M p1 hR
  obtain ⟨⟨yr, nc, nb, nl, tp, hN⟩, hI⟩ := id hR
  obtain ⟨h1, h2, h3, h4, h5, h6, h7⟩ := id hN
  obtain ⟨a0, a1, a2, a3, a4, a5, a6, a7, a8, a9, a10, -⟩ := id h1
  obtain ⟨ln, ln0, ln1, ln2, -⟩ := id h4
  have h8 := h6.1
  have hb := h2.1
  obtain ⟨n', e⟩ := mcount_L h2 h8 p1 nb 0 FU (by omega) (FU_gt (by omega))
  have e : f_X12_count M p1 = f_X12_count_L4 (n' + 1) M p1 (sumI (gL (μ 1)) nb) (nI nb) := e
  rw [f_X12_count_L4, if_pos (by rw [show M 0 ((4 : Int32)).toNatClampNeg = nI nb from h2.2.2.1]; exact Int32.le_refl _), gL_gW, show M 0 ((3 : Int32)).toNatClampNeg = nI nc from h6.2.2.1, show M 0 ((4 : Int32)).toNatClampNeg = nI nb from h2.2.2.1, show M 0 ((5 : Int32)).toNatClampNeg = nI nl from h3.2.2.1, show M 0 ((0 : Int32)).toNatClampNeg = nI yr from a2, show M 0 ((1 : Int32)).toNatClampNeg = μ 0 10 0 from a4, show M 0 ((7 : Int32)).toNatClampNeg = nI ln from ln2, show M 0 ((15 : Int32)).toNatClampNeg = μ 0 13 0 from a10, mtilt_eq h2 h8, mweight_eq h2 h8, Option.bind_some, Option.bind_some] at e
  have eA : f_X11_count (μ 0) (μ 1) (μ 2) (μ 3) (μ 5) p1 = f_X12_count M p1 := by
    rw [e]
    unfold f_X11_count
    rw [h6.2.1, h2.2.1, waiting_eq h2.2.1 hb, h3.2.1, a1, ln1, tilt_eq h2.2.1 hb, ladenWeight_eq h2.2.1 hb, Option.bind_some, Option.bind_some, Option.bind_some]
    rcases a3 with z | z
    · rw [z, if_pos rfl]
    · rw [z, if_neg (show ¬ (1 : Int32) = 0 by decide)]
  have ex : ∃ r, f_X12_count M p1 = some r := by
    rw [e]
    split
    · exact ⟨_, rfl⟩
    · split
      · exact ⟨_, rfl⟩
      · split
        · exact ⟨_, rfl⟩
        · split
          · exact ⟨_, rfl⟩
          · split
            · exact ⟨_, rfl⟩
            · split
              · exact ⟨_, rfl⟩
              · split
                · exact ⟨_, rfl⟩
                · split
                  · exact ⟨_, rfl⟩
                  · split
                    · exact ⟨_, rfl⟩
                    · split
                      · exact ⟨_, rfl⟩
                      · exact ⟨_, rfl⟩
  obtain ⟨r, er⟩ := ex
  exact ⟨r, eA.trans er, er, hR⟩
/-! what a board can say -/
def gJ (C : Mem) (m lo : Int32) (b : Nat) : Int32 := if C 6 b = -1 then 0 else if ((m >>> (nI b &&& 31)) &&& (1 : Int32)) = (1 : Int32) then vlV C b else lo
theorem judged_L (C : Mem) (N : Nat) (hN : C 0 0 = nI N) (hb : N ≤ 12) (m lo : Int32) : ∀ (k j n : Nat), j + k = N → k < n → f_X0_judged_L5 n C m lo (sumI (gJ C m lo) j) (nI j) = some (sumI (gJ C m lo) N)
  | 0, j, n + 1, h, _ => by
    have e : j = N := by omega
    subst e
    rw [f_X0_judged_L5, if_pos (by rw [hN]; exact Int32.le_refl _)]
  | k + 1, j, n + 1, h, hn => by
    rw [f_X0_judged_L5, if_neg (by rw [hN]; exact nI_ge (by omega) (by omega)), lies_yes hN hb (by omega), Option.bind_some]
    have ih := judged_L C N hN hb m lo k (j + 1) n (by omega) (by omega)
    rw [sumI, gJ] at ih
    by_cases q : C 6 j = -1
    · rw [if_pos q, Int32.add_zero] at ih
      rw [if_pos q, if_pos rfl, nI_1]
      exact ih
    · rw [if_neg q] at ih
      rw [if_neg q, if_neg (by decide), value0_eq (by omega), Option.bind_some, nI_1]
      by_cases z : ((m >>> (nI j &&& 31)) &&& (1 : Int32)) = (1 : Int32)
      · rw [if_pos z] at ih
        rw [if_pos z]
        exact ih
      · rw [if_neg z] at ih
        rw [if_neg z]
        exact ih
  | k, j, 0, _, hn => absurd hn (by omega)
theorem judged_eq {C : Mem} {N : Nat} (hN : C 0 0 = nI N) (hb : N ≤ 12) (m lo : Int32) : f_X0_judged C m lo = some (sumI (gJ C m lo) N) := judged_L C N hN hb m lo N 0 FU (by omega) (FU_gt (by omega))
theorem mboard_L {nb nc : Nat} {C M : Mem} (hR : RBal nb nc C (M 0)) (hc : nc ≤ 8) (m lo hi w : Int32) : ∀ (k j n : Nat), j + k = nb → k < n → f_X12_board_L37 n M m lo hi w (sumI (gJ C m lo) j) (sumI (gJ C m hi) j) (nI j) = if w = 0 then some (sumI (gJ C m lo) nb) else if w = 1 then some (sumI (gJ C m hi) nb) else if sumI (gJ C m lo) nb ≤ M 0 10 then some 0 else some 1
  | 0, j, n + 1, h, _ => by
    have e : j = nb := by omega
    subst e
    rw [f_X12_board_L37, if_pos (by rw [show M 0 ((4 : Int32)).toNatClampNeg = nI j from hR.2.2.1]; exact Int32.le_refl _)]
    rfl
  | k + 1, j, n + 1, h, hn => by
    have hb := hR.1
    have ih := mboard_L hR hc m lo hi w k (j + 1) n (by omega) (by omega)
    rw [f_X12_board_L37, if_neg (by rw [show M 0 ((4 : Int32)).toNatClampNeg = nI nb from hR.2.2.1]; exact nI_ge (by omega) (by omega)), mlies_eq hR hc (by omega), Option.bind_some]
    rw [sumI, sumI, gJ, gJ] at ih
    by_cases q : C 6 j = -1
    · rw [if_pos q, if_pos q, Int32.add_zero, Int32.add_zero] at ih
      rw [if_pos q, if_pos rfl, nI_1]
      exact ih
    · rw [if_neg q, if_neg q] at ih
      rw [if_neg q, if_neg (by decide)]
      by_cases z : ((m >>> (nI j &&& 31)) &&& (1 : Int32)) = (1 : Int32)
      · rw [if_pos z, if_pos z] at ih
        rw [if_pos z]
        unfold f_X12_board_L75 f_X12_board_L94
        rw [if_neg (by decide), mvalue_eq hR (by omega), Option.bind_some, if_neg (by decide), Option.bind_some, nI_1]
        exact ih
      · rw [if_neg z, if_neg z] at ih
        rw [if_neg z]
        unfold f_X12_board_L75 f_X12_board_L94
        rw [if_pos rfl, if_pos rfl, nI_1]
        exact ih
  | k, j, 0, _, hn => absurd hn (by omega)
theorem st_board : S_board Rel0 := by
  intro μ I M p1 p2 p3 p4 hR
  obtain ⟨⟨yr, nc, nb, nl, tp, hN⟩, hI⟩ := id hR
  obtain ⟨h1, h2, h3, h4, h5, h6, h7⟩ := id hN
  have u2 : M 0 10 = μ 6 2 0 := h1.2.2.2.2.2.2.2.2.2.2.2.2.2.1
  have hb := h2.1
  have e := mboard_L h2 h6.1 p1 p2 p3 p4 nb 0 FU (by omega) (FU_gt (by omega))
  by_cases q0 : p2 < 0
  · exact ⟨-1, by simp [f_X11_board, q0], by simp [f_X12_board, q0], hR⟩
  · by_cases q1 : p3 < p2
    · exact ⟨-1, by unfold f_X11_board; rw [if_neg q0, if_pos q1], by unfold f_X12_board; rw [if_neg q0, if_pos q1], hR⟩
    · by_cases q2 : p3 ≤ 1000
      · have q2' : ¬ (1000 : Int32) < p3 := by rw [Int32.not_lt]; exact q2
        have eA : f_X11_board (μ 0) (μ 1) (μ 6) p1 p2 p3 p4 = if p4 = 0 then some (sumI (gJ (μ 1) p1 p2) nb) else if p4 = 1 then some (sumI (gJ (μ 1) p1 p3) nb) else if p4 = 2 then (if sumI (gJ (μ 1) p1 p2) nb ≤ μ 6 2 0 then some 0 else some 1) else some (-1) := by
          unfold f_X11_board
          rw [if_neg q0, if_neg q1, if_pos q2, judged_eq h2.2.1 hb, judged_eq h2.2.1 hb, Option.bind_some, Option.bind_some, Option.bind_some]
        have eB : f_X12_board M p1 p2 p3 p4 = if (0 : Int32) ≤ p4 ∧ p4 ≤ 2 then (if p4 = 0 then some (sumI (gJ (μ 1) p1 p2) nb) else if p4 = 1 then some (sumI (gJ (μ 1) p1 p3) nb) else if sumI (gJ (μ 1) p1 p2) nb ≤ M 0 10 then some 0 else some 1) else some (-1) := by
          unfold f_X12_board
          rw [if_neg q0, if_neg q1, if_neg q2', isIn_eq]
          by_cases w : (0 : Int32) ≤ p4 ∧ p4 ≤ 2
          · rw [if_pos w, if_pos w, Option.bind_some, if_neg (by decide)]
            exact e
          · rw [if_neg w, if_neg w]; rfl
        by_cases w : (0 : Int32) ≤ p4 ∧ p4 ≤ 2
        · rw [if_pos w, u2] at eB
          obtain ⟨k, hk, rfl⟩ := rng (n := 2) (by decide) w
          rcases (show k = 0 ∨ k = 1 ∨ k = 2 by omega) with rfl | rfl | rfl
          · exact ⟨_, eA, eB, hR⟩
          · exact ⟨_, eA, eB, hR⟩
          · rw [if_neg (by decide), if_neg (by decide), if_pos (by decide)] at eA
            rw [if_neg (by decide), if_neg (by decide)] at eB
            by_cases z : sumI (gJ (μ 1) p1 p2) nb ≤ μ 6 2 0
            · rw [if_pos z] at eA eB
              exact ⟨_, eA, eB, hR⟩
            · rw [if_neg z] at eA eB
              exact ⟨_, eA, eB, hR⟩
        · rw [if_neg w] at eB
          have a0 : ¬ p4 = 0 := fun h => w (by rw [h]; decide)
          have a1 : ¬ p4 = 1 := fun h => w (by rw [h]; decide)
          have a2 : ¬ p4 = 2 := fun h => w (by rw [h]; decide)
          rw [if_neg a0, if_neg a1, if_neg a2] at eA
          exact ⟨_, eA, eB, hR⟩
      · have q2' : (1000 : Int32) < p3 := by rw [← Int32.not_le]; exact q2
        exact ⟨-1, by unfold f_X11_board; rw [if_neg q0, if_neg q1, if_neg q2], by unfold f_X12_board; rw [if_neg q0, if_neg q1, if_pos q2'], hR⟩
