/-! ===== best ===== -/
theorem vl_pos {nc b : Nat} {C : Mem} (h : BalOK nc C b) : ∃ z : Nat, 1 ≤ z ∧ z ≤ 1000 ∧ vlV C b = nI z := by
  obtain ⟨-, -, -, ⟨w, w1, w2, ew⟩, ⟨q, q1, eq⟩, -⟩ := h
  unfold vlV
  have hm : w * q ≤ w * 3 := Nat.mul_le_mul_left _ q1
  rw [ew, eq, pk_mul, show (20 : Int32) = nI 20 from rfl, pk_div (by omega) (by decide) (by decide), pk_sub (by omega)]
  exact ⟨_, by omega, by omega, rfl⟩
theorem st_best : S_best Rel1 := by
  intro μ I M hR1
  obtain ⟨hR, ⟨sl, sl1, sl2⟩, hV⟩ := id hR1
  obtain ⟨⟨yr, nc, nb, nl, tp, h1, h2, h3, h4, h5, h6, h7⟩, hI⟩ := id hR
  have hnb := h2.1
  have hC0 := h2.2.1
  have h8 := h6.1
  obtain ⟨n0, n1, n2, n3, n4, n5, n6, n7, n8, n9, n10, n11, n12, n13, n14, ⟨zT, zT1, zT2⟩, ⟨zW, zW1, zW2⟩, n15⟩ := id h1
  have hFU : 100 < FU := FU_gt (by decide)
  obtain ⟨w, hw⟩ : ∃ w, w = cw (μ 1) 0 nb := ⟨_, rfl⟩
  have hw12 : w ≤ nb := by rw [hw]; exact cw_le _ _ _
  have eW : f_X0_waiting (μ 1) = some (nI w) := by
    unfold f_X0_waiting
    have := waitn_L hC0 hnb nb 0 FU 0 (by omega) (by omega)
    rw [Nat.zero_add, ← hw] at this
    exact this
  -- the reference's refusal
  have refuse : ∀ {M1 : Mem} {N11 : Mem}, (∀ i, i ≠ 15 → i ≠ 16 → i ≠ 17 → i ≠ 18 → i ≠ 19 → i ≠ 20 → M1 i = M i) → Rel1 (va_up (va_up μ 1 (μ 1)) 11 N11) I M1 := by
    intro M1 N11 e
    have e0 := e 0 (by decide) (by decide) (by decide) (by decide) (by decide) (by decide)
    have e1 := e 1 (by decide) (by decide) (by decide) (by decide) (by decide) (by decide)
    rw [va_up_id]
    refine ⟨⟨⟨yr, nc, nb, nl, tp, ?_⟩, hI.keep ⟨fun i _ => by rw [e0], e1⟩⟩, ⟨sl, sl1, sl2⟩, hV⟩
    rw [e0]
    exact ⟨h1, h2, h3, h4, h5, h6, h7⟩
  -- the reference gathers in any case
  have gath : ∀ S : Mem, S 0 0 = nI 0 → ∃ S' M', f_X1_gather_L7 FU (μ 1) S (0 : Int32) = gE (μ 1) S' w ∧ f_X12_best M = mE M' w ∧ S' 0 0 = nI w ∧ GI nb (μ 1) S' M' w ∧ (∀ i, 5 < i → S' i = S i) ∧ ∀ i, i ≠ 15 → M' i = M i := by
    intro S hS
    have := gath_L h2 h8 nb 0 FU FU 0 S M (by omega) (by omega) (by omega) (by omega) hS rfl (fun i hi => absurd hi (by omega))
    rw [Nat.zero_add, ← hw] at this
    exact this
  unfold f_X11_best
  by_cases cz : μ 0 10 0 = 0
  · rw [if_pos cz, eW, Option.bind_some]
    by_cases c9 : w ≤ 9
    · rw [if_pos (show nI w ≤ (9 : Int32) from nI_le (b := 9) c9 (by decide))]
      -- the class begins
      unfold f_X1_start
      rw [wr_s, wr_s, wr_s]
      obtain ⟨S0, hS0⟩ : ∃ S0, S0 = upS (upS (upS (μ 11) 12 (μ 6 0 0)) 13 (μ 6 1 0)) 14 (0 : Int32) := ⟨_, rfl⟩
      rw [← hS0]
      obtain ⟨S1, a1, a2, a3⟩ := start29 (C := μ 1) (nb := nb) (nc := nc) (Z := μ 0) (P := μ 5) (U := μ 6) hC0 hnb h6.2.1 h8 nc 0 FU S0 (by omega) (by omega) (fun c hc => absurd hc (by omega))
      rw [show f_X1_start_L29 FU (μ 0) (μ 1) (μ 5) (μ 6) S0 (0 : Int32) = _ from a1]
      obtain ⟨S2, M2, b1, b2, b3, b4, b5, b6⟩ := gath (upS S1 0 (0 : Int32)) (upS_at _ _ _ _)
      -- the numbers of the waiting bales
      obtain ⟨bid, hbid⟩ : ∃ bid : Nat → Nat, bid = fun k => (M2 15 k).toNatClampNeg := ⟨_, rfl⟩
      obtain ⟨own, hown⟩ : ∃ f : Nat → Nat, f = fun k => (μ 1 1 (bid k)).toNatClampNeg := ⟨_, rfl⟩
      obtain ⟨rm, hrm⟩ : ∃ f : Nat → Nat, f = fun k => (rmV (μ 1) (bid k)).toNatClampNeg := ⟨_, rfl⟩
      obtain ⟨vl, hvl⟩ : ∃ f : Nat → Nat, f = fun k => (vlV (μ 1) (bid k)).toNatClampNeg := ⟨_, rfl⟩
      obtain ⟨wt, hwt⟩ : ∃ f : Nat → Nat, f = fun k => (μ 1 3 (bid k)).toNatClampNeg := ⟨_, rfl⟩
      have item : ∀ k, k < w → bid k < nb ∧ S2 1 k = nI (bid k) ∧ M2 15 k = nI (bid k) ∧ S2 2 k = nI (own k) ∧ S2 3 k = nI (rm k) ∧ S2 4 k = nI (vl k) ∧ S2 5 k = nI (wt k) ∧ own k < nc ∧ rm k ≤ 40 ∧ 1 ≤ vl k ∧ vl k ≤ 1000 ∧ wt k ≤ 200 ∧ μ 1 1 (bid k) = nI (own k) ∧ rmV (μ 1) (bid k) = nI (rm k) ∧ vlV (μ 1) (bid k) = nI (vl k) ∧ μ 1 3 (bid k) = nI (wt k) := by
        intro k hk
        obtain ⟨b, d1, d2, d3, d4, d5, d6, d7⟩ := b4 k hk
        have eb : bid k = b := by
          rw [hbid]
          show (M2 15 k).toNatClampNeg = b
          rw [d3, nI_clamp (by omega)]
        have ok := h2.2.2.2.2.2.2 b d1
        obtain ⟨o, o1, o2⟩ := ok.1
        obtain ⟨r, r1, r2⟩ := rm_nat ok
        obtain ⟨v, v0, v1, v2⟩ := vl_pos ok
        obtain ⟨g, g0, g1, g2⟩ := ok.2.2.1
        have eo : own k = o := by
          rw [hown]
          show (μ 1 1 (bid k)).toNatClampNeg = o
          rw [eb, o2, nI_clamp (by omega)]
        have er : rm k = r := by
          rw [hrm]
          show (rmV (μ 1) (bid k)).toNatClampNeg = r
          rw [eb, r2, nI_clamp (by omega)]
        have ev : vl k = v := by
          rw [hvl]
          show (vlV (μ 1) (bid k)).toNatClampNeg = v
          rw [eb, v2, nI_clamp (by omega)]
        have eg : wt k = g := by
          rw [hwt]
          show (μ 1 3 (bid k)).toNatClampNeg = g
          rw [eb, g2, nI_clamp (by omega)]
        rw [eb, eo, er, ev, eg]
        exact ⟨d1, d2, d3, d4.trans o2, d5.trans r2, d6.trans v2, d7.trans g2, o1, r1, v0, v1, g1, o2, r2, v2, g2⟩
      obtain ⟨sa, sa1, sa2⟩ := side_sum h2 0 nb (Nat.le_refl _)
      obtain ⟨sb, sb1, sb2⟩ := side_sum h2 1 nb (Nat.le_refl _)
      obtain ⟨t0, ht0⟩ : ∃ t0, t0 = (tiV (μ 1) nb).toInt := ⟨_, rfl⟩
      have ht1 : t0 = (sa : Int) - sb := by
        rw [ht0, tiV, sa2, sb2]
        exact pk_sub_toInt (by omega) (by omega)
      have hw0 : weV (μ 1) nb = nI (sa + sb) := by rw [weV, sa2, sb2, nI_add]
      obtain ⟨fr, hfr⟩ : ∃ fr : Nat → Int, fr = fun c => (frV (μ 1) (μ 5) nb c).toInt := ⟨_, rfl⟩
      have frb : ∀ c, c < nc → -1000 ≤ fr c ∧ fr c ≤ 1000000000 := by
        intro c hc
        obtain ⟨g, g1, g2⟩ := gOn_nat h2 (nI c) nb (Nat.le_refl _)
        have hs := s_le sl2 c (by omega)
        have e : fr c = (sl c : Int) - g := by
          rw [hfr]
          show (frV (μ 1) (μ 5) nb c).toInt = _
          rw [frV, sl1 c (by omega), g2]
          exact pk_sub_toInt (by omega) (by omega)
        rw [e]
        omega
      have hP : PRB w nc own rm vl wt fr t0 (sa + sb) zT zW := ⟨c9, h8, fun j hj => (item j hj).2.2.2.2.2.2.2.1, fun j hj => (item j hj).2.2.2.2.2.2.2.2.1, fun j hj => (item j hj).2.2.2.2.2.2.2.2.2.1, fun j hj => (item j hj).2.2.2.2.2.2.2.2.2.2.1, fun j hj => (item j hj).2.2.2.2.2.2.2.2.2.2.2.1, frb, by omega, by omega, zT1, zW1⟩
      have hIT : IT w nb (μ 1) bid own rm vl wt := fun k hk => ⟨(item k hk).1, (item k hk).2.2.2.2.2.2.2.2.2.2.2.2⟩
      -- suffix sums
      have hS3 : ∀ i, i ≠ 6 → i ≠ 7 → i ≠ 8 → (upA (upA (upA S2 6 (nI w) (0 : Int32)) 7 (nI w) (0 : Int32)) 8 (nI w) (0 : Int32)) i = S2 i := fun i p q r => by rw [upA_ne r, upA_ne q, upA_ne p]
      obtain ⟨S4, c1, c2, c3⟩ := suf_L (C := μ 1) (w := w) (rm := rm) (vl := vl) (wt := wt) (by omega) w FU (upA (upA (upA S2 6 (nI w) (0 : Int32)) 7 (nI w) (0 : Int32)) 8 (nI w) (0 : Int32)) (Nat.le_refl _) (by omega) (fun j r e hj => by
          have ej : j = w := by omega
          have er : r = 0 := by omega
          subst er
          rw [ej, upA_ne (k := 8) (j := 6) (by decide), upA_ne (k := 7) (j := 6) (by decide), upN_at (by omega), upA_ne (k := 8) (j := 7) (by decide), upN_at (by omega), upN_at (by omega)]
          exact ⟨rfl, rfl, rfl⟩) (fun j hj => by
          rw [hS3 3 (by decide) (by decide) (by decide), hS3 4 (by decide) (by decide) (by decide), hS3 5 (by decide) (by decide) (by decide)]
          exact ⟨(item j hj).2.2.2.2.1, (item j hj).2.2.2.2.2.1, (item j hj).2.2.2.2.2.2.1⟩)
      have c4 : ∀ i, i ≠ 6 → i ≠ 7 → i ≠ 8 → S4 i = S2 i := fun i p q r => by rw [c3 i p q r, hS3 i p q r]
      have c5 : ∀ i, 8 < i → S4 i = S1 i := fun i hi => by rw [c4 i (by omega) (by omega) (by omega), b5 i (by omega), upS_ne (by omega)]
      have eg : f_X1_gather (μ 1) S1 = some S4 := by
        unfold f_X1_gather
        rw [wr_s, b1]
        exact c1
      rw [eg, Option.bind_some, tilt_eq hC0 hnb, Option.bind_some, ladenWeight_eq hC0 hnb, Option.bind_some, hw0]
      -- the class's search
      have hB0 : RLB w nc own rm vl wt fr zT zW S4 0 (fun _ => 0) (0, 0, 0, fun _ => 0) := by
        refine ⟨by rw [c4 0 (by decide) (by decide) (by decide)]; exact b3, fun j hj => ?_, c2, ?_, ?_, fun c hc => ?_, fun j hj => absurd hj (by omega), by show (0 : Nat) ≤ 1; omega, ?_, fun e => absurd e (by decide)⟩
        · rw [c4 2 (by decide) (by decide) (by decide), c4 3 (by decide) (by decide) (by decide), c4 4 (by decide) (by decide) (by decide), c4 5 (by decide) (by decide) (by decide)]
          exact ⟨(item j hj).2.2.2.1, (item j hj).2.2.2.2.1, (item j hj).2.2.2.2.2.1, (item j hj).2.2.2.2.2.2.1⟩
        · rw [c5 12 (by decide), a3 12 (by decide), hS0, upS_ne (by decide), upS_ne (by decide), upS_at]
          exact zT2
        · rw [c5 13 (by decide), a3 13 (by decide), hS0, upS_ne (by decide), upS_at]
          exact zW2
        · rw [c5 9 (by decide), a2 c hc, bF, hfr]
        · rw [c5 14 (by decide), a3 14 (by decide), hS0, upS_at]
          rfl
      obtain ⟨S5, e1, e2, e3⟩ := lay hP w 0 16 S4 (fun _ => 0) (0, 0, 0, fun _ => 0) (tiV (μ 1) nb) (by omega) (by omega) hB0 rfl (by rw [bT]; exact ht0.symm)
      rw [show f_X1_layFrom 16 S4 (0 : Int32) (0 : Int32) (0 : Int32) (tiV (μ 1) nb) (nI (sa + sb)) = some S5 from e1, Option.bind_some, Option.bind_some]
      obtain ⟨b, hb⟩ : ∃ b, b = brun (bL own rm vl wt fr t0 (sa + sb) zT zW w) w 0 (fun _ => 0) (0, 0, 0, fun _ => 0) := ⟨_, rfl⟩
      rw [← hb] at e2
      -- the reference's count
      rw [b2]
      unfold mE
      rw [show M2 0 1 = μ 0 10 0 by rw [b6 0 (by decide)]; exact n4, cz, if_neg (show ¬ (0 : Int32) = 1 by decide), if_pos (show nI w ≤ (9 : Int32) from nI_le (b := 9) c9 (by decide))]
      obtain ⟨M3, d1, d2, d3⟩ := zero66 (w := w) (by omega) (-1) 0 w 0 FU M2 (by omega) (by omega) (fun j hj => absurd hj (by omega))
      rw [show f_X12_best_L66 FU M2 (nI w) (-1 : Int32) (0 : Int32) (0 : Int32) = _ from d1]
      have hA3 : M3 0 = M 0 := by rw [d3 0 (by decide), b6 0 (by decide)]
      have h3w : 3 ^ w ≤ 3 ^ 9 := Nat.pow_le_pow_right (by decide) c9
      have h39 : 3 ^ 9 = 19683 := by decide
      have hF : 20000 < FU := FU_gt (by decide)
      obtain ⟨nn, M4, f1, f2, f3, f4, f5, f6⟩ := enum_L (A := M 0) hP h2 h6 hIT (n11.trans zT2) (n12.trans zW2) (fun c _ => by rw [hfr]) ht0.symm hw0 w 0 FU M3 (fun _ => 0) (0, 0, 0, fun _ => 0) (by omega) (fun _ _ => rfl) (fun _ => by omega) hA3 (fun j hj => by rw [d3 15 (by decide)]; exact (item j hj).2.2.1) (fun j hj => by rw [d2 j hj]; rfl) ⟨by show (0 : Nat) ≤ 1; omega, fun e => absurd e (by decide)⟩ (by omega)
      rw [← hb] at f2 f3
      rw [show f_X12_best_L89 FU M3 (nI w) (-1 : Int32) (0 : Int32) (1 : Int32) = _ from f2]
      obtain ⟨M5, g1, g2⟩ := turns_end (w := w) (M := M4) (by omega) (fun j hj => f5 j (by omega) hj)
      unfold TPb
      obtain ⟨nn, rfl⟩ : ∃ n', nn = n' + 1 := ⟨nn - 1, by omega⟩
      rw [g1, bd2_s, f_X12_best_L89, if_pos rfl]
      have M5e : ∀ i, i ≠ 15 → i ≠ 16 → i ≠ 17 → i ≠ 18 → i ≠ 19 → i ≠ 20 → M5 i = M i := fun i x1 x2 x3 x4 x5 x6 => by rw [g2 i x2, f6 i x2 x3 x4 x5 x6, d3 i x2, b6 i x1]
      obtain ⟨k1, k2, k3⟩ := e2.2.2.2.2.2.2.2
      by_cases c0 : b.1 = 0
      · rw [k2, c0, if_pos (show nI 0 = 0 from rfl), bx, if_pos c0, if_neg (by decide)]
        exact ⟨_, _, _, _, rfl, rfl, refuse M5e⟩
      · have c1' : b.1 = 1 := by omega
        obtain ⟨p1, p2, p3, p4, p5⟩ := k3 c1'
        rw [k2, c1', if_neg (show ¬ nI 1 = 0 by decide), bx, if_neg c0, if_pos (nI_pos' (by omega)), wr_s, p1]
        unfold f_X0_keepPlan
        rw [wr_s]
        obtain ⟨C2, q1, q2, q3⟩ := plan7 (S := S5) (nb := nb) hnb nb 0 FU (upS (μ 1) 8 (1 : Int32)) (by omega) (by omega) (by rw [upS_ne (by decide)]; exact hC0) (fun c hc => absurd hc (by omega))
        rw [show f_X0_keepPlan_L7 FU S5 (upS (μ 1) 8 (1 : Int32)) (0 : Int32) = _ from q1]
        obtain ⟨M6, r1, r2, r3, r4⟩ := plan192 (w := w) (nI b.2.1) 12 0 FU (upA M5 0 (16 : Int32) (1 : Int32)) (by omega) (by omega) (fun c hc => absurd hc (by omega))
        rw [show f_X12_best_L192 FU (upA M5 0 (16 : Int32) (1 : Int32)) (nI w) (nI b.2.1) (0 : Int32) = _ from r1]
        have M6k : ∀ i, i ≠ 0 → M6 i = M5 i := fun i hi => by rw [r4 i hi, upA_ne hi]
        obtain ⟨C3, M7, s1, s2, s3, s4, s5, s6⟩ := plan_both (nb := nb) (w := w) (S := S5) (bid := bid) (pl := b.2.2.2) (by omega) hnb e2.1 (fun j hj => ⟨by rw [e3, c4 1 (by decide) (by decide) (by decide)]; exact (item j hj).2.1, (item j hj).1⟩) p5 (nI b.2.1) w 0 FU FU C2 M6 (by omega) (by omega) (by omega) (fun j hj => by rw [M6k 15 (by decide), g2 15 (by decide), f6 15 (by decide) (by decide) (by decide) (by decide) (by decide), d3 15 (by decide)]; exact (item j hj).2.2.1) (fun j hj => by rw [M6k 17 (by decide), g2 17 (by decide)]; exact (f3.2 c1').2.2 j hj) (fun c hc => ⟨by rw [r2 c (by omega), q2 c hc], Or.inr (Or.inr (q2 c hc))⟩)
        rw [show f_X0_keepPlan_L30 FU S5 C2 (0 : Int32) = some C3 from s1, Option.bind_some, show f_X12_best_L217 FU M6 (nI w) (nI b.2.1) (0 : Int32) = some (nI b.2.1, M7) from s2]
        -- the relation
        have u16 : ∀ i, i ≠ 16 → upA M5 0 (16 : Int32) (1 : Int32) 0 i = M 0 i := fun i hi => by
          rw [show upA M5 0 (16 : Int32) (1 : Int32) 0 i = M5 0 i from upN_ne (i := 16) (by decide) hi, M5e 0 (by decide) (by decide) (by decide) (by decide) (by decide) (by decide)]
        have A7 : ∀ i, i ≠ 16 → (∀ c, c < 12 → i ≠ 90 + 9 * c + 7) → M7 0 i = M 0 i := fun i hi hc => by rw [s5 i hc, r3 i hc, u16 i hi]
        have A16 : M7 0 16 = 1 := by
          rw [s5 16 (fun c hc => by omega), r3 16 (fun c hc => by omega)]
          exact upN_at (i := 16) (by decide)
        have Ck : ∀ i, i ≠ 8 → i ≠ 9 → C3 i = μ 1 i := fun i x8 x9 => by rw [s4 i x9, q3 i x9, upS_ne x8]
        have C8 : C3 8 0 = 1 := by rw [s4 8 (by decide), q3 8 (by decide), upS_at]
        have hRB : RBal nb nc C3 (M7 0) := by
          obtain ⟨x0, x1, x2, x3, x4, x5, x6⟩ := id h2
          refine ⟨x0, by rw [Ck 0 (by decide) (by decide)]; exact x1, by rw [A7 4 (by decide) (fun c hc => by omega)]; exact x2, by rw [A16, C8], Or.inr C8, fun c hc => ?_, fun c hc => ?_⟩
          · obtain ⟨y1, y2, y3, y4, y5, y6, y7, y8⟩ := x5 c hc
            rw [Ck 1 (by decide) (by decide), Ck 2 (by decide) (by decide), Ck 3 (by decide) (by decide), Ck 4 (by decide) (by decide), Ck 5 (by decide) (by decide), Ck 6 (by decide) (by decide), Ck 7 (by decide) (by decide), A7 (90 + 9 * c) (by omega) (fun _ _ => by omega), A7 (90 + 9 * c + 1) (by omega) (fun _ _ => by omega), A7 (90 + 9 * c + 2) (by omega) (fun _ _ => by omega), A7 (90 + 9 * c + 3) (by omega) (fun _ _ => by omega), A7 (90 + 9 * c + 4) (by omega) (fun _ _ => by omega), A7 (90 + 9 * c + 5) (by omega) (fun _ _ => by omega), A7 (90 + 9 * c + 6) (by omega) (fun _ _ => by omega)]
            exact ⟨y1, y2, y3, y4, y5, y6, y7, (s3 c hc).1⟩
          · obtain ⟨y1, y2, y3, y4, y5, y6, y7⟩ := x6 c hc
            unfold BalOK
            rw [Ck 1 (by decide) (by decide), Ck 2 (by decide) (by decide), Ck 3 (by decide) (by decide), Ck 4 (by decide) (by decide), Ck 5 (by decide) (by decide), Ck 6 (by decide) (by decide), Ck 7 (by decide) (by decide)]
            exact ⟨y1, y2, y3, y4, y5, y6, (s3 c hc).2⟩
        have out : ∀ i, i < 90 ∨ 198 ≤ i → i ≠ 16 → M7 0 i = M 0 i := fun i hi hi' => A7 i hi' (fun c hc => by omega)
        refine ⟨_, _, _, _, rfl, rfl, ⟨⟨yr, nc, nb, nl, tp, h1.cg (fun i hi => ?_), hRB, h3.cg (out 5 (by omega) (by decide)) (fun i x y => out i (by omega) (by omega)), h4.cg (out 7 (by omega) (by decide)) (fun i x y => out i (by omega) (by omega)), h5.cg h1.1 (fun i x y => out i (by omega) (by omega)), h6.cg (out 3 (by omega) (by decide)) (fun i x y => out i (by omega) (by omega)), h7.cg (out 12 (by omega) (by decide)) (fun i x y => out i (by omega) (by omega))⟩, hI.keep ⟨fun i hi => out i (by omega) (by omega), ?_⟩⟩, ⟨sl, sl1, sl2⟩, hV⟩
        · simp only [List.mem_cons, List.not_mem_nil, or_false] at hi
          exact out i (by omega) (by omega)
        · rw [s6 1 (by decide), M6k 1 (by decide), M5e 1 (by decide) (by decide) (by decide) (by decide) (by decide) (by decide)]
    · rw [if_neg (show ¬ nI w ≤ (9 : Int32) from nI_ge (a := 9) (by omega) (by omega))]
      obtain ⟨S2, M2, b1, b2, b3, b4, b5, b6⟩ := gath (upS (μ 11) 0 (0 : Int32)) (upS_at _ _ _ _)
      rw [b2]
      unfold mE
      rw [show M2 0 1 = μ 0 10 0 by rw [b6 0 (by decide)]; exact n4, cz, if_neg (show ¬ (0 : Int32) = 1 by decide), if_neg (show ¬ nI w ≤ (9 : Int32) from nI_ge (a := 9) (by omega) (by omega))]
      exact ⟨_, _, _, _, rfl, rfl, refuse (fun i x _ _ _ _ _ => b6 i x)⟩
  · have cz' : μ 0 10 0 = 1 := by
      rcases n3 with h | h
      · exact absurd h cz
      · exact h
    rw [if_neg cz]
    obtain ⟨S2, M2, b1, b2, b3, b4, b5, b6⟩ := gath (upS (μ 11) 0 (0 : Int32)) (upS_at _ _ _ _)
    rw [b2]
    unfold mE
    rw [show M2 0 1 = μ 0 10 0 by rw [b6 0 (by decide)]; exact n4, cz', if_pos rfl]
    exact ⟨_, _, _, _, rfl, rfl, refuse (fun i x _ _ _ _ _ => b6 i x)⟩
