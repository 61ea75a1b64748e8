/-! ===== ends: the year's row ===== -/
theorem RBal.e9 {nb nc x : Nat} {C M M' : Mem} (h : RBal nb nc C (M 0)) (e : E9 M M' x) (hx : 280 ≤ x) : RBal nb nc C (M' 0) := h.cg (e.2 _ (by omega)) (e.2 _ (by omega)) (fun i a b => e.2 i (by omega))
theorem tally_L {nb nc x : Nat} {C : Mem} (hx0 : 280 ≤ x) (hx : x ≤ 2071) (hc : nc ≤ 8) (p : Int32) : ∀ (d j n : Nat) (M : Mem), j + d = nb → d < n → RBal nb nc C (M 0) → M 0 (x + 1) = sumI (gL C) j → M 0 (x + 2) = sumI (gV C) j → M 0 (x + 3) = sumI (gH C) j →
    ∃ M' : Mem, f_X12_ends_L95 n M p (nI x) (sumI (gR C) j) (nI j) = (if p = 0 then (if (100 : Int32) + sumI (gR C) nb = 0 then none else f_X12_ends_L196 M' p (nI x) ((20000 : Int32) / ((100 : Int32) + sumI (gR C) nb))) else f_X12_ends_L196 M' p (nI x) 0) ∧ E9 M M' x ∧ M' 0 (x + 1) = sumI (gL C) nb ∧ M' 0 (x + 2) = sumI (gV C) nb ∧ M' 0 (x + 3) = sumI (gH C) nb ∧ (∀ e, (e = 0 ∨ 4 ≤ e) → M' 0 (x + e) = M 0 (x + e))
  | 0, j, n + 1, M, h, _, hR, h1, h2, h3 => by
    have e : j = nb := by omega
    subst e
    refine ⟨M, ?_, E9.rf M x, h1, h2, h3, fun _ _ => rfl⟩
    rw [f_X12_ends_L95, if_pos (by rw [show M 0 ((4 : Int32)).toNatClampNeg = nI j from hR.2.2.1]; exact Int32.le_refl _)]
  | d + 1, j, n + 1, M, h, hn, hR, h1, h2, h3 => by
    have hb := hR.1
    rw [f_X12_ends_L95, if_neg (by rw [show M 0 ((4 : Int32)).toNatClampNeg = nI nb from hR.2.2.1]; exact nI_ge (by omega) (by omega)), mlies_eq hR hc (by omega), Option.bind_some]
    by_cases q : C 6 j = -1
    · rw [if_pos q, if_pos (show (0 : Int32) = 0 from rfl), nI_1]
      have e1 : sumI (gL C) (j + 1) = sumI (gL C) j := by rw [sumI, gL, if_pos q, Int32.add_zero]
      have e2 : sumI (gV C) (j + 1) = sumI (gV C) j := by rw [sumI, gV, if_pos q, Int32.add_zero]
      have e3 : sumI (gH C) (j + 1) = sumI (gH C) j := by rw [sumI, gH, if_pos q, Int32.add_zero]
      have e4 : sumI (gR C) (j + 1) = sumI (gR C) j := by rw [sumI, gR, if_pos q, Int32.add_zero]
      have ih := tally_L hx0 hx hc p d (j + 1) n M (by omega) (by omega) hR (by rw [e1]; exact h1) (by rw [e2]; exact h2) (by rw [e3]; exact h3)
      rw [e4] at ih
      exact ih
    · rw [if_neg q, if_neg (show ¬ (1 : Int32) = 0 by decide)]
      have k1 := E9.pt M x 1 (M 0 (x + 1) + 1) (by decide) hx
      have r1 := hR.e9 k1 hx0
      have k2 := E9.pt (put M (x + 1) (M 0 (x + 1) + 1)) x 2 (M 0 (x + 2) + vlV C j) (by decide) hx
      have r2 := r1.e9 k2 hx0
      have k3 := E9.pt (put (put M (x + 1) (M 0 (x + 1) + 1)) (x + 2) (M 0 (x + 2) + vlV C j)) x 3 (M 0 (x + 3) + C 3 j) (by decide) hx
      have r3 := r2.e9 k3 hx0
      have e1 : sumI (gL C) (j + 1) = sumI (gL C) j + 1 := by rw [sumI, gL, if_neg q]
      have e2 : sumI (gV C) (j + 1) = sumI (gV C) j + vlV C j := by rw [sumI, gV, if_neg q]
      have e3 : sumI (gH C) (j + 1) = sumI (gH C) j + C 3 j := by rw [sumI, gH, if_neg q]
      have e4 : sumI (gR C) (j + 1) = sumI (gR C) j + rmV C j := by rw [sumI, gR, if_neg q]
      obtain ⟨M', g1, g2, g3, g4, g5, g6⟩ := tally_L hx0 hx hc p d (j + 1) n _ (by omega) (by omega) r3 (by rw [put_no (by omega), put_no (by omega), put_eq, e1, h1]) (by rw [put_no (by omega), put_eq, e2, h2]) (by rw [put_eq, e3, h3])
      refine ⟨M', ?_, ((k1.tr k2).tr k3).tr g2, g3, g4, g5, fun e he => by rw [g6 e he, put_no (by omega), put_no (by omega), put_no (by omega)]⟩
      rw [show nI x + (1 : Int32) = nI (x + 1) from nI_add x 1, show nI x + (2 : Int32) = nI (x + 2) from nI_add x 2, show nI x + (3 : Int32) = nI (x + 3) from nI_add x 3]
      rw [if_neg (nI_in (N := 11160) (by omega) (by decide)), nI_clamp (n := x + 1) (by omega), upA_put _ _ (by omega), wr_s, if_neg (nI_in (N := 11160) (by omega) (by decide)), mvalue_eq r1 (by omega), Option.bind_some, nI_clamp (n := x + 2) (by omega), put_no (j := x + 2) (by omega), upA_put _ _ (by omega), wr_s, if_neg (nI_in (N := 11160) (by omega) (by decide)), its_eq _ j 2 2 rfl (by omega) (by decide), (r2.2.2.2.2.2.1 j (by omega)).2.2.1, Option.bind_some, nI_clamp (n := x + 3) (by omega), put_no (j := x + 3) (by omega), put_no (j := x + 3) (by omega), upA_put _ _ (by omega), wr_s, mroom_eq r3 (by omega), Option.bind_some, nI_1, ← e4]
      exact g1
  | d, j, 0, _, _, hn, _, _, _, _ => absurd hn (by omega)
theorem ix280 (yr : Nat) : (280 : Int32) + (9 : Int32) * nI yr = nI (280 + 9 * yr) := by
  show nI 280 + nI 9 * nI yr = _
  rw [pk_mul, nI_add]
theorem y_ix {yr e : Nat} (ee : Int32) (h : ee = nI e) : nI yr * (9 : Int32) + ee = nI (9 * yr + e) := by
  subst h
  show nI yr * nI 9 + nI e = _
  rw [pk_mul, nI_add, Nat.mul_comm]
theorem y_put {Y : Mem} {yr e : Nat} (ee v : Int32) (h : ee = nI e) (hy : yr ≤ 198) (he : e ≤ 8) : f_X10_put Y (nI yr) ee v = some (upA Y 0 (nI (9 * yr + e)) v) := by
  unfold f_X10_put f_X10_isCell
  rw [within_eq, if_pos ⟨nI_pos' (by omega), nI_le (b := 198) hy (by decide)⟩, within_eq, if_pos (show (0 : Int32) ≤ ee ∧ ee ≤ 8 by rw [h]; exact ⟨nI_pos' (by omega), nI_le (b := 8) he (by decide)⟩), Option.bind_some, if_neg (show ¬ (1 : Int32) = 0 by decide), Option.bind_some, if_neg (show ¬ (1 : Int32) = 0 by decide), Option.bind_some, if_neg (show ¬ (1 : Int32) = 0 by decide), y_ix ee h, if_neg (nI_in (N := 1791) (by omega) (by decide)), wr_s]
theorem y_raise {Y : Mem} {yr e : Nat} (ee v : Int32) (h : ee = nI e) (hy : yr ≤ 198) (he : e ≤ 8) : f_X10_raise Y (nI yr) ee v = some (upA Y 0 (nI (9 * yr + e)) (Y 0 (9 * yr + e) + v)) := by
  unfold f_X10_raise f_X10_isCell
  rw [within_eq, if_pos ⟨nI_pos' (by omega), nI_le (b := 198) hy (by decide)⟩, within_eq, if_pos (show (0 : Int32) ≤ ee ∧ ee ≤ 8 by rw [h]; exact ⟨nI_pos' (by omega), nI_le (b := 8) he (by decide)⟩), Option.bind_some, if_neg (show ¬ (1 : Int32) = 0 by decide), Option.bind_some, if_neg (show ¬ (1 : Int32) = 0 by decide), Option.bind_some, if_neg (show ¬ (1 : Int32) = 0 by decide), y_ix ee h, if_neg (nI_in (N := 1791) (by omega) (by decide)), wr_s, nI_clamp (by omega)]
/-- all but the book and the citizens as before, the book with one year more -/
def RY (yr nc nb nl tp : Nat) (Z C B D Y P U T : Mem) (A : Nat → Int32) : Prop := yr ≤ 198 ∧ RNum yr Z U A ∧ RBal nb nc C A ∧ RLoan nl nc B A ∧ RLaw D A ∧ RBook (yr + 1) Y A ∧ RCit nc P A ∧ RTape tp T A
theorem RY.cit {yr nc nb nl tp : Nat} {Z C B D Y P P' U T : Mem} {A A' : Nat → Int32} (h : RY yr nc nb nl tp Z C B D Y P U T A) (e : ∀ i, i < 2790 → (i < 20 ∨ 84 ≤ i) → A' i = A i) (hC : RCit nc P' A') : RY yr nc nb nl tp Z C B D Y P' U T A' := by
  obtain ⟨hy, h1, h2, h3, h4, h5, h6, h7⟩ := h
  refine ⟨hy, h1.cg (fun i hi => e i ?_ (Or.inl ?_)), h2.cg (e _ (by decide) (by decide)) (e _ (by decide) (by decide)) (fun i a b => e i (by omega) (by omega)), h3.cg (e _ (by decide) (by decide)) (fun i a b => e i (by omega) (by omega)), h4.cg (e _ (by decide) (by decide)) (fun i a b => e i (by omega) (by omega)), h5.cg (by omega) (fun i a b => e i (by omega) (by omega)), hC, h7.cg (e _ (by decide) (by decide)) (fun i a b => e i (by omega) (by omega))⟩
  · simp only [List.mem_cons, List.not_mem_nil, or_false] at hi; omega
  · simp only [List.mem_cons, List.not_mem_nil, or_false] at hi; omega
theorem RY.book {yr nc nb nl tp e : Nat} {Z C B D Y P U T M : Mem} (h : RY yr nc nb nl tp Z C B D Y P U T (M 0)) (he : e < 9) (v : Int32) : RY yr nc nb nl tp Z C B D (upA Y 0 (nI (9 * yr + e)) v) P U T (put M (280 + 9 * yr + e) v 0) := by
  obtain ⟨hy, h1, h2, h3, h4, h5, h6, h7⟩ := h
  have w : ∀ i, (i < 280 ∨ 2071 ≤ i) → put M (280 + 9 * yr + e) v 0 i = M 0 i := fun i hi => put_no (by omega)
  refine ⟨hy, h1.cg (fun i hi => w i (Or.inl ?_)), h2.cg (w _ (by decide)) (w _ (by decide)) (fun i a b => w i (by omega)), h3.cg (w _ (by decide)) (fun i a b => w i (by omega)), h4.cg (w _ (by decide)) (fun i a b => w i (by omega)), ⟨fun i hi => ?_, fun i a b => ?_⟩, h6.cg (w _ (by decide)) (fun i a b => w i (by omega)), h7.cg (w _ (by decide)) (fun i a b => w i (by omega))⟩
  · simp only [List.mem_cons, List.not_mem_nil, or_false] at hi; omega
  · rw [put_get, upA_get _ _ _ (by omega)]
    by_cases q : i = 9 * yr + e
    · rw [if_pos (by omega), if_pos ⟨rfl, q⟩]
    · rw [if_neg (by omega), if_neg (fun z => q z.2)]
      exact h5.1 i hi
  · rw [upA_get _ _ _ (by omega), if_neg (by omega)]
    exact h5.2 i a b
theorem RY.n15 {yr nc nb nl tp : Nat} {Z C B D Y P U T M : Mem} (h : RY yr nc nb nl tp Z C B D Y P U T (M 0)) (v : Int32) : RY yr nc nb nl tp (upS Z 13 v) C B D Y P U T (put M 15 v 0) := by
  obtain ⟨hy, h1, h2, h3, h4, h5, h6, h7⟩ := h
  have w : ∀ i, i ≠ 15 → put M 15 v 0 i = M 0 i := fun i hi => put_no hi
  refine ⟨hy, ?_, h2.cg (w _ (by decide)) (w _ (by decide)) (fun i a b => w i (by omega)), h3.cg (w _ (by decide)) (fun i a b => w i (by omega)), h4.cg (w _ (by decide)) (fun i a b => w i (by omega)), h5.cg (by omega) (fun i a b => w i (by omega)), h6.cg (w _ (by decide)) (fun i a b => w i (by omega)), h7.cg (w _ (by decide)) (fun i a b => w i (by omega))⟩
  unfold RNum at h1 ⊢
  rw [upS_ne (by decide), upS_ne (by decide), upS_ne (by decide), upS_ne (by decide), upS_ne (by decide), upS_ne (by decide), upS_at, put_eq, w 0 (by decide), w 1 (by decide), w 2 (by decide), w 6 (by decide), w 13 (by decide), w 14 (by decide), w 8 (by decide), w 9 (by decide), w 10 (by decide), w 11 (by decide)]
  obtain ⟨a0, a1, a2, a3, a4, a5, a6, a7, a8, a9, a10, a11⟩ := h1
  exact ⟨a0, a1, a2, a3, a4, a5, a6, a7, a8, a9, rfl, a11⟩
/-- what a bale that came does, on both sides -/
theorem land78 {yr nc nb nl tp o s : Nat} {Z C B D Y P U T M : Mem} (h : RY yr nc nb nl tp Z C B D Y P U T (M 0)) (ho : o < nc) (hs : s < nc) (inc ten R : Int32) : ∃ (Z' Y' P' M' : Mem), f_X7_landBale_L78 Z C Y P U (nI o) (nI s) inc ten R = some (Z', Y', P') ∧ f_X12_comes_L78 M (nI (280 + 9 * yr)) (nI o) (nI s) inc ten R = some M' ∧ RY yr nc nb nl tp Z' C B D Y' P' U T (M' 0) ∧ Keep M M' := by
  obtain ⟨hy, h1, h2, h3, h4, h5, h6, h7⟩ := id h
  have h8 := h6.1
  have z9 : Z 9 0 = nI yr := h1.2.1
  have r1 := h6.add ho (show 5 < 7 by decide) inc
  have r2 := r1.add ho (show 4 < 7 by decide) (inc - ten - R)
  have r3 := r2.add hs (show 4 < 7 by decide) R
  have r4 := r3.add hs (show 6 < 7 by decide) R
  have g1 := cit_add h6 ho (show 5 < 7 by decide) inc 5 rfl
  have g2 := cit_add r1 ho (show 4 < 7 by decide) (inc - ten - R) 4 rfl
  have g3 := cit_add r2 hs (show 4 < 7 by decide) R 4 rfl
  have g4 := cit_add r3 hs (show 6 < 7 by decide) R 6 rfl
  have hM : ∃ M4 : Mem, M4 = put (put (put (put M (20 + 8 * o + 5) (P (5 + 1) o + inc)) (20 + 8 * o + 4) (addA P (5 + 1) o inc (4 + 1) o + (inc - ten - R))) (20 + 8 * s + 4) (addA (addA P (5 + 1) o inc) (4 + 1) o (inc - ten - R) (4 + 1) s + R)) (20 + 8 * s + 6) (addA (addA (addA P (5 + 1) o inc) (4 + 1) o (inc - ten - R)) (4 + 1) s R (6 + 1) s + R) := ⟨_, rfl⟩
  obtain ⟨M4, hM4⟩ := hM
  rw [← hM4] at r4 g4
  have k4 : Keep M M4 := by
    rw [hM4]
    exact (((Keep.pt (by omega)).tr (Keep.pt (by omega))).tr (Keep.pt (by omega))).tr (Keep.pt (by omega))
  have e4 : ∀ i, i < 2790 → (i < 20 ∨ 84 ≤ i) → M4 0 i = M 0 i := by
    intro i _ hi
    rw [hM4, put_no (by omega), put_no (by omega), put_no (by omega), put_no (by omega)]
  have s4 := h.cit e4 r4
  have s5 := s4.n15 (Z 13 0 + ten)
  have m15 : M4 0 ((15 : Int32)).toNatClampNeg = Z 13 0 := s4.2.1.2.2.2.2.2.2.2.2.2.2.1
  have s6 := s5.book (e := 5) (by decide) (Y 0 (9 * yr + 5) + inc)
  have s7 := s6.book (e := 6) (by decide) (Y 0 (9 * yr + 6) + ten)
  have s8 := s7.book (e := 7) (by decide) (Y 0 (9 * yr + 7) + R)
  have y5 : put M4 15 (Z 13 0 + ten) 0 (280 + 9 * yr + 5) = Y 0 (9 * yr + 5) := s5.2.2.2.2.2.1.1 (9 * yr + 5) (by omega)
  have y6 : put (put M4 15 (Z 13 0 + ten)) (280 + 9 * yr + 5) (Y 0 (9 * yr + 5) + inc) 0 (280 + 9 * yr + 6) = Y 0 (9 * yr + 6) := by rw [put_no (by omega)]; exact s5.2.2.2.2.2.1.1 (9 * yr + 6) (by omega)
  have y7 : put (put (put M4 15 (Z 13 0 + ten)) (280 + 9 * yr + 5) (Y 0 (9 * yr + 5) + inc)) (280 + 9 * yr + 6) (Y 0 (9 * yr + 6) + ten) 0 (280 + 9 * yr + 7) = Y 0 (9 * yr + 7) := by rw [put_no (by omega), put_no (by omega)]; exact s5.2.2.2.2.2.1.1 (9 * yr + 7) (by omega)
  have ep : addA (addA (addA (addA P 5 s R) 7 s R) 5 o (inc - ten - R)) 6 o inc = addA (addA (addA (addA P (5 + 1) o inc) (4 + 1) o (inc - ten - R)) (4 + 1) s R) (6 + 1) s R := by
    rw [addA_comm (addA (addA P 5 s R) 7 s R) 5 o 6 o _ _ (by omega) (by omega), addA_comm (addA P 5 s R) 7 s 6 o _ _ (by omega) (by omega), addA_comm P 5 s 6 o _ _ (by omega) (by omega), addA_comm (addA (addA P 6 o inc) 5 s R) 7 s 5 o _ _ (by omega) (by omega), addA_comm (addA P 6 o inc) 5 s 5 o _ _ (by omega) (by omega)]
  refine ⟨upS Z 13 (Z 13 0 + ten), upA (upA (upA Y 0 (nI (9 * yr + 5)) (Y 0 (9 * yr + 5) + inc)) 0 (nI (9 * yr + 6)) (Y 0 (9 * yr + 6) + ten)) 0 (nI (9 * yr + 7)) (Y 0 (9 * yr + 7) + R), addA (addA (addA (addA P 5 s R) 7 s R) 5 o (inc - ten - R)) 6 o inc, put (put (put (put M4 15 (Z 13 0 + ten)) (280 + 9 * yr + 5) (Y 0 (9 * yr + 5) + inc)) (280 + 9 * yr + 6) (Y 0 (9 * yr + 6) + ten)) (280 + 9 * yr + 7) (Y 0 (9 * yr + 7) + R), ?_, ?_, ?_, ?_⟩
  · unfold f_X7_landBale_L78
    rw [wr_s, if_neg (nI_in (N := 8) (by omega) (by decide)), wr_s, wr_s, if_neg (nI_in (N := 8) (by omega) (by decide)), wr_s, wr_s, upS_ne (k := 13) (j := 9) (by decide), z9, y_raise (e := 5) 5 inc rfl hy (by decide), Option.bind_some, y_raise (e := 6) 6 ten rfl hy (by decide), Option.bind_some, y_raise (e := 7) 7 R rfl hy (by decide), Option.bind_some, nI_clamp (n := o) (by omega), nI_clamp (n := s) (by omega)]
    rw [upA_get _ _ _ (by omega) 0 (9 * yr + 6), if_neg (by omega), upA_get _ _ _ (by omega) 0 (9 * yr + 7), if_neg (by omega), upA_get _ _ _ (by omega) 0 (9 * yr + 7), if_neg (by omega)]
    rfl
  · unfold f_X12_comes_L78
    rw [g1, Option.bind_some, g2, Option.bind_some, g3, Option.bind_some, g4, Option.bind_some, m15, upA_lit M4 15 15 _ rfl, wr_s]
    rw [show nI (280 + 9 * yr) + (5 : Int32) = nI (280 + 9 * yr + 5) from nI_add _ 5, show nI (280 + 9 * yr) + (6 : Int32) = nI (280 + 9 * yr + 6) from nI_add _ 6, show nI (280 + 9 * yr) + (7 : Int32) = nI (280 + 9 * yr + 7) from nI_add _ 7]
    rw [if_neg (nI_in (N := 11160) (by omega) (by decide)), nI_clamp (n := 280 + 9 * yr + 5) (by omega), y5, upA_put _ _ (by omega), wr_s, if_neg (nI_in (N := 11160) (by omega) (by decide)), nI_clamp (n := 280 + 9 * yr + 6) (by omega), y6, upA_put _ _ (by omega), wr_s, if_neg (nI_in (N := 11160) (by omega) (by decide)), nI_clamp (n := 280 + 9 * yr + 7) (by omega), y7, upA_put _ _ (by omega), wr_s]
  · rw [ep]
    exact s8
  · exact (((k4.tr (Keep.pt (by omega))).tr (Keep.pt (by omega))).tr (Keep.pt (by omega))).tr (Keep.pt (by omega))
