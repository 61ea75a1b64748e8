/-! ===== decree: a test ===== -/
section Dec
variable {tp : Nat} {T : Mem} {z : Nat → Nat} {B B1 : Nat → Int32} {i st p t v n m m2 ln q : Nat} {R H M D : Mem}
theorem L45_L (hq : q < 4) (hb : ln ≤ 1000) : ∀ (d x n : Nat) (M : Mem), x + d = 4 → d < n → M 10 0 = nI ln → ∃ M' : Mem, (∀ K, f_X12_aLine_L45 K n M (nI q) (nI x) = bd2 (f_X12_takes M' (31 : Int32)) fun r M'' => K M'' (nI (q + 1)) r) ∧ (∀ k, k ≠ 11 → M' k = M k) ∧ (ln < 16 → (∀ j, x ≤ j → j < 4 → M' 11 (19 * ln + 1 + 4 * q + j) = M 12 j) ∧ ∀ y, (y < 19 * ln + 1 + 4 * q + x ∨ 19 * ln + 1 + 4 * q + 4 ≤ y) → M' 11 y = M 11 y)
  | 0, x, n + 1, M, h, _, h10 => by
    have e : x = 4 := by omega
    subst e
    refine ⟨M, fun K => ?_, fun _ _ => rfl, fun _ => ⟨fun j a b => absurd a (by omega), fun _ _ => rfl⟩⟩
    rw [f_X12_aLine_L45, if_pos (show (4 : Int32) ≤ nI 4 from nI_le (Nat.le_refl 4) (by decide)), nI_1]
  | d + 1, x, n + 1, M, h, hn, h10 => by
    have hx : x < 4 := by omega
    have ei : ((1 : Int32) + (4 : Int32) * nI q) + nI x = nI (1 + 4 * q + x) := by
      rw [show (4 : Int32) * nI q = nI (4 * q) from pk_mul 4 q, show (1 : Int32) + nI (4 * q) = nI (1 + 4 * q) from nI_add 1 (4 * q), nI_add]
    have hp := puts_eq (M := M) (x := 1 + 4 * q + x) h10 hb (by omega) (M 12 x)
    obtain ⟨M', g1, g2, g3⟩ := L45_L hq hb d (x + 1) n (if ln < 16 then upA M 11 (nI (19 * ln + (1 + 4 * q + x))) (M 12 x) else M) (by omega) (by omega) (by rw [puts_ne (by decide)]; exact h10)
    refine ⟨M', fun K => ?_, fun k hk => by rw [g2 k hk, puts_ne hk], fun hl => ?_⟩
    · rw [f_X12_aLine_L45, if_neg (show ¬ (4 : Int32) ≤ nI x from nI_ge (b := 4) hx (by decide)), if_neg (show ¬ (4 : Int32) ≤ nI q from nI_ge (b := 4) hq (by decide)), if_neg (nI_in hx (by decide)), nI_clamp (by omega), ei, hp, Option.bind_some, nI_1]
      exact g1 K
    · obtain ⟨g4, g5⟩ := g3 hl
      rw [if_pos hl] at g4 g5
      refine ⟨fun j a b => ?_, fun y hy => ?_⟩
      · by_cases c : j = x
        · subst c
          rw [g5 _ (by omega), show 19 * ln + 1 + 4 * q + j = 19 * ln + (1 + 4 * q + j) by omega, upN_at (by omega)]
        · rw [g4 j (by omega) b, upA_ne (by decide)]
      · rw [g5 y (by omega), upN_ne (by omega) (by omega)]
  | _, _, 0, _, _, hn, _ => absurd hn (by omega)
theorem L45_eq (hb : ln ≤ 1000) (hq : q ≤ 1000) (h10 : M 10 0 = nI ln) : ∃ M' : Mem, (∀ K, f_X12_aLine_L45 K FU M (nI q) (0 : Int32) = bd2 (f_X12_takes M' (31 : Int32)) fun r M'' => K M'' (nI (q + 1)) r) ∧ (∀ k, k ≠ 11 → M' k = M k) ∧ (ln < 16 → q < 4 → (∀ j, j < 4 → M' 11 (19 * ln + 1 + 4 * q + j) = M 12 j) ∧ ∀ y, (y < 19 * ln + 1 + 4 * q ∨ 19 * ln + 1 + 4 * q + 4 ≤ y) → M' 11 y = M 11 y) := by
  by_cases c : q < 4
  · obtain ⟨M', g1, g2, g3⟩ := L45_L c hb 4 0 FU M rfl (FU_gt (by decide)) h10
    exact ⟨M', g1, g2, fun hl _ => ⟨fun j hj => (g3 hl).1 j (by omega) hj, fun y hy => (g3 hl).2 y (by omega)⟩⟩
  · refine ⟨M, fun K => ?_, fun _ _ => rfl, fun _ w => absurd w c⟩
    obtain ⟨n, hn⟩ : ∃ n, FU = n + 1 := ⟨99999, rfl⟩
    rw [hn, f_X12_aLine_L45, if_neg (by decide), if_pos (show (4 : Int32) ≤ nI q from nI_le (a := 4) (by omega) (by omega)), nI_1]
theorem keepTest_eq (h6 : R 6 0 = nI ln) (h7 : R 7 0 = nI q) {ng sj : Nat} (h8 : R 8 0 = nI ng) (hng : ng ≤ 1) (h9 : R 9 0 = nI sj) (hs : 1 ≤ sj) (hs' : sj ≤ 5) (hl : ln ≤ 1000) (hq : q ≤ 1000) (c w : Int32) : ∃ D', f_X4_keepTest R D c w = some (upS (upS R 7 (nI (q + 1))) 5 5, D') ∧ ∀ (M M' : Mem), M 12 0 = nI ng → M 12 1 = nI sj → M 12 2 = c → M 12 3 = w → (ln < 16 → q < 4 → (∀ j, j < 4 → M' 11 (19 * ln + 1 + 4 * q + j) = M 12 j) ∧ ∀ y, (y < 19 * ln + 1 + 4 * q ∨ 19 * ln + 1 + 4 * q + 4 ≤ y) → M' 11 y = M 11 y) → SC1 R D (M 11) ln q 3 → SC1 R D' (M' 11) ln (q + 1) 4 := by
  unfold f_X4_keepTest f_X3_putTest
  rw [h6, h7, h8, h9, if_neg (nI_pos (by omega))]
  by_cases cl : ln < 16
  · rw [if_neg (show ¬ (16 : Int32) ≤ nI ln from nI_ge (b := 16) cl (by decide)), if_neg (nI_pos (by omega))]
    by_cases cq : q < 4
    · rw [if_neg (show ¬ (4 : Int32) ≤ nI q from nI_ge (b := 4) cq (by decide)), show nI ln * (4 : Int32) = nI (ln * 4) from pk_mul ln 4, nI_add]
      have e0 : ∀ g : Int32, g = nI ng → f_X3_putTest_L41 D (nI sj) c w (nI (ln * 4 + q)) g (nI (ln * 4 + q)) = some (upA (upA (upA (upA D 4 (nI (ln * 4 + q)) (nI ng)) 5 (nI (ln * 4 + q)) (nI sj)) 6 (nI (ln * 4 + q)) c) 7 (nI (ln * 4 + q)) w) := by
        intro g eg
        subst eg
        unfold f_X3_putTest_L41
        rw [if_neg (nI_in (by omega) (by decide)), wr_s, if_neg (nI_in (by omega) (by decide))]
        rfl
      have e1 : (if nI ng = 0 then f_X3_putTest_L41 D (nI sj) c w (nI (ln * 4 + q)) (0 : Int32) (nI (ln * 4 + q)) else f_X3_putTest_L41 D (nI sj) c w (nI (ln * 4 + q)) (1 : Int32) (nI (ln * 4 + q))) = some (upA (upA (upA (upA D 4 (nI (ln * 4 + q)) (nI ng)) 5 (nI (ln * 4 + q)) (nI sj)) 6 (nI (ln * 4 + q)) c) 7 (nI (ln * 4 + q)) w) := by
        have : ng = 0 ∨ ng = 1 := by omega
        rcases this with rfl | rfl
        · rw [if_pos (show nI 0 = 0 from rfl), e0 0 rfl]
        · rw [if_neg (by decide), e0 1 rfl]
      rw [e1, Option.bind_some, wr_s, wr_s, nI_1]
      refine ⟨_, rfl, fun M M' m0 m1 m2 m3 hW hS hx => ?_⟩
      obtain ⟨s1, s2, s3, s4, s5⟩ := hS hx
      obtain ⟨w1, w2⟩ := hW cl cq
      have eD : ∀ c' k', k' ≠ ln * 4 + q → upA (upA (upA (upA D 4 (nI (ln * 4 + q)) (nI ng)) 5 (nI (ln * 4 + q)) (nI sj)) 6 (nI (ln * 4 + q)) c) 7 (nI (ln * 4 + q)) w c' k' = D c' k' := by
        intro c' k' hk
        by_cases c7 : c' = 7
        · subst c7
          rw [upN_ne (by omega) hk, upA_ne (by decide), upA_ne (by decide), upA_ne (by decide)]
        · rw [upA_ne c7]
          by_cases c6 : c' = 6
          · subst c6
            rw [upN_ne (by omega) hk, upA_ne (by decide), upA_ne (by decide)]
          · rw [upA_ne c6]
            by_cases c5 : c' = 5
            · subst c5
              rw [upN_ne (by omega) hk, upA_ne (by decide)]
            · rw [upA_ne c5]
              by_cases c4 : c' = 4
              · subst c4
                rw [upN_ne (by omega) hk]
              · rw [upA_ne c4]
      have eD' : ∀ c' k', c' < 4 → upA (upA (upA (upA D 4 (nI (ln * 4 + q)) (nI ng)) 5 (nI (ln * 4 + q)) (nI sj)) 6 (nI (ln * 4 + q)) c) 7 (nI (ln * 4 + q)) w c' k' = D c' k' := by
        intro c' k' hk
        rw [upA_ne (by omega), upA_ne (by omega), upA_ne (by omega), upA_ne (by omega)]
      refine ⟨s1, by omega, by rw [eD' 0 0 (by decide)]; exact s3, fun k hk => (s4 k hk).cg (fun x a b => w2 x (by omega)) (fun c' a b => eD' c' k (by omega)) (fun c' j a b hj => eD c' _ (by omega)), fun j hj => ?_⟩
      by_cases cj : j = q
      · subst cj
        have ek : 4 * ln + j = ln * 4 + j := by omega
        have v0 := w1 0 (by decide)
        have v1 := w1 1 (by decide)
        have v2 := w1 2 (by decide)
        have v3 := w1 3 (by decide)
        rw [Nat.add_zero] at v0
        unfold TR
        rw [v0, v1, v2, v3, m0, m1, m2, m3, ek]
        have d4 : upA (upA (upA (upA D 4 (nI (ln * 4 + j)) (nI ng)) 5 (nI (ln * 4 + j)) (nI sj)) 6 (nI (ln * 4 + j)) c) 7 (nI (ln * 4 + j)) w 4 (ln * 4 + j) = nI ng := by
          rw [upA_ne (by decide), upA_ne (by decide), upA_ne (by decide), upN_at (by omega)]
        have d5 : upA (upA (upA (upA D 4 (nI (ln * 4 + j)) (nI ng)) 5 (nI (ln * 4 + j)) (nI sj)) 6 (nI (ln * 4 + j)) c) 7 (nI (ln * 4 + j)) w 5 (ln * 4 + j) = nI sj := by
          rw [upA_ne (by decide), upA_ne (by decide), upN_at (by omega)]
        have d6 : upA (upA (upA (upA D 4 (nI (ln * 4 + j)) (nI ng)) 5 (nI (ln * 4 + j)) (nI sj)) 6 (nI (ln * 4 + j)) c) 7 (nI (ln * 4 + j)) w 6 (ln * 4 + j) = c := by
          rw [upA_ne (by decide), upN_at (by omega)]
        have d7 : upA (upA (upA (upA D 4 (nI (ln * 4 + j)) (nI ng)) 5 (nI (ln * 4 + j)) (nI sj)) 6 (nI (ln * 4 + j)) c) 7 (nI (ln * 4 + j)) w 7 (ln * 4 + j) = w := upN_at (by omega)
        rw [d4, d5, d6, d7]
        refine ⟨rfl, rfl, rfl, rfl, ?_, sj, hs, hs', rfl⟩
        have : ng = 0 ∨ ng = 1 := by omega
        rcases this with rfl | rfl
        · exact Or.inl rfl
        · exact Or.inr rfl
      · refine ⟨?_, ?_, ?_, ?_, ?_⟩
        · rw [w2 _ (by omega), eD 4 _ (by omega)]; exact (s5 j (by omega)).1
        · rw [w2 _ (by omega), eD 5 _ (by omega)]; exact (s5 j (by omega)).2.1
        · rw [w2 _ (by omega), eD 6 _ (by omega)]; exact (s5 j (by omega)).2.2.1
        · rw [w2 _ (by omega), eD 7 _ (by omega)]; exact (s5 j (by omega)).2.2.2.1
        · rw [eD 4 _ (by omega), eD 5 _ (by omega)]; exact (s5 j (by omega)).2.2.2.2
    · rw [if_pos (show (4 : Int32) ≤ nI q from nI_le (a := 4) (by omega) (by omega)), Option.bind_some, wr_s, wr_s, nI_1]
      refine ⟨_, rfl, fun M M' _ _ _ _ _ hS hx => absurd (hS hx).2.1 (by omega)⟩
  · rw [if_pos (show (16 : Int32) ≤ nI ln from nI_le (a := 16) (by omega) (by omega)), Option.bind_some, wr_s, wr_s, nI_1]
    refine ⟨_, rfl, fun M M' _ _ _ _ _ hS hx => absurd (hS hx).1 cl⟩
/-- behind a stop within a test -/
theorem stp_TL (h : STP B B1 st M) (h10 : M 10 0 = nI ln) (hb : ln ≤ 1000) (hq : q ≤ 1000) : ∃ M', TL (m + 1) (m2 + 1) q (some M) = some (-1, M') ∧ STP B B1 st M' := by
  obtain ⟨M', g1, g2, g3⟩ := L45_eq (q := q) hb hq h10
  have h' : STP B B1 st M' := h.cg (g2 0 (by decide)) (g2 1 (by decide)) (g2 9 (by decide)) (g2 10 (by decide))
  refine ⟨M', ?_, h'⟩
  unfold TL
  rw [Option.bind_some, g1, stp_takes h'.2.2.1, bd2_s, stp_26 h'.2.2.1, Option.bind_some]
  exact stp_54 h' m
end Dec
