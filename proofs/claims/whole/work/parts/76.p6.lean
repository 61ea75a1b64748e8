/-! ===== ladeBest, sail ===== -/
theorem va_nE {α : Type} {f : Nat → α} {k j : Nat} {v : α} (h : j ≠ k) : va_up f k v j = f j := by simp [va_up, h]
theorem va_up2 {α : Type} (f : Nat → α) (k : Nat) (v w : α) : va_up (va_up f k v) k w = va_up f k w := by
  funext j
  unfold va_up
  split <;> rfl
theorem bd2_s {α β γ : Type} (a : α) (b : β) (k : α → β → Option γ) : bd2 (some (a, b)) k = k a b := rfl
theorem bd3_s {α β δ γ : Type} (a : α) (b : β) (c : δ) (k : α → β → δ → Option γ) : bd3 (some (a, b, c)) k = k a b c := rfl
theorem wr_s {α γ : Type} (x : α) (k : α → Option γ) : wr x k = k x := rfl
theorem ladeBest_L {yr nc nb nl tp : Nat} : ∀ (k j n m : Nat) (μ : Nat → Mem) (M : Mem) (x : Int32), RelN yr nc nb nl tp μ (M 0) → μ 0 10 0 = 0 → j + k = nb → k < n → k < m → ∃ (r : Int32) (C' M' : Mem), f_X11_ladeBest_L29 n (μ 0) (μ 1) (μ 5) x (nI j) = some (r, C') ∧ f_X12_ladeBest_L26 m M x (nI j) = some (r, M') ∧ RelN yr nc nb nl tp (va_up μ 1 C') (M' 0) ∧ Keep M M'
  | 0, j, n + 1, m + 1, μ, M, x, hN, hs, hj, _, _ => by
    have e : j = nb := by omega
    subst e
    obtain ⟨b0, b1, b2, -⟩ := id hN.2.1
    refine ⟨x, μ 1, M, ?_, ?_, by rw [va_up_id]; exact hN, Keep.rf M⟩
    · rw [f_X11_ladeBest_L29, if_pos (by rw [b1]; exact Int32.le_refl _)]
    · rw [f_X12_ladeBest_L26, if_pos (by rw [show M 0 ((4 : Int32)).toNatClampNeg = nI j from b2]; exact Int32.le_refl _)]
  | k + 1, j, n + 1, m + 1, μ, M, x, hN, hs, hj, hn, hm => by
    obtain ⟨b0, b1, b2, b3, b4, b5, b6⟩ := id hN.2.1
    have hb : j < nb := by omega
    obtain ⟨r0, r1, r2, r3, r4, r5, r6, r7⟩ := b5 j hb
    have c9 := (b6 j hb).2.2.2.2.2.2
    have eA : f_X11_ladeBest_L29 (n + 1) (μ 0) (μ 1) (μ 5) x (nI j) = if μ 1 9 j = 2 then f_X11_ladeBest_L29 n (μ 0) (μ 1) (μ 5) x (nI (j + 1)) else bd2 (f_X7_layBale (μ 0) (μ 1) (μ 5) (nI j) (μ 1 1 j) (μ 1 9 j)) fun r C' => if r = 0 then f_X11_ladeBest_L29 n (μ 0) C' (μ 5) x (nI (j + 1)) else f_X11_ladeBest_L29 n (μ 0) C' (μ 5) (x + 1) (nI (j + 1)) := by
      rw [f_X11_ladeBest_L29, if_neg (by rw [b1]; exact nI_ge (by omega) (by omega)), if_neg (nI_in (N := 12) (by omega) (by decide)), nI_clamp (by omega), nI_1]
    have eB : f_X12_ladeBest_L26 (m + 1) M x (nI j) = if (2 : Int32) ≤ μ 1 9 j then f_X12_ladeBest_L26 m M x (nI (j + 1)) else bd2 (f_X12_lade M (nI j) (μ 1 1 j) (μ 1 9 j)) fun r M' => if r = 0 then f_X12_ladeBest_L26 m M' x (nI (j + 1)) else f_X12_ladeBest_L26 m M' (x + 1) (nI (j + 1)) := by
      rw [f_X12_ladeBest_L26, if_neg (by rw [show M 0 ((4 : Int32)).toNatClampNeg = nI nb from b2]; exact nI_ge (by omega) (by omega)), its_eq M j 7 7 rfl (by omega) (by decide), its_eq M j 0 0 rfl (by omega) (by decide), show M 0 (90 + 9 * j + 0) = μ 1 1 j from r0, r7, nI_1]
      rw [Option.bind_some, Option.bind_some, Option.bind_some]
    by_cases q : μ 1 9 j = 2
    · rw [eA, eB, if_pos q, if_pos (by rw [q]; decide)]
      exact ladeBest_L k (j + 1) n m μ M x hN hs (by omega) (by omega) (by omega)
    · have q' : μ 1 9 j = 0 ∨ μ 1 9 j = 1 := by
        rcases c9 with h | h | h
        · exact Or.inl h
        · exact Or.inr h
        · exact absurd h q
      have q2 : ¬ (2 : Int32) ≤ μ 1 9 j := by rcases q' with h | h <;> rw [h] <;> decide
      obtain ⟨r, C1, M1, e1, e2, e3, e4, -⟩ := lay_core hN hs (nI j) (μ 1 1 j) (μ 1 9 j) q'
      rw [eA, eB, if_neg q, if_neg q2, e1, e2, bd2_s, bd2_s]
      by_cases z : r = 0
      · rw [if_pos z, if_pos z]
        obtain ⟨r', C', M', g1, g2, g3, g4⟩ := ladeBest_L k (j + 1) n m (va_up μ 1 C1) M1 x e3 hs (by omega) (by omega) (by omega)
        rw [va_up2] at g3
        exact ⟨r', C', M', g1, g2, g3, e4.tr g4⟩
      · rw [if_neg z, if_neg z]
        obtain ⟨r', C', M', g1, g2, g3, g4⟩ := ladeBest_L k (j + 1) n m (va_up μ 1 C1) M1 (x + 1) e3 hs (by omega) (by omega) (by omega)
        rw [va_up2] at g3
        exact ⟨r', C', M', g1, g2, g3, e4.tr g4⟩
  | k, j, 0, m, _, _, _, _, _, _, hn, _ => absurd hn (by omega)
  | k, j, n, 0, _, _, _, _, _, _, _, hm => absurd hm (by omega)
theorem st_ladeBest : S_ladeBest Rel0 := by
  intro μ I M hR
  obtain ⟨⟨yr, nc, nb, nl, tp, hN⟩, hI⟩ := id hR
  obtain ⟨-, -, -, s0, s1, -⟩ := id hN.1
  obtain ⟨b0, b1, b2, b3, b4, b5, b6⟩ := id hN.2.1
  have m16 : M 0 ((16 : Int32)).toNatClampNeg = μ 1 8 0 := b3
  have m1 : M 0 ((1 : Int32)).toNatClampNeg = μ 0 10 0 := s1
  by_cases c8 : μ 1 8 0 = 0
  · refine ⟨-1, μ 1, M, ?_, ?_, by rw [va_up_id]; exact hR⟩
    · unfold f_X11_ladeBest
      rw [c8, if_pos rfl]
      split <;> rfl
    · unfold f_X12_ladeBest
      rw [m16, if_pos c8]
  · rcases s0 with c | c
    · obtain ⟨r, C', M', g1, g2, g3, g4⟩ := ladeBest_L nb 0 FU FU μ M 0 hN c (by omega) (FU_gt (by omega)) (FU_gt (by omega))
      refine ⟨r, C', M', ?_, ?_, ⟨yr, nc, nb, nl, tp, g3⟩, hI.keep g4⟩
      · unfold f_X11_ladeBest
        rw [if_pos c, if_neg c8]
        exact g1
      · unfold f_X12_ladeBest
        rw [m16, if_neg c8, m1, if_neg (by rw [c]; decide)]
        exact g2
    · refine ⟨-1, μ 1, M, ?_, ?_, by rw [va_up_id]; exact hR⟩
      · unfold f_X11_ladeBest
        rw [if_neg (by rw [c]; decide)]
      · unfold f_X12_ladeBest
        rw [m16, if_neg c8, m1, if_pos c]
/-- the two ways to ask whether the ship bears a tilt -/
theorem bears_eq {U M : Mem} {z a b : Nat} (w : Int32) (e0 : U 0 0 = nI z) (m8 : M 0 8 = nI z) (m9 : M 0 9 = U 1 0) (hz : z ≤ 2400) (ha : a ≤ 1000000) (hb : b ≤ 1000000) : ∃ r : Int32, (r = 0 ∨ r = 1) ∧ f_X6_bears U (nI a - nI b) w = some r ∧ f_X12_bears M (nI a - nI b) w = some r := by
  have t1 := pk_sub_toInt (a := a) (b := b) (by omega) (by omega)
  have t2 := pk_sub_toInt (a := b) (b := a) (by omega) (by omega)
  have t3 : (-(nI z)).toInt = -(z : Int) := by
    have h := pk_sub_toInt (a := 0) (b := z) (by omega) (by omega)
    rw [show nI 0 - nI z = -(nI z) from Int32.zero_sub _] at h
    omega
  have t4 : (nI z).toInt = (z : Int) := nI_toInt (by omega)
  have t5 : (0 : Int32) - (nI a - nI b) = nI b - nI a := by grind
  have t6 : (0 : Int32).toInt = 0 := rfl
  unfold f_X6_bears f_X12_bears
  rw [show M 0 ((8 : Int32)).toNatClampNeg = nI z from m8, show M 0 ((9 : Int32)).toNatClampNeg = U 1 0 from m9, isIn_eq, e0, t5]
  by_cases h : (-(nI z) ≤ nI a - nI b ∧ nI a - nI b ≤ nI z)
  · rw [if_pos h, Option.bind_some, if_neg (by decide : ¬ (1 : Int32) = 0)]
    simp only [Int32.le_iff_toInt_le, t1, t3, t4] at h
    have n1 : ¬ nI z < (if 0 ≤ nI a - nI b then nI a - nI b else nI b - nI a) := by
      rw [Int32.lt_iff_toInt_lt, t4]
      split
      · rw [t1]; omega
      · rw [t2]; omega
    rw [if_neg n1]
    by_cases g : U 1 0 < w
    · exact ⟨0, Or.inl rfl, by rw [if_pos g], by rw [if_pos g]⟩
    · exact ⟨1, Or.inr rfl, by rw [if_neg g], by rw [if_neg g]⟩
  · rw [if_neg h, Option.bind_some, if_pos rfl]
    simp only [Int32.le_iff_toInt_le, t1, t3, t4] at h
    have n1 : nI z < (if 0 ≤ nI a - nI b then nI a - nI b else nI b - nI a) := by
      rw [Int32.lt_iff_toInt_lt, t4]
      split
      · rename_i q
        rw [Int32.le_iff_toInt_le, t1, t6] at q
        rw [t1]; omega
      · rename_i q
        rw [Int32.le_iff_toInt_le, t1, t6] at q
        rw [t2]; omega
    rw [if_pos n1]
    exact ⟨0, Or.inl rfl, rfl, rfl⟩
theorem side_sum {nb nc : Nat} {C : Mem} {A : Nat → Int32} (hR : RBal nb nc C A) (s : Int32) : ∀ n, n ≤ nb → ∃ z : Nat, z ≤ 200 * n ∧ sumI (gSide C s) n = nI z
  | 0, _ => ⟨0, by omega, rfl⟩
  | n + 1, h => by
    obtain ⟨z, hz, e⟩ := side_sum hR s n (by omega)
    obtain ⟨-, -, ⟨w, hw, hw2, e2⟩, -⟩ := hR.2.2.2.2.2.2 n (by omega)
    rw [sumI, e, gSide]
    by_cases q : C 7 n = s
    · rw [if_pos q, e2, nI_add]
      exact ⟨z + w, by omega, rfl⟩
    · rw [if_neg q, Int32.add_zero]
      exact ⟨z, by omega, rfl⟩
theorem st_sail : S_sail Rel0 := by
  intro μ I M hR
  obtain ⟨⟨yr, nc, nb, nl, tp, hN⟩, hI⟩ := id hR
  obtain ⟨h1, h2, h3, h4, h5, h6, h7⟩ := id hN
  obtain ⟨a0, a1, a2, s0, s1, a5, a6, a7, a8, a9, a10, a11, a12, a13, a14, ⟨z, hz, ez⟩, a16, a17, a18⟩ := id h1
  have m1 : M 0 ((1 : Int32)).toNatClampNeg = μ 0 10 0 := s1
  have b0 := h2.1
  rcases s0 with c | c
  · obtain ⟨ta, hta, ea⟩ := side_sum h2 0 nb (by omega)
    obtain ⟨tb, htb, eb⟩ := side_sum h2 1 nb (by omega)
    obtain ⟨r, hr, g1, g2⟩ := bears_eq (U := μ 6) (M := M) (z := z) (a := ta) (b := tb) (weV (μ 1) nb) ez (a11.trans ez) a12 hz (by omega) (by omega)
    have et : tiV (μ 1) nb = nI ta - nI tb := by rw [tiV, ea, eb]
    rw [← et] at g1 g2
    have eA : f_X11_sail (μ 0) (μ 1) (μ 6) = if r = 0 then some (0, μ 0) else some (1, upS (μ 0) 10 1) := by
      unfold f_X11_sail
      rw [if_pos c, tilt_eq h2.2.1 b0, ladenWeight_eq h2.2.1 b0]
      rw [Option.bind_some, Option.bind_some, g1]
      rfl
    have eB : f_X12_sail M = if r = 0 then some (0, M) else some (1, put M 1 1) := by
      unfold f_X12_sail
      rw [m1, if_neg (by rw [c]; decide), mtilt_eq h2 h6.1, mweight_eq h2 h6.1]
      rw [Option.bind_some, Option.bind_some, g2, Option.bind_some, upA_lit M 1 1 _ rfl]
      rfl
    rcases hr with rfl | rfl
    · exact ⟨0, μ 0, M, eA, eB, by rw [va_up_id]; exact hR⟩
    · refine ⟨1, upS (μ 0) 10 1, put M 1 1, eA, eB, ⟨yr, nc, nb, nl, tp, ?_⟩, hI.keep (Keep.pt (by decide))⟩
      have e : ∀ i, i ≠ 1 → put M 1 1 0 i = M 0 i := fun i hi => put_no hi
      refine ⟨?_, h2.cg (e _ (by decide)) (e _ (by decide)) (fun i a b => e i (by omega)), h3.cg (e _ (by decide)) (fun i a b => e i (by omega)), h4.cg (e _ (by decide)) (fun i a b => e i (by omega)), h5.cg h1.1 (fun i a b => e i (by omega)), h6.cg (e _ (by decide)) (fun i a b => e i (by omega)), h7.cg (e _ (by decide)) (fun i a b => e i (by omega))⟩
      show RNum yr (upS (μ 0) 10 1) (μ 6) _
      unfold RNum
      rw [upS_at, upS_ne (by decide), upS_ne (by decide), upS_ne (by decide), upS_ne (by decide), upS_ne (by decide), upS_ne (by decide), put_eq, e 0 (by decide), e 2 (by decide), e 6 (by decide), e 13 (by decide), e 14 (by decide), e 15 (by decide), e 8 (by decide), e 9 (by decide), e 10 (by decide), e 11 (by decide)]
      exact ⟨a0, a1, a2, Or.inr rfl, rfl, a5, a6, a7, a8, a9, a10, a11, a12, a13, a14, ⟨z, hz, ez⟩, a16, a17, a18⟩
  · refine ⟨0, μ 0, M, ?_, ?_, by rw [va_up_id]; exact hR⟩
    · unfold f_X11_sail
      rw [if_neg (by rw [c]; decide)]
    · unfold f_X12_sail
      rw [m1, if_pos c]
