/-! ===== ends: the bales that came, the loans, the close ===== -/
theorem land_1 {yr nc nb nl tp b pr : Nat} {Z C B D Y P U T M : Mem} (h : RY yr nc nb nl tp Z C B D Y P U T (M 0)) (hb : b < nb) (hl : C 6 b ≠ -1) (hpr : pr ≤ 200) : ∃ (Z' Y' P' M' : Mem), f_X7_landBale Z C Y P U (nI b) (nI pr) = some (Z', Y', P') ∧ f_X12_comes M (nI b) (nI pr) (nI (280 + 9 * yr)) = some M' ∧ RY yr nc nb nl tp Z' C B D Y' P' U T (M' 0) ∧ Keep M M' := by
  obtain ⟨hy, h1, h2, h3, h4, h5, h6, h7⟩ := id h
  have h12 := h2.1
  have ok := h2.2.2.2.2.2.2 b hb
  obtain ⟨v, hv, ev⟩ := vl_nat ok
  obtain ⟨w, hw, ew⟩ := rm_nat ok
  obtain ⟨⟨o, ho, eo⟩, -, -, -, -, hq, -⟩ := ok
  obtain ⟨s, hs, es⟩ : ∃ z : Nat, z < nc ∧ C 6 b = nI z := by
    rcases hq with ⟨q, -⟩ | ⟨q, -⟩
    · exact absurd q hl
    · exact q
  obtain ⟨x0, x1, x2, x3, x4, x5, x6, x7⟩ := h2.2.2.2.2.2.1 b hb
  have u3 : M 0 ((11 : Int32)).toNatClampNeg = U 3 0 := h1.2.2.2.2.2.2.2.2.2.2.2.2.2.2.1
  have vp : v * pr ≤ 1000 * 200 := Nat.mul_le_mul hv hpr
  have ei : nI v * nI pr / (100 : Int32) = nI (v * pr / 100) := by
    show nI v * nI pr / nI 100 = _
    rw [pk_mul, pk_div (by omega) (by decide) (by decide)]
  have et : nI (v * pr / 100) / (10 : Int32) = nI (v * pr / 100 / 10) := by
    show nI (v * pr / 100) / nI 10 = _
    rw [pk_div (by omega) (by decide) (by decide)]
  have ex : nI (v * pr / 100) - nI (v * pr / 100 / 10) = nI (v * pr / 100 - v * pr / 100 / 10) := pk_sub (by omega)
  have eA : f_X7_landBale Z C Y P U (nI b) (nI pr) = if nI s = nI o then f_X7_landBale_L78 Z C Y P U (nI o) (nI s) (nI (v * pr / 100)) (nI (v * pr / 100 / 10)) 0 else f_X7_landBale_L78 Z C Y P U (nI o) (nI s) (nI (v * pr / 100)) (nI (v * pr / 100 / 10)) (if nI (v * pr / 100) - nI (v * pr / 100 / 10) < U 3 0 * nI w then nI (v * pr / 100) - nI (v * pr / 100 / 10) else U 3 0 * nI w) := by
    unfold f_X7_landBale
    rw [if_neg (nI_in (N := 12) (by omega) (by decide)), value0_eq (by omega), Option.bind_some, room0_eq (by omega), Option.bind_some, nI_clamp (n := b) (by omega), ev, ew, eo, es, ei, et]
  have eB : f_X12_comes M (nI b) (nI pr) (nI (280 + 9 * yr)) = if nI s = nI o then f_X12_comes_L59 M (nI (280 + 9 * yr)) (nI o) (nI s) (nI (v * pr / 100)) (nI (v * pr / 100 / 10)) 0 else f_X12_comes_L59 M (nI (280 + 9 * yr)) (nI o) (nI s) (nI (v * pr / 100)) (nI (v * pr / 100 / 10)) (U 3 0 * nI w) := by
    unfold f_X12_comes
    rw [its_eq M b 0 0 rfl (by omega) (by decide), its_eq M b 5 5 rfl (by omega) (by decide), show M 0 (90 + 9 * b + 0) = nI o from x0.trans eo, x5, mvalue_eq h2 hb, mroom_eq h2 hb, Option.bind_some, Option.bind_some, Option.bind_some, Option.bind_some, u3, ev, ew, es, ei, et]
  by_cases q : nI s = nI o
  · rw [eA, eB, if_pos q, if_pos q]
    unfold f_X12_comes_L59
    rw [ex, if_pos (nI_pos' (by omega))]
    exact land78 h ho hs _ _ _
  · rw [eA, eB, if_neg q, if_neg q]
    unfold f_X12_comes_L59
    by_cases z : nI (v * pr / 100) - nI (v * pr / 100 / 10) < U 3 0 * nI w
    · rw [if_pos z, if_neg (by rw [Int32.not_le]; exact z)]
      exact land78 h ho hs _ _ _
    · rw [if_neg z, if_pos (by rw [← Int32.not_lt]; exact z)]
      exact land78 h ho hs _ _ _
theorem land_L {yr nc nb nl tp pr : Nat} {C B D U T : Mem} (hpr : pr ≤ 200) : ∀ (d j n m : Nat) (Z Y P M : Mem), j + d = nb → d < n → d < m → RY yr nc nb nl tp Z C B D Y P U T (M 0) → ∃ (Z' Y' P' M' : Mem), f_X7_landBales_L40 n Z C Y P U (nI pr) (nI j) = some (Z', Y', P') ∧ f_X12_ends_L211 m M 0 (nI (280 + 9 * yr)) (nI pr) (nI j) = f_X12_ends_L253 FU M' 0 0 ∧ RY yr nc nb nl tp Z' C B D Y' P' U T (M' 0) ∧ Keep M M'
  | 0, j, n + 1, m + 1, Z, Y, P, M, h, _, _, hY => by
    have e : j = nb := by omega
    subst e
    have h2 := hY.2.2.1
    refine ⟨Z, Y, P, M, ?_, ?_, hY, Keep.rf M⟩
    · rw [f_X7_landBales_L40, if_pos (by rw [h2.2.1]; exact Int32.le_refl _)]
    · rw [f_X12_ends_L211, if_pos (by rw [show M 0 ((4 : Int32)).toNatClampNeg = nI j from h2.2.2.1]; exact Int32.le_refl _)]
  | d + 1, j, n + 1, m + 1, Z, Y, P, M, h, hn, hm, hY => by
    have h2 := hY.2.2.1
    have h6 := hY.2.2.2.2.2.2.1
    have hb := h2.1
    rw [f_X7_landBales_L40, if_neg (by rw [h2.2.1]; exact nI_ge (by omega) (by omega)), f_X12_ends_L211, if_neg (by rw [show M 0 ((4 : Int32)).toNatClampNeg = nI nb from h2.2.2.1]; exact nI_ge (by omega) (by omega)), if_pos (show (0 : Int32) = 0 from rfl), lies_yes h2.2.1 hb (by omega), mlies_eq h2 h6.1 (by omega), Option.bind_some, Option.bind_some, nI_1]
    by_cases q : C 6 j = -1
    · rw [if_pos q, if_pos (show (0 : Int32) = 0 from rfl), if_pos (show (0 : Int32) = 0 from rfl)]
      exact land_L hpr d (j + 1) n m Z Y P M (by omega) (by omega) (by omega) hY
    · obtain ⟨Z1, Y1, P1, M1, g1, g2, g3, g4⟩ := land_1 hY (b := j) (by omega) q hpr
      rw [if_neg q, if_neg (show ¬ (1 : Int32) = 0 by decide), if_neg (show ¬ (1 : Int32) = 0 by decide), g1, bd3_s, g2, Option.bind_some]
      obtain ⟨Z', Y', P', M', i1, i2, i3, i4⟩ := land_L hpr d (j + 1) n m Z1 Y1 P1 M1 (by omega) (by omega) (by omega) g3
      exact ⟨Z', Y', P', M', i1, i2, i3, g4.tr i4⟩
  | d, j, 0, m, _, _, _, _, _, hn, _, _ => absurd hn (by omega)
  | d, j, n, 0, _, _, _, _, _, _, hm, _ => absurd hm (by omega)
theorem loans_L {yr nc nb nl tp : Nat} {Z C B D Y U T : Mem} : ∀ (d j n m : Nat) (P M : Mem), j + d = nl → d < n → d < m → RY yr nc nb nl tp Z C B D Y P U T (M 0) → ∃ (P' M' : Mem), f_X7_repayLoans_L2 n Z B P (nI j) = some P' ∧ f_X12_ends_L253 m M 0 (nI j) = f_X12_ends_L280 M' 0 ∧ RY yr nc nb nl tp Z C B D Y P' U T (M' 0) ∧ Keep M M'
  | 0, j, n + 1, m + 1, P, M, h, _, _, hY => by
    have e : j = nl := by omega
    subst e
    have h3 := hY.2.2.2.1
    refine ⟨P, M, ?_, ?_, hY, Keep.rf M⟩
    · rw [f_X7_repayLoans_L2, if_pos (by rw [h3.2.1]; exact Int32.le_refl _)]
    · rw [f_X12_ends_L253, if_pos (by rw [show M 0 ((5 : Int32)).toNatClampNeg = nI j from h3.2.2.1]; exact Int32.le_refl _)]
  | d + 1, j, n + 1, m + 1, P, M, h, hn, hm, hY => by
    have h3 := hY.2.2.2.1
    have h6 := hY.2.2.2.2.2.2.1
    have hl := h3.1
    have h8 := h6.1
    obtain ⟨x1, x2, x3, x4⟩ := h3.2.2.2.1 j (by omega)
    obtain ⟨⟨a, ha, ea⟩, ⟨b, hb, eb⟩⟩ := h3.2.2.2.2 j (by omega)
    have hw : ∃ w : Int32, w = B 3 j + B 3 j * B 4 j / 100 := ⟨_, rfl⟩
    obtain ⟨w, ew⟩ := hw
    have r1 := h6.add ha (show 4 < 7 by decide) w
    have r2 := r1.add hb (show 4 < 7 by decide) (-w)
    have g1 := cit_add h6 ha (show 4 < 7 by decide) w 4 rfl
    have g2 := cit_add r1 hb (show 4 < 7 by decide) (-w) 4 rfl
    have s2 := hY.cit (fun i _ hi => by rw [put_no (by omega), put_no (by omega)]) r2
    obtain ⟨P', M', i1, i2, i3, i4⟩ := loans_L d (j + 1) n m _ _ (by omega) (by omega) (by omega) s2
    refine ⟨P', M', ?_, ?_, i3, ((Keep.pt (by omega)).tr (Keep.pt (by omega))).tr i4⟩
    · have eo : f_X5_owed B (nI j) = some w := by
        unfold f_X5_owed
        rw [if_neg (nI_in (N := 20) (by omega) (by decide)), nI_clamp (n := j) (by omega), ew]
      rw [f_X7_repayLoans_L2, if_neg (by rw [h3.2.1]; exact nI_ge (by omega) (by omega)), if_neg (nI_in (N := 20) (by omega) (by decide)), eo, Option.bind_some, nI_clamp (n := j) (by omega), ea, eb, pay_add w (by omega) (by omega), Option.bind_some, nI_1, addA_comm P 5 b 5 a _ _ (by omega) (by omega)]
      exact i1
    · have ep : f_X12_paysBack M (nI j) = some (put (put M (20 + 8 * a + 4) (P (4 + 1) a + w)) (20 + 8 * b + 4) (addA P (4 + 1) a w (4 + 1) b + -w)) := by
        unfold f_X12_paysBack
        rw [show ((200 : Int32) + (4 : Int32) * nI j) + (2 : Int32) = nI (200 + 4 * j + 2) from ix200 j 2, show ((200 : Int32) + (4 : Int32) * nI j) + (3 : Int32) = nI (200 + 4 * j + 3) from ix200 j 3, show ((200 : Int32) + (4 : Int32) * nI j) + (1 : Int32) = nI (200 + 4 * j + 1) from ix200 j 1, ix200', if_neg (nI_in (N := 11160) (c := 200 + 4 * j + 2) (by omega) (by decide)), if_neg (nI_in (N := 11160) (c := 200 + 4 * j + 3) (by omega) (by decide)), if_neg (nI_in (N := 11160) (c := 200 + 4 * j) (by omega) (by decide)), nI_clamp (n := 200 + 4 * j + 2) (by omega), nI_clamp (n := 200 + 4 * j + 3) (by omega), nI_clamp (n := 200 + 4 * j) (by omega), x1, x3, x4, ea, ← ew, g1, Option.bind_some, if_neg (nI_in (N := 11160) (c := 200 + 4 * j + 1) (by omega) (by decide)), nI_clamp (n := 200 + 4 * j + 1) (by omega), put_no (j := 200 + 4 * j + 1) (by omega), x2, eb, g2, Option.bind_some]
      rw [f_X12_ends_L253, if_neg (by rw [show M 0 ((5 : Int32)).toNatClampNeg = nI nl from h3.2.2.1]; exact nI_ge (by omega) (by omega)), if_pos (show (0 : Int32) = 0 from rfl), ep, Option.bind_some, nI_1]
      exact i2
  | d, j, 0, m, _, _, _, hn, _, _ => absurd hn (by omega)
  | d, j, n, 0, _, _, _, _, hm, _ => absurd hm (by omega)
theorem drop_L {nc : Nat} : ∀ (d j n m : Nat) (P M : Mem), j + d = nc → d < n → d < m → RCit nc P (M 0) → ∃ (P' M' : Mem), f_X2_dropSlips_L2 n P (nI j) = some P' ∧ f_X12_ends_L348 m M (nI j) = some (M 0 0, M') ∧ RCit nc P' (M' 0) ∧ Keep M M' ∧ ∀ i, (i < 20 ∨ 84 ≤ i) → M' 0 i = M 0 i
  | 0, j, n + 1, m + 1, P, M, h, _, _, hP => by
    have e : j = nc := by omega
    subst e
    refine ⟨P, M, ?_, ?_, hP, Keep.rf M, fun _ _ => rfl⟩
    · rw [f_X2_dropSlips_L2, if_pos (by rw [hP.2.1]; exact Int32.le_refl _)]
    · rw [f_X12_ends_L348, if_pos (by rw [show M 0 ((3 : Int32)).toNatClampNeg = nI j from hP.2.2.1]; exact Int32.le_refl _)]
      rfl
  | d + 1, j, n + 1, m + 1, P, M, h, hn, hm, hP => by
    have h8 := hP.1
    obtain ⟨P', M', i1, i2, i3, i4, i5⟩ := drop_L d (j + 1) n m _ _ (by omega) (by omega) (by omega) (hP.cell (c := j) (k := 2) (by omega) (by decide) 0)
    refine ⟨P', M', ?_, ?_, i3, (Keep.pt (by omega)).tr i4, fun i hi => by rw [i5 i hi, put_no (by omega)]⟩
    · rw [f_X2_dropSlips_L2, if_neg (by rw [hP.2.1]; exact nI_ge (by omega) (by omega)), if_neg (nI_in (N := 8) (by omega) (by decide)), wr_s, nI_1]
      exact i1
    · rw [f_X12_ends_L348, if_neg (by rw [show M 0 ((3 : Int32)).toNatClampNeg = nI nc from hP.2.2.1]; exact nI_ge (by omega) (by omega)), show ((20 : Int32) + (8 : Int32) * nI j) + (2 : Int32) = nI (20 + 8 * j + 2) from ix_of j 2, if_neg (nI_in (N := 11160) (by omega) (by decide)), upA_put _ _ (by omega), wr_s, nI_1]
      rw [put_no (j := 0) (by omega)] at i2
      exact i2
  | d, j, 0, m, _, _, _, hn, _, _ => absurd hn (by omega)
  | d, j, n, 0, _, _, _, _, hm, _ => absurd hm (by omega)
/-- the close of the year, on both sides -/
theorem close_eq {yr nc nb nl tp : Nat} {Z Z0 C B D Y P U T M : Mem} {p : Int32} (hp : p = 0 ∨ p = 1) (h : RY yr nc nb nl tp Z0 C B D Y P U T (M 0)) (hz : ∀ k, k ≠ 12 → Z k = Z0 k) (h12 : Z 12 0 = M 0 6 + p) : ∃ (Z' C' B' P' M' : Mem), f_X7_closeYear_L58 Z C B Y P U = some (Z', C', B', Y, P') ∧ f_X12_ends_L280 M p = some (nI (yr + 1), M') ∧ Z' 9 0 = nI (yr + 1) ∧ Keep M M' ∧ RNum (yr + 1) Z' U (M' 0) ∧ RBal 0 nc C' (M' 0) ∧ RLoan 0 nc B' (M' 0) ∧ RLaw D (M' 0) ∧ RBook (yr + 1) Y (M' 0) ∧ RCit nc P' (M' 0) ∧ RTape tp T (M' 0) := by
  obtain ⟨hy, h1, h2, h3, h4, h5, h6, h7⟩ := h
  obtain ⟨a0, a1, a2, a3, a4, a5, a6, a7, a8, a9, a10, a11, a12, a13, a14, a15, a16, a17, a18⟩ := id h1
  have hM : ∃ M7 : Mem, M7 = put (put (put (put (put (put (put M 6 (M 0 6 + p)) 0 (nI (yr + 1))) 1 0) 2 0) 4 0) 5 0) 16 0 := ⟨_, rfl⟩
  obtain ⟨M7, hM7⟩ := hM
  have w : ∀ i, M7 0 i = if i = 16 then 0 else if i = 5 then 0 else if i = 4 then 0 else if i = 2 then 0 else if i = 1 then 0 else if i = 0 then nI (yr + 1) else if i = 6 then M 0 6 + p else M 0 i := by
    intro i
    rw [hM7]
    simp only [put_get]
  have wn : ∀ i, 17 ≤ i → M7 0 i = M 0 i := fun i hi => by rw [w i, if_neg (by omega), if_neg (by omega), if_neg (by omega), if_neg (by omega), if_neg (by omega), if_neg (by omega), if_neg (by omega)]
  have w3 : M7 0 3 = M 0 3 := w 3
  obtain ⟨P', M', i1, i2, i3, i4, i5⟩ := drop_L nc 0 FU FU P M7 (by omega) (FU_gt (by have := h6.1; omega)) (FU_gt (by have := h6.1; omega)) (h6.cg w3 (fun i a b => wn i (by omega)))
  have k7 : Keep M M7 := by
    rw [hM7]
    exact ((((((Keep.pt (by decide)).tr (Keep.pt (by decide))).tr (Keep.pt (by decide))).tr (Keep.pt (by decide))).tr (Keep.pt (by decide))).tr (Keep.pt (by decide))).tr (Keep.pt (by decide))
  refine ⟨upS (upS (upS Z 11 0) 10 0) 9 (nI (yr + 1)), upS (upS C 0 0) 8 0, upS B 0 0, P', M', ?_, ?_, upS_at _ _ _ _, k7.tr i4, ?_, ?_, ?_, ?_, ?_, i3, ?_⟩
  · unfold f_X7_closeYear_L58 f_X0_dropAll
    rw [show f_X2_dropSlips P = some P' from i1, Option.bind_some, wr_s, wr_s, Option.bind_some, wr_s, wr_s, wr_s, wr_s, upS_ne (k := 10) (j := 9) (by decide), upS_ne (k := 11) (j := 9) (by decide), hz 9 (by decide), a1, nI_1]
  · have e297 : f_X12_ends_L297 M p (M 0 6) 6 = some (nI (yr + 1), M') := by
      unfold f_X12_ends_L297
      rw [if_neg (by decide), upA_lit _ 6 6 _ rfl, wr_s]
      rw [show put M 6 (M 0 6 + p) 0 ((0 : Int32)).toNatClampNeg = nI yr from (put_no (by decide)).trans a2, nI_1, upA_lit _ 0 0 _ rfl, wr_s, upA_lit _ 1 1 _ rfl, wr_s, upA_lit _ 2 2 _ rfl, wr_s, upA_lit _ 4 4 _ rfl, wr_s, upA_lit _ 5 5 _ rfl, wr_s, upA_lit _ 16 16 _ rfl, wr_s, ← hM7]
      have i2 : f_X12_ends_L348 FU M7 0 = some (M7 0 0, M') := i2
      rw [i2, show M7 0 0 = nI (yr + 1) from w 0]
    have m6 : M 0 ((6 : Int32)).toNatClampNeg = M 0 6 := rfl
    unfold f_X12_ends_L280
    rw [m6]
    rcases hp with rfl | rfl
    · rw [if_pos (show (0 : Int32) = 0 from rfl)]
      exact e297
    · rw [if_neg (show ¬ (1 : Int32) = 0 by decide)]
      exact e297
  · have z : ∀ k, k ≠ 9 → k ≠ 10 → k ≠ 11 → upS (upS (upS Z 11 0) 10 0) 9 (nI (yr + 1)) k = Z k := fun k x y v => by rw [upS_ne x, upS_ne y, upS_ne v]
    have e : ∀ i, i < 20 → M' 0 i = M7 0 i := fun i hi => i5 i (Or.inl hi)
    unfold RNum
    rw [upS_at, z 12 (by decide) (by decide) (by decide), z 7 (by decide) (by decide) (by decide), z 8 (by decide) (by decide) (by decide), z 13 (by decide) (by decide) (by decide), e 0 (by decide), e 1 (by decide), e 2 (by decide), e 6 (by decide), e 13 (by decide), e 14 (by decide), e 15 (by decide), e 8 (by decide), e 9 (by decide), e 10 (by decide), e 11 (by decide), hz 7 (by decide), hz 8 (by decide), hz 13 (by decide), h12]
    rw [show M7 0 0 = nI (yr + 1) from w 0, show M7 0 1 = 0 from w 1, show M7 0 2 = 0 from w 2, show M7 0 6 = M 0 6 + p from w 6, show M7 0 13 = M 0 13 from w 13, show M7 0 14 = M 0 14 from w 14, show M7 0 15 = M 0 15 from w 15, show M7 0 8 = M 0 8 from w 8, show M7 0 9 = M 0 9 from w 9, show M7 0 10 = M 0 10 from w 10, show M7 0 11 = M 0 11 from w 11]
    have z10 : upS (upS (upS Z 11 0) 10 0) 9 (nI (yr + 1)) 10 0 = 0 := by rw [upS_ne (by decide), upS_at]
    have z11 : upS (upS (upS Z 11 0) 10 0) 9 (nI (yr + 1)) 11 0 = 0 := by rw [upS_ne (by decide), upS_ne (by decide), upS_at]
    rw [z10, z11]
    exact ⟨by omega, rfl, rfl, Or.inl rfl, rfl, ⟨0, by omega, rfl⟩, rfl, rfl, a8, a9, a10, a11, a12, a13, a14, a15, a16, a17, a18⟩
  · refine ⟨by omega, ?_, ?_, ?_, ?_, fun b hb => absurd hb (by omega), fun b hb => absurd hb (by omega)⟩
    · rw [upS_ne (by decide), upS_at]; rfl
    · rw [i5 4 (by decide)]; exact w 4
    · rw [i5 16 (by decide), upS_at]; exact w 16
    · rw [upS_at]; exact Or.inl rfl
  · refine ⟨by omega, ?_, ?_, fun b hb => absurd hb (by omega), fun b hb => absurd hb (by omega)⟩
    · rw [upS_at]; rfl
    · rw [i5 5 (by decide)]; exact w 5
  · exact h4.cg (by rw [i5 7 (by decide)]; exact w 7) (fun i a b => by rw [i5 i (by omega), wn i (by omega)])
  · exact h5.cg (by omega) (fun i a b => by rw [i5 i (by omega), wn i (by omega)])
  · exact h7.cg (by rw [i5 12 (by decide)]; exact w 12) (fun i a b => by rw [i5 i (by omega), wn i (by omega)])
theorem st_ends : S_ends Rel0 := by
  intro μ I M p1 hR hp
  obtain ⟨⟨yr, nc, nb, nl, tp, hN⟩, hI⟩ := id hR
  obtain ⟨h1, h2, h3, h4, h5, h6, h7⟩ := id hN
  obtain ⟨a0, a1, a2, a3, a4, a5, a6, a7, a8, a9, a10, a11, a12, a13, a14, a15, a16, a17, a18⟩ := id h1
  have m1 : M 0 ((1 : Int32)).toNatClampNeg = μ 0 10 0 := a4
  have m0 : M 0 ((0 : Int32)).toNatClampNeg = nI yr := a2
  have hb := h2.1
  have h8 := h6.1
  have no : f_X11_ends (μ 0) (μ 1) (μ 2) (μ 4) (μ 5) (μ 6) p1 = some (-1, μ 0, μ 1, μ 2, μ 4, μ 5) → f_X12_ends M p1 = some (-1, M) → ∃ (r : Int32) (N0 : Mem) (N1 : Mem) (N2 : Mem) (N4 : Mem) (N5 : Mem) (M' : Mem), f_X11_ends (μ 0) (μ 1) (μ 2) (μ 4) (μ 5) (μ 6) p1 = some (r, N0, N1, N2, N4, N5) ∧ f_X12_ends M p1 = some (r, M') ∧ Rel0 (va_up (va_up (va_up (va_up (va_up μ 0 N0) 1 N1) 2 N2) 4 N4) 5 N5) I M' := fun a b => ⟨-1, μ 0, μ 1, μ 2, μ 4, μ 5, M, a, b, by
    have e : va_up (va_up (va_up (va_up (va_up μ 0 (μ 0)) 1 (μ 1)) 2 (μ 2)) 4 (μ 4)) 5 (μ 5) = μ := by
      rw [va_up_id μ 0, va_up_id μ 1, va_up_id μ 2, va_up_id μ 4, va_up_id μ 5]
    rw [e]; exact hR⟩
  rcases a3 with c | c
  · refine no ?_ ?_
    · unfold f_X11_ends
      rw [if_pos c]
    · unfold f_X12_ends
      rw [m1, if_pos c]
  · by_cases hy : yr = 199
    · refine no ?_ ?_
      · unfold f_X11_ends
        rw [if_neg (by rw [c]; decide), a1, if_neg (show ¬ nI yr < (199 : Int32) from nI_nlt (b := 199) (by omega) (by omega))]
      · unfold f_X12_ends
        rw [m1, if_neg (by rw [c]; decide), m0, if_pos (by rw [hy]; rfl)]
    · have hy : yr ≤ 198 := by omega
      obtain ⟨M1, w1, w2, w3, w4, w5, w6⟩ := wipe_L (x := 280 + 9 * yr) (by omega) (by omega) p1 hp 9 0 FU M (by omega) (FU_gt (by omega))
      have hB1 := h2.e9 w2 (by omega)
      obtain ⟨M2, t1, t2, t3, t4, t5, t6⟩ := tally_L (x := 280 + 9 * yr) (by omega) (by omega) h8 p1 nb 0 FU M1 (by omega) (FU_gt (by omega)) hB1 (w3 1 (by omega) (by decide) (by decide)) (w3 2 (by omega) (by decide) (by decide)) (w3 3 (by omega) (by decide) (by decide))
      obtain ⟨rr, hrr, err⟩ := gR_nat h2 nb (by omega)
      have e100 : (100 : Int32) + sumI (gR (μ 1)) nb = nI (100 + rr) := by rw [err]; exact nI_add 100 rr
      have epr : (20000 : Int32) / nI (100 + rr) = nI (20000 / (100 + rr)) := pk_div (a := 20000) (by decide) (by omega) (by omega)
      have hpr : 20000 / (100 + rr) ≤ 200 := by
        refine Nat.le_trans (Nat.div_le_div_left (show 100 ≤ 100 + rr by omega) (by decide)) (by decide)
      have n100 : ¬ nI (100 + rr) = 0 := nI_ne0 (by omega) (by omega)
      rw [e100, epr, if_neg n100] at t1
      have eB0 : f_X12_ends M p1 = f_X12_ends_L39 FU M p1 (nI (280 + 9 * yr)) 0 := by
        unfold f_X12_ends
        rw [m1, if_neg (by rw [c]; decide), m0, if_neg (fun e : nI yr = 199 => absurd ((nI_eq (b := 199) (by omega) (by decide)).mp e) (by omega)), ix280]
      have w1 : f_X12_ends_L39 FU M p1 (nI (280 + 9 * yr)) 0 = _ := w1
      have t1 : f_X12_ends_L95 FU M1 p1 (nI (280 + 9 * yr)) 0 0 = _ := t1
      rw [w1, t1] at eB0
      have e196 : ∀ pr : Int32, f_X12_ends_L196 M2 p1 (nI (280 + 9 * yr)) pr = f_X12_ends_L211 FU (put M2 (280 + 9 * yr + 4) pr) p1 (nI (280 + 9 * yr)) pr 0 := by
        intro pr
        unfold f_X12_ends_L196
        rw [show nI (280 + 9 * yr) + (4 : Int32) = nI (280 + 9 * yr + 4) from nI_add _ 4, if_neg (nI_in (N := 11160) (by omega) (by decide)), upA_put _ _ (by omega), wr_s]
      rw [e196, e196] at eB0
      have hcnt : nI nb - sumI (gW (μ 1)) nb = sumI (gL (μ 1)) nb := (gL_gW (μ 1) nb).symm
      have hopen : f_X10_open (μ 1) (μ 4) (μ 0 9 0) (μ 0 11 0) = some (upA (upA (upA (upA (μ 4) 0 (nI (9 * yr + 0)) (μ 0 11 0)) 0 (nI (9 * yr + 1)) (sumI (gL (μ 1)) nb)) 0 (nI (9 * yr + 2)) (sumI (gV (μ 1)) nb)) 0 (nI (9 * yr + 3)) (sumI (gH (μ 1)) nb)) := by
        unfold f_X10_open
        rw [a1, y_put (e := 0) 0 _ rfl hy (by decide), Option.bind_some, waiting_eq h2.2.1 hb, Option.bind_some, h2.2.1, hcnt, y_put (e := 1) 1 _ rfl hy (by decide), Option.bind_some, judged_all h2.2.1 hb, Option.bind_some, y_put (e := 2) 2 _ rfl hy (by decide), Option.bind_some, ladenWeight_eq h2.2.1 hb, Option.bind_some, show weV (μ 1) nb = sumI (gH (μ 1)) nb from weight_all h2 h8 nb (by omega), y_put (e := 3) 3 _ rfl hy (by decide), Option.bind_some]
      have eE : E9 M M2 (280 + 9 * yr) := w2.tr t2
      have eout : ∀ i, (i < 280 ∨ 2071 ≤ i) → M2 0 i = M 0 i := fun i hi => eE.2 i (by omega)
      have c0 : M2 0 (280 + 9 * yr) = μ 0 11 0 := by
        have := t6 0 (Or.inl rfl)
        rw [Nat.add_zero] at this
        rw [this, w4]
        exact a6
      have c5 : ∀ e, 4 ≤ e → e < 8 → M2 0 (280 + 9 * yr + e) = 0 := fun e x y => by rw [t6 e (Or.inr x), w3 e (by omega) y (by omega)]
      have c8 : M2 0 (280 + 9 * yr + 8) = p1 := by rw [t6 8 (Or.inr (by omega)), w5]
      have RYof : ∀ (e : Nat) (v v4 : Int32), (e = 4 ∧ v = v4 ∧ p1 = 0) ∨ (e = 8 ∧ v = 1 ∧ v4 = 0 ∧ p1 = 1) → RY yr nc nb nl tp (μ 0) (μ 1) (μ 2) (μ 3) (upA (upA (upA (upA (upA (μ 4) 0 (nI (9 * yr + 0)) (μ 0 11 0)) 0 (nI (9 * yr + 1)) (sumI (gL (μ 1)) nb)) 0 (nI (9 * yr + 2)) (sumI (gV (μ 1)) nb)) 0 (nI (9 * yr + 3)) (sumI (gH (μ 1)) nb)) 0 (nI (9 * yr + e)) v) (μ 5) (μ 6) (μ 7) (put M2 (280 + 9 * yr + 4) v4 0) := by
        intro e v v4 he
        have w : ∀ i, (i < 280 ∨ 2071 ≤ i) → put M2 (280 + 9 * yr + 4) v4 0 i = M 0 i := fun i hi => by rw [put_no (by omega)]; exact eout i hi
        refine ⟨hy, h1.cg (fun i hi => w i (Or.inl ?_)), h2.cg (w _ (by decide)) (w _ (by decide)) (fun i a b => w i (by omega)), h3.cg (w _ (by decide)) (fun i a b => w i (by omega)), h4.cg (w _ (by decide)) (fun i a b => w i (by omega)), ⟨fun i hi => ?_, fun i x y => ?_⟩, h6.cg (w _ (by decide)) (fun i a b => w i (by omega)), h7.cg (w _ (by decide)) (fun i a b => w i (by omega))⟩
        · simp only [List.mem_cons, List.not_mem_nil, or_false] at hi; omega
        · simp only [upA_get _ _ _ (show 9 * yr + e < 2147483648 by omega), upA_get _ _ _ (show 9 * yr + 0 < 2147483648 by omega), upA_get _ _ _ (show 9 * yr + 1 < 2147483648 by omega), upA_get _ _ _ (show 9 * yr + 2 < 2147483648 by omega), upA_get _ _ _ (show 9 * yr + 3 < 2147483648 by omega), true_and]
          by_cases q : i < 9 * yr
          · rw [if_neg (by omega), if_neg (by omega), if_neg (by omega), if_neg (by omega), if_neg (by omega), put_no (by omega), eE.2 _ (by omega)]
            exact h5.1 i q
          · obtain ⟨f, hf, rfl⟩ : ∃ f, f < 9 ∧ i = 9 * yr + f := ⟨i - 9 * yr, by omega, by omega⟩
            have y0 := h5.2 (9 * yr + f) (by omega) (by omega)
            rw [← Nat.add_assoc]
            rcases (show f = 0 ∨ f = 1 ∨ f = 2 ∨ f = 3 ∨ f = 4 ∨ f = 8 ∨ (5 ≤ f ∧ f < 8) by omega) with rfl | rfl | rfl | rfl | rfl | rfl | ⟨f1, f2⟩
            · rw [if_neg (by omega), if_neg (by omega), if_neg (by omega), if_neg (by omega), if_pos rfl, put_no (by omega)]
              exact c0
            · rw [if_neg (by omega), if_neg (by omega), if_neg (by omega), if_pos rfl, put_no (by omega)]
              exact t3
            · rw [if_neg (by omega), if_neg (by omega), if_pos rfl, put_no (by omega)]
              exact t4
            · rw [if_neg (by omega), if_pos rfl, put_no (by omega)]
              exact t5
            · rw [put_eq]
              rcases he with ⟨rfl, rfl, -⟩ | ⟨rfl, -, rfl, -⟩
              · rw [if_pos rfl]
              · rw [if_neg (by omega), if_neg (by omega), if_neg (by omega), if_neg (by omega), if_neg (by omega)]
                exact y0.symm
            · rw [put_no (by omega), c8]
              rcases he with ⟨rfl, -, e1⟩ | ⟨rfl, e1, -, e2⟩
              · rw [if_neg (by omega), if_neg (by omega), if_neg (by omega), if_neg (by omega), if_neg (by omega), e1]
                exact y0.symm
              · rw [if_pos rfl, e1, e2]
            · rw [put_no (by omega), c5 f (by omega) f2, if_neg (by omega), if_neg (by omega), if_neg (by omega), if_neg (by omega), if_neg (by omega)]
              exact y0.symm
        · simp only [upA_get _ _ _ (show 9 * yr + e < 2147483648 by omega), upA_get _ _ _ (show 9 * yr + 0 < 2147483648 by omega), upA_get _ _ _ (show 9 * yr + 1 < 2147483648 by omega), upA_get _ _ _ (show 9 * yr + 2 < 2147483648 by omega), upA_get _ _ _ (show 9 * yr + 3 < 2147483648 by omega), true_and]
          rw [if_neg (by omega), if_neg (by omega), if_neg (by omega), if_neg (by omega), if_neg (by omega)]
          exact h5.2 i (by omega) y
      have fin : ∀ (Z Z0 Y P M3 : Mem), Keep M M3 → RY yr nc nb nl tp Z0 (μ 1) (μ 2) (μ 3) Y P (μ 6) (μ 7) (M3 0) → (∀ k, k ≠ 12 → Z k = Z0 k) → Z 12 0 = M3 0 6 + p1 → f_X7_closeYear (μ 0) (μ 1) (μ 2) (μ 4) (μ 5) (μ 6) p1 = f_X7_closeYear_L58 Z (μ 1) (μ 2) Y P (μ 6) → f_X12_ends M p1 = f_X12_ends_L280 M3 p1 → ∃ (r : Int32) (N0 : Mem) (N1 : Mem) (N2 : Mem) (N4 : Mem) (N5 : Mem) (M' : Mem), f_X11_ends (μ 0) (μ 1) (μ 2) (μ 4) (μ 5) (μ 6) p1 = some (r, N0, N1, N2, N4, N5) ∧ f_X12_ends M p1 = some (r, M') ∧ Rel0 (va_up (va_up (va_up (va_up (va_up μ 0 N0) 1 N1) 2 N2) 4 N4) 5 N5) I M' := by
        intro Z Z0 Y P M3 hk hRY hz hz12 e1 e2
        obtain ⟨Z', C', B', P', M', g1, g2, g3, g4, g5, g6, g7, g8, g9, g10, g11⟩ := close_eq hp hRY hz hz12
        refine ⟨nI (yr + 1), Z', C', B', Y, P', M', ?_, e2.trans g2, ⟨yr + 1, nc, 0, 0, tp, g5, g6, g7, g8, g9, g10, g11⟩, hI.keep (hk.tr g4)⟩
        unfold f_X11_ends
        rw [if_neg (by rw [c]; decide), a1, if_pos (show nI yr < (199 : Int32) from nI_lt (b := 199) (by omega) (by decide)), e1, g1]
        show some (Z' 9 0, Z', C', B', Y, P') = _
        rw [g3]
      rcases hp with rfl | rfl
      · rw [if_pos rfl] at eB0
        have hRY := RYof 4 (nI (20000 / (100 + rr))) (nI (20000 / (100 + rr))) (Or.inl ⟨rfl, rfl, rfl⟩)
        obtain ⟨Z3, Y3, P3, M3, l1, l2, l3, l4⟩ := land_L hpr nb 0 FU FU (μ 0) _ (μ 5) _ (by omega) (FU_gt (by omega)) (FU_gt (by omega)) hRY
        have l2 : f_X12_ends_L211 FU (put M2 (280 + 9 * yr + 4) (nI (20000 / (100 + rr)))) 0 (nI (280 + 9 * yr)) (nI (20000 / (100 + rr))) 0 = _ := l2
        have hl := h3.1
        obtain ⟨P4, M4, q1, q2, q3, q4⟩ := loans_L nl 0 FU FU P3 M3 (by omega) (FU_gt (by omega)) (FU_gt (by omega)) l3
        have q2 : f_X12_ends_L253 FU M3 0 0 = _ := q2
        rw [l2, q2] at eB0
        have z9 : Z3 9 0 = nI yr := l3.2.1.2.1
        refine fin Z3 Z3 Y3 P4 M4 (((eE.1.tr (Keep.pt (by omega))).tr l4).tr q4) q3 (fun _ _ => rfl) ?_ ?_ eB0
        · rw [Int32.add_zero]
          exact q3.2.1.2.2.2.2.2.2.2.1.symm
        · unfold f_X7_closeYear
          rw [hopen, Option.bind_some, if_pos (show (0 : Int32) = 0 from rfl)]
          have hlb : f_X7_landBales (μ 0) (μ 1) (upA (upA (upA (upA (μ 4) 0 (nI (9 * yr + 0)) (μ 0 11 0)) 0 (nI (9 * yr + 1)) (sumI (gL (μ 1)) nb)) 0 (nI (9 * yr + 2)) (sumI (gV (μ 1)) nb)) 0 (nI (9 * yr + 3)) (sumI (gH (μ 1)) nb)) (μ 5) (μ 6) = some (Z3, Y3, P3) := by
            unfold f_X7_landBales
            rw [ladenRoom_eq h2.2.1 hb, Option.bind_some, e100, if_neg (show ¬ nI (100 + rr) ≤ (0 : Int32) from nI_ge (a := 0) (by omega) (by omega)), if_neg n100, epr]
            unfold f_X7_landBales_L24
            rw [a1, y_put (e := 4) 4 _ rfl hy (by decide), Option.bind_some]
            exact l1
          have hrl : f_X7_repayLoans Z3 (μ 2) P3 = some P4 := q1
          rw [hlb, bd3_s, hrl, Option.bind_some]
      · rw [if_neg (show ¬ (1 : Int32) = 0 by decide)] at eB0
        have hRY := RYof 8 1 0 (Or.inr ⟨rfl, rfl, rfl, rfl⟩)
        have hB4 := hRY.2.2.1
        have e211 : f_X12_ends_L211 FU (put M2 (280 + 9 * yr + 4) 0) 1 (nI (280 + 9 * yr)) 0 0 = f_X12_ends_L280 (put M2 (280 + 9 * yr + 4) 0) 1 := by
          have e253 : f_X12_ends_L253 FU (put M2 (280 + 9 * yr + 4) 0) 1 0 = f_X12_ends_L280 (put M2 (280 + 9 * yr + 4) 0) 1 := by
            obtain ⟨n, hn⟩ : ∃ n, FU = n + 1 := ⟨99999, rfl⟩
            rw [hn, f_X12_ends_L253, if_neg (show ¬ (1 : Int32) = 0 by decide)]
            split <;> rfl
          rw [← e253]
          obtain ⟨n, hn⟩ : ∃ n, FU = n + 1 := ⟨99999, rfl⟩
          rw [hn, f_X12_ends_L211, if_neg (show ¬ (1 : Int32) = 0 by decide), ← hn]
          split <;> rfl
        rw [e211] at eB0
        refine fin (upS (μ 0) 12 (μ 0 12 0 + 1)) (μ 0) _ (μ 5) _ (eE.1.tr (Keep.pt (by omega))) hRY (fun k hk => upS_ne hk) ?_ ?_ eB0
        · rw [upS_at, hRY.2.1.2.2.2.2.2.2.2.1]
        · unfold f_X7_closeYear
          rw [hopen, Option.bind_some, if_neg (show ¬ (1 : Int32) = 0 by decide), wr_s, upS_ne (k := 12) (j := 9) (by decide), a1, y_put (e := 8) 8 _ rfl hy (by decide), Option.bind_some]
