/-! ===== every call keeps the slips small ===== -/
theorem INVP.at {P : Mem} (h : ∀ c, c < 8 → ∃ k : Nat, k ≤ 6400008 ∧ P 3 c = nI k) : INVP P := by
  refine ⟨fun c => (P 3 c).toNatClampNeg, fun c hc => ?_, ?_⟩
  · obtain ⟨k, k1, k2⟩ := h c hc
    show P 3 c = nI (P 3 c).toNatClampNeg
    rw [k2, nI_clamp (by omega)]
  · have b : ∀ c, c < 8 → (P 3 c).toNatClampNeg ≤ 6400008 := by
      intro c hc
      obtain ⟨k, k1, k2⟩ := h c hc
      rw [k2, nI_clamp (by omega)]
      exact k1
    have := b 0 (by omega)
    have := b 1 (by omega)
    have := b 2 (by omega)
    have := b 3 (by omega)
    have := b 4 (by omega)
    have := b 5 (by omega)
    have := b 6 (by omega)
    have := b 7 (by omega)
    show (P 3 0).toNatClampNeg + (P 3 1).toNatClampNeg + (P 3 2).toNatClampNeg + (P 3 3).toNatClampNeg + (P 3 4).toNatClampNeg + (P 3 5).toNatClampNeg + (P 3 6).toNatClampNeg + (P 3 7).toNatClampNeg ≤ 100000000
    omega
theorem inv_citizen {Z P N : Mem} {p1 p2 r : Int32} (h : f_X11_citizen Z P p1 p2 = some (r, N)) : N 3 = P 3 := by
  unfold f_X11_citizen at h
  obtain ⟨x, -, h⟩ := bd1_some h
  split at h
  · obtain ⟨-, rfl⟩ := pj2 h
    rfl
  · obtain ⟨y, N', e, h⟩ := bd2_some h
    obtain ⟨-, rfl⟩ := pj2 h
    unfold f_X2_enter f_X2_enter_L38 at e
    simp only [wr_s] at e
    repeat' split at e
    all_goals first | (obtain ⟨-, rfl⟩ := pj2 e; first | rfl | rw [upS_ne (by decide), upA_ne (by decide), upA_ne (by decide)]) | (cases e)
theorem inv_loan {Z B P N2 N : Mem} {p1 p2 p3 p4 r : Int32} (h : f_X11_loan Z B P p1 p2 p3 p4 = some (r, N2, N)) : N 3 = P 3 := by
  unfold f_X11_loan at h
  split at h
  · obtain ⟨x, -, h⟩ := bd1_some h
    split at h
    · obtain ⟨-, -, rfl⟩ := pj3 h
      rfl
    · obtain ⟨x, -, h⟩ := bd1_some h
      split at h
      · obtain ⟨-, -, rfl⟩ := pj3 h
        rfl
      · obtain ⟨x, -, h⟩ := bd1_some h
        split at h
        · obtain ⟨-, -, rfl⟩ := pj3 h
          rfl
        · obtain ⟨x, B', -, h⟩ := bd2_some h
          split at h
          · obtain ⟨-, -, rfl⟩ := pj3 h
            rfl
          · obtain ⟨P', e, h⟩ := bd1_some h
            obtain ⟨-, -, rfl⟩ := pj3 h
            exact inv_pay e
  · obtain ⟨-, -, rfl⟩ := pj3 h
    rfl
theorem drop_0 : ∀ (n : Nat) (x : Int32) (X N : Mem), f_X2_dropSlips_L2 n X x = some N → N 0 = X 0
  | 0, _, _, _, h => by
    rw [f_X2_dropSlips_L2] at h
    exact absurd h (by simp)
  | n + 1, x, X, N, h => by
    rw [f_X2_dropSlips_L2] at h
    split at h
    · injection h with h
      rw [h]
    · split at h
      · exact absurd h (by simp)
      · rw [wr_s] at h
        rw [drop_0 n _ _ N h, upA_ne (by decide)]
theorem drop_lo : ∀ (n j : Nat) (X N : Mem) (c : Nat), c < j → j + n < 200000 → f_X2_dropSlips_L2 n X (nI j) = some N → N 3 c = X 3 c
  | 0, _, _, _, _, _, _, h => by
    rw [f_X2_dropSlips_L2] at h
    exact absurd h (by simp)
  | n + 1, j, X, N, c, hc, hj, h => by
    rw [f_X2_dropSlips_L2] at h
    split at h
    · injection h with h
      rw [h]
    · split at h
      · exact absurd h (by simp)
      · rw [wr_s, nI_1] at h
        rw [drop_lo n (j + 1) _ N c (by omega) (by omega) h, upN_ne (by omega) (by omega)]
theorem drop_inv {nc : Nat} (h8 : nc ≤ 8) : ∀ (n j : Nat) (X N : Mem), j + n < 200000 → f_X2_dropSlips_L2 n X (nI j) = some N → N 0 0 = nI nc → ∀ c, j ≤ c → c < nc → N 3 c = 0
  | 0, _, _, _, _, h, _ => by
    rw [f_X2_dropSlips_L2] at h
    exact absurd h (by simp)
  | n + 1, j, X, N, hj, h, h0 => by
    have e0 := drop_0 (n + 1) (nI j) X N h
    rw [f_X2_dropSlips_L2] at h
    intro c a b
    split at h
    · rename_i q
      rw [← e0, h0] at q
      have := (nI_leI (by omega) (by omega)).mp q
      omega
    · split at h
      · exact absurd h (by simp)
      · rw [wr_s, nI_1] at h
        by_cases w : c = j
        · subst w
          rw [drop_lo n (c + 1) _ N c (by omega) (by omega) h, upN_at (by omega)]
        · exact drop_inv h8 n (j + 1) _ N (by omega) h h0 c (by omega) b
theorem inv_close {Z C B Y P U Z' C' B' Y' P' : Mem} {p : Int32} (h : f_X7_closeYear Z C B Y P U p = some (Z', C', B', Y', P')) : ∃ X, f_X2_dropSlips X = some P' := by
  have k58 : ∀ {Z C B Y P U : Mem}, f_X7_closeYear_L58 Z C B Y P U = some (Z', C', B', Y', P') → ∃ X, f_X2_dropSlips X = some P' := by
    intro Z C B Y P U h
    unfold f_X7_closeYear_L58 at h
    obtain ⟨P1, e, h⟩ := bd1_some h
    obtain ⟨C1, -, h⟩ := bd1_some h
    simp only [wr_s] at h
    simp only [Option.some.injEq, Prod.mk.injEq] at h
    obtain ⟨-, -, -, -, rfl⟩ := h
    exact ⟨P, e⟩
  unfold f_X7_closeYear at h
  obtain ⟨Y1, -, h⟩ := bd1_some h
  split at h
  · obtain ⟨Z1, Y2, P1, -, h⟩ := bd3_some h
    obtain ⟨P2, -, h⟩ := bd1_some h
    exact k58 h
  · rw [wr_s] at h
    obtain ⟨Y2, -, h⟩ := bd1_some h
    exact k58 h
theorem inv_ends {Z C B Y P U N0 N1 N2 N4 N5 : Mem} {p r : Int32} {nc : Nat} {A : Nat → Int32} (hV : INVP P) (hC : RCit nc N5 A) (h : f_X11_ends Z C B Y P U p = some (r, N0, N1, N2, N4, N5)) : INVP N5 := by
  unfold f_X11_ends at h
  split at h
  · simp only [Option.some.injEq, Prod.mk.injEq] at h
    obtain ⟨-, -, -, -, -, rfl⟩ := h
    exact hV
  · split at h
    · obtain ⟨a, b, c, d, e, x, h⟩ := bd5_some h
      simp only [Option.some.injEq, Prod.mk.injEq] at h
      obtain ⟨-, -, -, -, -, rfl⟩ := h
      obtain ⟨X, hX⟩ := inv_close x
      have hFU : FU < 150000 := by decide
      refine INVP.at (fun k hk => ⟨0, by omega, ?_⟩)
      by_cases q : k < nc
      · exact drop_inv hC.1 FU 0 X e (by omega) hX hC.2.1 k (by omega) q
      · exact (hC.2.2.2.2 k (by omega) hk).1
    · simp only [Option.some.injEq, Prod.mk.injEq] at h
      obtain ⟨-, -, -, -, -, rfl⟩ := h
      exact hV
theorem inv_sell {Z C P N M : Mem} {nb nc : Nat} {p1 p2 p3 p4 r : Int32} (hV : INVP P) (h2 : RBal nb nc C (M 0)) (h6 : RCit nc P (M 0)) (h : f_X11_sell Z C P p1 p2 p3 p4 = some (r, N)) : INVP N := by
  have h8 := h6.1
  unfold f_X11_sell at h
  by_cases c : Z 10 0 = 0
  · rw [if_pos c] at h
    rcases two_of h6 p1 p2 with ⟨x, -⟩ | ⟨a, b, ha, hb, hab, rfl, rfl, x, -, -⟩
    · rw [x, Option.bind_some, if_pos rfl] at h
      obtain ⟨-, rfl⟩ := pj2 h
      exact hV
    · rw [x, Option.bind_some, if_neg (by decide), within_eq, Option.bind_some] at h
      by_cases q4 : (0 : Int32) ≤ p4 ∧ p4 ≤ 10000
      · rw [if_pos q4, if_neg (by decide), freeSlips_eq h2.2.1 h2.1 (by omega), Option.bind_some, within_eq, Option.bind_some] at h
        by_cases q3 : (1 : Int32) ≤ p3 ∧ p3 ≤ frV C P nb a
        · rw [if_pos q3, if_neg (by decide), if_neg (nI_in (N := 8) (by omega) (by decide)), wr_s, if_neg (nI_in (N := 8) (by omega) (by decide)), wr_s, nI_clamp (n := a) (by omega), nI_clamp (n := b) (by omega)] at h
          obtain ⟨P', e, h⟩ := bd1_some h
          obtain ⟨-, rfl⟩ := pj2 h
          have e3 := inv_pay e
          obtain ⟨s, s1, s2⟩ := hV
          obtain ⟨g, g1, g2⟩ := gOn_nat h2 (nI a) nb (Nat.le_refl _)
          have sa := s_le s2 a (by omega)
          have hb12 := h2.1
          have ef : (frV C P nb a).toInt = (s a : Int) - g := by
            rw [frV, s1 a (by omega), g2]
            exact pk_sub_toInt (by omega) (by omega)
          have p31 := Int32.le_iff_toInt_le.mp q3.1
          have p32 := Int32.le_iff_toInt_le.mp q3.2
          rw [show (1 : Int32).toInt = 1 from rfl] at p31
          obtain ⟨k, hk, rfl⟩ := nI_of (x := p3) (fun w => by have := Int32.lt_iff_toInt_lt.mp w; rw [show (0 : Int32).toInt = 0 from rfl] at this; omega)
          rw [nI_toInt hk] at p31 p32
          have hks : k ≤ s a := by omega
          refine ⟨fun c => if c = a then s a - k else if c = b then s b + k else s c, fun c hc => ?_, ?_⟩
          · rw [e3]
            show _ = nI (if c = a then s a - k else if c = b then s b + k else s c)
            by_cases qa : c = a
            · subst qa
              rw [if_pos rfl, upN_ne (by omega) hab, upN_at (by omega), s1 c (by omega), pk_sub hks]
            · rw [if_neg qa]
              by_cases qb : c = b
              · subst qb
                rw [if_pos rfl, upN_at (by omega), upN_ne (by omega) qa, s1 c (by omega), nI_add]
              · rw [if_neg qb, upN_ne (by omega) qb, upN_ne (by omega) qa, s1 c hc]
          · exact s_mv (s := s) (s' := fun c => if c = a then s a - k else if c = b then s b + k else s c) (a := a) (b := b) (n := k) s2 (by omega) (by omega) hab hks (if_pos rfl) ((if_neg (Ne.symm hab)).trans (if_pos rfl)) (fun c x y => (if_neg x).trans (if_neg y))
        · rw [if_neg q3, if_pos rfl] at h
          obtain ⟨-, rfl⟩ := pj2 h
          exact hV
      · rw [if_neg q4, if_pos rfl] at h
        obtain ⟨-, rfl⟩ := pj2 h
        exact hV
  · rw [if_neg c] at h
    obtain ⟨-, rfl⟩ := pj2 h
    exact hV
theorem l74_inv {nc : Nat} (h8 : nc ≤ 8) : ∀ (n i : Nat) (Q Q' : Mem) (x3 : Int32), i ≤ nc → Q 0 0 = nI nc → (∀ c, c < 8 → ∃ k : Nat, k ≤ 6400000 + i ∧ Q 4 c = nI k) → f_X2_takeSlips_L74 n Q x3 (nI i) = some Q' → ∀ c, c < 8 → ∃ k : Nat, k ≤ 6400008 ∧ Q' 3 c = nI k
  | 0, _, _, _, _, _, _, _, h => by
    rw [f_X2_takeSlips_L74] at h
    exact absurd h (by simp)
  | n + 1, i, Q, Q', x3, hi, h0, h4, h => by
    have fin : some (upR Q 3 (rowc 8 (Q 4) (Q 3))) = some Q' → ∀ c, c < 8 → ∃ k : Nat, k ≤ 6400008 ∧ Q' 3 c = nI k := by
      intro e c hc
      injection e with e
      obtain ⟨k, k1, k2⟩ := h4 c hc
      exact ⟨k, by omega, by rw [← e, upR_at, rowc_in _ _ hc]; exact k2⟩
    rw [f_X2_takeSlips_L74] at h
    split at h
    · exact fin h
    · rename_i q
      split at h
      · exact fin h
      · obtain ⟨r, -, h⟩ := bd1_some h
        split at h
        · exact absurd h (by simp)
        · rename_i q8
          rw [wr_s, wr_s, nI_1] at h
          have hin : i < nc := by
            rw [h0] at q
            by_cases w : i < nc
            · exact w
            · exact absurd (nI_le (a := nc) (b := i) (by omega) (by omega)) q
          obtain ⟨j, hj, rfl⟩ := nI_of (x := r) (fun w => q8 (Or.inl w))
          have hj8 : j < 8 := by
            by_cases w : j < 8
            · exact w
            · exact absurd (Or.inr (by rw [nI_clamp hj]; omega)) q8
          rw [nI_clamp (n := j) (by omega)] at h
          refine l74_inv h8 n (i + 1) _ Q' _ (by omega) ?_ (fun c hc => ?_) h
          · rw [upA_ne (by decide), upA_ne (by decide)]
            exact h0
          · rw [upA_ne (by decide)]
            by_cases w : c = j
            · subst w
              obtain ⟨k, k1, k2⟩ := h4 c hc
              rw [upN_at (by omega), k2, nI_1]
              exact ⟨k + 1, by omega, rfl⟩
            · rw [upN_ne (by omega) w]
              obtain ⟨k, k1, k2⟩ := h4 c hc
              exact ⟨k, by omega, k2⟩
theorem l10_inv {nc N T : Nat} (h8 : nc ≤ 8) (sh : Nat → Nat) (hsh : ∀ c, c < nc → sh c ≤ 15984) (hN : N ≤ 400) (hT : 0 < T) (hT2 : T < 1000000) : ∀ (n j : Nat) (Q Q' : Mem) (x3 : Int32), j ≤ nc → Q 0 0 = nI nc → (∀ c, c < nc → Q 8 c = nI (sh c)) → (∀ c, c < 8 → (c < j ∨ nc ≤ c) → ∃ k : Nat, k ≤ 6400000 ∧ Q 4 c = nI k) → f_X2_takeSlips_L10 n Q (nI N) (nI T) x3 (nI j) = some Q' → ∀ c, c < 8 → ∃ k : Nat, k ≤ 6400008 ∧ Q' 3 c = nI k
  | 0, _, _, _, _, _, _, _, _, h => by
    rw [f_X2_takeSlips_L10] at h
    exact absurd h (by simp)
  | n + 1, j, Q, Q', x3, hj, h0, h9, h4, h => by
    rw [f_X2_takeSlips_L10, h0] at h
    split at h
    · rename_i q
      have := (nI_leI (by omega) (by omega)).mp q
      exact l74_inv h8 FU 0 Q Q' x3 (by omega) h0 (fun c hc => h4 c hc (by omega)) h
    · rename_i q
      have hjn : j < nc := by
        by_cases w : j < nc
        · exact w
        · exact absurd (nI_le (a := nc) (b := j) (by omega) (by omega)) q
      have nz : ¬ nI T = 0 := nI_ne0 hT (by omega)
      have hm := Nat.mul_le_mul hN (hsh j hjn)
      rw [if_neg (nI_in (N := 8) (by omega) (by decide)), if_neg nz, wr_s, if_neg nz, wr_s, nI_clamp (n := j) (by omega), nI_1, h9 j hjn, pk_mul, pk_div (by omega) hT (by omega)] at h
      refine l10_inv h8 sh hsh hN hT hT2 n (j + 1) _ Q' _ (by omega) ?_ (fun c hc => ?_) (fun c hc hcc => ?_) h
      · rw [upA_ne (by decide), upA_ne (by decide)]
        exact h0
      · rw [upA_ne (by decide), upA_ne (by decide)]
        exact h9 c hc
      · rw [upA_ne (by decide)]
        by_cases w : c = j
        · subst w
          rw [upN_at (by omega)]
          exact ⟨_, by have := Nat.div_le_self (N * sh c) T; omega, rfl⟩
        · rw [upN_ne (by omega) w]
          exact h4 c hc (by omega)
theorem inv_give {yr nc : Nat} {Z U D P M N0 N5 : Mem} {p1 r : Int32} (h1 : RNum yr Z U (M 0)) (h4 : RLaw D (M 0)) (h6 : RCit nc P (M 0)) (hV : INVP P) (h : f_X11_give Z D P p1 = some (r, N0, N5)) : INVP N5 := by
  obtain ⟨c0, c1, c2, c3, c4⟩ := id h6
  have hex : ∃ sh : Nat → Nat, ∀ c, c < nc → sh c ≤ 15984 ∧ f_X7_shareOf Z D P (nI c) = some (nI (sh c)) ∧ f_X12_share M (nI c) = some (nI (sh c)) := by
    refine ⟨fun c => if h : c < nc then Classical.choose (share_eq h1 h6 h h4) else 0, fun c hc => ?_⟩
    simp only [dif_pos hc]
    exact Classical.choose_spec (share_eq h1 h6 hc h4)
  obtain ⟨sh, hsh⟩ := hex
  unfold f_X11_give at h
  split at h
  · split at h
    · obtain ⟨-, -, rfl⟩ := pj3 h
      exact hV
    · rw [within_eq, Option.bind_some] at h
      by_cases q1 : (1 : Int32) ≤ p1 ∧ p1 ≤ 400
      · rw [if_pos q1, if_neg (by decide)] at h
        obtain ⟨N, hNN, rfl⟩ := rng (n := 400) (by decide) ⟨Int32.le_trans (by decide) q1.1, q1.2⟩
        obtain ⟨P', t1, t2, t3⟩ := tot_L h1 h4 c0 sh (fun c hc => (hsh c hc).2.2) (nI N) nc 0 FU P (by omega) (FU_gt (by omega)) h6 (fun c hc => absurd hc (by omega))
        have t1 : f_X7_shareOut Z D P (nI N) = _ := t1
        obtain ⟨a, b, d, e, h⟩ := bd3_some h
        rw [t1] at e
        have tb : sumN sh nc ≤ nc * 15984 := by
          rw [← sumN_const 15984 nc]
          exact sumN_le nc (fun c hc => (hsh c hc).1)
        have tb1 : nc * 15984 ≤ 8 * 15984 := Nat.mul_le_mul_right _ c0
        split at h
        · exact absurd h (by simp)
        · obtain ⟨-, -, rfl⟩ := pj3 h
          by_cases z : sumN sh nc = 0
          · rw [z, if_pos (show nI 0 = 0 from rfl)] at e
            obtain ⟨-, -, rfl⟩ := pj3 e
            exact hV.cg (fun c _ => by rw [t2 3 (by decide)])
          · rw [if_neg (nI_ne0 (by omega) (by omega))] at e
            obtain ⟨Q, eQ, e⟩ := bd1_some e
            obtain ⟨-, -, rfl⟩ := pj3 e
            unfold f_X2_takeSlips at eQ
            rw [if_pos (show (0 : Int32) < nI (sumN sh nc) from nI_lt (a := 0) (by omega) (by omega))] at eQ
            exact INVP.at (l10_inv c0 sh (fun c hc => (hsh c hc).1) hNN (by omega) (by omega) FU 0 P' Q (nI N) (by omega) (by rw [t2 0 (by decide)]; exact c1) t3 (fun c hc hcc => ⟨0, by omega, by rw [t2 4 (by decide)]; exact (c4 c (by omega) hc).2.1⟩) eQ)
      · rw [if_neg q1, if_pos rfl] at h
        obtain ⟨-, -, rfl⟩ := pj3 h
        exact hV
  · obtain ⟨-, -, rfl⟩ := pj3 h
    exact hV
theorem inv_copy {a0 a1 a2 a3 a4 a5 a6 a7 H0 H1 H2 H3 H4 H5 H6 H7 N0 N1 N2 N3 N4 N5 N6 N7 : Mem} (hV : INVP a5) (h : f_X7_copyFrom a0 a1 a2 a3 a4 a5 a6 a7 H0 H1 H2 H3 H4 H5 H6 H7 = some (N0, N1, N2, N3, N4, N5, N6, N7)) : INVP N5 := by
  unfold f_X7_copyFrom at h
  obtain ⟨_, -, h⟩ := bd1_some h
  obtain ⟨_, -, h⟩ := bd1_some h
  obtain ⟨P', e, h⟩ := bd1_some h
  obtain ⟨_, -, h⟩ := bd1_some h
  obtain ⟨_, -, h⟩ := bd1_some h
  obtain ⟨_, -, h⟩ := bd1_some h
  obtain ⟨_, -, h⟩ := bd1_some h
  simp only [wr_s] at h
  split at h
  · exact absurd h (by simp)
  · simp only [Option.some.injEq, Prod.mk.injEq] at h
    obtain ⟨-, -, -, -, -, rfl, -, -⟩ := h
    obtain ⟨N, e1, -, e3⟩ := cpX2 a5 H5
    rw [e1] at e
    injection e with e
    subst e
    exact hV.cg (fun c hc => e3 3 c (by decide) (by decide) hc)
