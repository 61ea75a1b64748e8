/-! ===== decree: the starts, the finish, all ===== -/
section Dec
variable {tp : Nat} {T : Mem} {z : Nat → Nat} {B B1 : Nat → Int32} {i st p t v n m m2 ln q : Nat} {R H M D : Mem}
theorem d_exc (hT : TPO tp T z) (hL : DLX tp z i st p t v H M) (hM : MB B B1 R M) : ∃ R1 M1, f_X4_noteExcess R H = some R1 ∧ f_X12_tooMany M = some M1 ∧ MB B B1 R1 M1 ∧ R1 4 0 ≠ -1 ∧ (∀ k, k ≠ 4 → R1 k = R k) ∧ (∀ k, k ≠ 0 → M1 k = M k) ∧ (∀ j, 2390 ≤ j → M1 0 j = M 0 j) := by
  have h400 := hT.2.1
  have hst : st ≤ 400 := by
    have := hL.2.2.2.2.2.1
    have := hL.2.2.2.2.2.2.1
    omega
  obtain ⟨b1, b2, b3, b4, b5, b6⟩ := id hM
  unfold f_X4_noteExcess f_X12_tooMany
  rw [if_pos b3]
  rcases b6 with ⟨e1, e2, e3⟩ | ⟨e, e0, e1, e2, e3⟩
  · rw [if_pos e1, wr_s, show M 0 (13 : Int32).toNatClampNeg = 0 from e2, if_pos rfl, wr_s, wr_s, hL.2.2.1, show upA M 0 (13 : Int32) (3 : Int32) 4 0 = nI st by rw [upA_ne (by decide)]; exact hL.2.2.2.1]
    have f13 : ∀ j, j ≠ 13 → upA M 0 (13 : Int32) (3 : Int32) 0 j = M 0 j := fun j hj => upN_ne (i := 13) (by decide) hj
    have f14 : ∀ j, j ≠ 14 → upA (upA M 0 (13 : Int32) (3 : Int32)) 0 (14 : Int32) (nI st) 0 j = upA M 0 (13 : Int32) (3 : Int32) 0 j := fun j hj => upN_ne (i := 14) (by decide) hj
    refine ⟨_, _, rfl, rfl, ⟨fun k a b => by rw [f14 k b, f13 k a]; exact b1 k a b, by rw [upA_ne (by decide), upA_ne (by decide)]; exact b2, by rw [upA_ne (by decide), upA_ne (by decide)]; exact b3, by rw [upS_ne (by decide)]; exact b4, by rw [upS_ne (by decide)]; exact b5, Or.inr ⟨st, hst, upS_at _ _ _ _, ?_, upN_at (i := 14) (by decide)⟩⟩, by rw [upS_at]; exact nI_ne_m1 (by omega), fun k hk => upS_ne hk, fun k hk => by rw [upA_ne hk, upA_ne hk], fun j hj => by rw [f14 j (by omega), f13 j (by omega)]⟩
    rw [f14 13 (by decide)]
    exact upN_at (i := 13) (by decide)
  · have hne : R 4 0 ≠ -1 := by rw [e1]; exact nI_ne_m1 (by omega)
    rw [if_neg hne, show M 0 (13 : Int32).toNatClampNeg = 3 from e2, if_neg (by decide)]
    exact ⟨R, M, rfl, rfl, hM, hne, fun _ _ => rfl, fun _ _ => rfl, fun _ _ => rfl⟩
theorem d_ts (hT : TPO tp T z) (hN : t ≠ 0 → ∃ d, CALL tp T z B B1 d ∧ tp - p ≤ d) (hL : DLX tp z i st p t v H M) (hM : MB B B1 R M) (hn : 99000 ≤ n + i) (hm : 99000 ≤ m + i) (hm2 : 99000 ≤ m2 + i + 1) (h6 : R 6 0 = nI ln) (h10 : M 10 0 = nI ln) (hln : ln + 1 ≤ i) (h7 : R 7 0 = nI q) (hq : q ≤ i) (hS : SC1 R D (M 11) ln q 3) : OUT B B1 n i st H T (f_X4_takeTestStart_L12 R H D) (TL m m2 q (f_X12_aTest M)) := by
  have hi := hL.ok hT
  have hK := hL.tk
  unfold f_X4_takeTestStart_L12 f_X12_aTest
  have e11 : (H 1 0 = (11 : Int32)) ↔ t = 11 := hK.hq (c := 11) (by decide)
  by_cases c : t = 11
  · obtain ⟨H', M', st', p', t', v', a1, a2, a3, a4, a5⟩ := nxt hT hL (by omega)
    obtain ⟨d, hA, hd⟩ := hN (by omega)
    have hlt : t' ≠ 0 → tp - p' < d := fun x => by
      have := a4 x
      have := a3.2.2.2.2.2.2.1
      omega
    rw [if_pos (e11.mpr c), takes_y hM.2.2.1 hK (by omega) (by omega) 32 (by rw [c]; rfl) a1, bd2_s, if_neg (by decide)]
    unfold f_X4_takeTestStart_L30
    rw [if_neg (by decide), wr_s, upS_at, if_neg (by decide), wr_s]
    obtain ⟨n', rfl, a2⟩ := a2 n (upS (upS R 8 1) 5 2) D hn
    refine Or.inr ⟨_, _, rfl, ?_⟩
    rw [a2]
    exact hA.2.2.1 (i + 1) st' p' t' v' n' m m2 ln q _ H' D M' hlt a3 (hM.cg (fun k _ _ => by rw [upS_ne (by omega), upS_ne (by omega)]) (a5 0 (by decide)) (a5 1 (by decide)) (a5 9 (by decide))) (by omega) (by omega) (by omega) (upS_at _ _ _ _) (by rw [upS_ne (by decide), upS_ne (by decide)]; exact h6) (by rw [a5 10 (by decide)]; exact h10) (by omega) (by rw [upS_ne (by decide), upS_ne (by decide)]; exact h7) (by omega) (by rw [upS_ne (by decide), upS_at]; rfl) (hS.r (by rw [upS_ne (by decide), upS_ne (by decide)]) rfl (a5 11 (by decide)))
  · have et : f_X12_takes M (32 : Int32) = some (0, M) := takes_n hK 32 (by decide) (fun _ b => fun e => c ((wd_32 b).mp e))
    rw [if_neg (fun e => c (e11.mp e)), et, bd2_s, if_pos rfl]
    unfold f_X4_takeTestStart_L30
    rw [if_neg (by decide), wr_s, upS_at, if_pos rfl]
    exact OUT.wrap (d_subj (ng := 0) hT hN hL (hM.cg (fun k _ _ => upS_ne (by omega)) rfl rfl rfl) hn hm hm2 (by rw [upS_ne (by decide)]; exact h6) h10 hln (by rw [upS_ne (by decide)]; exact h7) hq (upS_at _ _ _ _) (by decide) (hS.r (upS_ne (by decide)) rfl rfl))
theorem d_s1 (hT : TPO tp T z) (hN : t ≠ 0 → ∃ d, CALL tp T z B B1 d ∧ tp - p ≤ d) (hL : DLX tp z i st p t v H M) (hM : MB B B1 R M) (hn : 99000 ≤ n + i) (hm : 99000 ≤ m + i) (hm2 : 99000 ≤ m2 + i) (h5 : R 5 0 = 1) (h6 : R 6 0 = nI ln) (h10 : M 10 0 = nI ln) (hln : ln + 1 ≤ i) (h7 : R 7 0 = nI q) (hq : q ≤ i) (hS : SC1 R D (M 11) ln q 4) : FIN B B1 (GG n R H T D i) (Option.bind (f_X12_aLine_L26 m2 M (nI q) 1) fun M => f_X12_decree_L54 m M) := by
  have hi := hL.ok hT
  refine OUT.fin ?_ hL.2.2.1 (Or.inr (by rw [h5]; decide))
  unfold f_X4_take
  rw [h5, if_neg (by decide), if_pos rfl]
  refine OUT.wrap ?_
  unfold f_X4_takeTestStart
  obtain ⟨m2, rfl⟩ : ∃ m', m2 = m' + 1 := ⟨m2 - 1, by omega⟩
  rw [f_X12_aLine_L26, if_neg (show ¬ (1 : Int32) = 0 by decide), h7]
  by_cases c : q < 4
  · rw [if_pos (show nI q < (4 : Int32) from nI_lt (b := 4) c (by decide)), if_pos (show nI q ≤ (3 : Int32) from nI_le (b := 3) (by omega) (by decide))]
    exact d_ts hT hN hL hM hn hm (by omega) h6 h10 hln h7 hq (fun hx => ⟨(hS hx).1, by omega, (hS hx).2.2⟩)
  · obtain ⟨R1, M1, x1, x2, x3, x4, x5, x6, x7⟩ := d_exc hT hL hM
    rw [if_neg (show ¬ nI q < (4 : Int32) from nI_nlt (b := 4) (by omega) (by omega)), if_neg (show ¬ nI q ≤ (3 : Int32) from nI_ge (a := 3) (by omega) (by omega)), x1, Option.bind_some, x2, Option.bind_some]
    exact d_ts hT hN (hL.cg (fun k _ _ => x6 k (by omega)) x7) x3 hn hm (by omega) (by rw [x5 6 (by decide)]; exact h6) (by rw [x6 10 (by decide)]; exact h10) hln (by rw [x5 7 (by decide)]; exact h7) hq (fun hx => absurd hx x4)
theorem d_ls (hT : TPO tp T z) (hN : t ≠ 0 → ∃ d, CALL tp T z B B1 d ∧ tp - p ≤ d) (hL : DLX tp z i st p t v H M) (hM : MB B B1 R M) (hn : 99000 ≤ n + i) (hm : 99000 ≤ m + i + 1) (h6 : R 6 0 = nI ln) (h10 : M 10 0 = nI ln) (hln : ln ≤ i) (hS : SC1 R D (M 11) ln 0 4) : OUT B B1 n i st H T (f_X4_takeLineStart_L13 R H D) (Option.bind (f_X12_aLine_L13 M) fun M => f_X12_decree_L54 m M) := by
  have hi := hL.ok hT
  have hK := hL.tk
  unfold f_X4_takeLineStart_L13 f_X12_aLine_L13
  have e9 : (H 1 0 = (9 : Int32)) ↔ t = 9 := hK.hq (c := 9) (by decide)
  rw [wr_s]
  by_cases c : t = 9
  · obtain ⟨H', M', st', p', t', v', a1, a2, a3, a4, a5⟩ := nxt hT hL (by omega)
    obtain ⟨d, hA, hd⟩ := hN (by omega)
    have hlt : t' ≠ 0 → tp - p' < d := fun x => by
      have := a4 x
      have := a3.2.2.2.2.2.2.1
      omega
    rw [if_pos (e9.mpr c), takes_y hM.2.2.1 hK (by omega) (by omega) 30 (by rw [c]; rfl) a1, bd2_s, if_neg (by decide), wr_s]
    obtain ⟨n', rfl, a2⟩ := a2 n (upS (upS R 7 0) 5 1) D hn
    refine Or.inr ⟨_, _, rfl, ?_⟩
    rw [a2]
    have hF : 99000 < FU := FU_gt (by decide)
    exact hA.2.1 (i + 1) st' p' t' v' n' m FU ln 0 _ H' D M' hlt a3 (hM.cg (fun k _ _ => by rw [upS_ne (by omega), upS_ne (by omega)]) (a5 0 (by decide)) (a5 1 (by decide)) (a5 9 (by decide))) (by omega) (by omega) (by omega) (upS_at _ _ _ _) (by rw [upS_ne (by decide), upS_ne (by decide)]; exact h6) (by rw [a5 10 (by decide)]; exact h10) (by omega) (by rw [upS_ne (by decide), upS_at]; rfl) (by omega) (hS.r (by rw [upS_ne (by decide), upS_ne (by decide)]) rfl (a5 11 (by decide)))
  · have et : f_X12_takes M (30 : Int32) = some (0, M) := takes_n hK 30 (by decide) (fun _ b => fun e => c ((wd_30 b).mp e))
    rw [if_neg (fun e => c (e9.mp e)), et, bd2_s, if_pos rfl]
    exact OUT.wrap (d_act (q := 0) hT hN hL (hM.cg (fun k _ _ => upS_ne (by omega)) rfl rfl rfl) hn hm (by rw [upS_ne (by decide)]; exact h6) h10 hln (upS_at _ _ _ _) (by omega) (hS.r (upS_ne (by decide)) rfl rfl))
theorem L89_L : ∀ (d x n : Nat) (M : Mem), x + d = 304 → d < n → ∃ M', f_X12_decree_L89 n M (nI x) = some (M 10 0, M') ∧ M' 1 = M 1 ∧ M' 0 7 = M 10 0 ∧ (∀ k, k ≠ 7 → (k < 2080 + x ∨ 2384 ≤ k) → M' 0 k = M 0 k) ∧ ∀ j, x ≤ j → j < 304 → M' 0 (2080 + j) = M 11 j
  | 0, x, n + 1, M, h, _ => by
    have e : x = 304 := by omega
    subst e
    rw [f_X12_decree_L89, if_pos (show (304 : Int32) ≤ nI 304 from nI_le (Nat.le_refl 304) (by decide)), wr_s]
    rw [show upA M 0 (7 : Int32) (M 10 0) 10 0 = M 10 0 by rw [upA_ne (by decide)]]
    exact ⟨_, rfl, upA_ne (by decide), upN_at (i := 7) (by decide), fun k hk _ => upN_ne (i := 7) (by decide) hk, fun j a b => absurd a (by omega)⟩
  | d + 1, x, n + 1, M, h, hn => by
    rw [f_X12_decree_L89, if_neg (show ¬ (304 : Int32) ≤ nI x from nI_ge (b := 304) (by omega) (by decide)), if_neg (nI_in (by omega) (by decide)), show (2080 : Int32) + nI x = nI (2080 + x) from nI_add 2080 x, if_neg (nI_in (by omega) (by decide)), wr_s, nI_1, nI_clamp (by omega)]
    obtain ⟨M', g1, g2, g3, g4, g5⟩ := L89_L d (x + 1) n (upA M 0 (nI (2080 + x)) (M 11 x)) (by omega) (by omega)
    refine ⟨M', by rw [g1, upA_ne (by decide)], by rw [g2, upA_ne (by decide)], by rw [g3, upA_ne (by decide)], fun k a b => by rw [g4 k a (by omega), upN_ne (by omega) (by omega)], fun j a b => ?_⟩
    by_cases c : j = x
    · subst c
      rw [g4 _ (by omega) (by omega), upN_at (by omega)]
    · rw [g5 j (by omega) b, upA_ne (by decide)]
  | _, _, 0, _, _, hn => absurd hn (by omega)
theorem LR.line {W A : Nat → Int32} {k : Nat} (h : LR D W k) (e : ∀ j, j < 304 → A (2080 + j) = W j) (hk : k < 16) : RLine D A k := by
  obtain ⟨⟨t, t0, t1, t2, t3⟩, ⟨a, a0, a1, a2, a3⟩, b, c⟩ := h
  have e' : ∀ y j, y = 2080 + j → j < 304 → A y = W j := fun y j h1 h2 => by rw [h1]; exact e j h2
  refine ⟨⟨t, t0, t1, (e' _ (19 * k) (by omega) (by omega)).trans t2, fun j hj => ?_⟩, ?_, (e' _ (19 * k + 18) (by omega) (by omega)).trans b, c⟩
  · obtain ⟨x1, x2, x3, x4, x5, x6⟩ := t3 j hj
    exact ⟨(e' _ (19 * k + 1 + 4 * j) (by omega) (by omega)).trans x1, (e' _ (19 * k + 1 + 4 * j + 1) (by omega) (by omega)).trans x2, (e' _ (19 * k + 1 + 4 * j + 2) (by omega) (by omega)).trans x3, (e' _ (19 * k + 1 + 4 * j + 3) (by omega) (by omega)).trans x4, x5, x6⟩
  · rw [e' _ (19 * k + 17) (by omega) (by omega), a2, a3]
    have : a = 6 ∨ a = 7 ∨ a = 8 := by omega
    rcases this with rfl | rfl | rfl
    · exact Or.inl ⟨rfl, rfl⟩
    · exact Or.inr (Or.inl ⟨rfl, rfl⟩)
    · exact Or.inr (Or.inr ⟨rfl, rfl⟩)
theorem d_s0 (hT : TPO tp T z) (hN : t ≠ 0 → ∃ d, CALL tp T z B B1 d ∧ tp - p ≤ d) (hL : DLX tp z i st p t v H M) (hM : MB B B1 R M) (hn : 99000 ≤ n + i) (hm : 99000 ≤ m + i) (h5 : R 5 0 = 0) (h6 : R 6 0 = nI ln) (h10 : M 10 0 = nI ln) (hln : ln ≤ i) (hS : SC0 R D (M 11) ln) : FIN B B1 (GG n R H T D i) (f_X12_decree_L54 m M) := by
  have hi := hL.ok hT
  have hK := hL.tk
  obtain ⟨m, rfl⟩ : ∃ m', m = m' + 1 := ⟨m - 1, by omega⟩
  have e0 : (H 1 0 = (0 : Int32)) ↔ t = 0 := hK.hq (c := 0) (by decide)
  obtain ⟨b1, b2, b3, b4, b5, b6⟩ := id hM
  rw [f_X12_decree_L54, if_pos b3]
  by_cases c : t = 0
  · unfold GG rt_L70 f_X12_decree_L75
    rw [if_pos (e0.mpr c), if_pos h5, if_pos (hK.m0.mpr c)]
    rcases b6 with ⟨e1, e2, e3⟩ | ⟨e, f0, f1, f2, f3⟩
    · obtain ⟨s1, s2, s3⟩ := hS e1
      obtain ⟨M', g1, g2, g3, g4, g5⟩ := L89_L 304 0 FU M rfl (FU_gt (by decide))
      rw [if_pos e1, show M 0 (13 : Int32).toNatClampNeg = 0 from e2, if_pos rfl, show f_X12_decree_L89 FU M (0 : Int32) = some (M 10 0, M') from g1]
      refine ⟨_, _, _, _, _, rfl, rfl, g2.trans b2, fun k h7 h13 h14 hk => (g4 k h7 (by omega)).trans (b1 k h13 h14), ?_, ?_, Or.inl ⟨b4, h10.trans s2.symm, ln, s1, s2, g3.trans h10, fun k hk => (s3 k hk).line (fun j hj => g5 j (by omega) hj) (by omega)⟩⟩
      · rw [g4 13 (by decide) (by decide), e2, b4]
      · rw [g4 14 (by decide) (by decide), e3, b5]
    · have hne : R 4 0 ≠ -1 := by rw [f1]; exact nI_ne_m1 (by omega)
      rw [if_neg hne, wr_s, wr_s, show M 0 (13 : Int32).toNatClampNeg = 3 from f2, if_neg (by decide)]
      refine ⟨_, _, _, _, _, rfl, rfl, b2, fun k _ h13 h14 _ => b1 k h13 h14, ?_, ?_, Or.inr ⟨?_, rfl, b1⟩⟩
      · rw [upS_ne (by decide), upS_at]; exact f2
      · rw [upS_at, upS_ne (by decide), f1]; exact f3
      · rw [upS_ne (by decide), upS_at]; decide
  · refine OUT.fin ?_ hL.2.2.1 (Or.inl (fun e => c (e0.mp e)))
    unfold f_X4_take f_X4_takeLineStart f_X12_aLine
    rw [if_neg (fun e => c (hK.m0.mp e)), if_pos h5, h6, h10]
    refine OUT.wrap ?_
    by_cases cl : ln < 16
    · rw [if_pos (show nI ln < (16 : Int32) from nI_lt (b := 16) cl (by decide)), if_pos (show nI ln < (16 : Int32) from nI_lt (b := 16) cl (by decide))]
      exact d_ls hT hN hL hM hn (by omega) h6 h10 hln (fun hx => ⟨cl, by omega, (hS hx).2.1, (hS hx).2.2, fun j hj => absurd hj (by omega)⟩)
    · obtain ⟨R1, M1, x1, x2, x3, x4, x5, x6, x7⟩ := d_exc hT hL hM
      rw [if_neg (show ¬ nI ln < (16 : Int32) from nI_nlt (b := 16) (by omega) (by omega)), if_neg (show ¬ nI ln < (16 : Int32) from nI_nlt (b := 16) (by omega) (by omega)), x1, Option.bind_some, x2, Option.bind_some]
      exact d_ls hT hN (hL.cg (fun k _ _ => x6 k (by omega)) x7) x3 hn (by omega) (by rw [x5 6 (by decide)]; exact h6) (by rw [x6 10 (by decide)]; exact h10) hln (fun hx => absurd hx x4)
theorem d_all (hT : TPO tp T z) : ∀ d, CALL tp T z B B1 d
  | 0 => ⟨fun i st p t v n m ln R H D M h a b c d e f g k l => d_s0 hT (fun x => absurd (h x) (by omega)) a b c d e f g k l, fun i st p t v n m m2 ln q R H D M h a b c d e f g k l o s u => d_s1 hT (fun x => absurd (h x) (by omega)) a b c d e f g k l o s u, fun i st p t v n m m2 ln q R H D M h a b c d e f g k l o s u w => d_s2 hT (fun x => absurd (h x) (by omega)) a b c d e f g k l o s u w, fun i st p t v n m m2 ln q ng sj R H D M h a1 a2 a3 a4 a5 a6 a7 a8 a9 b1 b2 b3 b4 b5 b6 b7 b8 b9 c1 => d_s3 hT (fun x => absurd (h x) (by omega)) a1 a2 a3 a4 a5 a6 a7 a8 a9 b1 b2 b3 b4 b5 b6 b7 b8 b9 c1, fun i st p t v n m m2 ln q ng sj c R H D M h a1 a2 a3 a4 a5 a6 a7 a8 a9 b1 b2 b3 b4 b5 b6 b7 b8 b9 c1 c2 c3 => d_s4 hT (fun x => absurd (h x) (by omega)) a1 a2 a3 a4 a5 a6 a7 a8 a9 b1 b2 b3 b4 b5 b6 b7 b8 b9 c1 c2 c3, fun i st p t v n m m2 ln q R H D M h a1 a2 a3 a4 a5 a6 a7 a8 a9 b1 b2 b3 => d_s5 hT (fun x => absurd (h x) (by omega)) a1 a2 a3 a4 a5 a6 a7 a8 a9 b1 b2 b3, fun i st p t v n m ln q R H D M h a1 a2 a3 a4 a5 a6 a7 a8 a9 b1 b2 => d_s6 hT (fun x => absurd (h x) (by omega)) a1 a2 a3 a4 a5 a6 a7 a8 a9 b1 b2, fun i st p t v n m ln q ac R H D M h a1 a2 a3 a4 a5 a6 a7 a8 a9 b1 b2 b3 b4 b5 => d_s7 hT (fun x => absurd (h x) (by omega)) a1 a2 a3 a4 a5 a6 a7 a8 a9 b1 b2 b3 b4 b5, fun i st p t v n m ln q ac w R H D M h a1 a2 a3 a4 a5 a6 a7 a8 a9 b1 b2 b3 => d_s8 hT (fun x => absurd (h x) (by omega)) a1 a2 a3 a4 a5 a6 a7 a8 a9 b1 b2 b3⟩
  | D0 + 1 => by
    have ih := d_all hT D0
    have hN : ∀ {t p : Nat}, (t ≠ 0 → tp - p < D0 + 1) → (t ≠ 0 → ∃ d, CALL tp T z B B1 d ∧ tp - p ≤ d) := fun h x => ⟨D0, ih, by have := h x; omega⟩
    exact ⟨fun i st p t v n m ln R H D M h a b c d e f g k l => d_s0 hT (hN h) a b c d e f g k l, fun i st p t v n m m2 ln q R H D M h a b c d e f g k l o s u => d_s1 hT (hN h) a b c d e f g k l o s u, fun i st p t v n m m2 ln q R H D M h a b c d e f g k l o s u w => d_s2 hT (hN h) a b c d e f g k l o s u w, fun i st p t v n m m2 ln q ng sj R H D M h a1 a2 a3 a4 a5 a6 a7 a8 a9 b1 b2 b3 b4 b5 b6 b7 b8 b9 c1 => d_s3 hT (hN h) a1 a2 a3 a4 a5 a6 a7 a8 a9 b1 b2 b3 b4 b5 b6 b7 b8 b9 c1, fun i st p t v n m m2 ln q ng sj c R H D M h a1 a2 a3 a4 a5 a6 a7 a8 a9 b1 b2 b3 b4 b5 b6 b7 b8 b9 c1 c2 c3 => d_s4 hT (hN h) a1 a2 a3 a4 a5 a6 a7 a8 a9 b1 b2 b3 b4 b5 b6 b7 b8 b9 c1 c2 c3, fun i st p t v n m m2 ln q R H D M h a1 a2 a3 a4 a5 a6 a7 a8 a9 b1 b2 b3 => d_s5 hT (hN h) a1 a2 a3 a4 a5 a6 a7 a8 a9 b1 b2 b3, fun i st p t v n m ln q R H D M h a1 a2 a3 a4 a5 a6 a7 a8 a9 b1 b2 => d_s6 hT (hN h) a1 a2 a3 a4 a5 a6 a7 a8 a9 b1 b2, fun i st p t v n m ln q ac R H D M h a1 a2 a3 a4 a5 a6 a7 a8 a9 b1 b2 b3 b4 b5 => d_s7 hT (hN h) a1 a2 a3 a4 a5 a6 a7 a8 a9 b1 b2 b3 b4 b5, fun i st p t v n m ln q ac w R H D M h a1 a2 a3 a4 a5 a6 a7 a8 a9 b1 b2 b3 => d_s8 hT (hN h) a1 a2 a3 a4 a5 a6 a7 a8 a9 b1 b2 b3⟩
end Dec
