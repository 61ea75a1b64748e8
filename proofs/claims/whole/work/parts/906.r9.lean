/-! ===== decree ===== -/
theorem st_decree : S_decree Rel0 := by
  intro μ I M hR
  obtain ⟨⟨yr, nc, nb, nl, tp, h1, h2, h3, h4, h5, h6, h7⟩, hI⟩ := id hR
  obtain ⟨t0, t1, t2, t3, t4⟩ := id h7
  obtain ⟨z, hz⟩ : ∃ z : Nat → Nat, z = fun j => ((μ 7 0 j) &&& 255).toNatClampNeg := ⟨_, rfl⟩
  have hzj : ∀ j, j < tp → z j ≤ 255 ∧ (μ 7 0 j &&& 255) = nI (z j) ∧ ((z j ≤ 127 ∧ μ 7 0 j = nI (z j)) ∨ (128 ≤ z j ∧ μ 7 0 j < 0)) := by
    intro j hj
    obtain ⟨w, w1, w2, w3⟩ := byte_of (t4 j (by omega))
    have : z j = w := by
      rw [hz]
      show (μ 7 0 j &&& 255).toNatClampNeg = w
      rw [w2, nI_clamp (by omega)]
    rw [this]
    exact ⟨w1, w2, w3⟩
  -- the reader's tape is a copy of the tape of now
  obtain ⟨T, k1, k2, k3⟩ := cpX8 (μ 7) (μ 12) t4
  have hT : TPO tp T z := ⟨k2.trans t1, t0, fun j hj => by rw [k3 j (by omega)]; exact ⟨(hzj j hj).1, (hzj j hj).2.2⟩⟩
  -- the reference's start
  obtain ⟨M0, hM0⟩ : ∃ M0, M0 = upS (upS (upA (upA (upS (upA (upS M 2 (nI tp)) 0 (12 : Int32) (0 : Int32)) 3 (0 : Int32)) 0 (13 : Int32) (0 : Int32)) 0 (14 : Int32) (-1 : Int32)) 9 (0 : Int32)) 10 (0 : Int32) := ⟨_, rfl⟩
  have eM : f_X12_decree M = Option.bind (f_X12_advance M0) fun M_h_51 => f_X12_decree_L54 FU M_h_51 := by
    unfold f_X12_decree
    rw [show M 0 (12 : Int32).toNatClampNeg = nI tp from t2, hM0]
    rfl
  have r0 : ∀ k, k ≠ 12 → k ≠ 13 → k ≠ 14 → M0 0 k = M 0 k := by
    intro k a b c
    rw [hM0, upS_ne (by decide), upS_ne (by decide)]
    refine (upN_ne (i := 14) (by decide) c).trans ((upN_ne (i := 13) (by decide) b).trans ?_)
    rw [upS_ne (by decide)]
    refine (upN_ne (i := 12) (by decide) a).trans ?_
    rw [upS_ne (by decide)]
  have r12 : M0 0 12 = 0 := by
    rw [hM0, upS_ne (by decide), upS_ne (by decide)]
    refine (upN_ne (i := 14) (by decide) (by decide)).trans ((upN_ne (i := 13) (by decide) (by decide)).trans ?_)
    rw [upS_ne (by decide)]
    exact upN_at (i := 12) (by decide)
  have r13 : M0 0 13 = 0 := by
    rw [hM0, upS_ne (by decide), upS_ne (by decide)]
    exact (upN_ne (i := 14) (by decide) (by decide)).trans (upN_at (i := 13) (by decide))
  have r14 : M0 0 14 = -1 := by
    rw [hM0, upS_ne (by decide), upS_ne (by decide)]
    exact upN_at (i := 14) (by decide)
  have r1 : M0 1 = M 1 := by
    rw [hM0, upS_ne (by decide), upS_ne (by decide), upA_ne (by decide), upA_ne (by decide), upS_ne (by decide), upA_ne (by decide), upS_ne (by decide)]
  have r2 : M0 2 0 = nI tp := by
    rw [hM0, upS_ne (by decide), upS_ne (by decide), upA_ne (by decide), upA_ne (by decide), upS_ne (by decide), upA_ne (by decide), upS_at]
  have r3 : M0 3 0 = nI 0 := by
    rw [hM0, upS_ne (by decide), upS_ne (by decide), upA_ne (by decide), upA_ne (by decide), upS_at]
    rfl
  have r9 : M0 9 0 = 0 := by
    rw [hM0, upS_ne (by decide), upS_at]
  have r10 : M0 10 0 = nI 0 := by
    rw [hM0, upS_at]
    rfl
  have hB : TMO tp M0 z := ⟨r2, fun j hj => by rw [r0 _ (by omega) (by omega) (by omega), t3 j hj]; exact (hzj j hj).2.1⟩
  -- the class's start
  obtain ⟨R0, hR0⟩ : ∃ R0, R0 = upS (upS (upS (upS (upS (upS (μ 8) 2 (0 : Int32)) 3 (-1 : Int32)) 4 (-1 : Int32)) 5 (0 : Int32)) 6 (0 : Int32)) 7 (0 : Int32) := ⟨_, rfl⟩
  have eb : f_X4_begin (μ 8) (μ 10) = some (R0, upS (μ 10) 0 (0 : Int32)) := by
    unfold f_X4_begin
    rw [hR0]
    rfl
  have eb9 : f_X9_begin (μ 7) (μ 9) (μ 12) = some (upS (μ 9) 3 (0 : Int32), T) := by
    unfold f_X9_begin
    rw [k1]
    rfl
  have s2 : R0 2 0 = 0 := by rw [hR0, upS_ne (by decide), upS_ne (by decide), upS_ne (by decide), upS_ne (by decide), upS_ne (by decide), upS_at]
  have s3 : R0 3 0 = -1 := by rw [hR0, upS_ne (by decide), upS_ne (by decide), upS_ne (by decide), upS_ne (by decide), upS_at]
  have s4 : R0 4 0 = -1 := by rw [hR0, upS_ne (by decide), upS_ne (by decide), upS_ne (by decide), upS_at]
  have s5 : R0 5 0 = 0 := by rw [hR0, upS_ne (by decide), upS_ne (by decide), upS_at]
  have s6 : R0 6 0 = nI 0 := by rw [hR0, upS_ne (by decide), upS_at]; rfl
  obtain ⟨H', M', st, p', t, v, e1, e2, g1, g2, g3, g4, g5, g6, g7, g8, g9, g10⟩ := lex hT (p := 0) (H := upS (μ 9) 3 (0 : Int32)) (M := M0) (by omega) (upS_at _ _ _ _) r3 hB
  obtain ⟨n, hn⟩ : ∃ n, FU = n + 1 := ⟨99999, rfl⟩
  have hF : 99900 < FU := FU_gt (by decide)
  have hC := (d_all (B := M0 0) (B1 := M 1) hT 401).1 0 st p' t v n FU 0 R0 H' (upS (μ 10) 0 (0 : Int32)) M' (fun _ => by omega) ⟨g4, g5, g6, g7, g8, g2, g3, by omega, fun x => by have := g9 x; omega, hB.cg (g10 0 (by decide)) (g10 2 (by decide))⟩ ⟨fun k _ _ => by rw [g10 0 (by decide)], (g10 1 (by decide)).trans r1, by rw [g10 9 (by decide)]; exact r9, s2, s3, Or.inl ⟨s4, by rw [g10 0 (by decide)]; exact r13, by rw [g10 0 (by decide)]; exact r14⟩⟩ (by omega) (by omega) s5 s6 (by rw [g10 10 (by decide)]; exact r10) (by omega) (fun _ => ⟨by omega, upS_at _ _ _ _, fun k hk => absurd hk (by omega)⟩)
  have eC : f_X4_read (μ 7) (μ 8) (μ 9) (μ 12) (μ 10) = rt_B T (GG n R0 H' T (upS (μ 10) 0 (0 : Int32)) 0) := by
    unfold f_X4_read
    rw [eb, bd2_s, eb9, bd2_s, rt_e14, hn, rt_L6, if_neg (by decide), e1, Option.bind_some]
    rfl
  have eM' : f_X12_decree M = f_X12_decree_L54 FU M' := by rw [eM, e2, Option.bind_some]
  rw [← eM'] at hC
  obtain ⟨R', H'', D', r, N, f1, f2, f3, f4, f5, f6, f7⟩ := hC
  have keep : Keep M N := ⟨fun i hi => by rw [f4 i (by omega) (by omega) (by omega) (by omega), r0 i (by omega) (by omega) (by omega)], f3⟩
  have eN : ∀ k, k ≠ 7 → k ≠ 12 → k ≠ 13 → k ≠ 14 → (k < 2080 ∨ 2384 ≤ k) → N 0 k = M 0 k := fun k a b c d e => by rw [f4 k a c d e, r0 k b c d]
  have n12 : N 0 12 = nI 0 := by rw [f4 12 (by decide) (by decide) (by decide) (by decide)]; exact r12
  unfold f_X11_decree
  rw [eC, f1, show rt_B T (some (R', H'', D')) = some (R', H'', T, D') from rfl, bd4_s]
  simp only [wr_s]
  have hnum : RNum yr (upS (upS (μ 0) 7 (R' 2 0)) 8 (R' 3 0)) (μ 6) (N 0) := by
    obtain ⟨a0, a1, a2, a3, a4, a5, a6, a7, a8, a9, a10, a11, a12, a13, a14, a15⟩ := h1
    refine ⟨a0, by rw [upS_ne (by decide), upS_ne (by decide)]; exact a1, by rw [eN 0 (by decide) (by decide) (by decide) (by decide) (by decide)]; exact a2, by rw [upS_ne (by decide), upS_ne (by decide)]; exact a3, by rw [eN 1 (by decide) (by decide) (by decide) (by decide) (by decide), upS_ne (by decide), upS_ne (by decide)]; exact a4, by rw [upS_ne (by decide), upS_ne (by decide)]; exact a5, by rw [eN 2 (by decide) (by decide) (by decide) (by decide) (by decide), upS_ne (by decide), upS_ne (by decide)]; exact a6, by rw [eN 6 (by decide) (by decide) (by decide) (by decide) (by decide), upS_ne (by decide), upS_ne (by decide)]; exact a7, by rw [f5, upS_ne (by decide), upS_at], by rw [f6, upS_at], by rw [eN 15 (by decide) (by decide) (by decide) (by decide) (by decide), upS_ne (by decide), upS_ne (by decide)]; exact a10, by rw [eN 8 (by decide) (by decide) (by decide) (by decide) (by decide)]; exact a11, by rw [eN 9 (by decide) (by decide) (by decide) (by decide) (by decide)]; exact a12, by rw [eN 10 (by decide) (by decide) (by decide) (by decide) (by decide)]; exact a13, by rw [eN 11 (by decide) (by decide) (by decide) (by decide) (by decide)]; exact a14, a15⟩
  have htape : RTape 0 (upS (μ 7) 1 (0 : Int32)) (N 0) := ⟨by omega, upS_at _ _ _ _, n12, fun i hi => absurd hi (by omega), fun i hi => by rw [upS_ne (by decide)]; exact t4 i hi⟩
  have h2' := h2.cg (A' := N 0) (eN 4 (by decide) (by decide) (by decide) (by decide) (by decide)) (eN 16 (by decide) (by decide) (by decide) (by decide) (by decide)) (fun i a b => eN i (by omega) (by omega) (by omega) (by omega) (by omega))
  have h3' := h3.cg (A' := N 0) (eN 5 (by decide) (by decide) (by decide) (by decide) (by decide)) (fun i a b => eN i (by omega) (by omega) (by omega) (by omega) (by omega))
  have h5' := h5.cg (A' := N 0) h1.1 (fun i a b => eN i (by omega) (by omega) (by omega) (by omega) (by omega))
  have h6' := h6.cg (A' := N 0) (eN 3 (by decide) (by decide) (by decide) (by decide) (by decide)) (fun i a b => eN i (by omega) (by omega) (by omega) (by omega) (by omega))
  rcases f7 with ⟨q1, q2, q3⟩ | ⟨q1, q2, q3⟩
  · obtain ⟨N3, c1, c2, c3, c4⟩ := cpX3 D' (μ 3)
    rw [if_pos q1, c1, Option.bind_some]
    refine ⟨_, _, _, _, _, _, _, _, _, rfl, by rw [f2, q2, c2], ⟨yr, nc, nb, nl, 0, hnum, h2', h3', ?_, h5', h6', htape⟩, hI.keep keep⟩
    show RLaw N3 (N 0)
    obtain ⟨k, k0, k1, k2, k3⟩ := q3
    refine ⟨k, k0, by rw [c2]; exact k1, k2, fun j hj => ?_⟩
    obtain ⟨⟨t, u0, u1, u2, u3⟩, v1, v2, v3⟩ := k3 j hj
    refine ⟨⟨t, u0, by rw [c3 3 j (by decide) (by decide) (by omega)]; exact u1, u2, fun i hi => ?_⟩, by rw [c3 1 j (by decide) (by decide) (by omega)]; exact v1, by rw [c3 2 j (by decide) (by decide) (by omega)]; exact v2, by rw [c3 2 j (by decide) (by decide) (by omega)]; exact v3⟩
    rw [c4 4 _ (by decide) (by decide) (by omega), c4 5 _ (by decide) (by decide) (by omega), c4 6 _ (by decide) (by decide) (by omega), c4 7 _ (by decide) (by decide) (by omega)]
    exact u3 i hi
  · rw [if_neg q1]
    refine ⟨_, _, _, _, _, _, _, _, _, rfl, by rw [f2, q2], ⟨yr, nc, nb, nl, 0, hnum, h2', h3', ?_, h5', h6', htape⟩, hI.keep keep⟩
    have e : ∀ k, k ≠ 12 → k ≠ 13 → k ≠ 14 → N 0 k = M 0 k := fun k a b c => by rw [q3 k b c, r0 k a b c]
    exact h4.cg (e 7 (by decide) (by decide) (by decide)) (fun i a b => e i (by omega) (by omega) (by omega))
