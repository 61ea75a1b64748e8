/-! ===== best: the reference's trial of one lading ===== -/
def IT (w nb : Nat) (C : Mem) (bid own rm vl wt : Nat → Nat) : Prop := ∀ k, k < w → bid k < nb ∧ C 1 (bid k) = nI (own k) ∧ rmV C (bid k) = nI (rm k) ∧ vlV C (bid k) = nI (vl k) ∧ C 3 (bid k) = nI (wt k)
section Best
variable {w nb nc : Nat} {own rm vl wt bid : Nat → Nat} {fr : Nat → Int} {t0 : Int} {w0 zT zW : Nat} {C P : Mem} {A : Nat → Int32} {s : Nat → Nat}
theorem can55 (hP : PRB w nc own rm vl wt fr t0 w0 zT zW) (hR : RBal nb nc C A) (hI : IT w nb C bid own rm vl wt) (h8 : A 8 = nI zT) (h9 : A 9 = nI zW) (hs2 : ∀ j, j < w → s j ≤ 2) : ∀ (d k n : Nat) (M : Mem) (x2 : Int32), k + d = w → d < n → M 0 = A → (∀ j, j < w → M 15 j = nI (bid j)) → (∀ j, j < w → M 16 j = nI (s j)) → (∀ c, c < nc → (M 18 c).toInt = bF own rm fr s k c) → M 19 0 = nI (bS vl 0 s k) → M 20 0 = nI (bS rm 0 s k) → x2.toInt = bT wt t0 s k →
    ∃ M' : Mem, f_X12_can_L55 n M (nI w) x2 (nI (bS wt w0 s k)) (if bO own rm fr s k = true then 1 else 0) (nI k) = some (if bGood own rm wt fr t0 w0 zT zW w s = true then 1 else 0, M') ∧ M' 19 0 = nI (bS vl 0 s w) ∧ M' 20 0 = nI (bS rm 0 s w) ∧ ∀ i, i ≠ 18 → i ≠ 19 → i ≠ 20 → M' i = M i := by
  obtain ⟨q1, q2, q3, q4, q5, q6, q7, q8, q9, q10, q11, q12⟩ := id hP
  have hnb := hR.1
  intro d
  induction d with
  | zero =>
    intro k n M x2 hk hn hA h15 h16 h18 h19 h20 hx
    obtain ⟨n, rfl⟩ : ∃ n', n = n' + 1 := ⟨n - 1, by omega⟩
    have hkw : k = w := by omega
    subst hkw
    have y3 := bS_le (a := w0) (s := s) q7 k (by omega)
    rw [f_X12_can_L55, if_pos (Int32.le_refl _)]
    refine ⟨M, ?_, h19, h20, fun _ _ _ _ => rfl⟩
    by_cases c : bO own rm fr s k = true
    · rw [if_pos c, if_neg (by decide)]
      unfold f_X12_bears
      rw [isIn_eq, hA, show A (8 : Int32).toNatClampNeg = nI zT from h8, show A (9 : Int32).toNatClampNeg = nI zW from h9, Option.bind_some]
      have tn : (-nI zT).toInt = -(zT : Int) := sb_negT (by omega)
      have tz : (nI zT).toInt = (zT : Int) := nI_toInt (by omega)
      have e1 : (-nI zT ≤ x2 ∧ x2 ≤ nI zT) ↔ (-(zT : Int) ≤ bT wt t0 s k ∧ bT wt t0 s k ≤ (zT : Int)) := by
        rw [Int32.le_iff_toInt_le, Int32.le_iff_toInt_le, tn, tz, hx]
      by_cases c2 : (-(zT : Int) ≤ bT wt t0 s k ∧ bT wt t0 s k ≤ (zT : Int))
      · rw [if_pos (e1.mpr c2), if_neg (by decide)]
        by_cases c3 : bS wt w0 s k ≤ zW
        · rw [if_neg (nI_nlt c3 (by omega)), Option.bind_some, if_neg (by decide), if_pos]
          unfold bGood
          rw [c, decide_eq_true c2, decide_eq_true c3]
          rfl
        · rw [if_pos (nI_lt (by omega) (by omega)), Option.bind_some, if_pos rfl, if_neg]
          unfold bGood
          rw [c, decide_eq_true c2, decide_eq_false c3]
          decide
      · rw [if_neg (fun e => c2 (e1.mp e)), if_pos rfl, Option.bind_some, if_pos rfl, if_neg]
        unfold bGood
        rw [c, decide_eq_false c2]
        simp
    · rw [if_neg c, if_pos rfl, if_neg]
      unfold bGood
      intro e
      rw [Bool.and_eq_true] at e
      exact c e.1
  | succ d ih =>
    intro k n M x2 hk hn hA h15 h16 h18 h19 h20 hx
    obtain ⟨n, rfl⟩ : ∃ n', n = n' + 1 := ⟨n - 1, by omega⟩
    have hkw : k < w := by omega
    have ow := q3 k hkw
    have rk := q4 k hkw
    have wk := q7 k hkw
    have sk := hs2 k hkw
    have y1 := bS_le (a := 0) (s := s) q6 k (by omega)
    have y2 := bS_le (a := 0) (s := s) q4 k (by omega)
    have y3 := bS_le (a := w0) (s := s) q7 k (by omega)
    have y4 := bT_le (t0 := t0) (s := s) q7 k (by omega)
    obtain ⟨u1, u2, u3, u4, u5⟩ := hI k hkw
    have tR : (nI (rm k)).toInt = (rm k : Int) := nI_toInt (by omega)
    have tW : (nI (wt k)).toInt = (wt k : Int) := nI_toInt (by omega)
    have fb := bF_le (own := own) (fr := fr) (s := s) q4 (own k) k (by omega)
    have frb := q8 (own k) ow
    rw [f_X12_can_L55, if_neg (nI_ge hkw (by omega)), if_neg (nI_in (by omega) (by decide)), nI_clamp (n := k) (by omega), h16 k hkw, h15 k hkw]
    by_cases c2 : s k = 2
    · rw [if_pos (by rw [c2]; rfl), nI_1]
      have eO : bO own rm fr s (k + 1) = bO own rm fr s k := by rw [bO, decide_eq_true c2, Bool.true_or, Bool.and_true]
      have e1 : bS wt w0 s (k + 1) = bS wt w0 s k := by rw [bS, if_pos c2]
      have e2 : bS vl 0 s (k + 1) = bS vl 0 s k := by rw [bS, if_pos c2]
      have e3 : bS rm 0 s (k + 1) = bS rm 0 s k := by rw [bS, if_pos c2]
      have e4 : bT wt t0 s (k + 1) = bT wt t0 s k := by rw [bT, if_neg (by omega), if_pos c2]
      have := ih (k + 1) n M x2 (by omega) (by omega) hA h15 h16 (fun c hc => by rw [h18 c hc, bF, if_neg (fun w => w.1 c2)]) (by rw [e2]; exact h19) (by rw [e3]; exact h20) (by rw [e4]; exact hx)
      rw [eO, e1] at this
      exact this
    · have hR0 : ∀ {M1 : Mem}, M1 0 = A → RBal nb nc C (M1 0) := fun e => by rw [e]; exact hR
      have its0 : ∀ {M1 : Mem}, M1 0 = A → f_X12_its M1 (nI (bid k)) (0 : Int32) = some (nI (own k)) := fun {M1} e => by
        rw [its_eq M1 (bid k) 0 0 rfl (by omega) (by decide), e]
        show some (A (90 + 9 * bid k)) = _
        rw [(hR.2.2.2.2.2.1 (bid k) u1).1, u2]
      have its2 : ∀ {M1 : Mem}, M1 0 = A → f_X12_its M1 (nI (bid k)) (2 : Int32) = some (nI (wt k)) := fun {M1} e => by
        rw [its_eq M1 (bid k) 2 2 rfl (by omega) (by decide), e, (hR.2.2.2.2.2.1 (bid k) u1).2.2.1, u5]
      have x2' : (nI (s k) = (2 : Int32)) ↔ s k = 2 := nI_eq (b := 2) (by omega) (by decide)
      rw [if_neg (fun e => c2 (x2'.mp e)), its0 hA, Option.bind_some, if_neg (nI_in (N := 8) (by omega) (by decide)), mroom_eq (hR0 hA) u1, Option.bind_some, wr_s, u3, nI_clamp (n := own k) (by omega)]
      obtain ⟨M1, hM1⟩ : ∃ M1, M1 = upA M 18 (nI (own k)) (M 18 (own k) - nI (rm k)) := ⟨_, rfl⟩
      rw [← hM1]
      have k1 : ∀ i, i ≠ 18 → M1 i = M i := fun i hi => by rw [hM1, upA_ne hi]
      have hA1 : M1 0 = A := by rw [k1 0 (by decide)]; exact hA
      have F1 : ∀ c, c < nc → (M1 18 c).toInt = bF own rm fr s (k + 1) c := by
        intro c hc
        rw [hM1, bF]
        by_cases q : own k = c
        · subst q
          rw [upN_at (by omega), if_pos ⟨c2, rfl⟩, ti_sub (by rw [h18 _ hc]; omega) (by rw [h18 _ hc]; omega), h18 _ hc, tR]
        · rw [upN_ne (by omega) (Ne.symm q), if_neg (fun w => q w.2)]
          exact h18 c hc
      have Fo := F1 (own k) ow
      -- the flag
      have eflag : (if (if bO own rm fr s k = true then (1 : Int32) else 0) = 0 then f_X12_can_L130 (f_X12_can_L55 n) M1 (nI w) x2 (nI (bS wt w0 s k)) (nI k) (nI (bid k)) (0 : Int32) else Option.bind (f_X12_its M1 (nI (bid k)) (0 : Int32)) fun r118 => if r118 < 0 ∨ 8 ≤ (r118).toNatClampNeg then none else if (M1 18 (r118).toNatClampNeg) < 0 then f_X12_can_L130 (f_X12_can_L55 n) M1 (nI w) x2 (nI (bS wt w0 s k)) (nI k) (nI (bid k)) (0 : Int32) else f_X12_can_L130 (f_X12_can_L55 n) M1 (nI w) x2 (nI (bS wt w0 s k)) (nI k) (nI (bid k)) (1 : Int32)) = f_X12_can_L130 (f_X12_can_L55 n) M1 (nI w) x2 (nI (bS wt w0 s k)) (nI k) (nI (bid k)) (if bO own rm fr s (k + 1) = true then 1 else 0) := by
        rw [bO, decide_eq_false c2, Bool.false_or]
        by_cases c : bO own rm fr s k = true
        · rw [if_pos c, if_neg (by decide), its0 hA1, Option.bind_some, if_neg (nI_in (N := 8) (by omega) (by decide)), nI_clamp (n := own k) (by omega), c, Bool.true_and]
          by_cases cf : 0 ≤ bF own rm fr s (k + 1) (own k)
          · rw [if_neg (show ¬ M1 18 (own k) < 0 from fun e => by have := Int32.lt_iff_toInt_lt.mp e; rw [Fo, show (0 : Int32).toInt = 0 from rfl] at this; omega), if_pos (decide_eq_true cf)]
          · rw [if_pos (show M1 18 (own k) < 0 from Int32.lt_iff_toInt_lt.mpr (by rw [Fo, show (0 : Int32).toInt = 0 from rfl]; omega)), if_neg (fun e => cf (of_decide_eq_true e))]
        · have cb : bO own rm fr s k = false := by
            cases hb : bO own rm fr s k
            · rfl
            · exact absurd hb c
          rw [cb, Bool.false_and, if_neg (show ¬ false = true by decide), if_pos rfl]
      rw [eflag]
      unfold f_X12_can_L130
      rw [if_neg (nI_in (by omega) (by decide)), nI_clamp (n := k) (by omega), k1 16 (by decide), h16 k hkw, its2 hA1]
      -- what L161 does for a signed weight
      have e1 : bS wt w0 s (k + 1) = bS wt w0 s k + wt k := by rw [bS, if_neg c2]
      have e2 : bS vl 0 s (k + 1) = bS vl 0 s k + vl k := by rw [bS, if_neg c2]
      have e3 : bS rm 0 s (k + 1) = bS rm 0 s k + rm k := by rw [bS, if_neg c2]
      have step : ∀ g : Int32, (x2 + g).toInt = bT wt t0 s (k + 1) → ∃ M' : Mem, f_X12_can_L161 (f_X12_can_L55 n) M1 (nI w) (nI (bS wt w0 s k)) (if bO own rm fr s (k + 1) = true then 1 else 0) (nI k) (nI (bid k)) g x2 = some (if bGood own rm wt fr t0 w0 zT zW w s = true then 1 else 0, M') ∧ M' 19 0 = nI (bS vl 0 s w) ∧ M' 20 0 = nI (bS rm 0 s w) ∧ ∀ i, i ≠ 18 → i ≠ 19 → i ≠ 20 → M' i = M i := by
        intro g hg
        unfold f_X12_can_L161
        rw [its2 hA1, Option.bind_some, mvalue_eq (hR0 hA1) u1, Option.bind_some, wr_s, mroom_eq (hR0 (M1 := upS M1 19 (M1 19 0 + vlV C (bid k))) (by rw [upS_ne (by decide)]; exact hA1)) u1, Option.bind_some, wr_s, u3, u4, k1 19 (by decide), h19, nI_add, upS_ne (k := 19) (j := 20) (by decide), k1 20 (by decide), h20, nI_add, nI_add, nI_1]
        have g0 : ∀ i, i ≠ 18 → i ≠ 19 → i ≠ 20 → (upS (upS M1 19 (nI (bS vl 0 s k + vl k))) 20 (nI (bS rm 0 s k + rm k))) i = M i := fun i a b c => by rw [upS_ne c, upS_ne b, k1 i a]
        obtain ⟨M', z1, z2, z3, z4⟩ := ih (k + 1) n (upS (upS M1 19 (nI (bS vl 0 s k + vl k))) 20 (nI (bS rm 0 s k + rm k))) (x2 + g) (by omega) (by omega) (by rw [g0 0 (by decide) (by decide) (by decide)]; exact hA) (by rw [g0 15 (by decide) (by decide) (by decide)]; exact h15) (by rw [g0 16 (by decide) (by decide) (by decide)]; exact h16) (by rw [upS_ne (by decide), upS_ne (by decide)]; exact F1) (by rw [upS_ne (by decide), upS_at, e2]) (by rw [upS_at, e3]) hg
        rw [e1] at z1
        exact ⟨M', z1, z2, z3, fun i a b c => by rw [z4 i a b c, g0 i a b c]⟩
      by_cases c0 : s k = 0
      · rw [if_pos (by rw [c0]; rfl), Option.bind_some]
        exact step _ (by rw [bT, if_pos c0, ti_add (by omega) (by omega), hx, tW])
      · have x0' : (nI (s k) = (0 : Int32)) ↔ s k = 0 := nI_eq (b := 0) (by omega) (by decide)
        rw [if_neg (fun e => c0 (x0'.mp e)), Option.bind_some]
        have tnW : (-nI (wt k)).toInt = -(wt k : Int) := sb_negT (by omega)
        exact step _ (by rw [bT, if_neg c0, if_neg c2, ti_add (by omega) (by omega), hx, tnW]; omega)
theorem can2 (hP : PRB w nc own rm vl wt fr t0 w0 zT zW) (hR : RBal nb nc C A) (hC : RCit nc P A) : ∀ (d x n : Nat) (M : Mem), x + d = nc → d < n → M 0 = A → (∀ c, c < x → M 18 c = frV C P nb c) →
    ∃ M' : Mem, f_X12_can_L2 n M (nI w) (nI x) = f_X12_can_L55 FU M' (nI w) (tiV C nb) (weV C nb) (1 : Int32) (0 : Int32) ∧ (∀ c, c < nc → M' 18 c = frV C P nb c) ∧ M' 19 0 = 0 ∧ M' 20 0 = 0 ∧ ∀ i, i ≠ 18 → i ≠ 19 → i ≠ 20 → M' i = M i
  | 0, x, n + 1, M, h, _, hA, hf => by
    have e : x = nc := by omega
    subst e
    have hR' : RBal nb x C (M 0) := by rw [hA]; exact hR
    rw [f_X12_can_L2, show M 0 (3 : Int32).toNatClampNeg = nI x by rw [hA]; exact hC.2.2.1, if_pos (Int32.le_refl _), mtilt_eq hR' hC.1, Option.bind_some, mweight_eq hR' hC.1, Option.bind_some, wr_s, wr_s]
    exact ⟨_, rfl, fun c hc => by rw [upS_ne (by decide), upS_ne (by decide)]; exact hf c hc, by rw [upS_ne (by decide), upS_at], upS_at _ _ _ _, fun i _ b c => by rw [upS_ne c, upS_ne b]⟩
  | d + 1, x, n + 1, M, h, hn, hA, hf => by
    have hx : x < nc := by omega
    have h8 := hC.1
    have hR' : RBal nb nc C (M 0) := by rw [hA]; exact hR
    have hC' : RCit nc P (M 0) := by rw [hA]; exact hC
    rw [f_X12_can_L2, show M 0 (3 : Int32).toNatClampNeg = nI nc by rw [hA]; exact hC.2.2.1, if_neg (nI_ge hx (by omega)), mfree_eq hR' hC' hx, Option.bind_some, if_neg (nI_in (N := 8) (by omega) (by decide)), wr_s, nI_1]
    obtain ⟨M', g1, g2, g3, g4, g5⟩ := can2 hP hR hC d (x + 1) n (upA M 18 (nI x) (frV C P nb x)) (by omega) (by omega) (by rw [upA_ne (by decide)]; exact hA) (fun c hc => by
        by_cases q : c = x
        · subst q
          exact upN_at (by omega)
        · rw [upN_ne (by omega) q]
          exact hf c (by omega))
    exact ⟨M', g1, g2, g3, g4, fun i a b c => by rw [g5 i a b c, upA_ne a]⟩
  | _, _, 0, _, _, hn, _, _ => absurd hn (by omega)
theorem can_eq (hP : PRB w nc own rm vl wt fr t0 w0 zT zW) (hR : RBal nb nc C A) (hC : RCit nc P A) (hI : IT w nb C bid own rm vl wt) (h8 : A 8 = nI zT) (h9 : A 9 = nI zW) (hfr : ∀ c, c < nc → (frV C P nb c).toInt = fr c) (ht : (tiV C nb).toInt = t0) (hw0 : weV C nb = nI w0) {M : Mem} (hs2 : ∀ j, j < w → s j ≤ 2) (hA : M 0 = A) (h15 : ∀ j, j < w → M 15 j = nI (bid j)) (h16 : ∀ j, j < w → M 16 j = nI (s j)) : ∃ M' : Mem, f_X12_can M (nI w) = some (if bGood own rm wt fr t0 w0 zT zW w s = true then 1 else 0, M') ∧ M' 19 0 = nI (bS vl 0 s w) ∧ M' 20 0 = nI (bS rm 0 s w) ∧ ∀ i, i ≠ 18 → i ≠ 19 → i ≠ 20 → M' i = M i := by
  have hnc := hC.1
  have hw := hP.1
  have hFU : 20 < FU := FU_gt (by decide)
  obtain ⟨M1, g1, g2, g3, g4, g5⟩ := can2 (A := A) hP hR hC nc 0 FU M (by omega) (by omega) hA (fun c hc => absurd hc (by omega))
  obtain ⟨M', z1, z2, z3, z4⟩ := can55 (s := s) hP hR hI h8 h9 hs2 w 0 FU M1 (tiV C nb) (by omega) (by omega) (by rw [g5 0 (by decide) (by decide) (by decide)]; exact hA) (by rw [g5 15 (by decide) (by decide) (by decide)]; exact h15) (by rw [g5 16 (by decide) (by decide) (by decide)]; exact h16) (fun c hc => by rw [g2 c hc]; exact hfr c hc) g3 g4 ht
  refine ⟨M', ?_, z2, z3, fun i a b c => by rw [z4 i a b c, g5 i a b c]⟩
  unfold f_X12_can
  rw [show f_X12_can_L2 FU M (nI w) (0 : Int32) = _ from g1, hw0]
  exact z1
end Best
