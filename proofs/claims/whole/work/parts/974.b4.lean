/-! ===== best: the reference's count through all ladings ===== -/
theorem nI_pm (x : Nat) : nI (x + 1) + (-1 : Int32) = nI x := by
  rw [← nI_1]
  grind
theorem turns_L {w : Nat} (hw : w ≤ 12) : ∀ (e k n d : Nat) (M : Mem), k + e < w → e < n → (∀ j, k < j → j ≤ k + e → M 16 j = 2) → M 16 k = nI d → d < 2 → ∃ M', f_X12_turns_L4 n M (nI (k + e)) = some (1, M') ∧ M' 16 k = nI (d + 1) ∧ (∀ j, j < k → M' 16 j = M 16 j) ∧ (∀ j, k < j → j ≤ k + e → M' 16 j = 0) ∧ (∀ j, k + e < j → M' 16 j = M 16 j) ∧ ∀ i, i ≠ 16 → M' i = M i
  | 0, k, n + 1, d, M, h, _, _, h16, hd => by
    rw [f_X12_turns_L4, if_neg (nI_pos (by omega)), if_neg (nI_in (N := 12) (by omega) (by decide)), nI_clamp (by omega), show M 16 (k + 0) = nI d from h16, if_neg (show ¬ (2 : Int32) ≤ nI d from nI_ge (b := 2) hd (by decide)), wr_s, nI_1]
    exact ⟨_, rfl, upN_at (i := k) (by omega), fun j hj => upN_ne (i := k) (by omega) (by omega), fun j a b => absurd a (by omega), fun j hj => upN_ne (i := k) (by omega) (by omega), fun i hi => upA_ne hi⟩
  | e + 1, k, n + 1, d, M, h, hn, h2, h16, hd => by
    rw [f_X12_turns_L4, if_neg (nI_pos (by omega)), if_neg (nI_in (N := 12) (by omega) (by decide)), nI_clamp (by omega), h2 (k + (e + 1)) (by omega) (by omega), if_pos (Int32.le_refl _), wr_s, show nI (k + (e + 1)) + (-1 : Int32) = nI (k + e) from nI_pm (k + e)]
    obtain ⟨M', g1, g2, g3, g4, g6, g5⟩ := turns_L hw e k n d (upA M 16 (nI (k + (e + 1))) 0) (by omega) (by omega) (fun j a b => by rw [upN_ne (by omega) (by omega)]; exact h2 j a (by omega)) (by rw [upN_ne (by omega) (by omega)]; exact h16) hd
    refine ⟨M', g1, g2, fun j hj => by rw [g3 j hj, upN_ne (by omega) (by omega)], fun j a b => ?_, fun j hj => by rw [g6 j (by omega), upN_ne (by omega) (by omega)], fun i hi => by rw [g5 i hi, upA_ne hi]⟩
    by_cases c : j = k + (e + 1)
    · subst c
      rw [g6 _ (by omega), upN_at (by omega)]
    · exact g4 j a (by omega)
  | _, _, 0, _, _, _, hn, _, _, _ => absurd hn (by omega)
theorem turns_eq {w k d : Nat} {M : Mem} (hw : w ≤ 12) (hk : k < w) (h2 : ∀ j, k < j → j < w → M 16 j = 2) (h16 : M 16 k = nI d) (hd : d < 2) : ∃ M', f_X12_turns M (nI w) = some (1, M') ∧ M' 16 k = nI (d + 1) ∧ (∀ j, j < k → M' 16 j = M 16 j) ∧ (∀ j, k < j → j < w → M' 16 j = 0) ∧ ∀ i, i ≠ 16 → M' i = M i := by
  have hFU : 20 < FU := FU_gt (by decide)
  obtain ⟨M', g1, g2, g3, g4, g6, g5⟩ := turns_L hw (w - 1 - k) k FU d M (by omega) (by omega) (fun j a b => h2 j a (by omega)) h16 hd
  refine ⟨M', ?_, g2, g3, fun j a b => g4 j a (by omega), g5⟩
  unfold f_X12_turns
  rw [show nI w - (1 : Int32) = nI (w - 1) from pk_sub (a := w) (b := 1) (by omega), show w - 1 = k + (w - 1 - k) by omega]
  exact g1
theorem turns_Z {w : Nat} (hw : w ≤ 12) : ∀ (x n : Nat) (M : Mem), x < w → x + 1 < n → (∀ j, j ≤ x → M 16 j = 2) → ∃ M', f_X12_turns_L4 n M (nI x) = some (0, M') ∧ ∀ i, i ≠ 16 → M' i = M i
  | 0, n + 2, M, h, _, h2 => by
    rw [f_X12_turns_L4, if_neg (nI_pos (by omega)), if_neg (nI_in (N := 12) (by omega) (by decide)), nI_clamp (by omega), h2 0 (by omega), if_pos (Int32.le_refl _), wr_s, f_X12_turns_L4, if_pos (by decide)]
    exact ⟨_, rfl, fun i hi => upA_ne hi⟩
  | x + 1, n + 1, M, h, hn, h2 => by
    rw [f_X12_turns_L4, if_neg (nI_pos (by omega)), if_neg (nI_in (N := 12) (by omega) (by decide)), nI_clamp (by omega), h2 (x + 1) (by omega), if_pos (Int32.le_refl _), wr_s, nI_pm]
    obtain ⟨M', g1, g2⟩ := turns_Z hw x n (upA M 16 (nI (x + 1)) 0) (by omega) (by omega) (fun j hj => by rw [upN_ne (by omega) (by omega)]; exact h2 j (by omega))
    exact ⟨M', g1, fun i hi => by rw [g2 i hi, upA_ne hi]⟩
  | _, 0, _, _, hn, _ => absurd hn (by omega)
  | 0, 1, _, _, hn, _ => absurd hn (by omega)
theorem turns_end {w : Nat} {M : Mem} (hw : w ≤ 12) (h2 : ∀ j, j < w → M 16 j = 2) : ∃ M', f_X12_turns M (nI w) = some (0, M') ∧ ∀ i, i ≠ 16 → M' i = M i := by
  unfold f_X12_turns
  obtain ⟨n, hn⟩ : ∃ n, FU = n + 20 := ⟨99980, rfl⟩
  by_cases c : w = 0
  · subst c
    rw [hn, f_X12_turns_L4, if_pos (by decide)]
    exact ⟨M, rfl, fun _ _ => rfl⟩
  · rw [show nI w - (1 : Int32) = nI (w - 1) from pk_sub (a := w) (b := 1) (by omega)]
    exact turns_Z hw (w - 1) FU M (by omega) (by omega) (fun j hj => h2 j (by omega))
theorem copy139 {w : Nat} (hw : w ≤ 12) (x2 x3 : Int32) : ∀ (d x n : Nat) (M : Mem), x + d = w → d < n → ∃ M', (∀ K, f_X12_best_L139 K n M (nI w) x2 x3 (nI x) = bd2 (f_X12_turns M' (nI w)) fun r M => K M (nI w) x2 x3 r) ∧ (∀ j, x ≤ j → j < w → M' 17 j = M 16 j) ∧ (∀ j, j < x → M' 17 j = M 17 j) ∧ ∀ i, i ≠ 17 → M' i = M i
  | 0, x, n + 1, M, h, _ => by
    have e : x = w := by omega
    subst e
    refine ⟨M, fun K => ?_, fun j a b => absurd a (by omega), fun _ _ => rfl, fun _ _ => rfl⟩
    rw [f_X12_best_L139, if_pos (Int32.le_refl _)]
  | d + 1, x, n + 1, M, h, hn => by
    obtain ⟨M', g1, g2, g3, g4⟩ := copy139 hw x2 x3 d (x + 1) n (upA M 17 (nI x) (M 16 x)) (by omega) (by omega)
    refine ⟨M', fun K => ?_, fun j a b => ?_, fun j hj => by rw [g3 j (by omega), upN_ne (by omega) (by omega)], fun i hi => by rw [g4 i hi, upA_ne hi]⟩
    · rw [f_X12_best_L139, if_neg (nI_ge (by omega) (by omega)), if_neg (nI_in (N := 12) (by omega) (by decide)), wr_s, nI_clamp (by omega), nI_1]
      exact g1 K
    · by_cases c : j = x
      · subst c
        rw [g3 j (by omega), upN_at (by omega)]
      · rw [g2 j (by omega) b, upA_ne (by decide)]
  | _, _, 0, _, _, hn => absurd hn (by omega)
def bx (b : Bst) : Int32 := if b.1 = 0 then -1 else nI b.2.1
def bz (b : Bst) : Int32 := if b.1 = 0 then 0 else nI b.2.2.1
def TPb (n w : Nat) (M : Mem) (b : Bst) : Option (Int32 × Mem) := bd2 (f_X12_turns M (nI w)) fun r M => f_X12_best_L89 n M (nI w) (bx b) (bz b) r
def BM (w : Nat) (M : Mem) (b : Bst) : Prop := b.1 ≤ 1 ∧ (b.1 = 1 → b.2.1 ≤ 10000 ∧ b.2.2.1 ≤ 10000 ∧ ∀ j, j < w → M 17 j = nI (b.2.2.2 j))
theorem BM.cg {w : Nat} {M M1 : Mem} {b : Bst} (h : BM w M b) (e : M1 17 = M 17) : BM w M1 b := by
  unfold BM
  rw [e]
  exact h
section Best
variable {w nb nc : Nat} {own rm vl wt bid : Nat → Nat} {fr : Nat → Int} {t0 : Int} {w0 zT zW : Nat} {C P : Mem} {A : Nat → Int32}
theorem leaf_eq (hP : PRB w nc own rm vl wt fr t0 w0 zT zW) (hR : RBal nb nc C A) (hC : RCit nc P A) (hI : IT w nb C bid own rm vl wt) (h8 : A 8 = nI zT) (h9 : A 9 = nI zW) (hfr : ∀ c, c < nc → (frV C P nb c).toInt = fr c) (ht : (tiV C nb).toInt = t0) (hw0 : weV C nb = nI w0) {M : Mem} {s : Nat → Nat} {b : Bst} (n : Nat) (hs2 : ∀ j, j < w → s j ≤ 2) (hA : M 0 = A) (h15 : ∀ j, j < w → M 15 j = nI (bid j)) (h16 : ∀ j, j < w → M 16 j = nI (s j)) (hb : BM w M b) : ∃ M', f_X12_best_L89 (n + 1) M (nI w) (bx b) (bz b) (1 : Int32) = TPb n w M' (bL own rm vl wt fr t0 w0 zT zW w s b) ∧ BM w M' (bL own rm vl wt fr t0 w0 zT zW w s b) ∧ ∀ i, i ≠ 17 → i ≠ 18 → i ≠ 19 → i ≠ 20 → M' i = M i := by
  obtain ⟨q1, q2, q3, q4, q5, q6, q7, q8, q9, q10, q11, q12⟩ := id hP
  have y1 := bS_le (a := 0) (s := s) q6 w (by omega)
  have y2 := bS_le (a := 0) (s := s) q4 w (by omega)
  obtain ⟨M1, g1, g2, g3, g4⟩ := can_eq hP hR hC hI h8 h9 hfr ht hw0 hs2 hA h15 h16
  obtain ⟨b1, b2⟩ := id hb
  rw [f_X12_best_L89, if_neg (by decide), g1, bd2_s]
  have hb1 : BM w M1 b := hb.cg (g4 17 (by decide) (by decide) (by decide))
  have none' : bL own rm vl wt fr t0 w0 zT zW w s b = b → ∃ M', (bd2 (f_X12_turns M1 (nI w)) fun r167 M_h_167 => f_X12_best_L89 n M_h_167 (nI w) (bx b) (bz b) r167) = TPb n w M' (bL own rm vl wt fr t0 w0 zT zW w s b) ∧ BM w M' (bL own rm vl wt fr t0 w0 zT zW w s b) ∧ ∀ i, i ≠ 17 → i ≠ 18 → i ≠ 19 → i ≠ 20 → M' i = M i := by
    intro e
    rw [e]
    exact ⟨M1, rfl, hb1, fun i _ b c d => g4 i b c d⟩
  have some' : bL own rm vl wt fr t0 w0 zT zW w s b = (1, bS vl 0 s w, bS rm 0 s w, s) → ∃ M', f_X12_best_L139 (f_X12_best_L89 n) FU M1 (nI w) (nI (bS vl 0 s w)) (nI (bS rm 0 s w)) (0 : Int32) = TPb n w M' (bL own rm vl wt fr t0 w0 zT zW w s b) ∧ BM w M' (bL own rm vl wt fr t0 w0 zT zW w s b) ∧ ∀ i, i ≠ 17 → i ≠ 18 → i ≠ 19 → i ≠ 20 → M' i = M i := by
    intro e
    rw [e]
    have hFU : 20 < FU := FU_gt (by decide)
    obtain ⟨M2, z1, z2, z3, z4⟩ := copy139 (w := w) (by omega) (nI (bS vl 0 s w)) (nI (bS rm 0 s w)) w 0 FU M1 (by omega) (by omega)
    refine ⟨M2, z1 _, ⟨by show (1 : Nat) ≤ 1; omega, fun _ => ⟨by show bS vl 0 s w ≤ 10000; omega, by show bS rm 0 s w ≤ 10000; omega, fun j hj => ?_⟩⟩, fun i a b c d => by rw [z4 i a, g4 i b c d]⟩
    rw [z2 j (by omega) hj, g4 16 (by decide) (by decide) (by decide)]
    exact h16 j hj
  by_cases cg : bGood own rm wt fr t0 w0 zT zW w s = true
  · rw [if_pos cg, if_neg (by decide), g2, g3]
    by_cases c0 : b.1 = 0
    · rw [if_pos (show bx b < nI (bS vl 0 s w) by rw [bx, if_pos c0, Int32.lt_iff_toInt_lt, nI_toInt (by omega), show (-1 : Int32).toInt = -1 from rfl]; omega)]
      refine some' ?_
      unfold bL bBet
      rw [cg, decide_eq_true c0]
      rfl
    · have c1 : b.1 = 1 := by omega
      obtain ⟨d1, d2, d3⟩ := b2 c1
      have ex : bx b = nI b.2.1 := if_neg c0
      have ez : bz b = nI b.2.2.1 := if_neg c0
      by_cases c2 : b.2.1 < bS vl 0 s w
      · rw [if_pos (show bx b < nI (bS vl 0 s w) by rw [ex]; exact nI_lt c2 (by omega))]
        refine some' ?_
        unfold bL bBet
        rw [cg, decide_eq_true c2, Bool.true_or, Bool.or_true]
        rfl
      · rw [if_neg (show ¬ bx b < nI (bS vl 0 s w) by rw [ex]; exact nI_nlt (by omega) (by omega))]
        by_cases c3 : b.2.1 = bS vl 0 s w
        · rw [if_pos (show nI (bS vl 0 s w) = bx b by rw [ex, c3])]
          by_cases c4 : bS rm 0 s w < b.2.2.1
          · rw [if_neg (show ¬ bz b ≤ nI (bS rm 0 s w) by rw [ez]; exact nI_ge c4 (by omega))]
            refine some' ?_
            unfold bL bBet
            rw [cg, decide_eq_true c3, decide_eq_true c4, Bool.and_true, Bool.or_true, Bool.or_true]
            rfl
          · rw [if_pos (show bz b ≤ nI (bS rm 0 s w) by rw [ez]; exact nI_le (by omega) (by omega))]
            refine none' ?_
            unfold bL bBet
            rw [cg, decide_eq_false c0, decide_eq_false c2, decide_eq_true c3, decide_eq_false c4]
            rfl
        · rw [if_neg (show ¬ nI (bS vl 0 s w) = bx b by rw [ex]; exact fun e => c3 ((nI_eq (by omega) (by omega)).mp e).symm)]
          refine none' ?_
          unfold bL bBet
          rw [cg, decide_eq_false c0, decide_eq_false c2, decide_eq_false c3]
          rfl
  · rw [if_neg cg, if_pos rfl]
    refine none' ?_
    unfold bL
    rw [if_neg]
    intro e
    rw [Bool.and_eq_true] at e
    exact cg e.1
theorem enum_L (hP : PRB w nc own rm vl wt fr t0 w0 zT zW) (hR : RBal nb nc C A) (hC : RCit nc P A) (hI : IT w nb C bid own rm vl wt) (h8 : A 8 = nI zT) (h9 : A 9 = nI zW) (hfr : ∀ c, c < nc → (frV C P nb c).toInt = fr c) (ht : (tiV C nb).toInt = t0) (hw0 : weV C nb = nI w0) : ∀ (r k n : Nat) (M : Mem) (s : Nat → Nat) (b : Bst), k + r = w → (∀ j, k ≤ j → s j = 0) → (∀ j, s j ≤ 2) → M 0 = A → (∀ j, j < w → M 15 j = nI (bid j)) → (∀ j, j < w → M 16 j = nI (s j)) → BM w M b → 3 ^ r ≤ n → ∃ (n' : Nat) (M' : Mem), n' + 3 ^ r = n ∧ f_X12_best_L89 n M (nI w) (bx b) (bz b) (1 : Int32) = TPb n' w M' (brun (bL own rm vl wt fr t0 w0 zT zW w) r k s b) ∧ BM w M' (brun (bL own rm vl wt fr t0 w0 zT zW w) r k s b) ∧ (∀ j, j < k → M' 16 j = nI (s j)) ∧ (∀ j, k ≤ j → j < w → M' 16 j = 2) ∧ ∀ i, i ≠ 16 → i ≠ 17 → i ≠ 18 → i ≠ 19 → i ≠ 20 → M' i = M i := by
  have q1 := hP.1
  intro r
  induction r with
  | zero =>
    intro k n M s b hk hz hs hA h15 h16 hb hn
    obtain ⟨n, rfl⟩ : ∃ n', n = n' + 1 := ⟨n - 1, by omega⟩
    obtain ⟨M', g1, g2, g3⟩ := leaf_eq hP hR hC hI h8 h9 hfr ht hw0 n (fun j _ => hs j) hA h15 h16 hb
    exact ⟨n, M', by rw [Nat.pow_zero], g1, g2, fun j hj => by rw [g3 16 (by decide) (by decide) (by decide) (by decide)]; exact h16 j (by omega), fun j a b => absurd a (by omega), fun i _ a b c d => g3 i a b c d⟩
  | succ r ih =>
    intro k n M s b hk hz hs hA h15 h16 hb hn
    rw [Nat.pow_succ] at hn
    -- the three digits at place k
    obtain ⟨n1, M1, a1, a2, a3, a4, a5, a6⟩ := ih (k + 1) n M (sU s k 0) b (by omega) (fun j hj => by rw [sU_ne (by omega)]; exact hz j (by omega)) (fun j => by unfold sU; split; omega; exact hs j) hA h15 (fun j hj => by
        by_cases c : j = k
        · subst c
          rw [sU_at, h16 j hj, hz j (Nat.le_refl _)]
        · rw [sU_ne c]
          exact h16 j hj) hb (by omega)
    have d1 := a4 k (by omega)
    rw [sU_at] at d1
    obtain ⟨N1, t1, t2, t3, t4, t5⟩ := turns_eq (w := w) (k := k) (d := 0) (M := M1) (by omega) (by omega) (fun j x y => a5 j (by omega) y) d1 (by omega)
    have f1 : ∀ i, i ≠ 16 → i ≠ 17 → i ≠ 18 → i ≠ 19 → i ≠ 20 → N1 i = M i := fun i x1 x2 x3 x4 x5 => by rw [t5 i x1, a6 i x1 x2 x3 x4 x5]
    obtain ⟨n2, M2, b1, b2, b3, b4, b5, b6⟩ := ih (k + 1) n1 N1 (sU s k 1) (brun (bL own rm vl wt fr t0 w0 zT zW w) r (k + 1) (sU s k 0) b) (by omega) (fun j hj => by rw [sU_ne (by omega)]; exact hz j (by omega)) (fun j => by unfold sU; split; omega; exact hs j) (by rw [f1 0 (by decide) (by decide) (by decide) (by decide) (by decide)]; exact hA) (by rw [f1 15 (by decide) (by decide) (by decide) (by decide) (by decide)]; exact h15) (fun j hj => by
        by_cases c : j = k
        · subst c
          rw [sU_at]
          exact t2
        · rw [sU_ne c]
          by_cases c' : j < k
          · have := a4 j (by omega)
            rw [sU_ne c] at this
            rw [t3 j c']
            exact this
          · rw [t4 j (by omega) hj, hz j (by omega)]
            rfl) (a3.cg (t5 17 (by decide))) (by omega)
    have d2 := b4 k (by omega)
    rw [sU_at] at d2
    obtain ⟨N2, u1, u2, u3, u4, u5⟩ := turns_eq (w := w) (k := k) (d := 1) (M := M2) (by omega) (by omega) (fun j x y => b5 j (by omega) y) d2 (by omega)
    have f2 : ∀ i, i ≠ 16 → i ≠ 17 → i ≠ 18 → i ≠ 19 → i ≠ 20 → N2 i = M i := fun i x1 x2 x3 x4 x5 => by rw [u5 i x1, b6 i x1 x2 x3 x4 x5, f1 i x1 x2 x3 x4 x5]
    obtain ⟨n3, M3, c1, c2, c3, c4, c5, c6⟩ := ih (k + 1) n2 N2 (sU s k 2) (brun (bL own rm vl wt fr t0 w0 zT zW w) r (k + 1) (sU s k 1) (brun (bL own rm vl wt fr t0 w0 zT zW w) r (k + 1) (sU s k 0) b)) (by omega) (fun j hj => by rw [sU_ne (by omega)]; exact hz j (by omega)) (fun j => by unfold sU; split; omega; exact hs j) (by rw [f2 0 (by decide) (by decide) (by decide) (by decide) (by decide)]; exact hA) (by rw [f2 15 (by decide) (by decide) (by decide) (by decide) (by decide)]; exact h15) (fun j hj => by
        by_cases c : j = k
        · subst c
          rw [sU_at]
          exact u2
        · rw [sU_ne c]
          by_cases c' : j < k
          · have := b4 j (by omega)
            rw [sU_ne c] at this
            rw [u3 j c']
            exact this
          · rw [u4 j (by omega) hj, hz j (by omega)]
            rfl) (b3.cg (u5 17 (by decide))) (by omega)
    refine ⟨n3, M3, by rw [Nat.pow_succ]; omega, ?_, c3, fun j hj => ?_, fun j x y => ?_, fun i x1 x2 x3 x4 x5 => by rw [c6 i x1 x2 x3 x4 x5, f2 i x1 x2 x3 x4 x5]⟩
    · rw [a2, TPb, t1, bd2_s, b2, TPb, u1, bd2_s, c2]
      rfl
    · have := c4 j (by omega)
      rw [sU_ne (by omega)] at this
      exact this
    · by_cases c : j = k
      · subst c
        have := c4 j (by omega)
        rw [sU_at] at this
        exact this
      · exact c5 j (by omega) y
end Best
