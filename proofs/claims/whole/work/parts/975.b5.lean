/-! ===== best: gathering, and writing the plan ===== -/
theorem am1 (a : Int32) : a + (-1 : Int32) = a - 1 := by grind
def cw (C : Mem) : Nat → Nat → Nat
  | _, 0 => 0
  | j, d + 1 => (if C 6 j = -1 then 1 else 0) + cw C (j + 1) d
theorem cw_le (C : Mem) : ∀ (d j : Nat), cw C j d ≤ d
  | 0, _ => Nat.le_refl _
  | d + 1, j => by
    have := cw_le C d (j + 1)
    rw [cw]
    split <;> omega
theorem waitn_L {C : Mem} {nb : Nat} (hC : C 0 0 = nI nb) (hn : nb ≤ 12) : ∀ (d j n x : Nat), j + d = nb → d < n → f_X0_waiting_L4 n C (nI x) (nI j) = some (nI (x + cw C j d))
  | 0, j, n + 1, x, h, _ => by
    have e : j = nb := by omega
    subst e
    rw [f_X0_waiting_L4, hC, if_pos (Int32.le_refl _)]
    rfl
  | d + 1, j, n + 1, x, h, hd => by
    rw [f_X0_waiting_L4, hC, if_neg (nI_ge (by omega) (by omega)), waits_yes hC hn (by omega), Option.bind_some, cw]
    by_cases c : C 6 j = -1
    · rw [if_pos c, if_pos c, if_neg (by decide), nI_1, nI_1, waitn_L hC hn d (j + 1) n (x + 1) (by omega) (by omega)]
      rw [show x + 1 + cw C (j + 1) d = x + (1 + cw C (j + 1) d) by omega]
    · rw [if_neg c, if_neg c, if_pos rfl, Int32.add_zero, nI_1, waitn_L hC hn d (j + 1) n x (by omega) (by omega), Nat.zero_add]
  | _, _, 0, _, _, hd => absurd hd (by omega)
def GI (nb : Nat) (C S M : Mem) (k : Nat) : Prop := ∀ i, i < k → ∃ b, b < nb ∧ S 1 i = nI b ∧ M 15 i = nI b ∧ S 2 i = C 1 b ∧ S 3 i = rmV C b ∧ S 4 i = vlV C b ∧ S 5 i = C 3 b
def gE (C S : Mem) (w : Nat) : Option Mem := f_X1_gather_L144 FU C (upA (upA (upA S 6 (nI w) (0 : Int32)) 7 (nI w) (0 : Int32)) 8 (nI w) (0 : Int32)) (nI w - 1)
def mE (M : Mem) (w : Nat) : Option (Int32 × Mem) := if (M 0 1) = (1 : Int32) then some ((-1 : Int32), M) else if nI w ≤ (9 : Int32) then f_X12_best_L66 FU M (nI w) (-1 : Int32) (0 : Int32) (0 : Int32) else some ((-1 : Int32), M)
section Best
variable {nb nc : Nat} {C : Mem} {A : Nat → Int32}
theorem gath_L (hR : RBal nb nc C A) (h8 : nc ≤ 8) : ∀ (d j n m k : Nat) (S M : Mem), j + d = nb → d < n → d < m → k ≤ j → S 0 0 = nI k → M 0 = A → GI nb C S M k → ∃ S' M', f_X1_gather_L7 n C S (nI j) = gE C S' (k + cw C j d) ∧ f_X12_best_L4 m M (nI k) (nI j) = mE M' (k + cw C j d) ∧ S' 0 0 = nI (k + cw C j d) ∧ GI nb C S' M' (k + cw C j d) ∧ (∀ i, 5 < i → S' i = S i) ∧ ∀ i, i ≠ 15 → M' i = M i := by
  have hb := hR.1
  have hC := hR.2.1
  intro d
  induction d with
  | zero =>
    intro j n m k S M h hn hm hk hS hA hG
    obtain ⟨n, rfl⟩ : ∃ n', n = n' + 1 := ⟨n - 1, by omega⟩
    obtain ⟨m, rfl⟩ : ∃ m', m = m' + 1 := ⟨m - 1, by omega⟩
    have e : j = nb := by omega
    subst e
    refine ⟨S, M, ?_, ?_, hS, hG, fun _ _ => rfl, fun _ _ => rfl⟩
    · have z : ∀ (X : Mem) (a : Nat) (v : Int32), a ≠ 0 → upA X a (nI k) v 0 0 = X 0 0 := fun X a v h => by rw [upA_ne (Ne.symm h)]
      rw [f_X1_gather_L7, hC, if_pos (Int32.le_refl _), hS, if_neg (nI_in (N := 13) (by omega) (by decide)), wr_s, z S 6 0 (by decide), hS, if_neg (nI_in (N := 13) (by omega) (by decide)), wr_s, z _ 7 0 (by decide), z S 6 0 (by decide), hS, if_neg (nI_in (N := 13) (by omega) (by decide)), wr_s, z _ 8 0 (by decide), z _ 7 0 (by decide), z S 6 0 (by decide), hS]
      rfl
    · rw [f_X12_best_L4, show M 0 (4 : Int32).toNatClampNeg = nI j by rw [hA]; exact hR.2.2.1, if_pos (Int32.le_refl _)]
      rfl
  | succ d ih =>
    intro j n m k S M h hn hm hk hS hA hG
    obtain ⟨n, rfl⟩ : ∃ n', n = n' + 1 := ⟨n - 1, by omega⟩
    obtain ⟨m, rfl⟩ : ∃ m', m = m' + 1 := ⟨m - 1, by omega⟩
    have hj : j < nb := by omega
    have hR' : RBal nb nc C (M 0) := by rw [hA]; exact hR
    have eB : f_X12_best_L4 (m + 1) M (nI k) (nI j) = if C 6 j = -1 then f_X12_best_L4 m (upA M 15 (nI k) (nI j)) (nI (k + 1)) (nI (j + 1)) else f_X12_best_L4 m M (nI k) (nI (j + 1)) := by
      rw [f_X12_best_L4, show M 0 (4 : Int32).toNatClampNeg = nI nb by rw [hA]; exact hR.2.2.1, if_neg (nI_ge hj (by omega)), mlies_eq hR' h8 hj, Option.bind_some]
      by_cases c : C 6 j = -1
      · rw [if_pos c, if_pos c, if_pos rfl, if_neg (nI_in (N := 12) (by omega) (by decide)), wr_s, nI_1, nI_1]
      · rw [if_neg c, if_neg c, if_neg (show ¬ (1 : Int32) = 0 by decide), nI_1]
    rw [f_X1_gather_L7, hC, if_neg (nI_ge hj (by omega)), waits_yes hC hb hj, Option.bind_some, eB, cw]
    by_cases c : C 6 j = -1
    · rw [if_pos c, if_pos c, if_pos c, if_neg (show ¬ (1 : Int32) = 0 by decide)]
      have z : ∀ (X : Mem) (a : Nat) (v : Int32), a ≠ 0 → upA X a (nI k) v 0 0 = X 0 0 := fun X a v h => by rw [upA_ne (Ne.symm h)]
      rw [hS, if_neg (nI_in (N := 12) (by omega) (by decide)), wr_s, if_neg (nI_in (N := 12) (by omega) (by decide)), z S 1 _ (by decide), hS, if_neg (nI_in (N := 12) (by omega) (by decide)), wr_s, nI_clamp (n := j) (by omega), room0_eq (by omega), Option.bind_some, z _ 2 _ (by decide), z S 1 _ (by decide), hS, if_neg (nI_in (N := 12) (by omega) (by decide)), wr_s, value0_eq (by omega), Option.bind_some, z _ 3 _ (by decide), z _ 2 _ (by decide), z S 1 _ (by decide), hS, if_neg (nI_in (N := 12) (by omega) (by decide)), wr_s, z _ 4 _ (by decide), z _ 3 _ (by decide), z _ 2 _ (by decide), z S 1 _ (by decide), hS, if_neg (nI_in (N := 12) (by omega) (by decide)), wr_s, z _ 5 _ (by decide), z _ 4 _ (by decide), z _ 3 _ (by decide), z _ 2 _ (by decide), z S 1 _ (by decide), hS, wr_s, nI_1, nI_1]
      obtain ⟨S1, hS1⟩ : ∃ S1, S1 = upS (upA (upA (upA (upA (upA S 1 (nI k) (nI j)) 2 (nI k) (C 1 j)) 3 (nI k) (rmV C j)) 4 (nI k) (vlV C j)) 5 (nI k) (C 3 j)) 0 (nI (k + 1)) := ⟨_, rfl⟩
      rw [← hS1]
      have lo : ∀ a i, 1 ≤ a → i ≠ k → S1 a i = S a i := by
        intro a i ha hi
        rw [hS1, upS_ne (by omega)]
        by_cases c5 : a = 5
        · subst c5
          rw [upN_ne (by omega) hi, upA_ne (by decide), upA_ne (by decide), upA_ne (by decide), upA_ne (by decide)]
        · rw [upA_ne c5]
          by_cases c4 : a = 4
          · subst c4
            rw [upN_ne (by omega) hi, upA_ne (by decide), upA_ne (by decide), upA_ne (by decide)]
          · rw [upA_ne c4]
            by_cases c3 : a = 3
            · subst c3
              rw [upN_ne (by omega) hi, upA_ne (by decide), upA_ne (by decide)]
            · rw [upA_ne c3]
              by_cases c2 : a = 2
              · subst c2
                rw [upN_ne (by omega) hi, upA_ne (by decide)]
              · rw [upA_ne c2]
                by_cases c1 : a = 1
                · subst c1
                  rw [upN_ne (by omega) hi]
                · rw [upA_ne c1]
      have a1 : S1 1 k = nI j := by
        rw [hS1, upS_ne (by decide), upA_ne (by decide), upA_ne (by decide), upA_ne (by decide), upA_ne (by decide), upN_at (by omega)]
      have a2 : S1 2 k = C 1 j := by
        rw [hS1, upS_ne (by decide), upA_ne (by decide), upA_ne (by decide), upA_ne (by decide), upN_at (by omega)]
      have a3 : S1 3 k = rmV C j := by
        rw [hS1, upS_ne (by decide), upA_ne (by decide), upA_ne (by decide), upN_at (by omega)]
      have a4 : S1 4 k = vlV C j := by
        rw [hS1, upS_ne (by decide), upA_ne (by decide), upN_at (by omega)]
      have a5 : S1 5 k = C 3 j := by
        rw [hS1, upS_ne (by decide), upN_at (by omega)]
      obtain ⟨S', M', g1, g2, g3, g4, g5, g6⟩ := ih (j + 1) n m (k + 1) S1 (upA M 15 (nI k) (nI j)) (by omega) (by omega) (by omega) (by omega) (by rw [hS1, upS_at]) (by rw [upA_ne (by decide)]; exact hA) (fun i hi => by
          by_cases q : i = k
          · subst q
            exact ⟨j, hj, a1, upN_at (by omega), a2, a3, a4, a5⟩
          · obtain ⟨b, b1, b2, b3, b4⟩ := hG i (by omega)
            refine ⟨b, b1, by rw [lo 1 i (by decide) q]; exact b2, by rw [upN_ne (by omega) q]; exact b3, ?_⟩
            rw [lo 2 i (by decide) q, lo 3 i (by decide) q, lo 4 i (by decide) q, lo 5 i (by decide) q]
            exact b4)
      rw [show k + 1 + cw C (j + 1) d = k + (1 + cw C (j + 1) d) by omega] at g1 g2 g3 g4
      refine ⟨S', M', g1, g2, g3, g4, fun i hi => ?_, fun i hi => by rw [g6 i hi, upA_ne hi]⟩
      rw [g5 i hi, hS1, upS_ne (by omega), upA_ne (by omega), upA_ne (by omega), upA_ne (by omega), upA_ne (by omega), upA_ne (by omega)]
    · rw [if_neg c, if_neg c, if_neg c, if_pos rfl, nI_1, Nat.zero_add]
      exact ih (j + 1) n m k S M (by omega) (by omega) (by omega) (by omega) hS hA hG
theorem suf_L {w : Nat} {rm vl wt : Nat → Nat} (hw : w ≤ 12) : ∀ (x n : Nat) (S : Mem), x ≤ w → x < n → (∀ j r, j + r = w → x ≤ j → S 6 j = nI (sfx rm j r) ∧ S 7 j = nI (sfx vl j r) ∧ S 8 j = nI (sfx wt j r)) → (∀ j, j < w → S 3 j = nI (rm j) ∧ S 4 j = nI (vl j) ∧ S 5 j = nI (wt j)) → ∃ S', f_X1_gather_L144 n C S (nI x - 1) = some S' ∧ (∀ j r, j + r = w → S' 6 j = nI (sfx rm j r) ∧ S' 7 j = nI (sfx vl j r) ∧ S' 8 j = nI (sfx wt j r)) ∧ ∀ i, i ≠ 6 → i ≠ 7 → i ≠ 8 → S' i = S i
  | 0, n + 1, S, _, _, h6, _ => by
    rw [f_X1_gather_L144, if_pos (by decide)]
    exact ⟨S, rfl, fun j r e => h6 j r e (by omega), fun _ _ _ _ => rfl⟩
  | x + 1, n + 1, S, hx, hn, h6, h3 => by
    rw [show nI (x + 1) - (1 : Int32) = nI x from pk_sub (a := x + 1) (b := 1) (by omega), f_X1_gather_L144, if_neg (nI_pos (by omega)), nI_1, if_neg (nI_in (N := 13) (by omega) (by decide)), if_neg (nI_in (N := 12) (by omega) (by decide)), if_neg (nI_in (N := 13) (by omega) (by decide)), wr_s, nI_clamp (n := x + 1) (by omega), nI_clamp (n := x) (by omega), upA_ne (k := 6) (j := 7) (by decide), upA_ne (k := 6) (j := 4) (by decide), wr_s, upA_ne (k := 7) (j := 8) (by decide), upA_ne (k := 6) (j := 8) (by decide), upA_ne (k := 7) (j := 5) (by decide), upA_ne (k := 6) (j := 5) (by decide), wr_s, am1]
    obtain ⟨a6, a7, a8⟩ := h6 (x + 1) (w - x - 1) (by omega) (by omega)
    obtain ⟨b3, b4, b5⟩ := h3 x (by omega)
    rw [a6, a7, a8, b3, b4, b5, nI_add, nI_add, nI_add]
    have fr : ∀ i, i ≠ 6 → i ≠ 7 → i ≠ 8 → (upA (upA (upA S 6 (nI x) (nI (sfx rm (x + 1) (w - x - 1) + rm x))) 7 (nI x) (nI (sfx vl (x + 1) (w - x - 1) + vl x))) 8 (nI x) (nI (sfx wt (x + 1) (w - x - 1) + wt x))) i = S i := fun i p q r => by rw [upA_ne r, upA_ne q, upA_ne p]
    obtain ⟨S', g1, g2, g3⟩ := suf_L (rm := rm) (vl := vl) (wt := wt) hw x n (upA (upA (upA S 6 (nI x) (nI (sfx rm (x + 1) (w - x - 1) + rm x))) 7 (nI x) (nI (sfx vl (x + 1) (w - x - 1) + vl x))) 8 (nI x) (nI (sfx wt (x + 1) (w - x - 1) + wt x))) (by omega) (by omega) (fun j r e hj => by
        by_cases c : j = x
        · subst c
          obtain ⟨r, rfl⟩ : ∃ r', r = r' + 1 := ⟨r - 1, by omega⟩
          have er : w - j - 1 = r := by omega
          rw [er, sfx, sfx, sfx, upA_ne (k := 8) (j := 6) (by decide), upA_ne (k := 7) (j := 6) (by decide), upN_at (by omega), upA_ne (k := 8) (j := 7) (by decide), upN_at (by omega), upN_at (by omega), Nat.add_comm (rm j), Nat.add_comm (vl j), Nat.add_comm (wt j)]
          exact ⟨rfl, rfl, rfl⟩
        · obtain ⟨c6, c7, c8⟩ := h6 j r e (by omega)
          rw [upA_ne (k := 8) (j := 6) (by decide), upA_ne (k := 7) (j := 6) (by decide), upN_ne (by omega) c, upA_ne (k := 8) (j := 7) (by decide), upN_ne (by omega) c, upA_ne (k := 6) (j := 7) (by decide), upN_ne (by omega) c, upA_ne (k := 7) (j := 8) (by decide), upA_ne (k := 6) (j := 8) (by decide)]
          exact ⟨c6, c7, c8⟩) (fun j hj => by rw [fr 3 (by decide) (by decide) (by decide), fr 4 (by decide) (by decide) (by decide), fr 5 (by decide) (by decide) (by decide)]; exact h3 j hj)
    exact ⟨S', g1, g2, fun i p q r => by rw [g3 i p q r, fr i p q r]⟩
  | _, 0, _, _, hn, _, _ => absurd hn (by omega)
theorem start29 {Z P U : Mem} (hC : C 0 0 = nI nb) (hb : nb ≤ 12) (hP : P 0 0 = nI nc) (h8 : nc ≤ 8) : ∀ (d x n : Nat) (S : Mem), x + d = nc → d < n → (∀ c, c < x → S 9 c = frV C P nb c) → ∃ S', f_X1_start_L29 n Z C P U S (nI x) = (Option.bind (f_X1_gather C S') fun M_h_62 => Option.bind (f_X0_tilt C) fun r73 => Option.bind (f_X0_ladenWeight C) fun r80 => Option.bind (f_X1_layFrom 16 M_h_62 (0 : Int32) (0 : Int32) (0 : Int32) r73 r80) fun M_h_83 => some M_h_83) ∧ (∀ c, c < nc → S' 9 c = frV C P nb c) ∧ ∀ i, i ≠ 9 → S' i = S i
  | 0, x, n + 1, S, h, _, hf => by
    have e : x = nc := by omega
    subst e
    rw [f_X1_start_L29, hP, if_pos (Int32.le_refl _)]
    exact ⟨S, rfl, hf, fun _ _ => rfl⟩
  | d + 1, x, n + 1, S, h, hn, hf => by
    rw [f_X1_start_L29, hP, if_neg (nI_ge (by omega) (by omega)), freeSlips_eq hC hb (by omega), Option.bind_some, if_neg (nI_in (N := 8) (by omega) (by decide)), wr_s, nI_1]
    obtain ⟨S', g1, g2, g3⟩ := start29 (Z := Z) (U := U) hC hb hP h8 d (x + 1) n (upA S 9 (nI x) (frV C P nb x)) (by omega) (by omega) (fun c hc => by
        by_cases q : c = x
        · subst q
          exact upN_at (by omega)
        · rw [upN_ne (by omega) q]
          exact hf c (by omega))
    exact ⟨S', g1, g2, fun i hi => by rw [g3 i hi, upA_ne hi]⟩
  | _, _, 0, _, _, hn, _ => absurd hn (by omega)
theorem zero66 {w : Nat} (hw : w ≤ 12) (x2 x3 : Int32) : ∀ (d x n : Nat) (M : Mem), x + d = w → d < n → (∀ j, j < x → M 16 j = 0) → ∃ M', f_X12_best_L66 n M (nI w) x2 x3 (nI x) = f_X12_best_L89 FU M' (nI w) x2 x3 (1 : Int32) ∧ (∀ j, j < w → M' 16 j = 0) ∧ ∀ i, i ≠ 16 → M' i = M i
  | 0, x, n + 1, M, h, _, h0 => by
    have e : x = w := by omega
    subst e
    rw [f_X12_best_L66, if_pos (Int32.le_refl _)]
    exact ⟨M, rfl, h0, fun _ _ => rfl⟩
  | d + 1, x, n + 1, M, h, hn, h0 => by
    rw [f_X12_best_L66, if_neg (nI_ge (by omega) (by omega)), if_neg (nI_in (N := 12) (by omega) (by decide)), wr_s, nI_1]
    obtain ⟨M', g1, g2, g3⟩ := zero66 hw x2 x3 d (x + 1) n (upA M 16 (nI x) 0) (by omega) (by omega) (fun j hj => by
        by_cases q : j = x
        · subst q
          exact upN_at (by omega)
        · rw [upN_ne (by omega) q]
          exact h0 j (by omega))
    exact ⟨M', g1, g2, fun i hi => by rw [g3 i hi, upA_ne hi]⟩
  | _, _, 0, _, _, hn, _ => absurd hn (by omega)
theorem plan7 {S : Mem} (hb : nb ≤ 12) : ∀ (d x n : Nat) (C1 : Mem), x + d = nb → d < n → C1 0 0 = nI nb → (∀ b, b < x → C1 9 b = 2) → ∃ C2, f_X0_keepPlan_L7 n S C1 (nI x) = f_X0_keepPlan_L30 FU S C2 (0 : Int32) ∧ (∀ b, b < nb → C2 9 b = 2) ∧ ∀ i, i ≠ 9 → C2 i = C1 i
  | 0, x, n + 1, C1, h, _, h0, h2 => by
    have e : x = nb := by omega
    subst e
    rw [f_X0_keepPlan_L7, h0, if_pos (Int32.le_refl _)]
    exact ⟨C1, rfl, h2, fun _ _ => rfl⟩
  | d + 1, x, n + 1, C1, h, hn, h0, h2 => by
    rw [f_X0_keepPlan_L7, h0, if_neg (nI_ge (by omega) (by omega)), if_neg (nI_in (N := 12) (by omega) (by decide)), wr_s, nI_1]
    obtain ⟨C2, g1, g2, g3⟩ := plan7 (S := S) hb d (x + 1) n (upA C1 9 (nI x) 2) (by omega) (by omega) (by rw [upA_ne (by decide)]; exact h0) (fun b hb' => by
        by_cases q : b = x
        · subst q
          exact upN_at (by omega)
        · rw [upN_ne (by omega) q]
          exact h2 b (by omega))
    exact ⟨C2, g1, g2, fun i hi => by rw [g3 i hi, upA_ne hi]⟩
  | _, _, 0, _, _, hn, _, _ => absurd hn (by omega)
theorem plan192 {w : Nat} (v : Int32) : ∀ (d x n : Nat) (M : Mem), x + d = 12 → d < n → (∀ b, b < x → M 0 (90 + 9 * b + 7) = 2) → ∃ M', f_X12_best_L192 n M (nI w) v (nI x) = f_X12_best_L217 FU M' (nI w) v (0 : Int32) ∧ (∀ b, b < 12 → M' 0 (90 + 9 * b + 7) = 2) ∧ (∀ i, (∀ b, b < 12 → i ≠ 90 + 9 * b + 7) → M' 0 i = M 0 i) ∧ ∀ k, k ≠ 0 → M' k = M k
  | 0, x, n + 1, M, h, _, h2 => by
    have e : x = 12 := by omega
    subst e
    rw [f_X12_best_L192, if_pos (show (12 : Int32) ≤ nI 12 from nI_le (Nat.le_refl 12) (by decide))]
    exact ⟨M, rfl, h2, fun _ _ => rfl, fun _ _ => rfl⟩
  | d + 1, x, n + 1, M, h, hn, h2 => by
    rw [f_X12_best_L192, if_neg (show ¬ (12 : Int32) ≤ nI x from nI_ge (b := 12) (by omega) (by decide)), sets_eq M x 7 7 _ rfl (by omega) (by decide), Option.bind_some, nI_1]
    obtain ⟨M', g1, g2, g3, g4⟩ := plan192 v d (x + 1) n (put M (90 + 9 * x + 7) 2) (by omega) (by omega) (fun b hb' => by
        by_cases q : b = x
        · subst q
          exact put_eq _ _ _
        · rw [put_no (by omega)]
          exact h2 b (by omega))
    exact ⟨M', g1, g2, fun i hi => by rw [g3 i hi, put_no (hi x (by omega))], fun k hk => by rw [g4 k hk, put_ne hk]⟩
  | _, _, 0, _, _, hn, _ => absurd hn (by omega)
theorem plan_both {w : Nat} {S : Mem} {bid pl : Nat → Nat} (hw : w ≤ 12) (hb : nb ≤ 12) (hS : S 0 0 = nI w) (h1 : ∀ j, j < w → S 1 j = nI (bid j) ∧ bid j < nb) (h11 : ∀ j, j < w → S 11 j = nI (pl j) ∧ pl j ≤ 2) (v : Int32) : ∀ (d x n m : Nat) (C1 M1 : Mem), x + d = w → d < n → d < m → (∀ j, j < w → M1 15 j = nI (bid j)) → (∀ j, j < w → M1 17 j = nI (pl j)) → (∀ b, b < nb → M1 0 (90 + 9 * b + 7) = C1 9 b ∧ (C1 9 b = 0 ∨ C1 9 b = 1 ∨ C1 9 b = 2)) → ∃ C2 M2, f_X0_keepPlan_L30 n S C1 (nI x) = some C2 ∧ f_X12_best_L217 m M1 (nI w) v (nI x) = some (v, M2) ∧ (∀ b, b < nb → M2 0 (90 + 9 * b + 7) = C2 9 b ∧ (C2 9 b = 0 ∨ C2 9 b = 1 ∨ C2 9 b = 2)) ∧ (∀ i, i ≠ 9 → C2 i = C1 i) ∧ (∀ i, (∀ b, b < 12 → i ≠ 90 + 9 * b + 7) → M2 0 i = M1 0 i) ∧ ∀ k, k ≠ 0 → M2 k = M1 k
  | 0, x, n + 1, m + 1, C1, M1, h, _, _, _, _, hr => by
    have e : x = w := by omega
    subst e
    rw [f_X0_keepPlan_L30, hS, if_pos (Int32.le_refl _), f_X12_best_L217, if_pos (Int32.le_refl _)]
    exact ⟨C1, M1, rfl, rfl, hr, fun _ _ => rfl, fun _ _ => rfl, fun _ _ => rfl⟩
  | d + 1, x, n + 1, m + 1, C1, M1, h, hn, hm, h15, h17, hr => by
    have hx : x < w := by omega
    obtain ⟨e1, e2⟩ := h1 x hx
    obtain ⟨e3, e4⟩ := h11 x hx
    rw [f_X0_keepPlan_L30, hS, if_neg (nI_ge hx (by omega)), if_neg (nI_in (N := 12) (by omega) (by decide)), nI_clamp (n := x) (by omega), e1, if_neg (nI_in (N := 12) (by omega) (by decide)), wr_s, e3, nI_1, f_X12_best_L217, if_neg (nI_ge hx (by omega)), if_neg (nI_in (N := 12) (by omega) (by decide)), nI_clamp (n := x) (by omega), h15 x hx, h17 x hx, sets_eq M1 (bid x) 7 7 _ rfl (by omega) (by decide), Option.bind_some, nI_1]
    obtain ⟨C2, M2, g1, g2, g3, g4, g5, g6⟩ := plan_both hw hb hS h1 h11 v d (x + 1) n m (upA C1 9 (nI (bid x)) (nI (pl x))) (put M1 (90 + 9 * bid x + 7) (nI (pl x))) (by omega) (by omega) (by omega) (by rw [put_ne (by decide)]; exact h15) (by rw [put_ne (by decide)]; exact h17) (fun b hb' => by
        by_cases q : b = bid x
        · subst q
          rw [put_eq, upN_at (by omega)]
          refine ⟨rfl, ?_⟩
          have : pl x = 0 ∨ pl x = 1 ∨ pl x = 2 := by omega
          rcases this with q | q | q
          · exact Or.inl (by rw [q]; rfl)
          · exact Or.inr (Or.inl (by rw [q]; rfl))
          · exact Or.inr (Or.inr (by rw [q]; rfl))
        · rw [put_no (by omega), upN_ne (by omega) q]
          exact hr b hb')
    exact ⟨C2, M2, g1, g2, g3, fun i hi => by rw [g4 i hi, upA_ne hi], fun i hi => by rw [g5 i hi, put_no (hi (bid x) (by omega))], fun k hk => by rw [g6 k hk, put_ne hk]⟩
  | _, _, 0, _, _, _, _, hn, _, _, _, _ => absurd hn (by omega)
  | _, _, _, 0, _, _, _, _, hm, _, _, _ => absurd hm (by omega)
end Best
