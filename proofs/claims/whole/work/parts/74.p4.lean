/-! ===== sums over the bales, free slips, tilt and weight ===== -/
def sumI (g : Nat → Int32) : Nat → Int32
  | 0 => 0
  | n + 1 => sumI g n + g n
theorem sumI_cg {f g : Nat → Int32} : ∀ {n : Nat}, (∀ i, i < n → f i = g i) → sumI f n = sumI g n
  | 0, _ => rfl
  | n + 1, h => by
    rw [sumI, sumI, sumI_cg (fun i hi => h i (by omega)), h n (by omega)]
def gOn (C : Mem) (c : Int32) (b : Nat) : Int32 := if C 6 b = c then rmV C b else 0
def gSide (C : Mem) (s : Int32) (b : Nat) : Int32 := if C 7 b = s then C 3 b else 0
/-- FREE slips of a citizen -/
def frV (C P : Mem) (nb c : Nat) : Int32 := P 3 c - sumI (gOn C (nI c)) nb
theorem roomOn_L (C : Mem) (N : Nat) (hN : C 0 0 = nI N) (hb : N ≤ 12) (c : Int32) : ∀ (k j n : Nat), j + k = N → k < n → f_X0_roomOn_L4 n C c (sumI (gOn C c) j) (nI j) = some (sumI (gOn C c) N)
  | 0, j, n + 1, h, _ => by
    have e : j = N := by omega
    subst e
    rw [f_X0_roomOn_L4, if_pos (by rw [hN]; exact Int32.le_refl _)]
  | k + 1, j, n + 1, h, hn => by
    rw [f_X0_roomOn_L4, if_neg (by rw [hN]; exact nI_ge (by omega) (by omega)), if_neg (nI_in (N := 12) (by omega) (by decide)), nI_clamp (by omega)]
    have ih := roomOn_L C N hN hb c k (j + 1) n (by omega) (by omega)
    rw [sumI] at ih
    by_cases q : C 6 j = c
    · rw [if_pos q, room0_eq (by omega)]
      show f_X0_roomOn_L4 n C c (sumI (gOn C c) j + rmV C j) (nI j + 1) = _
      rw [nI_1]
      rw [show gOn C c j = rmV C j from if_pos q] at ih
      exact ih
    · rw [if_neg q]
      show f_X0_roomOn_L4 n C c (sumI (gOn C c) j + 0) (nI j + 1) = _
      rw [nI_1]
      rw [show gOn C c j = 0 from if_neg q] at ih
      exact ih
  | k, j, 0, _, hn => absurd hn (by omega)
theorem roomOn_eq {C : Mem} {N : Nat} (hN : C 0 0 = nI N) (hb : N ≤ 12) (c : Int32) : f_X0_roomOn C c = some (sumI (gOn C c) N) := roomOn_L C N hN hb c N 0 FU (by omega) (FU_gt (by omega))
theorem freeSlips_eq {Z C P : Mem} {N c : Nat} (hN : C 0 0 = nI N) (hb : N ≤ 12) (hc : c < 8) : f_X7_freeSlips Z C P (nI c) = some (frV C P N c) := by
  unfold f_X7_freeSlips
  rw [if_neg (nI_in hc (by decide)), roomOn_eq hN hb, nI_clamp (by omega)]
  rfl
section MSums
variable {nb nc : Nat} {C : Mem} {M : Mem}
theorem mfree_L (hR : RBal nb nc C (M 0)) (c : Int32) (s : Int32) : ∀ (k j n : Nat), j + k = nb → k < n → f_X12_free_L9 n M c (s - sumI (gOn C c) j) (nI j) = some (s - sumI (gOn C c) nb)
  | 0, j, n + 1, h, _ => by
    have e : j = nb := by omega
    subst e
    rw [f_X12_free_L9, if_pos (by rw [show M 0 ((4 : Int32)).toNatClampNeg = nI j from hR.2.2.1]; exact Int32.le_refl _)]
  | k + 1, j, n + 1, h, hn => by
    have hb := hR.1
    rw [f_X12_free_L9, if_neg (by rw [show M 0 ((4 : Int32)).toNatClampNeg = nI nb from hR.2.2.1]; exact nI_ge (by omega) (by omega)), its_eq M j 5 5 rfl (by omega) (by decide), (hR.2.2.2.2.2.1 j (by omega)).2.2.2.2.2.1]
    have ih := mfree_L hR c s k (j + 1) n (by omega) (by omega)
    rw [sumI] at ih
    rw [Option.bind_some]
    by_cases q : C 6 j = c
    · rw [if_pos q, mroom_eq hR (by omega)]
      show f_X12_free_L9 n M c (s - sumI (gOn C c) j - rmV C j) (nI j + 1) = _
      rw [nI_1]
      rw [show gOn C c j = rmV C j from if_pos q] at ih
      rw [← ih]
      congr 1
      grind
    · rw [if_neg q]
      rw [show gOn C c j = 0 from if_neg q, Int32.add_zero] at ih
      rw [nI_1]
      exact ih
  | k, j, 0, _, hn => absurd hn (by omega)
theorem mfree_eq {P : Mem} {c : Nat} (hR : RBal nb nc C (M 0)) (hP : RCit nc P (M 0)) (hc : c < nc) : f_X12_free M (nI c) = some (frV C P nb c) := by
  have h8 := hP.1
  have hb := hR.1
  unfold f_X12_free
  rw [of_eq M c 2 2 rfl (by omega) (by decide), (hP.2.2.2.1 c hc).2.2.1]
  rw [Option.bind_some]
  have h := mfree_L hR (nI c) (P 3 c) nb 0 FU (by omega) (FU_gt (by omega))
  rw [sumI, Int32.sub_zero] at h
  exact h
theorem weightOn_L (C : Mem) (N : Nat) (hN : C 0 0 = nI N) (hb : N ≤ 12) (c : Int32) : ∀ (k j n : Nat), j + k = N → k < n → f_X0_weightOn_L4 n C c (sumI (gSide C c) j) (nI j) = some (sumI (gSide C c) N)
  | 0, j, n + 1, h, _ => by
    have e : j = N := by omega
    subst e
    rw [f_X0_weightOn_L4, if_pos (by rw [hN]; exact Int32.le_refl _)]
  | k + 1, j, n + 1, h, hn => by
    rw [f_X0_weightOn_L4, if_neg (by rw [hN]; exact nI_ge (by omega) (by omega)), if_neg (nI_in (N := 12) (by omega) (by decide)), nI_clamp (by omega)]
    have ih := weightOn_L C N hN hb c k (j + 1) n (by omega) (by omega)
    rw [sumI] at ih
    by_cases q : C 7 j = c
    · rw [if_pos q, nI_1]
      rw [show gSide C c j = C 3 j from if_pos q] at ih
      exact ih
    · rw [if_neg q, nI_1]
      rw [show gSide C c j = 0 from if_neg q] at ih
      exact ih
  | k, j, 0, _, hn => absurd hn (by omega)
theorem weightOn_eq {C : Mem} {N : Nat} (hN : C 0 0 = nI N) (hb : N ≤ 12) (c : Int32) : f_X0_weightOn C c = some (sumI (gSide C c) N) := weightOn_L C N hN hb c N 0 FU (by omega) (FU_gt (by omega))
/-- TILT and WEIGHT of what lies -/
def tiV (C : Mem) (nb : Nat) : Int32 := sumI (gSide C 0) nb - sumI (gSide C 1) nb
def weV (C : Mem) (nb : Nat) : Int32 := sumI (gSide C 0) nb + sumI (gSide C 1) nb
theorem tilt_eq {C : Mem} {N : Nat} (hN : C 0 0 = nI N) (hb : N ≤ 12) : f_X0_tilt C = some (tiV C N) := by
  unfold f_X0_tilt
  rw [weightOn_eq hN hb, weightOn_eq hN hb]
  rfl
theorem ladenWeight_eq {C : Mem} {N : Nat} (hN : C 0 0 = nI N) (hb : N ≤ 12) : f_X0_ladenWeight C = some (weV C N) := by
  unfold f_X0_ladenWeight
  rw [weightOn_eq hN hb, weightOn_eq hN hb]
  rfl
/-- a bale that lies has a side -/
theorem side_of (hR : RBal nb nc C (M 0)) (hc : nc ≤ 8) {b : Nat} (hb : b < nb) : (C 6 b = -1 ∧ C 7 b = -1) ∨ (C 6 b ≠ -1 ∧ (C 7 b = 0 ∨ C 7 b = 1)) := by
  obtain ⟨-, -, -, -, -, h, -⟩ := hR.2.2.2.2.2.2 b hb
  rcases h with h | ⟨⟨z, hz, e⟩, h⟩
  · exact Or.inl h
  · exact Or.inr ⟨by rw [e]; exact nI_ne_m1 (by omega), h⟩
theorem mtilt_L (hR : RBal nb nc C (M 0)) (hc : nc ≤ 8) : ∀ (k j n : Nat), j + k = nb → k < n → f_X12_tilt_L4 n M (tiV C j) (nI j) = some (tiV C nb)
  | 0, j, n + 1, h, _ => by
    have e : j = nb := by omega
    subst e
    rw [f_X12_tilt_L4, if_pos (by rw [show M 0 ((4 : Int32)).toNatClampNeg = nI j from hR.2.2.1]; exact Int32.le_refl _)]
  | k + 1, j, n + 1, h, hn => by
    have hb := hR.1
    have ih := mtilt_L hR hc k (j + 1) n (by omega) (by omega)
    obtain ⟨x0, x1, x2, x3, x4, x5, x6, x7⟩ := hR.2.2.2.2.2.1 j (by omega)
    rw [f_X12_tilt_L4, if_neg (by rw [show M 0 ((4 : Int32)).toNatClampNeg = nI nb from hR.2.2.1]; exact nI_ge (by omega) (by omega)), mlies_eq hR hc (by omega)]
    rw [Option.bind_some]
    rcases side_of hR hc (b := j) (by omega) with ⟨q6, q7⟩ | ⟨q6, q7 | q7⟩
    · rw [if_pos q6, if_pos rfl, nI_1, ← ih]
      congr 1
      simp only [tiV, sumI, gSide, q7]
      rw [if_neg (by decide), if_neg (by decide)]
      grind
    · rw [if_neg q6, if_neg (by decide), its_eq M j 6 6 rfl (by omega) (by decide), x6]
      rw [Option.bind_some]
      rw [if_pos q7, its_eq M j 2 2 rfl (by omega) (by decide), x2]
      show f_X12_tilt_L4 n M (tiV C j + C 3 j) (nI j + 1) = _
      rw [nI_1, ← ih]
      congr 1
      simp only [tiV, sumI, gSide, q7]
      rw [if_pos trivial, if_neg (by decide)]
      grind
    · rw [if_neg q6, if_neg (by decide), its_eq M j 6 6 rfl (by omega) (by decide), x6]
      rw [Option.bind_some]
      rw [if_neg (by rw [q7]; decide), its_eq M j 2 2 rfl (by omega) (by decide), x2]
      show f_X12_tilt_L4 n M (tiV C j + -(C 3 j)) (nI j + 1) = _
      rw [nI_1, ← ih]
      congr 1
      simp only [tiV, sumI, gSide, q7]
      rw [if_neg (by decide), if_pos trivial]
      grind
  | k, j, 0, _, hn => absurd hn (by omega)
theorem mtilt_eq (hR : RBal nb nc C (M 0)) (hc : nc ≤ 8) : f_X12_tilt M = some (tiV C nb) := by
  have h := mtilt_L hR hc nb 0 FU (by omega) (FU_gt (by have := hR.1; omega))
  rw [show tiV C 0 = 0 from Int32.sub_self (a := 0)] at h
  unfold f_X12_tilt
  exact h
theorem mweight_L (hR : RBal nb nc C (M 0)) (hc : nc ≤ 8) : ∀ (k j n : Nat), j + k = nb → k < n → f_X12_weight_L4 n M (weV C j) (nI j) = some (weV C nb)
  | 0, j, n + 1, h, _ => by
    have e : j = nb := by omega
    subst e
    rw [f_X12_weight_L4, if_pos (by rw [show M 0 ((4 : Int32)).toNatClampNeg = nI j from hR.2.2.1]; exact Int32.le_refl _)]
  | k + 1, j, n + 1, h, hn => by
    have hb := hR.1
    have ih := mweight_L hR hc k (j + 1) n (by omega) (by omega)
    obtain ⟨x0, x1, x2, x3, x4, x5, x6, x7⟩ := hR.2.2.2.2.2.1 j (by omega)
    rw [f_X12_weight_L4, if_neg (by rw [show M 0 ((4 : Int32)).toNatClampNeg = nI nb from hR.2.2.1]; exact nI_ge (by omega) (by omega)), mlies_eq hR hc (by omega)]
    rw [Option.bind_some]
    rcases side_of hR hc (b := j) (by omega) with ⟨q6, q7⟩ | ⟨q6, q7⟩
    · rw [if_pos q6, if_pos rfl, nI_1, ← ih]
      congr 1
      simp only [weV, sumI, gSide, q7]
      rw [if_neg (by decide), if_neg (by decide)]
      grind
    · rw [if_neg q6, if_neg (by decide), its_eq M j 2 2 rfl (by omega) (by decide), x2]
      show f_X12_weight_L4 n M (weV C j + C 3 j) (nI j + 1) = _
      rw [nI_1, ← ih]
      congr 1
      rcases q7 with q7 | q7
      · simp only [weV, sumI, gSide, q7]
        rw [if_pos trivial, if_neg (by decide)]
        grind
      · simp only [weV, sumI, gSide, q7]
        rw [if_neg (by decide), if_pos trivial]
        grind
  | k, j, 0, _, hn => absurd hn (by omega)
theorem mweight_eq (hR : RBal nb nc C (M 0)) (hc : nc ≤ 8) : f_X12_weight M = some (weV C nb) := by
  have h := mweight_L hR hc nb 0 FU (by omega) (FU_gt (by have := hR.1; omega))
  rw [show weV C 0 = 0 from Int32.add_zero 0] at h
  unfold f_X12_weight
  exact h
end MSums
