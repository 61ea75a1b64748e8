/-! ===== ends ===== -/
def addA (P : Mem) (k c : Nat) (v : Int32) : Mem := upA P k (nI c) (P k c + v)
theorem addA_get (P : Mem) (k c : Nat) (v : Int32) (hc : c < 2147483648) (k' c' : Nat) : addA P k c v k' c' = if k' = k ∧ c' = c then P k c + v else P k' c' := upA_get _ _ _ hc _ _
theorem addA_comm (P : Mem) (k c k' c' : Nat) (v v' : Int32) (hc : c < 2147483648) (hc' : c' < 2147483648) : addA (addA P k c v) k' c' v' = addA (addA P k' c' v') k c v := by
  funext x y
  simp only [addA_get _ _ _ _ hc, addA_get _ _ _ _ hc']
  grind
theorem pay_add {P : Mem} {x y : Nat} (v : Int32) (hx : x < 8) (hy : y < 8) : f_X2_pay P (nI x) (nI y) v = some (addA (addA P 5 x (-v)) 5 y v) := by
  unfold f_X2_pay addA
  rw [if_neg (nI_in hx (by decide)), wr_s, if_neg (nI_in hy (by decide)), wr_s, nI_clamp (n := x) (by omega), nI_clamp (n := y) (by omega), Int32.sub_eq_add_neg]
theorem RCit.add {nc : Nat} {P M : Mem} (h : RCit nc P (M 0)) {c k : Nat} (hc : c < nc) (hk : k < 7) (v : Int32) : RCit nc (addA P (k + 1) c v) (put M (20 + 8 * c + k) (P (k + 1) c + v) 0) := h.cell hc hk _
/-- what a year's end leaves alone in the reference's row -/
def gV (C : Mem) (b : Nat) : Int32 := if C 6 b = -1 then 0 else vlV C b
def gH (C : Mem) (b : Nat) : Int32 := if C 6 b = -1 then 0 else C 3 b
def gR (C : Mem) (b : Nat) : Int32 := if C 6 b = -1 then 0 else rmV C b
theorem bits1 : ∀ b : Nat, b < 12 → (((-1 : Int32) >>> (nI b &&& 31)) &&& (1 : Int32)) = (1 : Int32) := by
  intro b hb
  rcases (show b = 0 ∨ b = 1 ∨ b = 2 ∨ b = 3 ∨ b = 4 ∨ b = 5 ∨ b = 6 ∨ b = 7 ∨ b = 8 ∨ b = 9 ∨ b = 10 ∨ b = 11 by omega) with rfl | rfl | rfl | rfl | rfl | rfl | rfl | rfl | rfl | rfl | rfl | rfl <;> decide
theorem judged_all {C : Mem} {N : Nat} (hN : C 0 0 = nI N) (hb : N ≤ 12) : f_X0_judged C (-1) 0 = some (sumI (gV C) N) := by
  rw [judged_eq hN hb]
  congr 1
  refine sumI_cg (fun i hi => ?_)
  unfold gJ gV
  rw [if_pos (bits1 i (by omega))]
theorem weight_all {nb nc : Nat} {C M : Mem} (hR : RBal nb nc C (M 0)) (hc : nc ≤ 8) : ∀ n, n ≤ nb → sumI (gSide C 0) n + sumI (gSide C 1) n = sumI (gH C) n
  | 0, _ => Int32.add_zero 0
  | n + 1, h => by
    have ih := weight_all hR hc n (by omega)
    rw [sumI, sumI, sumI, ← ih, gSide, gSide, gH]
    rcases side_of hR hc (b := n) (by omega) with ⟨q6, q7⟩ | ⟨q6, q7 | q7⟩
    · rw [q7, if_neg (by decide), if_neg (by decide), if_pos q6]
      grind
    · rw [q7, if_pos rfl, if_neg (by decide), if_neg q6]
      grind
    · rw [q7, if_neg (by decide), if_pos rfl, if_neg q6]
      grind
theorem ladenRoom_L (C : Mem) (N : Nat) (hN : C 0 0 = nI N) (hb : N ≤ 12) : ∀ (k j n : Nat), j + k = N → k < n → f_X0_ladenRoom_L4 n C (sumI (gR C) j) (nI j) = some (sumI (gR C) N)
  | 0, j, n + 1, h, _ => by
    have e : j = N := by omega
    subst e
    rw [f_X0_ladenRoom_L4, if_pos (by rw [hN]; exact Int32.le_refl _)]
  | k + 1, j, n + 1, h, hn => by
    rw [f_X0_ladenRoom_L4, if_neg (by rw [hN]; exact nI_ge (by omega) (by omega)), lies_yes hN hb (by omega), Option.bind_some]
    have ih := ladenRoom_L C N hN hb k (j + 1) n (by omega) (by omega)
    rw [sumI, gR] at ih
    by_cases q : C 6 j = -1
    · rw [if_pos q] at ih
      rw [if_pos q, if_pos rfl, nI_1]
      exact ih
    · rw [if_neg q] at ih
      rw [if_neg q, if_neg (show ¬ (1 : Int32) = 0 by decide), room0_eq (by omega), Option.bind_some, nI_1]
      exact ih
  | k, j, 0, _, hn => absurd hn (by omega)
theorem ladenRoom_eq {C : Mem} {N : Nat} (hN : C 0 0 = nI N) (hb : N ≤ 12) : f_X0_ladenRoom C = some (sumI (gR C) N) := ladenRoom_L C N hN hb N 0 FU (by omega) (FU_gt (by omega))
/-- room and value of a bale are small naturals -/
theorem rm_nat {nc b : Nat} {C : Mem} (h : BalOK nc C b) : ∃ z : Nat, z ≤ 40 ∧ rmV C b = nI z := by
  obtain ⟨-, ⟨w, w1, w2, ew⟩, -, -, ⟨q, q1, eq⟩, -⟩ := h
  unfold rmV
  rw [ew, eq, pk_mul, show (10 : Int32) = nI 10 from rfl, pk_div (by have := Nat.mul_le_mul w2 q1; omega) (by decide) (by decide), pk_sub ?_]
  · exact ⟨_, Nat.le_trans (Nat.sub_le _ _) w2, rfl⟩
  · have : w * q ≤ w * 3 := Nat.mul_le_mul_left _ q1
    omega
theorem vl_nat {nc b : Nat} {C : Mem} (h : BalOK nc C b) : ∃ z : Nat, z ≤ 1000 ∧ vlV C b = nI z := by
  obtain ⟨-, -, -, ⟨w, w1, w2, ew⟩, ⟨q, q1, eq⟩, -⟩ := h
  unfold vlV
  rw [ew, eq, pk_mul, show (20 : Int32) = nI 20 from rfl, pk_div (by have := Nat.mul_le_mul w2 q1; omega) (by decide) (by decide), pk_sub ?_]
  · exact ⟨_, Nat.le_trans (Nat.sub_le _ _) w2, rfl⟩
  · have : w * q ≤ w * 3 := Nat.mul_le_mul_left _ q1
    omega
theorem gR_nat {nb nc : Nat} {C : Mem} {A : Nat → Int32} (hR : RBal nb nc C A) : ∀ n, n ≤ nb → ∃ z : Nat, z ≤ 40 * n ∧ sumI (gR C) n = nI z
  | 0, _ => ⟨0, by omega, rfl⟩
  | n + 1, h => by
    obtain ⟨z, hz, e⟩ := gR_nat hR n (by omega)
    obtain ⟨w, hw, e2⟩ := rm_nat (hR.2.2.2.2.2.2 n (by omega))
    rw [sumI, e, gR]
    by_cases q : C 6 n = -1
    · rw [if_pos q, Int32.add_zero]
      exact ⟨z, by omega, rfl⟩
    · rw [if_neg q, e2, nI_add]
      exact ⟨z + w, by omega, rfl⟩
/-- the row of a year in the reference -/
def E9 (M M' : Mem) (x : Nat) : Prop := Keep M M' ∧ ∀ i, (i < x ∨ x + 9 ≤ i) → M' 0 i = M 0 i
theorem E9.rf (M : Mem) (x : Nat) : E9 M M x := ⟨Keep.rf M, fun _ _ => rfl⟩
theorem E9.tr {M M' M'' : Mem} {x : Nat} (h : E9 M M' x) (g : E9 M' M'' x) : E9 M M'' x := ⟨h.1.tr g.1, fun i hi => (g.2 i hi).trans (h.2 i hi)⟩
theorem E9.pt (M : Mem) (x e : Nat) (v : Int32) (he : e < 9) (hx : x ≤ 2071) : E9 M (put M (x + e) v) x := ⟨Keep.pt (by omega), fun i hi => put_no (by omega)⟩
/-- first the nine cells are wiped -/
theorem wipe_L {x : Nat} (hx0 : 280 ≤ x) (hx : x ≤ 2071) (p : Int32) (hp : p = 0 ∨ p = 1) : ∀ (d j n : Nat) (M : Mem), j + d = 9 → d < n → ∃ M' : Mem, f_X12_ends_L39 n M p (nI x) (nI j) = f_X12_ends_L95 FU M' p (nI x) 0 0 ∧ E9 M M' x ∧ (∀ e, j ≤ e → e < 8 → 1 ≤ e → M' 0 (x + e) = 0) ∧ M' 0 x = M 0 2 ∧ M' 0 (x + 8) = p ∧ (∀ e, e < j → 1 ≤ e → e < 8 → M' 0 (x + e) = M 0 (x + e))
  | 0, j, n + 1, M, h, _ => by
    have e : j = 9 := by omega
    subst e
    have m2 : M 0 ((2 : Int32)).toNatClampNeg = M 0 2 := rfl
    refine ⟨put (put M x (M 0 2)) (x + 8) p, ?_, (show E9 M (put M (x + 0) (M 0 2)) x from E9.pt M x 0 _ (by decide) hx).tr (E9.pt _ x 8 _ (by decide) hx), fun e a b c => absurd a (by omega), by rw [put_no (by omega), put_eq], put_eq _ _ _, fun e a b c => by rw [put_no (by omega), put_no (by omega)]⟩
    rw [f_X12_ends_L39, if_pos (by decide), if_neg (nI_in (N := 11160) (by omega) (by decide)), m2, upA_put _ _ (by omega), wr_s, show nI x + (8 : Int32) = nI (x + 8) from nI_add x 8, if_neg (nI_in (N := 11160) (c := x + 8) (by omega) (by decide)), if_neg (nI_in (N := 11160) (c := x + 8) (by omega) (by decide)), wr_s, wr_s, upA_put _ _ (by omega), upA_put _ _ (by omega)]
    rcases hp with rfl | rfl
    · rw [if_pos rfl]
    · rw [if_neg (by decide)]
  | d + 1, j, n + 1, M, h, hn => by
    obtain ⟨M', g1, g2, g3, g4, g5, g6⟩ := wipe_L hx0 hx p hp d (j + 1) n (put M (x + j) 0) (by omega) (by omega)
    refine ⟨M', ?_, (E9.pt M x j 0 (by omega) hx).tr g2, fun e a b c => ?_, ?_, g5, fun e a b c => ?_⟩
    · rw [f_X12_ends_L39, if_neg (show ¬ (9 : Int32) ≤ nI j from nI_ge (b := 9) (by omega) (by decide)), nI_add, if_neg (nI_in (N := 11160) (by omega) (by decide)), upA_put _ _ (by omega), wr_s, nI_1]
      exact g1
    · by_cases q : e = j
      · subst q
        rw [g6 e (by omega) c b, put_eq]
      · exact g3 e (by omega) b c
    · rw [g4]
      exact put_no (by omega)
    · rw [g6 e (by omega) b c, put_no (by omega)]
  | d, j, 0, _, _, hn => absurd hn (by omega)
