/-! ===== give ===== -/
def sumN (g : Nat → Nat) : Nat → Nat
  | 0 => 0
  | n + 1 => sumN g n + g n
theorem sumN_le {g h : Nat → Nat} : ∀ n, (∀ i, i < n → g i ≤ h i) → sumN g n ≤ sumN h n
  | 0, _ => Nat.le_refl _
  | n + 1, e => Nat.add_le_add (sumN_le n (fun i hi => e i (by omega))) (e n (by omega))
theorem sumN_const (k : Nat) : ∀ n, sumN (fun _ => k) n = n * k
  | 0 => by simp [sumN]
  | n + 1 => by rw [sumN, sumN_const k n, Nat.succ_mul]
theorem sumN_div (s : Nat → Nat) (N T : Nat) (hT : 0 < T) : ∀ n, N * sumN s n = T * sumN (fun c => N * s c / T) n + sumN (fun c => N * s c % T) n
  | 0 => by simp [sumN]
  | n + 1 => by
    have h := sumN_div s N T hT n
    have e := Nat.div_add_mod (N * s n) T
    simp only [sumN]
    rw [Nat.mul_add, Nat.mul_add, h]
    omega
theorem sumN_ltT (s : Nat → Nat) (N T : Nat) (hT : 0 < T) : ∀ n, 0 < n → sumN (fun c => N * s c % T) n < n * T
  | 0, h => absurd h (by omega)
  | 1, _ => by
    simp only [sumN]
    have := Nat.mod_lt (N * s 0) hT
    omega
  | n + 2, _ => by
    have ih := sumN_ltT s N T hT (n + 1) (by omega)
    have := Nat.mod_lt (N * s (n + 1)) hT
    rw [sumN, Nat.succ_mul (n + 1)]
    omega
/-- what is left over after the whole parts is less than the citizens -/
theorem left_lt (s : Nat → Nat) (N n : Nat) (hT : 0 < sumN s n) : sumN (fun c => N * s c / sumN s n) n ≤ N ∧ N - sumN (fun c => N * s c / sumN s n) n ≤ n := by
  have h := sumN_div s N (sumN s n) hT n
  have hn : 0 < n := by
    rcases Nat.eq_zero_or_pos n with e | e
    · subst e; exact absurd hT (by simp [sumN])
    · exact e
  have hl := sumN_ltT s N (sumN s n) hT n hn
  generalize sumN (fun c => N * s c / sumN s n) n = F at *
  generalize sumN (fun c => N * s c % sumN s n) n = R at *
  generalize sumN s n = T at *
  have h1 : F ≤ N := by
    rcases Nat.lt_or_ge N F with q | q
    · have : T * (N + 1) ≤ T * F := Nat.mul_le_mul_left T q
      rw [Nat.mul_add, Nat.mul_comm T N] at this
      omega
    · exact q
  refine ⟨h1, ?_⟩
  rcases Nat.lt_or_ge n (N - F) with q | q
  · have h2 : T * (n + 1) ≤ T * (N - F) := Nat.mul_le_mul_left T q
    rw [Nat.mul_sub, Nat.mul_add, Nat.mul_comm T N, Nat.mul_comm T n] at h2
    omega
  · exact q
theorem rowc_in {n j : Nat} (f g : Nat → Int32) (h : j < n) : rowc n f g j = f j := by
  unfold rowc
  rw [pk_cpy_in (by omega) (by omega)]
  congr 1
  omega
theorem rowc_out {n j : Nat} (f g : Nat → Int32) (h : n ≤ j) : rowc n f g j = g j := by
  unfold rowc
  rw [pk_cpy_out (by omega)]
theorem rest_L {nc : Nat} {P M : Mem} (h8 : nc ≤ 8) (hP : P 0 0 = nI nc) (hA : M 0 3 = nI nc) (h9 : ∀ c, c < nc → P 9 c = M 13 c) (K : Mem → Int32 → Int32 → Option (Int32 × Mem)) (x1 x3 : Int32) :
    ∀ (d j b n m : Nat), j + d = nc → b < nc → d < n → d < m → ∃ b' : Nat, b' < nc ∧ f_X2_greatestRest_L4 n P (nI b) (nI j) = some (nI b') ∧ f_X12_give_L140 K m M x1 x3 (nI b) (nI j) = K (upA (upA M 14 (nI b') (M 14 b' + 1)) 13 (nI b') (-1)) x1 (x3 + (-1))
  | 0, j, b, n + 1, m + 1, h, hb, _, _ => by
    have e : j = nc := by omega
    subst e
    refine ⟨b, hb, ?_, ?_⟩
    · rw [f_X2_greatestRest_L4, if_pos (by rw [hP]; exact Int32.le_refl _)]
    · rw [f_X12_give_L140, if_pos (by rw [show M 0 ((3 : Int32)).toNatClampNeg = nI j from hA]; exact Int32.le_refl _), if_neg (nI_in (N := 8) (by omega) (by decide)), wr_s, wr_s, nI_clamp (n := b) (by omega)]
  | d + 1, j, b, n + 1, m + 1, h, hb, hn, hm => by
    have eA : f_X2_greatestRest_L4 (n + 1) P (nI b) (nI j) = if M 13 j ≤ M 13 b then f_X2_greatestRest_L4 n P (nI b) (nI (j + 1)) else f_X2_greatestRest_L4 n P (nI j) (nI (j + 1)) := by
      rw [f_X2_greatestRest_L4, if_neg (by rw [hP]; exact nI_ge (by omega) (by omega)), if_neg (nI_in (N := 8) (by omega) (by decide)), if_neg (nI_in (N := 8) (by omega) (by decide)), nI_clamp (n := b) (by omega), nI_clamp (n := j) (by omega), h9 j (by omega), h9 b hb, nI_1]
    have eB : f_X12_give_L140 K (m + 1) M x1 x3 (nI b) (nI j) = if M 13 j ≤ M 13 b then f_X12_give_L140 K m M x1 x3 (nI b) (nI (j + 1)) else f_X12_give_L140 K m M x1 x3 (nI j) (nI (j + 1)) := by
      rw [f_X12_give_L140, if_neg (by rw [show M 0 ((3 : Int32)).toNatClampNeg = nI nc from hA]; exact nI_ge (by omega) (by omega)), if_neg (nI_in (N := 8) (by omega) (by decide)), if_neg (nI_in (N := 8) (by omega) (by decide)), nI_clamp (n := b) (by omega), nI_clamp (n := j) (by omega), nI_1]
    rw [eA, eB]
    by_cases q : M 13 j ≤ M 13 b
    · rw [if_pos q, if_pos q]
      exact rest_L h8 hP hA h9 K x1 x3 d (j + 1) b n m (by omega) hb (by omega) (by omega)
    · rw [if_neg q, if_neg q]
      exact rest_L h8 hP hA h9 K x1 x3 d (j + 1) j n m (by omega) (by omega) (by omega) (by omega)
  | d, i, _, 0, m, _, _, hn, _ => absurd hn (by omega)
  | d, i, _, n, 0, _, _, _, hm => absurd hm (by omega)
/-- the reference writes the slips back -/
theorem back_L {nc : Nat} (h8 : nc ≤ 8) (x1 : Int32) : ∀ (d j n : Nat) (M : Mem), j + d = nc → d < n → M 0 3 = nI nc → ∃ M' : Mem, f_X12_give_L206 n M x1 (nI j) = some (1, M') ∧ Keep M M' ∧ M' 0 2 = x1 ∧ (∀ c, j ≤ c → c < nc → M' 0 (20 + 8 * c + 2) = M 14 c ∧ M' 0 (20 + 8 * c + 3) = M 14 c) ∧ (∀ i, i ≠ 2 → (∀ c, j ≤ c → c < nc → i ≠ 20 + 8 * c + 2 ∧ i ≠ 20 + 8 * c + 3) → M' 0 i = M 0 i)
  | 0, j, n + 1, M, h, _, hA => by
    have e : j = nc := by omega
    subst e
    refine ⟨put M 2 x1, ?_, Keep.pt (by decide), put_eq _ _ _, fun c a b => absurd a (by omega), fun i hi _ => put_no hi⟩
    rw [f_X12_give_L206, if_pos (by rw [show M 0 ((3 : Int32)).toNatClampNeg = nI j from hA]; exact Int32.le_refl _), upA_lit M 2 2 _ rfl, wr_s]
  | d + 1, j, n + 1, M, h, hn, hA => by
    obtain ⟨M', g1, g2, g3, g4, g5⟩ := back_L h8 x1 d (j + 1) n (put (put M (20 + 8 * j + 2) (M 14 j)) (20 + 8 * j + 3) (M 14 j)) (by omega) (by omega) (by rw [put_no (by omega), put_no (by omega)]; exact hA)
    have e14 : ∀ c, put (put M (20 + 8 * j + 2) (M 14 j)) (20 + 8 * j + 3) (M 14 j) 14 c = M 14 c := fun c => by rw [put_ne (by decide), put_ne (by decide)]
    refine ⟨M', ?_, ((Keep.pt (by omega)).tr (Keep.pt (by omega))).tr g2, g3, fun c a b => ?_, fun i hi hc => ?_⟩
    · rw [f_X12_give_L206, if_neg (by rw [show M 0 ((3 : Int32)).toNatClampNeg = nI nc from hA]; exact nI_ge (by omega) (by omega)), if_neg (nI_in (N := 8) (by omega) (by decide)), show ((20 : Int32) + (8 : Int32) * nI j) + (2 : Int32) = nI (20 + 8 * j + 2) from ix_of j 2, show ((20 : Int32) + (8 : Int32) * nI j) + (3 : Int32) = nI (20 + 8 * j + 3) from ix_of j 3, if_neg (nI_in (by omega) (by decide)), wr_s, if_neg (nI_in (by omega) (by decide)), wr_s, upA_put _ _ (by omega), upA_put _ _ (by omega), nI_clamp (n := j) (by omega), put_ne (k := 14) (by decide), nI_1]
      exact g1
    · by_cases q : c = j
      · subst q
        have w2 := g5 (20 + 8 * c + 2) (by omega) (fun c' a' b' => by omega)
        have w3 := g5 (20 + 8 * c + 3) (by omega) (fun c' a' b' => by omega)
        rw [w2, w3, put_no (by omega), put_eq, put_eq]
        exact ⟨rfl, rfl⟩
      · obtain ⟨w2, w3⟩ := g4 c (by omega) b
        rw [w2, w3, e14]
        exact ⟨rfl, rfl⟩
    · have hj := hc j (by omega) (by omega)
      rw [g5 i hi (fun c' a' b' => hc c' (by omega) b'), put_no (by omega), put_no (by omega)]
  | d, i, 0, _, _, hn, _ => absurd hn (by omega)
/-- the slips that are left over go to the greatest rests -/
theorem pick_L {nc : Nat} (h8 : nc ≤ 8) (x1 : Int32) : ∀ (l j n m : Nat) (P M : Mem), j + l ≤ nc → l < n → l < m → P 0 0 = nI nc → M 0 3 = nI nc → (∀ c, c < nc → P 9 c = M 13 c) → (∀ c, c < nc → P 4 c = M 14 c) →
    ∃ (P' M' : Mem), f_X2_takeSlips_L74 n P (nI l) (nI j) = some P' ∧ f_X12_give_L130 m M x1 (nI l) = some (1, M') ∧ Keep M M' ∧ M' 0 2 = x1 ∧ (∀ k, k ≠ 3 → k ≠ 4 → k ≠ 9 → P' k = P k) ∧ (∀ c, c < 8 → P' 3 c = P' 4 c) ∧ (∀ c, nc ≤ c → c < 8 → P' 4 c = P 4 c) ∧ (∀ c, c < nc → M' 0 (20 + 8 * c + 2) = P' 4 c ∧ M' 0 (20 + 8 * c + 3) = P' 4 c) ∧ (∀ i, i ≠ 2 → (∀ c, c < nc → i ≠ 20 + 8 * c + 2 ∧ i ≠ 20 + 8 * c + 3) → M' 0 i = M 0 i)
  | 0, j, n + 1, m + 1, P, M, h, _, _, hP, hA, h9, h4 => by
    obtain ⟨M', g1, g2, g3, g4, g5⟩ := back_L h8 x1 nc 0 FU M (by omega) (FU_gt (by omega)) hA
    have e3 : upR P 3 (rowc 8 (P 4) (P 3)) 3 = rowc 8 (P 4) (P 3) := upR_at _ _ _
    refine ⟨upR P 3 (rowc 8 (P 4) (P 3)), M', ?_, ?_, g2, g3, fun k a b c => upR_ne a, fun c hc => ?_, fun c a b => by rw [upR_ne (by decide)], fun c hc => ?_, fun i hi hc => g5 i hi (fun c a b => hc c b)⟩
    · rw [f_X2_takeSlips_L74, if_pos (show nI 0 ≤ 0 from Int32.le_refl _), wr_s]
      split <;> rfl
    · rw [f_X12_give_L130, if_pos (show nI 0 ≤ 0 from Int32.le_refl _)]
      exact g1
    · rw [e3, upR_ne (by decide), rowc_in _ _ hc]
    · rw [upR_ne (by decide), h4 c hc]
      exact g4 c (by omega) hc
  | l + 1, j, n + 1, m + 1, P, M, h, hn, hm, hP, hA, h9, h4 => by
    obtain ⟨b, hb, g1, g2⟩ := rest_L h8 hP hA h9 (f_X12_give_L130 m) x1 (nI (l + 1)) (nc - 1) 1 0 FU FU (by omega) (by omega) (FU_gt (by omega)) (FU_gt (by omega))
    obtain ⟨P', M', i1, i2, i3, i4, i5, i6, i7, i8, i9⟩ := pick_L h8 x1 l (j + 1) n m (upA (upA P 4 (nI b) (P 4 b + 1)) 9 (nI b) (-1)) (upA (upA M 14 (nI b) (M 14 b + 1)) 13 (nI b) (-1)) (by omega) (by omega) (by omega) (by rw [upA_ne (by decide), upA_ne (by decide)]; exact hP) (by rw [upA_ne (by decide), upA_ne (by decide)]; exact hA) (fun c hc => by
        rw [upA_get _ _ _ (by omega), upA_get _ _ _ (by omega), upA_get _ _ _ (by omega), upA_get _ _ _ (by omega)]
        by_cases q : c = b
        · rw [if_pos ⟨rfl, q⟩, if_pos ⟨rfl, q⟩]
        · rw [if_neg (fun w => q w.2), if_neg (fun w => q w.2), if_neg (by omega), if_neg (by omega)]
          exact h9 c hc) (fun c hc => by
        rw [upA_ne (k := 9) (j := 4) (by decide), upA_ne (k := 13) (j := 14) (by decide), upA_get _ _ _ (by omega), upA_get _ _ _ (by omega)]
        by_cases q : c = b
        · rw [if_pos ⟨rfl, q⟩, if_pos ⟨rfl, q⟩, h4 b hb]
        · rw [if_neg (fun w => q w.2), if_neg (fun w => q w.2)]
          exact h4 c hc)
    have m0 : upA (upA M 14 (nI b) (M 14 b + 1)) 13 (nI b) (-1) 0 = M 0 := by rw [upA_ne (by decide), upA_ne (by decide)]
    refine ⟨P', M', ?_, ?_, ((Keep.uA2 (by decide) (by decide)).tr (Keep.uA2 (by decide) (by decide))).tr i3, i4, fun k a a' a'' => by rw [i5 k a a' a'', upA_ne a'', upA_ne a'], i6, fun c a a' => ?_, i8, fun i hi hc => ?_⟩
    · rw [f_X2_takeSlips_L74, if_neg (by rw [hP]; exact nI_ge (by omega) (by omega)), if_neg (nI_nle (by omega) (by omega)), show f_X2_greatestRest P = some (nI b) from g1, Option.bind_some, if_neg (nI_in (N := 8) (by omega) (by decide)), wr_s, wr_s, nI_clamp (n := b) (by omega), pk_m1, nI_1]
      exact i1
    · rw [f_X12_give_L130, if_neg (nI_nle (by omega) (by omega))]
      have g2' : f_X12_give_L140 (f_X12_give_L130 m) FU M x1 (nI (l + 1)) (0 : Int32) (1 : Int32) = _ := g2
      rw [g2', pk_m1]
      exact i2
    · rw [i7 c a a', upA_get _ _ _ (by omega), upA_get _ _ _ (by omega), if_neg (by omega), if_neg (by omega)]
    · rw [i9 i hi hc, m0]
  | l, j, 0, m, _, _, _, hn, _, _, _, _, _ => absurd hn (by omega)
  | l, j, n, 0, _, _, _, _, hm, _, _, _, _ => absurd hm (by omega)
/-- the whole parts -/
theorem fl_L {nc yr N : Nat} {Z U : Mem} (h8 : nc ≤ 8) (hNN : N ≤ 400) (sh : Nat → Nat) (hsh : ∀ c, c < nc → sh c ≤ 15984) (hT : 0 < sumN sh nc) : ∀ (d j n m : Nat) (P M : Mem), j + d = nc → d < n → d < m → RNum yr Z U (M 0) → P 0 0 = nI nc → M 0 3 = nI nc → (∀ M' : Mem, M' 0 = M 0 → ∀ c, c < nc → f_X12_share M' (nI c) = some (nI (sh c))) → (∀ c, c < nc → P 8 c = nI (sh c)) → (∀ c, c < j → P 9 c = M 13 c) → (∀ c, c < j → P 4 c = M 14 c) →
    ∃ (P' M' : Mem), f_X2_takeSlips_L10 n P (nI N) (nI (sumN sh nc)) (nI (N - sumN (fun c => N * sh c / sumN sh nc) j)) (nI j) = f_X2_takeSlips_L74 FU P' (nI (N - sumN (fun c => N * sh c / sumN sh nc) nc)) 0 ∧ f_X12_give_L69 m M (nI N) (nI (sumN sh nc)) (nI (N - sumN (fun c => N * sh c / sumN sh nc) j)) (nI j) = f_X12_give_L130 FU M' (nI N) (nI (N - sumN (fun c => N * sh c / sumN sh nc) nc)) ∧ Keep M M' ∧ M' 0 = M 0 ∧ (∀ k, k ≠ 4 → k ≠ 9 → P' k = P k) ∧ (∀ c, nc ≤ c → P' 4 c = P 4 c) ∧ (∀ c, c < nc → P' 9 c = M' 13 c) ∧ (∀ c, c < nc → P' 4 c = M' 14 c)
  | 0, j, n + 1, m + 1, P, M, h, _, _, hZ, hP, hA, hs, hs8, h9, h4 => by
    have e : j = nc := by omega
    subst e
    refine ⟨P, M, ?_, ?_, Keep.rf M, rfl, fun _ _ _ => rfl, fun _ _ => rfl, h9, h4⟩
    · rw [f_X2_takeSlips_L10, if_pos (by rw [hP]; exact Int32.le_refl _)]
    · rw [f_X12_give_L69, if_pos (by rw [show M 0 ((3 : Int32)).toNatClampNeg = nI j from hA]; exact Int32.le_refl _)]
  | d + 1, j, n + 1, m + 1, P, M, h, hn, hm, hZ, hP, hA, hs, hs8, h9, h4 => by
    have hj : j < nc := by omega
    have hsj := hsh j hj
    have tb : sumN sh nc ≤ nc * 15984 := by
      rw [← sumN_const 15984 nc]
      exact sumN_le nc hsh
    have tb2 : sumN sh nc < 2147483648 := by
      have : nc * 15984 ≤ 8 * 15984 := Nat.mul_le_mul_right _ h8
      omega
    have pb : N * sh j ≤ 400 * 15984 := Nat.mul_le_mul hNN hsj
    have ll := (left_lt sh N nc hT).1
    have mono : sumN (fun c => N * sh c / sumN sh nc) (j + 1) ≤ sumN (fun c => N * sh c / sumN sh nc) nc := by
      have : ∀ e : Nat, sumN (fun c => N * sh c / sumN sh nc) (j + 1) ≤ sumN (fun c => N * sh c / sumN sh nc) (j + 1 + e) := by
        intro e
        induction e with
        | zero => exact Nat.le_refl _
        | succ e ih => exact Nat.le_trans ih (Nat.le_add_right _ _)
      have := this (nc - (j + 1))
      rwa [show j + 1 + (nc - (j + 1)) = nc by omega] at this
    have efl : nI N * nI (sh j) / nI (sumN sh nc) = nI (N * sh j / sumN sh nc) := by rw [pk_mul, pk_div (by omega) hT tb2]
    have ers : nI N * nI (sh j) - nI N * nI (sh j) / nI (sumN sh nc) * nI (sumN sh nc) = nI (N * sh j % sumN sh nc) := by rw [pk_mul, pk_rem (by omega) hT tb2]
    have nz : ¬ nI (sumN sh nc) = 0 := nI_ne0 hT tb2
    have elf : nI (N - sumN (fun c => N * sh c / sumN sh nc) j) - nI (N * sh j / sumN sh nc) = nI (N - sumN (fun c => N * sh c / sumN sh nc) (j + 1)) := by
      rw [sumN] at mono ⊢
      rw [pk_sub (by omega)]
      congr 1
      omega
    obtain ⟨P', M', g1, g2, g3, g4, g5, g6, g7, g8⟩ := fl_L h8 hNN sh hsh hT d (j + 1) n m (upA (upA P 4 (nI j) (nI (N * sh j / sumN sh nc))) 9 (nI j) (nI (N * sh j % sumN sh nc))) (upA (upA M 14 (nI j) (nI (N * sh j / sumN sh nc))) 13 (nI j) (nI (N * sh j % sumN sh nc))) (by omega) (by omega) (by omega) (by rw [upA_ne (by decide), upA_ne (by decide)]; exact hZ) (by rw [upA_ne (by decide), upA_ne (by decide)]; exact hP) (by rw [upA_ne (by decide), upA_ne (by decide)]; exact hA) (fun M' e => hs M' (by rw [e, upA_ne (by decide), upA_ne (by decide)])) (fun c hc => by rw [upA_ne (by decide), upA_ne (by decide)]; exact hs8 c hc) (fun c hc => by
        rw [upA_get _ _ _ (by omega), upA_get _ _ _ (by omega), upA_get _ _ _ (by omega), upA_get _ _ _ (by omega)]
        by_cases q : c = j
        · rw [if_pos ⟨rfl, q⟩, if_pos ⟨rfl, q⟩]
        · rw [if_neg (fun w => q w.2), if_neg (fun w => q w.2), if_neg (by omega), if_neg (by omega)]
          exact h9 c (by omega)) (fun c hc => by
        rw [upA_ne (k := 9) (j := 4) (by decide), upA_ne (k := 13) (j := 14) (by decide), upA_get _ _ _ (by omega), upA_get _ _ _ (by omega)]
        by_cases q : c = j
        · rw [if_pos ⟨rfl, q⟩, if_pos ⟨rfl, q⟩]
        · rw [if_neg (fun w => q w.2), if_neg (fun w => q w.2)]
          exact h4 c (by omega))
    refine ⟨P', M', ?_, ?_, ((Keep.uA2 (by decide) (by decide)).tr (Keep.uA2 (by decide) (by decide))).tr g3, by rw [g4, upA_ne (by decide), upA_ne (by decide)], fun k a b => by rw [g5 k a b, upA_ne b, upA_ne a], fun c a => by rw [g6 c a, upA_get _ _ _ (by omega), upA_get _ _ _ (by omega), if_neg (by omega), if_neg (by omega)], g7, g8⟩
    · rw [f_X2_takeSlips_L10, if_neg (by rw [hP]; exact nI_ge (by omega) (by omega)), if_neg (nI_in (N := 8) (by omega) (by decide)), if_neg nz, wr_s, if_neg nz, wr_s, nI_clamp (n := j) (by omega), upA_ne (k := 4) (j := 8) (by decide), hs8 j hj, ers, efl, upA_ne (k := 9) (j := 4) (by decide), upA_get P 4 _ (by omega), if_pos ⟨rfl, rfl⟩, elf, nI_1]
      exact g1
    · rw [f_X12_give_L69, if_neg (by rw [show M 0 ((3 : Int32)).toNatClampNeg = nI nc from hA]; exact nI_ge (by omega) (by omega)), hs M rfl j hj, Option.bind_some, if_neg nz, if_neg (nI_in (N := 8) (by omega) (by decide)), wr_s, hs _ (upA_ne (by decide)) j hj, Option.bind_some, if_neg nz, wr_s, ers, efl, nI_clamp (n := j) (by omega), upA_ne (k := 13) (j := 14) (by decide), upA_get M 14 _ (by omega), if_pos ⟨rfl, rfl⟩, elf, nI_1]
      exact g2
  | l, j, 0, m, _, _, _, hn, _, _, _, _, _, _, _, _ => absurd hn (by omega)
  | l, j, n, 0, _, _, _, _, hm, _, _, _, _, _, _, _ => absurd hm (by omega)
/-- the shares, and their sum, on both sides -/
theorem tot_L {nc yr : Nat} {Z U D M : Mem} (hZ : RNum yr Z U (M 0)) (hl : RLaw D (M 0)) (h8 : nc ≤ 8) (sh : Nat → Nat) (hs : ∀ c, c < nc → f_X12_share M (nI c) = some (nI (sh c))) (x1 : Int32) : ∀ (d j n : Nat) (P : Mem), j + d = nc → d < n → RCit nc P (M 0) → (∀ c, c < j → P 8 c = nI (sh c)) →
    ∃ P' : Mem, f_X7_shareOut_L4 n Z D P x1 (nI (sumN sh j)) (nI j) = (if nI (sumN sh nc) = 0 then some (0, Z, P') else Option.bind (f_X2_takeSlips P' x1 (nI (sumN sh nc))) fun Q => some (1, upS Z 11 x1, Q)) ∧ (∀ k, k ≠ 8 → P' k = P k) ∧ (∀ c, c < nc → P' 8 c = nI (sh c))
  | 0, j, n + 1, P, h, _, hP, h4 => by
    have e : j = nc := by omega
    subst e
    refine ⟨P, ?_, fun _ _ => rfl, h4⟩
    rw [f_X7_shareOut_L4, if_pos (by rw [hP.2.1]; exact Int32.le_refl _)]
    rfl
  | d + 1, j, n + 1, P, h, hn, hP, h4 => by
    have hj : j < nc := by omega
    obtain ⟨r, hr, e1, e2⟩ := share_eq hZ hP hj hl
    have er : nI r = nI (sh j) := Option.some.inj (e2.symm.trans (hs j hj))
    have hP2 : RCit nc (upA P 8 (nI j) (nI (sh j))) (M 0) := by
      obtain ⟨c0, c1, c2, c3, c4⟩ := hP
      refine ⟨c0, ?_, c2, ?_, ?_⟩
      · rw [upA_ne (by decide)]; exact c1
      · rw [upA_ne (by decide), upA_ne (by decide), upA_ne (by decide), upA_ne (by decide), upA_ne (by decide), upA_ne (by decide), upA_ne (by decide)]; exact c3
      · rw [upA_ne (by decide), upA_ne (by decide), upA_ne (by decide), upA_ne (by decide), upA_ne (by decide)]; exact c4
    obtain ⟨P', g1, g2, g3⟩ := tot_L hZ hl h8 sh hs x1 d (j + 1) n (upA P 8 (nI j) (nI (sh j))) (by omega) (by omega) hP2 (fun c hc => by
        rw [upA_get _ _ _ (by omega)]
        by_cases q : c = j
        · rw [if_pos ⟨rfl, q⟩, q]
        · rw [if_neg (fun w => q w.2)]
          exact h4 c (by omega))
    refine ⟨P', ?_, fun k hk => by rw [g2 k hk, upA_ne hk], g3⟩
    rw [f_X7_shareOut_L4, if_neg (by rw [hP.2.1]; exact nI_ge (by omega) (by omega)), e1, Option.bind_some, if_neg (nI_in (N := 8) (by omega) (by decide)), wr_s, er, nI_clamp (n := j) (by omega), upA_get P 8 _ (by omega), if_pos ⟨rfl, rfl⟩, nI_add, nI_1]
    exact g1
  | l, j, 0, _, _, hn, _, _ => absurd hn (by omega)
theorem mtot_L {nc : Nat} {M : Mem} (h8 : nc ≤ 8) (hA : M 0 3 = nI nc) (sh : Nat → Nat) (hs : ∀ c, c < nc → f_X12_share M (nI c) = some (nI (sh c))) (x1 : Int32) : ∀ (d j n : Nat), j + d = nc → d < n → f_X12_give_L4 n M x1 (nI (sumN sh j)) (nI j) = (if M 0 1 = 1 then some (0, M) else if 0 < M 0 2 then some (0, M) else if (1 : Int32) ≤ x1 ∧ x1 ≤ 400 then (if nI (sumN sh nc) = 0 then some (0, M) else f_X12_give_L69 FU M x1 (nI (sumN sh nc)) x1 0) else some (0, M))
  | 0, j, n + 1, h, _ => by
    have e : j = nc := by omega
    subst e
    rw [f_X12_give_L4, if_pos (by rw [show M 0 ((3 : Int32)).toNatClampNeg = nI j from hA]; exact Int32.le_refl _), isIn_eq]
    by_cases q : (1 : Int32) ≤ x1 ∧ x1 ≤ 400
    · rw [if_pos q, if_pos q, Option.bind_some, if_neg (show ¬ (1 : Int32) = 0 by decide)]
      rfl
    · rw [if_neg q, if_neg q, Option.bind_some, if_pos rfl]
      rfl
  | d + 1, j, n + 1, h, hn => by
    rw [f_X12_give_L4, if_neg (by rw [show M 0 ((3 : Int32)).toNatClampNeg = nI nc from hA]; exact nI_ge (by omega) (by omega)), hs j (by omega), Option.bind_some, nI_add, nI_1]
    exact mtot_L h8 hA sh hs x1 d (j + 1) n (by omega) (by omega)
  | l, j, 0, _, hn => absurd hn (by omega)
theorem st_give : S_give Rel0 := by
  intro μ I M p1 hR
  obtain ⟨⟨yr, nc, nb, nl, tp, hN⟩, hI⟩ := id hR
  obtain ⟨h1, h2, h3, h4, h5, h6, h7⟩ := id hN
  obtain ⟨c0, c1, c2, c3, c4⟩ := id h6
  obtain ⟨a0, a1, a2, a3, a4, a5, a6, a7, a8, a9, a10, a11, a12, a13, a14, a15⟩ := id h1
  have m1 : M 0 1 = μ 0 10 0 := a4
  have m2 : M 0 2 = μ 0 11 0 := a6
  have hex : ∃ sh : Nat → Nat, ∀ c, c < nc → sh c ≤ 15984 ∧ f_X7_shareOf (μ 0) (μ 3) (μ 5) (nI c) = some (nI (sh c)) ∧ f_X12_share M (nI c) = some (nI (sh c)) := by
    refine ⟨fun c => if h : c < nc then Classical.choose (share_eq h1 h6 h h4) else 0, fun c hc => ?_⟩
    simp only [dif_pos hc]
    exact Classical.choose_spec (share_eq h1 h6 hc h4)
  obtain ⟨sh, hsh⟩ := hex
  have hs := fun c hc => (hsh c hc).2.2
  have eB := mtot_L c0 c2 sh hs p1 nc 0 FU (by omega) (FU_gt (by omega))
  have eB : f_X12_give M p1 = _ := eB
  rw [m1, m2] at eB
  have no : f_X11_give (μ 0) (μ 3) (μ 5) p1 = some (0, μ 0, μ 5) → f_X12_give M p1 = some (0, M) → ∃ (r : Int32) (N0 : Mem) (N5 : Mem) (M' : Mem), f_X11_give (μ 0) (μ 3) (μ 5) p1 = some (r, N0, N5) ∧ f_X12_give M p1 = some (r, M') ∧ Rel0 (va_up (va_up μ 0 N0) 5 N5) I M' := fun a b => ⟨0, μ 0, μ 5, M, a, b, by rw [va_up_id μ 0, va_up_id]; exact hR⟩
  rcases a3 with c | c
  · rw [if_neg (by rw [c]; decide)] at eB
    by_cases q : 0 < μ 0 11 0
    · rw [if_pos q] at eB
      refine no ?_ eB
      unfold f_X11_give
      rw [if_pos c, if_pos q]
    · rw [if_neg q] at eB
      by_cases q1 : (1 : Int32) ≤ p1 ∧ p1 ≤ 400
      · rw [if_pos q1] at eB
        obtain ⟨N, hNN, rfl⟩ := rng (n := 400) (by decide) ⟨Int32.le_trans (by decide) q1.1, q1.2⟩
        obtain ⟨P', t1, t2, t3⟩ := tot_L h1 h4 c0 sh hs (nI N) nc 0 FU (μ 5) (by omega) (FU_gt (by omega)) h6 (fun c hc => absurd hc (by omega))
        have t1 : f_X7_shareOut (μ 0) (μ 3) (μ 5) (nI N) = _ := t1
        have eA : f_X11_give (μ 0) (μ 3) (μ 5) (nI N) = bd3 (f_X7_shareOut (μ 0) (μ 3) (μ 5) (nI N)) fun r38 Z' P'' => if ¬ (r38 = 0 ∨ r38 = 1) then none else some (r38, Z', P'') := by
          unfold f_X11_give
          rw [if_pos c, if_neg q, within_eq, if_pos q1, Option.bind_some, if_neg (show ¬ (1 : Int32) = 0 by decide)]
        have tb : sumN sh nc ≤ nc * 15984 := by
          rw [← sumN_const 15984 nc]
          exact sumN_le nc (fun c hc => (hsh c hc).1)
        have tb1 : nc * 15984 ≤ 8 * 15984 := Nat.mul_le_mul_right _ c0
        by_cases z : sumN sh nc = 0
        · rw [z, if_pos (show nI 0 = 0 from rfl)] at t1 eB
          rw [t1, bd3_s, if_neg (by decide)] at eA
          refine ⟨0, _, _, _, eA, eB, ⟨yr, nc, nb, nl, tp, ?_⟩, hI⟩
          rw [va_up_id]
          refine hN.cits (fun _ _ _ => rfl) ⟨c0, ?_, c2, ?_, ?_⟩
          · rw [t2 0 (by decide)]; exact c1
          · rw [t2 1 (by decide), t2 2 (by decide), t2 3 (by decide), t2 4 (by decide), t2 5 (by decide), t2 6 (by decide), t2 7 (by decide)]; exact c3
          · rw [t2 3 (by decide), t2 4 (by decide), t2 5 (by decide), t2 6 (by decide), t2 7 (by decide)]; exact c4
        · have hT : 0 < sumN sh nc := by omega
          have nz : ¬ nI (sumN sh nc) = 0 := nI_ne0 hT (by omega)
          rw [if_neg nz] at t1 eB
          have ps : ∀ M' : Mem, M' 0 = M 0 → ∀ c, c < nc → f_X12_share M' (nI c) = some (nI (sh c)) := by
            intro M' e c hc
            obtain ⟨r, hr, x1, x2⟩ := share_eq (M := M') (by rw [e]; exact h1) (by rw [e]; exact h6) hc (by rw [e]; exact h4)
            rw [x2, ← x1, (hsh c hc).2.1]
          obtain ⟨P2, M2, g1, g2, g3, g4, g5, g6, g7, g8⟩ := fl_L c0 hNN sh (fun c hc => (hsh c hc).1) hT nc 0 FU FU P' M (by omega) (FU_gt (by omega)) (FU_gt (by omega)) h1 (by rw [t2 0 (by decide)]; exact c1) c2 ps t3 (fun c hc => absurd hc (by omega)) (fun c hc => absurd hc (by omega))
          rw [show N - sumN (fun c => N * sh c / sumN sh nc) 0 = N from rfl] at g1 g2
          obtain ⟨P3, M3, k1, k2, k3, k4, k5, k6, k7, k8, k9⟩ := pick_L c0 (nI N) (N - sumN (fun c => N * sh c / sumN sh nc) nc) 0 FU FU P2 M2 (by have := (left_lt sh N nc hT).2; omega) (FU_gt (by omega)) (FU_gt (by omega)) (by rw [g5 0 (by decide) (by decide), t2 0 (by decide)]; exact c1) (by rw [g4]; exact c2) g7 g8
          have g2 : f_X12_give_L69 FU M (nI N) (nI (sumN sh nc)) (nI N) 0 = _ := g2
          rw [g2, k2] at eB
          have e10 : f_X2_takeSlips P' (nI N) (nI (sumN sh nc)) = some P3 := by
            unfold f_X2_takeSlips
            rw [if_pos (show (0 : Int32) < nI (sumN sh nc) from nI_lt (a := 0) hT (by omega))]
            have g1 : f_X2_takeSlips_L10 FU P' (nI N) (nI (sumN sh nc)) (nI N) 0 = _ := g1
            rw [g1]
            exact k1
          rw [e10, Option.bind_some] at t1
          rw [t1, bd3_s, if_neg (by decide)] at eA
          have e0 : ∀ i, i ≠ 2 → (i < 20 ∨ 84 ≤ i) → M3 0 i = M 0 i := fun i a b => by rw [k9 i a (fun c hc => by omega), g4]
          refine ⟨1, _, _, _, eA, eB, ⟨yr, nc, nb, nl, tp, ?_⟩, hI.keep (g3.tr k3)⟩
          refine ⟨?_, h2.cg (e0 _ (by decide) (by decide)) (e0 _ (by decide) (by decide)) (fun i a b => e0 i (by omega) (by omega)), h3.cg (e0 _ (by decide) (by decide)) (fun i a b => e0 i (by omega) (by omega)), h4.cg (e0 _ (by decide) (by decide)) (fun i a b => e0 i (by omega) (by omega)), h5.cg h1.1 (fun i a b => e0 i (by omega) (by omega)), ?_, h7.cg (e0 _ (by decide) (by decide)) (fun i a b => e0 i (by omega) (by omega))⟩
          · show RNum yr (upS (μ 0) 11 (nI N)) (μ 6) (M3 0)
            unfold RNum
            rw [upS_at, upS_ne (by decide), upS_ne (by decide), upS_ne (by decide), upS_ne (by decide), upS_ne (by decide), upS_ne (by decide), k4, e0 0 (by decide) (by decide), e0 1 (by decide) (by decide), e0 6 (by decide) (by decide), e0 13 (by decide) (by decide), e0 14 (by decide) (by decide), e0 15 (by decide) (by decide), e0 8 (by decide) (by decide), e0 9 (by decide) (by decide), e0 10 (by decide) (by decide), e0 11 (by decide) (by decide)]
            exact ⟨a0, a1, a2, Or.inl c, a4, ⟨N, hNN, rfl⟩, rfl, a7, a8, a9, a10, a11, a12, a13, a14, a15⟩
          · show RCit nc P3 (M3 0)
            have p3 : ∀ k, k ≠ 3 → k ≠ 4 → k ≠ 9 → k ≠ 8 → P3 k = μ 5 k := fun k x y z w => by rw [k5 k x y z, g5 k y z, t2 k w]
            refine RCit.of c0 (by rw [p3 0 (by decide) (by decide) (by decide) (by decide)]; exact c1) (by rw [e0 3 (by decide) (by decide)]; exact c2) (fun c k hc hk => ?_) (fun c x y => ?_)
            · rcases (show k = 2 ∨ k = 3 ∨ (k ≠ 2 ∧ k ≠ 3) by omega) with rfl | rfl | ⟨x, y⟩
              · rw [(k8 c hc).1, k6 c (by omega)]
              · rw [(k8 c hc).2]
              · rw [p3 (k + 1) (by omega) (by omega) (by omega) (by omega), k9 _ (by omega) (fun c' hc' => by omega), g4]
                exact h6.row hc hk
            · obtain ⟨z3, z4, z5, z6, z7⟩ := c4 c x y
              have w4 : P3 4 c = 0 := by rw [k7 c x y, g6 c x, t2 4 (by decide)]; exact z4
              rw [k6 c y, w4, p3 5 (by decide) (by decide) (by decide) (by decide), p3 6 (by decide) (by decide) (by decide) (by decide), p3 7 (by decide) (by decide) (by decide) (by decide)]
              exact ⟨rfl, rfl, z5, z6, z7⟩
      · rw [if_neg q1] at eB
        refine no ?_ eB
        unfold f_X11_give
        rw [if_pos c, if_neg q, within_eq, if_neg q1]
        rfl
  · rw [if_pos c] at eB
    refine no ?_ eB
    unfold f_X11_give
    rw [if_neg (by rw [c]; decide)]
