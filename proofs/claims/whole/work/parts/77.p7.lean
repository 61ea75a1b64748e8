/-! ===== citizens' cells; citizen, bale, sell, loan ===== -/
theorem RCit.row {nc : Nat} {P : Mem} {A : Nat → Int32} (h : RCit nc P A) {c k : Nat} (hc : c < nc) (hk : k < 7) : A (20 + 8 * c + k) = P (k + 1) c := by
  obtain ⟨a0, a1, a2, a3, a4, a5, a6⟩ := h.2.2.2.1 c hc
  rcases (show k = 0 ∨ k = 1 ∨ k = 2 ∨ k = 3 ∨ k = 4 ∨ k = 5 ∨ k = 6 by omega) with rfl | rfl | rfl | rfl | rfl | rfl | rfl
  · exact a0
  · exact a1
  · exact a2
  · exact a3
  · exact a4
  · exact a5
  · exact a6
theorem RCit.of {nc : Nat} {P : Mem} {A : Nat → Int32} (h0 : nc ≤ 8) (h1 : P 0 0 = nI nc) (h2 : A 3 = nI nc) (h3 : ∀ c k, c < nc → k < 7 → A (20 + 8 * c + k) = P (k + 1) c) (h4 : ∀ c, nc ≤ c → c < 8 → P 3 c = 0 ∧ P 4 c = 0 ∧ P 5 c = 0 ∧ P 6 c = 0 ∧ P 7 c = 0) : RCit nc P A :=
  ⟨h0, h1, h2, fun c hc => ⟨h3 c 0 hc (by decide), h3 c 1 hc (by decide), h3 c 2 hc (by decide), h3 c 3 hc (by decide), h3 c 4 hc (by decide), h3 c 5 hc (by decide), h3 c 6 hc (by decide)⟩, h4⟩
theorem upA_get (P : Mem) (k : Nat) {c : Nat} (v : Int32) (hc : c < 2147483648) (k' c' : Nat) : upA P k (nI c) v k' c' = if k' = k ∧ c' = c then v else P k' c' := by
  by_cases q : k' = k
  · subst q
    rw [upA_at, nI_clamp hc, upd_if]
    by_cases z : c' = c
    · rw [if_pos z, if_pos ⟨rfl, z⟩]
    · rw [if_neg z, if_neg (fun h => z h.2)]
  · rw [upA_ne q, if_neg (fun h => q h.1)]
theorem put_get (M : Mem) (i : Nat) (v : Int32) (j : Nat) : put M i v 0 j = if j = i then v else M 0 j := by rw [put_0, upd_if]
/-- one cell of one citizen, on both sides -/
theorem RCit.cell {nc : Nat} {P M : Mem} (h : RCit nc P (M 0)) {c k : Nat} (hc : c < nc) (hk : k < 7) (v : Int32) : RCit nc (upA P (k + 1) (nI c) v) (put M (20 + 8 * c + k) v 0) := by
  have h8 := h.1
  refine RCit.of h.1 (by rw [upA_ne (by omega)]; exact h.2.1) (by rw [put_no (by omega)]; exact h.2.2.1) (fun c' k' hc' hk' => ?_) (fun c' a b => ?_)
  · rw [upA_get _ _ _ (by omega), put_get]
    by_cases q : k' = k ∧ c' = c
    · rw [if_pos (by omega), if_pos (by omega)]
    · rw [if_neg (by omega), if_neg (by omega)]
      exact h.row hc' hk'
  · rw [upA_get _ _ _ (by omega), upA_get _ _ _ (by omega), upA_get _ _ _ (by omega), upA_get _ _ _ (by omega), upA_get _ _ _ (by omega), if_neg (by omega), if_neg (by omega), if_neg (by omega), if_neg (by omega), if_neg (by omega)]
    exact h.2.2.2.2 c' a b
theorem cit_add {nc : Nat} {P M : Mem} (h : RCit nc P (M 0)) {c k : Nat} (hc : c < nc) (hk : k < 7) (v : Int32) (kk : Int32) (ek : kk = nI k) : f_X12_adds M (nI c) kk v = some (put M (20 + 8 * c + k) (P (k + 1) c + v)) := by
  have h8 := h.1
  rw [adds_eq M c kk k v ek (by omega) (by omega), h.row hc hk]
theorem RelN.cits {yr nc nb nl tp : Nat} {μ : Nat → Mem} {P' : Mem} {A A' : Nat → Int32} (h : RelN yr nc nb nl tp μ A) (e : ∀ i, i < 2790 → (i < 20 ∨ 84 ≤ i) → A' i = A i) (hC : RCit nc P' A') : RelN yr nc nb nl tp (va_up μ 5 P') A' := by
  obtain ⟨h1, h2, h3, h4, h5, h6, h7⟩ := h
  refine ⟨h1.cg (fun i hi => e i ?_ (Or.inl ?_)), h2.cg (e _ (by decide) (by decide)) (e _ (by decide) (by decide)) (fun i a b => e i (by omega) (by omega)), h3.cg (e _ (by decide) (by decide)) (fun i a b => e i (by omega) (by omega)), h4.cg (e _ (by decide) (by decide)) (fun i a b => e i (by omega) (by omega)), h5.cg h1.1 (fun i a b => e i (by omega) (by omega)), hC, h7.cg (e _ (by decide) (by decide)) (fun i a b => e i (by omega) (by omega))⟩
  · simp only [List.mem_cons, List.not_mem_nil, or_false] at hi; omega
  · simp only [List.mem_cons, List.not_mem_nil, or_false] at hi; omega
theorem pay_eq {P : Mem} {x y : Nat} (v : Int32) (hx : x < 8) (hy : y < 8) (hxy : x ≠ y) : f_X2_pay P (nI x) (nI y) v = some (upA (upA P 5 (nI x) (P 5 x - v)) 5 (nI y) (P 5 y + v)) := by
  unfold f_X2_pay
  rw [if_neg (nI_in hx (by decide)), wr_s, if_neg (nI_in hy (by decide)), wr_s, nI_clamp (n := x) (by omega), nI_clamp (n := y) (by omega)]
  rw [upA_get _ _ _ (by omega) 5 y, if_neg (by omega)]
theorem upA_comm (P : Mem) (k : Nat) {a b : Nat} (x y : Int32) (hab : a ≠ b) (ha : a < 2147483648) (hb : b < 2147483648) : upA (upA P k (nI a) x) k (nI b) y = upA (upA P k (nI b) y) k (nI a) x := by
  funext k' c'
  rw [upA_get _ _ _ hb, upA_get _ _ _ ha, upA_get _ _ _ ha, upA_get _ _ _ hb]
  by_cases q : k' = k ∧ c' = b
  · rw [if_pos q, if_neg (by omega), if_pos q]
  · rw [if_neg q, if_neg q]
/-- two citizens -/
theorem two_of {nc : Nat} {P M : Mem} (h : RCit nc P (M 0)) (p1 p2 : Int32) :
    (f_X2_areTwo P p1 p2 = some 0 ∧ (f_X12_isCitizen M p1 = some 0 ∨ (f_X12_isCitizen M p1 = some 1 ∧ f_X12_isCitizen M p2 = some 0) ∨ (f_X12_isCitizen M p1 = some 1 ∧ f_X12_isCitizen M p2 = some 1 ∧ p1 = p2))) ∨
    (∃ a b : Nat, a < nc ∧ b < nc ∧ a ≠ b ∧ p1 = nI a ∧ p2 = nI b ∧ f_X2_areTwo P p1 p2 = some 1 ∧ f_X12_isCitizen M p1 = some 1 ∧ f_X12_isCitizen M p2 = some 1) := by
  have h8 := h.1
  have c1 := h.2.1
  have c2 := h.2.2.1
  have key1 : ∀ p : Int32, (f_X2_has P p = some 0 ∧ f_X12_isCitizen M p = some 0) ∨ ∃ a : Nat, a < nc ∧ p = nI a ∧ f_X2_has P p = some 1 ∧ f_X12_isCitizen M p = some 1 := by
    intro p
    rcases pk_ix p (n := nc) (by omega) with d | d | ⟨b, hb, rfl⟩
    · exact Or.inl ⟨has2_no c1 (by omega) (Or.inl d), isCit_no c2 (by omega) (Or.inl d)⟩
    · exact Or.inl ⟨has2_no c1 (by omega) (Or.inr d), isCit_no c2 (by omega) (Or.inr d)⟩
    · exact Or.inr ⟨b, hb, rfl, has2_yes c1 (by omega) hb, isCit_yes c2 (by omega) hb⟩
  rcases key1 p1 with ⟨x1, y1⟩ | ⟨a, ha, ea, x1, y1⟩
  · exact Or.inl ⟨by simp [f_X2_areTwo, x1], Or.inl y1⟩
  · rcases key1 p2 with ⟨x2, y2⟩ | ⟨b, hb, eb, x2, y2⟩
    · exact Or.inl ⟨by simp [f_X2_areTwo, x1, x2], Or.inr (Or.inl ⟨y1, y2⟩)⟩
    · by_cases q : p1 = p2
      · exact Or.inl ⟨by unfold f_X2_areTwo; rw [x1, x2, Option.bind_some, if_neg (by decide), Option.bind_some, if_neg (by decide), if_pos q], Or.inr (Or.inr ⟨y1, y2, q⟩)⟩
      · exact Or.inr ⟨a, b, ha, hb, fun e => q (by rw [ea, eb, e]), ea, eb, by unfold f_X2_areTwo; rw [x1, x2, Option.bind_some, if_neg (by decide), Option.bind_some, if_neg (by decide), if_neg q], y1, y2⟩
theorem st_sell : S_sell Rel0 := by
  intro μ I M p1 p2 p3 p4 hR
  obtain ⟨⟨yr, nc, nb, nl, tp, hN⟩, hI⟩ := id hR
  obtain ⟨h1, h2, h3, h4, h5, h6, h7⟩ := id hN
  obtain ⟨-, -, -, s0, s1, -⟩ := id h1
  have m1 : M 0 ((1 : Int32)).toNatClampNeg = μ 0 10 0 := s1
  have h8 := h6.1
  have no : f_X11_sell (μ 0) (μ 1) (μ 5) p1 p2 p3 p4 = some (0, μ 5) → f_X12_sell M p1 p2 p3 p4 = some (0, M) → ∃ (r : Int32) (N5 : Mem) (M' : Mem), f_X11_sell (μ 0) (μ 1) (μ 5) p1 p2 p3 p4 = some (r, N5) ∧ f_X12_sell M p1 p2 p3 p4 = some (r, M') ∧ Rel0 (va_up μ 5 N5) I M' := fun a b => ⟨0, μ 5, M, a, b, by rw [va_up_id]; exact hR⟩
  rcases s0 with c | c
  · have n1 : ¬ μ 0 10 0 = 1 := by rw [c]; decide
    rcases two_of h6 p1 p2 with ⟨x, y⟩ | ⟨a, b, ha, hb, hab, rfl, rfl, x, y1, y2⟩
    · refine no ?_ ?_
      · unfold f_X11_sell
        rw [if_pos c, x]
        rfl
      · unfold f_X12_sell
        rw [m1, if_neg n1]
        rcases y with y | ⟨y1, y2⟩ | ⟨y1, y2, y3⟩
        · rw [y]; rfl
        · rw [y1, Option.bind_some, if_neg (by decide), y2]; rfl
        · rw [y1, Option.bind_some, if_neg (by decide), y2, Option.bind_some, if_neg (by decide), if_pos y3]
    · have eA : f_X11_sell (μ 0) (μ 1) (μ 5) (nI a) (nI b) p3 p4 = if (0 : Int32) ≤ p4 ∧ p4 ≤ 10000 then (if (1 : Int32) ≤ p3 ∧ p3 ≤ frV (μ 1) (μ 5) nb a then some (1, upA (upA (upA (upA (μ 5) 3 (nI a) (μ 5 3 a - p3)) 3 (nI b) (μ 5 3 b + p3)) 5 (nI b) (μ 5 5 b - p4)) 5 (nI a) (μ 5 5 a + p4)) else some (0, μ 5)) else some (0, μ 5) := by
        unfold f_X11_sell
        rw [if_pos c, x, Option.bind_some, if_neg (by decide), within_eq]
        by_cases q4 : (0 : Int32) ≤ p4 ∧ p4 ≤ 10000
        · rw [if_pos q4, if_pos q4, Option.bind_some, if_neg (by decide), freeSlips_eq h2.2.1 h2.1 (by omega), Option.bind_some, within_eq]
          by_cases q3 : (1 : Int32) ≤ p3 ∧ p3 ≤ frV (μ 1) (μ 5) nb a
          · rw [if_pos q3, if_pos q3, Option.bind_some, if_neg (by decide), if_neg (nI_in (N := 8) (by omega) (by decide)), wr_s, if_neg (nI_in (N := 8) (by omega) (by decide)), wr_s, nI_clamp (n := a) (by omega), nI_clamp (n := b) (by omega), pay_eq p4 (by omega) (by omega) (Ne.symm hab)]
            rw [upA_get _ _ _ (by omega), if_neg (by omega), upA_ne (k := 3) (j := 5) (by decide), upA_ne (k := 3) (j := 5) (by decide)]
            rfl
          · rw [if_neg q3, if_neg q3]; rfl
        · rw [if_neg q4, if_neg q4]; rfl
      have eB : f_X12_sell M (nI a) (nI b) p3 p4 = if p3 < 1 then some (0, M) else if frV (μ 1) (μ 5) nb a < p3 then some (0, M) else if (0 : Int32) ≤ p4 ∧ p4 ≤ 10000 then (Option.bind (f_X12_adds M (nI a) (2 : Int32) (-p3)) fun M_h_64 => Option.bind (f_X12_adds M_h_64 (nI b) (2 : Int32) p3) fun M_h_71 => Option.bind (f_X12_adds M_h_71 (nI a) (4 : Int32) p4) fun M_h_79 => Option.bind (f_X12_adds M_h_79 (nI b) (4 : Int32) (-p4)) fun M_h_88 => some ((1 : Int32), M_h_88)) else some (0, M) := by
        unfold f_X12_sell
        rw [m1, if_neg n1, y1, Option.bind_some, if_neg (by decide), y2, Option.bind_some, if_neg (by decide), if_neg (fun e => hab ((nI_eq (by omega) (by omega)).mp e)), mfree_eq h2 h6 ha, Option.bind_some, isIn_eq]
        by_cases q4 : (0 : Int32) ≤ p4 ∧ p4 ≤ 10000
        · rw [if_pos q4, if_pos q4]; rfl
        · rw [if_neg q4, if_neg q4]; rfl
      by_cases q4 : (0 : Int32) ≤ p4 ∧ p4 ≤ 10000
      · rw [if_pos q4] at eA eB
        by_cases q3 : (1 : Int32) ≤ p3 ∧ p3 ≤ frV (μ 1) (μ 5) nb a
        · rw [if_pos q3] at eA
          rw [if_neg (by rw [Int32.not_lt]; exact q3.1), if_neg (by rw [Int32.not_lt]; exact q3.2)] at eB
          have r1 := h6.cell ha (show 2 < 7 by decide) (μ 5 3 a - p3)
          have r2 := r1.cell hb (show 2 < 7 by decide) (μ 5 3 b + p3)
          have r3 := r2.cell ha (show 4 < 7 by decide) (μ 5 5 a + p4)
          have r4 := r3.cell hb (show 4 < 7 by decide) (μ 5 5 b - p4)
          have g1 := cit_add h6 ha (show 2 < 7 by decide) (-p3) 2 rfl
          have g2 := cit_add r1 hb (show 2 < 7 by decide) p3 2 rfl
          have g3 := cit_add r2 ha (show 4 < 7 by decide) p4 4 rfl
          have g4 := cit_add r3 hb (show 4 < 7 by decide) (-p4) 4 rfl
          rw [show (2 + 1) = 3 from rfl, ← Int32.sub_eq_add_neg] at g1
          rw [upA_get _ _ _ (by omega), if_neg (by omega)] at g2
          rw [upA_get _ _ _ (by omega), if_neg (by omega), upA_get _ _ _ (by omega), if_neg (by omega)] at g3
          rw [upA_get _ _ _ (by omega), if_neg (by omega), upA_get _ _ _ (by omega), if_neg (by omega), upA_get _ _ _ (by omega), if_neg (by omega), ← Int32.sub_eq_add_neg] at g4
          rw [g1, Option.bind_some, g2, Option.bind_some, g3, Option.bind_some, g4, Option.bind_some] at eB
          rw [upA_comm _ 5 _ _ (Ne.symm hab) (by omega) (by omega)] at eA
          refine ⟨1, _, _, eA, eB, ⟨yr, nc, nb, nl, tp, hN.cits (fun i a0 a1 => ?_) r4⟩, hI.keep ((((Keep.pt (by omega)).tr (Keep.pt (by omega))).tr (Keep.pt (by omega))).tr (Keep.pt (by omega)))⟩
          rw [put_no (by omega), put_no (by omega), put_no (by omega), put_no (by omega)]
        · rw [if_neg q3] at eA
          by_cases z1 : p3 < 1
          · rw [if_pos z1] at eB
            exact no eA eB
          · rw [if_neg z1] at eB
            have z2 : frV (μ 1) (μ 5) nb a < p3 := by
              rw [← Int32.not_le]
              intro h
              exact q3 ⟨by rw [← Int32.not_lt]; exact z1, h⟩
            rw [if_pos z2] at eB
            exact no eA eB
      · rw [if_neg q4] at eA eB
        refine no eA ?_
        rw [eB]
        split
        · rfl
        · split <;> rfl
  · refine no ?_ ?_
    · unfold f_X11_sell
      rw [if_neg (by rw [c]; decide)]
    · unfold f_X12_sell
      rw [m1, if_pos c]
