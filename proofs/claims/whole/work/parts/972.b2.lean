/-! ===== best: the class's search ===== -/
def PRB (w nc : Nat) (own rm vl wt : Nat → Nat) (fr : Nat → Int) (t0 : Int) (w0 zT zW : Nat) : Prop := w ≤ 9 ∧ nc ≤ 8 ∧ (∀ j, j < w → own j < nc) ∧ (∀ j, j < w → rm j ≤ 40) ∧ (∀ j, j < w → 1 ≤ vl j) ∧ (∀ j, j < w → vl j ≤ 1000) ∧ (∀ j, j < w → wt j ≤ 200) ∧ (∀ c, c < nc → -1000 ≤ fr c ∧ fr c ≤ 1000000000) ∧ (-10000 ≤ t0 ∧ t0 ≤ 10000) ∧ w0 ≤ 10000 ∧ zT ≤ 2400 ∧ zW ≤ 2400
def BSTc (w : Nat) (S : Mem) (b : Bst) : Prop := b.1 ≤ 1 ∧ S 14 0 = nI b.1 ∧ (b.1 = 1 → S 15 0 = nI b.2.1 ∧ b.2.1 ≤ 10000 ∧ S 16 0 = nI b.2.2.1 ∧ b.2.2.1 ≤ 10000 ∧ ∀ j, j < w → S 11 j = nI (b.2.2.2 j) ∧ b.2.2.2 j ≤ 2)
def RLB (w nc : Nat) (own rm vl wt : Nat → Nat) (fr : Nat → Int) (zT zW : Nat) (S : Mem) (k : Nat) (s : Nat → Nat) (b : Bst) : Prop :=
  S 0 0 = nI w ∧ (∀ j, j < w → S 2 j = nI (own j) ∧ S 3 j = nI (rm j) ∧ S 4 j = nI (vl j) ∧ S 5 j = nI (wt j)) ∧ (∀ j r, j + r = w → S 6 j = nI (sfx rm j r) ∧ S 7 j = nI (sfx vl j r) ∧ S 8 j = nI (sfx wt j r)) ∧ S 12 0 = nI zT ∧ S 13 0 = nI zW ∧ (∀ c, c < nc → (S 9 c).toInt = bF own rm fr s k c) ∧ (∀ j, j < k → S 10 j = nI (s j) ∧ s j ≤ 2) ∧ BSTc w S b
section Best
variable {w nc : Nat} {own rm vl wt : Nat → Nat} {fr : Nat → Int} {t0 : Int} {w0 zT zW : Nat}
theorem RLB.ch {S S1 : Mem} {k k' : Nat} {s s1 : Nat → Nat} {b : Bst} (h : RLB w nc own rm vl wt fr zT zW S k s b) (e : ∀ i, i ≠ 9 → i ≠ 10 → S1 i = S i) (f : ∀ c, c < nc → (S1 9 c).toInt = bF own rm fr s1 k' c) (g : ∀ j, j < k' → S1 10 j = nI (s1 j) ∧ s1 j ≤ 2) : RLB w nc own rm vl wt fr zT zW S1 k' s1 b := by
  obtain ⟨a1, a2, a3, a4, a5, a6, a7, a8⟩ := h
  unfold RLB BSTc
  rw [e 0 (by decide) (by decide), e 2 (by decide) (by decide), e 3 (by decide) (by decide), e 4 (by decide) (by decide), e 5 (by decide) (by decide), e 6 (by decide) (by decide), e 7 (by decide) (by decide), e 8 (by decide) (by decide), e 12 (by decide) (by decide), e 13 (by decide) (by decide), e 14 (by decide) (by decide), e 15 (by decide) (by decide), e 16 (by decide) (by decide), e 11 (by decide) (by decide)]
  exact ⟨a1, a2, a3, a4, a5, f, g, a8⟩
theorem hop_eq (hP : PRB w nc own rm vl wt fr t0 w0 zT zW) {S : Mem} {k r : Nat} {s : Nat → Nat} {b : Bst} (h : RLB w nc own rm vl wt fr zT zW S k s b) (hk : k + r = w) {T : Int} {V R G : Nat} (p4 : Int32) (hT : p4.toInt = T) (hT1 : -100000 ≤ T) (hT2 : T ≤ 100000) (hV : V ≤ 100000) (hR : R ≤ 100000) (hG : G ≤ 100000) : ∃ x : Int32, f_X1_isHopeless S (nI k) (nI V) (nI R) p4 (nI G) = some x ∧ ((x = 1 ∧ bHop vl rm wt T V R G zT zW k r b) ∨ (x = 0 ∧ ¬ bHop vl rm wt T V R G zT zW k r b)) := by
  obtain ⟨q1, q2, q3, q4, q5, q6, q7, q8, q9, q10, q11, q12⟩ := hP
  obtain ⟨a1, a2, a3, a4, a5, a6, a7, a8⟩ := h
  obtain ⟨b1, b2, b3⟩ := a8
  obtain ⟨s6, s7, s8⟩ := a3 k r hk
  have x6 := sfx_le q4 r k (by omega)
  have x7 := sfx_le q6 r k (by omega)
  have x8 := sfx_le q7 r k (by omega)
  unfold f_X1_isHopeless
  rw [a5]
  by_cases c1 : zW < G
  · rw [if_pos (nI_lt c1 (by omega))]
    exact ⟨1, rfl, Or.inl ⟨rfl, Or.inl c1⟩⟩
  rw [if_neg (nI_nlt (by omega) (by omega)), if_neg (nI_in (by omega) (by decide)), nI_clamp (by omega), s8, a4, s7, s6, nI_add, nI_add]
  have t0' : (0 : Int32).toInt = 0 := rfl
  have tS : (nI (sfx wt k r)).toInt = (sfx wt k r : Int) := nI_toInt (by omega)
  have tZ : (nI zT).toInt = (zT : Int) := nI_toInt (by omega)
  have tn : ((0 : Int32) - p4).toInt = -T := by
    rw [ti_sub (by omega) (by omega)]
    omega
  have eab : (((if 0 ≤ p4 then p4 else 0 - p4) - nI (sfx wt k r)) ≤ nI zT) ↔ (T - (sfx wt k r : Int) ≤ (zT : Int) ∧ -T - (sfx wt k r : Int) ≤ (zT : Int)) := by
    rw [Int32.le_iff_toInt_le, tZ]
    by_cases c : 0 ≤ p4
    · have c' : 0 ≤ T := by
        have := Int32.le_iff_toInt_le.mp c
        omega
      rw [if_pos c, ti_sub (by omega) (by omega)]
      omega
    · have c' : T < 0 := by
        have : ¬ (0 : Int32).toInt ≤ p4.toInt := fun e => c (Int32.le_iff_toInt_le.mpr e)
        omega
      rw [if_neg c, ti_sub (by omega) (by omega)]
      omega
  by_cases c2 : (((if 0 ≤ p4 then p4 else 0 - p4) - nI (sfx wt k r)) ≤ nI zT)
  · have c2' := eab.mp c2
    rw [if_pos c2, b2]
    by_cases c3 : b.1 = 0
    · rw [if_pos (by rw [c3]; rfl)]
      refine ⟨0, rfl, Or.inr ⟨rfl, fun hh => ?_⟩⟩
      rcases hh with hh | hh | hh | ⟨hh, _⟩ | ⟨hh, _⟩
      · omega
      · omega
      · omega
      · exact hh c3
      · exact hh c3
    · have c3' : b.1 = 1 := by omega
      obtain ⟨d1, d2, d3, d4, d5⟩ := b3 c3'
      rw [if_neg (by rw [c3']; decide), d1, d3]
      by_cases c4 : V + sfx vl k r < b.2.1
      · rw [if_pos (nI_lt c4 (by omega))]
        exact ⟨1, rfl, Or.inl ⟨rfl, Or.inr (Or.inr (Or.inr (Or.inl ⟨c3, c4⟩)))⟩⟩
      · rw [if_neg (nI_nlt (by omega) (by omega))]
        by_cases c5 : V + sfx vl k r = b.2.1
        · rw [if_pos (by rw [c5])]
          by_cases c6 : R + sfx rm k r < b.2.2.1
          · rw [if_pos (nI_lt c6 (by omega))]
            refine ⟨0, rfl, Or.inr ⟨rfl, fun hh => ?_⟩⟩
            rcases hh with hh | hh | hh | ⟨_, hh⟩ | ⟨_, _, hh⟩ <;> omega
          · rw [if_neg (nI_nlt (by omega) (by omega))]
            exact ⟨1, rfl, Or.inl ⟨rfl, Or.inr (Or.inr (Or.inr (Or.inr ⟨c3, c5, by omega⟩)))⟩⟩
        · rw [if_neg (fun e => c5 ((nI_eq (by omega) (by omega)).mp e))]
          refine ⟨0, rfl, Or.inr ⟨rfl, fun hh => ?_⟩⟩
          rcases hh with hh | hh | hh | ⟨_, hh⟩ | ⟨_, hh, _⟩ <;> omega
  · have c2' : ¬ (T - (sfx wt k r : Int) ≤ (zT : Int) ∧ -T - (sfx wt k r : Int) ≤ (zT : Int)) := fun e => c2 (eab.mpr e)
    rw [if_neg c2]
    refine ⟨1, rfl, Or.inl ⟨rfl, ?_⟩⟩
    by_cases c3 : (zT : Int) < T - (sfx wt k r : Int)
    · exact Or.inr (Or.inl c3)
    · exact Or.inr (Or.inr (Or.inl (by omega)))
theorem lay (hP : PRB w nc own rm vl wt fr t0 w0 zT zW) : ∀ (r k n : Nat) (S : Mem) (s : Nat → Nat) (b : Bst) (p4 : Int32), k + r = w → r < n → RLB w nc own rm vl wt fr zT zW S k s b → bO own rm fr s k = true → p4.toInt = bT wt t0 s k → ∃ S', f_X1_layFrom n S (nI k) (nI (bS vl 0 s k)) (nI (bS rm 0 s k)) p4 (nI (bS wt w0 s k)) = some S' ∧ RLB w nc own rm vl wt fr zT zW S' k s (brun (bL own rm vl wt fr t0 w0 zT zW w) r k s b) ∧ S' 1 = S 1 := by
  intro r
  obtain ⟨q1, q2, q3, q4, q5, q6, q7, q8, q9, q10, q11, q12⟩ := id hP
  induction r with
  | zero =>
    intro k n S s b p4 hk hn h ho hp
    obtain ⟨n, rfl⟩ : ∃ n', n = n' + 1 := ⟨n - 1, by omega⟩
    have hkw : k = w := by omega
    subst hkw
    have y1 := bS_le (a := 0) (s := s) q6 k (by omega)
    have y2 := bS_le (a := 0) (s := s) q4 k (by omega)
    have y3 := bS_le (a := w0) (s := s) q7 k (by omega)
    have y4 := bT_le (t0 := t0) (s := s) q7 k (by omega)
    obtain ⟨x, e1, e2⟩ := hop_eq hP h hk (T := bT wt t0 s k) (V := bS vl 0 s k) (R := bS rm 0 s k) (G := bS wt w0 s k) p4 hp (by omega) (by omega) (by omega) (by omega) (by omega)
    rw [f_X1_layFrom, h.1, if_neg (nI_nlt (Nat.le_refl _) (by omega)), e1, Option.bind_some]
    rcases e2 with ⟨rfl, e2⟩ | ⟨rfl, e2⟩
    · rw [if_neg (by decide), brun_hop hk q5 (Or.inl e2)]
      exact ⟨S, rfl, h, rfl⟩
    · rw [if_pos rfl, if_pos rfl]
      unfold f_X1_keep
      simp only [wr_s, Option.bind_some]
      have eL : brun (bL own rm vl wt fr t0 w0 zT zW k) 0 k s b = (1, bS vl 0 s k, bS rm 0 s k, s) := by
        rw [brun, bL, if_pos]
        unfold bHop at e2
        rw [show sfx wt k 0 = 0 from rfl, show sfx vl k 0 = 0 from rfl, show sfx rm k 0 = 0 from rfl] at e2
        simp only [bGood, bBet, Bool.and_eq_true, Bool.or_eq_true, decide_eq_true_eq]
        refine ⟨⟨ho, ⟨by omega, by omega⟩, by omega⟩, ?_⟩
        by_cases c : b.1 = 0
        · exact Or.inl c
        · right
          omega
      rw [eL]
      refine ⟨_, rfl, ?_, ?_⟩
      · obtain ⟨a1, a2, a3, a4, a5, a6, a7, a8⟩ := h
        have E : ∀ i, i ≠ 11 → i ≠ 14 → i ≠ 15 → i ≠ 16 → (upR (upS (upS (upS S 14 1) 15 (nI (bS vl 0 s k))) 16 (nI (bS rm 0 s k))) 11 (rowc 12 (upS (upS (upS S 14 1) 15 (nI (bS vl 0 s k))) 16 (nI (bS rm 0 s k)) 10) (upS (upS (upS S 14 1) 15 (nI (bS vl 0 s k))) 16 (nI (bS rm 0 s k)) 11))) i = S i := by
          intro i h1 h2 h3 h4
          rw [upR_ne h1, upS_ne h4, upS_ne h3, upS_ne h2]
        unfold RLB
        rw [E 0 (by decide) (by decide) (by decide) (by decide), E 2 (by decide) (by decide) (by decide) (by decide), E 3 (by decide) (by decide) (by decide) (by decide), E 4 (by decide) (by decide) (by decide) (by decide), E 5 (by decide) (by decide) (by decide) (by decide), E 6 (by decide) (by decide) (by decide) (by decide), E 7 (by decide) (by decide) (by decide) (by decide), E 8 (by decide) (by decide) (by decide) (by decide), E 9 (by decide) (by decide) (by decide) (by decide), E 10 (by decide) (by decide) (by decide) (by decide), E 12 (by decide) (by decide) (by decide) (by decide), E 13 (by decide) (by decide) (by decide) (by decide)]
        refine ⟨a1, a2, a3, a4, a5, a6, a7, by show (1 : Nat) ≤ 1; omega, ?_, fun _ => ⟨?_, ?_, ?_, ?_, fun j hj => ⟨?_, (a7 j hj).2⟩⟩⟩
        · rw [upR_ne (by decide), upS_ne (by decide), upS_ne (by decide), upS_at]
          rfl
        · rw [upR_ne (by decide), upS_ne (by decide), upS_at]
        · show bS vl 0 s k ≤ 10000
          omega
        · rw [upR_ne (by decide), upS_at]
        · show bS rm 0 s k ≤ 10000
          omega
        · rw [upR_at, rowc_in _ _ (by omega), upS_ne (by decide), upS_ne (by decide), upS_ne (by decide)]
          exact (a7 j hj).1
      · rw [upR_ne (by decide), upS_ne (by decide), upS_ne (by decide), upS_ne (by decide)]
  | succ r ih =>
    intro k n S s b p4 hk hn h ho hp
    obtain ⟨n, rfl⟩ : ∃ n', n = n' + 1 := ⟨n - 1, by omega⟩
    have y1 := bS_le (a := 0) (s := s) q6 k (by omega)
    have y2 := bS_le (a := 0) (s := s) q4 k (by omega)
    have y3 := bS_le (a := w0) (s := s) q7 k (by omega)
    have y4 := bT_le (t0 := t0) (s := s) q7 k (by omega)
    obtain ⟨x, e1, e2⟩ := hop_eq hP h hk (T := bT wt t0 s k) (V := bS vl 0 s k) (R := bS rm 0 s k) (G := bS wt w0 s k) p4 hp (by omega) (by omega) (by omega) (by omega) (by omega)
    rw [f_X1_layFrom, h.1, if_neg (nI_nlt (by omega) (by omega)), e1, Option.bind_some]
    rcases e2 with ⟨rfl, e2⟩ | ⟨rfl, e2⟩
    · rw [if_neg (by decide), brun_hop hk q5 (Or.inl e2)]
      exact ⟨S, rfl, h, rfl⟩
    have hkw : k < w := by omega
    have ow := q3 k hkw
    have rk := q4 k hkw
    have wk := q7 k hkw
    obtain ⟨i2, i3, i4, i5⟩ := h.2.1 k hkw
    have hF := h.2.2.2.2.2.1 (own k) ow
    have fb := bF_le (own := own) (fr := fr) (s := s) q4 (own k) k (by omega)
    have frb := q8 (own k) ow
    have tR : (nI (rm k)).toInt = (rm k : Int) := nI_toInt (by omega)
    have tW : (nI (wt k)).toInt = (wt k : Int) := nI_toInt (by omega)
    rw [if_pos rfl, if_neg (show ¬ nI k = nI w from fun e => by have := (nI_eq (by omega) (by omega)).mp e; omega), if_neg (nI_in (by omega) (by decide)), nI_clamp (n := k) (by omega), i2, if_neg (nI_in (N := 8) (by omega) (by decide)), nI_clamp (n := own k) (by omega), i3, nI_1]
    have pl2 : ∀ {S1 : Mem} {d : Nat}, d ≤ 2 → (∀ j, j < k → S1 10 j = nI (s j)) → ∀ j, j < k + 1 → upA S1 10 (nI k) (nI d) 10 j = nI (sU s k d j) ∧ sU s k d j ≤ 2 := by
      intro S1 d hd hS j hj
      by_cases c : j = k
      · subst c
        rw [upN_at (by omega), sU_at]
        exact ⟨rfl, hd⟩
      · rw [upN_ne (by omega) c, sU_ne c, hS j (by omega)]
        exact ⟨rfl, (h.2.2.2.2.2.2.1 j (by omega)).2⟩
    -- back from a child to this node
    have back : ∀ {S1 : Mem} {b1 : Bst}, RLB w nc own rm vl wt fr zT zW S1 (k + 1) (sU s k 2) b1 → RLB w nc own rm vl wt fr zT zW S1 k s b1 := by
      intro S1 b1 h1
      refine h1.ch (fun _ _ _ => rfl) (fun c hc => by rw [h1.2.2.2.2.2.1 c hc, bF_2]) (fun j hj => ?_)
      have := h1.2.2.2.2.2.2.1 j (by omega)
      rw [sU_ne (by omega)] at this
      exact this
    -- the last child: the bale isn't laden
    have last : ∀ {S1 : Mem} {b1 : Bst}, RLB w nc own rm vl wt fr zT zW S1 (k + 1) (sU s k 2) b1 → ∃ S', f_X1_layFrom n S1 (nI (k + 1)) (nI (bS vl 0 s k)) (nI (bS rm 0 s k)) p4 (nI (bS wt w0 s k)) = some S' ∧ RLB w nc own rm vl wt fr zT zW S' k s (brun (bL own rm vl wt fr t0 w0 zT zW w) r (k + 1) (sU s k 2) b1) ∧ S' 1 = S1 1 := by
      intro S1 b1 h1
      obtain ⟨S', z1, z2, z3⟩ := ih (k + 1) n S1 (sU s k 2) b1 p4 (by omega) (by omega) h1 (by rw [bO_2]; exact ho) (by rw [bT_2]; exact hp)
      rw [bS_2, bS_2, bS_2] at z1
      exact ⟨S', z1, back z2, z3⟩
    by_cases c : S 9 (own k) < nI (rm k)
    · have c' : bF own rm fr s k (own k) < (rm k : Int) := by
        have := Int32.lt_iff_toInt_lt.mp c
        omega
      have bad : ∀ d, d ≠ 2 → bO own rm fr (sU s k d) (k + 1) = false := fun d hd => by
        rw [bO_c hd, ho, Bool.true_and]
        exact decide_eq_false (by omega)
      rw [if_pos c, wr_s, bind_id]
      have h2 : RLB w nc own rm vl wt fr zT zW (upA S 10 (nI k) (nI 2)) (k + 1) (sU s k 2) b := h.ch (fun i _ hi => upA_ne hi) (fun cc hc => by rw [upA_ne (by decide), h.2.2.2.2.2.1 cc hc, bF_2]) (pl2 (by decide) (fun j hj => (h.2.2.2.2.2.2.1 j hj).1))
      obtain ⟨S', z1, z2, z3⟩ := last h2
      refine ⟨S', z1, ?_, by rw [z3, upA_ne (by decide)]⟩
      rw [brun, brun_hop (k := k + 1) (by omega) q5 (Or.inr (bad 0 (by decide))), brun_hop (k := k + 1) (by omega) q5 (Or.inr (bad 1 (by decide)))]
      exact z2
    · have c' : (rm k : Int) ≤ bF own rm fr s k (own k) := by
        have : ¬ (S 9 (own k)).toInt < (nI (rm k)).toInt := fun e => c (Int32.lt_iff_toInt_lt.mpr e)
        omega
      have good : ∀ d, d ≠ 2 → bO own rm fr (sU s k d) (k + 1) = true := fun d hd => by
        rw [bO_c hd, ho, Bool.true_and]
        exact decide_eq_true (by omega)
      rw [if_neg c, wr_s, wr_s]
      have e9 : (S 9 (own k) - nI (rm k)).toInt = bF own rm fr s k (own k) - (rm k : Int) := by
        rw [ti_sub (by omega) (by omega)]
        omega
      -- larboard
      have h0 : RLB w nc own rm vl wt fr zT zW (upA (upA S 9 (nI (own k)) (S 9 (own k) - nI (rm k))) 10 (nI k) (nI 0)) (k + 1) (sU s k 0) b := by
        refine h.ch (fun i h9 h10 => by rw [upA_ne h10, upA_ne h9]) (fun cc hc => ?_) (pl2 (by decide) (fun j hj => by rw [upA_ne (by decide)]; exact (h.2.2.2.2.2.2.1 j hj).1))
        rw [upA_ne (by decide), bF_c (by decide)]
        by_cases q : own k = cc
        · subst q
          rw [upN_at (by omega), if_pos rfl]
          exact e9
        · rw [upN_ne (by omega) (Ne.symm q), if_neg q]
          exact h.2.2.2.2.2.1 cc hc
      obtain ⟨j2, j3, j4, j5⟩ := h0.2.1 k hkw
      rw [show upA (upA S 9 (nI (own k)) (S 9 (own k) - nI (rm k))) 10 (nI k) (0 : Int32) 4 k = nI (vl k) from j4, show upA (upA S 9 (nI (own k)) (S 9 (own k) - nI (rm k))) 10 (nI k) (0 : Int32) 5 k = nI (wt k) from j5, i5, nI_add, nI_add, nI_add]
      obtain ⟨S2, z1, z2, z3⟩ := ih (k + 1) n (upA (upA S 9 (nI (own k)) (S 9 (own k) - nI (rm k))) 10 (nI k) (nI 0)) (sU s k 0) b (p4 + nI (wt k)) (by omega) (by omega) h0 (good 0 (by decide)) (by rw [bT_0, ti_add (by omega) (by omega), hp, tW])
      rw [bS_c (by decide), bS_c (by decide), bS_c (by decide)] at z1
      rw [show f_X1_layFrom n (upA (upA S 9 (nI (own k)) (S 9 (own k) - nI (rm k))) 10 (nI k) (0 : Int32)) (nI (k + 1)) (nI (bS vl 0 s k + vl k)) (nI (bS rm 0 s k + rm k)) (p4 + nI (wt k)) (nI (bS wt w0 s k + wt k)) = some S2 from z1, Option.bind_some, wr_s]
      -- starboard
      have h1 : RLB w nc own rm vl wt fr zT zW (upA S2 10 (nI k) (nI 1)) (k + 1) (sU s k 1) (brun (bL own rm vl wt fr t0 w0 zT zW w) r (k + 1) (sU s k 0) b) := by
        refine z2.ch (fun i _ h10 => by rw [upA_ne h10]) (fun cc hc => ?_) (pl2 (by decide) (fun j hj => ?_))
        · rw [upA_ne (by decide), z2.2.2.2.2.2.1 cc hc, bF_c (by decide), bF_c (by decide)]
        · have := (z2.2.2.2.2.2.2.1 j (by omega)).1
          rw [sU_ne (by omega)] at this
          exact this
      obtain ⟨l2, l3, l4, l5⟩ := h1.2.1 k hkw
      rw [show upA S2 10 (nI k) (1 : Int32) 4 k = nI (vl k) from l4, show upA S2 10 (nI k) (1 : Int32) 5 k = nI (wt k) from l5, nI_add]
      obtain ⟨S4, y1', y2', y3'⟩ := ih (k + 1) n (upA S2 10 (nI k) (nI 1)) (sU s k 1) _ (p4 - nI (wt k)) (by omega) (by omega) h1 (good 1 (by decide)) (by rw [bT_1, ti_sub (by omega) (by omega), hp, tW])
      rw [bS_c (by decide), bS_c (by decide), bS_c (by decide)] at y1'
      rw [show f_X1_layFrom n (upA S2 10 (nI k) (1 : Int32)) (nI (k + 1)) (nI (bS vl 0 s k + vl k)) (nI (bS rm 0 s k + rm k)) (p4 - nI (wt k)) (nI (bS wt w0 s k + wt k)) = some S4 from y1', Option.bind_some, wr_s, wr_s, bind_id]
      -- not laden
      have f4 := y2'.2.2.2.2.2.1 (own k) ow
      rw [bF_c (by decide), if_pos rfl] at f4
      have h2 : RLB w nc own rm vl wt fr zT zW (upA (upA S4 9 (nI (own k)) (S4 9 (own k) + nI (rm k))) 10 (nI k) (nI 2)) (k + 1) (sU s k 2) (brun (bL own rm vl wt fr t0 w0 zT zW w) r (k + 1) (sU s k 1) (brun (bL own rm vl wt fr t0 w0 zT zW w) r (k + 1) (sU s k 0) b)) := by
        refine y2'.ch (fun i h9 h10 => by rw [upA_ne h10, upA_ne h9]) (fun cc hc => ?_) (pl2 (by decide) (fun j hj => ?_))
        · rw [upA_ne (by decide), bF_2]
          by_cases q : own k = cc
          · subst q
            rw [upN_at (by omega), ti_add (by omega) (by omega), f4, tR]
            omega
          · rw [upN_ne (by omega) (Ne.symm q), y2'.2.2.2.2.2.1 cc hc, bF_c (by decide), if_neg q]
        · have := (y2'.2.2.2.2.2.2.1 j (by omega)).1
          rw [sU_ne (by omega)] at this
          rw [upA_ne (by decide)]
          exact this
      obtain ⟨S', v1, v2, v3⟩ := last h2
      refine ⟨S', v1, ?_, by rw [v3, upA_ne (by decide), upA_ne (by decide), y3', upA_ne (by decide), z3, upA_ne (by decide), upA_ne (by decide)]⟩
      rw [brun]
      exact v2
end Best
