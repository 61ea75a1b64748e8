/-! ===== shares: the decree's lines; tell ===== -/
def agV (x op y : Int32) : Int32 := if op = 60 then (if y ≤ x then 0 else 1) else if op = 62 then (if x ≤ y then 0 else 1) else (if x = y then 1 else 0)
theorem agV01 (x op y : Int32) : agV x op y = 0 ∨ agV x op y = 1 := by
  unfold agV
  split
  · split
    · exact Or.inl rfl
    · exact Or.inr rfl
  · split
    · split
      · exact Or.inl rfl
      · exact Or.inr rfl
    · split
      · exact Or.inr rfl
      · exact Or.inl rfl
theorem agrees_eq (x op y : Int32) : f_X3_agrees x op y = some (agV x op y) := by
  unfold f_X3_agrees agV
  split
  · split <;> rfl
  · split
    · split <;> rfl
    · split <;> rfl
def sbV (P : Mem) (c : Nat) (k yr lost : Int32) : Int32 := if k = 2 then P 1 c else if k = 3 then yr else if k = 4 then P 4 c else if k = 5 then lost else P 2 c
theorem subj_eq {P : Mem} {c : Nat} (k yr lost : Int32) (hc : c < 8) : f_X3_subjectOf P k (nI c) yr lost = some (sbV P c k yr lost) := by
  unfold f_X3_subjectOf sbV
  rw [if_neg (nI_in hc (by decide)), if_neg (nI_in hc (by decide)), if_neg (nI_in hc (by decide)), nI_clamp (by omega)]
  split
  · rfl
  · split
    · rfl
    · split
      · rfl
      · split <;> rfl
theorem asked_eq {nc yr c : Nat} {Z U P M : Mem} (hZ : RNum yr Z U (M 0)) (hP : RCit nc P (M 0)) (hc : c < nc) {z : Nat} (h1 : 1 ≤ z) (h5 : z ≤ 5) : f_X12_asked M (nI c) (nI z) = some (sbV P c (nI z) (Z 9 0) (Z 12 0)) := by
  have h8 := hP.1
  have e0 : M 0 ((0 : Int32)).toNatClampNeg = Z 9 0 := hZ.2.2.1.trans hZ.2.1.symm
  have e6 : M 0 ((6 : Int32)).toNatClampNeg = Z 12 0 := hZ.2.2.2.2.2.2.2.1
  unfold f_X12_asked sbV
  rw [of_eq M c 1 1 rfl (by omega) (by decide), of_eq M c 0 0 rfl (by omega) (by decide), of_eq M c 3 3 rfl (by omega) (by decide), hP.row hc (by decide), hP.row hc (by decide), hP.row hc (by decide), e0, e6]
  rcases (show z = 1 ∨ z = 2 ∨ z = 3 ∨ z = 4 ∨ z = 5 by omega) with rfl | rfl | rfl | rfl | rfl
  · rfl
  · rfl
  · rfl
  · rfl
  · rfl
/-- whether a test holds -/
def okV (P D : Mem) (c : Nat) (yr lost : Int32) (j : Nat) : Prop := ¬ (agV (sbV P c (D 5 j) yr lost) (D 6 j) (D 7 j) = if D 4 j = 1 then 1 else 0)
theorem ixh (k i n : Nat) : ((nI (2080 + 19 * k) + (1 : Int32)) + (4 : Int32) * nI i) + nI n = nI (2080 + 19 * k + 1 + 4 * i + n) := by
  show ((nI (2080 + 19 * k) + nI 1) + nI 4 * nI i) + nI n = _
  rw [pk_mul, nI_add, nI_add, nI_add]
theorem ixh0 (k i : Nat) : (nI (2080 + 19 * k) + (1 : Int32)) + (4 : Int32) * nI i = nI (2080 + 19 * k + 1 + 4 * i) := by
  show (nI (2080 + 19 * k) + nI 1) + nI 4 * nI i = _
  rw [pk_mul, nI_add, nI_add]
theorem holds_L {nc yr c k t : Nat} {Z U P D M : Mem} (hZ : RNum yr Z U (M 0)) (hP : RCit nc P (M 0)) (hc : c < nc) (hk : k < 16) (ht : t ≤ 4) (hD3 : D 3 k = nI t) (hA : M 0 (2080 + 19 * k) = nI t)
    (hT : ∀ i, i < t → M 0 (2080 + 19 * k + 1 + 4 * i) = D 4 (4 * k + i) ∧ M 0 (2080 + 19 * k + 1 + 4 * i + 1) = D 5 (4 * k + i) ∧ M 0 (2080 + 19 * k + 1 + 4 * i + 2) = D 6 (4 * k + i) ∧ M 0 (2080 + 19 * k + 1 + 4 * i + 3) = D 7 (4 * k + i) ∧ (D 4 (4 * k + i) = 0 ∨ D 4 (4 * k + i) = 1) ∧ (∃ z : Nat, 1 ≤ z ∧ z ≤ 5 ∧ D 5 (4 * k + i) = nI z)) :
    ∀ (d i n m : Nat), i + d = t → d < n → d < m → ∃ r : Int32, (r = 0 ∨ r = 1) ∧ f_X3_allHold_L9 n P D (nI k) (nI c) (Z 9 0) (Z 12 0) (nI (4 * k)) (nI (4 * k + i)) = some r ∧ f_X12_holds_L5 m M (nI c) (nI (2080 + 19 * k)) 1 (nI i) = some r
  | 0, i, n + 1, m + 1, h, _, _ => by
    have e : i = t := by omega
    subst e
    refine ⟨1, Or.inr rfl, ?_, ?_⟩
    · rw [f_X3_allHold_L9, if_neg (nI_in hk (by decide)), nI_clamp (n := k) (by omega), hD3, nI_add, if_pos (Int32.le_refl _)]
    · rw [f_X12_holds_L5, if_neg (nI_in (by omega) (by decide)), nI_clamp (n := 2080 + 19 * k) (by omega), hA, if_pos (Int32.le_refl _)]
      rfl
  | d + 1, i, n + 1, m + 1, h, hn, hm => by
    have h8 := hP.1
    obtain ⟨x0, x1, x2, x3, x4, z, z1, z5, ez⟩ := hT i (by omega)
    have eA : f_X3_allHold_L9 (n + 1) P D (nI k) (nI c) (Z 9 0) (Z 12 0) (nI (4 * k)) (nI (4 * k + i)) = if D 4 (4 * k + i) = 1 then (if agV (sbV P c (D 5 (4 * k + i)) (Z 9 0) (Z 12 0)) (D 6 (4 * k + i)) (D 7 (4 * k + i)) = 1 then some 0 else f_X3_allHold_L9 n P D (nI k) (nI c) (Z 9 0) (Z 12 0) (nI (4 * k)) (nI (4 * k + (i + 1)))) else (if agV (sbV P c (D 5 (4 * k + i)) (Z 9 0) (Z 12 0)) (D 6 (4 * k + i)) (D 7 (4 * k + i)) = 0 then some 0 else f_X3_allHold_L9 n P D (nI k) (nI c) (Z 9 0) (Z 12 0) (nI (4 * k)) (nI (4 * k + (i + 1)))) := by
      rw [f_X3_allHold_L9, if_neg (nI_in hk (by decide)), nI_clamp (n := k) (by omega), hD3, nI_add, if_neg (nI_ge (by omega) (by omega)), if_neg (nI_in (N := 64) (by omega) (by decide)), nI_clamp (n := 4 * k + i) (by omega), subj_eq _ _ _ (by omega), Option.bind_some, agrees_eq, Option.bind_some, nI_1]
      rfl
    have e147 : ∀ (s1 s0 : Int32), f_X12_holds_L147 (f_X12_holds_L5 m) M (nI c) (nI (2080 + 19 * k)) (nI i) s0 s1 = if s1 = s0 then f_X12_holds_L5 m M (nI c) (nI (2080 + 19 * k)) 0 (nI (i + 1)) else f_X12_holds_L5 m M (nI c) (nI (2080 + 19 * k)) 1 (nI (i + 1)) := by
      intro s1 s0
      unfold f_X12_holds_L147
      rw [nI_1]
    have e127 : ∀ s : Int32, f_X12_holds_L127 (f_X12_holds_L5 m) M (nI c) (nI (2080 + 19 * k)) (nI i) (nI (2080 + 19 * k + 1 + 4 * i)) s = if s = (if D 4 (4 * k + i) = 1 then 1 else 0) then f_X12_holds_L5 m M (nI c) (nI (2080 + 19 * k)) 0 (nI (i + 1)) else f_X12_holds_L5 m M (nI c) (nI (2080 + 19 * k)) 1 (nI (i + 1)) := by
      intro s
      unfold f_X12_holds_L127
      rw [if_neg (nI_in (by omega) (by decide)), nI_clamp (by omega), x0, e147, e147]
      by_cases q : D 4 (4 * k + i) = 1
      · rw [if_pos q, if_pos q]
      · rw [if_neg q, if_neg q]
    have eB : f_X12_holds_L5 (m + 1) M (nI c) (nI (2080 + 19 * k)) 1 (nI i) = if agV (sbV P c (D 5 (4 * k + i)) (Z 9 0) (Z 12 0)) (D 6 (4 * k + i)) (D 7 (4 * k + i)) = (if D 4 (4 * k + i) = 1 then 1 else 0) then f_X12_holds_L5 m M (nI c) (nI (2080 + 19 * k)) 0 (nI (i + 1)) else f_X12_holds_L5 m M (nI c) (nI (2080 + 19 * k)) 1 (nI (i + 1)) := by
      rw [f_X12_holds_L5, if_neg (nI_in (by omega) (by decide)), nI_clamp (n := 2080 + 19 * k) (by omega), hA, if_neg (nI_ge (by omega) (by omega)), if_neg (show ¬ (1 : Int32) = 0 by decide)]
      rw [show ((nI (2080 + 19 * k) + (1 : Int32)) + (4 : Int32) * nI i) + (1 : Int32) = nI (2080 + 19 * k + 1 + 4 * i + 1) from ixh k i 1, show ((nI (2080 + 19 * k) + (1 : Int32)) + (4 : Int32) * nI i) + (2 : Int32) = nI (2080 + 19 * k + 1 + 4 * i + 2) from ixh k i 2, show ((nI (2080 + 19 * k) + (1 : Int32)) + (4 : Int32) * nI i) + (3 : Int32) = nI (2080 + 19 * k + 1 + 4 * i + 3) from ixh k i 3, ixh0]
      rw [if_neg (nI_in (by omega) (by decide)), nI_clamp (n := 2080 + 19 * k + 1 + 4 * i + 1) (by omega), x1, ez, asked_eq hZ hP hc z1 z5, Option.bind_some, if_neg (nI_in (by omega) (by decide)), if_neg (nI_in (by omega) (by decide)), nI_clamp (n := 2080 + 19 * k + 1 + 4 * i + 2) (by omega), nI_clamp (n := 2080 + 19 * k + 1 + 4 * i + 3) (by omega), x2, x3]
      rw [e127, e127]
      unfold agV
      by_cases q60 : D 6 (4 * k + i) = 60
      · rw [if_pos q60, if_pos q60]
        by_cases w : D 7 (4 * k + i) ≤ sbV P c (nI z) (Z 9 0) (Z 12 0)
        · rw [if_pos w, if_pos w]
        · rw [if_neg w, if_neg w]
      · rw [if_neg q60, if_neg q60]
        by_cases q62 : D 6 (4 * k + i) = 62
        · rw [if_pos q62, if_pos q62]
          by_cases w : sbV P c (nI z) (Z 9 0) (Z 12 0) ≤ D 7 (4 * k + i)
          · rw [if_pos w, if_pos w]
          · rw [if_neg w, if_neg w]
        · rw [if_neg q62, if_neg q62]
          by_cases w : sbV P c (nI z) (Z 9 0) (Z 12 0) = D 7 (4 * k + i)
          · rw [if_pos w, if_pos w]
          · rw [if_neg w, if_neg w]
    have e0 : f_X12_holds_L5 m M (nI c) (nI (2080 + 19 * k)) 0 (nI (i + 1)) = some 0 := by
      obtain ⟨m', rfl⟩ : ∃ m', m = m' + 1 := ⟨m - 1, by omega⟩
      rw [f_X12_holds_L5, if_neg (nI_in (by omega) (by decide)), if_pos (show (0 : Int32) = 0 from rfl)]
      split <;> rfl
    obtain ⟨r, hr, g1, g2⟩ := holds_L hZ hP hc hk ht hD3 hA hT d (i + 1) n m (by omega) (by omega) (by omega)
    rw [eA, eB, e0, g1, g2]
    rcases agV01 (sbV P c (D 5 (4 * k + i)) (Z 9 0) (Z 12 0)) (D 6 (4 * k + i)) (D 7 (4 * k + i)) with ea | ea
    · rw [ea]
      rcases x4 with e4 | e4
      · exact ⟨0, Or.inl rfl, by rw [e4]; rfl, by rw [e4]; rfl⟩
      · exact ⟨r, hr, by rw [e4]; rfl, by rw [e4]; rfl⟩
    · rw [ea]
      rcases x4 with e4 | e4
      · exact ⟨r, hr, by rw [e4]; rfl, by rw [e4]; rfl⟩
      · exact ⟨0, Or.inl rfl, by rw [e4]; rfl, by rw [e4]; rfl⟩
  | d, i, 0, m, _, hn, _ => absurd hn (by omega)
  | d, i, n, 0, _, _, hm => absurd hm (by omega)
theorem holds_eq {nc yr c k : Nat} {Z U P D M : Mem} (hZ : RNum yr Z U (M 0)) (hP : RCit nc P (M 0)) (hc : c < nc) (hk : k < 16) (hl : RLine D (M 0) k) : ∃ r : Int32, (r = 0 ∨ r = 1) ∧ f_X3_allHold P D (nI k) (nI c) (Z 9 0) (Z 12 0) = some r ∧ f_X12_holds M (nI c) (nI (2080 + 19 * k)) = some r := by
  obtain ⟨⟨t, t0, t1, t2, t3⟩, -⟩ := hl
  obtain ⟨r, hr, g1, g2⟩ := holds_L hZ hP hc hk t0 t1 t2 t3 t 0 FU FU (by omega) (FU_gt (by omega)) (FU_gt (by omega))
  refine ⟨r, hr, ?_, g2⟩
  unfold f_X3_allHold
  rw [show nI k * (4 : Int32) = nI (4 * k) by show nI k * nI 4 = _; rw [pk_mul, Nat.mul_comm]]
  exact g1
theorem ixl (k n : Nat) : ((2080 : Int32) + (19 : Int32) * nI k) + nI n = nI (2080 + 19 * k + n) := by
  show (nI 2080 + nI 19 * nI k) + nI n = _
  rw [pk_mul, nI_add, nI_add]
theorem ixl0 (k : Nat) : (2080 : Int32) + (19 : Int32) * nI k = nI (2080 + 19 * k) := by
  show nI 2080 + nI 19 * nI k = _
  rw [pk_mul, nI_add]
theorem share_L {nc yr c ln : Nat} {Z U P D M : Mem} (hZ : RNum yr Z U (M 0)) (hP : RCit nc P (M 0)) (hc : c < nc) (h16 : ln ≤ 16) (hD : D 0 0 = nI ln) (hA : M 0 7 = nI ln) (hl : ∀ k, k < ln → RLine D (M 0) k) :
    ∀ (d j n m s : Nat), j + d = ln → d < n → d < m → s ≤ 999 * j → ∃ r : Nat, r ≤ 999 * ln ∧ f_X3_shareFor_L6 n P D (nI c) (Z 9 0) (Z 12 0) (nI s) (nI j) = some (nI r) ∧ f_X12_share_L4 m M (nI c) (nI s) (nI j) = some (nI r)
  | 0, j, n + 1, m + 1, s, h, _, _, hs => by
    have e : j = ln := by omega
    subst e
    refine ⟨s, hs, ?_, ?_⟩
    · rw [f_X3_shareFor_L6, if_pos (by rw [hD]; exact Int32.le_refl _)]
    · rw [f_X12_share_L4, if_pos (by rw [show M 0 ((7 : Int32)).toNatClampNeg = nI j from hA]; exact Int32.le_refl _)]
  | d + 1, j, n + 1, m + 1, s, h, hn, hm, hs => by
    obtain ⟨-, l2, l3, v, v1, v2⟩ := hl j (by omega)
    obtain ⟨r, hr, g1, g2⟩ := holds_eq hZ hP hc (k := j) (by omega) (hl j (by omega))
    have eA : f_X3_shareFor_L6 (n + 1) P D (nI c) (Z 9 0) (Z 12 0) (nI s) (nI j) = if r = 0 then f_X3_shareFor_L6 n P D (nI c) (Z 9 0) (Z 12 0) (nI s) (nI (j + 1)) else if D 1 j = 8 then some 0 else if D 1 j = 6 then f_X3_shareFor_L6 n P D (nI c) (Z 9 0) (Z 12 0) (nI v) (nI (j + 1)) else f_X3_shareFor_L6 n P D (nI c) (Z 9 0) (Z 12 0) (nI (s + v)) (nI (j + 1)) := by
      rw [f_X3_shareFor_L6, if_neg (by rw [hD]; exact nI_ge (by omega) (by omega)), g1, Option.bind_some, if_neg (nI_in (N := 16) (by omega) (by decide)), nI_clamp (n := j) (by omega), v2, nI_add, nI_1]
    have eB : f_X12_share_L4 (m + 1) M (nI c) (nI s) (nI j) = if r = 0 then f_X12_share_L4 m M (nI c) (nI s) (nI (j + 1)) else if M 0 (2080 + 19 * j + 17) = 22 then some 0 else if M 0 (2080 + 19 * j + 17) = 20 then f_X12_share_L4 m M (nI c) (nI v) (nI (j + 1)) else f_X12_share_L4 m M (nI c) (nI (s + v)) (nI (j + 1)) := by
      rw [f_X12_share_L4, if_neg (by rw [show M 0 ((7 : Int32)).toNatClampNeg = nI ln from hA]; exact nI_ge (by omega) (by omega)), show ((2080 : Int32) + (19 : Int32) * nI j) + (17 : Int32) = nI (2080 + 19 * j + 17) from ixl j 17, show ((2080 : Int32) + (19 : Int32) * nI j) + (18 : Int32) = nI (2080 + 19 * j + 18) from ixl j 18, ixl0, g2, Option.bind_some]
      rw [if_neg (nI_in (by omega) (by decide)), if_neg (nI_in (c := 2080 + 19 * j + 18) (by omega) (by decide)), if_neg (nI_in (c := 2080 + 19 * j + 18) (by omega) (by decide)), nI_clamp (n := 2080 + 19 * j + 17) (by omega), nI_clamp (n := 2080 + 19 * j + 18) (by omega), l3, v2, nI_add, nI_1]
    rw [eA, eB]
    by_cases z : r = 0
    · rw [if_pos z, if_pos z]
      exact share_L hZ hP hc h16 hD hA hl d (j + 1) n m s (by omega) (by omega) (by omega) (by omega)
    · rw [if_neg z, if_neg z]
      rcases l2 with ⟨a1, a2⟩ | ⟨a1, a2⟩ | ⟨a1, a2⟩
      · rw [a1, a2, if_neg (by decide), if_pos (by decide), if_neg (by decide), if_pos (by decide)]
        exact share_L hZ hP hc h16 hD hA hl d (j + 1) n m v (by omega) (by omega) (by omega) (by omega)
      · rw [a1, a2, if_neg (by decide), if_neg (by decide), if_neg (by decide), if_neg (by decide)]
        exact share_L hZ hP hc h16 hD hA hl d (j + 1) n m (s + v) (by omega) (by omega) (by omega) (by omega)
      · rw [a1, a2, if_pos (by decide), if_pos (by decide)]
        exact ⟨0, by omega, rfl, rfl⟩
  | d, i, 0, m, _, _, hn, _, _ => absurd hn (by omega)
  | d, i, n, 0, _, _, _, hm, _ => absurd hm (by omega)
theorem share_eq {nc yr c : Nat} {Z U P D M : Mem} (hZ : RNum yr Z U (M 0)) (hP : RCit nc P (M 0)) (hc : c < nc) (hl : RLaw D (M 0)) : ∃ r : Nat, r ≤ 15984 ∧ f_X7_shareOf Z D P (nI c) = some (nI r) ∧ f_X12_share M (nI c) = some (nI r) := by
  obtain ⟨ln, n0, n1, n2, n3⟩ := hl
  obtain ⟨r, hr, g1, g2⟩ := share_L hZ hP hc n0 n1 n2 n3 ln 0 FU FU 0 (by omega) (FU_gt (by omega)) (FU_gt (by omega)) (by omega)
  refine ⟨r, by omega, ?_, g2⟩
  have g1 : f_X3_shareFor P D (nI c) (Z 9 0) (Z 12 0) = some (nI r) := g1
  unfold f_X7_shareOf
  rw [g1, Option.bind_some]
theorem st_tell : S_tell Rel0 := by
  intro μ I M p1 p2 hR
  obtain ⟨⟨yr, nc, nb, nl, tp, hN⟩, hI⟩ := id hR
  obtain ⟨h1, h2, h3, h4, h5, h6, h7⟩ := id hN
  obtain ⟨c0, c1, c2, c3, c4⟩ := id h6
  rcases pk_ix p1 (n := nc) (by omega) with d | d | ⟨c, hc, rfl⟩
  · exact ⟨-1000000000, by simp [f_X11_tell, has2_no c1 (by omega) (Or.inl d)], by simp [f_X12_tell, isCit_no c2 (by omega) (Or.inl d)], hR⟩
  · exact ⟨-1000000000, by simp [f_X11_tell, has2_no c1 (by omega) (Or.inr d)], by simp [f_X12_tell, isCit_no c2 (by omega) (Or.inr d)], hR⟩
  · obtain ⟨s, hs, e1, e2⟩ := share_eq h1 h6 hc h4
    have x := has2_yes c1 (by omega) hc
    have y := isCit_yes c2 (by omega) hc
    have eA : f_X11_tell (μ 0) (μ 1) (μ 3) (μ 5) (nI c) p2 = if p2 = 0 then some (μ 5 1 c) else if p2 = 1 then some (μ 5 2 c) else if p2 = 2 then some (nI s) else if p2 = 3 then some (μ 5 3 c) else if p2 = 4 then some (frV (μ 1) (μ 5) nb c) else if p2 = 5 then some (μ 5 5 c) else if p2 = 6 then some (μ 5 6 c) else if p2 = 7 then some (μ 5 7 c) else some (-1000000000) := by
      unfold f_X11_tell
      have hin : ¬ (nI c < 0 ∨ 8 ≤ (nI c).toNatClampNeg) := nI_in (N := 8) (by omega) (by decide)
      rw [x, Option.bind_some, if_neg (show ¬ (1 : Int32) = 0 by decide), nI_clamp (n := c) (by omega), e1, freeSlips_eq h2.2.1 h2.1 (by omega), Option.bind_some, Option.bind_some]
      rw [nI_clamp (n := c) (by omega)] at hin
      simp only [hin, if_false]
    have eB : f_X12_tell M (nI c) p2 = if p2 = 0 then some (μ 5 1 c) else if p2 = 1 then some (μ 5 2 c) else if p2 = 2 then some (nI s) else if p2 = 3 then some (μ 5 3 c) else if p2 = 4 then some (frV (μ 1) (μ 5) nb c) else if p2 = 5 then some (μ 5 5 c) else if p2 = 6 then some (μ 5 6 c) else if p2 = 7 then some (μ 5 7 c) else some (-1000000000) := by
      unfold f_X12_tell
      rw [y, Option.bind_some, if_neg (show ¬ (1 : Int32) = 0 by decide), e2, mfree_eq h2 h6 hc, of_eq M c 2 2 rfl (by omega) (by decide), h6.row hc (by decide), Option.bind_some, Option.bind_some, Option.bind_some]
      by_cases q0 : p2 = 0
      · rw [if_pos q0, if_pos q0, of_eq M c p2 0 q0 (by omega) (by decide), h6.row hc (by decide)]; rfl
      rw [if_neg q0, if_neg q0]
      by_cases q1 : p2 = 1
      · rw [if_pos q1, if_pos q1, of_eq M c p2 1 q1 (by omega) (by decide), h6.row hc (by decide)]; rfl
      rw [if_neg q1, if_neg q1]
      by_cases q2 : p2 = 2
      · rw [if_pos q2, if_pos q2]
      rw [if_neg q2, if_neg q2]
      by_cases q3 : p2 = 3
      · rw [if_pos q3, if_pos q3]
      rw [if_neg q3, if_neg q3]
      by_cases q4 : p2 = 4
      · rw [if_pos q4, if_pos q4]
      rw [if_neg q4, if_neg q4]
      by_cases q5 : p2 = 5
      · rw [if_pos q5, if_pos q5, of_eq M c (p2 - 1) 4 (by rw [q5]; rfl) (by omega) (by decide), h6.row hc (by decide)]; rfl
      rw [if_neg q5, if_neg q5]
      by_cases q6 : p2 = 6
      · rw [if_pos q6, if_pos q6, of_eq M c (p2 - 1) 5 (by rw [q6]; rfl) (by omega) (by decide), h6.row hc (by decide)]; rfl
      rw [if_neg q6, if_neg q6]
      by_cases q7 : p2 = 7
      · rw [if_pos q7, if_pos q7, of_eq M c (p2 - 1) 6 (by rw [q7]; rfl) (by omega) (by decide), h6.row hc (by decide)]; rfl
      rw [if_neg q7, if_neg q7]
    have ex : ∃ r, f_X12_tell M (nI c) p2 = some r := by
      rw [eB]
      split
      · exact ⟨_, rfl⟩
      · split
        · exact ⟨_, rfl⟩
        · split
          · exact ⟨_, rfl⟩
          · split
            · exact ⟨_, rfl⟩
            · split
              · exact ⟨_, rfl⟩
              · split
                · exact ⟨_, rfl⟩
                · split
                  · exact ⟨_, rfl⟩
                  · split
                    · exact ⟨_, rfl⟩
                    · exact ⟨_, rfl⟩
    obtain ⟨r, er⟩ := ex
    exact ⟨r, (eA.trans eB.symm).trans er, er, hR⟩
