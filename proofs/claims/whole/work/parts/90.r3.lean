/-! ===== decree: what both hold between two tokens ===== -/
def DLX (tp : Nat) (z : Nat → Nat) (i st p t v : Nat) (H M : Mem) : Prop := H 3 0 = nI p ∧ M 3 0 = nI p ∧ H 2 0 = nI st ∧ M 4 0 = nI st ∧ TOK t v H M ∧ st ≤ p ∧ p ≤ tp ∧ i ≤ tp ∧ (t ≠ 0 → i + 1 ≤ p) ∧ TMO tp M z
def MB (B B1 : Nat → Int32) (R M : Mem) : Prop := (∀ k, k ≠ 13 → k ≠ 14 → M 0 k = B k) ∧ M 1 = B1 ∧ M 9 0 = 0 ∧ R 2 0 = 0 ∧ R 3 0 = -1 ∧ ((R 4 0 = -1 ∧ M 0 13 = 0 ∧ M 0 14 = -1) ∨ (∃ e : Nat, e ≤ 400 ∧ R 4 0 = nI e ∧ M 0 13 = 3 ∧ M 0 14 = nI e))
def TR (D : Mem) (W : Nat → Int32) (k j : Nat) : Prop := W (19 * k + 1 + 4 * j) = D 4 (4 * k + j) ∧ W (19 * k + 1 + 4 * j + 1) = D 5 (4 * k + j) ∧ W (19 * k + 1 + 4 * j + 2) = D 6 (4 * k + j) ∧ W (19 * k + 1 + 4 * j + 3) = D 7 (4 * k + j) ∧ (D 4 (4 * k + j) = 0 ∨ D 4 (4 * k + j) = 1) ∧ (∃ z : Nat, 1 ≤ z ∧ z ≤ 5 ∧ D 5 (4 * k + j) = nI z)
def LR (D : Mem) (W : Nat → Int32) (k : Nat) : Prop :=
  (∃ t : Nat, t ≤ 4 ∧ D 3 k = nI t ∧ W (19 * k) = nI t ∧ ∀ j, j < t → TR D W k j) ∧ (∃ a : Nat, 6 ≤ a ∧ a ≤ 8 ∧ D 1 k = nI a ∧ W (19 * k + 17) = nI (wd a)) ∧ W (19 * k + 18) = D 2 k ∧ (∃ z : Nat, z ≤ 999 ∧ D 2 k = nI z)
theorem TR.cg {D D' : Mem} {W W' : Nat → Int32} {k j : Nat} (h : TR D W k j) (hj : j < 4) (e : ∀ x, 19 * k + 1 ≤ x → x ≤ 19 * k + 16 → W' x = W x) (f : ∀ c, 4 ≤ c → c ≤ 7 → D' c (4 * k + j) = D c (4 * k + j)) : TR D' W' k j := by
  obtain ⟨a, b, c, d, g⟩ := h
  unfold TR
  rw [f 4 (by decide) (by decide), f 5 (by decide) (by decide), f 6 (by decide) (by decide), f 7 (by decide) (by decide), e _ (by omega) (by omega), e _ (by omega) (by omega), e _ (by omega) (by omega), e _ (by omega) (by omega)]
  exact ⟨a, b, c, d, g⟩
theorem LR.cg {D D' : Mem} {W W' : Nat → Int32} {k : Nat} (h : LR D W k) (e : ∀ x, 19 * k ≤ x → x ≤ 19 * k + 18 → W' x = W x) (f : ∀ c, 1 ≤ c → c ≤ 3 → D' c k = D c k) (g : ∀ c j, 4 ≤ c → c ≤ 7 → j < 4 → D' c (4 * k + j) = D c (4 * k + j)) : LR D' W' k := by
  obtain ⟨⟨t, t0, t1, t2, t3⟩, ⟨a, a0, a1, a2, a3⟩, b, c⟩ := h
  refine ⟨⟨t, t0, by rw [f 3 (by decide) (by decide)]; exact t1, by rw [e _ (by omega) (by omega)]; exact t2, fun j hj => (t3 j hj).cg (by omega) (fun x _ _ => e x (by omega) (by omega)) (fun c h1 h2 => g c j h1 h2 (by omega))⟩, ⟨a, a0, a1, by rw [f 1 (by decide) (by decide)]; exact a2, by rw [e _ (by omega) (by omega)]; exact a3⟩, by rw [f 2 (by decide) (by decide), e _ (by omega) (by omega)]; exact b, by rw [f 2 (by decide) (by decide)]; exact c⟩
def SC0 (R D : Mem) (W : Nat → Int32) (ln : Nat) : Prop := R 4 0 = -1 → ln ≤ 16 ∧ D 0 0 = nI ln ∧ ∀ k, k < ln → LR D W k
def SC1 (R D : Mem) (W : Nat → Int32) (ln q b : Nat) : Prop := R 4 0 = -1 → ln < 16 ∧ q ≤ b ∧ D 0 0 = nI ln ∧ (∀ k, k < ln → LR D W k) ∧ ∀ j, j < q → TR D W ln j
def SC8 (R D : Mem) (W : Nat → Int32) (ln q a w : Nat) : Prop := R 4 0 = -1 → ln < 16 ∧ q ≤ 4 ∧ D 0 0 = nI (ln + 1) ∧ (∀ k, k < ln → LR D W k) ∧ (∀ j, j < q → TR D W ln j) ∧ D 3 ln = nI q ∧ D 1 ln = nI a ∧ D 2 ln = nI w
theorem bd4_s {α β δ ε γ : Type} (a : α) (b : β) (c : δ) (d : ε) (k : α → β → δ → ε → Option γ) : bd4 (some (a, b, c, d)) k = k a b c d := rfl
/-- the class's reading, without the two tapes that it hands through -/
def rt_L40 (K6 : Mem → Mem → Mem → Mem → Int32 → Option (Mem × Mem × Mem)) (R H T D : Mem) (x : Int32) : Option (Mem × Mem × Mem) :=
  bd3 (f_X4_take R H D) fun r R1 D1 =>
  if r = 0 then (
    wr (upS R1 2 (1 : Int32)) fun R2 =>
    wr (upS R2 3 (H 2 0)) fun R3 =>
    some (R3, H, D1)
  ) else (
    K6 R1 H T D1 (x + (1 : Int32))
  )
def rt_L70 (R H T D : Mem) : Option (Mem × Mem × Mem) :=
  if (R 4 0) = (-1 : Int32) then (
    some (R, H, D)
  ) else (
    wr (upS R 2 (3 : Int32)) fun R1 =>
    wr (upS R1 3 (R1 4 0)) fun R2 =>
    some (R2, H, D)
  )
def rt_L6 : Nat → Mem → Mem → Mem → Mem → Int32 → Option (Mem × Mem × Mem)
  | 0, _, _, _, _, _ => none
  | n + 1, R, H, T, D, x =>
    if (400 : Int32) < x then (
      rt_L70 R H T D
    ) else (
      Option.bind (f_X9_step H T) fun H1 =>
      if (H1 1 0) = 0 then (
        if (R 5 0) = 0 then (
          rt_L70 R H1 T D
        ) else (
          rt_L40 (rt_L6 n) R H1 T D x
        )
      ) else (
        rt_L40 (rt_L6 n) R H1 T D x
      )
    )
def rt_B (T : Mem) (X : Option (Mem × Mem × Mem)) : Option (Mem × Mem × Mem × Mem) := Option.bind X fun q => some (q.1, q.2.1, T, q.2.2)
theorem rt_e78 (A R H T D : Mem) : f_X4_read_L78 A R H T D = rt_B T (rt_L70 R H T D) := by
  unfold f_X4_read_L78 rt_L70
  by_cases q : R 4 0 = (-1 : Int32)
  · rw [if_pos q, if_pos q]; rfl
  · rw [if_neg q, if_neg q]; rfl
theorem rt_e48 {K14 : Mem → Mem → Mem → Mem → Mem → Int32 → Option (Mem × Mem × Mem × Mem)} {K6 : Mem → Mem → Mem → Mem → Int32 → Option (Mem × Mem × Mem)} (A R H T D : Mem) (x : Int32) (h : ∀ R D x, K14 A R H T D x = rt_B T (K6 R H T D x)) : f_X4_read_L48 K14 A R H T D x = rt_B T (rt_L40 K6 R H T D x) := by
  unfold f_X4_read_L48 rt_L40
  cases e : f_X4_take R H D with
  | none => rfl
  | some y =>
    obtain ⟨r, R1, D1⟩ := y
    rw [bd3_s, bd3_s]
    by_cases q : r = 0
    · rw [if_pos q, if_pos q]; rfl
    · rw [if_neg q, if_neg q]; exact h _ _ _
theorem rt_e14 (A T : Mem) : ∀ (n : Nat) (R H D : Mem) (x : Int32), f_X4_read_L14 n A R H T D x = rt_B T (rt_L6 n R H T D x)
  | 0, _, _, _, _ => rfl
  | n + 1, R, H, D, x => by
    have ih := fun (H1 R D : Mem) (x : Int32) => rt_e14 A T n R H1 D x
    rw [f_X4_read_L14, rt_L6]
    by_cases q : (400 : Int32) < x
    · rw [if_pos q, if_pos q]; exact rt_e78 A R H T D
    · rw [if_neg q, if_neg q]
      cases e : f_X9_step H T with
      | none => rfl
      | some H1 =>
        rw [Option.bind_some, Option.bind_some]
        by_cases q1 : H1 1 0 = 0
        · rw [if_pos q1, if_pos q1]
          by_cases q2 : R 5 0 = 0
          · rw [if_pos q2, if_pos q2]; exact rt_e78 A R H1 T D
          · rw [if_neg q2, if_neg q2]; exact rt_e48 A R H1 T D x (ih H1)
        · rw [if_neg q1, if_neg q1]; exact rt_e48 A R H1 T D x (ih H1)
/-- the class between reading a token and taking it -/
def GG (n : Nat) (R H T D : Mem) (i : Nat) : Option (Mem × Mem × Mem) :=
  if H 1 0 = 0 then (if R 5 0 = 0 then rt_L70 R H T D else rt_L40 (rt_L6 n) R H T D (nI i)) else rt_L40 (rt_L6 n) R H T D (nI i)
/-- the reference has stopped -/
def STP (B B1 : Nat → Int32) (st : Nat) (M : Mem) : Prop := (∀ k, k ≠ 13 → k ≠ 14 → M 0 k = B k) ∧ M 1 = B1 ∧ M 9 0 = 1 ∧ M 0 13 = 1 ∧ M 0 14 = nI st ∧ ∃ ln : Nat, ln ≤ 1000 ∧ M 10 0 = nI ln
def FIN (B B1 : Nat → Int32) (X : Option (Mem × Mem × Mem)) (Y : Option (Int32 × Mem)) : Prop := ∃ (R' H' D' : Mem) (r : Int32) (M' : Mem), X = some (R', H', D') ∧ Y = some (r, M') ∧ M' 1 = B1 ∧ (∀ k, k ≠ 7 → k ≠ 13 → k ≠ 14 → (k < 2080 ∨ 2384 ≤ k) → M' 0 k = B k) ∧ M' 0 13 = R' 2 0 ∧ M' 0 14 = R' 3 0 ∧ ((R' 2 0 = 0 ∧ r = D' 0 0 ∧ RLaw D' (M' 0)) ∨ (R' 2 0 ≠ 0 ∧ r = -1 ∧ ∀ k, k ≠ 13 → k ≠ 14 → M' 0 k = B k))
def OUT (B B1 : Nat → Int32) (n i st : Nat) (H T : Mem) (X : Option (Int32 × Mem × Mem)) (Y : Option (Int32 × Mem)) : Prop :=
  (∃ R1 D1 M', X = some (0, R1, D1) ∧ Y = some (-1, M') ∧ STP B B1 st M') ∨ (∃ R1 D1, X = some (1, R1, D1) ∧ FIN B B1 (rt_L6 n R1 H T D1 (nI (i + 1))) Y)
theorem bind_id {α : Type} (x : Option α) : (Option.bind x fun y => some y) = x := by cases x <;> rfl
section Dec
variable {tp : Nat} {T : Mem} {z : Nat → Nat} {B B1 : Nat → Int32} {i st p t v n : Nat} {R H M D : Mem}
theorem DLX.cg {M1 : Mem} (h : DLX tp z i st p t v H M) (e : ∀ k, 2 ≤ k → k ≤ 8 → M1 k = M k) (e0 : ∀ j, 2390 ≤ j → M1 0 j = M 0 j) : DLX tp z i st p t v H M1 := by
  obtain ⟨a, b, c, d, ⟨t0, t1, t2, t3, t4, t5⟩, f, g, x, y, w⟩ := h
  refine ⟨a, by rw [e 3 (by decide) (by decide)]; exact b, c, by rw [e 4 (by decide) (by decide)]; exact d, ⟨t0, t1, by rw [e 5 (by decide) (by decide)]; exact t2, by rw [e 6 (by decide) (by decide)]; exact t3, by rw [e 7 (by decide) (by decide)]; exact t4, by rw [e 8 (by decide) (by decide)]; exact t5⟩, f, g, x, y, by rw [e 2 (by decide) (by decide)]; exact w.1, fun j hj => by rw [e0 _ (by omega)]; exact w.2 j hj⟩
theorem MB.cg {R1 M1 : Mem} (h : MB B B1 R M) (r : ∀ k, 2 ≤ k → k ≤ 4 → R1 k = R k) (e0 : M1 0 = M 0) (e1 : M1 1 = M 1) (e9 : M1 9 = M 9) : MB B B1 R1 M1 := by
  unfold MB
  rw [r 2 (by decide) (by decide), r 3 (by decide) (by decide), r 4 (by decide) (by decide), e0, e1, e9]
  exact h
theorem OUT.fin {Y : Option (Int32 × Mem)} (h : OUT B B1 n i st H T (f_X4_take R H D) Y) (h2 : H 2 0 = nI st) (ht : H 1 0 ≠ 0 ∨ R 5 0 ≠ 0) : FIN B B1 (GG n R H T D i) Y := by
  have e : GG n R H T D i = rt_L40 (rt_L6 n) R H T D (nI i) := by
    unfold GG
    by_cases q : H 1 0 = 0
    · rw [if_pos q, if_neg (by rcases ht with w | w; exact absurd q w; exact w)]
    · rw [if_neg q]
  rw [e]
  unfold rt_L40
  rcases h with ⟨R1, D1, M', e1, e2, s⟩ | ⟨R1, D1, e1, f⟩
  · rw [e1, bd3_s, if_pos rfl, wr_s, wr_s, h2]
    obtain ⟨s1, s2, s3, s4, s5, s6⟩ := s
    refine ⟨_, _, _, _, _, rfl, e2, s2, fun k _ a b _ => s1 k a b, ?_, ?_, Or.inr ⟨?_, rfl, s1⟩⟩
    · rw [upS_ne (by decide), upS_at]
      exact s4
    · rw [upS_at]
      exact s5
    · rw [upS_ne (by decide), upS_at]
      decide
  · rw [e1, bd3_s, if_neg (by decide), nI_1]
    exact f
theorem OUT.wrap {X : Option (Int32 × Mem × Mem)} {Y : Option (Int32 × Mem)} (h : OUT B B1 n i st H T X Y) : OUT B B1 n i st H T (bd3 X fun r a b => if ¬ (r = 0 ∨ r = 1) then none else some (r, a, b)) Y := by
  rcases h with ⟨R1, D1, M', e1, e2, s⟩ | ⟨R1, D1, e1, f⟩
  · exact Or.inl ⟨R1, D1, M', by rw [e1, bd3_s, if_neg (by decide)], e2, s⟩
  · exact Or.inr ⟨R1, D1, by rw [e1, bd3_s, if_neg (by decide)], f⟩
theorem OUT.wrap2 {X : Option (Int32 × Mem)} {Y : Option (Int32 × Mem)} (h : OUT B B1 n i st H T (bd2 X fun r a => some (r, a, D)) Y) : OUT B B1 n i st H T (bd2 X fun r a => if ¬ (r = 0 ∨ r = 1) then none else some (r, a, D)) Y := by
  cases X with
  | none => exact h
  | some x =>
    obtain ⟨r, a⟩ := x
    have e : bd2 (some (r, a)) (fun r a => some (r, a, D)) = some (r, a, D) := rfl
    rw [e] at h
    have hr : r = 0 ∨ r = 1 := by
      rcases h with ⟨R1, D1, M', e1, _⟩ | ⟨R1, D1, e1, _⟩
      · injection e1 with e1
        injection e1 with e1 _
        exact Or.inl e1
      · injection e1 with e1
        injection e1 with e1 _
        exact Or.inr e1
    rw [bd2_s, if_neg (fun w => w hr)]
    exact h
/-- from a token taken by both to the next one -/
theorem nxt (hT : TPO tp T z) (h : DLX tp z i st p t v H M) (ht : t ≠ 0) : ∃ (H' M' : Mem) (st' p' t' v' : Nat), f_X12_advance M = some M' ∧ (∀ (n : Nat) (R1 D1 : Mem), 99000 ≤ n + i → ∃ n', n = n' + 1 ∧ rt_L6 n R1 H T D1 (nI (i + 1)) = GG n' R1 H' T D1 (i + 1)) ∧ DLX tp z (i + 1) st' p' t' v' H' M' ∧ (t' ≠ 0 → p < p') ∧ ∀ k, (k < 3 ∨ 8 < k) → M' k = M k := by
  obtain ⟨a, b, c, d, e, f, g, x, y, w⟩ := h
  have h400 := hT.2.1
  have hy := y ht
  obtain ⟨H', M', st', p', t', v', e1, e2, g1, g2, g3, g4, g5, g6, g7, g8, g9, g10⟩ := lex hT g a b w
  refine ⟨H', M', st', p', t', v', e2, fun n R1 D1 hn => ?_, ⟨g4, g5, g6, g7, g8, g2, g3, by omega, fun q => by have := g9 q; omega, w.cg (g10 0 (by decide)) (g10 2 (by decide))⟩, fun q => by have := g9 q; omega, g10⟩
  obtain ⟨n, rfl⟩ : ∃ n', n = n' + 1 := ⟨n - 1, by omega⟩
  refine ⟨n, rfl, ?_⟩
  rw [rt_L6, if_neg (show ¬ (400 : Int32) < nI (i + 1) from nI_nlt (a := 400) (by omega) (by decide)), e1, Option.bind_some]
  rfl
/-! the reference's small steps -/
theorem takes_y (h9 : M 9 0 = 0) (h : TOK t v H M) (h1 : 1 ≤ t) (h2 : t ≤ 11) (w : Int32) (hw : w = nI (wd t)) {M' : Mem} (ha : f_X12_advance M = some M') : f_X12_takes M w = some (1, M') := by
  unfold f_X12_takes
  rw [if_pos h9, if_pos (h.m3.mpr ⟨h1, h2⟩), if_pos (by rw [hw]; exact h.2.2.2.2.2 h1 h2), ha, Option.bind_some]
theorem takes_n (h : TOK t v H M) (w : Nat) (hw : w < 1000) (hq : 1 ≤ t → t ≤ 11 → wd t ≠ w) : f_X12_takes M (nI w) = some (0, M) := by
  unfold f_X12_takes
  by_cases h9 : M 9 0 = 0
  · rw [if_pos h9]
    by_cases q : 1 ≤ t ∧ t ≤ 11
    · have := wd_le (t := t) (by omega)
      rw [if_pos (h.m3.mpr q), if_neg (by rw [h.2.2.2.2.2 q.1 q.2]; exact fun e => hq q.1 q.2 ((nI_eq (by omega) (by omega)).mp e))]
    · rw [if_neg (fun e => q (h.m3.mp e))]
  · rw [if_neg h9]
def stpM (M : Mem) : Mem := upA (upA (upS M 9 1) 0 13 1) 0 14 (M 4 0)
theorem stops_eq (h9 : M 9 0 = 0) : f_X12_stops M = some (stpM M) := by
  unfold f_X12_stops
  rw [if_pos h9, wr_s, wr_s, wr_s, upA_ne (by decide), upS_ne (by decide)]
  rfl
theorem stops_no (h9 : M 9 0 = 1) : f_X12_stops M = some M := by
  unfold f_X12_stops
  rw [if_neg (by rw [h9]; decide)]
theorem must_y (h9 : M 9 0 = 0) (h : TOK t v H M) {c : Nat} (hc : 58 ≤ c) (hq : t = c) {M' : Mem} (ha : f_X12_advance M = some M') : f_X12_must M (nI c) = some M' := by
  subst hq
  unfold f_X12_must
  rw [if_pos h9, if_pos (h.m2.mpr hc), if_pos (h.2.2.2.2.1 hc), ha, Option.bind_some]
theorem must_n (h9 : M 9 0 = 0) (h : TOK t v H M) {c : Nat} (hc : c < 1000) (hq : t ≠ c) : f_X12_must M (nI c) = some (stpM M) := by
  unfold f_X12_must
  rw [if_pos h9, stops_eq h9, Option.bind_some]
  by_cases q : 58 ≤ t
  · have := h.t62
    rw [if_pos (h.m2.mpr q), if_neg (by rw [h.2.2.2.2.1 q]; exact fun e => hq ((nI_eq (by omega) (by omega)).mp e))]
  · rw [if_neg (fun e => q (h.m2.mp e))]
theorem numbered_y (h9 : M 9 0 = 0) (h : TOK t v H M) (hq : t = 12) {M' : Mem} (ha : f_X12_advance M = some M') : f_X12_numbered M = some (nI v, M') := by
  unfold f_X12_numbered
  rw [if_pos h9, if_pos (h.m1.mpr hq), ha, Option.bind_some, (h.2.2.2.1 hq).2.1]
theorem numbered_n (h9 : M 9 0 = 0) (h : TOK t v H M) (hq : t ≠ 12) : f_X12_numbered M = some (M 6 0, stpM M) := by
  unfold f_X12_numbered
  rw [if_pos h9, if_neg (fun e => hq (h.m1.mp e)), stops_eq h9, Option.bind_some]
theorem stpM_STP {ln : Nat} (h : MB B B1 R M) (h4 : M 4 0 = nI st) (hl : M 10 0 = nI ln) (hb : ln ≤ 1000) : STP B B1 st (stpM M) := by
  refine ⟨fun k a b => ?_, ?_, ?_, ?_, ?_, ln, hb, ?_⟩
  · rw [stpM, upA_at, show (14 : Int32).toNatClampNeg = 14 from rfl, pk_un b, upA_at, show (13 : Int32).toNatClampNeg = 13 from rfl, pk_un a, upS_ne (by decide)]
    exact h.1 k a b
  · rw [stpM, upA_ne (by decide), upA_ne (by decide), upS_ne (by decide)]
    exact h.2.1
  · rw [stpM, upA_ne (by decide), upA_ne (by decide), upS_at]
  · rw [stpM, upA_at, show (14 : Int32).toNatClampNeg = 14 from rfl, pk_un (by decide), upA_at, show (13 : Int32).toNatClampNeg = 13 from rfl, pk_us]
  · rw [stpM, upA_at, show (14 : Int32).toNatClampNeg = 14 from rfl, pk_us]
    exact h4
  · rw [stpM, upA_ne (by decide), upA_ne (by decide), upS_ne (by decide)]
    exact hl
theorem STP.cg {M1 : Mem} (h : STP B B1 st M) (e0 : M1 0 = M 0) (e1 : M1 1 = M 1) (e9 : M1 9 = M 9) (e10 : M1 10 = M 10) : STP B B1 st M1 := by
  unfold STP
  rw [e0, e1, e9, e10]
  exact h
theorem stp_takes (h9 : M 9 0 = 1) (w : Int32) : f_X12_takes M w = some (0, M) := by
  unfold f_X12_takes
  rw [if_neg (by rw [h9]; decide)]
theorem stp_must (h9 : M 9 0 = 1) (w : Int32) : f_X12_must M w = some M := by
  unfold f_X12_must
  rw [if_neg (by rw [h9]; decide), stops_no h9, Option.bind_some]
theorem stp_97 (h9 : M 9 0 = 1) (x : Int32) : f_X12_aLine_L97 M x = some M := by
  unfold f_X12_aLine_L97
  rw [if_neg (by rw [h9]; decide), stops_no h9, Option.bind_some]
theorem stp_26 (h9 : M 9 0 = 1) (m : Nat) (x : Int32) : f_X12_aLine_L26 (m + 1) M x 0 = some M := by
  rw [f_X12_aLine_L26, if_pos rfl, stp_must h9, Option.bind_some, stp_97 h9]
theorem stp_54 (h : STP B B1 st M) (m : Nat) : f_X12_decree_L54 (m + 1) M = some (-1, M) := by
  rw [f_X12_decree_L54, if_neg (by rw [h.2.2.1]; decide)]
  unfold f_X12_decree_L75
  rw [show M 0 (13 : Int32).toNatClampNeg = 1 from h.2.2.2.1, if_neg (by decide)]
theorem puts_eq {ln x : Nat} (hl : M 10 0 = nI ln) (hb : ln ≤ 1000) (hx : x ≤ 18) (w : Int32) : f_X12_puts M (nI x) w = some (if ln < 16 then upA M 11 (nI (19 * ln + x)) w else M) := by
  unfold f_X12_puts
  rw [hl]
  by_cases q : ln < 16
  · rw [if_neg (show ¬ (16 : Int32) ≤ nI ln from nI_ge (b := 16) q (by decide)), show (19 : Int32) * nI ln = nI (19 * ln) from pk_mul 19 ln, nI_add, if_neg (nI_in (by omega) (by decide)), wr_s, if_pos q]
  · rw [if_pos (show (16 : Int32) ≤ nI ln from nI_le (a := 16) (by omega) (by omega)), if_neg q]
theorem puts_ne {ln x : Nat} {w : Int32} {k : Nat} (hk : k ≠ 11) : (if ln < 16 then upA M 11 (nI (19 * ln + x)) w else M) k = M k := by
  split
  · rw [upA_ne hk]
  · rfl
end Dec
