/-! ===== decree: the claims, a state of the class each ===== -/
def cmpT (M : Mem) : Option Mem :=
  wr (upA M 12 (2 : Int32) (M 7 0)) fun M_h_101 =>
  if (M_h_101 5 0) = (2 : Int32) then (
    if (M_h_101 7 0) = (58 : Int32) then (
      Option.bind (f_X12_stops M_h_101) fun M_h_129 => some M_h_129
    ) else (
      if (M_h_101 7 0) = (59 : Int32) then (
        Option.bind (f_X12_stops M_h_101) fun M_h_129 => some M_h_129
      ) else (
        Option.bind (f_X12_advance M_h_101) fun M_h_134 =>
        bd2 (f_X12_numbered M_h_134) fun r143 M_h_143 =>
        wr (upA M_h_143 12 (3 : Int32) r143) fun M_h_146 => some M_h_146
      )
    )
  ) else (
    Option.bind (f_X12_stops M_h_101) fun M_h_129 => some M_h_129
  )
def TL (m m2 q : Nat) (X : Option Mem) : Option (Int32 × Mem) := Option.bind (Option.bind X fun M => f_X12_aLine_L45 (f_X12_aLine_L26 m2) FU M (nI q) (0 : Int32)) fun M => f_X12_decree_L54 m M
def limT (M : Mem) : Option Mem := bd2 (f_X12_numbered M) fun r M => wr (upA M 12 (3 : Int32) r) fun M => some M
def C0 (tp : Nat) (T : Mem) (z : Nat → Nat) (B B1 : Nat → Int32) (d : Nat) : Prop := ∀ (i st p t v n m ln : Nat) (R H D M : Mem), (t ≠ 0 → tp - p < d) → DLX tp z i st p t v H M → MB B B1 R M → 99000 ≤ n + i → 99000 ≤ m + i → R 5 0 = 0 → R 6 0 = nI ln → M 10 0 = nI ln → ln ≤ i → SC0 R D (M 11) ln → FIN B B1 (GG n R H T D i) (f_X12_decree_L54 m M)
def C1 (tp : Nat) (T : Mem) (z : Nat → Nat) (B B1 : Nat → Int32) (d : Nat) : Prop := ∀ (i st p t v n m m2 ln q : Nat) (R H D M : Mem), (t ≠ 0 → tp - p < d) → DLX tp z i st p t v H M → MB B B1 R M → 99000 ≤ n + i → 99000 ≤ m + i → 99000 ≤ m2 + i → R 5 0 = 1 → R 6 0 = nI ln → M 10 0 = nI ln → ln + 1 ≤ i → R 7 0 = nI q → q ≤ i → SC1 R D (M 11) ln q 4 → FIN B B1 (GG n R H T D i) (Option.bind (f_X12_aLine_L26 m2 M (nI q) 1) fun M => f_X12_decree_L54 m M)
def C2 (tp : Nat) (T : Mem) (z : Nat → Nat) (B B1 : Nat → Int32) (d : Nat) : Prop := ∀ (i st p t v n m m2 ln q : Nat) (R H D M : Mem), (t ≠ 0 → tp - p < d) → DLX tp z i st p t v H M → MB B B1 R M → 99000 ≤ n + i → 99000 ≤ m + i → 99000 ≤ m2 + i → R 5 0 = 2 → R 6 0 = nI ln → M 10 0 = nI ln → ln + 1 ≤ i → R 7 0 = nI q → q ≤ i → R 8 0 = nI 1 → SC1 R D (M 11) ln q 3 → FIN B B1 (GG n R H T D i) (TL m m2 q (f_X12_aTest_L19 M (1 : Int32) (0 : Int32)))
def C3 (tp : Nat) (T : Mem) (z : Nat → Nat) (B B1 : Nat → Int32) (d : Nat) : Prop := ∀ (i st p t v n m m2 ln q ng sj : Nat) (R H D M : Mem), (t ≠ 0 → tp - p < d) → DLX tp z i st p t v H M → MB B B1 R M → 99000 ≤ n + i → 99000 ≤ m + i → 99000 ≤ m2 + i → R 5 0 = 3 → R 6 0 = nI ln → M 10 0 = nI ln → ln + 1 ≤ i → R 7 0 = nI q → q ≤ i → R 8 0 = nI ng → ng ≤ 1 → R 9 0 = nI sj → 2 ≤ sj → sj ≤ 5 → M 12 0 = nI ng → M 12 1 = nI sj → SC1 R D (M 11) ln q 3 → FIN B B1 (GG n R H T D i) (TL m m2 q (cmpT M))
def C4 (tp : Nat) (T : Mem) (z : Nat → Nat) (B B1 : Nat → Int32) (d : Nat) : Prop := ∀ (i st p t v n m m2 ln q ng sj c : Nat) (R H D M : Mem), (t ≠ 0 → tp - p < d) → DLX tp z i st p t v H M → MB B B1 R M → 99000 ≤ n + i → 99000 ≤ m + i → 99000 ≤ m2 + i → R 5 0 = 4 → R 6 0 = nI ln → M 10 0 = nI ln → ln + 1 ≤ i → R 7 0 = nI q → q ≤ i → R 8 0 = nI ng → ng ≤ 1 → R 9 0 = nI sj → 2 ≤ sj → sj ≤ 5 → M 12 0 = nI ng → M 12 1 = nI sj → R 10 0 = nI c → M 12 2 = nI c → SC1 R D (M 11) ln q 3 → FIN B B1 (GG n R H T D i) (TL m m2 q (limT M))
def C5 (tp : Nat) (T : Mem) (z : Nat → Nat) (B B1 : Nat → Int32) (d : Nat) : Prop := ∀ (i st p t v n m m2 ln q : Nat) (R H D M : Mem), (t ≠ 0 → tp - p < d) → DLX tp z i st p t v H M → MB B B1 R M → 99000 ≤ n + i → 99000 ≤ m + i → 99000 ≤ m2 + i → R 5 0 = 5 → R 6 0 = nI ln → M 10 0 = nI ln → ln + 1 ≤ i → R 7 0 = nI (q + 1) → q + 1 ≤ i → SC1 R D (M 11) ln (q + 1) 4 → FIN B B1 (GG n R H T D i) (Option.bind (bd2 (f_X12_takes M (31 : Int32)) fun r M' => f_X12_aLine_L26 m2 M' (nI (q + 1)) r) fun M => f_X12_decree_L54 m M)
def C6 (tp : Nat) (T : Mem) (z : Nat → Nat) (B B1 : Nat → Int32) (d : Nat) : Prop := ∀ (i st p t v n m ln q : Nat) (R H D M : Mem), (t ≠ 0 → tp - p < d) → DLX tp z i st p t v H M → MB B B1 R M → 99000 ≤ n + i → 99000 ≤ m + i → R 5 0 = 6 → R 6 0 = nI ln → M 10 0 = nI ln → ln + 1 ≤ i → R 7 0 = nI q → q ≤ i → SC1 R D (M 11) ln q 4 → FIN B B1 (GG n R H T D i) (Option.bind (f_X12_aLine_L97 M (nI q)) fun M => f_X12_decree_L54 m M)
def C7 (tp : Nat) (T : Mem) (z : Nat → Nat) (B B1 : Nat → Int32) (d : Nat) : Prop := ∀ (i st p t v n m ln q ac : Nat) (R H D M : Mem), (t ≠ 0 → tp - p < d) → DLX tp z i st p t v H M → MB B B1 R M → 99000 ≤ n + i → 99000 ≤ m + i → R 5 0 = 7 → R 6 0 = nI ln → M 10 0 = nI ln → ln + 1 ≤ i → R 7 0 = nI q → q ≤ i → R 11 0 = nI ac → 6 ≤ ac → ac ≤ 8 → SC1 R D (M 11) ln q 4 → FIN B B1 (GG n R H T D i) (Option.bind (bd2 (f_X12_numbered M) fun r M' => f_X12_aLine_L154 M' (nI q) (nI (wd ac)) r) fun M => f_X12_decree_L54 m M)
def C8 (tp : Nat) (T : Mem) (z : Nat → Nat) (B B1 : Nat → Int32) (d : Nat) : Prop := ∀ (i st p t v n m ln q ac w : Nat) (R H D M : Mem), (t ≠ 0 → tp - p < d) → DLX tp z i st p t v H M → MB B B1 R M → 99000 ≤ n + i → 99000 ≤ m + i → R 5 0 = 8 → R 6 0 = nI (ln + 1) → M 10 0 = nI ln → ln + 1 ≤ i → 6 ≤ ac → ac ≤ 8 → w ≤ 999 → SC8 R D (M 11) ln q ac w → FIN B B1 (GG n R H T D i) (Option.bind (f_X12_aLine_L154 M (nI q) (nI (wd ac)) (nI w)) fun M => f_X12_decree_L54 m M)
def CALL (tp : Nat) (T : Mem) (z : Nat → Nat) (B B1 : Nat → Int32) (d : Nat) : Prop := C0 tp T z B B1 d ∧ C1 tp T z B B1 d ∧ C2 tp T z B B1 d ∧ C3 tp T z B B1 d ∧ C4 tp T z B B1 d ∧ C5 tp T z B B1 d ∧ C6 tp T z B B1 d ∧ C7 tp T z B B1 d ∧ C8 tp T z B B1 d
theorem upN_at {M : Mem} {k i : Nat} {w : Int32} (h : i < 1000000) : upA M k (nI i) w k i = w := by
  rw [upA_at, nI_clamp (by omega)]
  exact pk_us
theorem upN_ne {M : Mem} {k i j : Nat} {w : Int32} (h : i < 1000000) (hj : j ≠ i) : upA M k (nI i) w k j = M k j := by
  rw [upA_at, nI_clamp (by omega)]
  exact pk_un hj
section Dec
variable {tp : Nat} {T : Mem} {z : Nat → Nat} {B B1 : Nat → Int32} {i st p t v n m m2 ln q : Nat} {R H M D : Mem}
theorem puts_y {x : Nat} (hl : M 10 0 = nI ln) (hb : ln < 16) (hx : x ≤ 18) (w : Int32) : f_X12_puts M (nI x) w = some (upA M 11 (nI (19 * ln + x)) w) := by
  rw [puts_eq hl (by omega) hx, if_pos hb]
theorem puts_n {x : Nat} (hl : M 10 0 = nI ln) (h1 : ln ≤ 1000) (hb : ¬ ln < 16) (hx : x ≤ 18) (w : Int32) : f_X12_puts M (nI x) w = some M := by
  rw [puts_eq hl h1 hx, if_neg hb]
theorem puts3 (hl : M 10 0 = nI ln) (hb : ln ≤ 999) (a b c : Int32) : ∃ M3 : Mem, (Option.bind (f_X12_puts M (0 : Int32) a) fun M_h_164 => Option.bind (f_X12_puts M_h_164 (17 : Int32) b) fun M_h_171 => Option.bind (f_X12_puts M_h_171 (18 : Int32) c) fun M_h_178 => wr (upS M_h_178 10 ((M_h_178 10 0) + (1 : Int32))) fun M_h_188 => some M_h_188) = some M3 ∧ M3 10 0 = nI (ln + 1) ∧ (∀ k, k ≠ 10 → k ≠ 11 → M3 k = M k) ∧ (ln < 16 → M3 11 (19 * ln) = a ∧ M3 11 (19 * ln + 17) = b ∧ M3 11 (19 * ln + 18) = c ∧ ∀ x, x ≠ 19 * ln → x ≠ 19 * ln + 17 → x ≠ 19 * ln + 18 → M3 11 x = M 11 x) := by
  by_cases q : ln < 16
  · have e1 : f_X12_puts M (0 : Int32) a = some (upA M 11 (nI (19 * ln + 0)) a) := puts_y (x := 0) hl q (by decide) a
    have e2 : f_X12_puts (upA M 11 (nI (19 * ln + 0)) a) (17 : Int32) b = some (upA (upA M 11 (nI (19 * ln + 0)) a) 11 (nI (19 * ln + 17)) b) := puts_y (x := 17) (by rw [upA_ne (by decide)]; exact hl) q (by decide) b
    have e3 : f_X12_puts (upA (upA M 11 (nI (19 * ln + 0)) a) 11 (nI (19 * ln + 17)) b) (18 : Int32) c = some (upA (upA (upA M 11 (nI (19 * ln + 0)) a) 11 (nI (19 * ln + 17)) b) 11 (nI (19 * ln + 18)) c) := puts_y (x := 18) (by rw [upA_ne (by decide), upA_ne (by decide)]; exact hl) q (by decide) c
    rw [e1, Option.bind_some, e2, Option.bind_some, e3, Option.bind_some, wr_s]
    refine ⟨_, rfl, ?_, fun k h1 h2 => ?_, fun _ => ⟨?_, ?_, ?_, fun x h1 h2 h3 => ?_⟩⟩
    · rw [upS_at, upA_ne (by decide), upA_ne (by decide), upA_ne (by decide), hl, nI_1]
    · rw [upS_ne h1, upA_ne h2, upA_ne h2, upA_ne h2]
    · rw [upS_ne (by decide), upN_ne (by omega) (by omega), upN_ne (by omega) (by omega)]
      exact upN_at (i := 19 * ln) (by omega)
    · rw [upS_ne (by decide), upN_ne (by omega) (by omega), upN_at (by omega)]
    · rw [upS_ne (by decide), upN_at (by omega)]
    · rw [upS_ne (by decide), upN_ne (by omega) h3, upN_ne (by omega) h2, upN_ne (by omega) (by omega)]
  · have e1 : f_X12_puts M (0 : Int32) a = some M := puts_n (x := 0) hl (by omega) q (by decide) a
    have e2 : f_X12_puts M (17 : Int32) b = some M := puts_n (x := 17) hl (by omega) q (by decide) b
    have e3 : f_X12_puts M (18 : Int32) c = some M := puts_n (x := 18) hl (by omega) q (by decide) c
    rw [e1, Option.bind_some, e2, Option.bind_some, e3, Option.bind_some, wr_s]
    exact ⟨_, rfl, by rw [upS_at, hl, nI_1], fun k h1 h2 => upS_ne h1, fun w => absurd w q⟩
theorem STP.up {M3 : Mem} {l : Nat} (h : STP B B1 st M) (hl : l ≤ 1000) (h10 : M3 10 0 = nI l) (e : ∀ k, k ≠ 10 → k ≠ 11 → M3 k = M k) : STP B B1 st M3 := by
  obtain ⟨a, b, c, d, f, g⟩ := h
  unfold STP
  rw [e 0 (by decide) (by decide), e 1 (by decide) (by decide), e 9 (by decide) (by decide)]
  exact ⟨a, b, c, d, f, l, hl, h10⟩
theorem DLX.ok (hT : TPO tp T z) (h : DLX tp z i st p t v H M) : i ≤ 400 := by
  have := h.2.2.2.2.2.2.2.1
  have := hT.2.1
  omega
theorem DLX.tk (h : DLX tp z i st p t v H M) : TOK t v H M := h.2.2.2.2.1
/-- state 8: the line's end -/
theorem d_s8 (hT : TPO tp T z) (hN : t ≠ 0 → ∃ d, CALL tp T z B B1 d ∧ tp - p ≤ d) {ac w : Nat} (hL : DLX tp z i st p t v H M) (hM : MB B B1 R M) (hn : 99000 ≤ n + i) (hm : 99000 ≤ m + i) (h5 : R 5 0 = 8) (h6 : R 6 0 = nI (ln + 1)) (h10 : M 10 0 = nI ln) (hln : ln + 1 ≤ i) (ha : 6 ≤ ac) (ha' : ac ≤ 8) (hw : w ≤ 999) (hS : SC8 R D (M 11) ln q ac w) : FIN B B1 (GG n R H T D i) (Option.bind (f_X12_aLine_L154 M (nI q) (nI (wd ac)) (nI w)) fun M => f_X12_decree_L54 m M) := by
  have hi := hL.ok hT
  have hK := hL.tk
  refine OUT.fin ?_ hL.2.2.1 (Or.inr (by rw [h5]; decide))
  unfold f_X4_take
  rw [h5, if_neg (by decide), if_neg (by decide), if_neg (by decide), if_neg (by decide), if_neg (by decide), if_neg (by decide), if_neg (by decide), if_neg (by decide)]
  refine OUT.wrap2 ?_
  unfold f_X4_takeLineEnd f_X12_aLine_L154
  rw [wr_s]
  have e59 : (H 1 0 = (59 : Int32)) ↔ t = 59 := hK.hq (c := 59) (by decide)
  by_cases q59 : t = 59
  · rw [if_pos (e59.mpr q59), bd2_s]
    obtain ⟨H', M', st', p', t', v', a1, a2, a3, a4, a5⟩ := nxt hT hL (by omega)
    obtain ⟨n', rfl, a2⟩ := a2 n (upS R 5 0) D hn
    refine Or.inr ⟨_, _, rfl, ?_⟩
    have e : f_X12_must M (59 : Int32) = some M' := must_y (c := 59) hM.2.2.1 hK (by decide) q59 a1
    obtain ⟨M3, b1, b2, b3, b4⟩ := puts3 (M := M') (ln := ln) (by rw [a5 10 (by decide)]; exact h10) (by omega) (nI q) (nI (wd ac)) (nI w)
    rw [a2, e, Option.bind_some, b1, Option.bind_some]
    obtain ⟨d, hA, hd⟩ := hN (by omega)
    refine hA.1 (i + 1) st' p' t' v' n' m (ln + 1) (upS R 5 0) H' D M3 (fun x => ?_) (a3.cg (fun k _ _ => b3 k (by omega) (by omega)) (fun j _ => by rw [b3 0 (by decide) (by decide)])) (hM.cg (fun k _ _ => upS_ne (by omega)) ((b3 0 (by decide) (by decide)).trans (a5 0 (by decide))) ((b3 1 (by decide) (by decide)).trans (a5 1 (by decide))) ((b3 9 (by decide) (by decide)).trans (a5 9 (by decide)))) (by omega) (by omega) (upS_at _ _ _ _) (by rw [upS_ne (by decide)]; exact h6) b2 (by omega) ?_
    · have := a4 x
      have := a3.2.2.2.2.2.2.1
      omega
    · intro hx
      rw [upS_ne (by decide)] at hx
      obtain ⟨s1, s2, s3, s4, s5, s6, s7, s8⟩ := hS hx
      obtain ⟨w1, w2, w3, w4⟩ := b4 s1
      rw [a5 11 (by decide)] at w4
      refine ⟨by omega, s3, fun k hk => ?_⟩
      by_cases c : k = ln
      · subst c
        exact ⟨⟨q, s2, s6, w1, fun j hj => (s5 j hj).cg (by omega) (fun x h1 h2 => w4 x (by omega) (by omega) (by omega)) (fun _ _ _ => rfl)⟩, ⟨ac, ha, ha', s7, w2⟩, w3.trans s8.symm, w, hw, s8⟩
      · exact (s4 k (by omega)).cg (fun x h1 h2 => w4 x (by omega) (by omega) (by omega)) (fun _ _ _ => rfl) (fun _ _ _ _ _ => rfl)
  · rw [if_neg (fun e => q59 (e59.mp e)), bd2_s]
    have e : f_X12_must M (59 : Int32) = some (stpM M) := must_n (c := 59) hM.2.2.1 hK (by decide) q59
    have hst := stpM_STP (st := st) hM hL.2.2.2.1 h10 (by omega)
    obtain ⟨M3, b1, b2, b3, b4⟩ := puts3 (M := stpM M) (ln := ln) (by rw [stpM, upA_ne (by decide), upA_ne (by decide), upS_ne (by decide)]; exact h10) (by omega) (nI q) (nI (wd ac)) (nI w)
    rw [e, Option.bind_some, b1, Option.bind_some]
    have hs3 := hst.up (l := ln + 1) (by omega) b2 b3
    obtain ⟨m, rfl⟩ : ∃ m', m = m' + 1 := ⟨m - 1, by omega⟩
    exact Or.inl ⟨_, _, M3, rfl, stp_54 hs3 m, hs3⟩
end Dec
