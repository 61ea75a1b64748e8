/-! ===== decree: the reader of tokens ===== -/
theorem byte_of {t : Int32} (h : t.toInt8.toInt32 = t) : ∃ z : Nat, z ≤ 255 ∧ (t &&& 255) = nI z ∧ ((z ≤ 127 ∧ t = nI z) ∨ (128 ≤ z ∧ t < 0)) := by
  have hr := lg_i2b_range t
  rw [h] at hr
  by_cases q : t < 0
  · have q' := Int32.lt_iff_toInt_lt.mp q
    have e0 : (0 : Int32).toInt = 0 := rfl
    rw [e0] at q'
    have ea := pk_and t (m := 255) 8 (by decide)
    have et : t.toInt = if 2 * t.toBitVec.toNat < 2 ^ 32 then (t.toBitVec.toNat : Int) else (t.toBitVec.toNat : Int) - (2 ^ 32 : Nat) := BitVec.toInt_eq_toNat_cond t.toBitVec
    have hlt : t.toBitVec.toNat < 2 ^ 32 := t.toBitVec.isLt
    split at et
    · omega
    · refine ⟨t.toBitVec.toNat % 2 ^ 8, by omega, ea, Or.inr ⟨by omega, q⟩⟩
  · obtain ⟨z, hz, rfl⟩ := nI_of q
    have e1 : (nI z).toInt = (z : Int) := nI_toInt hz
    rw [e1] at hr
    refine ⟨z, by omega, ?_, Or.inl ⟨by omega, rfl⟩⟩
    have := pk_andN (n := z) (by omega) (m := 255) 8 (by decide)
    rw [this]
    congr 1
    omega
def TPO (tp : Nat) (T : Mem) (z : Nat → Nat) : Prop := T 1 0 = nI tp ∧ tp ≤ 400 ∧ ∀ j, j < tp → z j ≤ 255 ∧ ((z j ≤ 127 ∧ T 0 j = nI (z j)) ∨ (128 ≤ z j ∧ T 0 j < 0))
def TMO (tp : Nat) (M : Mem) (z : Nat → Nat) : Prop := M 2 0 = nI tp ∧ ∀ j, j < tp → M 0 (2390 + j) = nI (z j)
theorem TMO.cg {tp : Nat} {M M' : Mem} {z : Nat → Nat} (h : TMO tp M z) (e0 : M' 0 = M 0) (e2 : M' 2 = M 2) : TMO tp M' z := ⟨by rw [e2]; exact h.1, fun j hj => by rw [e0]; exact h.2 j hj⟩
section Lex
variable {tp : Nat} {T : Mem} {z : Nat → Nat}
theorem cls_rng (hT : TPO tp T z) {j lo hi : Nat} (hj : j < tp) (h0 : 0 < lo) (h1 : hi ≤ 127) (h2 : lo ≤ 127) (a b : Int32) (ea : a = nI lo) (eb : b = nI hi) : f_X11_within (T 0 j) a b = some (if lo ≤ z j ∧ z j ≤ hi then 1 else 0) := by
  subst ea
  subst eb
  rw [within_eq]
  obtain ⟨x, h⟩ := hT.2.2 j hj
  rcases h with ⟨h, e⟩ | ⟨h, e⟩
  · rw [e]
    by_cases q : lo ≤ z j ∧ z j ≤ hi
    · rw [if_pos q, if_pos ⟨nI_le q.1 (by omega), nI_le q.2 (by omega)⟩]
    · rw [if_neg q, if_neg (fun w => q ⟨(nI_leI (by omega) (by omega)).mp w.1, (nI_leI (by omega) (by omega)).mp w.2⟩)]
  · rw [if_neg (show ¬ (lo ≤ z j ∧ z j ≤ hi) by omega), if_neg]
    intro w
    have a1 := Int32.le_iff_toInt_le.mp w.1
    have a2 := Int32.lt_iff_toInt_lt.mp e
    have e0 : (0 : Int32).toInt = 0 := rfl
    rw [nI_toInt (by omega)] at a1
    rw [e0] at a2
    omega
theorem cls_eq (hT : TPO tp T z) {j c : Nat} (hj : j < tp) (h1 : c ≤ 127) : (T 0 j = nI c) ↔ z j = c := by
  obtain ⟨x, h⟩ := hT.2.2 j hj
  rcases h with ⟨h, e⟩ | ⟨h, e⟩
  · rw [e]
    exact nI_eq (by omega) (by omega)
  · constructor
    · intro w
      rw [w] at e
      exact absurd e (nI_pos (by omega))
    · intro w
      omega
theorem digit_eq (hT : TPO tp T z) {j : Nat} (hj : j < tp) : f_X9_isDigit (T 0 j) = some (if 48 ≤ z j ∧ z j ≤ 57 then 1 else 0) := by
  unfold f_X9_isDigit
  rw [cls_rng hT hj (lo := 48) (hi := 57) (by decide) (by decide) (by decide) 48 57 rfl rfl, Option.bind_some]
  split <;> rfl
theorem letter_eq (hT : TPO tp T z) {j : Nat} (hj : j < tp) : f_X9_isLetter (T 0 j) = some (if 97 ≤ z j ∧ z j ≤ 122 then 1 else 0) := by
  unfold f_X9_isLetter
  rw [cls_rng hT hj (lo := 97) (hi := 122) (by decide) (by decide) (by decide) 97 122 rfl rfl, Option.bind_some]
  split <;> rfl
theorem blank_eq (hT : TPO tp T z) {j : Nat} (hj : j < tp) : f_X9_isBlank (T 0 j) = some (if z j = 10 ∨ z j = 32 then 1 else 0) := by
  unfold f_X9_isBlank
  have e1 : (T 0 j = (10 : Int32)) ↔ z j = 10 := cls_eq hT hj (c := 10) (by decide)
  have e2 : (T 0 j = (32 : Int32)) ↔ z j = 32 := cls_eq hT hj (c := 32) (by decide)
  simp only [e1, e2]
  by_cases q : z j = 10
  · rw [if_pos q, if_pos (Or.inl q)]
  · rw [if_neg q]
    by_cases w : z j = 32
    · rw [if_pos w, if_pos (Or.inr w)]
    · rw [if_neg w, if_neg (by omega)]
theorem mbyte_in {M : Mem} (h : TMO tp M z) (ht : tp ≤ 400) {p : Nat} (hp : p < tp) : f_X12_byteAt M (nI p) = some (nI (z p)) := by
  unfold f_X12_byteAt
  rw [h.1, if_neg (nI_ge hp (by omega)), show (2390 : Int32) + nI p = nI (2390 + p) from nI_add 2390 p, if_neg (nI_in (by omega) (by decide)), nI_clamp (by omega), h.2 p hp]
theorem mbyte_end {M : Mem} (h : TMO tp M z) {p : Nat} (hp : tp ≤ p) (h4 : p ≤ 400) : f_X12_byteAt M (nI p) = some (-1) := by
  unfold f_X12_byteAt
  rw [h.1, if_pos (nI_le hp (by omega))]
theorem mletter_eq (v : Int32) : f_X12_isLetter v = f_X11_within v 97 122 := rfl
theorem mdigit_eq (v : Int32) : f_X12_isDigit v = f_X11_within v 48 57 := rfl
theorem nrng {x lo hi : Nat} (h : x < 1000) (hl : lo < 1000) (hh : hi < 1000) (a b : Int32) (ea : a = nI lo) (eb : b = nI hi) : f_X11_within (nI x) a b = some (if lo ≤ x ∧ x ≤ hi then 1 else 0) := by
  subst ea
  subst eb
  rw [within_eq]
  by_cases q : lo ≤ x ∧ x ≤ hi
  · rw [if_pos q, if_pos ⟨nI_le q.1 (by omega), nI_le q.2 (by omega)⟩]
  · rw [if_neg q, if_neg (fun w => q ⟨(nI_leI (by omega) (by omega)).mp w.1, (nI_leI (by omega) (by omega)).mp w.2⟩)]
/-- what the reference does behind the blanks -/
def advT (M : Mem) : Option Mem :=
  wr (upS M 4 (M 3 0)) fun M_h_44 =>
  Option.bind (f_X12_byteAt M_h_44 (M_h_44 3 0)) fun r52 =>
  if 0 ≤ r52 then (
    Option.bind (f_X12_isLetter r52) fun r69 =>
    if r69 = 0 then (
      Option.bind (f_X12_isDigit r52) fun r186 =>
      if r186 = 0 then (
        wr (upS M_h_44 3 ((M_h_44 3 0) + (1 : Int32))) fun M_h_292 =>
        wr (upS M_h_292 7 r52) fun M_h_297 =>
        Option.bind (f_X12_isSignByte r52) fun r302 =>
        if r302 = 0 then (
          wr (upS M_h_297 5 (4 : Int32)) fun M_h_313 =>
          some M_h_313
        ) else (
          wr (upS M_h_297 5 (2 : Int32)) fun M_h_313 =>
          some M_h_313
        )
      ) else (
        wr (upS M_h_44 6 (0 : Int32)) fun M_h_194 =>
        f_X12_advance_L197 FU M_h_194
      )
    ) else (
      f_X12_advance_L77 FU M_h_44 (0 : Int64)
    )
  ) else (
    wr (upS M_h_44 5 (0 : Int32)) fun M_h_62 =>
    some M_h_62
  )
theorem blanks_L (hT : TPO tp T z) : ∀ (d p n m : Nat) (H M : Mem), p + d = tp → d < n → d < m → H 3 0 = nI p → M 3 0 = nI p → TMO tp M z → ∃ (H' M' : Mem) (st : Nat), p ≤ st ∧ st ≤ tp ∧ f_X9_step_L0 n H T = f_X9_step_L45 H' T ∧ f_X12_advance_L0 m M = advT M' ∧ H' 3 0 = nI st ∧ M' 3 0 = nI st ∧ ∀ k, k ≠ 3 → M' k = M k
  | 0, p, n + 1, m + 1, H, M, h, _, _, hH, hM, hB => by
    have e : p = tp := by omega
    subst e
    have ht := hT.2.1
    refine ⟨H, M, p, Nat.le_refl _, Nat.le_refl _, ?_, ?_, hH, hM, fun _ _ => rfl⟩
    · rw [f_X9_step_L0, if_pos (by rw [hT.1, hH]; exact Int32.le_refl _)]
    · rw [f_X12_advance_L0, hM, mbyte_end hB (Nat.le_refl _) ht, Option.bind_some, if_neg (by decide), Option.bind_some, if_neg (by decide)]
      rw [← hM]
      rfl
  | d + 1, p, n + 1, m + 1, H, M, h, hn, hm, hH, hM, hB => by
    have ht := hT.2.1
    have hp : p < tp := by omega
    have hz := (hT.2.2 p hp).1
    have eA : f_X9_step_L0 (n + 1) H T = if z p = 10 ∨ z p = 32 then f_X9_step_L0 n (upS H 3 (nI (p + 1))) T else f_X9_step_L45 H T := by
      rw [f_X9_step_L0, if_neg (by rw [hT.1, hH]; exact nI_ge hp (by omega)), hH, if_neg (nI_in (N := 400) (by omega) (by decide)), nI_clamp (n := p) (by omega), blank_eq hT hp, Option.bind_some, nI_1]
      by_cases q : z p = 10 ∨ z p = 32
      · rw [if_pos q, if_pos q, if_neg (show ¬ (1 : Int32) = 0 by decide), wr_s]
      · rw [if_neg q, if_neg q, if_pos rfl]
    have eB : f_X12_advance_L0 (m + 1) M = if z p = 10 ∨ z p = 32 then f_X12_advance_L0 m (upS M 3 (nI (p + 1))) else advT M := by
      have e1 : (nI (z p) = (10 : Int32)) ↔ z p = 10 := nI_eq (b := 10) (by omega) (by decide)
      have e2 : (nI (z p) = (32 : Int32)) ↔ z p = 32 := nI_eq (b := 32) (by omega) (by decide)
      rw [f_X12_advance_L0, hM, mbyte_in hB ht hp, Option.bind_some, Option.bind_some, nI_1, wr_s]
      simp only [e1, e2]
      by_cases q : z p = 10
      · rw [if_pos q, if_pos (Or.inl q)]
      · rw [if_neg q]
        by_cases w : z p = 32
        · rw [if_pos w, if_pos (Or.inr w)]
        · rw [if_neg w, if_neg (by omega)]
          unfold advT
          rw [hM]
    rw [eA, eB]
    by_cases q : z p = 10 ∨ z p = 32
    · rw [if_pos q, if_pos q]
      obtain ⟨H', M', st, g1, g2, g3, g4, g5, g6, g7⟩ := blanks_L hT d (p + 1) n m (upS H 3 (nI (p + 1))) (upS M 3 (nI (p + 1))) (by omega) (by omega) (by omega) (upS_at _ _ _ _) (upS_at _ _ _ _) (hB.cg (upS_ne (by decide)) (upS_ne (by decide)))
      exact ⟨H', M', st, by omega, g2, g3, g4, g5, g6, fun k hk => by rw [g7 k hk, upS_ne hk]⟩
    · rw [if_neg q, if_neg q]
      exact ⟨H, M, p, Nat.le_refl _, by omega, rfl, rfl, hH, hM, fun _ _ => rfl⟩
  | d, p, 0, m, _, _, _, hn, _, _, _, _ => absurd hn (by omega)
  | d, p, n, 0, _, _, _, _, hm, _, _, _ => absurd hm (by omega)
/-- a number -/
def valN (z : Nat → Nat) (st : Nat) : Nat → Nat
  | 0 => 0
  | k + 1 => 10 * valN z st k + (z (st + k) - 48)
theorem valN_lt (z : Nat → Nat) (st : Nat) : ∀ k, (∀ j, j < k → 48 ≤ z (st + j) ∧ z (st + j) ≤ 57) → valN z st k < 10 ^ k
  | 0, _ => by simp [valN]
  | k + 1, h => by
    have ih := valN_lt z st k (fun j hj => h j (by omega))
    have := h k (by omega)
    rw [valN, Nat.pow_succ]
    omega
theorem number_L (hT : TPO tp T z) {st : Nat} : ∀ (d p n m : Nat) (H M : Mem), p + d = tp → d < n → d < m → st ≤ p → H 2 0 = nI st → M 4 0 = nI st → H 3 0 = nI p → M 3 0 = nI p → TMO tp M z → (∀ j, st + j < p → 48 ≤ z (st + j) ∧ z (st + j) ≤ 57) → (p - st ≤ 3 → H 4 0 = nI (valN z st (p - st)) ∧ M 6 0 = nI (valN z st (p - st))) →
    ∃ (H' M' : Mem) (p' : Nat), p ≤ p' ∧ p' ≤ tp ∧ f_X9_stepNumber_L5 n H T = some H' ∧ f_X12_advance_L197 m M = some M' ∧ H' 3 0 = nI p' ∧ M' 3 0 = nI p' ∧ H' 2 0 = nI st ∧ M' 4 0 = nI st ∧ ((H' 1 0 = 12 ∧ M' 5 0 = 1 ∧ M' 6 0 = H' 4 0 ∧ ∃ v, v ≤ 999 ∧ H' 4 0 = nI v) ∨ (H' 1 0 = 13 ∧ M' 5 0 = 4)) ∧ (p < tp → 48 ≤ z p → z p ≤ 57 → p < p') ∧ ∀ k, k ≠ 3 → k ≠ 5 → k ≠ 6 → M' k = M k := by
  intro d
  induction d with
  | zero =>
    intro p n m H M h hn hm hsp h2 h4 hH hM hB hz hv
    obtain ⟨n, rfl⟩ : ∃ n', n = n' + 1 := ⟨n - 1, by omega⟩
    obtain ⟨m, rfl⟩ : ∃ m', m = m' + 1 := ⟨m - 1, by omega⟩
    have e : p = tp := by omega
    subst e
    have ht := hT.2.1
    rw [f_X9_stepNumber_L5, if_pos (by rw [hT.1, hH]; exact Int32.le_refl _), f_X12_advance_L197, hM, mbyte_end hB (Nat.le_refl _) ht, Option.bind_some, show f_X12_isDigit (-1) = some 0 from rfl, Option.bind_some, if_pos rfl, wr_s, wr_s, h4]
    unfold f_X9_stepNumber_L77
    rw [hH, h2, wr_s, wr_s, pk_sub hsp]
    by_cases q : p - st ≤ 3
    · rw [if_neg (show ¬ (3 : Int32) < nI (p - st) from nI_nlt (a := 3) q (by decide)), if_pos (show nI (p - st) ≤ (3 : Int32) from nI_le (b := 3) q (by decide))]
      obtain ⟨v1, v2⟩ := hv q
      refine ⟨_, _, p, Nat.le_refl _, Nat.le_refl _, rfl, rfl, by rw [upS_ne (by decide)]; exact hH, by rw [upS_ne (by decide)]; exact hM, by rw [upS_ne (by decide)]; exact h2, by rw [upS_ne (by decide)]; exact h4, Or.inl ⟨upS_at _ _ _ _, upS_at _ _ _ _, by rw [upS_ne (by decide), upS_ne (by decide), v1, v2], valN z st (p - st), ?_, by rw [upS_ne (by decide)]; exact v1⟩, fun w => absurd w (by omega), fun k _ hk _ => upS_ne hk⟩
      have b := valN_lt z st (p - st) (fun j hj => hz j (by omega))
      have : 10 ^ (p - st) ≤ 10 ^ 3 := Nat.pow_le_pow_right (by decide) q
      omega
    · rw [if_pos (show (3 : Int32) < nI (p - st) from nI_lt (a := 3) (by omega) (by omega)), if_neg (show ¬ nI (p - st) ≤ (3 : Int32) from nI_ge (a := 3) (by omega) (by omega))]
      exact ⟨_, _, p, Nat.le_refl _, Nat.le_refl _, rfl, rfl, by rw [upS_ne (by decide)]; exact hH, by rw [upS_ne (by decide)]; exact hM, by rw [upS_ne (by decide)]; exact h2, by rw [upS_ne (by decide)]; exact h4, Or.inr ⟨upS_at _ _ _ _, upS_at _ _ _ _⟩, fun w => absurd w (by omega), fun k _ hk _ => upS_ne hk⟩
  | succ d ih =>
    intro p n m H M h hn hm hsp h2 h4 hH hM hB hz hv
    obtain ⟨n, rfl⟩ : ∃ n', n = n' + 1 := ⟨n - 1, by omega⟩
    obtain ⟨m, rfl⟩ : ∃ m', m = m' + 1 := ⟨m - 1, by omega⟩
    have ht := hT.2.1
    have hp : p < tp := by omega
    have hz255 := (hT.2.2 p hp).1
    rw [f_X9_stepNumber_L5, if_neg (by rw [hT.1, hH]; exact nI_ge hp (by omega)), hH, if_neg (nI_in (N := 400) (by omega) (by decide)), nI_clamp (n := p) (by omega), digit_eq hT hp, Option.bind_some, f_X12_advance_L197, hM, mbyte_in hB ht hp, Option.bind_some, mdigit_eq, nrng (x := z p) (lo := 48) (hi := 57) (by omega) (by decide) (by decide) 48 57 rfl rfl, Option.bind_some, Option.bind_some]
    by_cases q9 : 48 ≤ z p ∧ z p ≤ 57
    · rw [if_pos q9, if_neg (show ¬ (1 : Int32) = 0 by decide), if_neg (show ¬ (1 : Int32) = 0 by decide), wr_s, wr_s, upS_ne (k := 4) (j := 3) (by decide), hH, nI_1, h4, pk_sub hsp, wr_s, wr_s, wr_s]
      have hTz : T 0 p = nI (z p) := by
        rcases (hT.2.2 p hp).2 with ⟨_, e⟩ | ⟨e, _⟩
        · exact e
        · omega
      rw [hTz]
      have hz' : ∀ j, st + j < p + 1 → 48 ≤ z (st + j) ∧ z (st + j) ≤ 57 := by
        intro j hj
        by_cases w : st + j = p
        · rw [w]; exact q9
        · exact hz j (by omega)
      by_cases q : p - st < 3
      · obtain ⟨v1, v2⟩ := hv (by omega)
        rw [if_neg (show ¬ (3 : Int32) ≤ nI (p - st) from nI_ge (b := 3) q (by decide)), upS_ne (k := 6) (j := 3) (by decide), hM, nI_1]
        have e1 : p + 1 - st = (p - st) + 1 := by omega
        have e2 : st + (p - st) = p := by omega
        have hval : valN z st (p + 1 - st) = 10 * valN z st (p - st) + (z p - 48) := by rw [e1, valN, e2]
        obtain ⟨H', M', p', g1, g2, g3, g4, g5, g6, g7, g8, g9, gq, g10⟩ := ih (p + 1) n m (upS (upS H 4 (H 4 0 * 10 + (nI (z p) - 48))) 3 (nI (p + 1))) (upS (upS M 6 ((10 : Int32) * M 6 0 + nI (z p) - 48)) 3 (nI (p + 1))) (by omega) (by omega) (by omega) (by omega) (by rw [upS_ne (by decide), upS_ne (by decide)]; exact h2) (by rw [upS_ne (by decide), upS_ne (by decide)]; exact h4) (upS_at _ _ _ _) (upS_at _ _ _ _) (hB.cg (by rw [upS_ne (by decide), upS_ne (by decide)]) (by rw [upS_ne (by decide), upS_ne (by decide)])) hz' (fun _ => by
            rw [upS_ne (by decide), upS_at, upS_ne (by decide), upS_at, v1, v2, hval]
            refine ⟨?_, ?_⟩
            · rw [show nI (z p) - (48 : Int32) = nI (z p - 48) from pk_sub (b := 48) q9.1]
              show nI (valN z st (p - st)) * nI 10 + _ = _
              rw [pk_mul, nI_add, Nat.mul_comm]
            · show nI 10 * nI (valN z st (p - st)) + nI (z p) - nI 48 = _
              rw [pk_mul, nI_add, pk_sub (by omega)]
              congr 1
              omega)
        exact ⟨H', M', p', by omega, g2, g3, g4, g5, g6, g7, g8, g9, fun _ _ _ => by omega, fun k a b c => by rw [g10 k a b c, upS_ne a, upS_ne c]⟩
      · rw [if_pos (show (3 : Int32) ≤ nI (p - st) from nI_le (a := 3) (by omega) (by omega))]
        obtain ⟨H', M', p', g1, g2, g3, g4, g5, g6, g7, g8, g9, gq, g10⟩ := ih (p + 1) n m (upS (upS H 4 (H 4 0 * 10 + (nI (z p) - 48))) 3 (nI (p + 1))) (upS M 3 (nI (p + 1))) (by omega) (by omega) (by omega) (by omega) (by rw [upS_ne (by decide), upS_ne (by decide)]; exact h2) (by rw [upS_ne (by decide)]; exact h4) (upS_at _ _ _ _) (upS_at _ _ _ _) (hB.cg (by rw [upS_ne (by decide)]) (by rw [upS_ne (by decide)])) hz' (fun w => absurd w (by omega))
        exact ⟨H', M', p', by omega, g2, g3, g4, g5, g6, g7, g8, g9, fun _ _ _ => by omega, fun k a b c => by rw [g10 k a b c, upS_ne a]⟩
    · rw [if_neg q9, if_pos rfl, if_pos rfl, wr_s, wr_s, h4]
      unfold f_X9_stepNumber_L77
      rw [hH, h2, wr_s, wr_s, pk_sub hsp]
      by_cases q : p - st ≤ 3
      · rw [if_neg (show ¬ (3 : Int32) < nI (p - st) from nI_nlt (a := 3) q (by decide)), if_pos (show nI (p - st) ≤ (3 : Int32) from nI_le (b := 3) q (by decide))]
        obtain ⟨v1, v2⟩ := hv q
        refine ⟨_, _, p, Nat.le_refl _, by omega, rfl, rfl, by rw [upS_ne (by decide)]; exact hH, by rw [upS_ne (by decide)]; exact hM, by rw [upS_ne (by decide)]; exact h2, by rw [upS_ne (by decide)]; exact h4, Or.inl ⟨upS_at _ _ _ _, upS_at _ _ _ _, by rw [upS_ne (by decide), upS_ne (by decide), v1, v2], valN z st (p - st), ?_, by rw [upS_ne (by decide)]; exact v1⟩, fun _ a b => absurd ⟨a, b⟩ q9, fun k _ hk _ => upS_ne hk⟩
        have b := valN_lt z st (p - st) (fun j hj => hz j (by omega))
        have : 10 ^ (p - st) ≤ 10 ^ 3 := Nat.pow_le_pow_right (by decide) q
        omega
      · rw [if_pos (show (3 : Int32) < nI (p - st) from nI_lt (a := 3) (by omega) (by omega)), if_neg (show ¬ nI (p - st) ≤ (3 : Int32) from nI_ge (a := 3) (by omega) (by omega))]
        exact ⟨_, _, p, Nat.le_refl _, by omega, rfl, rfl, by rw [upS_ne (by decide)]; exact hH, by rw [upS_ne (by decide)]; exact hM, by rw [upS_ne (by decide)]; exact h2, by rw [upS_ne (by decide)]; exact h4, Or.inr ⟨upS_at _ _ _ _, upS_at _ _ _ _⟩, fun _ a b => absurd ⟨a, b⟩ q9, fun k _ hk _ => upS_ne hk⟩
end Lex
