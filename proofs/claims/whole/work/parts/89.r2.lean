/-! ===== decree: one token, read by both ===== -/
def kd (t : Nat) : Nat := if t = 0 then 0 else if t = 12 then 1 else if t = 13 then 4 else if 58 ≤ t then 2 else 3
def wd (t : Nat) : Nat := if t = 6 then 20 else if t = 7 then 21 else if t = 8 then 22 else if t = 9 then 30 else if t = 10 then 31 else if t = 11 then 32 else t
def TOK (t v : Nat) (H M : Mem) : Prop := (t ≤ 13 ∨ (58 ≤ t ∧ t ≤ 62)) ∧ H 1 0 = nI t ∧ M 5 0 = nI (kd t) ∧ (t = 12 → H 4 0 = nI v ∧ M 6 0 = nI v ∧ v ≤ 999) ∧ (58 ≤ t → M 7 0 = nI t) ∧ (1 ≤ t → t ≤ 11 → M 8 0 = nI (wd t))
theorem kd_le (t : Nat) : kd t ≤ 4 := by
  unfold kd
  repeat' split
  all_goals omega
theorem wd_le {t : Nat} (h : t ≤ 62) : wd t ≤ 62 := by
  unfold wd
  repeat' split
  all_goals omega
theorem kd0 {t : Nat} : kd t = 0 ↔ t = 0 := by
  unfold kd
  repeat' split
  all_goals omega
theorem kd1 {t : Nat} : kd t = 1 ↔ t = 12 := by
  unfold kd
  repeat' split
  all_goals omega
theorem kd2 {t : Nat} : kd t = 2 ↔ 58 ≤ t := by
  unfold kd
  repeat' split
  all_goals omega
theorem kd3 {t : Nat} (h : t ≤ 13 ∨ (58 ≤ t ∧ t ≤ 62)) : kd t = 3 ↔ (1 ≤ t ∧ t ≤ 11) := by
  unfold kd
  repeat' split
  all_goals omega
section TK
variable {t v : Nat} {H M : Mem}
theorem TOK.t62 (h : TOK t v H M) : t ≤ 62 := by
  have := h.1
  omega
theorem TOK.m0 (h : TOK t v H M) : (M 5 0 = 0) ↔ t = 0 := by
  rw [h.2.2.1]
  have := kd_le t
  exact (nI_eq (b := 0) (by omega) (by decide)).trans kd0
theorem TOK.m1 (h : TOK t v H M) : (M 5 0 = (1 : Int32)) ↔ t = 12 := by
  rw [h.2.2.1]
  have := kd_le t
  exact (nI_eq (b := 1) (by omega) (by decide)).trans kd1
theorem TOK.m2 (h : TOK t v H M) : (M 5 0 = (2 : Int32)) ↔ 58 ≤ t := by
  rw [h.2.2.1]
  have := kd_le t
  exact (nI_eq (b := 2) (by omega) (by decide)).trans kd2
theorem TOK.m3 (h : TOK t v H M) : (M 5 0 = (3 : Int32)) ↔ (1 ≤ t ∧ t ≤ 11) := by
  rw [h.2.2.1]
  have := kd_le t
  exact (nI_eq (b := 3) (by omega) (by decide)).trans (kd3 h.1)
theorem TOK.hq (h : TOK t v H M) {c : Nat} (hc : c < 1000) : (H 1 0 = nI c) ↔ t = c := by
  rw [h.2.1]
  have := h.t62
  exact nI_eq (by omega) (by omega)
end TK
section Lex
variable {tp : Nat} {T : Mem} {z : Nat → Nat}
theorem lex (hT : TPO tp T z) {p : Nat} {H M : Mem} (hp : p ≤ tp) (hH : H 3 0 = nI p) (hM : M 3 0 = nI p) (hB : TMO tp M z) : ∃ (H' M' : Mem) (st p' t v : Nat), f_X9_step H T = some H' ∧ f_X12_advance M = some M' ∧ p ≤ st ∧ st ≤ p' ∧ p' ≤ tp ∧ H' 3 0 = nI p' ∧ M' 3 0 = nI p' ∧ H' 2 0 = nI st ∧ M' 4 0 = nI st ∧ TOK t v H' M' ∧ (t ≠ 0 → st < p') ∧ ∀ k, (k < 3 ∨ 8 < k) → M' k = M k := by
  have ht := hT.2.1
  obtain ⟨n, hn⟩ : ∃ n, FU = n + 1 := ⟨99999, rfl⟩
  have hFU : 401 < FU := FU_gt (by decide)
  obtain ⟨H1, M1, st, s1, s2, e1, e2, h1, m1, k1⟩ := blanks_L hT (tp - p) p FU FU H M (by omega) (by omega) (by omega) hH hM hB
  have hB1 : TMO tp M1 z := hB.cg (k1 0 (by decide)) (k1 2 (by decide))
  unfold f_X9_step f_X12_advance
  rw [e1, e2]
  unfold f_X9_step_L45 advT
  rw [wr_s (upS H1 2 (H1 3 0)), wr_s (upS M1 4 (M1 3 0)), upS_ne (k := 2) (j := 3) (by decide), h1, m1, upS_ne (k := 4) (j := 3) (by decide), m1]
  have hB2 : TMO tp (upS M1 4 (nI st)) z := hB1.cg (upS_ne (by decide)) (upS_ne (by decide))
  by_cases q : st < tp
  · rw [hT.1, if_pos (nI_lt q (by omega)), if_neg (nI_in (N := 400) (by omega) (by decide)), nI_clamp (n := st) (by omega), letter_eq hT q, Option.bind_some, mbyte_in hB2 ht q, Option.bind_some]
    have hz := (hT.2.2 st q).1
    rw [if_pos (nI_pos' (by omega)), mletter_eq, nrng (x := z st) (lo := 97) (hi := 122) (by omega) (by decide) (by decide) 97 122 rfl rfl, Option.bind_some]
    by_cases ql : 97 ≤ z st ∧ z st ≤ 122
    · rw [if_pos ql, if_neg (by decide), if_neg (by decide)]
      obtain ⟨H', M', p', g1, g2, g3, g4, g5, g6, g7, g8, g9, g10, g11⟩ := word_L hT (st := st) (tp - st) st FU FU (upS H1 2 (nI st)) (upS M1 4 (nI st)) 0 (by omega) (by omega) (by omega) (Nat.le_refl _) (upS_at _ _ _ _) (upS_at _ _ _ _) (by rw [upS_ne (by decide)]; exact h1) (by rw [upS_ne (by decide)]; exact m1) hB2 (fun j hj => absurd hj (by omega)) (fun _ => by rw [Nat.sub_self]; rfl)
      unfold f_X9_stepWord
      rw [g4, g5]
      have hlt := g10 q ql.1 ql.2
      obtain ⟨a, b, w1, w2, w3⟩ := word_eq hT (st := st) (p := p') g2 hlt g3 (H := H') g8 g6
      rw [w1, w2, Option.bind_some, Option.bind_some, Option.bind_some]
      unfold f_X12_advance_L161
      rw [wr_s, upS_at]
      have fin : ∀ t : Nat, (1 ≤ t ∧ t ≤ 11) → a = nI t → b = nI (wd t) → b ≠ 99 → ∃ (H'' M'' : Mem) (st' p'' t v : Nat), some (upS H' 1 a) = some H'' ∧ (if b = (99 : Int32) then wr (upS (upS M' 8 b) 5 4) fun M => some M else wr (upS (upS M' 8 b) 5 3) fun M => some M) = some M'' ∧ p ≤ st' ∧ st' ≤ p'' ∧ p'' ≤ tp ∧ H'' 3 0 = nI p'' ∧ M'' 3 0 = nI p'' ∧ H'' 2 0 = nI st' ∧ M'' 4 0 = nI st' ∧ TOK t v H'' M'' ∧ (t ≠ 0 → st' < p'') ∧ ∀ k, (k < 3 ∨ 8 < k) → M'' k = M k := by
        intro t ht1 ea eb hb
        refine ⟨_, _, st, p', t, 0, rfl, by rw [if_neg hb, wr_s], s1, by omega, g2, by rw [upS_ne (by decide)]; exact g6, by rw [upS_ne (by decide), upS_ne (by decide)]; exact g7, by rw [upS_ne (by decide)]; exact g8, by rw [upS_ne (by decide), upS_ne (by decide)]; exact g9, ⟨by omega, by rw [upS_at]; exact ea, by rw [upS_at, (kd3 (t := t) (by omega)).mpr ht1]; rfl, fun w => by omega, fun w => by omega, fun _ _ => by rw [upS_ne (by decide), upS_at]; exact eb⟩, fun _ => hlt, fun k hk => ?_⟩
        rw [upS_ne (by omega), upS_ne (by omega), g11 k (by omega), upS_ne (by omega), k1 k (by omega)]
      rcases w3 with ⟨ea, eb⟩ | ⟨ea, eb⟩ | ⟨ea, eb⟩ | ⟨ea, eb⟩ | ⟨ea, eb⟩ | ⟨ea, eb⟩ | ⟨ea, eb⟩ | ⟨ea, eb⟩ | ⟨ea, eb⟩ | ⟨ea, eb⟩ | ⟨ea, eb⟩ | ⟨ea, eb⟩
      · refine ⟨_, _, st, p', 13, 0, rfl, by rw [if_pos eb, wr_s], s1, by omega, g2, by rw [upS_ne (by decide)]; exact g6, by rw [upS_ne (by decide), upS_ne (by decide)]; exact g7, by rw [upS_ne (by decide)]; exact g8, by rw [upS_ne (by decide), upS_ne (by decide)]; exact g9, ⟨by omega, by rw [upS_at, ea]; rfl, by rw [upS_at]; rfl, fun w => by omega, fun w => by omega, fun _ w => by omega⟩, fun _ => hlt, fun k hk => ?_⟩
        rw [upS_ne (by omega), upS_ne (by omega), g11 k (by omega), upS_ne (by omega), k1 k (by omega)]
      · exact fin 9 (by decide) ea eb (by rw [eb]; decide)
      · exact fin 10 (by decide) ea eb (by rw [eb]; decide)
      · exact fin 1 (by decide) ea eb (by rw [eb]; decide)
      · exact fin 2 (by decide) ea eb (by rw [eb]; decide)
      · exact fin 3 (by decide) ea eb (by rw [eb]; decide)
      · exact fin 5 (by decide) ea eb (by rw [eb]; decide)
      · exact fin 7 (by decide) ea eb (by rw [eb]; decide)
      · exact fin 11 (by decide) ea eb (by rw [eb]; decide)
      · exact fin 8 (by decide) ea eb (by rw [eb]; decide)
      · exact fin 4 (by decide) ea eb (by rw [eb]; decide)
      · exact fin 6 (by decide) ea eb (by rw [eb]; decide)
    · rw [if_neg ql, if_pos rfl, if_pos rfl, digit_eq hT q, Option.bind_some, mdigit_eq, nrng (x := z st) (lo := 48) (hi := 57) (by omega) (by decide) (by decide) 48 57 rfl rfl, Option.bind_some]
      by_cases qd : 48 ≤ z st ∧ z st ≤ 57
      · rw [if_pos qd, if_neg (by decide), if_neg (by decide), wr_s]
        unfold f_X9_stepNumber
        rw [wr_s]
        obtain ⟨H', M', p', g1, g2, g3, g4, g5, g6, g7, g8, g9, g10, g11⟩ := number_L hT (st := st) (tp - st) st FU FU (upS (upS H1 2 (nI st)) 4 0) (upS (upS M1 4 (nI st)) 6 0) (by omega) (by omega) (by omega) (Nat.le_refl _) (by rw [upS_ne (by decide)]; exact upS_at _ _ _ _) (by rw [upS_ne (by decide)]; exact upS_at _ _ _ _) (by rw [upS_ne (by decide), upS_ne (by decide)]; exact h1) (by rw [upS_ne (by decide), upS_ne (by decide)]; exact m1) (hB2.cg (upS_ne (by decide)) (upS_ne (by decide))) (fun j hj => absurd hj (by omega)) (fun _ => by rw [Nat.sub_self]; exact ⟨upS_at _ _ _ _, upS_at _ _ _ _⟩)
        rw [g3, g4, Option.bind_some]
        have hlt := g10 q qd.1 qd.2
        have hk : ∀ k, (k < 3 ∨ 8 < k) → M' k = M k := fun k hk => by rw [g11 k (by omega) (by omega) (by omega), upS_ne (by omega), upS_ne (by omega), k1 k (by omega)]
        rcases g9 with ⟨a1, a2, a3, v, a4, a5⟩ | ⟨a1, a2⟩
        · exact ⟨_, _, st, p', 12, v, rfl, rfl, s1, by omega, g2, g5, g6, g7, g8, ⟨by omega, a1, a2, fun _ => ⟨a5, a3.trans a5, a4⟩, fun w => by omega, fun _ w => by omega⟩, fun _ => hlt, hk⟩
        · exact ⟨_, _, st, p', 13, 0, rfl, rfl, s1, by omega, g2, g5, g6, g7, g8, ⟨by omega, a1, a2, fun w => by omega, fun w => by omega, fun _ w => by omega⟩, fun _ => hlt, hk⟩
      · rw [if_neg qd, if_pos rfl, if_pos rfl, cls_rng hT q (lo := 58) (hi := 62) (by decide) (by decide) (by decide) 58 62 rfl rfl, Option.bind_some]
        simp only [wr_s]
        rw [nI_1]
        have esg : f_X12_isSignByte (nI (z st)) = some (if 58 ≤ z st ∧ z st ≤ 62 then 1 else 0) := by
          have e58 : (nI (z st) = (58 : Int32)) ↔ z st = 58 := nI_eq (b := 58) (by omega) (by decide)
          have e59 : (nI (z st) = (59 : Int32)) ↔ z st = 59 := nI_eq (b := 59) (by omega) (by decide)
          have e60 : (nI (z st) = (60 : Int32)) ↔ z st = 60 := nI_eq (b := 60) (by omega) (by decide)
          have e61 : (nI (z st) = (61 : Int32)) ↔ z st = 61 := nI_eq (b := 61) (by omega) (by decide)
          have e62 : (nI (z st) = (62 : Int32)) ↔ z st = 62 := nI_eq (b := 62) (by omega) (by decide)
          unfold f_X12_isSignByte
          simp only [e58, e59, e60, e61, e62]
          repeat' split
          all_goals first | rfl | omega
        rw [esg, Option.bind_some]
        have hk : ∀ k, (k < 3 ∨ 8 < k) → ∀ w, (upS (upS (upS (upS M1 4 (nI st)) 3 (nI (st + 1))) 7 (nI (z st))) 5 w) k = M k := fun k hk w => by rw [upS_ne (by omega), upS_ne (by omega), upS_ne (by omega), upS_ne (by omega), k1 k (by omega)]
        by_cases qs : 58 ≤ z st ∧ z st ≤ 62
        · rw [if_pos qs, if_neg (by decide), if_neg (by decide), upS_ne (k := 1) (j := 3) (by decide), upS_ne (k := 2) (j := 3) (by decide), h1, nI_1]
          have hTz : T 0 st = nI (z st) := by
            rcases (hT.2.2 st q).2 with ⟨_, e⟩ | ⟨e, _⟩
            · exact e
            · omega
          refine ⟨_, _, st, st + 1, z st, 0, rfl, rfl, s1, by omega, by omega, upS_at _ _ _ _, by rw [upS_ne (by decide), upS_ne (by decide)]; exact upS_at _ _ _ _, by rw [upS_ne (by decide), upS_ne (by decide)]; exact upS_at _ _ _ _, by rw [upS_ne (by decide), upS_ne (by decide), upS_ne (by decide)]; exact upS_at _ _ _ _, ⟨by omega, by rw [upS_ne (by decide), upS_at]; exact hTz, by rw [upS_at, kd2.mpr qs.1]; rfl, fun w => by omega, fun _ => by rw [upS_ne (by decide), upS_at], fun _ w => by omega⟩, fun _ => by omega, fun k hk' => hk k hk' _⟩
        · rw [if_neg qs, if_pos rfl, if_pos rfl, upS_ne (k := 1) (j := 3) (by decide), upS_ne (k := 2) (j := 3) (by decide), h1, nI_1]
          refine ⟨_, _, st, st + 1, 13, 0, rfl, rfl, s1, by omega, by omega, upS_at _ _ _ _, by rw [upS_ne (by decide), upS_ne (by decide)]; exact upS_at _ _ _ _, by rw [upS_ne (by decide), upS_ne (by decide)]; exact upS_at _ _ _ _, by rw [upS_ne (by decide), upS_ne (by decide), upS_ne (by decide)]; exact upS_at _ _ _ _, ⟨by omega, by rw [upS_ne (by decide), upS_at]; rfl, by rw [upS_at]; rfl, fun w => by omega, fun w => by omega, fun _ w => by omega⟩, fun _ => by omega, fun k hk' => hk k hk' _⟩
  · have e : st = tp := by omega
    subst e
    rw [hT.1, if_neg (nI_nlt (Nat.le_refl _) (by omega)), mbyte_end hB2 (Nat.le_refl _) ht, Option.bind_some, if_neg (by decide), wr_s, wr_s]
    refine ⟨_, _, st, st, 0, 0, rfl, rfl, s1, Nat.le_refl _, Nat.le_refl _, by rw [upS_ne (by decide), upS_ne (by decide)]; exact h1, by rw [upS_ne (by decide), upS_ne (by decide)]; exact m1, by rw [upS_ne (by decide)]; exact upS_at _ _ _ _, by rw [upS_ne (by decide)]; exact upS_at _ _ _ _, ⟨by omega, by rw [upS_at]; rfl, by rw [upS_at]; rfl, fun w => by omega, fun w => by omega, fun w _ => by omega⟩, fun w => absurd rfl w, fun k hk => ?_⟩
    rw [upS_ne (by omega), upS_ne (by omega), k1 k (by omega)]
end Lex
