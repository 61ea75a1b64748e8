/-! ===== decree: actions, amounts, the end of a test ===== -/
theorem wd_act {t : Nat} (h : 6 ≤ t) (h' : t ≤ 8) : wd t = t + 14 := by
  unfold wd
  repeat' split
  all_goals omega
theorem wd_act' {t : Nat} (h : t ≤ 11) (h1 : 20 ≤ wd t) (h2 : wd t ≤ 22) : 6 ≤ t ∧ t ≤ 8 := by
  unfold wd at h1 h2
  repeat' split at h1
  all_goals simp_all <;> omega
theorem wd_31 {t : Nat} (h : t ≤ 11) : wd t = 31 ↔ t = 10 := by
  unfold wd
  repeat' split
  all_goals omega
section Dec
variable {tp : Nat} {T : Mem} {z : Nat → Nat} {B B1 : Nat → Int32} {i st p t v n m m2 ln q : Nat} {R H M D : Mem}
theorem SC1.r {R1 D1 : Mem} {W W1 : Nat → Int32} {b : Nat} (h : SC1 R D W ln q b) (e : R1 4 = R 4) (eD : D1 = D) (eW : W1 = W) : SC1 R1 D1 W1 ln q b := by
  subst eD
  subst eW
  unfold SC1
  rw [e]
  exact h
theorem SC8.r {R1 : Mem} {W W1 : Nat → Int32} {a w : Nat} (h : SC8 R D W ln q a w) (e : R1 4 = R 4) (eW : W1 = W) : SC8 R1 D W1 ln q a w := by
  subst eW
  unfold SC8
  rw [e]
  exact h
theorem keepLine_eq (h6 : R 6 0 = nI ln) (h7 : R 7 0 = nI q) (hl : ln ≤ 1000) (w : Int32) : ∃ D', f_X4_keepLine R D w = some (upS (upS R 6 (nI (ln + 1))) 5 8, D') ∧ ∀ (W : Nat → Int32) (a b : Nat), R 11 0 = nI a → w = nI b → SC1 R D W ln q 4 → SC8 R D' W ln q a b := by
  unfold f_X4_keepLine f_X3_putLine
  rw [h6, h7, if_neg (nI_pos (by omega))]
  by_cases c : ln < 16
  · rw [if_neg (show ¬ (16 : Int32) ≤ nI ln from nI_ge (b := 16) c (by decide)), if_neg (nI_in c (by decide))]
    simp only [wr_s, Option.bind_some]
    rw [nI_1]
    refine ⟨_, rfl, fun W a b ea eb hS hx => ?_⟩
    obtain ⟨s1, s2, s3, s4, s5⟩ := hS hx
    refine ⟨s1, s2, upS_at _ _ _ _, fun k hk => (s4 k hk).cg (fun _ _ _ => rfl) (fun c h1 h2 => ?_) (fun c j h1 h2 _ => ?_), fun j hj => (s5 j hj).cg (by omega) (fun _ _ _ => rfl) (fun c h1 h2 => ?_), ?_, ?_, ?_⟩
    · rw [upS_ne (by omega)]
      have : c = 1 ∨ c = 2 ∨ c = 3 := by omega
      rcases this with rfl | rfl | rfl
      · rw [upA_ne (by decide), upA_ne (by decide), upN_ne (by omega) (by omega)]
      · rw [upA_ne (by decide), upN_ne (by omega) (by omega), upA_ne (by decide)]
      · rw [upN_ne (by omega) (by omega), upA_ne (by decide), upA_ne (by decide)]
    · rw [upS_ne (by omega), upA_ne (by omega), upA_ne (by omega), upA_ne (by omega)]
    · rw [upS_ne (by omega), upA_ne (by omega), upA_ne (by omega), upA_ne (by omega)]
    · rw [upS_ne (by decide), upN_at (by omega), if_neg (show ¬ (4 : Int32) < nI q from nI_nlt (a := 4) s2 (by decide))]
    · rw [upS_ne (by decide), upA_ne (by decide), upA_ne (by decide), upN_at (by omega)]
      exact ea
    · rw [upS_ne (by decide), upA_ne (by decide), upN_at (by omega)]
      exact eb
  · rw [if_pos (show (16 : Int32) ≤ nI ln from nI_le (a := 16) (by omega) (by omega)), Option.bind_some, wr_s, wr_s, nI_1]
    exact ⟨_, rfl, fun W a b _ _ hS hx => absurd (hS hx).1 c⟩
theorem stp_154 (h : STP B B1 st M) (hl : M 10 0 = nI ln) (hb : ln ≤ 999) (x a b : Int32) : ∃ M', f_X12_aLine_L154 M x a b = some M' ∧ STP B B1 st M' := by
  unfold f_X12_aLine_L154
  obtain ⟨M3, b1, b2, b3, b4⟩ := puts3 hl hb x a b
  rw [stp_must h.2.2.1, Option.bind_some, b1]
  exact ⟨M3, rfl, h.up (l := ln + 1) (by omega) b2 b3⟩
theorem stpM_10 (h10 : M 10 0 = nI ln) : stpM M 10 0 = nI ln := by
  rw [stpM, upA_ne (by decide), upA_ne (by decide), upS_ne (by decide)]
  exact h10
/-- state 7: the amount -/
theorem d_s7 (hT : TPO tp T z) (hN : t ≠ 0 → ∃ d, CALL tp T z B B1 d ∧ tp - p ≤ d) {ac : Nat} (hL : DLX tp z i st p t v H M) (hM : MB B B1 R M) (hn : 99000 ≤ n + i) (hm : 99000 ≤ m + i) (h5 : R 5 0 = 7) (h6 : R 6 0 = nI ln) (h10 : M 10 0 = nI ln) (hln : ln + 1 ≤ i) (h7 : R 7 0 = nI q) (hq : q ≤ i) (h11 : R 11 0 = nI ac) (ha : 6 ≤ ac) (ha' : ac ≤ 8) (hS : SC1 R D (M 11) ln q 4) : FIN B B1 (GG n R H T D i) (Option.bind (bd2 (f_X12_numbered M) fun r M' => f_X12_aLine_L154 M' (nI q) (nI (wd ac)) r) fun M => f_X12_decree_L54 m M) := by
  have hi := hL.ok hT
  have hK := hL.tk
  refine OUT.fin ?_ hL.2.2.1 (Or.inr (by rw [h5]; decide))
  unfold f_X4_take
  rw [h5, if_neg (by decide), if_neg (by decide), if_neg (by decide), if_neg (by decide), if_neg (by decide), if_neg (by decide), if_neg (by decide), if_pos rfl]
  refine OUT.wrap ?_
  unfold f_X4_takeAmount
  have e12 : (H 1 0 = (12 : Int32)) ↔ t = 12 := hK.hq (c := 12) (by decide)
  by_cases c : t = 12
  · obtain ⟨D', k1, k2⟩ := keepLine_eq (D := D) h6 h7 (by omega) (H 4 0)
    rw [if_pos (e12.mpr c), k1, bd2_s]
    obtain ⟨H', M', st', p', t', v', a1, a2, a3, a4, a5⟩ := nxt hT hL (by omega)
    obtain ⟨n', rfl, a2⟩ := a2 n (upS (upS R 6 (nI (ln + 1))) 5 8) D' hn
    refine Or.inr ⟨_, _, rfl, ?_⟩
    rw [a2, numbered_y hM.2.2.1 hK c a1, bd2_s]
    obtain ⟨d, hA, hd⟩ := hN (by omega)
    obtain ⟨v1, v2, v3⟩ := hK.2.2.2.1 c
    refine hA.2.2.2.2.2.2.2.2 (i + 1) st' p' t' v' n' m ln q ac v _ H' D' M' (fun x => ?_) a3 (hM.cg (fun k _ _ => by rw [upS_ne (by omega), upS_ne (by omega)]) (a5 0 (by decide)) (a5 1 (by decide)) (a5 9 (by decide))) (by omega) (by omega) (upS_at _ _ _ _) (by rw [upS_ne (by decide), upS_at]) (by rw [a5 10 (by decide)]; exact h10) (by omega) ha ha' v3 ((k2 (M 11) ac v h11 v1 hS).r (by rw [upS_ne (by decide), upS_ne (by decide)]) (a5 11 (by decide)))
    have := a4 x
    have := a3.2.2.2.2.2.2.1
    omega
  · rw [if_neg (fun e => c (e12.mp e)), numbered_n hM.2.2.1 hK c, bd2_s]
    obtain ⟨M3, b1, b2⟩ := stp_154 (stpM_STP (st := st) hM hL.2.2.2.1 h10 (by omega)) (stpM_10 h10) (by omega) (nI q) (nI (wd ac)) (M 6 0)
    obtain ⟨m, rfl⟩ : ∃ m', m = m' + 1 := ⟨m - 1, by omega⟩
    rw [b1, Option.bind_some]
    exact Or.inl ⟨_, _, M3, rfl, stp_54 b2 m, b2⟩
/-- an action: state 6, or a line without tests -/
theorem d_act (hT : TPO tp T z) (hN : t ≠ 0 → ∃ d, CALL tp T z B B1 d ∧ tp - p ≤ d) (hL : DLX tp z i st p t v H M) (hM : MB B B1 R M) (hn : 99000 ≤ n + i) (hm : 99000 ≤ m + i + 1) (h6 : R 6 0 = nI ln) (h10 : M 10 0 = nI ln) (hln : ln ≤ i) (h7 : R 7 0 = nI q) (hq : q ≤ i) (hS : SC1 R D (M 11) ln q 4) : OUT B B1 n i st H T (f_X4_takeAction R H D) (Option.bind (f_X12_aLine_L97 M (nI q)) fun M => f_X12_decree_L54 m M) := by
  have hi := hL.ok hT
  have hK := hL.tk
  have h62 := hK.t62
  have hwd := wd_le h62
  unfold f_X4_takeAction f_X12_aLine_L97
  rw [hK.2.1, nrng (x := t) (lo := 6) (hi := 8) (by omega) (by decide) (by decide) 6 8 rfl rfl, Option.bind_some, if_pos hM.2.2.1]
  by_cases c : 6 ≤ t ∧ t ≤ 8
  · have hw := wd_act c.1 c.2
    have e8 : M 8 0 = nI (wd t) := hK.2.2.2.2.2 (by omega) (by omega)
    have ein : f_X12_isIn (nI (wd t)) (20 : Int32) (22 : Int32) = _ := nrng (x := wd t) (lo := 20) (hi := 22) (by omega) (by decide) (by decide) 20 22 rfl rfl
    obtain ⟨H', M', st', p', t', v', a1, a2, a3, a4, a5⟩ := nxt hT hL (by omega)
    obtain ⟨d, hA, hd⟩ := hN (by omega)
    have hlt : t' ≠ 0 → tp - p' < d := fun x => by
      have := a4 x
      have := a3.2.2.2.2.2.2.1
      omega
    rw [if_pos c, if_neg (by decide), if_pos (hK.m3.mpr ⟨by omega, by omega⟩), e8, ein, Option.bind_some, if_pos (show 20 ≤ wd t ∧ wd t ≤ 22 by omega), if_neg (by decide), a1, Option.bind_some, wr_s, upS_at]
    have x8 : (nI t = (8 : Int32)) ↔ t = 8 := nI_eq (b := 8) (by omega) (by decide)
    have x22 : (nI (wd t) = (22 : Int32)) ↔ wd t = 22 := nI_eq (b := 22) (by omega) (by decide)
    by_cases c8 : t = 8
    · rw [if_pos (x8.mpr c8), if_pos (x22.mpr (by omega))]
      obtain ⟨D', k1, k2⟩ := keepLine_eq (R := upS R 11 (nI t)) (D := D) (ln := ln) (q := q) (by rw [upS_ne (by decide)]; exact h6) (by rw [upS_ne (by decide)]; exact h7) (by omega) 0
      rw [k1, bd2_s]
      obtain ⟨n', rfl, a2⟩ := a2 n (upS (upS (upS R 11 (nI t)) 6 (nI (ln + 1))) 5 8) D' hn
      refine Or.inr ⟨_, _, rfl, ?_⟩
      rw [a2]
      exact hA.2.2.2.2.2.2.2.2 (i + 1) st' p' t' v' n' m ln q t 0 _ H' D' M' hlt a3 (hM.cg (fun k _ _ => by rw [upS_ne (by omega), upS_ne (by omega), upS_ne (by omega)]) (a5 0 (by decide)) (a5 1 (by decide)) (a5 9 (by decide))) (by omega) (by omega) (upS_at _ _ _ _) (by rw [upS_ne (by decide), upS_at]) (by rw [a5 10 (by decide)]; exact h10) (by omega) c.1 c.2 (by decide) ((k2 (M 11) t 0 (upS_at _ _ _ _) rfl (hS.r (upS_ne (by decide)) rfl rfl)).r (by rw [upS_ne (by decide), upS_ne (by decide)]) (a5 11 (by decide)))
    · rw [if_neg (fun e => c8 (x8.mp e)), if_neg (fun e => c8 (by have := x22.mp e; omega)), wr_s]
      obtain ⟨n', rfl, a2⟩ := a2 n (upS (upS R 11 (nI t)) 5 7) D hn
      refine Or.inr ⟨_, _, rfl, ?_⟩
      rw [a2]
      exact hA.2.2.2.2.2.2.2.1 (i + 1) st' p' t' v' n' m ln q t _ H' D M' hlt a3 (hM.cg (fun k _ _ => by rw [upS_ne (by omega), upS_ne (by omega)]) (a5 0 (by decide)) (a5 1 (by decide)) (a5 9 (by decide))) (by omega) (by omega) (upS_at _ _ _ _) (by rw [upS_ne (by decide), upS_ne (by decide)]; exact h6) (by rw [a5 10 (by decide)]; exact h10) (by omega) (by rw [upS_ne (by decide), upS_ne (by decide)]; exact h7) (by omega) (by rw [upS_ne (by decide), upS_at]) c.1 c.2 (hS.r (by rw [upS_ne (by decide), upS_ne (by decide)]) rfl (a5 11 (by decide)))
  · have est : (if (M 5 0) = (3 : Int32) then (Option.bind (f_X12_isIn (M 8 0) (20 : Int32) (22 : Int32)) fun r120 => if r120 = 0 then (Option.bind (f_X12_stops M) fun M_h_127 => some M_h_127) else (Option.bind (f_X12_advance M) fun M_h_137 => if (M 8 0) = (22 : Int32) then f_X12_aLine_L154 M_h_137 (nI q) (M 8 0) (0 : Int32) else bd2 (f_X12_numbered M_h_137) fun r151 M_h_151 => f_X12_aLine_L154 M_h_151 (nI q) (M 8 0) r151)) else (Option.bind (f_X12_stops M) fun M_h_127 => some M_h_127)) = some (stpM M) := by
      rw [stops_eq hM.2.2.1, Option.bind_some]
      by_cases c3 : 1 ≤ t ∧ t ≤ 11
      · have ein : f_X12_isIn (nI (wd t)) (20 : Int32) (22 : Int32) = _ := nrng (x := wd t) (lo := 20) (hi := 22) (by omega) (by decide) (by decide) 20 22 rfl rfl
        rw [if_pos (hK.m3.mpr c3), hK.2.2.2.2.2 c3.1 c3.2, ein, Option.bind_some, if_neg (show ¬ (20 ≤ wd t ∧ wd t ≤ 22) from fun w => c (wd_act' c3.2 w.1 w.2)), if_pos rfl]
      · rw [if_neg (fun e => c3 (hK.m3.mp e))]
    rw [if_neg c, if_pos rfl, est, Option.bind_some]
    have hst := stpM_STP (st := st) hM hL.2.2.2.1 h10 (by omega)
    obtain ⟨m, rfl⟩ : ∃ m', m = m' + 1 := ⟨m - 1, by omega⟩
    exact Or.inl ⟨_, _, _, rfl, stp_54 hst m, hst⟩
theorem d_s6 (hT : TPO tp T z) (hN : t ≠ 0 → ∃ d, CALL tp T z B B1 d ∧ tp - p ≤ d) (hL : DLX tp z i st p t v H M) (hM : MB B B1 R M) (hn : 99000 ≤ n + i) (hm : 99000 ≤ m + i) (h5 : R 5 0 = 6) (h6 : R 6 0 = nI ln) (h10 : M 10 0 = nI ln) (hln : ln + 1 ≤ i) (h7 : R 7 0 = nI q) (hq : q ≤ i) (hS : SC1 R D (M 11) ln q 4) : FIN B B1 (GG n R H T D i) (Option.bind (f_X12_aLine_L97 M (nI q)) fun M => f_X12_decree_L54 m M) := by
  refine OUT.fin ?_ hL.2.2.1 (Or.inr (by rw [h5]; decide))
  unfold f_X4_take
  rw [h5, if_neg (by decide), if_neg (by decide), if_neg (by decide), if_neg (by decide), if_neg (by decide), if_neg (by decide), if_pos rfl]
  exact OUT.wrap (d_act hT hN hL hM hn (by omega) h6 h10 (by omega) h7 hq hS)
/-- state 5: behind a test -/
theorem d_s5 (hT : TPO tp T z) (hN : t ≠ 0 → ∃ d, CALL tp T z B B1 d ∧ tp - p ≤ d) (hL : DLX tp z i st p t v H M) (hM : MB B B1 R M) (hn : 99000 ≤ n + i) (hm : 99000 ≤ m + i) (hm2 : 99000 ≤ m2 + i) (h5 : R 5 0 = 5) (h6 : R 6 0 = nI ln) (h10 : M 10 0 = nI ln) (hln : ln + 1 ≤ i) (h7 : R 7 0 = nI (q + 1)) (hq : q + 1 ≤ i) (hS : SC1 R D (M 11) ln (q + 1) 4) : FIN B B1 (GG n R H T D i) (Option.bind (bd2 (f_X12_takes M (31 : Int32)) fun r M' => f_X12_aLine_L26 m2 M' (nI (q + 1)) r) fun M => f_X12_decree_L54 m M) := by
  have hi := hL.ok hT
  have hK := hL.tk
  have h62 := hK.t62
  refine OUT.fin ?_ hL.2.2.1 (Or.inr (by rw [h5]; decide))
  unfold f_X4_take
  rw [h5, if_neg (by decide), if_neg (by decide), if_neg (by decide), if_neg (by decide), if_neg (by decide), if_pos rfl]
  refine OUT.wrap2 ?_
  unfold f_X4_takeTestEnd
  have e10 : (H 1 0 = (10 : Int32)) ↔ t = 10 := hK.hq (c := 10) (by decide)
  have e58 : (H 1 0 = (58 : Int32)) ↔ t = 58 := hK.hq (c := 58) (by decide)
  by_cases c : t = 10
  · obtain ⟨H', M', st', p', t', v', a1, a2, a3, a4, a5⟩ := nxt hT hL (by omega)
    obtain ⟨d, hA, hd⟩ := hN (by omega)
    have hlt : t' ≠ 0 → tp - p' < d := fun x => by
      have := a4 x
      have := a3.2.2.2.2.2.2.1
      omega
    rw [if_pos (e10.mpr c), wr_s, bd2_s, takes_y hM.2.2.1 hK (by omega) (by omega) 31 (by rw [c]; rfl) a1, bd2_s]
    obtain ⟨n', rfl, a2⟩ := a2 n (upS R 5 1) D hn
    refine Or.inr ⟨_, _, rfl, ?_⟩
    rw [a2]
    exact hA.2.1 (i + 1) st' p' t' v' n' m m2 ln (q + 1) _ H' D M' hlt a3 (hM.cg (fun k _ _ => by rw [upS_ne (by omega)]) (a5 0 (by decide)) (a5 1 (by decide)) (a5 9 (by decide))) (by omega) (by omega) (by omega) (upS_at _ _ _ _) (by rw [upS_ne (by decide)]; exact h6) (by rw [a5 10 (by decide)]; exact h10) (by omega) (by rw [upS_ne (by decide)]; exact h7) (by omega) (hS.r (by rw [upS_ne (by decide)]) rfl (a5 11 (by decide)))
  · have et : f_X12_takes M (31 : Int32) = some (0, M) := takes_n hK 31 (by decide) (fun _ b => fun e => c ((wd_31 b).mp e))
    obtain ⟨m2, rfl⟩ : ∃ m', m2 = m' + 1 := ⟨m2 - 1, by omega⟩
    rw [if_neg (fun e => c (e10.mp e)), wr_s, et, bd2_s, f_X12_aLine_L26, if_pos rfl]
    by_cases c5 : t = 58
    · obtain ⟨H', M', st', p', t', v', a1, a2, a3, a4, a5⟩ := nxt hT hL (by omega)
      obtain ⟨d, hA, hd⟩ := hN (by omega)
      have hlt : t' ≠ 0 → tp - p' < d := fun x => by
        have := a4 x
        have := a3.2.2.2.2.2.2.1
        omega
      have em : f_X12_must M (58 : Int32) = some M' := must_y (c := 58) hM.2.2.1 hK (by decide) c5 a1
      rw [if_pos (e58.mpr c5), bd2_s, em, Option.bind_some]
      obtain ⟨n', rfl, a2⟩ := a2 n (upS R 5 6) D hn
      refine Or.inr ⟨_, _, rfl, ?_⟩
      rw [a2]
      exact hA.2.2.2.2.2.2.1 (i + 1) st' p' t' v' n' m ln (q + 1) _ H' D M' hlt a3 (hM.cg (fun k _ _ => by rw [upS_ne (by omega)]) (a5 0 (by decide)) (a5 1 (by decide)) (a5 9 (by decide))) (by omega) (by omega) (upS_at _ _ _ _) (by rw [upS_ne (by decide)]; exact h6) (by rw [a5 10 (by decide)]; exact h10) (by omega) (by rw [upS_ne (by decide)]; exact h7) (by omega) (hS.r (by rw [upS_ne (by decide)]) rfl (a5 11 (by decide)))
    · have em : f_X12_must M (58 : Int32) = some (stpM M) := must_n (c := 58) hM.2.2.1 hK (by decide) c5
      have hst := stpM_STP (st := st) hM hL.2.2.2.1 h10 (by omega)
      rw [if_neg (fun e => c5 (e58.mp e)), bd2_s, em, Option.bind_some, stp_97 hst.2.2.1, Option.bind_some]
      obtain ⟨m, rfl⟩ : ∃ m', m = m' + 1 := ⟨m - 1, by omega⟩
      exact Or.inl ⟨_, _, _, rfl, stp_54 hst m, hst⟩
end Dec
