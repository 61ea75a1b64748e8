/-! ===== decree: the other states ===== -/
theorem wd_5 {t : Nat} (h : t ≤ 5) : wd t = t := by
  unfold wd
  repeat' split
  all_goals omega
theorem wd_5' {t : Nat} (h : t ≤ 11) (h1 : 1 ≤ wd t) (h2 : wd t ≤ 5) : 1 ≤ t ∧ t ≤ 5 := by
  unfold wd at h1 h2
  repeat' split at h1
  all_goals simp_all <;> omega
theorem wd_32 {t : Nat} (h : t ≤ 11) : wd t = 32 ↔ t = 11 := by
  unfold wd
  repeat' split
  all_goals omega
theorem wd_30 {t : Nat} (h : t ≤ 11) : wd t = 30 ↔ t = 9 := by
  unfold wd
  repeat' split
  all_goals omega
section Dec
variable {tp : Nat} {T : Mem} {z : Nat → Nat} {B B1 : Nat → Int32} {i st p t v n m m2 ln q : Nat} {R H M D : Mem}
/-- state 4: the limit -/
theorem d_s4 (hT : TPO tp T z) (hN : t ≠ 0 → ∃ d, CALL tp T z B B1 d ∧ tp - p ≤ d) {ng sj c : Nat} (hL : DLX tp z i st p t v H M) (hM : MB B B1 R M) (hn : 99000 ≤ n + i) (hm : 99000 ≤ m + i) (hm2 : 99000 ≤ m2 + i) (h5 : R 5 0 = 4) (h6 : R 6 0 = nI ln) (h10 : M 10 0 = nI ln) (hln : ln + 1 ≤ i) (h7 : R 7 0 = nI q) (hq : q ≤ i) (h8 : R 8 0 = nI ng) (hng : ng ≤ 1) (h9 : R 9 0 = nI sj) (hs : 2 ≤ sj) (hs' : sj ≤ 5) (m0 : M 12 0 = nI ng) (m1 : M 12 1 = nI sj) (hc : R 10 0 = nI c) (mc : M 12 2 = nI c) (hS : SC1 R D (M 11) ln q 3) : FIN B B1 (GG n R H T D i) (TL m m2 q (limT M)) := by
  have hi := hL.ok hT
  have hK := hL.tk
  refine OUT.fin ?_ hL.2.2.1 (Or.inr (by rw [h5]; decide))
  unfold f_X4_take
  rw [h5, if_neg (by decide), if_neg (by decide), if_neg (by decide), if_neg (by decide), if_pos rfl]
  refine OUT.wrap ?_
  unfold f_X4_takeLimit limT
  have e12 : (H 1 0 = (12 : Int32)) ↔ t = 12 := hK.hq (c := 12) (by decide)
  by_cases ct : t = 12
  · obtain ⟨D', k1, k2⟩ := keepTest_eq (D := D) h6 h7 h8 hng h9 (by omega) hs' (by omega) (by omega) (R 10 0) (H 4 0)
    rw [if_pos (e12.mpr ct), k1, bd2_s]
    obtain ⟨H', M', st', p', t', v', a1, a2, a3, a4, a5⟩ := nxt hT hL (by omega)
    obtain ⟨n', rfl, a2⟩ := a2 n (upS (upS R 7 (nI (q + 1))) 5 5) D' hn
    refine Or.inr ⟨_, _, rfl, ?_⟩
    rw [a2, numbered_y hM.2.2.1 hK ct a1, bd2_s, wr_s]
    obtain ⟨d, hA, hd⟩ := hN (by omega)
    have hlt : t' ≠ 0 → tp - p' < d := fun x => by
      have := a4 x
      have := a3.2.2.2.2.2.2.1
      omega
    obtain ⟨v1, v2, v3⟩ := hK.2.2.2.1 ct
    have u3 : ∀ j, j ≠ 3 → upA M' 12 (3 : Int32) (nI v) 12 j = M' 12 j := fun j hj => upN_ne (i := 3) (by decide) hj
    obtain ⟨M3, g1, g2, g3⟩ := L45_eq (M := upA M' 12 (3 : Int32) (nI v)) (ln := ln) (q := q) (by omega) (by omega) (by rw [upA_ne (by decide), a5 10 (by decide)]; exact h10)
    unfold TL
    rw [Option.bind_some, g1]
    have f0 : ∀ k, k ≠ 11 → k ≠ 12 → M3 k = M' k := fun k h1 h2 => by rw [g2 k h1, upA_ne h2]
    refine hA.2.2.2.2.2.1 (i + 1) st' p' t' v' n' m m2 ln q _ H' D' M3 hlt (a3.cg (fun k _ _ => f0 k (by omega) (by omega)) (fun j _ => by rw [f0 0 (by decide) (by decide)])) (hM.cg (fun k _ _ => by rw [upS_ne (by omega), upS_ne (by omega)]) ((f0 0 (by decide) (by decide)).trans (a5 0 (by decide))) ((f0 1 (by decide) (by decide)).trans (a5 1 (by decide))) ((f0 9 (by decide) (by decide)).trans (a5 9 (by decide)))) (by omega) (by omega) (by omega) (upS_at _ _ _ _) (by rw [upS_ne (by decide), upS_ne (by decide)]; exact h6) (by rw [f0 10 (by decide) (by decide), a5 10 (by decide)]; exact h10) (by omega) (by rw [upS_ne (by decide), upS_at]) (by omega) ?_
    have hS2 := k2 (upA M' 12 (3 : Int32) (nI v)) M3 (by rw [u3 0 (by decide), a5 12 (by decide)]; exact m0) (by rw [u3 1 (by decide), a5 12 (by decide)]; exact m1) (by rw [u3 2 (by decide), a5 12 (by decide), mc]; exact hc.symm) (by rw [v1]; exact upN_at (i := 3) (by decide)) g3 (hS.r rfl rfl (by rw [upA_ne (by decide), a5 11 (by decide)]))
    exact hS2.r (by rw [upS_ne (by decide), upS_ne (by decide)]) rfl rfl
  · rw [if_neg (fun e => ct (e12.mp e)), numbered_n hM.2.2.1 hK ct, bd2_s, wr_s]
    obtain ⟨m, rfl⟩ : ∃ m', m = m' + 1 := ⟨m - 1, by omega⟩
    obtain ⟨m2, rfl⟩ : ∃ m', m2 = m' + 1 := ⟨m2 - 1, by omega⟩
    have hst := (stpM_STP (st := st) hM hL.2.2.2.1 h10 (by omega)).cg (M1 := upA (stpM M) 12 (3 : Int32) (M 6 0)) (upA_ne (by decide)) (upA_ne (by decide)) (upA_ne (by decide)) (upA_ne (by decide))
    obtain ⟨M3, b1, b2⟩ := stp_TL (q := q) (m := m) (m2 := m2) hst (ln := ln) (by rw [upA_ne (by decide)]; exact stpM_10 h10) (by omega) (by omega)
    exact Or.inl ⟨_, _, M3, rfl, b1, b2⟩
/-- state 3: the comparison -/
theorem d_s3 (hT : TPO tp T z) (hN : t ≠ 0 → ∃ d, CALL tp T z B B1 d ∧ tp - p ≤ d) {ng sj : Nat} (hL : DLX tp z i st p t v H M) (hM : MB B B1 R M) (hn : 99000 ≤ n + i) (hm : 99000 ≤ m + i) (hm2 : 99000 ≤ m2 + i) (h5 : R 5 0 = 3) (h6 : R 6 0 = nI ln) (h10 : M 10 0 = nI ln) (hln : ln + 1 ≤ i) (h7 : R 7 0 = nI q) (hq : q ≤ i) (h8 : R 8 0 = nI ng) (hng : ng ≤ 1) (h9 : R 9 0 = nI sj) (hs : 2 ≤ sj) (hs' : sj ≤ 5) (m0 : M 12 0 = nI ng) (m1 : M 12 1 = nI sj) (hS : SC1 R D (M 11) ln q 3) : FIN B B1 (GG n R H T D i) (TL m m2 q (cmpT M)) := by
  have hi := hL.ok hT
  have hK := hL.tk
  have h62 := hK.t62
  refine OUT.fin ?_ hL.2.2.1 (Or.inr (by rw [h5]; decide))
  unfold f_X4_take
  rw [h5, if_neg (by decide), if_neg (by decide), if_neg (by decide), if_pos rfl]
  refine OUT.wrap2 ?_
  have u2 : ∀ j, j ≠ 2 → upA M 12 (2 : Int32) (M 7 0) 12 j = M 12 j := fun j hj => upN_ne (i := 2) (by decide) hj
  have hL1 : DLX tp z i st p t v H (upA M 12 (2 : Int32) (M 7 0)) := hL.cg (fun k _ _ => upA_ne (by omega)) (fun j _ => by rw [upA_ne (by decide)])
  have hM1 : MB B B1 R (upA M 12 (2 : Int32) (M 7 0)) := hM.cg (fun _ _ _ => rfl) (upA_ne (by decide)) (upA_ne (by decide)) (upA_ne (by decide))
  have hK1 := hL1.tk
  have e60 : (H 1 0 = (60 : Int32)) ↔ t = 60 := hK.hq (c := 60) (by decide)
  have e61 : (H 1 0 = (61 : Int32)) ↔ t = 61 := hK.hq (c := 61) (by decide)
  have e62 : (H 1 0 = (62 : Int32)) ↔ t = 62 := hK.hq (c := 62) (by decide)
  unfold cmpT
  rw [wr_s]
  by_cases c : 60 ≤ t
  · have ek : f_X4_takeComparison R H = f_X4_takeComparison_L38 R H := by
      unfold f_X4_takeComparison
      by_cases c0 : t = 60
      · rw [if_pos (e60.mpr c0)]
      · rw [if_neg (fun e => c0 (e60.mp e))]
        by_cases c2 : t = 62
        · rw [if_pos (e62.mpr c2)]
        · rw [if_neg (fun e => c2 (e62.mp e)), if_pos (e61.mpr (by omega))]
    have e7 := hK1.2.2.2.2.1 (by omega)
    have x58 : (nI t = (58 : Int32)) ↔ t = 58 := nI_eq (b := 58) (by omega) (by decide)
    have x59 : (nI t = (59 : Int32)) ↔ t = 59 := nI_eq (b := 59) (by omega) (by decide)
    obtain ⟨H', M', st', p', t', v', a1, a2, a3, a4, a5⟩ := nxt hT hL1 (by omega)
    obtain ⟨d, hA, hd⟩ := hN (by omega)
    have hlt : t' ≠ 0 → tp - p' < d := fun x => by
      have := a4 x
      have := a3.2.2.2.2.2.2.1
      omega
    rw [ek, if_pos (hK1.m2.mpr (by omega)), e7, if_neg (fun e => by have := x58.mp e; omega), if_neg (fun e => by have := x59.mp e; omega), a1, Option.bind_some]
    unfold f_X4_takeComparison_L38
    rw [wr_s, wr_s, bd2_s]
    obtain ⟨n', rfl, a2⟩ := a2 n (upS (upS R 10 (H 1 0)) 5 4) D hn
    refine Or.inr ⟨_, _, rfl, ?_⟩
    rw [a2]
    refine hA.2.2.2.2.1 (i + 1) st' p' t' v' n' m m2 ln q ng sj t _ H' D M' hlt a3 (hM1.cg (fun k _ _ => by rw [upS_ne (by omega), upS_ne (by omega)]) (a5 0 (by decide)) (a5 1 (by decide)) (a5 9 (by decide))) (by omega) (by omega) (by omega) (upS_at _ _ _ _) (by rw [upS_ne (by decide), upS_ne (by decide)]; exact h6) (by rw [a5 10 (by decide), upA_ne (by decide)]; exact h10) (by omega) (by rw [upS_ne (by decide), upS_ne (by decide)]; exact h7) (by omega) (by rw [upS_ne (by decide), upS_ne (by decide)]; exact h8) hng (by rw [upS_ne (by decide), upS_ne (by decide)]; exact h9) hs hs' (by rw [a5 12 (by decide), u2 0 (by decide)]; exact m0) (by rw [a5 12 (by decide), u2 1 (by decide)]; exact m1) (by rw [upS_ne (by decide), upS_at]; exact hK.2.1) ?_ (hS.r (by rw [upS_ne (by decide), upS_ne (by decide)]) rfl (by rw [a5 11 (by decide), upA_ne (by decide)]))
    rw [a5 12 (by decide), show upA M 12 (2 : Int32) (M 7 0) 12 2 = M 7 0 from upN_at (i := 2) (by decide)]
    exact hK.2.2.2.2.1 (by omega)
  · have ek : f_X4_takeComparison R H = some (0, R) := by
      unfold f_X4_takeComparison
      rw [if_neg (fun e => by have := e60.mp e; omega), if_neg (fun e => by have := e62.mp e; omega), if_neg (fun e => by have := e61.mp e; omega)]
    have hst := stpM_STP (st := st) hM1 hL1.2.2.2.1 (ln := ln) (by rw [upA_ne (by decide)]; exact h10) (by omega)
    obtain ⟨m, rfl⟩ : ∃ m', m = m' + 1 := ⟨m - 1, by omega⟩
    obtain ⟨m2, rfl⟩ : ∃ m', m2 = m' + 1 := ⟨m2 - 1, by omega⟩
    obtain ⟨M3, b1, b2⟩ := stp_TL (q := q) (m := m) (m2 := m2) hst (ln := ln) (stpM_10 (by rw [upA_ne (by decide)]; exact h10)) (by omega) (by omega)
    rw [ek, bd2_s, stops_eq hM1.2.2.1, Option.bind_some]
    refine Or.inl ⟨_, _, M3, rfl, ?_, b2⟩
    by_cases c5 : 58 ≤ t
    · have e7 := hK1.2.2.2.2.1 c5
      have x58 : (nI t = (58 : Int32)) ↔ t = 58 := nI_eq (b := 58) (by omega) (by decide)
      have x59 : (nI t = (59 : Int32)) ↔ t = 59 := nI_eq (b := 59) (by omega) (by decide)
      rw [if_pos (hK1.m2.mpr c5), e7]
      by_cases c8 : t = 58
      · rw [if_pos (x58.mpr c8)]
        exact b1
      · rw [if_neg (fun e => c8 (x58.mp e)), if_pos (x59.mpr (by omega))]
        exact b1
    · rw [if_neg (fun e => c5 (hK1.m2.mp e))]
      exact b1
/-- a subject -/
theorem d_subj (hT : TPO tp T z) (hN : t ≠ 0 → ∃ d, CALL tp T z B B1 d ∧ tp - p ≤ d) {ng : Nat} (hL : DLX tp z i st p t v H M) (hM : MB B B1 R M) (hn : 99000 ≤ n + i) (hm : 99000 ≤ m + i) (hm2 : 99000 ≤ m2 + i + 1) (h6 : R 6 0 = nI ln) (h10 : M 10 0 = nI ln) (hln : ln + 1 ≤ i) (h7 : R 7 0 = nI q) (hq : q ≤ i) (h8 : R 8 0 = nI ng) (hng : ng ≤ 1) (hS : SC1 R D (M 11) ln q 3) : OUT B B1 n i st H T (f_X4_takeSubject R H D) (TL m m2 q (f_X12_aTest_L19 M (nI ng) (0 : Int32))) := by
  have hi := hL.ok hT
  have h62 := hL.tk.t62
  unfold f_X12_aTest_L19
  rw [if_neg (by decide), wr_s, wr_s, wr_s, wr_s, show upA M 12 (0 : Int32) (nI ng) 8 0 = M 8 0 by rw [upA_ne (by decide)]]
  obtain ⟨M1, hM1⟩ : ∃ M1, M1 = upA (upA (upA (upA M 12 (0 : Int32) (nI ng)) 12 (1 : Int32) (M 8 0)) 12 (2 : Int32) (61 : Int32)) 12 (3 : Int32) (1 : Int32) := ⟨_, rfl⟩
  rw [← hM1]
  have k1 : ∀ k, k ≠ 12 → M1 k = M k := fun k hk => by rw [hM1, upA_ne hk, upA_ne hk, upA_ne hk, upA_ne hk]
  have w0 : M1 12 0 = nI ng := by
    rw [hM1]
    exact (upN_ne (i := 3) (by decide) (by decide)).trans ((upN_ne (i := 2) (by decide) (by decide)).trans ((upN_ne (i := 1) (by decide) (by decide)).trans (upN_at (i := 0) (by decide))))
  have w1 : M1 12 1 = M 8 0 := by
    rw [hM1]
    exact (upN_ne (i := 3) (by decide) (by decide)).trans ((upN_ne (i := 2) (by decide) (by decide)).trans (upN_at (i := 1) (by decide)))
  have w2 : M1 12 2 = 61 := by
    rw [hM1]
    exact (upN_ne (i := 3) (by decide) (by decide)).trans (upN_at (i := 2) (by decide))
  have w3 : M1 12 3 = 1 := by
    rw [hM1]
    exact upN_at (i := 3) (by decide)
  have hL1 : DLX tp z i st p t v H M1 := hL.cg (fun k _ _ => k1 k (by omega)) (fun j _ => by rw [k1 0 (by decide)])
  have hM1' : MB B B1 R M1 := hM.cg (fun _ _ _ => rfl) (k1 0 (by decide)) (k1 1 (by decide)) (k1 9 (by decide))
  have hK := hL1.tk
  have h10' : M1 10 0 = nI ln := by rw [k1 10 (by decide)]; exact h10
  unfold f_X4_takeSubject
  rw [hK.2.1, nrng (x := t) (lo := 1) (hi := 5) (by omega) (by decide) (by decide) 1 5 rfl rfl, Option.bind_some, if_pos hM1'.2.2.1]
  by_cases c : 1 ≤ t ∧ t ≤ 5
  · have ew : wd t = t := wd_5 c.2
    have e8 : M1 8 0 = nI t := by
      have := hK.2.2.2.2.2 c.1 (by omega)
      rw [ew] at this
      exact this
    have ein : f_X12_isIn (nI t) (1 : Int32) (5 : Int32) = _ := nrng (x := t) (lo := 1) (hi := 5) (by omega) (by decide) (by decide) 1 5 rfl rfl
    obtain ⟨H', M', st', p', t', v', a1, a2, a3, a4, a5⟩ := nxt hT hL1 (by omega)
    obtain ⟨d, hA, hd⟩ := hN (by omega)
    have hlt : t' ≠ 0 → tp - p' < d := fun x => by
      have := a4 x
      have := a3.2.2.2.2.2.2.1
      omega
    have e81 : M' 12 1 = nI t := by
      rw [a5 12 (by decide), w1, ← k1 8 (by decide)]
      exact e8
    have x1 : (nI t = (1 : Int32)) ↔ t = 1 := nI_eq (b := 1) (by omega) (by decide)
    rw [if_pos c, if_neg (by decide), if_pos (hK.m3.mpr ⟨c.1, by omega⟩), e8, ein, Option.bind_some, if_pos c, if_neg (by decide), a1, Option.bind_some, wr_s, upS_at, show M' 12 (1 : Int32).toNatClampNeg = nI t from e81]
    by_cases c1 : t = 1
    · rw [if_pos (x1.mpr c1), if_pos (x1.mpr c1)]
      obtain ⟨D', k1', k2'⟩ := keepTest_eq (R := upS R 9 (nI t)) (D := D) (ln := ln) (q := q) (ng := ng) (sj := t) (by rw [upS_ne (by decide)]; exact h6) (by rw [upS_ne (by decide)]; exact h7) (by rw [upS_ne (by decide)]; exact h8) hng (upS_at _ _ _ _) c.1 c.2 (by omega) (by omega) 61 1
      rw [k1', bd2_s]
      obtain ⟨n', rfl, a2⟩ := a2 n (upS (upS (upS R 9 (nI t)) 7 (nI (q + 1))) 5 5) D' hn
      refine Or.inr ⟨_, _, rfl, ?_⟩
      rw [a2]
      obtain ⟨M3, g1, g2, g3⟩ := L45_eq (M := M') (ln := ln) (q := q) (by omega) (by omega) (by rw [a5 10 (by decide)]; exact h10')
      unfold TL
      rw [Option.bind_some, g1]
      refine hA.2.2.2.2.2.1 (i + 1) st' p' t' v' n' m m2 ln q _ H' D' M3 hlt (a3.cg (fun k _ _ => g2 k (by omega)) (fun j _ => by rw [g2 0 (by decide)])) (hM1'.cg (fun k _ _ => by rw [upS_ne (by omega), upS_ne (by omega), upS_ne (by omega)]) ((g2 0 (by decide)).trans (a5 0 (by decide))) ((g2 1 (by decide)).trans (a5 1 (by decide))) ((g2 9 (by decide)).trans (a5 9 (by decide)))) (by omega) (by omega) (by omega) (upS_at _ _ _ _) (by rw [upS_ne (by decide), upS_ne (by decide), upS_ne (by decide)]; exact h6) (by rw [g2 10 (by decide), a5 10 (by decide)]; exact h10') (by omega) (by rw [upS_ne (by decide), upS_at]) (by omega) ?_
      have hS2 := k2' M' M3 (by rw [a5 12 (by decide)]; exact w0) e81 (by rw [a5 12 (by decide)]; exact w2) (by rw [a5 12 (by decide)]; exact w3) g3 (hS.r (upS_ne (by decide)) rfl (by rw [a5 11 (by decide), k1 11 (by decide)]))
      exact hS2.r (by rw [upS_ne (by decide), upS_ne (by decide)]) rfl rfl
    · rw [if_neg (fun e => c1 (x1.mp e)), if_neg (fun e => c1 (x1.mp e)), wr_s]
      obtain ⟨n', rfl, a2⟩ := a2 n (upS (upS R 9 (nI t)) 5 3) D hn
      refine Or.inr ⟨_, _, rfl, ?_⟩
      rw [a2]
      exact hA.2.2.2.1 (i + 1) st' p' t' v' n' m m2 ln q ng t _ H' D M' hlt a3 (hM1'.cg (fun k _ _ => by rw [upS_ne (by omega), upS_ne (by omega)]) (a5 0 (by decide)) (a5 1 (by decide)) (a5 9 (by decide))) (by omega) (by omega) (by omega) (upS_at _ _ _ _) (by rw [upS_ne (by decide), upS_ne (by decide)]; exact h6) (by rw [a5 10 (by decide)]; exact h10') (by omega) (by rw [upS_ne (by decide), upS_ne (by decide)]; exact h7) (by omega) (by rw [upS_ne (by decide), upS_ne (by decide)]; exact h8) hng (by rw [upS_ne (by decide), upS_at]) (by omega) c.2 (by rw [a5 12 (by decide)]; exact w0) e81 (hS.r (by rw [upS_ne (by decide), upS_ne (by decide)]) rfl (by rw [a5 11 (by decide), k1 11 (by decide)]))
  · have hst := stpM_STP (st := st) hM1' hL1.2.2.2.1 h10' (by omega)
    obtain ⟨m, rfl⟩ : ∃ m', m = m' + 1 := ⟨m - 1, by omega⟩
    obtain ⟨m2, rfl⟩ : ∃ m', m2 = m' + 1 := ⟨m2 - 1, by omega⟩
    obtain ⟨M3, b1, b2⟩ := stp_TL (q := q) (m := m) (m2 := m2) hst (stpM_10 h10') (by omega) (by omega)
    rw [if_neg c, if_pos rfl, stops_eq hM1'.2.2.1, Option.bind_some]
    refine Or.inl ⟨_, _, M3, rfl, ?_, b2⟩
    by_cases c3 : 1 ≤ t ∧ t ≤ 11
    · have hwd := wd_le h62
      have ein : f_X12_isIn (nI (wd t)) (1 : Int32) (5 : Int32) = _ := nrng (x := wd t) (lo := 1) (hi := 5) (by omega) (by decide) (by decide) 1 5 rfl rfl
      rw [if_pos (hK.m3.mpr c3), hK.2.2.2.2.2 c3.1 c3.2, ein, Option.bind_some, if_neg (show ¬ (1 ≤ wd t ∧ wd t ≤ 5) from fun w => c (wd_5' c3.2 w.1 w.2)), if_pos rfl]
      exact b1
    · rw [if_neg (fun e => c3 (hK.m3.mp e))]
      exact b1
theorem d_s2 (hT : TPO tp T z) (hN : t ≠ 0 → ∃ d, CALL tp T z B B1 d ∧ tp - p ≤ d) (hL : DLX tp z i st p t v H M) (hM : MB B B1 R M) (hn : 99000 ≤ n + i) (hm : 99000 ≤ m + i) (hm2 : 99000 ≤ m2 + i) (h5 : R 5 0 = 2) (h6 : R 6 0 = nI ln) (h10 : M 10 0 = nI ln) (hln : ln + 1 ≤ i) (h7 : R 7 0 = nI q) (hq : q ≤ i) (h8 : R 8 0 = nI 1) (hS : SC1 R D (M 11) ln q 3) : FIN B B1 (GG n R H T D i) (TL m m2 q (f_X12_aTest_L19 M (1 : Int32) (0 : Int32))) := by
  refine OUT.fin ?_ hL.2.2.1 (Or.inr (by rw [h5]; decide))
  unfold f_X4_take
  rw [h5, if_neg (by decide), if_neg (by decide), if_pos rfl]
  exact OUT.wrap (d_subj (ng := 1) hT hN hL hM hn hm (by omega) h6 h10 hln h7 hq h8 (by decide) hS)
end Dec
