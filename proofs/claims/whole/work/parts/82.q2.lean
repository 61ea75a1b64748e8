/-! ===== feed ===== -/
theorem byte255 (v : Int32) : v.toInt8.toInt32 &&& 255 = v &&& 255 := by
  apply Int32.toBitVec_inj.mp
  simp only [Int32.toBitVec_and, Int8.toBitVec_toInt32, Int32.toBitVec_toInt8]
  apply BitVec.eq_of_getLsbD_eq
  intro i hi
  have h255 : (Int32.toBitVec 255) = 255#32 := rfl
  rw [h255]
  simp only [BitVec.getLsbD_and, BitVec.getLsbD_signExtend, BitVec.getLsbD_setWidth]
  by_cases q : i < 8
  · simp [q, hi]
  · have : (255#32).getLsbD i = false := by
      rw [show (255#32) = (BitVec.setWidth 32 (255#8)) from rfl, BitVec.getLsbD_setWidth]
      have : (255#8).getLsbD i = false := BitVec.getLsbD_of_ge _ _ (by omega)
      simp [this]
    simp [this]
def fT (T : Mem) (v : Int32) (s : Int32) : Mem := upS (upA T 0 (T 1 0) ((v >>> (s &&& 31))).toInt8.toInt32) 1 (T 1 0 + 1)
def fM (M : Mem) (v : Int32) (s : Int32) : Mem := upA (upA M 0 ((2390 : Int32) + M 0 12) ((v >>> (s &&& 31)) &&& 255)) 0 12 (M 0 12 + 1)
theorem append_1 {T : Mem} {tp : Nat} (n : Nat) (v s : Int32) (hT : T 1 0 = nI tp) (ht : tp < 400) (hs : ¬ s < 0) : f_X8_append_L3 (n + 1) T v s = f_X8_append_L3 n (fT T v s) v (s + (-8)) := by
  rw [f_X8_append_L3, if_neg hs, hT, if_neg (show ¬ (400 : Int32) ≤ nI tp from nI_ge (b := 400) ht (by decide)), if_neg (nI_in (N := 400) ht (by decide)), wr_s, wr_s, pk_vb, upA_ne (k := 0) (j := 1) (by decide)]
  unfold fT
  rw [hT]
theorem fT_1 {T : Mem} {tp : Nat} (v s : Int32) (hT : T 1 0 = nI tp) : fT T v s 1 0 = nI (tp + 1) := by
  unfold fT
  rw [upS_at, hT, nI_1]
theorem append_eq {T : Mem} {tp : Nat} (v : Int32) (hT : T 1 0 = nI tp) (ht : tp + 4 ≤ 400) : f_X8_append T v = some (fT (fT (fT (fT T v 24) v 16) v 8) v 0) := by
  have h1 := fT_1 v 24 hT
  have h2 := fT_1 v 16 h1
  have h3 := fT_1 v 8 h2
  unfold f_X8_append
  obtain ⟨n, hn⟩ : ∃ n, FU = n + 1 + 1 + 1 + 1 + 1 := ⟨99995, rfl⟩
  rw [hn, append_1 _ v 24 hT (by omega) (by decide), show (24 : Int32) + (-8) = 16 from rfl, append_1 _ v 16 h1 (by omega) (by decide), show (16 : Int32) + (-8) = 8 from rfl, append_1 _ v 8 h2 (by omega) (by decide), show (8 : Int32) + (-8) = 0 from rfl, append_1 _ v 0 h3 (by omega) (by decide), f_X8_append_L3, if_pos (by decide)]
def selF (x1 x2 x3 x4 x5 : Int32) (k : Nat) : Int32 := if 4 ≤ k then (if 8 ≤ k then (if 12 ≤ k then (if 16 ≤ k then x5 else x4) else x3) else x2) else x1
def shF (k : Nat) : Int32 := nI (24 - 8 * (k % 4))
def tT (T : Mem) (x1 x2 x3 x4 x5 : Int32) : Nat → Mem
  | 0 => T
  | k + 1 => fT (tT T x1 x2 x3 x4 x5 k) (selF x1 x2 x3 x4 x5 k) (shF k)
def tM (M : Mem) (x1 x2 x3 x4 x5 : Int32) : Nat → Mem
  | 0 => M
  | k + 1 => fM (tM M x1 x2 x3 x4 x5 k) (selF x1 x2 x3 x4 x5 k) (shF k)
theorem tT_1 {T : Mem} {tp : Nat} (x1 x2 x3 x4 x5 : Int32) (hT : T 1 0 = nI tp) : ∀ k, tT T x1 x2 x3 x4 x5 k 1 0 = nI (tp + k)
  | 0 => hT
  | k + 1 => fT_1 _ _ (tT_1 x1 x2 x3 x4 x5 hT k)
theorem RTape.step {tp : Nat} {T M : Mem} (h : RTape tp T (M 0)) (ht : tp < 400) (v s : Int32) : RTape (tp + 1) (fT T v s) (fM M v s 0) := by
  obtain ⟨h0, h1, h2, h3, h4⟩ := h
  have e1 : fT T v s 0 = upd (T 0) tp ((v >>> (s &&& 31))).toInt8.toInt32 := by
    unfold fT
    rw [upS_ne (by decide), upA_at, h1, nI_clamp (by omega)]
  have e2 : fM M v s = put (put M (2390 + tp) ((v >>> (s &&& 31)) &&& 255)) 12 (nI (tp + 1)) := by
    unfold fM
    rw [h2, show (2390 : Int32) + nI tp = nI (2390 + tp) from nI_add 2390 tp, nI_1, upA_put _ _ (by omega), upA_lit _ 12 12 _ rfl]
  refine ⟨by omega, fT_1 v s h1, by rw [e2]; exact put_eq _ _ _, fun i hi => ?_, fun i hi => ?_⟩
  · rw [e1, e2, put_no (by omega), put_get, upd_if]
    by_cases q : i = tp
    · rw [if_pos (by omega), if_pos q, byte255]
    · rw [if_neg (by omega), if_neg q]
      exact h3 i (by omega)
  · rw [e1, upd_if]
    by_cases q : i = tp
    · rw [if_pos q]; simp
    · rw [if_neg q]; exact h4 i hi
theorem fM_no {tp : Nat} {M : Mem} (h2 : M 0 12 = nI tp) (ht : tp < 400) (v s : Int32) : Keep M (fM M v s) ∧ ∀ i, i < 2390 → i ≠ 12 → fM M v s 0 i = M 0 i := by
  have e2 : fM M v s = put (put M (2390 + tp) ((v >>> (s &&& 31)) &&& 255)) 12 (nI (tp + 1)) := by
    unfold fM
    rw [h2, show (2390 : Int32) + nI tp = nI (2390 + tp) from nI_add 2390 tp, nI_1, upA_put _ _ (by omega), upA_lit _ 12 12 _ rfl]
  rw [e2]
  exact ⟨(Keep.pt (by omega)).tr (Keep.pt (by omega)), fun i a b => by rw [put_no b, put_no (by omega)]⟩
theorem feed_1 {tp : Nat} {M : Mem} (n : Nat) (x1 x2 x3 x4 x5 : Int32) {k : Nat} (hk : k < 20) (h2 : M 0 12 = nI tp) (ht : tp < 400) : f_X12_feed_L21 (n + 1) M x1 x2 x3 x4 x5 (nI k) = f_X12_feed_L21 n (fM M (selF x1 x2 x3 x4 x5 k) (shF k)) x1 x2 x3 x4 x5 (nI (k + 1)) := by
  have e74 : ∀ v : Int32, f_X12_feed_L74 (f_X12_feed_L21 n) M x1 x2 x3 x4 x5 (nI k) v = f_X12_feed_L21 n (fM M v (shF k)) x1 x2 x3 x4 x5 (nI (k + 1)) := by
    intro v
    unfold f_X12_feed_L74 fM
    have es : (24 : Int32) - (8 : Int32) * (nI k - nI k / (4 : Int32) * (4 : Int32)) = shF k := by
      show nI 24 - nI 8 * (nI k - nI k / nI 4 * nI 4) = _
      rw [pk_rem (by omega) (by decide) (by decide), pk_mul, pk_sub (by omega)]
      rfl
    have m12 : M 0 ((12 : Int32)).toNatClampNeg = nI tp := h2
    rw [m12, h2, show (2390 : Int32) + nI tp = nI (2390 + tp) from nI_add 2390 tp, if_neg (nI_in (by omega) (by decide)), wr_s, wr_s, es, nI_1, nI_1]
    rw [show upA M 0 (nI (2390 + tp)) ((v >>> (shF k &&& 31)) &&& 255) 0 ((12 : Int32)).toNatClampNeg = nI tp by rw [upA_put _ _ (by omega), show ((12 : Int32)).toNatClampNeg = 12 from rfl, put_no (by omega)]; exact h2, nI_1]
  have l : ∀ a : Nat, a < 2147483648 → ((nI a ≤ nI k) ↔ a ≤ k) := fun a ha => nI_leI ha (by omega)
  rw [f_X12_feed_L21, if_neg (show ¬ (20 : Int32) ≤ nI k from nI_ge (b := 20) hk (by decide)), e74, e74, e74, e74, e74]
  unfold selF
  have l4 : ((4 : Int32) ≤ nI k) ↔ 4 ≤ k := l 4 (by decide)
  have l8 : ((8 : Int32) ≤ nI k) ↔ 8 ≤ k := l 8 (by decide)
  have l12 : ((12 : Int32) ≤ nI k) ↔ 12 ≤ k := l 12 (by decide)
  have l16 : ((16 : Int32) ≤ nI k) ↔ 16 ≤ k := l 16 (by decide)
  simp only [l4, l8, l12, l16]
  by_cases q4 : 4 ≤ k
  · rw [if_pos q4, if_pos q4]
    by_cases q8 : 8 ≤ k
    · rw [if_pos q8, if_pos q8]
      by_cases q12 : 12 ≤ k
      · rw [if_pos q12, if_pos q12]
        by_cases q16 : 16 ≤ k
        · rw [if_pos q16, if_pos q16]
        · rw [if_neg q16, if_neg q16]
      · rw [if_neg q12, if_neg q12]
    · rw [if_neg q8, if_neg q8]
  · rw [if_neg q4, if_neg q4]
theorem feed_rel {tp : Nat} {T M : Mem} (h : RTape tp T (M 0)) (ht : tp + 20 ≤ 400) (x1 x2 x3 x4 x5 : Int32) : ∀ k, k ≤ 20 → RTape (tp + k) (tT T x1 x2 x3 x4 x5 k) (tM M x1 x2 x3 x4 x5 k 0) ∧ Keep M (tM M x1 x2 x3 x4 x5 k) ∧ (∀ i, i < 2390 → i ≠ 12 → tM M x1 x2 x3 x4 x5 k 0 i = M 0 i) ∧ ∀ n, f_X12_feed_L21 (n + k) M x1 x2 x3 x4 x5 (nI 0) = f_X12_feed_L21 n (tM M x1 x2 x3 x4 x5 k) x1 x2 x3 x4 x5 (nI k)
  | 0, _ => ⟨h, Keep.rf M, fun _ _ _ => rfl, fun _ => rfl⟩
  | k + 1, hk => by
    obtain ⟨g1, g2, g3, g4⟩ := feed_rel h ht x1 x2 x3 x4 x5 k (by omega)
    have g0 := fM_no g1.2.2.1 (by omega) (selF x1 x2 x3 x4 x5 k) (shF k)
    refine ⟨g1.step (by omega) _ _, g2.tr g0.1, fun i a b => by rw [tM, g0.2 i a b, g3 i a b], fun n => ?_⟩
    rw [show n + (k + 1) = (n + 1) + k by omega, g4 (n + 1), feed_1 n x1 x2 x3 x4 x5 (by omega) g1.2.2.1 (by omega)]
    rfl
theorem st_feed : S_feed Rel0 := by
  intro μ I M p1 p2 p3 p4 p5 hR
  obtain ⟨⟨yr, nc, nb, nl, tp, h1, h2, h3, h4, h5, h6, h7⟩, hI⟩ := id hR
  obtain ⟨t0, t1, t2, t3, t4⟩ := id h7
  have m12 : M 0 ((12 : Int32)).toNatClampNeg = nI tp := t2
  by_cases q : tp + 20 ≤ 400
  · obtain ⟨g1, g2, g3, g4⟩ := feed_rel h7 q p1 p2 p3 p4 p5 20 (by omega)
    have eA : f_X11_feed (μ 0) (μ 7) p1 p2 p3 p4 p5 = some (nI (tp + 20), tT (μ 7) p1 p2 p3 p4 p5 20) := by
      unfold f_X11_feed
      rw [t1, show nI tp + (20 : Int32) = nI (tp + 20) from nI_add tp 20, if_pos (show nI (tp + 20) ≤ (400 : Int32) from nI_le (b := 400) q (by decide))]
      have a0 := append_eq p1 t1 (by omega)
      have a1 := append_eq p2 (tT_1 p1 p2 p3 p4 p5 t1 4) (by omega)
      have a2 := append_eq p3 (tT_1 p1 p2 p3 p4 p5 t1 8) (by omega)
      have a3 := append_eq p4 (tT_1 p1 p2 p3 p4 p5 t1 12) (by omega)
      have a4 := append_eq p5 (tT_1 p1 p2 p3 p4 p5 t1 16) (by omega)
      have b0 : f_X8_append (μ 7) p1 = some (tT (μ 7) p1 p2 p3 p4 p5 4) := a0
      have b1 : f_X8_append (tT (μ 7) p1 p2 p3 p4 p5 4) p2 = some (tT (μ 7) p1 p2 p3 p4 p5 8) := a1
      have b2 : f_X8_append (tT (μ 7) p1 p2 p3 p4 p5 8) p3 = some (tT (μ 7) p1 p2 p3 p4 p5 12) := a2
      have b3 : f_X8_append (tT (μ 7) p1 p2 p3 p4 p5 12) p4 = some (tT (μ 7) p1 p2 p3 p4 p5 16) := a3
      have b4 : f_X8_append (tT (μ 7) p1 p2 p3 p4 p5 16) p5 = some (tT (μ 7) p1 p2 p3 p4 p5 20) := a4
      rw [b0, Option.bind_some, b1, Option.bind_some, b2, Option.bind_some, b3, Option.bind_some, b4, Option.bind_some, tT_1 p1 p2 p3 p4 p5 t1 20]
    have eB : f_X12_feed M p1 p2 p3 p4 p5 = some (nI (tp + 20), tM M p1 p2 p3 p4 p5 20) := by
      unfold f_X12_feed
      rw [m12, show nI tp + (20 : Int32) = nI (tp + 20) from nI_add tp 20, if_pos (show nI (tp + 20) ≤ (400 : Int32) from nI_le (b := 400) q (by decide))]
      obtain ⟨n, hn⟩ : ∃ n, FU = n + 1 + 20 := ⟨99979, rfl⟩
      rw [hn, show (0 : Int32) = nI 0 from rfl, g4 (n + 1), f_X12_feed_L21, if_pos (by decide), show tM M p1 p2 p3 p4 p5 20 0 ((12 : Int32)).toNatClampNeg = nI (tp + 20) from g1.2.2.1]
    have e : ∀ i, i < 2390 → i ≠ 12 → tM M p1 p2 p3 p4 p5 20 0 i = M 0 i := g3
    refine ⟨_, _, _, eA, eB, ⟨yr, nc, nb, nl, tp + 20, h1.cg (fun i hi => e i ?_ (mem11 hi (by decide))), h2.cg (e _ (by decide) (by decide)) (e _ (by decide) (by decide)) (fun i a b => e i (by omega) (by omega)), h3.cg (e _ (by decide) (by decide)) (fun i a b => e i (by omega) (by omega)), h4.cg (e _ (by decide) (by decide)) (fun i a b => e i (by omega) (by omega)), h5.cg h1.1 (fun i a b => e i (by omega) (by omega)), h6.cg (e _ (by decide) (by decide)) (fun i a b => e i (by omega) (by omega)), g1⟩, hI.keep g2⟩
    simp only [List.mem_cons, List.not_mem_nil, or_false] at hi; omega
  · have nq : ¬ nI (tp + 20) ≤ (400 : Int32) := nI_ge (a := 400) (by omega) (by omega)
    refine ⟨-1, μ 7, M, ?_, ?_, by rw [va_up_id]; exact hR⟩
    · unfold f_X11_feed
      rw [t1, show nI tp + (20 : Int32) = nI (tp + 20) from nI_add tp 20, if_neg nq]
    · unfold f_X12_feed
      rw [m12, show nI tp + (20 : Int32) = nI (tp + 20) from nI_add tp 20, if_neg nq]
/-! ===== the start ===== -/
theorem st_init : S_init Rel0 := by
  refine ⟨⟨0, 0, 0, 0, 0, ?_⟩, fun k _ => rfl, fun k ν _ h => absurd h (by simp)⟩
  refine ⟨⟨by omega, rfl, rfl, Or.inl rfl, rfl, ⟨0, by omega, rfl⟩, rfl, rfl, rfl, rfl, rfl, rfl, rfl, rfl, rfl, ⟨100, by omega, rfl⟩, ⟨1000, by omega, rfl⟩, ⟨1000, by omega, rfl⟩, ⟨1, by omega, rfl⟩⟩, ⟨by omega, rfl, rfl, rfl, Or.inl rfl, fun b h => absurd h (by omega), fun b h => absurd h (by omega)⟩, ⟨by omega, rfl, rfl, fun b h => absurd h (by omega), fun b h => absurd h (by omega)⟩, ⟨0, by omega, rfl, rfl, fun b h => absurd h (by omega)⟩, ⟨fun i h => absurd h (by omega), fun i _ _ => rfl⟩, ⟨by omega, rfl, rfl, fun b h => absurd h (by omega), fun c _ _ => ⟨rfl, rfl, rfl, rfl, rfl⟩⟩, ⟨by omega, rfl, rfl, fun b h => absurd h (by omega), fun i _ => rfl⟩⟩
