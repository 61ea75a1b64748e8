/-! ===== decree: words ===== -/
def chs : List (List Nat) := [[105, 102], [97, 110, 100], [119, 105, 100, 111, 119], [114, 97, 110, 107], [121, 101, 97, 114], [108, 111, 115, 116], [112, 108, 117, 115], [110, 111, 116], [110, 111, 110, 101], [115, 108, 105, 112, 115], [115, 104, 97, 114, 101]]
def chN (k i : Nat) : Nat := (chs.getD k []).getD i 0
theorem sch_N : ∀ k, k < 11 → ∀ i, i < slenN k → sch k i = nI (chN k i) ∧ chN k i ≤ 122 := by decide +kernel
theorem slenN_5 : ∀ k, k < 11 → slenN k ≤ 5 := by decide +kernel
def hashN (z : Nat → Nat) (st : Nat) : Nat → Nat
  | 0 => 0
  | k + 1 => 32 * hashN z st k + (z (st + k) - 96)
theorem wordOf_eq (v : Int64) : f_X12_wordOf v = if v = lN 24416759 then some 1 else if v = lN 591307 then some 2 else if v = lN 824370 then some 3 else if v = lN 20325907 then some 4 else if v = lN 409204 then some 5 else if v = lN 20186693 then some 20 else if v = lN 537267 then some 21 else if v = lN 474565 then some 22 else if v = lN 294 then some 30 else if v = lN 1476 then some 31 else if v = lN 14836 then some 32 else some 99 := by
  have e1 : f_X12_four 119 105 100 111 = some (lN 763023) := by decide +kernel
  have e2 : f_X12_four 114 97 110 107 = some (lN 591307) := by decide +kernel
  have e3 : f_X12_four 121 101 97 114 = some (lN 824370) := by decide +kernel
  have e4 : f_X12_four 115 108 105 112 = some (lN 635184) := by decide +kernel
  have e5 : f_X12_four 108 111 115 116 = some (lN 409204) := by decide +kernel
  have e6 : f_X12_four 115 104 97 114 = some (lN 630834) := by decide +kernel
  have e7 : f_X12_four 112 108 117 115 = some (lN 537267) := by decide +kernel
  have e8 : f_X12_four 110 111 110 101 = some (lN 474565) := by decide +kernel
  have t1 : f_X12_three 97 110 100 = some (lN 1476) := by decide +kernel
  have t2 : f_X12_three 110 111 116 = some (lN 14836) := by decide +kernel
  unfold f_X12_wordOf
  rw [e1, e2, e3, e4, e5, e6, e7, e8, t1, t2]
  simp only [Option.bind_some, lg_cmp_eq]
  rw [show ((lN 763023 * (32 : Int64)) + (119 : Int64)) - (96 : Int64) = lN 24416759 from by decide +kernel]
  rw [show ((lN 635184 * (32 : Int64)) + (115 : Int64)) - (96 : Int64) = lN 20325907 from by decide +kernel]
  rw [show ((lN 630834 * (32 : Int64)) + (101 : Int64)) - (96 : Int64) = lN 20186693 from by decide +kernel]
  rw [show (294 : Int64) = lN 294 from rfl]
section Words
variable {tp : Nat} {T : Mem} {z : Nat → Nat}
theorem isWord_L (hT : TPO tp T z) {st k1 : Nat} (hk : k1 < 11) (hst : st + slenN k1 ≤ tp) {H : Mem} (h2 : H 2 0 = nI st) : ∀ (d j n : Nat), j + d = slenN k1 → d < n → ((∀ i, j ≤ i → i < slenN k1 → z (st + i) = chN k1 i) → f_X9_isWord_L20 k1 n H T (nI j) = some 1) ∧ (∀ i, j ≤ i → i < slenN k1 → z (st + i) ≠ chN k1 i → f_X9_isWord_L20 k1 n H T (nI j) = some 0)
  | 0, j, n + 1, h, _ => by
    have h5 := slenN_5 k1 hk
    refine ⟨fun _ => ?_, fun i a b => absurd a (by omega)⟩
    rw [f_X9_isWord_L20, slen, if_pos (nI_le (by omega) (by omega))]
  | d + 1, j, n + 1, h, hn => by
    have h5 := slenN_5 k1 hk
    have ht := hT.2.1
    obtain ⟨ih1, ih2⟩ := isWord_L hT hk hst h2 d (j + 1) n (by omega) (by omega)
    obtain ⟨c1, c2⟩ := sch_N k1 hk j (by omega)
    have e : f_X9_isWord_L20 k1 (n + 1) H T (nI j) = if z (st + j) = chN k1 j then f_X9_isWord_L20 k1 n H T (nI (j + 1)) else some 0 := by
      rw [f_X9_isWord_L20, slen, if_neg (nI_ge (by omega) (by omega)), h2, nI_add, if_neg (nI_in (N := 400) (by omega) (by decide)), if_neg (nI_in (by omega) (by omega)), nI_clamp (n := st + j) (by omega), nI_clamp (n := j) (by omega), c1, nI_1]
      have q := cls_eq hT (j := st + j) (c := chN k1 j) (by omega) (by omega)
      simp only [q]
    rw [e]
    refine ⟨fun w => ?_, fun i a b w => ?_⟩
    · rw [if_pos (w j (Nat.le_refl _) (by omega))]
      exact ih1 (fun i a b => w i (by omega) b)
    · by_cases q : z (st + j) = chN k1 j
      · rw [if_pos q]
        refine ih2 i ?_ b w
        rcases Nat.lt_or_ge j i with v | v
        · exact v
        · have : i = j := by omega
          subst this
          exact absurd q w
      · rw [if_neg q]
  | d, j, 0, _, hn => absurd hn (by omega)
theorem isWord_eq (hT : TPO tp T z) {st p k1 : Nat} (hk : k1 < 11) (hp : p ≤ tp) (hs : st ≤ p) {H : Mem} (h2 : H 2 0 = nI st) (h3 : H 3 0 = nI p) : ((p - st = slenN k1 ∧ ∀ i, i < slenN k1 → z (st + i) = chN k1 i) → f_X9_isWord H T k1 = some 1) ∧ ((¬ (p - st = slenN k1 ∧ ∀ i, i < slenN k1 → z (st + i) = chN k1 i)) → f_X9_isWord H T k1 = some 0) := by
  have h5 := slenN_5 k1 hk
  have ht := hT.2.1
  have e : f_X9_isWord H T k1 = if p - st = slenN k1 then f_X9_isWord_L20 k1 FU H T 0 else some 0 := by
    unfold f_X9_isWord
    rw [h2, h3, pk_sub hs, slen]
    simp only [nI_eq (show p - st < 2 ^ 31 by omega) (show slenN k1 < 2 ^ 31 by omega)]
  rw [e]
  by_cases q : p - st = slenN k1
  · rw [if_pos q]
    obtain ⟨a, b⟩ := isWord_L hT hk (show st + slenN k1 ≤ tp by omega) h2 (slenN k1) 0 FU (by omega) (FU_gt (by omega))
    refine ⟨fun w => a (fun i _ hi => w.2 i hi), fun w => ?_⟩
    have : ∃ i, i < slenN k1 ∧ z (st + i) ≠ chN k1 i := by
      refine Classical.byContradiction (fun g => w ⟨q, fun i hi => Classical.byContradiction (fun v => g ⟨i, hi, v⟩)⟩)
    obtain ⟨i, hi, v⟩ := this
    exact b i (by omega) hi v
  · rw [if_neg q]
    exact ⟨fun w => absurd w.1 q, fun _ => rfl⟩
theorem wq_0 (hT : TPO tp T z) {st p : Nat} (hp : p ≤ tp) (hs : st ≤ p) {H : Mem} (h2 : H 2 0 = nI st) (h3 : H 3 0 = nI p) : ((p - st = 2 ∧ z (st + 0) = 105 ∧ z (st + 1) = 102) → f_X9_isWord H T 0 = some 1) ∧ (¬ (p - st = 2 ∧ z (st + 0) = 105 ∧ z (st + 1) = 102) → f_X9_isWord H T 0 = some 0) := by
  obtain ⟨a, b⟩ := isWord_eq hT (k1 := 0) (by decide) hp hs h2 h3
  refine ⟨fun q => a ⟨q.1, fun i hi => ?_⟩, fun q => b (fun w => q ⟨w.1, w.2 0 (by decide), w.2 1 (by decide)⟩)⟩
  have hi : i < 2 := hi
  obtain ⟨-, q0, q1⟩ := q
  rcases (show i = 0 ∨ i = 1 by omega) with rfl | rfl
  · exact q0
  · exact q1
theorem wq_1 (hT : TPO tp T z) {st p : Nat} (hp : p ≤ tp) (hs : st ≤ p) {H : Mem} (h2 : H 2 0 = nI st) (h3 : H 3 0 = nI p) : ((p - st = 3 ∧ z (st + 0) = 97 ∧ z (st + 1) = 110 ∧ z (st + 2) = 100) → f_X9_isWord H T 1 = some 1) ∧ (¬ (p - st = 3 ∧ z (st + 0) = 97 ∧ z (st + 1) = 110 ∧ z (st + 2) = 100) → f_X9_isWord H T 1 = some 0) := by
  obtain ⟨a, b⟩ := isWord_eq hT (k1 := 1) (by decide) hp hs h2 h3
  refine ⟨fun q => a ⟨q.1, fun i hi => ?_⟩, fun q => b (fun w => q ⟨w.1, w.2 0 (by decide), w.2 1 (by decide), w.2 2 (by decide)⟩)⟩
  have hi : i < 3 := hi
  obtain ⟨-, q0, q1, q2⟩ := q
  rcases (show i = 0 ∨ i = 1 ∨ i = 2 by omega) with rfl | rfl | rfl
  · exact q0
  · exact q1
  · exact q2
theorem wq_2 (hT : TPO tp T z) {st p : Nat} (hp : p ≤ tp) (hs : st ≤ p) {H : Mem} (h2 : H 2 0 = nI st) (h3 : H 3 0 = nI p) : ((p - st = 5 ∧ z (st + 0) = 119 ∧ z (st + 1) = 105 ∧ z (st + 2) = 100 ∧ z (st + 3) = 111 ∧ z (st + 4) = 119) → f_X9_isWord H T 2 = some 1) ∧ (¬ (p - st = 5 ∧ z (st + 0) = 119 ∧ z (st + 1) = 105 ∧ z (st + 2) = 100 ∧ z (st + 3) = 111 ∧ z (st + 4) = 119) → f_X9_isWord H T 2 = some 0) := by
  obtain ⟨a, b⟩ := isWord_eq hT (k1 := 2) (by decide) hp hs h2 h3
  refine ⟨fun q => a ⟨q.1, fun i hi => ?_⟩, fun q => b (fun w => q ⟨w.1, w.2 0 (by decide), w.2 1 (by decide), w.2 2 (by decide), w.2 3 (by decide), w.2 4 (by decide)⟩)⟩
  have hi : i < 5 := hi
  obtain ⟨-, q0, q1, q2, q3, q4⟩ := q
  rcases (show i = 0 ∨ i = 1 ∨ i = 2 ∨ i = 3 ∨ i = 4 by omega) with rfl | rfl | rfl | rfl | rfl
  · exact q0
  · exact q1
  · exact q2
  · exact q3
  · exact q4
theorem wq_3 (hT : TPO tp T z) {st p : Nat} (hp : p ≤ tp) (hs : st ≤ p) {H : Mem} (h2 : H 2 0 = nI st) (h3 : H 3 0 = nI p) : ((p - st = 4 ∧ z (st + 0) = 114 ∧ z (st + 1) = 97 ∧ z (st + 2) = 110 ∧ z (st + 3) = 107) → f_X9_isWord H T 3 = some 1) ∧ (¬ (p - st = 4 ∧ z (st + 0) = 114 ∧ z (st + 1) = 97 ∧ z (st + 2) = 110 ∧ z (st + 3) = 107) → f_X9_isWord H T 3 = some 0) := by
  obtain ⟨a, b⟩ := isWord_eq hT (k1 := 3) (by decide) hp hs h2 h3
  refine ⟨fun q => a ⟨q.1, fun i hi => ?_⟩, fun q => b (fun w => q ⟨w.1, w.2 0 (by decide), w.2 1 (by decide), w.2 2 (by decide), w.2 3 (by decide)⟩)⟩
  have hi : i < 4 := hi
  obtain ⟨-, q0, q1, q2, q3⟩ := q
  rcases (show i = 0 ∨ i = 1 ∨ i = 2 ∨ i = 3 by omega) with rfl | rfl | rfl | rfl
  · exact q0
  · exact q1
  · exact q2
  · exact q3
theorem wq_4 (hT : TPO tp T z) {st p : Nat} (hp : p ≤ tp) (hs : st ≤ p) {H : Mem} (h2 : H 2 0 = nI st) (h3 : H 3 0 = nI p) : ((p - st = 4 ∧ z (st + 0) = 121 ∧ z (st + 1) = 101 ∧ z (st + 2) = 97 ∧ z (st + 3) = 114) → f_X9_isWord H T 4 = some 1) ∧ (¬ (p - st = 4 ∧ z (st + 0) = 121 ∧ z (st + 1) = 101 ∧ z (st + 2) = 97 ∧ z (st + 3) = 114) → f_X9_isWord H T 4 = some 0) := by
  obtain ⟨a, b⟩ := isWord_eq hT (k1 := 4) (by decide) hp hs h2 h3
  refine ⟨fun q => a ⟨q.1, fun i hi => ?_⟩, fun q => b (fun w => q ⟨w.1, w.2 0 (by decide), w.2 1 (by decide), w.2 2 (by decide), w.2 3 (by decide)⟩)⟩
  have hi : i < 4 := hi
  obtain ⟨-, q0, q1, q2, q3⟩ := q
  rcases (show i = 0 ∨ i = 1 ∨ i = 2 ∨ i = 3 by omega) with rfl | rfl | rfl | rfl
  · exact q0
  · exact q1
  · exact q2
  · exact q3
theorem wq_5 (hT : TPO tp T z) {st p : Nat} (hp : p ≤ tp) (hs : st ≤ p) {H : Mem} (h2 : H 2 0 = nI st) (h3 : H 3 0 = nI p) : ((p - st = 4 ∧ z (st + 0) = 108 ∧ z (st + 1) = 111 ∧ z (st + 2) = 115 ∧ z (st + 3) = 116) → f_X9_isWord H T 5 = some 1) ∧ (¬ (p - st = 4 ∧ z (st + 0) = 108 ∧ z (st + 1) = 111 ∧ z (st + 2) = 115 ∧ z (st + 3) = 116) → f_X9_isWord H T 5 = some 0) := by
  obtain ⟨a, b⟩ := isWord_eq hT (k1 := 5) (by decide) hp hs h2 h3
  refine ⟨fun q => a ⟨q.1, fun i hi => ?_⟩, fun q => b (fun w => q ⟨w.1, w.2 0 (by decide), w.2 1 (by decide), w.2 2 (by decide), w.2 3 (by decide)⟩)⟩
  have hi : i < 4 := hi
  obtain ⟨-, q0, q1, q2, q3⟩ := q
  rcases (show i = 0 ∨ i = 1 ∨ i = 2 ∨ i = 3 by omega) with rfl | rfl | rfl | rfl
  · exact q0
  · exact q1
  · exact q2
  · exact q3
theorem wq_6 (hT : TPO tp T z) {st p : Nat} (hp : p ≤ tp) (hs : st ≤ p) {H : Mem} (h2 : H 2 0 = nI st) (h3 : H 3 0 = nI p) : ((p - st = 4 ∧ z (st + 0) = 112 ∧ z (st + 1) = 108 ∧ z (st + 2) = 117 ∧ z (st + 3) = 115) → f_X9_isWord H T 6 = some 1) ∧ (¬ (p - st = 4 ∧ z (st + 0) = 112 ∧ z (st + 1) = 108 ∧ z (st + 2) = 117 ∧ z (st + 3) = 115) → f_X9_isWord H T 6 = some 0) := by
  obtain ⟨a, b⟩ := isWord_eq hT (k1 := 6) (by decide) hp hs h2 h3
  refine ⟨fun q => a ⟨q.1, fun i hi => ?_⟩, fun q => b (fun w => q ⟨w.1, w.2 0 (by decide), w.2 1 (by decide), w.2 2 (by decide), w.2 3 (by decide)⟩)⟩
  have hi : i < 4 := hi
  obtain ⟨-, q0, q1, q2, q3⟩ := q
  rcases (show i = 0 ∨ i = 1 ∨ i = 2 ∨ i = 3 by omega) with rfl | rfl | rfl | rfl
  · exact q0
  · exact q1
  · exact q2
  · exact q3
theorem wq_7 (hT : TPO tp T z) {st p : Nat} (hp : p ≤ tp) (hs : st ≤ p) {H : Mem} (h2 : H 2 0 = nI st) (h3 : H 3 0 = nI p) : ((p - st = 3 ∧ z (st + 0) = 110 ∧ z (st + 1) = 111 ∧ z (st + 2) = 116) → f_X9_isWord H T 7 = some 1) ∧ (¬ (p - st = 3 ∧ z (st + 0) = 110 ∧ z (st + 1) = 111 ∧ z (st + 2) = 116) → f_X9_isWord H T 7 = some 0) := by
  obtain ⟨a, b⟩ := isWord_eq hT (k1 := 7) (by decide) hp hs h2 h3
  refine ⟨fun q => a ⟨q.1, fun i hi => ?_⟩, fun q => b (fun w => q ⟨w.1, w.2 0 (by decide), w.2 1 (by decide), w.2 2 (by decide)⟩)⟩
  have hi : i < 3 := hi
  obtain ⟨-, q0, q1, q2⟩ := q
  rcases (show i = 0 ∨ i = 1 ∨ i = 2 by omega) with rfl | rfl | rfl
  · exact q0
  · exact q1
  · exact q2
theorem wq_8 (hT : TPO tp T z) {st p : Nat} (hp : p ≤ tp) (hs : st ≤ p) {H : Mem} (h2 : H 2 0 = nI st) (h3 : H 3 0 = nI p) : ((p - st = 4 ∧ z (st + 0) = 110 ∧ z (st + 1) = 111 ∧ z (st + 2) = 110 ∧ z (st + 3) = 101) → f_X9_isWord H T 8 = some 1) ∧ (¬ (p - st = 4 ∧ z (st + 0) = 110 ∧ z (st + 1) = 111 ∧ z (st + 2) = 110 ∧ z (st + 3) = 101) → f_X9_isWord H T 8 = some 0) := by
  obtain ⟨a, b⟩ := isWord_eq hT (k1 := 8) (by decide) hp hs h2 h3
  refine ⟨fun q => a ⟨q.1, fun i hi => ?_⟩, fun q => b (fun w => q ⟨w.1, w.2 0 (by decide), w.2 1 (by decide), w.2 2 (by decide), w.2 3 (by decide)⟩)⟩
  have hi : i < 4 := hi
  obtain ⟨-, q0, q1, q2, q3⟩ := q
  rcases (show i = 0 ∨ i = 1 ∨ i = 2 ∨ i = 3 by omega) with rfl | rfl | rfl | rfl
  · exact q0
  · exact q1
  · exact q2
  · exact q3
theorem wq_9 (hT : TPO tp T z) {st p : Nat} (hp : p ≤ tp) (hs : st ≤ p) {H : Mem} (h2 : H 2 0 = nI st) (h3 : H 3 0 = nI p) : ((p - st = 5 ∧ z (st + 0) = 115 ∧ z (st + 1) = 108 ∧ z (st + 2) = 105 ∧ z (st + 3) = 112 ∧ z (st + 4) = 115) → f_X9_isWord H T 9 = some 1) ∧ (¬ (p - st = 5 ∧ z (st + 0) = 115 ∧ z (st + 1) = 108 ∧ z (st + 2) = 105 ∧ z (st + 3) = 112 ∧ z (st + 4) = 115) → f_X9_isWord H T 9 = some 0) := by
  obtain ⟨a, b⟩ := isWord_eq hT (k1 := 9) (by decide) hp hs h2 h3
  refine ⟨fun q => a ⟨q.1, fun i hi => ?_⟩, fun q => b (fun w => q ⟨w.1, w.2 0 (by decide), w.2 1 (by decide), w.2 2 (by decide), w.2 3 (by decide), w.2 4 (by decide)⟩)⟩
  have hi : i < 5 := hi
  obtain ⟨-, q0, q1, q2, q3, q4⟩ := q
  rcases (show i = 0 ∨ i = 1 ∨ i = 2 ∨ i = 3 ∨ i = 4 by omega) with rfl | rfl | rfl | rfl | rfl
  · exact q0
  · exact q1
  · exact q2
  · exact q3
  · exact q4
theorem wq_10 (hT : TPO tp T z) {st p : Nat} (hp : p ≤ tp) (hs : st ≤ p) {H : Mem} (h2 : H 2 0 = nI st) (h3 : H 3 0 = nI p) : ((p - st = 5 ∧ z (st + 0) = 115 ∧ z (st + 1) = 104 ∧ z (st + 2) = 97 ∧ z (st + 3) = 114 ∧ z (st + 4) = 101) → f_X9_isWord H T 10 = some 1) ∧ (¬ (p - st = 5 ∧ z (st + 0) = 115 ∧ z (st + 1) = 104 ∧ z (st + 2) = 97 ∧ z (st + 3) = 114 ∧ z (st + 4) = 101) → f_X9_isWord H T 10 = some 0) := by
  obtain ⟨a, b⟩ := isWord_eq hT (k1 := 10) (by decide) hp hs h2 h3
  refine ⟨fun q => a ⟨q.1, fun i hi => ?_⟩, fun q => b (fun w => q ⟨w.1, w.2 0 (by decide), w.2 1 (by decide), w.2 2 (by decide), w.2 3 (by decide), w.2 4 (by decide)⟩)⟩
  have hi : i < 5 := hi
  obtain ⟨-, q0, q1, q2, q3, q4⟩ := q
  rcases (show i = 0 ∨ i = 1 ∨ i = 2 ∨ i = 3 ∨ i = 4 by omega) with rfl | rfl | rfl | rfl | rfl
  · exact q0
  · exact q1
  · exact q2
  · exact q3
  · exact q4
theorem hash_b (z : Nat → Nat) (st : Nat) : ∀ k, k ≤ 6 → (∀ j, j < k → 97 ≤ z (st + j) ∧ z (st + j) ≤ 122) → hashN z st k < 32 ^ k
  | 0, _, _ => by simp [hashN]
  | k + 1, hk, h => by
    have ih := hash_b z st k (by omega) (fun j hj => h j (by omega))
    have := h k (by omega)
    rw [hashN, Nat.pow_succ]
    omega
theorem hash_inj {z' : Nat → Nat} {st st' : Nat} : ∀ (k k' : Nat), (∀ j, j < k → 97 ≤ z (st + j) ∧ z (st + j) ≤ 122) → (∀ j, j < k' → 97 ≤ z' (st' + j) ∧ z' (st' + j) ≤ 122) → hashN z st k = hashN z' st' k' → k = k' ∧ ∀ i, i < k → z (st + i) = z' (st' + i)
  | 0, 0, _, _, _ => ⟨rfl, fun i hi => absurd hi (by omega)⟩
  | 0, k' + 1, _, h', e => by
    have := h' k' (by omega)
    simp only [hashN] at e
    omega
  | k + 1, 0, h, _, e => by
    have := h k (by omega)
    simp only [hashN] at e
    omega
  | k + 1, k' + 1, h, h', e => by
    have h1 := h k (by omega)
    have h2 := h' k' (by omega)
    simp only [hashN] at e
    have e1 : hashN z st k = hashN z' st' k' := by omega
    have e2 : z (st + k) = z' (st' + k') := by omega
    obtain ⟨a, b⟩ := hash_inj k k' (fun j hj => h j (by omega)) (fun j hj => h' j (by omega)) e1
    subst a
    refine ⟨rfl, fun i hi => ?_⟩
    by_cases q : i = k
    · subst q; exact e2
    · exact b i (by omega)
theorem chN_let : ∀ k, k < 11 → ∀ j, j < slenN k → 97 ≤ chN k (0 + j) ∧ chN k (0 + j) ≤ 122 := by decide +kernel
theorem hash_0 {st p : Nat} (hl : ∀ j, st + j < p → 97 ≤ z (st + j) ∧ z (st + j) ≤ 122) : hashN z st (p - st) = 294 ↔ (p - st = 2 ∧ z (st + 0) = 105 ∧ z (st + 1) = 102) := by
  constructor
  · intro e
    obtain ⟨a, b⟩ := hash_inj (z := z) (z' := chN 0) (st := st) (st' := 0) (p - st) 2 (fun j hj => hl j (by omega)) (chN_let 0 (by decide)) (e.trans (show 294 = hashN (chN 0) 0 2 by decide +kernel))
    exact ⟨a, b 0 (by omega), b 1 (by omega)⟩
  · rintro ⟨e, q0, q1⟩
    rw [e]
    simp only [hashN, q0, q1]
theorem hash_1 {st p : Nat} (hl : ∀ j, st + j < p → 97 ≤ z (st + j) ∧ z (st + j) ≤ 122) : hashN z st (p - st) = 1476 ↔ (p - st = 3 ∧ z (st + 0) = 97 ∧ z (st + 1) = 110 ∧ z (st + 2) = 100) := by
  constructor
  · intro e
    obtain ⟨a, b⟩ := hash_inj (z := z) (z' := chN 1) (st := st) (st' := 0) (p - st) 3 (fun j hj => hl j (by omega)) (chN_let 1 (by decide)) (e.trans (show 1476 = hashN (chN 1) 0 3 by decide +kernel))
    exact ⟨a, b 0 (by omega), b 1 (by omega), b 2 (by omega)⟩
  · rintro ⟨e, q0, q1, q2⟩
    rw [e]
    simp only [hashN, q0, q1, q2]
theorem hash_2 {st p : Nat} (hl : ∀ j, st + j < p → 97 ≤ z (st + j) ∧ z (st + j) ≤ 122) : hashN z st (p - st) = 24416759 ↔ (p - st = 5 ∧ z (st + 0) = 119 ∧ z (st + 1) = 105 ∧ z (st + 2) = 100 ∧ z (st + 3) = 111 ∧ z (st + 4) = 119) := by
  constructor
  · intro e
    obtain ⟨a, b⟩ := hash_inj (z := z) (z' := chN 2) (st := st) (st' := 0) (p - st) 5 (fun j hj => hl j (by omega)) (chN_let 2 (by decide)) (e.trans (show 24416759 = hashN (chN 2) 0 5 by decide +kernel))
    exact ⟨a, b 0 (by omega), b 1 (by omega), b 2 (by omega), b 3 (by omega), b 4 (by omega)⟩
  · rintro ⟨e, q0, q1, q2, q3, q4⟩
    rw [e]
    simp only [hashN, q0, q1, q2, q3, q4]
theorem hash_3 {st p : Nat} (hl : ∀ j, st + j < p → 97 ≤ z (st + j) ∧ z (st + j) ≤ 122) : hashN z st (p - st) = 591307 ↔ (p - st = 4 ∧ z (st + 0) = 114 ∧ z (st + 1) = 97 ∧ z (st + 2) = 110 ∧ z (st + 3) = 107) := by
  constructor
  · intro e
    obtain ⟨a, b⟩ := hash_inj (z := z) (z' := chN 3) (st := st) (st' := 0) (p - st) 4 (fun j hj => hl j (by omega)) (chN_let 3 (by decide)) (e.trans (show 591307 = hashN (chN 3) 0 4 by decide +kernel))
    exact ⟨a, b 0 (by omega), b 1 (by omega), b 2 (by omega), b 3 (by omega)⟩
  · rintro ⟨e, q0, q1, q2, q3⟩
    rw [e]
    simp only [hashN, q0, q1, q2, q3]
theorem hash_4 {st p : Nat} (hl : ∀ j, st + j < p → 97 ≤ z (st + j) ∧ z (st + j) ≤ 122) : hashN z st (p - st) = 824370 ↔ (p - st = 4 ∧ z (st + 0) = 121 ∧ z (st + 1) = 101 ∧ z (st + 2) = 97 ∧ z (st + 3) = 114) := by
  constructor
  · intro e
    obtain ⟨a, b⟩ := hash_inj (z := z) (z' := chN 4) (st := st) (st' := 0) (p - st) 4 (fun j hj => hl j (by omega)) (chN_let 4 (by decide)) (e.trans (show 824370 = hashN (chN 4) 0 4 by decide +kernel))
    exact ⟨a, b 0 (by omega), b 1 (by omega), b 2 (by omega), b 3 (by omega)⟩
  · rintro ⟨e, q0, q1, q2, q3⟩
    rw [e]
    simp only [hashN, q0, q1, q2, q3]
theorem hash_5 {st p : Nat} (hl : ∀ j, st + j < p → 97 ≤ z (st + j) ∧ z (st + j) ≤ 122) : hashN z st (p - st) = 409204 ↔ (p - st = 4 ∧ z (st + 0) = 108 ∧ z (st + 1) = 111 ∧ z (st + 2) = 115 ∧ z (st + 3) = 116) := by
  constructor
  · intro e
    obtain ⟨a, b⟩ := hash_inj (z := z) (z' := chN 5) (st := st) (st' := 0) (p - st) 4 (fun j hj => hl j (by omega)) (chN_let 5 (by decide)) (e.trans (show 409204 = hashN (chN 5) 0 4 by decide +kernel))
    exact ⟨a, b 0 (by omega), b 1 (by omega), b 2 (by omega), b 3 (by omega)⟩
  · rintro ⟨e, q0, q1, q2, q3⟩
    rw [e]
    simp only [hashN, q0, q1, q2, q3]
theorem hash_6 {st p : Nat} (hl : ∀ j, st + j < p → 97 ≤ z (st + j) ∧ z (st + j) ≤ 122) : hashN z st (p - st) = 537267 ↔ (p - st = 4 ∧ z (st + 0) = 112 ∧ z (st + 1) = 108 ∧ z (st + 2) = 117 ∧ z (st + 3) = 115) := by
  constructor
  · intro e
    obtain ⟨a, b⟩ := hash_inj (z := z) (z' := chN 6) (st := st) (st' := 0) (p - st) 4 (fun j hj => hl j (by omega)) (chN_let 6 (by decide)) (e.trans (show 537267 = hashN (chN 6) 0 4 by decide +kernel))
    exact ⟨a, b 0 (by omega), b 1 (by omega), b 2 (by omega), b 3 (by omega)⟩
  · rintro ⟨e, q0, q1, q2, q3⟩
    rw [e]
    simp only [hashN, q0, q1, q2, q3]
theorem hash_7 {st p : Nat} (hl : ∀ j, st + j < p → 97 ≤ z (st + j) ∧ z (st + j) ≤ 122) : hashN z st (p - st) = 14836 ↔ (p - st = 3 ∧ z (st + 0) = 110 ∧ z (st + 1) = 111 ∧ z (st + 2) = 116) := by
  constructor
  · intro e
    obtain ⟨a, b⟩ := hash_inj (z := z) (z' := chN 7) (st := st) (st' := 0) (p - st) 3 (fun j hj => hl j (by omega)) (chN_let 7 (by decide)) (e.trans (show 14836 = hashN (chN 7) 0 3 by decide +kernel))
    exact ⟨a, b 0 (by omega), b 1 (by omega), b 2 (by omega)⟩
  · rintro ⟨e, q0, q1, q2⟩
    rw [e]
    simp only [hashN, q0, q1, q2]
theorem hash_8 {st p : Nat} (hl : ∀ j, st + j < p → 97 ≤ z (st + j) ∧ z (st + j) ≤ 122) : hashN z st (p - st) = 474565 ↔ (p - st = 4 ∧ z (st + 0) = 110 ∧ z (st + 1) = 111 ∧ z (st + 2) = 110 ∧ z (st + 3) = 101) := by
  constructor
  · intro e
    obtain ⟨a, b⟩ := hash_inj (z := z) (z' := chN 8) (st := st) (st' := 0) (p - st) 4 (fun j hj => hl j (by omega)) (chN_let 8 (by decide)) (e.trans (show 474565 = hashN (chN 8) 0 4 by decide +kernel))
    exact ⟨a, b 0 (by omega), b 1 (by omega), b 2 (by omega), b 3 (by omega)⟩
  · rintro ⟨e, q0, q1, q2, q3⟩
    rw [e]
    simp only [hashN, q0, q1, q2, q3]
theorem hash_9 {st p : Nat} (hl : ∀ j, st + j < p → 97 ≤ z (st + j) ∧ z (st + j) ≤ 122) : hashN z st (p - st) = 20325907 ↔ (p - st = 5 ∧ z (st + 0) = 115 ∧ z (st + 1) = 108 ∧ z (st + 2) = 105 ∧ z (st + 3) = 112 ∧ z (st + 4) = 115) := by
  constructor
  · intro e
    obtain ⟨a, b⟩ := hash_inj (z := z) (z' := chN 9) (st := st) (st' := 0) (p - st) 5 (fun j hj => hl j (by omega)) (chN_let 9 (by decide)) (e.trans (show 20325907 = hashN (chN 9) 0 5 by decide +kernel))
    exact ⟨a, b 0 (by omega), b 1 (by omega), b 2 (by omega), b 3 (by omega), b 4 (by omega)⟩
  · rintro ⟨e, q0, q1, q2, q3, q4⟩
    rw [e]
    simp only [hashN, q0, q1, q2, q3, q4]
theorem hash_10 {st p : Nat} (hl : ∀ j, st + j < p → 97 ≤ z (st + j) ∧ z (st + j) ≤ 122) : hashN z st (p - st) = 20186693 ↔ (p - st = 5 ∧ z (st + 0) = 115 ∧ z (st + 1) = 104 ∧ z (st + 2) = 97 ∧ z (st + 3) = 114 ∧ z (st + 4) = 101) := by
  constructor
  · intro e
    obtain ⟨a, b⟩ := hash_inj (z := z) (z' := chN 10) (st := st) (st' := 0) (p - st) 5 (fun j hj => hl j (by omega)) (chN_let 10 (by decide)) (e.trans (show 20186693 = hashN (chN 10) 0 5 by decide +kernel))
    exact ⟨a, b 0 (by omega), b 1 (by omega), b 2 (by omega), b 3 (by omega), b 4 (by omega)⟩
  · rintro ⟨e, q0, q1, q2, q3, q4⟩
    rw [e]
    simp only [hashN, q0, q1, q2, q3, q4]
/-- what a word is, for both -/
theorem word_eq (hT : TPO tp T z) {st p : Nat} (hp : p ≤ tp) (hs : st < p) (hl : ∀ j, st + j < p → 97 ≤ z (st + j) ∧ z (st + j) ≤ 122) {H : Mem} (h2 : H 2 0 = nI st) (h3 : H 3 0 = nI p) : ∃ a b : Int32, f_X9_wordToken H T = some a ∧ (if p - st ≤ 5 then f_X12_wordOf (lN (hashN z st (p - st))) else some 99) = some b ∧ ((a = 13 ∧ b = 99) ∨ (a = 9 ∧ b = 30) ∨ (a = 10 ∧ b = 31) ∨ (a = 1 ∧ b = 1) ∨ (a = 2 ∧ b = 2) ∨ (a = 3 ∧ b = 3) ∨ (a = 5 ∧ b = 5) ∨ (a = 7 ∧ b = 21) ∨ (a = 11 ∧ b = 32) ∨ (a = 8 ∧ b = 22) ∨ (a = 4 ∧ b = 4) ∨ (a = 6 ∧ b = 20)) := by
  have ht := hT.2.1
  have z0 : T 0 st = nI (z st) := by
    have := hl 0 (by omega)
    rw [Nat.add_zero] at this
    rcases (hT.2.2 st (by omega)).2 with ⟨_, e⟩ | ⟨e, _⟩
    · exact e
    · omega
  obtain ⟨y0, n0⟩ := wq_0 hT hp (Nat.le_of_lt hs) h2 h3
  obtain ⟨y1, n1⟩ := wq_1 hT hp (Nat.le_of_lt hs) h2 h3
  obtain ⟨y2, n2⟩ := wq_2 hT hp (Nat.le_of_lt hs) h2 h3
  obtain ⟨y3, n3⟩ := wq_3 hT hp (Nat.le_of_lt hs) h2 h3
  obtain ⟨y4, n4⟩ := wq_4 hT hp (Nat.le_of_lt hs) h2 h3
  obtain ⟨y5, n5⟩ := wq_5 hT hp (Nat.le_of_lt hs) h2 h3
  obtain ⟨y6, n6⟩ := wq_6 hT hp (Nat.le_of_lt hs) h2 h3
  obtain ⟨y7, n7⟩ := wq_7 hT hp (Nat.le_of_lt hs) h2 h3
  obtain ⟨y8, n8⟩ := wq_8 hT hp (Nat.le_of_lt hs) h2 h3
  obtain ⟨y9, n9⟩ := wq_9 hT hp (Nat.le_of_lt hs) h2 h3
  obtain ⟨y10, n10⟩ := wq_10 hT hp (Nat.le_of_lt hs) h2 h3
  unfold f_X9_wordToken
  rw [h2, if_neg (nI_in (N := 400) (by omega) (by decide)), nI_clamp (n := st) (by omega), z0]
  by_cases q0 : (p - st = 2 ∧ z (st + 0) = 105 ∧ z (st + 1) = 102)
  · refine ⟨9, 30, ?_, ?_, ?_⟩
    · rw [show z st = 105 from q0.2.1]
      rw [if_neg (by decide), if_neg (by decide), if_neg (by decide), if_neg (by decide), if_neg (by decide), if_neg (by decide), if_neg (by decide), if_neg (by decide), if_pos (by decide), y0 q0, Option.bind_some, if_neg (by decide)]
    · rw [if_pos (by omega), (hash_0 hl).mpr q0]
      decide +kernel
    · exact Or.inr (Or.inl ⟨rfl, rfl⟩)
  by_cases q1 : (p - st = 3 ∧ z (st + 0) = 97 ∧ z (st + 1) = 110 ∧ z (st + 2) = 100)
  · refine ⟨10, 31, ?_, ?_, ?_⟩
    · rw [show z st = 97 from q1.2.1]
      rw [if_pos (by decide), y1 q1, Option.bind_some, if_neg (by decide)]
    · rw [if_pos (by omega), (hash_1 hl).mpr q1]
      decide +kernel
    · exact Or.inr (Or.inr (Or.inl ⟨rfl, rfl⟩))
  by_cases q2 : (p - st = 5 ∧ z (st + 0) = 119 ∧ z (st + 1) = 105 ∧ z (st + 2) = 100 ∧ z (st + 3) = 111 ∧ z (st + 4) = 119)
  · refine ⟨1, 1, ?_, ?_, ?_⟩
    · rw [show z st = 119 from q2.2.1]
      rw [if_neg (by decide), if_neg (by decide), if_neg (by decide), if_neg (by decide), if_neg (by decide), if_neg (by decide), if_neg (by decide), if_neg (by decide), if_neg (by decide), if_neg (by decide), if_neg (by decide), if_neg (by decide), if_neg (by decide), if_neg (by decide), if_neg (by decide), if_neg (by decide), if_neg (by decide), if_neg (by decide), if_neg (by decide), if_neg (by decide), if_neg (by decide), if_neg (by decide), if_pos (by decide), y2 q2, Option.bind_some, if_neg (by decide)]
    · rw [if_pos (by omega), (hash_2 hl).mpr q2]
      decide +kernel
    · exact Or.inr (Or.inr (Or.inr (Or.inl ⟨rfl, rfl⟩)))
  by_cases q3 : (p - st = 4 ∧ z (st + 0) = 114 ∧ z (st + 1) = 97 ∧ z (st + 2) = 110 ∧ z (st + 3) = 107)
  · refine ⟨2, 2, ?_, ?_, ?_⟩
    · rw [show z st = 114 from q3.2.1]
      rw [if_neg (by decide), if_neg (by decide), if_neg (by decide), if_neg (by decide), if_neg (by decide), if_neg (by decide), if_neg (by decide), if_neg (by decide), if_neg (by decide), if_neg (by decide), if_neg (by decide), if_neg (by decide), if_neg (by decide), if_neg (by decide), if_neg (by decide), if_neg (by decide), if_neg (by decide), if_pos (by decide), y3 q3, Option.bind_some, if_neg (by decide)]
    · rw [if_pos (by omega), (hash_3 hl).mpr q3]
      decide +kernel
    · exact Or.inr (Or.inr (Or.inr (Or.inr (Or.inl ⟨rfl, rfl⟩))))
  by_cases q4 : (p - st = 4 ∧ z (st + 0) = 121 ∧ z (st + 1) = 101 ∧ z (st + 2) = 97 ∧ z (st + 3) = 114)
  · refine ⟨3, 3, ?_, ?_, ?_⟩
    · rw [show z st = 121 from q4.2.1]
      rw [if_neg (by decide), if_neg (by decide), if_neg (by decide), if_neg (by decide), if_neg (by decide), if_neg (by decide), if_neg (by decide), if_neg (by decide), if_neg (by decide), if_neg (by decide), if_neg (by decide), if_neg (by decide), if_neg (by decide), if_neg (by decide), if_neg (by decide), if_neg (by decide), if_neg (by decide), if_neg (by decide), if_neg (by decide), if_neg (by decide), if_neg (by decide), if_neg (by decide), if_neg (by decide), if_neg (by decide), if_pos (by decide), y4 q4, Option.bind_some, if_neg (by decide)]
    · rw [if_pos (by omega), (hash_4 hl).mpr q4]
      decide +kernel
    · exact Or.inr (Or.inr (Or.inr (Or.inr (Or.inr (Or.inl ⟨rfl, rfl⟩)))))
  by_cases q5 : (p - st = 4 ∧ z (st + 0) = 108 ∧ z (st + 1) = 111 ∧ z (st + 2) = 115 ∧ z (st + 3) = 116)
  · refine ⟨5, 5, ?_, ?_, ?_⟩
    · rw [show z st = 108 from q5.2.1]
      rw [if_neg (by decide), if_neg (by decide), if_neg (by decide), if_neg (by decide), if_neg (by decide), if_neg (by decide), if_neg (by decide), if_neg (by decide), if_neg (by decide), if_neg (by decide), if_neg (by decide), if_pos (by decide), y5 q5, Option.bind_some, if_neg (by decide)]
    · rw [if_pos (by omega), (hash_5 hl).mpr q5]
      decide +kernel
    · exact Or.inr (Or.inr (Or.inr (Or.inr (Or.inr (Or.inr (Or.inl ⟨rfl, rfl⟩))))))
  by_cases q6 : (p - st = 4 ∧ z (st + 0) = 112 ∧ z (st + 1) = 108 ∧ z (st + 2) = 117 ∧ z (st + 3) = 115)
  · refine ⟨7, 21, ?_, ?_, ?_⟩
    · rw [show z st = 112 from q6.2.1]
      rw [if_neg (by decide), if_neg (by decide), if_neg (by decide), if_neg (by decide), if_neg (by decide), if_neg (by decide), if_neg (by decide), if_neg (by decide), if_neg (by decide), if_neg (by decide), if_neg (by decide), if_neg (by decide), if_neg (by decide), if_neg (by decide), if_neg (by decide), if_pos (by decide), y6 q6, Option.bind_some, if_neg (by decide)]
    · rw [if_pos (by omega), (hash_6 hl).mpr q6]
      decide +kernel
    · exact Or.inr (Or.inr (Or.inr (Or.inr (Or.inr (Or.inr (Or.inr (Or.inl ⟨rfl, rfl⟩)))))))
  by_cases q7 : (p - st = 3 ∧ z (st + 0) = 110 ∧ z (st + 1) = 111 ∧ z (st + 2) = 116)
  · refine ⟨11, 32, ?_, ?_, ?_⟩
    · rw [show z st = 110 from q7.2.1]
      rw [if_neg (by decide), if_neg (by decide), if_neg (by decide), if_neg (by decide), if_neg (by decide), if_neg (by decide), if_neg (by decide), if_neg (by decide), if_neg (by decide), if_neg (by decide), if_neg (by decide), if_neg (by decide), if_neg (by decide), if_pos (by decide), y7 q7, Option.bind_some, if_neg (by decide)]
    · rw [if_pos (by omega), (hash_7 hl).mpr q7]
      decide +kernel
    · exact Or.inr (Or.inr (Or.inr (Or.inr (Or.inr (Or.inr (Or.inr (Or.inr (Or.inl ⟨rfl, rfl⟩))))))))
  by_cases q8 : (p - st = 4 ∧ z (st + 0) = 110 ∧ z (st + 1) = 111 ∧ z (st + 2) = 110 ∧ z (st + 3) = 101)
  · refine ⟨8, 22, ?_, ?_, ?_⟩
    · rw [show z st = 110 from q8.2.1]
      rw [if_neg (by decide), if_neg (by decide), if_neg (by decide), if_neg (by decide), if_neg (by decide), if_neg (by decide), if_neg (by decide), if_neg (by decide), if_neg (by decide), if_neg (by decide), if_neg (by decide), if_neg (by decide), if_neg (by decide), if_pos (by decide), n7 (by omega), Option.bind_some, if_pos rfl, y8 q8, Option.bind_some, if_neg (by decide)]
    · rw [if_pos (by omega), (hash_8 hl).mpr q8]
      decide +kernel
    · exact Or.inr (Or.inr (Or.inr (Or.inr (Or.inr (Or.inr (Or.inr (Or.inr (Or.inr (Or.inl ⟨rfl, rfl⟩)))))))))
  by_cases q9 : (p - st = 5 ∧ z (st + 0) = 115 ∧ z (st + 1) = 108 ∧ z (st + 2) = 105 ∧ z (st + 3) = 112 ∧ z (st + 4) = 115)
  · refine ⟨4, 4, ?_, ?_, ?_⟩
    · rw [show z st = 115 from q9.2.1]
      rw [if_neg (by decide), if_neg (by decide), if_neg (by decide), if_neg (by decide), if_neg (by decide), if_neg (by decide), if_neg (by decide), if_neg (by decide), if_neg (by decide), if_neg (by decide), if_neg (by decide), if_neg (by decide), if_neg (by decide), if_neg (by decide), if_neg (by decide), if_neg (by decide), if_neg (by decide), if_neg (by decide), if_pos (by decide), y9 q9, Option.bind_some, if_neg (by decide)]
    · rw [if_pos (by omega), (hash_9 hl).mpr q9]
      decide +kernel
    · exact Or.inr (Or.inr (Or.inr (Or.inr (Or.inr (Or.inr (Or.inr (Or.inr (Or.inr (Or.inr (Or.inl ⟨rfl, rfl⟩))))))))))
  by_cases q10 : (p - st = 5 ∧ z (st + 0) = 115 ∧ z (st + 1) = 104 ∧ z (st + 2) = 97 ∧ z (st + 3) = 114 ∧ z (st + 4) = 101)
  · refine ⟨6, 20, ?_, ?_, ?_⟩
    · rw [show z st = 115 from q10.2.1]
      rw [if_neg (by decide), if_neg (by decide), if_neg (by decide), if_neg (by decide), if_neg (by decide), if_neg (by decide), if_neg (by decide), if_neg (by decide), if_neg (by decide), if_neg (by decide), if_neg (by decide), if_neg (by decide), if_neg (by decide), if_neg (by decide), if_neg (by decide), if_neg (by decide), if_neg (by decide), if_neg (by decide), if_pos (by decide), n9 (by omega), Option.bind_some, if_pos rfl, y10 q10, Option.bind_some, if_neg (by decide)]
    · rw [if_pos (by omega), (hash_10 hl).mpr q10]
      decide +kernel
    · exact Or.inr (Or.inr (Or.inr (Or.inr (Or.inr (Or.inr (Or.inr (Or.inr (Or.inr (Or.inr (Or.inr (⟨rfl, rfl⟩)))))))))))
  refine ⟨13, 99, ?_, ?_, Or.inl ⟨rfl, rfl⟩⟩
  · rw [n0 q0, n1 q1, n2 q2, n3 q3, n4 q4, n5 q5, n6 q6, n7 q7, n8 q8, n9 q9, n10 q10]
    simp only [Option.bind_some, if_true, ite_self]
  · by_cases w : p - st ≤ 5
    · rw [if_pos w, wordOf_eq]
      have hb : hashN z st (p - st) < 2 ^ 31 := by
        have := hash_b z st (p - st) (by omega) (fun j hj => hl j (by omega))
        have : 32 ^ (p - st) ≤ 32 ^ 5 := Nat.pow_le_pow_right (by decide) w
        omega
      rw [if_neg (fun e => q2 ((hash_2 hl).mp ((lN_eq hb (by decide)).mp e))), if_neg (fun e => q3 ((hash_3 hl).mp ((lN_eq hb (by decide)).mp e))), if_neg (fun e => q4 ((hash_4 hl).mp ((lN_eq hb (by decide)).mp e))), if_neg (fun e => q9 ((hash_9 hl).mp ((lN_eq hb (by decide)).mp e))), if_neg (fun e => q5 ((hash_5 hl).mp ((lN_eq hb (by decide)).mp e))), if_neg (fun e => q10 ((hash_10 hl).mp ((lN_eq hb (by decide)).mp e))), if_neg (fun e => q6 ((hash_6 hl).mp ((lN_eq hb (by decide)).mp e))), if_neg (fun e => q8 ((hash_8 hl).mp ((lN_eq hb (by decide)).mp e))), if_neg (fun e => q0 ((hash_0 hl).mp ((lN_eq hb (by decide)).mp e))), if_neg (fun e => q1 ((hash_1 hl).mp ((lN_eq hb (by decide)).mp e))), if_neg (fun e => q7 ((hash_7 hl).mp ((lN_eq hb (by decide)).mp e)))]
    · rw [if_neg w]
theorem word_L (hT : TPO tp T z) {st : Nat} : ∀ (d p n m : Nat) (H M : Mem) (x : Int64), p + d = tp → d < n → d < m → st ≤ p → H 2 0 = nI st → M 4 0 = nI st → H 3 0 = nI p → M 3 0 = nI p → TMO tp M z → (∀ j, st + j < p → 97 ≤ z (st + j) ∧ z (st + j) ≤ 122) → (p - st ≤ 6 → x = lN (hashN z st (p - st))) →
    ∃ (H' M' : Mem) (p' : Nat), p ≤ p' ∧ p' ≤ tp ∧ (∀ j, st + j < p' → 97 ≤ z (st + j) ∧ z (st + j) ≤ 122) ∧ f_X9_stepWord_L0 n H T = (Option.bind (f_X9_wordToken H' T) fun r => some (upS H' 1 r)) ∧ f_X12_advance_L77 m M x = (Option.bind (if p' - st ≤ 5 then f_X12_wordOf (lN (hashN z st (p' - st))) else some 99) (f_X12_advance_L161 M')) ∧ H' 3 0 = nI p' ∧ M' 3 0 = nI p' ∧ H' 2 0 = nI st ∧ M' 4 0 = nI st ∧ (p < tp → 97 ≤ z p → z p ≤ 122 → p < p') ∧ ∀ k, k ≠ 3 → M' k = M k := by
  intro d
  induction d with
  | zero =>
    intro p n m H M x h hn hm hsp h2 h4 hH hM hB hz hx
    obtain ⟨n, rfl⟩ : ∃ n', n = n' + 1 := ⟨n - 1, by omega⟩
    obtain ⟨m, rfl⟩ : ∃ m', m = m' + 1 := ⟨m - 1, by omega⟩
    have e : p = tp := by omega
    subst e
    have ht := hT.2.1
    refine ⟨H, M, p, Nat.le_refl _, Nat.le_refl _, hz, ?_, ?_, hH, hM, h2, h4, fun w => absurd w (by omega), fun _ _ => rfl⟩
    · rw [f_X9_stepWord_L0, if_pos (by rw [hT.1, hH]; exact Int32.le_refl _)]
      rfl
    · rw [f_X12_advance_L77, hM, mbyte_end hB (Nat.le_refl _) ht, Option.bind_some, show f_X12_isLetter (-1) = some 0 from rfl, Option.bind_some, if_pos rfl, h4, pk_sub hsp]
      by_cases q : p - st ≤ 5
      · rw [if_pos q, if_pos (show nI (p - st) ≤ (5 : Int32) from nI_le (b := 5) q (by decide)), hx (by omega)]
      · rw [if_neg q, if_neg (show ¬ nI (p - st) ≤ (5 : Int32) from nI_ge (a := 5) (by omega) (by omega))]
        rfl
  | succ d ih =>
    intro p n m H M x h hn hm hsp h2 h4 hH hM hB hz hx
    obtain ⟨n, rfl⟩ : ∃ n', n = n' + 1 := ⟨n - 1, by omega⟩
    obtain ⟨m, rfl⟩ : ∃ m', m = m' + 1 := ⟨m - 1, by omega⟩
    have ht := hT.2.1
    have hp : p < tp := by omega
    have hz255 := (hT.2.2 p hp).1
    rw [f_X9_stepWord_L0, if_neg (by rw [hT.1, hH]; exact nI_ge hp (by omega)), hH, if_neg (nI_in (N := 400) (by omega) (by decide)), nI_clamp (n := p) (by omega), letter_eq hT hp, Option.bind_some, f_X12_advance_L77, hM, mbyte_in hB ht hp, Option.bind_some, mletter_eq, nrng (x := z p) (lo := 97) (hi := 122) (by omega) (by decide) (by decide) 97 122 rfl rfl, Option.bind_some, Option.bind_some]
    by_cases q9 : 97 ≤ z p ∧ z p ≤ 122
    · rw [if_pos q9, if_neg (show ¬ (1 : Int32) = 0 by decide), if_neg (show ¬ (1 : Int32) = 0 by decide), wr_s, wr_s, wr_s, nI_1, h4, pk_sub hsp]
      have hz' : ∀ j, st + j < p + 1 → 97 ≤ z (st + j) ∧ z (st + j) ≤ 122 := by
        intro j hj
        by_cases w : st + j = p
        · rw [w]; exact q9
        · exact hz j (by omega)
      have fin : ∀ x' : Int64, (p + 1 - st ≤ 6 → x' = lN (hashN z st (p + 1 - st))) → ∃ (H' M' : Mem) (p' : Nat), p ≤ p' ∧ p' ≤ tp ∧ (∀ j, st + j < p' → 97 ≤ z (st + j) ∧ z (st + j) ≤ 122) ∧ f_X9_stepWord_L0 n (upS H 3 (nI (p + 1))) T = (Option.bind (f_X9_wordToken H' T) fun r => some (upS H' 1 r)) ∧ f_X12_advance_L77 m (upS M 3 (nI (p + 1))) x' = (Option.bind (if p' - st ≤ 5 then f_X12_wordOf (lN (hashN z st (p' - st))) else some 99) (f_X12_advance_L161 M')) ∧ H' 3 0 = nI p' ∧ M' 3 0 = nI p' ∧ H' 2 0 = nI st ∧ M' 4 0 = nI st ∧ (p < tp → 97 ≤ z p → z p ≤ 122 → p < p') ∧ ∀ k, k ≠ 3 → M' k = M k := by
        intro x' hx'
        obtain ⟨H', M', p', g1, g2, g3, g4, g5, g6, g7, g8, g9, g10, g11⟩ := ih (p + 1) n m (upS H 3 (nI (p + 1))) (upS M 3 (nI (p + 1))) x' (by omega) (by omega) (by omega) (by omega) (by rw [upS_ne (by decide)]; exact h2) (by rw [upS_ne (by decide)]; exact h4) (upS_at _ _ _ _) (upS_at _ _ _ _) (hB.cg (upS_ne (by decide)) (upS_ne (by decide))) hz' hx'
        exact ⟨H', M', p', by omega, g2, g3, g4, g5, g6, g7, g8, g9, fun _ _ _ => by omega, fun k hk => by rw [g11 k hk, upS_ne hk]⟩
      by_cases q : p - st < 6
      · rw [if_neg (show ¬ (6 : Int32) ≤ nI (p - st) from nI_ge (b := 6) q (by decide))]
        refine fin _ (fun _ => ?_)
        have e1 : p + 1 - st = (p - st) + 1 := by omega
        have e2 : st + (p - st) = p := by omega
        rw [hx (by omega), nI_l (by omega), e1, hashN, e2]
        show lN 32 * lN (hashN z st (p - st)) + lN (z p) - lN 96 = _
        rw [lN_mul, lN_add, lN_sub (by omega)]
        congr 1
        omega
      · rw [if_pos (show (6 : Int32) ≤ nI (p - st) from nI_le (a := 6) (by omega) (by omega))]
        exact fin x (fun w => absurd w (by omega))
    · rw [if_neg q9, if_pos rfl, if_pos rfl, h4, pk_sub hsp]
      refine ⟨H, M, p, Nat.le_refl _, by omega, hz, rfl, ?_, hH, hM, h2, h4, fun _ a b => absurd ⟨a, b⟩ q9, fun _ _ => rfl⟩
      by_cases q : p - st ≤ 5
      · rw [if_pos q, if_pos (show nI (p - st) ≤ (5 : Int32) from nI_le (b := 5) q (by decide)), hx (by omega)]
      · rw [if_neg q, if_neg (show ¬ nI (p - st) ≤ (5 : Int32) from nI_ge (a := 5) (by omega) (by omega))]
        rfl
end Words
