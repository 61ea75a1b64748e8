/-! ===== best: the search in numbers ===== -/
def sU (s : Nat → Nat) (k d : Nat) : Nat → Nat := fun j => if j = k then d else s j
theorem sU_at (s : Nat → Nat) (k d : Nat) : sU s k d k = d := if_pos rfl
theorem sU_ne {s : Nat → Nat} {k d j : Nat} (h : j ≠ k) : sU s k d j = s j := if_neg h
def sfx (f : Nat → Nat) : Nat → Nat → Nat
  | _, 0 => 0
  | k, r + 1 => f k + sfx f (k + 1) r
def bF (own rm : Nat → Nat) (fr : Nat → Int) (s : Nat → Nat) : Nat → Nat → Int
  | 0, c => fr c
  | k + 1, c => if s k ≠ 2 ∧ own k = c then bF own rm fr s k c - (rm k : Int) else bF own rm fr s k c
def bO (own rm : Nat → Nat) (fr : Nat → Int) (s : Nat → Nat) : Nat → Bool
  | 0 => true
  | k + 1 => bO own rm fr s k && (decide (s k = 2) || decide (0 ≤ bF own rm fr s (k + 1) (own k)))
def bT (wt : Nat → Nat) (t0 : Int) (s : Nat → Nat) : Nat → Int
  | 0 => t0
  | k + 1 => if s k = 0 then bT wt t0 s k + (wt k : Int) else if s k = 2 then bT wt t0 s k else bT wt t0 s k - (wt k : Int)
def bS (f : Nat → Nat) (a : Nat) (s : Nat → Nat) : Nat → Nat
  | 0 => a
  | k + 1 => if s k = 2 then bS f a s k else bS f a s k + f k
theorem bF_cg {own rm : Nat → Nat} {fr : Nat → Int} {s s' : Nat → Nat} : ∀ k, (∀ j, j < k → s j = s' j) → ∀ c, bF own rm fr s k c = bF own rm fr s' k c
  | 0, _, _ => rfl
  | k + 1, h, c => by rw [bF, bF, bF_cg k (fun j hj => h j (by omega)), h k (by omega)]
theorem bO_cg {own rm : Nat → Nat} {fr : Nat → Int} {s s' : Nat → Nat} : ∀ k, (∀ j, j < k → s j = s' j) → bO own rm fr s k = bO own rm fr s' k
  | 0, _ => rfl
  | k + 1, h => by rw [bO, bO, bO_cg k (fun j hj => h j (by omega)), h k (by omega), bF_cg (k + 1) h]
theorem bT_cg {wt : Nat → Nat} {t0 : Int} {s s' : Nat → Nat} : ∀ k, (∀ j, j < k → s j = s' j) → bT wt t0 s k = bT wt t0 s' k
  | 0, _ => rfl
  | k + 1, h => by rw [bT, bT, bT_cg k (fun j hj => h j (by omega)), h k (by omega)]
theorem bS_cg {f : Nat → Nat} {a : Nat} {s s' : Nat → Nat} : ∀ k, (∀ j, j < k → s j = s' j) → bS f a s k = bS f a s' k
  | 0, _ => rfl
  | k + 1, h => by rw [bS, bS, bS_cg k (fun j hj => h j (by omega)), h k (by omega)]
section Ch
variable {own rm wt f : Nat → Nat} {fr : Nat → Int} {t0 : Int} {a : Nat} {s : Nat → Nat} {k d : Nat}
theorem sU_lo : ∀ j, j < k → sU s k d j = s j := fun j hj => sU_ne (by omega)
theorem bF_c (hd : d ≠ 2) (c : Nat) : bF own rm fr (sU s k d) (k + 1) c = if own k = c then bF own rm fr s k c - (rm k : Int) else bF own rm fr s k c := by
  rw [bF, bF_cg k sU_lo, sU_at]
  by_cases q : own k = c
  · rw [if_pos ⟨hd, q⟩, if_pos q]
  · rw [if_neg (fun w => q w.2), if_neg q]
theorem bF_2 (c : Nat) : bF own rm fr (sU s k 2) (k + 1) c = bF own rm fr s k c := by
  rw [bF, bF_cg k sU_lo, sU_at, if_neg (fun w => w.1 rfl)]
theorem bO_c (hd : d ≠ 2) : bO own rm fr (sU s k d) (k + 1) = (bO own rm fr s k && decide (0 ≤ bF own rm fr s k (own k) - (rm k : Int))) := by
  rw [bO, bO_cg k sU_lo, sU_at, bF_c hd, if_pos rfl, decide_eq_false hd, Bool.false_or]
theorem bO_2 : bO own rm fr (sU s k 2) (k + 1) = bO own rm fr s k := by
  rw [bO, bO_cg k sU_lo, sU_at]
  simp
theorem bT_0 : bT wt t0 (sU s k 0) (k + 1) = bT wt t0 s k + (wt k : Int) := by
  rw [bT, bT_cg k sU_lo, sU_at, if_pos rfl]
theorem bT_1 : bT wt t0 (sU s k 1) (k + 1) = bT wt t0 s k - (wt k : Int) := by
  rw [bT, bT_cg k sU_lo, sU_at, if_neg (by decide), if_neg (by decide)]
theorem bT_2 : bT wt t0 (sU s k 2) (k + 1) = bT wt t0 s k := by
  rw [bT, bT_cg k sU_lo, sU_at, if_neg (by decide), if_pos rfl]
theorem bS_c (hd : d ≠ 2) : bS f a (sU s k d) (k + 1) = bS f a s k + f k := by
  rw [bS, bS_cg k sU_lo, sU_at, if_neg hd]
theorem bS_2 : bS f a (sU s k 2) (k + 1) = bS f a s k := by
  rw [bS, bS_cg k sU_lo, sU_at, if_pos rfl]
end Ch
abbrev Bst : Type := Nat × Nat × Nat × (Nat → Nat)
def bBet (v r : Nat) (b : Bst) : Bool := decide (b.1 = 0) || (decide (b.2.1 < v) || (decide (b.2.1 = v) && decide (r < b.2.2.1)))
def bGood (own rm wt : Nat → Nat) (fr : Nat → Int) (t0 : Int) (w0 zT zW w : Nat) (s : Nat → Nat) : Bool := bO own rm fr s w && (decide (-(zT : Int) ≤ bT wt t0 s w ∧ bT wt t0 s w ≤ (zT : Int)) && decide (bS wt w0 s w ≤ zW))
def bL (own rm vl wt : Nat → Nat) (fr : Nat → Int) (t0 : Int) (w0 zT zW w : Nat) (s : Nat → Nat) (b : Bst) : Bst := if (bGood own rm wt fr t0 w0 zT zW w s && bBet (bS vl 0 s w) (bS rm 0 s w) b) = true then (1, bS vl 0 s w, bS rm 0 s w, s) else b
def brun (L : (Nat → Nat) → Bst → Bst) : Nat → Nat → (Nat → Nat) → Bst → Bst
  | 0, _, s, b => L s b
  | r + 1, k, s, b => brun L r (k + 1) (sU s k 2) (brun L r (k + 1) (sU s k 1) (brun L r (k + 1) (sU s k 0) b))
theorem brun_id {L : (Nat → Nat) → Bst → Bst} : ∀ (r k : Nat) (s : Nat → Nat) (b : Bst), (∀ s', (∀ j, j < k → s' j = s j) → L s' b = b) → brun L r k s b = b
  | 0, _, s, b, h => h s (fun _ _ => rfl)
  | r + 1, k, s, b, h => by
    have e : ∀ d, brun L r (k + 1) (sU s k d) b = b := fun d => brun_id r (k + 1) (sU s k d) b (fun s' h' => h s' (fun j hj => by rw [h' j (by omega), sU_ne (by omega)]))
    rw [brun, e 0, e 1, e 2]
/-! what the rest can add -/
section Mono
variable {own rm vl wt f : Nat → Nat} {fr : Nat → Int} {t0 : Int} {a : Nat} {s : Nat → Nat}
theorem bS_mono : ∀ (r k : Nat), bS f a s k ≤ bS f a s (k + r)
  | 0, k => Nat.le_refl _
  | r + 1, k => by
    have h := bS_mono r k
    rw [show k + (r + 1) = (k + r) + 1 by omega, bS]
    split
    · exact h
    · omega
theorem bO_mono : ∀ (r k : Nat), bO own rm fr s (k + r) = true → bO own rm fr s k = true
  | 0, k, h => h
  | r + 1, k, h => by
    rw [show k + (r + 1) = (k + r) + 1 by omega, bO, Bool.and_eq_true] at h
    exact bO_mono r k h.1
theorem bT_sfx : ∀ (r k : Nat), bT wt t0 s k - (sfx wt k r : Int) ≤ bT wt t0 s (k + r) ∧ bT wt t0 s (k + r) ≤ bT wt t0 s k + (sfx wt k r : Int)
  | 0, k => by
    rw [sfx]
    show bT wt t0 s k - ((0 : Nat) : Int) ≤ bT wt t0 s k ∧ bT wt t0 s k ≤ bT wt t0 s k + ((0 : Nat) : Int)
    omega
  | r + 1, k => by
    have h := bT_sfx r (k + 1)
    rw [sfx, show k + (r + 1) = (k + 1) + r by omega]
    have e : bT wt t0 s (k + 1) = if s k = 0 then bT wt t0 s k + (wt k : Int) else if s k = 2 then bT wt t0 s k else bT wt t0 s k - (wt k : Int) := rfl
    rw [e] at h
    by_cases c0 : s k = 0
    · rw [if_pos c0] at h
      omega
    · rw [if_neg c0] at h
      by_cases c2 : s k = 2
      · rw [if_pos c2] at h
        omega
      · rw [if_neg c2] at h
        omega
theorem bV_sfx : ∀ (r k : Nat), (∀ j, k ≤ j → j < k + r → 1 ≤ vl j) → bS vl 0 s (k + r) < bS vl 0 s k + sfx vl k r ∨ (bS vl 0 s (k + r) = bS vl 0 s k + sfx vl k r ∧ bS rm 0 s (k + r) = bS rm 0 s k + sfx rm k r)
  | 0, k, _ => Or.inr ⟨rfl, rfl⟩
  | r + 1, k, h => by
    have ih := bV_sfx r (k + 1) (fun j h1 h2 => h j (by omega) (by omega))
    have h1 := h k (Nat.le_refl _) (by omega)
    rw [sfx, sfx, show k + (r + 1) = (k + 1) + r by omega]
    have e1 : bS vl 0 s (k + 1) = if s k = 2 then bS vl 0 s k else bS vl 0 s k + vl k := rfl
    have e2 : bS rm 0 s (k + 1) = if s k = 2 then bS rm 0 s k else bS rm 0 s k + rm k := rfl
    rw [e1, e2] at ih
    by_cases c2 : s k = 2
    · rw [if_pos c2, if_pos c2] at ih
      omega
    · rw [if_neg c2, if_neg c2] at ih
      omega
theorem bS_le {w c : Nat} (hf : ∀ j, j < w → f j ≤ c) : ∀ k, k ≤ w → bS f a s k ≤ a + c * k
  | 0, _ => by
    rw [bS]
    omega
  | k + 1, h => by
    have ih := bS_le hf k (by omega)
    have := hf k (by omega)
    rw [bS, Nat.mul_succ]
    split <;> omega
theorem bT_le {w : Nat} (hf : ∀ j, j < w → wt j ≤ 200) : ∀ k, k ≤ w → t0 - 200 * (k : Int) ≤ bT wt t0 s k ∧ bT wt t0 s k ≤ t0 + 200 * (k : Int)
  | 0, _ => by
    rw [bT]
    omega
  | k + 1, h => by
    have ih := bT_le hf k (by omega)
    have := hf k (by omega)
    rw [bT]
    split
    · omega
    · split <;> omega
theorem bF_le {w : Nat} (hf : ∀ j, j < w → rm j ≤ 40) (c : Nat) : ∀ k, k ≤ w → fr c - 40 * (k : Int) ≤ bF own rm fr s k c ∧ bF own rm fr s k c ≤ fr c
  | 0, _ => by
    rw [bF]
    omega
  | k + 1, h => by
    have ih := bF_le hf c k (by omega)
    have := hf k (by omega)
    rw [bF]
    split <;> omega
theorem sfx_le {w c : Nat} (hf : ∀ j, j < w → f j ≤ c) : ∀ (r k : Nat), k + r ≤ w → sfx f k r ≤ c * r
  | 0, k, _ => by
    rw [sfx]
    omega
  | r + 1, k, h => by
    have ih := sfx_le hf r (k + 1) (by omega)
    have := hf k (by omega)
    rw [sfx, Nat.mul_succ]
    omega
end Mono
/-- a hopeless node: no leaf under it is kept -/
def bHop (vl rm wt : Nat → Nat) (T : Int) (V R G zT zW k r : Nat) (b : Bst) : Prop := zW < G ∨ (zT : Int) < T - (sfx wt k r : Int) ∨ T + (sfx wt k r : Int) < -(zT : Int) ∨ (b.1 ≠ 0 ∧ V + sfx vl k r < b.2.1) ∨ (b.1 ≠ 0 ∧ V + sfx vl k r = b.2.1 ∧ b.2.2.1 ≤ R + sfx rm k r)
theorem hop_leaf {own rm vl wt : Nat → Nat} {fr : Nat → Int} {t0 : Int} {w0 zT zW w k r : Nat} {s : Nat → Nat} {b : Bst} (hw : k + r = w) (hv : ∀ j, j < w → 1 ≤ vl j) (h : bHop vl rm wt (bT wt t0 s k) (bS vl 0 s k) (bS rm 0 s k) (bS wt w0 s k) zT zW k r b ∨ bO own rm fr s k = false) : ∀ s', (∀ j, j < k → s' j = s j) → bL own rm vl wt fr t0 w0 zT zW w s' b = b := by
  intro s' hs
  subst hw
  unfold bL
  rw [if_neg]
  intro hg
  simp only [bGood, bBet, Bool.and_eq_true, Bool.or_eq_true, decide_eq_true_eq] at hg
  obtain ⟨⟨g1, ⟨g2, g3⟩, g4⟩, g5⟩ := hg
  have e1 : bT wt t0 s k = bT wt t0 s' k := bT_cg k (fun j hj => (hs j hj).symm)
  have e2 : bS vl 0 s k = bS vl 0 s' k := bS_cg k (fun j hj => (hs j hj).symm)
  have e3 : bS rm 0 s k = bS rm 0 s' k := bS_cg k (fun j hj => (hs j hj).symm)
  have e4 : bS wt w0 s k = bS wt w0 s' k := bS_cg k (fun j hj => (hs j hj).symm)
  have e5 : bO own rm fr s k = bO own rm fr s' k := bO_cg k (fun j hj => (hs j hj).symm)
  have t := bT_sfx (wt := wt) (t0 := t0) (s := s') r k
  have m4 := bS_mono (f := wt) (a := w0) (s := s') r k
  have v := bV_sfx (vl := vl) (rm := rm) (s := s') r k (fun j _ hj => hv j hj)
  have o := bO_mono r k g1
  rw [e5, o] at h
  unfold bHop at h
  rw [e1, e2, e3, e4] at h
  rcases h with (h | h | h | ⟨h, h'⟩ | ⟨h, h', h''⟩) | h
  · omega
  · omega
  · omega
  · omega
  · omega
  · exact absurd h (by decide)
theorem brun_hop {own rm vl wt : Nat → Nat} {fr : Nat → Int} {t0 : Int} {w0 zT zW w k r : Nat} {s : Nat → Nat} {b : Bst} (hw : k + r = w) (hv : ∀ j, j < w → 1 ≤ vl j) (h : bHop vl rm wt (bT wt t0 s k) (bS vl 0 s k) (bS rm 0 s k) (bS wt w0 s k) zT zW k r b ∨ bO own rm fr s k = false) : brun (bL own rm vl wt fr t0 w0 zT zW w) r k s b = b := brun_id r k s b (hop_leaf hw hv h)
/-! Int32 by its integer -/
theorem ti_sub {a b : Int32} (h1 : -2147483648 ≤ a.toInt - b.toInt) (h2 : a.toInt - b.toInt ≤ 2147483647) : (a - b).toInt = a.toInt - b.toInt := by
  rw [Int32.toInt_sub]
  exact Int.bmod_eq_of_le (by omega) (by omega)
theorem ti_add {a b : Int32} (h1 : -2147483648 ≤ a.toInt + b.toInt) (h2 : a.toInt + b.toInt ≤ 2147483647) : (a + b).toInt = a.toInt + b.toInt := by
  rw [Int32.toInt_add]
  exact Int.bmod_eq_of_le (by omega) (by omega)
