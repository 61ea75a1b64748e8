/-! ===== the slips of the citizens are small naturals: kept by every call ===== -/
def INVP (P : Mem) : Prop := ∃ s : Nat → Nat, (∀ c, c < 8 → P 3 c = nI (s c)) ∧ s 0 + s 1 + s 2 + s 3 + s 4 + s 5 + s 6 + s 7 ≤ 100000000
theorem INVP.cg {P P' : Mem} (h : INVP P) (e : ∀ c, c < 8 → P' 3 c = P 3 c) : INVP P' := by
  obtain ⟨s, h1, h2⟩ := h
  exact ⟨s, fun c hc => (e c hc).trans (h1 c hc), h2⟩
def Rel1 : RelT := fun μ I M => Rel0 μ I M ∧ INVP (μ 5) ∧ ∀ k ν, k < 3 → I k = some ν → INVP (ν 5)
theorem s_le {s : Nat → Nat} (h : s 0 + s 1 + s 2 + s 3 + s 4 + s 5 + s 6 + s 7 ≤ 100000000) : ∀ c, c < 8 → s c ≤ 100000000 := by
  intro c hc
  have : c = 0 ∨ c = 1 ∨ c = 2 ∨ c = 3 ∨ c = 4 ∨ c = 5 ∨ c = 6 ∨ c = 7 := by omega
  rcases this with rfl | rfl | rfl | rfl | rfl | rfl | rfl | rfl <;> omega
/-- two citizens: one gives what the other takes -/
theorem s_mv {s s' : Nat → Nat} {a b n : Nat} (h : s 0 + s 1 + s 2 + s 3 + s 4 + s 5 + s 6 + s 7 ≤ 100000000) (ha : a < 8) (hb : b < 8) (hab : a ≠ b) (hn : n ≤ s a) (ea : s' a = s a - n) (eb : s' b = s b + n) (eo : ∀ c, c ≠ a → c ≠ b → s' c = s c) : s' 0 + s' 1 + s' 2 + s' 3 + s' 4 + s' 5 + s' 6 + s' 7 ≤ 100000000 := by
  have e0 : s' 0 = if 0 = a then s 0 - n else if 0 = b then s 0 + n else s 0 := by
    split
    · rename_i q; rw [q]; exact ea
    · split
      · rename_i q; rw [q]; exact eb
      · exact eo 0 (by omega) (by omega)
  have e1 : s' 1 = if 1 = a then s 1 - n else if 1 = b then s 1 + n else s 1 := by
    split
    · rename_i q; rw [q]; exact ea
    · split
      · rename_i q; rw [q]; exact eb
      · exact eo 1 (by omega) (by omega)
  have e2 : s' 2 = if 2 = a then s 2 - n else if 2 = b then s 2 + n else s 2 := by
    split
    · rename_i q; rw [q]; exact ea
    · split
      · rename_i q; rw [q]; exact eb
      · exact eo 2 (by omega) (by omega)
  have e3 : s' 3 = if 3 = a then s 3 - n else if 3 = b then s 3 + n else s 3 := by
    split
    · rename_i q; rw [q]; exact ea
    · split
      · rename_i q; rw [q]; exact eb
      · exact eo 3 (by omega) (by omega)
  have e4 : s' 4 = if 4 = a then s 4 - n else if 4 = b then s 4 + n else s 4 := by
    split
    · rename_i q; rw [q]; exact ea
    · split
      · rename_i q; rw [q]; exact eb
      · exact eo 4 (by omega) (by omega)
  have e5 : s' 5 = if 5 = a then s 5 - n else if 5 = b then s 5 + n else s 5 := by
    split
    · rename_i q; rw [q]; exact ea
    · split
      · rename_i q; rw [q]; exact eb
      · exact eo 5 (by omega) (by omega)
  have e6 : s' 6 = if 6 = a then s 6 - n else if 6 = b then s 6 + n else s 6 := by
    split
    · rename_i q; rw [q]; exact ea
    · split
      · rename_i q; rw [q]; exact eb
      · exact eo 6 (by omega) (by omega)
  have e7 : s' 7 = if 7 = a then s 7 - n else if 7 = b then s 7 + n else s 7 := by
    split
    · rename_i q; rw [q]; exact ea
    · split
      · rename_i q; rw [q]; exact eb
      · exact eo 7 (by omega) (by omega)
  rw [e0, e1, e2, e3, e4, e5, e6, e7]
  have hA : a = 0 ∨ a = 1 ∨ a = 2 ∨ a = 3 ∨ a = 4 ∨ a = 5 ∨ a = 6 ∨ a = 7 := by omega
  have hB : b = 0 ∨ b = 1 ∨ b = 2 ∨ b = 3 ∨ b = 4 ∨ b = 5 ∨ b = 6 ∨ b = 7 := by omega
  rcases hA with rfl | rfl | rfl | rfl | rfl | rfl | rfl | rfl <;> rcases hB with rfl | rfl | rfl | rfl | rfl | rfl | rfl | rfl <;> first | exact absurd rfl hab | (simp; omega)
theorem gOn_nat {nb nc : Nat} {C : Mem} {A : Nat → Int32} (hR : RBal nb nc C A) (c : Int32) : ∀ n, n ≤ nb → ∃ z : Nat, z ≤ 40 * n ∧ sumI (gOn C c) n = nI z
  | 0, _ => ⟨0, by omega, rfl⟩
  | n + 1, h => by
    obtain ⟨z, hz, e⟩ := gOn_nat hR c n (by omega)
    obtain ⟨w, hw, e2⟩ := rm_nat (hR.2.2.2.2.2.2 n (by omega))
    rw [sumI, e, gOn]
    by_cases q : C 6 n = c
    · rw [if_pos q, e2, nI_add]
      exact ⟨z + w, by omega, rfl⟩
    · rw [if_neg q, Int32.add_zero]
      exact ⟨z, by omega, rfl⟩
theorem inv_pay {P P' : Mem} {a b v : Int32} (h : f_X2_pay P a b v = some P') : P' 3 = P 3 := by
  unfold f_X2_pay at h
  simp only [wr_s] at h
  split at h
  · exact absurd h (by simp)
  · split at h
    · exact absurd h (by simp)
    · injection h with h
      rw [← h, upA_ne (by decide), upA_ne (by decide)]
