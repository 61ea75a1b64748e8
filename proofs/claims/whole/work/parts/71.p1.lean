/-! ===== small functions, in closed form ===== -/
theorem within_eq (p a b : Int32) : f_X11_within p a b = some (if a ≤ p ∧ p ≤ b then 1 else 0) := by
  unfold f_X11_within
  simp only [Int32.lt_iff_toInt_lt, Int32.le_iff_toInt_le]
  split
  · rw [if_neg (by omega)]
  · split
    · rw [if_neg (by omega)]
    · rw [if_pos (by omega)]
theorem isIn_eq (p a b : Int32) : f_X12_isIn p a b = some (if a ≤ p ∧ p ≤ b then 1 else 0) := within_eq p a b
theorem pred_toInt {n : Nat} (hn : n < 1073741824) : (nI n - 1).toInt = (n : Int) - 1 := pk_sub_toInt (a := n) (b := 1) hn (by decide)
theorem in_no {p : Int32} {n : Nat} (hn : n < 1073741824) (h : p < 0 ∨ nI n ≤ p) : ¬ ((0 : Int32) ≤ p ∧ p ≤ nI n - 1) := by
  intro q
  have h1 := pred_toInt hn
  have h2 : (nI n).toInt = (n : Int) := nI_toInt (by omega)
  have h3 : (0 : Int32).toInt = 0 := rfl
  have a1 := Int32.le_iff_toInt_le.mp q.1
  have a2 := Int32.le_iff_toInt_le.mp q.2
  rw [h1] at a2
  rw [h3] at a1
  rcases h with h | h
  · have a3 := Int32.lt_iff_toInt_lt.mp h
    rw [h3] at a3
    omega
  · have a3 := Int32.le_iff_toInt_le.mp h
    rw [h2] at a3
    omega
theorem in_yes {b n : Nat} (hb : b < n) (hn : n < 1073741824) : (0 : Int32) ≤ nI b ∧ nI b ≤ nI n - 1 := by
  have h1 := pred_toInt hn
  have h2 : (nI b).toInt = (b : Int) := nI_toInt (by omega)
  simp only [Int32.le_iff_toInt_le]
  rw [h1, h2]
  have h3 : (0 : Int32).toInt = 0 := rfl
  rw [h3]
  omega
theorem has0_no {C : Mem} {n : Nat} {p : Int32} (hC : C 0 0 = nI n) (hn : n < 1073741824) (h : p < 0 ∨ nI n ≤ p) : f_X0_has C p = some 0 := by
  simp [f_X0_has, within_eq, hC, in_no hn h]
theorem has0_yes {C : Mem} {n b : Nat} (hC : C 0 0 = nI n) (hn : n < 1073741824) (h : b < n) : f_X0_has C (nI b) = some 1 := by
  simp [f_X0_has, within_eq, hC, in_yes h hn]
theorem has2_no {C : Mem} {n : Nat} {p : Int32} (hC : C 0 0 = nI n) (hn : n < 1073741824) (h : p < 0 ∨ nI n ≤ p) : f_X2_has C p = some 0 := by
  simp [f_X2_has, within_eq, hC, in_no hn h]
theorem has2_yes {C : Mem} {n b : Nat} (hC : C 0 0 = nI n) (hn : n < 1073741824) (h : b < n) : f_X2_has C (nI b) = some 1 := by
  simp [f_X2_has, within_eq, hC, in_yes h hn]
theorem isBale_no {M : Mem} {n : Nat} {p : Int32} (hC : M 0 4 = nI n) (hn : n < 1073741824) (h : p < 0 ∨ nI n ≤ p) : f_X12_isBale M p = some 0 := by
  simp [f_X12_isBale, isIn_eq, hC, in_no hn h]
theorem isBale_yes {M : Mem} {n b : Nat} (hC : M 0 4 = nI n) (hn : n < 1073741824) (h : b < n) : f_X12_isBale M (nI b) = some 1 := by
  simp [f_X12_isBale, isIn_eq, hC, in_yes h hn]
theorem isCit_no {M : Mem} {n : Nat} {p : Int32} (hC : M 0 3 = nI n) (hn : n < 1073741824) (h : p < 0 ∨ nI n ≤ p) : f_X12_isCitizen M p = some 0 := by
  simp [f_X12_isCitizen, isIn_eq, hC, in_no hn h]
theorem isCit_yes {M : Mem} {n b : Nat} (hC : M 0 3 = nI n) (hn : n < 1073741824) (h : b < n) : f_X12_isCitizen M (nI b) = some 1 := by
  simp [f_X12_isCitizen, isIn_eq, hC, in_yes h hn]
/-- a write into the reference's row -/
def put (M : Mem) (i : Nat) (v : Int32) : Mem := va_up M 0 (upd (M 0) i v)
theorem put_0 (M : Mem) (i : Nat) (v : Int32) : put M i v 0 = upd (M 0) i v := by simp [put, va_up]
theorem put_ne {M : Mem} {i k : Nat} {v : Int32} (h : k ≠ 0) : put M i v k = M k := by simp [put, va_up, h]
theorem put_eq (M : Mem) (i : Nat) (v : Int32) : put M i v 0 i = v := by rw [put_0]; exact pk_us
theorem put_no {M : Mem} {i j : Nat} {v : Int32} (h : j ≠ i) : put M i v 0 j = M 0 j := by rw [put_0]; exact pk_un h
theorem upA_put (M : Mem) {i : Nat} (v : Int32) (h : i < 2147483648) : upA M 0 (nI i) v = put M i v := by unfold upA put; rw [nI_clamp h]
theorem upA_lit (M : Mem) (k : Int32) (i : Nat) (v : Int32) (h : k.toNatClampNeg = i) : upA M 0 k v = put M i v := by unfold upA put; rw [h]
theorem Keep.pt {M : Mem} {i : Nat} {v : Int32} (h : i < 2790) : Keep M (put M i v) := ⟨fun j hj => put_no (by omega), put_ne (by decide)⟩
theorem ix_its (b n : Nat) : ((90 : Int32) + (9 : Int32) * nI b) + nI n = nI (90 + 9 * b + n) := by
  show (nI 90 + nI 9 * nI b) + nI n = _
  rw [pk_mul, nI_add, nI_add]
theorem ix_of (b n : Nat) : ((20 : Int32) + (8 : Int32) * nI b) + nI n = nI (20 + 8 * b + n) := by
  show (nI 20 + nI 8 * nI b) + nI n = _
  rw [pk_mul, nI_add, nI_add]
theorem its_eq (M : Mem) (b : Nat) (k : Int32) (n : Nat) (e : k = nI n) (hb : b < 1000) (hn : n < 1000) : f_X12_its M (nI b) k = some (M 0 (90 + 9 * b + n)) := by
  subst e
  unfold f_X12_its
  rw [ix_its, if_neg (nI_in (by omega) (by omega)), nI_clamp (by omega)]
theorem sets_eq (M : Mem) (b : Nat) (k : Int32) (n : Nat) (v : Int32) (e : k = nI n) (hb : b < 1000) (hn : n < 1000) : f_X12_sets M (nI b) k v = some (put M (90 + 9 * b + n) v) := by
  subst e
  unfold f_X12_sets
  rw [ix_its, if_neg (nI_in (by omega) (by omega)), upA_put _ _ (by omega)]
  rfl
theorem of_eq (M : Mem) (b : Nat) (k : Int32) (n : Nat) (e : k = nI n) (hb : b < 1000) (hn : n < 1000) : f_X12_of M (nI b) k = some (M 0 (20 + 8 * b + n)) := by
  subst e
  unfold f_X12_of
  rw [ix_of, if_neg (nI_in (by omega) (by omega)), nI_clamp (by omega)]
theorem adds_eq (M : Mem) (b : Nat) (k : Int32) (n : Nat) (v : Int32) (e : k = nI n) (hb : b < 1000) (hn : n < 1000) : f_X12_adds M (nI b) k v = some (put M (20 + 8 * b + n) (M 0 (20 + 8 * b + n) + v)) := by
  subst e
  unfold f_X12_adds
  rw [ix_of, if_neg (nI_in (by omega) (by omega)), upA_put _ _ (by omega), nI_clamp (by omega)]
  rfl
/-- ROOM and VALUE of a bale -/
def rmV (C : Mem) (b : Nat) : Int32 := C 2 b - C 2 b * C 5 b / 10
def vlV (C : Mem) (b : Nat) : Int32 := C 4 b - C 4 b * C 5 b / 20
theorem room0_eq {C : Mem} {b : Nat} (h : b < 12) : f_X0_room C (nI b) = some (rmV C b) := by
  unfold f_X0_room
  rw [if_neg (nI_in h (by decide)), nI_clamp (by omega)]
  rfl
theorem value0_eq {C : Mem} {b : Nat} (h : b < 12) : f_X0_value C (nI b) = some (vlV C b) := by
  unfold f_X0_value
  rw [if_neg (nI_in h (by decide)), nI_clamp (by omega)]
  rfl
theorem va_up_id {α : Type} (f : Nat → α) (k : Nat) : va_up f k (f k) = f := by
  funext j
  unfold va_up
  split
  · rename_i h; rw [h]
  · rfl
theorem neg1_lt : (-1 : Int32) < 0 := by decide
theorem nI_ne_m1 {n : Nat} (h : n < 2147483648) : nI n ≠ -1 := fun e => nI_pos h (by rw [e]; exact neg1_lt)
section Rows
variable {nb nc : Nat} {C : Mem} {A : Nat → Int32}
theorem waits_no {p : Int32} (hC : C 0 0 = nI nb) (hn : nb ≤ 12) (h : p < 0 ∨ nI nb ≤ p) : f_X0_waits C p = some 0 := by
  simp [f_X0_waits, has0_no hC (by omega) h]
theorem waits_yes {b : Nat} (hC : C 0 0 = nI nb) (hn : nb ≤ 12) (h : b < nb) : f_X0_waits C (nI b) = some (if C 6 b = -1 then 1 else 0) := by
  unfold f_X0_waits
  rw [has0_yes hC (by omega) h]
  rw [Option.bind_some]
  rw [if_neg (by decide), if_neg (nI_in (N := 12) (by omega) (by decide)), nI_clamp (by omega)]
  split <;> rfl
theorem lies_no {p : Int32} (hC : C 0 0 = nI nb) (hn : nb ≤ 12) (h : p < 0 ∨ nI nb ≤ p) : f_X0_lies C p = some 0 := by
  simp [f_X0_lies, has0_no hC (by omega) h]
theorem lies_yes {b : Nat} (hC : C 0 0 = nI nb) (hn : nb ≤ 12) (h : b < nb) : f_X0_lies C (nI b) = some (if C 6 b = -1 then 0 else 1) := by
  unfold f_X0_lies
  rw [has0_yes hC (by omega) h]
  rw [Option.bind_some]
  rw [if_neg (by decide), if_neg (nI_in (N := 12) (by omega) (by decide)), nI_clamp (by omega)]
  split <;> rfl
/-- the reference's own: a bale lies -/
theorem mlies_eq {M : Mem} {b : Nat} (hR : RBal nb nc C (M 0)) (hc : nc ≤ 8) (h : b < nb) : f_X12_lies M (nI b) = some (if C 6 b = -1 then 0 else 1) := by
  obtain ⟨h0, h1, h2, h3, h4, h5, h6⟩ := hR
  unfold f_X12_lies
  rw [its_eq M b 5 5 rfl (by omega) (by decide), (h5 b h).2.2.2.2.2.1]
  obtain ⟨-, -, -, -, -, h7, -⟩ := h6 b h
  show (if C 6 b < 0 then some (0 : Int32) else some 1) = _
  rcases h7 with ⟨e, -⟩ | ⟨⟨z, hz, e⟩, -⟩
  · rw [e]; rfl
  · rw [e, if_neg (nI_pos (by omega)), if_neg (nI_ne_m1 (by omega))]
theorem mroom_eq {M : Mem} {b : Nat} (hR : RBal nb nc C (M 0)) (h : b < nb) : f_X12_room M (nI b) = some (rmV C b) := by
  obtain ⟨h0, h1, h2, h3, h4, h5, h6⟩ := hR
  unfold f_X12_room
  rw [its_eq M b 1 1 rfl (by omega) (by decide), its_eq M b 4 4 rfl (by omega) (by decide), (h5 b h).2.1, (h5 b h).2.2.2.2.1]
  rfl
theorem mvalue_eq {M : Mem} {b : Nat} (hR : RBal nb nc C (M 0)) (h : b < nb) : f_X12_value M (nI b) = some (vlV C b) := by
  obtain ⟨h0, h1, h2, h3, h4, h5, h6⟩ := hR
  unfold f_X12_value
  rw [its_eq M b 3 3 rfl (by omega) (by decide), its_eq M b 4 4 rfl (by omega) (by decide), (h5 b h).2.2.2.1, (h5 b h).2.2.2.2.1]
  rfl
end Rows
