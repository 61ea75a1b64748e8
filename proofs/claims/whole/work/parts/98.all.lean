/-! ===== every step, under the relation with the bound ===== -/
theorem r_init : S_init Rel1 := ⟨st_init, INVP.at (fun c _ => ⟨0, by omega, rfl⟩), fun k ν _ e => absurd e (by simp)⟩
theorem r_feed : S_feed Rel1 := fun μ I M p1 p2 p3 p4 p5 h => by
  obtain ⟨r, N7, M', a, b, c⟩ := st_feed μ I M p1 p2 p3 p4 p5 h.1
  exact ⟨r, N7, M', a, b, c, h.2.1, h.2.2⟩
theorem r_end : S_end Rel1 := fun μ I M p1 h => by
  obtain ⟨r, N7, M', a, b, c⟩ := st_end μ I M p1 h.1
  exact ⟨r, N7, M', a, b, c, h.2.1, h.2.2⟩
theorem r_decree : S_decree Rel1 := fun μ I M h => by
  obtain ⟨r, N0, N3, N7, N8, N9, N12, N10, M', a, b, c⟩ := st_decree μ I M h.1
  exact ⟨r, N0, N3, N7, N8, N9, N12, N10, M', a, b, c, h.2.1, h.2.2⟩
theorem r_fault : S_fault Rel1 := fun μ I M p1 h => by
  obtain ⟨r, a, b, c⟩ := st_fault μ I M p1 h.1
  exact ⟨r, a, b, c, h.2⟩
theorem r_citizen : S_citizen Rel1 := fun μ I M p1 p2 h hp => by
  obtain ⟨r, N5, M', a, b, c⟩ := st_citizen μ I M p1 p2 h.1 hp
  exact ⟨r, N5, M', a, b, c, h.2.1.cg (fun k _ => by show N5 3 k = _; rw [inv_citizen a]), h.2.2⟩
theorem r_rule : S_rule Rel1 := fun μ I M p1 p2 h => by
  obtain ⟨r, N6, M', a, b, c⟩ := st_rule μ I M p1 p2 h.1
  exact ⟨r, N6, M', a, b, c, h.2.1, h.2.2⟩
theorem r_give : S_give Rel1 := fun μ I M p1 h => by
  obtain ⟨r, N0, N5, M', a, b, c⟩ := st_give μ I M p1 h.1
  obtain ⟨⟨yr, nc, nb, nl, tp, h1, h2, h3, h4, h5, h6, h7⟩, hI⟩ := id h.1
  exact ⟨r, N0, N5, M', a, b, c, inv_give h1 h4 h6 h.2.1 a, h.2.2⟩
theorem r_sell : S_sell Rel1 := fun μ I M p1 p2 p3 p4 h => by
  obtain ⟨r, N5, M', a, b, c⟩ := st_sell μ I M p1 p2 p3 p4 h.1
  obtain ⟨⟨yr, nc, nb, nl, tp, h1, h2, h3, h4, h5, h6, h7⟩, hI⟩ := id h.1
  exact ⟨r, N5, M', a, b, c, inv_sell h.2.1 h2 h6 a, h.2.2⟩
theorem r_bale : S_bale Rel1 := fun μ I M p1 p2 p3 p4 h => by
  obtain ⟨r, N1, M', a, b, c⟩ := st_bale μ I M p1 p2 p3 p4 h.1
  exact ⟨r, N1, M', a, b, c, h.2.1, h.2.2⟩
theorem r_press : S_press Rel1 := fun μ I M p1 p2 h => by
  obtain ⟨r, N1, M', a, b, c⟩ := st_press μ I M p1 p2 h.1
  exact ⟨r, N1, M', a, b, c, h.2.1, h.2.2⟩
theorem r_lade : S_lade Rel1 := fun μ I M p1 p2 p3 h => by
  obtain ⟨r, N1, M', a, b, c⟩ := st_lade μ I M p1 p2 p3 h.1
  exact ⟨r, N1, M', a, b, c, h.2.1, h.2.2⟩
theorem r_unlade : S_unlade Rel1 := fun μ I M p1 h => by
  obtain ⟨r, N1, M', a, b, c⟩ := st_unlade μ I M p1 h.1
  exact ⟨r, N1, M', a, b, c, h.2.1, h.2.2⟩
theorem r_bestSide : S_bestSide Rel1 := fun μ I M p1 h => by
  obtain ⟨r, a, b, c⟩ := st_bestSide μ I M p1 h.1
  exact ⟨r, a, b, c, h.2⟩
theorem r_ladeBest : S_ladeBest Rel1 := fun μ I M h => by
  obtain ⟨r, N1, M', a, b, c⟩ := st_ladeBest μ I M h.1
  exact ⟨r, N1, M', a, b, c, h.2.1, h.2.2⟩
theorem r_sail : S_sail Rel1 := fun μ I M h => by
  obtain ⟨r, N0, M', a, b, c⟩ := st_sail μ I M h.1
  exact ⟨r, N0, M', a, b, c, h.2.1, h.2.2⟩
theorem r_board : S_board Rel1 := fun μ I M p1 p2 p3 p4 h => by
  obtain ⟨r, a, b, c⟩ := st_board μ I M p1 p2 p3 p4 h.1
  exact ⟨r, a, b, c, h.2⟩
theorem r_loan : S_loan Rel1 := fun μ I M p1 p2 p3 p4 h => by
  obtain ⟨r, N2, N5, M', a, b, c⟩ := st_loan μ I M p1 p2 p3 p4 h.1
  exact ⟨r, N2, N5, M', a, b, c, h.2.1.cg (fun k _ => by show N5 3 k = _; rw [inv_loan a]), h.2.2⟩
theorem r_ends : S_ends Rel1 := fun μ I M p1 h hp => by
  obtain ⟨r, N0, N1, N2, N4, N5, M', a, b, c⟩ := st_ends μ I M p1 h.1 hp
  obtain ⟨⟨yr, nc, nb, nl, tp, h1, h2, h3, h4, h5, h6, h7⟩, hI⟩ := id c
  exact ⟨r, N0, N1, N2, N4, N5, M', a, b, c, inv_ends h.2.1 h6 a, h.2.2⟩
theorem r_tell : S_tell Rel1 := fun μ I M p1 p2 h => by
  obtain ⟨r, a, b, c⟩ := st_tell μ I M p1 p2 h.1
  exact ⟨r, a, b, c, h.2⟩
theorem r_about : S_about Rel1 := fun μ I M p1 p2 h => by
  obtain ⟨r, a, b, c⟩ := st_about μ I M p1 p2 h.1
  exact ⟨r, a, b, c, h.2⟩
theorem r_book : S_book Rel1 := fun μ I M p1 p2 h => by
  obtain ⟨r, a, b, c⟩ := st_book μ I M p1 p2 h.1
  exact ⟨r, a, b, c, h.2⟩
theorem r_count : S_count Rel1 := fun μ I M p1 h => by
  obtain ⟨r, a, b, c⟩ := st_count μ I M p1 h.1
  exact ⟨r, a, b, c, h.2⟩
theorem r_image : S_image Rel1 := fun μ I M p1 h => by
  rcases st_image μ I M p1 h.1 with g | ⟨k, N0, N1, N2, N3, N4, N5, N6, N7, M', a1, a2, a3, a4, a5, a6, a7⟩
  · exact Or.inl g
  · refine Or.inr ⟨k, N0, N1, N2, N3, N4, N5, N6, N7, M', a1, a2, a3, a4, a5, a6, a7, h.2.1, fun j ν hj e => ?_⟩
    have hN : INVP N5 := by
      cases hk : I k with
      | none => exact inv_copy h.2.1 (a4 hk)
      | some ν => exact inv_copy h.2.1 (a5 ν hk)
    by_cases q : j = k
    · subst q
      rw [show va_up I j (some (nuOf N0 N1 N2 N3 N4 N5 N6 N7)) j = some (nuOf N0 N1 N2 N3 N4 N5 N6 N7) by simp [va_up]] at e
      injection e with e
      rw [← e]
      exact hN
    · rw [va_nE q] at e
      exact h.2.2 j ν hj e
theorem r_again : S_again Rel1 := fun μ I M p1 h => by
  rcases st_again μ I M p1 h.1 with g | ⟨k, a1, a2, a3, g⟩
  · exact Or.inl g
  · refine Or.inr ⟨k, a1, a2, a3, ?_⟩
    rcases g with g | ⟨ν, N0, N1, N2, N3, N4, N5, N6, N7, M', b1, b2, b3, b4⟩
    · exact Or.inl g
    · exact Or.inr ⟨ν, N0, N1, N2, N3, N4, N5, N6, N7, M', b1, b2, b3, b4, inv_copy (h.2.2 k ν a2 b1) b2, h.2.2⟩
theorem steps_all : Steps Rel1 := ⟨r_init, r_feed, r_end, r_decree, r_fault, r_citizen, r_rule, r_give, r_sell, r_bale, r_press, r_lade, r_unlade, st_best, r_bestSide, r_ladeBest, r_sail, r_board, r_loan, r_ends, r_tell, r_about, r_book, r_count, r_image, r_again⟩
