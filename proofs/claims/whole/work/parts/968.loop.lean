theorem sub_toInt {a b : Nat} (ha : a < 1073741824) (hb : b < 1073741824) : (nI a - nI b).toInt = (a : Int) - b := pk_sub_toInt ha hb
set_option maxHeartbeats 4000000 in
set_option maxRecDepth 100000 in
theorem law_loop {p : Program} {l : Launch} {e : Env} {s : State} {m : MethodId} {below : List Frame} {meth : Method} {c : Code} {b L : Nat} {xs : Nat → Int32} {dC : Nat → ClassId} {dI : Nat → Nat → Nat} {cyB cyI cyZ cyO : ClassId} {adK adV : Nat → Nat} {a : Nat → Nat} {Rel : RelT} (C0 : lw_At p s m meth c b L xs) (hL : L ≤ 3072) (hCx : Cx dC dI cyB cyI cyZ cyO s) (hX : SX adK adV (fun q : Nat => s.heap.size ≤ q) s) (hSt : Steps Rel) : ∀ (n t : Nat) (J : Nat → Nat → Nat) (f : Nat → Option Nat) (μ : Nat → Mem) (I : Nat → Option (Nat → Mem)) (M : Mem) (H : Heap) (locs : List Loc) (ls : Array Slot), L < 6 * (t + n) + 6 → t ≤ 512 → Rel μ I M → FI f J I → va_P (dC, dI) vwCl (LX cyB cyI cyZ cyO a f μ M ++ LI cyB cyI cyZ cyO J I) H → va_D (fun q : Nat => s.heap.size ≤ q) (LX cyB cyI cyZ cyO a f μ M ++ LI cyB cyI cyZ cyO J I) → va_S (fun q : Nat => s.heap.size ≤ q) s.heap H locs → lv_has ls 4 [(0, .ref b), (1, .ref (a 0)), (2, .ref (a 64)), (3, .int (nI (6 * t)))] → W p l e room_1 s m #[Value.ref b] below meth c H locs (75 + 38 * t) (15235 + 2797 * t) (lw_Z below #[Value.ref b] s) (F0 m 18 ls []) := by
  obtain ⟨hx, hb, hr, hml, hown, hts, hXs, hbl, hlocks, hgv⟩ := id C0
  have hbA : ¬ (fun q : Nat => s.heap.size ≤ q) b := Nat.not_le.mpr hbl
  have hrc : 100000 ≤ room_1.cells := by first | decide | (unfold room_1; decide) | (simp [room_1])
  have hrs : 2000000 ≤ room_1.slots := by first | decide | (unfold room_1; decide) | (simp [room_1])
  obtain ⟨-, q_feed, q_end, q_decree, q_fault, q_citizen, q_rule, q_give, q_sell, q_bale, q_press, q_lade, q_unlade, q_best, q_bestSide, q_ladeBest, q_sail, q_board, q_loan, q_ends, q_tell, q_about, q_book, q_count, q_image, q_again⟩ := hSt
  intro n
  induction n with
  | zero =>
    intro t J f μ I M H locs ls hn ht hR hFI hP hD hS hl
    refine lv_iload_n hx hb dL_law_18 rfl (lv_at hl 3 rfl) ?_
    refine lv_aload_n hx hb dL_law_19 rfl (lv_at hl 0 rfl) ?_
    refine va_slen hx hb hXs hbl hbA hS dL_law_20 ?_
    refine lv_bipush (v := (6 : Int32)) hx hb dL_law_21 (by decide) ?_
    refine lv_isub hx hb dL_law_23 ?_
    refine lv_icmp_gt (tgt := 961) hx hb dL_law_24 (by decide) (fun hc => ?_) (fun hc => ?_)
    · refine lv_iconst (v := (1 : Int32)) hx hb dL_law_961 (by decide) ?_
      refine va_forget (fun q hq => hS.2.2 q hq) ?_
      refine W.widen (k := room_1.cells) (n := room_1.slots) (by omega) (by omega) ?_
      exact lw_ret hx hb hr hlocks dL_law_962
    · exfalso
      apply hc
      rw [Int32.lt_iff_toInt_lt]
      have e1 : (Int32.ofNat L - (6 : Int32)).toInt = (L : Int) - 6 := sub_toInt (a := L) (b := 6) (by omega) (by decide)
      have e2 : (nI (6 * t)).toInt = ((6 * t : Nat) : Int) := nI_toInt (by omega)
      rw [e1, e2]
      omega
  | succ n ih =>
    intro t J f μ I M H locs ls hn ht hR hFI hP hD hS hl
    refine lv_iload_n hx hb dL_law_18 rfl (lv_at hl 3 rfl) ?_
    refine lv_aload_n hx hb dL_law_19 rfl (lv_at hl 0 rfl) ?_
    refine va_slen hx hb hXs hbl hbA hS dL_law_20 ?_
    refine lv_bipush (v := (6 : Int32)) hx hb dL_law_21 (by decide) ?_
    refine lv_isub hx hb dL_law_23 ?_
    refine lv_icmp_gt (tgt := 961) hx hb dL_law_24 (by decide) (fun hc => ?_) (fun hc => ?_)
    · refine lv_iconst (v := (1 : Int32)) hx hb dL_law_961 (by decide) ?_
      refine va_forget (fun q hq => hS.2.2 q hq) ?_
      refine W.widen (k := room_1.cells) (n := room_1.slots) (by omega) (by omega) ?_
      exact lw_ret hx hb hr hlocks dL_law_962
    · have hj : 6 * t + 6 ≤ L := by
        rw [Int32.lt_iff_toInt_lt] at hc
        have e1 : (Int32.ofNat L - (6 : Int32)).toInt = (L : Int) - 6 := sub_toInt (a := L) (b := 6) (by omega) (by decide)
        have e2 : (nI (6 * t)).toInt = ((6 * t : Nat) : Int) := nI_toInt (by omega)
        rw [e1, e2] at hc
        omega
      have hcs : 75 + 38 * t + 38 ≤ room_1.cells := by omega
      have hss : 15235 + 2797 * t + 2797 ≤ room_1.slots := by omega
      have kk : ∀ (J : Nat → Nat → Nat) (f : Nat → Option Nat) (μ : Nat → Mem) (I : Nat → Option (Nat → Mem)) (M : Mem) (H : Heap) (locs : List Loc) (ls : Array Slot), Rel μ I M → FI f J I → va_P (dC, dI) vwCl (LX cyB cyI cyZ cyO a f μ M ++ LI cyB cyI cyZ cyO J I) H → va_D (fun q : Nat => s.heap.size ≤ q) (LX cyB cyI cyZ cyO a f μ M ++ LI cyB cyI cyZ cyO J I) → va_S (fun q : Nat => s.heap.size ≤ q) s.heap H locs → lv_has ls 4 [(0, .ref b), (1, .ref (a 0)), (2, .ref (a 64)), (3, .int (nI (6 * t)))] → W p l e room_1 s m #[Value.ref b] below meth c H locs (75 + 38 * t + 38) (15235 + 2797 * t + 2797) (lw_Z below #[Value.ref b] s) (F0 m 955 ls []) := by
        intro J f μ I M H locs ls hR hFI hP hD hS hl
        refine lv_iinc (v := nI (6 * (t + 1))) (lv' := [(3, .int (nI (6 * (t + 1)))), (0, .ref b), (1, .ref (a 0)), (2, .ref (a 64))]) hx hb dL_law_955 hl (k := 3) rfl (by show nI (6 * t) + nI 6 = _; rw [nI_add, Nat.mul_succ]) (by decide) rfl (fun ls hl => ?_)
        refine lv_goto (tgt := 18) hx hb dL_law_958 (by decide) ?_
        refine W.eq rfl ?_
        have hz := ih (t + 1) J f μ I M H locs ls (by omega) (by omega) hR hFI hP hD hS (lv_sub hl [1, 2, 3, 0] rfl)
        rw [show 75 + 38 * t + 38 = 75 + 38 * (t + 1) by omega, show 15235 + 2797 * t + 2797 = 15235 + 2797 * (t + 1) by omega]
        exact hz
      refine lv_aload_n hx hb dL_law_27 rfl (lv_at hl 0 rfl) ?_
      refine lv_iload_n hx hb dL_law_28 rfl (lv_at hl 3 rfl) ?_
      refine va_sld hx hb hXs hbl hbA hS (vp_in_nI (by omega) (by omega)) dL_law_29 ?_
      refine lv_bipush (v := (31 : Int32)) hx hb dL_law_30 (by decide) ?_
      refine lv_iand hx hb dL_law_32 ?_
      refine lv_topi (fun y ey => ?_)
      clear ey
      by_cases hs0 : y = (0 : Int32)
      · refine lv_tableIn (off := 115) (tgt := 148) hx hb dL_law_33 (by rw [hs0]; decide) (by rw [hs0]; decide) (by rw [hs0]; rfl) (by decide) ?_
        exact law_feed C0 hL hCx hX q_feed hj hcs hss hR hFI hP hD hS hl kk
      by_cases hs1 : y = (1 : Int32)
      · refine lv_tableIn (off := 178) (tgt := 211) hx hb dL_law_33 (by rw [hs1]; decide) (by rw [hs1]; decide) (by rw [hs1]; rfl) (by decide) ?_
        exact law_end C0 hL hCx hX q_end hj hcs hss hR hFI hP hD hS hl kk
      by_cases hs2 : y = (2 : Int32)
      · refine lv_tableIn (off := 201) (tgt := 234) hx hb dL_law_33 (by rw [hs2]; decide) (by rw [hs2]; decide) (by rw [hs2]; rfl) (by decide) ?_
        exact law_decree C0 hL hCx hX q_decree hj hcs hss hR hFI hP hD hS hl kk
      by_cases hs3 : y = (3 : Int32)
      · refine lv_tableIn (off := 214) (tgt := 247) hx hb dL_law_33 (by rw [hs3]; decide) (by rw [hs3]; decide) (by rw [hs3]; rfl) (by decide) ?_
        exact law_fault C0 hL hCx hX q_fault hj hcs hss hR hFI hP hD hS hl kk
      by_cases hs4 : y = (4 : Int32)
      · refine lv_tableIn (off := 237) (tgt := 270) hx hb dL_law_33 (by rw [hs4]; decide) (by rw [hs4]; decide) (by rw [hs4]; rfl) (by decide) ?_
        exact law_citizen C0 hL hCx hX q_citizen hj hcs hss hR hFI hP hD hS hl kk
      by_cases hs5 : y = (5 : Int32)
      · refine lv_tableIn (off := 286) (tgt := 319) hx hb dL_law_33 (by rw [hs5]; decide) (by rw [hs5]; decide) (by rw [hs5]; rfl) (by decide) ?_
        exact law_rule C0 hL hCx hX q_rule hj hcs hss hR hFI hP hD hS hl kk
      by_cases hs6 : y = (6 : Int32)
      · refine lv_tableIn (off := 319) (tgt := 352) hx hb dL_law_33 (by rw [hs6]; decide) (by rw [hs6]; decide) (by rw [hs6]; rfl) (by decide) ?_
        exact law_give C0 hL hCx hX q_give hj hcs hss hR hFI hP hD hS hl kk
      by_cases hs7 : y = (7 : Int32)
      · refine lv_tableIn (off := 342) (tgt := 375) hx hb dL_law_33 (by rw [hs7]; decide) (by rw [hs7]; decide) (by rw [hs7]; rfl) (by decide) ?_
        exact law_sell C0 hL hCx hX q_sell hj hcs hss hR hFI hP hD hS hl kk
      by_cases hs8 : y = (8 : Int32)
      · refine lv_tableIn (off := 395) (tgt := 428) hx hb dL_law_33 (by rw [hs8]; decide) (by rw [hs8]; decide) (by rw [hs8]; rfl) (by decide) ?_
        exact law_bale C0 hL hCx hX q_bale hj hcs hss hR hFI hP hD hS hl kk
      by_cases hs9 : y = (9 : Int32)
      · refine lv_tableIn (off := 448) (tgt := 481) hx hb dL_law_33 (by rw [hs9]; decide) (by rw [hs9]; decide) (by rw [hs9]; rfl) (by decide) ?_
        exact law_press C0 hL hCx hX q_press hj hcs hss hR hFI hP hD hS hl kk
      by_cases hs10 : y = (10 : Int32)
      · refine lv_tableIn (off := 481) (tgt := 514) hx hb dL_law_33 (by rw [hs10]; decide) (by rw [hs10]; decide) (by rw [hs10]; rfl) (by decide) ?_
        exact law_lade C0 hL hCx hX q_lade hj hcs hss hR hFI hP hD hS hl kk
      by_cases hs11 : y = (11 : Int32)
      · refine lv_tableIn (off := 524) (tgt := 557) hx hb dL_law_33 (by rw [hs11]; decide) (by rw [hs11]; decide) (by rw [hs11]; rfl) (by decide) ?_
        exact law_unlade C0 hL hCx hX q_unlade hj hcs hss hR hFI hP hD hS hl kk
      by_cases hs12 : y = (12 : Int32)
      · refine lv_tableIn (off := 547) (tgt := 580) hx hb dL_law_33 (by rw [hs12]; decide) (by rw [hs12]; decide) (by rw [hs12]; rfl) (by decide) ?_
        exact law_best C0 hL hCx hX q_best hj hcs hss hR hFI hP hD hS hl kk
      by_cases hs13 : y = (13 : Int32)
      · refine lv_tableIn (off := 560) (tgt := 593) hx hb dL_law_33 (by rw [hs13]; decide) (by rw [hs13]; decide) (by rw [hs13]; rfl) (by decide) ?_
        exact law_bestSide C0 hL hCx hX q_bestSide hj hcs hss hR hFI hP hD hS hl kk
      by_cases hs14 : y = (14 : Int32)
      · refine lv_tableIn (off := 583) (tgt := 616) hx hb dL_law_33 (by rw [hs14]; decide) (by rw [hs14]; decide) (by rw [hs14]; rfl) (by decide) ?_
        exact law_ladeBest C0 hL hCx hX q_ladeBest hj hcs hss hR hFI hP hD hS hl kk
      by_cases hs15 : y = (15 : Int32)
      · refine lv_tableIn (off := 596) (tgt := 629) hx hb dL_law_33 (by rw [hs15]; decide) (by rw [hs15]; decide) (by rw [hs15]; rfl) (by decide) ?_
        exact law_sail C0 hL hCx hX q_sail hj hcs hss hR hFI hP hD hS hl kk
      by_cases hs16 : y = (16 : Int32)
      · refine lv_tableIn (off := 609) (tgt := 642) hx hb dL_law_33 (by rw [hs16]; decide) (by rw [hs16]; decide) (by rw [hs16]; rfl) (by decide) ?_
        exact law_board C0 hL hCx hX q_board hj hcs hss hR hFI hP hD hS hl kk
      by_cases hs17 : y = (17 : Int32)
      · refine lv_tableIn (off := 662) (tgt := 695) hx hb dL_law_33 (by rw [hs17]; decide) (by rw [hs17]; decide) (by rw [hs17]; rfl) (by decide) ?_
        exact law_loan C0 hL hCx hX q_loan hj hcs hss hR hFI hP hD hS hl kk
      by_cases hs18 : y = (18 : Int32)
      · refine lv_tableIn (off := 715) (tgt := 748) hx hb dL_law_33 (by rw [hs18]; decide) (by rw [hs18]; decide) (by rw [hs18]; rfl) (by decide) ?_
        exact law_ends C0 hL hCx hX q_ends hj hcs hss hR hFI hP hD hS hl kk
      by_cases hs19 : y = (19 : Int32)
      · refine lv_tableIn (off := 754) (tgt := 787) hx hb dL_law_33 (by rw [hs19]; decide) (by rw [hs19]; decide) (by rw [hs19]; rfl) (by decide) ?_
        exact law_tell C0 hL hCx hX q_tell hj hcs hss hR hFI hP hD hS hl kk
      by_cases hs20 : y = (20 : Int32)
      · refine lv_tableIn (off := 787) (tgt := 820) hx hb dL_law_33 (by rw [hs20]; decide) (by rw [hs20]; decide) (by rw [hs20]; rfl) (by decide) ?_
        exact law_about C0 hL hCx hX q_about hj hcs hss hR hFI hP hD hS hl kk
      by_cases hs21 : y = (21 : Int32)
      · refine lv_tableIn (off := 820) (tgt := 853) hx hb dL_law_33 (by rw [hs21]; decide) (by rw [hs21]; decide) (by rw [hs21]; rfl) (by decide) ?_
        exact law_book C0 hL hCx hX q_book hj hcs hss hR hFI hP hD hS hl kk
      by_cases hs22 : y = (22 : Int32)
      · refine lv_tableIn (off := 853) (tgt := 886) hx hb dL_law_33 (by rw [hs22]; decide) (by rw [hs22]; decide) (by rw [hs22]; rfl) (by decide) ?_
        exact law_count C0 hL hCx hX q_count hj hcs hss hR hFI hP hD hS hl kk
      by_cases hs23 : y = (23 : Int32)
      · refine lv_tableIn (off := 876) (tgt := 909) hx hb dL_law_33 (by rw [hs23]; decide) (by rw [hs23]; decide) (by rw [hs23]; rfl) (by decide) ?_
        exact law_image C0 hL hCx hX q_image hj hcs hss hR hFI hP hD hS hl kk
      by_cases hs24 : y = (24 : Int32)
      · refine lv_tableIn (off := 899) (tgt := 932) hx hb dL_law_33 (by rw [hs24]; decide) (by rw [hs24]; decide) (by rw [hs24]; rfl) (by decide) ?_
        exact law_again C0 hL hCx hX q_again hj hcs hss hR hFI hP hD hS hl kk
      refine lv_tableOut (tgt := 955) hx hb dL_law_33 (by have z0 := lv_neT hs0 (show (0 : Int32).toInt = 0 by decide); have z1 := lv_neT hs1 (show (1 : Int32).toInt = 1 by decide); have z2 := lv_neT hs2 (show (2 : Int32).toInt = 2 by decide); have z3 := lv_neT hs3 (show (3 : Int32).toInt = 3 by decide); have z4 := lv_neT hs4 (show (4 : Int32).toInt = 4 by decide); have z5 := lv_neT hs5 (show (5 : Int32).toInt = 5 by decide); have z6 := lv_neT hs6 (show (6 : Int32).toInt = 6 by decide); have z7 := lv_neT hs7 (show (7 : Int32).toInt = 7 by decide); have z8 := lv_neT hs8 (show (8 : Int32).toInt = 8 by decide); have z9 := lv_neT hs9 (show (9 : Int32).toInt = 9 by decide); have z10 := lv_neT hs10 (show (10 : Int32).toInt = 10 by decide); have z11 := lv_neT hs11 (show (11 : Int32).toInt = 11 by decide); have z12 := lv_neT hs12 (show (12 : Int32).toInt = 12 by decide); have z13 := lv_neT hs13 (show (13 : Int32).toInt = 13 by decide); have z14 := lv_neT hs14 (show (14 : Int32).toInt = 14 by decide); have z15 := lv_neT hs15 (show (15 : Int32).toInt = 15 by decide); have z16 := lv_neT hs16 (show (16 : Int32).toInt = 16 by decide); have z17 := lv_neT hs17 (show (17 : Int32).toInt = 17 by decide); have z18 := lv_neT hs18 (show (18 : Int32).toInt = 18 by decide); have z19 := lv_neT hs19 (show (19 : Int32).toInt = 19 by decide); have z20 := lv_neT hs20 (show (20 : Int32).toInt = 20 by decide); have z21 := lv_neT hs21 (show (21 : Int32).toInt = 21 by decide); have z22 := lv_neT hs22 (show (22 : Int32).toInt = 22 by decide); have z23 := lv_neT hs23 (show (23 : Int32).toInt = 23 by decide); have z24 := lv_neT hs24 (show (24 : Int32).toInt = 24 by decide); omega) (by decide) ?_
      refine W.widen (k := 75 + 38 * t + 38) (n := 15235 + 2797 * t + 2797) (by omega) (by omega) ?_
      exact kk J f μ I M H locs ls hR hFI hP hD hS hl
