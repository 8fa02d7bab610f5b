/-- the sum of what was paid -/
def psum (R : Nat → Nat → Nat → Int32) : Nat → Int64
  | 0 => 0
  | n + 1 => psum R n + (R 12 n 0).toInt64
def byB (R : Nat → Nat → Nat → Int32) (b : Nat) (q : Int32) (j : Nat) : Bool := decide (R 4 j 0 = nI b) && decide (R 5 j 0 = q)
set_option maxHeartbeats 4000000 in
set_option maxRecDepth 100000 in
theorem met_X4_incomeByLots (l : Launch) (D : va_G) (cA : Nat → ClassId) (wr : va_W) (α : Nat → Nat → Nat) (L : List (Nat × Nat)) (N : Nat → Nat → Nat) (R : Nat → Nat → Nat → Int32) (Fr : Nat → UInt32) (inc : Int64) (hLk : LOK N L) (hC : IC N) : MetL l yX4_incomeByLots (.code yX4_incomeByLots cX4_incomeByLots 7 (some .long) :: LW) ({ frames := 0, cells := 0, slots := 0, locals := 0 }) D cA (xWd wr cA α L (N, R, Fr, inc)) [.ref (α 0 0)] (fun r (_ : Unit) => r = psum R (N 0 1)) (fun _ => xWd wr cA α L (N, R, Fr, inc)) 0 0 := by
  refine k_bodyL (plainFor_of_name (by decide)) (Nat.le_of_ble_eq_true rfl) (fun p e s m args below meth c ls F hW hl => ?_)
  obtain ⟨hx, hb, hr, hml, hown, hts, hlocks, hname⟩ := id F
  have hl : lv_has ls 7 [(0, .ref (α 0 0))] := hl
  refine lv_lconst (v := 0) hx hb dX4_incomeByLots_0 (by decide) ?_
  refine lv_lstore_n (lv' := [(1, .long 0), (0, .ref (α 0 0))]) hx hb dX4_incomeByLots_1 rfl hl (by decide) rfl (fun ls hl => ?_)
  refine lv_aload_n hx hb dX4_incomeByLots_2 rfl (lv_at hl 1 rfl) ?_
  obtain ⟨q_457, hq_457⟩ := xw_at (wr := wr) (cA := cA) (α := α) (L := L) (S := (N, R, Fr, inc)) 0 0 (hLk.o 0 (by decide))
  refine k_get (v := .ref (α 2 0)) F hW inX4 rfl q_457 hq_457 rfl 1 (by decide) FL_X4_17 rfl rfl dX4_incomeByLots_3 ?_
  refine lv_astore_n (lv' := [(3, .ref (α 2 0)), (1, .long 0), (0, .ref (α 0 0))]) hx hb dX4_incomeByLots_6 rfl hl (by decide) rfl (fun ls hl => ?_)
  refine lv_aload_n hx hb dX4_incomeByLots_7 rfl (lv_at hl 0 rfl) ?_
  obtain ⟨q_458, hq_458⟩ := xw_at (wr := wr) (cA := cA) (α := α) (L := L) (S := (N, R, Fr, inc)) 2 0 (hLk.o 2 (by decide))
  refine k_alen (v := 20) F hW q_458 7 hq_458 rfl rfl dX4_incomeByLots_8 ?_
  refine lv_istore (lv' := [(4, .int 20), (3, .ref (α 2 0)), (1, .long 0), (0, .ref (α 0 0))]) hx hb dX4_incomeByLots_9 hl (by decide) rfl (fun ls hl => ?_)
  refine lv_iconst (v := 0) hx hb dX4_incomeByLots_11 (by decide) ?_
  refine lv_istore (lv' := [(5, .int 0), (4, .int 20), (3, .ref (α 2 0)), (1, .long 0), (0, .ref (α 0 0))]) hx hb dX4_incomeByLots_12 hl (by decide) rfl (fun ls hl => ?_)
  have hl := lv_chg hl (show Value.long 0 = .long (psum R (min 0 (N 0 1))) from by rw [Nat.zero_min]; rfl) 3 rfl
  have hl : lv_has ls 7 [(5, .int 0), (4, .int 20), (3, .ref (α 2 0)), (1, .long (psum R (min 0 (N 0 1)))), (0, .ref (α 0 0))] := hl
  refine k_ind (P := fun k H locs ls => ∃ i, i + k = 20 ∧ Cw D cA s (va_A (xWd wr cA α L (N, R, Fr, inc)) s.heap.size) (xWd wr cA α L (N, R, Fr, inc)) H locs ∧ lv_has ls 7 [(0, .ref (α 0 0)), (1, .long (psum R (min i (N 0 1)))), (3, .ref (α 2 0)), (4, .int 20), (5, .int (nI i))]) (fun k ih H locs ls hP => ?_) (20) ⟨0, by omega, hW, lv_sub hl [4, 3, 2, 1, 0] rfl⟩
  obtain ⟨i, hi_i, hW, hl⟩ := hP
  refine lv_iload hx hb dX4_incomeByLots_14 (lv_at hl 4 rfl) ?_
  refine lv_iload hx hb dX4_incomeByLots_16 (lv_at hl 3 rfl) ?_
  refine lv_icmp_ge (tgt := 47) hx hb dX4_incomeByLots_18 (by decide) (fun h_c => ?_) (fun h_c => ?_)
  · obtain rfl : i = 20 := by have := (nI_leI (b := i) (a := 20) (by omega) (by omega)).mp h_c; omega
    refine lv_lload_n hx hb dX4_incomeByLots_47 rfl (lv_at hl 1 rfl) ?_
    exact k_lret () F (hW) (by rw [Nat.min_eq_right (by have := hC; unfold IC at this; omega)]) dX4_incomeByLots_48 (Nat.le_of_ble_eq_true rfl) (Nat.le_of_ble_eq_true rfl)
  · have hlt : i < 20 := Nat.lt_of_not_le fun q => h_c (nI_le (a := 20) q (by omega))
    refine lv_aload_n hx hb dX4_incomeByLots_21 rfl (lv_at hl 2 rfl) ?_
    refine lv_iload hx hb dX4_incomeByLots_22 (lv_at hl 4 rfl) ?_
    by_cases hiv : i < N 0 1
    · obtain ⟨q_459, hq_459⟩ := xw_at (wr := wr) (cA := cA) (α := α) (L := L) (S := (N, R, Fr, inc)) 2 0 (hLk.o 2 (by decide))
      refine k_aaldS (x := (α 9 i)) F hW q_459 hq_459 (tI := 7) rfl (vp_in_nI hlt (by decide)) (by rw [nI_clamp (by omega)]; exact if_pos (hC.lt (by decide) hiv)) dX4_incomeByLots_24 ?_
      refine lv_astore (lv' := [(6, .ref (α 9 i)), (0, .ref (α 0 0)), (1, .long (psum R (min i (N 0 1)))), (3, .ref (α 2 0)), (4, .int 20), (5, .int (nI i))]) hx hb dX4_incomeByLots_25 hl (by decide) rfl (fun ls hl => ?_)
      refine lv_aload hx hb dX4_incomeByLots_27 (lv_at hl 0 rfl) ?_
      refine lv_ifnull hx hb dX4_incomeByLots_29 ?_
      refine lv_lload_n hx hb dX4_incomeByLots_32 rfl (lv_at hl 2 rfl) ?_
      refine lv_aload hx hb dX4_incomeByLots_33 (lv_at hl 0 rfl) ?_
      obtain ⟨q_460, hq_460⟩ := xw_at (wr := wr) (cA := cA) (α := α) (L := L) (S := (N, R, Fr, inc)) 9 i (hLk.l i (hC.lt (by decide) hiv))
      refine k_get (v := .int (R 12 i 0)) F hW inX2 rfl q_460 hq_460 rfl 10 (by decide) FL_X4_235 rfl rfl dX4_incomeByLots_35 ?_
      refine lv_i2l hx hb dX4_incomeByLots_38 rfl ?_
      refine lv_ladd hx hb dX4_incomeByLots_39 ?_
      refine lv_topl (fun x_461 ex_461 => ?_)
      obtain rfl : x_461 = psum R (min (i + 1) (N 0 1)) := ex_461.trans (by rw [Nat.min_eq_left (by omega), Nat.min_eq_left (by omega)]; exact rfl)
      refine lv_lstore_n (lv' := [(1, .long (psum R (min (i + 1) (N 0 1)))), (6, .ref (α 9 i)), (0, .ref (α 0 0)), (3, .ref (α 2 0)), (4, .int 20), (5, .int (nI i))]) hx hb dX4_incomeByLots_40 rfl hl (by decide) rfl (fun ls hl => ?_)
      refine lv_iinc (k := 5) (lv' := [(5, .int (nI (i + 1))), (1, .long (psum R (min (i + 1) (N 0 1)))), (6, .ref (α 9 i)), (0, .ref (α 0 0)), (3, .ref (α 2 0)), (4, .int 20)]) hx hb dX4_incomeByLots_41 hl rfl (nI_1 i) (by decide) rfl (fun ls hl => ?_)
      refine lv_goto (tgt := 14) hx hb dX4_incomeByLots_44 (by decide) ?_
      exact ih (k - 1) (by omega) ⟨i + 1, by omega, hW, lv_sub hl [3, 1, 4, 5, 0] rfl⟩
    · obtain ⟨q_462, hq_462⟩ := xw_at (wr := wr) (cA := cA) (α := α) (L := L) (S := (N, R, Fr, inc)) 2 0 (hLk.o 2 (by decide))
      refine k_aaldN F hW q_462 hq_462 (tI := 7) rfl (vp_in_nI hlt (by decide)) (by rw [nI_clamp (by omega)]; exact if_neg (by rw [hC.2.2.2.2.2.1 1 (by decide)]; exact hiv)) dX4_incomeByLots_24 ?_
      refine x_astoreQ (r := none) (lv' := [(6, va_rf none), (0, .ref (α 0 0)), (1, .long (psum R (min i (N 0 1)))), (3, .ref (α 2 0)), (4, .int 20), (5, .int (nI i))]) hx hb dX4_incomeByLots_25 hl (by decide) rfl (fun ls hl => ?_)
      refine x_aloadQ (r := none) hx hb dX4_incomeByLots_27 (lv_at hl 0 rfl) ?_
      refine lv_ifnullN (tgt := 41) hx hb dX4_incomeByLots_29 (by decide) ?_
      rw [show min i (N 0 1) = min (i + 1) (N 0 1) from by rw [Nat.min_eq_right (by omega), Nat.min_eq_right (by omega)]] at hl
      refine lv_iinc (k := 5) (lv' := [(5, .int (nI (i + 1))), (6, va_rf none), (0, .ref (α 0 0)), (1, .long (psum R (min (i + 1) (N 0 1)))), (3, .ref (α 2 0)), (4, .int 20)]) hx hb dX4_incomeByLots_41 hl rfl (nI_1 i) (by decide) rfl (fun ls hl => ?_)
      refine lv_goto (tgt := 14) hx hb dX4_incomeByLots_44 (by decide) ?_
      exact ih (k - 1) (by omega) ⟨i + 1, by omega, hW, lv_sub hl [2, 3, 4, 5, 0] rfl⟩

set_option maxHeartbeats 4000000 in
set_option maxRecDepth 100000 in
theorem met_X4_spoiled (l : Launch) (D : va_G) (cA : Nat → ClassId) (wr : va_W) (α : Nat → Nat → Nat) (L : List (Nat × Nat)) (N : Nat → Nat → Nat) (R : Nat → Nat → Nat → Int32) (Fr : Nat → UInt32) (inc : Int64) (hLk : LOK N L) (hC : IC N) : MetI l yX4_spoiled (.code yX4_spoiled cX4_spoiled 6 (some .int) :: LW) ({ frames := 0, cells := 0, slots := 0, locals := 0 }) D cA (xWd wr cA α L (N, R, Fr, inc)) [.ref (α 0 0)] (fun r (_ : Unit) => r = wsum R (isBad R) (N 0 1)) (fun _ => xWd wr cA α L (N, R, Fr, inc)) 0 0 := by
  refine k_bodyI (plainFor_of_name (by decide)) (Nat.le_of_ble_eq_true rfl) (fun p e s m args below meth c ls F hW hl => ?_)
  obtain ⟨hx, hb, hr, hml, hown, hts, hlocks, hname⟩ := id F
  have hl : lv_has ls 6 [(0, .ref (α 0 0))] := hl
  refine lv_iconst (v := 0) hx hb dX4_spoiled_0 (by decide) ?_
  refine lv_istore_n (lv' := [(1, .int 0), (0, .ref (α 0 0))]) hx hb dX4_spoiled_1 rfl hl (by decide) rfl (fun ls hl => ?_)
  refine lv_aload_n hx hb dX4_spoiled_2 rfl (lv_at hl 1 rfl) ?_
  obtain ⟨q_463, hq_463⟩ := xw_at (wr := wr) (cA := cA) (α := α) (L := L) (S := (N, R, Fr, inc)) 0 0 (hLk.o 0 (by decide))
  refine k_get (v := .ref (α 2 0)) F hW inX4 rfl q_463 hq_463 rfl 1 (by decide) FL_X4_17 rfl rfl dX4_spoiled_3 ?_
  refine lv_astore_n (lv' := [(2, .ref (α 2 0)), (1, .int 0), (0, .ref (α 0 0))]) hx hb dX4_spoiled_6 rfl hl (by decide) rfl (fun ls hl => ?_)
  refine lv_aload_n hx hb dX4_spoiled_7 rfl (lv_at hl 0 rfl) ?_
  obtain ⟨q_464, hq_464⟩ := xw_at (wr := wr) (cA := cA) (α := α) (L := L) (S := (N, R, Fr, inc)) 2 0 (hLk.o 2 (by decide))
  refine k_alen (v := 20) F hW q_464 7 hq_464 rfl rfl dX4_spoiled_8 ?_
  refine lv_istore_n (lv' := [(3, .int 20), (2, .ref (α 2 0)), (1, .int 0), (0, .ref (α 0 0))]) hx hb dX4_spoiled_9 rfl hl (by decide) rfl (fun ls hl => ?_)
  refine lv_iconst (v := 0) hx hb dX4_spoiled_10 (by decide) ?_
  refine lv_istore (lv' := [(4, .int 0), (3, .int 20), (2, .ref (α 2 0)), (1, .int 0), (0, .ref (α 0 0))]) hx hb dX4_spoiled_11 hl (by decide) rfl (fun ls hl => ?_)
  have hl := lv_chg hl (show Value.int 0 = .int (wsum R (isBad R) (min 0 (N 0 1))) from by rw [Nat.zero_min]; rfl) 3 rfl
  have hl : lv_has ls 6 [(4, .int 0), (3, .int 20), (2, .ref (α 2 0)), (1, .int (wsum R (isBad R) (min 0 (N 0 1)))), (0, .ref (α 0 0))] := hl
  refine k_ind (P := fun k H locs ls => ∃ i, i + k = 20 ∧ Cw D cA s (va_A (xWd wr cA α L (N, R, Fr, inc)) s.heap.size) (xWd wr cA α L (N, R, Fr, inc)) H locs ∧ lv_has ls 6 [(0, .ref (α 0 0)), (1, .int (wsum R (isBad R) (min i (N 0 1)))), (2, .ref (α 2 0)), (3, .int 20), (4, .int (nI i))]) (fun k ih H locs ls hP => ?_) (20) ⟨0, by omega, hW, lv_sub hl [4, 3, 2, 1, 0] rfl⟩
  obtain ⟨i, hi_i, hW, hl⟩ := hP
  refine lv_iload hx hb dX4_spoiled_13 (lv_at hl 4 rfl) ?_
  refine lv_iload_n hx hb dX4_spoiled_15 rfl (lv_at hl 3 rfl) ?_
  refine lv_icmp_ge (tgt := 54) hx hb dX4_spoiled_16 (by decide) (fun h_c => ?_) (fun h_c => ?_)
  · obtain rfl : i = 20 := by have := (nI_leI (b := i) (a := 20) (by omega) (by omega)).mp h_c; omega
    refine lv_iload_n hx hb dX4_spoiled_54 rfl (lv_at hl 1 rfl) ?_
    exact k_iret () F (hW) (by rw [Nat.min_eq_right (by have := hC; unfold IC at this; omega)]) dX4_spoiled_55 (Nat.le_of_ble_eq_true rfl) (Nat.le_of_ble_eq_true rfl)
  · have hlt : i < 20 := Nat.lt_of_not_le fun q => h_c (nI_le (a := 20) q (by omega))
    refine lv_aload_n hx hb dX4_spoiled_19 rfl (lv_at hl 2 rfl) ?_
    refine lv_iload hx hb dX4_spoiled_20 (lv_at hl 4 rfl) ?_
    by_cases hiv : i < N 0 1
    · obtain ⟨q_465, hq_465⟩ := xw_at (wr := wr) (cA := cA) (α := α) (L := L) (S := (N, R, Fr, inc)) 2 0 (hLk.o 2 (by decide))
      refine k_aaldS (x := (α 9 i)) F hW q_465 hq_465 (tI := 7) rfl (vp_in_nI hlt (by decide)) (by rw [nI_clamp (by omega)]; exact if_pos (hC.lt (by decide) hiv)) dX4_spoiled_22 ?_
      refine lv_astore (lv' := [(5, .ref (α 9 i)), (0, .ref (α 0 0)), (1, .int (wsum R (isBad R) (min i (N 0 1)))), (2, .ref (α 2 0)), (3, .int 20), (4, .int (nI i))]) hx hb dX4_spoiled_23 hl (by decide) rfl (fun ls hl => ?_)
      refine lv_aload hx hb dX4_spoiled_25 (lv_at hl 0 rfl) ?_
      refine lv_ifnull hx hb dX4_spoiled_27 ?_
      refine lv_aload hx hb dX4_spoiled_30 (lv_at hl 0 rfl) ?_
      obtain ⟨q_466, hq_466⟩ := xw_at (wr := wr) (cA := cA) (α := α) (L := L) (S := (N, R, Fr, inc)) 9 i (hLk.l i (hC.lt (by decide) hiv))
      refine k_get (v := .int (R 9 i 0)) F hW inX2 rfl q_466 hq_466 rfl 6 (by decide) FL_X4_152 rfl rfl dX4_spoiled_32 ?_
      refine lv_bipush (v := 120) hx hb dX4_spoiled_35 (by decide) ?_
      refine lv_icmp_ne (tgt := 48) hx hb dX4_spoiled_37 (by decide) (fun h_b => ?_) (fun h_b => ?_)
      · have hl := lv_chg hl (show Value.int (wsum R (isBad R) (min i (N 0 1))) = .int (wsum R (isBad R) (min (i + 1) (N 0 1))) from by rw [Nat.min_eq_left (by omega), Nat.min_eq_left (by omega)]; exact congrArg Value.int (show wsum R (isBad R) i = wsum R (isBad R) (i + 1) from by simp [wsum, isBad, h_b])) 2 rfl
        have hl : lv_has ls 6 [(5, .ref (α 9 i)), (0, .ref (α 0 0)), (1, .int (wsum R (isBad R) (min (i + 1) (N 0 1)))), (2, .ref (α 2 0)), (3, .int 20), (4, .int (nI i))] := hl
        refine lv_iinc (k := 5) (lv' := [(4, .int (nI (i + 1))), (5, .ref (α 9 i)), (0, .ref (α 0 0)), (1, .int (wsum R (isBad R) (min (i + 1) (N 0 1)))), (2, .ref (α 2 0)), (3, .int 20)]) hx hb dX4_spoiled_48 hl rfl (nI_1 i) (by decide) rfl (fun ls hl => ?_)
        refine lv_goto (tgt := 13) hx hb dX4_spoiled_51 (by decide) ?_
        exact ih (k - 1) (by omega) ⟨i + 1, by omega, hW, lv_sub hl [2, 3, 4, 5, 0] rfl⟩
      · refine lv_iload_n hx hb dX4_spoiled_40 rfl (lv_at hl 2 rfl) ?_
        refine lv_aload hx hb dX4_spoiled_41 (lv_at hl 0 rfl) ?_
        obtain ⟨q_467, hq_467⟩ := xw_at (wr := wr) (cA := cA) (α := α) (L := L) (S := (N, R, Fr, inc)) 9 i (hLk.l i (hC.lt (by decide) hiv))
        refine k_get (v := .int (R 7 i 0)) F hW inX2 rfl q_467 hq_467 rfl 4 (by decide) FL_X4_149 rfl rfl dX4_spoiled_43 ?_
        refine lv_iadd hx hb dX4_spoiled_46 ?_
        refine lv_topi (fun x_468 ex_468 => ?_)
        obtain rfl : x_468 = wsum R (isBad R) (min (i + 1) (N 0 1)) := ex_468.trans (by rw [Nat.min_eq_left (by omega), Nat.min_eq_left (by omega)]; exact (by simp [wsum, isBad, h_b]))
        refine lv_istore_n (lv' := [(1, .int (wsum R (isBad R) (min (i + 1) (N 0 1)))), (5, .ref (α 9 i)), (0, .ref (α 0 0)), (2, .ref (α 2 0)), (3, .int 20), (4, .int (nI i))]) hx hb dX4_spoiled_47 rfl hl (by decide) rfl (fun ls hl => ?_)
        refine lv_iinc (k := 5) (lv' := [(4, .int (nI (i + 1))), (1, .int (wsum R (isBad R) (min (i + 1) (N 0 1)))), (5, .ref (α 9 i)), (0, .ref (α 0 0)), (2, .ref (α 2 0)), (3, .int 20)]) hx hb dX4_spoiled_48 hl rfl (nI_1 i) (by decide) rfl (fun ls hl => ?_)
        refine lv_goto (tgt := 13) hx hb dX4_spoiled_51 (by decide) ?_
        exact ih (k - 1) (by omega) ⟨i + 1, by omega, hW, lv_sub hl [3, 1, 4, 5, 0] rfl⟩
    · obtain ⟨q_469, hq_469⟩ := xw_at (wr := wr) (cA := cA) (α := α) (L := L) (S := (N, R, Fr, inc)) 2 0 (hLk.o 2 (by decide))
      refine k_aaldN F hW q_469 hq_469 (tI := 7) rfl (vp_in_nI hlt (by decide)) (by rw [nI_clamp (by omega)]; exact if_neg (by rw [hC.2.2.2.2.2.1 1 (by decide)]; exact hiv)) dX4_spoiled_22 ?_
      refine x_astoreQ (r := none) (lv' := [(5, va_rf none), (0, .ref (α 0 0)), (1, .int (wsum R (isBad R) (min i (N 0 1)))), (2, .ref (α 2 0)), (3, .int 20), (4, .int (nI i))]) hx hb dX4_spoiled_23 hl (by decide) rfl (fun ls hl => ?_)
      refine x_aloadQ (r := none) hx hb dX4_spoiled_25 (lv_at hl 0 rfl) ?_
      refine lv_ifnullN (tgt := 48) hx hb dX4_spoiled_27 (by decide) ?_
      rw [show min i (N 0 1) = min (i + 1) (N 0 1) from by rw [Nat.min_eq_right (by omega), Nat.min_eq_right (by omega)]] at hl
      refine lv_iinc (k := 5) (lv' := [(4, .int (nI (i + 1))), (5, va_rf none), (0, .ref (α 0 0)), (1, .int (wsum R (isBad R) (min (i + 1) (N 0 1)))), (2, .ref (α 2 0)), (3, .int 20)]) hx hb dX4_spoiled_48 hl rfl (nI_1 i) (by decide) rfl (fun ls hl => ?_)
      refine lv_goto (tgt := 13) hx hb dX4_spoiled_51 (by decide) ?_
      exact ih (k - 1) (by omega) ⟨i + 1, by omega, hW, lv_sub hl [2, 3, 4, 5, 0] rfl⟩

set_option maxHeartbeats 4000000 in
set_option maxRecDepth 100000 in
theorem met_X4_weightOfAllLots (l : Launch) (D : va_G) (cA : Nat → ClassId) (wr : va_W) (α : Nat → Nat → Nat) (L : List (Nat × Nat)) (N : Nat → Nat → Nat) (R : Nat → Nat → Nat → Int32) (Fr : Nat → UInt32) (inc : Int64) (hLk : LOK N L) (hC : IC N) : MetI l yX4_weightOfAllLots (.code yX4_weightOfAllLots cX4_weightOfAllLots 6 (some .int) :: LW) ({ frames := 0, cells := 0, slots := 0, locals := 0 }) D cA (xWd wr cA α L (N, R, Fr, inc)) [.ref (α 0 0)] (fun r (_ : Unit) => r = wsum R (fun _ => true) (N 0 1)) (fun _ => xWd wr cA α L (N, R, Fr, inc)) 0 0 := by
  refine k_bodyI (plainFor_of_name (by decide)) (Nat.le_of_ble_eq_true rfl) (fun p e s m args below meth c ls F hW hl => ?_)
  obtain ⟨hx, hb, hr, hml, hown, hts, hlocks, hname⟩ := id F
  have hl : lv_has ls 6 [(0, .ref (α 0 0))] := hl
  refine lv_iconst (v := 0) hx hb dX4_weightOfAllLots_0 (by decide) ?_
  refine lv_istore_n (lv' := [(1, .int 0), (0, .ref (α 0 0))]) hx hb dX4_weightOfAllLots_1 rfl hl (by decide) rfl (fun ls hl => ?_)
  refine lv_aload_n hx hb dX4_weightOfAllLots_2 rfl (lv_at hl 1 rfl) ?_
  obtain ⟨q_470, hq_470⟩ := xw_at (wr := wr) (cA := cA) (α := α) (L := L) (S := (N, R, Fr, inc)) 0 0 (hLk.o 0 (by decide))
  refine k_get (v := .ref (α 2 0)) F hW inX4 rfl q_470 hq_470 rfl 1 (by decide) FL_X4_17 rfl rfl dX4_weightOfAllLots_3 ?_
  refine lv_astore_n (lv' := [(2, .ref (α 2 0)), (1, .int 0), (0, .ref (α 0 0))]) hx hb dX4_weightOfAllLots_6 rfl hl (by decide) rfl (fun ls hl => ?_)
  refine lv_aload_n hx hb dX4_weightOfAllLots_7 rfl (lv_at hl 0 rfl) ?_
  obtain ⟨q_471, hq_471⟩ := xw_at (wr := wr) (cA := cA) (α := α) (L := L) (S := (N, R, Fr, inc)) 2 0 (hLk.o 2 (by decide))
  refine k_alen (v := 20) F hW q_471 7 hq_471 rfl rfl dX4_weightOfAllLots_8 ?_
  refine lv_istore_n (lv' := [(3, .int 20), (2, .ref (α 2 0)), (1, .int 0), (0, .ref (α 0 0))]) hx hb dX4_weightOfAllLots_9 rfl hl (by decide) rfl (fun ls hl => ?_)
  refine lv_iconst (v := 0) hx hb dX4_weightOfAllLots_10 (by decide) ?_
  refine lv_istore (lv' := [(4, .int 0), (3, .int 20), (2, .ref (α 2 0)), (1, .int 0), (0, .ref (α 0 0))]) hx hb dX4_weightOfAllLots_11 hl (by decide) rfl (fun ls hl => ?_)
  have hl := lv_chg hl (show Value.int 0 = .int (wsum R (fun _ => true) (min 0 (N 0 1))) from by rw [Nat.zero_min]; rfl) 3 rfl
  have hl : lv_has ls 6 [(4, .int 0), (3, .int 20), (2, .ref (α 2 0)), (1, .int (wsum R (fun _ => true) (min 0 (N 0 1)))), (0, .ref (α 0 0))] := hl
  refine k_ind (P := fun k H locs ls => ∃ i, i + k = 20 ∧ Cw D cA s (va_A (xWd wr cA α L (N, R, Fr, inc)) s.heap.size) (xWd wr cA α L (N, R, Fr, inc)) H locs ∧ lv_has ls 6 [(0, .ref (α 0 0)), (1, .int (wsum R (fun _ => true) (min i (N 0 1)))), (2, .ref (α 2 0)), (3, .int 20), (4, .int (nI i))]) (fun k ih H locs ls hP => ?_) (20) ⟨0, by omega, hW, lv_sub hl [4, 3, 2, 1, 0] rfl⟩
  obtain ⟨i, hi_i, hW, hl⟩ := hP
  refine lv_iload hx hb dX4_weightOfAllLots_13 (lv_at hl 4 rfl) ?_
  refine lv_iload_n hx hb dX4_weightOfAllLots_15 rfl (lv_at hl 3 rfl) ?_
  refine lv_icmp_ge (tgt := 44) hx hb dX4_weightOfAllLots_16 (by decide) (fun h_c => ?_) (fun h_c => ?_)
  · obtain rfl : i = 20 := by have := (nI_leI (b := i) (a := 20) (by omega) (by omega)).mp h_c; omega
    refine lv_iload_n hx hb dX4_weightOfAllLots_44 rfl (lv_at hl 1 rfl) ?_
    exact k_iret () F (hW) (by rw [Nat.min_eq_right (by have := hC; unfold IC at this; omega)]) dX4_weightOfAllLots_45 (Nat.le_of_ble_eq_true rfl) (Nat.le_of_ble_eq_true rfl)
  · have hlt : i < 20 := Nat.lt_of_not_le fun q => h_c (nI_le (a := 20) q (by omega))
    refine lv_aload_n hx hb dX4_weightOfAllLots_19 rfl (lv_at hl 2 rfl) ?_
    refine lv_iload hx hb dX4_weightOfAllLots_20 (lv_at hl 4 rfl) ?_
    by_cases hiv : i < N 0 1
    · obtain ⟨q_472, hq_472⟩ := xw_at (wr := wr) (cA := cA) (α := α) (L := L) (S := (N, R, Fr, inc)) 2 0 (hLk.o 2 (by decide))
      refine k_aaldS (x := (α 9 i)) F hW q_472 hq_472 (tI := 7) rfl (vp_in_nI hlt (by decide)) (by rw [nI_clamp (by omega)]; exact if_pos (hC.lt (by decide) hiv)) dX4_weightOfAllLots_22 ?_
      refine lv_astore (lv' := [(5, .ref (α 9 i)), (0, .ref (α 0 0)), (1, .int (wsum R (fun _ => true) (min i (N 0 1)))), (2, .ref (α 2 0)), (3, .int 20), (4, .int (nI i))]) hx hb dX4_weightOfAllLots_23 hl (by decide) rfl (fun ls hl => ?_)
      refine lv_aload hx hb dX4_weightOfAllLots_25 (lv_at hl 0 rfl) ?_
      refine lv_ifnull hx hb dX4_weightOfAllLots_27 ?_
      refine lv_iload_n hx hb dX4_weightOfAllLots_30 rfl (lv_at hl 2 rfl) ?_
      refine lv_aload hx hb dX4_weightOfAllLots_31 (lv_at hl 0 rfl) ?_
      obtain ⟨q_473, hq_473⟩ := xw_at (wr := wr) (cA := cA) (α := α) (L := L) (S := (N, R, Fr, inc)) 9 i (hLk.l i (hC.lt (by decide) hiv))
      refine k_get (v := .int (R 7 i 0)) F hW inX2 rfl q_473 hq_473 rfl 4 (by decide) FL_X4_149 rfl rfl dX4_weightOfAllLots_33 ?_
      refine lv_iadd hx hb dX4_weightOfAllLots_36 ?_
      refine lv_topi (fun x_474 ex_474 => ?_)
      obtain rfl : x_474 = wsum R (fun _ => true) (min (i + 1) (N 0 1)) := ex_474.trans (by rw [Nat.min_eq_left (by omega), Nat.min_eq_left (by omega)]; exact (by simp [wsum]))
      refine lv_istore_n (lv' := [(1, .int (wsum R (fun _ => true) (min (i + 1) (N 0 1)))), (5, .ref (α 9 i)), (0, .ref (α 0 0)), (2, .ref (α 2 0)), (3, .int 20), (4, .int (nI i))]) hx hb dX4_weightOfAllLots_37 rfl hl (by decide) rfl (fun ls hl => ?_)
      refine lv_iinc (k := 5) (lv' := [(4, .int (nI (i + 1))), (1, .int (wsum R (fun _ => true) (min (i + 1) (N 0 1)))), (5, .ref (α 9 i)), (0, .ref (α 0 0)), (2, .ref (α 2 0)), (3, .int 20)]) hx hb dX4_weightOfAllLots_38 hl rfl (nI_1 i) (by decide) rfl (fun ls hl => ?_)
      refine lv_goto (tgt := 13) hx hb dX4_weightOfAllLots_41 (by decide) ?_
      exact ih (k - 1) (by omega) ⟨i + 1, by omega, hW, lv_sub hl [3, 1, 4, 5, 0] rfl⟩
    · obtain ⟨q_475, hq_475⟩ := xw_at (wr := wr) (cA := cA) (α := α) (L := L) (S := (N, R, Fr, inc)) 2 0 (hLk.o 2 (by decide))
      refine k_aaldN F hW q_475 hq_475 (tI := 7) rfl (vp_in_nI hlt (by decide)) (by rw [nI_clamp (by omega)]; exact if_neg (by rw [hC.2.2.2.2.2.1 1 (by decide)]; exact hiv)) dX4_weightOfAllLots_22 ?_
      refine x_astoreQ (r := none) (lv' := [(5, va_rf none), (0, .ref (α 0 0)), (1, .int (wsum R (fun _ => true) (min i (N 0 1)))), (2, .ref (α 2 0)), (3, .int 20), (4, .int (nI i))]) hx hb dX4_weightOfAllLots_23 hl (by decide) rfl (fun ls hl => ?_)
      refine x_aloadQ (r := none) hx hb dX4_weightOfAllLots_25 (lv_at hl 0 rfl) ?_
      refine lv_ifnullN (tgt := 38) hx hb dX4_weightOfAllLots_27 (by decide) ?_
      rw [show min i (N 0 1) = min (i + 1) (N 0 1) from by rw [Nat.min_eq_right (by omega), Nat.min_eq_right (by omega)]] at hl
      refine lv_iinc (k := 5) (lv' := [(4, .int (nI (i + 1))), (5, va_rf none), (0, .ref (α 0 0)), (1, .int (wsum R (fun _ => true) (min (i + 1) (N 0 1)))), (2, .ref (α 2 0)), (3, .int 20)]) hx hb dX4_weightOfAllLots_38 hl rfl (nI_1 i) (by decide) rfl (fun ls hl => ?_)
      refine lv_goto (tgt := 13) hx hb dX4_weightOfAllLots_41 (by decide) ?_
      exact ih (k - 1) (by omega) ⟨i + 1, by omega, hW, lv_sub hl [2, 3, 4, 5, 0] rfl⟩

set_option maxHeartbeats 4000000 in
set_option maxRecDepth 100000 in
theorem met_X4_weightOfSoldLots (l : Launch) (D : va_G) (cA : Nat → ClassId) (wr : va_W) (α : Nat → Nat → Nat) (L : List (Nat × Nat)) (N : Nat → Nat → Nat) (R : Nat → Nat → Nat → Int32) (Fr : Nat → UInt32) (inc : Int64) (hLk : LOK N L) (hC : IC N) : MetI l yX4_weightOfSoldLots (.code yX4_weightOfSoldLots cX4_weightOfSoldLots 6 (some .int) :: LW) ({ frames := 1, cells := 0, slots := 0, locals := 20 }) D cA (xWd wr cA α L (N, R, Fr, inc)) [.ref (α 0 0)] (fun r (_ : Unit) => r = wsum R (isSold R) (N 0 1)) (fun _ => xWd wr cA α L (N, R, Fr, inc)) 0 0 := by
  refine k_bodyI (plainFor_of_name (by decide)) (Nat.le_of_ble_eq_true rfl) (fun p e s m args below meth c ls F hW hl => ?_)
  obtain ⟨hx, hb, hr, hml, hown, hts, hlocks, hname⟩ := id F
  have hl : lv_has ls 6 [(0, .ref (α 0 0))] := hl
  refine lv_iconst (v := 0) hx hb dX4_weightOfSoldLots_0 (by decide) ?_
  refine lv_istore_n (lv' := [(1, .int 0), (0, .ref (α 0 0))]) hx hb dX4_weightOfSoldLots_1 rfl hl (by decide) rfl (fun ls hl => ?_)
  refine lv_aload_n hx hb dX4_weightOfSoldLots_2 rfl (lv_at hl 1 rfl) ?_
  obtain ⟨q_476, hq_476⟩ := xw_at (wr := wr) (cA := cA) (α := α) (L := L) (S := (N, R, Fr, inc)) 0 0 (hLk.o 0 (by decide))
  refine k_get (v := .ref (α 2 0)) F hW inX4 rfl q_476 hq_476 rfl 1 (by decide) FL_X4_17 rfl rfl dX4_weightOfSoldLots_3 ?_
  refine lv_astore_n (lv' := [(2, .ref (α 2 0)), (1, .int 0), (0, .ref (α 0 0))]) hx hb dX4_weightOfSoldLots_6 rfl hl (by decide) rfl (fun ls hl => ?_)
  refine lv_aload_n hx hb dX4_weightOfSoldLots_7 rfl (lv_at hl 0 rfl) ?_
  obtain ⟨q_477, hq_477⟩ := xw_at (wr := wr) (cA := cA) (α := α) (L := L) (S := (N, R, Fr, inc)) 2 0 (hLk.o 2 (by decide))
  refine k_alen (v := 20) F hW q_477 7 hq_477 rfl rfl dX4_weightOfSoldLots_8 ?_
  refine lv_istore_n (lv' := [(3, .int 20), (2, .ref (α 2 0)), (1, .int 0), (0, .ref (α 0 0))]) hx hb dX4_weightOfSoldLots_9 rfl hl (by decide) rfl (fun ls hl => ?_)
  refine lv_iconst (v := 0) hx hb dX4_weightOfSoldLots_10 (by decide) ?_
  refine lv_istore (lv' := [(4, .int 0), (3, .int 20), (2, .ref (α 2 0)), (1, .int 0), (0, .ref (α 0 0))]) hx hb dX4_weightOfSoldLots_11 hl (by decide) rfl (fun ls hl => ?_)
  have hl := lv_chg hl (show Value.int 0 = .int (wsum R (isSold R) (min 0 (N 0 1))) from by rw [Nat.zero_min]; rfl) 3 rfl
  have hl : lv_has ls 6 [(4, .int 0), (3, .int 20), (2, .ref (α 2 0)), (1, .int (wsum R (isSold R) (min 0 (N 0 1)))), (0, .ref (α 0 0))] := hl
  refine k_ind (P := fun k H locs ls => ∃ i, i + k = 20 ∧ Cw D cA s (va_A (xWd wr cA α L (N, R, Fr, inc)) s.heap.size) (xWd wr cA α L (N, R, Fr, inc)) H locs ∧ lv_has ls 6 [(0, .ref (α 0 0)), (1, .int (wsum R (isSold R) (min i (N 0 1)))), (2, .ref (α 2 0)), (3, .int 20), (4, .int (nI i))]) (fun k ih H locs ls hP => ?_) (20) ⟨0, by omega, hW, lv_sub hl [4, 3, 2, 1, 0] rfl⟩
  obtain ⟨i, hi_i, hW, hl⟩ := hP
  refine lv_iload hx hb dX4_weightOfSoldLots_13 (lv_at hl 4 rfl) ?_
  refine lv_iload_n hx hb dX4_weightOfSoldLots_15 rfl (lv_at hl 3 rfl) ?_
  refine lv_icmp_ge (tgt := 52) hx hb dX4_weightOfSoldLots_16 (by decide) (fun h_c => ?_) (fun h_c => ?_)
  · obtain rfl : i = 20 := by have := (nI_leI (b := i) (a := 20) (by omega) (by omega)).mp h_c; omega
    refine lv_iload_n hx hb dX4_weightOfSoldLots_52 rfl (lv_at hl 1 rfl) ?_
    exact k_iret () F (hW) (by rw [Nat.min_eq_right (by have := hC; unfold IC at this; omega)]) dX4_weightOfSoldLots_53 (Nat.le_of_ble_eq_true rfl) (Nat.le_of_ble_eq_true rfl)
  · have hlt : i < 20 := Nat.lt_of_not_le fun q => h_c (nI_le (a := 20) q (by omega))
    refine lv_aload_n hx hb dX4_weightOfSoldLots_19 rfl (lv_at hl 2 rfl) ?_
    refine lv_iload hx hb dX4_weightOfSoldLots_20 (lv_at hl 4 rfl) ?_
    by_cases hiv : i < N 0 1
    · obtain ⟨q_478, hq_478⟩ := xw_at (wr := wr) (cA := cA) (α := α) (L := L) (S := (N, R, Fr, inc)) 2 0 (hLk.o 2 (by decide))
      refine k_aaldS (x := (α 9 i)) F hW q_478 hq_478 (tI := 7) rfl (vp_in_nI hlt (by decide)) (by rw [nI_clamp (by omega)]; exact if_pos (hC.lt (by decide) hiv)) dX4_weightOfSoldLots_22 ?_
      refine lv_astore (lv' := [(5, .ref (α 9 i)), (0, .ref (α 0 0)), (1, .int (wsum R (isSold R) (min i (N 0 1)))), (2, .ref (α 2 0)), (3, .int 20), (4, .int (nI i))]) hx hb dX4_weightOfSoldLots_23 hl (by decide) rfl (fun ls hl => ?_)
      refine lv_aload hx hb dX4_weightOfSoldLots_25 (lv_at hl 0 rfl) ?_
      refine lv_ifnull hx hb dX4_weightOfSoldLots_27 ?_
      refine lv_aload hx hb dX4_weightOfSoldLots_30 (lv_at hl 0 rfl) ?_
      obtain ⟨q_479, hq_479⟩ := xw_at (wr := wr) (cA := cA) (α := α) (L := L) (S := (N, R, Fr, inc)) 9 i (hLk.l i (hC.lt (by decide) hiv))
      refine k_callVi (as := []) (rest := []) (b := (α 9 i)) (ci := 4) (q0 := q_479) F hW (met_X2_wasSold l D cA wr α L N R Fr inc i hLk (hC.lt (by decide) hiv)) rfl ML_X4_344 IM_X2_wasSold SE_X2_wasSold IN_X2 CO_X2_wasSold hdV_X2_wasSold rfl rfl ⟨(Nat.le_of_ble_eq_true rfl), (Nat.le_of_ble_eq_true rfl)⟩ rfl rfl (hq_479) rfl rfl hl.1 (Nat.le_of_ble_eq_true rfl) dX4_weightOfSoldLots_32 ⟨(Nat.le_of_ble_eq_true rfl), (Nat.le_of_ble_eq_true rfl)⟩ (fun r_480 u H locs hw hW => ?_)
      subst hw
      cases hs : isSold R i
      · refine lv_if_eq (tgt := 46) hx hb dX4_weightOfSoldLots_35 (by decide) (fun _ => ?_) (fun h => absurd (by decide) h)
        have hl := lv_chg hl (show Value.int (wsum R (isSold R) (min i (N 0 1))) = .int (wsum R (isSold R) (min (i + 1) (N 0 1))) from by rw [Nat.min_eq_left (by omega), Nat.min_eq_left (by omega)]; exact congrArg Value.int (show wsum R (isSold R) i = wsum R (isSold R) (i + 1) from by simp [wsum, hs])) 2 rfl
        have hl : lv_has ls 6 [(5, .ref (α 9 i)), (0, .ref (α 0 0)), (1, .int (wsum R (isSold R) (min (i + 1) (N 0 1)))), (2, .ref (α 2 0)), (3, .int 20), (4, .int (nI i))] := hl
        refine lv_iinc (k := 5) (lv' := [(4, .int (nI (i + 1))), (5, .ref (α 9 i)), (0, .ref (α 0 0)), (1, .int (wsum R (isSold R) (min (i + 1) (N 0 1)))), (2, .ref (α 2 0)), (3, .int 20)]) hx hb dX4_weightOfSoldLots_46 hl rfl (nI_1 i) (by decide) rfl (fun ls hl => ?_)
        refine lv_goto (tgt := 13) hx hb dX4_weightOfSoldLots_49 (by decide) ?_
        exact ih (k - 1) (by omega) ⟨i + 1, by omega, hW, lv_sub hl [2, 3, 4, 5, 0] rfl⟩
      · refine lv_if_eq (tgt := 46) hx hb dX4_weightOfSoldLots_35 (by decide) (fun h => absurd h (by decide)) (fun _ => ?_)
        refine lv_iload_n hx hb dX4_weightOfSoldLots_38 rfl (lv_at hl 2 rfl) ?_
        refine lv_aload hx hb dX4_weightOfSoldLots_39 (lv_at hl 0 rfl) ?_
        obtain ⟨q_481, hq_481⟩ := xw_at (wr := wr) (cA := cA) (α := α) (L := L) (S := (N, R, Fr, inc)) 9 i (hLk.l i (hC.lt (by decide) hiv))
        refine k_get (v := .int (R 7 i 0)) F hW inX2 rfl q_481 hq_481 rfl 4 (by decide) FL_X4_149 rfl rfl dX4_weightOfSoldLots_41 ?_
        refine lv_iadd hx hb dX4_weightOfSoldLots_44 ?_
        refine lv_topi (fun x_482 ex_482 => ?_)
        obtain rfl : x_482 = wsum R (isSold R) (min (i + 1) (N 0 1)) := ex_482.trans (by rw [Nat.min_eq_left (by omega), Nat.min_eq_left (by omega)]; exact (by simp [wsum, hs]))
        refine lv_istore_n (lv' := [(1, .int (wsum R (isSold R) (min (i + 1) (N 0 1)))), (5, .ref (α 9 i)), (0, .ref (α 0 0)), (2, .ref (α 2 0)), (3, .int 20), (4, .int (nI i))]) hx hb dX4_weightOfSoldLots_45 rfl hl (by decide) rfl (fun ls hl => ?_)
        refine lv_iinc (k := 5) (lv' := [(4, .int (nI (i + 1))), (1, .int (wsum R (isSold R) (min (i + 1) (N 0 1)))), (5, .ref (α 9 i)), (0, .ref (α 0 0)), (2, .ref (α 2 0)), (3, .int 20)]) hx hb dX4_weightOfSoldLots_46 hl rfl (nI_1 i) (by decide) rfl (fun ls hl => ?_)
        refine lv_goto (tgt := 13) hx hb dX4_weightOfSoldLots_49 (by decide) ?_
        exact ih (k - 1) (by omega) ⟨i + 1, by omega, hW, lv_sub hl [3, 1, 4, 5, 0] rfl⟩
    · obtain ⟨q_483, hq_483⟩ := xw_at (wr := wr) (cA := cA) (α := α) (L := L) (S := (N, R, Fr, inc)) 2 0 (hLk.o 2 (by decide))
      refine k_aaldN F hW q_483 hq_483 (tI := 7) rfl (vp_in_nI hlt (by decide)) (by rw [nI_clamp (by omega)]; exact if_neg (by rw [hC.2.2.2.2.2.1 1 (by decide)]; exact hiv)) dX4_weightOfSoldLots_22 ?_
      refine x_astoreQ (r := none) (lv' := [(5, va_rf none), (0, .ref (α 0 0)), (1, .int (wsum R (isSold R) (min i (N 0 1)))), (2, .ref (α 2 0)), (3, .int 20), (4, .int (nI i))]) hx hb dX4_weightOfSoldLots_23 hl (by decide) rfl (fun ls hl => ?_)
      refine x_aloadQ (r := none) hx hb dX4_weightOfSoldLots_25 (lv_at hl 0 rfl) ?_
      refine lv_ifnullN (tgt := 46) hx hb dX4_weightOfSoldLots_27 (by decide) ?_
      rw [show min i (N 0 1) = min (i + 1) (N 0 1) from by rw [Nat.min_eq_right (by omega), Nat.min_eq_right (by omega)]] at hl
      refine lv_iinc (k := 5) (lv' := [(4, .int (nI (i + 1))), (5, va_rf none), (0, .ref (α 0 0)), (1, .int (wsum R (isSold R) (min (i + 1) (N 0 1)))), (2, .ref (α 2 0)), (3, .int 20)]) hx hb dX4_weightOfSoldLots_46 hl rfl (nI_1 i) (by decide) rfl (fun ls hl => ?_)
      refine lv_goto (tgt := 13) hx hb dX4_weightOfSoldLots_49 (by decide) ?_
      exact ih (k - 1) (by omega) ⟨i + 1, by omega, hW, lv_sub hl [2, 3, 4, 5, 0] rfl⟩

set_option maxHeartbeats 4000000 in
set_option maxRecDepth 100000 in
theorem met_X4_landedBy (l : Launch) (D : va_G) (cA : Nat → ClassId) (wr : va_W) (α : Nat → Nat → Nat) (L : List (Nat × Nat)) (N : Nat → Nat → Nat) (R : Nat → Nat → Nat → Int32) (Fr : Nat → UInt32) (inc : Int64) (b : Nat) (q : Int32) (hLk : LOK N L) (hC : IC N) (hb5 : b < N 2 0) : MetI l yX4_landedBy (.code yX4_landedBy cX4_landedBy 8 (some .int) :: LW) ({ frames := 0, cells := 0, slots := 0, locals := 0 }) D cA (xWd wr cA α L (N, R, Fr, inc)) [.ref (α 0 0), .ref (α 5 b), .int q] (fun r (_ : Unit) => r = wsum R (byB R b q) (N 0 1)) (fun _ => xWd wr cA α L (N, R, Fr, inc)) 0 0 := by
  refine k_bodyI (plainFor_of_name (by decide)) (Nat.le_of_ble_eq_true rfl) (fun p e s m args below meth c ls F hW hl => ?_)
  obtain ⟨hx, hb, hr, hml, hown, hts, hlocks, hname⟩ := id F
  have hl : lv_has ls 8 [(0, .ref (α 0 0)), (1, .ref (α 5 b)), (2, .int q)] := hl
  refine lv_iconst (v := 0) hx hb dX4_landedBy_0 (by decide) ?_
  refine lv_istore_n (lv' := [(3, .int 0), (0, .ref (α 0 0)), (1, .ref (α 5 b)), (2, .int q)]) hx hb dX4_landedBy_1 rfl hl (by decide) rfl (fun ls hl => ?_)
  refine lv_aload_n hx hb dX4_landedBy_2 rfl (lv_at hl 1 rfl) ?_
  obtain ⟨q_484, hq_484⟩ := xw_at (wr := wr) (cA := cA) (α := α) (L := L) (S := (N, R, Fr, inc)) 0 0 (hLk.o 0 (by decide))
  refine k_get (v := .ref (α 2 0)) F hW inX4 rfl q_484 hq_484 rfl 1 (by decide) FL_X4_17 rfl rfl dX4_landedBy_3 ?_
  refine lv_astore (lv' := [(4, .ref (α 2 0)), (3, .int 0), (0, .ref (α 0 0)), (1, .ref (α 5 b)), (2, .int q)]) hx hb dX4_landedBy_6 hl (by decide) rfl (fun ls hl => ?_)
  refine lv_aload hx hb dX4_landedBy_8 (lv_at hl 0 rfl) ?_
  obtain ⟨q_485, hq_485⟩ := xw_at (wr := wr) (cA := cA) (α := α) (L := L) (S := (N, R, Fr, inc)) 2 0 (hLk.o 2 (by decide))
  refine k_alen (v := 20) F hW q_485 7 hq_485 rfl rfl dX4_landedBy_10 ?_
  refine lv_istore (lv' := [(5, .int 20), (4, .ref (α 2 0)), (3, .int 0), (0, .ref (α 0 0)), (1, .ref (α 5 b)), (2, .int q)]) hx hb dX4_landedBy_11 hl (by decide) rfl (fun ls hl => ?_)
  refine lv_iconst (v := 0) hx hb dX4_landedBy_13 (by decide) ?_
  refine lv_istore (lv' := [(6, .int 0), (5, .int 20), (4, .ref (α 2 0)), (3, .int 0), (0, .ref (α 0 0)), (1, .ref (α 5 b)), (2, .int q)]) hx hb dX4_landedBy_14 hl (by decide) rfl (fun ls hl => ?_)
  have hl := lv_chg hl (show Value.int 0 = .int (wsum R (byB R b q) (min 0 (N 0 1))) from by rw [Nat.zero_min]; rfl) 3 rfl
  have hl : lv_has ls 8 [(6, .int 0), (5, .int 20), (4, .ref (α 2 0)), (3, .int (wsum R (byB R b q) (min 0 (N 0 1)))), (0, .ref (α 0 0)), (1, .ref (α 5 b)), (2, .int q)] := hl
  refine k_ind (P := fun k H locs ls => ∃ i, i + k = 20 ∧ Cw D cA s (va_A (xWd wr cA α L (N, R, Fr, inc)) s.heap.size) (xWd wr cA α L (N, R, Fr, inc)) H locs ∧ lv_has ls 8 [(0, .ref (α 0 0)), (1, .ref (α 5 b)), (2, .int q), (3, .int (wsum R (byB R b q) (min i (N 0 1)))), (4, .ref (α 2 0)), (5, .int 20), (6, .int (nI i))]) (fun k ih H locs ls hP => ?_) (20) ⟨0, by omega, hW, lv_sub hl [4, 5, 6, 3, 2, 1, 0] rfl⟩
  obtain ⟨i, hi_i, hW, hl⟩ := hP
  refine lv_iload hx hb dX4_landedBy_16 (lv_at hl 6 rfl) ?_
  refine lv_iload hx hb dX4_landedBy_18 (lv_at hl 5 rfl) ?_
  refine lv_icmp_ge (tgt := 70) hx hb dX4_landedBy_20 (by decide) (fun h_c => ?_) (fun h_c => ?_)
  · obtain rfl : i = 20 := by have := (nI_leI (b := i) (a := 20) (by omega) (by omega)).mp h_c; omega
    refine lv_iload_n hx hb dX4_landedBy_70 rfl (lv_at hl 3 rfl) ?_
    exact k_iret () F (hW) (by rw [Nat.min_eq_right (by have := hC; unfold IC at this; omega)]) dX4_landedBy_71 (Nat.le_of_ble_eq_true rfl) (Nat.le_of_ble_eq_true rfl)
  · have hlt : i < 20 := Nat.lt_of_not_le fun q => h_c (nI_le (a := 20) q (by omega))
    refine lv_aload hx hb dX4_landedBy_23 (lv_at hl 4 rfl) ?_
    refine lv_iload hx hb dX4_landedBy_25 (lv_at hl 6 rfl) ?_
    by_cases hiv : i < N 0 1
    · obtain ⟨q_486, hq_486⟩ := xw_at (wr := wr) (cA := cA) (α := α) (L := L) (S := (N, R, Fr, inc)) 2 0 (hLk.o 2 (by decide))
      refine k_aaldS (x := (α 9 i)) F hW q_486 hq_486 (tI := 7) rfl (vp_in_nI hlt (by decide)) (by rw [nI_clamp (by omega)]; exact if_pos (hC.lt (by decide) hiv)) dX4_landedBy_27 ?_
      refine lv_astore (lv' := [(7, .ref (α 9 i)), (0, .ref (α 0 0)), (1, .ref (α 5 b)), (2, .int q), (3, .int (wsum R (byB R b q) (min i (N 0 1)))), (4, .ref (α 2 0)), (5, .int 20), (6, .int (nI i))]) hx hb dX4_landedBy_28 hl (by decide) rfl (fun ls hl => ?_)
      refine lv_aload hx hb dX4_landedBy_30 (lv_at hl 0 rfl) ?_
      refine lv_ifnull hx hb dX4_landedBy_32 ?_
      refine lv_aload hx hb dX4_landedBy_35 (lv_at hl 0 rfl) ?_
      obtain ⟨q_487, hq_487⟩ := xw_at (wr := wr) (cA := cA) (α := α) (L := L) (S := (N, R, Fr, inc)) 9 i (hLk.l i (hC.lt (by decide) hiv))
      refine k_get (v := .int (R 4 i 0)) F hW inX2 rfl q_487 hq_487 rfl 1 (by decide) FL_X4_360 rfl rfl dX4_landedBy_37 ?_
      refine lv_aload_n hx hb dX4_landedBy_40 rfl (lv_at hl 2 rfl) ?_
      obtain ⟨q_488, hq_488⟩ := xw_at (wr := wr) (cA := cA) (α := α) (L := L) (S := (N, R, Fr, inc)) 5 b (hLk.b 5 b (by decide) hb5)
      refine k_get (v := .int (nI b)) F hW inX0 rfl q_488 hq_488 rfl 0 (by decide) FL_X4_363 rfl rfl dX4_landedBy_41 ?_
      refine lv_icmp_ne (tgt := 64) hx hb dX4_landedBy_44 (by decide) (fun h_1 => ?_) (fun h_1 => ?_)
      · have hl := lv_chg hl (show Value.int (wsum R (byB R b q) (min i (N 0 1))) = .int (wsum R (byB R b q) (min (i + 1) (N 0 1))) from by rw [Nat.min_eq_left (by omega), Nat.min_eq_left (by omega)]; exact congrArg Value.int (show wsum R (byB R b q) i = wsum R (byB R b q) (i + 1) from by simp [wsum, byB, h_1])) 4 rfl
        have hl : lv_has ls 8 [(7, .ref (α 9 i)), (0, .ref (α 0 0)), (1, .ref (α 5 b)), (2, .int q), (3, .int (wsum R (byB R b q) (min (i + 1) (N 0 1)))), (4, .ref (α 2 0)), (5, .int 20), (6, .int (nI i))] := hl
        refine lv_iinc (k := 7) (lv' := [(6, .int (nI (i + 1))), (7, .ref (α 9 i)), (0, .ref (α 0 0)), (1, .ref (α 5 b)), (2, .int q), (3, .int (wsum R (byB R b q) (min (i + 1) (N 0 1)))), (4, .ref (α 2 0)), (5, .int 20)]) hx hb dX4_landedBy_64 hl rfl (nI_1 i) (by decide) rfl (fun ls hl => ?_)
        refine lv_goto (tgt := 16) hx hb dX4_landedBy_67 (by decide) ?_
        exact ih (k - 1) (by omega) ⟨i + 1, by omega, hW, lv_sub hl [2, 3, 4, 5, 6, 7, 0] rfl⟩
      · refine lv_aload hx hb dX4_landedBy_47 (lv_at hl 0 rfl) ?_
        obtain ⟨q_489, hq_489⟩ := xw_at (wr := wr) (cA := cA) (α := α) (L := L) (S := (N, R, Fr, inc)) 9 i (hLk.l i (hC.lt (by decide) hiv))
        refine k_get (v := .int (R 5 i 0)) F hW inX2 rfl q_489 hq_489 rfl 2 (by decide) FL_X4_364 rfl rfl dX4_landedBy_49 ?_
        refine lv_iload_n hx hb dX4_landedBy_52 rfl (lv_at hl 3 rfl) ?_
        refine lv_icmp_ne (tgt := 64) hx hb dX4_landedBy_53 (by decide) (fun h_2 => ?_) (fun h_2 => ?_)
        · have hl := lv_chg hl (show Value.int (wsum R (byB R b q) (min i (N 0 1))) = .int (wsum R (byB R b q) (min (i + 1) (N 0 1))) from by rw [Nat.min_eq_left (by omega), Nat.min_eq_left (by omega)]; exact congrArg Value.int (show wsum R (byB R b q) i = wsum R (byB R b q) (i + 1) from by simp [wsum, byB, h_2])) 4 rfl
          have hl : lv_has ls 8 [(7, .ref (α 9 i)), (0, .ref (α 0 0)), (1, .ref (α 5 b)), (2, .int q), (3, .int (wsum R (byB R b q) (min (i + 1) (N 0 1)))), (4, .ref (α 2 0)), (5, .int 20), (6, .int (nI i))] := hl
          refine lv_iinc (k := 7) (lv' := [(6, .int (nI (i + 1))), (7, .ref (α 9 i)), (0, .ref (α 0 0)), (1, .ref (α 5 b)), (2, .int q), (3, .int (wsum R (byB R b q) (min (i + 1) (N 0 1)))), (4, .ref (α 2 0)), (5, .int 20)]) hx hb dX4_landedBy_64 hl rfl (nI_1 i) (by decide) rfl (fun ls hl => ?_)
          refine lv_goto (tgt := 16) hx hb dX4_landedBy_67 (by decide) ?_
          exact ih (k - 1) (by omega) ⟨i + 1, by omega, hW, lv_sub hl [2, 3, 4, 5, 6, 7, 0] rfl⟩
        · refine lv_iload_n hx hb dX4_landedBy_56 rfl (lv_at hl 4 rfl) ?_
          refine lv_aload hx hb dX4_landedBy_57 (lv_at hl 0 rfl) ?_
          obtain ⟨q_490, hq_490⟩ := xw_at (wr := wr) (cA := cA) (α := α) (L := L) (S := (N, R, Fr, inc)) 9 i (hLk.l i (hC.lt (by decide) hiv))
          refine k_get (v := .int (R 7 i 0)) F hW inX2 rfl q_490 hq_490 rfl 4 (by decide) FL_X4_149 rfl rfl dX4_landedBy_59 ?_
          refine lv_iadd hx hb dX4_landedBy_62 ?_
          refine lv_topi (fun x_491 ex_491 => ?_)
          obtain rfl : x_491 = wsum R (byB R b q) (min (i + 1) (N 0 1)) := ex_491.trans (by rw [Nat.min_eq_left (by omega), Nat.min_eq_left (by omega)]; exact (by simp [wsum, byB, h_1, h_2]))
          refine lv_istore_n (lv' := [(3, .int (wsum R (byB R b q) (min (i + 1) (N 0 1)))), (7, .ref (α 9 i)), (0, .ref (α 0 0)), (1, .ref (α 5 b)), (2, .int q), (4, .ref (α 2 0)), (5, .int 20), (6, .int (nI i))]) hx hb dX4_landedBy_63 rfl hl (by decide) rfl (fun ls hl => ?_)
          refine lv_iinc (k := 7) (lv' := [(6, .int (nI (i + 1))), (3, .int (wsum R (byB R b q) (min (i + 1) (N 0 1)))), (7, .ref (α 9 i)), (0, .ref (α 0 0)), (1, .ref (α 5 b)), (2, .int q), (4, .ref (α 2 0)), (5, .int 20)]) hx hb dX4_landedBy_64 hl rfl (nI_1 i) (by decide) rfl (fun ls hl => ?_)
          refine lv_goto (tgt := 16) hx hb dX4_landedBy_67 (by decide) ?_
          exact ih (k - 1) (by omega) ⟨i + 1, by omega, hW, lv_sub hl [3, 4, 5, 1, 6, 7, 0] rfl⟩
    · obtain ⟨q_492, hq_492⟩ := xw_at (wr := wr) (cA := cA) (α := α) (L := L) (S := (N, R, Fr, inc)) 2 0 (hLk.o 2 (by decide))
      refine k_aaldN F hW q_492 hq_492 (tI := 7) rfl (vp_in_nI hlt (by decide)) (by rw [nI_clamp (by omega)]; exact if_neg (by rw [hC.2.2.2.2.2.1 1 (by decide)]; exact hiv)) dX4_landedBy_27 ?_
      refine x_astoreQ (r := none) (lv' := [(7, va_rf none), (0, .ref (α 0 0)), (1, .ref (α 5 b)), (2, .int q), (3, .int (wsum R (byB R b q) (min i (N 0 1)))), (4, .ref (α 2 0)), (5, .int 20), (6, .int (nI i))]) hx hb dX4_landedBy_28 hl (by decide) rfl (fun ls hl => ?_)
      refine x_aloadQ (r := none) hx hb dX4_landedBy_30 (lv_at hl 0 rfl) ?_
      refine lv_ifnullN (tgt := 64) hx hb dX4_landedBy_32 (by decide) ?_
      rw [show min i (N 0 1) = min (i + 1) (N 0 1) from by rw [Nat.min_eq_right (by omega), Nat.min_eq_right (by omega)]] at hl
      refine lv_iinc (k := 7) (lv' := [(6, .int (nI (i + 1))), (7, va_rf none), (0, .ref (α 0 0)), (1, .ref (α 5 b)), (2, .int q), (3, .int (wsum R (byB R b q) (min (i + 1) (N 0 1)))), (4, .ref (α 2 0)), (5, .int 20)]) hx hb dX4_landedBy_64 hl rfl (nI_1 i) (by decide) rfl (fun ls hl => ?_)
      refine lv_goto (tgt := 16) hx hb dX4_landedBy_67 (by decide) ?_
      exact ih (k - 1) (by omega) ⟨i + 1, by omega, hW, lv_sub hl [2, 3, 4, 5, 6, 7, 0] rfl⟩

set_option maxHeartbeats 4000000 in
set_option maxRecDepth 100000 in
theorem met_X4_soldShare (l : Launch) (D : va_G) (cA : Nat → ClassId) (wr : va_W) (α : Nat → Nat → Nat) (L : List (Nat × Nat)) (N : Nat → Nat → Nat) (R : Nat → Nat → Nat → Int32) (Fr : Nat → UInt32) (inc : Int64) (z0 : Nat) (hl0 : l.stackTraces = false) (hLk : LOK N L) (hC : IC N) (hL : ∀ j, j < N 0 1 → lotOK R Fr j) : MetXF z0 l yX4_soldShare (.code yX4_soldShare cX4_soldShare 2 (some .float) :: LW) ({ frames := 6, cells := 1, slots := 6, locals := 90 }) D cA (xWd wr cA α L (N, R, Fr, inc)) [.ref (α 0 0)] (fun r (_ : Unit) => (op_soldShare (N, R, Fr, inc)).1 = 0 ∧ r = (op_soldShare (N, R, Fr, inc)).2.1) (fun _ => xWd wr cA α L (op_soldShare (N, R, Fr, inc)).2.2) (fun E => ¬ (op_soldShare (N, R, Fr, inc)).1 = 0 ∧ E = exOf ["java/lang/ArithmeticException"] (op_soldShare (N, R, Fr, inc)).1) 1 6 := by
  refine k_bodyX hl0 (by decide) (Nat.le_of_ble_eq_true rfl) (fun p e s m args below meth c ls F G hW hl => ?_)
  obtain ⟨hx, hb, hr, hml, hown, hts, hlocks, hname⟩ := id F
  have hl : lv_has ls 2 [(0, .ref (α 0 0))] := hl
  refine lv_aload_n hx hb dX4_soldShare_0 rfl (lv_at hl 0 rfl) ?_
  obtain ⟨q_493, hq_493⟩ := xw_at (wr := wr) (cA := cA) (α := α) (L := L) (S := (N, R, Fr, inc)) 0 0 (hLk.o 0 (by decide))
  refine k_callVi (as := []) (rest := []) (b := (α 0 0)) (ci := 6) (q0 := q_493) F hW (met_X4_weightOfAllLots l D cA wr α L N R Fr inc hLk hC) rfl ML_X4_282 IM_X4_weightOfAllLots SE_X4_weightOfAllLots IN_X4 CO_X4_weightOfAllLots hdV_X4_weightOfAllLots rfl rfl ⟨(Nat.le_of_ble_eq_true rfl), (Nat.le_of_ble_eq_true rfl)⟩ rfl rfl (hq_493) rfl rfl hl.1 (Nat.le_of_ble_eq_true rfl) dX4_soldShare_1 ⟨(Nat.le_of_ble_eq_true rfl), (Nat.le_of_ble_eq_true rfl)⟩ (fun r_494 u H locs hw hW => ?_)
  subst hw
  refine lv_istore_n (lv' := [(1, .int (wsum R (fun _ => true) (N 0 1))), (0, .ref (α 0 0))]) hx hb dX4_soldShare_4 rfl hl (by decide) rfl (fun ls hl => ?_)
  refine lv_iload_n hx hb dX4_soldShare_5 rfl (lv_at hl 0 rfl) ?_
  refine lv_if_ne (tgt := 20) hx hb dX4_soldShare_6 (by decide) (fun h_w => ?_) (fun h_w => ?_)
  · have h_n : ¬ N 0 1 = 0 := fun q => h_w (by rw [q]; rfl)
    refine lv_aload_n hx hb dX4_soldShare_20 rfl (lv_at hl 1 rfl) ?_
    obtain ⟨q_495, hq_495⟩ := xw_at (wr := wr) (cA := cA) (α := α) (L := L) (S := (N, R, Fr, inc)) 0 0 (hLk.o 0 (by decide))
    refine k_callVi (as := []) (rest := []) (b := (α 0 0)) (ci := 6) (q0 := q_495) F hW (met_X4_weightOfSoldLots l D cA wr α L N R Fr inc hLk hC) rfl ML_X4_290 IM_X4_weightOfSoldLots SE_X4_weightOfSoldLots IN_X4 CO_X4_weightOfSoldLots hdV_X4_weightOfSoldLots rfl rfl ⟨(Nat.le_of_ble_eq_true rfl), (Nat.le_of_ble_eq_true rfl)⟩ rfl rfl (hq_495) rfl rfl hl.1 (Nat.le_of_ble_eq_true rfl) dX4_soldShare_21 ⟨(Nat.le_of_ble_eq_true rfl), (Nat.le_of_ble_eq_true rfl)⟩ (fun r_496 u H locs hw hW => ?_)
    subst hw
    refine lv_i2f hx hb dX4_soldShare_24 ?_
    refine lv_iload_n hx hb dX4_soldShare_25 rfl (lv_at hl 0 rfl) ?_
    refine lv_i2f hx hb dX4_soldShare_26 ?_
    refine lv_fdiv hx hb dX4_soldShare_27 (nn_share _ h_w) ?_
    have hop : op_soldShare (N, R, Fr, inc) = (0, FP.fdiv (FP.i2f (wsum R (isSold R) (N 0 1))) (FP.i2f (wsum R (fun _ => true) (N 0 1))), (N, R, Fr, inc)) := if_neg h_n
    refine vx_ret ?_
    exact k_fret () F (hW.eq (by rw [hop])) (⟨by rw [hop], by rw [hop]⟩) dX4_soldShare_28 (Nat.le_of_ble_eq_true rfl) (Nat.le_of_ble_eq_true rfl)
  · have h_n : N 0 1 = 0 := Decidable.byContradiction fun q => wsum_nz (fun j hj => (hL j hj).2.2.1) q (by have := hC; unfold IC at this; omega) h_w
    have hop : op_soldShare (N, R, Fr, inc) = (1, 0, (N, R, Fr, inc)) := if_pos h_n
    exact k_throwSW F G hW rfl (by decide) CL_X4_285 IN_E_ArithmeticException (List.mem_of_getElem? (i := 23) rfl) hat_Arithmetic good_Arithmetic hl.1 (Nat.le_of_ble_eq_true rfl) dX4_soldShare_9 dX4_soldShare_12 dX4_soldShare_13 dX4_soldShare_16 dX4_soldShare_19 (⟨by rw [hop]; exact Nat.succ_ne_zero _, by rw [hop]; rfl⟩) ⟨(Nat.le_of_ble_eq_true rfl), (Nat.le_of_ble_eq_true rfl), (Nat.le_of_ble_eq_true rfl), (Nat.le_of_ble_eq_true rfl)⟩ ⟨(Nat.le_of_ble_eq_true rfl), (Nat.le_of_ble_eq_true rfl)⟩

set_option maxHeartbeats 4000000 in
set_option maxRecDepth 100000 in
theorem met_X4_meanOfSoldKilograms (l : Launch) (D : va_G) (cA : Nat → ClassId) (wr : va_W) (α : Nat → Nat → Nat) (L : List (Nat × Nat)) (N : Nat → Nat → Nat) (R : Nat → Nat → Nat → Int32) (Fr : Nat → UInt32) (inc : Int64) (z0 : Nat) (hl0 : l.stackTraces = false) (hLk : LOK N L) (hC : IC N) : MetXB z0 l yX4_meanOfSoldKilograms (.code yX4_meanOfSoldKilograms cX4_meanOfSoldKilograms 2 (some .double) :: LW) ({ frames := 6, cells := 1, slots := 6, locals := 90 }) D cA (xWd wr cA α L (N, R, Fr, inc)) [.ref (α 0 0)] (fun r (_ : Unit) => (op_meanPrice (N, R, Fr, inc)).1 = 0 ∧ r = (op_meanPrice (N, R, Fr, inc)).2.1) (fun _ => xWd wr cA α L (op_meanPrice (N, R, Fr, inc)).2.2) (fun E => ¬ (op_meanPrice (N, R, Fr, inc)).1 = 0 ∧ E = exOf ["java/lang/ArithmeticException"] (op_meanPrice (N, R, Fr, inc)).1) 1 6 := by
  refine k_bodyX hl0 (by decide) (Nat.le_of_ble_eq_true rfl) (fun p e s m args below meth c ls F G hW hl => ?_)
  obtain ⟨hx, hb, hr, hml, hown, hts, hlocks, hname⟩ := id F
  have hl : lv_has ls 2 [(0, .ref (α 0 0))] := hl
  refine lv_aload_n hx hb dX4_meanOfSoldKilograms_0 rfl (lv_at hl 0 rfl) ?_
  obtain ⟨q_497, hq_497⟩ := xw_at (wr := wr) (cA := cA) (α := α) (L := L) (S := (N, R, Fr, inc)) 0 0 (hLk.o 0 (by decide))
  refine k_callVi (as := []) (rest := []) (b := (α 0 0)) (ci := 6) (q0 := q_497) F hW (met_X4_weightOfSoldLots l D cA wr α L N R Fr inc hLk hC) rfl ML_X4_290 IM_X4_weightOfSoldLots SE_X4_weightOfSoldLots IN_X4 CO_X4_weightOfSoldLots hdV_X4_weightOfSoldLots rfl rfl ⟨(Nat.le_of_ble_eq_true rfl), (Nat.le_of_ble_eq_true rfl)⟩ rfl rfl (hq_497) rfl rfl hl.1 (Nat.le_of_ble_eq_true rfl) dX4_meanOfSoldKilograms_1 ⟨(Nat.le_of_ble_eq_true rfl), (Nat.le_of_ble_eq_true rfl)⟩ (fun r_498 u H locs hw hW => ?_)
  subst hw
  refine lv_istore_n (lv' := [(1, .int (wsum R (isSold R) (N 0 1))), (0, .ref (α 0 0))]) hx hb dX4_meanOfSoldKilograms_4 rfl hl (by decide) rfl (fun ls hl => ?_)
  refine lv_iload_n hx hb dX4_meanOfSoldKilograms_5 rfl (lv_at hl 0 rfl) ?_
  refine lv_if_ne (tgt := 20) hx hb dX4_meanOfSoldKilograms_6 (by decide) (fun h_w => ?_) (fun h_w => ?_)
  · refine lv_aload_n hx hb dX4_meanOfSoldKilograms_20 rfl (lv_at hl 1 rfl) ?_
    obtain ⟨q_499, hq_499⟩ := xw_at (wr := wr) (cA := cA) (α := α) (L := L) (S := (N, R, Fr, inc)) 0 0 (hLk.o 0 (by decide))
    refine k_get (v := .long inc) F hW inX4 rfl q_499 hq_499 rfl 14 (by decide) FL_X4_64 rfl rfl dX4_meanOfSoldKilograms_21 ?_
    refine lv_l2d hx hb dX4_meanOfSoldKilograms_24 ?_
    refine lv_iload_n hx hb dX4_meanOfSoldKilograms_25 rfl (lv_at hl 0 rfl) ?_
    refine lv_i2d hx hb dX4_meanOfSoldKilograms_26 ?_
    refine lv_ddiv hx hb dX4_meanOfSoldKilograms_27 (nn_mean _ h_w) ?_
    have hop : op_meanPrice (N, R, Fr, inc) = (0, meanOf N R inc, (N, R, Fr, inc)) := if_neg h_w
    refine vx_ret ?_
    exact k_dret () F (hW.eq (by rw [hop])) (⟨by rw [hop], by rw [hop]; rfl⟩) dX4_meanOfSoldKilograms_28 (Nat.le_of_ble_eq_true rfl) (Nat.le_of_ble_eq_true rfl)
  · have hop : op_meanPrice (N, R, Fr, inc) = (1, 0, (N, R, Fr, inc)) := if_pos h_w
    exact k_throwSW F G hW rfl (by decide) CL_X4_285 IN_E_ArithmeticException (List.mem_of_getElem? (i := 30) rfl) hat_Arithmetic good_Arithmetic hl.1 (Nat.le_of_ble_eq_true rfl) dX4_meanOfSoldKilograms_9 dX4_meanOfSoldKilograms_12 dX4_meanOfSoldKilograms_13 dX4_meanOfSoldKilograms_16 dX4_meanOfSoldKilograms_19 (⟨by rw [hop]; exact Nat.succ_ne_zero _, by rw [hop]; rfl⟩) ⟨(Nat.le_of_ble_eq_true rfl), (Nat.le_of_ble_eq_true rfl), (Nat.le_of_ble_eq_true rfl), (Nat.le_of_ble_eq_true rfl)⟩ ⟨(Nat.le_of_ble_eq_true rfl), (Nat.le_of_ble_eq_true rfl)⟩

set_option maxHeartbeats 4000000 in
set_option maxRecDepth 100000 in
theorem met_X4_meanPrice (l : Launch) (D : va_G) (cA : Nat → ClassId) (wr : va_W) (α : Nat → Nat → Nat) (L : List (Nat × Nat)) (N : Nat → Nat → Nat) (R : Nat → Nat → Nat → Int32) (Fr : Nat → UInt32) (inc : Int64) (z0 : Nat) (hl0 : l.stackTraces = false) (hLk : LOK N L) (hC : IC N) : MetXB z0 l yX4_meanPrice (.code yX4_meanPrice cX4_meanPrice 1 (some .double) :: LW) ({ frames := 7, cells := 1, slots := 6, locals := 111 }) D cA (xWd wr cA α L (N, R, Fr, inc)) [.ref (α 0 0)] (fun r (_ : Unit) => (op_meanPrice (N, R, Fr, inc)).1 = 0 ∧ r = (op_meanPrice (N, R, Fr, inc)).2.1) (fun _ => xWd wr cA α L (op_meanPrice (N, R, Fr, inc)).2.2) (fun E => ¬ (op_meanPrice (N, R, Fr, inc)).1 = 0 ∧ E = exOf ["java/lang/ArithmeticException"] (op_meanPrice (N, R, Fr, inc)).1) 1 6 := by
  refine k_bodyX hl0 (by decide) (Nat.le_of_ble_eq_true rfl) (fun p e s m args below meth c ls F G hW hl => ?_)
  obtain ⟨hx, hb, hr, hml, hown, hts, hlocks, hname⟩ := id F
  have hl : lv_has ls 1 [(0, .ref (α 0 0))] := hl
  refine lv_aload_n hx hb dX4_meanPrice_0 rfl (lv_at hl 0 rfl) ?_
  obtain ⟨q_501, hq_501⟩ := xw_at (wr := wr) (cA := cA) (α := α) (L := L) (S := (N, R, Fr, inc)) 0 0 (hLk.o 0 (by decide))
  refine k_cXVb (as := []) (rest := []) (b := (α 0 0)) (ci := 6) (q0 := q_501) F G hW (met_X4_meanOfSoldKilograms l D cA wr α L N R Fr inc z0 hl0 hLk hC) rfl ML_X4_293 IM_X4_meanOfSoldKilograms SE_X4_meanOfSoldKilograms IN_X4 CO_X4_meanOfSoldKilograms hdV_X4_meanOfSoldKilograms rfl rfl ⟨(Nat.le_of_ble_eq_true rfl), (Nat.le_of_ble_eq_true rfl)⟩ rfl rfl (hq_501) rfl rfl dX4_meanPrice_1 hl.1 (Nat.le_of_ble_eq_true rfl) ⟨(Nat.le_of_ble_eq_true rfl), (Nat.le_of_ble_eq_true rfl)⟩ (fun _ h => h) ⟨(Nat.le_of_ble_eq_true rfl), (Nat.le_of_ble_eq_true rfl)⟩ (fun r_500 u H locs hw hW => ?_)
  refine vx_ret ?_
  exact k_dret () F (hW) (hw) dX4_meanPrice_4 (Nat.le_of_ble_eq_true rfl) (Nat.le_of_ble_eq_true rfl)
