set_option maxHeartbeats 4000000 in
set_option maxRecDepth 100000 in
theorem met_X4_lotForSale (l : Launch) (D : va_G) (cA : Nat → ClassId) (wr : va_W) (α : Nat → Nat → Nat) (L : List (Nat × Nat)) (N : Nat → Nat → Nat) (R : Nat → Nat → Nat → Int32) (Fr : Nat → UInt32) (inc : Int64) (v : Int32) (z0 : Nat) (hl0 : l.stackTraces = false) (hLk : LOK N L) (hC : IC N) : MetXR z0 l yX4_lotForSale (.code yX4_lotForSale cX4_lotForSale 3 (some (.object "Fishpier$Lot")) :: LW) ({ frames := 7, cells := 2, slots := 12, locals := 111 }) D cA (xWd wr cA α L (N, R, Fr, inc)) [.ref (α 0 0), .int v] (fun r (_ : Unit) => isIx (N 0 1) v = true ∧ R 9 (ix v) 0 = 102 ∧ r = some (α 9 (ix v))) (fun _ => xWd wr cA α L (N, R, Fr, inc)) (fun E => (E = nE ∧ isIx (N 0 1) v = false) ∨ (E = "java/lang/IllegalStateException" ∧ isIx (N 0 1) v = true ∧ ¬ R 9 (ix v) 0 = 102)) 2 12 := by
  refine k_bodyX hl0 (by decide) (Nat.le_of_ble_eq_true rfl) (fun p e s m args below meth c ls F G hW hl => ?_)
  obtain ⟨hx, hb, hr, hml, hown, hts, hlocks, hname⟩ := id F
  have hl : lv_has ls 3 [(0, .ref (α 0 0)), (1, .int v)] := hl
  refine lv_aload_n hx hb dX4_lotForSale_0 rfl (lv_at hl 0 rfl) ?_
  refine lv_iload_n hx hb dX4_lotForSale_1 rfl (lv_at hl 1 rfl) ?_
  obtain ⟨q_367, hq_367⟩ := xw_at (wr := wr) (cA := cA) (α := α) (L := L) (S := (N, R, Fr, inc)) 0 0 (hLk.o 0 (by decide))
  refine k_cXVr (as := [.int v]) (rest := []) (b := (α 0 0)) (ci := 6) (q0 := q_367) F G hW (met_X4_lotNumbered l D cA wr α L N R Fr inc v z0 hl0 hLk hC) rfl ML_X4_145 IM_X4_lotNumbered SE_X4_lotNumbered IN_X4 CO_X4_lotNumbered hdV_X4_lotNumbered rfl rfl ⟨(Nat.le_of_ble_eq_true rfl), (Nat.le_of_ble_eq_true rfl)⟩ rfl rfl (hq_367) rfl rfl dX4_lotForSale_2 hl.1 (Nat.le_of_ble_eq_true rfl) ⟨(Nat.le_of_ble_eq_true rfl), (Nat.le_of_ble_eq_true rfl)⟩ (fun E h => Or.inl h) ⟨(Nat.le_of_ble_eq_true rfl), (Nat.le_of_ble_eq_true rfl)⟩ (fun r_366 u H locs hw hW => ?_)
  obtain ⟨hix, rfl⟩ := hw
  refine lv_astore_n (lv' := [(2, .ref (α 9 (ix v))), (0, .ref (α 0 0)), (1, .int v)]) hx hb dX4_lotForSale_5 rfl hl (by decide) rfl (fun ls hl => ?_)
  refine lv_aload_n hx hb dX4_lotForSale_6 rfl (lv_at hl 0 rfl) ?_
  obtain ⟨q_368, hq_368⟩ := xw_at (wr := wr) (cA := cA) (α := α) (L := L) (S := (N, R, Fr, inc)) 9 (ix v) (hLk.l (ix v) (hC.lt (by decide) (ix_lt hix (by have := hC; unfold IC at this; omega)).1))
  refine k_get (v := .int (R 9 (ix v) 0)) F hW inX2 rfl q_368 hq_368 rfl 6 (by decide) FL_X4_152 rfl rfl dX4_lotForSale_7 ?_
  refine lv_bipush (v := 102) hx hb dX4_lotForSale_10 (by decide) ?_
  refine lv_icmp_eq (tgt := 26) hx hb dX4_lotForSale_12 (by decide) (fun h_s => ?_) (fun h_s => ?_)
  · refine lv_aload_n hx hb dX4_lotForSale_26 rfl (lv_at hl 0 rfl) ?_
    refine vx_ret ?_
    exact k_rret (some (α 9 (ix v))) () F rfl (hW) (⟨hix, h_s, rfl⟩) dX4_lotForSale_27 (Nat.le_of_ble_eq_true rfl) (Nat.le_of_ble_eq_true rfl)
  · exact k_throwSW F G hW rfl (by decide) CL_X4_79 IN_E_IllegalStateException (List.mem_of_getElem? (i := 26) rfl) hat_IllegalState good_IllegalState hl.1 (Nat.le_of_ble_eq_true rfl) dX4_lotForSale_15 dX4_lotForSale_18 dX4_lotForSale_19 dX4_lotForSale_22 dX4_lotForSale_25 (Or.inr ⟨rfl, hix, h_s⟩) ⟨(Nat.le_of_ble_eq_true rfl), (Nat.le_of_ble_eq_true rfl), (Nat.le_of_ble_eq_true rfl), (Nat.le_of_ble_eq_true rfl)⟩ ⟨(Nat.le_of_ble_eq_true rfl), (Nat.le_of_ble_eq_true rfl)⟩

set_option maxHeartbeats 4000000 in
set_option maxRecDepth 100000 in
theorem met_X4_priceOnClock (l : Launch) (D : va_G) (cA : Nat → ClassId) (wr : va_W) (α : Nat → Nat → Nat) (L : List (Nat × Nat)) (N : Nat → Nat → Nat) (R : Nat → Nat → Nat → Int32) (Fr : Nat → UInt32) (inc : Int64) (j : Nat) (hLk : LOK N L) (hC : IC N) (hL : ∀ i, i < N 0 1 → lotOK R Fr i) (hj : j < N 0 1) (hck : ckOK R) : MetI l yX4_priceOnClock (.code yX4_priceOnClock cX4_priceOnClock 5 (some .int) :: LW) ({ frames := 2, cells := 0, slots := 0, locals := 51 }) D cA (xWd wr cA α L (N, R, Fr, inc)) [.ref (α 0 0), .ref (α 9 j)] (fun r (_ : Unit) => r = falls N R Fr j) (fun _ => xWd wr cA α L (N, R, Fr, inc)) 0 0 := by
  refine k_bodyI (plainFor_of_name (by decide)) (Nat.le_of_ble_eq_true rfl) (fun p e s m args below meth c ls F hW hl => ?_)
  obtain ⟨hx, hb, hr, hml, hown, hts, hlocks, hname⟩ := id F
  have hl : lv_has ls 5 [(0, .ref (α 0 0)), (1, .ref (α 9 j))] := hl
  refine lv_aload_n hx hb dX4_priceOnClock_0 rfl (lv_at hl 0 rfl) ?_
  refine lv_aload_n hx hb dX4_priceOnClock_1 rfl (lv_at hl 1 rfl) ?_
  obtain ⟨q_369, hq_369⟩ := xw_at (wr := wr) (cA := cA) (α := α) (L := L) (S := (N, R, Fr, inc)) 0 0 (hLk.o 0 (by decide))
  refine k_callVi (as := [.ref (α 9 j)]) (rest := []) (b := (α 0 0)) (ci := 6) (q0 := q_369) F hW (met_X4_greatestOfferFor l D cA wr α L N R Fr inc j hLk hC hL hj) rfl ML_X4_326 IM_X4_greatestOfferFor SE_X4_greatestOfferFor IN_X4 CO_X4_greatestOfferFor hdV_X4_greatestOfferFor rfl rfl ⟨(Nat.le_of_ble_eq_true rfl), (Nat.le_of_ble_eq_true rfl)⟩ rfl rfl (hq_369) rfl rfl hl.1 (Nat.le_of_ble_eq_true rfl) dX4_priceOnClock_2 ⟨(Nat.le_of_ble_eq_true rfl), (Nat.le_of_ble_eq_true rfl)⟩ (fun r_370 u H locs hw hW => ?_)
  subst hw
  refine lv_istore_n (lv' := [(2, .int (gO R Fr j (N 0 2))), (0, .ref (α 0 0)), (1, .ref (α 9 j))]) hx hb dX4_priceOnClock_5 rfl hl (by decide) rfl (fun ls hl => ?_)
  refine lv_iconst (v := 0) hx hb dX4_priceOnClock_6 (by decide) ?_
  refine lv_istore_n (lv' := [(3, .int 0), (2, .int (gO R Fr j (N 0 2))), (0, .ref (α 0 0)), (1, .ref (α 9 j))]) hx hb dX4_priceOnClock_7 rfl hl (by decide) rfl (fun ls hl => ?_)
  refine k_ind (P := fun k H locs ls => ∃ i, i + k = 10000 ∧ falls N R Fr j = fallsN N R Fr j (10001 - i) (shown R i) ∧ Cw D cA s (va_A (xWd wr cA α L (N, R, Fr, inc)) s.heap.size) (xWd wr cA α L (N, R, Fr, inc)) H locs ∧ lv_has ls 5 [(0, .ref (α 0 0)), (1, .ref (α 9 j)), (2, .int (gO R Fr j (N 0 2))), (3, .int (nI i))]) (fun k ih H locs ls hP => ?_) (10000) ⟨0, by omega, by rw [shown_0]; rfl, hW, lv_sub hl [2, 3, 1, 0] rfl⟩
  obtain ⟨i, hi_i, hf, hW, hl⟩ := hP
  refine lv_iload_n hx hb dX4_priceOnClock_8 rfl (lv_at hl 3 rfl) ?_
  refine lv_sipush (v := 9999) hx hb dX4_priceOnClock_9 (by decide) ?_
  refine lv_icmp_gt (tgt := 64) hx hb dX4_priceOnClock_12 (by decide) (fun h_c => ?_) (fun h_c => ?_)
  · obtain rfl : i = 10000 := by have := (nI_ltI (a := 9999) (b := i) (by omega) (by omega)).mp h_c; omega
    refine lv_iconst (v := (-1)) hx hb dX4_priceOnClock_64 (by decide) ?_
    exact k_iret () F (hW) ((hf.trans (fallsN_stop fun h => absurd h.2 (Int32.not_le.mpr (shown_last hck)))).symm) dX4_priceOnClock_65 (Nat.le_of_ble_eq_true rfl) (Nat.le_of_ble_eq_true rfl)
  · have hlt : i < 10000 := Nat.lt_of_not_le fun q => h_c (nI_lt (a := 9999) (by omega) (by omega))
    refine lv_aload_n hx hb dX4_priceOnClock_15 rfl (lv_at hl 0 rfl) ?_
    obtain ⟨q_371, hq_371⟩ := xw_at (wr := wr) (cA := cA) (α := α) (L := L) (S := (N, R, Fr, inc)) 0 0 (hLk.o 0 (by decide))
    refine k_get (v := .int (R 0 1 0)) F hW inX4 rfl q_371 hq_371 rfl 11 (by decide) FL_X4_55 rfl rfl dX4_priceOnClock_16 ?_
    refine lv_iload_n hx hb dX4_priceOnClock_19 rfl (lv_at hl 3 rfl) ?_
    refine lv_aload_n hx hb dX4_priceOnClock_20 rfl (lv_at hl 0 rfl) ?_
    obtain ⟨q_372, hq_372⟩ := xw_at (wr := wr) (cA := cA) (α := α) (L := L) (S := (N, R, Fr, inc)) 0 0 (hLk.o 0 (by decide))
    refine k_get (v := .int (R 0 2 0)) F hW inX4 rfl q_372 hq_372 rfl 12 (by decide) FL_X4_58 rfl rfl dX4_priceOnClock_21 ?_
    refine lv_imul hx hb dX4_priceOnClock_24 ?_
    refine lv_isub hx hb dX4_priceOnClock_25 ?_
    refine lv_topi (fun x_373 ex_373 => ?_)
    obtain rfl : x_373 = shown R i := ex_373.trans (rfl)
    refine lv_istore (lv' := [(4, .int (shown R i)), (0, .ref (α 0 0)), (1, .ref (α 9 j)), (2, .int (gO R Fr j (N 0 2))), (3, .int (nI i))]) hx hb dX4_priceOnClock_26 hl (by decide) rfl (fun ls hl => ?_)
    refine lv_iload hx hb dX4_priceOnClock_28 (lv_at hl 0 rfl) ?_
    refine lv_aload_n hx hb dX4_priceOnClock_30 rfl (lv_at hl 1 rfl) ?_
    obtain ⟨q_374, hq_374⟩ := xw_at (wr := wr) (cA := cA) (α := α) (L := L) (S := (N, R, Fr, inc)) 0 0 (hLk.o 0 (by decide))
    refine k_get (v := .int (R 0 3 0)) F hW inX4 rfl q_374 hq_374 rfl 13 (by decide) FL_X4_61 rfl rfl dX4_priceOnClock_31 ?_
    refine lv_icmp_ge (tgt := 39) hx hb dX4_priceOnClock_34 (by decide) (fun h_r => ?_) (fun h_r => ?_)
    · have hv0 : 0 ≤ shown R i := Int32.le_trans (res_nn hck) h_r
      refine lv_iload hx hb dX4_priceOnClock_39 (lv_at hl 0 rfl) ?_
      refine lv_iload_n hx hb dX4_priceOnClock_41 rfl (lv_at hl 3 rfl) ?_
      refine lv_icmp_gt (tgt := 58) hx hb dX4_priceOnClock_42 (by decide) (fun h_g => ?_) (fun h_g => ?_)
      · have hb0 := gO_best (N 0 2) h_g
        refine lv_iinc (k := 4) (lv' := [(3, .int (nI (i + 1))), (4, .int (shown R i)), (0, .ref (α 0 0)), (1, .ref (α 9 j)), (2, .int (gO R Fr j (N 0 2)))]) hx hb dX4_priceOnClock_58 hl rfl (nI_1 i) (by decide) rfl (fun ls hl => ?_)
        refine lv_goto (tgt := 8) hx hb dX4_priceOnClock_61 (by decide) ?_
        have hnx : falls N R Fr j = fallsN N R Fr j (10001 - (i + 1)) (shown R (i + 1)) := by rw [← shown_next hck hlt, hf]; exact (fallsN_step ⟨h_r, hv0⟩ (by omega) hb0).trans (by rw [show 10001 - i - 1 = 10001 - (i + 1) by omega])
        exact ih (k - 1) (by omega) ⟨i + 1, by omega, hnx, hW, lv_sub hl [2, 3, 4, 0] rfl⟩
      · refine lv_aload_n hx hb dX4_priceOnClock_45 rfl (lv_at hl 1 rfl) ?_
        refine lv_aload_n hx hb dX4_priceOnClock_46 rfl (lv_at hl 2 rfl) ?_
        refine lv_iload hx hb dX4_priceOnClock_47 (lv_at hl 0 rfl) ?_
        obtain ⟨q_375, hq_375⟩ := xw_at (wr := wr) (cA := cA) (α := α) (L := L) (S := (N, R, Fr, inc)) 0 0 (hLk.o 0 (by decide))
        refine k_callVr (as := [.ref (α 9 j), .int (shown R i)]) (rest := []) (b := (α 0 0)) (ci := 6) (q0 := q_375) F hW (met_X4_bestTaker l D cA wr α L N R Fr inc j (shown R i) hLk hC hL hj hv0) rfl ML_X4_225 IM_X4_bestTaker SE_X4_bestTaker IN_X4 CO_X4_bestTaker hdV_X4_bestTaker rfl rfl ⟨(Nat.le_of_ble_eq_true rfl), (Nat.le_of_ble_eq_true rfl)⟩ rfl rfl (hq_375) rfl rfl hl.1 (Nat.le_of_ble_eq_true rfl) dX4_priceOnClock_49 ⟨(Nat.le_of_ble_eq_true rfl), (Nat.le_of_ble_eq_true rfl)⟩ (fun r_376 u H locs hw hW => ?_)
        subst hw
        by_cases hb0 : best R Fr j (shown R i) (N 0 2) = 0
        · rw [hb0]
          refine lv_ifnullN (tgt := 58) hx hb dX4_priceOnClock_52 (by decide) ?_
          refine lv_iinc (k := 4) (lv' := [(3, .int (nI (i + 1))), (4, .int (shown R i)), (0, .ref (α 0 0)), (1, .ref (α 9 j)), (2, .int (gO R Fr j (N 0 2)))]) hx hb dX4_priceOnClock_58 hl rfl (nI_1 i) (by decide) rfl (fun ls hl => ?_)
          refine lv_goto (tgt := 8) hx hb dX4_priceOnClock_61 (by decide) ?_
          have hnx : falls N R Fr j = fallsN N R Fr j (10001 - (i + 1)) (shown R (i + 1)) := by rw [← shown_next hck hlt, hf]; exact (fallsN_step ⟨h_r, hv0⟩ (by omega) hb0).trans (by rw [show 10001 - i - 1 = 10001 - (i + 1) by omega])
          exact ih (k - 1) (by omega) ⟨i + 1, by omega, hnx, hW, lv_sub hl [2, 3, 4, 0] rfl⟩
        · rw [show bestR α (best R Fr j (shown R i) (N 0 2)) = some (α 10 (best R Fr j (shown R i) (N 0 2) - 1)) from if_neg hb0]
          refine lv_ifnull hx hb dX4_priceOnClock_52 ?_
          refine lv_iload hx hb dX4_priceOnClock_55 (lv_at hl 0 rfl) ?_
          exact k_iret () F (hW) ((hf.trans (fallsN_sale ⟨h_r, hv0⟩ (by omega) hb0)).symm) dX4_priceOnClock_57 (Nat.le_of_ble_eq_true rfl) (Nat.le_of_ble_eq_true rfl)
    · refine lv_iconst (v := (-1)) hx hb dX4_priceOnClock_37 (by decide) ?_
      exact k_iret () F (hW) ((hf.trans (fallsN_stop fun h => h_r h.1)).symm) dX4_priceOnClock_38 (Nat.le_of_ble_eq_true rfl) (Nat.le_of_ble_eq_true rfl)

set_option maxHeartbeats 4000000 in
set_option maxRecDepth 100000 in
theorem met_X4_price (l : Launch) (D : va_G) (cA : Nat → ClassId) (wr : va_W) (α : Nat → Nat → Nat) (L : List (Nat × Nat)) (N : Nat → Nat → Nat) (R : Nat → Nat → Nat → Int32) (Fr : Nat → UInt32) (inc : Int64) (p0 : Int32) (z0 : Nat) (hl0 : l.stackTraces = false) (hLk : LOK N L) (hC : IC N) (hL : ∀ j, j < N 0 1 → lotOK R Fr j) (hck : ckOK R) : MetXI z0 l yX4_price (.code yX4_price cX4_price 3 (some .int) :: LW) ({ frames := 8, cells := 3, slots := 18, locals := 133 }) D cA (xWd wr cA α L (N, R, Fr, inc)) [.ref (α 0 0), .int p0] (fun r (_ : Unit) => (op_price (N, R, Fr, inc) p0).1 = 0 ∧ r = (op_price (N, R, Fr, inc) p0).2.1) (fun _ => xWd wr cA α L (op_price (N, R, Fr, inc) p0).2.2) (fun E => ¬ (op_price (N, R, Fr, inc) p0).1 = 0 ∧ E = exOf [nE, "java/lang/IllegalStateException", "java/lang/UnsupportedOperationException"] (op_price (N, R, Fr, inc) p0).1) 3 18 := by
  refine k_bodyX hl0 (by decide) (Nat.le_of_ble_eq_true rfl) (fun p e s m args below meth c ls F G hW hl => ?_)
  obtain ⟨hx, hb, hr, hml, hown, hts, hlocks, hname⟩ := id F
  have hl : lv_has ls 3 [(0, .ref (α 0 0)), (1, .int p0)] := hl
  refine lv_aload_n hx hb dX4_price_0 rfl (lv_at hl 0 rfl) ?_
  refine lv_aload_n hx hb dX4_price_1 rfl (lv_at hl 0 rfl) ?_
  refine lv_iload_n hx hb dX4_price_2 rfl (lv_at hl 1 rfl) ?_
  obtain ⟨q_378, hq_378⟩ := xw_at (wr := wr) (cA := cA) (α := α) (L := L) (S := (N, R, Fr, inc)) 0 0 (hLk.o 0 (by decide))
  refine k_cXVr (as := [.int p0]) (rest := [.ref (α 0 0)]) (b := (α 0 0)) (ci := 6) (q0 := q_378) F G hW (met_X4_lotForSale l D cA wr α L N R Fr inc p0 z0 hl0 hLk hC) rfl ML_X4_214 IM_X4_lotForSale SE_X4_lotForSale IN_X4 CO_X4_lotForSale hdV_X4_lotForSale rfl rfl ⟨(Nat.le_of_ble_eq_true rfl), (Nat.le_of_ble_eq_true rfl)⟩ rfl rfl (hq_378) rfl rfl dX4_price_3 hl.1 (Nat.le_of_ble_eq_true rfl) ⟨(Nat.le_of_ble_eq_true rfl), (Nat.le_of_ble_eq_true rfl)⟩ (fun E h => by
      rcases h with ⟨rfl, hix⟩ | ⟨rfl, hix, hs⟩
      · have hop : op_price (N, R, Fr, inc) p0 = (1, 0, (N, R, Fr, inc)) := by simp [op_price, faultOf, hix]
        exact ⟨by rw [hop]; exact Nat.succ_ne_zero _, by rw [hop]; rfl⟩
      · have hop : op_price (N, R, Fr, inc) p0 = (2, 0, (N, R, Fr, inc)) := by simp [op_price, faultOf, hix, hs]
        exact ⟨by rw [hop]; exact Nat.succ_ne_zero _, by rw [hop]; rfl⟩) ⟨(Nat.le_of_ble_eq_true rfl), (Nat.le_of_ble_eq_true rfl)⟩ (fun r_377 u H locs hw hW => ?_)
  obtain ⟨hix, hst, rfl⟩ := hw
  have hj0 := (ix_lt hix (by have := hC; unfold IC at this; omega)).1
  obtain ⟨q_379, hq_379⟩ := xw_at (wr := wr) (cA := cA) (α := α) (L := L) (S := (N, R, Fr, inc)) 0 0 (hLk.o 0 (by decide))
  refine k_callVi (as := [.ref (α 9 (ix p0))]) (rest := []) (b := (α 0 0)) (ci := 6) (q0 := q_379) F hW (met_X4_priceOnClock l D cA wr α L N R Fr inc (ix p0) hLk hC hL hj0 hck) rfl ML_X4_217 IM_X4_priceOnClock SE_X4_priceOnClock IN_X4 CO_X4_priceOnClock hdV_X4_priceOnClock rfl rfl ⟨(Nat.le_of_ble_eq_true rfl), (Nat.le_of_ble_eq_true rfl)⟩ rfl rfl (hq_379) rfl rfl hl.1 (Nat.le_of_ble_eq_true rfl) dX4_price_6 ⟨(Nat.le_of_ble_eq_true rfl), (Nat.le_of_ble_eq_true rfl)⟩ (fun r_380 u H locs hw hW => ?_)
  subst hw
  refine lv_istore_n (lv' := [(2, .int (falls N R Fr (ix p0))), (0, .ref (α 0 0)), (1, .int p0)]) hx hb dX4_price_9 rfl hl (by decide) rfl (fun ls hl => ?_)
  refine lv_iload_n hx hb dX4_price_10 rfl (lv_at hl 0 rfl) ?_
  refine lv_iconst (v := (-1)) hx hb dX4_price_11 (by decide) ?_
  refine lv_icmp_ne (tgt := 25) hx hb dX4_price_12 (by decide) (fun h_f => ?_) (fun h_f => ?_)
  · refine lv_iload_n hx hb dX4_price_25 rfl (lv_at hl 0 rfl) ?_
    have hop : op_price (N, R, Fr, inc) p0 = (0, falls N R Fr (ix p0), (N, R, Fr, inc)) := by simp [op_price, faultOf, hix, hst, h_f]
    refine vx_ret ?_
    exact k_iret () F (hW.eq (by rw [hop])) (⟨by rw [hop], by rw [hop]⟩) dX4_price_26 (Nat.le_of_ble_eq_true rfl) (Nat.le_of_ble_eq_true rfl)
  · have hop : op_price (N, R, Fr, inc) p0 = (3, 0, (N, R, Fr, inc)) := by simp [op_price, faultOf, hix, hst, h_f]
    exact k_throwS F G hW rfl (by decide) CL_X4_106 IN_E_UnsupportedOperationException (List.mem_of_getElem? (i := 15) rfl) hat_UnsupportedOperation good_UnsupportedOperation hl.1 (Nat.le_of_ble_eq_true rfl) dX4_price_15 dX4_price_18 dX4_price_19 dX4_price_21 dX4_price_24 (⟨by rw [hop]; exact Nat.succ_ne_zero _, by rw [hop]; rfl⟩) ⟨(Nat.le_of_ble_eq_true rfl), (Nat.le_of_ble_eq_true rfl), (Nat.le_of_ble_eq_true rfl), (Nat.le_of_ble_eq_true rfl)⟩ ⟨(Nat.le_of_ble_eq_true rfl), (Nat.le_of_ble_eq_true rfl)⟩

theorem xs_r11s (cA : Nat → ClassId) (α : Nat → Nat → Nat) (N : Nat → Nat → Nat) (R : Nat → Nat → Nat → Int32) (Fr : Nat → UInt32) (inc : Int64) (j b : Nat) (hb : b < 2 ^ 31) : xent cA α (N, up3 R 11 j 0 (nI b), Fr, inc) 9 j = .inr (4, [.int (nI j), .int (R 4 j 0), .int (R 5 j 0), .int (R 6 j 0), .int (R 7 j 0), .int (R 8 j 0), .int (R 9 j 0), .float (Fr j), .int (R 10 j 0), .ref (α 10 b), .int (R 12 j 0)]) := by
  rw [xs_r11, ownr_some α (nI_neg1 hb), ix_nI hb]
  rfl
set_option maxHeartbeats 4000000 in
set_option maxRecDepth 100000 in
theorem met_X4_sell (l : Launch) (D : va_G) (cA : Nat → ClassId) (wr : va_W) (α : Nat → Nat → Nat) (L : List (Nat × Nat)) (N : Nat → Nat → Nat) (R : Nat → Nat → Nat → Int32) (Fr : Nat → UInt32) (inc : Int64) (p0 : Int32) (z0 : Nat) (hl0 : l.stackTraces = false) (hLk : LOK N L) (hC : IC N) (hL : ∀ j, j < N 0 1 → lotOK R Fr j) (hck : ckOK R) : MetXI z0 l yX4_sell (.code yX4_sell cX4_sell 6 (some .int) :: LW) ({ frames := 8, cells := 3, slots := 18, locals := 133 }) D cA (xWd wr cA α L (N, R, Fr, inc)) [.ref (α 0 0), .int p0] (fun r (_ : Unit) => (op_sell (N, R, Fr, inc) p0).1 = 0 ∧ r = (op_sell (N, R, Fr, inc) p0).2.1) (fun _ => xWd wr cA α L (op_sell (N, R, Fr, inc) p0).2.2) (fun E => ¬ (op_sell (N, R, Fr, inc) p0).1 = 0 ∧ E = exOf [nE, "java/lang/IllegalStateException", "java/lang/UnsupportedOperationException"] (op_sell (N, R, Fr, inc) p0).1) 3 18 := by
  refine k_bodyX hl0 (by decide) (Nat.le_of_ble_eq_true rfl) (fun p e s m args below meth c ls F G hW hl => ?_)
  obtain ⟨hx, hb, hr, hml, hown, hts, hlocks, hname⟩ := id F
  have hl : lv_has ls 6 [(0, .ref (α 0 0)), (1, .int p0)] := hl
  refine lv_aload_n hx hb dX4_sell_0 rfl (lv_at hl 0 rfl) ?_
  refine lv_iload_n hx hb dX4_sell_1 rfl (lv_at hl 1 rfl) ?_
  obtain ⟨q_382, hq_382⟩ := xw_at (wr := wr) (cA := cA) (α := α) (L := L) (S := (N, R, Fr, inc)) 0 0 (hLk.o 0 (by decide))
  refine k_cXVr (as := [.int p0]) (rest := []) (b := (α 0 0)) (ci := 6) (q0 := q_382) F G hW (met_X4_lotForSale l D cA wr α L N R Fr inc p0 z0 hl0 hLk hC) rfl ML_X4_214 IM_X4_lotForSale SE_X4_lotForSale IN_X4 CO_X4_lotForSale hdV_X4_lotForSale rfl rfl ⟨(Nat.le_of_ble_eq_true rfl), (Nat.le_of_ble_eq_true rfl)⟩ rfl rfl (hq_382) rfl rfl dX4_sell_2 hl.1 (Nat.le_of_ble_eq_true rfl) ⟨(Nat.le_of_ble_eq_true rfl), (Nat.le_of_ble_eq_true rfl)⟩ (fun E h => by
      rcases h with ⟨rfl, hix⟩ | ⟨rfl, hix, hs⟩
      · have hop : op_sell (N, R, Fr, inc) p0 = (1, 0, (N, R, Fr, inc)) := by simp [op_sell, faultOf, hix]
        exact ⟨by rw [hop]; exact Nat.succ_ne_zero _, by rw [hop]; rfl⟩
      · have hop : op_sell (N, R, Fr, inc) p0 = (2, 0, (N, R, Fr, inc)) := by simp [op_sell, faultOf, hix, hs]
        exact ⟨by rw [hop]; exact Nat.succ_ne_zero _, by rw [hop]; rfl⟩) ⟨(Nat.le_of_ble_eq_true rfl), (Nat.le_of_ble_eq_true rfl)⟩ (fun r_381 u H locs hw hW => ?_)
  obtain ⟨hix, hst, rfl⟩ := hw
  have hj0 := (ix_lt hix (by have := hC; unfold IC at this; omega)).1
  refine lv_astore_n (lv' := [(2, .ref (α 9 (ix p0))), (0, .ref (α 0 0)), (1, .int p0)]) hx hb dX4_sell_5 rfl hl (by decide) rfl (fun ls hl => ?_)
  refine lv_aload_n hx hb dX4_sell_6 rfl (lv_at hl 1 rfl) ?_
  refine lv_aload_n hx hb dX4_sell_7 rfl (lv_at hl 0 rfl) ?_
  obtain ⟨q_383, hq_383⟩ := xw_at (wr := wr) (cA := cA) (α := α) (L := L) (S := (N, R, Fr, inc)) 0 0 (hLk.o 0 (by decide))
  refine k_callVi (as := [.ref (α 9 (ix p0))]) (rest := []) (b := (α 0 0)) (ci := 6) (q0 := q_383) F hW (met_X4_priceOnClock l D cA wr α L N R Fr inc (ix p0) hLk hC hL hj0 hck) rfl ML_X4_217 IM_X4_priceOnClock SE_X4_priceOnClock IN_X4 CO_X4_priceOnClock hdV_X4_priceOnClock rfl rfl ⟨(Nat.le_of_ble_eq_true rfl), (Nat.le_of_ble_eq_true rfl)⟩ rfl rfl (hq_383) rfl rfl hl.1 (Nat.le_of_ble_eq_true rfl) dX4_sell_8 ⟨(Nat.le_of_ble_eq_true rfl), (Nat.le_of_ble_eq_true rfl)⟩ (fun r_384 u H locs hw hW => ?_)
  subst hw
  refine lv_istore_n (lv' := [(3, .int (falls N R Fr (ix p0))), (2, .ref (α 9 (ix p0))), (0, .ref (α 0 0)), (1, .int p0)]) hx hb dX4_sell_11 rfl hl (by decide) rfl (fun ls hl => ?_)
  refine lv_iload_n hx hb dX4_sell_12 rfl (lv_at hl 0 rfl) ?_
  refine lv_iconst (v := (-1)) hx hb dX4_sell_13 (by decide) ?_
  refine lv_icmp_ne (tgt := 21) hx hb dX4_sell_14 (by decide) (fun h_f => ?_) (fun h_f => ?_)
  · obtain ⟨⟨hf1, hf2⟩, hf3, hf4⟩ := falls_best hck h_f
    obtain ⟨b, hbq⟩ := Nat.exists_eq_succ_of_ne_zero hf4
    have hbl : b < N 0 2 := by have := best_le R Fr (ix p0) (falls N R Fr (ix p0)) (N 0 2); omega
    have hb31 : b < 2 ^ 31 := by have := hC; unfold IC at this; omega
    refine lv_aload_n hx hb dX4_sell_21 rfl (lv_at hl 2 rfl) ?_
    refine lv_aload_n hx hb dX4_sell_22 rfl (lv_at hl 1 rfl) ?_
    refine lv_iload_n hx hb dX4_sell_23 rfl (lv_at hl 0 rfl) ?_
    obtain ⟨q_385, hq_385⟩ := xw_at (wr := wr) (cA := cA) (α := α) (L := L) (S := (N, R, Fr, inc)) 0 0 (hLk.o 0 (by decide))
    refine k_callVr (as := [.ref (α 9 (ix p0)), .int (falls N R Fr (ix p0))]) (rest := []) (b := (α 0 0)) (ci := 6) (q0 := q_385) F hW (met_X4_bestTaker l D cA wr α L N R Fr inc (ix p0) (falls N R Fr (ix p0)) hLk hC hL hj0 hf2) rfl ML_X4_225 IM_X4_bestTaker SE_X4_bestTaker IN_X4 CO_X4_bestTaker hdV_X4_bestTaker rfl rfl ⟨(Nat.le_of_ble_eq_true rfl), (Nat.le_of_ble_eq_true rfl)⟩ rfl rfl (hq_385) rfl rfl hl.1 (Nat.le_of_ble_eq_true rfl) dX4_sell_24 ⟨(Nat.le_of_ble_eq_true rfl), (Nat.le_of_ble_eq_true rfl)⟩ (fun r_386 u H locs hw hW => ?_)
    subst hw
    rw [show bestR α (best R Fr (ix p0) (falls N R Fr (ix p0)) (N 0 2)) = some (α 10 b) from by rw [hbq]; rfl]
    refine lv_astore (lv' := [(4, .ref (α 10 b)), (3, .int (falls N R Fr (ix p0))), (2, .ref (α 9 (ix p0))), (0, .ref (α 0 0)), (1, .int p0)]) hx hb dX4_sell_27 hl (by decide) rfl (fun ls hl => ?_)
    refine lv_aload hx hb dX4_sell_29 (lv_at hl 0 rfl) ?_
    refine lv_ifnonnull (tgt := 44) hx hb dX4_sell_31 (by decide) ?_
    refine lv_iload_n hx hb dX4_sell_44 rfl (lv_at hl 1 rfl) ?_
    refine lv_aload_n hx hb dX4_sell_45 rfl (lv_at hl 2 rfl) ?_
    obtain ⟨q_387, hq_387⟩ := xw_at (wr := wr) (cA := cA) (α := α) (L := L) (S := (N, R, Fr, inc)) 9 (ix p0) (hLk.l (ix p0) (hC.lt (by decide) (ix_lt hix (by have := hC; unfold IC at this; omega)).1))
    refine k_get (v := .int (R 7 (ix p0) 0)) F hW inX2 rfl q_387 hq_387 rfl 4 (by decide) FL_X4_149 rfl rfl dX4_sell_46 ?_
    refine lv_imul hx hb dX4_sell_49 ?_
    refine lv_istore (lv' := [(5, .int ((falls N R Fr (ix p0)) * (R 7 (ix p0) 0))), (4, .ref (α 10 b)), (3, .int (falls N R Fr (ix p0))), (2, .ref (α 9 (ix p0))), (0, .ref (α 0 0)), (1, .int p0)]) hx hb dX4_sell_50 hl (by decide) rfl (fun ls hl => ?_)
    refine lv_aload hx hb dX4_sell_52 (lv_at hl 1 rfl) ?_
    refine lv_dup hx hb dX4_sell_54 rfl ?_
    obtain ⟨q_388, hq_388⟩ := xw_at (wr := wr) (cA := cA) (α := α) (L := L) (S := (N, R, Fr, inc)) 10 b (hLk.u 10 b (by decide) (hC.lt (by decide) hbl))
    refine k_get (v := .int (R 13 b 0)) F hW inX1 rfl q_388 hq_388 rfl 2 (by decide) FL_X4_205 rfl rfl dX4_sell_55 ?_
    refine lv_iload hx hb dX4_sell_58 (lv_at hl 0 rfl) ?_
    refine lv_isub hx hb dX4_sell_60 ?_
    obtain ⟨q_389, hq_389, gq_389⟩ := xput (wr := wr) (L := L) (S := (N, R, Fr, inc)) (S' := (N, up3 R 13 b 0 (R 13 b 0 - falls N R Fr (ix p0) * R 7 (ix p0) 0), Fr, inc)) 10 b (hLk.u 10 b (by decide) (hC.lt (by decide) hbl)) hLk.1 (fun p hp hne => xe_r13 cA α N R Fr inc b (R 13 b 0 - falls N R Fr (ix p0) * R 7 (ix p0) 0) p hne) (xs_r13 cA α N R Fr inc b (R 13 b 0 - falls N R Fr (ix p0) * R 7 (ix p0) 0))
    refine k_put F hW inX1 tyX1_ok nmX1 rfl q_389 hq_389 rfl 2 (by decide) FL_X4_205 rfl rfl rfl rfl rfl (Nat.le_of_ble_eq_true rfl) (xWd wr cA α L (N, up3 R 13 b 0 (R 13 b 0 - falls N R Fr (ix p0) * R 7 (ix p0) 0), Fr, inc)) gq_389 dX4_sell_61 (fun H locs hW => ?_)
    refine lv_aload_n hx hb dX4_sell_64 rfl (lv_at hl 3 rfl) ?_
    refine lv_bipush (v := 115) hx hb dX4_sell_65 (by decide) ?_
    obtain ⟨q_390, hq_390, gq_390⟩ := xput (wr := wr) (L := L) (S := (N, up3 R 13 b 0 (R 13 b 0 - falls N R Fr (ix p0) * R 7 (ix p0) 0), Fr, inc)) (S' := (N, up3 (up3 R 13 b 0 (R 13 b 0 - falls N R Fr (ix p0) * R 7 (ix p0) 0)) 9 (ix p0) 0 115, Fr, inc)) 9 (ix p0) (hLk.l (ix p0) (hC.lt (by decide) (ix_lt hix (by have := hC; unfold IC at this; omega)).1)) hLk.1 (fun p hp hne => xe_r9 cA α N (up3 R 13 b 0 (R 13 b 0 - falls N R Fr (ix p0) * R 7 (ix p0) 0)) Fr inc (ix p0) 115 p hne) (xs_r9 cA α N (up3 R 13 b 0 (R 13 b 0 - falls N R Fr (ix p0) * R 7 (ix p0) 0)) Fr inc (ix p0) 115)
    refine k_put F hW inX2 tyX2_ok nmX2 rfl q_390 hq_390 rfl 6 (by decide) FL_X4_152 rfl rfl rfl rfl rfl (Nat.le_of_ble_eq_true rfl) (xWd wr cA α L (N, up3 (up3 R 13 b 0 (R 13 b 0 - falls N R Fr (ix p0) * R 7 (ix p0) 0)) 9 (ix p0) 0 115, Fr, inc)) gq_390 dX4_sell_67 (fun H locs hW => ?_)
    refine lv_aload_n hx hb dX4_sell_70 rfl (lv_at hl 3 rfl) ?_
    refine lv_aload hx hb dX4_sell_71 (lv_at hl 1 rfl) ?_
    obtain ⟨q_391, hq_391, gq_391⟩ := xput (wr := wr) (L := L) (S := (N, up3 (up3 R 13 b 0 (R 13 b 0 - falls N R Fr (ix p0) * R 7 (ix p0) 0)) 9 (ix p0) 0 115, Fr, inc)) (S' := (N, up3 (up3 (up3 R 13 b 0 (R 13 b 0 - falls N R Fr (ix p0) * R 7 (ix p0) 0)) 9 (ix p0) 0 115) 11 (ix p0) 0 (nI b), Fr, inc)) 9 (ix p0) (hLk.l (ix p0) (hC.lt (by decide) (ix_lt hix (by have := hC; unfold IC at this; omega)).1)) hLk.1 (fun p hp hne => xe_r11 cA α N (up3 (up3 R 13 b 0 (R 13 b 0 - falls N R Fr (ix p0) * R 7 (ix p0) 0)) 9 (ix p0) 0 115) Fr inc (ix p0) (nI b) p hne) (xs_r11s cA α N (up3 (up3 R 13 b 0 (R 13 b 0 - falls N R Fr (ix p0) * R 7 (ix p0) 0)) 9 (ix p0) 0 115) Fr inc (ix p0) b hb31)
    refine k_put F hW inX2 tyX2_ok nmX2 rfl q_391 hq_391 rfl 9 (by decide) FL_X4_231 rfl rfl rfl rfl rfl (Nat.le_of_ble_eq_true rfl) (xWd wr cA α L (N, up3 (up3 (up3 R 13 b 0 (R 13 b 0 - falls N R Fr (ix p0) * R 7 (ix p0) 0)) 9 (ix p0) 0 115) 11 (ix p0) 0 (nI b), Fr, inc)) gq_391 dX4_sell_73 (fun H locs hW => ?_)
    refine lv_aload_n hx hb dX4_sell_76 rfl (lv_at hl 3 rfl) ?_
    refine lv_iload hx hb dX4_sell_77 (lv_at hl 0 rfl) ?_
    obtain ⟨q_392, hq_392, gq_392⟩ := xput (wr := wr) (L := L) (S := (N, up3 (up3 (up3 R 13 b 0 (R 13 b 0 - falls N R Fr (ix p0) * R 7 (ix p0) 0)) 9 (ix p0) 0 115) 11 (ix p0) 0 (nI b), Fr, inc)) (S' := (N, up3 (up3 (up3 (up3 R 13 b 0 (R 13 b 0 - falls N R Fr (ix p0) * R 7 (ix p0) 0)) 9 (ix p0) 0 115) 11 (ix p0) 0 (nI b)) 12 (ix p0) 0 (falls N R Fr (ix p0) * R 7 (ix p0) 0), Fr, inc)) 9 (ix p0) (hLk.l (ix p0) (hC.lt (by decide) (ix_lt hix (by have := hC; unfold IC at this; omega)).1)) hLk.1 (fun p hp hne => xe_r12 cA α N (up3 (up3 (up3 R 13 b 0 (R 13 b 0 - falls N R Fr (ix p0) * R 7 (ix p0) 0)) 9 (ix p0) 0 115) 11 (ix p0) 0 (nI b)) Fr inc (ix p0) (falls N R Fr (ix p0) * R 7 (ix p0) 0) p hne) (xs_r12 cA α N (up3 (up3 (up3 R 13 b 0 (R 13 b 0 - falls N R Fr (ix p0) * R 7 (ix p0) 0)) 9 (ix p0) 0 115) 11 (ix p0) 0 (nI b)) Fr inc (ix p0) (falls N R Fr (ix p0) * R 7 (ix p0) 0))
    refine k_put F hW inX2 tyX2_ok nmX2 rfl q_392 hq_392 rfl 10 (by decide) FL_X4_235 rfl rfl rfl rfl rfl (Nat.le_of_ble_eq_true rfl) (xWd wr cA α L (N, up3 (up3 (up3 (up3 R 13 b 0 (R 13 b 0 - falls N R Fr (ix p0) * R 7 (ix p0) 0)) 9 (ix p0) 0 115) 11 (ix p0) 0 (nI b)) 12 (ix p0) 0 (falls N R Fr (ix p0) * R 7 (ix p0) 0), Fr, inc)) gq_392 dX4_sell_79 (fun H locs hW => ?_)
    refine lv_aload_n hx hb dX4_sell_82 rfl (lv_at hl 4 rfl) ?_
    refine lv_dup hx hb dX4_sell_83 rfl ?_
    obtain ⟨q_393, hq_393⟩ := xw_at (wr := wr) (cA := cA) (α := α) (L := L) (S := (N, up3 (up3 (up3 (up3 R 13 b 0 (R 13 b 0 - falls N R Fr (ix p0) * R 7 (ix p0) 0)) 9 (ix p0) 0 115) 11 (ix p0) 0 (nI b)) 12 (ix p0) 0 (falls N R Fr (ix p0) * R 7 (ix p0) 0), Fr, inc)) 0 0 (hLk.o 0 (by decide))
    refine k_get (v := .long inc) F hW inX4 rfl q_393 hq_393 rfl 14 (by decide) FL_X4_64 rfl rfl dX4_sell_84 ?_
    refine lv_iload hx hb dX4_sell_87 (lv_at hl 0 rfl) ?_
    refine lv_i2l hx hb dX4_sell_89 rfl ?_
    refine lv_ladd hx hb dX4_sell_90 ?_
    obtain ⟨q_394, hq_394, gq_394⟩ := xput (wr := wr) (L := L) (S := (N, up3 (up3 (up3 (up3 R 13 b 0 (R 13 b 0 - falls N R Fr (ix p0) * R 7 (ix p0) 0)) 9 (ix p0) 0 115) 11 (ix p0) 0 (nI b)) 12 (ix p0) 0 (falls N R Fr (ix p0) * R 7 (ix p0) 0), Fr, inc)) (S' := (N, up3 (up3 (up3 (up3 R 13 b 0 (R 13 b 0 - falls N R Fr (ix p0) * R 7 (ix p0) 0)) 9 (ix p0) 0 115) 11 (ix p0) 0 (nI b)) 12 (ix p0) 0 (falls N R Fr (ix p0) * R 7 (ix p0) 0), Fr, inc + (falls N R Fr (ix p0) * R 7 (ix p0) 0).toInt64)) 0 0 (hLk.o 0 (by decide)) hLk.1 (fun p hp hne => xe_inc cA α N (up3 (up3 (up3 (up3 R 13 b 0 (R 13 b 0 - falls N R Fr (ix p0) * R 7 (ix p0) 0)) 9 (ix p0) 0 115) 11 (ix p0) 0 (nI b)) 12 (ix p0) 0 (falls N R Fr (ix p0) * R 7 (ix p0) 0)) Fr inc (inc + (falls N R Fr (ix p0) * R 7 (ix p0) 0).toInt64) p (xe_0 hLk hp hne)) (xs_inc cA α N (up3 (up3 (up3 (up3 R 13 b 0 (R 13 b 0 - falls N R Fr (ix p0) * R 7 (ix p0) 0)) 9 (ix p0) 0 115) 11 (ix p0) 0 (nI b)) 12 (ix p0) 0 (falls N R Fr (ix p0) * R 7 (ix p0) 0)) Fr inc (inc + (falls N R Fr (ix p0) * R 7 (ix p0) 0).toInt64))
    refine k_put F hW inX4 tyX4_ok nmX4 rfl q_394 hq_394 rfl 14 (by decide) FL_X4_64 rfl rfl rfl rfl rfl (Nat.le_of_ble_eq_true rfl) (xWd wr cA α L (N, up3 (up3 (up3 (up3 R 13 b 0 (R 13 b 0 - falls N R Fr (ix p0) * R 7 (ix p0) 0)) 9 (ix p0) 0 115) 11 (ix p0) 0 (nI b)) 12 (ix p0) 0 (falls N R Fr (ix p0) * R 7 (ix p0) 0), Fr, inc + (falls N R Fr (ix p0) * R 7 (ix p0) 0).toInt64)) gq_394 dX4_sell_91 (fun H locs hW => ?_)
    refine lv_aload hx hb dX4_sell_94 (lv_at hl 1 rfl) ?_
    obtain ⟨q_395, hq_395⟩ := xw_at (wr := wr) (cA := cA) (α := α) (L := L) (S := (N, up3 (up3 (up3 (up3 R 13 b 0 (R 13 b 0 - falls N R Fr (ix p0) * R 7 (ix p0) 0)) 9 (ix p0) 0 115) 11 (ix p0) 0 (nI b)) 12 (ix p0) 0 (falls N R Fr (ix p0) * R 7 (ix p0) 0), Fr, inc + (falls N R Fr (ix p0) * R 7 (ix p0) 0).toInt64)) 10 b (hLk.u 10 b (by decide) (hC.lt (by decide) hbl))
    refine k_get (v := .int (nI b)) F hW inX1 rfl q_395 hq_395 rfl 0 (by decide) FL_X4_238 rfl rfl dX4_sell_96 ?_
    have htk : takes N R Fr (ix p0) (falls N R Fr (ix p0)) = nI b := by rw [takes_eq hf4, hbq]; rfl
    have hRR : up3 (up3 (up3 (up3 R 13 b 0 (R 13 b 0 - falls N R Fr (ix p0) * R 7 (ix p0) 0)) 9 (ix p0) 0 115) 11 (ix p0) 0 (nI b)) 12 (ix p0) 0 (falls N R Fr (ix p0) * R 7 (ix p0) 0) = up3 (up3 (up3 (up3 R 11 (ix p0) 0 (nI b)) 12 (ix p0) 0 (falls N R Fr (ix p0) * R 7 (ix p0) 0)) 13 b 0 (R 13 b 0 - falls N R Fr (ix p0) * R 7 (ix p0) 0)) 9 (ix p0) 0 115 := by rw [up3_row (k := 9) (k' := 11) (by decide), up3_row (k := 9) (k' := 12) (by decide), up3_row (k := 13) (k' := 11) (by decide), up3_row (k := 13) (k' := 12) (by decide)]
    have hop : op_sell (N, R, Fr, inc) p0 = (0, nI b, (N, up3 (up3 (up3 (up3 R 13 b 0 (R 13 b 0 - falls N R Fr (ix p0) * R 7 (ix p0) 0)) 9 (ix p0) 0 115) 11 (ix p0) 0 (nI b)) 12 (ix p0) 0 (falls N R Fr (ix p0) * R 7 (ix p0) 0), Fr, inc + (falls N R Fr (ix p0) * R 7 (ix p0) 0).toInt64)) := by rw [hRR]; simp [op_sell, faultOf, hix, hst, h_f, htk, ix_nI hb31]
    refine vx_ret ?_
    exact k_iret () F (hW.eq (by rw [hop])) (⟨by rw [hop], by rw [hop]⟩) dX4_sell_99 (Nat.le_of_ble_eq_true rfl) (Nat.le_of_ble_eq_true rfl)
  · have hop : op_sell (N, R, Fr, inc) p0 = (3, 0, (N, R, Fr, inc)) := by simp [op_sell, faultOf, hix, hst, h_f]
    refine x_null hx hb dX4_sell_17 ?_
    refine lv_goto (tgt := 27) hx hb dX4_sell_18 (by decide) ?_
    refine x_astoreQ (r := none) (lv' := [(4, va_rf none), (3, .int (falls N R Fr (ix p0))), (2, .ref (α 9 (ix p0))), (0, .ref (α 0 0)), (1, .int p0)]) hx hb dX4_sell_27 hl (by decide) rfl (fun ls hl => ?_)
    refine x_aloadQ (r := none) hx hb dX4_sell_29 (lv_at hl 0 rfl) ?_
    refine lv_ifnonnullN hx hb dX4_sell_31 ?_
    exact k_throwS F G hW rfl (by decide) CL_X4_106 IN_E_UnsupportedOperationException (List.mem_of_getElem? (i := 16) rfl) hat_UnsupportedOperation good_UnsupportedOperation hl.1 (Nat.le_of_ble_eq_true rfl) dX4_sell_34 dX4_sell_37 dX4_sell_38 dX4_sell_40 dX4_sell_43 (⟨by rw [hop]; exact Nat.succ_ne_zero _, by rw [hop]; rfl⟩) ⟨(Nat.le_of_ble_eq_true rfl), (Nat.le_of_ble_eq_true rfl), (Nat.le_of_ble_eq_true rfl), (Nat.le_of_ble_eq_true rfl)⟩ ⟨(Nat.le_of_ble_eq_true rfl), (Nat.le_of_ble_eq_true rfl)⟩
