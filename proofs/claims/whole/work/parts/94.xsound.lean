/-- the greatest price on the clock up to a bound -/
def gs (R : Nat → Nat → Nat → Int32) (most : Int32) : Int32 := if most < R 0 1 0 then (if R 0 1 0 - (R 0 1 0 - most + R 0 2 0 - 1) / R 0 2 0 * R 0 2 0 < R 0 3 0 then -1 else R 0 1 0 - (R 0 1 0 - most + R 0 2 0 - 1) / R 0 2 0 * R 0 2 0) else R 0 1 0
def mostF (R : Nat → Nat → Nat → Int32) (Fr : Nat → UInt32) (b j : Nat) : Int32 := imin (offerOf R Fr b j) (R 13 b 0 / R 7 j 0)
def pfb (R : Nat → Nat → Nat → Int32) (Fr : Nat → UInt32) (j : Nat) : Nat → Int32
  | 0 => -1
  | n + 1 => imax (pfb R Fr j n) (gs R (mostF R Fr n j))
theorem w_ge {x : Int32} (h : wOK x) : x ≥ 1 := by
  obtain ⟨w, h1, h2, rfl⟩ := h
  exact nI_le (a := 1) h1 (by omega)
theorem w_ne {x : Int32} (h : wOK x) : ¬ x = 0 := by
  obtain ⟨w, h1, h2, rfl⟩ := h
  exact nI_ne0 (by omega) (by omega)
theorem st_ne {R : Nat → Nat → Nat → Int32} (h : ckOK R) : ¬ R 0 2 0 = 0 := by
  obtain ⟨a, b, h1, h2, h3, h4, h5⟩ := ck_nat h
  rw [h5]; exact nI_ne0 (by omega) (by omega)
theorem st_ge {R : Nat → Nat → Nat → Int32} (h : ckOK R) : R 0 2 0 ≥ 1 := by
  obtain ⟨a, b, h1, h2, h3, h4, h5⟩ := ck_nat h
  rw [h5]; exact nI_le (a := 1) h2 (by omega)
set_option maxHeartbeats 4000000 in
set_option maxRecDepth 100000 in
theorem met_X1_mostFor (l : Launch) (D : va_G) (cA : Nat → ClassId) (wr : va_W) (α : Nat → Nat → Nat) (L : List (Nat × Nat)) (N : Nat → Nat → Nat) (R : Nat → Nat → Nat → Int32) (Fr : Nat → UInt32) (inc : Int64) (b j : Nat) (hLk : LOK N L) (hu : b < N 2 2) (hj : j < N 2 1) (hLo : lotOK R Fr j) : MetI l yX1_mostFor (.code yX1_mostFor cX1_mostFor 2 (some .int) :: LW) ({ frames := 1, cells := 0, slots := 0, locals := 22 }) D cA (xWd wr cA α L (N, R, Fr, inc)) [.ref (α 10 b), .ref (α 9 j)] (fun r (_ : Unit) => r = mostF R Fr b j) (fun _ => xWd wr cA α L (N, R, Fr, inc)) 0 0 := by
  refine k_bodyI (plainFor_of_name (by decide)) (Nat.le_of_ble_eq_true rfl) (fun p e s m args below meth c ls F hW hl => ?_)
  obtain ⟨hx, hb, hr, hml, hown, hts, hlocks, hname⟩ := id F
  have hl : lv_has ls 2 [(0, .ref (α 10 b)), (1, .ref (α 9 j))] := hl
  refine lv_aload_n hx hb dX1_mostFor_0 rfl (lv_at hl 1 rfl) ?_
  obtain ⟨q_638, hq_638⟩ := xw_at (wr := wr) (cA := cA) (α := α) (L := L) (S := (N, R, Fr, inc)) 9 j (hLk.l j hj)
  refine k_get (v := .int (R 7 j 0)) F hW inX2 rfl q_638 hq_638 rfl 4 (by decide) FL_X1_36 rfl rfl dX1_mostFor_1 ?_
  refine lv_iconst (v := 1) hx hb dX1_mostFor_4 (by decide) ?_
  refine lv_icmp_ge (tgt := 10) hx hb dX1_mostFor_5 (by decide) (fun _ => ?_) (fun h => absurd (w_ge hLo.2.2.1) h)
  refine lv_aload_n hx hb dX1_mostFor_10 rfl (lv_at hl 0 rfl) ?_
  refine lv_aload_n hx hb dX1_mostFor_11 rfl (lv_at hl 1 rfl) ?_
  obtain ⟨q_639, hq_639⟩ := xw_at (wr := wr) (cA := cA) (α := α) (L := L) (S := (N, R, Fr, inc)) 10 b (hLk.u 10 b (by decide) hu)
  refine k_callVi (as := [.ref (α 9 j)]) (rest := []) (b := (α 10 b)) (ci := 3) (q0 := q_639) F hW (met_X1_offerFor l D cA wr α L N R Fr inc b j hLk hu hj hLo) rfl ML_X1_39 IM_X1_offerFor SE_X1_offerFor IN_X1 CO_X1_offerFor hdV_X1_offerFor rfl rfl ⟨(Nat.le_of_ble_eq_true rfl), (Nat.le_of_ble_eq_true rfl)⟩ rfl rfl (hq_639) rfl rfl hl.1 (Nat.le_of_ble_eq_true rfl) dX1_mostFor_12 ⟨(Nat.le_of_ble_eq_true rfl), (Nat.le_of_ble_eq_true rfl)⟩ (fun r_640 u H locs hw hW => ?_)
  subst hw
  refine lv_aload_n hx hb dX1_mostFor_15 rfl (lv_at hl 0 rfl) ?_
  obtain ⟨q_641, hq_641⟩ := xw_at (wr := wr) (cA := cA) (α := α) (L := L) (S := (N, R, Fr, inc)) 10 b (hLk.u 10 b (by decide) hu)
  refine k_get (v := .int (R 13 b 0)) F hW inX1 rfl q_641 hq_641 rfl 2 (by decide) FL_X1_19 rfl rfl dX1_mostFor_16 ?_
  refine lv_aload_n hx hb dX1_mostFor_19 rfl (lv_at hl 1 rfl) ?_
  obtain ⟨q_642, hq_642⟩ := xw_at (wr := wr) (cA := cA) (α := α) (L := L) (S := (N, R, Fr, inc)) 9 j (hLk.l j hj)
  refine k_get (v := .int (R 7 j 0)) F hW inX2 rfl q_642 hq_642 rfl 4 (by decide) FL_X1_36 rfl rfl dX1_mostFor_20 ?_
  refine lv_idiv hx hb dX1_mostFor_23 (w_ne hLo.2.2.1) ?_
  refine k_callSi (as := [.int (offerOf R Fr b j), .int ((R 13 b 0) / (R 7 j 0))]) (rest := []) F hW (met_JM_min l D cA _ (offerOf R Fr b j) ((R 13 b 0) / (R 7 j 0))) rfl ML_X1_43 ST_JM_min IN_JM CO_JM_min hdS_JM_min rfl rfl ⟨(Nat.le_of_ble_eq_true rfl), (Nat.le_of_ble_eq_true rfl)⟩ rfl rfl hl.1 (Nat.le_of_ble_eq_true rfl) dX1_mostFor_24 ⟨(Nat.le_of_ble_eq_true rfl), (Nat.le_of_ble_eq_true rfl)⟩ (fun r_643 u H locs hw hW => ?_)
  subst hw
  exact k_iret () F (hW) (rfl) dX1_mostFor_27 (Nat.le_of_ble_eq_true rfl) (Nat.le_of_ble_eq_true rfl)

set_option maxHeartbeats 4000000 in
set_option maxRecDepth 100000 in
theorem met_X4_greatestShownUpTo (l : Launch) (D : va_G) (cA : Nat → ClassId) (wr : va_W) (α : Nat → Nat → Nat) (L : List (Nat × Nat)) (N : Nat → Nat → Nat) (R : Nat → Nat → Nat → Int32) (Fr : Nat → UInt32) (inc : Int64) (v : Int32) (hLk : LOK N L) (hck : ckOK R) : MetI l yX4_greatestShownUpTo (.code yX4_greatestShownUpTo cX4_greatestShownUpTo 4 (some .int) :: LW) ({ frames := 0, cells := 0, slots := 0, locals := 0 }) D cA (xWd wr cA α L (N, R, Fr, inc)) [.ref (α 0 0), .int v] (fun r (_ : Unit) => r = gs R v) (fun _ => xWd wr cA α L (N, R, Fr, inc)) 0 0 := by
  refine k_bodyI (plainFor_of_name (by decide)) (Nat.le_of_ble_eq_true rfl) (fun p e s m args below meth c ls F hW hl => ?_)
  obtain ⟨hx, hb, hr, hml, hown, hts, hlocks, hname⟩ := id F
  have hl : lv_has ls 4 [(0, .ref (α 0 0)), (1, .int v)] := hl
  refine lv_iload_n hx hb dX4_greatestShownUpTo_0 rfl (lv_at hl 1 rfl) ?_
  refine lv_aload_n hx hb dX4_greatestShownUpTo_1 rfl (lv_at hl 0 rfl) ?_
  obtain ⟨q_644, hq_644⟩ := xw_at (wr := wr) (cA := cA) (α := α) (L := L) (S := (N, R, Fr, inc)) 0 0 (hLk.o 0 (by decide))
  refine k_get (v := .int (R 0 1 0)) F hW inX4 rfl q_644 hq_644 rfl 11 (by decide) FL_X4_55 rfl rfl dX4_greatestShownUpTo_2 ?_
  refine lv_icmp_lt (tgt := 13) hx hb dX4_greatestShownUpTo_5 (by decide) (fun h_a => ?_) (fun h_a => ?_)
  · have h_a := h_a
    refine lv_aload_n hx hb dX4_greatestShownUpTo_13 rfl (lv_at hl 0 rfl) ?_
    obtain ⟨q_645, hq_645⟩ := xw_at (wr := wr) (cA := cA) (α := α) (L := L) (S := (N, R, Fr, inc)) 0 0 (hLk.o 0 (by decide))
    refine k_get (v := .int (R 0 2 0)) F hW inX4 rfl q_645 hq_645 rfl 12 (by decide) FL_X4_58 rfl rfl dX4_greatestShownUpTo_14 ?_
    refine lv_iconst (v := 1) hx hb dX4_greatestShownUpTo_17 (by decide) ?_
    refine lv_icmp_ge (tgt := 23) hx hb dX4_greatestShownUpTo_18 (by decide) (fun _ => ?_) (fun h => absurd (st_ge hck) h)
    refine lv_aload_n hx hb dX4_greatestShownUpTo_23 rfl (lv_at hl 0 rfl) ?_
    obtain ⟨q_646, hq_646⟩ := xw_at (wr := wr) (cA := cA) (α := α) (L := L) (S := (N, R, Fr, inc)) 0 0 (hLk.o 0 (by decide))
    refine k_get (v := .int (R 0 1 0)) F hW inX4 rfl q_646 hq_646 rfl 11 (by decide) FL_X4_55 rfl rfl dX4_greatestShownUpTo_24 ?_
    refine lv_iload_n hx hb dX4_greatestShownUpTo_27 rfl (lv_at hl 1 rfl) ?_
    refine lv_isub hx hb dX4_greatestShownUpTo_28 ?_
    refine lv_aload_n hx hb dX4_greatestShownUpTo_29 rfl (lv_at hl 0 rfl) ?_
    obtain ⟨q_647, hq_647⟩ := xw_at (wr := wr) (cA := cA) (α := α) (L := L) (S := (N, R, Fr, inc)) 0 0 (hLk.o 0 (by decide))
    refine k_get (v := .int (R 0 2 0)) F hW inX4 rfl q_647 hq_647 rfl 12 (by decide) FL_X4_58 rfl rfl dX4_greatestShownUpTo_30 ?_
    refine lv_iadd hx hb dX4_greatestShownUpTo_33 ?_
    refine lv_iconst (v := 1) hx hb dX4_greatestShownUpTo_34 (by decide) ?_
    refine lv_isub hx hb dX4_greatestShownUpTo_35 ?_
    refine lv_aload_n hx hb dX4_greatestShownUpTo_36 rfl (lv_at hl 0 rfl) ?_
    obtain ⟨q_648, hq_648⟩ := xw_at (wr := wr) (cA := cA) (α := α) (L := L) (S := (N, R, Fr, inc)) 0 0 (hLk.o 0 (by decide))
    refine k_get (v := .int (R 0 2 0)) F hW inX4 rfl q_648 hq_648 rfl 12 (by decide) FL_X4_58 rfl rfl dX4_greatestShownUpTo_37 ?_
    refine lv_idiv hx hb dX4_greatestShownUpTo_40 (st_ne hck) ?_
    refine lv_istore_n (lv' := [(2, .int (((((R 0 1 0) - v) + (R 0 2 0)) - 1) / (R 0 2 0))), (0, .ref (α 0 0)), (1, .int v)]) hx hb dX4_greatestShownUpTo_41 rfl hl (by decide) rfl (fun ls hl => ?_)
    refine lv_aload_n hx hb dX4_greatestShownUpTo_42 rfl (lv_at hl 1 rfl) ?_
    obtain ⟨q_649, hq_649⟩ := xw_at (wr := wr) (cA := cA) (α := α) (L := L) (S := (N, R, Fr, inc)) 0 0 (hLk.o 0 (by decide))
    refine k_get (v := .int (R 0 1 0)) F hW inX4 rfl q_649 hq_649 rfl 11 (by decide) FL_X4_55 rfl rfl dX4_greatestShownUpTo_43 ?_
    refine lv_iload_n hx hb dX4_greatestShownUpTo_46 rfl (lv_at hl 0 rfl) ?_
    refine lv_aload_n hx hb dX4_greatestShownUpTo_47 rfl (lv_at hl 1 rfl) ?_
    obtain ⟨q_650, hq_650⟩ := xw_at (wr := wr) (cA := cA) (α := α) (L := L) (S := (N, R, Fr, inc)) 0 0 (hLk.o 0 (by decide))
    refine k_get (v := .int (R 0 2 0)) F hW inX4 rfl q_650 hq_650 rfl 12 (by decide) FL_X4_58 rfl rfl dX4_greatestShownUpTo_48 ?_
    refine lv_imul hx hb dX4_greatestShownUpTo_51 ?_
    refine lv_isub hx hb dX4_greatestShownUpTo_52 ?_
    refine lv_istore_n (lv' := [(3, .int ((R 0 1 0) - ((((((R 0 1 0) - v) + (R 0 2 0)) - 1) / (R 0 2 0)) * (R 0 2 0)))), (2, .int (((((R 0 1 0) - v) + (R 0 2 0)) - 1) / (R 0 2 0))), (0, .ref (α 0 0)), (1, .int v)]) hx hb dX4_greatestShownUpTo_53 rfl hl (by decide) rfl (fun ls hl => ?_)
    refine lv_iload_n hx hb dX4_greatestShownUpTo_54 rfl (lv_at hl 0 rfl) ?_
    refine lv_aload_n hx hb dX4_greatestShownUpTo_55 rfl (lv_at hl 2 rfl) ?_
    obtain ⟨q_651, hq_651⟩ := xw_at (wr := wr) (cA := cA) (α := α) (L := L) (S := (N, R, Fr, inc)) 0 0 (hLk.o 0 (by decide))
    refine k_get (v := .int (R 0 3 0)) F hW inX4 rfl q_651 hq_651 rfl 13 (by decide) FL_X4_61 rfl rfl dX4_greatestShownUpTo_56 ?_
    refine lv_icmp_ge (tgt := 66) hx hb dX4_greatestShownUpTo_59 (by decide) (fun h_b => ?_) (fun h_b => ?_)
    · refine lv_iload_n hx hb dX4_greatestShownUpTo_66 rfl (lv_at hl 0 rfl) ?_
      exact k_iret () F (hW) (by simp only [gs]; rw [if_pos h_a, if_neg (Int32.not_lt.mpr h_b)]) dX4_greatestShownUpTo_67 (Nat.le_of_ble_eq_true rfl) (Nat.le_of_ble_eq_true rfl)
    · refine lv_iconst (v := (-1)) hx hb dX4_greatestShownUpTo_62 (by decide) ?_
      refine lv_goto (tgt := 67) hx hb dX4_greatestShownUpTo_63 (by decide) ?_
      exact k_iret () F (hW) (by simp only [gs]; rw [if_pos h_a, if_pos (Int32.not_le.mp h_b)]) dX4_greatestShownUpTo_67 (Nat.le_of_ble_eq_true rfl) (Nat.le_of_ble_eq_true rfl)
  · refine lv_aload_n hx hb dX4_greatestShownUpTo_8 rfl (lv_at hl 0 rfl) ?_
    obtain ⟨q_652, hq_652⟩ := xw_at (wr := wr) (cA := cA) (α := α) (L := L) (S := (N, R, Fr, inc)) 0 0 (hLk.o 0 (by decide))
    refine k_get (v := .int (R 0 1 0)) F hW inX4 rfl q_652 hq_652 rfl 11 (by decide) FL_X4_55 rfl rfl dX4_greatestShownUpTo_9 ?_
    exact k_iret () F (hW) (by simp only [gs]; rw [if_neg (Int32.not_lt.mpr (Int32.not_lt.mp h_a))]) dX4_greatestShownUpTo_12 (Nat.le_of_ble_eq_true rfl) (Nat.le_of_ble_eq_true rfl)

set_option maxHeartbeats 4000000 in
set_option maxRecDepth 100000 in
theorem met_X4_priceFromBuyers (l : Launch) (D : va_G) (cA : Nat → ClassId) (wr : va_W) (α : Nat → Nat → Nat) (L : List (Nat × Nat)) (N : Nat → Nat → Nat) (R : Nat → Nat → Nat → Int32) (Fr : Nat → UInt32) (inc : Int64) (j : Nat) (hLk : LOK N L) (hC : IC N) (hL : ∀ i, i < N 0 1 → lotOK R Fr i) (hj : j < N 0 1) (hck : ckOK R) : MetI l yX4_priceFromBuyers (.code yX4_priceFromBuyers cX4_priceFromBuyers 7 (some .int) :: LW) ({ frames := 2, cells := 0, slots := 0, locals := 43 }) D cA (xWd wr cA α L (N, R, Fr, inc)) [.ref (α 0 0), .ref (α 9 j)] (fun r (_ : Unit) => r = pfb R Fr j (N 0 2)) (fun _ => xWd wr cA α L (N, R, Fr, inc)) 0 0 := by
  refine k_bodyI (plainFor_of_name (by decide)) (Nat.le_of_ble_eq_true rfl) (fun p e s m args below meth c ls F hW hl => ?_)
  obtain ⟨hx, hb, hr, hml, hown, hts, hlocks, hname⟩ := id F
  have hl : lv_has ls 7 [(0, .ref (α 0 0)), (1, .ref (α 9 j))] := hl
  refine lv_iconst (v := (-1)) hx hb dX4_priceFromBuyers_0 (by decide) ?_
  refine lv_istore_n (lv' := [(2, .int (-1)), (0, .ref (α 0 0)), (1, .ref (α 9 j))]) hx hb dX4_priceFromBuyers_1 rfl hl (by decide) rfl (fun ls hl => ?_)
  refine lv_aload_n hx hb dX4_priceFromBuyers_2 rfl (lv_at hl 1 rfl) ?_
  obtain ⟨q_653, hq_653⟩ := xw_at (wr := wr) (cA := cA) (α := α) (L := L) (S := (N, R, Fr, inc)) 0 0 (hLk.o 0 (by decide))
  refine k_get (v := .ref (α 3 0)) F hW inX4 rfl q_653 hq_653 rfl 2 (by decide) FL_X4_23 rfl rfl dX4_priceFromBuyers_3 ?_
  refine lv_astore_n (lv' := [(3, .ref (α 3 0)), (2, .int (-1)), (0, .ref (α 0 0)), (1, .ref (α 9 j))]) hx hb dX4_priceFromBuyers_6 rfl hl (by decide) rfl (fun ls hl => ?_)
  refine lv_aload_n hx hb dX4_priceFromBuyers_7 rfl (lv_at hl 0 rfl) ?_
  obtain ⟨q_654, hq_654⟩ := xw_at (wr := wr) (cA := cA) (α := α) (L := L) (S := (N, R, Fr, inc)) 3 0 (hLk.o 3 (by decide))
  refine k_alen (v := 5) F hW q_654 8 hq_654 rfl rfl dX4_priceFromBuyers_8 ?_
  refine lv_istore (lv' := [(4, .int 5), (3, .ref (α 3 0)), (2, .int (-1)), (0, .ref (α 0 0)), (1, .ref (α 9 j))]) hx hb dX4_priceFromBuyers_9 hl (by decide) rfl (fun ls hl => ?_)
  refine lv_iconst (v := 0) hx hb dX4_priceFromBuyers_11 (by decide) ?_
  refine lv_istore (lv' := [(5, .int 0), (4, .int 5), (3, .ref (α 3 0)), (2, .int (-1)), (0, .ref (α 0 0)), (1, .ref (α 9 j))]) hx hb dX4_priceFromBuyers_12 hl (by decide) rfl (fun ls hl => ?_)
  have hl := lv_chg hl (show Value.int (-1) = .int (pfb R Fr j (min 0 (N 0 2))) from by rw [Nat.zero_min]; rfl) 3 rfl
  have hl : lv_has ls 7 [(5, .int 0), (4, .int 5), (3, .ref (α 3 0)), (2, .int (pfb R Fr j (min 0 (N 0 2)))), (0, .ref (α 0 0)), (1, .ref (α 9 j))] := hl
  refine k_ind (P := fun k H locs ls => ∃ i, i + k = 5 ∧ Cw D cA s (va_A (xWd wr cA α L (N, R, Fr, inc)) s.heap.size) (xWd wr cA α L (N, R, Fr, inc)) H locs ∧ lv_has ls 7 [(0, .ref (α 0 0)), (1, .ref (α 9 j)), (2, .int (pfb R Fr j (min i (N 0 2)))), (3, .ref (α 3 0)), (4, .int 5), (5, .int (nI i))]) (fun k ih H locs ls hP => ?_) (5) ⟨0, by omega, hW, lv_sub hl [4, 5, 3, 2, 1, 0] rfl⟩
  obtain ⟨i, hi_i, hW, hl⟩ := hP
  refine lv_iload hx hb dX4_priceFromBuyers_14 (lv_at hl 5 rfl) ?_
  refine lv_iload hx hb dX4_priceFromBuyers_16 (lv_at hl 4 rfl) ?_
  refine lv_icmp_ge (tgt := 53) hx hb dX4_priceFromBuyers_18 (by decide) (fun h_c => ?_) (fun h_c => ?_)
  · obtain rfl : i = 5 := by have := (nI_leI (b := i) (a := 5) (by omega) (by omega)).mp h_c; omega
    refine lv_iload_n hx hb dX4_priceFromBuyers_53 rfl (lv_at hl 2 rfl) ?_
    exact k_iret () F (hW) (by rw [Nat.min_eq_right (by have := hC; unfold IC at this; omega)]) dX4_priceFromBuyers_54 (Nat.le_of_ble_eq_true rfl) (Nat.le_of_ble_eq_true rfl)
  · have hlt : i < 5 := Nat.lt_of_not_le fun q => h_c (nI_le (a := 5) q (by omega))
    refine lv_aload_n hx hb dX4_priceFromBuyers_21 rfl (lv_at hl 3 rfl) ?_
    refine lv_iload hx hb dX4_priceFromBuyers_22 (lv_at hl 5 rfl) ?_
    by_cases hiv : i < N 0 2
    · obtain ⟨q_655, hq_655⟩ := xw_at (wr := wr) (cA := cA) (α := α) (L := L) (S := (N, R, Fr, inc)) 3 0 (hLk.o 3 (by decide))
      refine k_aaldS (x := (α 10 i)) F hW q_655 hq_655 (tI := 8) rfl (vp_in_nI hlt (by decide)) (by rw [nI_clamp (by omega)]; exact if_pos (hC.lt (by decide) hiv)) dX4_priceFromBuyers_24 ?_
      refine lv_astore (lv' := [(6, .ref (α 10 i)), (0, .ref (α 0 0)), (1, .ref (α 9 j)), (2, .int (pfb R Fr j (min i (N 0 2)))), (3, .ref (α 3 0)), (4, .int 5), (5, .int (nI i))]) hx hb dX4_priceFromBuyers_25 hl (by decide) rfl (fun ls hl => ?_)
      refine lv_aload hx hb dX4_priceFromBuyers_27 (lv_at hl 0 rfl) ?_
      refine lv_ifnull hx hb dX4_priceFromBuyers_29 ?_
      refine lv_iload_n hx hb dX4_priceFromBuyers_32 rfl (lv_at hl 3 rfl) ?_
      refine lv_aload_n hx hb dX4_priceFromBuyers_33 rfl (lv_at hl 1 rfl) ?_
      refine lv_aload hx hb dX4_priceFromBuyers_34 (lv_at hl 0 rfl) ?_
      refine lv_aload_n hx hb dX4_priceFromBuyers_36 rfl (lv_at hl 2 rfl) ?_
      obtain ⟨q_656, hq_656⟩ := xw_at (wr := wr) (cA := cA) (α := α) (L := L) (S := (N, R, Fr, inc)) 10 i (hLk.u 10 i (by decide) (hC.lt (by decide) hiv))
      refine k_callVi (as := [.ref (α 9 j)]) (rest := [.ref (α 0 0), .int (pfb R Fr j (min i (N 0 2)))]) (b := (α 10 i)) (ci := 3) (q0 := q_656) F hW (met_X1_mostFor l D cA wr α L N R Fr inc i j hLk (hC.lt (by decide) hiv) (hC.lt (by decide) hj) (hL _ hj)) rfl ML_X4_332 IM_X1_mostFor SE_X1_mostFor IN_X1 CO_X1_mostFor hdV_X1_mostFor rfl rfl ⟨(Nat.le_of_ble_eq_true rfl), (Nat.le_of_ble_eq_true rfl)⟩ rfl rfl (hq_656) rfl rfl hl.1 (Nat.le_of_ble_eq_true rfl) dX4_priceFromBuyers_37 ⟨(Nat.le_of_ble_eq_true rfl), (Nat.le_of_ble_eq_true rfl)⟩ (fun r_657 u H locs hw hW => ?_)
      subst hw
      obtain ⟨q_658, hq_658⟩ := xw_at (wr := wr) (cA := cA) (α := α) (L := L) (S := (N, R, Fr, inc)) 0 0 (hLk.o 0 (by decide))
      refine k_callVi (as := [.int (mostF R Fr i j)]) (rest := [.int (pfb R Fr j (min i (N 0 2)))]) (b := (α 0 0)) (ci := 6) (q0 := q_658) F hW (met_X4_greatestShownUpTo l D cA wr α L N R Fr inc (mostF R Fr i j) hLk hck) rfl ML_X4_335 IM_X4_greatestShownUpTo SE_X4_greatestShownUpTo IN_X4 CO_X4_greatestShownUpTo hdV_X4_greatestShownUpTo rfl rfl ⟨(Nat.le_of_ble_eq_true rfl), (Nat.le_of_ble_eq_true rfl)⟩ rfl rfl (hq_658) rfl rfl hl.1 (Nat.le_of_ble_eq_true rfl) dX4_priceFromBuyers_40 ⟨(Nat.le_of_ble_eq_true rfl), (Nat.le_of_ble_eq_true rfl)⟩ (fun r_659 u H locs hw hW => ?_)
      subst hw
      refine k_callSi (as := [.int (pfb R Fr j (min i (N 0 2))), .int (gs R (mostF R Fr i j))]) (rest := []) F hW (met_JM_max l D cA _ (pfb R Fr j (min i (N 0 2))) (gs R (mostF R Fr i j))) rfl ML_X4_329 ST_JM_max IN_JM CO_JM_max hdS_JM_max rfl rfl ⟨(Nat.le_of_ble_eq_true rfl), (Nat.le_of_ble_eq_true rfl)⟩ rfl rfl hl.1 (Nat.le_of_ble_eq_true rfl) dX4_priceFromBuyers_43 ⟨(Nat.le_of_ble_eq_true rfl), (Nat.le_of_ble_eq_true rfl)⟩ (fun r_660 u H locs hw hW => ?_)
      subst hw
      refine lv_topi (fun x_661 ex_661 => ?_)
      obtain rfl : x_661 = pfb R Fr j (min (i + 1) (N 0 2)) := ex_661.trans (by rw [Nat.min_eq_left (by omega), Nat.min_eq_left (by omega)]; rfl)
      refine lv_istore_n (lv' := [(2, .int (pfb R Fr j (min (i + 1) (N 0 2)))), (6, .ref (α 10 i)), (0, .ref (α 0 0)), (1, .ref (α 9 j)), (3, .ref (α 3 0)), (4, .int 5), (5, .int (nI i))]) hx hb dX4_priceFromBuyers_46 rfl hl (by decide) rfl (fun ls hl => ?_)
      refine lv_iinc (k := 6) (lv' := [(5, .int (nI (i + 1))), (2, .int (pfb R Fr j (min (i + 1) (N 0 2)))), (6, .ref (α 10 i)), (0, .ref (α 0 0)), (1, .ref (α 9 j)), (3, .ref (α 3 0)), (4, .int 5)]) hx hb dX4_priceFromBuyers_47 hl rfl (nI_1 i) (by decide) rfl (fun ls hl => ?_)
      refine lv_goto (tgt := 14) hx hb dX4_priceFromBuyers_50 (by decide) ?_
      exact ih (k - 1) (by omega) ⟨i + 1, by omega, hW, lv_sub hl [3, 4, 1, 5, 6, 0] rfl⟩
    · obtain ⟨q_662, hq_662⟩ := xw_at (wr := wr) (cA := cA) (α := α) (L := L) (S := (N, R, Fr, inc)) 3 0 (hLk.o 3 (by decide))
      refine k_aaldN F hW q_662 hq_662 (tI := 8) rfl (vp_in_nI hlt (by decide)) (by rw [nI_clamp (by omega)]; exact if_neg (by rw [hC.2.2.2.2.2.1 2 (by decide)]; exact hiv)) dX4_priceFromBuyers_24 ?_
      refine x_astoreQ (r := none) (lv' := [(6, va_rf none), (0, .ref (α 0 0)), (1, .ref (α 9 j)), (2, .int (pfb R Fr j (min i (N 0 2)))), (3, .ref (α 3 0)), (4, .int 5), (5, .int (nI i))]) hx hb dX4_priceFromBuyers_25 hl (by decide) rfl (fun ls hl => ?_)
      refine x_aloadQ (r := none) hx hb dX4_priceFromBuyers_27 (lv_at hl 0 rfl) ?_
      refine lv_ifnullN (tgt := 47) hx hb dX4_priceFromBuyers_29 (by decide) ?_
      rw [show min i (N 0 2) = min (i + 1) (N 0 2) from by rw [Nat.min_eq_right (by omega), Nat.min_eq_right (by omega)]] at hl
      refine lv_iinc (k := 6) (lv' := [(5, .int (nI (i + 1))), (6, va_rf none), (0, .ref (α 0 0)), (1, .ref (α 9 j)), (2, .int (pfb R Fr j (min (i + 1) (N 0 2)))), (3, .ref (α 3 0)), (4, .int 5)]) hx hb dX4_priceFromBuyers_47 hl rfl (nI_1 i) (by decide) rfl (fun ls hl => ?_)
      refine lv_goto (tgt := 14) hx hb dX4_priceFromBuyers_50 (by decide) ?_
      exact ih (k - 1) (by omega) ⟨i + 1, by omega, hW, lv_sub hl [2, 3, 4, 5, 6, 0] rfl⟩

set_option maxHeartbeats 4000000 in
set_option maxRecDepth 100000 in
theorem met_X4_priceByBuyers (l : Launch) (D : va_G) (cA : Nat → ClassId) (wr : va_W) (α : Nat → Nat → Nat) (L : List (Nat × Nat)) (N : Nat → Nat → Nat) (R : Nat → Nat → Nat → Int32) (Fr : Nat → UInt32) (inc : Int64) (p0 : Int32) (z0 : Nat) (hl0 : l.stackTraces = false) (hLk : LOK N L) (hC : IC N) (hL : ∀ j, j < N 0 1 → lotOK R Fr j) (hck : ckOK R) (hpf : ∀ j, j < N 0 1 → pfb R Fr j (N 0 2) = falls N R Fr j) : MetXI z0 l yX4_priceByBuyers (.code yX4_priceByBuyers cX4_priceByBuyers 3 (some .int) :: LW) ({ frames := 8, cells := 3, slots := 18, locals := 133 }) D cA (xWd wr cA α L (N, R, Fr, inc)) [.ref (α 0 0), .int p0] (fun r (_ : Unit) => (op_price (N, R, Fr, inc) p0).1 = 0 ∧ r = (op_price (N, R, Fr, inc) p0).2.1) (fun _ => xWd wr cA α L (op_price (N, R, Fr, inc) p0).2.2) (fun E => ¬ (op_price (N, R, Fr, inc) p0).1 = 0 ∧ E = exOf [nE, "java/lang/IllegalStateException", "java/lang/UnsupportedOperationException"] (op_price (N, R, Fr, inc) p0).1) 3 18 := by
  refine k_bodyX hl0 (by decide) (Nat.le_of_ble_eq_true rfl) (fun p e s m args below meth c ls F G hW hl => ?_)
  obtain ⟨hx, hb, hr, hml, hown, hts, hlocks, hname⟩ := id F
  have hl : lv_has ls 3 [(0, .ref (α 0 0)), (1, .int p0)] := hl
  refine lv_aload_n hx hb dX4_priceByBuyers_0 rfl (lv_at hl 0 rfl) ?_
  refine lv_aload_n hx hb dX4_priceByBuyers_1 rfl (lv_at hl 0 rfl) ?_
  refine lv_iload_n hx hb dX4_priceByBuyers_2 rfl (lv_at hl 1 rfl) ?_
  obtain ⟨q_664, hq_664⟩ := xw_at (wr := wr) (cA := cA) (α := α) (L := L) (S := (N, R, Fr, inc)) 0 0 (hLk.o 0 (by decide))
  refine k_cXVr (as := [.int p0]) (rest := [.ref (α 0 0)]) (b := (α 0 0)) (ci := 6) (q0 := q_664) F G hW (met_X4_lotForSale l D cA wr α L N R Fr inc p0 z0 hl0 hLk hC) rfl ML_X4_214 IM_X4_lotForSale SE_X4_lotForSale IN_X4 CO_X4_lotForSale hdV_X4_lotForSale rfl rfl ⟨(Nat.le_of_ble_eq_true rfl), (Nat.le_of_ble_eq_true rfl)⟩ rfl rfl (hq_664) rfl rfl dX4_priceByBuyers_3 hl.1 (Nat.le_of_ble_eq_true rfl) ⟨(Nat.le_of_ble_eq_true rfl), (Nat.le_of_ble_eq_true rfl)⟩ (fun E h => by
      rcases h with ⟨rfl, hix⟩ | ⟨rfl, hix, hs⟩
      · have hop : op_price (N, R, Fr, inc) p0 = (1, 0, (N, R, Fr, inc)) := by simp [op_price, faultOf, hix]
        exact ⟨by rw [hop]; exact Nat.succ_ne_zero _, by rw [hop]; rfl⟩
      · have hop : op_price (N, R, Fr, inc) p0 = (2, 0, (N, R, Fr, inc)) := by simp [op_price, faultOf, hix, hs]
        exact ⟨by rw [hop]; exact Nat.succ_ne_zero _, by rw [hop]; rfl⟩) ⟨(Nat.le_of_ble_eq_true rfl), (Nat.le_of_ble_eq_true rfl)⟩ (fun r_663 u H locs hw hW => ?_)
  obtain ⟨hix, hst, rfl⟩ := hw
  have hj0 := (ix_lt hix (by have := hC; unfold IC at this; omega)).1
  obtain ⟨q_665, hq_665⟩ := xw_at (wr := wr) (cA := cA) (α := α) (L := L) (S := (N, R, Fr, inc)) 0 0 (hLk.o 0 (by decide))
  refine k_callVi (as := [.ref (α 9 (ix p0))]) (rest := []) (b := (α 0 0)) (ci := 6) (q0 := q_665) F hW (met_X4_priceFromBuyers l D cA wr α L N R Fr inc (ix p0) hLk hC hL hj0 hck) rfl ML_X4_222 IM_X4_priceFromBuyers SE_X4_priceFromBuyers IN_X4 CO_X4_priceFromBuyers hdV_X4_priceFromBuyers rfl rfl ⟨(Nat.le_of_ble_eq_true rfl), (Nat.le_of_ble_eq_true rfl)⟩ rfl rfl (hq_665) rfl rfl hl.1 (Nat.le_of_ble_eq_true rfl) dX4_priceByBuyers_6 ⟨(Nat.le_of_ble_eq_true rfl), (Nat.le_of_ble_eq_true rfl)⟩ (fun r_666 u H locs hw hW => ?_)
  rw [hpf _ hj0] at hw
  subst hw
  refine lv_istore_n (lv' := [(2, .int (falls N R Fr (ix p0))), (0, .ref (α 0 0)), (1, .int p0)]) hx hb dX4_priceByBuyers_9 rfl hl (by decide) rfl (fun ls hl => ?_)
  refine lv_iload_n hx hb dX4_priceByBuyers_10 rfl (lv_at hl 0 rfl) ?_
  refine lv_iconst (v := (-1)) hx hb dX4_priceByBuyers_11 (by decide) ?_
  refine lv_icmp_ne (tgt := 25) hx hb dX4_priceByBuyers_12 (by decide) (fun h_f => ?_) (fun h_f => ?_)
  · refine lv_iload_n hx hb dX4_priceByBuyers_25 rfl (lv_at hl 0 rfl) ?_
    have hop : op_price (N, R, Fr, inc) p0 = (0, falls N R Fr (ix p0), (N, R, Fr, inc)) := by simp [op_price, faultOf, hix, hst, h_f]
    refine vx_ret ?_
    exact k_iret () F (hW.eq (by rw [hop])) (⟨by rw [hop], by rw [hop]⟩) dX4_priceByBuyers_26 (Nat.le_of_ble_eq_true rfl) (Nat.le_of_ble_eq_true rfl)
  · have hop : op_price (N, R, Fr, inc) p0 = (3, 0, (N, R, Fr, inc)) := by simp [op_price, faultOf, hix, hst, h_f]
    exact k_throwS F G hW rfl (by decide) CL_X4_106 IN_E_UnsupportedOperationException (List.mem_of_getElem? (i := 15) rfl) hat_UnsupportedOperation good_UnsupportedOperation hl.1 (Nat.le_of_ble_eq_true rfl) dX4_priceByBuyers_15 dX4_priceByBuyers_18 dX4_priceByBuyers_19 dX4_priceByBuyers_21 dX4_priceByBuyers_24 (⟨by rw [hop]; exact Nat.succ_ne_zero _, by rw [hop]; rfl⟩) ⟨(Nat.le_of_ble_eq_true rfl), (Nat.le_of_ble_eq_true rfl), (Nat.le_of_ble_eq_true rfl), (Nat.le_of_ble_eq_true rfl)⟩ ⟨(Nat.le_of_ble_eq_true rfl), (Nat.le_of_ble_eq_true rfl)⟩

set_option maxHeartbeats 4000000 in
set_option maxRecDepth 100000 in
theorem met_X4_arePricesSound (l : Launch) (D : va_G) (cA : Nat → ClassId) (wr : va_W) (α : Nat → Nat → Nat) (L : List (Nat × Nat)) (N : Nat → Nat → Nat) (R : Nat → Nat → Nat → Int32) (Fr : Nat → UInt32) (inc : Int64) (hLk : LOK N L) (hC : IC N) (hL : ∀ i, i < N 0 1 → lotOK R Fr i) (hck : ckOK R) (hpf : ∀ j, j < N 0 1 → pfb R Fr j (N 0 2) = falls N R Fr j) : MetI l yX4_arePricesSound (.code yX4_arePricesSound cX4_arePricesSound 5 (some .boolean) :: LW) ({ frames := 3, cells := 0, slots := 0, locals := 75 }) D cA (xWd wr cA α L (N, R, Fr, inc)) [.ref (α 0 0)] (fun r (_ : Unit) => r = 1) (fun _ => xWd wr cA α L (N, R, Fr, inc)) 0 0 := by
  refine k_bodyI (plainFor_of_name (by decide)) (Nat.le_of_ble_eq_true rfl) (fun p e s m args below meth c ls F hW hl => ?_)
  obtain ⟨hx, hb, hr, hml, hown, hts, hlocks, hname⟩ := id F
  have hl : lv_has ls 5 [(0, .ref (α 0 0))] := hl
  refine lv_aload_n hx hb dX4_arePricesSound_0 rfl (lv_at hl 0 rfl) ?_
  obtain ⟨q_667, hq_667⟩ := xw_at (wr := wr) (cA := cA) (α := α) (L := L) (S := (N, R, Fr, inc)) 0 0 (hLk.o 0 (by decide))
  refine k_get (v := .ref (α 2 0)) F hW inX4 rfl q_667 hq_667 rfl 1 (by decide) FL_X4_17 rfl rfl dX4_arePricesSound_1 ?_
  refine lv_astore_n (lv' := [(1, .ref (α 2 0)), (0, .ref (α 0 0))]) hx hb dX4_arePricesSound_4 rfl hl (by decide) rfl (fun ls hl => ?_)
  refine lv_aload_n hx hb dX4_arePricesSound_5 rfl (lv_at hl 0 rfl) ?_
  obtain ⟨q_668, hq_668⟩ := xw_at (wr := wr) (cA := cA) (α := α) (L := L) (S := (N, R, Fr, inc)) 2 0 (hLk.o 2 (by decide))
  refine k_alen (v := 20) F hW q_668 7 hq_668 rfl rfl dX4_arePricesSound_6 ?_
  refine lv_istore_n (lv' := [(2, .int 20), (1, .ref (α 2 0)), (0, .ref (α 0 0))]) hx hb dX4_arePricesSound_7 rfl hl (by decide) rfl (fun ls hl => ?_)
  refine lv_iconst (v := 0) hx hb dX4_arePricesSound_8 (by decide) ?_
  refine lv_istore_n (lv' := [(3, .int 0), (2, .int 20), (1, .ref (α 2 0)), (0, .ref (α 0 0))]) hx hb dX4_arePricesSound_9 rfl hl (by decide) rfl (fun ls hl => ?_)
  refine k_ind (P := fun k H locs ls => ∃ i, i + k = 20 ∧ Cw D cA s (va_A (xWd wr cA α L (N, R, Fr, inc)) s.heap.size) (xWd wr cA α L (N, R, Fr, inc)) H locs ∧ lv_has ls 5 [(0, .ref (α 0 0)), (1, .ref (α 2 0)), (2, .int 20), (3, .int (nI i))]) (fun k ih H locs ls hP => ?_) (20) ⟨0, by omega, hW, lv_sub hl [3, 2, 1, 0] rfl⟩
  obtain ⟨i, hi_i, hW, hl⟩ := hP
  refine lv_iload_n hx hb dX4_arePricesSound_10 rfl (lv_at hl 3 rfl) ?_
  refine lv_iload_n hx hb dX4_arePricesSound_11 rfl (lv_at hl 2 rfl) ?_
  refine lv_icmp_ge (tgt := 58) hx hb dX4_arePricesSound_12 (by decide) (fun h_c => ?_) (fun h_c => ?_)
  · obtain rfl : i = 20 := by have := (nI_leI (b := i) (a := 20) (by omega) (by omega)).mp h_c; omega
    refine lv_iconst (v := 1) hx hb dX4_arePricesSound_58 (by decide) ?_
    exact k_zret () F (by rfl) (hW) (rfl) dX4_arePricesSound_59 (Nat.le_of_ble_eq_true rfl) (Nat.le_of_ble_eq_true rfl)
  · have hlt : i < 20 := Nat.lt_of_not_le fun q => h_c (nI_le (a := 20) q (by omega))
    refine lv_aload_n hx hb dX4_arePricesSound_15 rfl (lv_at hl 1 rfl) ?_
    refine lv_iload_n hx hb dX4_arePricesSound_16 rfl (lv_at hl 3 rfl) ?_
    by_cases hiv : i < N 0 1
    · obtain ⟨q_669, hq_669⟩ := xw_at (wr := wr) (cA := cA) (α := α) (L := L) (S := (N, R, Fr, inc)) 2 0 (hLk.o 2 (by decide))
      refine k_aaldS (x := (α 9 i)) F hW q_669 hq_669 (tI := 7) rfl (vp_in_nI hlt (by decide)) (by rw [nI_clamp (by omega)]; exact if_pos (hC.lt (by decide) hiv)) dX4_arePricesSound_17 ?_
      refine lv_astore (lv' := [(4, .ref (α 9 i)), (0, .ref (α 0 0)), (1, .ref (α 2 0)), (2, .int 20), (3, .int (nI i))]) hx hb dX4_arePricesSound_18 hl (by decide) rfl (fun ls hl => ?_)
      refine lv_aload hx hb dX4_arePricesSound_20 (lv_at hl 0 rfl) ?_
      refine lv_ifnull hx hb dX4_arePricesSound_22 ?_
      refine lv_aload hx hb dX4_arePricesSound_25 (lv_at hl 0 rfl) ?_
      obtain ⟨q_670, hq_670⟩ := xw_at (wr := wr) (cA := cA) (α := α) (L := L) (S := (N, R, Fr, inc)) 9 i (hLk.l i (hC.lt (by decide) hiv))
      refine k_get (v := .int (R 9 i 0)) F hW inX2 rfl q_670 hq_670 rfl 6 (by decide) FL_X4_152 rfl rfl dX4_arePricesSound_27 ?_
      refine lv_bipush (v := 102) hx hb dX4_arePricesSound_30 (by decide) ?_
      refine lv_icmp_ne (tgt := 52) hx hb dX4_arePricesSound_32 (by decide) (fun h_s => ?_) (fun h_s => ?_)
      · refine lv_iinc (k := 4) (lv' := [(3, .int (nI (i + 1))), (4, .ref (α 9 i)), (0, .ref (α 0 0)), (1, .ref (α 2 0)), (2, .int 20)]) hx hb dX4_arePricesSound_52 hl rfl (nI_1 i) (by decide) rfl (fun ls hl => ?_)
        refine lv_goto (tgt := 10) hx hb dX4_arePricesSound_55 (by decide) ?_
        exact ih (k - 1) (by omega) ⟨i + 1, by omega, hW, lv_sub hl [2, 3, 4, 0] rfl⟩
      · refine lv_aload_n hx hb dX4_arePricesSound_35 rfl (lv_at hl 1 rfl) ?_
        refine lv_aload hx hb dX4_arePricesSound_36 (lv_at hl 0 rfl) ?_
        obtain ⟨q_671, hq_671⟩ := xw_at (wr := wr) (cA := cA) (α := α) (L := L) (S := (N, R, Fr, inc)) 0 0 (hLk.o 0 (by decide))
        refine k_callVi (as := [.ref (α 9 i)]) (rest := []) (b := (α 0 0)) (ci := 6) (q0 := q_671) F hW (met_X4_priceOnClock l D cA wr α L N R Fr inc i hLk hC hL hiv hck) rfl ML_X4_217 IM_X4_priceOnClock SE_X4_priceOnClock IN_X4 CO_X4_priceOnClock hdV_X4_priceOnClock rfl rfl ⟨(Nat.le_of_ble_eq_true rfl), (Nat.le_of_ble_eq_true rfl)⟩ rfl rfl (hq_671) rfl rfl hl.1 (Nat.le_of_ble_eq_true rfl) dX4_arePricesSound_38 ⟨(Nat.le_of_ble_eq_true rfl), (Nat.le_of_ble_eq_true rfl)⟩ (fun r_672 u H locs hw hW => ?_)
        subst hw
        refine lv_aload_n hx hb dX4_arePricesSound_41 rfl (lv_at hl 1 rfl) ?_
        refine lv_aload hx hb dX4_arePricesSound_42 (lv_at hl 0 rfl) ?_
        obtain ⟨q_673, hq_673⟩ := xw_at (wr := wr) (cA := cA) (α := α) (L := L) (S := (N, R, Fr, inc)) 0 0 (hLk.o 0 (by decide))
        refine k_callVi (as := [.ref (α 9 i)]) (rest := [.int (falls N R Fr i)]) (b := (α 0 0)) (ci := 6) (q0 := q_673) F hW (met_X4_priceFromBuyers l D cA wr α L N R Fr inc i hLk hC hL hiv hck) rfl ML_X4_222 IM_X4_priceFromBuyers SE_X4_priceFromBuyers IN_X4 CO_X4_priceFromBuyers hdV_X4_priceFromBuyers rfl rfl ⟨(Nat.le_of_ble_eq_true rfl), (Nat.le_of_ble_eq_true rfl)⟩ rfl rfl (hq_673) rfl rfl hl.1 (Nat.le_of_ble_eq_true rfl) dX4_arePricesSound_44 ⟨(Nat.le_of_ble_eq_true rfl), (Nat.le_of_ble_eq_true rfl)⟩ (fun r_674 u H locs hw hW => ?_)
        rw [hpf _ hiv] at hw
        subst hw
        refine lv_icmp_eq (tgt := 52) hx hb dX4_arePricesSound_47 (by decide) (fun _ => ?_) (fun h => absurd (rfl) h)
        refine lv_iinc (k := 4) (lv' := [(3, .int (nI (i + 1))), (4, .ref (α 9 i)), (0, .ref (α 0 0)), (1, .ref (α 2 0)), (2, .int 20)]) hx hb dX4_arePricesSound_52 hl rfl (nI_1 i) (by decide) rfl (fun ls hl => ?_)
        refine lv_goto (tgt := 10) hx hb dX4_arePricesSound_55 (by decide) ?_
        exact ih (k - 1) (by omega) ⟨i + 1, by omega, hW, lv_sub hl [2, 3, 4, 0] rfl⟩
    · obtain ⟨q_675, hq_675⟩ := xw_at (wr := wr) (cA := cA) (α := α) (L := L) (S := (N, R, Fr, inc)) 2 0 (hLk.o 2 (by decide))
      refine k_aaldN F hW q_675 hq_675 (tI := 7) rfl (vp_in_nI hlt (by decide)) (by rw [nI_clamp (by omega)]; exact if_neg (by rw [hC.2.2.2.2.2.1 1 (by decide)]; exact hiv)) dX4_arePricesSound_17 ?_
      refine x_astoreQ (r := none) (lv' := [(4, va_rf none), (0, .ref (α 0 0)), (1, .ref (α 2 0)), (2, .int 20), (3, .int (nI i))]) hx hb dX4_arePricesSound_18 hl (by decide) rfl (fun ls hl => ?_)
      refine x_aloadQ (r := none) hx hb dX4_arePricesSound_20 (lv_at hl 0 rfl) ?_
      refine lv_ifnullN (tgt := 52) hx hb dX4_arePricesSound_22 (by decide) ?_
      refine lv_iinc (k := 4) (lv' := [(3, .int (nI (i + 1))), (4, va_rf none), (0, .ref (α 0 0)), (1, .ref (α 2 0)), (2, .int 20)]) hx hb dX4_arePricesSound_52 hl rfl (nI_1 i) (by decide) rfl (fun ls hl => ?_)
      refine lv_goto (tgt := 10) hx hb dX4_arePricesSound_55 (by decide) ?_
      exact ih (k - 1) (by omega) ⟨i + 1, by omega, hW, lv_sub hl [2, 3, 4, 0] rfl⟩

set_option maxHeartbeats 4000000 in
set_option maxRecDepth 100000 in
theorem met_X4_isQuotaSound (l : Launch) (D : va_G) (cA : Nat → ClassId) (wr : va_W) (α : Nat → Nat → Nat) (L : List (Nat × Nat)) (N : Nat → Nat → Nat) (R : Nat → Nat → Nat → Int32) (Fr : Nat → UInt32) (inc : Int64) (b : Nat) (hLk : LOK N L) (hC : IC N) (hb0 : b < N 0 0) (hQ : ∀ b, b < N 0 0 → ∀ q, q < 4 → R 1 b q + wsum R (byB R b (nI q)) (N 0 1) = R 3 b q) : MetI l yX4_isQuotaSound (.code yX4_isQuotaSound cX4_isQuotaSound 3 (some .boolean) :: LW) ({ frames := 1, cells := 0, slots := 0, locals := 27 }) D cA (xWd wr cA α L (N, R, Fr, inc)) [.ref (α 0 0), .ref (α 5 b)] (fun r (_ : Unit) => r = 1) (fun _ => xWd wr cA α L (N, R, Fr, inc)) 0 0 := by
  refine k_bodyI (plainFor_of_name (by decide)) (Nat.le_of_ble_eq_true rfl) (fun p e s m args below meth c ls F hW hl => ?_)
  obtain ⟨hx, hb, hr, hml, hown, hts, hlocks, hname⟩ := id F
  have hl : lv_has ls 3 [(0, .ref (α 0 0)), (1, .ref (α 5 b))] := hl
  refine lv_iconst (v := 0) hx hb dX4_isQuotaSound_0 (by decide) ?_
  refine lv_istore_n (lv' := [(2, .int 0), (0, .ref (α 0 0)), (1, .ref (α 5 b))]) hx hb dX4_isQuotaSound_1 rfl hl (by decide) rfl (fun ls hl => ?_)
  refine k_ind (P := fun k H locs ls => ∃ q, q + k = 4 ∧ Cw D cA s (va_A (xWd wr cA α L (N, R, Fr, inc)) s.heap.size) (xWd wr cA α L (N, R, Fr, inc)) H locs ∧ lv_has ls 3 [(0, .ref (α 0 0)), (1, .ref (α 5 b)), (2, .int (nI q))]) (fun k ih H locs ls hP => ?_) (4) ⟨0, by omega, hW, lv_sub hl [1, 2, 0] rfl⟩
  obtain ⟨q, hi_q, hW, hl⟩ := hP
  refine lv_iload_n hx hb dX4_isQuotaSound_2 rfl (lv_at hl 2 rfl) ?_
  refine lv_iconst (v := 4) hx hb dX4_isQuotaSound_3 (by decide) ?_
  refine lv_icmp_ge (tgt := 37) hx hb dX4_isQuotaSound_4 (by decide) (fun h_c => ?_) (fun h_c => ?_)
  · obtain rfl : q = 4 := by have := (nI_leI (b := q) (a := 4) (by omega) (by omega)).mp h_c; omega
    refine lv_iconst (v := 1) hx hb dX4_isQuotaSound_37 (by decide) ?_
    exact k_zret () F (by rfl) (hW) (rfl) dX4_isQuotaSound_38 (Nat.le_of_ble_eq_true rfl) (Nat.le_of_ble_eq_true rfl)
  · have hlt : q < 4 := Nat.lt_of_not_le fun q => h_c (nI_le (a := 4) q (by omega))
    refine lv_aload_n hx hb dX4_isQuotaSound_7 rfl (lv_at hl 1 rfl) ?_
    obtain ⟨q_676, hq_676⟩ := xw_at (wr := wr) (cA := cA) (α := α) (L := L) (S := (N, R, Fr, inc)) 5 b (hLk.b 5 b (by decide) (hC.lt (by decide) hb0))
    refine k_get (v := .ref (α 6 b)) F hW inX0 rfl q_676 hq_676 rfl 1 (by decide) FL_X4_102 rfl rfl dX4_isQuotaSound_8 ?_
    refine lv_iload_n hx hb dX4_isQuotaSound_11 rfl (lv_at hl 2 rfl) ?_
    obtain ⟨q_677, hq_677⟩ := xw_at (wr := wr) (cA := cA) (α := α) (L := L) (S := (N, R, Fr, inc)) 6 b (hLk.b 6 b (by decide) (hC.lt (by decide) hb0))
    refine k_iald (v := R 1 b q) F hW q_677 hq_677 (vp_in_nI hlt (by decide)) (by rw [nI_clamp (by omega)]) dX4_isQuotaSound_12 ?_
    refine lv_aload_n hx hb dX4_isQuotaSound_13 rfl (lv_at hl 0 rfl) ?_
    refine lv_aload_n hx hb dX4_isQuotaSound_14 rfl (lv_at hl 1 rfl) ?_
    refine lv_iload_n hx hb dX4_isQuotaSound_15 rfl (lv_at hl 2 rfl) ?_
    obtain ⟨q_678, hq_678⟩ := xw_at (wr := wr) (cA := cA) (α := α) (L := L) (S := (N, R, Fr, inc)) 0 0 (hLk.o 0 (by decide))
    refine k_callVi (as := [.ref (α 5 b), .int (nI q)]) (rest := [.int (R 1 b q)]) (b := (α 0 0)) (ci := 6) (q0 := q_678) F hW (met_X4_landedBy l D cA wr α L N R Fr inc b (nI q) hLk hC (hC.lt (by decide) hb0)) rfl ML_X4_353 IM_X4_landedBy SE_X4_landedBy IN_X4 CO_X4_landedBy hdV_X4_landedBy rfl rfl ⟨(Nat.le_of_ble_eq_true rfl), (Nat.le_of_ble_eq_true rfl)⟩ rfl rfl (hq_678) rfl rfl hl.1 (Nat.le_of_ble_eq_true rfl) dX4_isQuotaSound_16 ⟨(Nat.le_of_ble_eq_true rfl), (Nat.le_of_ble_eq_true rfl)⟩ (fun r_679 u H locs hw hW => ?_)
    subst hw
    refine lv_iadd hx hb dX4_isQuotaSound_19 ?_
    refine lv_aload_n hx hb dX4_isQuotaSound_20 rfl (lv_at hl 1 rfl) ?_
    obtain ⟨q_680, hq_680⟩ := xw_at (wr := wr) (cA := cA) (α := α) (L := L) (S := (N, R, Fr, inc)) 5 b (hLk.b 5 b (by decide) (hC.lt (by decide) hb0))
    refine k_get (v := .ref (α 7 b)) F hW inX0 rfl q_680 hq_680 rfl 2 (by decide) FL_X4_357 rfl rfl dX4_isQuotaSound_21 ?_
    refine lv_iload_n hx hb dX4_isQuotaSound_24 rfl (lv_at hl 2 rfl) ?_
    obtain ⟨q_681, hq_681⟩ := xw_at (wr := wr) (cA := cA) (α := α) (L := L) (S := (N, R, Fr, inc)) 7 b (hLk.b 7 b (by decide) (hC.lt (by decide) hb0))
    refine k_iald (v := R 3 b q) F hW q_681 hq_681 (vp_in_nI hlt (by decide)) (by rw [nI_clamp (by omega)]) dX4_isQuotaSound_25 ?_
    refine lv_icmp_eq (tgt := 31) hx hb dX4_isQuotaSound_26 (by decide) (fun _ => ?_) (fun h => absurd (hQ b hb0 q hlt) h)
    refine lv_iinc (k := 2) (lv' := [(2, .int (nI (q + 1))), (0, .ref (α 0 0)), (1, .ref (α 5 b))]) hx hb dX4_isQuotaSound_31 hl rfl (nI_1 q) (by decide) rfl (fun ls hl => ?_)
    refine lv_goto (tgt := 2) hx hb dX4_isQuotaSound_34 (by decide) ?_
    exact ih (k - 1) (by omega) ⟨q + 1, by omega, hW, lv_sub hl [1, 2, 0] rfl⟩

set_option maxHeartbeats 4000000 in
set_option maxRecDepth 100000 in
theorem met_X4_areQuotasSound (l : Launch) (D : va_G) (cA : Nat → ClassId) (wr : va_W) (α : Nat → Nat → Nat) (L : List (Nat × Nat)) (N : Nat → Nat → Nat) (R : Nat → Nat → Nat → Int32) (Fr : Nat → UInt32) (inc : Int64) (hLk : LOK N L) (hC : IC N) (hQ : ∀ b, b < N 0 0 → ∀ q, q < 4 → R 1 b q + wsum R (byB R b (nI q)) (N 0 1) = R 3 b q) : MetI l yX4_areQuotasSound (.code yX4_areQuotasSound cX4_areQuotasSound 5 (some .boolean) :: LW) ({ frames := 2, cells := 0, slots := 0, locals := 49 }) D cA (xWd wr cA α L (N, R, Fr, inc)) [.ref (α 0 0)] (fun r (_ : Unit) => r = 1) (fun _ => xWd wr cA α L (N, R, Fr, inc)) 0 0 := by
  refine k_bodyI (plainFor_of_name (by decide)) (Nat.le_of_ble_eq_true rfl) (fun p e s m args below meth c ls F hW hl => ?_)
  obtain ⟨hx, hb, hr, hml, hown, hts, hlocks, hname⟩ := id F
  have hl : lv_has ls 5 [(0, .ref (α 0 0))] := hl
  refine lv_aload_n hx hb dX4_areQuotasSound_0 rfl (lv_at hl 0 rfl) ?_
  obtain ⟨q_682, hq_682⟩ := xw_at (wr := wr) (cA := cA) (α := α) (L := L) (S := (N, R, Fr, inc)) 0 0 (hLk.o 0 (by decide))
  refine k_get (v := .ref (α 1 0)) F hW inX4 rfl q_682 hq_682 rfl 0 (by decide) FL_X4_11 rfl rfl dX4_areQuotasSound_1 ?_
  refine lv_astore_n (lv' := [(1, .ref (α 1 0)), (0, .ref (α 0 0))]) hx hb dX4_areQuotasSound_4 rfl hl (by decide) rfl (fun ls hl => ?_)
  refine lv_aload_n hx hb dX4_areQuotasSound_5 rfl (lv_at hl 0 rfl) ?_
  obtain ⟨q_683, hq_683⟩ := xw_at (wr := wr) (cA := cA) (α := α) (L := L) (S := (N, R, Fr, inc)) 1 0 (hLk.o 1 (by decide))
  refine k_alen (v := 6) F hW q_683 6 hq_683 rfl rfl dX4_areQuotasSound_6 ?_
  refine lv_istore_n (lv' := [(2, .int 6), (1, .ref (α 1 0)), (0, .ref (α 0 0))]) hx hb dX4_areQuotasSound_7 rfl hl (by decide) rfl (fun ls hl => ?_)
  refine lv_iconst (v := 0) hx hb dX4_areQuotasSound_8 (by decide) ?_
  refine lv_istore_n (lv' := [(3, .int 0), (2, .int 6), (1, .ref (α 1 0)), (0, .ref (α 0 0))]) hx hb dX4_areQuotasSound_9 rfl hl (by decide) rfl (fun ls hl => ?_)
  refine k_ind (P := fun k H locs ls => ∃ i, i + k = 6 ∧ Cw D cA s (va_A (xWd wr cA α L (N, R, Fr, inc)) s.heap.size) (xWd wr cA α L (N, R, Fr, inc)) H locs ∧ lv_has ls 5 [(0, .ref (α 0 0)), (1, .ref (α 1 0)), (2, .int 6), (3, .int (nI i))]) (fun k ih H locs ls hP => ?_) (6) ⟨0, by omega, hW, lv_sub hl [3, 2, 1, 0] rfl⟩
  obtain ⟨i, hi_i, hW, hl⟩ := hP
  refine lv_iload_n hx hb dX4_areQuotasSound_10 rfl (lv_at hl 3 rfl) ?_
  refine lv_iload_n hx hb dX4_areQuotasSound_11 rfl (lv_at hl 2 rfl) ?_
  refine lv_icmp_ge (tgt := 42) hx hb dX4_areQuotasSound_12 (by decide) (fun h_c => ?_) (fun h_c => ?_)
  · obtain rfl : i = 6 := by have := (nI_leI (b := i) (a := 6) (by omega) (by omega)).mp h_c; omega
    refine lv_iconst (v := 1) hx hb dX4_areQuotasSound_42 (by decide) ?_
    exact k_zret () F (by rfl) (hW) (rfl) dX4_areQuotasSound_43 (Nat.le_of_ble_eq_true rfl) (Nat.le_of_ble_eq_true rfl)
  · have hlt : i < 6 := Nat.lt_of_not_le fun q => h_c (nI_le (a := 6) q (by omega))
    refine lv_aload_n hx hb dX4_areQuotasSound_15 rfl (lv_at hl 1 rfl) ?_
    refine lv_iload_n hx hb dX4_areQuotasSound_16 rfl (lv_at hl 3 rfl) ?_
    by_cases hiv : i < N 0 0
    · obtain ⟨q_684, hq_684⟩ := xw_at (wr := wr) (cA := cA) (α := α) (L := L) (S := (N, R, Fr, inc)) 1 0 (hLk.o 1 (by decide))
      refine k_aaldS (x := (α 5 i)) F hW q_684 hq_684 (tI := 6) rfl (vp_in_nI hlt (by decide)) (by rw [nI_clamp (by omega)]; exact if_pos (hC.lt (by decide) hiv)) dX4_areQuotasSound_17 ?_
      refine lv_astore (lv' := [(4, .ref (α 5 i)), (0, .ref (α 0 0)), (1, .ref (α 1 0)), (2, .int 6), (3, .int (nI i))]) hx hb dX4_areQuotasSound_18 hl (by decide) rfl (fun ls hl => ?_)
      refine lv_aload hx hb dX4_areQuotasSound_20 (lv_at hl 0 rfl) ?_
      refine lv_ifnull hx hb dX4_areQuotasSound_22 ?_
      refine lv_aload_n hx hb dX4_areQuotasSound_25 rfl (lv_at hl 1 rfl) ?_
      refine lv_aload hx hb dX4_areQuotasSound_26 (lv_at hl 0 rfl) ?_
      obtain ⟨q_685, hq_685⟩ := xw_at (wr := wr) (cA := cA) (α := α) (L := L) (S := (N, R, Fr, inc)) 0 0 (hLk.o 0 (by decide))
      refine k_callVi (as := [.ref (α 5 i)]) (rest := []) (b := (α 0 0)) (ci := 6) (q0 := q_685) F hW (met_X4_isQuotaSound l D cA wr α L N R Fr inc i hLk hC hiv hQ) rfl ML_X4_349 IM_X4_isQuotaSound SE_X4_isQuotaSound IN_X4 CO_X4_isQuotaSound hdV_X4_isQuotaSound rfl rfl ⟨(Nat.le_of_ble_eq_true rfl), (Nat.le_of_ble_eq_true rfl)⟩ rfl rfl (hq_685) rfl rfl hl.1 (Nat.le_of_ble_eq_true rfl) dX4_areQuotasSound_28 ⟨(Nat.le_of_ble_eq_true rfl), (Nat.le_of_ble_eq_true rfl)⟩ (fun r_686 u H locs hw hW => ?_)
      subst hw
      refine lv_if_ne (tgt := 36) hx hb dX4_areQuotasSound_31 (by decide) (fun _ => ?_) (fun h => absurd h (by decide))
      refine lv_iinc (k := 4) (lv' := [(3, .int (nI (i + 1))), (4, .ref (α 5 i)), (0, .ref (α 0 0)), (1, .ref (α 1 0)), (2, .int 6)]) hx hb dX4_areQuotasSound_36 hl rfl (nI_1 i) (by decide) rfl (fun ls hl => ?_)
      refine lv_goto (tgt := 10) hx hb dX4_areQuotasSound_39 (by decide) ?_
      exact ih (k - 1) (by omega) ⟨i + 1, by omega, hW, lv_sub hl [2, 3, 4, 0] rfl⟩
    · obtain ⟨q_687, hq_687⟩ := xw_at (wr := wr) (cA := cA) (α := α) (L := L) (S := (N, R, Fr, inc)) 1 0 (hLk.o 1 (by decide))
      refine k_aaldN F hW q_687 hq_687 (tI := 6) rfl (vp_in_nI hlt (by decide)) (by rw [nI_clamp (by omega)]; exact if_neg (by rw [hC.2.2.2.2.2.1 0 (by decide)]; exact hiv)) dX4_areQuotasSound_17 ?_
      refine x_astoreQ (r := none) (lv' := [(4, va_rf none), (0, .ref (α 0 0)), (1, .ref (α 1 0)), (2, .int 6), (3, .int (nI i))]) hx hb dX4_areQuotasSound_18 hl (by decide) rfl (fun ls hl => ?_)
      refine x_aloadQ (r := none) hx hb dX4_areQuotasSound_20 (lv_at hl 0 rfl) ?_
      refine lv_ifnullN (tgt := 36) hx hb dX4_areQuotasSound_22 (by decide) ?_
      refine lv_iinc (k := 4) (lv' := [(3, .int (nI (i + 1))), (4, va_rf none), (0, .ref (α 0 0)), (1, .ref (α 1 0)), (2, .int 6)]) hx hb dX4_areQuotasSound_36 hl rfl (nI_1 i) (by decide) rfl (fun ls hl => ?_)
      refine lv_goto (tgt := 10) hx hb dX4_areQuotasSound_39 (by decide) ?_
      exact ih (k - 1) (by omega) ⟨i + 1, by omega, hW, lv_sub hl [2, 3, 4, 0] rfl⟩
