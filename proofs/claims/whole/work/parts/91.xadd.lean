theorem hour_le {t : Nat} {v : Int32} (h : t + 1 < 2 ^ 31) : nI t + 1 ≤ v ↔ nI t < v := by
  rw [nI_1, Int32.le_iff_toInt_le, Int32.lt_iff_toInt_lt, nI_toInt h, nI_toInt (by omega)]
  omega
theorem hour_f1 {t : Nat} {v : Int32} (h : t + 1 < 2 ^ 31) (h1 : v ≤ nI t) : wi v (nI t + 1) 1000 = false := by
  simp only [wi, Bool.and_eq_false_iff, decide_eq_false_iff_not]
  exact Or.inl fun q => absurd ((hour_le h).mp q) (Int32.not_lt.mpr h1)
theorem hour_f2 {t : Nat} {v : Int32} (h1 : v > 1000) : wi v (nI t + 1) 1000 = false := by
  simp only [wi, Bool.and_eq_false_iff, decide_eq_false_iff_not]
  exact Or.inr (Int32.not_le.mpr h1)
theorem hour_t {t : Nat} {v : Int32} (h : t + 1 < 2 ^ 31) (h1 : ¬ v ≤ nI t) (h2 : ¬ v > 1000) : wi v (nI t + 1) 1000 = true := by
  simp only [wi, Bool.and_eq_true, decide_eq_true_eq]
  exact ⟨(hour_le h).mpr (Int32.not_le.mp h1), Int32.not_lt.mp h2⟩
theorem imin_landed (a b : Int32) : imin a b = landed a b := by
  unfold imin landed
  by_cases h1 : b < a
  · rw [if_pos h1, if_neg (Int32.lt_asymm h1)]
  · rw [if_neg h1]
    by_cases h2 : a < b
    · rw [if_pos h2]
    · rw [if_neg h2]; exact Int32.le_antisymm (Int32.not_lt.mp h1) (Int32.not_lt.mp h2)
set_option maxHeartbeats 4000000 in
set_option maxRecDepth 100000 in
theorem met_X4_addBuyer (l : Launch) (D : va_G) (cA : Nat → ClassId) (wr : va_W) (α : Nat → Nat → Nat) (L : List (Nat × Nat)) (N : Nat → Nat → Nat) (R : Nat → Nat → Nat → Int32) (Fr : Nat → UInt32) (inc : Int64) (p0 : Int32) (z0 : Nat) (hl0 : l.stackTraces = false) (hLk : LOK N L) (hC : IC N) (hOw : ∀ j, j < N 0 1 → ownOK N R j) (hT : truckOK N R) (hz : ∀ s, R 14 (N 0 2) s = 0) : MetXI z0 l yX4_addBuyer (.code yX4_addBuyer cX4_addBuyer 3 (some .int) :: LW) ({ frames := 6, cells := 2, slots := 7, locals := 90 }) D cA (xWd wr cA α L (N, R, Fr, inc)) [.ref (α 0 0), .int p0] (fun r (u : Nat × Nat) => (op_addBuyer (N, R, Fr, inc) p0).1 = 0 ∧ r = (op_addBuyer (N, R, Fr, inc) p0).2.1) (fun u => xWd wr cA (alB α (N 0 2) u.1 u.2) (L ++ [(10, N 0 2), (11, N 0 2)]) (op_addBuyer (N, R, Fr, inc) p0).2.2) (fun E => ¬ (op_addBuyer (N, R, Fr, inc) p0).1 = 0 ∧ E = exOf ["java/lang/IllegalArgumentException", "java/lang/IllegalStateException"] (op_addBuyer (N, R, Fr, inc) p0).1) 2 7 := by
  refine k_bodyX hl0 (by decide) (Nat.le_of_ble_eq_true rfl) (fun p e s m args below meth c ls F G hW hl => ?_)
  obtain ⟨hx, hb, hr, hml, hown, hts, hlocks, hname⟩ := id F
  have hl : lv_has ls 3 [(0, .ref (α 0 0)), (1, .int p0)] := hl
  refine lv_iload_n hx hb dX4_addBuyer_0 rfl (lv_at hl 1 rfl) ?_
  refine lv_iconst (v := 0) hx hb dX4_addBuyer_1 (by decide) ?_
  refine lv_ldc (v := 1000000) hx hb hown (hts _ CK_X4_189) dX4_addBuyer_2 ?_
  refine k_callSi (as := [.int p0, .int 0, .int 1000000]) (rest := []) F hW (met_X4_isWithin l D cA _ p0 0 1000000) rfl ML_X4_94 ST_X4_isWithin IN_X4 CO_X4_isWithin hdS_X4_isWithin rfl rfl ⟨(Nat.le_of_ble_eq_true rfl), (Nat.le_of_ble_eq_true rfl)⟩ rfl rfl hl.1 (Nat.le_of_ble_eq_true rfl) dX4_addBuyer_4 ⟨(Nat.le_of_ble_eq_true rfl), (Nat.le_of_ble_eq_true rfl)⟩ (fun r_574 u H locs hw hW => ?_)
  subst hw
  cases hq_575 : wi p0 0 1000000
  · refine lv_if_ne (tgt := 20) hx hb dX4_addBuyer_7 (by decide) (fun h => absurd (by decide) h) (fun _ => ?_)
    have hop : op_addBuyer (N, R, Fr, inc) p0 = (1, 0, (N, R, Fr, inc)) := by simp [op_addBuyer, hq_575]
    exact k_throwS F G hW rfl (by decide) CL_X4_72 IN_E_IllegalArgumentException (List.mem_of_getElem? (i := 11) rfl) hat_IllegalArgument good_IllegalArgument hl.1 (Nat.le_of_ble_eq_true rfl) dX4_addBuyer_10 dX4_addBuyer_13 dX4_addBuyer_14 dX4_addBuyer_16 dX4_addBuyer_19 (⟨by rw [hop]; exact Nat.succ_ne_zero _, by rw [hop]; rfl⟩) ⟨(Nat.le_of_ble_eq_true rfl), (Nat.le_of_ble_eq_true rfl), (Nat.le_of_ble_eq_true rfl), (Nat.le_of_ble_eq_true rfl)⟩ ⟨(Nat.le_of_ble_eq_true rfl), (Nat.le_of_ble_eq_true rfl)⟩
  · refine lv_if_ne (tgt := 20) hx hb dX4_addBuyer_7 (by decide) (fun _ => ?_) (fun h => absurd h (by decide))
    refine lv_aload_n hx hb dX4_addBuyer_20 rfl (lv_at hl 0 rfl) ?_
    obtain ⟨q_576, hq_576⟩ := xw_at (wr := wr) (cA := cA) (α := α) (L := L) (S := (N, R, Fr, inc)) 0 0 (hLk.o 0 (by decide))
    refine k_get (v := .int (nI (N 0 2))) F hW inX4 rfl q_576 hq_576 rfl 6 (by decide) FL_X4_40 rfl rfl dX4_addBuyer_21 ?_
    refine lv_aload_n hx hb dX4_addBuyer_24 rfl (lv_at hl 0 rfl) ?_
    obtain ⟨q_577, hq_577⟩ := xw_at (wr := wr) (cA := cA) (α := α) (L := L) (S := (N, R, Fr, inc)) 0 0 (hLk.o 0 (by decide))
    refine k_get (v := .ref (α 3 0)) F hW inX4 rfl q_577 hq_577 rfl 2 (by decide) FL_X4_23 rfl rfl dX4_addBuyer_25 ?_
    obtain ⟨q_578, hq_578⟩ := xw_at (wr := wr) (cA := cA) (α := α) (L := L) (S := (N, R, Fr, inc)) 3 0 (hLk.o 3 (by decide))
    refine k_alen (v := 5) F hW q_578 8 hq_578 rfl rfl dX4_addBuyer_28 ?_
    refine lv_icmp_lt (tgt := 42) hx hb dX4_addBuyer_29 (by decide) (fun h_n => ?_) (fun h_n => ?_)
    · have hlt : N 0 2 < 5 := (nI_ltI (b := 5) (by have := hC; unfold IC at this; omega) (by decide)).mp h_n
      have h_n : ¬ N 0 2 = 5 := by omega
      refine lv_aload_n hx hb dX4_addBuyer_42 rfl (lv_at hl 0 rfl) ?_
      obtain ⟨q_579, hq_579⟩ := xw_at (wr := wr) (cA := cA) (α := α) (L := L) (S := (N, R, Fr, inc)) 0 0 (hLk.o 0 (by decide))
      refine k_get (v := .int (nI (N 0 2))) F hW inX4 rfl q_579 hq_579 rfl 6 (by decide) FL_X4_40 rfl rfl dX4_addBuyer_43 ?_
      refine lv_istore_n (lv' := [(2, .int (nI (N 0 2))), (0, .ref (α 0 0)), (1, .int p0)]) hx hb dX4_addBuyer_46 rfl hl (by decide) rfl (fun ls hl => ?_)
      refine lv_aload_n hx hb dX4_addBuyer_47 rfl (lv_at hl 1 rfl) ?_
      obtain ⟨q_580, hq_580⟩ := xw_at (wr := wr) (cA := cA) (α := α) (L := L) (S := (N, R, Fr, inc)) 0 0 (hLk.o 0 (by decide))
      refine k_get (v := .ref (α 3 0)) F hW inX4 rfl q_580 hq_580 rfl 2 (by decide) FL_X4_23 rfl rfl dX4_addBuyer_48 ?_
      refine lv_iload_n hx hb dX4_addBuyer_51 rfl (lv_at hl 0 rfl) ?_
      refine k_new (fs := [.int 0, .null, .int 0]) (ci := 3) F hW inX1 tyX1_ok rfl CL_X4_21 NE_X1 IN_X1 rfl (by intro j hj; have hc : j = 0 ∨ j = 1 ∨ j = 2 := (by omega); rcases hc with rfl | rfl | rfl <;> rfl) (Nat.le_of_ble_eq_true rfl) (Nat.le_of_ble_eq_true rfl) dX4_addBuyer_52 (fun qn H hW => ?_)
      refine lv_dup hx hb dX4_addBuyer_55 rfl ?_
      refine lv_iload_n hx hb dX4_addBuyer_56 rfl (lv_at hl 0 rfl) ?_
      refine lv_iload_n hx hb dX4_addBuyer_57 rfl (lv_at hl 2 rfl) ?_
      refine k_callI (as := [.int (nI (N 0 2)), .int p0]) (rest := [.ref qn, .int (nI (N 0 2)), .ref (α 3 0)]) (b := qn) F hW (met_X1_init l D cA (xWd wr cA α L (N, R, Fr, inc)) qn (nI (N 0 2)) p0) rfl rfl ML_X4_194 IM_X1_init IN_X1 CO_X1_init hdS_X1_init rfl rfl ⟨(Nat.le_of_ble_eq_true rfl), (Nat.le_of_ble_eq_true rfl)⟩ rfl rfl hl.1 (Nat.le_of_ble_eq_true rfl) dX4_addBuyer_58 ⟨(Nat.le_of_ble_eq_true rfl), (Nat.le_of_ble_eq_true rfl)⟩ (fun ua H locs _ hW => ?_)
      obtain ⟨q_581, hq_581, gq_581⟩ := push_buyer (wr := wr) (cA := cA) (Fr := Fr) (inc := inc) hLk hC hOw hT hz qn ua p0
      refine k_aast F hW q_581 hq_581 (tI := 8) (r := (RX1, TX1, 3)) rfl (app_at (xWd wr cA α L (N, R, Fr, inc)) 0 rfl) rfl (vp_in_nI hlt (by decide)) (xWd wr cA (alB α (N 0 2) qn ua) (L ++ [(10, N 0 2), (11, N 0 2)]) (up2 N 2 2 (N 0 2 + 1), up3 R 13 (N 0 2) 0 p0, Fr, inc)) (by rw [nI_clamp (by omega)]; exact gq_581) dX4_addBuyer_61 (fun H locs hW => ?_)
      have hLk1 := lok_buyer hLk hC
      refine lv_aload_n hx hb dX4_addBuyer_62 rfl (lv_at hl 1 rfl) ?_
      refine lv_iload_n hx hb dX4_addBuyer_63 rfl (lv_at hl 0 rfl) ?_
      refine lv_iconst (v := 1) hx hb dX4_addBuyer_64 (by decide) ?_
      refine lv_iadd hx hb dX4_addBuyer_65 ?_
      refine lv_topi (fun x_582 ex_582 => ?_)
      obtain rfl : x_582 = nI (N 0 2 + 1) := ex_582.trans (nI_1 _)
      obtain ⟨q_583, hq_583, gq_583⟩ := xput (wr := wr) (L := (L ++ [(10, N 0 2), (11, N 0 2)])) (S := (up2 N 2 2 (N 0 2 + 1), up3 R 13 (N 0 2) 0 p0, Fr, inc)) (S' := (up2 (up2 N 2 2 (N 0 2 + 1)) 0 2 (N 0 2 + 1), up3 R 13 (N 0 2) 0 p0, Fr, inc)) 0 0 (hLk1.o 0 (by decide)) hLk1.1 (fun p hp hne => xe_n0 cA (alB α (N 0 2) qn ua) (up2 N 2 2 (N 0 2 + 1)) (up3 R 13 (N 0 2) 0 p0) (Fr) inc 2 (N 0 2 + 1) p (xe_0 hLk1 hp hne)) (xs_n0_2 cA (alB α (N 0 2) qn ua) (up2 N 2 2 (N 0 2 + 1)) (up3 R 13 (N 0 2) 0 p0) (Fr) inc (N 0 2 + 1))
      refine k_put F hW inX4 tyX4_ok nmX4 rfl q_583 hq_583 rfl 6 (by decide) FL_X4_40 rfl rfl rfl rfl rfl (Nat.le_of_ble_eq_true rfl) (xWd wr cA (alB α (N 0 2) qn ua) (L ++ [(10, N 0 2), (11, N 0 2)]) (up2 (up2 N 2 2 (N 0 2 + 1)) 0 2 (N 0 2 + 1), up3 R 13 (N 0 2) 0 p0, Fr, inc)) gq_583 dX4_addBuyer_66 (fun H locs hW => ?_)
      have hLk1 : LOK (up2 (up2 N 2 2 (N 0 2 + 1)) 0 2 (N 0 2 + 1)) (L ++ [(10, N 0 2), (11, N 0 2)]) := hLk1.same rfl
      refine lv_iload_n hx hb dX4_addBuyer_69 rfl (lv_at hl 0 rfl) ?_
      have hNN : up2 (up2 N 2 2 (N 0 2 + 1)) 0 2 (N 0 2 + 1) = up2 (up2 N 0 2 (N 0 2 + 1)) 2 2 (N 0 2 + 1) := up2_comm (by decide)
      have hop : op_addBuyer (N, R, Fr, inc) p0 = (0, nI (N 0 2), (up2 (up2 N 0 2 (N 0 2 + 1)) 2 2 (N 0 2 + 1), up3 R 13 (N 0 2) 0 p0, Fr, inc)) := by simp [op_addBuyer, hq_575, h_n]
      refine vx_ret ?_
      exact k_iret (qn, ua) F (hW.eq (by rw [hop, hNN])) (⟨by rw [hop], by rw [hop]⟩) dX4_addBuyer_70 (Nat.le_of_ble_eq_true rfl) (Nat.le_of_ble_eq_true rfl)
    · have h_n : N 0 2 = 5 := by have h1 : ¬ N 0 2 < 5 := fun q => h_n (nI_lt (b := 5) q (by decide)); have := hC; unfold IC at this; omega
      have hop : op_addBuyer (N, R, Fr, inc) p0 = (2, 0, (N, R, Fr, inc)) := by simp [op_addBuyer, hq_575, h_n]
      exact k_throwS F G hW rfl (by decide) CL_X4_79 IN_E_IllegalStateException (List.mem_of_getElem? (i := 12) rfl) hat_IllegalState good_IllegalState hl.1 (Nat.le_of_ble_eq_true rfl) dX4_addBuyer_32 dX4_addBuyer_35 dX4_addBuyer_36 dX4_addBuyer_38 dX4_addBuyer_41 (⟨by rw [hop]; exact Nat.succ_ne_zero _, by rw [hop]; rfl⟩) ⟨(Nat.le_of_ble_eq_true rfl), (Nat.le_of_ble_eq_true rfl), (Nat.le_of_ble_eq_true rfl), (Nat.le_of_ble_eq_true rfl)⟩ ⟨(Nat.le_of_ble_eq_true rfl), (Nat.le_of_ble_eq_true rfl)⟩

set_option maxHeartbeats 4000000 in
set_option maxRecDepth 100000 in
theorem met_X4_addTruck (l : Launch) (D : va_G) (cA : Nat → ClassId) (wr : va_W) (α : Nat → Nat → Nat) (L : List (Nat × Nat)) (N : Nat → Nat → Nat) (R : Nat → Nat → Nat → Int32) (Fr : Nat → UInt32) (inc : Int64) (p0 p1 p2 : Int32) (z0 : Nat) (hl0 : l.stackTraces = false) (hLk : LOK N L) (hC : IC N) (hOw : ∀ j, j < N 0 1 → ownOK N R j) (hT : truckOK N R) (hz : N 1 (N 0 3) = 0) (ht5 : N 0 5 + 1 < 2 ^ 31) (hz2 : p2 = 0 ∨ p2 = 1) : MetXI z0 l yX4_addTruck (.code yX4_addTruck cX4_addTruck 5 (some .int) :: LW) ({ frames := 6, cells := 2, slots := 10, locals := 90 }) D cA (xWd wr cA α L (N, R, Fr, inc)) [.ref (α 0 0), .int p0, .int p1, .int p2] (fun r (u : Nat × Nat) => (op_addTruck (N, R, Fr, inc) p0 p1 p2).1 = 0 ∧ r = (op_addTruck (N, R, Fr, inc) p0 p1 p2).2.1) (fun u => xWd wr cA (alT α (N 0 3) u.1 u.2) (L ++ [(12, N 0 3), (13, N 0 3)]) (op_addTruck (N, R, Fr, inc) p0 p1 p2).2.2) (fun E => ¬ (op_addTruck (N, R, Fr, inc) p0 p1 p2).1 = 0 ∧ E = exOf ["java/lang/IllegalArgumentException", "java/lang/IllegalStateException"] (op_addTruck (N, R, Fr, inc) p0 p1 p2).1) 2 10 := by
  refine k_bodyX hl0 (by decide) (Nat.le_of_ble_eq_true rfl) (fun p e s m args below meth c ls F G hW hl => ?_)
  obtain ⟨hx, hb, hr, hml, hown, hts, hlocks, hname⟩ := id F
  have hl : lv_has ls 5 [(0, .ref (α 0 0)), (1, .int p0), (2, .int p1), (3, .int p2)] := hl
  refine lv_iload_n hx hb dX4_addTruck_0 rfl (lv_at hl 1 rfl) ?_
  refine lv_aload_n hx hb dX4_addTruck_1 rfl (lv_at hl 0 rfl) ?_
  obtain ⟨q_584, hq_584⟩ := xw_at (wr := wr) (cA := cA) (α := α) (L := L) (S := (N, R, Fr, inc)) 0 0 (hLk.o 0 (by decide))
  refine k_get (v := .int (nI (N 0 5))) F hW inX4 rfl q_584 hq_584 rfl 8 (by decide) FL_X4_46 rfl rfl dX4_addTruck_2 ?_
  refine lv_icmp_le (tgt := 27) hx hb dX4_addTruck_5 (by decide) (fun h_w => ?_) (fun h_w => ?_)
  · have h_w := hour_f1 ht5 h_w
    have hop : op_addTruck (N, R, Fr, inc) p0 p1 p2 = (1, 0, (N, R, Fr, inc)) := by simp [op_addTruck, h_w]
    exact k_throwS F G hW rfl (by decide) CL_X4_72 IN_E_IllegalArgumentException (List.mem_of_getElem? (i := 18) rfl) hat_IllegalArgument good_IllegalArgument hl.1 (Nat.le_of_ble_eq_true rfl) dX4_addTruck_27 dX4_addTruck_30 dX4_addTruck_31 dX4_addTruck_33 dX4_addTruck_36 (⟨by rw [hop]; exact Nat.succ_ne_zero _, by rw [hop]; rfl⟩) ⟨(Nat.le_of_ble_eq_true rfl), (Nat.le_of_ble_eq_true rfl), (Nat.le_of_ble_eq_true rfl), (Nat.le_of_ble_eq_true rfl)⟩ ⟨(Nat.le_of_ble_eq_true rfl), (Nat.le_of_ble_eq_true rfl)⟩
  · refine lv_iload_n hx hb dX4_addTruck_8 rfl (lv_at hl 1 rfl) ?_
    refine lv_sipush (v := 1000) hx hb dX4_addTruck_9 (by decide) ?_
    refine lv_icmp_gt (tgt := 27) hx hb dX4_addTruck_12 (by decide) (fun h_v => ?_) (fun h_v => ?_)
    · have h_v := hour_f2 (t := N 0 5) h_v
      have hop : op_addTruck (N, R, Fr, inc) p0 p1 p2 = (1, 0, (N, R, Fr, inc)) := by simp [op_addTruck, h_v]
      exact k_throwS F G hW rfl (by decide) CL_X4_72 IN_E_IllegalArgumentException (List.mem_of_getElem? (i := 18) rfl) hat_IllegalArgument good_IllegalArgument hl.1 (Nat.le_of_ble_eq_true rfl) dX4_addTruck_27 dX4_addTruck_30 dX4_addTruck_31 dX4_addTruck_33 dX4_addTruck_36 (⟨by rw [hop]; exact Nat.succ_ne_zero _, by rw [hop]; rfl⟩) ⟨(Nat.le_of_ble_eq_true rfl), (Nat.le_of_ble_eq_true rfl), (Nat.le_of_ble_eq_true rfl), (Nat.le_of_ble_eq_true rfl)⟩ ⟨(Nat.le_of_ble_eq_true rfl), (Nat.le_of_ble_eq_true rfl)⟩
    · have h_v := hour_t ht5 h_w h_v
      refine lv_iload_n hx hb dX4_addTruck_15 rfl (lv_at hl 2 rfl) ?_
      refine lv_bipush (v := 100) hx hb dX4_addTruck_16 (by decide) ?_
      refine lv_sipush (v := 9999) hx hb dX4_addTruck_18 (by decide) ?_
      refine k_callSi (as := [.int p1, .int 100, .int 9999]) (rest := []) F hW (met_X4_isWithin l D cA _ p1 100 9999) rfl ML_X4_94 ST_X4_isWithin IN_X4 CO_X4_isWithin hdS_X4_isWithin rfl rfl ⟨(Nat.le_of_ble_eq_true rfl), (Nat.le_of_ble_eq_true rfl)⟩ rfl rfl hl.1 (Nat.le_of_ble_eq_true rfl) dX4_addTruck_21 ⟨(Nat.le_of_ble_eq_true rfl), (Nat.le_of_ble_eq_true rfl)⟩ (fun r_585 u H locs hw hW => ?_)
      subst hw
      cases hq_586 : wi p1 100 9999
      · refine lv_if_ne (tgt := 37) hx hb dX4_addTruck_24 (by decide) (fun h => absurd (by decide) h) (fun _ => ?_)
        have hop : op_addTruck (N, R, Fr, inc) p0 p1 p2 = (1, 0, (N, R, Fr, inc)) := by simp [op_addTruck, h_v, hq_586]
        exact k_throwS F G hW rfl (by decide) CL_X4_72 IN_E_IllegalArgumentException (List.mem_of_getElem? (i := 18) rfl) hat_IllegalArgument good_IllegalArgument hl.1 (Nat.le_of_ble_eq_true rfl) dX4_addTruck_27 dX4_addTruck_30 dX4_addTruck_31 dX4_addTruck_33 dX4_addTruck_36 (⟨by rw [hop]; exact Nat.succ_ne_zero _, by rw [hop]; rfl⟩) ⟨(Nat.le_of_ble_eq_true rfl), (Nat.le_of_ble_eq_true rfl), (Nat.le_of_ble_eq_true rfl), (Nat.le_of_ble_eq_true rfl)⟩ ⟨(Nat.le_of_ble_eq_true rfl), (Nat.le_of_ble_eq_true rfl)⟩
      · refine lv_if_ne (tgt := 37) hx hb dX4_addTruck_24 (by decide) (fun _ => ?_) (fun h => absurd h (by decide))
        refine lv_aload_n hx hb dX4_addTruck_37 rfl (lv_at hl 0 rfl) ?_
        obtain ⟨q_587, hq_587⟩ := xw_at (wr := wr) (cA := cA) (α := α) (L := L) (S := (N, R, Fr, inc)) 0 0 (hLk.o 0 (by decide))
        refine k_get (v := .int (nI (N 0 3))) F hW inX4 rfl q_587 hq_587 rfl 7 (by decide) FL_X4_43 rfl rfl dX4_addTruck_38 ?_
        refine lv_aload_n hx hb dX4_addTruck_41 rfl (lv_at hl 0 rfl) ?_
        obtain ⟨q_588, hq_588⟩ := xw_at (wr := wr) (cA := cA) (α := α) (L := L) (S := (N, R, Fr, inc)) 0 0 (hLk.o 0 (by decide))
        refine k_get (v := .ref (α 4 0)) F hW inX4 rfl q_588 hq_588 rfl 3 (by decide) FL_X4_29 rfl rfl dX4_addTruck_42 ?_
        obtain ⟨q_589, hq_589⟩ := xw_at (wr := wr) (cA := cA) (α := α) (L := L) (S := (N, R, Fr, inc)) 4 0 (hLk.o 4 (by decide))
        refine k_alen (v := 4) F hW q_589 9 hq_589 rfl rfl dX4_addTruck_45 ?_
        refine lv_icmp_lt (tgt := 59) hx hb dX4_addTruck_46 (by decide) (fun h_n => ?_) (fun h_n => ?_)
        · have hlt : N 0 3 < 4 := (nI_ltI (b := 4) (by have := hC; unfold IC at this; omega) (by decide)).mp h_n
          have h_n : ¬ N 0 3 = 4 := by omega
          refine lv_aload_n hx hb dX4_addTruck_59 rfl (lv_at hl 0 rfl) ?_
          obtain ⟨q_590, hq_590⟩ := xw_at (wr := wr) (cA := cA) (α := α) (L := L) (S := (N, R, Fr, inc)) 0 0 (hLk.o 0 (by decide))
          refine k_get (v := .int (nI (N 0 3))) F hW inX4 rfl q_590 hq_590 rfl 7 (by decide) FL_X4_43 rfl rfl dX4_addTruck_60 ?_
          refine lv_istore (lv' := [(4, .int (nI (N 0 3))), (0, .ref (α 0 0)), (1, .int p0), (2, .int p1), (3, .int p2)]) hx hb dX4_addTruck_63 hl (by decide) rfl (fun ls hl => ?_)
          refine lv_aload_n hx hb dX4_addTruck_65 rfl (lv_at hl 1 rfl) ?_
          obtain ⟨q_591, hq_591⟩ := xw_at (wr := wr) (cA := cA) (α := α) (L := L) (S := (N, R, Fr, inc)) 0 0 (hLk.o 0 (by decide))
          refine k_get (v := .ref (α 4 0)) F hW inX4 rfl q_591 hq_591 rfl 3 (by decide) FL_X4_29 rfl rfl dX4_addTruck_66 ?_
          refine lv_iload hx hb dX4_addTruck_69 (lv_at hl 0 rfl) ?_
          refine k_new (fs := [.int 0, .int 0, .null, .int 0, .int 0]) (ci := 5) F hW inX3 tyX3_ok rfl CL_X4_27 NE_X3 IN_X3 rfl (by intro j hj; have hc : j = 0 ∨ j = 1 ∨ j = 2 ∨ j = 3 ∨ j = 4 := (by omega); rcases hc with rfl | rfl | rfl | rfl | rfl <;> rfl) (Nat.le_of_ble_eq_true rfl) (Nat.le_of_ble_eq_true rfl) dX4_addTruck_71 (fun qn H hW => ?_)
          refine lv_dup hx hb dX4_addTruck_74 rfl ?_
          refine lv_iload_n hx hb dX4_addTruck_75 rfl (lv_at hl 2 rfl) ?_
          refine lv_iload_n hx hb dX4_addTruck_76 rfl (lv_at hl 3 rfl) ?_
          refine lv_iload_n hx hb dX4_addTruck_77 rfl (lv_at hl 4 rfl) ?_
          refine k_callZ (as := [.int p0, .int p1, .int p2]) (rest := [.ref qn, .int (nI (N 0 3)), .ref (α 4 0)]) (b := qn) F G hW (met_X3_init l D cA (xWd wr cA α L (N, R, Fr, inc)) qn p0 p1 p2 z0 hz2) rfl rfl ML_X4_247 IM_X3_init IN_X3 CO_X3_init hdS_X3_init rfl rfl ⟨(Nat.le_of_ble_eq_true rfl), (Nat.le_of_ble_eq_true rfl)⟩ rfl rfl hl.1 (Nat.le_of_ble_eq_true rfl) dX4_addTruck_78 ⟨(Nat.le_of_ble_eq_true rfl), (Nat.le_of_ble_eq_true rfl)⟩ (fun ua H locs _ hW => ?_)
          obtain ⟨q_592, hq_592, gq_592⟩ := push_truck (wr := wr) (cA := cA) (Fr := Fr) (inc := inc) hLk hC hOw hT hz qn ua p0 p1 p2
          refine k_aast F hW q_592 hq_592 (tI := 9) (r := (RX3, TX3, 5)) rfl (app_at (xWd wr cA α L (N, R, Fr, inc)) 0 rfl) rfl (vp_in_nI hlt (by decide)) (xWd wr cA (alT α (N 0 3) qn ua) (L ++ [(12, N 0 3), (13, N 0 3)]) (up2 N 2 3 (N 0 3 + 1), up3 (up3 (up3 R 15 (N 0 3) 0 p0) 17 (N 0 3) 0 p1) 16 (N 0 3) 0 p2, Fr, inc)) (by rw [nI_clamp (by omega)]; exact gq_592) dX4_addTruck_81 (fun H locs hW => ?_)
          have hLk1 := lok_truck hLk hC
          refine lv_aload_n hx hb dX4_addTruck_82 rfl (lv_at hl 1 rfl) ?_
          refine lv_iload hx hb dX4_addTruck_83 (lv_at hl 0 rfl) ?_
          refine lv_iconst (v := 1) hx hb dX4_addTruck_85 (by decide) ?_
          refine lv_iadd hx hb dX4_addTruck_86 ?_
          refine lv_topi (fun x_593 ex_593 => ?_)
          obtain rfl : x_593 = nI (N 0 3 + 1) := ex_593.trans (nI_1 _)
          obtain ⟨q_594, hq_594, gq_594⟩ := xput (wr := wr) (L := (L ++ [(12, N 0 3), (13, N 0 3)])) (S := (up2 N 2 3 (N 0 3 + 1), up3 (up3 (up3 R 15 (N 0 3) 0 p0) 17 (N 0 3) 0 p1) 16 (N 0 3) 0 p2, Fr, inc)) (S' := (up2 (up2 N 2 3 (N 0 3 + 1)) 0 3 (N 0 3 + 1), up3 (up3 (up3 R 15 (N 0 3) 0 p0) 17 (N 0 3) 0 p1) 16 (N 0 3) 0 p2, Fr, inc)) 0 0 (hLk1.o 0 (by decide)) hLk1.1 (fun p hp hne => xe_n0 cA (alT α (N 0 3) qn ua) (up2 N 2 3 (N 0 3 + 1)) (up3 (up3 (up3 R 15 (N 0 3) 0 p0) 17 (N 0 3) 0 p1) 16 (N 0 3) 0 p2) (Fr) inc 3 (N 0 3 + 1) p (xe_0 hLk1 hp hne)) (xs_n0_3 cA (alT α (N 0 3) qn ua) (up2 N 2 3 (N 0 3 + 1)) (up3 (up3 (up3 R 15 (N 0 3) 0 p0) 17 (N 0 3) 0 p1) 16 (N 0 3) 0 p2) (Fr) inc (N 0 3 + 1))
          refine k_put F hW inX4 tyX4_ok nmX4 rfl q_594 hq_594 rfl 7 (by decide) FL_X4_43 rfl rfl rfl rfl rfl (Nat.le_of_ble_eq_true rfl) (xWd wr cA (alT α (N 0 3) qn ua) (L ++ [(12, N 0 3), (13, N 0 3)]) (up2 (up2 N 2 3 (N 0 3 + 1)) 0 3 (N 0 3 + 1), up3 (up3 (up3 R 15 (N 0 3) 0 p0) 17 (N 0 3) 0 p1) 16 (N 0 3) 0 p2, Fr, inc)) gq_594 dX4_addTruck_87 (fun H locs hW => ?_)
          have hLk1 : LOK (up2 (up2 N 2 3 (N 0 3 + 1)) 0 3 (N 0 3 + 1)) (L ++ [(12, N 0 3), (13, N 0 3)]) := hLk1.same rfl
          refine lv_iload hx hb dX4_addTruck_90 (lv_at hl 0 rfl) ?_
          have hNN : up2 (up2 N 2 3 (N 0 3 + 1)) 0 3 (N 0 3 + 1) = up2 (up2 N 0 3 (N 0 3 + 1)) 2 3 (N 0 3 + 1) := up2_comm (by decide)
          have hop : op_addTruck (N, R, Fr, inc) p0 p1 p2 = (0, nI (N 0 3), (up2 (up2 N 0 3 (N 0 3 + 1)) 2 3 (N 0 3 + 1), up3 (up3 (up3 R 15 (N 0 3) 0 p0) 17 (N 0 3) 0 p1) 16 (N 0 3) 0 p2, Fr, inc)) := by simp [op_addTruck, h_v, hq_586, h_n]
          refine vx_ret ?_
          exact k_iret (qn, ua) F (hW.eq (by rw [hop, hNN])) (⟨by rw [hop], by rw [hop]⟩) dX4_addTruck_92 (Nat.le_of_ble_eq_true rfl) (Nat.le_of_ble_eq_true rfl)
        · have h_n : N 0 3 = 4 := by have h1 : ¬ N 0 3 < 4 := fun q => h_n (nI_lt (b := 4) q (by decide)); have := hC; unfold IC at this; omega
          have hop : op_addTruck (N, R, Fr, inc) p0 p1 p2 = (2, 0, (N, R, Fr, inc)) := by simp [op_addTruck, h_v, hq_586, h_n]
          exact k_throwS F G hW rfl (by decide) CL_X4_79 IN_E_IllegalStateException (List.mem_of_getElem? (i := 19) rfl) hat_IllegalState good_IllegalState hl.1 (Nat.le_of_ble_eq_true rfl) dX4_addTruck_49 dX4_addTruck_52 dX4_addTruck_53 dX4_addTruck_55 dX4_addTruck_58 (⟨by rw [hop]; exact Nat.succ_ne_zero _, by rw [hop]; rfl⟩) ⟨(Nat.le_of_ble_eq_true rfl), (Nat.le_of_ble_eq_true rfl), (Nat.le_of_ble_eq_true rfl), (Nat.le_of_ble_eq_true rfl)⟩ ⟨(Nat.le_of_ble_eq_true rfl), (Nat.le_of_ble_eq_true rfl)⟩

set_option maxHeartbeats 4000000 in
set_option maxRecDepth 100000 in
theorem met_X4_addBoat (l : Launch) (D : va_G) (cA : Nat → ClassId) (wr : va_W) (α : Nat → Nat → Nat) (L : List (Nat × Nat)) (N : Nat → Nat → Nat) (R : Nat → Nat → Nat → Int32) (Fr : Nat → UInt32) (inc : Int64) (p0 p1 p2 p3 : Int32) (z0 : Nat) (hl0 : l.stackTraces = false) (hLk : LOK N L) (hC : IC N) (hOw : ∀ j, j < N 0 1 → ownOK N R j) (hT : truckOK N R) (hz1 : ∀ s, R 1 (N 0 0) s = 0) (hz3 : ∀ s, R 3 (N 0 0) s = 0) (hz2 : ∀ d s, s < 4 → R 2 d (4 * N 0 0 + s) = 0) : MetXI z0 l yX4_addBoat (.code yX4_addBoat cX4_addBoat 6 (some .int) :: LW) ({ frames := 6, cells := 4, slots := 88, locals := 90 }) D cA (xWd wr cA α L (N, R, Fr, inc)) [.ref (α 0 0), .int p0, .int p1, .int p2, .int p3] (fun r (u : Nat × Nat × Nat × Nat) => (op_addBoat (N, R, Fr, inc) p0 p1 p2 p3).1 = 0 ∧ r = (op_addBoat (N, R, Fr, inc) p0 p1 p2 p3).2.1) (fun u => xWd wr cA (alW α (N 0 0) u.1 u.2.1 u.2.2.1 u.2.2.2) (L ++ [(5, N 0 0), (6, N 0 0), (7, N 0 0), (8, N 0 0)]) (op_addBoat (N, R, Fr, inc) p0 p1 p2 p3).2.2) (fun E => ¬ (op_addBoat (N, R, Fr, inc) p0 p1 p2 p3).1 = 0 ∧ E = exOf ["java/lang/IllegalArgumentException", "java/lang/IllegalStateException"] (op_addBoat (N, R, Fr, inc) p0 p1 p2 p3).1) 4 88 := by
  refine k_bodyX hl0 (by decide) (Nat.le_of_ble_eq_true rfl) (fun p e s m args below meth c ls F G hW hl => ?_)
  obtain ⟨hx, hb, hr, hml, hown, hts, hlocks, hname⟩ := id F
  have hl : lv_has ls 6 [(0, .ref (α 0 0)), (1, .int p0), (2, .int p1), (3, .int p2), (4, .int p3)] := hl
  refine lv_iload_n hx hb dX4_addBoat_0 rfl (lv_at hl 1 rfl) ?_
  refine k_callSi (as := [.int p0]) (rest := []) F hW (met_X4_isQuota l D cA _ p0) rfl ML_X4_68 ST_X4_isQuota IN_X4 CO_X4_isQuota hdS_X4_isQuota rfl rfl ⟨(Nat.le_of_ble_eq_true rfl), (Nat.le_of_ble_eq_true rfl)⟩ rfl rfl hl.1 (Nat.le_of_ble_eq_true rfl) dX4_addBoat_1 ⟨(Nat.le_of_ble_eq_true rfl), (Nat.le_of_ble_eq_true rfl)⟩ (fun r_595 u H locs hw hW => ?_)
  subst hw
  cases hq_596 : wi p0 0 9999
  · refine lv_if_eq (tgt := 29) hx hb dX4_addBoat_4 (by decide) (fun _ => ?_) (fun h => absurd (by decide) h)
    have hop : op_addBoat (N, R, Fr, inc) p0 p1 p2 p3 = (1, 0, (N, R, Fr, inc)) := by simp [op_addBoat, hq_596]
    exact k_throwS F G hW rfl (by decide) CL_X4_72 IN_E_IllegalArgumentException (List.mem_of_getElem? (i := 0) rfl) hat_IllegalArgument good_IllegalArgument hl.1 (Nat.le_of_ble_eq_true rfl) dX4_addBoat_29 dX4_addBoat_32 dX4_addBoat_33 dX4_addBoat_35 dX4_addBoat_38 (⟨by rw [hop]; exact Nat.succ_ne_zero _, by rw [hop]; rfl⟩) ⟨(Nat.le_of_ble_eq_true rfl), (Nat.le_of_ble_eq_true rfl), (Nat.le_of_ble_eq_true rfl), (Nat.le_of_ble_eq_true rfl)⟩ ⟨(Nat.le_of_ble_eq_true rfl), (Nat.le_of_ble_eq_true rfl)⟩
  · refine lv_if_eq (tgt := 29) hx hb dX4_addBoat_4 (by decide) (fun h => absurd h (by decide)) (fun _ => ?_)
    refine lv_iload_n hx hb dX4_addBoat_7 rfl (lv_at hl 2 rfl) ?_
    refine k_callSi (as := [.int p1]) (rest := []) F hW (met_X4_isQuota l D cA _ p1) rfl ML_X4_68 ST_X4_isQuota IN_X4 CO_X4_isQuota hdS_X4_isQuota rfl rfl ⟨(Nat.le_of_ble_eq_true rfl), (Nat.le_of_ble_eq_true rfl)⟩ rfl rfl hl.1 (Nat.le_of_ble_eq_true rfl) dX4_addBoat_8 ⟨(Nat.le_of_ble_eq_true rfl), (Nat.le_of_ble_eq_true rfl)⟩ (fun r_597 u H locs hw hW => ?_)
    subst hw
    cases hq_598 : wi p1 0 9999
    · refine lv_if_eq (tgt := 29) hx hb dX4_addBoat_11 (by decide) (fun _ => ?_) (fun h => absurd (by decide) h)
      have hop : op_addBoat (N, R, Fr, inc) p0 p1 p2 p3 = (1, 0, (N, R, Fr, inc)) := by simp [op_addBoat, hq_596, hq_598]
      exact k_throwS F G hW rfl (by decide) CL_X4_72 IN_E_IllegalArgumentException (List.mem_of_getElem? (i := 0) rfl) hat_IllegalArgument good_IllegalArgument hl.1 (Nat.le_of_ble_eq_true rfl) dX4_addBoat_29 dX4_addBoat_32 dX4_addBoat_33 dX4_addBoat_35 dX4_addBoat_38 (⟨by rw [hop]; exact Nat.succ_ne_zero _, by rw [hop]; rfl⟩) ⟨(Nat.le_of_ble_eq_true rfl), (Nat.le_of_ble_eq_true rfl), (Nat.le_of_ble_eq_true rfl), (Nat.le_of_ble_eq_true rfl)⟩ ⟨(Nat.le_of_ble_eq_true rfl), (Nat.le_of_ble_eq_true rfl)⟩
    · refine lv_if_eq (tgt := 29) hx hb dX4_addBoat_11 (by decide) (fun h => absurd h (by decide)) (fun _ => ?_)
      refine lv_iload_n hx hb dX4_addBoat_14 rfl (lv_at hl 3 rfl) ?_
      refine k_callSi (as := [.int p2]) (rest := []) F hW (met_X4_isQuota l D cA _ p2) rfl ML_X4_68 ST_X4_isQuota IN_X4 CO_X4_isQuota hdS_X4_isQuota rfl rfl ⟨(Nat.le_of_ble_eq_true rfl), (Nat.le_of_ble_eq_true rfl)⟩ rfl rfl hl.1 (Nat.le_of_ble_eq_true rfl) dX4_addBoat_15 ⟨(Nat.le_of_ble_eq_true rfl), (Nat.le_of_ble_eq_true rfl)⟩ (fun r_599 u H locs hw hW => ?_)
      subst hw
      cases hq_600 : wi p2 0 9999
      · refine lv_if_eq (tgt := 29) hx hb dX4_addBoat_18 (by decide) (fun _ => ?_) (fun h => absurd (by decide) h)
        have hop : op_addBoat (N, R, Fr, inc) p0 p1 p2 p3 = (1, 0, (N, R, Fr, inc)) := by simp [op_addBoat, hq_596, hq_598, hq_600]
        exact k_throwS F G hW rfl (by decide) CL_X4_72 IN_E_IllegalArgumentException (List.mem_of_getElem? (i := 0) rfl) hat_IllegalArgument good_IllegalArgument hl.1 (Nat.le_of_ble_eq_true rfl) dX4_addBoat_29 dX4_addBoat_32 dX4_addBoat_33 dX4_addBoat_35 dX4_addBoat_38 (⟨by rw [hop]; exact Nat.succ_ne_zero _, by rw [hop]; rfl⟩) ⟨(Nat.le_of_ble_eq_true rfl), (Nat.le_of_ble_eq_true rfl), (Nat.le_of_ble_eq_true rfl), (Nat.le_of_ble_eq_true rfl)⟩ ⟨(Nat.le_of_ble_eq_true rfl), (Nat.le_of_ble_eq_true rfl)⟩
      · refine lv_if_eq (tgt := 29) hx hb dX4_addBoat_18 (by decide) (fun h => absurd h (by decide)) (fun _ => ?_)
        refine lv_iload hx hb dX4_addBoat_21 (lv_at hl 4 rfl) ?_
        refine k_callSi (as := [.int p3]) (rest := []) F hW (met_X4_isQuota l D cA _ p3) rfl ML_X4_68 ST_X4_isQuota IN_X4 CO_X4_isQuota hdS_X4_isQuota rfl rfl ⟨(Nat.le_of_ble_eq_true rfl), (Nat.le_of_ble_eq_true rfl)⟩ rfl rfl hl.1 (Nat.le_of_ble_eq_true rfl) dX4_addBoat_23 ⟨(Nat.le_of_ble_eq_true rfl), (Nat.le_of_ble_eq_true rfl)⟩ (fun r_601 u H locs hw hW => ?_)
        subst hw
        cases hq_602 : wi p3 0 9999
        · refine lv_if_ne (tgt := 39) hx hb dX4_addBoat_26 (by decide) (fun h => absurd (by decide) h) (fun _ => ?_)
          have hop : op_addBoat (N, R, Fr, inc) p0 p1 p2 p3 = (1, 0, (N, R, Fr, inc)) := by simp [op_addBoat, hq_596, hq_598, hq_600, hq_602]
          exact k_throwS F G hW rfl (by decide) CL_X4_72 IN_E_IllegalArgumentException (List.mem_of_getElem? (i := 0) rfl) hat_IllegalArgument good_IllegalArgument hl.1 (Nat.le_of_ble_eq_true rfl) dX4_addBoat_29 dX4_addBoat_32 dX4_addBoat_33 dX4_addBoat_35 dX4_addBoat_38 (⟨by rw [hop]; exact Nat.succ_ne_zero _, by rw [hop]; rfl⟩) ⟨(Nat.le_of_ble_eq_true rfl), (Nat.le_of_ble_eq_true rfl), (Nat.le_of_ble_eq_true rfl), (Nat.le_of_ble_eq_true rfl)⟩ ⟨(Nat.le_of_ble_eq_true rfl), (Nat.le_of_ble_eq_true rfl)⟩
        · refine lv_if_ne (tgt := 39) hx hb dX4_addBoat_26 (by decide) (fun _ => ?_) (fun h => absurd h (by decide))
          refine lv_aload_n hx hb dX4_addBoat_39 rfl (lv_at hl 0 rfl) ?_
          obtain ⟨q_603, hq_603⟩ := xw_at (wr := wr) (cA := cA) (α := α) (L := L) (S := (N, R, Fr, inc)) 0 0 (hLk.o 0 (by decide))
          refine k_get (v := .int (nI (N 0 0))) F hW inX4 rfl q_603 hq_603 rfl 4 (by decide) FL_X4_33 rfl rfl dX4_addBoat_40 ?_
          refine lv_aload_n hx hb dX4_addBoat_43 rfl (lv_at hl 0 rfl) ?_
          obtain ⟨q_604, hq_604⟩ := xw_at (wr := wr) (cA := cA) (α := α) (L := L) (S := (N, R, Fr, inc)) 0 0 (hLk.o 0 (by decide))
          refine k_get (v := .ref (α 1 0)) F hW inX4 rfl q_604 hq_604 rfl 0 (by decide) FL_X4_11 rfl rfl dX4_addBoat_44 ?_
          obtain ⟨q_605, hq_605⟩ := xw_at (wr := wr) (cA := cA) (α := α) (L := L) (S := (N, R, Fr, inc)) 1 0 (hLk.o 1 (by decide))
          refine k_alen (v := 6) F hW q_605 6 hq_605 rfl rfl dX4_addBoat_47 ?_
          refine lv_icmp_lt (tgt := 61) hx hb dX4_addBoat_48 (by decide) (fun h_n => ?_) (fun h_n => ?_)
          · have hlt : N 0 0 < 6 := (nI_ltI (b := 6) (by have := hC; unfold IC at this; omega) (by decide)).mp h_n
            have h_n : ¬ N 0 0 = 6 := by omega
            refine lv_aload_n hx hb dX4_addBoat_61 rfl (lv_at hl 0 rfl) ?_
            obtain ⟨q_606, hq_606⟩ := xw_at (wr := wr) (cA := cA) (α := α) (L := L) (S := (N, R, Fr, inc)) 0 0 (hLk.o 0 (by decide))
            refine k_get (v := .int (nI (N 0 0))) F hW inX4 rfl q_606 hq_606 rfl 4 (by decide) FL_X4_33 rfl rfl dX4_addBoat_62 ?_
            refine lv_istore (lv' := [(5, .int (nI (N 0 0))), (0, .ref (α 0 0)), (1, .int p0), (2, .int p1), (3, .int p2), (4, .int p3)]) hx hb dX4_addBoat_65 hl (by decide) rfl (fun ls hl => ?_)
            refine lv_aload_n hx hb dX4_addBoat_67 rfl (lv_at hl 1 rfl) ?_
            obtain ⟨q_607, hq_607⟩ := xw_at (wr := wr) (cA := cA) (α := α) (L := L) (S := (N, R, Fr, inc)) 0 0 (hLk.o 0 (by decide))
            refine k_get (v := .ref (α 1 0)) F hW inX4 rfl q_607 hq_607 rfl 0 (by decide) FL_X4_11 rfl rfl dX4_addBoat_68 ?_
            refine lv_iload hx hb dX4_addBoat_71 (lv_at hl 0 rfl) ?_
            refine k_new (fs := [.int 0, .null, .null, .null]) (ci := 2) F hW inX0 tyX0_ok rfl CL_X4_9 NE_X0 IN_X0 rfl (by intro j hj; have hc : j = 0 ∨ j = 1 ∨ j = 2 ∨ j = 3 := (by omega); rcases hc with rfl | rfl | rfl | rfl <;> rfl) (Nat.le_of_ble_eq_true rfl) (Nat.le_of_ble_eq_true rfl) dX4_addBoat_73 (fun qn H hW => ?_)
            refine lv_dup hx hb dX4_addBoat_76 rfl ?_
            refine lv_iload hx hb dX4_addBoat_77 (lv_at hl 0 rfl) ?_
            refine lv_iload_n hx hb dX4_addBoat_79 rfl (lv_at hl 2 rfl) ?_
            refine lv_iload_n hx hb dX4_addBoat_80 rfl (lv_at hl 3 rfl) ?_
            refine lv_iload_n hx hb dX4_addBoat_81 rfl (lv_at hl 4 rfl) ?_
            refine lv_iload hx hb dX4_addBoat_82 (lv_at hl 5 rfl) ?_
            refine k_callI (as := [.int (nI (N 0 0)), .int p0, .int p1, .int p2, .int p3]) (rest := [.ref qn, .int (nI (N 0 0)), .ref (α 1 0)]) (b := qn) F hW (met_X0_init l D cA (xWd wr cA α L (N, R, Fr, inc)) qn (nI (N 0 0)) p0 p1 p2 p3) rfl rfl ML_X4_84 IM_X0_init IN_X0 CO_X0_init hdS_X0_init rfl rfl ⟨(Nat.le_of_ble_eq_true rfl), (Nat.le_of_ble_eq_true rfl)⟩ rfl rfl hl.1 (Nat.le_of_ble_eq_true rfl) dX4_addBoat_84 ⟨(Nat.le_of_ble_eq_true rfl), (Nat.le_of_ble_eq_true rfl)⟩ (fun ua H locs _ hW => ?_)
            obtain ⟨q_608, hq_608, gq_608⟩ := push_boat (wr := wr) (cA := cA) (Fr := Fr) (inc := inc) hLk hC hOw hT hz1 hz3 hz2 qn ua.1 ua.2.1 ua.2.2 p0 p1 p2 p3
            refine k_aast F hW q_608 hq_608 (tI := 6) (r := (RX0, TX0, 4)) rfl (app_at (xWd wr cA α L (N, R, Fr, inc)) 0 rfl) rfl (vp_in_nI hlt (by decide)) (xWd wr cA (alW α (N 0 0) qn ua.1 ua.2.1 ua.2.2) (L ++ [(5, N 0 0), (6, N 0 0), (7, N 0 0), (8, N 0 0)]) (up2 N 2 0 (N 0 0 + 1), up3 (up3 (up3 (up3 (up3 (up3 (up3 (up3 R 1 (N 0 0) 0 p0) 1 (N 0 0) 1 p1) 1 (N 0 0) 2 p2) 1 (N 0 0) 3 p3) 3 (N 0 0) 0 p0) 3 (N 0 0) 1 p1) 3 (N 0 0) 2 p2) 3 (N 0 0) 3 p3, Fr, inc)) (by rw [nI_clamp (by omega)]; exact gq_608) dX4_addBoat_87 (fun H locs hW => ?_)
            have hLk1 := lok_boat hLk hC
            refine lv_aload_n hx hb dX4_addBoat_88 rfl (lv_at hl 1 rfl) ?_
            refine lv_iload hx hb dX4_addBoat_89 (lv_at hl 0 rfl) ?_
            refine lv_iconst (v := 1) hx hb dX4_addBoat_91 (by decide) ?_
            refine lv_iadd hx hb dX4_addBoat_92 ?_
            refine lv_topi (fun x_609 ex_609 => ?_)
            obtain rfl : x_609 = nI (N 0 0 + 1) := ex_609.trans (nI_1 _)
            obtain ⟨q_610, hq_610, gq_610⟩ := xput (wr := wr) (L := (L ++ [(5, N 0 0), (6, N 0 0), (7, N 0 0), (8, N 0 0)])) (S := (up2 N 2 0 (N 0 0 + 1), up3 (up3 (up3 (up3 (up3 (up3 (up3 (up3 R 1 (N 0 0) 0 p0) 1 (N 0 0) 1 p1) 1 (N 0 0) 2 p2) 1 (N 0 0) 3 p3) 3 (N 0 0) 0 p0) 3 (N 0 0) 1 p1) 3 (N 0 0) 2 p2) 3 (N 0 0) 3 p3, Fr, inc)) (S' := (up2 (up2 N 2 0 (N 0 0 + 1)) 0 0 (N 0 0 + 1), up3 (up3 (up3 (up3 (up3 (up3 (up3 (up3 R 1 (N 0 0) 0 p0) 1 (N 0 0) 1 p1) 1 (N 0 0) 2 p2) 1 (N 0 0) 3 p3) 3 (N 0 0) 0 p0) 3 (N 0 0) 1 p1) 3 (N 0 0) 2 p2) 3 (N 0 0) 3 p3, Fr, inc)) 0 0 (hLk1.o 0 (by decide)) hLk1.1 (fun p hp hne => xe_n0 cA (alW α (N 0 0) qn ua.1 ua.2.1 ua.2.2) (up2 N 2 0 (N 0 0 + 1)) (up3 (up3 (up3 (up3 (up3 (up3 (up3 (up3 R 1 (N 0 0) 0 p0) 1 (N 0 0) 1 p1) 1 (N 0 0) 2 p2) 1 (N 0 0) 3 p3) 3 (N 0 0) 0 p0) 3 (N 0 0) 1 p1) 3 (N 0 0) 2 p2) 3 (N 0 0) 3 p3) (Fr) inc 0 (N 0 0 + 1) p (xe_0 hLk1 hp hne)) (xs_n0_0 cA (alW α (N 0 0) qn ua.1 ua.2.1 ua.2.2) (up2 N 2 0 (N 0 0 + 1)) (up3 (up3 (up3 (up3 (up3 (up3 (up3 (up3 R 1 (N 0 0) 0 p0) 1 (N 0 0) 1 p1) 1 (N 0 0) 2 p2) 1 (N 0 0) 3 p3) 3 (N 0 0) 0 p0) 3 (N 0 0) 1 p1) 3 (N 0 0) 2 p2) 3 (N 0 0) 3 p3) (Fr) inc (N 0 0 + 1))
            refine k_put F hW inX4 tyX4_ok nmX4 rfl q_610 hq_610 rfl 4 (by decide) FL_X4_33 rfl rfl rfl rfl rfl (Nat.le_of_ble_eq_true rfl) (xWd wr cA (alW α (N 0 0) qn ua.1 ua.2.1 ua.2.2) (L ++ [(5, N 0 0), (6, N 0 0), (7, N 0 0), (8, N 0 0)]) (up2 (up2 N 2 0 (N 0 0 + 1)) 0 0 (N 0 0 + 1), up3 (up3 (up3 (up3 (up3 (up3 (up3 (up3 R 1 (N 0 0) 0 p0) 1 (N 0 0) 1 p1) 1 (N 0 0) 2 p2) 1 (N 0 0) 3 p3) 3 (N 0 0) 0 p0) 3 (N 0 0) 1 p1) 3 (N 0 0) 2 p2) 3 (N 0 0) 3 p3, Fr, inc)) gq_610 dX4_addBoat_93 (fun H locs hW => ?_)
            have hLk1 : LOK (up2 (up2 N 2 0 (N 0 0 + 1)) 0 0 (N 0 0 + 1)) (L ++ [(5, N 0 0), (6, N 0 0), (7, N 0 0), (8, N 0 0)]) := hLk1.same rfl
            refine lv_iload hx hb dX4_addBoat_96 (lv_at hl 0 rfl) ?_
            have hNN : up2 (up2 N 2 0 (N 0 0 + 1)) 0 0 (N 0 0 + 1) = up2 (up2 N 0 0 (N 0 0 + 1)) 2 0 (N 0 0 + 1) := up2_comm (by decide)
            have hop : op_addBoat (N, R, Fr, inc) p0 p1 p2 p3 = (0, nI (N 0 0), (up2 (up2 N 0 0 (N 0 0 + 1)) 2 0 (N 0 0 + 1), up3 (up3 (up3 (up3 (up3 (up3 (up3 (up3 R 1 (N 0 0) 0 p0) 1 (N 0 0) 1 p1) 1 (N 0 0) 2 p2) 1 (N 0 0) 3 p3) 3 (N 0 0) 0 p0) 3 (N 0 0) 1 p1) 3 (N 0 0) 2 p2) 3 (N 0 0) 3 p3, Fr, inc)) := by simp [op_addBoat, hq_596, hq_598, hq_600, hq_602, h_n]
            refine vx_ret ?_
            exact k_iret (qn, ua) F (hW.eq (by rw [hop, hNN])) (⟨by rw [hop], by rw [hop]⟩) dX4_addBoat_98 (Nat.le_of_ble_eq_true rfl) (Nat.le_of_ble_eq_true rfl)
          · have h_n : N 0 0 = 6 := by have h1 : ¬ N 0 0 < 6 := fun q => h_n (nI_lt (b := 6) q (by decide)); have := hC; unfold IC at this; omega
            have hop : op_addBoat (N, R, Fr, inc) p0 p1 p2 p3 = (2, 0, (N, R, Fr, inc)) := by simp [op_addBoat, hq_596, hq_598, hq_600, hq_602, h_n]
            exact k_throwS F G hW rfl (by decide) CL_X4_79 IN_E_IllegalStateException (List.mem_of_getElem? (i := 1) rfl) hat_IllegalState good_IllegalState hl.1 (Nat.le_of_ble_eq_true rfl) dX4_addBoat_51 dX4_addBoat_54 dX4_addBoat_55 dX4_addBoat_57 dX4_addBoat_60 (⟨by rw [hop]; exact Nat.succ_ne_zero _, by rw [hop]; rfl⟩) ⟨(Nat.le_of_ble_eq_true rfl), (Nat.le_of_ble_eq_true rfl), (Nat.le_of_ble_eq_true rfl), (Nat.le_of_ble_eq_true rfl)⟩ ⟨(Nat.le_of_ble_eq_true rfl), (Nat.le_of_ble_eq_true rfl)⟩
