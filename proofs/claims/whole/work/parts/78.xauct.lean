theorem hdS_JM_max : yJ9_max_7cf53.cls ≠ "java/lang/invoke/MethodHandle" ∧ yJ9_max_7cf53.cls ≠ "java/lang/invoke/VarHandle" ∧ (parseMethodDescriptor yJ9_max_7cf53.desc).map (fun d => d.parameters.length) = some 2 := by decide +kernel
theorem hdS_JM_min : yJ9_min_7cf53.cls ≠ "java/lang/invoke/MethodHandle" ∧ yJ9_min_7cf53.cls ≠ "java/lang/invoke/VarHandle" ∧ (parseMethodDescriptor yJ9_min_7cf53.desc).map (fun d => d.parameters.length) = some 2 := by decide +kernel
set_option maxHeartbeats 4000000 in
set_option maxRecDepth 100000 in
theorem met_JM_max (l : Launch) (D : va_G) (cA : Nat → ClassId) (ws : va_W) (a b : Int32) : MetI l yJ9_max_7cf53 (.code yJ9_max_7cf53 cJ9_max_7cf53 2 (some .int) :: LW) ({ frames := 0, cells := 0, slots := 0, locals := 0 }) D cA (ws) [.int a, .int b] (fun r (_ : Unit) => r = imax a b) (fun _ => ws) 0 0 := by
  refine k_bodyI (by decide +kernel) (Nat.le_of_ble_eq_true rfl) (fun p e s m args below meth c ls F hW hl => ?_)
  obtain ⟨hx, hb, hr, hml, hown, hts, hlocks, hname⟩ := id F
  have hl : lv_has ls 2 [(0, .int a), (1, .int b)] := hl
  refine lv_iload_n hx hb dJ9_max_7cf53_0 rfl (lv_at hl 0 rfl) ?_
  refine lv_iload_n hx hb dJ9_max_7cf53_1 rfl (lv_at hl 1 rfl) ?_
  refine lv_icmp_lt (tgt := 9) hx hb dJ9_max_7cf53_2 (by decide) (fun h_m => ?_) (fun h_m => ?_)
  · refine lv_iload_n hx hb dJ9_max_7cf53_9 rfl (lv_at hl 1 rfl) ?_
    exact k_iret () F (hW) (by simp [imax, h_m]) dJ9_max_7cf53_10 (Nat.le_of_ble_eq_true rfl) (Nat.le_of_ble_eq_true rfl)
  · refine lv_iload_n hx hb dJ9_max_7cf53_5 rfl (lv_at hl 0 rfl) ?_
    refine lv_goto (tgt := 10) hx hb dJ9_max_7cf53_6 (by decide) ?_
    exact k_iret () F (hW) (by simp [imax, h_m]) dJ9_max_7cf53_10 (Nat.le_of_ble_eq_true rfl) (Nat.le_of_ble_eq_true rfl)

set_option maxHeartbeats 4000000 in
set_option maxRecDepth 100000 in
theorem met_JM_min (l : Launch) (D : va_G) (cA : Nat → ClassId) (ws : va_W) (a b : Int32) : MetI l yJ9_min_7cf53 (.code yJ9_min_7cf53 cJ9_min_7cf53 2 (some .int) :: LW) ({ frames := 0, cells := 0, slots := 0, locals := 0 }) D cA (ws) [.int a, .int b] (fun r (_ : Unit) => r = imin a b) (fun _ => ws) 0 0 := by
  refine k_bodyI (by decide +kernel) (Nat.le_of_ble_eq_true rfl) (fun p e s m args below meth c ls F hW hl => ?_)
  obtain ⟨hx, hb, hr, hml, hown, hts, hlocks, hname⟩ := id F
  have hl : lv_has ls 2 [(0, .int a), (1, .int b)] := hl
  refine lv_iload_n hx hb dJ9_min_7cf53_0 rfl (lv_at hl 0 rfl) ?_
  refine lv_iload_n hx hb dJ9_min_7cf53_1 rfl (lv_at hl 1 rfl) ?_
  refine lv_icmp_gt (tgt := 9) hx hb dJ9_min_7cf53_2 (by decide) (fun h_m => ?_) (fun h_m => ?_)
  · refine lv_iload_n hx hb dJ9_min_7cf53_9 rfl (lv_at hl 1 rfl) ?_
    exact k_iret () F (hW) (by simp [imin, h_m]) dJ9_min_7cf53_10 (Nat.le_of_ble_eq_true rfl) (Nat.le_of_ble_eq_true rfl)
  · refine lv_iload_n hx hb dJ9_min_7cf53_5 rfl (lv_at hl 0 rfl) ?_
    refine lv_goto (tgt := 10) hx hb dJ9_min_7cf53_6 (by decide) ?_
    exact k_iret () F (hW) (by simp [imin, h_m]) dJ9_min_7cf53_10 (Nat.le_of_ble_eq_true rfl) (Nat.le_of_ble_eq_true rfl)

set_option maxHeartbeats 4000000 in
set_option maxRecDepth 100000 in
theorem met_X4_greatestOfferFor (l : Launch) (D : va_G) (cA : Nat → ClassId) (wr : va_W) (α : Nat → Nat → Nat) (L : List (Nat × Nat)) (N : Nat → Nat → Nat) (R : Nat → Nat → Nat → Int32) (Fr : Nat → UInt32) (inc : Int64) (j : Nat) (hLk : LOK N L) (hC : IC N) (hL : ∀ i, i < N 0 1 → lotOK R Fr i) (hj : j < N 0 1) : MetI l yX4_greatestOfferFor (.code yX4_greatestOfferFor cX4_greatestOfferFor 7 (some .int) :: LW) ({ frames := 1, cells := 0, slots := 0, locals := 22 }) D cA (xWd wr cA α L (N, R, Fr, inc)) [.ref (α 0 0), .ref (α 9 j)] (fun r (_ : Unit) => r = gO R Fr j (N 0 2)) (fun _ => xWd wr cA α L (N, R, Fr, inc)) 0 0 := by
  refine k_bodyI (plainFor_of_name (by decide)) (Nat.le_of_ble_eq_true rfl) (fun p e s m args below meth c ls F hW hl => ?_)
  obtain ⟨hx, hb, hr, hml, hown, hts, hlocks, hname⟩ := id F
  have hl : lv_has ls 7 [(0, .ref (α 0 0)), (1, .ref (α 9 j))] := hl
  refine lv_iconst (v := (-1)) hx hb dX4_greatestOfferFor_0 (by decide) ?_
  refine lv_istore_n (lv' := [(2, .int (-1)), (0, .ref (α 0 0)), (1, .ref (α 9 j))]) hx hb dX4_greatestOfferFor_1 rfl hl (by decide) rfl (fun ls hl => ?_)
  refine lv_aload_n hx hb dX4_greatestOfferFor_2 rfl (lv_at hl 1 rfl) ?_
  obtain ⟨q_350, hq_350⟩ := xw_at (wr := wr) (cA := cA) (α := α) (L := L) (S := (N, R, Fr, inc)) 0 0 (hLk.o 0 (by decide))
  refine k_get (v := .ref (α 3 0)) F hW inX4 rfl q_350 hq_350 rfl 2 (by decide) FL_X4_23 rfl rfl dX4_greatestOfferFor_3 ?_
  refine lv_astore_n (lv' := [(3, .ref (α 3 0)), (2, .int (-1)), (0, .ref (α 0 0)), (1, .ref (α 9 j))]) hx hb dX4_greatestOfferFor_6 rfl hl (by decide) rfl (fun ls hl => ?_)
  refine lv_aload_n hx hb dX4_greatestOfferFor_7 rfl (lv_at hl 0 rfl) ?_
  obtain ⟨q_351, hq_351⟩ := xw_at (wr := wr) (cA := cA) (α := α) (L := L) (S := (N, R, Fr, inc)) 3 0 (hLk.o 3 (by decide))
  refine k_alen (v := 5) F hW q_351 8 hq_351 rfl rfl dX4_greatestOfferFor_8 ?_
  refine lv_istore (lv' := [(4, .int 5), (3, .ref (α 3 0)), (2, .int (-1)), (0, .ref (α 0 0)), (1, .ref (α 9 j))]) hx hb dX4_greatestOfferFor_9 hl (by decide) rfl (fun ls hl => ?_)
  refine lv_iconst (v := 0) hx hb dX4_greatestOfferFor_11 (by decide) ?_
  refine lv_istore (lv' := [(5, .int 0), (4, .int 5), (3, .ref (α 3 0)), (2, .int (-1)), (0, .ref (α 0 0)), (1, .ref (α 9 j))]) hx hb dX4_greatestOfferFor_12 hl (by decide) rfl (fun ls hl => ?_)
  rw [show (-1 : Int32) = gO R Fr j (min 0 (N 0 2)) from by rw [Nat.zero_min]; rfl] at hl
  refine k_ind (P := fun k H locs ls => ∃ i, i + k = 5 ∧ Cw D cA s (va_A (xWd wr cA α L (N, R, Fr, inc)) s.heap.size) (xWd wr cA α L (N, R, Fr, inc)) H locs ∧ lv_has ls 7 [(0, .ref (α 0 0)), (1, .ref (α 9 j)), (2, .int (gO R Fr j (min i (N 0 2)))), (3, .ref (α 3 0)), (4, .int 5), (5, .int (nI i))]) (fun k ih H locs ls hP => ?_) (5) ⟨0, by omega, hW, lv_sub hl [4, 5, 3, 2, 1, 0] rfl⟩
  obtain ⟨i, hi_i, hW, hl⟩ := hP
  refine lv_iload hx hb dX4_greatestOfferFor_14 (lv_at hl 5 rfl) ?_
  refine lv_iload hx hb dX4_greatestOfferFor_16 (lv_at hl 4 rfl) ?_
  refine lv_icmp_ge (tgt := 49) hx hb dX4_greatestOfferFor_18 (by decide) (fun h_c => ?_) (fun h_c => ?_)
  · obtain rfl : i = 5 := by have := (nI_leI (b := i) (a := 5) (by omega) (by omega)).mp h_c; omega
    refine lv_iload_n hx hb dX4_greatestOfferFor_49 rfl (lv_at hl 2 rfl) ?_
    exact k_iret () F (hW) (by rw [Nat.min_eq_right (by have := hC; unfold IC at this; omega)]) dX4_greatestOfferFor_50 (Nat.le_of_ble_eq_true rfl) (Nat.le_of_ble_eq_true rfl)
  · have hlt : i < 5 := Nat.lt_of_not_le fun q => h_c (nI_le (a := 5) q (by omega))
    refine lv_aload_n hx hb dX4_greatestOfferFor_21 rfl (lv_at hl 3 rfl) ?_
    refine lv_iload hx hb dX4_greatestOfferFor_22 (lv_at hl 5 rfl) ?_
    by_cases hiv : i < N 0 2
    · obtain ⟨q_352, hq_352⟩ := xw_at (wr := wr) (cA := cA) (α := α) (L := L) (S := (N, R, Fr, inc)) 3 0 (hLk.o 3 (by decide))
      refine k_aaldS (x := (α 10 i)) F hW q_352 hq_352 (tI := 8) rfl (vp_in_nI hlt (by decide)) (by rw [nI_clamp (by omega)]; exact if_pos (hC.lt (by decide) hiv)) dX4_greatestOfferFor_24 ?_
      refine lv_astore (lv' := [(6, .ref (α 10 i)), (0, .ref (α 0 0)), (1, .ref (α 9 j)), (2, .int (gO R Fr j (min i (N 0 2)))), (3, .ref (α 3 0)), (4, .int 5), (5, .int (nI i))]) hx hb dX4_greatestOfferFor_25 hl (by decide) rfl (fun ls hl => ?_)
      refine lv_aload hx hb dX4_greatestOfferFor_27 (lv_at hl 0 rfl) ?_
      refine lv_ifnull hx hb dX4_greatestOfferFor_29 ?_
      refine lv_iload_n hx hb dX4_greatestOfferFor_32 rfl (lv_at hl 3 rfl) ?_
      refine lv_aload hx hb dX4_greatestOfferFor_33 (lv_at hl 0 rfl) ?_
      refine lv_aload_n hx hb dX4_greatestOfferFor_35 rfl (lv_at hl 2 rfl) ?_
      obtain ⟨q_353, hq_353⟩ := xw_at (wr := wr) (cA := cA) (α := α) (L := L) (S := (N, R, Fr, inc)) 10 i (hLk.u 10 i (by decide) (hC.lt (by decide) hiv))
      refine k_callVi (as := [.ref (α 9 j)]) (rest := [.int (gO R Fr j (min i (N 0 2)))]) (b := (α 10 i)) (ci := 3) (q0 := q_353) F hW (met_X1_offerFor l D cA wr α L N R Fr inc i j hLk (hC.lt (by decide) hiv) (hC.lt (by decide) hj) (hL _ hj)) rfl ML_X4_210 IM_X1_offerFor SE_X1_offerFor IN_X1 CO_X1_offerFor hdV_X1_offerFor rfl rfl ⟨(Nat.le_of_ble_eq_true rfl), (Nat.le_of_ble_eq_true rfl)⟩ rfl rfl (hq_353) rfl rfl hl.1 (Nat.le_of_ble_eq_true rfl) dX4_greatestOfferFor_36 ⟨(Nat.le_of_ble_eq_true rfl), (Nat.le_of_ble_eq_true rfl)⟩ (fun r_354 u H locs hw hW => ?_)
      subst hw
      refine k_callSi (as := [.int (gO R Fr j (min i (N 0 2))), .int (offerOf R Fr i j)]) (rest := []) F hW (met_JM_max l D cA _ (gO R Fr j (min i (N 0 2))) (offerOf R Fr i j)) rfl ML_X4_329 ST_JM_max IN_JM CO_JM_max hdS_JM_max rfl rfl ⟨(Nat.le_of_ble_eq_true rfl), (Nat.le_of_ble_eq_true rfl)⟩ rfl rfl hl.1 (Nat.le_of_ble_eq_true rfl) dX4_greatestOfferFor_39 ⟨(Nat.le_of_ble_eq_true rfl), (Nat.le_of_ble_eq_true rfl)⟩ (fun r_355 u H locs hw hW => ?_)
      subst hw
      refine lv_topi (fun x_356 ex_356 => ?_)
      obtain rfl : x_356 = gO R Fr j (min (i + 1) (N 0 2)) := ex_356.trans (by rw [Nat.min_eq_left (by omega), Nat.min_eq_left (by omega)]; rfl)
      refine lv_istore_n (lv' := [(2, .int (gO R Fr j (min (i + 1) (N 0 2)))), (6, .ref (α 10 i)), (0, .ref (α 0 0)), (1, .ref (α 9 j)), (3, .ref (α 3 0)), (4, .int 5), (5, .int (nI i))]) hx hb dX4_greatestOfferFor_42 rfl hl (by decide) rfl (fun ls hl => ?_)
      refine lv_iinc (k := 6) (lv' := [(5, .int (nI (i + 1))), (2, .int (gO R Fr j (min (i + 1) (N 0 2)))), (6, .ref (α 10 i)), (0, .ref (α 0 0)), (1, .ref (α 9 j)), (3, .ref (α 3 0)), (4, .int 5)]) hx hb dX4_greatestOfferFor_43 hl rfl (nI_1 i) (by decide) rfl (fun ls hl => ?_)
      refine lv_goto (tgt := 14) hx hb dX4_greatestOfferFor_46 (by decide) ?_
      exact ih (k - 1) (by omega) ⟨i + 1, by omega, hW, lv_sub hl [3, 4, 1, 5, 6, 0] rfl⟩
    · obtain ⟨q_357, hq_357⟩ := xw_at (wr := wr) (cA := cA) (α := α) (L := L) (S := (N, R, Fr, inc)) 3 0 (hLk.o 3 (by decide))
      refine k_aaldN F hW q_357 hq_357 (tI := 8) rfl (vp_in_nI hlt (by decide)) (by rw [nI_clamp (by omega)]; exact if_neg (by rw [hC.2.2.2.2.2.1 2 (by decide)]; exact hiv)) dX4_greatestOfferFor_24 ?_
      refine x_astoreQ (r := none) (lv' := [(6, va_rf none), (0, .ref (α 0 0)), (1, .ref (α 9 j)), (2, .int (gO R Fr j (min i (N 0 2)))), (3, .ref (α 3 0)), (4, .int 5), (5, .int (nI i))]) hx hb dX4_greatestOfferFor_25 hl (by decide) rfl (fun ls hl => ?_)
      refine x_aloadQ (r := none) hx hb dX4_greatestOfferFor_27 (lv_at hl 0 rfl) ?_
      refine lv_ifnullN (tgt := 43) hx hb dX4_greatestOfferFor_29 (by decide) ?_
      rw [show min i (N 0 2) = min (i + 1) (N 0 2) from by rw [Nat.min_eq_right (by omega), Nat.min_eq_right (by omega)]] at hl
      refine lv_iinc (k := 6) (lv' := [(5, .int (nI (i + 1))), (6, va_rf none), (0, .ref (α 0 0)), (1, .ref (α 9 j)), (2, .int (gO R Fr j (min (i + 1) (N 0 2)))), (3, .ref (α 3 0)), (4, .int 5)]) hx hb dX4_greatestOfferFor_43 hl rfl (nI_1 i) (by decide) rfl (fun ls hl => ?_)
      refine lv_goto (tgt := 14) hx hb dX4_greatestOfferFor_46 (by decide) ?_
      exact ih (k - 1) (by omega) ⟨i + 1, by omega, hW, lv_sub hl [2, 3, 4, 5, 6, 0] rfl⟩

theorem lv_chg {ls : Array Slot} {nL i : Nat} {l : List (Nat × Value)} {v v' : Value} (h : lv_has ls nL l) (e : v = v') (k : Nat) (hk : l[k]? = some (i, v)) : lv_has ls nL (l.set k (i, v')) := by
  subst e
  rw [show l.set k (i, v) = l from by
    apply List.ext_getElem?
    intro j
    rw [List.getElem?_set]
    by_cases hj : k = j
    · subst hj
      rw [hk]
      have := (List.getElem?_eq_some_iff.mp hk).1
      simp [this]
    · simp [hj]]
  exact h
set_option maxHeartbeats 4000000 in
set_option maxRecDepth 100000 in
theorem met_X4_bestTaker (l : Launch) (D : va_G) (cA : Nat → ClassId) (wr : va_W) (α : Nat → Nat → Nat) (L : List (Nat × Nat)) (N : Nat → Nat → Nat) (R : Nat → Nat → Nat → Int32) (Fr : Nat → UInt32) (inc : Int64) (j : Nat) (v : Int32) (hLk : LOK N L) (hC : IC N) (hL : ∀ i, i < N 0 1 → lotOK R Fr i) (hj : j < N 0 1) (hv0 : 0 ≤ v) : MetR l yX4_bestTaker (.code yX4_bestTaker cX4_bestTaker 10 (some (.object "Fishpier$Buyer")) :: LW) ({ frames := 1, cells := 0, slots := 0, locals := 22 }) D cA (xWd wr cA α L (N, R, Fr, inc)) [.ref (α 0 0), .ref (α 9 j), .int v] (fun r (_ : Unit) => r = bestR α (best R Fr j v (N 0 2))) (fun _ => xWd wr cA α L (N, R, Fr, inc)) 0 0 := by
  refine k_bodyR (plainFor_of_name (by decide)) (Nat.le_of_ble_eq_true rfl) (fun p e s m args below meth c ls F hW hl => ?_)
  obtain ⟨hx, hb, hr, hml, hown, hts, hlocks, hname⟩ := id F
  have hl : lv_has ls 10 [(0, .ref (α 0 0)), (1, .ref (α 9 j)), (2, .int v)] := hl
  refine x_null hx hb dX4_bestTaker_0 ?_
  refine x_astore_nQ (r := none) (lv' := [(3, va_rf none), (0, .ref (α 0 0)), (1, .ref (α 9 j)), (2, .int v)]) hx hb dX4_bestTaker_1 rfl hl (by decide) rfl (fun ls hl => ?_)
  refine lv_iconst (v := (-1)) hx hb dX4_bestTaker_2 (by decide) ?_
  refine lv_istore (lv' := [(4, .int (-1)), (3, va_rf none), (0, .ref (α 0 0)), (1, .ref (α 9 j)), (2, .int v)]) hx hb dX4_bestTaker_3 hl (by decide) rfl (fun ls hl => ?_)
  refine lv_aload_n hx hb dX4_bestTaker_5 rfl (lv_at hl 2 rfl) ?_
  obtain ⟨q_358, hq_358⟩ := xw_at (wr := wr) (cA := cA) (α := α) (L := L) (S := (N, R, Fr, inc)) 0 0 (hLk.o 0 (by decide))
  refine k_get (v := .ref (α 3 0)) F hW inX4 rfl q_358 hq_358 rfl 2 (by decide) FL_X4_23 rfl rfl dX4_bestTaker_6 ?_
  refine lv_astore (lv' := [(5, .ref (α 3 0)), (4, .int (-1)), (3, va_rf none), (0, .ref (α 0 0)), (1, .ref (α 9 j)), (2, .int v)]) hx hb dX4_bestTaker_9 hl (by decide) rfl (fun ls hl => ?_)
  refine lv_aload hx hb dX4_bestTaker_11 (lv_at hl 0 rfl) ?_
  obtain ⟨q_359, hq_359⟩ := xw_at (wr := wr) (cA := cA) (α := α) (L := L) (S := (N, R, Fr, inc)) 3 0 (hLk.o 3 (by decide))
  refine k_alen (v := 5) F hW q_359 8 hq_359 rfl rfl dX4_bestTaker_13 ?_
  refine lv_istore (lv' := [(6, .int 5), (5, .ref (α 3 0)), (4, .int (-1)), (3, va_rf none), (0, .ref (α 0 0)), (1, .ref (α 9 j)), (2, .int v)]) hx hb dX4_bestTaker_14 hl (by decide) rfl (fun ls hl => ?_)
  refine lv_iconst (v := 0) hx hb dX4_bestTaker_16 (by decide) ?_
  refine lv_istore (lv' := [(7, .int 0), (6, .int 5), (5, .ref (α 3 0)), (4, .int (-1)), (3, va_rf none), (0, .ref (α 0 0)), (1, .ref (α 9 j)), (2, .int v)]) hx hb dX4_bestTaker_17 hl (by decide) rfl (fun ls hl => ?_)
  have hb0 : best R Fr j v (min 0 (N 0 2)) = 0 := by rw [Nat.zero_min]; rfl
  rw [show (-1 : Int32) = bestO R Fr j (best R Fr j v (min 0 (N 0 2))) from by rw [hb0]; rfl, show (none : Option Nat) = bestR α (best R Fr j v (min 0 (N 0 2))) from by rw [hb0]; rfl] at hl
  refine k_ind (P := fun k H locs ls => ∃ i, i + k = 5 ∧ Cw D cA s (va_A (xWd wr cA α L (N, R, Fr, inc)) s.heap.size) (xWd wr cA α L (N, R, Fr, inc)) H locs ∧ lv_has ls 10 [(0, .ref (α 0 0)), (1, .ref (α 9 j)), (2, .int v), (3, va_rf (bestR α (best R Fr j v (min i (N 0 2))))), (4, .int (bestO R Fr j (best R Fr j v (min i (N 0 2))))), (5, .ref (α 3 0)), (6, .int 5), (7, .int (nI i))]) (fun k ih H locs ls hP => ?_) (5) ⟨0, by omega, hW, lv_sub hl [5, 6, 7, 4, 3, 2, 1, 0] rfl⟩
  obtain ⟨i, hi_i, hW, hl⟩ := hP
  refine lv_iload hx hb dX4_bestTaker_19 (lv_at hl 7 rfl) ?_
  refine lv_iload hx hb dX4_bestTaker_21 (lv_at hl 6 rfl) ?_
  refine lv_icmp_ge (tgt := 86) hx hb dX4_bestTaker_23 (by decide) (fun h_c => ?_) (fun h_c => ?_)
  · obtain rfl : i = 5 := by have := (nI_leI (b := i) (a := 5) (by omega) (by omega)).mp h_c; omega
    refine x_aload_nQ (r := (bestR α (best R Fr j v (min 5 (N 0 2))))) hx hb dX4_bestTaker_86 rfl (lv_at hl 3 rfl) ?_
    exact k_rret (bestR α (best R Fr j v (min 5 (N 0 2)))) () F rfl (hW) (by rw [Nat.min_eq_right (by have := hC; unfold IC at this; omega)]) dX4_bestTaker_87 (Nat.le_of_ble_eq_true rfl) (Nat.le_of_ble_eq_true rfl)
  · have hlt : i < 5 := Nat.lt_of_not_le fun q => h_c (nI_le (a := 5) q (by omega))
    refine lv_aload hx hb dX4_bestTaker_26 (lv_at hl 5 rfl) ?_
    refine lv_iload hx hb dX4_bestTaker_28 (lv_at hl 7 rfl) ?_
    by_cases hiv : i < N 0 2
    · obtain ⟨q_360, hq_360⟩ := xw_at (wr := wr) (cA := cA) (α := α) (L := L) (S := (N, R, Fr, inc)) 3 0 (hLk.o 3 (by decide))
      refine k_aaldS (x := (α 10 i)) F hW q_360 hq_360 (tI := 8) rfl (vp_in_nI hlt (by decide)) (by rw [nI_clamp (by omega)]; exact if_pos (hC.lt (by decide) hiv)) dX4_bestTaker_30 ?_
      refine lv_astore (lv' := [(8, .ref (α 10 i)), (0, .ref (α 0 0)), (1, .ref (α 9 j)), (2, .int v), (3, va_rf (bestR α (best R Fr j v (min i (N 0 2))))), (4, .int (bestO R Fr j (best R Fr j v (min i (N 0 2))))), (5, .ref (α 3 0)), (6, .int 5), (7, .int (nI i))]) hx hb dX4_bestTaker_31 hl (by decide) rfl (fun ls hl => ?_)
      refine lv_aload hx hb dX4_bestTaker_33 (lv_at hl 0 rfl) ?_
      refine lv_ifnull hx hb dX4_bestTaker_35 ?_
      refine lv_aload hx hb dX4_bestTaker_38 (lv_at hl 0 rfl) ?_
      obtain ⟨q_361, hq_361⟩ := xw_at (wr := wr) (cA := cA) (α := α) (L := L) (S := (N, R, Fr, inc)) 10 i (hLk.u 10 i (by decide) (hC.lt (by decide) hiv))
      refine k_get (v := .int (R 13 i 0)) F hW inX1 rfl q_361 hq_361 rfl 2 (by decide) FL_X4_205 rfl rfl dX4_bestTaker_40 ?_
      refine lv_iload_n hx hb dX4_bestTaker_43 rfl (lv_at hl 3 rfl) ?_
      refine lv_aload_n hx hb dX4_bestTaker_44 rfl (lv_at hl 2 rfl) ?_
      obtain ⟨q_362, hq_362⟩ := xw_at (wr := wr) (cA := cA) (α := α) (L := L) (S := (N, R, Fr, inc)) 9 j (hLk.l j (hC.lt (by decide) hj))
      refine k_get (v := .int (R 7 j 0)) F hW inX2 rfl q_362 hq_362 rfl 4 (by decide) FL_X4_149 rfl rfl dX4_bestTaker_45 ?_
      refine lv_imul hx hb dX4_bestTaker_48 ?_
      refine lv_icmp_lt (tgt := 80) hx hb dX4_bestTaker_49 (by decide) (fun h_1 => ?_) (fun h_1 => ?_)
      · have hst := best_no1 h_1 (Fr := Fr)
        rw [show best R Fr j v (min i (N 0 2)) = best R Fr j v (min (i + 1) (N 0 2)) from by rw [Nat.min_eq_left (by omega), Nat.min_eq_left (by omega)]; exact hst.symm] at hl
        refine lv_iinc (k := 8) (lv' := [(7, .int (nI (i + 1))), (8, .ref (α 10 i)), (0, .ref (α 0 0)), (1, .ref (α 9 j)), (2, .int v), (3, va_rf (bestR α (best R Fr j v (min (i + 1) (N 0 2))))), (4, .int (bestO R Fr j (best R Fr j v (min (i + 1) (N 0 2))))), (5, .ref (α 3 0)), (6, .int 5)]) hx hb dX4_bestTaker_80 hl rfl (nI_1 i) (by decide) rfl (fun ls hl => ?_)
        refine lv_goto (tgt := 19) hx hb dX4_bestTaker_83 (by decide) ?_
        exact ih (k - 1) (by omega) ⟨i + 1, by omega, hW, lv_sub hl [2, 3, 4, 5, 6, 7, 8, 0] rfl⟩
      · refine lv_aload hx hb dX4_bestTaker_52 (lv_at hl 0 rfl) ?_
        refine lv_aload_n hx hb dX4_bestTaker_54 rfl (lv_at hl 2 rfl) ?_
        obtain ⟨q_363, hq_363⟩ := xw_at (wr := wr) (cA := cA) (α := α) (L := L) (S := (N, R, Fr, inc)) 10 i (hLk.u 10 i (by decide) (hC.lt (by decide) hiv))
        refine k_callVi (as := [.ref (α 9 j)]) (rest := []) (b := (α 10 i)) (ci := 3) (q0 := q_363) F hW (met_X1_offerFor l D cA wr α L N R Fr inc i j hLk (hC.lt (by decide) hiv) (hC.lt (by decide) hj) (hL _ hj)) rfl ML_X4_210 IM_X1_offerFor SE_X1_offerFor IN_X1 CO_X1_offerFor hdV_X1_offerFor rfl rfl ⟨(Nat.le_of_ble_eq_true rfl), (Nat.le_of_ble_eq_true rfl)⟩ rfl rfl (hq_363) rfl rfl hl.1 (Nat.le_of_ble_eq_true rfl) dX4_bestTaker_55 ⟨(Nat.le_of_ble_eq_true rfl), (Nat.le_of_ble_eq_true rfl)⟩ (fun r_364 u H locs hw hW => ?_)
        subst hw
        refine lv_istore (lv' := [(9, .int (offerOf R Fr i j)), (8, .ref (α 10 i)), (0, .ref (α 0 0)), (1, .ref (α 9 j)), (2, .int v), (3, va_rf (bestR α (best R Fr j v (min i (N 0 2))))), (4, .int (bestO R Fr j (best R Fr j v (min i (N 0 2))))), (5, .ref (α 3 0)), (6, .int 5), (7, .int (nI i))]) hx hb dX4_bestTaker_58 hl (by decide) rfl (fun ls hl => ?_)
        refine lv_iload hx hb dX4_bestTaker_60 (lv_at hl 0 rfl) ?_
        refine lv_iload_n hx hb dX4_bestTaker_62 rfl (lv_at hl 4 rfl) ?_
        refine lv_icmp_lt (tgt := 80) hx hb dX4_bestTaker_63 (by decide) (fun h_2 => ?_) (fun h_2 => ?_)
        · have hst := best_no2 h_2
          rw [show best R Fr j v (min i (N 0 2)) = best R Fr j v (min (i + 1) (N 0 2)) from by rw [Nat.min_eq_left (by omega), Nat.min_eq_left (by omega)]; exact hst.symm] at hl
          refine lv_iinc (k := 9) (lv' := [(7, .int (nI (i + 1))), (9, .int (offerOf R Fr i j)), (8, .ref (α 10 i)), (0, .ref (α 0 0)), (1, .ref (α 9 j)), (2, .int v), (3, va_rf (bestR α (best R Fr j v (min (i + 1) (N 0 2))))), (4, .int (bestO R Fr j (best R Fr j v (min (i + 1) (N 0 2))))), (5, .ref (α 3 0)), (6, .int 5)]) hx hb dX4_bestTaker_80 hl rfl (nI_1 i) (by decide) rfl (fun ls hl => ?_)
          refine lv_goto (tgt := 19) hx hb dX4_bestTaker_83 (by decide) ?_
          exact ih (k - 1) (by omega) ⟨i + 1, by omega, hW, lv_sub hl [3, 4, 5, 6, 7, 8, 9, 0] rfl⟩
        · refine lv_iload hx hb dX4_bestTaker_66 (lv_at hl 0 rfl) ?_
          refine lv_iload hx hb dX4_bestTaker_68 (lv_at hl 6 rfl) ?_
          have hmi : min i (N 0 2) = i := Nat.min_eq_left (by omega)
          refine lv_icmp_le (tgt := 80) hx hb dX4_bestTaker_70 (by decide) (fun h_3 => ?_) (fun h_3 => ?_)
          · rw [hmi] at h_3
            have hst := best_no3 hv0 h_2 h_3
            rw [show best R Fr j v (min i (N 0 2)) = best R Fr j v (min (i + 1) (N 0 2)) from by rw [Nat.min_eq_left (by omega), Nat.min_eq_left (by omega)]; exact hst.symm] at hl
            refine lv_iinc (k := 9) (lv' := [(7, .int (nI (i + 1))), (9, .int (offerOf R Fr i j)), (8, .ref (α 10 i)), (0, .ref (α 0 0)), (1, .ref (α 9 j)), (2, .int v), (3, va_rf (bestR α (best R Fr j v (min (i + 1) (N 0 2))))), (4, .int (bestO R Fr j (best R Fr j v (min (i + 1) (N 0 2))))), (5, .ref (α 3 0)), (6, .int 5)]) hx hb dX4_bestTaker_80 hl rfl (nI_1 i) (by decide) rfl (fun ls hl => ?_)
            refine lv_goto (tgt := 19) hx hb dX4_bestTaker_83 (by decide) ?_
            exact ih (k - 1) (by omega) ⟨i + 1, by omega, hW, lv_sub hl [3, 4, 5, 6, 7, 8, 9, 0] rfl⟩
          · rw [hmi] at h_3
            have hst := best_yes h_1 h_2 h_3
            refine lv_aload hx hb dX4_bestTaker_73 (lv_at hl 1 rfl) ?_
            refine lv_astore_n (lv' := [(3, .ref (α 10 i)), (9, .int (offerOf R Fr i j)), (8, .ref (α 10 i)), (0, .ref (α 0 0)), (1, .ref (α 9 j)), (2, .int v), (4, .int (bestO R Fr j (best R Fr j v (min i (N 0 2))))), (5, .ref (α 3 0)), (6, .int 5), (7, .int (nI i))]) hx hb dX4_bestTaker_75 rfl hl (by decide) rfl (fun ls hl => ?_)
            refine lv_iload hx hb dX4_bestTaker_76 (lv_at hl 1 rfl) ?_
            refine lv_istore (lv' := [(4, .int (offerOf R Fr i j)), (3, .ref (α 10 i)), (9, .int (offerOf R Fr i j)), (8, .ref (α 10 i)), (0, .ref (α 0 0)), (1, .ref (α 9 j)), (2, .int v), (5, .ref (α 3 0)), (6, .int 5), (7, .int (nI i))]) hx hb dX4_bestTaker_78 hl (by decide) rfl (fun ls hl => ?_)
            have hB : best R Fr j v (min (i + 1) (N 0 2)) = i + 1 := by rw [Nat.min_eq_left (by omega)]; exact hst
            rw [show offerOf R Fr i j = bestO R Fr j (best R Fr j v (min (i + 1) (N 0 2))) from by rw [hB]; rfl] at hl
            have hl := lv_chg hl (show Value.ref (α 10 i) = va_rf (bestR α (best R Fr j v (min (i + 1) (N 0 2)))) from by rw [hB]; rfl) 1 rfl
            have hl : lv_has ls 10 [(4, .int (bestO R Fr j (best R Fr j v (min (i + 1) (N 0 2))))), (3, va_rf (bestR α (best R Fr j v (min (i + 1) (N 0 2))))), (9, .int (bestO R Fr j (best R Fr j v (min (i + 1) (N 0 2))))), (8, .ref (α 10 i)), (0, .ref (α 0 0)), (1, .ref (α 9 j)), (2, .int v), (5, .ref (α 3 0)), (6, .int 5), (7, .int (nI i))] := hl
            refine lv_iinc (k := 9) (lv' := [(7, .int (nI (i + 1))), (4, .int (bestO R Fr j (best R Fr j v (min (i + 1) (N 0 2))))), (3, va_rf (bestR α (best R Fr j v (min (i + 1) (N 0 2))))), (9, .int (bestO R Fr j (best R Fr j v (min (i + 1) (N 0 2))))), (8, .ref (α 10 i)), (0, .ref (α 0 0)), (1, .ref (α 9 j)), (2, .int v), (5, .ref (α 3 0)), (6, .int 5)]) hx hb dX4_bestTaker_80 hl rfl (nI_1 i) (by decide) rfl (fun ls hl => ?_)
            refine lv_goto (tgt := 19) hx hb dX4_bestTaker_83 (by decide) ?_
            exact ih (k - 1) (by omega) ⟨i + 1, by omega, hW, lv_sub hl [5, 6, 7, 2, 1, 8, 9, 0] rfl⟩
    · obtain ⟨q_365, hq_365⟩ := xw_at (wr := wr) (cA := cA) (α := α) (L := L) (S := (N, R, Fr, inc)) 3 0 (hLk.o 3 (by decide))
      refine k_aaldN F hW q_365 hq_365 (tI := 8) rfl (vp_in_nI hlt (by decide)) (by rw [nI_clamp (by omega)]; exact if_neg (by rw [hC.2.2.2.2.2.1 2 (by decide)]; exact hiv)) dX4_bestTaker_30 ?_
      refine x_astoreQ (r := none) (lv' := [(8, va_rf none), (0, .ref (α 0 0)), (1, .ref (α 9 j)), (2, .int v), (3, va_rf (bestR α (best R Fr j v (min i (N 0 2))))), (4, .int (bestO R Fr j (best R Fr j v (min i (N 0 2))))), (5, .ref (α 3 0)), (6, .int 5), (7, .int (nI i))]) hx hb dX4_bestTaker_31 hl (by decide) rfl (fun ls hl => ?_)
      refine x_aloadQ (r := none) hx hb dX4_bestTaker_33 (lv_at hl 0 rfl) ?_
      refine lv_ifnullN (tgt := 80) hx hb dX4_bestTaker_35 (by decide) ?_
      rw [show min i (N 0 2) = min (i + 1) (N 0 2) from by rw [Nat.min_eq_right (by omega), Nat.min_eq_right (by omega)]] at hl
      refine lv_iinc (k := 8) (lv' := [(7, .int (nI (i + 1))), (8, va_rf none), (0, .ref (α 0 0)), (1, .ref (α 9 j)), (2, .int v), (3, va_rf (bestR α (best R Fr j v (min (i + 1) (N 0 2))))), (4, .int (bestO R Fr j (best R Fr j v (min (i + 1) (N 0 2))))), (5, .ref (α 3 0)), (6, .int 5)]) hx hb dX4_bestTaker_80 hl rfl (nI_1 i) (by decide) rfl (fun ls hl => ?_)
      refine lv_goto (tgt := 19) hx hb dX4_bestTaker_83 (by decide) ?_
      exact ih (k - 1) (by omega) ⟨i + 1, by omega, hW, lv_sub hl [2, 3, 4, 5, 6, 7, 8, 0] rfl⟩
