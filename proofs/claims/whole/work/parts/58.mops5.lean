set_option maxHeartbeats 4000000 in
set_option maxRecDepth 100000 in
theorem met_X5_offerOf (l : Launch) (D : va_G) (cA : Nat → ClassId) (β : Nat → Nat) (c0 c1 : Nat × va_E) (wr : va_W) (th : Int32) (N : Nat → Nat → Nat) (R : Nat → Nat → Nat → Int32) (Fr : Nat → UInt32) (inc : Int64) (u j : Int32) (hN : N 0 1 ≤ 20) (hL : ∀ j, j < N 0 1 → lotOK R Fr j) (hN2 : N 0 2 ≤ 5) (hu : isIx (N 0 2) u = true) (hj : isIx (N 0 1) j = true) : MetI l yX5_offerOf (.code yX5_offerOf cX5_offerOf 6 (some .int) :: LW) ({ frames := 0, cells := 0, slots := 0, locals := 0 }) D cA (mWd cA β c0 c1 wr th (N, R, Fr, inc)) [.ref (β 0), .int u, .int j] (fun r (_ : Unit) => r = offerOf R Fr (ix u) (ix j)) (fun _ => mWd cA β c0 c1 wr th (N, R, Fr, inc)) 0 0 := by
  refine k_bodyI (plainFor_of_name (by decide)) (Nat.le_of_ble_eq_true rfl) (fun p e s m args below meth c ls F hW hl => ?_)
  obtain ⟨hx, hb, hr, hml, hown, hts, hlocks, hname⟩ := id F
  have hl : lv_has ls 6 [(0, .ref (β 0)), (1, .int u), (2, .int j)] := hl
  obtain ⟨hsp, -, -, -, hfo, -⟩ := hL _ (ix_lt hj (by omega)).1
  refine lv_aload_n hx hb dX5_offerOf_0 rfl (lv_at hl 0 rfl) ?_
  refine k_get (v := .ref (β 13)) F hW inX5 rfl 2 rfl rfl 19 (by decide) FL_X5_49 rfl rfl dX5_offerOf_1 ?_
  refine lv_iconst (v := 4) hx hb dX5_offerOf_4 (by decide) ?_
  refine lv_iload_n hx hb dX5_offerOf_5 rfl (lv_at hl 1 rfl) ?_
  refine lv_imul hx hb dX5_offerOf_6 ?_
  refine lv_aload_n hx hb dX5_offerOf_7 rfl (lv_at hl 0 rfl) ?_
  refine k_get (v := .ref (β 3)) F hW inX5 rfl 2 rfl rfl 7 (by decide) FL_X5_16 rfl rfl dX5_offerOf_8 ?_
  refine lv_iload_n hx hb dX5_offerOf_11 rfl (lv_at hl 2 rfl) ?_
  refine k_iald (v := R 5 (ix j) 0) F hW 5 rfl (in1 hj hN (by decide)) (rfl) dX5_offerOf_12 ?_
  refine lv_iadd hx hb dX5_offerOf_13 ?_
  refine k_iald (v := R 14 (ix u) (ix (R 5 (ix j) 0))) F hW 15 rfl (in4 hu (by omega) hsp (by omega) (by decide)) (v4 (f := R 14) hu (by omega) hsp) dX5_offerOf_14 ?_
  refine lv_bipush (v := 100) hx hb dX5_offerOf_15 (by decide) ?_
  refine lv_bipush (v := 10) hx hb dX5_offerOf_17 (by decide) ?_
  refine lv_aload_n hx hb dX5_offerOf_19 rfl (lv_at hl 0 rfl) ?_
  refine k_get (v := .ref (β 4)) F hW inX5 rfl 2 rfl rfl 8 (by decide) FL_X5_19 rfl rfl dX5_offerOf_20 ?_
  refine lv_iload_n hx hb dX5_offerOf_23 rfl (lv_at hl 2 rfl) ?_
  refine k_iald (v := R 6 (ix j) 0) F hW 6 rfl (in1 hj hN (by decide)) (rfl) dX5_offerOf_24 ?_
  refine lv_imul hx hb dX5_offerOf_25 ?_
  refine lv_iadd hx hb dX5_offerOf_26 ?_
  refine lv_imul hx hb dX5_offerOf_27 ?_
  refine lv_istore_n (lv' := [(3, .int ((R 14 (ix u) (ix (R 5 (ix j) 0))) * (100 + (10 * (R 6 (ix j) 0))))), (0, .ref (β 0)), (1, .int u), (2, .int j)]) hx hb dX5_offerOf_28 rfl hl (by decide) rfl (fun ls hl => ?_)
  refine lv_iload_n hx hb dX5_offerOf_29 rfl (lv_at hl 0 rfl) ?_
  refine lv_i2d hx hb dX5_offerOf_30 ?_
  refine lv_ldc2d (v := 4636737291354636288) hx hb hown (hts _ CK_X5_148) dX5_offerOf_31 ?_
  refine lv_ddiv hx hb dX5_offerOf_34 (nn_off1 _) ?_
  refine lv_dstore (lv' := [(4, .double (FP.ddiv (FP.i2d ((R 14 (ix u) (ix (R 5 (ix j) 0))) * (100 + (10 * (R 6 (ix j) 0))))) 4636737291354636288)), (3, .int ((R 14 (ix u) (ix (R 5 (ix j) 0))) * (100 + (10 * (R 6 (ix j) 0))))), (0, .ref (β 0)), (1, .int u), (2, .int j)]) hx hb dX5_offerOf_35 hl (by decide) rfl (fun ls hl => ?_)
  refine lv_dload hx hb dX5_offerOf_37 (lv_at hl 0 rfl) ?_
  refine lv_aload_n hx hb dX5_offerOf_39 rfl (lv_at hl 2 rfl) ?_
  refine k_get (v := .ref (β 8)) F hW inX5 rfl 2 rfl rfl 12 (by decide) FL_X5_33 rfl rfl dX5_offerOf_40 ?_
  refine lv_iload_n hx hb dX5_offerOf_43 rfl (lv_at hl 4 rfl) ?_
  refine k_fald (v := Fr (ix j)) F hW 10 rfl (in1 hj hN (by decide)) (rfl) dX5_offerOf_44 ?_
  refine lv_f2d hx hb dX5_offerOf_45 (nn_off2 hfo) ?_
  refine lv_dmul hx hb dX5_offerOf_46 (nn_off3 _ hfo) ?_
  refine lv_dstore (lv' := [(4, .double (FP.dmul (FP.ddiv (FP.i2d ((R 14 (ix u) (ix (R 5 (ix j) 0))) * (100 + (10 * (R 6 (ix j) 0))))) 4636737291354636288) (FP.f2d (Fr (ix j))))), (3, .int ((R 14 (ix u) (ix (R 5 (ix j) 0))) * (100 + (10 * (R 6 (ix j) 0))))), (0, .ref (β 0)), (1, .int u), (2, .int j)]) hx hb dX5_offerOf_47 hl (by decide) rfl (fun ls hl => ?_)
  refine lv_dload hx hb dX5_offerOf_49 (lv_at hl 0 rfl) ?_
  refine lv_ldc2d (v := 4636737291354636288) hx hb hown (hts _ CK_X5_148) dX5_offerOf_51 ?_
  refine lv_ddiv hx hb dX5_offerOf_54 (nn_off4 _ hfo) ?_
  refine lv_dstore (lv' := [(4, .double (FP.ddiv (FP.dmul (FP.ddiv (FP.i2d ((R 14 (ix u) (ix (R 5 (ix j) 0))) * (100 + (10 * (R 6 (ix j) 0))))) 4636737291354636288) (FP.f2d (Fr (ix j)))) 4636737291354636288)), (3, .int ((R 14 (ix u) (ix (R 5 (ix j) 0))) * (100 + (10 * (R 6 (ix j) 0))))), (0, .ref (β 0)), (1, .int u), (2, .int j)]) hx hb dX5_offerOf_55 hl (by decide) rfl (fun ls hl => ?_)
  refine lv_dload hx hb dX5_offerOf_57 (lv_at hl 0 rfl) ?_
  refine lv_d2i hx hb dX5_offerOf_59 ?_
  exact k_iret () F (hW) (rfl) dX5_offerOf_60 (Nat.le_of_ble_eq_true rfl) (Nat.le_of_ble_eq_true rfl)

set_option maxHeartbeats 4000000 in
set_option maxRecDepth 100000 in
theorem met_X5_offer (l : Launch) (D : va_G) (cA : Nat → ClassId) (β : Nat → Nat) (c0 c1 : Nat × va_E) (wr : va_W) (th : Int32) (N : Nat → Nat → Nat) (R : Nat → Nat → Nat → Int32) (Fr : Nat → UInt32) (inc : Int64) (p0 p1 : Int32) (hN : N 0 1 ≤ 20) (hL : ∀ j, j < N 0 1 → lotOK R Fr j) (hN2 : N 0 2 ≤ 5) : MetI l yX5_offer (.code yX5_offer cX5_offer 3 (some .int) :: LW) ({ frames := 2, cells := 0, slots := 0, locals := 43 }) D cA (mWd cA β c0 c1 wr th (N, R, Fr, inc)) [.ref (β 0), .int p0, .int p1] (fun r (_ : Unit) => r = (op_offer (N, R, Fr, inc) p0 p1).2.1) (fun _ => mWd cA β c0 c1 wr (nI (op_offer (N, R, Fr, inc) p0 p1).1) (op_offer (N, R, Fr, inc) p0 p1).2.2) 0 0 := by
  refine k_bodyI (plainFor_of_name (by decide)) (Nat.le_of_ble_eq_true rfl) (fun p e s m args below meth c ls F hW hl => ?_)
  obtain ⟨hx, hb, hr, hml, hown, hts, hlocks, hname⟩ := id F
  have hl : lv_has ls 3 [(0, .ref (β 0)), (1, .int p0), (2, .int p1)] := hl
  refine lv_aload_n hx hb dX5_offer_0 rfl (lv_at hl 0 rfl) ?_
  refine lv_aload_n hx hb dX5_offer_1 rfl (lv_at hl 0 rfl) ?_
  refine lv_iload_n hx hb dX5_offer_2 rfl (lv_at hl 1 rfl) ?_
  refine k_callVi (as := [.int p0]) (rest := [.ref (β 0)]) (b := (β 0)) (ci := 7) (q0 := 2) F hW (met_X5_isBuyer l D cA β c0 c1 wr th N R Fr inc p0) rfl ML_X5_142 IM_X5_isBuyer SE_X5_isBuyer IN_X5 CO_X5_isBuyer hdV_X5_isBuyer rfl rfl ⟨(Nat.le_of_ble_eq_true rfl), (Nat.le_of_ble_eq_true rfl)⟩ rfl rfl (rfl) rfl rfl hl.1 (Nat.le_of_ble_eq_true rfl) dX5_offer_3 ⟨(Nat.le_of_ble_eq_true rfl), (Nat.le_of_ble_eq_true rfl)⟩ (fun r_185 u H locs hw hW => ?_)
  subst hw
  cases hq_186 : isIx (N 0 2) p0
  · refine lv_if_ne (tgt := 13) hx hb dX5_offer_6 (by decide) (fun h => absurd (by decide) h) (fun _ => ?_)
    refine lv_iconst (v := 1) hx hb dX5_offer_9 (by decide) ?_
    refine lv_goto (tgt := 26) hx hb dX5_offer_10 (by decide) ?_
    refine k_callVi (as := [.int 1]) (rest := []) (b := (β 0)) (ci := 7) (q0 := 2) F hW (met_X5_goesOn l D cA β c0 c1 wr th N R Fr inc 1) rfl ML_X5_93 IM_X5_goesOn SE_X5_goesOn IN_X5 CO_X5_goesOn hdV_X5_goesOn rfl rfl ⟨(Nat.le_of_ble_eq_true rfl), (Nat.le_of_ble_eq_true rfl)⟩ rfl rfl (rfl) rfl rfl hl.1 (Nat.le_of_ble_eq_true rfl) dX5_offer_26 ⟨(Nat.le_of_ble_eq_true rfl), (Nat.le_of_ble_eq_true rfl)⟩ (fun r_187 u H locs hw hW => ?_)
    subst hw
    refine lv_if_eq (tgt := 41) hx hb dX5_offer_29 (by decide) (fun _ => ?_) (fun h => absurd (by decide) h)
    refine lv_iconst (v := 0) hx hb dX5_offer_41 (by decide) ?_
    have hop : op_offer (N, R, Fr, inc) p0 p1 = (1, 0, (N, R, Fr, inc)) := by simp [op_offer, hq_186]
    exact k_iret () F (hW.eq (by rw [hop]; rfl)) (by rw [hop]) dX5_offer_42 (Nat.le_of_ble_eq_true rfl) (Nat.le_of_ble_eq_true rfl)
  · refine lv_if_ne (tgt := 13) hx hb dX5_offer_6 (by decide) (fun _ => ?_) (fun h => absurd h (by decide))
    refine lv_aload_n hx hb dX5_offer_13 rfl (lv_at hl 0 rfl) ?_
    refine lv_iload_n hx hb dX5_offer_14 rfl (lv_at hl 2 rfl) ?_
    refine k_callVi (as := [.int p1]) (rest := [.ref (β 0)]) (b := (β 0)) (ci := 7) (q0 := 2) F hW (met_X5_isLot l D cA β c0 c1 wr th N R Fr inc p1) rfl ML_X5_110 IM_X5_isLot SE_X5_isLot IN_X5 CO_X5_isLot hdV_X5_isLot rfl rfl ⟨(Nat.le_of_ble_eq_true rfl), (Nat.le_of_ble_eq_true rfl)⟩ rfl rfl (rfl) rfl rfl hl.1 (Nat.le_of_ble_eq_true rfl) dX5_offer_15 ⟨(Nat.le_of_ble_eq_true rfl), (Nat.le_of_ble_eq_true rfl)⟩ (fun r_188 u H locs hw hW => ?_)
    subst hw
    cases hq_189 : isIx (N 0 1) p1
    · refine lv_if_ne (tgt := 25) hx hb dX5_offer_18 (by decide) (fun h => absurd (by decide) h) (fun _ => ?_)
      refine lv_iconst (v := 2) hx hb dX5_offer_21 (by decide) ?_
      refine lv_goto (tgt := 26) hx hb dX5_offer_22 (by decide) ?_
      refine k_callVi (as := [.int 2]) (rest := []) (b := (β 0)) (ci := 7) (q0 := 2) F hW (met_X5_goesOn l D cA β c0 c1 wr th N R Fr inc 2) rfl ML_X5_93 IM_X5_goesOn SE_X5_goesOn IN_X5 CO_X5_goesOn hdV_X5_goesOn rfl rfl ⟨(Nat.le_of_ble_eq_true rfl), (Nat.le_of_ble_eq_true rfl)⟩ rfl rfl (rfl) rfl rfl hl.1 (Nat.le_of_ble_eq_true rfl) dX5_offer_26 ⟨(Nat.le_of_ble_eq_true rfl), (Nat.le_of_ble_eq_true rfl)⟩ (fun r_190 u H locs hw hW => ?_)
      subst hw
      refine lv_if_eq (tgt := 41) hx hb dX5_offer_29 (by decide) (fun _ => ?_) (fun h => absurd (by decide) h)
      refine lv_iconst (v := 0) hx hb dX5_offer_41 (by decide) ?_
      have hop : op_offer (N, R, Fr, inc) p0 p1 = (2, 0, (N, R, Fr, inc)) := by simp [op_offer, hq_186, hq_189]
      exact k_iret () F (hW.eq (by rw [hop]; rfl)) (by rw [hop]) dX5_offer_42 (Nat.le_of_ble_eq_true rfl) (Nat.le_of_ble_eq_true rfl)
    · refine lv_if_ne (tgt := 25) hx hb dX5_offer_18 (by decide) (fun _ => ?_) (fun h => absurd h (by decide))
      refine lv_iconst (v := 0) hx hb dX5_offer_25 (by decide) ?_
      refine k_callVi (as := [.int 0]) (rest := []) (b := (β 0)) (ci := 7) (q0 := 2) F hW (met_X5_goesOn l D cA β c0 c1 wr th N R Fr inc 0) rfl ML_X5_93 IM_X5_goesOn SE_X5_goesOn IN_X5 CO_X5_goesOn hdV_X5_goesOn rfl rfl ⟨(Nat.le_of_ble_eq_true rfl), (Nat.le_of_ble_eq_true rfl)⟩ rfl rfl (rfl) rfl rfl hl.1 (Nat.le_of_ble_eq_true rfl) dX5_offer_26 ⟨(Nat.le_of_ble_eq_true rfl), (Nat.le_of_ble_eq_true rfl)⟩ (fun r_191 u H locs hw hW => ?_)
      subst hw
      refine lv_if_eq (tgt := 41) hx hb dX5_offer_29 (by decide) (fun h => absurd h (by decide)) (fun _ => ?_)
      refine lv_aload_n hx hb dX5_offer_32 rfl (lv_at hl 0 rfl) ?_
      refine lv_iload_n hx hb dX5_offer_33 rfl (lv_at hl 1 rfl) ?_
      refine lv_iload_n hx hb dX5_offer_34 rfl (lv_at hl 2 rfl) ?_
      refine k_callVi (as := [.int p0, .int p1]) (rest := []) (b := (β 0)) (ci := 7) (q0 := 2) F hW (met_X5_offerOf l D cA β c0 c1 wr 0 N R Fr inc p0 p1 hN hL hN2 hq_186 hq_189) rfl ML_X5_150 IM_X5_offerOf SE_X5_offerOf IN_X5 CO_X5_offerOf hdV_X5_offerOf rfl rfl ⟨(Nat.le_of_ble_eq_true rfl), (Nat.le_of_ble_eq_true rfl)⟩ rfl rfl (rfl) rfl rfl hl.1 (Nat.le_of_ble_eq_true rfl) dX5_offer_35 ⟨(Nat.le_of_ble_eq_true rfl), (Nat.le_of_ble_eq_true rfl)⟩ (fun r_192 u H locs hw hW => ?_)
      subst hw
      refine lv_goto (tgt := 42) hx hb dX5_offer_38 (by decide) ?_
      have hop : op_offer (N, R, Fr, inc) p0 p1 = (0, (offerOf R Fr (ix p0) (ix p1)), (N, R, Fr, inc)) := by simp [op_offer, hq_186, hq_189]
      exact k_iret () F (hW.eq (by rw [hop]; rfl)) (by rw [hop]) dX5_offer_42 (Nat.le_of_ble_eq_true rfl) (Nat.le_of_ble_eq_true rfl)

set_option maxHeartbeats 4000000 in
set_option maxRecDepth 100000 in
theorem met_X5_takes (l : Launch) (D : va_G) (cA : Nat → ClassId) (β : Nat → Nat) (c0 c1 : Nat × va_E) (wr : va_W) (th : Int32) (N : Nat → Nat → Nat) (R : Nat → Nat → Nat → Int32) (Fr : Nat → UInt32) (inc : Int64) (j v : Int32) (hN : N 0 1 ≤ 20) (hL : ∀ j, j < N 0 1 → lotOK R Fr j) (hN2 : N 0 2 ≤ 5) (hj : isIx (N 0 1) j = true) : MetI l yX5_takes (.code yX5_takes cX5_takes 6 (some .int) :: LW) ({ frames := 1, cells := 0, slots := 0, locals := 25 }) D cA (mWd cA β c0 c1 wr th (N, R, Fr, inc)) [.ref (β 0), .int j, .int v] (fun r (_ : Unit) => r = takes N R Fr (ix j) v) (fun _ => mWd cA β c0 c1 wr th (N, R, Fr, inc)) 0 0 := by
  refine k_bodyI (plainFor_of_name (by decide)) (Nat.le_of_ble_eq_true rfl) (fun p e s m args below meth c ls F hW hl => ?_)
  obtain ⟨hx, hb, hr, hml, hown, hts, hlocks, hname⟩ := id F
  have hl : lv_has ls 6 [(0, .ref (β 0)), (1, .int j), (2, .int v)] := hl
  refine lv_iconst (v := (-1)) hx hb dX5_takes_0 (by decide) ?_
  refine lv_istore_n (lv' := [(3, .int (-1)), (0, .ref (β 0)), (1, .int j), (2, .int v)]) hx hb dX5_takes_1 rfl hl (by decide) rfl (fun ls hl => ?_)
  refine lv_iconst (v := 0) hx hb dX5_takes_2 (by decide) ?_
  refine lv_istore (lv' := [(4, .int 0), (3, .int (-1)), (0, .ref (β 0)), (1, .int j), (2, .int v)]) hx hb dX5_takes_3 hl (by decide) rfl (fun ls hl => ?_)
  refine k_ind (P := fun k H locs ls => ∃ i, i + k = N 0 2 ∧ Cw D cA s (va_A (mWd cA β c0 c1 wr th (N, R, Fr, inc)) s.heap.size) (mWd cA β c0 c1 wr th (N, R, Fr, inc)) H locs ∧ lv_has ls 6 [(0, .ref (β 0)), (1, .int j), (2, .int v), (3, .int (nI (best R Fr (ix j) v i) - 1)), (4, .int (nI i))]) (fun k ih H locs ls hP => ?_) (N 0 2) ⟨0, by omega, hW, lv_sub hl [2, 3, 4, 1, 0] rfl⟩
  obtain ⟨i, hi_i, hW, hl⟩ := hP
  refine lv_iload hx hb dX5_takes_5 (lv_at hl 4 rfl) ?_
  refine lv_aload_n hx hb dX5_takes_7 rfl (lv_at hl 0 rfl) ?_
  refine k_get (v := .int (nI (N 0 2))) F hW inX5 rfl 2 rfl rfl 17 (by decide) FL_X5_87 rfl rfl dX5_takes_8 ?_
  refine lv_icmp_ge (tgt := 89) hx hb dX5_takes_11 (by decide) (fun h_c => ?_) (fun h_c => ?_)
  · obtain rfl : i = N 0 2 := by have := (nI_leI (by omega) (by omega)).mp h_c; omega
    refine lv_iload_n hx hb dX5_takes_89 rfl (lv_at hl 3 rfl) ?_
    exact k_iret () F (hW) (rfl) dX5_takes_90 (Nat.le_of_ble_eq_true rfl) (Nat.le_of_ble_eq_true rfl)
  · have hlt : i < N 0 2 := Nat.lt_of_not_le fun q => h_c (nI_le q (by omega))
    have hu := isIx_t hlt (by omega)
    refine lv_aload_n hx hb dX5_takes_14 rfl (lv_at hl 0 rfl) ?_
    refine lv_iload hx hb dX5_takes_15 (lv_at hl 4 rfl) ?_
    refine lv_iload_n hx hb dX5_takes_17 rfl (lv_at hl 1 rfl) ?_
    refine k_callVi (as := [.int (nI i), .int j]) (rest := []) (b := (β 0)) (ci := 7) (q0 := 2) F hW (met_X5_offerOf l D cA β c0 c1 wr th N R Fr inc (nI i) j hN hL hN2 hu hj) rfl ML_X5_150 IM_X5_offerOf SE_X5_offerOf IN_X5 CO_X5_offerOf hdV_X5_offerOf rfl rfl ⟨(Nat.le_of_ble_eq_true rfl), (Nat.le_of_ble_eq_true rfl)⟩ rfl rfl (rfl) rfl rfl hl.1 (Nat.le_of_ble_eq_true rfl) dX5_takes_18 ⟨(Nat.le_of_ble_eq_true rfl), (Nat.le_of_ble_eq_true rfl)⟩ (fun r_193 u H locs hw hW => ?_)
    rw [ix_nI (by omega)] at hw
    subst hw
    refine lv_iload_n hx hb dX5_takes_21 rfl (lv_at hl 2 rfl) ?_
    refine lv_icmp_lt (tgt := 47) hx hb dX5_takes_22 (by decide) (fun h_o => ?_) (fun h_o => ?_)
    · have hc : can R Fr (ix j) v i = false := by simp [can, Int32.not_le.mpr h_o]
      refine lv_iconst (v := 0) hx hb dX5_takes_47 (by decide) ?_
      refine lv_istore (lv' := [(5, .int 0), (0, .ref (β 0)), (1, .int j), (2, .int v), (3, .int (nI (best R Fr (ix j) v i) - 1)), (4, .int (nI i))]) hx hb dX5_takes_48 hl (by decide) rfl (fun ls hl => ?_)
      refine lv_iload hx hb dX5_takes_50 (lv_at hl 0 rfl) ?_
      refine lv_if_eq (tgt := 81) hx hb dX5_takes_52 (by decide) (fun _ => ?_) (fun h => absurd (by decide) h)
      refine lv_iload_n hx hb dX5_takes_81 rfl (lv_at hl 4 rfl) ?_
      refine lv_topi (fun x_194 ex_194 => ?_)
      obtain rfl : x_194 = nI (best R Fr (ix j) v (i + 1)) - 1 := ex_194.trans (by rw [show best R Fr (ix j) v (i + 1) = best R Fr (ix j) v i from by simp [best, hc]])
      refine lv_istore_n (lv' := [(3, .int (nI (best R Fr (ix j) v (i + 1)) - 1)), (5, .int 0), (0, .ref (β 0)), (1, .int j), (2, .int v), (4, .int (nI i))]) hx hb dX5_takes_82 rfl hl (by decide) rfl (fun ls hl => ?_)
      refine lv_iinc (k := 5) (lv' := [(4, .int (nI (i + 1))), (3, .int (nI (best R Fr (ix j) v (i + 1)) - 1)), (5, .int 0), (0, .ref (β 0)), (1, .int j), (2, .int v)]) hx hb dX5_takes_83 hl rfl (nI_1 i) (by decide) rfl (fun ls hl => ?_)
      refine lv_goto (tgt := 5) hx hb dX5_takes_86 (by decide) ?_
      exact ih (k - 1) (by omega) ⟨i + 1, by omega, hW, lv_sub hl [3, 4, 5, 1, 0] rfl⟩
    · have h_o : v ≤ offerOf R Fr i (ix j) := Int32.not_lt.mp h_o
      refine lv_aload_n hx hb dX5_takes_25 rfl (lv_at hl 0 rfl) ?_
      refine k_get (v := .ref (β 12)) F hW inX5 rfl 2 rfl rfl 18 (by decide) FL_X5_46 rfl rfl dX5_takes_26 ?_
      refine lv_iload hx hb dX5_takes_29 (lv_at hl 4 rfl) ?_
      refine k_iald (v := R 13 i 0) F hW 14 rfl (vp_in_nI (by omega) (by decide)) (by rw [nI_clamp (by omega)]) dX5_takes_31 ?_
      refine lv_iload_n hx hb dX5_takes_32 rfl (lv_at hl 2 rfl) ?_
      refine lv_aload_n hx hb dX5_takes_33 rfl (lv_at hl 0 rfl) ?_
      refine k_get (v := .ref (β 5)) F hW inX5 rfl 2 rfl rfl 9 (by decide) FL_X5_22 rfl rfl dX5_takes_34 ?_
      refine lv_iload_n hx hb dX5_takes_37 rfl (lv_at hl 1 rfl) ?_
      refine k_iald (v := R 7 (ix j) 0) F hW 7 rfl (in1 hj hN (by decide)) (rfl) dX5_takes_38 ?_
      refine lv_imul hx hb dX5_takes_39 ?_
      refine lv_icmp_lt (tgt := 47) hx hb dX5_takes_40 (by decide) (fun h_b => ?_) (fun h_b => ?_)
      · have hc : can R Fr (ix j) v i = false := by simp [can, Int32.not_le.mpr h_b]
        refine lv_iconst (v := 0) hx hb dX5_takes_47 (by decide) ?_
        refine lv_istore (lv' := [(5, .int 0), (0, .ref (β 0)), (1, .int j), (2, .int v), (3, .int (nI (best R Fr (ix j) v i) - 1)), (4, .int (nI i))]) hx hb dX5_takes_48 hl (by decide) rfl (fun ls hl => ?_)
        refine lv_iload hx hb dX5_takes_50 (lv_at hl 0 rfl) ?_
        refine lv_if_eq (tgt := 81) hx hb dX5_takes_52 (by decide) (fun _ => ?_) (fun h => absurd (by decide) h)
        refine lv_iload_n hx hb dX5_takes_81 rfl (lv_at hl 4 rfl) ?_
        refine lv_topi (fun x_195 ex_195 => ?_)
        obtain rfl : x_195 = nI (best R Fr (ix j) v (i + 1)) - 1 := ex_195.trans (by rw [show best R Fr (ix j) v (i + 1) = best R Fr (ix j) v i from by simp [best, hc]])
        refine lv_istore_n (lv' := [(3, .int (nI (best R Fr (ix j) v (i + 1)) - 1)), (5, .int 0), (0, .ref (β 0)), (1, .int j), (2, .int v), (4, .int (nI i))]) hx hb dX5_takes_82 rfl hl (by decide) rfl (fun ls hl => ?_)
        refine lv_iinc (k := 5) (lv' := [(4, .int (nI (i + 1))), (3, .int (nI (best R Fr (ix j) v (i + 1)) - 1)), (5, .int 0), (0, .ref (β 0)), (1, .int j), (2, .int v)]) hx hb dX5_takes_83 hl rfl (nI_1 i) (by decide) rfl (fun ls hl => ?_)
        refine lv_goto (tgt := 5) hx hb dX5_takes_86 (by decide) ?_
        exact ih (k - 1) (by omega) ⟨i + 1, by omega, hW, lv_sub hl [3, 4, 5, 1, 0] rfl⟩
      · have hc : can R Fr (ix j) v i = true := by simp [can, h_o, Int32.not_lt.mp h_b]
        refine lv_iconst (v := 1) hx hb dX5_takes_43 (by decide) ?_
        refine lv_goto (tgt := 48) hx hb dX5_takes_44 (by decide) ?_
        refine lv_istore (lv' := [(5, .int 1), (0, .ref (β 0)), (1, .int j), (2, .int v), (3, .int (nI (best R Fr (ix j) v i) - 1)), (4, .int (nI i))]) hx hb dX5_takes_48 hl (by decide) rfl (fun ls hl => ?_)
        refine lv_iload hx hb dX5_takes_50 (lv_at hl 0 rfl) ?_
        refine lv_if_eq (tgt := 81) hx hb dX5_takes_52 (by decide) (fun h => absurd h (by decide)) (fun _ => ?_)
        refine lv_iload_n hx hb dX5_takes_55 rfl (lv_at hl 4 rfl) ?_
        refine lv_iconst (v := (-1)) hx hb dX5_takes_56 (by decide) ?_
        cases hbq : best R Fr (ix j) v i with
        | zero =>
          refine lv_icmp_eq (tgt := 76) hx hb dX5_takes_57 (by decide) (fun _ => ?_) (fun q => absurd rfl q)
          refine lv_iload hx hb dX5_takes_76 (lv_at hl 5 rfl) ?_
          refine lv_goto (tgt := 82) hx hb dX5_takes_78 (by decide) ?_
          refine lv_topi (fun x_196 ex_196 => ?_)
          obtain rfl : x_196 = nI (best R Fr (ix j) v (i + 1)) - 1 := ex_196.trans (by rw [show best R Fr (ix j) v (i + 1) = i + 1 from by simp [best, hc, hbq], nI_pred])
          refine lv_istore_n (lv' := [(3, .int (nI (best R Fr (ix j) v (i + 1)) - 1)), (5, .int 1), (0, .ref (β 0)), (1, .int j), (2, .int v), (4, .int (nI i))]) hx hb dX5_takes_82 rfl hl (by decide) rfl (fun ls hl => ?_)
          refine lv_iinc (k := 5) (lv' := [(4, .int (nI (i + 1))), (3, .int (nI (best R Fr (ix j) v (i + 1)) - 1)), (5, .int 1), (0, .ref (β 0)), (1, .int j), (2, .int v)]) hx hb dX5_takes_83 hl rfl (nI_1 i) (by decide) rfl (fun ls hl => ?_)
          refine lv_goto (tgt := 5) hx hb dX5_takes_86 (by decide) ?_
          exact ih (k - 1) (by omega) ⟨i + 1, by omega, hW, lv_sub hl [3, 4, 5, 1, 0] rfl⟩
        | succ b =>
          have hbl : b < N 0 2 := by have := best_le R Fr (ix j) v i; omega
          have hpb : nI (best R Fr (ix j) v i) - 1 = nI b := by rw [hbq]; exact nI_pred _
          refine lv_icmp_eq (tgt := 76) hx hb dX5_takes_57 (by decide) (fun q => absurd q (by rw [nI_pred]; exact nI_neg1 (by omega))) (fun _ => ?_)
          refine lv_aload_n hx hb dX5_takes_60 rfl (lv_at hl 1 rfl) ?_
          refine lv_iload hx hb dX5_takes_61 (lv_at hl 5 rfl) ?_
          refine lv_iload_n hx hb dX5_takes_63 rfl (lv_at hl 2 rfl) ?_
          refine k_callVi (as := [.int (nI i), .int j]) (rest := []) (b := (β 0)) (ci := 7) (q0 := 2) F hW (met_X5_offerOf l D cA β c0 c1 wr th N R Fr inc (nI i) j hN hL hN2 hu hj) rfl ML_X5_150 IM_X5_offerOf SE_X5_offerOf IN_X5 CO_X5_offerOf hdV_X5_offerOf rfl rfl ⟨(Nat.le_of_ble_eq_true rfl), (Nat.le_of_ble_eq_true rfl)⟩ rfl rfl (rfl) rfl rfl hl.1 (Nat.le_of_ble_eq_true rfl) dX5_takes_64 ⟨(Nat.le_of_ble_eq_true rfl), (Nat.le_of_ble_eq_true rfl)⟩ (fun r_197 u H locs hw hW => ?_)
          rw [ix_nI (by omega)] at hw
          subst hw
          refine lv_aload_n hx hb dX5_takes_67 rfl (lv_at hl 1 rfl) ?_
          refine lv_iload_n hx hb dX5_takes_68 rfl (lv_at hl 4 rfl) ?_
          refine lv_iload_n hx hb dX5_takes_69 rfl (lv_at hl 2 rfl) ?_
          have hub := isIx_t hbl (by omega)
          refine k_callVi (as := [.int (nI (best R Fr (ix j) v i) - 1), .int j]) (rest := [.int (offerOf R Fr i (ix j))]) (b := (β 0)) (ci := 7) (q0 := 2) F hW (met_X5_offerOf l D cA β c0 c1 wr th N R Fr inc (nI (best R Fr (ix j) v i) - 1) j hN hL hN2 (by rw [hpb]; exact hub) hj) rfl ML_X5_150 IM_X5_offerOf SE_X5_offerOf IN_X5 CO_X5_offerOf hdV_X5_offerOf rfl rfl ⟨(Nat.le_of_ble_eq_true rfl), (Nat.le_of_ble_eq_true rfl)⟩ rfl rfl (rfl) rfl rfl hl.1 (Nat.le_of_ble_eq_true rfl) dX5_takes_70 ⟨(Nat.le_of_ble_eq_true rfl), (Nat.le_of_ble_eq_true rfl)⟩ (fun r_198 u H locs hw hW => ?_)
          rw [hpb, ix_nI (by omega)] at hw
          subst hw
          refine lv_icmp_le (tgt := 81) hx hb dX5_takes_73 (by decide) (fun h_p => ?_) (fun h_p => ?_)
          · refine lv_iload_n hx hb dX5_takes_81 rfl (lv_at hl 4 rfl) ?_
            refine lv_topi (fun x_199 ex_199 => ?_)
            obtain rfl : x_199 = nI (best R Fr (ix j) v (i + 1)) - 1 := ex_199.trans (by rw [show best R Fr (ix j) v (i + 1) = best R Fr (ix j) v i from by simp [best, hc, hbq, Int32.not_lt.mpr h_p]])
            refine lv_istore_n (lv' := [(3, .int (nI (best R Fr (ix j) v (i + 1)) - 1)), (5, .int 1), (0, .ref (β 0)), (1, .int j), (2, .int v), (4, .int (nI i))]) hx hb dX5_takes_82 rfl hl (by decide) rfl (fun ls hl => ?_)
            refine lv_iinc (k := 5) (lv' := [(4, .int (nI (i + 1))), (3, .int (nI (best R Fr (ix j) v (i + 1)) - 1)), (5, .int 1), (0, .ref (β 0)), (1, .int j), (2, .int v)]) hx hb dX5_takes_83 hl rfl (nI_1 i) (by decide) rfl (fun ls hl => ?_)
            refine lv_goto (tgt := 5) hx hb dX5_takes_86 (by decide) ?_
            exact ih (k - 1) (by omega) ⟨i + 1, by omega, hW, lv_sub hl [3, 4, 5, 1, 0] rfl⟩
          · refine lv_iload hx hb dX5_takes_76 (lv_at hl 5 rfl) ?_
            refine lv_goto (tgt := 82) hx hb dX5_takes_78 (by decide) ?_
            refine lv_topi (fun x_200 ex_200 => ?_)
            obtain rfl : x_200 = nI (best R Fr (ix j) v (i + 1)) - 1 := ex_200.trans (by rw [show best R Fr (ix j) v (i + 1) = i + 1 from by simp [best, hc, hbq, Int32.not_le.mp h_p], nI_pred])
            refine lv_istore_n (lv' := [(3, .int (nI (best R Fr (ix j) v (i + 1)) - 1)), (5, .int 1), (0, .ref (β 0)), (1, .int j), (2, .int v), (4, .int (nI i))]) hx hb dX5_takes_82 rfl hl (by decide) rfl (fun ls hl => ?_)
            refine lv_iinc (k := 5) (lv' := [(4, .int (nI (i + 1))), (3, .int (nI (best R Fr (ix j) v (i + 1)) - 1)), (5, .int 1), (0, .ref (β 0)), (1, .int j), (2, .int v)]) hx hb dX5_takes_83 hl rfl (nI_1 i) (by decide) rfl (fun ls hl => ?_)
            refine lv_goto (tgt := 5) hx hb dX5_takes_86 (by decide) ?_
            exact ih (k - 1) (by omega) ⟨i + 1, by omega, hW, lv_sub hl [3, 4, 5, 1, 0] rfl⟩
