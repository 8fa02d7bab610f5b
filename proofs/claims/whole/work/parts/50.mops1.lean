set_option maxHeartbeats 4000000 in
set_option maxRecDepth 100000 in
theorem met_X5_weight (l : Launch) (D : va_G) (cA : Nat → ClassId) (β : Nat → Nat) (c0 c1 : Nat × va_E) (wr : va_W) (th : Int32) (N : Nat → Nat → Nat) (R : Nat → Nat → Nat → Int32) (Fr : Nat → UInt32) (inc : Int64) (p0 : Int32) (hN : N 0 1 ≤ 20) : MetI l yX5_weight (.code yX5_weight cX5_weight 2 (some .int) :: LW) ({ frames := 2, cells := 0, slots := 0, locals := 43 }) D cA (mWd cA β c0 c1 wr th (N, R, Fr, inc)) [.ref (β 0), .int p0] (fun r (_ : Unit) => r = (op_lot 7 (N, R, Fr, inc) p0).2.1) (fun _ => mWd cA β c0 c1 wr (nI (op_lot 7 (N, R, Fr, inc) p0).1) (op_lot 7 (N, R, Fr, inc) p0).2.2) 0 0 := by
  refine k_bodyI (plainFor_of_name (by decide)) (Nat.le_of_ble_eq_true rfl) (fun p e s m args below meth c ls F hW hl => ?_)
  obtain ⟨hx, hb, hr, hml, hown, hts, hlocks, hname⟩ := id F
  have hl : lv_has ls 2 [(0, .ref (β 0)), (1, .int p0)] := hl
  refine lv_aload_n hx hb dX5_weight_0 rfl (lv_at hl 0 rfl) ?_
  refine lv_aload_n hx hb dX5_weight_1 rfl (lv_at hl 0 rfl) ?_
  refine lv_iload_n hx hb dX5_weight_2 rfl (lv_at hl 1 rfl) ?_
  refine k_callVi (as := [.int p0]) (rest := [.ref (β 0)]) (b := (β 0)) (ci := 7) (q0 := 2) F hW (met_X5_isLot l D cA β c0 c1 wr th N R Fr inc p0) rfl ML_X5_110 IM_X5_isLot SE_X5_isLot IN_X5 CO_X5_isLot hdV_X5_isLot rfl rfl ⟨(Nat.le_of_ble_eq_true rfl), (Nat.le_of_ble_eq_true rfl)⟩ rfl rfl (rfl) rfl rfl hl.1 (Nat.le_of_ble_eq_true rfl) dX5_weight_3 ⟨(Nat.le_of_ble_eq_true rfl), (Nat.le_of_ble_eq_true rfl)⟩ (fun r_1 u H locs hw hW => ?_)
  subst hw
  cases hq_2 : isIx (N 0 1) p0
  · refine lv_if_eq (tgt := 13) hx hb dX5_weight_6 (by decide) (fun _ => ?_) (fun h => absurd (by decide) h)
    refine lv_iconst (v := 1) hx hb dX5_weight_13 (by decide) ?_
    refine k_callVi (as := [.int 1]) (rest := []) (b := (β 0)) (ci := 7) (q0 := 2) F hW (met_X5_goesOn l D cA β c0 c1 wr th N R Fr inc 1) rfl ML_X5_93 IM_X5_goesOn SE_X5_goesOn IN_X5 CO_X5_goesOn hdV_X5_goesOn rfl rfl ⟨(Nat.le_of_ble_eq_true rfl), (Nat.le_of_ble_eq_true rfl)⟩ rfl rfl (rfl) rfl rfl hl.1 (Nat.le_of_ble_eq_true rfl) dX5_weight_14 ⟨(Nat.le_of_ble_eq_true rfl), (Nat.le_of_ble_eq_true rfl)⟩ (fun r_3 u H locs hw hW => ?_)
    subst hw
    refine lv_if_eq (tgt := 29) hx hb dX5_weight_17 (by decide) (fun _ => ?_) (fun h => absurd (by decide) h)
    refine lv_iconst (v := 0) hx hb dX5_weight_29 (by decide) ?_
    have hop : op_lot 7 (N, R, Fr, inc) p0 = (1, 0, (N, R, Fr, inc)) := by simp [op_lot, hq_2]
    exact k_iret () F (hW.eq (by rw [hop]; rfl)) (by rw [hop]) dX5_weight_30 (Nat.le_of_ble_eq_true rfl) (Nat.le_of_ble_eq_true rfl)
  · refine lv_if_eq (tgt := 13) hx hb dX5_weight_6 (by decide) (fun h => absurd h (by decide)) (fun _ => ?_)
    refine lv_iconst (v := 0) hx hb dX5_weight_9 (by decide) ?_
    refine lv_goto (tgt := 14) hx hb dX5_weight_10 (by decide) ?_
    refine k_callVi (as := [.int 0]) (rest := []) (b := (β 0)) (ci := 7) (q0 := 2) F hW (met_X5_goesOn l D cA β c0 c1 wr th N R Fr inc 0) rfl ML_X5_93 IM_X5_goesOn SE_X5_goesOn IN_X5 CO_X5_goesOn hdV_X5_goesOn rfl rfl ⟨(Nat.le_of_ble_eq_true rfl), (Nat.le_of_ble_eq_true rfl)⟩ rfl rfl (rfl) rfl rfl hl.1 (Nat.le_of_ble_eq_true rfl) dX5_weight_14 ⟨(Nat.le_of_ble_eq_true rfl), (Nat.le_of_ble_eq_true rfl)⟩ (fun r_4 u H locs hw hW => ?_)
    subst hw
    refine lv_if_eq (tgt := 29) hx hb dX5_weight_17 (by decide) (fun h => absurd h (by decide)) (fun _ => ?_)
    refine lv_aload_n hx hb dX5_weight_20 rfl (lv_at hl 0 rfl) ?_
    refine k_get (v := .ref (β 5)) F hW inX5 rfl 2 rfl rfl 9 (by decide) FL_X5_22 rfl rfl dX5_weight_21 ?_
    refine lv_iload_n hx hb dX5_weight_24 rfl (lv_at hl 1 rfl) ?_
    refine k_iald (v := R 7 (ix p0) 0) F hW 7 rfl (in1 hq_2 hN (by decide)) (rfl) dX5_weight_25 ?_
    refine lv_goto (tgt := 30) hx hb dX5_weight_26 (by decide) ?_
    have hop : op_lot 7 (N, R, Fr, inc) p0 = (0, (R 7 (ix p0) 0), (N, R, Fr, inc)) := by simp [op_lot, hq_2]
    exact k_iret () F (hW.eq (by rw [hop]; rfl)) (by rw [hop]) dX5_weight_30 (Nat.le_of_ble_eq_true rfl) (Nat.le_of_ble_eq_true rfl)

set_option maxHeartbeats 4000000 in
set_option maxRecDepth 100000 in
theorem met_X5_iceOn (l : Launch) (D : va_G) (cA : Nat → ClassId) (β : Nat → Nat) (c0 c1 : Nat × va_E) (wr : va_W) (th : Int32) (N : Nat → Nat → Nat) (R : Nat → Nat → Nat → Int32) (Fr : Nat → UInt32) (inc : Int64) (p0 : Int32) (hN : N 0 1 ≤ 20) : MetI l yX5_iceOn (.code yX5_iceOn cX5_iceOn 2 (some .int) :: LW) ({ frames := 2, cells := 0, slots := 0, locals := 43 }) D cA (mWd cA β c0 c1 wr th (N, R, Fr, inc)) [.ref (β 0), .int p0] (fun r (_ : Unit) => r = (op_lot 10 (N, R, Fr, inc) p0).2.1) (fun _ => mWd cA β c0 c1 wr (nI (op_lot 10 (N, R, Fr, inc) p0).1) (op_lot 10 (N, R, Fr, inc) p0).2.2) 0 0 := by
  refine k_bodyI (plainFor_of_name (by decide)) (Nat.le_of_ble_eq_true rfl) (fun p e s m args below meth c ls F hW hl => ?_)
  obtain ⟨hx, hb, hr, hml, hown, hts, hlocks, hname⟩ := id F
  have hl : lv_has ls 2 [(0, .ref (β 0)), (1, .int p0)] := hl
  refine lv_aload_n hx hb dX5_iceOn_0 rfl (lv_at hl 0 rfl) ?_
  refine lv_aload_n hx hb dX5_iceOn_1 rfl (lv_at hl 0 rfl) ?_
  refine lv_iload_n hx hb dX5_iceOn_2 rfl (lv_at hl 1 rfl) ?_
  refine k_callVi (as := [.int p0]) (rest := [.ref (β 0)]) (b := (β 0)) (ci := 7) (q0 := 2) F hW (met_X5_isLot l D cA β c0 c1 wr th N R Fr inc p0) rfl ML_X5_110 IM_X5_isLot SE_X5_isLot IN_X5 CO_X5_isLot hdV_X5_isLot rfl rfl ⟨(Nat.le_of_ble_eq_true rfl), (Nat.le_of_ble_eq_true rfl)⟩ rfl rfl (rfl) rfl rfl hl.1 (Nat.le_of_ble_eq_true rfl) dX5_iceOn_3 ⟨(Nat.le_of_ble_eq_true rfl), (Nat.le_of_ble_eq_true rfl)⟩ (fun r_5 u H locs hw hW => ?_)
  subst hw
  cases hq_6 : isIx (N 0 1) p0
  · refine lv_if_eq (tgt := 13) hx hb dX5_iceOn_6 (by decide) (fun _ => ?_) (fun h => absurd (by decide) h)
    refine lv_iconst (v := 1) hx hb dX5_iceOn_13 (by decide) ?_
    refine k_callVi (as := [.int 1]) (rest := []) (b := (β 0)) (ci := 7) (q0 := 2) F hW (met_X5_goesOn l D cA β c0 c1 wr th N R Fr inc 1) rfl ML_X5_93 IM_X5_goesOn SE_X5_goesOn IN_X5 CO_X5_goesOn hdV_X5_goesOn rfl rfl ⟨(Nat.le_of_ble_eq_true rfl), (Nat.le_of_ble_eq_true rfl)⟩ rfl rfl (rfl) rfl rfl hl.1 (Nat.le_of_ble_eq_true rfl) dX5_iceOn_14 ⟨(Nat.le_of_ble_eq_true rfl), (Nat.le_of_ble_eq_true rfl)⟩ (fun r_7 u H locs hw hW => ?_)
    subst hw
    refine lv_if_eq (tgt := 29) hx hb dX5_iceOn_17 (by decide) (fun _ => ?_) (fun h => absurd (by decide) h)
    refine lv_iconst (v := 0) hx hb dX5_iceOn_29 (by decide) ?_
    have hop : op_lot 10 (N, R, Fr, inc) p0 = (1, 0, (N, R, Fr, inc)) := by simp [op_lot, hq_6]
    exact k_iret () F (hW.eq (by rw [hop]; rfl)) (by rw [hop]) dX5_iceOn_30 (Nat.le_of_ble_eq_true rfl) (Nat.le_of_ble_eq_true rfl)
  · refine lv_if_eq (tgt := 13) hx hb dX5_iceOn_6 (by decide) (fun h => absurd h (by decide)) (fun _ => ?_)
    refine lv_iconst (v := 0) hx hb dX5_iceOn_9 (by decide) ?_
    refine lv_goto (tgt := 14) hx hb dX5_iceOn_10 (by decide) ?_
    refine k_callVi (as := [.int 0]) (rest := []) (b := (β 0)) (ci := 7) (q0 := 2) F hW (met_X5_goesOn l D cA β c0 c1 wr th N R Fr inc 0) rfl ML_X5_93 IM_X5_goesOn SE_X5_goesOn IN_X5 CO_X5_goesOn hdV_X5_goesOn rfl rfl ⟨(Nat.le_of_ble_eq_true rfl), (Nat.le_of_ble_eq_true rfl)⟩ rfl rfl (rfl) rfl rfl hl.1 (Nat.le_of_ble_eq_true rfl) dX5_iceOn_14 ⟨(Nat.le_of_ble_eq_true rfl), (Nat.le_of_ble_eq_true rfl)⟩ (fun r_8 u H locs hw hW => ?_)
    subst hw
    refine lv_if_eq (tgt := 29) hx hb dX5_iceOn_17 (by decide) (fun h => absurd h (by decide)) (fun _ => ?_)
    refine lv_aload_n hx hb dX5_iceOn_20 rfl (lv_at hl 0 rfl) ?_
    refine k_get (v := .ref (β 9)) F hW inX5 rfl 2 rfl rfl 13 (by decide) FL_X5_37 rfl rfl dX5_iceOn_21 ?_
    refine lv_iload_n hx hb dX5_iceOn_24 rfl (lv_at hl 1 rfl) ?_
    refine k_iald (v := R 10 (ix p0) 0) F hW 11 rfl (in1 hq_6 hN (by decide)) (rfl) dX5_iceOn_25 ?_
    refine lv_goto (tgt := 30) hx hb dX5_iceOn_26 (by decide) ?_
    have hop : op_lot 10 (N, R, Fr, inc) p0 = (0, (R 10 (ix p0) 0), (N, R, Fr, inc)) := by simp [op_lot, hq_6]
    exact k_iret () F (hW.eq (by rw [hop]; rfl)) (by rw [hop]) dX5_iceOn_30 (Nat.le_of_ble_eq_true rfl) (Nat.le_of_ble_eq_true rfl)

set_option maxHeartbeats 4000000 in
set_option maxRecDepth 100000 in
theorem met_X5_paidFor (l : Launch) (D : va_G) (cA : Nat → ClassId) (β : Nat → Nat) (c0 c1 : Nat × va_E) (wr : va_W) (th : Int32) (N : Nat → Nat → Nat) (R : Nat → Nat → Nat → Int32) (Fr : Nat → UInt32) (inc : Int64) (p0 : Int32) (hN : N 0 1 ≤ 20) : MetI l yX5_paidFor (.code yX5_paidFor cX5_paidFor 2 (some .int) :: LW) ({ frames := 2, cells := 0, slots := 0, locals := 43 }) D cA (mWd cA β c0 c1 wr th (N, R, Fr, inc)) [.ref (β 0), .int p0] (fun r (_ : Unit) => r = (op_lot 12 (N, R, Fr, inc) p0).2.1) (fun _ => mWd cA β c0 c1 wr (nI (op_lot 12 (N, R, Fr, inc) p0).1) (op_lot 12 (N, R, Fr, inc) p0).2.2) 0 0 := by
  refine k_bodyI (plainFor_of_name (by decide)) (Nat.le_of_ble_eq_true rfl) (fun p e s m args below meth c ls F hW hl => ?_)
  obtain ⟨hx, hb, hr, hml, hown, hts, hlocks, hname⟩ := id F
  have hl : lv_has ls 2 [(0, .ref (β 0)), (1, .int p0)] := hl
  refine lv_aload_n hx hb dX5_paidFor_0 rfl (lv_at hl 0 rfl) ?_
  refine lv_aload_n hx hb dX5_paidFor_1 rfl (lv_at hl 0 rfl) ?_
  refine lv_iload_n hx hb dX5_paidFor_2 rfl (lv_at hl 1 rfl) ?_
  refine k_callVi (as := [.int p0]) (rest := [.ref (β 0)]) (b := (β 0)) (ci := 7) (q0 := 2) F hW (met_X5_isLot l D cA β c0 c1 wr th N R Fr inc p0) rfl ML_X5_110 IM_X5_isLot SE_X5_isLot IN_X5 CO_X5_isLot hdV_X5_isLot rfl rfl ⟨(Nat.le_of_ble_eq_true rfl), (Nat.le_of_ble_eq_true rfl)⟩ rfl rfl (rfl) rfl rfl hl.1 (Nat.le_of_ble_eq_true rfl) dX5_paidFor_3 ⟨(Nat.le_of_ble_eq_true rfl), (Nat.le_of_ble_eq_true rfl)⟩ (fun r_9 u H locs hw hW => ?_)
  subst hw
  cases hq_10 : isIx (N 0 1) p0
  · refine lv_if_eq (tgt := 13) hx hb dX5_paidFor_6 (by decide) (fun _ => ?_) (fun h => absurd (by decide) h)
    refine lv_iconst (v := 1) hx hb dX5_paidFor_13 (by decide) ?_
    refine k_callVi (as := [.int 1]) (rest := []) (b := (β 0)) (ci := 7) (q0 := 2) F hW (met_X5_goesOn l D cA β c0 c1 wr th N R Fr inc 1) rfl ML_X5_93 IM_X5_goesOn SE_X5_goesOn IN_X5 CO_X5_goesOn hdV_X5_goesOn rfl rfl ⟨(Nat.le_of_ble_eq_true rfl), (Nat.le_of_ble_eq_true rfl)⟩ rfl rfl (rfl) rfl rfl hl.1 (Nat.le_of_ble_eq_true rfl) dX5_paidFor_14 ⟨(Nat.le_of_ble_eq_true rfl), (Nat.le_of_ble_eq_true rfl)⟩ (fun r_11 u H locs hw hW => ?_)
    subst hw
    refine lv_if_eq (tgt := 29) hx hb dX5_paidFor_17 (by decide) (fun _ => ?_) (fun h => absurd (by decide) h)
    refine lv_iconst (v := 0) hx hb dX5_paidFor_29 (by decide) ?_
    have hop : op_lot 12 (N, R, Fr, inc) p0 = (1, 0, (N, R, Fr, inc)) := by simp [op_lot, hq_10]
    exact k_iret () F (hW.eq (by rw [hop]; rfl)) (by rw [hop]) dX5_paidFor_30 (Nat.le_of_ble_eq_true rfl) (Nat.le_of_ble_eq_true rfl)
  · refine lv_if_eq (tgt := 13) hx hb dX5_paidFor_6 (by decide) (fun h => absurd h (by decide)) (fun _ => ?_)
    refine lv_iconst (v := 0) hx hb dX5_paidFor_9 (by decide) ?_
    refine lv_goto (tgt := 14) hx hb dX5_paidFor_10 (by decide) ?_
    refine k_callVi (as := [.int 0]) (rest := []) (b := (β 0)) (ci := 7) (q0 := 2) F hW (met_X5_goesOn l D cA β c0 c1 wr th N R Fr inc 0) rfl ML_X5_93 IM_X5_goesOn SE_X5_goesOn IN_X5 CO_X5_goesOn hdV_X5_goesOn rfl rfl ⟨(Nat.le_of_ble_eq_true rfl), (Nat.le_of_ble_eq_true rfl)⟩ rfl rfl (rfl) rfl rfl hl.1 (Nat.le_of_ble_eq_true rfl) dX5_paidFor_14 ⟨(Nat.le_of_ble_eq_true rfl), (Nat.le_of_ble_eq_true rfl)⟩ (fun r_12 u H locs hw hW => ?_)
    subst hw
    refine lv_if_eq (tgt := 29) hx hb dX5_paidFor_17 (by decide) (fun h => absurd h (by decide)) (fun _ => ?_)
    refine lv_aload_n hx hb dX5_paidFor_20 rfl (lv_at hl 0 rfl) ?_
    refine k_get (v := .ref (β 11)) F hW inX5 rfl 2 rfl rfl 15 (by decide) FL_X5_43 rfl rfl dX5_paidFor_21 ?_
    refine lv_iload_n hx hb dX5_paidFor_24 rfl (lv_at hl 1 rfl) ?_
    refine k_iald (v := R 12 (ix p0) 0) F hW 13 rfl (in1 hq_10 hN (by decide)) (rfl) dX5_paidFor_25 ?_
    refine lv_goto (tgt := 30) hx hb dX5_paidFor_26 (by decide) ?_
    have hop : op_lot 12 (N, R, Fr, inc) p0 = (0, (R 12 (ix p0) 0), (N, R, Fr, inc)) := by simp [op_lot, hq_10]
    exact k_iret () F (hW.eq (by rw [hop]; rfl)) (by rw [hop]) dX5_paidFor_30 (Nat.le_of_ble_eq_true rfl) (Nat.le_of_ble_eq_true rfl)

set_option maxHeartbeats 4000000 in
set_option maxRecDepth 100000 in
theorem met_X5_quota (l : Launch) (D : va_G) (cA : Nat → ClassId) (β : Nat → Nat) (c0 c1 : Nat × va_E) (wr : va_W) (th : Int32) (N : Nat → Nat → Nat) (R : Nat → Nat → Nat → Int32) (Fr : Nat → UInt32) (inc : Int64) (p0 p1 : Int32) (hN : N 0 0 ≤ 6) : MetI l yX5_quota (.code yX5_quota cX5_quota 3 (some .int) :: LW) ({ frames := 2, cells := 0, slots := 0, locals := 43 }) D cA (mWd cA β c0 c1 wr th (N, R, Fr, inc)) [.ref (β 0), .int p0, .int p1] (fun r (_ : Unit) => r = (op_quota (N, R, Fr, inc) p0 p1).2.1) (fun _ => mWd cA β c0 c1 wr (nI (op_quota (N, R, Fr, inc) p0 p1).1) (op_quota (N, R, Fr, inc) p0 p1).2.2) 0 0 := by
  refine k_bodyI (plainFor_of_name (by decide)) (Nat.le_of_ble_eq_true rfl) (fun p e s m args below meth c ls F hW hl => ?_)
  obtain ⟨hx, hb, hr, hml, hown, hts, hlocks, hname⟩ := id F
  have hl : lv_has ls 3 [(0, .ref (β 0)), (1, .int p0), (2, .int p1)] := hl
  refine lv_aload_n hx hb dX5_quota_0 rfl (lv_at hl 0 rfl) ?_
  refine lv_aload_n hx hb dX5_quota_1 rfl (lv_at hl 0 rfl) ?_
  refine lv_iload_n hx hb dX5_quota_2 rfl (lv_at hl 1 rfl) ?_
  refine k_callVi (as := [.int p0]) (rest := [.ref (β 0)]) (b := (β 0)) (ci := 7) (q0 := 2) F hW (met_X5_isBoat l D cA β c0 c1 wr th N R Fr inc p0) rfl ML_X5_100 IM_X5_isBoat SE_X5_isBoat IN_X5 CO_X5_isBoat hdV_X5_isBoat rfl rfl ⟨(Nat.le_of_ble_eq_true rfl), (Nat.le_of_ble_eq_true rfl)⟩ rfl rfl (rfl) rfl rfl hl.1 (Nat.le_of_ble_eq_true rfl) dX5_quota_3 ⟨(Nat.le_of_ble_eq_true rfl), (Nat.le_of_ble_eq_true rfl)⟩ (fun r_13 u H locs hw hW => ?_)
  subst hw
  cases hq_14 : isIx (N 0 0) p0
  · refine lv_if_ne (tgt := 13) hx hb dX5_quota_6 (by decide) (fun h => absurd (by decide) h) (fun _ => ?_)
    refine lv_iconst (v := 1) hx hb dX5_quota_9 (by decide) ?_
    refine lv_goto (tgt := 25) hx hb dX5_quota_10 (by decide) ?_
    refine k_callVi (as := [.int 1]) (rest := []) (b := (β 0)) (ci := 7) (q0 := 2) F hW (met_X5_goesOn l D cA β c0 c1 wr th N R Fr inc 1) rfl ML_X5_93 IM_X5_goesOn SE_X5_goesOn IN_X5 CO_X5_goesOn hdV_X5_goesOn rfl rfl ⟨(Nat.le_of_ble_eq_true rfl), (Nat.le_of_ble_eq_true rfl)⟩ rfl rfl (rfl) rfl rfl hl.1 (Nat.le_of_ble_eq_true rfl) dX5_quota_25 ⟨(Nat.le_of_ble_eq_true rfl), (Nat.le_of_ble_eq_true rfl)⟩ (fun r_15 u H locs hw hW => ?_)
    subst hw
    refine lv_if_eq (tgt := 44) hx hb dX5_quota_28 (by decide) (fun _ => ?_) (fun h => absurd (by decide) h)
    refine lv_iconst (v := 0) hx hb dX5_quota_44 (by decide) ?_
    have hop : op_quota (N, R, Fr, inc) p0 p1 = (1, 0, (N, R, Fr, inc)) := by simp [op_quota, hq_14]
    exact k_iret () F (hW.eq (by rw [hop]; rfl)) (by rw [hop]) dX5_quota_45 (Nat.le_of_ble_eq_true rfl) (Nat.le_of_ble_eq_true rfl)
  · refine lv_if_ne (tgt := 13) hx hb dX5_quota_6 (by decide) (fun _ => ?_) (fun h => absurd h (by decide))
    refine lv_iload_n hx hb dX5_quota_13 rfl (lv_at hl 2 rfl) ?_
    refine k_callSi (as := [.int p1]) (rest := [.ref (β 0)]) F hW (met_X5_isSpecies l D cA _ p1) rfl ML_X5_97 ST_X5_isSpecies IN_X5 CO_X5_isSpecies hdS_X5_isSpecies rfl rfl ⟨(Nat.le_of_ble_eq_true rfl), (Nat.le_of_ble_eq_true rfl)⟩ rfl rfl hl.1 (Nat.le_of_ble_eq_true rfl) dX5_quota_14 ⟨(Nat.le_of_ble_eq_true rfl), (Nat.le_of_ble_eq_true rfl)⟩ (fun r_16 u H locs hw hW => ?_)
    subst hw
    cases hq_17 : wi p1 0 3
    · refine lv_if_ne (tgt := 24) hx hb dX5_quota_17 (by decide) (fun h => absurd (by decide) h) (fun _ => ?_)
      refine lv_iconst (v := 2) hx hb dX5_quota_20 (by decide) ?_
      refine lv_goto (tgt := 25) hx hb dX5_quota_21 (by decide) ?_
      refine k_callVi (as := [.int 2]) (rest := []) (b := (β 0)) (ci := 7) (q0 := 2) F hW (met_X5_goesOn l D cA β c0 c1 wr th N R Fr inc 2) rfl ML_X5_93 IM_X5_goesOn SE_X5_goesOn IN_X5 CO_X5_goesOn hdV_X5_goesOn rfl rfl ⟨(Nat.le_of_ble_eq_true rfl), (Nat.le_of_ble_eq_true rfl)⟩ rfl rfl (rfl) rfl rfl hl.1 (Nat.le_of_ble_eq_true rfl) dX5_quota_25 ⟨(Nat.le_of_ble_eq_true rfl), (Nat.le_of_ble_eq_true rfl)⟩ (fun r_18 u H locs hw hW => ?_)
      subst hw
      refine lv_if_eq (tgt := 44) hx hb dX5_quota_28 (by decide) (fun _ => ?_) (fun h => absurd (by decide) h)
      refine lv_iconst (v := 0) hx hb dX5_quota_44 (by decide) ?_
      have hop : op_quota (N, R, Fr, inc) p0 p1 = (2, 0, (N, R, Fr, inc)) := by simp [op_quota, hq_14, hq_17]
      exact k_iret () F (hW.eq (by rw [hop]; rfl)) (by rw [hop]) dX5_quota_45 (Nat.le_of_ble_eq_true rfl) (Nat.le_of_ble_eq_true rfl)
    · refine lv_if_ne (tgt := 24) hx hb dX5_quota_17 (by decide) (fun _ => ?_) (fun h => absurd h (by decide))
      refine lv_iconst (v := 0) hx hb dX5_quota_24 (by decide) ?_
      refine k_callVi (as := [.int 0]) (rest := []) (b := (β 0)) (ci := 7) (q0 := 2) F hW (met_X5_goesOn l D cA β c0 c1 wr th N R Fr inc 0) rfl ML_X5_93 IM_X5_goesOn SE_X5_goesOn IN_X5 CO_X5_goesOn hdV_X5_goesOn rfl rfl ⟨(Nat.le_of_ble_eq_true rfl), (Nat.le_of_ble_eq_true rfl)⟩ rfl rfl (rfl) rfl rfl hl.1 (Nat.le_of_ble_eq_true rfl) dX5_quota_25 ⟨(Nat.le_of_ble_eq_true rfl), (Nat.le_of_ble_eq_true rfl)⟩ (fun r_19 u H locs hw hW => ?_)
      subst hw
      refine lv_if_eq (tgt := 44) hx hb dX5_quota_28 (by decide) (fun h => absurd h (by decide)) (fun _ => ?_)
      refine lv_aload_n hx hb dX5_quota_31 rfl (lv_at hl 0 rfl) ?_
      refine k_get (v := .ref (β 1)) F hW inX5 rfl 2 rfl rfl 2 (by decide) FL_X5_9 rfl rfl dX5_quota_32 ?_
      refine lv_iconst (v := 4) hx hb dX5_quota_35 (by decide) ?_
      refine lv_iload_n hx hb dX5_quota_36 rfl (lv_at hl 1 rfl) ?_
      refine lv_imul hx hb dX5_quota_37 ?_
      refine lv_iload_n hx hb dX5_quota_38 rfl (lv_at hl 2 rfl) ?_
      refine lv_iadd hx hb dX5_quota_39 ?_
      refine k_iald (v := R 1 (ix p0) (ix p1)) F hW 3 rfl (in4 hq_14 (by omega) hq_17 (by omega) (by decide)) (v4 (f := R 1) hq_14 (by omega) hq_17) dX5_quota_40 ?_
      refine lv_goto (tgt := 45) hx hb dX5_quota_41 (by decide) ?_
      have hop : op_quota (N, R, Fr, inc) p0 p1 = (0, (R 1 (ix p0) (ix p1)), (N, R, Fr, inc)) := by simp [op_quota, hq_14, hq_17]
      exact k_iret () F (hW.eq (by rw [hop]; rfl)) (by rw [hop]) dX5_quota_45 (Nat.le_of_ble_eq_true rfl) (Nat.le_of_ble_eq_true rfl)

set_option maxHeartbeats 4000000 in
set_option maxRecDepth 100000 in
theorem met_X5_budget (l : Launch) (D : va_G) (cA : Nat → ClassId) (β : Nat → Nat) (c0 c1 : Nat × va_E) (wr : va_W) (th : Int32) (N : Nat → Nat → Nat) (R : Nat → Nat → Nat → Int32) (Fr : Nat → UInt32) (inc : Int64) (p0 : Int32) (hN : N 0 2 ≤ 5) : MetI l yX5_budget (.code yX5_budget cX5_budget 2 (some .int) :: LW) ({ frames := 2, cells := 0, slots := 0, locals := 43 }) D cA (mWd cA β c0 c1 wr th (N, R, Fr, inc)) [.ref (β 0), .int p0] (fun r (_ : Unit) => r = (op_budget (N, R, Fr, inc) p0).2.1) (fun _ => mWd cA β c0 c1 wr (nI (op_budget (N, R, Fr, inc) p0).1) (op_budget (N, R, Fr, inc) p0).2.2) 0 0 := by
  refine k_bodyI (plainFor_of_name (by decide)) (Nat.le_of_ble_eq_true rfl) (fun p e s m args below meth c ls F hW hl => ?_)
  obtain ⟨hx, hb, hr, hml, hown, hts, hlocks, hname⟩ := id F
  have hl : lv_has ls 2 [(0, .ref (β 0)), (1, .int p0)] := hl
  refine lv_aload_n hx hb dX5_budget_0 rfl (lv_at hl 0 rfl) ?_
  refine lv_aload_n hx hb dX5_budget_1 rfl (lv_at hl 0 rfl) ?_
  refine lv_iload_n hx hb dX5_budget_2 rfl (lv_at hl 1 rfl) ?_
  refine k_callVi (as := [.int p0]) (rest := [.ref (β 0)]) (b := (β 0)) (ci := 7) (q0 := 2) F hW (met_X5_isBuyer l D cA β c0 c1 wr th N R Fr inc p0) rfl ML_X5_142 IM_X5_isBuyer SE_X5_isBuyer IN_X5 CO_X5_isBuyer hdV_X5_isBuyer rfl rfl ⟨(Nat.le_of_ble_eq_true rfl), (Nat.le_of_ble_eq_true rfl)⟩ rfl rfl (rfl) rfl rfl hl.1 (Nat.le_of_ble_eq_true rfl) dX5_budget_3 ⟨(Nat.le_of_ble_eq_true rfl), (Nat.le_of_ble_eq_true rfl)⟩ (fun r_20 u H locs hw hW => ?_)
  subst hw
  cases hq_21 : isIx (N 0 2) p0
  · refine lv_if_eq (tgt := 13) hx hb dX5_budget_6 (by decide) (fun _ => ?_) (fun h => absurd (by decide) h)
    refine lv_iconst (v := 1) hx hb dX5_budget_13 (by decide) ?_
    refine k_callVi (as := [.int 1]) (rest := []) (b := (β 0)) (ci := 7) (q0 := 2) F hW (met_X5_goesOn l D cA β c0 c1 wr th N R Fr inc 1) rfl ML_X5_93 IM_X5_goesOn SE_X5_goesOn IN_X5 CO_X5_goesOn hdV_X5_goesOn rfl rfl ⟨(Nat.le_of_ble_eq_true rfl), (Nat.le_of_ble_eq_true rfl)⟩ rfl rfl (rfl) rfl rfl hl.1 (Nat.le_of_ble_eq_true rfl) dX5_budget_14 ⟨(Nat.le_of_ble_eq_true rfl), (Nat.le_of_ble_eq_true rfl)⟩ (fun r_22 u H locs hw hW => ?_)
    subst hw
    refine lv_if_eq (tgt := 29) hx hb dX5_budget_17 (by decide) (fun _ => ?_) (fun h => absurd (by decide) h)
    refine lv_iconst (v := 0) hx hb dX5_budget_29 (by decide) ?_
    have hop : op_budget (N, R, Fr, inc) p0 = (1, 0, (N, R, Fr, inc)) := by simp [op_budget, hq_21]
    exact k_iret () F (hW.eq (by rw [hop]; rfl)) (by rw [hop]) dX5_budget_30 (Nat.le_of_ble_eq_true rfl) (Nat.le_of_ble_eq_true rfl)
  · refine lv_if_eq (tgt := 13) hx hb dX5_budget_6 (by decide) (fun h => absurd h (by decide)) (fun _ => ?_)
    refine lv_iconst (v := 0) hx hb dX5_budget_9 (by decide) ?_
    refine lv_goto (tgt := 14) hx hb dX5_budget_10 (by decide) ?_
    refine k_callVi (as := [.int 0]) (rest := []) (b := (β 0)) (ci := 7) (q0 := 2) F hW (met_X5_goesOn l D cA β c0 c1 wr th N R Fr inc 0) rfl ML_X5_93 IM_X5_goesOn SE_X5_goesOn IN_X5 CO_X5_goesOn hdV_X5_goesOn rfl rfl ⟨(Nat.le_of_ble_eq_true rfl), (Nat.le_of_ble_eq_true rfl)⟩ rfl rfl (rfl) rfl rfl hl.1 (Nat.le_of_ble_eq_true rfl) dX5_budget_14 ⟨(Nat.le_of_ble_eq_true rfl), (Nat.le_of_ble_eq_true rfl)⟩ (fun r_23 u H locs hw hW => ?_)
    subst hw
    refine lv_if_eq (tgt := 29) hx hb dX5_budget_17 (by decide) (fun h => absurd h (by decide)) (fun _ => ?_)
    refine lv_aload_n hx hb dX5_budget_20 rfl (lv_at hl 0 rfl) ?_
    refine k_get (v := .ref (β 12)) F hW inX5 rfl 2 rfl rfl 18 (by decide) FL_X5_46 rfl rfl dX5_budget_21 ?_
    refine lv_iload_n hx hb dX5_budget_24 rfl (lv_at hl 1 rfl) ?_
    refine k_iald (v := R 13 (ix p0) 0) F hW 14 rfl (in1 hq_21 hN (by decide)) (rfl) dX5_budget_25 ?_
    refine lv_goto (tgt := 30) hx hb dX5_budget_26 (by decide) ?_
    have hop : op_budget (N, R, Fr, inc) p0 = (0, (R 13 (ix p0) 0), (N, R, Fr, inc)) := by simp [op_budget, hq_21]
    exact k_iret () F (hW.eq (by rw [hop]; rfl)) (by rw [hop]) dX5_budget_30 (Nat.le_of_ble_eq_true rfl) (Nat.le_of_ble_eq_true rfl)

set_option maxHeartbeats 4000000 in
set_option maxRecDepth 100000 in
theorem met_X5_setLimit (l : Launch) (D : va_G) (cA : Nat → ClassId) (β : Nat → Nat) (c0 c1 : Nat × va_E) (wr : va_W) (th : Int32) (N : Nat → Nat → Nat) (R : Nat → Nat → Nat → Int32) (Fr : Nat → UInt32) (inc : Int64) (p0 p1 p2 : Int32) (hN : N 0 2 ≤ 5) : MetI l yX5_setLimit (.code yX5_setLimit cX5_setLimit 5 (some .int) :: LW) ({ frames := 2, cells := 0, slots := 0, locals := 43 }) D cA (mWd cA β c0 c1 wr th (N, R, Fr, inc)) [.ref (β 0), .int p0, .int p1, .int p2] (fun r (_ : Unit) => r = (op_setLimit (N, R, Fr, inc) p0 p1 p2).2.1) (fun _ => mWd cA β c0 c1 wr (nI (op_setLimit (N, R, Fr, inc) p0 p1 p2).1) (op_setLimit (N, R, Fr, inc) p0 p1 p2).2.2) 0 0 := by
  refine k_bodyI (plainFor_of_name (by decide)) (Nat.le_of_ble_eq_true rfl) (fun p e s m args below meth c ls F hW hl => ?_)
  obtain ⟨hx, hb, hr, hml, hown, hts, hlocks, hname⟩ := id F
  have hl : lv_has ls 5 [(0, .ref (β 0)), (1, .int p0), (2, .int p1), (3, .int p2)] := hl
  refine lv_aload_n hx hb dX5_setLimit_0 rfl (lv_at hl 0 rfl) ?_
  refine lv_aload_n hx hb dX5_setLimit_1 rfl (lv_at hl 0 rfl) ?_
  refine lv_iload_n hx hb dX5_setLimit_2 rfl (lv_at hl 1 rfl) ?_
  refine k_callVi (as := [.int p0]) (rest := [.ref (β 0)]) (b := (β 0)) (ci := 7) (q0 := 2) F hW (met_X5_isBuyer l D cA β c0 c1 wr th N R Fr inc p0) rfl ML_X5_142 IM_X5_isBuyer SE_X5_isBuyer IN_X5 CO_X5_isBuyer hdV_X5_isBuyer rfl rfl ⟨(Nat.le_of_ble_eq_true rfl), (Nat.le_of_ble_eq_true rfl)⟩ rfl rfl (rfl) rfl rfl hl.1 (Nat.le_of_ble_eq_true rfl) dX5_setLimit_3 ⟨(Nat.le_of_ble_eq_true rfl), (Nat.le_of_ble_eq_true rfl)⟩ (fun r_24 u H locs hw hW => ?_)
  subst hw
  cases hq_25 : isIx (N 0 2) p0
  · refine lv_if_ne (tgt := 13) hx hb dX5_setLimit_6 (by decide) (fun h => absurd (by decide) h) (fun _ => ?_)
    refine lv_iconst (v := 1) hx hb dX5_setLimit_9 (by decide) ?_
    refine lv_goto (tgt := 36) hx hb dX5_setLimit_10 (by decide) ?_
    refine k_callVi (as := [.int 1]) (rest := []) (b := (β 0)) (ci := 7) (q0 := 2) F hW (met_X5_goesOn l D cA β c0 c1 wr th N R Fr inc 1) rfl ML_X5_93 IM_X5_goesOn SE_X5_goesOn IN_X5 CO_X5_goesOn hdV_X5_goesOn rfl rfl ⟨(Nat.le_of_ble_eq_true rfl), (Nat.le_of_ble_eq_true rfl)⟩ rfl rfl (rfl) rfl rfl hl.1 (Nat.le_of_ble_eq_true rfl) dX5_setLimit_36 ⟨(Nat.le_of_ble_eq_true rfl), (Nat.le_of_ble_eq_true rfl)⟩ (fun r_26 u H locs hw hW => ?_)
    subst hw
    refine lv_if_ne (tgt := 44) hx hb dX5_setLimit_39 (by decide) (fun h => absurd (by decide) h) (fun _ => ?_)
    refine lv_iconst (v := 0) hx hb dX5_setLimit_42 (by decide) ?_
    have hop : op_setLimit (N, R, Fr, inc) p0 p1 p2 = (1, 0, (N, R, Fr, inc)) := by simp [op_setLimit, hq_25]
    exact k_iret () F (hW.eq (by rw [hop]; rfl)) (by rw [hop]) dX5_setLimit_43 (Nat.le_of_ble_eq_true rfl) (Nat.le_of_ble_eq_true rfl)
  · refine lv_if_ne (tgt := 13) hx hb dX5_setLimit_6 (by decide) (fun _ => ?_) (fun h => absurd h (by decide))
    refine lv_iload_n hx hb dX5_setLimit_13 rfl (lv_at hl 2 rfl) ?_
    refine k_callSi (as := [.int p1]) (rest := [.ref (β 0)]) F hW (met_X5_isSpecies l D cA _ p1) rfl ML_X5_97 ST_X5_isSpecies IN_X5 CO_X5_isSpecies hdS_X5_isSpecies rfl rfl ⟨(Nat.le_of_ble_eq_true rfl), (Nat.le_of_ble_eq_true rfl)⟩ rfl rfl hl.1 (Nat.le_of_ble_eq_true rfl) dX5_setLimit_14 ⟨(Nat.le_of_ble_eq_true rfl), (Nat.le_of_ble_eq_true rfl)⟩ (fun r_27 u H locs hw hW => ?_)
    subst hw
    cases hq_28 : wi p1 0 3
    · refine lv_if_eq (tgt := 31) hx hb dX5_setLimit_17 (by decide) (fun _ => ?_) (fun h => absurd (by decide) h)
      refine lv_iconst (v := 2) hx hb dX5_setLimit_31 (by decide) ?_
      refine lv_goto (tgt := 36) hx hb dX5_setLimit_32 (by decide) ?_
      refine k_callVi (as := [.int 2]) (rest := []) (b := (β 0)) (ci := 7) (q0 := 2) F hW (met_X5_goesOn l D cA β c0 c1 wr th N R Fr inc 2) rfl ML_X5_93 IM_X5_goesOn SE_X5_goesOn IN_X5 CO_X5_goesOn hdV_X5_goesOn rfl rfl ⟨(Nat.le_of_ble_eq_true rfl), (Nat.le_of_ble_eq_true rfl)⟩ rfl rfl (rfl) rfl rfl hl.1 (Nat.le_of_ble_eq_true rfl) dX5_setLimit_36 ⟨(Nat.le_of_ble_eq_true rfl), (Nat.le_of_ble_eq_true rfl)⟩ (fun r_29 u H locs hw hW => ?_)
      subst hw
      refine lv_if_ne (tgt := 44) hx hb dX5_setLimit_39 (by decide) (fun h => absurd (by decide) h) (fun _ => ?_)
      refine lv_iconst (v := 0) hx hb dX5_setLimit_42 (by decide) ?_
      have hop : op_setLimit (N, R, Fr, inc) p0 p1 p2 = (2, 0, (N, R, Fr, inc)) := by simp [op_setLimit, hq_25, hq_28]
      exact k_iret () F (hW.eq (by rw [hop]; rfl)) (by rw [hop]) dX5_setLimit_43 (Nat.le_of_ble_eq_true rfl) (Nat.le_of_ble_eq_true rfl)
    · refine lv_if_eq (tgt := 31) hx hb dX5_setLimit_17 (by decide) (fun h => absurd h (by decide)) (fun _ => ?_)
      refine lv_iload_n hx hb dX5_setLimit_20 rfl (lv_at hl 3 rfl) ?_
      refine lv_iconst (v := 0) hx hb dX5_setLimit_21 (by decide) ?_
      refine lv_sipush (v := 9999) hx hb dX5_setLimit_22 (by decide) ?_
      refine k_callSi (as := [.int p2, .int 0, .int 9999]) (rest := [.ref (β 0)]) F hW (met_X5_in l D cA _ p2 0 9999) rfl ML_X5_80 ST_X5_in IN_X5 CO_X5_in hdS_X5_in rfl rfl ⟨(Nat.le_of_ble_eq_true rfl), (Nat.le_of_ble_eq_true rfl)⟩ rfl rfl hl.1 (Nat.le_of_ble_eq_true rfl) dX5_setLimit_25 ⟨(Nat.le_of_ble_eq_true rfl), (Nat.le_of_ble_eq_true rfl)⟩ (fun r_30 u H locs hw hW => ?_)
      subst hw
      cases hq_31 : wi p2 0 9999
      · refine lv_if_ne (tgt := 35) hx hb dX5_setLimit_28 (by decide) (fun h => absurd (by decide) h) (fun _ => ?_)
        refine lv_iconst (v := 2) hx hb dX5_setLimit_31 (by decide) ?_
        refine lv_goto (tgt := 36) hx hb dX5_setLimit_32 (by decide) ?_
        refine k_callVi (as := [.int 2]) (rest := []) (b := (β 0)) (ci := 7) (q0 := 2) F hW (met_X5_goesOn l D cA β c0 c1 wr th N R Fr inc 2) rfl ML_X5_93 IM_X5_goesOn SE_X5_goesOn IN_X5 CO_X5_goesOn hdV_X5_goesOn rfl rfl ⟨(Nat.le_of_ble_eq_true rfl), (Nat.le_of_ble_eq_true rfl)⟩ rfl rfl (rfl) rfl rfl hl.1 (Nat.le_of_ble_eq_true rfl) dX5_setLimit_36 ⟨(Nat.le_of_ble_eq_true rfl), (Nat.le_of_ble_eq_true rfl)⟩ (fun r_32 u H locs hw hW => ?_)
        subst hw
        refine lv_if_ne (tgt := 44) hx hb dX5_setLimit_39 (by decide) (fun h => absurd (by decide) h) (fun _ => ?_)
        refine lv_iconst (v := 0) hx hb dX5_setLimit_42 (by decide) ?_
        have hop : op_setLimit (N, R, Fr, inc) p0 p1 p2 = (2, 0, (N, R, Fr, inc)) := by simp [op_setLimit, hq_25, hq_28, hq_31]
        exact k_iret () F (hW.eq (by rw [hop]; rfl)) (by rw [hop]) dX5_setLimit_43 (Nat.le_of_ble_eq_true rfl) (Nat.le_of_ble_eq_true rfl)
      · refine lv_if_ne (tgt := 35) hx hb dX5_setLimit_28 (by decide) (fun _ => ?_) (fun h => absurd h (by decide))
        refine lv_iconst (v := 0) hx hb dX5_setLimit_35 (by decide) ?_
        refine k_callVi (as := [.int 0]) (rest := []) (b := (β 0)) (ci := 7) (q0 := 2) F hW (met_X5_goesOn l D cA β c0 c1 wr th N R Fr inc 0) rfl ML_X5_93 IM_X5_goesOn SE_X5_goesOn IN_X5 CO_X5_goesOn hdV_X5_goesOn rfl rfl ⟨(Nat.le_of_ble_eq_true rfl), (Nat.le_of_ble_eq_true rfl)⟩ rfl rfl (rfl) rfl rfl hl.1 (Nat.le_of_ble_eq_true rfl) dX5_setLimit_36 ⟨(Nat.le_of_ble_eq_true rfl), (Nat.le_of_ble_eq_true rfl)⟩ (fun r_33 u H locs hw hW => ?_)
        subst hw
        refine lv_if_ne (tgt := 44) hx hb dX5_setLimit_39 (by decide) (fun _ => ?_) (fun h => absurd h (by decide))
        refine lv_aload_n hx hb dX5_setLimit_44 rfl (lv_at hl 0 rfl) ?_
        refine k_get (v := .ref (β 13)) F hW inX5 rfl 2 rfl rfl 19 (by decide) FL_X5_49 rfl rfl dX5_setLimit_45 ?_
        refine lv_iconst (v := 4) hx hb dX5_setLimit_48 (by decide) ?_
        refine lv_iload_n hx hb dX5_setLimit_49 rfl (lv_at hl 1 rfl) ?_
        refine lv_imul hx hb dX5_setLimit_50 ?_
        refine lv_iload_n hx hb dX5_setLimit_51 rfl (lv_at hl 2 rfl) ?_
        refine lv_iadd hx hb dX5_setLimit_52 ?_
        refine k_iald (v := R 14 (ix p0) (ix p1)) F hW 15 rfl (in4 hq_25 (by omega) hq_28 (by omega) (by decide)) (v4 (f := R 14) hq_25 (by omega) hq_28) dX5_setLimit_53 ?_
        refine lv_istore (lv' := [(4, .int (R 14 (ix p0) (ix p1))), (0, .ref (β 0)), (1, .int p0), (2, .int p1), (3, .int p2)]) hx hb dX5_setLimit_54 hl (by decide) rfl (fun ls hl => ?_)
        refine lv_aload_n hx hb dX5_setLimit_56 rfl (lv_at hl 1 rfl) ?_
        refine k_get (v := .ref (β 13)) F hW inX5 rfl 2 rfl rfl 19 (by decide) FL_X5_49 rfl rfl dX5_setLimit_57 ?_
        refine lv_iconst (v := 4) hx hb dX5_setLimit_60 (by decide) ?_
        refine lv_iload_n hx hb dX5_setLimit_61 rfl (lv_at hl 2 rfl) ?_
        refine lv_imul hx hb dX5_setLimit_62 ?_
        refine lv_iload_n hx hb dX5_setLimit_63 rfl (lv_at hl 3 rfl) ?_
        refine lv_iadd hx hb dX5_setLimit_64 ?_
        refine lv_iload_n hx hb dX5_setLimit_65 rfl (lv_at hl 4 rfl) ?_
        refine k_iast F hW 15 rfl (in4 hq_25 (by omega) hq_28 (by omega) (by decide)) (mWd cA β c0 c1 wr 0 (N, up3 R 14 (ix p0) (ix p1) p2, Fr, inc)) (by rw [ud4 R 14 p2 hq_25 (by omega) hq_28]; rfl) dX5_setLimit_66 (fun H locs hW => ?_)
        refine lv_iload hx hb dX5_setLimit_67 (lv_at hl 0 rfl) ?_
        have hop : op_setLimit (N, R, Fr, inc) p0 p1 p2 = (0, (R 14 (ix p0) (ix p1)), (N, up3 R 14 (ix p0) (ix p1) p2, Fr, inc)) := by simp [op_setLimit, hq_25, hq_28, hq_31]
        exact k_iret () F (hW.eq (by rw [hop]; rfl)) (by rw [hop]) dX5_setLimit_69 (Nat.le_of_ble_eq_true rfl) (Nat.le_of_ble_eq_true rfl)
