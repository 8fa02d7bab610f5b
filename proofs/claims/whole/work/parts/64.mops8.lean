set_option maxHeartbeats 4000000 in
set_option maxRecDepth 100000 in
theorem met_X5_soldShare (l : Launch) (D : va_G) (cA : Nat → ClassId) (β : Nat → Nat) (c0 c1 : Nat × va_E) (wr : va_W) (th : Int32) (N : Nat → Nat → Nat) (R : Nat → Nat → Nat → Int32) (Fr : Nat → UInt32) (inc : Int64) (hN : N 0 1 ≤ 20) (hL : ∀ j, j < N 0 1 → lotOK R Fr j) : MetF l yX5_soldShare (.code yX5_soldShare cX5_soldShare 1 (some .float) :: LW) ({ frames := 2, cells := 0, slots := 0, locals := 44 }) D cA (mWd cA β c0 c1 wr th (N, R, Fr, inc)) [.ref (β 0)] (fun r (_ : Unit) => r = (op_soldShare (N, R, Fr, inc)).2.1) (fun _ => mWd cA β c0 c1 wr (nI (op_soldShare (N, R, Fr, inc)).1) (op_soldShare (N, R, Fr, inc)).2.2) 0 0 := by
  refine k_bodyF (plainFor_of_name (by decide)) (Nat.le_of_ble_eq_true rfl) (fun p e s m args below meth c ls F hW hl => ?_)
  obtain ⟨hx, hb, hr, hml, hown, hts, hlocks, hname⟩ := id F
  have hl : lv_has ls 1 [(0, .ref (β 0))] := hl
  refine lv_aload_n hx hb dX5_soldShare_0 rfl (lv_at hl 0 rfl) ?_
  refine lv_aload_n hx hb dX5_soldShare_1 rfl (lv_at hl 0 rfl) ?_
  refine k_get (v := .int (nI (N 0 1))) F hW inX5 rfl 2 rfl rfl 6 (by decide) FL_X5_84 rfl rfl dX5_soldShare_2 ?_
  refine lv_if_ne (tgt := 12) hx hb dX5_soldShare_5 (by decide) (fun h_n => ?_) (fun h_n => ?_)
  · have h_n : ¬ N 0 1 = 0 := fun q => h_n (by rw [q]; rfl)
    refine lv_iconst (v := 0) hx hb dX5_soldShare_12 (by decide) ?_
    refine k_callVi (as := [.int 0]) (rest := []) (b := (β 0)) (ci := 7) (q0 := 2) F hW (met_X5_goesOn l D cA β c0 c1 wr th N R Fr inc 0) rfl ML_X5_93 IM_X5_goesOn SE_X5_goesOn IN_X5 CO_X5_goesOn hdV_X5_goesOn rfl rfl ⟨(Nat.le_of_ble_eq_true rfl), (Nat.le_of_ble_eq_true rfl)⟩ rfl rfl (rfl) rfl rfl hl.1 (Nat.le_of_ble_eq_true rfl) dX5_soldShare_13 ⟨(Nat.le_of_ble_eq_true rfl), (Nat.le_of_ble_eq_true rfl)⟩ (fun r_228 u H locs hw hW => ?_)
    subst hw
    refine lv_if_eq (tgt := 35) hx hb dX5_soldShare_16 (by decide) (fun h => absurd h (by decide)) (fun _ => ?_)
    refine lv_aload_n hx hb dX5_soldShare_19 rfl (lv_at hl 0 rfl) ?_
    refine lv_iconst (v := 1) hx hb dX5_soldShare_20 (by decide) ?_
    refine k_callVi (as := [.int 1]) (rest := []) (b := (β 0)) (ci := 7) (q0 := 2) F hW (met_X5_weights1 l D cA β c0 c1 wr 0 N R Fr inc hN hL) rfl ML_X5_172 IM_X5_weights SE_X5_weights IN_X5 CO_X5_weights hdV_X5_weights rfl rfl ⟨(Nat.le_of_ble_eq_true rfl), (Nat.le_of_ble_eq_true rfl)⟩ rfl rfl (rfl) rfl rfl hl.1 (Nat.le_of_ble_eq_true rfl) dX5_soldShare_21 ⟨(Nat.le_of_ble_eq_true rfl), (Nat.le_of_ble_eq_true rfl)⟩ (fun r_229 u H locs hw hW => ?_)
    subst hw
    refine lv_i2f hx hb dX5_soldShare_24 ?_
    refine lv_aload_n hx hb dX5_soldShare_25 rfl (lv_at hl 0 rfl) ?_
    refine lv_iconst (v := 0) hx hb dX5_soldShare_26 (by decide) ?_
    refine k_callVi (as := [.int 0]) (rest := [.float (FP.i2f (wsum R (isSold R) (N 0 1)))]) (b := (β 0)) (ci := 7) (q0 := 2) F hW (met_X5_weights0 l D cA β c0 c1 wr 0 N R Fr inc hN hL) rfl ML_X5_172 IM_X5_weights SE_X5_weights IN_X5 CO_X5_weights hdV_X5_weights rfl rfl ⟨(Nat.le_of_ble_eq_true rfl), (Nat.le_of_ble_eq_true rfl)⟩ rfl rfl (rfl) rfl rfl hl.1 (Nat.le_of_ble_eq_true rfl) dX5_soldShare_27 ⟨(Nat.le_of_ble_eq_true rfl), (Nat.le_of_ble_eq_true rfl)⟩ (fun r_230 u H locs hw hW => ?_)
    subst hw
    refine lv_i2f hx hb dX5_soldShare_30 ?_
    refine lv_fdiv hx hb dX5_soldShare_31 (nn_share _ (wsum_nz (fun j hj => (hL j hj).2.2.1) h_n hN)) ?_
    refine lv_goto (tgt := 36) hx hb dX5_soldShare_32 (by decide) ?_
    have hop : op_soldShare (N, R, Fr, inc) = (0, (FP.fdiv (FP.i2f (wsum R (isSold R) (N 0 1))) (FP.i2f (wsum R (fun _ => true) (N 0 1)))), (N, R, Fr, inc)) := by simp [op_soldShare, show FP.fconst0 = 0 from rfl, show FP.dconst0 = 0 from rfl, meanOf, h_n]
    exact k_fret () F (hW.eq (by rw [hop]; rfl)) (by rw [hop]) dX5_soldShare_36 (Nat.le_of_ble_eq_true rfl) (Nat.le_of_ble_eq_true rfl)
  · have h_n : N 0 1 = 0 := (nI_eq (by omega) (by decide)).mp h_n
    refine lv_iconst (v := 1) hx hb dX5_soldShare_8 (by decide) ?_
    refine lv_goto (tgt := 13) hx hb dX5_soldShare_9 (by decide) ?_
    refine k_callVi (as := [.int 1]) (rest := []) (b := (β 0)) (ci := 7) (q0 := 2) F hW (met_X5_goesOn l D cA β c0 c1 wr th N R Fr inc 1) rfl ML_X5_93 IM_X5_goesOn SE_X5_goesOn IN_X5 CO_X5_goesOn hdV_X5_goesOn rfl rfl ⟨(Nat.le_of_ble_eq_true rfl), (Nat.le_of_ble_eq_true rfl)⟩ rfl rfl (rfl) rfl rfl hl.1 (Nat.le_of_ble_eq_true rfl) dX5_soldShare_13 ⟨(Nat.le_of_ble_eq_true rfl), (Nat.le_of_ble_eq_true rfl)⟩ (fun r_231 u H locs hw hW => ?_)
    subst hw
    refine lv_if_eq (tgt := 35) hx hb dX5_soldShare_16 (by decide) (fun _ => ?_) (fun h => absurd (by decide) h)
    refine lv_fconst0 hx hb dX5_soldShare_35 ?_
    have hop : op_soldShare (N, R, Fr, inc) = (1, FP.fconst0, (N, R, Fr, inc)) := by simp [op_soldShare, show FP.fconst0 = 0 from rfl, show FP.dconst0 = 0 from rfl, meanOf, h_n]
    exact k_fret () F (hW.eq (by rw [hop]; rfl)) (by rw [hop]) dX5_soldShare_36 (Nat.le_of_ble_eq_true rfl) (Nat.le_of_ble_eq_true rfl)

set_option maxHeartbeats 4000000 in
set_option maxRecDepth 100000 in
theorem met_X5_meanPrice (l : Launch) (D : va_G) (cA : Nat → ClassId) (β : Nat → Nat) (c0 c1 : Nat × va_E) (wr : va_W) (th : Int32) (N : Nat → Nat → Nat) (R : Nat → Nat → Nat → Int32) (Fr : Nat → UInt32) (inc : Int64) (hN : N 0 1 ≤ 20) (hL : ∀ j, j < N 0 1 → lotOK R Fr j) : MetB l yX5_meanPrice (.code yX5_meanPrice cX5_meanPrice 1 (some .double) :: LW) ({ frames := 2, cells := 0, slots := 0, locals := 44 }) D cA (mWd cA β c0 c1 wr th (N, R, Fr, inc)) [.ref (β 0)] (fun r (_ : Unit) => r = (op_meanPrice (N, R, Fr, inc)).2.1) (fun _ => mWd cA β c0 c1 wr (nI (op_meanPrice (N, R, Fr, inc)).1) (op_meanPrice (N, R, Fr, inc)).2.2) 0 0 := by
  refine k_bodyB (plainFor_of_name (by decide)) (Nat.le_of_ble_eq_true rfl) (fun p e s m args below meth c ls F hW hl => ?_)
  obtain ⟨hx, hb, hr, hml, hown, hts, hlocks, hname⟩ := id F
  have hl : lv_has ls 1 [(0, .ref (β 0))] := hl
  refine lv_aload_n hx hb dX5_meanPrice_0 rfl (lv_at hl 0 rfl) ?_
  refine lv_aload_n hx hb dX5_meanPrice_1 rfl (lv_at hl 0 rfl) ?_
  refine lv_iconst (v := 1) hx hb dX5_meanPrice_2 (by decide) ?_
  refine k_callVi (as := [.int 1]) (rest := [.ref (β 0)]) (b := (β 0)) (ci := 7) (q0 := 2) F hW (met_X5_weights1 l D cA β c0 c1 wr th N R Fr inc hN hL) rfl ML_X5_172 IM_X5_weights SE_X5_weights IN_X5 CO_X5_weights hdV_X5_weights rfl rfl ⟨(Nat.le_of_ble_eq_true rfl), (Nat.le_of_ble_eq_true rfl)⟩ rfl rfl (rfl) rfl rfl hl.1 (Nat.le_of_ble_eq_true rfl) dX5_meanPrice_3 ⟨(Nat.le_of_ble_eq_true rfl), (Nat.le_of_ble_eq_true rfl)⟩ (fun r_232 u H locs hw hW => ?_)
  subst hw
  refine lv_if_ne (tgt := 13) hx hb dX5_meanPrice_6 (by decide) (fun h_n => ?_) (fun h_n => ?_)
  · refine lv_iconst (v := 0) hx hb dX5_meanPrice_13 (by decide) ?_
    refine k_callVi (as := [.int 0]) (rest := []) (b := (β 0)) (ci := 7) (q0 := 2) F hW (met_X5_goesOn l D cA β c0 c1 wr th N R Fr inc 0) rfl ML_X5_93 IM_X5_goesOn SE_X5_goesOn IN_X5 CO_X5_goesOn hdV_X5_goesOn rfl rfl ⟨(Nat.le_of_ble_eq_true rfl), (Nat.le_of_ble_eq_true rfl)⟩ rfl rfl (rfl) rfl rfl hl.1 (Nat.le_of_ble_eq_true rfl) dX5_meanPrice_14 ⟨(Nat.le_of_ble_eq_true rfl), (Nat.le_of_ble_eq_true rfl)⟩ (fun r_233 u H locs hw hW => ?_)
    subst hw
    refine lv_if_eq (tgt := 35) hx hb dX5_meanPrice_17 (by decide) (fun h => absurd h (by decide)) (fun _ => ?_)
    refine lv_aload_n hx hb dX5_meanPrice_20 rfl (lv_at hl 0 rfl) ?_
    refine k_get (v := .long inc) F hW inX5 rfl 2 rfl rfl 29 (by decide) FL_X5_127 rfl rfl dX5_meanPrice_21 ?_
    refine lv_l2d hx hb dX5_meanPrice_24 ?_
    refine lv_aload_n hx hb dX5_meanPrice_25 rfl (lv_at hl 0 rfl) ?_
    refine lv_iconst (v := 1) hx hb dX5_meanPrice_26 (by decide) ?_
    refine k_callVi (as := [.int 1]) (rest := [.double (FP.l2d inc)]) (b := (β 0)) (ci := 7) (q0 := 2) F hW (met_X5_weights1 l D cA β c0 c1 wr 0 N R Fr inc hN hL) rfl ML_X5_172 IM_X5_weights SE_X5_weights IN_X5 CO_X5_weights hdV_X5_weights rfl rfl ⟨(Nat.le_of_ble_eq_true rfl), (Nat.le_of_ble_eq_true rfl)⟩ rfl rfl (rfl) rfl rfl hl.1 (Nat.le_of_ble_eq_true rfl) dX5_meanPrice_27 ⟨(Nat.le_of_ble_eq_true rfl), (Nat.le_of_ble_eq_true rfl)⟩ (fun r_234 u H locs hw hW => ?_)
    subst hw
    refine lv_i2d hx hb dX5_meanPrice_30 ?_
    refine lv_ddiv hx hb dX5_meanPrice_31 (nn_mean _ h_n) ?_
    refine lv_goto (tgt := 36) hx hb dX5_meanPrice_32 (by decide) ?_
    have hop : op_meanPrice (N, R, Fr, inc) = (0, (FP.ddiv (FP.l2d inc) (FP.i2d (wsum R (isSold R) (N 0 1)))), (N, R, Fr, inc)) := by simp [op_meanPrice, show FP.fconst0 = 0 from rfl, show FP.dconst0 = 0 from rfl, meanOf, h_n]
    exact k_dret () F (hW.eq (by rw [hop]; rfl)) (by rw [hop]) dX5_meanPrice_36 (Nat.le_of_ble_eq_true rfl) (Nat.le_of_ble_eq_true rfl)
  · refine lv_iconst (v := 1) hx hb dX5_meanPrice_9 (by decide) ?_
    refine lv_goto (tgt := 14) hx hb dX5_meanPrice_10 (by decide) ?_
    refine k_callVi (as := [.int 1]) (rest := []) (b := (β 0)) (ci := 7) (q0 := 2) F hW (met_X5_goesOn l D cA β c0 c1 wr th N R Fr inc 1) rfl ML_X5_93 IM_X5_goesOn SE_X5_goesOn IN_X5 CO_X5_goesOn hdV_X5_goesOn rfl rfl ⟨(Nat.le_of_ble_eq_true rfl), (Nat.le_of_ble_eq_true rfl)⟩ rfl rfl (rfl) rfl rfl hl.1 (Nat.le_of_ble_eq_true rfl) dX5_meanPrice_14 ⟨(Nat.le_of_ble_eq_true rfl), (Nat.le_of_ble_eq_true rfl)⟩ (fun r_235 u H locs hw hW => ?_)
    subst hw
    refine lv_if_eq (tgt := 35) hx hb dX5_meanPrice_17 (by decide) (fun _ => ?_) (fun h => absurd (by decide) h)
    refine lv_dconst0 hx hb dX5_meanPrice_35 ?_
    have hop : op_meanPrice (N, R, Fr, inc) = (1, FP.dconst0, (N, R, Fr, inc)) := by simp [op_meanPrice, show FP.fconst0 = 0 from rfl, show FP.dconst0 = 0 from rfl, meanOf, h_n]
    exact k_dret () F (hW.eq (by rw [hop]; rfl)) (by rw [hop]) dX5_meanPrice_36 (Nat.le_of_ble_eq_true rfl) (Nat.le_of_ble_eq_true rfl)

set_option maxHeartbeats 4000000 in
set_option maxRecDepth 100000 in
theorem met_X5_meanBits (l : Launch) (D : va_G) (cA : Nat → ClassId) (β : Nat → Nat) (c0 c1 : Nat × va_E) (wr : va_W) (th : Int32) (N : Nat → Nat → Nat) (R : Nat → Nat → Nat → Int32) (Fr : Nat → UInt32) (inc : Int64) (hN : N 0 1 ≤ 20) (hL : ∀ j, j < N 0 1 → lotOK R Fr j) : MetL l yX5_meanBits (.code yX5_meanBits cX5_meanBits 1 (some .long) :: LW) ({ frames := 2, cells := 0, slots := 0, locals := 51 }) D cA (mWd cA β c0 c1 wr th (N, R, Fr, inc)) [.ref (β 0)] (fun r (_ : Unit) => r = (op_meanBits (N, R, Fr, inc)).2.1) (fun _ => mWd cA β c0 c1 wr (nI (op_meanBits (N, R, Fr, inc)).1) (op_meanBits (N, R, Fr, inc)).2.2) 0 0 := by
  refine k_bodyL (plainFor_of_name (by decide)) (Nat.le_of_ble_eq_true rfl) (fun p e s m args below meth c ls F hW hl => ?_)
  obtain ⟨hx, hb, hr, hml, hown, hts, hlocks, hname⟩ := id F
  have hl : lv_has ls 1 [(0, .ref (β 0))] := hl
  refine lv_aload_n hx hb dX5_meanBits_0 rfl (lv_at hl 0 rfl) ?_
  refine lv_aload_n hx hb dX5_meanBits_1 rfl (lv_at hl 0 rfl) ?_
  refine lv_iconst (v := 1) hx hb dX5_meanBits_2 (by decide) ?_
  refine k_callVi (as := [.int 1]) (rest := [.ref (β 0)]) (b := (β 0)) (ci := 7) (q0 := 2) F hW (met_X5_weights1 l D cA β c0 c1 wr th N R Fr inc hN hL) rfl ML_X5_172 IM_X5_weights SE_X5_weights IN_X5 CO_X5_weights hdV_X5_weights rfl rfl ⟨(Nat.le_of_ble_eq_true rfl), (Nat.le_of_ble_eq_true rfl)⟩ rfl rfl (rfl) rfl rfl hl.1 (Nat.le_of_ble_eq_true rfl) dX5_meanBits_3 ⟨(Nat.le_of_ble_eq_true rfl), (Nat.le_of_ble_eq_true rfl)⟩ (fun r_236 u H locs hw hW => ?_)
  subst hw
  refine lv_if_ne (tgt := 13) hx hb dX5_meanBits_6 (by decide) (fun h_n => ?_) (fun h_n => ?_)
  · refine lv_iconst (v := 0) hx hb dX5_meanBits_13 (by decide) ?_
    refine k_callVi (as := [.int 0]) (rest := []) (b := (β 0)) (ci := 7) (q0 := 2) F hW (met_X5_goesOn l D cA β c0 c1 wr th N R Fr inc 0) rfl ML_X5_93 IM_X5_goesOn SE_X5_goesOn IN_X5 CO_X5_goesOn hdV_X5_goesOn rfl rfl ⟨(Nat.le_of_ble_eq_true rfl), (Nat.le_of_ble_eq_true rfl)⟩ rfl rfl (rfl) rfl rfl hl.1 (Nat.le_of_ble_eq_true rfl) dX5_meanBits_14 ⟨(Nat.le_of_ble_eq_true rfl), (Nat.le_of_ble_eq_true rfl)⟩ (fun r_237 u H locs hw hW => ?_)
    subst hw
    refine lv_if_eq (tgt := 38) hx hb dX5_meanBits_17 (by decide) (fun h => absurd h (by decide)) (fun _ => ?_)
    refine lv_aload_n hx hb dX5_meanBits_20 rfl (lv_at hl 0 rfl) ?_
    refine k_get (v := .long inc) F hW inX5 rfl 2 rfl rfl 29 (by decide) FL_X5_127 rfl rfl dX5_meanBits_21 ?_
    refine lv_l2d hx hb dX5_meanBits_24 ?_
    refine lv_aload_n hx hb dX5_meanBits_25 rfl (lv_at hl 0 rfl) ?_
    refine lv_iconst (v := 1) hx hb dX5_meanBits_26 (by decide) ?_
    refine k_callVi (as := [.int 1]) (rest := [.double (FP.l2d inc)]) (b := (β 0)) (ci := 7) (q0 := 2) F hW (met_X5_weights1 l D cA β c0 c1 wr 0 N R Fr inc hN hL) rfl ML_X5_172 IM_X5_weights SE_X5_weights IN_X5 CO_X5_weights hdV_X5_weights rfl rfl ⟨(Nat.le_of_ble_eq_true rfl), (Nat.le_of_ble_eq_true rfl)⟩ rfl rfl (rfl) rfl rfl hl.1 (Nat.le_of_ble_eq_true rfl) dX5_meanBits_27 ⟨(Nat.le_of_ble_eq_true rfl), (Nat.le_of_ble_eq_true rfl)⟩ (fun r_238 u H locs hw hW => ?_)
    subst hw
    refine lv_i2d hx hb dX5_meanBits_30 ?_
    refine lv_ddiv hx hb dX5_meanBits_31 (nn_mean _ h_n) ?_
    refine k_callSl (as := [.double (FP.ddiv (FP.l2d inc) (FP.i2d (wsum R (isSold R) (N 0 1))))]) (rest := []) F hW (met_JD_doubleToLongBits l D cA _ (FP.ddiv (FP.l2d inc) (FP.i2d (wsum R (isSold R) (N 0 1)))) (mean_nn _ h_n)) rfl ML_X5_176 ST_JD_doubleToLongBits IN_JD CO_JD_doubleToLongBits hdS_JD_doubleToLongBits rfl rfl ⟨(Nat.le_of_ble_eq_true rfl), (Nat.le_of_ble_eq_true rfl)⟩ rfl rfl hl.1 (Nat.le_of_ble_eq_true rfl) dX5_meanBits_32 ⟨(Nat.le_of_ble_eq_true rfl), (Nat.le_of_ble_eq_true rfl)⟩ (fun r_239 u H locs hw hW => ?_)
    subst hw
    refine lv_goto (tgt := 39) hx hb dX5_meanBits_35 (by decide) ?_
    have hop : op_meanBits (N, R, Fr, inc) = (0, ((FP.ddiv (FP.l2d inc) (FP.i2d (wsum R (isSold R) (N 0 1))))).toInt64, (N, R, Fr, inc)) := by simp [op_meanBits, show FP.fconst0 = 0 from rfl, show FP.dconst0 = 0 from rfl, meanOf, h_n]
    exact k_lret () F (hW.eq (by rw [hop]; rfl)) (by rw [hop]) dX5_meanBits_39 (Nat.le_of_ble_eq_true rfl) (Nat.le_of_ble_eq_true rfl)
  · refine lv_iconst (v := 1) hx hb dX5_meanBits_9 (by decide) ?_
    refine lv_goto (tgt := 14) hx hb dX5_meanBits_10 (by decide) ?_
    refine k_callVi (as := [.int 1]) (rest := []) (b := (β 0)) (ci := 7) (q0 := 2) F hW (met_X5_goesOn l D cA β c0 c1 wr th N R Fr inc 1) rfl ML_X5_93 IM_X5_goesOn SE_X5_goesOn IN_X5 CO_X5_goesOn hdV_X5_goesOn rfl rfl ⟨(Nat.le_of_ble_eq_true rfl), (Nat.le_of_ble_eq_true rfl)⟩ rfl rfl (rfl) rfl rfl hl.1 (Nat.le_of_ble_eq_true rfl) dX5_meanBits_14 ⟨(Nat.le_of_ble_eq_true rfl), (Nat.le_of_ble_eq_true rfl)⟩ (fun r_240 u H locs hw hW => ?_)
    subst hw
    refine lv_if_eq (tgt := 38) hx hb dX5_meanBits_17 (by decide) (fun _ => ?_) (fun h => absurd (by decide) h)
    refine lv_lconst (v := 0) hx hb dX5_meanBits_38 (by decide) ?_
    have hop : op_meanBits (N, R, Fr, inc) = (1, 0, (N, R, Fr, inc)) := by simp [op_meanBits, show FP.fconst0 = 0 from rfl, show FP.dconst0 = 0 from rfl, meanOf, h_n]
    exact k_lret () F (hW.eq (by rw [hop]; rfl)) (by rw [hop]) dX5_meanBits_39 (Nat.le_of_ble_eq_true rfl) (Nat.le_of_ble_eq_true rfl)

set_option maxHeartbeats 4000000 in
set_option maxRecDepth 100000 in
theorem met_X5_endDay (l : Launch) (D : va_G) (cA : Nat → ClassId) (β : Nat → Nat) (c0 c1 : Nat × va_E) (wr : va_W) (th : Int32) (N : Nat → Nat → Nat) (R : Nat → Nat → Nat → Int32) (Fr : Nat → UInt32) (inc : Int64) (hN4 : N 0 4 ≤ 19) : MetI l yX5_endDay (.code yX5_endDay cX5_endDay 2 (some .int) :: LW) ({ frames := 1, cells := 0, slots := 0, locals := 21 }) D cA (mWd cA β c0 c1 wr th (N, R, Fr, inc)) [.ref (β 0)] (fun r (_ : Unit) => r = (op_endDay (N, R, Fr, inc)).2.1) (fun _ => mWd cA β c0 c1 wr (nI (op_endDay (N, R, Fr, inc)).1) (op_endDay (N, R, Fr, inc)).2.2) 0 0 := by
  refine k_bodyI (plainFor_of_name (by decide)) (Nat.le_of_ble_eq_true rfl) (fun p e s m args below meth c ls F hW hl => ?_)
  obtain ⟨hx, hb, hr, hml, hown, hts, hlocks, hname⟩ := id F
  have hl : lv_has ls 2 [(0, .ref (β 0))] := hl
  refine lv_aload_n hx hb dX5_endDay_0 rfl (lv_at hl 0 rfl) ?_
  refine lv_aload_n hx hb dX5_endDay_1 rfl (lv_at hl 0 rfl) ?_
  refine k_get (v := .int (nI (N 0 4))) F hW inX5 rfl 2 rfl rfl 4 (by decide) FL_X5_107 rfl rfl dX5_endDay_2 ?_
  refine lv_bipush (v := 19) hx hb dX5_endDay_5 (by decide) ?_
  refine lv_icmp_ne (tgt := 14) hx hb dX5_endDay_7 (by decide) (fun h_n => ?_) (fun h_n => ?_)
  · have h_n : ¬ N 0 4 = 19 := fun q => h_n (by rw [q]; rfl)
    refine lv_iconst (v := 0) hx hb dX5_endDay_14 (by decide) ?_
    refine k_callVi (as := [.int 0]) (rest := []) (b := (β 0)) (ci := 7) (q0 := 2) F hW (met_X5_goesOn l D cA β c0 c1 wr th N R Fr inc 0) rfl ML_X5_93 IM_X5_goesOn SE_X5_goesOn IN_X5 CO_X5_goesOn hdV_X5_goesOn rfl rfl ⟨(Nat.le_of_ble_eq_true rfl), (Nat.le_of_ble_eq_true rfl)⟩ rfl rfl (rfl) rfl rfl hl.1 (Nat.le_of_ble_eq_true rfl) dX5_endDay_15 ⟨(Nat.le_of_ble_eq_true rfl), (Nat.le_of_ble_eq_true rfl)⟩ (fun r_241 u H locs hw hW => ?_)
    subst hw
    refine lv_if_ne (tgt := 23) hx hb dX5_endDay_18 (by decide) (fun _ => ?_) (fun h => absurd h (by decide))
    refine lv_iconst (v := 0) hx hb dX5_endDay_23 (by decide) ?_
    refine lv_istore_n (lv' := [(1, .int 0), (0, .ref (β 0))]) hx hb dX5_endDay_24 rfl hl (by decide) rfl (fun ls hl => ?_)
    have hW := hW.eq (show _ = mWd cA β c0 c1 wr 0 (N, wrote R (N 0 4) 0, Fr, inc) by rw [wrote_0])
    refine k_ind (P := fun k H locs ls => ∃ i, i + k = 24 ∧ Cw D cA s (va_A (mWd cA β c0 c1 wr th (N, R, Fr, inc)) s.heap.size) (mWd cA β c0 c1 wr 0 (N, wrote R (N 0 4) i, Fr, inc)) H locs ∧ lv_has ls 2 [(0, .ref (β 0)), (1, .int (nI i))]) (fun k ih H locs ls hP => ?_) (24) ⟨0, by omega, hW, lv_sub hl [1, 0] rfl⟩
    obtain ⟨i, hi_i, hW, hl⟩ := hP
    refine lv_iload_n hx hb dX5_endDay_25 rfl (lv_at hl 1 rfl) ?_
    refine lv_bipush (v := 24) hx hb dX5_endDay_26 (by decide) ?_
    refine lv_icmp_ge (tgt := 57) hx hb dX5_endDay_28 (by decide) (fun h_c => ?_) (fun h_c => ?_)
    · obtain rfl : i = 24 := by have := (nI_leI (b := i) (a := 24) (by omega) (by omega)).mp h_c; omega
      refine lv_aload_n hx hb dX5_endDay_57 rfl (lv_at hl 0 rfl) ?_
      refine lv_dup hx hb dX5_endDay_58 rfl ?_
      refine k_get (v := .int (nI (N 0 4))) F hW inX5 rfl 2 rfl rfl 4 (by decide) FL_X5_107 rfl rfl dX5_endDay_59 ?_
      refine lv_iconst (v := 1) hx hb dX5_endDay_62 (by decide) ?_
      refine lv_iadd hx hb dX5_endDay_63 ?_
      refine lv_topi (fun x_242 ex_242 => ?_)
      obtain rfl : x_242 = nI (N 0 4 + 1) := ex_242.trans (nI_1 _)
      refine k_put F hW inX5 tyX5_ok nmX5 rfl 2 rfl rfl 4 (by decide) FL_X5_107 rfl rfl rfl rfl rfl (Nat.le_of_ble_eq_true rfl) (mWd cA β c0 c1 wr 0 (up2 N 0 4 (N 0 4 + 1), wrote R (N 0 4) 24, Fr, inc)) rfl dX5_endDay_64 (fun H locs hW => ?_)
      refine lv_aload_n hx hb dX5_endDay_67 rfl (lv_at hl 0 rfl) ?_
      refine k_get (v := .int (nI (N 0 4 + 1))) F hW inX5 rfl 2 rfl rfl 4 (by decide) FL_X5_107 rfl rfl dX5_endDay_68 ?_
      have hop : op_endDay (N, R, Fr, inc) = (0, (nI (N 0 4 + 1)), (up2 N 0 4 (N 0 4 + 1), wrote R (N 0 4) 24, Fr, inc)) := by simp [op_endDay, h_n]
      exact k_iret () F (hW.eq (by rw [hop]; rfl)) (by rw [hop]) dX5_endDay_71 (Nat.le_of_ble_eq_true rfl) (Nat.le_of_ble_eq_true rfl)
    · have hlt : i < 24 := Nat.lt_of_not_le fun q => h_c (nI_le (a := 24) q (by omega))
      refine lv_aload_n hx hb dX5_endDay_31 rfl (lv_at hl 0 rfl) ?_
      refine k_get (v := .ref (β 2)) F hW inX5 rfl 2 rfl rfl 3 (by decide) FL_X5_13 rfl rfl dX5_endDay_32 ?_
      refine lv_bipush (v := 24) hx hb dX5_endDay_35 (by decide) ?_
      refine lv_aload_n hx hb dX5_endDay_37 rfl (lv_at hl 0 rfl) ?_
      refine k_get (v := .int (nI (N 0 4))) F hW inX5 rfl 2 rfl rfl 4 (by decide) FL_X5_107 rfl rfl dX5_endDay_38 ?_
      refine lv_imul hx hb dX5_endDay_41 ?_
      refine lv_iload_n hx hb dX5_endDay_42 rfl (lv_at hl 1 rfl) ?_
      refine lv_iadd hx hb dX5_endDay_43 ?_
      refine lv_aload_n hx hb dX5_endDay_44 rfl (lv_at hl 0 rfl) ?_
      refine k_get (v := .ref (β 1)) F hW inX5 rfl 2 rfl rfl 2 (by decide) FL_X5_9 rfl rfl dX5_endDay_45 ?_
      refine lv_iload_n hx hb dX5_endDay_48 rfl (lv_at hl 1 rfl) ?_
      refine k_iald (v := R 1 (i / 4) (i % 4)) F hW 3 rfl (vp_in_nI (by omega) (by decide)) (by rw [nI_clamp (by omega)]; rfl) dX5_endDay_49 ?_
      refine k_iast F hW 4 rfl (by rw [ix24]; exact vp_in_nI (by omega) (by decide)) (mWd cA β c0 c1 wr 0 (N, wrote R (N 0 4) (i + 1), Fr, inc)) (by rw [ix24, nI_clamp (by omega), wrote_s R hlt]; rfl) dX5_endDay_50 (fun H locs hW => ?_)
      refine lv_iinc (k := 1) (lv' := [(1, .int (nI (i + 1))), (0, .ref (β 0))]) hx hb dX5_endDay_51 hl rfl (nI_1 i) (by decide) rfl (fun ls hl => ?_)
      refine lv_goto (tgt := 25) hx hb dX5_endDay_54 (by decide) ?_
      exact ih (k - 1) (by omega) ⟨i + 1, by omega, hW, lv_sub hl [1, 0] rfl⟩
  · have h_n : N 0 4 = 19 := (nI_eq (by omega) (by decide)).mp h_n
    refine lv_iconst (v := 1) hx hb dX5_endDay_10 (by decide) ?_
    refine lv_goto (tgt := 15) hx hb dX5_endDay_11 (by decide) ?_
    refine k_callVi (as := [.int 1]) (rest := []) (b := (β 0)) (ci := 7) (q0 := 2) F hW (met_X5_goesOn l D cA β c0 c1 wr th N R Fr inc 1) rfl ML_X5_93 IM_X5_goesOn SE_X5_goesOn IN_X5 CO_X5_goesOn hdV_X5_goesOn rfl rfl ⟨(Nat.le_of_ble_eq_true rfl), (Nat.le_of_ble_eq_true rfl)⟩ rfl rfl (rfl) rfl rfl hl.1 (Nat.le_of_ble_eq_true rfl) dX5_endDay_15 ⟨(Nat.le_of_ble_eq_true rfl), (Nat.le_of_ble_eq_true rfl)⟩ (fun r_243 u H locs hw hW => ?_)
    subst hw
    refine lv_if_ne (tgt := 23) hx hb dX5_endDay_18 (by decide) (fun h => absurd (by decide) h) (fun _ => ?_)
    refine lv_iconst (v := 0) hx hb dX5_endDay_21 (by decide) ?_
    have hop : op_endDay (N, R, Fr, inc) = (1, 0, (N, R, Fr, inc)) := by simp [op_endDay, h_n]
    exact k_iret () F (hW.eq (by rw [hop]; rfl)) (by rw [hop]) dX5_endDay_22 (Nat.le_of_ble_eq_true rfl) (Nat.le_of_ble_eq_true rfl)

set_option maxHeartbeats 4000000 in
set_option maxRecDepth 100000 in
theorem met_X5_ages (l : Launch) (D : va_G) (cA : Nat → ClassId) (β : Nat → Nat) (c0 c1 : Nat × va_E) (wr : va_W) (th : Int32) (N : Nat → Nat → Nat) (R : Nat → Nat → Nat → Int32) (Fr : Nat → UInt32) (inc : Int64) (v : Int32) (hN : N 0 1 ≤ 20) (hL : lotOK R Fr (ix v)) (hp : isIx (N 0 1) v = true) : MetV l yX5_ages (.code yX5_ages cX5_ages 2 none :: LW) ({ frames := 1, cells := 0, slots := 0, locals := 21 }) D cA (mWd cA β c0 c1 wr th (N, R, Fr, inc)) [.ref (β 0), .int v] (fun (_ : Unit) => True) (fun _ => mWd cA β c0 c1 wr th (N, (ageR R Fr (ix v)).1, (ageR R Fr (ix v)).2, inc)) 0 0 := by
  refine k_bodyV (plainFor_of_name (by decide)) (Nat.le_of_ble_eq_true rfl) (fun p e s m args below meth c ls F hW hl => ?_)
  obtain ⟨hx, hb, hr, hml, hown, hts, hlocks, hname⟩ := id F
  have hl : lv_has ls 2 [(0, .ref (β 0)), (1, .int v)] := hl
  refine lv_aload_n hx hb dX5_ages_0 rfl (lv_at hl 0 rfl) ?_
  refine k_get (v := .ref (β 7)) F hW inX5 rfl 2 rfl rfl 11 (by decide) FL_X5_29 rfl rfl dX5_ages_1 ?_
  refine lv_iload_n hx hb dX5_ages_4 rfl (lv_at hl 1 rfl) ?_
  refine k_cald (v := R 9 (ix v) 0) F hW 9 rfl (in1 hp hN (by decide)) (rfl) dX5_ages_5 ?_
  refine lv_bipush (v := 102) hx hb dX5_ages_6 (by decide) ?_
  refine lv_icmp_eq (tgt := 34) hx hb dX5_ages_8 (by decide) (fun h_1 => ?_) (fun h_1 => ?_)
  · refine lv_aload_n hx hb dX5_ages_34 rfl (lv_at hl 0 rfl) ?_
    refine k_get (v := .ref (β 9)) F hW inX5 rfl 2 rfl rfl 13 (by decide) FL_X5_37 rfl rfl dX5_ages_35 ?_
    refine lv_iload_n hx hb dX5_ages_38 rfl (lv_at hl 1 rfl) ?_
    refine k_iald (v := R 10 (ix v) 0) F hW 11 rfl (in1 hp hN (by decide)) (rfl) dX5_ages_39 ?_
    refine lv_aload_n hx hb dX5_ages_40 rfl (lv_at hl 0 rfl) ?_
    refine lv_iload_n hx hb dX5_ages_41 rfl (lv_at hl 1 rfl) ?_
    refine k_callVi (as := [.int v]) (rest := [.int (R 10 (ix v) 0)]) (b := (β 0)) (ci := 7) (q0 := 2) F hW (met_X5_iceFor l D cA β c0 c1 wr th N R Fr inc v hN hp) rfl ML_X5_119 IM_X5_iceFor SE_X5_iceFor IN_X5 CO_X5_iceFor hdV_X5_iceFor rfl rfl ⟨(Nat.le_of_ble_eq_true rfl), (Nat.le_of_ble_eq_true rfl)⟩ rfl rfl (rfl) rfl rfl hl.1 (Nat.le_of_ble_eq_true rfl) dX5_ages_42 ⟨(Nat.le_of_ble_eq_true rfl), (Nat.le_of_ble_eq_true rfl)⟩ (fun r_244 u H locs hw hW => ?_)
    subst hw
    refine lv_icmp_lt (tgt := 80) hx hb dX5_ages_45 (by decide) (fun h_i => ?_) (fun h_i => ?_)
    · have h_i := Int32.not_le.mpr h_i
      refine lv_aload_n hx hb dX5_ages_80 rfl (lv_at hl 0 rfl) ?_
      refine k_get (v := .ref (β 8)) F hW inX5 rfl 2 rfl rfl 12 (by decide) FL_X5_33 rfl rfl dX5_ages_81 ?_
      refine lv_iload_n hx hb dX5_ages_84 rfl (lv_at hl 1 rfl) ?_
      refine lv_aload_n hx hb dX5_ages_85 rfl (lv_at hl 0 rfl) ?_
      refine k_get (v := .ref (β 8)) F hW inX5 rfl 2 rfl rfl 12 (by decide) FL_X5_33 rfl rfl dX5_ages_86 ?_
      refine lv_iload_n hx hb dX5_ages_89 rfl (lv_at hl 1 rfl) ?_
      refine k_fald (v := Fr (ix v)) F hW 10 rfl (in1 hp hN (by decide)) (rfl) dX5_ages_90 ?_
      refine lv_ldcf (v := 1065017672) hx hb hown (hts _ CK_X5_124) dX5_ages_91 ?_
      refine lv_fmul hx hb dX5_ages_93 (fo_nn (fo_bare hL.2.2.2.2.1)) ?_
      refine k_fast F hW 10 rfl (in1 hp hN (by decide)) (mWd cA β c0 c1 wr th (N, R, vf_upd Fr (ix v) (FP.fmul (Fr (ix v)) 1065017672), inc)) (rfl) dX5_ages_94 (fun H locs hW => ?_)
      refine lv_aload_n hx hb dX5_ages_95 rfl (lv_at hl 0 rfl) ?_
      refine k_get (v := .ref (β 7)) F hW inX5 rfl 2 rfl rfl 11 (by decide) FL_X5_29 rfl rfl dX5_ages_96 ?_
      refine lv_iload_n hx hb dX5_ages_99 rfl (lv_at hl 1 rfl) ?_
      refine lv_aload_n hx hb dX5_ages_100 rfl (lv_at hl 0 rfl) ?_
      refine k_get (v := .ref (β 7)) F hW inX5 rfl 2 rfl rfl 11 (by decide) FL_X5_29 rfl rfl dX5_ages_101 ?_
      refine lv_iload_n hx hb dX5_ages_104 rfl (lv_at hl 1 rfl) ?_
      refine k_cald (v := R 9 (ix v) 0) F hW 9 rfl (in1 hp hN (by decide)) (rfl) dX5_ages_105 ?_
      refine lv_bipush (v := 102) hx hb dX5_ages_106 (by decide) ?_
      refine lv_icmp_ne (tgt := 128) hx hb dX5_ages_108 (by decide) (fun h => absurd (h_1) h) (fun _ => ?_)
      refine lv_aload_n hx hb dX5_ages_111 rfl (lv_at hl 0 rfl) ?_
      refine k_get (v := .ref (β 8)) F hW inX5 rfl 2 rfl rfl 12 (by decide) FL_X5_33 rfl rfl dX5_ages_112 ?_
      refine lv_iload_n hx hb dX5_ages_115 rfl (lv_at hl 1 rfl) ?_
      refine k_fald (v := (FP.fmul (Fr (ix v)) 1065017672)) F hW 10 rfl (in1 hp hN (by decide)) (by simp [vf_upd, ix]) dX5_ages_116 ?_
      refine lv_ldcf (v := 1106247680) hx hb hown (hts _ CK_X5_125) dX5_ages_117 ?_
      refine lv_fcmp hx hb dX5_ages_119 ?_
      by_cases h_f : FP.fcmp (FP.fmul (Fr (ix v)) 1065017672) 1106247680 = some .lt
      · refine lv_if_ge (tgt := 128) hx hb dX5_ages_120 (by decide) (fun h => absurd h (cmpg_lt h_f)) (fun _ => ?_)
        refine lv_bipush (v := 120) hx hb dX5_ages_123 (by decide) ?_
        refine lv_goto (tgt := 134) hx hb dX5_ages_125 (by decide) ?_
        refine k_cast F hW 9 rfl (in1 hp hN (by decide)) (rfl) (mWd cA β c0 c1 wr th (N, up3 R 9 (ix v) 0 120, vf_upd Fr (ix v) (FP.fmul (Fr (ix v)) 1065017672), inc)) (by rw [u1' R 9 (ix v) v _ rfl]; rfl) dX5_ages_134 (fun H locs hW => ?_)
        have hop : ageR R Fr (ix v) = (up3 R 9 (ix v) 0 120, vf_upd Fr (ix v) (FP.fmul (Fr (ix v)) 1065017672)) := by simp [ageR, h_1, h_i, h_f]
        exact k_vret () F (hW.eq (by rw [hop])) (trivial) dX5_ages_135 (Nat.le_of_ble_eq_true rfl) (Nat.le_of_ble_eq_true rfl)
      · refine lv_if_ge (tgt := 128) hx hb dX5_ages_120 (by decide) (fun _ => ?_) (fun h => absurd (cmpg_ge h_f) h)
        refine lv_aload_n hx hb dX5_ages_128 rfl (lv_at hl 0 rfl) ?_
        refine k_get (v := .ref (β 7)) F hW inX5 rfl 2 rfl rfl 11 (by decide) FL_X5_29 rfl rfl dX5_ages_129 ?_
        refine lv_iload_n hx hb dX5_ages_132 rfl (lv_at hl 1 rfl) ?_
        refine k_cald (v := R 9 (ix v) 0) F hW 9 rfl (in1 hp hN (by decide)) (rfl) dX5_ages_133 ?_
        refine k_cast F hW 9 rfl (in1 hp hN (by decide)) (stV hL.2.2.2.1) (mWd cA β c0 c1 wr th (N, up3 R 9 (ix v) 0 (R 9 (ix v) 0), vf_upd Fr (ix v) (FP.fmul (Fr (ix v)) 1065017672), inc)) (by rw [u1' R 9 (ix v) v _ rfl]; rfl) dX5_ages_134 (fun H locs hW => ?_)
        have hop : ageR R Fr (ix v) = (up3 R 9 (ix v) 0 (R 9 (ix v) 0), vf_upd Fr (ix v) (FP.fmul (Fr (ix v)) 1065017672)) := by simp [ageR, h_1, h_i, h_f]
        exact k_vret () F (hW.eq (by rw [hop])) (trivial) dX5_ages_135 (Nat.le_of_ble_eq_true rfl) (Nat.le_of_ble_eq_true rfl)
    · have h_i := Int32.not_lt.mp h_i
      refine lv_aload_n hx hb dX5_ages_48 rfl (lv_at hl 0 rfl) ?_
      refine k_get (v := .ref (β 9)) F hW inX5 rfl 2 rfl rfl 13 (by decide) FL_X5_37 rfl rfl dX5_ages_49 ?_
      refine lv_iload_n hx hb dX5_ages_52 rfl (lv_at hl 1 rfl) ?_
      refine lv_dup2_11 hx hb dX5_ages_53 rfl rfl ?_
      refine k_iald (v := R 10 (ix v) 0) F hW 11 rfl (in1 hp hN (by decide)) (rfl) dX5_ages_54 ?_
      refine lv_aload_n hx hb dX5_ages_55 rfl (lv_at hl 0 rfl) ?_
      refine lv_iload_n hx hb dX5_ages_56 rfl (lv_at hl 1 rfl) ?_
      refine k_callVi (as := [.int v]) (rest := [.int (R 10 (ix v) 0), .int v, .ref (β 9)]) (b := (β 0)) (ci := 7) (q0 := 2) F hW (met_X5_iceFor l D cA β c0 c1 wr th N R Fr inc v hN hp) rfl ML_X5_119 IM_X5_iceFor SE_X5_iceFor IN_X5 CO_X5_iceFor hdV_X5_iceFor rfl rfl ⟨(Nat.le_of_ble_eq_true rfl), (Nat.le_of_ble_eq_true rfl)⟩ rfl rfl (rfl) rfl rfl hl.1 (Nat.le_of_ble_eq_true rfl) dX5_ages_57 ⟨(Nat.le_of_ble_eq_true rfl), (Nat.le_of_ble_eq_true rfl)⟩ (fun r_245 u H locs hw hW => ?_)
      subst hw
      refine lv_isub hx hb dX5_ages_60 ?_
      refine k_iast F hW 11 rfl (in1 hp hN (by decide)) (mWd cA β c0 c1 wr th (N, up3 R 10 (ix v) 0 (R 10 (ix v) 0 - iceFor (R 7 (ix v) 0)), Fr, inc)) (by rw [u1' R 10 (ix v) v _ rfl]; rfl) dX5_ages_61 (fun H locs hW => ?_)
      refine lv_aload_n hx hb dX5_ages_62 rfl (lv_at hl 0 rfl) ?_
      refine k_get (v := .ref (β 8)) F hW inX5 rfl 2 rfl rfl 12 (by decide) FL_X5_33 rfl rfl dX5_ages_63 ?_
      refine lv_iload_n hx hb dX5_ages_66 rfl (lv_at hl 1 rfl) ?_
      refine lv_aload_n hx hb dX5_ages_67 rfl (lv_at hl 0 rfl) ?_
      refine k_get (v := .ref (β 8)) F hW inX5 rfl 2 rfl rfl 12 (by decide) FL_X5_33 rfl rfl dX5_ages_68 ?_
      refine lv_iload_n hx hb dX5_ages_71 rfl (lv_at hl 1 rfl) ?_
      refine k_fald (v := Fr (ix v)) F hW 10 rfl (in1 hp hN (by decide)) (rfl) dX5_ages_72 ?_
      refine lv_ldcf (v := 1065269330) hx hb hown (hts _ CK_X5_123) dX5_ages_73 ?_
      refine lv_fmul hx hb dX5_ages_75 (fo_nn (fo_ice hL.2.2.2.2.1)) ?_
      refine k_fast F hW 10 rfl (in1 hp hN (by decide)) (mWd cA β c0 c1 wr th (N, up3 R 10 (ix v) 0 (R 10 (ix v) 0 - iceFor (R 7 (ix v) 0)), vf_upd Fr (ix v) (FP.fmul (Fr (ix v)) 1065269330), inc)) (rfl) dX5_ages_76 (fun H locs hW => ?_)
      refine lv_goto (tgt := 95) hx hb dX5_ages_77 (by decide) ?_
      refine lv_aload_n hx hb dX5_ages_95 rfl (lv_at hl 0 rfl) ?_
      refine k_get (v := .ref (β 7)) F hW inX5 rfl 2 rfl rfl 11 (by decide) FL_X5_29 rfl rfl dX5_ages_96 ?_
      refine lv_iload_n hx hb dX5_ages_99 rfl (lv_at hl 1 rfl) ?_
      refine lv_aload_n hx hb dX5_ages_100 rfl (lv_at hl 0 rfl) ?_
      refine k_get (v := .ref (β 7)) F hW inX5 rfl 2 rfl rfl 11 (by decide) FL_X5_29 rfl rfl dX5_ages_101 ?_
      refine lv_iload_n hx hb dX5_ages_104 rfl (lv_at hl 1 rfl) ?_
      refine k_cald (v := R 9 (ix v) 0) F hW 9 rfl (in1 hp hN (by decide)) (rfl) dX5_ages_105 ?_
      refine lv_bipush (v := 102) hx hb dX5_ages_106 (by decide) ?_
      refine lv_icmp_ne (tgt := 128) hx hb dX5_ages_108 (by decide) (fun h => absurd (h_1) h) (fun _ => ?_)
      refine lv_aload_n hx hb dX5_ages_111 rfl (lv_at hl 0 rfl) ?_
      refine k_get (v := .ref (β 8)) F hW inX5 rfl 2 rfl rfl 12 (by decide) FL_X5_33 rfl rfl dX5_ages_112 ?_
      refine lv_iload_n hx hb dX5_ages_115 rfl (lv_at hl 1 rfl) ?_
      refine k_fald (v := (FP.fmul (Fr (ix v)) 1065269330)) F hW 10 rfl (in1 hp hN (by decide)) (by simp [vf_upd, ix]) dX5_ages_116 ?_
      refine lv_ldcf (v := 1106247680) hx hb hown (hts _ CK_X5_125) dX5_ages_117 ?_
      refine lv_fcmp hx hb dX5_ages_119 ?_
      by_cases h_f : FP.fcmp (FP.fmul (Fr (ix v)) 1065269330) 1106247680 = some .lt
      · refine lv_if_ge (tgt := 128) hx hb dX5_ages_120 (by decide) (fun h => absurd h (cmpg_lt h_f)) (fun _ => ?_)
        refine lv_bipush (v := 120) hx hb dX5_ages_123 (by decide) ?_
        refine lv_goto (tgt := 134) hx hb dX5_ages_125 (by decide) ?_
        refine k_cast F hW 9 rfl (in1 hp hN (by decide)) (rfl) (mWd cA β c0 c1 wr th (N, up3 (up3 R 10 (ix v) 0 (R 10 (ix v) 0 - iceFor (R 7 (ix v) 0))) 9 (ix v) 0 120, vf_upd Fr (ix v) (FP.fmul (Fr (ix v)) 1065269330), inc)) (by rw [u1' (up3 R 10 (ix v) 0 (R 10 (ix v) 0 - iceFor (R 7 (ix v) 0))) 9 (ix v) v _ rfl]; rfl) dX5_ages_134 (fun H locs hW => ?_)
        have hop : ageR R Fr (ix v) = (up3 (up3 R 10 (ix v) 0 (R 10 (ix v) 0 - iceFor (R 7 (ix v) 0))) 9 (ix v) 0 120, vf_upd Fr (ix v) (FP.fmul (Fr (ix v)) 1065269330)) := by simp [ageR, h_1, h_i, h_f]
        exact k_vret () F (hW.eq (by rw [hop])) (trivial) dX5_ages_135 (Nat.le_of_ble_eq_true rfl) (Nat.le_of_ble_eq_true rfl)
      · refine lv_if_ge (tgt := 128) hx hb dX5_ages_120 (by decide) (fun _ => ?_) (fun h => absurd (cmpg_ge h_f) h)
        refine lv_aload_n hx hb dX5_ages_128 rfl (lv_at hl 0 rfl) ?_
        refine k_get (v := .ref (β 7)) F hW inX5 rfl 2 rfl rfl 11 (by decide) FL_X5_29 rfl rfl dX5_ages_129 ?_
        refine lv_iload_n hx hb dX5_ages_132 rfl (lv_at hl 1 rfl) ?_
        refine k_cald (v := R 9 (ix v) 0) F hW 9 rfl (in1 hp hN (by decide)) (rfl) dX5_ages_133 ?_
        refine k_cast F hW 9 rfl (in1 hp hN (by decide)) (stV hL.2.2.2.1) (mWd cA β c0 c1 wr th (N, up3 (up3 R 10 (ix v) 0 (R 10 (ix v) 0 - iceFor (R 7 (ix v) 0))) 9 (ix v) 0 (R 9 (ix v) 0), vf_upd Fr (ix v) (FP.fmul (Fr (ix v)) 1065269330), inc)) (by rw [u1' (up3 R 10 (ix v) 0 (R 10 (ix v) 0 - iceFor (R 7 (ix v) 0))) 9 (ix v) v _ rfl]; rfl) dX5_ages_134 (fun H locs hW => ?_)
        have hop : ageR R Fr (ix v) = (up3 (up3 R 10 (ix v) 0 (R 10 (ix v) 0 - iceFor (R 7 (ix v) 0))) 9 (ix v) 0 (R 9 (ix v) 0), vf_upd Fr (ix v) (FP.fmul (Fr (ix v)) 1065269330)) := by simp [ageR, h_1, h_i, h_f]
        exact k_vret () F (hW.eq (by rw [hop])) (trivial) dX5_ages_135 (Nat.le_of_ble_eq_true rfl) (Nat.le_of_ble_eq_true rfl)
  · refine lv_aload_n hx hb dX5_ages_11 rfl (lv_at hl 0 rfl) ?_
    refine k_get (v := .ref (β 7)) F hW inX5 rfl 2 rfl rfl 11 (by decide) FL_X5_29 rfl rfl dX5_ages_12 ?_
    refine lv_iload_n hx hb dX5_ages_15 rfl (lv_at hl 1 rfl) ?_
    refine k_cald (v := R 9 (ix v) 0) F hW 9 rfl (in1 hp hN (by decide)) (rfl) dX5_ages_16 ?_
    refine lv_bipush (v := 115) hx hb dX5_ages_17 (by decide) ?_
    refine lv_icmp_eq (tgt := 34) hx hb dX5_ages_19 (by decide) (fun h_2 => ?_) (fun h_2 => ?_)
    · refine lv_aload_n hx hb dX5_ages_34 rfl (lv_at hl 0 rfl) ?_
      refine k_get (v := .ref (β 9)) F hW inX5 rfl 2 rfl rfl 13 (by decide) FL_X5_37 rfl rfl dX5_ages_35 ?_
      refine lv_iload_n hx hb dX5_ages_38 rfl (lv_at hl 1 rfl) ?_
      refine k_iald (v := R 10 (ix v) 0) F hW 11 rfl (in1 hp hN (by decide)) (rfl) dX5_ages_39 ?_
      refine lv_aload_n hx hb dX5_ages_40 rfl (lv_at hl 0 rfl) ?_
      refine lv_iload_n hx hb dX5_ages_41 rfl (lv_at hl 1 rfl) ?_
      refine k_callVi (as := [.int v]) (rest := [.int (R 10 (ix v) 0)]) (b := (β 0)) (ci := 7) (q0 := 2) F hW (met_X5_iceFor l D cA β c0 c1 wr th N R Fr inc v hN hp) rfl ML_X5_119 IM_X5_iceFor SE_X5_iceFor IN_X5 CO_X5_iceFor hdV_X5_iceFor rfl rfl ⟨(Nat.le_of_ble_eq_true rfl), (Nat.le_of_ble_eq_true rfl)⟩ rfl rfl (rfl) rfl rfl hl.1 (Nat.le_of_ble_eq_true rfl) dX5_ages_42 ⟨(Nat.le_of_ble_eq_true rfl), (Nat.le_of_ble_eq_true rfl)⟩ (fun r_246 u H locs hw hW => ?_)
      subst hw
      refine lv_icmp_lt (tgt := 80) hx hb dX5_ages_45 (by decide) (fun h_i => ?_) (fun h_i => ?_)
      · have h_i := Int32.not_le.mpr h_i
        refine lv_aload_n hx hb dX5_ages_80 rfl (lv_at hl 0 rfl) ?_
        refine k_get (v := .ref (β 8)) F hW inX5 rfl 2 rfl rfl 12 (by decide) FL_X5_33 rfl rfl dX5_ages_81 ?_
        refine lv_iload_n hx hb dX5_ages_84 rfl (lv_at hl 1 rfl) ?_
        refine lv_aload_n hx hb dX5_ages_85 rfl (lv_at hl 0 rfl) ?_
        refine k_get (v := .ref (β 8)) F hW inX5 rfl 2 rfl rfl 12 (by decide) FL_X5_33 rfl rfl dX5_ages_86 ?_
        refine lv_iload_n hx hb dX5_ages_89 rfl (lv_at hl 1 rfl) ?_
        refine k_fald (v := Fr (ix v)) F hW 10 rfl (in1 hp hN (by decide)) (rfl) dX5_ages_90 ?_
        refine lv_ldcf (v := 1065017672) hx hb hown (hts _ CK_X5_124) dX5_ages_91 ?_
        refine lv_fmul hx hb dX5_ages_93 (fo_nn (fo_bare hL.2.2.2.2.1)) ?_
        refine k_fast F hW 10 rfl (in1 hp hN (by decide)) (mWd cA β c0 c1 wr th (N, R, vf_upd Fr (ix v) (FP.fmul (Fr (ix v)) 1065017672), inc)) (rfl) dX5_ages_94 (fun H locs hW => ?_)
        refine lv_aload_n hx hb dX5_ages_95 rfl (lv_at hl 0 rfl) ?_
        refine k_get (v := .ref (β 7)) F hW inX5 rfl 2 rfl rfl 11 (by decide) FL_X5_29 rfl rfl dX5_ages_96 ?_
        refine lv_iload_n hx hb dX5_ages_99 rfl (lv_at hl 1 rfl) ?_
        refine lv_aload_n hx hb dX5_ages_100 rfl (lv_at hl 0 rfl) ?_
        refine k_get (v := .ref (β 7)) F hW inX5 rfl 2 rfl rfl 11 (by decide) FL_X5_29 rfl rfl dX5_ages_101 ?_
        refine lv_iload_n hx hb dX5_ages_104 rfl (lv_at hl 1 rfl) ?_
        refine k_cald (v := R 9 (ix v) 0) F hW 9 rfl (in1 hp hN (by decide)) (rfl) dX5_ages_105 ?_
        refine lv_bipush (v := 102) hx hb dX5_ages_106 (by decide) ?_
        refine lv_icmp_ne (tgt := 128) hx hb dX5_ages_108 (by decide) (fun _ => ?_) (fun h => absurd h (h_1))
        refine lv_aload_n hx hb dX5_ages_128 rfl (lv_at hl 0 rfl) ?_
        refine k_get (v := .ref (β 7)) F hW inX5 rfl 2 rfl rfl 11 (by decide) FL_X5_29 rfl rfl dX5_ages_129 ?_
        refine lv_iload_n hx hb dX5_ages_132 rfl (lv_at hl 1 rfl) ?_
        refine k_cald (v := R 9 (ix v) 0) F hW 9 rfl (in1 hp hN (by decide)) (rfl) dX5_ages_133 ?_
        refine k_cast F hW 9 rfl (in1 hp hN (by decide)) (stV hL.2.2.2.1) (mWd cA β c0 c1 wr th (N, up3 R 9 (ix v) 0 (R 9 (ix v) 0), vf_upd Fr (ix v) (FP.fmul (Fr (ix v)) 1065017672), inc)) (by rw [u1' R 9 (ix v) v _ rfl]; rfl) dX5_ages_134 (fun H locs hW => ?_)
        have hop : ageR R Fr (ix v) = (up3 R 9 (ix v) 0 (R 9 (ix v) 0), vf_upd Fr (ix v) (FP.fmul (Fr (ix v)) 1065017672)) := by simp [ageR, h_1, h_2, h_i]
        exact k_vret () F (hW.eq (by rw [hop])) (trivial) dX5_ages_135 (Nat.le_of_ble_eq_true rfl) (Nat.le_of_ble_eq_true rfl)
      · have h_i := Int32.not_lt.mp h_i
        refine lv_aload_n hx hb dX5_ages_48 rfl (lv_at hl 0 rfl) ?_
        refine k_get (v := .ref (β 9)) F hW inX5 rfl 2 rfl rfl 13 (by decide) FL_X5_37 rfl rfl dX5_ages_49 ?_
        refine lv_iload_n hx hb dX5_ages_52 rfl (lv_at hl 1 rfl) ?_
        refine lv_dup2_11 hx hb dX5_ages_53 rfl rfl ?_
        refine k_iald (v := R 10 (ix v) 0) F hW 11 rfl (in1 hp hN (by decide)) (rfl) dX5_ages_54 ?_
        refine lv_aload_n hx hb dX5_ages_55 rfl (lv_at hl 0 rfl) ?_
        refine lv_iload_n hx hb dX5_ages_56 rfl (lv_at hl 1 rfl) ?_
        refine k_callVi (as := [.int v]) (rest := [.int (R 10 (ix v) 0), .int v, .ref (β 9)]) (b := (β 0)) (ci := 7) (q0 := 2) F hW (met_X5_iceFor l D cA β c0 c1 wr th N R Fr inc v hN hp) rfl ML_X5_119 IM_X5_iceFor SE_X5_iceFor IN_X5 CO_X5_iceFor hdV_X5_iceFor rfl rfl ⟨(Nat.le_of_ble_eq_true rfl), (Nat.le_of_ble_eq_true rfl)⟩ rfl rfl (rfl) rfl rfl hl.1 (Nat.le_of_ble_eq_true rfl) dX5_ages_57 ⟨(Nat.le_of_ble_eq_true rfl), (Nat.le_of_ble_eq_true rfl)⟩ (fun r_247 u H locs hw hW => ?_)
        subst hw
        refine lv_isub hx hb dX5_ages_60 ?_
        refine k_iast F hW 11 rfl (in1 hp hN (by decide)) (mWd cA β c0 c1 wr th (N, up3 R 10 (ix v) 0 (R 10 (ix v) 0 - iceFor (R 7 (ix v) 0)), Fr, inc)) (by rw [u1' R 10 (ix v) v _ rfl]; rfl) dX5_ages_61 (fun H locs hW => ?_)
        refine lv_aload_n hx hb dX5_ages_62 rfl (lv_at hl 0 rfl) ?_
        refine k_get (v := .ref (β 8)) F hW inX5 rfl 2 rfl rfl 12 (by decide) FL_X5_33 rfl rfl dX5_ages_63 ?_
        refine lv_iload_n hx hb dX5_ages_66 rfl (lv_at hl 1 rfl) ?_
        refine lv_aload_n hx hb dX5_ages_67 rfl (lv_at hl 0 rfl) ?_
        refine k_get (v := .ref (β 8)) F hW inX5 rfl 2 rfl rfl 12 (by decide) FL_X5_33 rfl rfl dX5_ages_68 ?_
        refine lv_iload_n hx hb dX5_ages_71 rfl (lv_at hl 1 rfl) ?_
        refine k_fald (v := Fr (ix v)) F hW 10 rfl (in1 hp hN (by decide)) (rfl) dX5_ages_72 ?_
        refine lv_ldcf (v := 1065269330) hx hb hown (hts _ CK_X5_123) dX5_ages_73 ?_
        refine lv_fmul hx hb dX5_ages_75 (fo_nn (fo_ice hL.2.2.2.2.1)) ?_
        refine k_fast F hW 10 rfl (in1 hp hN (by decide)) (mWd cA β c0 c1 wr th (N, up3 R 10 (ix v) 0 (R 10 (ix v) 0 - iceFor (R 7 (ix v) 0)), vf_upd Fr (ix v) (FP.fmul (Fr (ix v)) 1065269330), inc)) (rfl) dX5_ages_76 (fun H locs hW => ?_)
        refine lv_goto (tgt := 95) hx hb dX5_ages_77 (by decide) ?_
        refine lv_aload_n hx hb dX5_ages_95 rfl (lv_at hl 0 rfl) ?_
        refine k_get (v := .ref (β 7)) F hW inX5 rfl 2 rfl rfl 11 (by decide) FL_X5_29 rfl rfl dX5_ages_96 ?_
        refine lv_iload_n hx hb dX5_ages_99 rfl (lv_at hl 1 rfl) ?_
        refine lv_aload_n hx hb dX5_ages_100 rfl (lv_at hl 0 rfl) ?_
        refine k_get (v := .ref (β 7)) F hW inX5 rfl 2 rfl rfl 11 (by decide) FL_X5_29 rfl rfl dX5_ages_101 ?_
        refine lv_iload_n hx hb dX5_ages_104 rfl (lv_at hl 1 rfl) ?_
        refine k_cald (v := R 9 (ix v) 0) F hW 9 rfl (in1 hp hN (by decide)) (rfl) dX5_ages_105 ?_
        refine lv_bipush (v := 102) hx hb dX5_ages_106 (by decide) ?_
        refine lv_icmp_ne (tgt := 128) hx hb dX5_ages_108 (by decide) (fun _ => ?_) (fun h => absurd h (h_1))
        refine lv_aload_n hx hb dX5_ages_128 rfl (lv_at hl 0 rfl) ?_
        refine k_get (v := .ref (β 7)) F hW inX5 rfl 2 rfl rfl 11 (by decide) FL_X5_29 rfl rfl dX5_ages_129 ?_
        refine lv_iload_n hx hb dX5_ages_132 rfl (lv_at hl 1 rfl) ?_
        refine k_cald (v := R 9 (ix v) 0) F hW 9 rfl (in1 hp hN (by decide)) (rfl) dX5_ages_133 ?_
        refine k_cast F hW 9 rfl (in1 hp hN (by decide)) (stV hL.2.2.2.1) (mWd cA β c0 c1 wr th (N, up3 (up3 R 10 (ix v) 0 (R 10 (ix v) 0 - iceFor (R 7 (ix v) 0))) 9 (ix v) 0 (R 9 (ix v) 0), vf_upd Fr (ix v) (FP.fmul (Fr (ix v)) 1065269330), inc)) (by rw [u1' (up3 R 10 (ix v) 0 (R 10 (ix v) 0 - iceFor (R 7 (ix v) 0))) 9 (ix v) v _ rfl]; rfl) dX5_ages_134 (fun H locs hW => ?_)
        have hop : ageR R Fr (ix v) = (up3 (up3 R 10 (ix v) 0 (R 10 (ix v) 0 - iceFor (R 7 (ix v) 0))) 9 (ix v) 0 (R 9 (ix v) 0), vf_upd Fr (ix v) (FP.fmul (Fr (ix v)) 1065269330)) := by simp [ageR, h_1, h_2, h_i]
        exact k_vret () F (hW.eq (by rw [hop])) (trivial) dX5_ages_135 (Nat.le_of_ble_eq_true rfl) (Nat.le_of_ble_eq_true rfl)
    · refine lv_aload_n hx hb dX5_ages_22 rfl (lv_at hl 0 rfl) ?_
      refine k_get (v := .ref (β 7)) F hW inX5 rfl 2 rfl rfl 11 (by decide) FL_X5_29 rfl rfl dX5_ages_23 ?_
      refine lv_iload_n hx hb dX5_ages_26 rfl (lv_at hl 1 rfl) ?_
      refine k_cald (v := R 9 (ix v) 0) F hW 9 rfl (in1 hp hN (by decide)) (rfl) dX5_ages_27 ?_
      refine lv_bipush (v := 108) hx hb dX5_ages_28 (by decide) ?_
      refine lv_icmp_eq (tgt := 34) hx hb dX5_ages_30 (by decide) (fun h_3 => ?_) (fun h_3 => ?_)
      · refine lv_aload_n hx hb dX5_ages_34 rfl (lv_at hl 0 rfl) ?_
        refine k_get (v := .ref (β 9)) F hW inX5 rfl 2 rfl rfl 13 (by decide) FL_X5_37 rfl rfl dX5_ages_35 ?_
        refine lv_iload_n hx hb dX5_ages_38 rfl (lv_at hl 1 rfl) ?_
        refine k_iald (v := R 10 (ix v) 0) F hW 11 rfl (in1 hp hN (by decide)) (rfl) dX5_ages_39 ?_
        refine lv_aload_n hx hb dX5_ages_40 rfl (lv_at hl 0 rfl) ?_
        refine lv_iload_n hx hb dX5_ages_41 rfl (lv_at hl 1 rfl) ?_
        refine k_callVi (as := [.int v]) (rest := [.int (R 10 (ix v) 0)]) (b := (β 0)) (ci := 7) (q0 := 2) F hW (met_X5_iceFor l D cA β c0 c1 wr th N R Fr inc v hN hp) rfl ML_X5_119 IM_X5_iceFor SE_X5_iceFor IN_X5 CO_X5_iceFor hdV_X5_iceFor rfl rfl ⟨(Nat.le_of_ble_eq_true rfl), (Nat.le_of_ble_eq_true rfl)⟩ rfl rfl (rfl) rfl rfl hl.1 (Nat.le_of_ble_eq_true rfl) dX5_ages_42 ⟨(Nat.le_of_ble_eq_true rfl), (Nat.le_of_ble_eq_true rfl)⟩ (fun r_248 u H locs hw hW => ?_)
        subst hw
        refine lv_icmp_lt (tgt := 80) hx hb dX5_ages_45 (by decide) (fun h_i => ?_) (fun h_i => ?_)
        · have h_i := Int32.not_le.mpr h_i
          refine lv_aload_n hx hb dX5_ages_80 rfl (lv_at hl 0 rfl) ?_
          refine k_get (v := .ref (β 8)) F hW inX5 rfl 2 rfl rfl 12 (by decide) FL_X5_33 rfl rfl dX5_ages_81 ?_
          refine lv_iload_n hx hb dX5_ages_84 rfl (lv_at hl 1 rfl) ?_
          refine lv_aload_n hx hb dX5_ages_85 rfl (lv_at hl 0 rfl) ?_
          refine k_get (v := .ref (β 8)) F hW inX5 rfl 2 rfl rfl 12 (by decide) FL_X5_33 rfl rfl dX5_ages_86 ?_
          refine lv_iload_n hx hb dX5_ages_89 rfl (lv_at hl 1 rfl) ?_
          refine k_fald (v := Fr (ix v)) F hW 10 rfl (in1 hp hN (by decide)) (rfl) dX5_ages_90 ?_
          refine lv_ldcf (v := 1065017672) hx hb hown (hts _ CK_X5_124) dX5_ages_91 ?_
          refine lv_fmul hx hb dX5_ages_93 (fo_nn (fo_bare hL.2.2.2.2.1)) ?_
          refine k_fast F hW 10 rfl (in1 hp hN (by decide)) (mWd cA β c0 c1 wr th (N, R, vf_upd Fr (ix v) (FP.fmul (Fr (ix v)) 1065017672), inc)) (rfl) dX5_ages_94 (fun H locs hW => ?_)
          refine lv_aload_n hx hb dX5_ages_95 rfl (lv_at hl 0 rfl) ?_
          refine k_get (v := .ref (β 7)) F hW inX5 rfl 2 rfl rfl 11 (by decide) FL_X5_29 rfl rfl dX5_ages_96 ?_
          refine lv_iload_n hx hb dX5_ages_99 rfl (lv_at hl 1 rfl) ?_
          refine lv_aload_n hx hb dX5_ages_100 rfl (lv_at hl 0 rfl) ?_
          refine k_get (v := .ref (β 7)) F hW inX5 rfl 2 rfl rfl 11 (by decide) FL_X5_29 rfl rfl dX5_ages_101 ?_
          refine lv_iload_n hx hb dX5_ages_104 rfl (lv_at hl 1 rfl) ?_
          refine k_cald (v := R 9 (ix v) 0) F hW 9 rfl (in1 hp hN (by decide)) (rfl) dX5_ages_105 ?_
          refine lv_bipush (v := 102) hx hb dX5_ages_106 (by decide) ?_
          refine lv_icmp_ne (tgt := 128) hx hb dX5_ages_108 (by decide) (fun _ => ?_) (fun h => absurd h (h_1))
          refine lv_aload_n hx hb dX5_ages_128 rfl (lv_at hl 0 rfl) ?_
          refine k_get (v := .ref (β 7)) F hW inX5 rfl 2 rfl rfl 11 (by decide) FL_X5_29 rfl rfl dX5_ages_129 ?_
          refine lv_iload_n hx hb dX5_ages_132 rfl (lv_at hl 1 rfl) ?_
          refine k_cald (v := R 9 (ix v) 0) F hW 9 rfl (in1 hp hN (by decide)) (rfl) dX5_ages_133 ?_
          refine k_cast F hW 9 rfl (in1 hp hN (by decide)) (stV hL.2.2.2.1) (mWd cA β c0 c1 wr th (N, up3 R 9 (ix v) 0 (R 9 (ix v) 0), vf_upd Fr (ix v) (FP.fmul (Fr (ix v)) 1065017672), inc)) (by rw [u1' R 9 (ix v) v _ rfl]; rfl) dX5_ages_134 (fun H locs hW => ?_)
          have hop : ageR R Fr (ix v) = (up3 R 9 (ix v) 0 (R 9 (ix v) 0), vf_upd Fr (ix v) (FP.fmul (Fr (ix v)) 1065017672)) := by simp [ageR, h_1, h_2, h_3, h_i]
          exact k_vret () F (hW.eq (by rw [hop])) (trivial) dX5_ages_135 (Nat.le_of_ble_eq_true rfl) (Nat.le_of_ble_eq_true rfl)
        · have h_i := Int32.not_lt.mp h_i
          refine lv_aload_n hx hb dX5_ages_48 rfl (lv_at hl 0 rfl) ?_
          refine k_get (v := .ref (β 9)) F hW inX5 rfl 2 rfl rfl 13 (by decide) FL_X5_37 rfl rfl dX5_ages_49 ?_
          refine lv_iload_n hx hb dX5_ages_52 rfl (lv_at hl 1 rfl) ?_
          refine lv_dup2_11 hx hb dX5_ages_53 rfl rfl ?_
          refine k_iald (v := R 10 (ix v) 0) F hW 11 rfl (in1 hp hN (by decide)) (rfl) dX5_ages_54 ?_
          refine lv_aload_n hx hb dX5_ages_55 rfl (lv_at hl 0 rfl) ?_
          refine lv_iload_n hx hb dX5_ages_56 rfl (lv_at hl 1 rfl) ?_
          refine k_callVi (as := [.int v]) (rest := [.int (R 10 (ix v) 0), .int v, .ref (β 9)]) (b := (β 0)) (ci := 7) (q0 := 2) F hW (met_X5_iceFor l D cA β c0 c1 wr th N R Fr inc v hN hp) rfl ML_X5_119 IM_X5_iceFor SE_X5_iceFor IN_X5 CO_X5_iceFor hdV_X5_iceFor rfl rfl ⟨(Nat.le_of_ble_eq_true rfl), (Nat.le_of_ble_eq_true rfl)⟩ rfl rfl (rfl) rfl rfl hl.1 (Nat.le_of_ble_eq_true rfl) dX5_ages_57 ⟨(Nat.le_of_ble_eq_true rfl), (Nat.le_of_ble_eq_true rfl)⟩ (fun r_249 u H locs hw hW => ?_)
          subst hw
          refine lv_isub hx hb dX5_ages_60 ?_
          refine k_iast F hW 11 rfl (in1 hp hN (by decide)) (mWd cA β c0 c1 wr th (N, up3 R 10 (ix v) 0 (R 10 (ix v) 0 - iceFor (R 7 (ix v) 0)), Fr, inc)) (by rw [u1' R 10 (ix v) v _ rfl]; rfl) dX5_ages_61 (fun H locs hW => ?_)
          refine lv_aload_n hx hb dX5_ages_62 rfl (lv_at hl 0 rfl) ?_
          refine k_get (v := .ref (β 8)) F hW inX5 rfl 2 rfl rfl 12 (by decide) FL_X5_33 rfl rfl dX5_ages_63 ?_
          refine lv_iload_n hx hb dX5_ages_66 rfl (lv_at hl 1 rfl) ?_
          refine lv_aload_n hx hb dX5_ages_67 rfl (lv_at hl 0 rfl) ?_
          refine k_get (v := .ref (β 8)) F hW inX5 rfl 2 rfl rfl 12 (by decide) FL_X5_33 rfl rfl dX5_ages_68 ?_
          refine lv_iload_n hx hb dX5_ages_71 rfl (lv_at hl 1 rfl) ?_
          refine k_fald (v := Fr (ix v)) F hW 10 rfl (in1 hp hN (by decide)) (rfl) dX5_ages_72 ?_
          refine lv_ldcf (v := 1065269330) hx hb hown (hts _ CK_X5_123) dX5_ages_73 ?_
          refine lv_fmul hx hb dX5_ages_75 (fo_nn (fo_ice hL.2.2.2.2.1)) ?_
          refine k_fast F hW 10 rfl (in1 hp hN (by decide)) (mWd cA β c0 c1 wr th (N, up3 R 10 (ix v) 0 (R 10 (ix v) 0 - iceFor (R 7 (ix v) 0)), vf_upd Fr (ix v) (FP.fmul (Fr (ix v)) 1065269330), inc)) (rfl) dX5_ages_76 (fun H locs hW => ?_)
          refine lv_goto (tgt := 95) hx hb dX5_ages_77 (by decide) ?_
          refine lv_aload_n hx hb dX5_ages_95 rfl (lv_at hl 0 rfl) ?_
          refine k_get (v := .ref (β 7)) F hW inX5 rfl 2 rfl rfl 11 (by decide) FL_X5_29 rfl rfl dX5_ages_96 ?_
          refine lv_iload_n hx hb dX5_ages_99 rfl (lv_at hl 1 rfl) ?_
          refine lv_aload_n hx hb dX5_ages_100 rfl (lv_at hl 0 rfl) ?_
          refine k_get (v := .ref (β 7)) F hW inX5 rfl 2 rfl rfl 11 (by decide) FL_X5_29 rfl rfl dX5_ages_101 ?_
          refine lv_iload_n hx hb dX5_ages_104 rfl (lv_at hl 1 rfl) ?_
          refine k_cald (v := R 9 (ix v) 0) F hW 9 rfl (in1 hp hN (by decide)) (rfl) dX5_ages_105 ?_
          refine lv_bipush (v := 102) hx hb dX5_ages_106 (by decide) ?_
          refine lv_icmp_ne (tgt := 128) hx hb dX5_ages_108 (by decide) (fun _ => ?_) (fun h => absurd h (h_1))
          refine lv_aload_n hx hb dX5_ages_128 rfl (lv_at hl 0 rfl) ?_
          refine k_get (v := .ref (β 7)) F hW inX5 rfl 2 rfl rfl 11 (by decide) FL_X5_29 rfl rfl dX5_ages_129 ?_
          refine lv_iload_n hx hb dX5_ages_132 rfl (lv_at hl 1 rfl) ?_
          refine k_cald (v := R 9 (ix v) 0) F hW 9 rfl (in1 hp hN (by decide)) (rfl) dX5_ages_133 ?_
          refine k_cast F hW 9 rfl (in1 hp hN (by decide)) (stV hL.2.2.2.1) (mWd cA β c0 c1 wr th (N, up3 (up3 R 10 (ix v) 0 (R 10 (ix v) 0 - iceFor (R 7 (ix v) 0))) 9 (ix v) 0 (R 9 (ix v) 0), vf_upd Fr (ix v) (FP.fmul (Fr (ix v)) 1065269330), inc)) (by rw [u1' (up3 R 10 (ix v) 0 (R 10 (ix v) 0 - iceFor (R 7 (ix v) 0))) 9 (ix v) v _ rfl]; rfl) dX5_ages_134 (fun H locs hW => ?_)
          have hop : ageR R Fr (ix v) = (up3 (up3 R 10 (ix v) 0 (R 10 (ix v) 0 - iceFor (R 7 (ix v) 0))) 9 (ix v) 0 (R 9 (ix v) 0), vf_upd Fr (ix v) (FP.fmul (Fr (ix v)) 1065269330)) := by simp [ageR, h_1, h_2, h_3, h_i]
          exact k_vret () F (hW.eq (by rw [hop])) (trivial) dX5_ages_135 (Nat.le_of_ble_eq_true rfl) (Nat.le_of_ble_eq_true rfl)
      · have hop : ageR R Fr (ix v) = (R, Fr) := by simp [ageR, h_1, h_2, h_3]
        exact k_vret () F (hW.eq (by rw [hop])) (trivial) dX5_ages_33 (Nat.le_of_ble_eq_true rfl) (Nat.le_of_ble_eq_true rfl)

set_option maxHeartbeats 4000000 in
set_option maxRecDepth 100000 in
theorem met_X5_delivers (l : Launch) (D : va_G) (cA : Nat → ClassId) (β : Nat → Nat) (c0 c1 : Nat × va_E) (wr : va_W) (th : Int32) (N : Nat → Nat → Nat) (R : Nat → Nat → Nat → Int32) (Fr : Nat → UInt32) (inc : Int64) (v : Int32) (hN : N 0 1 ≤ 20) (hN2 : N 0 2 ≤ 5) (hfo : fo (Fr (ix v))) (hpd : paidOK (R 12 (ix v) 0)) (hp : isIx (N 0 1) v = true) (hu : isIx (N 0 2) (R 11 (ix v) 0) = true) : MetV l yX5_delivers (.code yX5_delivers cX5_delivers 4 none :: LW) ({ frames := 0, cells := 0, slots := 0, locals := 0 }) D cA (mWd cA β c0 c1 wr th (N, R, Fr, inc)) [.ref (β 0), .int v] (fun (_ : Unit) => True) (fun _ => mWd cA β c0 c1 wr th (N, (delR Fr (ix v) (R, inc)).1, Fr, (delR Fr (ix v) (R, inc)).2)) 0 0 := by
  refine k_bodyV (plainFor_of_name (by decide)) (Nat.le_of_ble_eq_true rfl) (fun p e s m args below meth c ls F hW hl => ?_)
  obtain ⟨hx, hb, hr, hml, hown, hts, hlocks, hname⟩ := id F
  have hl : lv_has ls 4 [(0, .ref (β 0)), (1, .int v)] := hl
  refine lv_aload_n hx hb dX5_delivers_0 rfl (lv_at hl 0 rfl) ?_
  refine k_get (v := .ref (β 7)) F hW inX5 rfl 2 rfl rfl 11 (by decide) FL_X5_29 rfl rfl dX5_delivers_1 ?_
  refine lv_iload_n hx hb dX5_delivers_4 rfl (lv_at hl 1 rfl) ?_
  refine lv_bipush (v := 100) hx hb dX5_delivers_5 (by decide) ?_
  refine k_cast F hW 9 rfl (in1 hp hN (by decide)) (rfl) (mWd cA β c0 c1 wr th (N, up3 R 9 (ix v) 0 100, Fr, inc)) (by rw [u1' R 9 (ix v) v _ rfl]; rfl) dX5_delivers_7 (fun H locs hW => ?_)
  refine lv_aload_n hx hb dX5_delivers_8 rfl (lv_at hl 0 rfl) ?_
  refine k_get (v := .ref (β 8)) F hW inX5 rfl 2 rfl rfl 12 (by decide) FL_X5_33 rfl rfl dX5_delivers_9 ?_
  refine lv_iload_n hx hb dX5_delivers_12 rfl (lv_at hl 1 rfl) ?_
  refine k_fald (v := Fr (ix v)) F hW 10 rfl (in1 hp hN (by decide)) (rfl) dX5_delivers_13 ?_
  refine lv_ldcf (v := 1116471296) hx hb hown (hts _ CK_X5_126) dX5_delivers_14 ?_
  refine lv_fcmp hx hb dX5_delivers_16 ?_
  by_cases h_f : FP.fcmp (Fr (ix v)) 1116471296 = some .lt
  · refine lv_if_ge (tgt := 80) hx hb dX5_delivers_17 (by decide) (fun h => absurd h (cmpg_lt h_f)) (fun _ => ?_)
    obtain ⟨P, hP, ePd⟩ := id hpd
    obtain ⟨k1, k2, k3, -⟩ := back_ok hP hfo h_f
    rw [← ePd] at k2 k3
    refine lv_ldcf (v := 1116471296) hx hb hown (hts _ CK_X5_126) dX5_delivers_20 ?_
    refine lv_aload_n hx hb dX5_delivers_22 rfl (lv_at hl 0 rfl) ?_
    refine k_get (v := .ref (β 8)) F hW inX5 rfl 2 rfl rfl 12 (by decide) FL_X5_33 rfl rfl dX5_delivers_23 ?_
    refine lv_iload_n hx hb dX5_delivers_26 rfl (lv_at hl 1 rfl) ?_
    refine k_fald (v := Fr (ix v)) F hW 10 rfl (in1 hp hN (by decide)) (rfl) dX5_delivers_27 ?_
    refine lv_fsub hx hb dX5_delivers_28 (k1) ?_
    refine lv_fstore_n (lv' := [(2, .float (FP.fsub 1116471296 (Fr (ix v)))), (0, .ref (β 0)), (1, .int v)]) hx hb dX5_delivers_29 rfl hl (by decide) rfl (fun ls hl => ?_)
    refine lv_aload_n hx hb dX5_delivers_30 rfl (lv_at hl 1 rfl) ?_
    refine k_get (v := .ref (β 11)) F hW inX5 rfl 2 rfl rfl 15 (by decide) FL_X5_43 rfl rfl dX5_delivers_31 ?_
    refine lv_iload_n hx hb dX5_delivers_34 rfl (lv_at hl 2 rfl) ?_
    refine k_iald (v := R 12 (ix v) 0) F hW 13 rfl (in1 hp hN (by decide)) (rfl) dX5_delivers_35 ?_
    refine lv_i2f hx hb dX5_delivers_36 ?_
    refine lv_fload_n hx hb dX5_delivers_37 rfl (lv_at hl 0 rfl) ?_
    refine lv_fmul hx hb dX5_delivers_38 (k2) ?_
    refine lv_ldcf (v := 1120403456) hx hb hown (hts _ CK_X5_106) dX5_delivers_39 ?_
    refine lv_fdiv hx hb dX5_delivers_41 (k3) ?_
    refine lv_f2i hx hb dX5_delivers_42 ?_
    refine lv_topi (fun x_250 ex_250 => ?_)
    obtain rfl : x_250 = backV (R 12 (ix v) 0) (Fr (ix v)) := ex_250.trans (rfl)
    refine lv_istore_n (lv' := [(3, .int (backV (R 12 (ix v) 0) (Fr (ix v)))), (2, .float (FP.fsub 1116471296 (Fr (ix v)))), (0, .ref (β 0)), (1, .int v)]) hx hb dX5_delivers_43 rfl hl (by decide) rfl (fun ls hl => ?_)
    refine lv_aload_n hx hb dX5_delivers_44 rfl (lv_at hl 2 rfl) ?_
    refine k_get (v := .ref (β 11)) F hW inX5 rfl 2 rfl rfl 15 (by decide) FL_X5_43 rfl rfl dX5_delivers_45 ?_
    refine lv_iload_n hx hb dX5_delivers_48 rfl (lv_at hl 3 rfl) ?_
    refine lv_dup2_11 hx hb dX5_delivers_49 rfl rfl ?_
    refine k_iald (v := R 12 (ix v) 0) F hW 13 rfl (in1 hp hN (by decide)) (rfl) dX5_delivers_50 ?_
    refine lv_iload_n hx hb dX5_delivers_51 rfl (lv_at hl 0 rfl) ?_
    refine lv_isub hx hb dX5_delivers_52 ?_
    refine k_iast F hW 13 rfl (in1 hp hN (by decide)) (mWd cA β c0 c1 wr th (N, up3 (up3 R 9 (ix v) 0 100) 12 (ix v) 0 (R 12 (ix v) 0 - backV (R 12 (ix v) 0) (Fr (ix v))), Fr, inc)) (by rw [u1' (up3 R 9 (ix v) 0 100) 12 (ix v) v _ rfl]; rfl) dX5_delivers_53 (fun H locs hW => ?_)
    refine lv_aload_n hx hb dX5_delivers_54 rfl (lv_at hl 2 rfl) ?_
    refine lv_dup hx hb dX5_delivers_55 rfl ?_
    refine k_get (v := .long inc) F hW inX5 rfl 2 rfl rfl 29 (by decide) FL_X5_127 rfl rfl dX5_delivers_56 ?_
    refine lv_iload_n hx hb dX5_delivers_59 rfl (lv_at hl 0 rfl) ?_
    refine lv_i2l hx hb dX5_delivers_60 rfl ?_
    refine lv_lsub hx hb dX5_delivers_61 ?_
    refine k_put F hW inX5 tyX5_ok nmX5 rfl 2 rfl rfl 29 (by decide) FL_X5_127 rfl rfl rfl rfl rfl (Nat.le_of_ble_eq_true rfl) (mWd cA β c0 c1 wr th (N, up3 (up3 R 9 (ix v) 0 100) 12 (ix v) 0 (R 12 (ix v) 0 - backV (R 12 (ix v) 0) (Fr (ix v))), Fr, inc - (backV (R 12 (ix v) 0) (Fr (ix v))).toInt64)) rfl dX5_delivers_62 (fun H locs hW => ?_)
    refine lv_aload_n hx hb dX5_delivers_65 rfl (lv_at hl 2 rfl) ?_
    refine k_get (v := .ref (β 12)) F hW inX5 rfl 2 rfl rfl 18 (by decide) FL_X5_46 rfl rfl dX5_delivers_66 ?_
    refine lv_aload_n hx hb dX5_delivers_69 rfl (lv_at hl 2 rfl) ?_
    refine k_get (v := .ref (β 10)) F hW inX5 rfl 2 rfl rfl 14 (by decide) FL_X5_40 rfl rfl dX5_delivers_70 ?_
    refine lv_iload_n hx hb dX5_delivers_73 rfl (lv_at hl 3 rfl) ?_
    refine k_iald (v := R 11 (ix v) 0) F hW 12 rfl (in1 hp hN (by decide)) (rfl) dX5_delivers_74 ?_
    refine lv_dup2_11 hx hb dX5_delivers_75 rfl rfl ?_
    refine k_iald (v := R 13 (ix (R 11 (ix v) 0)) 0) F hW 14 rfl (in1 hu hN2 (by decide)) (rfl) dX5_delivers_76 ?_
    refine lv_iload_n hx hb dX5_delivers_77 rfl (lv_at hl 0 rfl) ?_
    refine lv_iadd hx hb dX5_delivers_78 ?_
    refine k_iast F hW 14 rfl (in1 hu hN2 (by decide)) (mWd cA β c0 c1 wr th (N, up3 (up3 (up3 R 9 (ix v) 0 100) 12 (ix v) 0 (R 12 (ix v) 0 - backV (R 12 (ix v) 0) (Fr (ix v)))) 13 (ix (R 11 (ix v) 0)) 0 (R 13 (ix (R 11 (ix v) 0)) 0 + backV (R 12 (ix v) 0) (Fr (ix v))), Fr, inc - (backV (R 12 (ix v) 0) (Fr (ix v))).toInt64)) (by rw [u1' (up3 (up3 R 9 (ix v) 0 100) 12 (ix v) 0 (R 12 (ix v) 0 - backV (R 12 (ix v) 0) (Fr (ix v)))) 13 (ix (R 11 (ix v) 0)) (R 11 (ix v) 0) _ rfl]; rfl) dX5_delivers_79 (fun H locs hW => ?_)
    have hop : delR Fr (ix v) (R, inc) = (up3 (up3 (up3 R 9 (ix v) 0 100) 12 (ix v) 0 (R 12 (ix v) 0 - backV (R 12 (ix v) 0) (Fr (ix v)))) 13 (ix (R 11 (ix v) 0)) 0 (R 13 (ix (R 11 (ix v) 0)) 0 + backV (R 12 (ix v) 0) (Fr (ix v))), inc - (backV (R 12 (ix v) 0) (Fr (ix v))).toInt64) := by simp [delR, h_f]
    exact k_vret () F (hW.eq (by rw [hop])) (trivial) dX5_delivers_80 (Nat.le_of_ble_eq_true rfl) (Nat.le_of_ble_eq_true rfl)
  · refine lv_if_ge (tgt := 80) hx hb dX5_delivers_17 (by decide) (fun _ => ?_) (fun h => absurd (cmpg_ge h_f) h)
    have hop : delR Fr (ix v) (R, inc) = (up3 R 9 (ix v) 0 100, inc) := by simp [delR, h_f]
    exact k_vret () F (hW.eq (by rw [hop])) (trivial) dX5_delivers_80 (Nat.le_of_ble_eq_true rfl) (Nat.le_of_ble_eq_true rfl)
