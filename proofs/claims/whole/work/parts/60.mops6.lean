set_option maxHeartbeats 4000000 in
set_option maxRecDepth 100000 in
theorem met_X5_falls (l : Launch) (D : va_G) (cA : Nat → ClassId) (β : Nat → Nat) (c0 c1 : Nat × va_E) (wr : va_W) (th : Int32) (N : Nat → Nat → Nat) (R : Nat → Nat → Nat → Int32) (Fr : Nat → UInt32) (inc : Int64) (j : Int32) (hN : N 0 1 ≤ 20) (hL : ∀ j, j < N 0 1 → lotOK R Fr j) (hN2 : N 0 2 ≤ 5) (hck : ckOK R) (hj : isIx (N 0 1) j = true) : MetI l yX5_falls (.code yX5_falls cX5_falls 3 (some .int) :: LW) ({ frames := 2, cells := 0, slots := 0, locals := 50 }) D cA (mWd cA β c0 c1 wr th (N, R, Fr, inc)) [.ref (β 0), .int j] (fun r (_ : Unit) => r = falls N R Fr (ix j)) (fun _ => mWd cA β c0 c1 wr th (N, R, Fr, inc)) 0 0 := by
  refine k_bodyI (plainFor_of_name (by decide)) (Nat.le_of_ble_eq_true rfl) (fun p e s m args below meth c ls F hW hl => ?_)
  obtain ⟨hx, hb, hr, hml, hown, hts, hlocks, hname⟩ := id F
  have hl : lv_has ls 3 [(0, .ref (β 0)), (1, .int j)] := hl
  refine lv_aload_n hx hb dX5_falls_0 rfl (lv_at hl 0 rfl) ?_
  refine k_get (v := .int (R 0 1 0)) F hW inX5 rfl 2 rfl rfl 20 (by decide) FL_X5_52 rfl rfl dX5_falls_1 ?_
  refine lv_istore_n (lv' := [(2, .int (R 0 1 0)), (0, .ref (β 0)), (1, .int j)]) hx hb dX5_falls_4 rfl hl (by decide) rfl (fun ls hl => ?_)
  refine k_ind (P := fun k H locs ls => ∃ q : Int32, q.toInt < (k : Int) ∧ q.toInt ≤ 9999 ∧ falls N R Fr (ix j) = fallsN N R Fr (ix j) k q ∧ Cw D cA s (va_A (mWd cA β c0 c1 wr th (N, R, Fr, inc)) s.heap.size) (mWd cA β c0 c1 wr th (N, R, Fr, inc)) H locs ∧ lv_has ls 3 [(0, .ref (β 0)), (1, .int j), (2, .int q)]) (fun k ih H locs ls hP => ?_) 10001 ⟨R 0 1 0, by have := ck_start hck; omega, by have := ck_start hck; omega, rfl, hW, lv_sub hl [1, 2, 0] rfl⟩
  obtain ⟨q, hq1, hq2, hq3, hW, hl⟩ := hP
  refine lv_iload_n hx hb dX5_falls_5 rfl (lv_at hl 2 rfl) ?_
  refine lv_aload_n hx hb dX5_falls_6 rfl (lv_at hl 0 rfl) ?_
  refine k_get (v := .int (R 0 3 0)) F hW inX5 rfl 2 rfl rfl 22 (by decide) FL_X5_145 rfl rfl dX5_falls_7 ?_
  refine lv_icmp_lt (tgt := 39) hx hb dX5_falls_10 (by decide) (fun h_r => ?_) (fun h_r => ?_)
  · refine lv_iconst (v := (-1)) hx hb dX5_falls_39 (by decide) ?_
    exact k_iret () F (hW) ((hq3.trans (fallsN_stop fun h => absurd h.1 (Int32.not_le.mpr h_r))).symm) dX5_falls_40 (Nat.le_of_ble_eq_true rfl) (Nat.le_of_ble_eq_true rfl)
  · have h_r : R 0 3 0 ≤ q := Int32.not_lt.mp h_r
    refine lv_iload_n hx hb dX5_falls_13 rfl (lv_at hl 2 rfl) ?_
    refine lv_if_lt (tgt := 39) hx hb dX5_falls_14 (by decide) (fun h_z => ?_) (fun h_z => ?_)
    · refine lv_iconst (v := (-1)) hx hb dX5_falls_39 (by decide) ?_
      exact k_iret () F (hW) ((hq3.trans (fallsN_stop fun h => absurd h.2 (Int32.not_le.mpr h_z))).symm) dX5_falls_40 (Nat.le_of_ble_eq_true rfl) (Nat.le_of_ble_eq_true rfl)
    · have h_z : 0 ≤ q := Int32.not_lt.mp h_z
      have hz0 := nn_toInt.mp h_z
      refine lv_aload_n hx hb dX5_falls_17 rfl (lv_at hl 0 rfl) ?_
      refine lv_iload_n hx hb dX5_falls_18 rfl (lv_at hl 1 rfl) ?_
      refine lv_iload_n hx hb dX5_falls_19 rfl (lv_at hl 2 rfl) ?_
      refine k_callVi (as := [.int j, .int q]) (rest := []) (b := (β 0)) (ci := 7) (q0 := 2) F hW (met_X5_takes l D cA β c0 c1 wr th N R Fr inc j q hN hL hN2 hj) rfl ML_X5_154 IM_X5_takes SE_X5_takes IN_X5 CO_X5_takes hdV_X5_takes rfl rfl ⟨(Nat.le_of_ble_eq_true rfl), (Nat.le_of_ble_eq_true rfl)⟩ rfl rfl (rfl) rfl rfl hl.1 (Nat.le_of_ble_eq_true rfl) dX5_falls_20 ⟨(Nat.le_of_ble_eq_true rfl), (Nat.le_of_ble_eq_true rfl)⟩ (fun r_201 u H locs hw hW => ?_)
      subst hw
      refine lv_iconst (v := (-1)) hx hb dX5_falls_23 (by decide) ?_
      by_cases hbq : best R Fr (ix j) q (N 0 2) = 0
      · refine lv_icmp_eq (tgt := 29) hx hb dX5_falls_24 (by decide) (fun _ => ?_) (fun h => absurd (by unfold takes; rw [hbq]; rfl) h)
        refine lv_iload_n hx hb dX5_falls_29 rfl (lv_at hl 2 rfl) ?_
        refine lv_aload_n hx hb dX5_falls_30 rfl (lv_at hl 0 rfl) ?_
        refine k_get (v := .int (R 0 2 0)) F hW inX5 rfl 2 rfl rfl 21 (by decide) FL_X5_56 rfl rfl dX5_falls_31 ?_
        refine lv_isub hx hb dX5_falls_34 ?_
        refine lv_istore_n (lv' := [(2, .int (q - (R 0 2 0))), (0, .ref (β 0)), (1, .int j)]) hx hb dX5_falls_35 rfl hl (by decide) rfl (fun ls hl => ?_)
        refine lv_goto (tgt := 5) hx hb dX5_falls_36 (by decide) ?_
        have hnp := next_price hck h_z hq1 hq2
        exact ih (k - 1) (by omega) ⟨q - R 0 2 0, hnp.1, hnp.2, hq3.trans (fallsN_step ⟨h_r, h_z⟩ (by omega) hbq), hW, lv_sub hl [1, 2, 0] rfl⟩
      · refine lv_icmp_eq (tgt := 29) hx hb dX5_falls_24 (by decide) (fun h => absurd h (by rw [takes_eq hbq]; exact nI_neg1 (by have := best_le R Fr (ix j) q (N 0 2); omega))) (fun _ => ?_)
        refine lv_iload_n hx hb dX5_falls_27 rfl (lv_at hl 2 rfl) ?_
        exact k_iret () F (hW) ((hq3.trans (fallsN_sale ⟨h_r, h_z⟩ (by omega) hbq)).symm) dX5_falls_28 (Nat.le_of_ble_eq_true rfl) (Nat.le_of_ble_eq_true rfl)

set_option maxHeartbeats 4000000 in
set_option maxRecDepth 100000 in
theorem met_X5_saleFault (l : Launch) (D : va_G) (cA : Nat → ClassId) (β : Nat → Nat) (c0 c1 : Nat × va_E) (wr : va_W) (th : Int32) (N : Nat → Nat → Nat) (R : Nat → Nat → Nat → Int32) (Fr : Nat → UInt32) (inc : Int64) (p0 : Int32) (hN : N 0 1 ≤ 20) (hL : ∀ j, j < N 0 1 → lotOK R Fr j) (hN2 : N 0 2 ≤ 5) (hck : ckOK R) : MetI l yX5_saleFault (.code yX5_saleFault cX5_saleFault 3 (some .int) :: LW) ({ frames := 3, cells := 0, slots := 0, locals := 72 }) D cA (mWd cA β c0 c1 wr th (N, R, Fr, inc)) [.ref (β 0), .int p0] (fun r (_ : Unit) => r = nI (faultOf N R Fr p0)) (fun _ => mWd cA β c0 c1 wr th (N, R, Fr, inc)) 0 0 := by
  refine k_bodyI (plainFor_of_name (by decide)) (Nat.le_of_ble_eq_true rfl) (fun p e s m args below meth c ls F hW hl => ?_)
  obtain ⟨hx, hb, hr, hml, hown, hts, hlocks, hname⟩ := id F
  have hl : lv_has ls 3 [(0, .ref (β 0)), (1, .int p0)] := hl
  refine lv_aload_n hx hb dX5_saleFault_0 rfl (lv_at hl 0 rfl) ?_
  refine lv_iload_n hx hb dX5_saleFault_1 rfl (lv_at hl 1 rfl) ?_
  refine k_callVi (as := [.int p0]) (rest := []) (b := (β 0)) (ci := 7) (q0 := 2) F hW (met_X5_isLot l D cA β c0 c1 wr th N R Fr inc p0) rfl ML_X5_110 IM_X5_isLot SE_X5_isLot IN_X5 CO_X5_isLot hdV_X5_isLot rfl rfl ⟨(Nat.le_of_ble_eq_true rfl), (Nat.le_of_ble_eq_true rfl)⟩ rfl rfl (rfl) rfl rfl hl.1 (Nat.le_of_ble_eq_true rfl) dX5_saleFault_2 ⟨(Nat.le_of_ble_eq_true rfl), (Nat.le_of_ble_eq_true rfl)⟩ (fun r_202 u H locs hw hW => ?_)
  subst hw
  cases hq_203 : isIx (N 0 1) p0
  · refine lv_if_ne (tgt := 12) hx hb dX5_saleFault_5 (by decide) (fun h => absurd (by decide) h) (fun _ => ?_)
    refine lv_iconst (v := 1) hx hb dX5_saleFault_8 (by decide) ?_
    refine lv_goto (tgt := 28) hx hb dX5_saleFault_9 (by decide) ?_
    refine lv_istore_n (lv' := [(2, .int 1), (0, .ref (β 0)), (1, .int p0)]) hx hb dX5_saleFault_28 rfl hl (by decide) rfl (fun ls hl => ?_)
    refine lv_iload_n hx hb dX5_saleFault_29 rfl (lv_at hl 0 rfl) ?_
    refine lv_if_ne (tgt := 46) hx hb dX5_saleFault_30 (by decide) (fun _ => ?_) (fun h => absurd h (by decide))
    refine lv_iload_n hx hb dX5_saleFault_46 rfl (lv_at hl 0 rfl) ?_
    exact k_iret () F (hW) (by rw [show faultOf N R Fr p0 = 1 from by simp [faultOf, hq_203]]; rfl) dX5_saleFault_47 (Nat.le_of_ble_eq_true rfl) (Nat.le_of_ble_eq_true rfl)
  · refine lv_if_ne (tgt := 12) hx hb dX5_saleFault_5 (by decide) (fun _ => ?_) (fun h => absurd h (by decide))
    refine lv_aload_n hx hb dX5_saleFault_12 rfl (lv_at hl 0 rfl) ?_
    refine k_get (v := .ref (β 7)) F hW inX5 rfl 2 rfl rfl 11 (by decide) FL_X5_29 rfl rfl dX5_saleFault_13 ?_
    refine lv_iload_n hx hb dX5_saleFault_16 rfl (lv_at hl 1 rfl) ?_
    refine k_cald (v := R 9 (ix p0) 0) F hW 9 rfl (in1 hq_203 hN (by decide)) (rfl) dX5_saleFault_17 ?_
    refine lv_bipush (v := 102) hx hb dX5_saleFault_18 (by decide) ?_
    refine lv_icmp_eq (tgt := 27) hx hb dX5_saleFault_20 (by decide) (fun h_s => ?_) (fun h_s => ?_)
    · refine lv_iconst (v := 0) hx hb dX5_saleFault_27 (by decide) ?_
      refine lv_istore_n (lv' := [(2, .int 0), (0, .ref (β 0)), (1, .int p0)]) hx hb dX5_saleFault_28 rfl hl (by decide) rfl (fun ls hl => ?_)
      refine lv_iload_n hx hb dX5_saleFault_29 rfl (lv_at hl 0 rfl) ?_
      refine lv_if_ne (tgt := 46) hx hb dX5_saleFault_30 (by decide) (fun h => absurd (by decide) h) (fun _ => ?_)
      refine lv_aload_n hx hb dX5_saleFault_33 rfl (lv_at hl 1 rfl) ?_
      refine lv_iload_n hx hb dX5_saleFault_34 rfl (lv_at hl 2 rfl) ?_
      refine k_callVi (as := [.int p0]) (rest := []) (b := (β 0)) (ci := 7) (q0 := 2) F hW (met_X5_falls l D cA β c0 c1 wr th N R Fr inc p0 hN hL hN2 hck hq_203) rfl ML_X5_157 IM_X5_falls SE_X5_falls IN_X5 CO_X5_falls hdV_X5_falls rfl rfl ⟨(Nat.le_of_ble_eq_true rfl), (Nat.le_of_ble_eq_true rfl)⟩ rfl rfl (rfl) rfl rfl hl.1 (Nat.le_of_ble_eq_true rfl) dX5_saleFault_35 ⟨(Nat.le_of_ble_eq_true rfl), (Nat.le_of_ble_eq_true rfl)⟩ (fun r_204 u H locs hw hW => ?_)
      subst hw
      refine lv_iconst (v := (-1)) hx hb dX5_saleFault_38 (by decide) ?_
      refine lv_icmp_ne (tgt := 46) hx hb dX5_saleFault_39 (by decide) (fun h_f => ?_) (fun h_f => ?_)
      · refine lv_iload_n hx hb dX5_saleFault_46 rfl (lv_at hl 0 rfl) ?_
        exact k_iret () F (hW) (by rw [show faultOf N R Fr p0 = 0 from by simp [faultOf, hq_203, h_s, h_f]]; rfl) dX5_saleFault_47 (Nat.le_of_ble_eq_true rfl) (Nat.le_of_ble_eq_true rfl)
      · refine lv_iconst (v := 3) hx hb dX5_saleFault_42 (by decide) ?_
        refine lv_goto (tgt := 47) hx hb dX5_saleFault_43 (by decide) ?_
        exact k_iret () F (hW) (by rw [show faultOf N R Fr p0 = 3 from by simp [faultOf, hq_203, h_s, h_f]]; rfl) dX5_saleFault_47 (Nat.le_of_ble_eq_true rfl) (Nat.le_of_ble_eq_true rfl)
    · refine lv_iconst (v := 2) hx hb dX5_saleFault_23 (by decide) ?_
      refine lv_goto (tgt := 28) hx hb dX5_saleFault_24 (by decide) ?_
      refine lv_istore_n (lv' := [(2, .int 2), (0, .ref (β 0)), (1, .int p0)]) hx hb dX5_saleFault_28 rfl hl (by decide) rfl (fun ls hl => ?_)
      refine lv_iload_n hx hb dX5_saleFault_29 rfl (lv_at hl 0 rfl) ?_
      refine lv_if_ne (tgt := 46) hx hb dX5_saleFault_30 (by decide) (fun _ => ?_) (fun h => absurd h (by decide))
      refine lv_iload_n hx hb dX5_saleFault_46 rfl (lv_at hl 0 rfl) ?_
      exact k_iret () F (hW) (by rw [show faultOf N R Fr p0 = 2 from by simp [faultOf, hq_203, h_s]]; rfl) dX5_saleFault_47 (Nat.le_of_ble_eq_true rfl) (Nat.le_of_ble_eq_true rfl)

set_option maxHeartbeats 4000000 in
set_option maxRecDepth 100000 in
theorem met_X5_price (l : Launch) (D : va_G) (cA : Nat → ClassId) (β : Nat → Nat) (c0 c1 : Nat × va_E) (wr : va_W) (th : Int32) (N : Nat → Nat → Nat) (R : Nat → Nat → Nat → Int32) (Fr : Nat → UInt32) (inc : Int64) (p0 : Int32) (hN : N 0 1 ≤ 20) (hL : ∀ j, j < N 0 1 → lotOK R Fr j) (hN2 : N 0 2 ≤ 5) (hck : ckOK R) : MetI l yX5_price (.code yX5_price cX5_price 2 (some .int) :: LW) ({ frames := 4, cells := 0, slots := 0, locals := 94 }) D cA (mWd cA β c0 c1 wr th (N, R, Fr, inc)) [.ref (β 0), .int p0] (fun r (_ : Unit) => r = (op_price (N, R, Fr, inc) p0).2.1) (fun _ => mWd cA β c0 c1 wr (nI (op_price (N, R, Fr, inc) p0).1) (op_price (N, R, Fr, inc) p0).2.2) 0 0 := by
  refine k_bodyI (plainFor_of_name (by decide)) (Nat.le_of_ble_eq_true rfl) (fun p e s m args below meth c ls F hW hl => ?_)
  obtain ⟨hx, hb, hr, hml, hown, hts, hlocks, hname⟩ := id F
  have hl : lv_has ls 2 [(0, .ref (β 0)), (1, .int p0)] := hl
  refine lv_aload_n hx hb dX5_price_0 rfl (lv_at hl 0 rfl) ?_
  refine lv_aload_n hx hb dX5_price_1 rfl (lv_at hl 0 rfl) ?_
  refine lv_iload_n hx hb dX5_price_2 rfl (lv_at hl 1 rfl) ?_
  refine k_callVi (as := [.int p0]) (rest := [.ref (β 0)]) (b := (β 0)) (ci := 7) (q0 := 2) F hW (met_X5_saleFault l D cA β c0 c1 wr th N R Fr inc p0 hN hL hN2 hck) rfl ML_X5_160 IM_X5_saleFault SE_X5_saleFault IN_X5 CO_X5_saleFault hdV_X5_saleFault rfl rfl ⟨(Nat.le_of_ble_eq_true rfl), (Nat.le_of_ble_eq_true rfl)⟩ rfl rfl (rfl) rfl rfl hl.1 (Nat.le_of_ble_eq_true rfl) dX5_price_3 ⟨(Nat.le_of_ble_eq_true rfl), (Nat.le_of_ble_eq_true rfl)⟩ (fun r_205 u H locs hw hW => ?_)
  subst hw
  refine k_callVi (as := [.int (nI (faultOf N R Fr p0))]) (rest := []) (b := (β 0)) (ci := 7) (q0 := 2) F hW (met_X5_goesOn l D cA β c0 c1 wr th N R Fr inc (nI (faultOf N R Fr p0))) rfl ML_X5_93 IM_X5_goesOn SE_X5_goesOn IN_X5 CO_X5_goesOn hdV_X5_goesOn rfl rfl ⟨(Nat.le_of_ble_eq_true rfl), (Nat.le_of_ble_eq_true rfl)⟩ rfl rfl (rfl) rfl rfl hl.1 (Nat.le_of_ble_eq_true rfl) dX5_price_6 ⟨(Nat.le_of_ble_eq_true rfl), (Nat.le_of_ble_eq_true rfl)⟩ (fun r_206 u H locs hw hW => ?_)
  subst hw
  by_cases hft : faultOf N R Fr p0 = 0
  · refine lv_if_eq (tgt := 20) hx hb dX5_price_9 (by decide) (fun h => absurd h (by rw [hft]; decide)) (fun _ => ?_)
    obtain ⟨hlt, hst, hfl⟩ := fault_0 hft
    refine lv_aload_n hx hb dX5_price_12 rfl (lv_at hl 0 rfl) ?_
    refine lv_iload_n hx hb dX5_price_13 rfl (lv_at hl 1 rfl) ?_
    refine k_callVi (as := [.int p0]) (rest := []) (b := (β 0)) (ci := 7) (q0 := 2) F hW (met_X5_falls l D cA β c0 c1 wr (nI (faultOf N R Fr p0)) N R Fr inc p0 hN hL hN2 hck hlt) rfl ML_X5_157 IM_X5_falls SE_X5_falls IN_X5 CO_X5_falls hdV_X5_falls rfl rfl ⟨(Nat.le_of_ble_eq_true rfl), (Nat.le_of_ble_eq_true rfl)⟩ rfl rfl (rfl) rfl rfl hl.1 (Nat.le_of_ble_eq_true rfl) dX5_price_14 ⟨(Nat.le_of_ble_eq_true rfl), (Nat.le_of_ble_eq_true rfl)⟩ (fun r_207 u H locs hw hW => ?_)
    subst hw
    refine lv_goto (tgt := 21) hx hb dX5_price_17 (by decide) ?_
    have hop : op_price (N, R, Fr, inc) p0 = (0, falls N R Fr (ix p0), (N, R, Fr, inc)) := if_pos hft
    exact k_iret () F (hW.eq (by rw [hop, hft])) (by rw [hop]) dX5_price_21 (Nat.le_of_ble_eq_true rfl) (Nat.le_of_ble_eq_true rfl)
  · refine lv_if_eq (tgt := 20) hx hb dX5_price_9 (by decide) (fun _ => ?_) (fun h => absurd (by rw [decide_eq_false (fault_nz hft)]; rfl) h)
    refine lv_iconst (v := 0) hx hb dX5_price_20 (by decide) ?_
    have hop : op_price (N, R, Fr, inc) p0 = (faultOf N R Fr p0, 0, (N, R, Fr, inc)) := if_neg hft
    exact k_iret () F (hW.eq (by rw [hop])) (by rw [hop]) dX5_price_21 (Nat.le_of_ble_eq_true rfl) (Nat.le_of_ble_eq_true rfl)

set_option maxHeartbeats 4000000 in
set_option maxRecDepth 100000 in
theorem met_X5_priceByBuyers (l : Launch) (D : va_G) (cA : Nat → ClassId) (β : Nat → Nat) (c0 c1 : Nat × va_E) (wr : va_W) (th : Int32) (N : Nat → Nat → Nat) (R : Nat → Nat → Nat → Int32) (Fr : Nat → UInt32) (inc : Int64) (p0 : Int32) (hN : N 0 1 ≤ 20) (hL : ∀ j, j < N 0 1 → lotOK R Fr j) (hN2 : N 0 2 ≤ 5) (hck : ckOK R) : MetI l yX5_priceByBuyers (.code yX5_priceByBuyers cX5_priceByBuyers 2 (some .int) :: LW) ({ frames := 5, cells := 0, slots := 0, locals := 115 }) D cA (mWd cA β c0 c1 wr th (N, R, Fr, inc)) [.ref (β 0), .int p0] (fun r (_ : Unit) => r = (op_price (N, R, Fr, inc) p0).2.1) (fun _ => mWd cA β c0 c1 wr (nI (op_price (N, R, Fr, inc) p0).1) (op_price (N, R, Fr, inc) p0).2.2) 0 0 := by
  refine k_bodyI (plainFor_of_name (by decide)) (Nat.le_of_ble_eq_true rfl) (fun p e s m args below meth c ls F hW hl => ?_)
  obtain ⟨hx, hb, hr, hml, hown, hts, hlocks, hname⟩ := id F
  have hl : lv_has ls 2 [(0, .ref (β 0)), (1, .int p0)] := hl
  refine lv_aload_n hx hb dX5_priceByBuyers_0 rfl (lv_at hl 0 rfl) ?_
  refine lv_iload_n hx hb dX5_priceByBuyers_1 rfl (lv_at hl 1 rfl) ?_
  refine k_callVi (as := [.int p0]) (rest := []) (b := (β 0)) (ci := 7) (q0 := 2) F hW (met_X5_price l D cA β c0 c1 wr th N R Fr inc p0 hN hL hN2 hck) rfl ML_X5_163 IM_X5_price SE_X5_price IN_X5 CO_X5_price hdV_X5_price rfl rfl ⟨(Nat.le_of_ble_eq_true rfl), (Nat.le_of_ble_eq_true rfl)⟩ rfl rfl (rfl) rfl rfl hl.1 (Nat.le_of_ble_eq_true rfl) dX5_priceByBuyers_2 ⟨(Nat.le_of_ble_eq_true rfl), (Nat.le_of_ble_eq_true rfl)⟩ (fun r_208 u H locs hw hW => ?_)
  exact k_iret () F (hW) (hw) dX5_priceByBuyers_5 (Nat.le_of_ble_eq_true rfl) (Nat.le_of_ble_eq_true rfl)

set_option maxHeartbeats 4000000 in
set_option maxRecDepth 100000 in
theorem met_X5_sell (l : Launch) (D : va_G) (cA : Nat → ClassId) (β : Nat → Nat) (c0 c1 : Nat × va_E) (wr : va_W) (th : Int32) (N : Nat → Nat → Nat) (R : Nat → Nat → Nat → Int32) (Fr : Nat → UInt32) (inc : Int64) (p0 : Int32) (hN : N 0 1 ≤ 20) (hL : ∀ j, j < N 0 1 → lotOK R Fr j) (hN2 : N 0 2 ≤ 5) (hck : ckOK R) : MetI l yX5_sell (.code yX5_sell cX5_sell 3 (some .int) :: LW) ({ frames := 4, cells := 0, slots := 0, locals := 94 }) D cA (mWd cA β c0 c1 wr th (N, R, Fr, inc)) [.ref (β 0), .int p0] (fun r (_ : Unit) => r = (op_sell (N, R, Fr, inc) p0).2.1) (fun _ => mWd cA β c0 c1 wr (nI (op_sell (N, R, Fr, inc) p0).1) (op_sell (N, R, Fr, inc) p0).2.2) 0 0 := by
  refine k_bodyI (plainFor_of_name (by decide)) (Nat.le_of_ble_eq_true rfl) (fun p e s m args below meth c ls F hW hl => ?_)
  obtain ⟨hx, hb, hr, hml, hown, hts, hlocks, hname⟩ := id F
  have hl : lv_has ls 3 [(0, .ref (β 0)), (1, .int p0)] := hl
  refine lv_aload_n hx hb dX5_sell_0 rfl (lv_at hl 0 rfl) ?_
  refine lv_aload_n hx hb dX5_sell_1 rfl (lv_at hl 0 rfl) ?_
  refine lv_iload_n hx hb dX5_sell_2 rfl (lv_at hl 1 rfl) ?_
  refine k_callVi (as := [.int p0]) (rest := [.ref (β 0)]) (b := (β 0)) (ci := 7) (q0 := 2) F hW (met_X5_saleFault l D cA β c0 c1 wr th N R Fr inc p0 hN hL hN2 hck) rfl ML_X5_160 IM_X5_saleFault SE_X5_saleFault IN_X5 CO_X5_saleFault hdV_X5_saleFault rfl rfl ⟨(Nat.le_of_ble_eq_true rfl), (Nat.le_of_ble_eq_true rfl)⟩ rfl rfl (rfl) rfl rfl hl.1 (Nat.le_of_ble_eq_true rfl) dX5_sell_3 ⟨(Nat.le_of_ble_eq_true rfl), (Nat.le_of_ble_eq_true rfl)⟩ (fun r_209 u H locs hw hW => ?_)
  subst hw
  refine k_callVi (as := [.int (nI (faultOf N R Fr p0))]) (rest := []) (b := (β 0)) (ci := 7) (q0 := 2) F hW (met_X5_goesOn l D cA β c0 c1 wr th N R Fr inc (nI (faultOf N R Fr p0))) rfl ML_X5_93 IM_X5_goesOn SE_X5_goesOn IN_X5 CO_X5_goesOn hdV_X5_goesOn rfl rfl ⟨(Nat.le_of_ble_eq_true rfl), (Nat.le_of_ble_eq_true rfl)⟩ rfl rfl (rfl) rfl rfl hl.1 (Nat.le_of_ble_eq_true rfl) dX5_sell_6 ⟨(Nat.le_of_ble_eq_true rfl), (Nat.le_of_ble_eq_true rfl)⟩ (fun r_210 u H locs hw hW => ?_)
  subst hw
  by_cases hft : faultOf N R Fr p0 = 0
  · refine lv_if_ne (tgt := 14) hx hb dX5_sell_9 (by decide) (fun _ => ?_) (fun h => absurd h (by rw [hft]; decide))
    obtain ⟨hlt, hst, hfl⟩ := fault_0 hft
    refine lv_aload_n hx hb dX5_sell_14 rfl (lv_at hl 0 rfl) ?_
    refine lv_iload_n hx hb dX5_sell_15 rfl (lv_at hl 1 rfl) ?_
    refine k_callVi (as := [.int p0]) (rest := []) (b := (β 0)) (ci := 7) (q0 := 2) F hW (met_X5_falls l D cA β c0 c1 wr (nI (faultOf N R Fr p0)) N R Fr inc p0 hN hL hN2 hck hlt) rfl ML_X5_157 IM_X5_falls SE_X5_falls IN_X5 CO_X5_falls hdV_X5_falls rfl rfl ⟨(Nat.le_of_ble_eq_true rfl), (Nat.le_of_ble_eq_true rfl)⟩ rfl rfl (rfl) rfl rfl hl.1 (Nat.le_of_ble_eq_true rfl) dX5_sell_16 ⟨(Nat.le_of_ble_eq_true rfl), (Nat.le_of_ble_eq_true rfl)⟩ (fun r_211 u H locs hw hW => ?_)
    subst hw
    refine lv_istore_n (lv' := [(2, .int (falls N R Fr (ix p0))), (0, .ref (β 0)), (1, .int p0)]) hx hb dX5_sell_19 rfl hl (by decide) rfl (fun ls hl => ?_)
    refine lv_aload_n hx hb dX5_sell_20 rfl (lv_at hl 1 rfl) ?_
    refine k_get (v := .ref (β 10)) F hW inX5 rfl 2 rfl rfl 14 (by decide) FL_X5_40 rfl rfl dX5_sell_21 ?_
    refine lv_iload_n hx hb dX5_sell_24 rfl (lv_at hl 2 rfl) ?_
    refine lv_aload_n hx hb dX5_sell_25 rfl (lv_at hl 1 rfl) ?_
    refine lv_iload_n hx hb dX5_sell_26 rfl (lv_at hl 2 rfl) ?_
    refine lv_iload_n hx hb dX5_sell_27 rfl (lv_at hl 0 rfl) ?_
    refine k_callVi (as := [.int p0, .int (falls N R Fr (ix p0))]) (rest := [.int p0, .ref (β 10)]) (b := (β 0)) (ci := 7) (q0 := 2) F hW (met_X5_takes l D cA β c0 c1 wr (nI (faultOf N R Fr p0)) N R Fr inc p0 (falls N R Fr (ix p0)) hN hL hN2 hlt) rfl ML_X5_154 IM_X5_takes SE_X5_takes IN_X5 CO_X5_takes hdV_X5_takes rfl rfl ⟨(Nat.le_of_ble_eq_true rfl), (Nat.le_of_ble_eq_true rfl)⟩ rfl rfl (rfl) rfl rfl hl.1 (Nat.le_of_ble_eq_true rfl) dX5_sell_28 ⟨(Nat.le_of_ble_eq_true rfl), (Nat.le_of_ble_eq_true rfl)⟩ (fun r_212 u H locs hw hW => ?_)
    subst hw
    have hbu := takes_in (falls_best hck hfl).2.2 hN2
    refine k_iast F hW 12 rfl (in1 hlt hN (by decide)) (mWd cA β c0 c1 wr (nI (faultOf N R Fr p0)) (N, up3 R 11 (ix p0) 0 (takes N R Fr (ix p0) (falls N R Fr (ix p0))), Fr, inc)) (by rw [u1' R 11 (ix p0) p0 _ rfl]; rfl) dX5_sell_31 (fun H locs hW => ?_)
    refine lv_aload_n hx hb dX5_sell_32 rfl (lv_at hl 1 rfl) ?_
    refine k_get (v := .ref (β 11)) F hW inX5 rfl 2 rfl rfl 15 (by decide) FL_X5_43 rfl rfl dX5_sell_33 ?_
    refine lv_iload_n hx hb dX5_sell_36 rfl (lv_at hl 2 rfl) ?_
    refine lv_iload_n hx hb dX5_sell_37 rfl (lv_at hl 0 rfl) ?_
    refine lv_aload_n hx hb dX5_sell_38 rfl (lv_at hl 1 rfl) ?_
    refine k_get (v := .ref (β 5)) F hW inX5 rfl 2 rfl rfl 9 (by decide) FL_X5_22 rfl rfl dX5_sell_39 ?_
    refine lv_iload_n hx hb dX5_sell_42 rfl (lv_at hl 2 rfl) ?_
    refine k_iald (v := R 7 (ix p0) 0) F hW 7 rfl (in1 hlt hN (by decide)) (by simp [up3, ix]) dX5_sell_43 ?_
    refine lv_imul hx hb dX5_sell_44 ?_
    refine k_iast F hW 13 rfl (in1 hlt hN (by decide)) (mWd cA β c0 c1 wr (nI (faultOf N R Fr p0)) (N, up3 (up3 R 11 (ix p0) 0 (takes N R Fr (ix p0) (falls N R Fr (ix p0)))) 12 (ix p0) 0 (falls N R Fr (ix p0) * R 7 (ix p0) 0), Fr, inc)) (by rw [u1' (up3 R 11 (ix p0) 0 (takes N R Fr (ix p0) (falls N R Fr (ix p0)))) 12 (ix p0) p0 _ rfl]; rfl) dX5_sell_45 (fun H locs hW => ?_)
    refine lv_aload_n hx hb dX5_sell_46 rfl (lv_at hl 1 rfl) ?_
    refine k_get (v := .ref (β 12)) F hW inX5 rfl 2 rfl rfl 18 (by decide) FL_X5_46 rfl rfl dX5_sell_47 ?_
    refine lv_aload_n hx hb dX5_sell_50 rfl (lv_at hl 1 rfl) ?_
    refine k_get (v := .ref (β 10)) F hW inX5 rfl 2 rfl rfl 14 (by decide) FL_X5_40 rfl rfl dX5_sell_51 ?_
    refine lv_iload_n hx hb dX5_sell_54 rfl (lv_at hl 2 rfl) ?_
    refine k_iald (v := takes N R Fr (ix p0) (falls N R Fr (ix p0))) F hW 12 rfl (in1 hlt hN (by decide)) (by simp [up3, ix]) dX5_sell_55 ?_
    refine lv_dup2_11 hx hb dX5_sell_56 rfl rfl ?_
    refine k_iald (v := R 13 (ix (takes N R Fr (ix p0) (falls N R Fr (ix p0)))) 0) F hW 14 rfl (in1 hbu hN2 (by decide)) (by simp [up3, ix]) dX5_sell_57 ?_
    refine lv_aload_n hx hb dX5_sell_58 rfl (lv_at hl 1 rfl) ?_
    refine k_get (v := .ref (β 11)) F hW inX5 rfl 2 rfl rfl 15 (by decide) FL_X5_43 rfl rfl dX5_sell_59 ?_
    refine lv_iload_n hx hb dX5_sell_62 rfl (lv_at hl 2 rfl) ?_
    refine k_iald (v := falls N R Fr (ix p0) * R 7 (ix p0) 0) F hW 13 rfl (in1 hlt hN (by decide)) (by simp [up3, ix]) dX5_sell_63 ?_
    refine lv_isub hx hb dX5_sell_64 ?_
    refine k_iast F hW 14 rfl (in1 hbu hN2 (by decide)) (mWd cA β c0 c1 wr (nI (faultOf N R Fr p0)) (N, up3 (up3 (up3 R 11 (ix p0) 0 (takes N R Fr (ix p0) (falls N R Fr (ix p0)))) 12 (ix p0) 0 (falls N R Fr (ix p0) * R 7 (ix p0) 0)) 13 (ix (takes N R Fr (ix p0) (falls N R Fr (ix p0)))) 0 (R 13 (ix (takes N R Fr (ix p0) (falls N R Fr (ix p0)))) 0 - falls N R Fr (ix p0) * R 7 (ix p0) 0), Fr, inc)) (by rw [u1' (up3 (up3 R 11 (ix p0) 0 (takes N R Fr (ix p0) (falls N R Fr (ix p0)))) 12 (ix p0) 0 (falls N R Fr (ix p0) * R 7 (ix p0) 0)) 13 (ix (takes N R Fr (ix p0) (falls N R Fr (ix p0)))) (takes N R Fr (ix p0) (falls N R Fr (ix p0))) _ rfl]; rfl) dX5_sell_65 (fun H locs hW => ?_)
    refine lv_aload_n hx hb dX5_sell_66 rfl (lv_at hl 1 rfl) ?_
    refine lv_dup hx hb dX5_sell_67 rfl ?_
    refine k_get (v := .long inc) F hW inX5 rfl 2 rfl rfl 29 (by decide) FL_X5_127 rfl rfl dX5_sell_68 ?_
    refine lv_aload_n hx hb dX5_sell_71 rfl (lv_at hl 1 rfl) ?_
    refine k_get (v := .ref (β 11)) F hW inX5 rfl 2 rfl rfl 15 (by decide) FL_X5_43 rfl rfl dX5_sell_72 ?_
    refine lv_iload_n hx hb dX5_sell_75 rfl (lv_at hl 2 rfl) ?_
    refine k_iald (v := falls N R Fr (ix p0) * R 7 (ix p0) 0) F hW 13 rfl (in1 hlt hN (by decide)) (by simp [up3, ix]) dX5_sell_76 ?_
    refine lv_i2l hx hb dX5_sell_77 rfl ?_
    refine lv_ladd hx hb dX5_sell_78 ?_
    refine k_put F hW inX5 tyX5_ok nmX5 rfl 2 rfl rfl 29 (by decide) FL_X5_127 rfl rfl rfl rfl rfl (Nat.le_of_ble_eq_true rfl) (mWd cA β c0 c1 wr (nI (faultOf N R Fr p0)) (N, up3 (up3 (up3 R 11 (ix p0) 0 (takes N R Fr (ix p0) (falls N R Fr (ix p0)))) 12 (ix p0) 0 (falls N R Fr (ix p0) * R 7 (ix p0) 0)) 13 (ix (takes N R Fr (ix p0) (falls N R Fr (ix p0)))) 0 (R 13 (ix (takes N R Fr (ix p0) (falls N R Fr (ix p0)))) 0 - falls N R Fr (ix p0) * R 7 (ix p0) 0), Fr, inc + (falls N R Fr (ix p0) * R 7 (ix p0) 0).toInt64)) rfl dX5_sell_79 (fun H locs hW => ?_)
    refine lv_aload_n hx hb dX5_sell_82 rfl (lv_at hl 1 rfl) ?_
    refine k_get (v := .ref (β 7)) F hW inX5 rfl 2 rfl rfl 11 (by decide) FL_X5_29 rfl rfl dX5_sell_83 ?_
    refine lv_iload_n hx hb dX5_sell_86 rfl (lv_at hl 2 rfl) ?_
    refine lv_bipush (v := 115) hx hb dX5_sell_87 (by decide) ?_
    refine k_cast F hW 9 rfl (in1 hlt hN (by decide)) (rfl) (mWd cA β c0 c1 wr (nI (faultOf N R Fr p0)) (N, up3 (up3 (up3 (up3 R 11 (ix p0) 0 (takes N R Fr (ix p0) (falls N R Fr (ix p0)))) 12 (ix p0) 0 (falls N R Fr (ix p0) * R 7 (ix p0) 0)) 13 (ix (takes N R Fr (ix p0) (falls N R Fr (ix p0)))) 0 (R 13 (ix (takes N R Fr (ix p0) (falls N R Fr (ix p0)))) 0 - falls N R Fr (ix p0) * R 7 (ix p0) 0)) 9 (ix p0) 0 115, Fr, inc + (falls N R Fr (ix p0) * R 7 (ix p0) 0).toInt64)) (by rw [u1' (up3 (up3 (up3 R 11 (ix p0) 0 (takes N R Fr (ix p0) (falls N R Fr (ix p0)))) 12 (ix p0) 0 (falls N R Fr (ix p0) * R 7 (ix p0) 0)) 13 (ix (takes N R Fr (ix p0) (falls N R Fr (ix p0)))) 0 (R 13 (ix (takes N R Fr (ix p0) (falls N R Fr (ix p0)))) 0 - falls N R Fr (ix p0) * R 7 (ix p0) 0)) 9 (ix p0) p0 _ rfl]; rfl) dX5_sell_89 (fun H locs hW => ?_)
    refine lv_aload_n hx hb dX5_sell_90 rfl (lv_at hl 1 rfl) ?_
    refine k_get (v := .ref (β 10)) F hW inX5 rfl 2 rfl rfl 14 (by decide) FL_X5_40 rfl rfl dX5_sell_91 ?_
    refine lv_iload_n hx hb dX5_sell_94 rfl (lv_at hl 2 rfl) ?_
    refine k_iald (v := takes N R Fr (ix p0) (falls N R Fr (ix p0))) F hW 12 rfl (in1 hlt hN (by decide)) (by simp [up3, ix]) dX5_sell_95 ?_
    have hop : op_sell (N, R, Fr, inc) p0 = (0, takes N R Fr (ix p0) (falls N R Fr (ix p0)), (N, up3 (up3 (up3 (up3 R 11 (ix p0) 0 (takes N R Fr (ix p0) (falls N R Fr (ix p0)))) 12 (ix p0) 0 (falls N R Fr (ix p0) * R 7 (ix p0) 0)) 13 (ix (takes N R Fr (ix p0) (falls N R Fr (ix p0)))) 0 (R 13 (ix (takes N R Fr (ix p0) (falls N R Fr (ix p0)))) 0 - falls N R Fr (ix p0) * R 7 (ix p0) 0)) 9 (ix p0) 0 115, Fr, inc + (falls N R Fr (ix p0) * R 7 (ix p0) 0).toInt64)) := if_pos hft
    exact k_iret () F (hW.eq (by rw [hop, hft])) (by rw [hop]) dX5_sell_96 (Nat.le_of_ble_eq_true rfl) (Nat.le_of_ble_eq_true rfl)
  · refine lv_if_ne (tgt := 14) hx hb dX5_sell_9 (by decide) (fun h => absurd (by rw [decide_eq_false (fault_nz hft)]; decide) h) (fun _ => ?_)
    refine lv_iconst (v := 0) hx hb dX5_sell_12 (by decide) ?_
    have hop : op_sell (N, R, Fr, inc) p0 = (faultOf N R Fr p0, 0, (N, R, Fr, inc)) := if_neg hft
    exact k_iret () F (hW.eq (by rw [hop])) (by rw [hop]) dX5_sell_13 (Nat.le_of_ble_eq_true rfl) (Nat.le_of_ble_eq_true rfl)
