set_option maxHeartbeats 4000000 in
set_option maxRecDepth 100000 in
theorem met_X4_freshBits (l : Launch) (D : va_G) (cA : Nat → ClassId) (wr : va_W) (α : Nat → Nat → Nat) (L : List (Nat × Nat)) (N : Nat → Nat → Nat) (R : Nat → Nat → Nat → Int32) (Fr : Nat → UInt32) (inc : Int64) (p0 : Int32) (z0 : Nat) (hl0 : l.stackTraces = false) (hLk : LOK N L) (hC : IC N) (hL : ∀ j, j < N 0 1 → lotOK R Fr j) : MetXI z0 l yX4_freshBits (.code yX4_freshBits cX4_freshBits 2 (some .int) :: LW) ({ frames := 7, cells := 1, slots := 6, locals := 111 }) D cA (xWd wr cA α L (N, R, Fr, inc)) [.ref (α 0 0), .int p0] (fun r (_ : Unit) => (op_freshBits (N, R, Fr, inc) p0).1 = 0 ∧ r = (op_freshBits (N, R, Fr, inc) p0).2.1) (fun _ => xWd wr cA α L (op_freshBits (N, R, Fr, inc) p0).2.2) (fun E => ¬ (op_freshBits (N, R, Fr, inc) p0).1 = 0 ∧ E = exOf [nE] (op_freshBits (N, R, Fr, inc) p0).1) 1 6 := by
  refine k_bodyX hl0 (by decide) (Nat.le_of_ble_eq_true rfl) (fun p e s m args below meth c ls F G hW hl => ?_)
  obtain ⟨hx, hb, hr, hml, hown, hts, hlocks, hname⟩ := id F
  have hl : lv_has ls 2 [(0, .ref (α 0 0)), (1, .int p0)] := hl
  refine lv_aload_n hx hb dX4_freshBits_0 rfl (lv_at hl 0 rfl) ?_
  refine lv_iload_n hx hb dX4_freshBits_1 rfl (lv_at hl 1 rfl) ?_
  obtain ⟨q_698, hq_698⟩ := xw_at (wr := wr) (cA := cA) (α := α) (L := L) (S := (N, R, Fr, inc)) 0 0 (hLk.o 0 (by decide))
  refine k_cXVr (as := [.int p0]) (rest := []) (b := (α 0 0)) (ci := 6) (q0 := q_698) F G hW (met_X4_lotNumbered l D cA wr α L N R Fr inc p0 z0 hl0 hLk hC) rfl ML_X4_145 IM_X4_lotNumbered SE_X4_lotNumbered IN_X4 CO_X4_lotNumbered hdV_X4_lotNumbered rfl rfl ⟨(Nat.le_of_ble_eq_true rfl), (Nat.le_of_ble_eq_true rfl)⟩ rfl rfl (hq_698) rfl rfl dX4_freshBits_2 hl.1 (Nat.le_of_ble_eq_true rfl) ⟨(Nat.le_of_ble_eq_true rfl), (Nat.le_of_ble_eq_true rfl)⟩ (fun E h => by
      obtain ⟨rfl, hix⟩ := h
      have hop : op_freshBits (N, R, Fr, inc) p0 = (1, 0, (N, R, Fr, inc)) := by simp [op_freshBits, hix]
      exact ⟨by rw [hop]; exact Nat.succ_ne_zero _, by rw [hop]; rfl⟩) ⟨(Nat.le_of_ble_eq_true rfl), (Nat.le_of_ble_eq_true rfl)⟩ (fun r_697 u H locs hw hW => ?_)
  obtain ⟨hix_696, rfl⟩ := hw
  obtain ⟨q_699, hq_699⟩ := xw_at (wr := wr) (cA := cA) (α := α) (L := L) (S := (N, R, Fr, inc)) 9 (ix p0) (hLk.l (ix p0) (hC.lt (by decide) (ix_lt hix_696 (by have := hC; unfold IC at this; omega)).1))
  refine k_get (v := .float (Fr (ix p0))) F hW inX2 rfl q_699 hq_699 rfl 7 (by decide) FL_X4_156 rfl rfl dX4_freshBits_5 ?_
  refine k_callSi (as := [.float (Fr (ix p0))]) (rest := []) F hW (met_X4_bitsOfFreshness l D cA _ (Fr (ix p0)) (hL _ (ix_lt hix_696 (by have := hC; unfold IC at this; omega)).1).2.2.2.2.1) rfl ML_X4_160 ST_X4_bitsOfFreshness IN_X4 CO_X4_bitsOfFreshness hdS_X4_bitsOfFreshness rfl rfl ⟨(Nat.le_of_ble_eq_true rfl), (Nat.le_of_ble_eq_true rfl)⟩ rfl rfl hl.1 (Nat.le_of_ble_eq_true rfl) dX4_freshBits_8 ⟨(Nat.le_of_ble_eq_true rfl), (Nat.le_of_ble_eq_true rfl)⟩ (fun r_700 u H locs hw hW => ?_)
  subst hw
  have hop : op_freshBits (N, R, Fr, inc) p0 = (0, ((Fr (ix p0)).toInt32), (N, R, Fr, inc)) := by simp [op_freshBits, hix_696]
  refine vx_ret ?_
  exact k_iret () F (hW.eq (by rw [hop])) (⟨by rw [hop], by rw [hop]⟩) dX4_freshBits_11 (Nat.le_of_ble_eq_true rfl) (Nat.le_of_ble_eq_true rfl)

set_option maxHeartbeats 4000000 in
set_option maxRecDepth 100000 in
theorem met_X4_meanBits (l : Launch) (D : va_G) (cA : Nat → ClassId) (wr : va_W) (α : Nat → Nat → Nat) (L : List (Nat × Nat)) (N : Nat → Nat → Nat) (R : Nat → Nat → Nat → Int32) (Fr : Nat → UInt32) (inc : Int64) (z0 : Nat) (hl0 : l.stackTraces = false) (hLk : LOK N L) (hC : IC N) (hmb : ¬ wsum R (isSold R) (N 0 1) = 0 → (meanOf N R inc).toNat < 1089 * 4503599627370496) : MetXL z0 l yX4_meanBits (.code yX4_meanBits cX4_meanBits 1 (some .long) :: LW) ({ frames := 7, cells := 1, slots := 6, locals := 111 }) D cA (xWd wr cA α L (N, R, Fr, inc)) [.ref (α 0 0)] (fun r (_ : Unit) => (op_meanBits (N, R, Fr, inc)).1 = 0 ∧ r = (op_meanBits (N, R, Fr, inc)).2.1) (fun _ => xWd wr cA α L (op_meanBits (N, R, Fr, inc)).2.2) (fun E => ¬ (op_meanBits (N, R, Fr, inc)).1 = 0 ∧ E = exOf ["java/lang/ArithmeticException"] (op_meanBits (N, R, Fr, inc)).1) 1 6 := by
  refine k_bodyX hl0 (by decide) (Nat.le_of_ble_eq_true rfl) (fun p e s m args below meth c ls F G hW hl => ?_)
  obtain ⟨hx, hb, hr, hml, hown, hts, hlocks, hname⟩ := id F
  have hl : lv_has ls 1 [(0, .ref (α 0 0))] := hl
  refine lv_aload_n hx hb dX4_meanBits_0 rfl (lv_at hl 0 rfl) ?_
  obtain ⟨q_702, hq_702⟩ := xw_at (wr := wr) (cA := cA) (α := α) (L := L) (S := (N, R, Fr, inc)) 0 0 (hLk.o 0 (by decide))
  refine k_cXVb (as := []) (rest := []) (b := (α 0 0)) (ci := 6) (q0 := q_702) F G hW (met_X4_meanOfSoldKilograms l D cA wr α L N R Fr inc z0 hl0 hLk hC) rfl ML_X4_293 IM_X4_meanOfSoldKilograms SE_X4_meanOfSoldKilograms IN_X4 CO_X4_meanOfSoldKilograms hdV_X4_meanOfSoldKilograms rfl rfl ⟨(Nat.le_of_ble_eq_true rfl), (Nat.le_of_ble_eq_true rfl)⟩ rfl rfl (hq_702) rfl rfl dX4_meanBits_1 hl.1 (Nat.le_of_ble_eq_true rfl) ⟨(Nat.le_of_ble_eq_true rfl), (Nat.le_of_ble_eq_true rfl)⟩ (fun E h => by
      by_cases h_w : wsum R (isSold R) (N 0 1) = 0
      · have hop : op_meanBits (N, R, Fr, inc) = (1, 0, (N, R, Fr, inc)) := if_pos h_w
        have hop2 : op_meanPrice (N, R, Fr, inc) = (1, 0, (N, R, Fr, inc)) := if_pos h_w
        rw [hop2] at h
        rw [hop]; exact h
      · have hop2 : op_meanPrice (N, R, Fr, inc) = (0, meanOf N R inc, (N, R, Fr, inc)) := if_neg h_w
        exact absurd (by rw [hop2]) h.1) ⟨(Nat.le_of_ble_eq_true rfl), (Nat.le_of_ble_eq_true rfl)⟩ (fun r_701 u H locs hw hW => ?_)
  have h_w : ¬ wsum R (isSold R) (N 0 1) = 0 := fun q => absurd ((congrArg Prod.fst (show op_meanPrice (N, R, Fr, inc) = (1, 0, (N, R, Fr, inc)) from if_pos q)).symm.trans hw.1) (Nat.succ_ne_zero _)
  have hop2 : op_meanPrice (N, R, Fr, inc) = (0, meanOf N R inc, (N, R, Fr, inc)) := if_neg h_w
  rw [hop2] at hw hW
  have hW : Cw D cA s (va_A (xWd wr cA α L (N, R, Fr, inc)) s.heap.size) (xWd wr cA α L (N, R, Fr, inc)) H locs := hW
  obtain ⟨-, rfl⟩ := hw
  refine k_callSl (as := [.double (meanOf N R inc)]) (rest := []) F hW (met_X4_bitsOfMean l D cA _ (meanOf N R inc) (hmb h_w)) rfl ML_X4_297 ST_X4_bitsOfMean IN_X4 CO_X4_bitsOfMean hdS_X4_bitsOfMean rfl rfl ⟨(Nat.le_of_ble_eq_true rfl), (Nat.le_of_ble_eq_true rfl)⟩ rfl rfl hl.1 (Nat.le_of_ble_eq_true rfl) dX4_meanBits_4 ⟨(Nat.le_of_ble_eq_true rfl), (Nat.le_of_ble_eq_true rfl)⟩ (fun r_703 u H locs hw hW => ?_)
  subst hw
  have hop : op_meanBits (N, R, Fr, inc) = (0, (meanOf N R inc).toInt64, (N, R, Fr, inc)) := if_neg h_w
  refine vx_ret ?_
  exact k_lret () F (hW.eq (by rw [hop])) (⟨by rw [hop], by rw [hop]⟩) dX4_meanBits_7 (Nat.le_of_ble_eq_true rfl) (Nat.le_of_ble_eq_true rfl)
