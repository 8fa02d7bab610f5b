def isIx (n : Nat) (v : Int32) : Bool := wi v 0 (nI n - 1)
theorem b2i_z (b : Bool) : narrow .boolean (.int (b2i b)) = .int (b2i b) := by cases b <;> rfl
set_option maxHeartbeats 4000000 in
set_option maxRecDepth 100000 in
theorem met_X5_in (l : Launch) (D : va_G) (cA : Nat → ClassId) (ws : va_W) (v lo hi : Int32) : MetI l yX5_in (.code yX5_in cX5_in 3 (some .boolean) :: LW) ({ frames := 0, cells := 0, slots := 0, locals := 0 }) D cA (ws) [.int v, .int lo, .int hi] (fun r (_ : Unit) => r = b2i (wi v lo hi)) (fun _ => ws) 0 0 := by
  refine k_bodyI (plainFor_of_name (by decide)) (Nat.le_of_ble_eq_true rfl) (fun p e s m args below meth c ls F hW hl => ?_)
  obtain ⟨hx, hb, hr, hml, hown, hts, hlocks, hname⟩ := id F
  have hl : lv_has ls 3 [(0, .int v), (1, .int lo), (2, .int hi)] := hl
  refine lv_iload_n hx hb dX5_in_0 rfl (lv_at hl 0 rfl) ?_
  refine lv_iload_n hx hb dX5_in_1 rfl (lv_at hl 1 rfl) ?_
  refine lv_icmp_lt (tgt := 14) hx hb dX5_in_2 (by decide) (fun h1 => ?_) (fun h1 => ?_)
  · refine lv_iconst (v := 0) hx hb dX5_in_14 (by decide) ?_
    exact k_zret () F (rfl) (hW) (wi_f1 h1) dX5_in_15 (Nat.le_of_ble_eq_true rfl) (Nat.le_of_ble_eq_true rfl)
  · refine lv_iload_n hx hb dX5_in_5 rfl (lv_at hl 0 rfl) ?_
    refine lv_iload_n hx hb dX5_in_6 rfl (lv_at hl 2 rfl) ?_
    refine lv_icmp_gt (tgt := 14) hx hb dX5_in_7 (by decide) (fun h2 => ?_) (fun h2 => ?_)
    · refine lv_iconst (v := 0) hx hb dX5_in_14 (by decide) ?_
      exact k_zret () F (rfl) (hW) (wi_f2 h2) dX5_in_15 (Nat.le_of_ble_eq_true rfl) (Nat.le_of_ble_eq_true rfl)
    · refine lv_iconst (v := 1) hx hb dX5_in_10 (by decide) ?_
      refine lv_goto (tgt := 15) hx hb dX5_in_11 (by decide) ?_
      exact k_zret () F (rfl) (hW) (wi_t h1 h2) dX5_in_15 (Nat.le_of_ble_eq_true rfl) (Nat.le_of_ble_eq_true rfl)

set_option maxHeartbeats 4000000 in
set_option maxRecDepth 100000 in
theorem met_X4_isWithin (l : Launch) (D : va_G) (cA : Nat → ClassId) (ws : va_W) (v lo hi : Int32) : MetI l yX4_isWithin (.code yX4_isWithin cX4_isWithin 3 (some .boolean) :: LW) ({ frames := 0, cells := 0, slots := 0, locals := 0 }) D cA (ws) [.int v, .int lo, .int hi] (fun r (_ : Unit) => r = b2i (wi v lo hi)) (fun _ => ws) 0 0 := by
  refine k_bodyI (plainFor_of_name (by decide)) (Nat.le_of_ble_eq_true rfl) (fun p e s m args below meth c ls F hW hl => ?_)
  obtain ⟨hx, hb, hr, hml, hown, hts, hlocks, hname⟩ := id F
  have hl : lv_has ls 3 [(0, .int v), (1, .int lo), (2, .int hi)] := hl
  refine lv_iload_n hx hb dX4_isWithin_0 rfl (lv_at hl 0 rfl) ?_
  refine lv_iload_n hx hb dX4_isWithin_1 rfl (lv_at hl 1 rfl) ?_
  refine lv_icmp_lt (tgt := 14) hx hb dX4_isWithin_2 (by decide) (fun h1 => ?_) (fun h1 => ?_)
  · refine lv_iconst (v := 0) hx hb dX4_isWithin_14 (by decide) ?_
    exact k_zret () F (rfl) (hW) (wi_f1 h1) dX4_isWithin_15 (Nat.le_of_ble_eq_true rfl) (Nat.le_of_ble_eq_true rfl)
  · refine lv_iload_n hx hb dX4_isWithin_5 rfl (lv_at hl 0 rfl) ?_
    refine lv_iload_n hx hb dX4_isWithin_6 rfl (lv_at hl 2 rfl) ?_
    refine lv_icmp_gt (tgt := 14) hx hb dX4_isWithin_7 (by decide) (fun h2 => ?_) (fun h2 => ?_)
    · refine lv_iconst (v := 0) hx hb dX4_isWithin_14 (by decide) ?_
      exact k_zret () F (rfl) (hW) (wi_f2 h2) dX4_isWithin_15 (Nat.le_of_ble_eq_true rfl) (Nat.le_of_ble_eq_true rfl)
    · refine lv_iconst (v := 1) hx hb dX4_isWithin_10 (by decide) ?_
      refine lv_goto (tgt := 15) hx hb dX4_isWithin_11 (by decide) ?_
      exact k_zret () F (rfl) (hW) (wi_t h1 h2) dX4_isWithin_15 (Nat.le_of_ble_eq_true rfl) (Nat.le_of_ble_eq_true rfl)

set_option maxHeartbeats 4000000 in
set_option maxRecDepth 100000 in
theorem met_X5_thrown (l : Launch) (D : va_G) (cA : Nat → ClassId) (β : Nat → Nat) (c0 c1 : Nat × va_E) (wr : va_W) (th : Int32) (N : Nat → Nat → Nat) (R : Nat → Nat → Nat → Int32) (Fr : Nat → UInt32) (inc : Int64) : MetI l yX5_thrown (.code yX5_thrown cX5_thrown 1 (some .int) :: LW) ({ frames := 0, cells := 0, slots := 0, locals := 0 }) D cA (mWd cA β c0 c1 wr th (N, R, Fr, inc)) [.ref (β 0)] (fun r (_ : Unit) => r = th) (fun _ => mWd cA β c0 c1 wr th (N, R, Fr, inc)) 0 0 := by
  refine k_bodyI (plainFor_of_name (by decide)) (Nat.le_of_ble_eq_true rfl) (fun p e s m args below meth c ls F hW hl => ?_)
  obtain ⟨hx, hb, hr, hml, hown, hts, hlocks, hname⟩ := id F
  have hl : lv_has ls 1 [(0, .ref (β 0))] := hl
  refine lv_aload_n hx hb dX5_thrown_0 rfl (lv_at hl 0 rfl) ?_
  refine k_get (v := .int th) F hW inX5 rfl 2 rfl rfl 0 (by decide) FL_X5_74 rfl rfl dX5_thrown_1 ?_
  exact k_iret () F (hW) (rfl) dX5_thrown_4 (Nat.le_of_ble_eq_true rfl) (Nat.le_of_ble_eq_true rfl)

set_option maxHeartbeats 4000000 in
set_option maxRecDepth 100000 in
theorem met_X5_goesOn (l : Launch) (D : va_G) (cA : Nat → ClassId) (β : Nat → Nat) (c0 c1 : Nat × va_E) (wr : va_W) (th : Int32) (N : Nat → Nat → Nat) (R : Nat → Nat → Nat → Int32) (Fr : Nat → UInt32) (inc : Int64) (k : Int32) : MetI l yX5_goesOn (.code yX5_goesOn cX5_goesOn 2 (some .boolean) :: LW) ({ frames := 0, cells := 0, slots := 0, locals := 0 }) D cA (mWd cA β c0 c1 wr th (N, R, Fr, inc)) [.ref (β 0), .int k] (fun r (_ : Unit) => r = b2i (decide (k = 0))) (fun _ => mWd cA β c0 c1 wr k (N, R, Fr, inc)) 0 0 := by
  refine k_bodyI (plainFor_of_name (by decide)) (Nat.le_of_ble_eq_true rfl) (fun p e s m args below meth c ls F hW hl => ?_)
  obtain ⟨hx, hb, hr, hml, hown, hts, hlocks, hname⟩ := id F
  have hl : lv_has ls 2 [(0, .ref (β 0)), (1, .int k)] := hl
  refine lv_aload_n hx hb dX5_goesOn_0 rfl (lv_at hl 0 rfl) ?_
  refine lv_iload_n hx hb dX5_goesOn_1 rfl (lv_at hl 1 rfl) ?_
  refine k_put F hW inX5 tyX5_ok nmX5 rfl 2 rfl rfl 0 (by decide) FL_X5_74 rfl rfl rfl rfl rfl (Nat.le_of_ble_eq_true rfl) (mWd cA β c0 c1 wr k (N, R, Fr, inc)) rfl dX5_goesOn_2 (fun H locs hW => ?_)
  refine lv_iload_n hx hb dX5_goesOn_5 rfl (lv_at hl 1 rfl) ?_
  refine lv_if_ne (tgt := 13) hx hb dX5_goesOn_6 (by decide) (fun h1 => ?_) (fun h1 => ?_)
  · refine lv_iconst (v := 0) hx hb dX5_goesOn_13 (by decide) ?_
    exact k_zret () F (rfl) (hW) (by simp [b2i, h1]) dX5_goesOn_14 (Nat.le_of_ble_eq_true rfl) (Nat.le_of_ble_eq_true rfl)
  · refine lv_iconst (v := 1) hx hb dX5_goesOn_9 (by decide) ?_
    refine lv_goto (tgt := 14) hx hb dX5_goesOn_10 (by decide) ?_
    exact k_zret () F (rfl) (hW) (by simp [b2i, h1]) dX5_goesOn_14 (Nat.le_of_ble_eq_true rfl) (Nat.le_of_ble_eq_true rfl)

set_option maxHeartbeats 4000000 in
set_option maxRecDepth 100000 in
theorem met_X5_isBoat (l : Launch) (D : va_G) (cA : Nat → ClassId) (β : Nat → Nat) (c0 c1 : Nat × va_E) (wr : va_W) (th : Int32) (N : Nat → Nat → Nat) (R : Nat → Nat → Nat → Int32) (Fr : Nat → UInt32) (inc : Int64) (v : Int32) : MetI l yX5_isBoat (.code yX5_isBoat cX5_isBoat 2 (some .boolean) :: LW) ({ frames := 1, cells := 0, slots := 0, locals := 22 }) D cA (mWd cA β c0 c1 wr th (N, R, Fr, inc)) [.ref (β 0), .int v] (fun r (_ : Unit) => r = b2i (isIx (N 0 0) v)) (fun _ => mWd cA β c0 c1 wr th (N, R, Fr, inc)) 0 0 := by
  refine k_bodyI (plainFor_of_name (by decide)) (Nat.le_of_ble_eq_true rfl) (fun p e s m args below meth c ls F hW hl => ?_)
  obtain ⟨hx, hb, hr, hml, hown, hts, hlocks, hname⟩ := id F
  have hl : lv_has ls 2 [(0, .ref (β 0)), (1, .int v)] := hl
  refine lv_iload_n hx hb dX5_isBoat_0 rfl (lv_at hl 1 rfl) ?_
  refine lv_iconst (v := 0) hx hb dX5_isBoat_1 (by decide) ?_
  refine lv_aload_n hx hb dX5_isBoat_2 rfl (lv_at hl 0 rfl) ?_
  refine k_get (v := .int (nI (N 0 0))) F hW inX5 rfl 2 rfl rfl 1 (by decide) FL_X5_77 rfl rfl dX5_isBoat_3 ?_
  refine lv_iconst (v := 1) hx hb dX5_isBoat_6 (by decide) ?_
  refine lv_isub hx hb dX5_isBoat_7 ?_
  refine k_callSi (as := [.int v, .int 0, .int ((nI (N 0 0)) - 1)]) (rest := []) F hW (met_X5_in l D cA _ v 0 (nI (N 0 0) - 1)) rfl ML_X5_80 ST_X5_in IN_X5 CO_X5_in hdS_X5_in rfl rfl ⟨(Nat.le_of_ble_eq_true rfl), (Nat.le_of_ble_eq_true rfl)⟩ rfl rfl hl.1 (Nat.le_of_ble_eq_true rfl) dX5_isBoat_8 ⟨(Nat.le_of_ble_eq_true rfl), (Nat.le_of_ble_eq_true rfl)⟩ (fun r_1 u H locs hw hW => ?_)
  subst hw
  exact k_zret () F (b2i_z _) (hW) (rfl) dX5_isBoat_11 (Nat.le_of_ble_eq_true rfl) (Nat.le_of_ble_eq_true rfl)

set_option maxHeartbeats 4000000 in
set_option maxRecDepth 100000 in
theorem met_X5_isLot (l : Launch) (D : va_G) (cA : Nat → ClassId) (β : Nat → Nat) (c0 c1 : Nat × va_E) (wr : va_W) (th : Int32) (N : Nat → Nat → Nat) (R : Nat → Nat → Nat → Int32) (Fr : Nat → UInt32) (inc : Int64) (v : Int32) : MetI l yX5_isLot (.code yX5_isLot cX5_isLot 2 (some .boolean) :: LW) ({ frames := 1, cells := 0, slots := 0, locals := 22 }) D cA (mWd cA β c0 c1 wr th (N, R, Fr, inc)) [.ref (β 0), .int v] (fun r (_ : Unit) => r = b2i (isIx (N 0 1) v)) (fun _ => mWd cA β c0 c1 wr th (N, R, Fr, inc)) 0 0 := by
  refine k_bodyI (plainFor_of_name (by decide)) (Nat.le_of_ble_eq_true rfl) (fun p e s m args below meth c ls F hW hl => ?_)
  obtain ⟨hx, hb, hr, hml, hown, hts, hlocks, hname⟩ := id F
  have hl : lv_has ls 2 [(0, .ref (β 0)), (1, .int v)] := hl
  refine lv_iload_n hx hb dX5_isLot_0 rfl (lv_at hl 1 rfl) ?_
  refine lv_iconst (v := 0) hx hb dX5_isLot_1 (by decide) ?_
  refine lv_aload_n hx hb dX5_isLot_2 rfl (lv_at hl 0 rfl) ?_
  refine k_get (v := .int (nI (N 0 1))) F hW inX5 rfl 2 rfl rfl 6 (by decide) FL_X5_84 rfl rfl dX5_isLot_3 ?_
  refine lv_iconst (v := 1) hx hb dX5_isLot_6 (by decide) ?_
  refine lv_isub hx hb dX5_isLot_7 ?_
  refine k_callSi (as := [.int v, .int 0, .int ((nI (N 0 1)) - 1)]) (rest := []) F hW (met_X5_in l D cA _ v 0 (nI (N 0 1) - 1)) rfl ML_X5_80 ST_X5_in IN_X5 CO_X5_in hdS_X5_in rfl rfl ⟨(Nat.le_of_ble_eq_true rfl), (Nat.le_of_ble_eq_true rfl)⟩ rfl rfl hl.1 (Nat.le_of_ble_eq_true rfl) dX5_isLot_8 ⟨(Nat.le_of_ble_eq_true rfl), (Nat.le_of_ble_eq_true rfl)⟩ (fun r_2 u H locs hw hW => ?_)
  subst hw
  exact k_zret () F (b2i_z _) (hW) (rfl) dX5_isLot_11 (Nat.le_of_ble_eq_true rfl) (Nat.le_of_ble_eq_true rfl)

set_option maxHeartbeats 4000000 in
set_option maxRecDepth 100000 in
theorem met_X5_isBuyer (l : Launch) (D : va_G) (cA : Nat → ClassId) (β : Nat → Nat) (c0 c1 : Nat × va_E) (wr : va_W) (th : Int32) (N : Nat → Nat → Nat) (R : Nat → Nat → Nat → Int32) (Fr : Nat → UInt32) (inc : Int64) (v : Int32) : MetI l yX5_isBuyer (.code yX5_isBuyer cX5_isBuyer 2 (some .boolean) :: LW) ({ frames := 1, cells := 0, slots := 0, locals := 22 }) D cA (mWd cA β c0 c1 wr th (N, R, Fr, inc)) [.ref (β 0), .int v] (fun r (_ : Unit) => r = b2i (isIx (N 0 2) v)) (fun _ => mWd cA β c0 c1 wr th (N, R, Fr, inc)) 0 0 := by
  refine k_bodyI (plainFor_of_name (by decide)) (Nat.le_of_ble_eq_true rfl) (fun p e s m args below meth c ls F hW hl => ?_)
  obtain ⟨hx, hb, hr, hml, hown, hts, hlocks, hname⟩ := id F
  have hl : lv_has ls 2 [(0, .ref (β 0)), (1, .int v)] := hl
  refine lv_iload_n hx hb dX5_isBuyer_0 rfl (lv_at hl 1 rfl) ?_
  refine lv_iconst (v := 0) hx hb dX5_isBuyer_1 (by decide) ?_
  refine lv_aload_n hx hb dX5_isBuyer_2 rfl (lv_at hl 0 rfl) ?_
  refine k_get (v := .int (nI (N 0 2))) F hW inX5 rfl 2 rfl rfl 17 (by decide) FL_X5_87 rfl rfl dX5_isBuyer_3 ?_
  refine lv_iconst (v := 1) hx hb dX5_isBuyer_6 (by decide) ?_
  refine lv_isub hx hb dX5_isBuyer_7 ?_
  refine k_callSi (as := [.int v, .int 0, .int ((nI (N 0 2)) - 1)]) (rest := []) F hW (met_X5_in l D cA _ v 0 (nI (N 0 2) - 1)) rfl ML_X5_80 ST_X5_in IN_X5 CO_X5_in hdS_X5_in rfl rfl ⟨(Nat.le_of_ble_eq_true rfl), (Nat.le_of_ble_eq_true rfl)⟩ rfl rfl hl.1 (Nat.le_of_ble_eq_true rfl) dX5_isBuyer_8 ⟨(Nat.le_of_ble_eq_true rfl), (Nat.le_of_ble_eq_true rfl)⟩ (fun r_3 u H locs hw hW => ?_)
  subst hw
  exact k_zret () F (b2i_z _) (hW) (rfl) dX5_isBuyer_11 (Nat.le_of_ble_eq_true rfl) (Nat.le_of_ble_eq_true rfl)

set_option maxHeartbeats 4000000 in
set_option maxRecDepth 100000 in
theorem met_X5_isTruck (l : Launch) (D : va_G) (cA : Nat → ClassId) (β : Nat → Nat) (c0 c1 : Nat × va_E) (wr : va_W) (th : Int32) (N : Nat → Nat → Nat) (R : Nat → Nat → Nat → Int32) (Fr : Nat → UInt32) (inc : Int64) (v : Int32) : MetI l yX5_isTruck (.code yX5_isTruck cX5_isTruck 2 (some .boolean) :: LW) ({ frames := 1, cells := 0, slots := 0, locals := 22 }) D cA (mWd cA β c0 c1 wr th (N, R, Fr, inc)) [.ref (β 0), .int v] (fun r (_ : Unit) => r = b2i (isIx (N 0 3) v)) (fun _ => mWd cA β c0 c1 wr th (N, R, Fr, inc)) 0 0 := by
  refine k_bodyI (plainFor_of_name (by decide)) (Nat.le_of_ble_eq_true rfl) (fun p e s m args below meth c ls F hW hl => ?_)
  obtain ⟨hx, hb, hr, hml, hown, hts, hlocks, hname⟩ := id F
  have hl : lv_has ls 2 [(0, .ref (β 0)), (1, .int v)] := hl
  refine lv_iload_n hx hb dX5_isTruck_0 rfl (lv_at hl 1 rfl) ?_
  refine lv_iconst (v := 0) hx hb dX5_isTruck_1 (by decide) ?_
  refine lv_aload_n hx hb dX5_isTruck_2 rfl (lv_at hl 0 rfl) ?_
  refine k_get (v := .int (nI (N 0 3))) F hW inX5 rfl 2 rfl rfl 23 (by decide) FL_X5_90 rfl rfl dX5_isTruck_3 ?_
  refine lv_iconst (v := 1) hx hb dX5_isTruck_6 (by decide) ?_
  refine lv_isub hx hb dX5_isTruck_7 ?_
  refine k_callSi (as := [.int v, .int 0, .int ((nI (N 0 3)) - 1)]) (rest := []) F hW (met_X5_in l D cA _ v 0 (nI (N 0 3) - 1)) rfl ML_X5_80 ST_X5_in IN_X5 CO_X5_in hdS_X5_in rfl rfl ⟨(Nat.le_of_ble_eq_true rfl), (Nat.le_of_ble_eq_true rfl)⟩ rfl rfl hl.1 (Nat.le_of_ble_eq_true rfl) dX5_isTruck_8 ⟨(Nat.le_of_ble_eq_true rfl), (Nat.le_of_ble_eq_true rfl)⟩ (fun r_4 u H locs hw hW => ?_)
  subst hw
  exact k_zret () F (b2i_z _) (hW) (rfl) dX5_isTruck_11 (Nat.le_of_ble_eq_true rfl) (Nat.le_of_ble_eq_true rfl)

set_option maxHeartbeats 4000000 in
set_option maxRecDepth 100000 in
theorem met_X5_isSpecies (l : Launch) (D : va_G) (cA : Nat → ClassId) (ws : va_W) (v : Int32) : MetI l yX5_isSpecies (.code yX5_isSpecies cX5_isSpecies 1 (some .boolean) :: LW) ({ frames := 1, cells := 0, slots := 0, locals := 22 }) D cA (ws) [.int v] (fun r (_ : Unit) => r = b2i (wi v 0 3)) (fun _ => ws) 0 0 := by
  refine k_bodyI (plainFor_of_name (by decide)) (Nat.le_of_ble_eq_true rfl) (fun p e s m args below meth c ls F hW hl => ?_)
  obtain ⟨hx, hb, hr, hml, hown, hts, hlocks, hname⟩ := id F
  have hl : lv_has ls 1 [(0, .int v)] := hl
  refine lv_iload_n hx hb dX5_isSpecies_0 rfl (lv_at hl 0 rfl) ?_
  refine lv_iconst (v := 0) hx hb dX5_isSpecies_1 (by decide) ?_
  refine lv_iconst (v := 3) hx hb dX5_isSpecies_2 (by decide) ?_
  refine k_callSi (as := [.int v, .int 0, .int 3]) (rest := []) F hW (met_X5_in l D cA _ v 0 3) rfl ML_X5_80 ST_X5_in IN_X5 CO_X5_in hdS_X5_in rfl rfl ⟨(Nat.le_of_ble_eq_true rfl), (Nat.le_of_ble_eq_true rfl)⟩ rfl rfl hl.1 (Nat.le_of_ble_eq_true rfl) dX5_isSpecies_3 ⟨(Nat.le_of_ble_eq_true rfl), (Nat.le_of_ble_eq_true rfl)⟩ (fun r_5 u H locs hw hW => ?_)
  subst hw
  exact k_zret () F (b2i_z _) (hW) (rfl) dX5_isSpecies_6 (Nat.le_of_ble_eq_true rfl) (Nat.le_of_ble_eq_true rfl)
