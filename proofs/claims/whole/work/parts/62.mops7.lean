theorem hdS_JF_isNaN : yJxf58ca_isNaN_12338.cls ≠ "java/lang/invoke/MethodHandle" ∧ yJxf58ca_isNaN_12338.cls ≠ "java/lang/invoke/VarHandle" ∧ (parseMethodDescriptor yJxf58ca_isNaN_12338.desc).map (fun d => d.parameters.length) = some 1 := by decide +kernel
theorem hdS_JF_floatToIntBits : yJxf58ca_floatToIntBits_5c35a.cls ≠ "java/lang/invoke/MethodHandle" ∧ yJxf58ca_floatToIntBits_5c35a.cls ≠ "java/lang/invoke/VarHandle" ∧ (parseMethodDescriptor yJxf58ca_floatToIntBits_5c35a.desc).map (fun d => d.parameters.length) = some 1 := by decide +kernel
theorem hdS_JD_isNaN : yJxe99ae_isNaN_b9ae7.cls ≠ "java/lang/invoke/MethodHandle" ∧ yJxe99ae_isNaN_b9ae7.cls ≠ "java/lang/invoke/VarHandle" ∧ (parseMethodDescriptor yJxe99ae_isNaN_b9ae7.desc).map (fun d => d.parameters.length) = some 1 := by decide +kernel
theorem hdS_JD_doubleToLongBits : yJxe99ae_doubleToLongBits_ccdee.cls ≠ "java/lang/invoke/MethodHandle" ∧ yJxe99ae_doubleToLongBits_ccdee.cls ≠ "java/lang/invoke/VarHandle" ∧ (parseMethodDescriptor yJxe99ae_doubleToLongBits_ccdee.desc).map (fun d => d.parameters.length) = some 1 := by decide +kernel
set_option maxHeartbeats 4000000 in
set_option maxRecDepth 100000 in
theorem met_JF_isNaN (l : Launch) (D : va_G) (cA : Nat → ClassId) (ws : va_W) (x : UInt32) (hn : FP.Core.val32 x ≠ .nan) : MetI l yJxf58ca_isNaN_12338 (.code yJxf58ca_isNaN_12338 cJxf58ca_isNaN_12338 1 (some .boolean) :: LW) ({ frames := 0, cells := 0, slots := 0, locals := 0 }) D cA (ws) [.float x] (fun r (_ : Unit) => r = 0) (fun _ => ws) 0 0 := by
  refine k_bodyI (by decide +kernel) (Nat.le_of_ble_eq_true rfl) (fun p e s m args below meth c ls F hW hl => ?_)
  obtain ⟨hx, hb, hr, hml, hown, hts, hlocks, hname⟩ := id F
  have hl : lv_has ls 1 [(0, .float x)] := hl
  refine lv_fload_n hx hb dJxf58ca_isNaN_12338_0 rfl (lv_at hl 0 rfl) ?_
  refine lv_fload_n hx hb dJxf58ca_isNaN_12338_1 rfl (lv_at hl 0 rfl) ?_
  refine lv_fcmp hx hb dJxf58ca_isNaN_12338_2 ?_
  refine lv_topi (fun x_213 ex_213 => ?_)
  obtain rfl : x_213 = 0 := ex_213.trans (by rw [show FP.fcmp x x = some .eq from FP.Core.fcmp_self hn]; rfl)
  refine lv_if_eq (tgt := 10) hx hb dJxf58ca_isNaN_12338_3 (by decide) (fun _ => ?_) (fun h => absurd (rfl) h)
  refine lv_iconst (v := 0) hx hb dJxf58ca_isNaN_12338_10 (by decide) ?_
  exact k_zret () F (rfl) (hW) (rfl) dJxf58ca_isNaN_12338_11 (Nat.le_of_ble_eq_true rfl) (Nat.le_of_ble_eq_true rfl)

set_option maxHeartbeats 4000000 in
set_option maxRecDepth 100000 in
theorem met_JF_floatToIntBits (l : Launch) (D : va_G) (cA : Nat → ClassId) (ws : va_W) (x : UInt32) (hn : FP.Core.val32 x ≠ .nan) : MetI l yJxf58ca_floatToIntBits_5c35a (.code yJxf58ca_floatToIntBits_5c35a cJxf58ca_floatToIntBits_5c35a 1 (some .int) :: LW) ({ frames := 1, cells := 0, slots := 0, locals := 30 }) D cA (ws) [.float x] (fun r (_ : Unit) => r = x.toInt32) (fun _ => ws) 0 0 := by
  refine k_bodyI (by decide +kernel) (Nat.le_of_ble_eq_true rfl) (fun p e s m args below meth c ls F hW hl => ?_)
  obtain ⟨hx, hb, hr, hml, hown, hts, hlocks, hname⟩ := id F
  have hl : lv_has ls 1 [(0, .float x)] := hl
  refine lv_fload_n hx hb dJxf58ca_floatToIntBits_5c35a_0 rfl (lv_at hl 0 rfl) ?_
  refine k_callSi (as := [.float x]) (rest := []) F hW (met_JF_isNaN l D cA ws x hn) rfl ML_JF_59 ST_JF_isNaN IN_JF CO_JF_isNaN hdS_JF_isNaN rfl rfl ⟨(Nat.le_of_ble_eq_true rfl), (Nat.le_of_ble_eq_true rfl)⟩ rfl rfl hl.1 (Nat.le_of_ble_eq_true rfl) dJxf58ca_floatToIntBits_5c35a_1 ⟨(Nat.le_of_ble_eq_true rfl), (Nat.le_of_ble_eq_true rfl)⟩ (fun r_214 u H locs hw hW => ?_)
  subst hw
  refine lv_if_ne (tgt := 12) hx hb dJxf58ca_floatToIntBits_5c35a_4 (by decide) (fun h => absurd (by decide) h) (fun _ => ?_)
  refine lv_fload_n hx hb dJxf58ca_floatToIntBits_5c35a_7 rfl (lv_at hl 0 rfl) ?_
  refine vn_f2i hx hb (hml.trans hl.1.symm) hown (hts _ ML_JF_74) (hts _ NA_JF_floatToRawIntBits) (hts _ ST_JF_floatToRawIntBits) (hts _ IN_JF) (Nat.le_of_ble_eq_true rfl) (Nat.le_of_ble_eq_true rfl) dJxf58ca_floatToIntBits_5c35a_8 ?_
  exact k_iret () F (hW) (rfl) dJxf58ca_floatToIntBits_5c35a_11 (Nat.le_of_ble_eq_true rfl) (Nat.le_of_ble_eq_true rfl)

set_option maxHeartbeats 4000000 in
set_option maxRecDepth 100000 in
theorem met_JD_isNaN (l : Launch) (D : va_G) (cA : Nat → ClassId) (ws : va_W) (x : UInt64) (hn : FP.Core.val64 x ≠ .nan) : MetI l yJxe99ae_isNaN_b9ae7 (.code yJxe99ae_isNaN_b9ae7 cJxe99ae_isNaN_b9ae7 2 (some .boolean) :: LW) ({ frames := 0, cells := 0, slots := 0, locals := 0 }) D cA (ws) [.double x] (fun r (_ : Unit) => r = 0) (fun _ => ws) 0 0 := by
  refine k_bodyI (by decide +kernel) (Nat.le_of_ble_eq_true rfl) (fun p e s m args below meth c ls F hW hl => ?_)
  obtain ⟨hx, hb, hr, hml, hown, hts, hlocks, hname⟩ := id F
  have hl : lv_has ls 2 [(0, .double x)] := hl
  refine lv_dload_n hx hb dJxe99ae_isNaN_b9ae7_0 rfl (lv_at hl 0 rfl) ?_
  refine lv_dload_n hx hb dJxe99ae_isNaN_b9ae7_1 rfl (lv_at hl 0 rfl) ?_
  refine lv_dcmp hx hb dJxe99ae_isNaN_b9ae7_2 ?_
  refine lv_topi (fun x_215 ex_215 => ?_)
  obtain rfl : x_215 = 0 := ex_215.trans (by rw [show FP.dcmp x x = some .eq from FP.Core.dcmp_self hn]; rfl)
  refine lv_if_eq (tgt := 10) hx hb dJxe99ae_isNaN_b9ae7_3 (by decide) (fun _ => ?_) (fun h => absurd (rfl) h)
  refine lv_iconst (v := 0) hx hb dJxe99ae_isNaN_b9ae7_10 (by decide) ?_
  exact k_zret () F (rfl) (hW) (rfl) dJxe99ae_isNaN_b9ae7_11 (Nat.le_of_ble_eq_true rfl) (Nat.le_of_ble_eq_true rfl)

set_option maxHeartbeats 4000000 in
set_option maxRecDepth 100000 in
theorem met_JD_doubleToLongBits (l : Launch) (D : va_G) (cA : Nat → ClassId) (ws : va_W) (x : UInt64) (hn : FP.Core.val64 x ≠ .nan) : MetL l yJxe99ae_doubleToLongBits_ccdee (.code yJxe99ae_doubleToLongBits_ccdee cJxe99ae_doubleToLongBits_ccdee 2 (some .long) :: LW) ({ frames := 1, cells := 0, slots := 0, locals := 30 }) D cA (ws) [.double x] (fun r (_ : Unit) => r = x.toInt64) (fun _ => ws) 0 0 := by
  refine k_bodyL (by decide +kernel) (Nat.le_of_ble_eq_true rfl) (fun p e s m args below meth c ls F hW hl => ?_)
  obtain ⟨hx, hb, hr, hml, hown, hts, hlocks, hname⟩ := id F
  have hl : lv_has ls 2 [(0, .double x)] := hl
  refine lv_dload_n hx hb dJxe99ae_doubleToLongBits_ccdee_0 rfl (lv_at hl 0 rfl) ?_
  refine k_callSi (as := [.double x]) (rest := []) F hW (met_JD_isNaN l D cA ws x hn) rfl ML_JD_122 ST_JD_isNaN IN_JD CO_JD_isNaN hdS_JD_isNaN rfl rfl ⟨(Nat.le_of_ble_eq_true rfl), (Nat.le_of_ble_eq_true rfl)⟩ rfl rfl hl.1 (Nat.le_of_ble_eq_true rfl) dJxe99ae_doubleToLongBits_ccdee_1 ⟨(Nat.le_of_ble_eq_true rfl), (Nat.le_of_ble_eq_true rfl)⟩ (fun r_216 u H locs hw hW => ?_)
  subst hw
  refine lv_if_ne (tgt := 12) hx hb dJxe99ae_doubleToLongBits_ccdee_4 (by decide) (fun h => absurd (by decide) h) (fun _ => ?_)
  refine lv_dload_n hx hb dJxe99ae_doubleToLongBits_ccdee_7 rfl (lv_at hl 0 rfl) ?_
  refine vn_d2l hx hb (hml.trans hl.1.symm) hown (hts _ ML_JD_134) (hts _ NA_JD_doubleToRawLongBits) (hts _ ST_JD_doubleToRawLongBits) (hts _ IN_JD) (Nat.le_of_ble_eq_true rfl) (Nat.le_of_ble_eq_true rfl) dJxe99ae_doubleToLongBits_ccdee_8 ?_
  exact k_lret () F (hW) (rfl) dJxe99ae_doubleToLongBits_ccdee_11 (Nat.le_of_ble_eq_true rfl) (Nat.le_of_ble_eq_true rfl)

set_option maxHeartbeats 4000000 in
set_option maxRecDepth 100000 in
theorem met_X5_freshBits (l : Launch) (D : va_G) (cA : Nat → ClassId) (β : Nat → Nat) (c0 c1 : Nat × va_E) (wr : va_W) (th : Int32) (N : Nat → Nat → Nat) (R : Nat → Nat → Nat → Int32) (Fr : Nat → UInt32) (inc : Int64) (p0 : Int32) (hN : N 0 1 ≤ 20) (hL : ∀ j, j < N 0 1 → lotOK R Fr j) : MetI l yX5_freshBits (.code yX5_freshBits cX5_freshBits 2 (some .int) :: LW) ({ frames := 2, cells := 0, slots := 0, locals := 50 }) D cA (mWd cA β c0 c1 wr th (N, R, Fr, inc)) [.ref (β 0), .int p0] (fun r (_ : Unit) => r = (op_freshBits (N, R, Fr, inc) p0).2.1) (fun _ => mWd cA β c0 c1 wr (nI (op_freshBits (N, R, Fr, inc) p0).1) (op_freshBits (N, R, Fr, inc) p0).2.2) 0 0 := by
  refine k_bodyI (plainFor_of_name (by decide)) (Nat.le_of_ble_eq_true rfl) (fun p e s m args below meth c ls F hW hl => ?_)
  obtain ⟨hx, hb, hr, hml, hown, hts, hlocks, hname⟩ := id F
  have hl : lv_has ls 2 [(0, .ref (β 0)), (1, .int p0)] := hl
  refine lv_aload_n hx hb dX5_freshBits_0 rfl (lv_at hl 0 rfl) ?_
  refine lv_aload_n hx hb dX5_freshBits_1 rfl (lv_at hl 0 rfl) ?_
  refine lv_iload_n hx hb dX5_freshBits_2 rfl (lv_at hl 1 rfl) ?_
  refine k_callVi (as := [.int p0]) (rest := [.ref (β 0)]) (b := (β 0)) (ci := 7) (q0 := 2) F hW (met_X5_isLot l D cA β c0 c1 wr th N R Fr inc p0) rfl ML_X5_110 IM_X5_isLot SE_X5_isLot IN_X5 CO_X5_isLot hdV_X5_isLot rfl rfl ⟨(Nat.le_of_ble_eq_true rfl), (Nat.le_of_ble_eq_true rfl)⟩ rfl rfl (rfl) rfl rfl hl.1 (Nat.le_of_ble_eq_true rfl) dX5_freshBits_3 ⟨(Nat.le_of_ble_eq_true rfl), (Nat.le_of_ble_eq_true rfl)⟩ (fun r_217 u H locs hw hW => ?_)
  subst hw
  cases hq_218 : isIx (N 0 1) p0
  · refine lv_if_eq (tgt := 13) hx hb dX5_freshBits_6 (by decide) (fun _ => ?_) (fun h => absurd (by decide) h)
    refine lv_iconst (v := 1) hx hb dX5_freshBits_13 (by decide) ?_
    refine k_callVi (as := [.int 1]) (rest := []) (b := (β 0)) (ci := 7) (q0 := 2) F hW (met_X5_goesOn l D cA β c0 c1 wr th N R Fr inc 1) rfl ML_X5_93 IM_X5_goesOn SE_X5_goesOn IN_X5 CO_X5_goesOn hdV_X5_goesOn rfl rfl ⟨(Nat.le_of_ble_eq_true rfl), (Nat.le_of_ble_eq_true rfl)⟩ rfl rfl (rfl) rfl rfl hl.1 (Nat.le_of_ble_eq_true rfl) dX5_freshBits_14 ⟨(Nat.le_of_ble_eq_true rfl), (Nat.le_of_ble_eq_true rfl)⟩ (fun r_219 u H locs hw hW => ?_)
    subst hw
    refine lv_if_eq (tgt := 32) hx hb dX5_freshBits_17 (by decide) (fun _ => ?_) (fun h => absurd (by decide) h)
    refine lv_iconst (v := 0) hx hb dX5_freshBits_32 (by decide) ?_
    have hop : op_freshBits (N, R, Fr, inc) p0 = (1, 0, (N, R, Fr, inc)) := by simp [op_freshBits, hq_218]
    exact k_iret () F (hW.eq (by rw [hop]; rfl)) (by rw [hop]) dX5_freshBits_33 (Nat.le_of_ble_eq_true rfl) (Nat.le_of_ble_eq_true rfl)
  · refine lv_if_eq (tgt := 13) hx hb dX5_freshBits_6 (by decide) (fun h => absurd h (by decide)) (fun _ => ?_)
    refine lv_iconst (v := 0) hx hb dX5_freshBits_9 (by decide) ?_
    refine lv_goto (tgt := 14) hx hb dX5_freshBits_10 (by decide) ?_
    refine k_callVi (as := [.int 0]) (rest := []) (b := (β 0)) (ci := 7) (q0 := 2) F hW (met_X5_goesOn l D cA β c0 c1 wr th N R Fr inc 0) rfl ML_X5_93 IM_X5_goesOn SE_X5_goesOn IN_X5 CO_X5_goesOn hdV_X5_goesOn rfl rfl ⟨(Nat.le_of_ble_eq_true rfl), (Nat.le_of_ble_eq_true rfl)⟩ rfl rfl (rfl) rfl rfl hl.1 (Nat.le_of_ble_eq_true rfl) dX5_freshBits_14 ⟨(Nat.le_of_ble_eq_true rfl), (Nat.le_of_ble_eq_true rfl)⟩ (fun r_220 u H locs hw hW => ?_)
    subst hw
    refine lv_if_eq (tgt := 32) hx hb dX5_freshBits_17 (by decide) (fun h => absurd h (by decide)) (fun _ => ?_)
    refine lv_aload_n hx hb dX5_freshBits_20 rfl (lv_at hl 0 rfl) ?_
    refine k_get (v := .ref (β 8)) F hW inX5 rfl 2 rfl rfl 12 (by decide) FL_X5_33 rfl rfl dX5_freshBits_21 ?_
    refine lv_iload_n hx hb dX5_freshBits_24 rfl (lv_at hl 1 rfl) ?_
    refine k_fald (v := Fr (ix p0)) F hW 10 rfl (in1 hq_218 hN (by decide)) (rfl) dX5_freshBits_25 ?_
    have hfo := (hL _ (ix_lt hq_218 (by omega)).1).2.2.2.2.1
    refine k_callSi (as := [.float (Fr (ix p0))]) (rest := []) F hW (met_JF_floatToIntBits l D cA _ (Fr (ix p0)) (fo_fin hfo).ne_nan) rfl ML_X5_113 ST_JF_floatToIntBits IN_JF CO_JF_floatToIntBits hdS_JF_floatToIntBits rfl rfl ⟨(Nat.le_of_ble_eq_true rfl), (Nat.le_of_ble_eq_true rfl)⟩ rfl rfl hl.1 (Nat.le_of_ble_eq_true rfl) dX5_freshBits_26 ⟨(Nat.le_of_ble_eq_true rfl), (Nat.le_of_ble_eq_true rfl)⟩ (fun r_221 u H locs hw hW => ?_)
    subst hw
    refine lv_goto (tgt := 33) hx hb dX5_freshBits_29 (by decide) ?_
    have hop : op_freshBits (N, R, Fr, inc) p0 = (0, (Fr (ix p0)).toInt32, (N, R, Fr, inc)) := by simp [op_freshBits, hq_218]
    exact k_iret () F (hW.eq (by rw [hop]; rfl)) (by rw [hop]) dX5_freshBits_33 (Nat.le_of_ble_eq_true rfl) (Nat.le_of_ble_eq_true rfl)

set_option maxHeartbeats 4000000 in
set_option maxRecDepth 100000 in
theorem met_X5_spoiled (l : Launch) (D : va_G) (cA : Nat → ClassId) (β : Nat → Nat) (c0 c1 : Nat × va_E) (wr : va_W) (th : Int32) (N : Nat → Nat → Nat) (R : Nat → Nat → Nat → Int32) (Fr : Nat → UInt32) (inc : Int64) (hN : N 0 1 ≤ 20) (hL : ∀ j, j < N 0 1 → lotOK R Fr j) : MetI l yX5_spoiled (.code yX5_spoiled cX5_spoiled 3 (some .int) :: LW) ({ frames := 0, cells := 0, slots := 0, locals := 0 }) D cA (mWd cA β c0 c1 wr th (N, R, Fr, inc)) [.ref (β 0)] (fun r (_ : Unit) => r = wsum R (isBad R) (N 0 1)) (fun _ => mWd cA β c0 c1 wr 0 (N, R, Fr, inc)) 0 0 := by
  refine k_bodyI (plainFor_of_name (by decide)) (Nat.le_of_ble_eq_true rfl) (fun p e s m args below meth c ls F hW hl => ?_)
  obtain ⟨hx, hb, hr, hml, hown, hts, hlocks, hname⟩ := id F
  have hl : lv_has ls 3 [(0, .ref (β 0))] := hl
  refine lv_aload_n hx hb dX5_spoiled_0 rfl (lv_at hl 0 rfl) ?_
  refine lv_iconst (v := 0) hx hb dX5_spoiled_1 (by decide) ?_
  refine k_put F hW inX5 tyX5_ok nmX5 rfl 2 rfl rfl 0 (by decide) FL_X5_74 rfl rfl rfl rfl rfl (Nat.le_of_ble_eq_true rfl) (mWd cA β c0 c1 wr 0 (N, R, Fr, inc)) rfl dX5_spoiled_2 (fun H locs hW => ?_)
  refine lv_iconst (v := 0) hx hb dX5_spoiled_5 (by decide) ?_
  refine lv_istore_n (lv' := [(1, .int 0), (0, .ref (β 0))]) hx hb dX5_spoiled_6 rfl hl (by decide) rfl (fun ls hl => ?_)
  refine lv_iconst (v := 0) hx hb dX5_spoiled_7 (by decide) ?_
  refine lv_istore_n (lv' := [(2, .int 0), (1, .int 0), (0, .ref (β 0))]) hx hb dX5_spoiled_8 rfl hl (by decide) rfl (fun ls hl => ?_)
  refine k_ind (P := fun k H locs ls => ∃ i, i + k = N 0 1 ∧ Cw D cA s (va_A (mWd cA β c0 c1 wr th (N, R, Fr, inc)) s.heap.size) (mWd cA β c0 c1 wr 0 (N, R, Fr, inc)) H locs ∧ lv_has ls 3 [(0, .ref (β 0)), (1, .int (wsum R (isBad R) i)), (2, .int (nI i))]) (fun k ih H locs ls hP => ?_) (N 0 1) ⟨0, by omega, hW, lv_sub hl [2, 1, 0] rfl⟩
  obtain ⟨i, hi_i, hW, hl⟩ := hP
  refine lv_iload_n hx hb dX5_spoiled_9 rfl (lv_at hl 2 rfl) ?_
  refine lv_aload_n hx hb dX5_spoiled_10 rfl (lv_at hl 0 rfl) ?_
  refine k_get (v := .int (nI (N 0 1))) F hW inX5 rfl 2 rfl rfl 6 (by decide) FL_X5_84 rfl rfl dX5_spoiled_11 ?_
  refine lv_icmp_ge (tgt := 47) hx hb dX5_spoiled_14 (by decide) (fun h_c => ?_) (fun h_c => ?_)
  · obtain rfl : i = N 0 1 := by have := (nI_leI (by omega) (by omega)).mp h_c; omega
    refine lv_iload_n hx hb dX5_spoiled_47 rfl (lv_at hl 1 rfl) ?_
    exact k_iret () F (hW) (rfl) dX5_spoiled_48 (Nat.le_of_ble_eq_true rfl) (Nat.le_of_ble_eq_true rfl)
  · have hlt : i < N 0 1 := Nat.lt_of_not_le fun q => h_c (nI_le q (by omega))
    refine lv_iload_n hx hb dX5_spoiled_17 rfl (lv_at hl 1 rfl) ?_
    refine lv_aload_n hx hb dX5_spoiled_18 rfl (lv_at hl 0 rfl) ?_
    refine k_get (v := .ref (β 7)) F hW inX5 rfl 2 rfl rfl 11 (by decide) FL_X5_29 rfl rfl dX5_spoiled_19 ?_
    refine lv_iload_n hx hb dX5_spoiled_22 rfl (lv_at hl 2 rfl) ?_
    refine k_cald (v := R 9 i 0) F hW 9 rfl (vp_in_nI (by omega) (by decide)) (by rw [nI_clamp (by omega)]) dX5_spoiled_23 ?_
    refine lv_bipush (v := 120) hx hb dX5_spoiled_24 (by decide) ?_
    refine lv_icmp_ne (tgt := 38) hx hb dX5_spoiled_26 (by decide) (fun h_b => ?_) (fun h_b => ?_)
    · refine lv_iconst (v := 0) hx hb dX5_spoiled_38 (by decide) ?_
      refine lv_iadd hx hb dX5_spoiled_39 ?_
      refine lv_topi (fun x_222 ex_222 => ?_)
      obtain rfl : x_222 = wsum R (isBad R) (i + 1) := ex_222.trans (by simp [wsum, isBad, h_b])
      refine lv_istore_n (lv' := [(1, .int (wsum R (isBad R) (i + 1))), (0, .ref (β 0)), (2, .int (nI i))]) hx hb dX5_spoiled_40 rfl hl (by decide) rfl (fun ls hl => ?_)
      refine lv_iinc (k := 2) (lv' := [(2, .int (nI (i + 1))), (1, .int (wsum R (isBad R) (i + 1))), (0, .ref (β 0))]) hx hb dX5_spoiled_41 hl rfl (nI_1 i) (by decide) rfl (fun ls hl => ?_)
      refine lv_goto (tgt := 9) hx hb dX5_spoiled_44 (by decide) ?_
      exact ih (k - 1) (by omega) ⟨i + 1, by omega, hW, lv_sub hl [2, 1, 0] rfl⟩
    · refine lv_aload_n hx hb dX5_spoiled_29 rfl (lv_at hl 0 rfl) ?_
      refine k_get (v := .ref (β 5)) F hW inX5 rfl 2 rfl rfl 9 (by decide) FL_X5_22 rfl rfl dX5_spoiled_30 ?_
      refine lv_iload_n hx hb dX5_spoiled_33 rfl (lv_at hl 2 rfl) ?_
      refine k_iald (v := R 7 i 0) F hW 7 rfl (vp_in_nI (by omega) (by decide)) (by rw [nI_clamp (by omega)]) dX5_spoiled_34 ?_
      refine lv_goto (tgt := 39) hx hb dX5_spoiled_35 (by decide) ?_
      refine lv_iadd hx hb dX5_spoiled_39 ?_
      refine lv_topi (fun x_223 ex_223 => ?_)
      obtain rfl : x_223 = wsum R (isBad R) (i + 1) := ex_223.trans (by simp [wsum, isBad, h_b])
      refine lv_istore_n (lv' := [(1, .int (wsum R (isBad R) (i + 1))), (0, .ref (β 0)), (2, .int (nI i))]) hx hb dX5_spoiled_40 rfl hl (by decide) rfl (fun ls hl => ?_)
      refine lv_iinc (k := 2) (lv' := [(2, .int (nI (i + 1))), (1, .int (wsum R (isBad R) (i + 1))), (0, .ref (β 0))]) hx hb dX5_spoiled_41 hl rfl (nI_1 i) (by decide) rfl (fun ls hl => ?_)
      refine lv_goto (tgt := 9) hx hb dX5_spoiled_44 (by decide) ?_
      exact ih (k - 1) (by omega) ⟨i + 1, by omega, hW, lv_sub hl [2, 1, 0] rfl⟩

set_option maxHeartbeats 4000000 in
set_option maxRecDepth 100000 in
theorem met_X5_weights1 (l : Launch) (D : va_G) (cA : Nat → ClassId) (β : Nat → Nat) (c0 c1 : Nat × va_E) (wr : va_W) (th : Int32) (N : Nat → Nat → Nat) (R : Nat → Nat → Nat → Int32) (Fr : Nat → UInt32) (inc : Int64) (hN : N 0 1 ≤ 20) (hL : ∀ j, j < N 0 1 → lotOK R Fr j) : MetI l yX5_weights (.code yX5_weights cX5_weights 4 (some .int) :: LW) ({ frames := 1, cells := 0, slots := 0, locals := 21 }) D cA (mWd cA β c0 c1 wr th (N, R, Fr, inc)) [.ref (β 0), .int 1] (fun r (_ : Unit) => r = wsum R (isSold R) (N 0 1)) (fun _ => mWd cA β c0 c1 wr th (N, R, Fr, inc)) 0 0 := by
  refine k_bodyI (plainFor_of_name (by decide)) (Nat.le_of_ble_eq_true rfl) (fun p e s m args below meth c ls F hW hl => ?_)
  obtain ⟨hx, hb, hr, hml, hown, hts, hlocks, hname⟩ := id F
  have hl : lv_has ls 4 [(0, .ref (β 0)), (1, .int 1)] := hl
  refine lv_iconst (v := 0) hx hb dX5_weights_0 (by decide) ?_
  refine lv_istore_n (lv' := [(2, .int 0), (0, .ref (β 0)), (1, .int 1)]) hx hb dX5_weights_1 rfl hl (by decide) rfl (fun ls hl => ?_)
  refine lv_iconst (v := 0) hx hb dX5_weights_2 (by decide) ?_
  refine lv_istore_n (lv' := [(3, .int 0), (2, .int 0), (0, .ref (β 0)), (1, .int 1)]) hx hb dX5_weights_3 rfl hl (by decide) rfl (fun ls hl => ?_)
  refine k_ind (P := fun k H locs ls => ∃ i, i + k = N 0 1 ∧ Cw D cA s (va_A (mWd cA β c0 c1 wr th (N, R, Fr, inc)) s.heap.size) (mWd cA β c0 c1 wr th (N, R, Fr, inc)) H locs ∧ lv_has ls 4 [(0, .ref (β 0)), (1, .int 1), (2, .int (wsum R (isSold R) i)), (3, .int (nI i))]) (fun k ih H locs ls hP => ?_) (N 0 1) ⟨0, by omega, hW, lv_sub hl [2, 3, 1, 0] rfl⟩
  obtain ⟨i, hi_i, hW, hl⟩ := hP
  refine lv_iload_n hx hb dX5_weights_4 rfl (lv_at hl 3 rfl) ?_
  refine lv_aload_n hx hb dX5_weights_5 rfl (lv_at hl 0 rfl) ?_
  refine k_get (v := .int (nI (N 0 1))) F hW inX5 rfl 2 rfl rfl 6 (by decide) FL_X5_84 rfl rfl dX5_weights_6 ?_
  refine lv_icmp_ge (tgt := 43) hx hb dX5_weights_9 (by decide) (fun h_c => ?_) (fun h_c => ?_)
  · obtain rfl : i = N 0 1 := by have := (nI_leI (by omega) (by omega)).mp h_c; omega
    refine lv_iload_n hx hb dX5_weights_43 rfl (lv_at hl 2 rfl) ?_
    exact k_iret () F (hW) (rfl) dX5_weights_44 (Nat.le_of_ble_eq_true rfl) (Nat.le_of_ble_eq_true rfl)
  · have hlt : i < N 0 1 := Nat.lt_of_not_le fun q => h_c (nI_le q (by omega))
    refine lv_iload_n hx hb dX5_weights_12 rfl (lv_at hl 2 rfl) ?_
    refine lv_iload_n hx hb dX5_weights_13 rfl (lv_at hl 1 rfl) ?_
    refine lv_if_eq (tgt := 25) hx hb dX5_weights_14 (by decide) (fun h => absurd h (by decide)) (fun _ => ?_)
    refine lv_aload_n hx hb dX5_weights_17 rfl (lv_at hl 0 rfl) ?_
    refine lv_iload_n hx hb dX5_weights_18 rfl (lv_at hl 3 rfl) ?_
    refine k_callVi (as := [.int (nI i)]) (rest := [.int (wsum R (isSold R) i)]) (b := (β 0)) (ci := 7) (q0 := 2) F hW (met_X5_isSold l D cA β c0 c1 wr th N R Fr inc (nI i) hN (isIx_t hlt (by omega))) rfl ML_X5_169 IM_X5_isSold SE_X5_isSold IN_X5 CO_X5_isSold hdV_X5_isSold rfl rfl ⟨(Nat.le_of_ble_eq_true rfl), (Nat.le_of_ble_eq_true rfl)⟩ rfl rfl (rfl) rfl rfl hl.1 (Nat.le_of_ble_eq_true rfl) dX5_weights_19 ⟨(Nat.le_of_ble_eq_true rfl), (Nat.le_of_ble_eq_true rfl)⟩ (fun r_224 u H locs hw hW => ?_)
    rw [ix_nI (by omega)] at hw
    subst hw
    cases hs : isSold R i
    · refine lv_if_eq (tgt := 34) hx hb dX5_weights_22 (by decide) (fun _ => ?_) (fun h => absurd (rfl) h)
      refine lv_iconst (v := 0) hx hb dX5_weights_34 (by decide) ?_
      refine lv_iadd hx hb dX5_weights_35 ?_
      refine lv_topi (fun x_225 ex_225 => ?_)
      obtain rfl : x_225 = wsum R (isSold R) (i + 1) := ex_225.trans (by simp [wsum, hs])
      refine lv_istore_n (lv' := [(2, .int (wsum R (isSold R) (i + 1))), (0, .ref (β 0)), (1, .int 1), (3, .int (nI i))]) hx hb dX5_weights_36 rfl hl (by decide) rfl (fun ls hl => ?_)
      refine lv_iinc (k := 3) (lv' := [(3, .int (nI (i + 1))), (2, .int (wsum R (isSold R) (i + 1))), (0, .ref (β 0)), (1, .int 1)]) hx hb dX5_weights_37 hl rfl (nI_1 i) (by decide) rfl (fun ls hl => ?_)
      refine lv_goto (tgt := 4) hx hb dX5_weights_40 (by decide) ?_
      exact ih (k - 1) (by omega) ⟨i + 1, by omega, hW, lv_sub hl [2, 3, 1, 0] rfl⟩
    · refine lv_if_eq (tgt := 34) hx hb dX5_weights_22 (by decide) (fun h => absurd h (by decide)) (fun _ => ?_)
      refine lv_aload_n hx hb dX5_weights_25 rfl (lv_at hl 0 rfl) ?_
      refine k_get (v := .ref (β 5)) F hW inX5 rfl 2 rfl rfl 9 (by decide) FL_X5_22 rfl rfl dX5_weights_26 ?_
      refine lv_iload_n hx hb dX5_weights_29 rfl (lv_at hl 3 rfl) ?_
      refine k_iald (v := R 7 i 0) F hW 7 rfl (vp_in_nI (by omega) (by decide)) (by rw [nI_clamp (by omega)]) dX5_weights_30 ?_
      refine lv_goto (tgt := 35) hx hb dX5_weights_31 (by decide) ?_
      refine lv_iadd hx hb dX5_weights_35 ?_
      refine lv_topi (fun x_226 ex_226 => ?_)
      obtain rfl : x_226 = wsum R (isSold R) (i + 1) := ex_226.trans (by simp [wsum, hs])
      refine lv_istore_n (lv' := [(2, .int (wsum R (isSold R) (i + 1))), (0, .ref (β 0)), (1, .int 1), (3, .int (nI i))]) hx hb dX5_weights_36 rfl hl (by decide) rfl (fun ls hl => ?_)
      refine lv_iinc (k := 3) (lv' := [(3, .int (nI (i + 1))), (2, .int (wsum R (isSold R) (i + 1))), (0, .ref (β 0)), (1, .int 1)]) hx hb dX5_weights_37 hl rfl (nI_1 i) (by decide) rfl (fun ls hl => ?_)
      refine lv_goto (tgt := 4) hx hb dX5_weights_40 (by decide) ?_
      exact ih (k - 1) (by omega) ⟨i + 1, by omega, hW, lv_sub hl [2, 3, 1, 0] rfl⟩

set_option maxHeartbeats 4000000 in
set_option maxRecDepth 100000 in
theorem met_X5_weights0 (l : Launch) (D : va_G) (cA : Nat → ClassId) (β : Nat → Nat) (c0 c1 : Nat × va_E) (wr : va_W) (th : Int32) (N : Nat → Nat → Nat) (R : Nat → Nat → Nat → Int32) (Fr : Nat → UInt32) (inc : Int64) (hN : N 0 1 ≤ 20) (hL : ∀ j, j < N 0 1 → lotOK R Fr j) : MetI l yX5_weights (.code yX5_weights cX5_weights 4 (some .int) :: LW) ({ frames := 1, cells := 0, slots := 0, locals := 21 }) D cA (mWd cA β c0 c1 wr th (N, R, Fr, inc)) [.ref (β 0), .int 0] (fun r (_ : Unit) => r = wsum R (fun _ => true) (N 0 1)) (fun _ => mWd cA β c0 c1 wr th (N, R, Fr, inc)) 0 0 := by
  refine k_bodyI (plainFor_of_name (by decide)) (Nat.le_of_ble_eq_true rfl) (fun p e s m args below meth c ls F hW hl => ?_)
  obtain ⟨hx, hb, hr, hml, hown, hts, hlocks, hname⟩ := id F
  have hl : lv_has ls 4 [(0, .ref (β 0)), (1, .int 0)] := hl
  refine lv_iconst (v := 0) hx hb dX5_weights_0 (by decide) ?_
  refine lv_istore_n (lv' := [(2, .int 0), (0, .ref (β 0)), (1, .int 0)]) hx hb dX5_weights_1 rfl hl (by decide) rfl (fun ls hl => ?_)
  refine lv_iconst (v := 0) hx hb dX5_weights_2 (by decide) ?_
  refine lv_istore_n (lv' := [(3, .int 0), (2, .int 0), (0, .ref (β 0)), (1, .int 0)]) hx hb dX5_weights_3 rfl hl (by decide) rfl (fun ls hl => ?_)
  refine k_ind (P := fun k H locs ls => ∃ i, i + k = N 0 1 ∧ Cw D cA s (va_A (mWd cA β c0 c1 wr th (N, R, Fr, inc)) s.heap.size) (mWd cA β c0 c1 wr th (N, R, Fr, inc)) H locs ∧ lv_has ls 4 [(0, .ref (β 0)), (1, .int 0), (2, .int (wsum R (fun _ => true) i)), (3, .int (nI i))]) (fun k ih H locs ls hP => ?_) (N 0 1) ⟨0, by omega, hW, lv_sub hl [2, 3, 1, 0] rfl⟩
  obtain ⟨i, hi_i, hW, hl⟩ := hP
  refine lv_iload_n hx hb dX5_weights_4 rfl (lv_at hl 3 rfl) ?_
  refine lv_aload_n hx hb dX5_weights_5 rfl (lv_at hl 0 rfl) ?_
  refine k_get (v := .int (nI (N 0 1))) F hW inX5 rfl 2 rfl rfl 6 (by decide) FL_X5_84 rfl rfl dX5_weights_6 ?_
  refine lv_icmp_ge (tgt := 43) hx hb dX5_weights_9 (by decide) (fun h_c => ?_) (fun h_c => ?_)
  · obtain rfl : i = N 0 1 := by have := (nI_leI (by omega) (by omega)).mp h_c; omega
    refine lv_iload_n hx hb dX5_weights_43 rfl (lv_at hl 2 rfl) ?_
    exact k_iret () F (hW) (rfl) dX5_weights_44 (Nat.le_of_ble_eq_true rfl) (Nat.le_of_ble_eq_true rfl)
  · have hlt : i < N 0 1 := Nat.lt_of_not_le fun q => h_c (nI_le q (by omega))
    refine lv_iload_n hx hb dX5_weights_12 rfl (lv_at hl 2 rfl) ?_
    refine lv_iload_n hx hb dX5_weights_13 rfl (lv_at hl 1 rfl) ?_
    refine lv_if_eq (tgt := 25) hx hb dX5_weights_14 (by decide) (fun _ => ?_) (fun h => absurd (by decide) h)
    refine lv_aload_n hx hb dX5_weights_25 rfl (lv_at hl 0 rfl) ?_
    refine k_get (v := .ref (β 5)) F hW inX5 rfl 2 rfl rfl 9 (by decide) FL_X5_22 rfl rfl dX5_weights_26 ?_
    refine lv_iload_n hx hb dX5_weights_29 rfl (lv_at hl 3 rfl) ?_
    refine k_iald (v := R 7 i 0) F hW 7 rfl (vp_in_nI (by omega) (by decide)) (by rw [nI_clamp (by omega)]) dX5_weights_30 ?_
    refine lv_goto (tgt := 35) hx hb dX5_weights_31 (by decide) ?_
    refine lv_iadd hx hb dX5_weights_35 ?_
    refine lv_topi (fun x_227 ex_227 => ?_)
    obtain rfl : x_227 = wsum R (fun _ => true) (i + 1) := ex_227.trans (by simp [wsum])
    refine lv_istore_n (lv' := [(2, .int (wsum R (fun _ => true) (i + 1))), (0, .ref (β 0)), (1, .int 0), (3, .int (nI i))]) hx hb dX5_weights_36 rfl hl (by decide) rfl (fun ls hl => ?_)
    refine lv_iinc (k := 3) (lv' := [(3, .int (nI (i + 1))), (2, .int (wsum R (fun _ => true) (i + 1))), (0, .ref (β 0)), (1, .int 0)]) hx hb dX5_weights_37 hl rfl (nI_1 i) (by decide) rfl (fun ls hl => ?_)
    refine lv_goto (tgt := 4) hx hb dX5_weights_40 (by decide) ?_
    exact ih (k - 1) (by omega) ⟨i + 1, by omega, hW, lv_sub hl [2, 3, 1, 0] rfl⟩
