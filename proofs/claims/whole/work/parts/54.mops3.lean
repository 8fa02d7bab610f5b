set_option maxHeartbeats 4000000 in
set_option maxRecDepth 100000 in
theorem met_X5_quotaAt (l : Launch) (D : va_G) (cA : Nat → ClassId) (β : Nat → Nat) (c0 c1 : Nat × va_E) (wr : va_W) (th : Int32) (N : Nat → Nat → Nat) (R : Nat → Nat → Nat → Int32) (Fr : Nat → UInt32) (inc : Int64) (p0 p1 p2 : Int32) (hN : N 0 0 ≤ 6) (hN4 : N 0 4 ≤ 19) : MetI l yX5_quotaAt (.code yX5_quotaAt cX5_quotaAt 5 (some .int) :: LW) ({ frames := 2, cells := 0, slots := 0, locals := 43 }) D cA (mWd cA β c0 c1 wr th (N, R, Fr, inc)) [.ref (β 0), .int p0, .int p1, .int p2] (fun r (_ : Unit) => r = (op_quotaAt (N, R, Fr, inc) p0 p1 p2).2.1) (fun _ => mWd cA β c0 c1 wr (nI (op_quotaAt (N, R, Fr, inc) p0 p1 p2).1) (op_quotaAt (N, R, Fr, inc) p0 p1 p2).2.2) 0 0 := by
  refine k_bodyI (plainFor_of_name (by decide)) (Nat.le_of_ble_eq_true rfl) (fun p e s m args below meth c ls F hW hl => ?_)
  obtain ⟨hx, hb, hr, hml, hown, hts, hlocks, hname⟩ := id F
  have hl : lv_has ls 5 [(0, .ref (β 0)), (1, .int p0), (2, .int p1), (3, .int p2)] := hl
  refine lv_aload_n hx hb dX5_quotaAt_0 rfl (lv_at hl 0 rfl) ?_
  refine lv_iload_n hx hb dX5_quotaAt_1 rfl (lv_at hl 1 rfl) ?_
  refine k_callVi (as := [.int p0]) (rest := []) (b := (β 0)) (ci := 7) (q0 := 2) F hW (met_X5_isBoat l D cA β c0 c1 wr th N R Fr inc p0) rfl ML_X5_100 IM_X5_isBoat SE_X5_isBoat IN_X5 CO_X5_isBoat hdV_X5_isBoat rfl rfl ⟨(Nat.le_of_ble_eq_true rfl), (Nat.le_of_ble_eq_true rfl)⟩ rfl rfl (rfl) rfl rfl hl.1 (Nat.le_of_ble_eq_true rfl) dX5_quotaAt_2 ⟨(Nat.le_of_ble_eq_true rfl), (Nat.le_of_ble_eq_true rfl)⟩ (fun r_86 u H locs hw hW => ?_)
  subst hw
  cases hq_87 : isIx (N 0 0) p0
  · refine lv_if_ne (tgt := 12) hx hb dX5_quotaAt_5 (by decide) (fun h => absurd (by decide) h) (fun _ => ?_)
    refine lv_iconst (v := 1) hx hb dX5_quotaAt_8 (by decide) ?_
    refine lv_goto (tgt := 42) hx hb dX5_quotaAt_9 (by decide) ?_
    refine lv_istore (lv' := [(4, .int 1), (0, .ref (β 0)), (1, .int p0), (2, .int p1), (3, .int p2)]) hx hb dX5_quotaAt_42 hl (by decide) rfl (fun ls hl => ?_)
    refine lv_aload_n hx hb dX5_quotaAt_44 rfl (lv_at hl 1 rfl) ?_
    refine lv_iload hx hb dX5_quotaAt_45 (lv_at hl 0 rfl) ?_
    refine k_callVi (as := [.int 1]) (rest := []) (b := (β 0)) (ci := 7) (q0 := 2) F hW (met_X5_goesOn l D cA β c0 c1 wr th N R Fr inc 1) rfl ML_X5_93 IM_X5_goesOn SE_X5_goesOn IN_X5 CO_X5_goesOn hdV_X5_goesOn rfl rfl ⟨(Nat.le_of_ble_eq_true rfl), (Nat.le_of_ble_eq_true rfl)⟩ rfl rfl (rfl) rfl rfl hl.1 (Nat.le_of_ble_eq_true rfl) dX5_quotaAt_47 ⟨(Nat.le_of_ble_eq_true rfl), (Nat.le_of_ble_eq_true rfl)⟩ (fun r_88 u H locs hw hW => ?_)
    subst hw
    refine lv_if_eq (tgt := 71) hx hb dX5_quotaAt_50 (by decide) (fun _ => ?_) (fun h => absurd (by decide) h)
    refine lv_iconst (v := 0) hx hb dX5_quotaAt_71 (by decide) ?_
    have hop : op_quotaAt (N, R, Fr, inc) p0 p1 p2 = (1, 0, (N, R, Fr, inc)) := by simp [op_quotaAt, hq_87]
    exact k_iret () F (hW.eq (by rw [hop]; rfl)) (by rw [hop]) dX5_quotaAt_72 (Nat.le_of_ble_eq_true rfl) (Nat.le_of_ble_eq_true rfl)
  · refine lv_if_ne (tgt := 12) hx hb dX5_quotaAt_5 (by decide) (fun _ => ?_) (fun h => absurd h (by decide))
    refine lv_iload_n hx hb dX5_quotaAt_12 rfl (lv_at hl 2 rfl) ?_
    refine k_callSi (as := [.int p1]) (rest := []) F hW (met_X5_isSpecies l D cA _ p1) rfl ML_X5_97 ST_X5_isSpecies IN_X5 CO_X5_isSpecies hdS_X5_isSpecies rfl rfl ⟨(Nat.le_of_ble_eq_true rfl), (Nat.le_of_ble_eq_true rfl)⟩ rfl rfl hl.1 (Nat.le_of_ble_eq_true rfl) dX5_quotaAt_13 ⟨(Nat.le_of_ble_eq_true rfl), (Nat.le_of_ble_eq_true rfl)⟩ (fun r_89 u H locs hw hW => ?_)
    subst hw
    cases hq_90 : wi p1 0 3
    · refine lv_if_ne (tgt := 23) hx hb dX5_quotaAt_16 (by decide) (fun h => absurd (by decide) h) (fun _ => ?_)
      refine lv_iconst (v := 2) hx hb dX5_quotaAt_19 (by decide) ?_
      refine lv_goto (tgt := 42) hx hb dX5_quotaAt_20 (by decide) ?_
      refine lv_istore (lv' := [(4, .int 2), (0, .ref (β 0)), (1, .int p0), (2, .int p1), (3, .int p2)]) hx hb dX5_quotaAt_42 hl (by decide) rfl (fun ls hl => ?_)
      refine lv_aload_n hx hb dX5_quotaAt_44 rfl (lv_at hl 1 rfl) ?_
      refine lv_iload hx hb dX5_quotaAt_45 (lv_at hl 0 rfl) ?_
      refine k_callVi (as := [.int 2]) (rest := []) (b := (β 0)) (ci := 7) (q0 := 2) F hW (met_X5_goesOn l D cA β c0 c1 wr th N R Fr inc 2) rfl ML_X5_93 IM_X5_goesOn SE_X5_goesOn IN_X5 CO_X5_goesOn hdV_X5_goesOn rfl rfl ⟨(Nat.le_of_ble_eq_true rfl), (Nat.le_of_ble_eq_true rfl)⟩ rfl rfl (rfl) rfl rfl hl.1 (Nat.le_of_ble_eq_true rfl) dX5_quotaAt_47 ⟨(Nat.le_of_ble_eq_true rfl), (Nat.le_of_ble_eq_true rfl)⟩ (fun r_91 u H locs hw hW => ?_)
      subst hw
      refine lv_if_eq (tgt := 71) hx hb dX5_quotaAt_50 (by decide) (fun _ => ?_) (fun h => absurd (by decide) h)
      refine lv_iconst (v := 0) hx hb dX5_quotaAt_71 (by decide) ?_
      have hop : op_quotaAt (N, R, Fr, inc) p0 p1 p2 = (2, 0, (N, R, Fr, inc)) := by simp [op_quotaAt, hq_87, hq_90]
      exact k_iret () F (hW.eq (by rw [hop]; rfl)) (by rw [hop]) dX5_quotaAt_72 (Nat.le_of_ble_eq_true rfl) (Nat.le_of_ble_eq_true rfl)
    · refine lv_if_ne (tgt := 23) hx hb dX5_quotaAt_16 (by decide) (fun _ => ?_) (fun h => absurd h (by decide))
      refine lv_iload_n hx hb dX5_quotaAt_23 rfl (lv_at hl 3 rfl) ?_
      refine lv_iconst (v := 0) hx hb dX5_quotaAt_24 (by decide) ?_
      refine lv_aload_n hx hb dX5_quotaAt_25 rfl (lv_at hl 0 rfl) ?_
      refine k_get (v := .int (nI (N 0 4))) F hW inX5 rfl 2 rfl rfl 4 (by decide) FL_X5_107 rfl rfl dX5_quotaAt_26 ?_
      refine lv_iconst (v := 1) hx hb dX5_quotaAt_29 (by decide) ?_
      refine lv_isub hx hb dX5_quotaAt_30 ?_
      refine k_callSi (as := [.int p2, .int 0, .int ((nI (N 0 4)) - 1)]) (rest := []) F hW (met_X5_in l D cA _ p2 0 ((nI (N 0 4)) - 1)) rfl ML_X5_80 ST_X5_in IN_X5 CO_X5_in hdS_X5_in rfl rfl ⟨(Nat.le_of_ble_eq_true rfl), (Nat.le_of_ble_eq_true rfl)⟩ rfl rfl hl.1 (Nat.le_of_ble_eq_true rfl) dX5_quotaAt_31 ⟨(Nat.le_of_ble_eq_true rfl), (Nat.le_of_ble_eq_true rfl)⟩ (fun r_92 u H locs hw hW => ?_)
      subst hw
      rw [show wi p2 0 ((nI (N 0 4)) - 1) = isIx (N 0 4) p2 from rfl]
      cases hq_93 : isIx (N 0 4) p2
      · refine lv_if_ne (tgt := 41) hx hb dX5_quotaAt_34 (by decide) (fun h => absurd (by decide) h) (fun _ => ?_)
        refine lv_iconst (v := 3) hx hb dX5_quotaAt_37 (by decide) ?_
        refine lv_goto (tgt := 42) hx hb dX5_quotaAt_38 (by decide) ?_
        refine lv_istore (lv' := [(4, .int 3), (0, .ref (β 0)), (1, .int p0), (2, .int p1), (3, .int p2)]) hx hb dX5_quotaAt_42 hl (by decide) rfl (fun ls hl => ?_)
        refine lv_aload_n hx hb dX5_quotaAt_44 rfl (lv_at hl 1 rfl) ?_
        refine lv_iload hx hb dX5_quotaAt_45 (lv_at hl 0 rfl) ?_
        refine k_callVi (as := [.int 3]) (rest := []) (b := (β 0)) (ci := 7) (q0 := 2) F hW (met_X5_goesOn l D cA β c0 c1 wr th N R Fr inc 3) rfl ML_X5_93 IM_X5_goesOn SE_X5_goesOn IN_X5 CO_X5_goesOn hdV_X5_goesOn rfl rfl ⟨(Nat.le_of_ble_eq_true rfl), (Nat.le_of_ble_eq_true rfl)⟩ rfl rfl (rfl) rfl rfl hl.1 (Nat.le_of_ble_eq_true rfl) dX5_quotaAt_47 ⟨(Nat.le_of_ble_eq_true rfl), (Nat.le_of_ble_eq_true rfl)⟩ (fun r_94 u H locs hw hW => ?_)
        subst hw
        refine lv_if_eq (tgt := 71) hx hb dX5_quotaAt_50 (by decide) (fun _ => ?_) (fun h => absurd (by decide) h)
        refine lv_iconst (v := 0) hx hb dX5_quotaAt_71 (by decide) ?_
        have hop : op_quotaAt (N, R, Fr, inc) p0 p1 p2 = (3, 0, (N, R, Fr, inc)) := by simp [op_quotaAt, hq_87, hq_90, hq_93]
        exact k_iret () F (hW.eq (by rw [hop]; rfl)) (by rw [hop]) dX5_quotaAt_72 (Nat.le_of_ble_eq_true rfl) (Nat.le_of_ble_eq_true rfl)
      · refine lv_if_ne (tgt := 41) hx hb dX5_quotaAt_34 (by decide) (fun _ => ?_) (fun h => absurd h (by decide))
        refine lv_iconst (v := 0) hx hb dX5_quotaAt_41 (by decide) ?_
        refine lv_istore (lv' := [(4, .int 0), (0, .ref (β 0)), (1, .int p0), (2, .int p1), (3, .int p2)]) hx hb dX5_quotaAt_42 hl (by decide) rfl (fun ls hl => ?_)
        refine lv_aload_n hx hb dX5_quotaAt_44 rfl (lv_at hl 1 rfl) ?_
        refine lv_iload hx hb dX5_quotaAt_45 (lv_at hl 0 rfl) ?_
        refine k_callVi (as := [.int 0]) (rest := []) (b := (β 0)) (ci := 7) (q0 := 2) F hW (met_X5_goesOn l D cA β c0 c1 wr th N R Fr inc 0) rfl ML_X5_93 IM_X5_goesOn SE_X5_goesOn IN_X5 CO_X5_goesOn hdV_X5_goesOn rfl rfl ⟨(Nat.le_of_ble_eq_true rfl), (Nat.le_of_ble_eq_true rfl)⟩ rfl rfl (rfl) rfl rfl hl.1 (Nat.le_of_ble_eq_true rfl) dX5_quotaAt_47 ⟨(Nat.le_of_ble_eq_true rfl), (Nat.le_of_ble_eq_true rfl)⟩ (fun r_95 u H locs hw hW => ?_)
        subst hw
        refine lv_if_eq (tgt := 71) hx hb dX5_quotaAt_50 (by decide) (fun h => absurd h (by decide)) (fun _ => ?_)
        refine lv_aload_n hx hb dX5_quotaAt_53 rfl (lv_at hl 1 rfl) ?_
        refine k_get (v := .ref (β 2)) F hW inX5 rfl 2 rfl rfl 3 (by decide) FL_X5_13 rfl rfl dX5_quotaAt_54 ?_
        refine lv_bipush (v := 24) hx hb dX5_quotaAt_57 (by decide) ?_
        refine lv_iload_n hx hb dX5_quotaAt_59 rfl (lv_at hl 4 rfl) ?_
        refine lv_imul hx hb dX5_quotaAt_60 ?_
        refine lv_iconst (v := 4) hx hb dX5_quotaAt_61 (by decide) ?_
        refine lv_iload_n hx hb dX5_quotaAt_62 rfl (lv_at hl 2 rfl) ?_
        refine lv_imul hx hb dX5_quotaAt_63 ?_
        refine lv_iadd hx hb dX5_quotaAt_64 ?_
        refine lv_iload_n hx hb dX5_quotaAt_65 rfl (lv_at hl 3 rfl) ?_
        refine lv_iadd hx hb dX5_quotaAt_66 ?_
        refine k_iald (v := R 2 (ix p2) (4 * ix p0 + ix p1)) F hW 4 rfl (in24 hq_93 hN4 hq_87 hN hq_90) (v24 (f := R 2) hq_93 hN4 hq_87 hN hq_90) dX5_quotaAt_67 ?_
        refine lv_goto (tgt := 72) hx hb dX5_quotaAt_68 (by decide) ?_
        have hop : op_quotaAt (N, R, Fr, inc) p0 p1 p2 = (0, (R 2 (ix p2) (4 * ix p0 + ix p1)), (N, R, Fr, inc)) := by simp [op_quotaAt, hq_87, hq_90, hq_93]
        exact k_iret () F (hW.eq (by rw [hop]; rfl)) (by rw [hop]) dX5_quotaAt_72 (Nat.le_of_ble_eq_true rfl) (Nat.le_of_ble_eq_true rfl)

set_option maxHeartbeats 4000000 in
set_option maxRecDepth 100000 in
theorem met_X5_ice (l : Launch) (D : va_G) (cA : Nat → ClassId) (β : Nat → Nat) (c0 c1 : Nat × va_E) (wr : va_W) (th : Int32) (N : Nat → Nat → Nat) (R : Nat → Nat → Nat → Int32) (Fr : Nat → UInt32) (inc : Int64) (p0 p1 : Int32) (hN : N 0 1 ≤ 20) : MetI l yX5_ice (.code yX5_ice cX5_ice 4 (some .int) :: LW) ({ frames := 2, cells := 0, slots := 0, locals := 43 }) D cA (mWd cA β c0 c1 wr th (N, R, Fr, inc)) [.ref (β 0), .int p0, .int p1] (fun r (_ : Unit) => r = (op_ice (N, R, Fr, inc) p0 p1).2.1) (fun _ => mWd cA β c0 c1 wr (nI (op_ice (N, R, Fr, inc) p0 p1).1) (op_ice (N, R, Fr, inc) p0 p1).2.2) 0 0 := by
  refine k_bodyI (plainFor_of_name (by decide)) (Nat.le_of_ble_eq_true rfl) (fun p e s m args below meth c ls F hW hl => ?_)
  obtain ⟨hx, hb, hr, hml, hown, hts, hlocks, hname⟩ := id F
  have hl : lv_has ls 4 [(0, .ref (β 0)), (1, .int p0), (2, .int p1)] := hl
  refine lv_aload_n hx hb dX5_ice_0 rfl (lv_at hl 0 rfl) ?_
  refine lv_iload_n hx hb dX5_ice_1 rfl (lv_at hl 1 rfl) ?_
  refine k_callVi (as := [.int p0]) (rest := []) (b := (β 0)) (ci := 7) (q0 := 2) F hW (met_X5_isLot l D cA β c0 c1 wr th N R Fr inc p0) rfl ML_X5_110 IM_X5_isLot SE_X5_isLot IN_X5 CO_X5_isLot hdV_X5_isLot rfl rfl ⟨(Nat.le_of_ble_eq_true rfl), (Nat.le_of_ble_eq_true rfl)⟩ rfl rfl (rfl) rfl rfl hl.1 (Nat.le_of_ble_eq_true rfl) dX5_ice_2 ⟨(Nat.le_of_ble_eq_true rfl), (Nat.le_of_ble_eq_true rfl)⟩ (fun r_96 u H locs hw hW => ?_)
  subst hw
  cases hq_97 : isIx (N 0 1) p0
  · refine lv_if_ne (tgt := 12) hx hb dX5_ice_5 (by decide) (fun h => absurd (by decide) h) (fun _ => ?_)
    refine lv_iconst (v := 1) hx hb dX5_ice_8 (by decide) ?_
    refine lv_goto (tgt := 54) hx hb dX5_ice_9 (by decide) ?_
    refine lv_istore_n (lv' := [(3, .int 1), (0, .ref (β 0)), (1, .int p0), (2, .int p1)]) hx hb dX5_ice_54 rfl hl (by decide) rfl (fun ls hl => ?_)
    refine lv_aload_n hx hb dX5_ice_55 rfl (lv_at hl 1 rfl) ?_
    refine lv_iload_n hx hb dX5_ice_56 rfl (lv_at hl 0 rfl) ?_
    refine k_callVi (as := [.int 1]) (rest := []) (b := (β 0)) (ci := 7) (q0 := 2) F hW (met_X5_goesOn l D cA β c0 c1 wr th N R Fr inc 1) rfl ML_X5_93 IM_X5_goesOn SE_X5_goesOn IN_X5 CO_X5_goesOn hdV_X5_goesOn rfl rfl ⟨(Nat.le_of_ble_eq_true rfl), (Nat.le_of_ble_eq_true rfl)⟩ rfl rfl (rfl) rfl rfl hl.1 (Nat.le_of_ble_eq_true rfl) dX5_ice_57 ⟨(Nat.le_of_ble_eq_true rfl), (Nat.le_of_ble_eq_true rfl)⟩ (fun r_98 u H locs hw hW => ?_)
    subst hw
    refine lv_if_ne (tgt := 65) hx hb dX5_ice_60 (by decide) (fun h => absurd (by decide) h) (fun _ => ?_)
    refine lv_iconst (v := 0) hx hb dX5_ice_63 (by decide) ?_
    have hop : op_ice (N, R, Fr, inc) p0 p1 = (1, 0, (N, R, Fr, inc)) := by simp [op_ice, hq_97]
    exact k_iret () F (hW.eq (by rw [hop]; rfl)) (by rw [hop]) dX5_ice_64 (Nat.le_of_ble_eq_true rfl) (Nat.le_of_ble_eq_true rfl)
  · refine lv_if_ne (tgt := 12) hx hb dX5_ice_5 (by decide) (fun _ => ?_) (fun h => absurd h (by decide))
    refine lv_iload_n hx hb dX5_ice_12 rfl (lv_at hl 2 rfl) ?_
    refine lv_iconst (v := 1) hx hb dX5_ice_13 (by decide) ?_
    refine lv_sipush (v := 999) hx hb dX5_ice_14 (by decide) ?_
    refine k_callSi (as := [.int p1, .int 1, .int 999]) (rest := []) F hW (met_X5_in l D cA _ p1 1 999) rfl ML_X5_80 ST_X5_in IN_X5 CO_X5_in hdS_X5_in rfl rfl ⟨(Nat.le_of_ble_eq_true rfl), (Nat.le_of_ble_eq_true rfl)⟩ rfl rfl hl.1 (Nat.le_of_ble_eq_true rfl) dX5_ice_17 ⟨(Nat.le_of_ble_eq_true rfl), (Nat.le_of_ble_eq_true rfl)⟩ (fun r_99 u H locs hw hW => ?_)
    subst hw
    cases hq_100 : wi p1 1 999
    · refine lv_if_ne (tgt := 27) hx hb dX5_ice_20 (by decide) (fun h => absurd (by decide) h) (fun _ => ?_)
      refine lv_iconst (v := 2) hx hb dX5_ice_23 (by decide) ?_
      refine lv_goto (tgt := 54) hx hb dX5_ice_24 (by decide) ?_
      refine lv_istore_n (lv' := [(3, .int 2), (0, .ref (β 0)), (1, .int p0), (2, .int p1)]) hx hb dX5_ice_54 rfl hl (by decide) rfl (fun ls hl => ?_)
      refine lv_aload_n hx hb dX5_ice_55 rfl (lv_at hl 1 rfl) ?_
      refine lv_iload_n hx hb dX5_ice_56 rfl (lv_at hl 0 rfl) ?_
      refine k_callVi (as := [.int 2]) (rest := []) (b := (β 0)) (ci := 7) (q0 := 2) F hW (met_X5_goesOn l D cA β c0 c1 wr th N R Fr inc 2) rfl ML_X5_93 IM_X5_goesOn SE_X5_goesOn IN_X5 CO_X5_goesOn hdV_X5_goesOn rfl rfl ⟨(Nat.le_of_ble_eq_true rfl), (Nat.le_of_ble_eq_true rfl)⟩ rfl rfl (rfl) rfl rfl hl.1 (Nat.le_of_ble_eq_true rfl) dX5_ice_57 ⟨(Nat.le_of_ble_eq_true rfl), (Nat.le_of_ble_eq_true rfl)⟩ (fun r_101 u H locs hw hW => ?_)
      subst hw
      refine lv_if_ne (tgt := 65) hx hb dX5_ice_60 (by decide) (fun h => absurd (by decide) h) (fun _ => ?_)
      refine lv_iconst (v := 0) hx hb dX5_ice_63 (by decide) ?_
      have hop : op_ice (N, R, Fr, inc) p0 p1 = (2, 0, (N, R, Fr, inc)) := by simp [op_ice, hq_97, hq_100]
      exact k_iret () F (hW.eq (by rw [hop]; rfl)) (by rw [hop]) dX5_ice_64 (Nat.le_of_ble_eq_true rfl) (Nat.le_of_ble_eq_true rfl)
    · refine lv_if_ne (tgt := 27) hx hb dX5_ice_20 (by decide) (fun _ => ?_) (fun h => absurd h (by decide))
      refine lv_aload_n hx hb dX5_ice_27 rfl (lv_at hl 0 rfl) ?_
      refine k_get (v := .ref (β 7)) F hW inX5 rfl 2 rfl rfl 11 (by decide) FL_X5_29 rfl rfl dX5_ice_28 ?_
      refine lv_iload_n hx hb dX5_ice_31 rfl (lv_at hl 1 rfl) ?_
      refine k_cald (v := R 9 (ix p0) 0) F hW 9 rfl (in1 hq_97 hN (by decide)) (rfl) dX5_ice_32 ?_
      refine lv_bipush (v := 100) hx hb dX5_ice_33 (by decide) ?_
      refine lv_icmp_eq (tgt := 49) hx hb dX5_ice_35 (by decide) (fun h_a => ?_) (fun h_a => ?_)
      · refine lv_iconst (v := 3) hx hb dX5_ice_49 (by decide) ?_
        refine lv_goto (tgt := 54) hx hb dX5_ice_50 (by decide) ?_
        refine lv_istore_n (lv' := [(3, .int 3), (0, .ref (β 0)), (1, .int p0), (2, .int p1)]) hx hb dX5_ice_54 rfl hl (by decide) rfl (fun ls hl => ?_)
        refine lv_aload_n hx hb dX5_ice_55 rfl (lv_at hl 1 rfl) ?_
        refine lv_iload_n hx hb dX5_ice_56 rfl (lv_at hl 0 rfl) ?_
        refine k_callVi (as := [.int 3]) (rest := []) (b := (β 0)) (ci := 7) (q0 := 2) F hW (met_X5_goesOn l D cA β c0 c1 wr th N R Fr inc 3) rfl ML_X5_93 IM_X5_goesOn SE_X5_goesOn IN_X5 CO_X5_goesOn hdV_X5_goesOn rfl rfl ⟨(Nat.le_of_ble_eq_true rfl), (Nat.le_of_ble_eq_true rfl)⟩ rfl rfl (rfl) rfl rfl hl.1 (Nat.le_of_ble_eq_true rfl) dX5_ice_57 ⟨(Nat.le_of_ble_eq_true rfl), (Nat.le_of_ble_eq_true rfl)⟩ (fun r_102 u H locs hw hW => ?_)
        subst hw
        refine lv_if_ne (tgt := 65) hx hb dX5_ice_60 (by decide) (fun h => absurd (by decide) h) (fun _ => ?_)
        refine lv_iconst (v := 0) hx hb dX5_ice_63 (by decide) ?_
        have hop : op_ice (N, R, Fr, inc) p0 p1 = (3, 0, (N, R, Fr, inc)) := by simp [op_ice, hq_97, hq_100, h_a]
        exact k_iret () F (hW.eq (by rw [hop]; rfl)) (by rw [hop]) dX5_ice_64 (Nat.le_of_ble_eq_true rfl) (Nat.le_of_ble_eq_true rfl)
      · refine lv_aload_n hx hb dX5_ice_38 rfl (lv_at hl 0 rfl) ?_
        refine k_get (v := .ref (β 7)) F hW inX5 rfl 2 rfl rfl 11 (by decide) FL_X5_29 rfl rfl dX5_ice_39 ?_
        refine lv_iload_n hx hb dX5_ice_42 rfl (lv_at hl 1 rfl) ?_
        refine k_cald (v := R 9 (ix p0) 0) F hW 9 rfl (in1 hq_97 hN (by decide)) (rfl) dX5_ice_43 ?_
        refine lv_bipush (v := 120) hx hb dX5_ice_44 (by decide) ?_
        refine lv_icmp_ne (tgt := 53) hx hb dX5_ice_46 (by decide) (fun h_b => ?_) (fun h_b => ?_)
        · refine lv_iconst (v := 0) hx hb dX5_ice_53 (by decide) ?_
          refine lv_istore_n (lv' := [(3, .int 0), (0, .ref (β 0)), (1, .int p0), (2, .int p1)]) hx hb dX5_ice_54 rfl hl (by decide) rfl (fun ls hl => ?_)
          refine lv_aload_n hx hb dX5_ice_55 rfl (lv_at hl 1 rfl) ?_
          refine lv_iload_n hx hb dX5_ice_56 rfl (lv_at hl 0 rfl) ?_
          refine k_callVi (as := [.int 0]) (rest := []) (b := (β 0)) (ci := 7) (q0 := 2) F hW (met_X5_goesOn l D cA β c0 c1 wr th N R Fr inc 0) rfl ML_X5_93 IM_X5_goesOn SE_X5_goesOn IN_X5 CO_X5_goesOn hdV_X5_goesOn rfl rfl ⟨(Nat.le_of_ble_eq_true rfl), (Nat.le_of_ble_eq_true rfl)⟩ rfl rfl (rfl) rfl rfl hl.1 (Nat.le_of_ble_eq_true rfl) dX5_ice_57 ⟨(Nat.le_of_ble_eq_true rfl), (Nat.le_of_ble_eq_true rfl)⟩ (fun r_103 u H locs hw hW => ?_)
          subst hw
          refine lv_if_ne (tgt := 65) hx hb dX5_ice_60 (by decide) (fun _ => ?_) (fun h => absurd h (by decide))
          refine lv_aload_n hx hb dX5_ice_65 rfl (lv_at hl 1 rfl) ?_
          refine k_get (v := .ref (β 9)) F hW inX5 rfl 2 rfl rfl 13 (by decide) FL_X5_37 rfl rfl dX5_ice_66 ?_
          refine lv_iload_n hx hb dX5_ice_69 rfl (lv_at hl 2 rfl) ?_
          refine lv_dup2_11 hx hb dX5_ice_70 rfl rfl ?_
          refine k_iald (v := R 10 (ix p0) 0) F hW 11 rfl (in1 hq_97 hN (by decide)) (rfl) dX5_ice_71 ?_
          refine lv_iload_n hx hb dX5_ice_72 rfl (lv_at hl 3 rfl) ?_
          refine lv_iadd hx hb dX5_ice_73 ?_
          refine k_iast F hW 11 rfl (in1 hq_97 hN (by decide)) (mWd cA β c0 c1 wr 0 (N, up3 R 10 (ix p0) 0 (R 10 (ix p0) 0 + p1), Fr, inc)) (by rw [u1' R 10 (ix p0) p0 _ rfl]; rfl) dX5_ice_74 (fun H locs hW => ?_)
          refine lv_aload_n hx hb dX5_ice_75 rfl (lv_at hl 1 rfl) ?_
          refine k_get (v := .ref (β 9)) F hW inX5 rfl 2 rfl rfl 13 (by decide) FL_X5_37 rfl rfl dX5_ice_76 ?_
          refine lv_iload_n hx hb dX5_ice_79 rfl (lv_at hl 2 rfl) ?_
          refine k_iald (v := R 10 (ix p0) 0 + p1) F hW 11 rfl (in1 hq_97 hN (by decide)) (by simp [up3, ix]) dX5_ice_80 ?_
          have hop : op_ice (N, R, Fr, inc) p0 p1 = (0, (R 10 (ix p0) 0 + p1), (N, up3 R 10 (ix p0) 0 (R 10 (ix p0) 0 + p1), Fr, inc)) := by simp [op_ice, hq_97, hq_100, h_a, h_b]
          exact k_iret () F (hW.eq (by rw [hop]; rfl)) (by rw [hop]) dX5_ice_81 (Nat.le_of_ble_eq_true rfl) (Nat.le_of_ble_eq_true rfl)
        · refine lv_iconst (v := 3) hx hb dX5_ice_49 (by decide) ?_
          refine lv_goto (tgt := 54) hx hb dX5_ice_50 (by decide) ?_
          refine lv_istore_n (lv' := [(3, .int 3), (0, .ref (β 0)), (1, .int p0), (2, .int p1)]) hx hb dX5_ice_54 rfl hl (by decide) rfl (fun ls hl => ?_)
          refine lv_aload_n hx hb dX5_ice_55 rfl (lv_at hl 1 rfl) ?_
          refine lv_iload_n hx hb dX5_ice_56 rfl (lv_at hl 0 rfl) ?_
          refine k_callVi (as := [.int 3]) (rest := []) (b := (β 0)) (ci := 7) (q0 := 2) F hW (met_X5_goesOn l D cA β c0 c1 wr th N R Fr inc 3) rfl ML_X5_93 IM_X5_goesOn SE_X5_goesOn IN_X5 CO_X5_goesOn hdV_X5_goesOn rfl rfl ⟨(Nat.le_of_ble_eq_true rfl), (Nat.le_of_ble_eq_true rfl)⟩ rfl rfl (rfl) rfl rfl hl.1 (Nat.le_of_ble_eq_true rfl) dX5_ice_57 ⟨(Nat.le_of_ble_eq_true rfl), (Nat.le_of_ble_eq_true rfl)⟩ (fun r_104 u H locs hw hW => ?_)
          subst hw
          refine lv_if_ne (tgt := 65) hx hb dX5_ice_60 (by decide) (fun h => absurd (by decide) h) (fun _ => ?_)
          refine lv_iconst (v := 0) hx hb dX5_ice_63 (by decide) ?_
          have hop : op_ice (N, R, Fr, inc) p0 p1 = (3, 0, (N, R, Fr, inc)) := by simp [op_ice, hq_97, hq_100, h_a, h_b]
          exact k_iret () F (hW.eq (by rw [hop]; rfl)) (by rw [hop]) dX5_ice_64 (Nat.le_of_ble_eq_true rfl) (Nat.le_of_ble_eq_true rfl)

set_option maxHeartbeats 4000000 in
set_option maxRecDepth 100000 in
theorem met_X5_moveQuota (l : Launch) (D : va_G) (cA : Nat → ClassId) (β : Nat → Nat) (c0 c1 : Nat × va_E) (wr : va_W) (th : Int32) (N : Nat → Nat → Nat) (R : Nat → Nat → Nat → Int32) (Fr : Nat → UInt32) (inc : Int64) (p0 p1 p2 p3 : Int32) (hN : N 0 0 ≤ 6) : MetI l yX5_moveQuota (.code yX5_moveQuota cX5_moveQuota 6 (some .int) :: LW) ({ frames := 2, cells := 0, slots := 0, locals := 43 }) D cA (mWd cA β c0 c1 wr th (N, R, Fr, inc)) [.ref (β 0), .int p0, .int p1, .int p2, .int p3] (fun r (_ : Unit) => r = (op_moveQuota (N, R, Fr, inc) p0 p1 p2 p3).2.1) (fun _ => mWd cA β c0 c1 wr (nI (op_moveQuota (N, R, Fr, inc) p0 p1 p2 p3).1) (op_moveQuota (N, R, Fr, inc) p0 p1 p2 p3).2.2) 0 0 := by
  refine k_bodyI (plainFor_of_name (by decide)) (Nat.le_of_ble_eq_true rfl) (fun p e s m args below meth c ls F hW hl => ?_)
  obtain ⟨hx, hb, hr, hml, hown, hts, hlocks, hname⟩ := id F
  have hl : lv_has ls 6 [(0, .ref (β 0)), (1, .int p0), (2, .int p1), (3, .int p2), (4, .int p3)] := hl
  refine lv_aload_n hx hb dX5_moveQuota_0 rfl (lv_at hl 0 rfl) ?_
  refine lv_iload_n hx hb dX5_moveQuota_1 rfl (lv_at hl 1 rfl) ?_
  refine k_callVi (as := [.int p0]) (rest := []) (b := (β 0)) (ci := 7) (q0 := 2) F hW (met_X5_isBoat l D cA β c0 c1 wr th N R Fr inc p0) rfl ML_X5_100 IM_X5_isBoat SE_X5_isBoat IN_X5 CO_X5_isBoat hdV_X5_isBoat rfl rfl ⟨(Nat.le_of_ble_eq_true rfl), (Nat.le_of_ble_eq_true rfl)⟩ rfl rfl (rfl) rfl rfl hl.1 (Nat.le_of_ble_eq_true rfl) dX5_moveQuota_2 ⟨(Nat.le_of_ble_eq_true rfl), (Nat.le_of_ble_eq_true rfl)⟩ (fun r_105 u H locs hw hW => ?_)
  subst hw
  cases hq_106 : isIx (N 0 0) p0
  · refine lv_if_eq (tgt := 16) hx hb dX5_moveQuota_5 (by decide) (fun _ => ?_) (fun h => absurd (by decide) h)
    refine lv_iconst (v := 1) hx hb dX5_moveQuota_16 (by decide) ?_
    refine lv_goto (tgt := 68) hx hb dX5_moveQuota_17 (by decide) ?_
    refine lv_istore (lv' := [(5, .int 1), (0, .ref (β 0)), (1, .int p0), (2, .int p1), (3, .int p2), (4, .int p3)]) hx hb dX5_moveQuota_68 hl (by decide) rfl (fun ls hl => ?_)
    refine lv_aload_n hx hb dX5_moveQuota_70 rfl (lv_at hl 1 rfl) ?_
    refine lv_iload hx hb dX5_moveQuota_71 (lv_at hl 0 rfl) ?_
    refine k_callVi (as := [.int 1]) (rest := []) (b := (β 0)) (ci := 7) (q0 := 2) F hW (met_X5_goesOn l D cA β c0 c1 wr th N R Fr inc 1) rfl ML_X5_93 IM_X5_goesOn SE_X5_goesOn IN_X5 CO_X5_goesOn hdV_X5_goesOn rfl rfl ⟨(Nat.le_of_ble_eq_true rfl), (Nat.le_of_ble_eq_true rfl)⟩ rfl rfl (rfl) rfl rfl hl.1 (Nat.le_of_ble_eq_true rfl) dX5_moveQuota_73 ⟨(Nat.le_of_ble_eq_true rfl), (Nat.le_of_ble_eq_true rfl)⟩ (fun r_107 u H locs hw hW => ?_)
    subst hw
    refine lv_if_ne (tgt := 81) hx hb dX5_moveQuota_76 (by decide) (fun h => absurd (by decide) h) (fun _ => ?_)
    refine lv_iconst (v := 0) hx hb dX5_moveQuota_79 (by decide) ?_
    have hop : op_moveQuota (N, R, Fr, inc) p0 p1 p2 p3 = (1, 0, (N, R, Fr, inc)) := by simp [op_moveQuota, hq_106]
    exact k_iret () F (hW.eq (by rw [hop]; rfl)) (by rw [hop]) dX5_moveQuota_80 (Nat.le_of_ble_eq_true rfl) (Nat.le_of_ble_eq_true rfl)
  · refine lv_if_eq (tgt := 16) hx hb dX5_moveQuota_5 (by decide) (fun h => absurd h (by decide)) (fun _ => ?_)
    refine lv_aload_n hx hb dX5_moveQuota_8 rfl (lv_at hl 0 rfl) ?_
    refine lv_iload_n hx hb dX5_moveQuota_9 rfl (lv_at hl 2 rfl) ?_
    refine k_callVi (as := [.int p1]) (rest := []) (b := (β 0)) (ci := 7) (q0 := 2) F hW (met_X5_isBoat l D cA β c0 c1 wr th N R Fr inc p1) rfl ML_X5_100 IM_X5_isBoat SE_X5_isBoat IN_X5 CO_X5_isBoat hdV_X5_isBoat rfl rfl ⟨(Nat.le_of_ble_eq_true rfl), (Nat.le_of_ble_eq_true rfl)⟩ rfl rfl (rfl) rfl rfl hl.1 (Nat.le_of_ble_eq_true rfl) dX5_moveQuota_10 ⟨(Nat.le_of_ble_eq_true rfl), (Nat.le_of_ble_eq_true rfl)⟩ (fun r_108 u H locs hw hW => ?_)
    subst hw
    cases hq_109 : isIx (N 0 0) p1
    · refine lv_if_ne (tgt := 20) hx hb dX5_moveQuota_13 (by decide) (fun h => absurd (by decide) h) (fun _ => ?_)
      refine lv_iconst (v := 1) hx hb dX5_moveQuota_16 (by decide) ?_
      refine lv_goto (tgt := 68) hx hb dX5_moveQuota_17 (by decide) ?_
      refine lv_istore (lv' := [(5, .int 1), (0, .ref (β 0)), (1, .int p0), (2, .int p1), (3, .int p2), (4, .int p3)]) hx hb dX5_moveQuota_68 hl (by decide) rfl (fun ls hl => ?_)
      refine lv_aload_n hx hb dX5_moveQuota_70 rfl (lv_at hl 1 rfl) ?_
      refine lv_iload hx hb dX5_moveQuota_71 (lv_at hl 0 rfl) ?_
      refine k_callVi (as := [.int 1]) (rest := []) (b := (β 0)) (ci := 7) (q0 := 2) F hW (met_X5_goesOn l D cA β c0 c1 wr th N R Fr inc 1) rfl ML_X5_93 IM_X5_goesOn SE_X5_goesOn IN_X5 CO_X5_goesOn hdV_X5_goesOn rfl rfl ⟨(Nat.le_of_ble_eq_true rfl), (Nat.le_of_ble_eq_true rfl)⟩ rfl rfl (rfl) rfl rfl hl.1 (Nat.le_of_ble_eq_true rfl) dX5_moveQuota_73 ⟨(Nat.le_of_ble_eq_true rfl), (Nat.le_of_ble_eq_true rfl)⟩ (fun r_110 u H locs hw hW => ?_)
      subst hw
      refine lv_if_ne (tgt := 81) hx hb dX5_moveQuota_76 (by decide) (fun h => absurd (by decide) h) (fun _ => ?_)
      refine lv_iconst (v := 0) hx hb dX5_moveQuota_79 (by decide) ?_
      have hop : op_moveQuota (N, R, Fr, inc) p0 p1 p2 p3 = (1, 0, (N, R, Fr, inc)) := by simp [op_moveQuota, hq_106, hq_109]
      exact k_iret () F (hW.eq (by rw [hop]; rfl)) (by rw [hop]) dX5_moveQuota_80 (Nat.le_of_ble_eq_true rfl) (Nat.le_of_ble_eq_true rfl)
    · refine lv_if_ne (tgt := 20) hx hb dX5_moveQuota_13 (by decide) (fun _ => ?_) (fun h => absurd h (by decide))
      refine lv_iload_n hx hb dX5_moveQuota_20 rfl (lv_at hl 1 rfl) ?_
      refine lv_iload_n hx hb dX5_moveQuota_21 rfl (lv_at hl 2 rfl) ?_
      refine lv_icmp_eq (tgt := 44) hx hb dX5_moveQuota_22 (by decide) (fun h_e => ?_) (fun h_e => ?_)
      · refine lv_iconst (v := 2) hx hb dX5_moveQuota_44 (by decide) ?_
        refine lv_goto (tgt := 68) hx hb dX5_moveQuota_45 (by decide) ?_
        refine lv_istore (lv' := [(5, .int 2), (0, .ref (β 0)), (1, .int p0), (2, .int p1), (3, .int p2), (4, .int p3)]) hx hb dX5_moveQuota_68 hl (by decide) rfl (fun ls hl => ?_)
        refine lv_aload_n hx hb dX5_moveQuota_70 rfl (lv_at hl 1 rfl) ?_
        refine lv_iload hx hb dX5_moveQuota_71 (lv_at hl 0 rfl) ?_
        refine k_callVi (as := [.int 2]) (rest := []) (b := (β 0)) (ci := 7) (q0 := 2) F hW (met_X5_goesOn l D cA β c0 c1 wr th N R Fr inc 2) rfl ML_X5_93 IM_X5_goesOn SE_X5_goesOn IN_X5 CO_X5_goesOn hdV_X5_goesOn rfl rfl ⟨(Nat.le_of_ble_eq_true rfl), (Nat.le_of_ble_eq_true rfl)⟩ rfl rfl (rfl) rfl rfl hl.1 (Nat.le_of_ble_eq_true rfl) dX5_moveQuota_73 ⟨(Nat.le_of_ble_eq_true rfl), (Nat.le_of_ble_eq_true rfl)⟩ (fun r_111 u H locs hw hW => ?_)
        subst hw
        refine lv_if_ne (tgt := 81) hx hb dX5_moveQuota_76 (by decide) (fun h => absurd (by decide) h) (fun _ => ?_)
        refine lv_iconst (v := 0) hx hb dX5_moveQuota_79 (by decide) ?_
        have hop : op_moveQuota (N, R, Fr, inc) p0 p1 p2 p3 = (2, 0, (N, R, Fr, inc)) := by simp [op_moveQuota, hq_106, hq_109, h_e]
        exact k_iret () F (hW.eq (by rw [hop]; rfl)) (by rw [hop]) dX5_moveQuota_80 (Nat.le_of_ble_eq_true rfl) (Nat.le_of_ble_eq_true rfl)
      · refine lv_iload_n hx hb dX5_moveQuota_25 rfl (lv_at hl 3 rfl) ?_
        refine k_callSi (as := [.int p2]) (rest := []) F hW (met_X5_isSpecies l D cA _ p2) rfl ML_X5_97 ST_X5_isSpecies IN_X5 CO_X5_isSpecies hdS_X5_isSpecies rfl rfl ⟨(Nat.le_of_ble_eq_true rfl), (Nat.le_of_ble_eq_true rfl)⟩ rfl rfl hl.1 (Nat.le_of_ble_eq_true rfl) dX5_moveQuota_26 ⟨(Nat.le_of_ble_eq_true rfl), (Nat.le_of_ble_eq_true rfl)⟩ (fun r_112 u H locs hw hW => ?_)
        subst hw
        cases hq_113 : wi p2 0 3
        · refine lv_if_eq (tgt := 44) hx hb dX5_moveQuota_29 (by decide) (fun _ => ?_) (fun h => absurd (by decide) h)
          refine lv_iconst (v := 2) hx hb dX5_moveQuota_44 (by decide) ?_
          refine lv_goto (tgt := 68) hx hb dX5_moveQuota_45 (by decide) ?_
          refine lv_istore (lv' := [(5, .int 2), (0, .ref (β 0)), (1, .int p0), (2, .int p1), (3, .int p2), (4, .int p3)]) hx hb dX5_moveQuota_68 hl (by decide) rfl (fun ls hl => ?_)
          refine lv_aload_n hx hb dX5_moveQuota_70 rfl (lv_at hl 1 rfl) ?_
          refine lv_iload hx hb dX5_moveQuota_71 (lv_at hl 0 rfl) ?_
          refine k_callVi (as := [.int 2]) (rest := []) (b := (β 0)) (ci := 7) (q0 := 2) F hW (met_X5_goesOn l D cA β c0 c1 wr th N R Fr inc 2) rfl ML_X5_93 IM_X5_goesOn SE_X5_goesOn IN_X5 CO_X5_goesOn hdV_X5_goesOn rfl rfl ⟨(Nat.le_of_ble_eq_true rfl), (Nat.le_of_ble_eq_true rfl)⟩ rfl rfl (rfl) rfl rfl hl.1 (Nat.le_of_ble_eq_true rfl) dX5_moveQuota_73 ⟨(Nat.le_of_ble_eq_true rfl), (Nat.le_of_ble_eq_true rfl)⟩ (fun r_114 u H locs hw hW => ?_)
          subst hw
          refine lv_if_ne (tgt := 81) hx hb dX5_moveQuota_76 (by decide) (fun h => absurd (by decide) h) (fun _ => ?_)
          refine lv_iconst (v := 0) hx hb dX5_moveQuota_79 (by decide) ?_
          have hop : op_moveQuota (N, R, Fr, inc) p0 p1 p2 p3 = (2, 0, (N, R, Fr, inc)) := by simp [op_moveQuota, hq_106, hq_109, h_e, hq_113]
          exact k_iret () F (hW.eq (by rw [hop]; rfl)) (by rw [hop]) dX5_moveQuota_80 (Nat.le_of_ble_eq_true rfl) (Nat.le_of_ble_eq_true rfl)
        · refine lv_if_eq (tgt := 44) hx hb dX5_moveQuota_29 (by decide) (fun h => absurd h (by decide)) (fun _ => ?_)
          refine lv_iload hx hb dX5_moveQuota_32 (lv_at hl 4 rfl) ?_
          refine lv_iconst (v := 1) hx hb dX5_moveQuota_34 (by decide) ?_
          refine lv_sipush (v := 9999) hx hb dX5_moveQuota_35 (by decide) ?_
          refine k_callSi (as := [.int p3, .int 1, .int 9999]) (rest := []) F hW (met_X5_in l D cA _ p3 1 9999) rfl ML_X5_80 ST_X5_in IN_X5 CO_X5_in hdS_X5_in rfl rfl ⟨(Nat.le_of_ble_eq_true rfl), (Nat.le_of_ble_eq_true rfl)⟩ rfl rfl hl.1 (Nat.le_of_ble_eq_true rfl) dX5_moveQuota_38 ⟨(Nat.le_of_ble_eq_true rfl), (Nat.le_of_ble_eq_true rfl)⟩ (fun r_115 u H locs hw hW => ?_)
          subst hw
          cases hq_116 : wi p3 1 9999
          · refine lv_if_ne (tgt := 48) hx hb dX5_moveQuota_41 (by decide) (fun h => absurd (by decide) h) (fun _ => ?_)
            refine lv_iconst (v := 2) hx hb dX5_moveQuota_44 (by decide) ?_
            refine lv_goto (tgt := 68) hx hb dX5_moveQuota_45 (by decide) ?_
            refine lv_istore (lv' := [(5, .int 2), (0, .ref (β 0)), (1, .int p0), (2, .int p1), (3, .int p2), (4, .int p3)]) hx hb dX5_moveQuota_68 hl (by decide) rfl (fun ls hl => ?_)
            refine lv_aload_n hx hb dX5_moveQuota_70 rfl (lv_at hl 1 rfl) ?_
            refine lv_iload hx hb dX5_moveQuota_71 (lv_at hl 0 rfl) ?_
            refine k_callVi (as := [.int 2]) (rest := []) (b := (β 0)) (ci := 7) (q0 := 2) F hW (met_X5_goesOn l D cA β c0 c1 wr th N R Fr inc 2) rfl ML_X5_93 IM_X5_goesOn SE_X5_goesOn IN_X5 CO_X5_goesOn hdV_X5_goesOn rfl rfl ⟨(Nat.le_of_ble_eq_true rfl), (Nat.le_of_ble_eq_true rfl)⟩ rfl rfl (rfl) rfl rfl hl.1 (Nat.le_of_ble_eq_true rfl) dX5_moveQuota_73 ⟨(Nat.le_of_ble_eq_true rfl), (Nat.le_of_ble_eq_true rfl)⟩ (fun r_117 u H locs hw hW => ?_)
            subst hw
            refine lv_if_ne (tgt := 81) hx hb dX5_moveQuota_76 (by decide) (fun h => absurd (by decide) h) (fun _ => ?_)
            refine lv_iconst (v := 0) hx hb dX5_moveQuota_79 (by decide) ?_
            have hop : op_moveQuota (N, R, Fr, inc) p0 p1 p2 p3 = (2, 0, (N, R, Fr, inc)) := by simp [op_moveQuota, hq_106, hq_109, h_e, hq_113, hq_116]
            exact k_iret () F (hW.eq (by rw [hop]; rfl)) (by rw [hop]) dX5_moveQuota_80 (Nat.le_of_ble_eq_true rfl) (Nat.le_of_ble_eq_true rfl)
          · refine lv_if_ne (tgt := 48) hx hb dX5_moveQuota_41 (by decide) (fun _ => ?_) (fun h => absurd h (by decide))
            refine lv_aload_n hx hb dX5_moveQuota_48 rfl (lv_at hl 0 rfl) ?_
            refine k_get (v := .ref (β 1)) F hW inX5 rfl 2 rfl rfl 2 (by decide) FL_X5_9 rfl rfl dX5_moveQuota_49 ?_
            refine lv_iconst (v := 4) hx hb dX5_moveQuota_52 (by decide) ?_
            refine lv_iload_n hx hb dX5_moveQuota_53 rfl (lv_at hl 1 rfl) ?_
            refine lv_imul hx hb dX5_moveQuota_54 ?_
            refine lv_iload_n hx hb dX5_moveQuota_55 rfl (lv_at hl 3 rfl) ?_
            refine lv_iadd hx hb dX5_moveQuota_56 ?_
            refine k_iald (v := R 1 (ix p0) (ix p2)) F hW 3 rfl (in4 hq_106 (by omega) hq_113 (by omega) (by decide)) (v4 (f := R 1) hq_106 (by omega) hq_113) dX5_moveQuota_57 ?_
            refine lv_iload hx hb dX5_moveQuota_58 (lv_at hl 4 rfl) ?_
            refine lv_icmp_ge (tgt := 67) hx hb dX5_moveQuota_60 (by decide) (fun h_c => ?_) (fun h_c => ?_)
            · have h_d : ¬ R 1 (ix p0) (ix p2) < p3 := Int32.not_lt.mpr h_c
              refine lv_iconst (v := 0) hx hb dX5_moveQuota_67 (by decide) ?_
              refine lv_istore (lv' := [(5, .int 0), (0, .ref (β 0)), (1, .int p0), (2, .int p1), (3, .int p2), (4, .int p3)]) hx hb dX5_moveQuota_68 hl (by decide) rfl (fun ls hl => ?_)
              refine lv_aload_n hx hb dX5_moveQuota_70 rfl (lv_at hl 1 rfl) ?_
              refine lv_iload hx hb dX5_moveQuota_71 (lv_at hl 0 rfl) ?_
              refine k_callVi (as := [.int 0]) (rest := []) (b := (β 0)) (ci := 7) (q0 := 2) F hW (met_X5_goesOn l D cA β c0 c1 wr th N R Fr inc 0) rfl ML_X5_93 IM_X5_goesOn SE_X5_goesOn IN_X5 CO_X5_goesOn hdV_X5_goesOn rfl rfl ⟨(Nat.le_of_ble_eq_true rfl), (Nat.le_of_ble_eq_true rfl)⟩ rfl rfl (rfl) rfl rfl hl.1 (Nat.le_of_ble_eq_true rfl) dX5_moveQuota_73 ⟨(Nat.le_of_ble_eq_true rfl), (Nat.le_of_ble_eq_true rfl)⟩ (fun r_118 u H locs hw hW => ?_)
              subst hw
              refine lv_if_ne (tgt := 81) hx hb dX5_moveQuota_76 (by decide) (fun _ => ?_) (fun h => absurd h (by decide))
              refine lv_aload_n hx hb dX5_moveQuota_81 rfl (lv_at hl 1 rfl) ?_
              refine k_get (v := .ref (β 1)) F hW inX5 rfl 2 rfl rfl 2 (by decide) FL_X5_9 rfl rfl dX5_moveQuota_82 ?_
              refine lv_iconst (v := 4) hx hb dX5_moveQuota_85 (by decide) ?_
              refine lv_iload_n hx hb dX5_moveQuota_86 rfl (lv_at hl 2 rfl) ?_
              refine lv_imul hx hb dX5_moveQuota_87 ?_
              refine lv_iload_n hx hb dX5_moveQuota_88 rfl (lv_at hl 4 rfl) ?_
              refine lv_iadd hx hb dX5_moveQuota_89 ?_
              refine lv_dup2_11 hx hb dX5_moveQuota_90 rfl rfl ?_
              refine k_iald (v := R 1 (ix p0) (ix p2)) F hW 3 rfl (in4 hq_106 (by omega) hq_113 (by omega) (by decide)) (v4 (f := R 1) hq_106 (by omega) hq_113) dX5_moveQuota_91 ?_
              refine lv_iload hx hb dX5_moveQuota_92 (lv_at hl 5 rfl) ?_
              refine lv_isub hx hb dX5_moveQuota_94 ?_
              refine k_iast F hW 3 rfl (in4 hq_106 (by omega) hq_113 (by omega) (by decide)) (mWd cA β c0 c1 wr 0 (N, up3 R 1 (ix p0) (ix p2) (R 1 (ix p0) (ix p2) - p3), Fr, inc)) (by rw [ud4 R 1 _ hq_106 (by omega) hq_113]; rfl) dX5_moveQuota_95 (fun H locs hW => ?_)
              have h_x := ix_ne hq_106 hq_109 (by omega) h_e
              refine lv_aload_n hx hb dX5_moveQuota_96 rfl (lv_at hl 1 rfl) ?_
              refine k_get (v := .ref (β 1)) F hW inX5 rfl 2 rfl rfl 2 (by decide) FL_X5_9 rfl rfl dX5_moveQuota_97 ?_
              refine lv_iconst (v := 4) hx hb dX5_moveQuota_100 (by decide) ?_
              refine lv_iload_n hx hb dX5_moveQuota_101 rfl (lv_at hl 3 rfl) ?_
              refine lv_imul hx hb dX5_moveQuota_102 ?_
              refine lv_iload_n hx hb dX5_moveQuota_103 rfl (lv_at hl 4 rfl) ?_
              refine lv_iadd hx hb dX5_moveQuota_104 ?_
              refine lv_dup2_11 hx hb dX5_moveQuota_105 rfl rfl ?_
              refine k_iald (v := R 1 (ix p1) (ix p2)) F hW 3 rfl (in4 hq_109 (by omega) hq_113 (by omega) (by decide)) ((v4 (f := (up3 R 1 (ix p0) (ix p2) (R 1 (ix p0) (ix p2) - p3)) 1) hq_109 (by omega) hq_113).trans (by simp [up3, h_x])) dX5_moveQuota_106 ?_
              refine lv_iload hx hb dX5_moveQuota_107 (lv_at hl 5 rfl) ?_
              refine lv_iadd hx hb dX5_moveQuota_109 ?_
              refine k_iast F hW 3 rfl (in4 hq_109 (by omega) hq_113 (by omega) (by decide)) (mWd cA β c0 c1 wr 0 (N, up3 (up3 R 1 (ix p0) (ix p2) (R 1 (ix p0) (ix p2) - p3)) 1 (ix p1) (ix p2) (R 1 (ix p1) (ix p2) + p3), Fr, inc)) (by rw [ud4 (up3 R 1 (ix p0) (ix p2) (R 1 (ix p0) (ix p2) - p3)) 1 _ hq_109 (by omega) hq_113]; rfl) dX5_moveQuota_110 (fun H locs hW => ?_)
              refine lv_aload_n hx hb dX5_moveQuota_111 rfl (lv_at hl 1 rfl) ?_
              refine k_get (v := .ref (β 1)) F hW inX5 rfl 2 rfl rfl 2 (by decide) FL_X5_9 rfl rfl dX5_moveQuota_112 ?_
              refine lv_iconst (v := 4) hx hb dX5_moveQuota_115 (by decide) ?_
              refine lv_iload_n hx hb dX5_moveQuota_116 rfl (lv_at hl 2 rfl) ?_
              refine lv_imul hx hb dX5_moveQuota_117 ?_
              refine lv_iload_n hx hb dX5_moveQuota_118 rfl (lv_at hl 4 rfl) ?_
              refine lv_iadd hx hb dX5_moveQuota_119 ?_
              refine k_iald (v := R 1 (ix p0) (ix p2) - p3) F hW 3 rfl (in4 hq_106 (by omega) hq_113 (by omega) (by decide)) ((v4 (f := (up3 (up3 R 1 (ix p0) (ix p2) (R 1 (ix p0) (ix p2) - p3)) 1 (ix p1) (ix p2) (R 1 (ix p1) (ix p2) + p3)) 1) hq_106 (by omega) hq_113).trans (by simp [up3, Ne.symm h_x])) dX5_moveQuota_120 ?_
              have hop : op_moveQuota (N, R, Fr, inc) p0 p1 p2 p3 = (0, R 1 (ix p0) (ix p2) - p3, (N, up3 (up3 (up3 (up3 R 1 (ix p0) (ix p2) (R 1 (ix p0) (ix p2) - p3)) 1 (ix p1) (ix p2) (R 1 (ix p1) (ix p2) + p3)) 3 (ix p0) (ix p2) (R 3 (ix p0) (ix p2) - p3)) 3 (ix p1) (ix p2) (R 3 (ix p1) (ix p2) + p3), Fr, inc)) := by simp [op_moveQuota, hq_106, hq_109, h_e, hq_113, hq_116, h_d]
              exact k_iret () F (hW.eq (by rw [hop]; exact ((mWd_r3 ..).trans (mWd_r3 ..)).symm)) (by rw [hop]) dX5_moveQuota_121 (Nat.le_of_ble_eq_true rfl) (Nat.le_of_ble_eq_true rfl)
            · have h_d : R 1 (ix p0) (ix p2) < p3 := Int32.not_le.mp h_c
              refine lv_iconst (v := 3) hx hb dX5_moveQuota_63 (by decide) ?_
              refine lv_goto (tgt := 68) hx hb dX5_moveQuota_64 (by decide) ?_
              refine lv_istore (lv' := [(5, .int 3), (0, .ref (β 0)), (1, .int p0), (2, .int p1), (3, .int p2), (4, .int p3)]) hx hb dX5_moveQuota_68 hl (by decide) rfl (fun ls hl => ?_)
              refine lv_aload_n hx hb dX5_moveQuota_70 rfl (lv_at hl 1 rfl) ?_
              refine lv_iload hx hb dX5_moveQuota_71 (lv_at hl 0 rfl) ?_
              refine k_callVi (as := [.int 3]) (rest := []) (b := (β 0)) (ci := 7) (q0 := 2) F hW (met_X5_goesOn l D cA β c0 c1 wr th N R Fr inc 3) rfl ML_X5_93 IM_X5_goesOn SE_X5_goesOn IN_X5 CO_X5_goesOn hdV_X5_goesOn rfl rfl ⟨(Nat.le_of_ble_eq_true rfl), (Nat.le_of_ble_eq_true rfl)⟩ rfl rfl (rfl) rfl rfl hl.1 (Nat.le_of_ble_eq_true rfl) dX5_moveQuota_73 ⟨(Nat.le_of_ble_eq_true rfl), (Nat.le_of_ble_eq_true rfl)⟩ (fun r_119 u H locs hw hW => ?_)
              subst hw
              refine lv_if_ne (tgt := 81) hx hb dX5_moveQuota_76 (by decide) (fun h => absurd (by decide) h) (fun _ => ?_)
              refine lv_iconst (v := 0) hx hb dX5_moveQuota_79 (by decide) ?_
              have hop : op_moveQuota (N, R, Fr, inc) p0 p1 p2 p3 = (3, 0, (N, R, Fr, inc)) := by simp [op_moveQuota, hq_106, hq_109, h_e, hq_113, hq_116, h_d]
              exact k_iret () F (hW.eq (by rw [hop]; rfl)) (by rw [hop]) dX5_moveQuota_80 (Nat.le_of_ble_eq_true rfl) (Nat.le_of_ble_eq_true rfl)

set_option maxHeartbeats 4000000 in
set_option maxRecDepth 100000 in
theorem met_X5_lotOn (l : Launch) (D : va_G) (cA : Nat → ClassId) (β : Nat → Nat) (c0 c1 : Nat × va_E) (wr : va_W) (th : Int32) (N : Nat → Nat → Nat) (R : Nat → Nat → Nat → Int32) (Fr : Nat → UInt32) (inc : Int64) (p0 p1 : Int32) (hN : N 0 3 ≤ 4) (hN1 : ∀ t, N 1 t ≤ 5) : MetI l yX5_lotOn (.code yX5_lotOn cX5_lotOn 4 (some .int) :: LW) ({ frames := 2, cells := 0, slots := 0, locals := 43 }) D cA (mWd cA β c0 c1 wr th (N, R, Fr, inc)) [.ref (β 0), .int p0, .int p1] (fun r (_ : Unit) => r = (op_lotOn (N, R, Fr, inc) p0 p1).2.1) (fun _ => mWd cA β c0 c1 wr (nI (op_lotOn (N, R, Fr, inc) p0 p1).1) (op_lotOn (N, R, Fr, inc) p0 p1).2.2) 0 0 := by
  refine k_bodyI (plainFor_of_name (by decide)) (Nat.le_of_ble_eq_true rfl) (fun p e s m args below meth c ls F hW hl => ?_)
  obtain ⟨hx, hb, hr, hml, hown, hts, hlocks, hname⟩ := id F
  have hl : lv_has ls 4 [(0, .ref (β 0)), (1, .int p0), (2, .int p1)] := hl
  refine lv_aload_n hx hb dX5_lotOn_0 rfl (lv_at hl 0 rfl) ?_
  refine lv_iload_n hx hb dX5_lotOn_1 rfl (lv_at hl 1 rfl) ?_
  refine k_callVi (as := [.int p0]) (rest := []) (b := (β 0)) (ci := 7) (q0 := 2) F hW (met_X5_isTruck l D cA β c0 c1 wr th N R Fr inc p0) rfl ML_X5_166 IM_X5_isTruck SE_X5_isTruck IN_X5 CO_X5_isTruck hdV_X5_isTruck rfl rfl ⟨(Nat.le_of_ble_eq_true rfl), (Nat.le_of_ble_eq_true rfl)⟩ rfl rfl (rfl) rfl rfl hl.1 (Nat.le_of_ble_eq_true rfl) dX5_lotOn_2 ⟨(Nat.le_of_ble_eq_true rfl), (Nat.le_of_ble_eq_true rfl)⟩ (fun r_120 u H locs hw hW => ?_)
  subst hw
  cases hq_121 : isIx (N 0 3) p0
  · refine lv_if_ne (tgt := 12) hx hb dX5_lotOn_5 (by decide) (fun h => absurd (by decide) h) (fun _ => ?_)
    refine lv_iconst (v := 1) hx hb dX5_lotOn_8 (by decide) ?_
    refine lv_goto (tgt := 13) hx hb dX5_lotOn_9 (by decide) ?_
    refine lv_istore_n (lv' := [(3, .int 1), (0, .ref (β 0)), (1, .int p0), (2, .int p1)]) hx hb dX5_lotOn_13 rfl hl (by decide) rfl (fun ls hl => ?_)
    refine lv_iload_n hx hb dX5_lotOn_14 rfl (lv_at hl 0 rfl) ?_
    refine lv_if_ne (tgt := 38) hx hb dX5_lotOn_15 (by decide) (fun _ => ?_) (fun h => absurd h (by decide))
    refine lv_iload_n hx hb dX5_lotOn_38 rfl (lv_at hl 0 rfl) ?_
    refine lv_istore_n (lv' := [(3, .int 1), (0, .ref (β 0)), (1, .int p0), (2, .int p1)]) hx hb dX5_lotOn_39 rfl hl (by decide) rfl (fun ls hl => ?_)
    refine lv_aload_n hx hb dX5_lotOn_40 rfl (lv_at hl 1 rfl) ?_
    refine lv_iload_n hx hb dX5_lotOn_41 rfl (lv_at hl 0 rfl) ?_
    refine k_callVi (as := [.int 1]) (rest := []) (b := (β 0)) (ci := 7) (q0 := 2) F hW (met_X5_goesOn l D cA β c0 c1 wr th N R Fr inc 1) rfl ML_X5_93 IM_X5_goesOn SE_X5_goesOn IN_X5 CO_X5_goesOn hdV_X5_goesOn rfl rfl ⟨(Nat.le_of_ble_eq_true rfl), (Nat.le_of_ble_eq_true rfl)⟩ rfl rfl (rfl) rfl rfl hl.1 (Nat.le_of_ble_eq_true rfl) dX5_lotOn_42 ⟨(Nat.le_of_ble_eq_true rfl), (Nat.le_of_ble_eq_true rfl)⟩ (fun r_122 u H locs hw hW => ?_)
    subst hw
    refine lv_if_eq (tgt := 61) hx hb dX5_lotOn_45 (by decide) (fun _ => ?_) (fun h => absurd (by decide) h)
    refine lv_iconst (v := 0) hx hb dX5_lotOn_61 (by decide) ?_
    have hop : op_lotOn (N, R, Fr, inc) p0 p1 = (1, 0, (N, R, Fr, inc)) := by simp [op_lotOn, hq_121]
    exact k_iret () F (hW.eq (by rw [hop]; rfl)) (by rw [hop]) dX5_lotOn_62 (Nat.le_of_ble_eq_true rfl) (Nat.le_of_ble_eq_true rfl)
  · refine lv_if_ne (tgt := 12) hx hb dX5_lotOn_5 (by decide) (fun _ => ?_) (fun h => absurd h (by decide))
    refine lv_iconst (v := 0) hx hb dX5_lotOn_12 (by decide) ?_
    refine lv_istore_n (lv' := [(3, .int 0), (0, .ref (β 0)), (1, .int p0), (2, .int p1)]) hx hb dX5_lotOn_13 rfl hl (by decide) rfl (fun ls hl => ?_)
    refine lv_iload_n hx hb dX5_lotOn_14 rfl (lv_at hl 0 rfl) ?_
    refine lv_if_ne (tgt := 38) hx hb dX5_lotOn_15 (by decide) (fun h => absurd (by decide) h) (fun _ => ?_)
    refine lv_iload_n hx hb dX5_lotOn_18 rfl (lv_at hl 3 rfl) ?_
    refine lv_iconst (v := 0) hx hb dX5_lotOn_19 (by decide) ?_
    refine lv_aload_n hx hb dX5_lotOn_20 rfl (lv_at hl 1 rfl) ?_
    refine k_get (v := .ref (β 17)) F hW inX5 rfl 2 rfl rfl 27 (by decide) FL_X5_68 rfl rfl dX5_lotOn_21 ?_
    refine lv_iload_n hx hb dX5_lotOn_24 rfl (lv_at hl 2 rfl) ?_
    refine k_iald (v := nI (N 1 (ix p0))) F hW 19 rfl (in1 hq_121 hN (by decide)) (rfl) dX5_lotOn_25 ?_
    refine lv_iconst (v := 1) hx hb dX5_lotOn_26 (by decide) ?_
    refine lv_isub hx hb dX5_lotOn_27 ?_
    refine k_callSi (as := [.int p1, .int 0, .int ((nI (N 1 (ix p0))) - 1)]) (rest := []) F hW (met_X5_in l D cA _ p1 0 ((nI (N 1 (ix p0))) - 1)) rfl ML_X5_80 ST_X5_in IN_X5 CO_X5_in hdS_X5_in rfl rfl ⟨(Nat.le_of_ble_eq_true rfl), (Nat.le_of_ble_eq_true rfl)⟩ rfl rfl hl.1 (Nat.le_of_ble_eq_true rfl) dX5_lotOn_28 ⟨(Nat.le_of_ble_eq_true rfl), (Nat.le_of_ble_eq_true rfl)⟩ (fun r_123 u H locs hw hW => ?_)
    subst hw
    rw [show wi p1 0 ((nI (N 1 (ix p0))) - 1) = isIx (N 1 (ix p0)) p1 from rfl]
    cases hq_124 : isIx (N 1 (ix p0)) p1
    · refine lv_if_ne (tgt := 38) hx hb dX5_lotOn_31 (by decide) (fun h => absurd (by decide) h) (fun _ => ?_)
      refine lv_iconst (v := 2) hx hb dX5_lotOn_34 (by decide) ?_
      refine lv_goto (tgt := 39) hx hb dX5_lotOn_35 (by decide) ?_
      refine lv_istore_n (lv' := [(3, .int 2), (0, .ref (β 0)), (1, .int p0), (2, .int p1)]) hx hb dX5_lotOn_39 rfl hl (by decide) rfl (fun ls hl => ?_)
      refine lv_aload_n hx hb dX5_lotOn_40 rfl (lv_at hl 1 rfl) ?_
      refine lv_iload_n hx hb dX5_lotOn_41 rfl (lv_at hl 0 rfl) ?_
      refine k_callVi (as := [.int 2]) (rest := []) (b := (β 0)) (ci := 7) (q0 := 2) F hW (met_X5_goesOn l D cA β c0 c1 wr th N R Fr inc 2) rfl ML_X5_93 IM_X5_goesOn SE_X5_goesOn IN_X5 CO_X5_goesOn hdV_X5_goesOn rfl rfl ⟨(Nat.le_of_ble_eq_true rfl), (Nat.le_of_ble_eq_true rfl)⟩ rfl rfl (rfl) rfl rfl hl.1 (Nat.le_of_ble_eq_true rfl) dX5_lotOn_42 ⟨(Nat.le_of_ble_eq_true rfl), (Nat.le_of_ble_eq_true rfl)⟩ (fun r_125 u H locs hw hW => ?_)
      subst hw
      refine lv_if_eq (tgt := 61) hx hb dX5_lotOn_45 (by decide) (fun _ => ?_) (fun h => absurd (by decide) h)
      refine lv_iconst (v := 0) hx hb dX5_lotOn_61 (by decide) ?_
      have hop : op_lotOn (N, R, Fr, inc) p0 p1 = (2, 0, (N, R, Fr, inc)) := by simp [op_lotOn, hq_121, hq_124]
      exact k_iret () F (hW.eq (by rw [hop]; rfl)) (by rw [hop]) dX5_lotOn_62 (Nat.le_of_ble_eq_true rfl) (Nat.le_of_ble_eq_true rfl)
    · refine lv_if_ne (tgt := 38) hx hb dX5_lotOn_31 (by decide) (fun _ => ?_) (fun h => absurd h (by decide))
      refine lv_iload_n hx hb dX5_lotOn_38 rfl (lv_at hl 0 rfl) ?_
      refine lv_istore_n (lv' := [(3, .int 0), (0, .ref (β 0)), (1, .int p0), (2, .int p1)]) hx hb dX5_lotOn_39 rfl hl (by decide) rfl (fun ls hl => ?_)
      refine lv_aload_n hx hb dX5_lotOn_40 rfl (lv_at hl 1 rfl) ?_
      refine lv_iload_n hx hb dX5_lotOn_41 rfl (lv_at hl 0 rfl) ?_
      refine k_callVi (as := [.int 0]) (rest := []) (b := (β 0)) (ci := 7) (q0 := 2) F hW (met_X5_goesOn l D cA β c0 c1 wr th N R Fr inc 0) rfl ML_X5_93 IM_X5_goesOn SE_X5_goesOn IN_X5 CO_X5_goesOn hdV_X5_goesOn rfl rfl ⟨(Nat.le_of_ble_eq_true rfl), (Nat.le_of_ble_eq_true rfl)⟩ rfl rfl (rfl) rfl rfl hl.1 (Nat.le_of_ble_eq_true rfl) dX5_lotOn_42 ⟨(Nat.le_of_ble_eq_true rfl), (Nat.le_of_ble_eq_true rfl)⟩ (fun r_126 u H locs hw hW => ?_)
      subst hw
      refine lv_if_eq (tgt := 61) hx hb dX5_lotOn_45 (by decide) (fun h => absurd h (by decide)) (fun _ => ?_)
      refine lv_aload_n hx hb dX5_lotOn_48 rfl (lv_at hl 1 rfl) ?_
      refine k_get (v := .ref (β 18)) F hW inX5 rfl 2 rfl rfl 28 (by decide) FL_X5_71 rfl rfl dX5_lotOn_49 ?_
      refine lv_iconst (v := 5) hx hb dX5_lotOn_52 (by decide) ?_
      refine lv_iload_n hx hb dX5_lotOn_53 rfl (lv_at hl 2 rfl) ?_
      refine lv_imul hx hb dX5_lotOn_54 ?_
      refine lv_iload_n hx hb dX5_lotOn_55 rfl (lv_at hl 3 rfl) ?_
      refine lv_iadd hx hb dX5_lotOn_56 ?_
      refine k_iald (v := R 18 (ix p0) (ix p1)) F hW 20 rfl (in5' hq_121 hN hq_124 (hN1 _)) (v5' (f := R 18) hq_121 hN hq_124 (hN1 _)) dX5_lotOn_57 ?_
      refine lv_goto (tgt := 62) hx hb dX5_lotOn_58 (by decide) ?_
      have hop : op_lotOn (N, R, Fr, inc) p0 p1 = (0, (R 18 (ix p0) (ix p1)), (N, R, Fr, inc)) := by simp [op_lotOn, hq_121, hq_124]
      exact k_iret () F (hW.eq (by rw [hop]; rfl)) (by rw [hop]) dX5_lotOn_62 (Nat.le_of_ble_eq_true rfl) (Nat.le_of_ble_eq_true rfl)

set_option maxHeartbeats 4000000 in
set_option maxRecDepth 100000 in
theorem met_X5_iceFor (l : Launch) (D : va_G) (cA : Nat → ClassId) (β : Nat → Nat) (c0 c1 : Nat × va_E) (wr : va_W) (th : Int32) (N : Nat → Nat → Nat) (R : Nat → Nat → Nat → Int32) (Fr : Nat → UInt32) (inc : Int64) (v : Int32) (hN : N 0 1 ≤ 20) (hv : isIx (N 0 1) v = true) : MetI l yX5_iceFor (.code yX5_iceFor cX5_iceFor 2 (some .int) :: LW) ({ frames := 0, cells := 0, slots := 0, locals := 0 }) D cA (mWd cA β c0 c1 wr th (N, R, Fr, inc)) [.ref (β 0), .int v] (fun r (_ : Unit) => r = iceFor (R 7 (ix v) 0)) (fun _ => mWd cA β c0 c1 wr th (N, R, Fr, inc)) 0 0 := by
  refine k_bodyI (plainFor_of_name (by decide)) (Nat.le_of_ble_eq_true rfl) (fun p e s m args below meth c ls F hW hl => ?_)
  obtain ⟨hx, hb, hr, hml, hown, hts, hlocks, hname⟩ := id F
  have hl : lv_has ls 2 [(0, .ref (β 0)), (1, .int v)] := hl
  refine lv_aload_n hx hb dX5_iceFor_0 rfl (lv_at hl 0 rfl) ?_
  refine k_get (v := .ref (β 5)) F hW inX5 rfl 2 rfl rfl 9 (by decide) FL_X5_22 rfl rfl dX5_iceFor_1 ?_
  refine lv_iload_n hx hb dX5_iceFor_4 rfl (lv_at hl 1 rfl) ?_
  refine k_iald (v := R 7 (ix v) 0) F hW 7 rfl (in1 hv hN (by decide)) (rfl) dX5_iceFor_5 ?_
  refine lv_bipush (v := 9) hx hb dX5_iceFor_6 (by decide) ?_
  refine lv_iadd hx hb dX5_iceFor_8 ?_
  refine lv_bipush (v := 10) hx hb dX5_iceFor_9 (by decide) ?_
  refine lv_idiv hx hb dX5_iceFor_11 (by decide) ?_
  exact k_iret () F (hW) (rfl) dX5_iceFor_12 (Nat.le_of_ble_eq_true rfl) (Nat.le_of_ble_eq_true rfl)

set_option maxHeartbeats 4000000 in
set_option maxRecDepth 100000 in
theorem met_X5_iceLasts (l : Launch) (D : va_G) (cA : Nat → ClassId) (β : Nat → Nat) (c0 c1 : Nat × va_E) (wr : va_W) (th : Int32) (N : Nat → Nat → Nat) (R : Nat → Nat → Nat → Int32) (Fr : Nat → UInt32) (inc : Int64) (p0 : Int32) (hN : N 0 1 ≤ 20) (hwt : ∀ j, j < N 0 1 → wOK (R 7 j 0)) : MetI l yX5_iceLasts (.code yX5_iceLasts cX5_iceLasts 2 (some .int) :: LW) ({ frames := 2, cells := 0, slots := 0, locals := 43 }) D cA (mWd cA β c0 c1 wr th (N, R, Fr, inc)) [.ref (β 0), .int p0] (fun r (_ : Unit) => r = (op_iceLasts (N, R, Fr, inc) p0).2.1) (fun _ => mWd cA β c0 c1 wr (nI (op_iceLasts (N, R, Fr, inc) p0).1) (op_iceLasts (N, R, Fr, inc) p0).2.2) 0 0 := by
  refine k_bodyI (plainFor_of_name (by decide)) (Nat.le_of_ble_eq_true rfl) (fun p e s m args below meth c ls F hW hl => ?_)
  obtain ⟨hx, hb, hr, hml, hown, hts, hlocks, hname⟩ := id F
  have hl : lv_has ls 2 [(0, .ref (β 0)), (1, .int p0)] := hl
  refine lv_aload_n hx hb dX5_iceLasts_0 rfl (lv_at hl 0 rfl) ?_
  refine lv_aload_n hx hb dX5_iceLasts_1 rfl (lv_at hl 0 rfl) ?_
  refine lv_iload_n hx hb dX5_iceLasts_2 rfl (lv_at hl 1 rfl) ?_
  refine k_callVi (as := [.int p0]) (rest := [.ref (β 0)]) (b := (β 0)) (ci := 7) (q0 := 2) F hW (met_X5_isLot l D cA β c0 c1 wr th N R Fr inc p0) rfl ML_X5_110 IM_X5_isLot SE_X5_isLot IN_X5 CO_X5_isLot hdV_X5_isLot rfl rfl ⟨(Nat.le_of_ble_eq_true rfl), (Nat.le_of_ble_eq_true rfl)⟩ rfl rfl (rfl) rfl rfl hl.1 (Nat.le_of_ble_eq_true rfl) dX5_iceLasts_3 ⟨(Nat.le_of_ble_eq_true rfl), (Nat.le_of_ble_eq_true rfl)⟩ (fun r_127 u H locs hw hW => ?_)
  subst hw
  cases hq_128 : isIx (N 0 1) p0
  · refine lv_if_eq (tgt := 13) hx hb dX5_iceLasts_6 (by decide) (fun _ => ?_) (fun h => absurd (by decide) h)
    refine lv_iconst (v := 1) hx hb dX5_iceLasts_13 (by decide) ?_
    refine k_callVi (as := [.int 1]) (rest := []) (b := (β 0)) (ci := 7) (q0 := 2) F hW (met_X5_goesOn l D cA β c0 c1 wr th N R Fr inc 1) rfl ML_X5_93 IM_X5_goesOn SE_X5_goesOn IN_X5 CO_X5_goesOn hdV_X5_goesOn rfl rfl ⟨(Nat.le_of_ble_eq_true rfl), (Nat.le_of_ble_eq_true rfl)⟩ rfl rfl (rfl) rfl rfl hl.1 (Nat.le_of_ble_eq_true rfl) dX5_iceLasts_14 ⟨(Nat.le_of_ble_eq_true rfl), (Nat.le_of_ble_eq_true rfl)⟩ (fun r_129 u H locs hw hW => ?_)
    subst hw
    refine lv_if_eq (tgt := 35) hx hb dX5_iceLasts_17 (by decide) (fun _ => ?_) (fun h => absurd (by decide) h)
    refine lv_iconst (v := 0) hx hb dX5_iceLasts_35 (by decide) ?_
    have hop : op_iceLasts (N, R, Fr, inc) p0 = (1, 0, (N, R, Fr, inc)) := by simp [op_iceLasts, hq_128]
    exact k_iret () F (hW.eq (by rw [hop]; rfl)) (by rw [hop]) dX5_iceLasts_36 (Nat.le_of_ble_eq_true rfl) (Nat.le_of_ble_eq_true rfl)
  · refine lv_if_eq (tgt := 13) hx hb dX5_iceLasts_6 (by decide) (fun h => absurd h (by decide)) (fun _ => ?_)
    refine lv_iconst (v := 0) hx hb dX5_iceLasts_9 (by decide) ?_
    refine lv_goto (tgt := 14) hx hb dX5_iceLasts_10 (by decide) ?_
    refine k_callVi (as := [.int 0]) (rest := []) (b := (β 0)) (ci := 7) (q0 := 2) F hW (met_X5_goesOn l D cA β c0 c1 wr th N R Fr inc 0) rfl ML_X5_93 IM_X5_goesOn SE_X5_goesOn IN_X5 CO_X5_goesOn hdV_X5_goesOn rfl rfl ⟨(Nat.le_of_ble_eq_true rfl), (Nat.le_of_ble_eq_true rfl)⟩ rfl rfl (rfl) rfl rfl hl.1 (Nat.le_of_ble_eq_true rfl) dX5_iceLasts_14 ⟨(Nat.le_of_ble_eq_true rfl), (Nat.le_of_ble_eq_true rfl)⟩ (fun r_130 u H locs hw hW => ?_)
    subst hw
    refine lv_if_eq (tgt := 35) hx hb dX5_iceLasts_17 (by decide) (fun h => absurd h (by decide)) (fun _ => ?_)
    refine lv_aload_n hx hb dX5_iceLasts_20 rfl (lv_at hl 0 rfl) ?_
    refine k_get (v := .ref (β 9)) F hW inX5 rfl 2 rfl rfl 13 (by decide) FL_X5_37 rfl rfl dX5_iceLasts_21 ?_
    refine lv_iload_n hx hb dX5_iceLasts_24 rfl (lv_at hl 1 rfl) ?_
    refine k_iald (v := R 10 (ix p0) 0) F hW 11 rfl (in1 hq_128 hN (by decide)) (rfl) dX5_iceLasts_25 ?_
    refine lv_aload_n hx hb dX5_iceLasts_26 rfl (lv_at hl 0 rfl) ?_
    refine lv_iload_n hx hb dX5_iceLasts_27 rfl (lv_at hl 1 rfl) ?_
    refine k_callVi (as := [.int p0]) (rest := [.int (R 10 (ix p0) 0)]) (b := (β 0)) (ci := 7) (q0 := 2) F hW (met_X5_iceFor l D cA β c0 c1 wr 0 N R Fr inc p0 hN hq_128) rfl ML_X5_119 IM_X5_iceFor SE_X5_iceFor IN_X5 CO_X5_iceFor hdV_X5_iceFor rfl rfl ⟨(Nat.le_of_ble_eq_true rfl), (Nat.le_of_ble_eq_true rfl)⟩ rfl rfl (rfl) rfl rfl hl.1 (Nat.le_of_ble_eq_true rfl) dX5_iceLasts_28 ⟨(Nat.le_of_ble_eq_true rfl), (Nat.le_of_ble_eq_true rfl)⟩ (fun r_131 u H locs hw hW => ?_)
    subst hw
    refine lv_idiv hx hb dX5_iceLasts_31 (iceFor_ne (hwt _ (ix_lt hq_128 (by omega)).1)) ?_
    refine lv_goto (tgt := 36) hx hb dX5_iceLasts_32 (by decide) ?_
    have hop : op_iceLasts (N, R, Fr, inc) p0 = (0, (R 10 (ix p0) 0 / iceFor (R 7 (ix p0) 0)), (N, R, Fr, inc)) := by simp [op_iceLasts, hq_128]
    exact k_iret () F (hW.eq (by rw [hop]; rfl)) (by rw [hop]) dX5_iceLasts_36 (Nat.le_of_ble_eq_true rfl) (Nat.le_of_ble_eq_true rfl)

set_option maxHeartbeats 4000000 in
set_option maxRecDepth 100000 in
theorem met_X5_stateOf (l : Launch) (D : va_G) (cA : Nat → ClassId) (β : Nat → Nat) (c0 c1 : Nat × va_E) (wr : va_W) (th : Int32) (N : Nat → Nat → Nat) (R : Nat → Nat → Nat → Int32) (Fr : Nat → UInt32) (inc : Int64) (p0 : Int32) (hN : N 0 1 ≤ 20) (hst : ∀ j, j < N 0 1 → st5 (R 9 j 0)) : MetI l yX5_stateOf (.code yX5_stateOf cX5_stateOf 2 (some .char) :: LW) ({ frames := 2, cells := 0, slots := 0, locals := 43 }) D cA (mWd cA β c0 c1 wr th (N, R, Fr, inc)) [.ref (β 0), .int p0] (fun r (_ : Unit) => r = (op_lot 9 (N, R, Fr, inc) p0).2.1) (fun _ => mWd cA β c0 c1 wr (nI (op_lot 9 (N, R, Fr, inc) p0).1) (op_lot 9 (N, R, Fr, inc) p0).2.2) 0 0 := by
  refine k_bodyI (plainFor_of_name (by decide)) (Nat.le_of_ble_eq_true rfl) (fun p e s m args below meth c ls F hW hl => ?_)
  obtain ⟨hx, hb, hr, hml, hown, hts, hlocks, hname⟩ := id F
  have hl : lv_has ls 2 [(0, .ref (β 0)), (1, .int p0)] := hl
  refine lv_aload_n hx hb dX5_stateOf_0 rfl (lv_at hl 0 rfl) ?_
  refine lv_aload_n hx hb dX5_stateOf_1 rfl (lv_at hl 0 rfl) ?_
  refine lv_iload_n hx hb dX5_stateOf_2 rfl (lv_at hl 1 rfl) ?_
  refine k_callVi (as := [.int p0]) (rest := [.ref (β 0)]) (b := (β 0)) (ci := 7) (q0 := 2) F hW (met_X5_isLot l D cA β c0 c1 wr th N R Fr inc p0) rfl ML_X5_110 IM_X5_isLot SE_X5_isLot IN_X5 CO_X5_isLot hdV_X5_isLot rfl rfl ⟨(Nat.le_of_ble_eq_true rfl), (Nat.le_of_ble_eq_true rfl)⟩ rfl rfl (rfl) rfl rfl hl.1 (Nat.le_of_ble_eq_true rfl) dX5_stateOf_3 ⟨(Nat.le_of_ble_eq_true rfl), (Nat.le_of_ble_eq_true rfl)⟩ (fun r_132 u H locs hw hW => ?_)
  subst hw
  cases hq_133 : isIx (N 0 1) p0
  · refine lv_if_eq (tgt := 13) hx hb dX5_stateOf_6 (by decide) (fun _ => ?_) (fun h => absurd (by decide) h)
    refine lv_iconst (v := 1) hx hb dX5_stateOf_13 (by decide) ?_
    refine k_callVi (as := [.int 1]) (rest := []) (b := (β 0)) (ci := 7) (q0 := 2) F hW (met_X5_goesOn l D cA β c0 c1 wr th N R Fr inc 1) rfl ML_X5_93 IM_X5_goesOn SE_X5_goesOn IN_X5 CO_X5_goesOn hdV_X5_goesOn rfl rfl ⟨(Nat.le_of_ble_eq_true rfl), (Nat.le_of_ble_eq_true rfl)⟩ rfl rfl (rfl) rfl rfl hl.1 (Nat.le_of_ble_eq_true rfl) dX5_stateOf_14 ⟨(Nat.le_of_ble_eq_true rfl), (Nat.le_of_ble_eq_true rfl)⟩ (fun r_134 u H locs hw hW => ?_)
    subst hw
    refine lv_if_eq (tgt := 29) hx hb dX5_stateOf_17 (by decide) (fun _ => ?_) (fun h => absurd (by decide) h)
    refine lv_iconst (v := 0) hx hb dX5_stateOf_29 (by decide) ?_
    have hop : op_lot 9 (N, R, Fr, inc) p0 = (1, 0, (N, R, Fr, inc)) := by simp [op_lot, hq_133]
    exact k_zret () F (by first | rfl | exact hz) (hW.eq (by rw [hop]; rfl)) (by rw [hop]) dX5_stateOf_30 (Nat.le_of_ble_eq_true rfl) (Nat.le_of_ble_eq_true rfl)
  · refine lv_if_eq (tgt := 13) hx hb dX5_stateOf_6 (by decide) (fun h => absurd h (by decide)) (fun _ => ?_)
    refine lv_iconst (v := 0) hx hb dX5_stateOf_9 (by decide) ?_
    refine lv_goto (tgt := 14) hx hb dX5_stateOf_10 (by decide) ?_
    refine k_callVi (as := [.int 0]) (rest := []) (b := (β 0)) (ci := 7) (q0 := 2) F hW (met_X5_goesOn l D cA β c0 c1 wr th N R Fr inc 0) rfl ML_X5_93 IM_X5_goesOn SE_X5_goesOn IN_X5 CO_X5_goesOn hdV_X5_goesOn rfl rfl ⟨(Nat.le_of_ble_eq_true rfl), (Nat.le_of_ble_eq_true rfl)⟩ rfl rfl (rfl) rfl rfl hl.1 (Nat.le_of_ble_eq_true rfl) dX5_stateOf_14 ⟨(Nat.le_of_ble_eq_true rfl), (Nat.le_of_ble_eq_true rfl)⟩ (fun r_135 u H locs hw hW => ?_)
    subst hw
    refine lv_if_eq (tgt := 29) hx hb dX5_stateOf_17 (by decide) (fun h => absurd h (by decide)) (fun _ => ?_)
    refine lv_aload_n hx hb dX5_stateOf_20 rfl (lv_at hl 0 rfl) ?_
    refine k_get (v := .ref (β 7)) F hW inX5 rfl 2 rfl rfl 11 (by decide) FL_X5_29 rfl rfl dX5_stateOf_21 ?_
    refine lv_iload_n hx hb dX5_stateOf_24 rfl (lv_at hl 1 rfl) ?_
    have hz := stN (hst _ (ix_lt hq_133 (by omega)).1)
    refine k_cald (v := R 9 (ix p0) 0) F hW 9 rfl (in1 hq_133 hN (by decide)) (rfl) dX5_stateOf_25 ?_
    refine lv_goto (tgt := 30) hx hb dX5_stateOf_26 (by decide) ?_
    have hop : op_lot 9 (N, R, Fr, inc) p0 = (0, (R 9 (ix p0) 0), (N, R, Fr, inc)) := by simp [op_lot, hq_133]
    exact k_zret () F (by first | rfl | exact hz) (hW.eq (by rw [hop]; rfl)) (by rw [hop]) dX5_stateOf_30 (Nat.le_of_ble_eq_true rfl) (Nat.le_of_ble_eq_true rfl)

set_option maxHeartbeats 4000000 in
set_option maxRecDepth 100000 in
theorem met_X5_fresh (l : Launch) (D : va_G) (cA : Nat → ClassId) (β : Nat → Nat) (c0 c1 : Nat × va_E) (wr : va_W) (th : Int32) (N : Nat → Nat → Nat) (R : Nat → Nat → Nat → Int32) (Fr : Nat → UInt32) (inc : Int64) (p0 : Int32) (hN : N 0 1 ≤ 20) : MetF l yX5_fresh (.code yX5_fresh cX5_fresh 2 (some .float) :: LW) ({ frames := 2, cells := 0, slots := 0, locals := 43 }) D cA (mWd cA β c0 c1 wr th (N, R, Fr, inc)) [.ref (β 0), .int p0] (fun r (_ : Unit) => r = (op_fresh (N, R, Fr, inc) p0).2.1) (fun _ => mWd cA β c0 c1 wr (nI (op_fresh (N, R, Fr, inc) p0).1) (op_fresh (N, R, Fr, inc) p0).2.2) 0 0 := by
  refine k_bodyF (plainFor_of_name (by decide)) (Nat.le_of_ble_eq_true rfl) (fun p e s m args below meth c ls F hW hl => ?_)
  obtain ⟨hx, hb, hr, hml, hown, hts, hlocks, hname⟩ := id F
  have hl : lv_has ls 2 [(0, .ref (β 0)), (1, .int p0)] := hl
  refine lv_aload_n hx hb dX5_fresh_0 rfl (lv_at hl 0 rfl) ?_
  refine lv_aload_n hx hb dX5_fresh_1 rfl (lv_at hl 0 rfl) ?_
  refine lv_iload_n hx hb dX5_fresh_2 rfl (lv_at hl 1 rfl) ?_
  refine k_callVi (as := [.int p0]) (rest := [.ref (β 0)]) (b := (β 0)) (ci := 7) (q0 := 2) F hW (met_X5_isLot l D cA β c0 c1 wr th N R Fr inc p0) rfl ML_X5_110 IM_X5_isLot SE_X5_isLot IN_X5 CO_X5_isLot hdV_X5_isLot rfl rfl ⟨(Nat.le_of_ble_eq_true rfl), (Nat.le_of_ble_eq_true rfl)⟩ rfl rfl (rfl) rfl rfl hl.1 (Nat.le_of_ble_eq_true rfl) dX5_fresh_3 ⟨(Nat.le_of_ble_eq_true rfl), (Nat.le_of_ble_eq_true rfl)⟩ (fun r_136 u H locs hw hW => ?_)
  subst hw
  cases hq_137 : isIx (N 0 1) p0
  · refine lv_if_eq (tgt := 13) hx hb dX5_fresh_6 (by decide) (fun _ => ?_) (fun h => absurd (by decide) h)
    refine lv_iconst (v := 1) hx hb dX5_fresh_13 (by decide) ?_
    refine k_callVi (as := [.int 1]) (rest := []) (b := (β 0)) (ci := 7) (q0 := 2) F hW (met_X5_goesOn l D cA β c0 c1 wr th N R Fr inc 1) rfl ML_X5_93 IM_X5_goesOn SE_X5_goesOn IN_X5 CO_X5_goesOn hdV_X5_goesOn rfl rfl ⟨(Nat.le_of_ble_eq_true rfl), (Nat.le_of_ble_eq_true rfl)⟩ rfl rfl (rfl) rfl rfl hl.1 (Nat.le_of_ble_eq_true rfl) dX5_fresh_14 ⟨(Nat.le_of_ble_eq_true rfl), (Nat.le_of_ble_eq_true rfl)⟩ (fun r_138 u H locs hw hW => ?_)
    subst hw
    refine lv_if_eq (tgt := 29) hx hb dX5_fresh_17 (by decide) (fun _ => ?_) (fun h => absurd (by decide) h)
    refine lv_fconst0 hx hb dX5_fresh_29 ?_
    have hop : op_fresh (N, R, Fr, inc) p0 = (1, FP.fconst0, (N, R, Fr, inc)) := by simp [op_fresh, hq_137, show FP.fconst0 = 0 from rfl]
    exact k_fret () F (hW.eq (by rw [hop]; rfl)) (by rw [hop]) dX5_fresh_30 (Nat.le_of_ble_eq_true rfl) (Nat.le_of_ble_eq_true rfl)
  · refine lv_if_eq (tgt := 13) hx hb dX5_fresh_6 (by decide) (fun h => absurd h (by decide)) (fun _ => ?_)
    refine lv_iconst (v := 0) hx hb dX5_fresh_9 (by decide) ?_
    refine lv_goto (tgt := 14) hx hb dX5_fresh_10 (by decide) ?_
    refine k_callVi (as := [.int 0]) (rest := []) (b := (β 0)) (ci := 7) (q0 := 2) F hW (met_X5_goesOn l D cA β c0 c1 wr th N R Fr inc 0) rfl ML_X5_93 IM_X5_goesOn SE_X5_goesOn IN_X5 CO_X5_goesOn hdV_X5_goesOn rfl rfl ⟨(Nat.le_of_ble_eq_true rfl), (Nat.le_of_ble_eq_true rfl)⟩ rfl rfl (rfl) rfl rfl hl.1 (Nat.le_of_ble_eq_true rfl) dX5_fresh_14 ⟨(Nat.le_of_ble_eq_true rfl), (Nat.le_of_ble_eq_true rfl)⟩ (fun r_139 u H locs hw hW => ?_)
    subst hw
    refine lv_if_eq (tgt := 29) hx hb dX5_fresh_17 (by decide) (fun h => absurd h (by decide)) (fun _ => ?_)
    refine lv_aload_n hx hb dX5_fresh_20 rfl (lv_at hl 0 rfl) ?_
    refine k_get (v := .ref (β 8)) F hW inX5 rfl 2 rfl rfl 12 (by decide) FL_X5_33 rfl rfl dX5_fresh_21 ?_
    refine lv_iload_n hx hb dX5_fresh_24 rfl (lv_at hl 1 rfl) ?_
    refine k_fald (v := Fr (ix p0)) F hW 10 rfl (in1 hq_137 hN (by decide)) (rfl) dX5_fresh_25 ?_
    refine lv_goto (tgt := 30) hx hb dX5_fresh_26 (by decide) ?_
    have hop : op_fresh (N, R, Fr, inc) p0 = (0, (Fr (ix p0)), (N, R, Fr, inc)) := by simp [op_fresh, hq_137, show FP.fconst0 = 0 from rfl]
    exact k_fret () F (hW.eq (by rw [hop]; rfl)) (by rw [hop]) dX5_fresh_30 (Nat.le_of_ble_eq_true rfl) (Nat.le_of_ble_eq_true rfl)

set_option maxHeartbeats 4000000 in
set_option maxRecDepth 100000 in
theorem met_X5_beyond (l : Launch) (D : va_G) (cA : Nat → ClassId) (β : Nat → Nat) (c0 c1 : Nat × va_E) (wr : va_W) (th : Int32) (N : Nat → Nat → Nat) (R : Nat → Nat → Nat → Int32) (Fr : Nat → UInt32) (inc : Int64) : MetI l yX5_beyond (.code yX5_beyond cX5_beyond 1 (some .int) :: LW) ({ frames := 0, cells := 0, slots := 0, locals := 0 }) D cA (mWd cA β c0 c1 wr th (N, R, Fr, inc)) [.ref (β 0)] (fun r (_ : Unit) => r = R 0 0 0) (fun _ => mWd cA β c0 c1 wr 0 (N, R, Fr, inc)) 0 0 := by
  refine k_bodyI (plainFor_of_name (by decide)) (Nat.le_of_ble_eq_true rfl) (fun p e s m args below meth c ls F hW hl => ?_)
  obtain ⟨hx, hb, hr, hml, hown, hts, hlocks, hname⟩ := id F
  have hl : lv_has ls 1 [(0, .ref (β 0))] := hl
  refine lv_aload_n hx hb dX5_beyond_0 rfl (lv_at hl 0 rfl) ?_
  refine lv_iconst (v := 0) hx hb dX5_beyond_1 (by decide) ?_
  refine k_put F hW inX5 tyX5_ok nmX5 rfl 2 rfl rfl 0 (by decide) FL_X5_74 rfl rfl rfl rfl rfl (Nat.le_of_ble_eq_true rfl) (mWd cA β c0 c1 wr 0 (N, R, Fr, inc)) rfl dX5_beyond_2 (fun H locs hW => ?_)
  refine lv_aload_n hx hb dX5_beyond_5 rfl (lv_at hl 0 rfl) ?_
  refine k_get (v := .int (R 0 0 0)) F hW inX5 rfl 2 rfl rfl 5 (by decide) FL_X5_103 rfl rfl dX5_beyond_6 ?_
  exact k_iret () F (hW) (rfl) dX5_beyond_9 (Nat.le_of_ble_eq_true rfl) (Nat.le_of_ble_eq_true rfl)

set_option maxHeartbeats 4000000 in
set_option maxRecDepth 100000 in
theorem met_X5_time (l : Launch) (D : va_G) (cA : Nat → ClassId) (β : Nat → Nat) (c0 c1 : Nat × va_E) (wr : va_W) (th : Int32) (N : Nat → Nat → Nat) (R : Nat → Nat → Nat → Int32) (Fr : Nat → UInt32) (inc : Int64) : MetI l yX5_time (.code yX5_time cX5_time 1 (some .int) :: LW) ({ frames := 0, cells := 0, slots := 0, locals := 0 }) D cA (mWd cA β c0 c1 wr th (N, R, Fr, inc)) [.ref (β 0)] (fun r (_ : Unit) => r = nI (N 0 5)) (fun _ => mWd cA β c0 c1 wr 0 (N, R, Fr, inc)) 0 0 := by
  refine k_bodyI (plainFor_of_name (by decide)) (Nat.le_of_ble_eq_true rfl) (fun p e s m args below meth c ls F hW hl => ?_)
  obtain ⟨hx, hb, hr, hml, hown, hts, hlocks, hname⟩ := id F
  have hl : lv_has ls 1 [(0, .ref (β 0))] := hl
  refine lv_aload_n hx hb dX5_time_0 rfl (lv_at hl 0 rfl) ?_
  refine lv_iconst (v := 0) hx hb dX5_time_1 (by decide) ?_
  refine k_put F hW inX5 tyX5_ok nmX5 rfl 2 rfl rfl 0 (by decide) FL_X5_74 rfl rfl rfl rfl rfl (Nat.le_of_ble_eq_true rfl) (mWd cA β c0 c1 wr 0 (N, R, Fr, inc)) rfl dX5_time_2 (fun H locs hW => ?_)
  refine lv_aload_n hx hb dX5_time_5 rfl (lv_at hl 0 rfl) ?_
  refine k_get (v := .int (nI (N 0 5))) F hW inX5 rfl 2 rfl rfl 16 (by decide) FL_X5_135 rfl rfl dX5_time_6 ?_
  exact k_iret () F (hW) (rfl) dX5_time_9 (Nat.le_of_ble_eq_true rfl) (Nat.le_of_ble_eq_true rfl)

set_option maxHeartbeats 4000000 in
set_option maxRecDepth 100000 in
theorem met_X5_income (l : Launch) (D : va_G) (cA : Nat → ClassId) (β : Nat → Nat) (c0 c1 : Nat × va_E) (wr : va_W) (th : Int32) (N : Nat → Nat → Nat) (R : Nat → Nat → Nat → Int32) (Fr : Nat → UInt32) (inc : Int64) : MetL l yX5_income (.code yX5_income cX5_income 1 (some .long) :: LW) ({ frames := 0, cells := 0, slots := 0, locals := 0 }) D cA (mWd cA β c0 c1 wr th (N, R, Fr, inc)) [.ref (β 0)] (fun r (_ : Unit) => r = inc) (fun _ => mWd cA β c0 c1 wr 0 (N, R, Fr, inc)) 0 0 := by
  refine k_bodyL (plainFor_of_name (by decide)) (Nat.le_of_ble_eq_true rfl) (fun p e s m args below meth c ls F hW hl => ?_)
  obtain ⟨hx, hb, hr, hml, hown, hts, hlocks, hname⟩ := id F
  have hl : lv_has ls 1 [(0, .ref (β 0))] := hl
  refine lv_aload_n hx hb dX5_income_0 rfl (lv_at hl 0 rfl) ?_
  refine lv_iconst (v := 0) hx hb dX5_income_1 (by decide) ?_
  refine k_put F hW inX5 tyX5_ok nmX5 rfl 2 rfl rfl 0 (by decide) FL_X5_74 rfl rfl rfl rfl rfl (Nat.le_of_ble_eq_true rfl) (mWd cA β c0 c1 wr 0 (N, R, Fr, inc)) rfl dX5_income_2 (fun H locs hW => ?_)
  refine lv_aload_n hx hb dX5_income_5 rfl (lv_at hl 0 rfl) ?_
  refine k_get (v := .long inc) F hW inX5 rfl 2 rfl rfl 29 (by decide) FL_X5_127 rfl rfl dX5_income_6 ?_
  exact k_lret () F (hW) (rfl) dX5_income_9 (Nat.le_of_ble_eq_true rfl) (Nat.le_of_ble_eq_true rfl)

set_option maxHeartbeats 4000000 in
set_option maxRecDepth 100000 in
theorem met_X5_incomeByLots (l : Launch) (D : va_G) (cA : Nat → ClassId) (β : Nat → Nat) (c0 c1 : Nat × va_E) (wr : va_W) (th : Int32) (N : Nat → Nat → Nat) (R : Nat → Nat → Nat → Int32) (Fr : Nat → UInt32) (inc : Int64) : MetL l yX5_incomeByLots (.code yX5_incomeByLots cX5_incomeByLots 1 (some .long) :: LW) ({ frames := 0, cells := 0, slots := 0, locals := 0 }) D cA (mWd cA β c0 c1 wr th (N, R, Fr, inc)) [.ref (β 0)] (fun r (_ : Unit) => r = inc) (fun _ => mWd cA β c0 c1 wr 0 (N, R, Fr, inc)) 0 0 := by
  refine k_bodyL (plainFor_of_name (by decide)) (Nat.le_of_ble_eq_true rfl) (fun p e s m args below meth c ls F hW hl => ?_)
  obtain ⟨hx, hb, hr, hml, hown, hts, hlocks, hname⟩ := id F
  have hl : lv_has ls 1 [(0, .ref (β 0))] := hl
  refine lv_aload_n hx hb dX5_incomeByLots_0 rfl (lv_at hl 0 rfl) ?_
  refine lv_iconst (v := 0) hx hb dX5_incomeByLots_1 (by decide) ?_
  refine k_put F hW inX5 tyX5_ok nmX5 rfl 2 rfl rfl 0 (by decide) FL_X5_74 rfl rfl rfl rfl rfl (Nat.le_of_ble_eq_true rfl) (mWd cA β c0 c1 wr 0 (N, R, Fr, inc)) rfl dX5_incomeByLots_2 (fun H locs hW => ?_)
  refine lv_aload_n hx hb dX5_incomeByLots_5 rfl (lv_at hl 0 rfl) ?_
  refine k_get (v := .long inc) F hW inX5 rfl 2 rfl rfl 29 (by decide) FL_X5_127 rfl rfl dX5_incomeByLots_6 ?_
  exact k_lret () F (hW) (rfl) dX5_incomeByLots_9 (Nat.le_of_ble_eq_true rfl) (Nat.le_of_ble_eq_true rfl)

set_option maxHeartbeats 4000000 in
set_option maxRecDepth 100000 in
theorem met_X5_isSound (l : Launch) (D : va_G) (cA : Nat → ClassId) (β : Nat → Nat) (c0 c1 : Nat × va_E) (wr : va_W) (th : Int32) (N : Nat → Nat → Nat) (R : Nat → Nat → Nat → Int32) (Fr : Nat → UInt32) (inc : Int64) : MetI l yX5_isSound (.code yX5_isSound cX5_isSound 1 (some .boolean) :: LW) ({ frames := 0, cells := 0, slots := 0, locals := 0 }) D cA (mWd cA β c0 c1 wr th (N, R, Fr, inc)) [.ref (β 0)] (fun r (_ : Unit) => r = 1) (fun _ => mWd cA β c0 c1 wr 0 (N, R, Fr, inc)) 0 0 := by
  refine k_bodyI (plainFor_of_name (by decide)) (Nat.le_of_ble_eq_true rfl) (fun p e s m args below meth c ls F hW hl => ?_)
  obtain ⟨hx, hb, hr, hml, hown, hts, hlocks, hname⟩ := id F
  have hl : lv_has ls 1 [(0, .ref (β 0))] := hl
  refine lv_aload_n hx hb dX5_isSound_0 rfl (lv_at hl 0 rfl) ?_
  refine lv_iconst (v := 0) hx hb dX5_isSound_1 (by decide) ?_
  refine k_put F hW inX5 tyX5_ok nmX5 rfl 2 rfl rfl 0 (by decide) FL_X5_74 rfl rfl rfl rfl rfl (Nat.le_of_ble_eq_true rfl) (mWd cA β c0 c1 wr 0 (N, R, Fr, inc)) rfl dX5_isSound_2 (fun H locs hW => ?_)
  refine lv_iconst (v := 1) hx hb dX5_isSound_5 (by decide) ?_
  exact k_zret () F (rfl) (hW) (rfl) dX5_isSound_6 (Nat.le_of_ble_eq_true rfl) (Nat.le_of_ble_eq_true rfl)

set_option maxHeartbeats 4000000 in
set_option maxRecDepth 100000 in
theorem met_X5_isSold (l : Launch) (D : va_G) (cA : Nat → ClassId) (β : Nat → Nat) (c0 c1 : Nat × va_E) (wr : va_W) (th : Int32) (N : Nat → Nat → Nat) (R : Nat → Nat → Nat → Int32) (Fr : Nat → UInt32) (inc : Int64) (v : Int32) (hN : N 0 1 ≤ 20) (hv : isIx (N 0 1) v = true) : MetI l yX5_isSold (.code yX5_isSold cX5_isSold 2 (some .boolean) :: LW) ({ frames := 0, cells := 0, slots := 0, locals := 0 }) D cA (mWd cA β c0 c1 wr th (N, R, Fr, inc)) [.ref (β 0), .int v] (fun r (_ : Unit) => r = b2i (isSold R (ix v))) (fun _ => mWd cA β c0 c1 wr th (N, R, Fr, inc)) 0 0 := by
  refine k_bodyI (plainFor_of_name (by decide)) (Nat.le_of_ble_eq_true rfl) (fun p e s m args below meth c ls F hW hl => ?_)
  obtain ⟨hx, hb, hr, hml, hown, hts, hlocks, hname⟩ := id F
  have hl : lv_has ls 2 [(0, .ref (β 0)), (1, .int v)] := hl
  refine lv_aload_n hx hb dX5_isSold_0 rfl (lv_at hl 0 rfl) ?_
  refine k_get (v := .ref (β 7)) F hW inX5 rfl 2 rfl rfl 11 (by decide) FL_X5_29 rfl rfl dX5_isSold_1 ?_
  refine lv_iload_n hx hb dX5_isSold_4 rfl (lv_at hl 1 rfl) ?_
  refine k_cald (v := R 9 (ix v) 0) F hW 9 rfl (in1 hv hN (by decide)) (rfl) dX5_isSold_5 ?_
  refine lv_bipush (v := 115) hx hb dX5_isSold_6 (by decide) ?_
  refine lv_icmp_eq (tgt := 33) hx hb dX5_isSold_8 (by decide) (fun h_a => ?_) (fun h_a => ?_)
  · refine lv_iconst (v := 1) hx hb dX5_isSold_33 (by decide) ?_
    refine lv_goto (tgt := 38) hx hb dX5_isSold_34 (by decide) ?_
    exact k_zret () F (by rfl) (hW) (by simp [isSold, b2i, h_a]) dX5_isSold_38 (Nat.le_of_ble_eq_true rfl) (Nat.le_of_ble_eq_true rfl)
  · refine lv_aload_n hx hb dX5_isSold_11 rfl (lv_at hl 0 rfl) ?_
    refine k_get (v := .ref (β 7)) F hW inX5 rfl 2 rfl rfl 11 (by decide) FL_X5_29 rfl rfl dX5_isSold_12 ?_
    refine lv_iload_n hx hb dX5_isSold_15 rfl (lv_at hl 1 rfl) ?_
    refine k_cald (v := R 9 (ix v) 0) F hW 9 rfl (in1 hv hN (by decide)) (rfl) dX5_isSold_16 ?_
    refine lv_bipush (v := 108) hx hb dX5_isSold_17 (by decide) ?_
    refine lv_icmp_eq (tgt := 33) hx hb dX5_isSold_19 (by decide) (fun h_b => ?_) (fun h_b => ?_)
    · refine lv_iconst (v := 1) hx hb dX5_isSold_33 (by decide) ?_
      refine lv_goto (tgt := 38) hx hb dX5_isSold_34 (by decide) ?_
      exact k_zret () F (by rfl) (hW) (by simp [isSold, b2i, h_a, h_b]) dX5_isSold_38 (Nat.le_of_ble_eq_true rfl) (Nat.le_of_ble_eq_true rfl)
    · refine lv_aload_n hx hb dX5_isSold_22 rfl (lv_at hl 0 rfl) ?_
      refine k_get (v := .ref (β 7)) F hW inX5 rfl 2 rfl rfl 11 (by decide) FL_X5_29 rfl rfl dX5_isSold_23 ?_
      refine lv_iload_n hx hb dX5_isSold_26 rfl (lv_at hl 1 rfl) ?_
      refine k_cald (v := R 9 (ix v) 0) F hW 9 rfl (in1 hv hN (by decide)) (rfl) dX5_isSold_27 ?_
      refine lv_bipush (v := 100) hx hb dX5_isSold_28 (by decide) ?_
      refine lv_icmp_ne (tgt := 37) hx hb dX5_isSold_30 (by decide) (fun h_d => ?_) (fun h_d => ?_)
      · refine lv_iconst (v := 0) hx hb dX5_isSold_37 (by decide) ?_
        exact k_zret () F (by rfl) (hW) (by simp [isSold, b2i, h_a, h_b, h_d]) dX5_isSold_38 (Nat.le_of_ble_eq_true rfl) (Nat.le_of_ble_eq_true rfl)
      · refine lv_iconst (v := 1) hx hb dX5_isSold_33 (by decide) ?_
        refine lv_goto (tgt := 38) hx hb dX5_isSold_34 (by decide) ?_
        exact k_zret () F (by rfl) (hW) (by simp [isSold, b2i, h_a, h_b, h_d]) dX5_isSold_38 (Nat.le_of_ble_eq_true rfl) (Nat.le_of_ble_eq_true rfl)
