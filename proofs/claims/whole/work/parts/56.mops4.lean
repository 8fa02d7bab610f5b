set_option maxHeartbeats 4000000 in
set_option maxRecDepth 100000 in
theorem met_X5_land (l : Launch) (D : va_G) (cA : Nat → ClassId) (β : Nat → Nat) (c0 c1 : Nat × va_E) (wr : va_W) (th : Int32) (N : Nat → Nat → Nat) (R : Nat → Nat → Nat → Int32) (Fr : Nat → UInt32) (inc : Int64) (p0 p1 p2 p3 p4 : Int32) (hN0 : N 0 0 ≤ 6) (hN : N 0 1 ≤ 20) (hz4 : p4 = 0 ∨ p4 = 1) : MetI l yX5_land (.code yX5_land cX5_land 10 (some .int) :: LW) ({ frames := 2, cells := 0, slots := 0, locals := 43 }) D cA (mWd cA β c0 c1 wr th (N, R, Fr, inc)) [.ref (β 0), .int p0, .int p1, .int p2, .int p3, .int p4] (fun r (_ : Unit) => r = (op_land (N, R, Fr, inc) p0 p1 p2 p3 p4).2.1) (fun _ => mWd cA β c0 c1 wr (nI (op_land (N, R, Fr, inc) p0 p1 p2 p3 p4).1) (op_land (N, R, Fr, inc) p0 p1 p2 p3 p4).2.2) 0 0 := by
  refine k_bodyI (plainFor_of_name (by decide)) (Nat.le_of_ble_eq_true rfl) (fun p e s m args below meth c ls F hW hl => ?_)
  obtain ⟨hx, hb, hr, hml, hown, hts, hlocks, hname⟩ := id F
  have hl : lv_has ls 10 [(0, .ref (β 0)), (1, .int p0), (2, .int p1), (3, .int p2), (4, .int p3), (5, .int p4)] := hl
  refine lv_iload_n hx hb dX5_land_0 rfl (lv_at hl 2 rfl) ?_
  refine k_callSi (as := [.int p1]) (rest := []) F hW (met_X5_isSpecies l D cA _ p1) rfl ML_X5_97 ST_X5_isSpecies IN_X5 CO_X5_isSpecies hdS_X5_isSpecies rfl rfl ⟨(Nat.le_of_ble_eq_true rfl), (Nat.le_of_ble_eq_true rfl)⟩ rfl rfl hl.1 (Nat.le_of_ble_eq_true rfl) dX5_land_1 ⟨(Nat.le_of_ble_eq_true rfl), (Nat.le_of_ble_eq_true rfl)⟩ (fun r_140 u H locs hw hW => ?_)
  subst hw
  cases hq_141 : wi p1 0 3
  · refine lv_if_eq (tgt := 28) hx hb dX5_land_4 (by decide) (fun _ => ?_) (fun h => absurd (by decide) h)
    refine lv_iconst (v := 1) hx hb dX5_land_28 (by decide) ?_
    refine lv_goto (tgt := 33) hx hb dX5_land_29 (by decide) ?_
    refine lv_istore (lv' := [(6, .int 1), (0, .ref (β 0)), (1, .int p0), (2, .int p1), (3, .int p2), (4, .int p3), (5, .int p4)]) hx hb dX5_land_33 hl (by decide) rfl (fun ls hl => ?_)
    refine lv_aload_n hx hb dX5_land_35 rfl (lv_at hl 1 rfl) ?_
    refine lv_iload_n hx hb dX5_land_36 rfl (lv_at hl 2 rfl) ?_
    refine k_callVi (as := [.int p0]) (rest := []) (b := (β 0)) (ci := 7) (q0 := 2) F hW (met_X5_isBoat l D cA β c0 c1 wr th N R Fr inc p0) rfl ML_X5_100 IM_X5_isBoat SE_X5_isBoat IN_X5 CO_X5_isBoat hdV_X5_isBoat rfl rfl ⟨(Nat.le_of_ble_eq_true rfl), (Nat.le_of_ble_eq_true rfl)⟩ rfl rfl (rfl) rfl rfl hl.1 (Nat.le_of_ble_eq_true rfl) dX5_land_37 ⟨(Nat.le_of_ble_eq_true rfl), (Nat.le_of_ble_eq_true rfl)⟩ (fun r_142 u H locs hw hW => ?_)
    subst hw
    cases hq_143 : isIx (N 0 0) p0
    · refine lv_if_ne (tgt := 47) hx hb dX5_land_40 (by decide) (fun h => absurd (by decide) h) (fun _ => ?_)
      refine lv_iconst (v := 1) hx hb dX5_land_43 (by decide) ?_
      refine lv_goto (tgt := 87) hx hb dX5_land_44 (by decide) ?_
      refine lv_istore (lv' := [(7, .int 1), (6, .int 1), (0, .ref (β 0)), (1, .int p0), (2, .int p1), (3, .int p2), (4, .int p3), (5, .int p4)]) hx hb dX5_land_87 hl (by decide) rfl (fun ls hl => ?_)
      refine lv_aload_n hx hb dX5_land_89 rfl (lv_at hl 2 rfl) ?_
      refine lv_iload hx hb dX5_land_90 (lv_at hl 0 rfl) ?_
      refine k_callVi (as := [.int 1]) (rest := []) (b := (β 0)) (ci := 7) (q0 := 2) F hW (met_X5_goesOn l D cA β c0 c1 wr th N R Fr inc 1) rfl ML_X5_93 IM_X5_goesOn SE_X5_goesOn IN_X5 CO_X5_goesOn hdV_X5_goesOn rfl rfl ⟨(Nat.le_of_ble_eq_true rfl), (Nat.le_of_ble_eq_true rfl)⟩ rfl rfl (rfl) rfl rfl hl.1 (Nat.le_of_ble_eq_true rfl) dX5_land_92 ⟨(Nat.le_of_ble_eq_true rfl), (Nat.le_of_ble_eq_true rfl)⟩ (fun r_144 u H locs hw hW => ?_)
      subst hw
      refine lv_if_ne (tgt := 100) hx hb dX5_land_95 (by decide) (fun h => absurd (by decide) h) (fun _ => ?_)
      refine lv_iconst (v := 0) hx hb dX5_land_98 (by decide) ?_
      have hop : op_land (N, R, Fr, inc) p0 p1 p2 p3 p4 = (1, 0, (N, R, Fr, inc)) := by simp [op_land, hq_141, hq_143]
      exact k_iret () F (hW.eq (by rw [hop]; rfl)) (by rw [hop]) dX5_land_99 (Nat.le_of_ble_eq_true rfl) (Nat.le_of_ble_eq_true rfl)
    · refine lv_if_ne (tgt := 47) hx hb dX5_land_40 (by decide) (fun _ => ?_) (fun h => absurd h (by decide))
      refine lv_iload hx hb dX5_land_47 (lv_at hl 0 rfl) ?_
      refine lv_if_eq (tgt := 56) hx hb dX5_land_49 (by decide) (fun h => absurd h (by decide)) (fun _ => ?_)
      refine lv_iconst (v := 2) hx hb dX5_land_52 (by decide) ?_
      refine lv_goto (tgt := 87) hx hb dX5_land_53 (by decide) ?_
      refine lv_istore (lv' := [(7, .int 2), (6, .int 1), (0, .ref (β 0)), (1, .int p0), (2, .int p1), (3, .int p2), (4, .int p3), (5, .int p4)]) hx hb dX5_land_87 hl (by decide) rfl (fun ls hl => ?_)
      refine lv_aload_n hx hb dX5_land_89 rfl (lv_at hl 2 rfl) ?_
      refine lv_iload hx hb dX5_land_90 (lv_at hl 0 rfl) ?_
      refine k_callVi (as := [.int 2]) (rest := []) (b := (β 0)) (ci := 7) (q0 := 2) F hW (met_X5_goesOn l D cA β c0 c1 wr th N R Fr inc 2) rfl ML_X5_93 IM_X5_goesOn SE_X5_goesOn IN_X5 CO_X5_goesOn hdV_X5_goesOn rfl rfl ⟨(Nat.le_of_ble_eq_true rfl), (Nat.le_of_ble_eq_true rfl)⟩ rfl rfl (rfl) rfl rfl hl.1 (Nat.le_of_ble_eq_true rfl) dX5_land_92 ⟨(Nat.le_of_ble_eq_true rfl), (Nat.le_of_ble_eq_true rfl)⟩ (fun r_145 u H locs hw hW => ?_)
      subst hw
      refine lv_if_ne (tgt := 100) hx hb dX5_land_95 (by decide) (fun h => absurd (by decide) h) (fun _ => ?_)
      refine lv_iconst (v := 0) hx hb dX5_land_98 (by decide) ?_
      have hop : op_land (N, R, Fr, inc) p0 p1 p2 p3 p4 = (2, 0, (N, R, Fr, inc)) := by simp [op_land, hq_141, hq_143]
      exact k_iret () F (hW.eq (by rw [hop]; rfl)) (by rw [hop]) dX5_land_99 (Nat.le_of_ble_eq_true rfl) (Nat.le_of_ble_eq_true rfl)
  · refine lv_if_eq (tgt := 28) hx hb dX5_land_4 (by decide) (fun h => absurd h (by decide)) (fun _ => ?_)
    refine lv_iload_n hx hb dX5_land_7 rfl (lv_at hl 3 rfl) ?_
    refine lv_iconst (v := 0) hx hb dX5_land_8 (by decide) ?_
    refine lv_iconst (v := 2) hx hb dX5_land_9 (by decide) ?_
    refine k_callSi (as := [.int p2, .int 0, .int 2]) (rest := []) F hW (met_X5_in l D cA _ p2 0 2) rfl ML_X5_80 ST_X5_in IN_X5 CO_X5_in hdS_X5_in rfl rfl ⟨(Nat.le_of_ble_eq_true rfl), (Nat.le_of_ble_eq_true rfl)⟩ rfl rfl hl.1 (Nat.le_of_ble_eq_true rfl) dX5_land_10 ⟨(Nat.le_of_ble_eq_true rfl), (Nat.le_of_ble_eq_true rfl)⟩ (fun r_146 u H locs hw hW => ?_)
    subst hw
    cases hq_147 : wi p2 0 2
    · refine lv_if_eq (tgt := 28) hx hb dX5_land_13 (by decide) (fun _ => ?_) (fun h => absurd (by decide) h)
      refine lv_iconst (v := 1) hx hb dX5_land_28 (by decide) ?_
      refine lv_goto (tgt := 33) hx hb dX5_land_29 (by decide) ?_
      refine lv_istore (lv' := [(6, .int 1), (0, .ref (β 0)), (1, .int p0), (2, .int p1), (3, .int p2), (4, .int p3), (5, .int p4)]) hx hb dX5_land_33 hl (by decide) rfl (fun ls hl => ?_)
      refine lv_aload_n hx hb dX5_land_35 rfl (lv_at hl 1 rfl) ?_
      refine lv_iload_n hx hb dX5_land_36 rfl (lv_at hl 2 rfl) ?_
      refine k_callVi (as := [.int p0]) (rest := []) (b := (β 0)) (ci := 7) (q0 := 2) F hW (met_X5_isBoat l D cA β c0 c1 wr th N R Fr inc p0) rfl ML_X5_100 IM_X5_isBoat SE_X5_isBoat IN_X5 CO_X5_isBoat hdV_X5_isBoat rfl rfl ⟨(Nat.le_of_ble_eq_true rfl), (Nat.le_of_ble_eq_true rfl)⟩ rfl rfl (rfl) rfl rfl hl.1 (Nat.le_of_ble_eq_true rfl) dX5_land_37 ⟨(Nat.le_of_ble_eq_true rfl), (Nat.le_of_ble_eq_true rfl)⟩ (fun r_148 u H locs hw hW => ?_)
      subst hw
      cases hq_149 : isIx (N 0 0) p0
      · refine lv_if_ne (tgt := 47) hx hb dX5_land_40 (by decide) (fun h => absurd (by decide) h) (fun _ => ?_)
        refine lv_iconst (v := 1) hx hb dX5_land_43 (by decide) ?_
        refine lv_goto (tgt := 87) hx hb dX5_land_44 (by decide) ?_
        refine lv_istore (lv' := [(7, .int 1), (6, .int 1), (0, .ref (β 0)), (1, .int p0), (2, .int p1), (3, .int p2), (4, .int p3), (5, .int p4)]) hx hb dX5_land_87 hl (by decide) rfl (fun ls hl => ?_)
        refine lv_aload_n hx hb dX5_land_89 rfl (lv_at hl 2 rfl) ?_
        refine lv_iload hx hb dX5_land_90 (lv_at hl 0 rfl) ?_
        refine k_callVi (as := [.int 1]) (rest := []) (b := (β 0)) (ci := 7) (q0 := 2) F hW (met_X5_goesOn l D cA β c0 c1 wr th N R Fr inc 1) rfl ML_X5_93 IM_X5_goesOn SE_X5_goesOn IN_X5 CO_X5_goesOn hdV_X5_goesOn rfl rfl ⟨(Nat.le_of_ble_eq_true rfl), (Nat.le_of_ble_eq_true rfl)⟩ rfl rfl (rfl) rfl rfl hl.1 (Nat.le_of_ble_eq_true rfl) dX5_land_92 ⟨(Nat.le_of_ble_eq_true rfl), (Nat.le_of_ble_eq_true rfl)⟩ (fun r_150 u H locs hw hW => ?_)
        subst hw
        refine lv_if_ne (tgt := 100) hx hb dX5_land_95 (by decide) (fun h => absurd (by decide) h) (fun _ => ?_)
        refine lv_iconst (v := 0) hx hb dX5_land_98 (by decide) ?_
        have hop : op_land (N, R, Fr, inc) p0 p1 p2 p3 p4 = (1, 0, (N, R, Fr, inc)) := by simp [op_land, hq_141, hq_147, hq_149]
        exact k_iret () F (hW.eq (by rw [hop]; rfl)) (by rw [hop]) dX5_land_99 (Nat.le_of_ble_eq_true rfl) (Nat.le_of_ble_eq_true rfl)
      · refine lv_if_ne (tgt := 47) hx hb dX5_land_40 (by decide) (fun _ => ?_) (fun h => absurd h (by decide))
        refine lv_iload hx hb dX5_land_47 (lv_at hl 0 rfl) ?_
        refine lv_if_eq (tgt := 56) hx hb dX5_land_49 (by decide) (fun h => absurd h (by decide)) (fun _ => ?_)
        refine lv_iconst (v := 2) hx hb dX5_land_52 (by decide) ?_
        refine lv_goto (tgt := 87) hx hb dX5_land_53 (by decide) ?_
        refine lv_istore (lv' := [(7, .int 2), (6, .int 1), (0, .ref (β 0)), (1, .int p0), (2, .int p1), (3, .int p2), (4, .int p3), (5, .int p4)]) hx hb dX5_land_87 hl (by decide) rfl (fun ls hl => ?_)
        refine lv_aload_n hx hb dX5_land_89 rfl (lv_at hl 2 rfl) ?_
        refine lv_iload hx hb dX5_land_90 (lv_at hl 0 rfl) ?_
        refine k_callVi (as := [.int 2]) (rest := []) (b := (β 0)) (ci := 7) (q0 := 2) F hW (met_X5_goesOn l D cA β c0 c1 wr th N R Fr inc 2) rfl ML_X5_93 IM_X5_goesOn SE_X5_goesOn IN_X5 CO_X5_goesOn hdV_X5_goesOn rfl rfl ⟨(Nat.le_of_ble_eq_true rfl), (Nat.le_of_ble_eq_true rfl)⟩ rfl rfl (rfl) rfl rfl hl.1 (Nat.le_of_ble_eq_true rfl) dX5_land_92 ⟨(Nat.le_of_ble_eq_true rfl), (Nat.le_of_ble_eq_true rfl)⟩ (fun r_151 u H locs hw hW => ?_)
        subst hw
        refine lv_if_ne (tgt := 100) hx hb dX5_land_95 (by decide) (fun h => absurd (by decide) h) (fun _ => ?_)
        refine lv_iconst (v := 0) hx hb dX5_land_98 (by decide) ?_
        have hop : op_land (N, R, Fr, inc) p0 p1 p2 p3 p4 = (2, 0, (N, R, Fr, inc)) := by simp [op_land, hq_141, hq_147, hq_149]
        exact k_iret () F (hW.eq (by rw [hop]; rfl)) (by rw [hop]) dX5_land_99 (Nat.le_of_ble_eq_true rfl) (Nat.le_of_ble_eq_true rfl)
    · refine lv_if_eq (tgt := 28) hx hb dX5_land_13 (by decide) (fun h => absurd h (by decide)) (fun _ => ?_)
      refine lv_iload hx hb dX5_land_16 (lv_at hl 4 rfl) ?_
      refine lv_iconst (v := 1) hx hb dX5_land_18 (by decide) ?_
      refine lv_sipush (v := 2000) hx hb dX5_land_19 (by decide) ?_
      refine k_callSi (as := [.int p3, .int 1, .int 2000]) (rest := []) F hW (met_X5_in l D cA _ p3 1 2000) rfl ML_X5_80 ST_X5_in IN_X5 CO_X5_in hdS_X5_in rfl rfl ⟨(Nat.le_of_ble_eq_true rfl), (Nat.le_of_ble_eq_true rfl)⟩ rfl rfl hl.1 (Nat.le_of_ble_eq_true rfl) dX5_land_22 ⟨(Nat.le_of_ble_eq_true rfl), (Nat.le_of_ble_eq_true rfl)⟩ (fun r_152 u H locs hw hW => ?_)
      subst hw
      cases hq_153 : wi p3 1 2000
      · refine lv_if_ne (tgt := 32) hx hb dX5_land_25 (by decide) (fun h => absurd (by decide) h) (fun _ => ?_)
        refine lv_iconst (v := 1) hx hb dX5_land_28 (by decide) ?_
        refine lv_goto (tgt := 33) hx hb dX5_land_29 (by decide) ?_
        refine lv_istore (lv' := [(6, .int 1), (0, .ref (β 0)), (1, .int p0), (2, .int p1), (3, .int p2), (4, .int p3), (5, .int p4)]) hx hb dX5_land_33 hl (by decide) rfl (fun ls hl => ?_)
        refine lv_aload_n hx hb dX5_land_35 rfl (lv_at hl 1 rfl) ?_
        refine lv_iload_n hx hb dX5_land_36 rfl (lv_at hl 2 rfl) ?_
        refine k_callVi (as := [.int p0]) (rest := []) (b := (β 0)) (ci := 7) (q0 := 2) F hW (met_X5_isBoat l D cA β c0 c1 wr th N R Fr inc p0) rfl ML_X5_100 IM_X5_isBoat SE_X5_isBoat IN_X5 CO_X5_isBoat hdV_X5_isBoat rfl rfl ⟨(Nat.le_of_ble_eq_true rfl), (Nat.le_of_ble_eq_true rfl)⟩ rfl rfl (rfl) rfl rfl hl.1 (Nat.le_of_ble_eq_true rfl) dX5_land_37 ⟨(Nat.le_of_ble_eq_true rfl), (Nat.le_of_ble_eq_true rfl)⟩ (fun r_154 u H locs hw hW => ?_)
        subst hw
        cases hq_155 : isIx (N 0 0) p0
        · refine lv_if_ne (tgt := 47) hx hb dX5_land_40 (by decide) (fun h => absurd (by decide) h) (fun _ => ?_)
          refine lv_iconst (v := 1) hx hb dX5_land_43 (by decide) ?_
          refine lv_goto (tgt := 87) hx hb dX5_land_44 (by decide) ?_
          refine lv_istore (lv' := [(7, .int 1), (6, .int 1), (0, .ref (β 0)), (1, .int p0), (2, .int p1), (3, .int p2), (4, .int p3), (5, .int p4)]) hx hb dX5_land_87 hl (by decide) rfl (fun ls hl => ?_)
          refine lv_aload_n hx hb dX5_land_89 rfl (lv_at hl 2 rfl) ?_
          refine lv_iload hx hb dX5_land_90 (lv_at hl 0 rfl) ?_
          refine k_callVi (as := [.int 1]) (rest := []) (b := (β 0)) (ci := 7) (q0 := 2) F hW (met_X5_goesOn l D cA β c0 c1 wr th N R Fr inc 1) rfl ML_X5_93 IM_X5_goesOn SE_X5_goesOn IN_X5 CO_X5_goesOn hdV_X5_goesOn rfl rfl ⟨(Nat.le_of_ble_eq_true rfl), (Nat.le_of_ble_eq_true rfl)⟩ rfl rfl (rfl) rfl rfl hl.1 (Nat.le_of_ble_eq_true rfl) dX5_land_92 ⟨(Nat.le_of_ble_eq_true rfl), (Nat.le_of_ble_eq_true rfl)⟩ (fun r_156 u H locs hw hW => ?_)
          subst hw
          refine lv_if_ne (tgt := 100) hx hb dX5_land_95 (by decide) (fun h => absurd (by decide) h) (fun _ => ?_)
          refine lv_iconst (v := 0) hx hb dX5_land_98 (by decide) ?_
          have hop : op_land (N, R, Fr, inc) p0 p1 p2 p3 p4 = (1, 0, (N, R, Fr, inc)) := by simp [op_land, hq_141, hq_147, hq_153, hq_155]
          exact k_iret () F (hW.eq (by rw [hop]; rfl)) (by rw [hop]) dX5_land_99 (Nat.le_of_ble_eq_true rfl) (Nat.le_of_ble_eq_true rfl)
        · refine lv_if_ne (tgt := 47) hx hb dX5_land_40 (by decide) (fun _ => ?_) (fun h => absurd h (by decide))
          refine lv_iload hx hb dX5_land_47 (lv_at hl 0 rfl) ?_
          refine lv_if_eq (tgt := 56) hx hb dX5_land_49 (by decide) (fun h => absurd h (by decide)) (fun _ => ?_)
          refine lv_iconst (v := 2) hx hb dX5_land_52 (by decide) ?_
          refine lv_goto (tgt := 87) hx hb dX5_land_53 (by decide) ?_
          refine lv_istore (lv' := [(7, .int 2), (6, .int 1), (0, .ref (β 0)), (1, .int p0), (2, .int p1), (3, .int p2), (4, .int p3), (5, .int p4)]) hx hb dX5_land_87 hl (by decide) rfl (fun ls hl => ?_)
          refine lv_aload_n hx hb dX5_land_89 rfl (lv_at hl 2 rfl) ?_
          refine lv_iload hx hb dX5_land_90 (lv_at hl 0 rfl) ?_
          refine k_callVi (as := [.int 2]) (rest := []) (b := (β 0)) (ci := 7) (q0 := 2) F hW (met_X5_goesOn l D cA β c0 c1 wr th N R Fr inc 2) rfl ML_X5_93 IM_X5_goesOn SE_X5_goesOn IN_X5 CO_X5_goesOn hdV_X5_goesOn rfl rfl ⟨(Nat.le_of_ble_eq_true rfl), (Nat.le_of_ble_eq_true rfl)⟩ rfl rfl (rfl) rfl rfl hl.1 (Nat.le_of_ble_eq_true rfl) dX5_land_92 ⟨(Nat.le_of_ble_eq_true rfl), (Nat.le_of_ble_eq_true rfl)⟩ (fun r_157 u H locs hw hW => ?_)
          subst hw
          refine lv_if_ne (tgt := 100) hx hb dX5_land_95 (by decide) (fun h => absurd (by decide) h) (fun _ => ?_)
          refine lv_iconst (v := 0) hx hb dX5_land_98 (by decide) ?_
          have hop : op_land (N, R, Fr, inc) p0 p1 p2 p3 p4 = (2, 0, (N, R, Fr, inc)) := by simp [op_land, hq_141, hq_147, hq_153, hq_155]
          exact k_iret () F (hW.eq (by rw [hop]; rfl)) (by rw [hop]) dX5_land_99 (Nat.le_of_ble_eq_true rfl) (Nat.le_of_ble_eq_true rfl)
      · refine lv_if_ne (tgt := 32) hx hb dX5_land_25 (by decide) (fun _ => ?_) (fun h => absurd h (by decide))
        refine lv_iconst (v := 0) hx hb dX5_land_32 (by decide) ?_
        refine lv_istore (lv' := [(6, .int 0), (0, .ref (β 0)), (1, .int p0), (2, .int p1), (3, .int p2), (4, .int p3), (5, .int p4)]) hx hb dX5_land_33 hl (by decide) rfl (fun ls hl => ?_)
        refine lv_aload_n hx hb dX5_land_35 rfl (lv_at hl 1 rfl) ?_
        refine lv_iload_n hx hb dX5_land_36 rfl (lv_at hl 2 rfl) ?_
        refine k_callVi (as := [.int p0]) (rest := []) (b := (β 0)) (ci := 7) (q0 := 2) F hW (met_X5_isBoat l D cA β c0 c1 wr th N R Fr inc p0) rfl ML_X5_100 IM_X5_isBoat SE_X5_isBoat IN_X5 CO_X5_isBoat hdV_X5_isBoat rfl rfl ⟨(Nat.le_of_ble_eq_true rfl), (Nat.le_of_ble_eq_true rfl)⟩ rfl rfl (rfl) rfl rfl hl.1 (Nat.le_of_ble_eq_true rfl) dX5_land_37 ⟨(Nat.le_of_ble_eq_true rfl), (Nat.le_of_ble_eq_true rfl)⟩ (fun r_158 u H locs hw hW => ?_)
        subst hw
        cases hq_159 : isIx (N 0 0) p0
        · refine lv_if_ne (tgt := 47) hx hb dX5_land_40 (by decide) (fun h => absurd (by decide) h) (fun _ => ?_)
          refine lv_iconst (v := 1) hx hb dX5_land_43 (by decide) ?_
          refine lv_goto (tgt := 87) hx hb dX5_land_44 (by decide) ?_
          refine lv_istore (lv' := [(7, .int 1), (6, .int 0), (0, .ref (β 0)), (1, .int p0), (2, .int p1), (3, .int p2), (4, .int p3), (5, .int p4)]) hx hb dX5_land_87 hl (by decide) rfl (fun ls hl => ?_)
          refine lv_aload_n hx hb dX5_land_89 rfl (lv_at hl 2 rfl) ?_
          refine lv_iload hx hb dX5_land_90 (lv_at hl 0 rfl) ?_
          refine k_callVi (as := [.int 1]) (rest := []) (b := (β 0)) (ci := 7) (q0 := 2) F hW (met_X5_goesOn l D cA β c0 c1 wr th N R Fr inc 1) rfl ML_X5_93 IM_X5_goesOn SE_X5_goesOn IN_X5 CO_X5_goesOn hdV_X5_goesOn rfl rfl ⟨(Nat.le_of_ble_eq_true rfl), (Nat.le_of_ble_eq_true rfl)⟩ rfl rfl (rfl) rfl rfl hl.1 (Nat.le_of_ble_eq_true rfl) dX5_land_92 ⟨(Nat.le_of_ble_eq_true rfl), (Nat.le_of_ble_eq_true rfl)⟩ (fun r_160 u H locs hw hW => ?_)
          subst hw
          refine lv_if_ne (tgt := 100) hx hb dX5_land_95 (by decide) (fun h => absurd (by decide) h) (fun _ => ?_)
          refine lv_iconst (v := 0) hx hb dX5_land_98 (by decide) ?_
          have hop : op_land (N, R, Fr, inc) p0 p1 p2 p3 p4 = (1, 0, (N, R, Fr, inc)) := by simp [op_land, hq_141, hq_147, hq_153, hq_159]
          exact k_iret () F (hW.eq (by rw [hop]; rfl)) (by rw [hop]) dX5_land_99 (Nat.le_of_ble_eq_true rfl) (Nat.le_of_ble_eq_true rfl)
        · refine lv_if_ne (tgt := 47) hx hb dX5_land_40 (by decide) (fun _ => ?_) (fun h => absurd h (by decide))
          refine lv_iload hx hb dX5_land_47 (lv_at hl 0 rfl) ?_
          refine lv_if_eq (tgt := 56) hx hb dX5_land_49 (by decide) (fun _ => ?_) (fun h => absurd (by decide) h)
          refine lv_aload_n hx hb dX5_land_56 rfl (lv_at hl 1 rfl) ?_
          refine k_get (v := .int (nI (N 0 1))) F hW inX5 rfl 2 rfl rfl 6 (by decide) FL_X5_84 rfl rfl dX5_land_57 ?_
          refine lv_bipush (v := 20) hx hb dX5_land_60 (by decide) ?_
          refine lv_icmp_ne (tgt := 69) hx hb dX5_land_62 (by decide) (fun h_n => ?_) (fun h_n => ?_)
          · have h_n : ¬ N 0 1 = 20 := fun q => h_n (by rw [q]; rfl)
            refine lv_aload_n hx hb dX5_land_69 rfl (lv_at hl 1 rfl) ?_
            refine k_get (v := .ref (β 1)) F hW inX5 rfl 2 rfl rfl 2 (by decide) FL_X5_9 rfl rfl dX5_land_70 ?_
            refine lv_iconst (v := 4) hx hb dX5_land_73 (by decide) ?_
            refine lv_iload_n hx hb dX5_land_74 rfl (lv_at hl 2 rfl) ?_
            refine lv_imul hx hb dX5_land_75 ?_
            refine lv_iload_n hx hb dX5_land_76 rfl (lv_at hl 3 rfl) ?_
            refine lv_iadd hx hb dX5_land_77 ?_
            refine k_iald (v := R 1 (ix p0) (ix p1)) F hW 3 rfl (in4 hq_159 (by omega) hq_141 (by omega) (by decide)) (v4 (f := R 1) hq_159 (by omega) hq_141) dX5_land_78 ?_
            refine lv_if_ne (tgt := 86) hx hb dX5_land_79 (by decide) (fun h_q => ?_) (fun h_q => ?_)
            · refine lv_iconst (v := 0) hx hb dX5_land_86 (by decide) ?_
              refine lv_istore (lv' := [(7, .int 0), (6, .int 0), (0, .ref (β 0)), (1, .int p0), (2, .int p1), (3, .int p2), (4, .int p3), (5, .int p4)]) hx hb dX5_land_87 hl (by decide) rfl (fun ls hl => ?_)
              refine lv_aload_n hx hb dX5_land_89 rfl (lv_at hl 2 rfl) ?_
              refine lv_iload hx hb dX5_land_90 (lv_at hl 0 rfl) ?_
              refine k_callVi (as := [.int 0]) (rest := []) (b := (β 0)) (ci := 7) (q0 := 2) F hW (met_X5_goesOn l D cA β c0 c1 wr th N R Fr inc 0) rfl ML_X5_93 IM_X5_goesOn SE_X5_goesOn IN_X5 CO_X5_goesOn hdV_X5_goesOn rfl rfl ⟨(Nat.le_of_ble_eq_true rfl), (Nat.le_of_ble_eq_true rfl)⟩ rfl rfl (rfl) rfl rfl hl.1 (Nat.le_of_ble_eq_true rfl) dX5_land_92 ⟨(Nat.le_of_ble_eq_true rfl), (Nat.le_of_ble_eq_true rfl)⟩ (fun r_161 u H locs hw hW => ?_)
              subst hw
              refine lv_if_ne (tgt := 100) hx hb dX5_land_95 (by decide) (fun _ => ?_) (fun h => absurd h (by decide))
              refine lv_aload_n hx hb dX5_land_100 rfl (lv_at hl 2 rfl) ?_
              refine k_get (v := .ref (β 1)) F hW inX5 rfl 2 rfl rfl 2 (by decide) FL_X5_9 rfl rfl dX5_land_101 ?_
              refine lv_iconst (v := 4) hx hb dX5_land_104 (by decide) ?_
              refine lv_iload_n hx hb dX5_land_105 rfl (lv_at hl 3 rfl) ?_
              refine lv_imul hx hb dX5_land_106 ?_
              refine lv_iload_n hx hb dX5_land_107 rfl (lv_at hl 4 rfl) ?_
              refine lv_iadd hx hb dX5_land_108 ?_
              refine k_iald (v := R 1 (ix p0) (ix p1)) F hW 3 rfl (in4 hq_159 (by omega) hq_141 (by omega) (by decide)) (v4 (f := R 1) hq_159 (by omega) hq_141) dX5_land_109 ?_
              refine lv_istore (lv' := [(8, .int (R 1 (ix p0) (ix p1))), (7, .int 0), (6, .int 0), (0, .ref (β 0)), (1, .int p0), (2, .int p1), (3, .int p2), (4, .int p3), (5, .int p4)]) hx hb dX5_land_110 hl (by decide) rfl (fun ls hl => ?_)
              refine lv_iload hx hb dX5_land_112 (lv_at hl 7 rfl) ?_
              refine lv_iload hx hb dX5_land_114 (lv_at hl 0 rfl) ?_
              refine lv_icmp_ge (tgt := 124) hx hb dX5_land_116 (by decide) (fun h_c => ?_) (fun h_c => ?_)
              · have h_d : ¬ p3 < R 1 (ix p0) (ix p1) := Int32.not_lt.mpr h_c
                refine lv_iload hx hb dX5_land_124 (lv_at hl 0 rfl) ?_
                refine lv_topi (fun x_162 ex_162 => ?_)
                obtain rfl : x_162 = landed p3 (R 1 (ix p0) (ix p1)) := ex_162.trans (by simp [landed, h_d])
                refine lv_istore (lv' := [(9, .int (landed p3 (R 1 (ix p0) (ix p1)))), (8, .int (R 1 (ix p0) (ix p1))), (7, .int 0), (6, .int 0), (0, .ref (β 0)), (1, .int p0), (2, .int p1), (3, .int p2), (4, .int p3), (5, .int p4)]) hx hb dX5_land_126 hl (by decide) rfl (fun ls hl => ?_)
                refine lv_aload_n hx hb dX5_land_128 rfl (lv_at hl 4 rfl) ?_
                refine k_get (v := .ref (β 1)) F hW inX5 rfl 2 rfl rfl 2 (by decide) FL_X5_9 rfl rfl dX5_land_129 ?_
                refine lv_iconst (v := 4) hx hb dX5_land_132 (by decide) ?_
                refine lv_iload_n hx hb dX5_land_133 rfl (lv_at hl 5 rfl) ?_
                refine lv_imul hx hb dX5_land_134 ?_
                refine lv_iload_n hx hb dX5_land_135 rfl (lv_at hl 6 rfl) ?_
                refine lv_iadd hx hb dX5_land_136 ?_
                refine lv_dup2_11 hx hb dX5_land_137 rfl rfl ?_
                refine k_iald (v := R 1 (ix p0) (ix p1)) F hW 3 rfl (in4 hq_159 (by omega) hq_141 (by omega) (by decide)) (v4 (f := R 1) hq_159 (by omega) hq_141) dX5_land_138 ?_
                refine lv_iload hx hb dX5_land_139 (lv_at hl 0 rfl) ?_
                refine lv_isub hx hb dX5_land_141 ?_
                have hlt : N 0 1 < 20 := by omega
                refine k_iast F hW 3 rfl (in4 hq_159 (by omega) hq_141 (by omega) (by decide)) (mWd cA β c0 c1 wr 0 (N, up3 R 1 (ix p0) (ix p1) (R 1 (ix p0) (ix p1) - landed p3 (R 1 (ix p0) (ix p1))), Fr, inc)) (by rw [ud4 R 1 _ hq_159 (by omega) hq_141]; rfl) dX5_land_142 (fun H locs hW => ?_)
                refine lv_aload_n hx hb dX5_land_143 rfl (lv_at hl 4 rfl) ?_
                refine lv_dup hx hb dX5_land_144 rfl ?_
                refine k_get (v := .int (R 0 0 0)) F hW inX5 rfl 2 rfl rfl 5 (by decide) FL_X5_103 rfl rfl dX5_land_145 ?_
                refine lv_iload hx hb dX5_land_148 (lv_at hl 8 rfl) ?_
                refine lv_iload hx hb dX5_land_150 (lv_at hl 0 rfl) ?_
                refine lv_isub hx hb dX5_land_152 ?_
                refine lv_iadd hx hb dX5_land_153 ?_
                refine k_put F hW inX5 tyX5_ok nmX5 rfl 2 rfl rfl 5 (by decide) FL_X5_103 rfl rfl rfl rfl rfl (Nat.le_of_ble_eq_true rfl) (mWd cA β c0 c1 wr 0 (N, up3 (up3 R 1 (ix p0) (ix p1) (R 1 (ix p0) (ix p1) - landed p3 (R 1 (ix p0) (ix p1)))) 0 0 0 (R 0 0 0 + (p3 - landed p3 (R 1 (ix p0) (ix p1)))), Fr, inc)) rfl dX5_land_154 (fun H locs hW => ?_)
                refine lv_aload_n hx hb dX5_land_157 rfl (lv_at hl 4 rfl) ?_
                refine k_get (v := .ref (β 3)) F hW inX5 rfl 2 rfl rfl 7 (by decide) FL_X5_16 rfl rfl dX5_land_158 ?_
                refine lv_aload_n hx hb dX5_land_161 rfl (lv_at hl 4 rfl) ?_
                refine k_get (v := .int (nI (N 0 1))) F hW inX5 rfl 2 rfl rfl 6 (by decide) FL_X5_84 rfl rfl dX5_land_162 ?_
                refine lv_iload_n hx hb dX5_land_165 rfl (lv_at hl 6 rfl) ?_
                refine k_iast F hW 5 rfl (vp_in_nI hlt (by decide)) (mWd cA β c0 c1 wr 0 (N, up3 (up3 (up3 R 1 (ix p0) (ix p1) (R 1 (ix p0) (ix p1) - landed p3 (R 1 (ix p0) (ix p1)))) 0 0 0 (R 0 0 0 + (p3 - landed p3 (R 1 (ix p0) (ix p1))))) 5 (N 0 1) 0 p1, Fr, inc)) (by rw [nI_clamp (by omega), u1 (up3 (up3 R 1 (ix p0) (ix p1) (R 1 (ix p0) (ix p1) - landed p3 (R 1 (ix p0) (ix p1)))) 0 0 0 (R 0 0 0 + (p3 - landed p3 (R 1 (ix p0) (ix p1))))) 5]; rfl) dX5_land_166 (fun H locs hW => ?_)
                refine lv_aload_n hx hb dX5_land_167 rfl (lv_at hl 4 rfl) ?_
                refine k_get (v := .ref (β 4)) F hW inX5 rfl 2 rfl rfl 8 (by decide) FL_X5_19 rfl rfl dX5_land_168 ?_
                refine lv_aload_n hx hb dX5_land_171 rfl (lv_at hl 4 rfl) ?_
                refine k_get (v := .int (nI (N 0 1))) F hW inX5 rfl 2 rfl rfl 6 (by decide) FL_X5_84 rfl rfl dX5_land_172 ?_
                refine lv_iload_n hx hb dX5_land_175 rfl (lv_at hl 7 rfl) ?_
                refine k_iast F hW 6 rfl (vp_in_nI hlt (by decide)) (mWd cA β c0 c1 wr 0 (N, up3 (up3 (up3 (up3 R 1 (ix p0) (ix p1) (R 1 (ix p0) (ix p1) - landed p3 (R 1 (ix p0) (ix p1)))) 0 0 0 (R 0 0 0 + (p3 - landed p3 (R 1 (ix p0) (ix p1))))) 5 (N 0 1) 0 p1) 6 (N 0 1) 0 p2, Fr, inc)) (by rw [nI_clamp (by omega), u1 (up3 (up3 (up3 R 1 (ix p0) (ix p1) (R 1 (ix p0) (ix p1) - landed p3 (R 1 (ix p0) (ix p1)))) 0 0 0 (R 0 0 0 + (p3 - landed p3 (R 1 (ix p0) (ix p1))))) 5 (N 0 1) 0 p1) 6]; rfl) dX5_land_176 (fun H locs hW => ?_)
                refine lv_aload_n hx hb dX5_land_177 rfl (lv_at hl 4 rfl) ?_
                refine k_get (v := .ref (β 5)) F hW inX5 rfl 2 rfl rfl 9 (by decide) FL_X5_22 rfl rfl dX5_land_178 ?_
                refine lv_aload_n hx hb dX5_land_181 rfl (lv_at hl 4 rfl) ?_
                refine k_get (v := .int (nI (N 0 1))) F hW inX5 rfl 2 rfl rfl 6 (by decide) FL_X5_84 rfl rfl dX5_land_182 ?_
                refine lv_iload hx hb dX5_land_185 (lv_at hl 0 rfl) ?_
                refine k_iast F hW 7 rfl (vp_in_nI hlt (by decide)) (mWd cA β c0 c1 wr 0 (N, up3 (up3 (up3 (up3 (up3 R 1 (ix p0) (ix p1) (R 1 (ix p0) (ix p1) - landed p3 (R 1 (ix p0) (ix p1)))) 0 0 0 (R 0 0 0 + (p3 - landed p3 (R 1 (ix p0) (ix p1))))) 5 (N 0 1) 0 p1) 6 (N 0 1) 0 p2) 7 (N 0 1) 0 (landed p3 (R 1 (ix p0) (ix p1))), Fr, inc)) (by rw [nI_clamp (by omega), u1 (up3 (up3 (up3 (up3 R 1 (ix p0) (ix p1) (R 1 (ix p0) (ix p1) - landed p3 (R 1 (ix p0) (ix p1)))) 0 0 0 (R 0 0 0 + (p3 - landed p3 (R 1 (ix p0) (ix p1))))) 5 (N 0 1) 0 p1) 6 (N 0 1) 0 p2) 7]; rfl) dX5_land_187 (fun H locs hW => ?_)
                refine lv_aload_n hx hb dX5_land_188 rfl (lv_at hl 4 rfl) ?_
                refine k_get (v := .ref (β 6)) F hW inX5 rfl 2 rfl rfl 10 (by decide) FL_X5_25 rfl rfl dX5_land_189 ?_
                refine lv_aload_n hx hb dX5_land_192 rfl (lv_at hl 4 rfl) ?_
                refine k_get (v := .int (nI (N 0 1))) F hW inX5 rfl 2 rfl rfl 6 (by decide) FL_X5_84 rfl rfl dX5_land_193 ?_
                refine lv_iload hx hb dX5_land_196 (lv_at hl 9 rfl) ?_
                refine k_zast F hW 8 rfl (vp_in_nI hlt (by decide)) (z01 hz4) (mWd cA β c0 c1 wr 0 (N, up3 (up3 (up3 (up3 (up3 (up3 R 1 (ix p0) (ix p1) (R 1 (ix p0) (ix p1) - landed p3 (R 1 (ix p0) (ix p1)))) 0 0 0 (R 0 0 0 + (p3 - landed p3 (R 1 (ix p0) (ix p1))))) 5 (N 0 1) 0 p1) 6 (N 0 1) 0 p2) 7 (N 0 1) 0 (landed p3 (R 1 (ix p0) (ix p1)))) 8 (N 0 1) 0 p4, Fr, inc)) (by rw [nI_clamp (by omega), u1 (up3 (up3 (up3 (up3 (up3 R 1 (ix p0) (ix p1) (R 1 (ix p0) (ix p1) - landed p3 (R 1 (ix p0) (ix p1)))) 0 0 0 (R 0 0 0 + (p3 - landed p3 (R 1 (ix p0) (ix p1))))) 5 (N 0 1) 0 p1) 6 (N 0 1) 0 p2) 7 (N 0 1) 0 (landed p3 (R 1 (ix p0) (ix p1)))) 8]; rfl) dX5_land_198 (fun H locs hW => ?_)
                refine lv_aload_n hx hb dX5_land_199 rfl (lv_at hl 4 rfl) ?_
                refine k_get (v := .ref (β 7)) F hW inX5 rfl 2 rfl rfl 11 (by decide) FL_X5_29 rfl rfl dX5_land_200 ?_
                refine lv_aload_n hx hb dX5_land_203 rfl (lv_at hl 4 rfl) ?_
                refine k_get (v := .int (nI (N 0 1))) F hW inX5 rfl 2 rfl rfl 6 (by decide) FL_X5_84 rfl rfl dX5_land_204 ?_
                refine lv_bipush (v := 102) hx hb dX5_land_207 (by decide) ?_
                refine k_cast F hW 9 rfl (vp_in_nI hlt (by decide)) (rfl) (mWd cA β c0 c1 wr 0 (N, up3 (up3 (up3 (up3 (up3 (up3 (up3 R 1 (ix p0) (ix p1) (R 1 (ix p0) (ix p1) - landed p3 (R 1 (ix p0) (ix p1)))) 0 0 0 (R 0 0 0 + (p3 - landed p3 (R 1 (ix p0) (ix p1))))) 5 (N 0 1) 0 p1) 6 (N 0 1) 0 p2) 7 (N 0 1) 0 (landed p3 (R 1 (ix p0) (ix p1)))) 8 (N 0 1) 0 p4) 9 (N 0 1) 0 102, Fr, inc)) (by rw [nI_clamp (by omega), u1 (up3 (up3 (up3 (up3 (up3 (up3 R 1 (ix p0) (ix p1) (R 1 (ix p0) (ix p1) - landed p3 (R 1 (ix p0) (ix p1)))) 0 0 0 (R 0 0 0 + (p3 - landed p3 (R 1 (ix p0) (ix p1))))) 5 (N 0 1) 0 p1) 6 (N 0 1) 0 p2) 7 (N 0 1) 0 (landed p3 (R 1 (ix p0) (ix p1)))) 8 (N 0 1) 0 p4) 9]; rfl) dX5_land_209 (fun H locs hW => ?_)
                refine lv_aload_n hx hb dX5_land_210 rfl (lv_at hl 4 rfl) ?_
                refine k_get (v := .ref (β 8)) F hW inX5 rfl 2 rfl rfl 12 (by decide) FL_X5_33 rfl rfl dX5_land_211 ?_
                refine lv_aload_n hx hb dX5_land_214 rfl (lv_at hl 4 rfl) ?_
                refine k_get (v := .int (nI (N 0 1))) F hW inX5 rfl 2 rfl rfl 6 (by decide) FL_X5_84 rfl rfl dX5_land_215 ?_
                refine lv_ldcf (v := 1120403456) hx hb hown (hts _ CK_X5_106) dX5_land_218 ?_
                refine k_fast F hW 10 rfl (vp_in_nI hlt (by decide)) (mWd cA β c0 c1 wr 0 (N, up3 (up3 (up3 (up3 (up3 (up3 (up3 R 1 (ix p0) (ix p1) (R 1 (ix p0) (ix p1) - landed p3 (R 1 (ix p0) (ix p1)))) 0 0 0 (R 0 0 0 + (p3 - landed p3 (R 1 (ix p0) (ix p1))))) 5 (N 0 1) 0 p1) 6 (N 0 1) 0 p2) 7 (N 0 1) 0 (landed p3 (R 1 (ix p0) (ix p1)))) 8 (N 0 1) 0 p4) 9 (N 0 1) 0 102, vf_upd Fr (N 0 1) 1120403456, inc)) (by rw [nI_clamp (by omega)]; rfl) dX5_land_220 (fun H locs hW => ?_)
                refine lv_aload_n hx hb dX5_land_221 rfl (lv_at hl 4 rfl) ?_
                refine k_get (v := .ref (β 10)) F hW inX5 rfl 2 rfl rfl 14 (by decide) FL_X5_40 rfl rfl dX5_land_222 ?_
                refine lv_aload_n hx hb dX5_land_225 rfl (lv_at hl 4 rfl) ?_
                refine k_get (v := .int (nI (N 0 1))) F hW inX5 rfl 2 rfl rfl 6 (by decide) FL_X5_84 rfl rfl dX5_land_226 ?_
                refine lv_iconst (v := (-1)) hx hb dX5_land_229 (by decide) ?_
                refine k_iast F hW 12 rfl (vp_in_nI hlt (by decide)) (mWd cA β c0 c1 wr 0 (N, up3 (up3 (up3 (up3 (up3 (up3 (up3 (up3 R 1 (ix p0) (ix p1) (R 1 (ix p0) (ix p1) - landed p3 (R 1 (ix p0) (ix p1)))) 0 0 0 (R 0 0 0 + (p3 - landed p3 (R 1 (ix p0) (ix p1))))) 5 (N 0 1) 0 p1) 6 (N 0 1) 0 p2) 7 (N 0 1) 0 (landed p3 (R 1 (ix p0) (ix p1)))) 8 (N 0 1) 0 p4) 9 (N 0 1) 0 102) 11 (N 0 1) 0 (-1), vf_upd Fr (N 0 1) 1120403456, inc)) (by rw [nI_clamp (by omega), u1 (up3 (up3 (up3 (up3 (up3 (up3 (up3 R 1 (ix p0) (ix p1) (R 1 (ix p0) (ix p1) - landed p3 (R 1 (ix p0) (ix p1)))) 0 0 0 (R 0 0 0 + (p3 - landed p3 (R 1 (ix p0) (ix p1))))) 5 (N 0 1) 0 p1) 6 (N 0 1) 0 p2) 7 (N 0 1) 0 (landed p3 (R 1 (ix p0) (ix p1)))) 8 (N 0 1) 0 p4) 9 (N 0 1) 0 102) 11]; rfl) dX5_land_230 (fun H locs hW => ?_)
                refine lv_aload_n hx hb dX5_land_231 rfl (lv_at hl 4 rfl) ?_
                refine lv_dup hx hb dX5_land_232 rfl ?_
                refine k_get (v := .int (nI (N 0 1))) F hW inX5 rfl 2 rfl rfl 6 (by decide) FL_X5_84 rfl rfl dX5_land_233 ?_
                refine lv_iconst (v := 1) hx hb dX5_land_236 (by decide) ?_
                refine lv_iadd hx hb dX5_land_237 ?_
                refine lv_topi (fun x_163 ex_163 => ?_)
                obtain rfl : x_163 = nI (N 0 1 + 1) := ex_163.trans (nI_1 _)
                refine k_put F hW inX5 tyX5_ok nmX5 rfl 2 rfl rfl 6 (by decide) FL_X5_84 rfl rfl rfl rfl rfl (Nat.le_of_ble_eq_true rfl) (mWd cA β c0 c1 wr 0 (up2 N 0 1 (N 0 1 + 1), up3 (up3 (up3 (up3 (up3 (up3 (up3 (up3 R 1 (ix p0) (ix p1) (R 1 (ix p0) (ix p1) - landed p3 (R 1 (ix p0) (ix p1)))) 0 0 0 (R 0 0 0 + (p3 - landed p3 (R 1 (ix p0) (ix p1))))) 5 (N 0 1) 0 p1) 6 (N 0 1) 0 p2) 7 (N 0 1) 0 (landed p3 (R 1 (ix p0) (ix p1)))) 8 (N 0 1) 0 p4) 9 (N 0 1) 0 102) 11 (N 0 1) 0 (-1), vf_upd Fr (N 0 1) 1120403456, inc)) rfl dX5_land_238 (fun H locs hW => ?_)
                refine lv_aload_n hx hb dX5_land_241 rfl (lv_at hl 4 rfl) ?_
                refine k_get (v := .int (nI (N 0 1 + 1))) F hW inX5 rfl 2 rfl rfl 6 (by decide) FL_X5_84 rfl rfl dX5_land_242 ?_
                refine lv_iconst (v := 1) hx hb dX5_land_245 (by decide) ?_
                refine lv_isub hx hb dX5_land_246 ?_
                refine lv_topi (fun x_164 ex_164 => ?_)
                obtain rfl : x_164 = nI (N 0 1) := ex_164.trans (nI_pred _)
                have hop : op_land (N, R, Fr, inc) p0 p1 p2 p3 p4 = (0, nI (N 0 1), (up2 (up2 N 0 1 (N 0 1 + 1)) 2 1 (N 0 1 + 1), up3 (up3 (up3 (up3 (up3 (up3 (up3 (up3 (up3 R 1 (ix p0) (ix p1) (R 1 (ix p0) (ix p1) - landed p3 (R 1 (ix p0) (ix p1)))) 0 0 0 (R 0 0 0 + (p3 - landed p3 (R 1 (ix p0) (ix p1))))) 5 (N 0 1) 0 p1) 6 (N 0 1) 0 p2) 7 (N 0 1) 0 (landed p3 (R 1 (ix p0) (ix p1)))) 8 (N 0 1) 0 p4) 9 (N 0 1) 0 102) 11 (N 0 1) 0 (-1)) 4 (N 0 1) 0 p0, vf_upd Fr (N 0 1) 1120403456, inc)) := by simp [op_land, hq_141, hq_147, hq_153, hq_159, h_n, h_q, h_d]
                exact k_iret () F (hW.eq (by rw [hop]; rfl)) (by rw [hop]) dX5_land_247 (Nat.le_of_ble_eq_true rfl) (Nat.le_of_ble_eq_true rfl)
              · have h_d : p3 < R 1 (ix p0) (ix p1) := Int32.not_le.mp h_c
                refine lv_iload hx hb dX5_land_119 (lv_at hl 7 rfl) ?_
                refine lv_goto (tgt := 126) hx hb dX5_land_121 (by decide) ?_
                refine lv_topi (fun x_165 ex_165 => ?_)
                obtain rfl : x_165 = landed p3 (R 1 (ix p0) (ix p1)) := ex_165.trans (by simp [landed, h_d])
                refine lv_istore (lv' := [(9, .int (landed p3 (R 1 (ix p0) (ix p1)))), (8, .int (R 1 (ix p0) (ix p1))), (7, .int 0), (6, .int 0), (0, .ref (β 0)), (1, .int p0), (2, .int p1), (3, .int p2), (4, .int p3), (5, .int p4)]) hx hb dX5_land_126 hl (by decide) rfl (fun ls hl => ?_)
                refine lv_aload_n hx hb dX5_land_128 rfl (lv_at hl 4 rfl) ?_
                refine k_get (v := .ref (β 1)) F hW inX5 rfl 2 rfl rfl 2 (by decide) FL_X5_9 rfl rfl dX5_land_129 ?_
                refine lv_iconst (v := 4) hx hb dX5_land_132 (by decide) ?_
                refine lv_iload_n hx hb dX5_land_133 rfl (lv_at hl 5 rfl) ?_
                refine lv_imul hx hb dX5_land_134 ?_
                refine lv_iload_n hx hb dX5_land_135 rfl (lv_at hl 6 rfl) ?_
                refine lv_iadd hx hb dX5_land_136 ?_
                refine lv_dup2_11 hx hb dX5_land_137 rfl rfl ?_
                refine k_iald (v := R 1 (ix p0) (ix p1)) F hW 3 rfl (in4 hq_159 (by omega) hq_141 (by omega) (by decide)) (v4 (f := R 1) hq_159 (by omega) hq_141) dX5_land_138 ?_
                refine lv_iload hx hb dX5_land_139 (lv_at hl 0 rfl) ?_
                refine lv_isub hx hb dX5_land_141 ?_
                have hlt : N 0 1 < 20 := by omega
                refine k_iast F hW 3 rfl (in4 hq_159 (by omega) hq_141 (by omega) (by decide)) (mWd cA β c0 c1 wr 0 (N, up3 R 1 (ix p0) (ix p1) (R 1 (ix p0) (ix p1) - landed p3 (R 1 (ix p0) (ix p1))), Fr, inc)) (by rw [ud4 R 1 _ hq_159 (by omega) hq_141]; rfl) dX5_land_142 (fun H locs hW => ?_)
                refine lv_aload_n hx hb dX5_land_143 rfl (lv_at hl 4 rfl) ?_
                refine lv_dup hx hb dX5_land_144 rfl ?_
                refine k_get (v := .int (R 0 0 0)) F hW inX5 rfl 2 rfl rfl 5 (by decide) FL_X5_103 rfl rfl dX5_land_145 ?_
                refine lv_iload hx hb dX5_land_148 (lv_at hl 8 rfl) ?_
                refine lv_iload hx hb dX5_land_150 (lv_at hl 0 rfl) ?_
                refine lv_isub hx hb dX5_land_152 ?_
                refine lv_iadd hx hb dX5_land_153 ?_
                refine k_put F hW inX5 tyX5_ok nmX5 rfl 2 rfl rfl 5 (by decide) FL_X5_103 rfl rfl rfl rfl rfl (Nat.le_of_ble_eq_true rfl) (mWd cA β c0 c1 wr 0 (N, up3 (up3 R 1 (ix p0) (ix p1) (R 1 (ix p0) (ix p1) - landed p3 (R 1 (ix p0) (ix p1)))) 0 0 0 (R 0 0 0 + (p3 - landed p3 (R 1 (ix p0) (ix p1)))), Fr, inc)) rfl dX5_land_154 (fun H locs hW => ?_)
                refine lv_aload_n hx hb dX5_land_157 rfl (lv_at hl 4 rfl) ?_
                refine k_get (v := .ref (β 3)) F hW inX5 rfl 2 rfl rfl 7 (by decide) FL_X5_16 rfl rfl dX5_land_158 ?_
                refine lv_aload_n hx hb dX5_land_161 rfl (lv_at hl 4 rfl) ?_
                refine k_get (v := .int (nI (N 0 1))) F hW inX5 rfl 2 rfl rfl 6 (by decide) FL_X5_84 rfl rfl dX5_land_162 ?_
                refine lv_iload_n hx hb dX5_land_165 rfl (lv_at hl 6 rfl) ?_
                refine k_iast F hW 5 rfl (vp_in_nI hlt (by decide)) (mWd cA β c0 c1 wr 0 (N, up3 (up3 (up3 R 1 (ix p0) (ix p1) (R 1 (ix p0) (ix p1) - landed p3 (R 1 (ix p0) (ix p1)))) 0 0 0 (R 0 0 0 + (p3 - landed p3 (R 1 (ix p0) (ix p1))))) 5 (N 0 1) 0 p1, Fr, inc)) (by rw [nI_clamp (by omega), u1 (up3 (up3 R 1 (ix p0) (ix p1) (R 1 (ix p0) (ix p1) - landed p3 (R 1 (ix p0) (ix p1)))) 0 0 0 (R 0 0 0 + (p3 - landed p3 (R 1 (ix p0) (ix p1))))) 5]; rfl) dX5_land_166 (fun H locs hW => ?_)
                refine lv_aload_n hx hb dX5_land_167 rfl (lv_at hl 4 rfl) ?_
                refine k_get (v := .ref (β 4)) F hW inX5 rfl 2 rfl rfl 8 (by decide) FL_X5_19 rfl rfl dX5_land_168 ?_
                refine lv_aload_n hx hb dX5_land_171 rfl (lv_at hl 4 rfl) ?_
                refine k_get (v := .int (nI (N 0 1))) F hW inX5 rfl 2 rfl rfl 6 (by decide) FL_X5_84 rfl rfl dX5_land_172 ?_
                refine lv_iload_n hx hb dX5_land_175 rfl (lv_at hl 7 rfl) ?_
                refine k_iast F hW 6 rfl (vp_in_nI hlt (by decide)) (mWd cA β c0 c1 wr 0 (N, up3 (up3 (up3 (up3 R 1 (ix p0) (ix p1) (R 1 (ix p0) (ix p1) - landed p3 (R 1 (ix p0) (ix p1)))) 0 0 0 (R 0 0 0 + (p3 - landed p3 (R 1 (ix p0) (ix p1))))) 5 (N 0 1) 0 p1) 6 (N 0 1) 0 p2, Fr, inc)) (by rw [nI_clamp (by omega), u1 (up3 (up3 (up3 R 1 (ix p0) (ix p1) (R 1 (ix p0) (ix p1) - landed p3 (R 1 (ix p0) (ix p1)))) 0 0 0 (R 0 0 0 + (p3 - landed p3 (R 1 (ix p0) (ix p1))))) 5 (N 0 1) 0 p1) 6]; rfl) dX5_land_176 (fun H locs hW => ?_)
                refine lv_aload_n hx hb dX5_land_177 rfl (lv_at hl 4 rfl) ?_
                refine k_get (v := .ref (β 5)) F hW inX5 rfl 2 rfl rfl 9 (by decide) FL_X5_22 rfl rfl dX5_land_178 ?_
                refine lv_aload_n hx hb dX5_land_181 rfl (lv_at hl 4 rfl) ?_
                refine k_get (v := .int (nI (N 0 1))) F hW inX5 rfl 2 rfl rfl 6 (by decide) FL_X5_84 rfl rfl dX5_land_182 ?_
                refine lv_iload hx hb dX5_land_185 (lv_at hl 0 rfl) ?_
                refine k_iast F hW 7 rfl (vp_in_nI hlt (by decide)) (mWd cA β c0 c1 wr 0 (N, up3 (up3 (up3 (up3 (up3 R 1 (ix p0) (ix p1) (R 1 (ix p0) (ix p1) - landed p3 (R 1 (ix p0) (ix p1)))) 0 0 0 (R 0 0 0 + (p3 - landed p3 (R 1 (ix p0) (ix p1))))) 5 (N 0 1) 0 p1) 6 (N 0 1) 0 p2) 7 (N 0 1) 0 (landed p3 (R 1 (ix p0) (ix p1))), Fr, inc)) (by rw [nI_clamp (by omega), u1 (up3 (up3 (up3 (up3 R 1 (ix p0) (ix p1) (R 1 (ix p0) (ix p1) - landed p3 (R 1 (ix p0) (ix p1)))) 0 0 0 (R 0 0 0 + (p3 - landed p3 (R 1 (ix p0) (ix p1))))) 5 (N 0 1) 0 p1) 6 (N 0 1) 0 p2) 7]; rfl) dX5_land_187 (fun H locs hW => ?_)
                refine lv_aload_n hx hb dX5_land_188 rfl (lv_at hl 4 rfl) ?_
                refine k_get (v := .ref (β 6)) F hW inX5 rfl 2 rfl rfl 10 (by decide) FL_X5_25 rfl rfl dX5_land_189 ?_
                refine lv_aload_n hx hb dX5_land_192 rfl (lv_at hl 4 rfl) ?_
                refine k_get (v := .int (nI (N 0 1))) F hW inX5 rfl 2 rfl rfl 6 (by decide) FL_X5_84 rfl rfl dX5_land_193 ?_
                refine lv_iload hx hb dX5_land_196 (lv_at hl 9 rfl) ?_
                refine k_zast F hW 8 rfl (vp_in_nI hlt (by decide)) (z01 hz4) (mWd cA β c0 c1 wr 0 (N, up3 (up3 (up3 (up3 (up3 (up3 R 1 (ix p0) (ix p1) (R 1 (ix p0) (ix p1) - landed p3 (R 1 (ix p0) (ix p1)))) 0 0 0 (R 0 0 0 + (p3 - landed p3 (R 1 (ix p0) (ix p1))))) 5 (N 0 1) 0 p1) 6 (N 0 1) 0 p2) 7 (N 0 1) 0 (landed p3 (R 1 (ix p0) (ix p1)))) 8 (N 0 1) 0 p4, Fr, inc)) (by rw [nI_clamp (by omega), u1 (up3 (up3 (up3 (up3 (up3 R 1 (ix p0) (ix p1) (R 1 (ix p0) (ix p1) - landed p3 (R 1 (ix p0) (ix p1)))) 0 0 0 (R 0 0 0 + (p3 - landed p3 (R 1 (ix p0) (ix p1))))) 5 (N 0 1) 0 p1) 6 (N 0 1) 0 p2) 7 (N 0 1) 0 (landed p3 (R 1 (ix p0) (ix p1)))) 8]; rfl) dX5_land_198 (fun H locs hW => ?_)
                refine lv_aload_n hx hb dX5_land_199 rfl (lv_at hl 4 rfl) ?_
                refine k_get (v := .ref (β 7)) F hW inX5 rfl 2 rfl rfl 11 (by decide) FL_X5_29 rfl rfl dX5_land_200 ?_
                refine lv_aload_n hx hb dX5_land_203 rfl (lv_at hl 4 rfl) ?_
                refine k_get (v := .int (nI (N 0 1))) F hW inX5 rfl 2 rfl rfl 6 (by decide) FL_X5_84 rfl rfl dX5_land_204 ?_
                refine lv_bipush (v := 102) hx hb dX5_land_207 (by decide) ?_
                refine k_cast F hW 9 rfl (vp_in_nI hlt (by decide)) (rfl) (mWd cA β c0 c1 wr 0 (N, up3 (up3 (up3 (up3 (up3 (up3 (up3 R 1 (ix p0) (ix p1) (R 1 (ix p0) (ix p1) - landed p3 (R 1 (ix p0) (ix p1)))) 0 0 0 (R 0 0 0 + (p3 - landed p3 (R 1 (ix p0) (ix p1))))) 5 (N 0 1) 0 p1) 6 (N 0 1) 0 p2) 7 (N 0 1) 0 (landed p3 (R 1 (ix p0) (ix p1)))) 8 (N 0 1) 0 p4) 9 (N 0 1) 0 102, Fr, inc)) (by rw [nI_clamp (by omega), u1 (up3 (up3 (up3 (up3 (up3 (up3 R 1 (ix p0) (ix p1) (R 1 (ix p0) (ix p1) - landed p3 (R 1 (ix p0) (ix p1)))) 0 0 0 (R 0 0 0 + (p3 - landed p3 (R 1 (ix p0) (ix p1))))) 5 (N 0 1) 0 p1) 6 (N 0 1) 0 p2) 7 (N 0 1) 0 (landed p3 (R 1 (ix p0) (ix p1)))) 8 (N 0 1) 0 p4) 9]; rfl) dX5_land_209 (fun H locs hW => ?_)
                refine lv_aload_n hx hb dX5_land_210 rfl (lv_at hl 4 rfl) ?_
                refine k_get (v := .ref (β 8)) F hW inX5 rfl 2 rfl rfl 12 (by decide) FL_X5_33 rfl rfl dX5_land_211 ?_
                refine lv_aload_n hx hb dX5_land_214 rfl (lv_at hl 4 rfl) ?_
                refine k_get (v := .int (nI (N 0 1))) F hW inX5 rfl 2 rfl rfl 6 (by decide) FL_X5_84 rfl rfl dX5_land_215 ?_
                refine lv_ldcf (v := 1120403456) hx hb hown (hts _ CK_X5_106) dX5_land_218 ?_
                refine k_fast F hW 10 rfl (vp_in_nI hlt (by decide)) (mWd cA β c0 c1 wr 0 (N, up3 (up3 (up3 (up3 (up3 (up3 (up3 R 1 (ix p0) (ix p1) (R 1 (ix p0) (ix p1) - landed p3 (R 1 (ix p0) (ix p1)))) 0 0 0 (R 0 0 0 + (p3 - landed p3 (R 1 (ix p0) (ix p1))))) 5 (N 0 1) 0 p1) 6 (N 0 1) 0 p2) 7 (N 0 1) 0 (landed p3 (R 1 (ix p0) (ix p1)))) 8 (N 0 1) 0 p4) 9 (N 0 1) 0 102, vf_upd Fr (N 0 1) 1120403456, inc)) (by rw [nI_clamp (by omega)]; rfl) dX5_land_220 (fun H locs hW => ?_)
                refine lv_aload_n hx hb dX5_land_221 rfl (lv_at hl 4 rfl) ?_
                refine k_get (v := .ref (β 10)) F hW inX5 rfl 2 rfl rfl 14 (by decide) FL_X5_40 rfl rfl dX5_land_222 ?_
                refine lv_aload_n hx hb dX5_land_225 rfl (lv_at hl 4 rfl) ?_
                refine k_get (v := .int (nI (N 0 1))) F hW inX5 rfl 2 rfl rfl 6 (by decide) FL_X5_84 rfl rfl dX5_land_226 ?_
                refine lv_iconst (v := (-1)) hx hb dX5_land_229 (by decide) ?_
                refine k_iast F hW 12 rfl (vp_in_nI hlt (by decide)) (mWd cA β c0 c1 wr 0 (N, up3 (up3 (up3 (up3 (up3 (up3 (up3 (up3 R 1 (ix p0) (ix p1) (R 1 (ix p0) (ix p1) - landed p3 (R 1 (ix p0) (ix p1)))) 0 0 0 (R 0 0 0 + (p3 - landed p3 (R 1 (ix p0) (ix p1))))) 5 (N 0 1) 0 p1) 6 (N 0 1) 0 p2) 7 (N 0 1) 0 (landed p3 (R 1 (ix p0) (ix p1)))) 8 (N 0 1) 0 p4) 9 (N 0 1) 0 102) 11 (N 0 1) 0 (-1), vf_upd Fr (N 0 1) 1120403456, inc)) (by rw [nI_clamp (by omega), u1 (up3 (up3 (up3 (up3 (up3 (up3 (up3 R 1 (ix p0) (ix p1) (R 1 (ix p0) (ix p1) - landed p3 (R 1 (ix p0) (ix p1)))) 0 0 0 (R 0 0 0 + (p3 - landed p3 (R 1 (ix p0) (ix p1))))) 5 (N 0 1) 0 p1) 6 (N 0 1) 0 p2) 7 (N 0 1) 0 (landed p3 (R 1 (ix p0) (ix p1)))) 8 (N 0 1) 0 p4) 9 (N 0 1) 0 102) 11]; rfl) dX5_land_230 (fun H locs hW => ?_)
                refine lv_aload_n hx hb dX5_land_231 rfl (lv_at hl 4 rfl) ?_
                refine lv_dup hx hb dX5_land_232 rfl ?_
                refine k_get (v := .int (nI (N 0 1))) F hW inX5 rfl 2 rfl rfl 6 (by decide) FL_X5_84 rfl rfl dX5_land_233 ?_
                refine lv_iconst (v := 1) hx hb dX5_land_236 (by decide) ?_
                refine lv_iadd hx hb dX5_land_237 ?_
                refine lv_topi (fun x_166 ex_166 => ?_)
                obtain rfl : x_166 = nI (N 0 1 + 1) := ex_166.trans (nI_1 _)
                refine k_put F hW inX5 tyX5_ok nmX5 rfl 2 rfl rfl 6 (by decide) FL_X5_84 rfl rfl rfl rfl rfl (Nat.le_of_ble_eq_true rfl) (mWd cA β c0 c1 wr 0 (up2 N 0 1 (N 0 1 + 1), up3 (up3 (up3 (up3 (up3 (up3 (up3 (up3 R 1 (ix p0) (ix p1) (R 1 (ix p0) (ix p1) - landed p3 (R 1 (ix p0) (ix p1)))) 0 0 0 (R 0 0 0 + (p3 - landed p3 (R 1 (ix p0) (ix p1))))) 5 (N 0 1) 0 p1) 6 (N 0 1) 0 p2) 7 (N 0 1) 0 (landed p3 (R 1 (ix p0) (ix p1)))) 8 (N 0 1) 0 p4) 9 (N 0 1) 0 102) 11 (N 0 1) 0 (-1), vf_upd Fr (N 0 1) 1120403456, inc)) rfl dX5_land_238 (fun H locs hW => ?_)
                refine lv_aload_n hx hb dX5_land_241 rfl (lv_at hl 4 rfl) ?_
                refine k_get (v := .int (nI (N 0 1 + 1))) F hW inX5 rfl 2 rfl rfl 6 (by decide) FL_X5_84 rfl rfl dX5_land_242 ?_
                refine lv_iconst (v := 1) hx hb dX5_land_245 (by decide) ?_
                refine lv_isub hx hb dX5_land_246 ?_
                refine lv_topi (fun x_167 ex_167 => ?_)
                obtain rfl : x_167 = nI (N 0 1) := ex_167.trans (nI_pred _)
                have hop : op_land (N, R, Fr, inc) p0 p1 p2 p3 p4 = (0, nI (N 0 1), (up2 (up2 N 0 1 (N 0 1 + 1)) 2 1 (N 0 1 + 1), up3 (up3 (up3 (up3 (up3 (up3 (up3 (up3 (up3 R 1 (ix p0) (ix p1) (R 1 (ix p0) (ix p1) - landed p3 (R 1 (ix p0) (ix p1)))) 0 0 0 (R 0 0 0 + (p3 - landed p3 (R 1 (ix p0) (ix p1))))) 5 (N 0 1) 0 p1) 6 (N 0 1) 0 p2) 7 (N 0 1) 0 (landed p3 (R 1 (ix p0) (ix p1)))) 8 (N 0 1) 0 p4) 9 (N 0 1) 0 102) 11 (N 0 1) 0 (-1)) 4 (N 0 1) 0 p0, vf_upd Fr (N 0 1) 1120403456, inc)) := by simp [op_land, hq_141, hq_147, hq_153, hq_159, h_n, h_q, h_d]
                exact k_iret () F (hW.eq (by rw [hop]; rfl)) (by rw [hop]) dX5_land_247 (Nat.le_of_ble_eq_true rfl) (Nat.le_of_ble_eq_true rfl)
            · refine lv_iconst (v := 4) hx hb dX5_land_82 (by decide) ?_
              refine lv_goto (tgt := 87) hx hb dX5_land_83 (by decide) ?_
              refine lv_istore (lv' := [(7, .int 4), (6, .int 0), (0, .ref (β 0)), (1, .int p0), (2, .int p1), (3, .int p2), (4, .int p3), (5, .int p4)]) hx hb dX5_land_87 hl (by decide) rfl (fun ls hl => ?_)
              refine lv_aload_n hx hb dX5_land_89 rfl (lv_at hl 2 rfl) ?_
              refine lv_iload hx hb dX5_land_90 (lv_at hl 0 rfl) ?_
              refine k_callVi (as := [.int 4]) (rest := []) (b := (β 0)) (ci := 7) (q0 := 2) F hW (met_X5_goesOn l D cA β c0 c1 wr th N R Fr inc 4) rfl ML_X5_93 IM_X5_goesOn SE_X5_goesOn IN_X5 CO_X5_goesOn hdV_X5_goesOn rfl rfl ⟨(Nat.le_of_ble_eq_true rfl), (Nat.le_of_ble_eq_true rfl)⟩ rfl rfl (rfl) rfl rfl hl.1 (Nat.le_of_ble_eq_true rfl) dX5_land_92 ⟨(Nat.le_of_ble_eq_true rfl), (Nat.le_of_ble_eq_true rfl)⟩ (fun r_168 u H locs hw hW => ?_)
              subst hw
              refine lv_if_ne (tgt := 100) hx hb dX5_land_95 (by decide) (fun h => absurd (by decide) h) (fun _ => ?_)
              refine lv_iconst (v := 0) hx hb dX5_land_98 (by decide) ?_
              have hop : op_land (N, R, Fr, inc) p0 p1 p2 p3 p4 = (4, 0, (N, R, Fr, inc)) := by simp [op_land, hq_141, hq_147, hq_153, hq_159, h_n, h_q]
              exact k_iret () F (hW.eq (by rw [hop]; rfl)) (by rw [hop]) dX5_land_99 (Nat.le_of_ble_eq_true rfl) (Nat.le_of_ble_eq_true rfl)
          · have h_n : N 0 1 = 20 := (nI_eq (by omega) (by decide)).mp h_n
            refine lv_iconst (v := 3) hx hb dX5_land_65 (by decide) ?_
            refine lv_goto (tgt := 87) hx hb dX5_land_66 (by decide) ?_
            refine lv_istore (lv' := [(7, .int 3), (6, .int 0), (0, .ref (β 0)), (1, .int p0), (2, .int p1), (3, .int p2), (4, .int p3), (5, .int p4)]) hx hb dX5_land_87 hl (by decide) rfl (fun ls hl => ?_)
            refine lv_aload_n hx hb dX5_land_89 rfl (lv_at hl 2 rfl) ?_
            refine lv_iload hx hb dX5_land_90 (lv_at hl 0 rfl) ?_
            refine k_callVi (as := [.int 3]) (rest := []) (b := (β 0)) (ci := 7) (q0 := 2) F hW (met_X5_goesOn l D cA β c0 c1 wr th N R Fr inc 3) rfl ML_X5_93 IM_X5_goesOn SE_X5_goesOn IN_X5 CO_X5_goesOn hdV_X5_goesOn rfl rfl ⟨(Nat.le_of_ble_eq_true rfl), (Nat.le_of_ble_eq_true rfl)⟩ rfl rfl (rfl) rfl rfl hl.1 (Nat.le_of_ble_eq_true rfl) dX5_land_92 ⟨(Nat.le_of_ble_eq_true rfl), (Nat.le_of_ble_eq_true rfl)⟩ (fun r_169 u H locs hw hW => ?_)
            subst hw
            refine lv_if_ne (tgt := 100) hx hb dX5_land_95 (by decide) (fun h => absurd (by decide) h) (fun _ => ?_)
            refine lv_iconst (v := 0) hx hb dX5_land_98 (by decide) ?_
            have hop : op_land (N, R, Fr, inc) p0 p1 p2 p3 p4 = (3, 0, (N, R, Fr, inc)) := by simp [op_land, hq_141, hq_147, hq_153, hq_159, h_n]
            exact k_iret () F (hW.eq (by rw [hop]; rfl)) (by rw [hop]) dX5_land_99 (Nat.le_of_ble_eq_true rfl) (Nat.le_of_ble_eq_true rfl)

set_option maxHeartbeats 4000000 in
set_option maxRecDepth 100000 in
theorem met_X5_load (l : Launch) (D : va_G) (cA : Nat → ClassId) (β : Nat → Nat) (c0 c1 : Nat × va_E) (wr : va_W) (th : Int32) (N : Nat → Nat → Nat) (R : Nat → Nat → Nat → Int32) (Fr : Nat → UInt32) (inc : Int64) (p0 p1 : Int32) (hN : N 0 1 ≤ 20) (hN3 : N 0 3 ≤ 4) (hN1 : ∀ t, N 1 t ≤ 5) : MetI l yX5_load (.code yX5_load cX5_load 5 (some .int) :: LW) ({ frames := 2, cells := 0, slots := 0, locals := 43 }) D cA (mWd cA β c0 c1 wr th (N, R, Fr, inc)) [.ref (β 0), .int p0, .int p1] (fun r (_ : Unit) => r = (op_load (N, R, Fr, inc) p0 p1).2.1) (fun _ => mWd cA β c0 c1 wr (nI (op_load (N, R, Fr, inc) p0 p1).1) (op_load (N, R, Fr, inc) p0 p1).2.2) 0 0 := by
  refine k_bodyI (plainFor_of_name (by decide)) (Nat.le_of_ble_eq_true rfl) (fun p e s m args below meth c ls F hW hl => ?_)
  obtain ⟨hx, hb, hr, hml, hown, hts, hlocks, hname⟩ := id F
  have hl : lv_has ls 5 [(0, .ref (β 0)), (1, .int p0), (2, .int p1)] := hl
  refine lv_aload_n hx hb dX5_load_0 rfl (lv_at hl 0 rfl) ?_
  refine lv_iload_n hx hb dX5_load_1 rfl (lv_at hl 1 rfl) ?_
  refine k_callVi (as := [.int p0]) (rest := []) (b := (β 0)) (ci := 7) (q0 := 2) F hW (met_X5_isLot l D cA β c0 c1 wr th N R Fr inc p0) rfl ML_X5_110 IM_X5_isLot SE_X5_isLot IN_X5 CO_X5_isLot hdV_X5_isLot rfl rfl ⟨(Nat.le_of_ble_eq_true rfl), (Nat.le_of_ble_eq_true rfl)⟩ rfl rfl (rfl) rfl rfl hl.1 (Nat.le_of_ble_eq_true rfl) dX5_load_2 ⟨(Nat.le_of_ble_eq_true rfl), (Nat.le_of_ble_eq_true rfl)⟩ (fun r_170 u H locs hw hW => ?_)
  subst hw
  cases hq_171 : isIx (N 0 1) p0
  · refine lv_if_ne (tgt := 12) hx hb dX5_load_5 (by decide) (fun h => absurd (by decide) h) (fun _ => ?_)
    refine lv_iconst (v := 1) hx hb dX5_load_8 (by decide) ?_
    refine lv_goto (tgt := 25) hx hb dX5_load_9 (by decide) ?_
    refine lv_istore_n (lv' := [(3, .int 1), (0, .ref (β 0)), (1, .int p0), (2, .int p1)]) hx hb dX5_load_25 rfl hl (by decide) rfl (fun ls hl => ?_)
    refine lv_iload_n hx hb dX5_load_26 rfl (lv_at hl 0 rfl) ?_
    refine lv_if_ne (tgt := 119) hx hb dX5_load_27 (by decide) (fun _ => ?_) (fun h => absurd h (by decide))
    refine lv_aload_n hx hb dX5_load_119 rfl (lv_at hl 1 rfl) ?_
    refine lv_iload_n hx hb dX5_load_120 rfl (lv_at hl 0 rfl) ?_
    refine k_callVi (as := [.int 1]) (rest := []) (b := (β 0)) (ci := 7) (q0 := 2) F hW (met_X5_goesOn l D cA β c0 c1 wr th N R Fr inc 1) rfl ML_X5_93 IM_X5_goesOn SE_X5_goesOn IN_X5 CO_X5_goesOn hdV_X5_goesOn rfl rfl ⟨(Nat.le_of_ble_eq_true rfl), (Nat.le_of_ble_eq_true rfl)⟩ rfl rfl (rfl) rfl rfl hl.1 (Nat.le_of_ble_eq_true rfl) dX5_load_121 ⟨(Nat.le_of_ble_eq_true rfl), (Nat.le_of_ble_eq_true rfl)⟩ (fun r_172 u H locs hw hW => ?_)
    subst hw
    refine lv_if_ne (tgt := 129) hx hb dX5_load_124 (by decide) (fun h => absurd (by decide) h) (fun _ => ?_)
    refine lv_iconst (v := 0) hx hb dX5_load_127 (by decide) ?_
    have hop : op_load (N, R, Fr, inc) p0 p1 = (1, 0, (N, R, Fr, inc)) := by simp [op_load, hq_171]
    exact k_iret () F (hW.eq (by rw [hop]; rfl)) (by rw [hop]) dX5_load_128 (Nat.le_of_ble_eq_true rfl) (Nat.le_of_ble_eq_true rfl)
  · refine lv_if_ne (tgt := 12) hx hb dX5_load_5 (by decide) (fun _ => ?_) (fun h => absurd h (by decide))
    refine lv_aload_n hx hb dX5_load_12 rfl (lv_at hl 0 rfl) ?_
    refine lv_iload_n hx hb dX5_load_13 rfl (lv_at hl 2 rfl) ?_
    refine k_callVi (as := [.int p1]) (rest := []) (b := (β 0)) (ci := 7) (q0 := 2) F hW (met_X5_isTruck l D cA β c0 c1 wr th N R Fr inc p1) rfl ML_X5_166 IM_X5_isTruck SE_X5_isTruck IN_X5 CO_X5_isTruck hdV_X5_isTruck rfl rfl ⟨(Nat.le_of_ble_eq_true rfl), (Nat.le_of_ble_eq_true rfl)⟩ rfl rfl (rfl) rfl rfl hl.1 (Nat.le_of_ble_eq_true rfl) dX5_load_14 ⟨(Nat.le_of_ble_eq_true rfl), (Nat.le_of_ble_eq_true rfl)⟩ (fun r_173 u H locs hw hW => ?_)
    subst hw
    cases hq_174 : isIx (N 0 3) p1
    · refine lv_if_ne (tgt := 24) hx hb dX5_load_17 (by decide) (fun h => absurd (by decide) h) (fun _ => ?_)
      refine lv_iconst (v := 2) hx hb dX5_load_20 (by decide) ?_
      refine lv_goto (tgt := 25) hx hb dX5_load_21 (by decide) ?_
      refine lv_istore_n (lv' := [(3, .int 2), (0, .ref (β 0)), (1, .int p0), (2, .int p1)]) hx hb dX5_load_25 rfl hl (by decide) rfl (fun ls hl => ?_)
      refine lv_iload_n hx hb dX5_load_26 rfl (lv_at hl 0 rfl) ?_
      refine lv_if_ne (tgt := 119) hx hb dX5_load_27 (by decide) (fun _ => ?_) (fun h => absurd h (by decide))
      refine lv_aload_n hx hb dX5_load_119 rfl (lv_at hl 1 rfl) ?_
      refine lv_iload_n hx hb dX5_load_120 rfl (lv_at hl 0 rfl) ?_
      refine k_callVi (as := [.int 2]) (rest := []) (b := (β 0)) (ci := 7) (q0 := 2) F hW (met_X5_goesOn l D cA β c0 c1 wr th N R Fr inc 2) rfl ML_X5_93 IM_X5_goesOn SE_X5_goesOn IN_X5 CO_X5_goesOn hdV_X5_goesOn rfl rfl ⟨(Nat.le_of_ble_eq_true rfl), (Nat.le_of_ble_eq_true rfl)⟩ rfl rfl (rfl) rfl rfl hl.1 (Nat.le_of_ble_eq_true rfl) dX5_load_121 ⟨(Nat.le_of_ble_eq_true rfl), (Nat.le_of_ble_eq_true rfl)⟩ (fun r_175 u H locs hw hW => ?_)
      subst hw
      refine lv_if_ne (tgt := 129) hx hb dX5_load_124 (by decide) (fun h => absurd (by decide) h) (fun _ => ?_)
      refine lv_iconst (v := 0) hx hb dX5_load_127 (by decide) ?_
      have hop : op_load (N, R, Fr, inc) p0 p1 = (2, 0, (N, R, Fr, inc)) := by simp [op_load, hq_171, hq_174]
      exact k_iret () F (hW.eq (by rw [hop]; rfl)) (by rw [hop]) dX5_load_128 (Nat.le_of_ble_eq_true rfl) (Nat.le_of_ble_eq_true rfl)
    · refine lv_if_ne (tgt := 24) hx hb dX5_load_17 (by decide) (fun _ => ?_) (fun h => absurd h (by decide))
      refine lv_iconst (v := 0) hx hb dX5_load_24 (by decide) ?_
      refine lv_istore_n (lv' := [(3, .int 0), (0, .ref (β 0)), (1, .int p0), (2, .int p1)]) hx hb dX5_load_25 rfl hl (by decide) rfl (fun ls hl => ?_)
      refine lv_iload_n hx hb dX5_load_26 rfl (lv_at hl 0 rfl) ?_
      refine lv_if_ne (tgt := 119) hx hb dX5_load_27 (by decide) (fun h => absurd (by decide) h) (fun _ => ?_)
      refine lv_aload_n hx hb dX5_load_30 rfl (lv_at hl 1 rfl) ?_
      refine k_get (v := .ref (β 7)) F hW inX5 rfl 2 rfl rfl 11 (by decide) FL_X5_29 rfl rfl dX5_load_31 ?_
      refine lv_iload_n hx hb dX5_load_34 rfl (lv_at hl 2 rfl) ?_
      refine k_cald (v := R 9 (ix p0) 0) F hW 9 rfl (in1 hq_171 hN (by decide)) (rfl) dX5_load_35 ?_
      refine lv_bipush (v := 115) hx hb dX5_load_36 (by decide) ?_
      refine lv_icmp_ne (tgt := 79) hx hb dX5_load_38 (by decide) (fun h_s => ?_) (fun h_s => ?_)
      · refine lv_iconst (v := 1) hx hb dX5_load_79 (by decide) ?_
        refine lv_goto (tgt := 84) hx hb dX5_load_80 (by decide) ?_
        refine lv_istore (lv' := [(4, .int 1), (3, .int 0), (0, .ref (β 0)), (1, .int p0), (2, .int p1)]) hx hb dX5_load_84 hl (by decide) rfl (fun ls hl => ?_)
        refine lv_iload hx hb dX5_load_86 (lv_at hl 0 rfl) ?_
        refine lv_if_eq (tgt := 95) hx hb dX5_load_88 (by decide) (fun h => absurd h (by decide)) (fun _ => ?_)
        refine lv_iconst (v := 3) hx hb dX5_load_91 (by decide) ?_
        refine lv_goto (tgt := 118) hx hb dX5_load_92 (by decide) ?_
        refine lv_istore_n (lv' := [(3, .int 3), (4, .int 1), (0, .ref (β 0)), (1, .int p0), (2, .int p1)]) hx hb dX5_load_118 rfl hl (by decide) rfl (fun ls hl => ?_)
        refine lv_aload_n hx hb dX5_load_119 rfl (lv_at hl 2 rfl) ?_
        refine lv_iload_n hx hb dX5_load_120 rfl (lv_at hl 0 rfl) ?_
        refine k_callVi (as := [.int 3]) (rest := []) (b := (β 0)) (ci := 7) (q0 := 2) F hW (met_X5_goesOn l D cA β c0 c1 wr th N R Fr inc 3) rfl ML_X5_93 IM_X5_goesOn SE_X5_goesOn IN_X5 CO_X5_goesOn hdV_X5_goesOn rfl rfl ⟨(Nat.le_of_ble_eq_true rfl), (Nat.le_of_ble_eq_true rfl)⟩ rfl rfl (rfl) rfl rfl hl.1 (Nat.le_of_ble_eq_true rfl) dX5_load_121 ⟨(Nat.le_of_ble_eq_true rfl), (Nat.le_of_ble_eq_true rfl)⟩ (fun r_176 u H locs hw hW => ?_)
        subst hw
        refine lv_if_ne (tgt := 129) hx hb dX5_load_124 (by decide) (fun h => absurd (by decide) h) (fun _ => ?_)
        refine lv_iconst (v := 0) hx hb dX5_load_127 (by decide) ?_
        have hop : op_load (N, R, Fr, inc) p0 p1 = (3, 0, (N, R, Fr, inc)) := by simp [op_load, hq_171, hq_174, h_s]
        exact k_iret () F (hW.eq (by rw [hop]; rfl)) (by rw [hop]) dX5_load_128 (Nat.le_of_ble_eq_true rfl) (Nat.le_of_ble_eq_true rfl)
      · refine lv_aload_n hx hb dX5_load_41 rfl (lv_at hl 1 rfl) ?_
        refine k_get (v := .ref (β 14)) F hW inX5 rfl 2 rfl rfl 24 (by decide) FL_X5_59 rfl rfl dX5_load_42 ?_
        refine lv_iload_n hx hb dX5_load_45 rfl (lv_at hl 3 rfl) ?_
        refine k_iald (v := R 15 (ix p1) 0) F hW 16 rfl (in1 hq_174 hN3 (by decide)) (rfl) dX5_load_46 ?_
        refine lv_aload_n hx hb dX5_load_47 rfl (lv_at hl 1 rfl) ?_
        refine k_get (v := .int (nI (N 0 5))) F hW inX5 rfl 2 rfl rfl 16 (by decide) FL_X5_135 rfl rfl dX5_load_48 ?_
        refine lv_icmp_le (tgt := 79) hx hb dX5_load_51 (by decide) (fun h_h => ?_) (fun h_h => ?_)
        · refine lv_iconst (v := 1) hx hb dX5_load_79 (by decide) ?_
          refine lv_goto (tgt := 84) hx hb dX5_load_80 (by decide) ?_
          refine lv_istore (lv' := [(4, .int 1), (3, .int 0), (0, .ref (β 0)), (1, .int p0), (2, .int p1)]) hx hb dX5_load_84 hl (by decide) rfl (fun ls hl => ?_)
          refine lv_iload hx hb dX5_load_86 (lv_at hl 0 rfl) ?_
          refine lv_if_eq (tgt := 95) hx hb dX5_load_88 (by decide) (fun h => absurd h (by decide)) (fun _ => ?_)
          refine lv_iconst (v := 3) hx hb dX5_load_91 (by decide) ?_
          refine lv_goto (tgt := 118) hx hb dX5_load_92 (by decide) ?_
          refine lv_istore_n (lv' := [(3, .int 3), (4, .int 1), (0, .ref (β 0)), (1, .int p0), (2, .int p1)]) hx hb dX5_load_118 rfl hl (by decide) rfl (fun ls hl => ?_)
          refine lv_aload_n hx hb dX5_load_119 rfl (lv_at hl 2 rfl) ?_
          refine lv_iload_n hx hb dX5_load_120 rfl (lv_at hl 0 rfl) ?_
          refine k_callVi (as := [.int 3]) (rest := []) (b := (β 0)) (ci := 7) (q0 := 2) F hW (met_X5_goesOn l D cA β c0 c1 wr th N R Fr inc 3) rfl ML_X5_93 IM_X5_goesOn SE_X5_goesOn IN_X5 CO_X5_goesOn hdV_X5_goesOn rfl rfl ⟨(Nat.le_of_ble_eq_true rfl), (Nat.le_of_ble_eq_true rfl)⟩ rfl rfl (rfl) rfl rfl hl.1 (Nat.le_of_ble_eq_true rfl) dX5_load_121 ⟨(Nat.le_of_ble_eq_true rfl), (Nat.le_of_ble_eq_true rfl)⟩ (fun r_177 u H locs hw hW => ?_)
          subst hw
          refine lv_if_ne (tgt := 129) hx hb dX5_load_124 (by decide) (fun h => absurd (by decide) h) (fun _ => ?_)
          refine lv_iconst (v := 0) hx hb dX5_load_127 (by decide) ?_
          have hop : op_load (N, R, Fr, inc) p0 p1 = (3, 0, (N, R, Fr, inc)) := by simp [op_load, hq_171, hq_174, h_s, h_h]
          exact k_iret () F (hW.eq (by rw [hop]; rfl)) (by rw [hop]) dX5_load_128 (Nat.le_of_ble_eq_true rfl) (Nat.le_of_ble_eq_true rfl)
        · refine lv_aload_n hx hb dX5_load_54 rfl (lv_at hl 1 rfl) ?_
          refine k_get (v := .ref (β 17)) F hW inX5 rfl 2 rfl rfl 27 (by decide) FL_X5_68 rfl rfl dX5_load_55 ?_
          refine lv_iload_n hx hb dX5_load_58 rfl (lv_at hl 3 rfl) ?_
          refine k_iald (v := nI (N 1 (ix p1))) F hW 19 rfl (in1 hq_174 hN3 (by decide)) (rfl) dX5_load_59 ?_
          refine lv_iconst (v := 5) hx hb dX5_load_60 (by decide) ?_
          have hn1 := hN1 (ix p1)
          refine lv_icmp_eq (tgt := 79) hx hb dX5_load_61 (by decide) (fun h_n => ?_) (fun h_n => ?_)
          · have h_n : N 1 (ix p1) = 5 := (nI_eq (by omega) (by decide)).mp h_n
            refine lv_iconst (v := 1) hx hb dX5_load_79 (by decide) ?_
            refine lv_goto (tgt := 84) hx hb dX5_load_80 (by decide) ?_
            refine lv_istore (lv' := [(4, .int 1), (3, .int 0), (0, .ref (β 0)), (1, .int p0), (2, .int p1)]) hx hb dX5_load_84 hl (by decide) rfl (fun ls hl => ?_)
            refine lv_iload hx hb dX5_load_86 (lv_at hl 0 rfl) ?_
            refine lv_if_eq (tgt := 95) hx hb dX5_load_88 (by decide) (fun h => absurd h (by decide)) (fun _ => ?_)
            refine lv_iconst (v := 3) hx hb dX5_load_91 (by decide) ?_
            refine lv_goto (tgt := 118) hx hb dX5_load_92 (by decide) ?_
            refine lv_istore_n (lv' := [(3, .int 3), (4, .int 1), (0, .ref (β 0)), (1, .int p0), (2, .int p1)]) hx hb dX5_load_118 rfl hl (by decide) rfl (fun ls hl => ?_)
            refine lv_aload_n hx hb dX5_load_119 rfl (lv_at hl 2 rfl) ?_
            refine lv_iload_n hx hb dX5_load_120 rfl (lv_at hl 0 rfl) ?_
            refine k_callVi (as := [.int 3]) (rest := []) (b := (β 0)) (ci := 7) (q0 := 2) F hW (met_X5_goesOn l D cA β c0 c1 wr th N R Fr inc 3) rfl ML_X5_93 IM_X5_goesOn SE_X5_goesOn IN_X5 CO_X5_goesOn hdV_X5_goesOn rfl rfl ⟨(Nat.le_of_ble_eq_true rfl), (Nat.le_of_ble_eq_true rfl)⟩ rfl rfl (rfl) rfl rfl hl.1 (Nat.le_of_ble_eq_true rfl) dX5_load_121 ⟨(Nat.le_of_ble_eq_true rfl), (Nat.le_of_ble_eq_true rfl)⟩ (fun r_178 u H locs hw hW => ?_)
            subst hw
            refine lv_if_ne (tgt := 129) hx hb dX5_load_124 (by decide) (fun h => absurd (by decide) h) (fun _ => ?_)
            refine lv_iconst (v := 0) hx hb dX5_load_127 (by decide) ?_
            have hop : op_load (N, R, Fr, inc) p0 p1 = (3, 0, (N, R, Fr, inc)) := by simp [op_load, hq_171, hq_174, h_s, h_h, h_n]
            exact k_iret () F (hW.eq (by rw [hop]; rfl)) (by rw [hop]) dX5_load_128 (Nat.le_of_ble_eq_true rfl) (Nat.le_of_ble_eq_true rfl)
          · have h_n : ¬ N 1 (ix p1) = 5 := fun q => h_n (by rw [q]; rfl)
            refine lv_aload_n hx hb dX5_load_64 rfl (lv_at hl 1 rfl) ?_
            refine k_get (v := .ref (β 15)) F hW inX5 rfl 2 rfl rfl 25 (by decide) FL_X5_62 rfl rfl dX5_load_65 ?_
            refine lv_iload_n hx hb dX5_load_68 rfl (lv_at hl 3 rfl) ?_
            refine k_iald (v := R 17 (ix p1) 0) F hW 17 rfl (in1 hq_174 hN3 (by decide)) (rfl) dX5_load_69 ?_
            refine lv_aload_n hx hb dX5_load_70 rfl (lv_at hl 1 rfl) ?_
            refine k_get (v := .ref (β 5)) F hW inX5 rfl 2 rfl rfl 9 (by decide) FL_X5_22 rfl rfl dX5_load_71 ?_
            refine lv_iload_n hx hb dX5_load_74 rfl (lv_at hl 2 rfl) ?_
            refine k_iald (v := R 7 (ix p0) 0) F hW 7 rfl (in1 hq_171 hN (by decide)) (rfl) dX5_load_75 ?_
            refine lv_icmp_ge (tgt := 83) hx hb dX5_load_76 (by decide) (fun h_c => ?_) (fun h_c => ?_)
            · have h_d : ¬ R 17 (ix p1) 0 < R 7 (ix p0) 0 := Int32.not_lt.mpr h_c
              refine lv_iconst (v := 0) hx hb dX5_load_83 (by decide) ?_
              refine lv_istore (lv' := [(4, .int 0), (3, .int 0), (0, .ref (β 0)), (1, .int p0), (2, .int p1)]) hx hb dX5_load_84 hl (by decide) rfl (fun ls hl => ?_)
              refine lv_iload hx hb dX5_load_86 (lv_at hl 0 rfl) ?_
              refine lv_if_eq (tgt := 95) hx hb dX5_load_88 (by decide) (fun _ => ?_) (fun h => absurd (by decide) h)
              refine lv_aload_n hx hb dX5_load_95 rfl (lv_at hl 2 rfl) ?_
              refine k_get (v := .ref (β 16)) F hW inX5 rfl 2 rfl rfl 26 (by decide) FL_X5_65 rfl rfl dX5_load_96 ?_
              refine lv_iload_n hx hb dX5_load_99 rfl (lv_at hl 4 rfl) ?_
              refine k_zald (v := R 16 (ix p1) 0) F hW 18 rfl (in1 hq_174 hN3 (by decide)) (rfl) dX5_load_100 ?_
              refine lv_if_eq (tgt := 117) hx hb dX5_load_101 (by decide) (fun h_z => ?_) (fun h_z => ?_)
              · refine lv_iconst (v := 0) hx hb dX5_load_117 (by decide) ?_
                refine lv_istore_n (lv' := [(3, .int 0), (4, .int 0), (0, .ref (β 0)), (1, .int p0), (2, .int p1)]) hx hb dX5_load_118 rfl hl (by decide) rfl (fun ls hl => ?_)
                refine lv_aload_n hx hb dX5_load_119 rfl (lv_at hl 2 rfl) ?_
                refine lv_iload_n hx hb dX5_load_120 rfl (lv_at hl 0 rfl) ?_
                refine k_callVi (as := [.int 0]) (rest := []) (b := (β 0)) (ci := 7) (q0 := 2) F hW (met_X5_goesOn l D cA β c0 c1 wr th N R Fr inc 0) rfl ML_X5_93 IM_X5_goesOn SE_X5_goesOn IN_X5 CO_X5_goesOn hdV_X5_goesOn rfl rfl ⟨(Nat.le_of_ble_eq_true rfl), (Nat.le_of_ble_eq_true rfl)⟩ rfl rfl (rfl) rfl rfl hl.1 (Nat.le_of_ble_eq_true rfl) dX5_load_121 ⟨(Nat.le_of_ble_eq_true rfl), (Nat.le_of_ble_eq_true rfl)⟩ (fun r_179 u H locs hw hW => ?_)
                subst hw
                refine lv_if_ne (tgt := 129) hx hb dX5_load_124 (by decide) (fun _ => ?_) (fun h => absurd h (by decide))
                refine lv_aload_n hx hb dX5_load_129 rfl (lv_at hl 2 rfl) ?_
                refine k_get (v := .ref (β 7)) F hW inX5 rfl 2 rfl rfl 11 (by decide) FL_X5_29 rfl rfl dX5_load_130 ?_
                refine lv_iload_n hx hb dX5_load_133 rfl (lv_at hl 3 rfl) ?_
                refine lv_bipush (v := 108) hx hb dX5_load_134 (by decide) ?_
                refine k_cast F hW 9 rfl (in1 hq_171 hN (by decide)) (rfl) (mWd cA β c0 c1 wr 0 (N, up3 R 9 (ix p0) 0 108, Fr, inc)) (by rw [u1' R 9 (ix p0) p0 _ rfl]; rfl) dX5_load_136 (fun H locs hW => ?_)
                have hlt : N 1 (ix p1) < 5 := by omega
                refine lv_aload_n hx hb dX5_load_137 rfl (lv_at hl 2 rfl) ?_
                refine k_get (v := .ref (β 18)) F hW inX5 rfl 2 rfl rfl 28 (by decide) FL_X5_71 rfl rfl dX5_load_138 ?_
                refine lv_iconst (v := 5) hx hb dX5_load_141 (by decide) ?_
                refine lv_iload_n hx hb dX5_load_142 rfl (lv_at hl 4 rfl) ?_
                refine lv_imul hx hb dX5_load_143 ?_
                refine lv_aload_n hx hb dX5_load_144 rfl (lv_at hl 2 rfl) ?_
                refine k_get (v := .ref (β 17)) F hW inX5 rfl 2 rfl rfl 27 (by decide) FL_X5_68 rfl rfl dX5_load_145 ?_
                refine lv_iload_n hx hb dX5_load_148 rfl (lv_at hl 4 rfl) ?_
                refine k_iald (v := nI (N 1 (ix p1))) F hW 19 rfl (in1 hq_174 hN3 (by decide)) (rfl) dX5_load_149 ?_
                refine lv_iadd hx hb dX5_load_150 ?_
                refine lv_iload_n hx hb dX5_load_151 rfl (lv_at hl 3 rfl) ?_
                refine k_iast F hW 20 rfl (in5 hq_174 hN3 hlt) (mWd cA β c0 c1 wr 0 (N, up3 (up3 R 9 (ix p0) 0 108) 18 (ix p1) (N 1 (ix p1)) p0, Fr, inc)) (by rw [ud5 (up3 R 9 (ix p0) 0 108) _ hq_174 hN3 hlt]; rfl) dX5_load_152 (fun H locs hW => ?_)
                refine lv_aload_n hx hb dX5_load_153 rfl (lv_at hl 2 rfl) ?_
                refine k_get (v := .ref (β 17)) F hW inX5 rfl 2 rfl rfl 27 (by decide) FL_X5_68 rfl rfl dX5_load_154 ?_
                refine lv_iload_n hx hb dX5_load_157 rfl (lv_at hl 4 rfl) ?_
                refine lv_dup2_11 hx hb dX5_load_158 rfl rfl ?_
                refine k_iald (v := nI (N 1 (ix p1))) F hW 19 rfl (in1 hq_174 hN3 (by decide)) (rfl) dX5_load_159 ?_
                refine lv_iconst (v := 1) hx hb dX5_load_160 (by decide) ?_
                refine lv_iadd hx hb dX5_load_161 ?_
                refine lv_topi (fun x_180 ex_180 => ?_)
                obtain rfl : x_180 = nI (N 1 (ix p1) + 1) := ex_180.trans (nI_1 _)
                refine k_iast F hW 19 rfl (in1 hq_174 hN3 (by decide)) (mWd cA β c0 c1 wr 0 (up2 N 1 (ix p1) (N 1 (ix p1) + 1), up3 (up3 R 9 (ix p0) 0 108) 18 (ix p1) (N 1 (ix p1)) p0, Fr, inc)) (by rw [show p1.toNatClampNeg = ix p1 from rfl, uN]; rfl) dX5_load_162 (fun H locs hW => ?_)
                refine lv_aload_n hx hb dX5_load_163 rfl (lv_at hl 2 rfl) ?_
                refine k_get (v := .ref (β 15)) F hW inX5 rfl 2 rfl rfl 25 (by decide) FL_X5_62 rfl rfl dX5_load_164 ?_
                refine lv_iload_n hx hb dX5_load_167 rfl (lv_at hl 4 rfl) ?_
                refine lv_dup2_11 hx hb dX5_load_168 rfl rfl ?_
                refine k_iald (v := R 17 (ix p1) 0) F hW 17 rfl (in1 hq_174 hN3 (by decide)) (rfl) dX5_load_169 ?_
                refine lv_aload_n hx hb dX5_load_170 rfl (lv_at hl 2 rfl) ?_
                refine k_get (v := .ref (β 5)) F hW inX5 rfl 2 rfl rfl 9 (by decide) FL_X5_22 rfl rfl dX5_load_171 ?_
                refine lv_iload_n hx hb dX5_load_174 rfl (lv_at hl 3 rfl) ?_
                refine k_iald (v := R 7 (ix p0) 0) F hW 7 rfl (in1 hq_171 hN (by decide)) (rfl) dX5_load_175 ?_
                refine lv_isub hx hb dX5_load_176 ?_
                refine k_iast F hW 17 rfl (in1 hq_174 hN3 (by decide)) (mWd cA β c0 c1 wr 0 (up2 N 1 (ix p1) (N 1 (ix p1) + 1), up3 (up3 (up3 R 9 (ix p0) 0 108) 18 (ix p1) (N 1 (ix p1)) p0) 17 (ix p1) 0 (R 17 (ix p1) 0 - R 7 (ix p0) 0), Fr, inc)) (by rw [u1' (up3 (up3 R 9 (ix p0) 0 108) 18 (ix p1) (N 1 (ix p1)) p0) 17 (ix p1) p1 _ rfl]; rfl) dX5_load_177 (fun H locs hW => ?_)
                refine lv_aload_n hx hb dX5_load_178 rfl (lv_at hl 2 rfl) ?_
                refine k_get (v := .ref (β 15)) F hW inX5 rfl 2 rfl rfl 25 (by decide) FL_X5_62 rfl rfl dX5_load_179 ?_
                refine lv_iload_n hx hb dX5_load_182 rfl (lv_at hl 4 rfl) ?_
                refine k_iald (v := R 17 (ix p1) 0 - R 7 (ix p0) 0) F hW 17 rfl (in1 hq_174 hN3 (by decide)) (by simp [up3, ix]) dX5_load_183 ?_
                have hop : op_load (N, R, Fr, inc) p0 p1 = (0, R 17 (ix p1) 0 - R 7 (ix p0) 0, (up2 (up2 N 1 (ix p1) (N 1 (ix p1) + 1)) 3 (ix p1) (N 1 (ix p1) + 1), up3 (up3 (up3 R 9 (ix p0) 0 108) 18 (ix p1) (N 1 (ix p1)) p0) 17 (ix p1) 0 (R 17 (ix p1) 0 - R 7 (ix p0) 0), Fr, inc)) := by simp [op_load, hq_171, hq_174, h_s, h_h, h_n, h_d, h_z]
                exact k_iret () F (hW.eq (by rw [hop]; rfl)) (by rw [hop]) dX5_load_184 (Nat.le_of_ble_eq_true rfl) (Nat.le_of_ble_eq_true rfl)
              · refine lv_aload_n hx hb dX5_load_104 rfl (lv_at hl 2 rfl) ?_
                refine k_get (v := .ref (β 6)) F hW inX5 rfl 2 rfl rfl 10 (by decide) FL_X5_25 rfl rfl dX5_load_105 ?_
                refine lv_iload_n hx hb dX5_load_108 rfl (lv_at hl 3 rfl) ?_
                refine k_zald (v := R 8 (ix p0) 0) F hW 8 rfl (in1 hq_171 hN (by decide)) (rfl) dX5_load_109 ?_
                refine lv_if_ne (tgt := 117) hx hb dX5_load_110 (by decide) (fun h_y => ?_) (fun h_y => ?_)
                · refine lv_iconst (v := 0) hx hb dX5_load_117 (by decide) ?_
                  refine lv_istore_n (lv' := [(3, .int 0), (4, .int 0), (0, .ref (β 0)), (1, .int p0), (2, .int p1)]) hx hb dX5_load_118 rfl hl (by decide) rfl (fun ls hl => ?_)
                  refine lv_aload_n hx hb dX5_load_119 rfl (lv_at hl 2 rfl) ?_
                  refine lv_iload_n hx hb dX5_load_120 rfl (lv_at hl 0 rfl) ?_
                  refine k_callVi (as := [.int 0]) (rest := []) (b := (β 0)) (ci := 7) (q0 := 2) F hW (met_X5_goesOn l D cA β c0 c1 wr th N R Fr inc 0) rfl ML_X5_93 IM_X5_goesOn SE_X5_goesOn IN_X5 CO_X5_goesOn hdV_X5_goesOn rfl rfl ⟨(Nat.le_of_ble_eq_true rfl), (Nat.le_of_ble_eq_true rfl)⟩ rfl rfl (rfl) rfl rfl hl.1 (Nat.le_of_ble_eq_true rfl) dX5_load_121 ⟨(Nat.le_of_ble_eq_true rfl), (Nat.le_of_ble_eq_true rfl)⟩ (fun r_181 u H locs hw hW => ?_)
                  subst hw
                  refine lv_if_ne (tgt := 129) hx hb dX5_load_124 (by decide) (fun _ => ?_) (fun h => absurd h (by decide))
                  refine lv_aload_n hx hb dX5_load_129 rfl (lv_at hl 2 rfl) ?_
                  refine k_get (v := .ref (β 7)) F hW inX5 rfl 2 rfl rfl 11 (by decide) FL_X5_29 rfl rfl dX5_load_130 ?_
                  refine lv_iload_n hx hb dX5_load_133 rfl (lv_at hl 3 rfl) ?_
                  refine lv_bipush (v := 108) hx hb dX5_load_134 (by decide) ?_
                  refine k_cast F hW 9 rfl (in1 hq_171 hN (by decide)) (rfl) (mWd cA β c0 c1 wr 0 (N, up3 R 9 (ix p0) 0 108, Fr, inc)) (by rw [u1' R 9 (ix p0) p0 _ rfl]; rfl) dX5_load_136 (fun H locs hW => ?_)
                  have hlt : N 1 (ix p1) < 5 := by omega
                  refine lv_aload_n hx hb dX5_load_137 rfl (lv_at hl 2 rfl) ?_
                  refine k_get (v := .ref (β 18)) F hW inX5 rfl 2 rfl rfl 28 (by decide) FL_X5_71 rfl rfl dX5_load_138 ?_
                  refine lv_iconst (v := 5) hx hb dX5_load_141 (by decide) ?_
                  refine lv_iload_n hx hb dX5_load_142 rfl (lv_at hl 4 rfl) ?_
                  refine lv_imul hx hb dX5_load_143 ?_
                  refine lv_aload_n hx hb dX5_load_144 rfl (lv_at hl 2 rfl) ?_
                  refine k_get (v := .ref (β 17)) F hW inX5 rfl 2 rfl rfl 27 (by decide) FL_X5_68 rfl rfl dX5_load_145 ?_
                  refine lv_iload_n hx hb dX5_load_148 rfl (lv_at hl 4 rfl) ?_
                  refine k_iald (v := nI (N 1 (ix p1))) F hW 19 rfl (in1 hq_174 hN3 (by decide)) (rfl) dX5_load_149 ?_
                  refine lv_iadd hx hb dX5_load_150 ?_
                  refine lv_iload_n hx hb dX5_load_151 rfl (lv_at hl 3 rfl) ?_
                  refine k_iast F hW 20 rfl (in5 hq_174 hN3 hlt) (mWd cA β c0 c1 wr 0 (N, up3 (up3 R 9 (ix p0) 0 108) 18 (ix p1) (N 1 (ix p1)) p0, Fr, inc)) (by rw [ud5 (up3 R 9 (ix p0) 0 108) _ hq_174 hN3 hlt]; rfl) dX5_load_152 (fun H locs hW => ?_)
                  refine lv_aload_n hx hb dX5_load_153 rfl (lv_at hl 2 rfl) ?_
                  refine k_get (v := .ref (β 17)) F hW inX5 rfl 2 rfl rfl 27 (by decide) FL_X5_68 rfl rfl dX5_load_154 ?_
                  refine lv_iload_n hx hb dX5_load_157 rfl (lv_at hl 4 rfl) ?_
                  refine lv_dup2_11 hx hb dX5_load_158 rfl rfl ?_
                  refine k_iald (v := nI (N 1 (ix p1))) F hW 19 rfl (in1 hq_174 hN3 (by decide)) (rfl) dX5_load_159 ?_
                  refine lv_iconst (v := 1) hx hb dX5_load_160 (by decide) ?_
                  refine lv_iadd hx hb dX5_load_161 ?_
                  refine lv_topi (fun x_182 ex_182 => ?_)
                  obtain rfl : x_182 = nI (N 1 (ix p1) + 1) := ex_182.trans (nI_1 _)
                  refine k_iast F hW 19 rfl (in1 hq_174 hN3 (by decide)) (mWd cA β c0 c1 wr 0 (up2 N 1 (ix p1) (N 1 (ix p1) + 1), up3 (up3 R 9 (ix p0) 0 108) 18 (ix p1) (N 1 (ix p1)) p0, Fr, inc)) (by rw [show p1.toNatClampNeg = ix p1 from rfl, uN]; rfl) dX5_load_162 (fun H locs hW => ?_)
                  refine lv_aload_n hx hb dX5_load_163 rfl (lv_at hl 2 rfl) ?_
                  refine k_get (v := .ref (β 15)) F hW inX5 rfl 2 rfl rfl 25 (by decide) FL_X5_62 rfl rfl dX5_load_164 ?_
                  refine lv_iload_n hx hb dX5_load_167 rfl (lv_at hl 4 rfl) ?_
                  refine lv_dup2_11 hx hb dX5_load_168 rfl rfl ?_
                  refine k_iald (v := R 17 (ix p1) 0) F hW 17 rfl (in1 hq_174 hN3 (by decide)) (rfl) dX5_load_169 ?_
                  refine lv_aload_n hx hb dX5_load_170 rfl (lv_at hl 2 rfl) ?_
                  refine k_get (v := .ref (β 5)) F hW inX5 rfl 2 rfl rfl 9 (by decide) FL_X5_22 rfl rfl dX5_load_171 ?_
                  refine lv_iload_n hx hb dX5_load_174 rfl (lv_at hl 3 rfl) ?_
                  refine k_iald (v := R 7 (ix p0) 0) F hW 7 rfl (in1 hq_171 hN (by decide)) (rfl) dX5_load_175 ?_
                  refine lv_isub hx hb dX5_load_176 ?_
                  refine k_iast F hW 17 rfl (in1 hq_174 hN3 (by decide)) (mWd cA β c0 c1 wr 0 (up2 N 1 (ix p1) (N 1 (ix p1) + 1), up3 (up3 (up3 R 9 (ix p0) 0 108) 18 (ix p1) (N 1 (ix p1)) p0) 17 (ix p1) 0 (R 17 (ix p1) 0 - R 7 (ix p0) 0), Fr, inc)) (by rw [u1' (up3 (up3 R 9 (ix p0) 0 108) 18 (ix p1) (N 1 (ix p1)) p0) 17 (ix p1) p1 _ rfl]; rfl) dX5_load_177 (fun H locs hW => ?_)
                  refine lv_aload_n hx hb dX5_load_178 rfl (lv_at hl 2 rfl) ?_
                  refine k_get (v := .ref (β 15)) F hW inX5 rfl 2 rfl rfl 25 (by decide) FL_X5_62 rfl rfl dX5_load_179 ?_
                  refine lv_iload_n hx hb dX5_load_182 rfl (lv_at hl 4 rfl) ?_
                  refine k_iald (v := R 17 (ix p1) 0 - R 7 (ix p0) 0) F hW 17 rfl (in1 hq_174 hN3 (by decide)) (by simp [up3, ix]) dX5_load_183 ?_
                  have hop : op_load (N, R, Fr, inc) p0 p1 = (0, R 17 (ix p1) 0 - R 7 (ix p0) 0, (up2 (up2 N 1 (ix p1) (N 1 (ix p1) + 1)) 3 (ix p1) (N 1 (ix p1) + 1), up3 (up3 (up3 R 9 (ix p0) 0 108) 18 (ix p1) (N 1 (ix p1)) p0) 17 (ix p1) 0 (R 17 (ix p1) 0 - R 7 (ix p0) 0), Fr, inc)) := by simp [op_load, hq_171, hq_174, h_s, h_h, h_n, h_d, h_z, h_y]
                  exact k_iret () F (hW.eq (by rw [hop]; rfl)) (by rw [hop]) dX5_load_184 (Nat.le_of_ble_eq_true rfl) (Nat.le_of_ble_eq_true rfl)
                · refine lv_iconst (v := 4) hx hb dX5_load_113 (by decide) ?_
                  refine lv_goto (tgt := 118) hx hb dX5_load_114 (by decide) ?_
                  refine lv_istore_n (lv' := [(3, .int 4), (4, .int 0), (0, .ref (β 0)), (1, .int p0), (2, .int p1)]) hx hb dX5_load_118 rfl hl (by decide) rfl (fun ls hl => ?_)
                  refine lv_aload_n hx hb dX5_load_119 rfl (lv_at hl 2 rfl) ?_
                  refine lv_iload_n hx hb dX5_load_120 rfl (lv_at hl 0 rfl) ?_
                  refine k_callVi (as := [.int 4]) (rest := []) (b := (β 0)) (ci := 7) (q0 := 2) F hW (met_X5_goesOn l D cA β c0 c1 wr th N R Fr inc 4) rfl ML_X5_93 IM_X5_goesOn SE_X5_goesOn IN_X5 CO_X5_goesOn hdV_X5_goesOn rfl rfl ⟨(Nat.le_of_ble_eq_true rfl), (Nat.le_of_ble_eq_true rfl)⟩ rfl rfl (rfl) rfl rfl hl.1 (Nat.le_of_ble_eq_true rfl) dX5_load_121 ⟨(Nat.le_of_ble_eq_true rfl), (Nat.le_of_ble_eq_true rfl)⟩ (fun r_183 u H locs hw hW => ?_)
                  subst hw
                  refine lv_if_ne (tgt := 129) hx hb dX5_load_124 (by decide) (fun h => absurd (by decide) h) (fun _ => ?_)
                  refine lv_iconst (v := 0) hx hb dX5_load_127 (by decide) ?_
                  have hop : op_load (N, R, Fr, inc) p0 p1 = (4, 0, (N, R, Fr, inc)) := by simp [op_load, hq_171, hq_174, h_s, h_h, h_n, h_d, h_z, h_y]
                  exact k_iret () F (hW.eq (by rw [hop]; rfl)) (by rw [hop]) dX5_load_128 (Nat.le_of_ble_eq_true rfl) (Nat.le_of_ble_eq_true rfl)
            · have h_d : R 17 (ix p1) 0 < R 7 (ix p0) 0 := Int32.not_le.mp h_c
              refine lv_iconst (v := 1) hx hb dX5_load_79 (by decide) ?_
              refine lv_goto (tgt := 84) hx hb dX5_load_80 (by decide) ?_
              refine lv_istore (lv' := [(4, .int 1), (3, .int 0), (0, .ref (β 0)), (1, .int p0), (2, .int p1)]) hx hb dX5_load_84 hl (by decide) rfl (fun ls hl => ?_)
              refine lv_iload hx hb dX5_load_86 (lv_at hl 0 rfl) ?_
              refine lv_if_eq (tgt := 95) hx hb dX5_load_88 (by decide) (fun h => absurd h (by decide)) (fun _ => ?_)
              refine lv_iconst (v := 3) hx hb dX5_load_91 (by decide) ?_
              refine lv_goto (tgt := 118) hx hb dX5_load_92 (by decide) ?_
              refine lv_istore_n (lv' := [(3, .int 3), (4, .int 1), (0, .ref (β 0)), (1, .int p0), (2, .int p1)]) hx hb dX5_load_118 rfl hl (by decide) rfl (fun ls hl => ?_)
              refine lv_aload_n hx hb dX5_load_119 rfl (lv_at hl 2 rfl) ?_
              refine lv_iload_n hx hb dX5_load_120 rfl (lv_at hl 0 rfl) ?_
              refine k_callVi (as := [.int 3]) (rest := []) (b := (β 0)) (ci := 7) (q0 := 2) F hW (met_X5_goesOn l D cA β c0 c1 wr th N R Fr inc 3) rfl ML_X5_93 IM_X5_goesOn SE_X5_goesOn IN_X5 CO_X5_goesOn hdV_X5_goesOn rfl rfl ⟨(Nat.le_of_ble_eq_true rfl), (Nat.le_of_ble_eq_true rfl)⟩ rfl rfl (rfl) rfl rfl hl.1 (Nat.le_of_ble_eq_true rfl) dX5_load_121 ⟨(Nat.le_of_ble_eq_true rfl), (Nat.le_of_ble_eq_true rfl)⟩ (fun r_184 u H locs hw hW => ?_)
              subst hw
              refine lv_if_ne (tgt := 129) hx hb dX5_load_124 (by decide) (fun h => absurd (by decide) h) (fun _ => ?_)
              refine lv_iconst (v := 0) hx hb dX5_load_127 (by decide) ?_
              have hop : op_load (N, R, Fr, inc) p0 p1 = (3, 0, (N, R, Fr, inc)) := by simp [op_load, hq_171, hq_174, h_s, h_h, h_n, h_d]
              exact k_iret () F (hW.eq (by rw [hop]; rfl)) (by rw [hop]) dX5_load_128 (Nat.le_of_ble_eq_true rfl) (Nat.le_of_ble_eq_true rfl)
