theorem z01 {x : Int32} (h : x = 0 ∨ x = 1) : vp_nar .boolean x = x := by rcases h with rfl | rfl <;> rfl
set_option maxHeartbeats 4000000 in
set_option maxRecDepth 100000 in
theorem met_X5_addBuyer (l : Launch) (D : va_G) (cA : Nat → ClassId) (β : Nat → Nat) (c0 c1 : Nat × va_E) (wr : va_W) (th : Int32) (N : Nat → Nat → Nat) (R : Nat → Nat → Nat → Int32) (Fr : Nat → UInt32) (inc : Int64) (p0 : Int32) (hN : N 0 2 ≤ 5) : MetI l yX5_addBuyer (.code yX5_addBuyer cX5_addBuyer 2 (some .int) :: LW) ({ frames := 1, cells := 0, slots := 0, locals := 22 }) D cA (mWd cA β c0 c1 wr th (N, R, Fr, inc)) [.ref (β 0), .int p0] (fun r (_ : Unit) => r = (op_addBuyer (N, R, Fr, inc) p0).2.1) (fun _ => mWd cA β c0 c1 wr (nI (op_addBuyer (N, R, Fr, inc) p0).1) (op_addBuyer (N, R, Fr, inc) p0).2.2) 0 0 := by
  refine k_bodyI (plainFor_of_name (by decide)) (Nat.le_of_ble_eq_true rfl) (fun p e s m args below meth c ls F hW hl => ?_)
  obtain ⟨hx, hb, hr, hml, hown, hts, hlocks, hname⟩ := id F
  have hl : lv_has ls 2 [(0, .ref (β 0)), (1, .int p0)] := hl
  refine lv_aload_n hx hb dX5_addBuyer_0 rfl (lv_at hl 0 rfl) ?_
  refine lv_iload_n hx hb dX5_addBuyer_1 rfl (lv_at hl 1 rfl) ?_
  refine lv_iconst (v := 0) hx hb dX5_addBuyer_2 (by decide) ?_
  refine lv_ldc (v := 1000000) hx hb hown (hts _ CK_X5_141) dX5_addBuyer_3 ?_
  refine k_callSi (as := [.int p0, .int 0, .int 1000000]) (rest := [.ref (β 0)]) F hW (met_X5_in l D cA _ p0 0 1000000) rfl ML_X5_80 ST_X5_in IN_X5 CO_X5_in hdS_X5_in rfl rfl ⟨(Nat.le_of_ble_eq_true rfl), (Nat.le_of_ble_eq_true rfl)⟩ rfl rfl hl.1 (Nat.le_of_ble_eq_true rfl) dX5_addBuyer_5 ⟨(Nat.le_of_ble_eq_true rfl), (Nat.le_of_ble_eq_true rfl)⟩ (fun r_34 u H locs hw hW => ?_)
  subst hw
  cases hq_35 : wi p0 0 1000000
  · refine lv_if_ne (tgt := 15) hx hb dX5_addBuyer_8 (by decide) (fun h => absurd (by decide) h) (fun _ => ?_)
    refine lv_iconst (v := 1) hx hb dX5_addBuyer_11 (by decide) ?_
    refine lv_goto (tgt := 28) hx hb dX5_addBuyer_12 (by decide) ?_
    refine k_callVi (as := [.int 1]) (rest := []) (b := (β 0)) (ci := 7) (q0 := 2) F hW (met_X5_goesOn l D cA β c0 c1 wr th N R Fr inc 1) rfl ML_X5_93 IM_X5_goesOn SE_X5_goesOn IN_X5 CO_X5_goesOn hdV_X5_goesOn rfl rfl ⟨(Nat.le_of_ble_eq_true rfl), (Nat.le_of_ble_eq_true rfl)⟩ rfl rfl (rfl) rfl rfl hl.1 (Nat.le_of_ble_eq_true rfl) dX5_addBuyer_28 ⟨(Nat.le_of_ble_eq_true rfl), (Nat.le_of_ble_eq_true rfl)⟩ (fun r_36 u H locs hw hW => ?_)
    subst hw
    refine lv_if_ne (tgt := 36) hx hb dX5_addBuyer_31 (by decide) (fun h => absurd (by decide) h) (fun _ => ?_)
    refine lv_iconst (v := 0) hx hb dX5_addBuyer_34 (by decide) ?_
    have hop : op_addBuyer (N, R, Fr, inc) p0 = (1, 0, (N, R, Fr, inc)) := by simp [op_addBuyer, hq_35]
    exact k_iret () F (hW.eq (by rw [hop]; rfl)) (by rw [hop]) dX5_addBuyer_35 (Nat.le_of_ble_eq_true rfl) (Nat.le_of_ble_eq_true rfl)
  · refine lv_if_ne (tgt := 15) hx hb dX5_addBuyer_8 (by decide) (fun _ => ?_) (fun h => absurd h (by decide))
    refine lv_aload_n hx hb dX5_addBuyer_15 rfl (lv_at hl 0 rfl) ?_
    refine k_get (v := .int (nI (N 0 2))) F hW inX5 rfl 2 rfl rfl 17 (by decide) FL_X5_87 rfl rfl dX5_addBuyer_16 ?_
    refine lv_iconst (v := 5) hx hb dX5_addBuyer_19 (by decide) ?_
    refine lv_icmp_ne (tgt := 27) hx hb dX5_addBuyer_20 (by decide) (fun h_n => ?_) (fun h_n => ?_)
    · have h_n : ¬ N 0 2 = 5 := fun q => h_n (by rw [q]; rfl)
      refine lv_iconst (v := 0) hx hb dX5_addBuyer_27 (by decide) ?_
      refine k_callVi (as := [.int 0]) (rest := []) (b := (β 0)) (ci := 7) (q0 := 2) F hW (met_X5_goesOn l D cA β c0 c1 wr th N R Fr inc 0) rfl ML_X5_93 IM_X5_goesOn SE_X5_goesOn IN_X5 CO_X5_goesOn hdV_X5_goesOn rfl rfl ⟨(Nat.le_of_ble_eq_true rfl), (Nat.le_of_ble_eq_true rfl)⟩ rfl rfl (rfl) rfl rfl hl.1 (Nat.le_of_ble_eq_true rfl) dX5_addBuyer_28 ⟨(Nat.le_of_ble_eq_true rfl), (Nat.le_of_ble_eq_true rfl)⟩ (fun r_37 u H locs hw hW => ?_)
      subst hw
      refine lv_if_ne (tgt := 36) hx hb dX5_addBuyer_31 (by decide) (fun _ => ?_) (fun h => absurd h (by decide))
      refine lv_aload_n hx hb dX5_addBuyer_36 rfl (lv_at hl 0 rfl) ?_
      refine k_get (v := .ref (β 12)) F hW inX5 rfl 2 rfl rfl 18 (by decide) FL_X5_46 rfl rfl dX5_addBuyer_37 ?_
      refine lv_aload_n hx hb dX5_addBuyer_40 rfl (lv_at hl 0 rfl) ?_
      refine k_get (v := .int (nI (N 0 2))) F hW inX5 rfl 2 rfl rfl 17 (by decide) FL_X5_87 rfl rfl dX5_addBuyer_41 ?_
      refine lv_iload_n hx hb dX5_addBuyer_44 rfl (lv_at hl 1 rfl) ?_
      have hlt : N 0 2 < 5 := by omega
      refine k_iast F hW 14 rfl (vp_in_nI hlt (by decide)) (mWd cA β c0 c1 wr 0 (N, up3 R 13 (N 0 2) 0 p0, Fr, inc)) (by rw [nI_clamp (by omega), u1 R 13]; rfl) dX5_addBuyer_45 (fun H locs hW => ?_)
      refine lv_aload_n hx hb dX5_addBuyer_46 rfl (lv_at hl 0 rfl) ?_
      refine lv_dup hx hb dX5_addBuyer_47 rfl ?_
      refine k_get (v := .int (nI (N 0 2))) F hW inX5 rfl 2 rfl rfl 17 (by decide) FL_X5_87 rfl rfl dX5_addBuyer_48 ?_
      refine lv_iconst (v := 1) hx hb dX5_addBuyer_51 (by decide) ?_
      refine lv_iadd hx hb dX5_addBuyer_52 ?_
      refine lv_topi (fun x_38 ex_38 => ?_)
      obtain rfl : x_38 = nI (N 0 2 + 1) := ex_38.trans (nI_1 _)
      refine k_put F hW inX5 tyX5_ok nmX5 rfl 2 rfl rfl 17 (by decide) FL_X5_87 rfl rfl rfl rfl rfl (Nat.le_of_ble_eq_true rfl) (mWd cA β c0 c1 wr 0 (up2 N 0 2 (N 0 2 + 1), up3 R 13 (N 0 2) 0 p0, Fr, inc)) rfl dX5_addBuyer_53 (fun H locs hW => ?_)
      refine lv_aload_n hx hb dX5_addBuyer_56 rfl (lv_at hl 0 rfl) ?_
      refine k_get (v := .int (nI (N 0 2 + 1))) F hW inX5 rfl 2 rfl rfl 17 (by decide) FL_X5_87 rfl rfl dX5_addBuyer_57 ?_
      refine lv_iconst (v := 1) hx hb dX5_addBuyer_60 (by decide) ?_
      refine lv_isub hx hb dX5_addBuyer_61 ?_
      refine lv_topi (fun x_39 ex_39 => ?_)
      obtain rfl : x_39 = nI (N 0 2) := ex_39.trans (nI_pred _)
      have hop : op_addBuyer (N, R, Fr, inc) p0 = (0, nI (N 0 2), (up2 (up2 N 0 2 (N 0 2 + 1)) 2 2 (N 0 2 + 1), up3 R 13 (N 0 2) 0 p0, Fr, inc)) := by simp [op_addBuyer, hq_35, h_n]
      exact k_iret () F (hW.eq (by rw [hop]; rfl)) (by rw [hop]) dX5_addBuyer_62 (Nat.le_of_ble_eq_true rfl) (Nat.le_of_ble_eq_true rfl)
    · have h_n : N 0 2 = 5 := (nI_eq (by omega) (by decide)).mp h_n
      refine lv_iconst (v := 2) hx hb dX5_addBuyer_23 (by decide) ?_
      refine lv_goto (tgt := 28) hx hb dX5_addBuyer_24 (by decide) ?_
      refine k_callVi (as := [.int 2]) (rest := []) (b := (β 0)) (ci := 7) (q0 := 2) F hW (met_X5_goesOn l D cA β c0 c1 wr th N R Fr inc 2) rfl ML_X5_93 IM_X5_goesOn SE_X5_goesOn IN_X5 CO_X5_goesOn hdV_X5_goesOn rfl rfl ⟨(Nat.le_of_ble_eq_true rfl), (Nat.le_of_ble_eq_true rfl)⟩ rfl rfl (rfl) rfl rfl hl.1 (Nat.le_of_ble_eq_true rfl) dX5_addBuyer_28 ⟨(Nat.le_of_ble_eq_true rfl), (Nat.le_of_ble_eq_true rfl)⟩ (fun r_40 u H locs hw hW => ?_)
      subst hw
      refine lv_if_ne (tgt := 36) hx hb dX5_addBuyer_31 (by decide) (fun h => absurd (by decide) h) (fun _ => ?_)
      refine lv_iconst (v := 0) hx hb dX5_addBuyer_34 (by decide) ?_
      have hop : op_addBuyer (N, R, Fr, inc) p0 = (2, 0, (N, R, Fr, inc)) := by simp [op_addBuyer, hq_35, h_n]
      exact k_iret () F (hW.eq (by rw [hop]; rfl)) (by rw [hop]) dX5_addBuyer_35 (Nat.le_of_ble_eq_true rfl) (Nat.le_of_ble_eq_true rfl)

set_option maxHeartbeats 4000000 in
set_option maxRecDepth 100000 in
theorem met_X5_addBoat (l : Launch) (D : va_G) (cA : Nat → ClassId) (β : Nat → Nat) (c0 c1 : Nat × va_E) (wr : va_W) (th : Int32) (N : Nat → Nat → Nat) (R : Nat → Nat → Nat → Int32) (Fr : Nat → UInt32) (inc : Int64) (p0 p1 p2 p3 : Int32) (hN : N 0 0 ≤ 6) : MetI l yX5_addBoat (.code yX5_addBoat cX5_addBoat 6 (some .int) :: LW) ({ frames := 1, cells := 0, slots := 0, locals := 22 }) D cA (mWd cA β c0 c1 wr th (N, R, Fr, inc)) [.ref (β 0), .int p0, .int p1, .int p2, .int p3] (fun r (_ : Unit) => r = (op_addBoat (N, R, Fr, inc) p0 p1 p2 p3).2.1) (fun _ => mWd cA β c0 c1 wr (nI (op_addBoat (N, R, Fr, inc) p0 p1 p2 p3).1) (op_addBoat (N, R, Fr, inc) p0 p1 p2 p3).2.2) 0 0 := by
  refine k_bodyI (plainFor_of_name (by decide)) (Nat.le_of_ble_eq_true rfl) (fun p e s m args below meth c ls F hW hl => ?_)
  obtain ⟨hx, hb, hr, hml, hown, hts, hlocks, hname⟩ := id F
  have hl : lv_has ls 6 [(0, .ref (β 0)), (1, .int p0), (2, .int p1), (3, .int p2), (4, .int p3)] := hl
  refine lv_iload_n hx hb dX5_addBoat_0 rfl (lv_at hl 1 rfl) ?_
  refine lv_iconst (v := 0) hx hb dX5_addBoat_1 (by decide) ?_
  refine lv_sipush (v := 9999) hx hb dX5_addBoat_2 (by decide) ?_
  refine k_callSi (as := [.int p0, .int 0, .int 9999]) (rest := []) F hW (met_X5_in l D cA _ p0 0 9999) rfl ML_X5_80 ST_X5_in IN_X5 CO_X5_in hdS_X5_in rfl rfl ⟨(Nat.le_of_ble_eq_true rfl), (Nat.le_of_ble_eq_true rfl)⟩ rfl rfl hl.1 (Nat.le_of_ble_eq_true rfl) dX5_addBoat_5 ⟨(Nat.le_of_ble_eq_true rfl), (Nat.le_of_ble_eq_true rfl)⟩ (fun r_41 u H locs hw hW => ?_)
  subst hw
  cases hq_42 : wi p0 0 9999
  · refine lv_if_eq (tgt := 49) hx hb dX5_addBoat_8 (by decide) (fun _ => ?_) (fun h => absurd (by decide) h)
    refine lv_iconst (v := 0) hx hb dX5_addBoat_49 (by decide) ?_
    refine lv_istore (lv' := [(5, .int 0), (0, .ref (β 0)), (1, .int p0), (2, .int p1), (3, .int p2), (4, .int p3)]) hx hb dX5_addBoat_50 hl (by decide) rfl (fun ls hl => ?_)
    refine lv_aload_n hx hb dX5_addBoat_52 rfl (lv_at hl 1 rfl) ?_
    refine lv_iload hx hb dX5_addBoat_53 (lv_at hl 0 rfl) ?_
    refine lv_if_ne (tgt := 62) hx hb dX5_addBoat_55 (by decide) (fun h => absurd (by decide) h) (fun _ => ?_)
    refine lv_iconst (v := 1) hx hb dX5_addBoat_58 (by decide) ?_
    refine lv_goto (tgt := 76) hx hb dX5_addBoat_59 (by decide) ?_
    refine k_callVi (as := [.int 1]) (rest := []) (b := (β 0)) (ci := 7) (q0 := 2) F hW (met_X5_goesOn l D cA β c0 c1 wr th N R Fr inc 1) rfl ML_X5_93 IM_X5_goesOn SE_X5_goesOn IN_X5 CO_X5_goesOn hdV_X5_goesOn rfl rfl ⟨(Nat.le_of_ble_eq_true rfl), (Nat.le_of_ble_eq_true rfl)⟩ rfl rfl (rfl) rfl rfl hl.1 (Nat.le_of_ble_eq_true rfl) dX5_addBoat_76 ⟨(Nat.le_of_ble_eq_true rfl), (Nat.le_of_ble_eq_true rfl)⟩ (fun r_43 u H locs hw hW => ?_)
    subst hw
    refine lv_if_ne (tgt := 84) hx hb dX5_addBoat_79 (by decide) (fun h => absurd (by decide) h) (fun _ => ?_)
    refine lv_iconst (v := 0) hx hb dX5_addBoat_82 (by decide) ?_
    have hop : op_addBoat (N, R, Fr, inc) p0 p1 p2 p3 = (1, 0, (N, R, Fr, inc)) := by simp [op_addBoat, hq_42]
    exact k_iret () F (hW.eq (by rw [hop]; rfl)) (by rw [hop]) dX5_addBoat_83 (Nat.le_of_ble_eq_true rfl) (Nat.le_of_ble_eq_true rfl)
  · refine lv_if_eq (tgt := 49) hx hb dX5_addBoat_8 (by decide) (fun h => absurd h (by decide)) (fun _ => ?_)
    refine lv_iload_n hx hb dX5_addBoat_11 rfl (lv_at hl 2 rfl) ?_
    refine lv_iconst (v := 0) hx hb dX5_addBoat_12 (by decide) ?_
    refine lv_sipush (v := 9999) hx hb dX5_addBoat_13 (by decide) ?_
    refine k_callSi (as := [.int p1, .int 0, .int 9999]) (rest := []) F hW (met_X5_in l D cA _ p1 0 9999) rfl ML_X5_80 ST_X5_in IN_X5 CO_X5_in hdS_X5_in rfl rfl ⟨(Nat.le_of_ble_eq_true rfl), (Nat.le_of_ble_eq_true rfl)⟩ rfl rfl hl.1 (Nat.le_of_ble_eq_true rfl) dX5_addBoat_16 ⟨(Nat.le_of_ble_eq_true rfl), (Nat.le_of_ble_eq_true rfl)⟩ (fun r_44 u H locs hw hW => ?_)
    subst hw
    cases hq_45 : wi p1 0 9999
    · refine lv_if_eq (tgt := 49) hx hb dX5_addBoat_19 (by decide) (fun _ => ?_) (fun h => absurd (by decide) h)
      refine lv_iconst (v := 0) hx hb dX5_addBoat_49 (by decide) ?_
      refine lv_istore (lv' := [(5, .int 0), (0, .ref (β 0)), (1, .int p0), (2, .int p1), (3, .int p2), (4, .int p3)]) hx hb dX5_addBoat_50 hl (by decide) rfl (fun ls hl => ?_)
      refine lv_aload_n hx hb dX5_addBoat_52 rfl (lv_at hl 1 rfl) ?_
      refine lv_iload hx hb dX5_addBoat_53 (lv_at hl 0 rfl) ?_
      refine lv_if_ne (tgt := 62) hx hb dX5_addBoat_55 (by decide) (fun h => absurd (by decide) h) (fun _ => ?_)
      refine lv_iconst (v := 1) hx hb dX5_addBoat_58 (by decide) ?_
      refine lv_goto (tgt := 76) hx hb dX5_addBoat_59 (by decide) ?_
      refine k_callVi (as := [.int 1]) (rest := []) (b := (β 0)) (ci := 7) (q0 := 2) F hW (met_X5_goesOn l D cA β c0 c1 wr th N R Fr inc 1) rfl ML_X5_93 IM_X5_goesOn SE_X5_goesOn IN_X5 CO_X5_goesOn hdV_X5_goesOn rfl rfl ⟨(Nat.le_of_ble_eq_true rfl), (Nat.le_of_ble_eq_true rfl)⟩ rfl rfl (rfl) rfl rfl hl.1 (Nat.le_of_ble_eq_true rfl) dX5_addBoat_76 ⟨(Nat.le_of_ble_eq_true rfl), (Nat.le_of_ble_eq_true rfl)⟩ (fun r_46 u H locs hw hW => ?_)
      subst hw
      refine lv_if_ne (tgt := 84) hx hb dX5_addBoat_79 (by decide) (fun h => absurd (by decide) h) (fun _ => ?_)
      refine lv_iconst (v := 0) hx hb dX5_addBoat_82 (by decide) ?_
      have hop : op_addBoat (N, R, Fr, inc) p0 p1 p2 p3 = (1, 0, (N, R, Fr, inc)) := by simp [op_addBoat, hq_42, hq_45]
      exact k_iret () F (hW.eq (by rw [hop]; rfl)) (by rw [hop]) dX5_addBoat_83 (Nat.le_of_ble_eq_true rfl) (Nat.le_of_ble_eq_true rfl)
    · refine lv_if_eq (tgt := 49) hx hb dX5_addBoat_19 (by decide) (fun h => absurd h (by decide)) (fun _ => ?_)
      refine lv_iload_n hx hb dX5_addBoat_22 rfl (lv_at hl 3 rfl) ?_
      refine lv_iconst (v := 0) hx hb dX5_addBoat_23 (by decide) ?_
      refine lv_sipush (v := 9999) hx hb dX5_addBoat_24 (by decide) ?_
      refine k_callSi (as := [.int p2, .int 0, .int 9999]) (rest := []) F hW (met_X5_in l D cA _ p2 0 9999) rfl ML_X5_80 ST_X5_in IN_X5 CO_X5_in hdS_X5_in rfl rfl ⟨(Nat.le_of_ble_eq_true rfl), (Nat.le_of_ble_eq_true rfl)⟩ rfl rfl hl.1 (Nat.le_of_ble_eq_true rfl) dX5_addBoat_27 ⟨(Nat.le_of_ble_eq_true rfl), (Nat.le_of_ble_eq_true rfl)⟩ (fun r_47 u H locs hw hW => ?_)
      subst hw
      cases hq_48 : wi p2 0 9999
      · refine lv_if_eq (tgt := 49) hx hb dX5_addBoat_30 (by decide) (fun _ => ?_) (fun h => absurd (by decide) h)
        refine lv_iconst (v := 0) hx hb dX5_addBoat_49 (by decide) ?_
        refine lv_istore (lv' := [(5, .int 0), (0, .ref (β 0)), (1, .int p0), (2, .int p1), (3, .int p2), (4, .int p3)]) hx hb dX5_addBoat_50 hl (by decide) rfl (fun ls hl => ?_)
        refine lv_aload_n hx hb dX5_addBoat_52 rfl (lv_at hl 1 rfl) ?_
        refine lv_iload hx hb dX5_addBoat_53 (lv_at hl 0 rfl) ?_
        refine lv_if_ne (tgt := 62) hx hb dX5_addBoat_55 (by decide) (fun h => absurd (by decide) h) (fun _ => ?_)
        refine lv_iconst (v := 1) hx hb dX5_addBoat_58 (by decide) ?_
        refine lv_goto (tgt := 76) hx hb dX5_addBoat_59 (by decide) ?_
        refine k_callVi (as := [.int 1]) (rest := []) (b := (β 0)) (ci := 7) (q0 := 2) F hW (met_X5_goesOn l D cA β c0 c1 wr th N R Fr inc 1) rfl ML_X5_93 IM_X5_goesOn SE_X5_goesOn IN_X5 CO_X5_goesOn hdV_X5_goesOn rfl rfl ⟨(Nat.le_of_ble_eq_true rfl), (Nat.le_of_ble_eq_true rfl)⟩ rfl rfl (rfl) rfl rfl hl.1 (Nat.le_of_ble_eq_true rfl) dX5_addBoat_76 ⟨(Nat.le_of_ble_eq_true rfl), (Nat.le_of_ble_eq_true rfl)⟩ (fun r_49 u H locs hw hW => ?_)
        subst hw
        refine lv_if_ne (tgt := 84) hx hb dX5_addBoat_79 (by decide) (fun h => absurd (by decide) h) (fun _ => ?_)
        refine lv_iconst (v := 0) hx hb dX5_addBoat_82 (by decide) ?_
        have hop : op_addBoat (N, R, Fr, inc) p0 p1 p2 p3 = (1, 0, (N, R, Fr, inc)) := by simp [op_addBoat, hq_42, hq_45, hq_48]
        exact k_iret () F (hW.eq (by rw [hop]; rfl)) (by rw [hop]) dX5_addBoat_83 (Nat.le_of_ble_eq_true rfl) (Nat.le_of_ble_eq_true rfl)
      · refine lv_if_eq (tgt := 49) hx hb dX5_addBoat_30 (by decide) (fun h => absurd h (by decide)) (fun _ => ?_)
        refine lv_iload hx hb dX5_addBoat_33 (lv_at hl 4 rfl) ?_
        refine lv_iconst (v := 0) hx hb dX5_addBoat_35 (by decide) ?_
        refine lv_sipush (v := 9999) hx hb dX5_addBoat_36 (by decide) ?_
        refine k_callSi (as := [.int p3, .int 0, .int 9999]) (rest := []) F hW (met_X5_in l D cA _ p3 0 9999) rfl ML_X5_80 ST_X5_in IN_X5 CO_X5_in hdS_X5_in rfl rfl ⟨(Nat.le_of_ble_eq_true rfl), (Nat.le_of_ble_eq_true rfl)⟩ rfl rfl hl.1 (Nat.le_of_ble_eq_true rfl) dX5_addBoat_39 ⟨(Nat.le_of_ble_eq_true rfl), (Nat.le_of_ble_eq_true rfl)⟩ (fun r_50 u H locs hw hW => ?_)
        subst hw
        cases hq_51 : wi p3 0 9999
        · refine lv_if_eq (tgt := 49) hx hb dX5_addBoat_42 (by decide) (fun _ => ?_) (fun h => absurd (by decide) h)
          refine lv_iconst (v := 0) hx hb dX5_addBoat_49 (by decide) ?_
          refine lv_istore (lv' := [(5, .int 0), (0, .ref (β 0)), (1, .int p0), (2, .int p1), (3, .int p2), (4, .int p3)]) hx hb dX5_addBoat_50 hl (by decide) rfl (fun ls hl => ?_)
          refine lv_aload_n hx hb dX5_addBoat_52 rfl (lv_at hl 1 rfl) ?_
          refine lv_iload hx hb dX5_addBoat_53 (lv_at hl 0 rfl) ?_
          refine lv_if_ne (tgt := 62) hx hb dX5_addBoat_55 (by decide) (fun h => absurd (by decide) h) (fun _ => ?_)
          refine lv_iconst (v := 1) hx hb dX5_addBoat_58 (by decide) ?_
          refine lv_goto (tgt := 76) hx hb dX5_addBoat_59 (by decide) ?_
          refine k_callVi (as := [.int 1]) (rest := []) (b := (β 0)) (ci := 7) (q0 := 2) F hW (met_X5_goesOn l D cA β c0 c1 wr th N R Fr inc 1) rfl ML_X5_93 IM_X5_goesOn SE_X5_goesOn IN_X5 CO_X5_goesOn hdV_X5_goesOn rfl rfl ⟨(Nat.le_of_ble_eq_true rfl), (Nat.le_of_ble_eq_true rfl)⟩ rfl rfl (rfl) rfl rfl hl.1 (Nat.le_of_ble_eq_true rfl) dX5_addBoat_76 ⟨(Nat.le_of_ble_eq_true rfl), (Nat.le_of_ble_eq_true rfl)⟩ (fun r_52 u H locs hw hW => ?_)
          subst hw
          refine lv_if_ne (tgt := 84) hx hb dX5_addBoat_79 (by decide) (fun h => absurd (by decide) h) (fun _ => ?_)
          refine lv_iconst (v := 0) hx hb dX5_addBoat_82 (by decide) ?_
          have hop : op_addBoat (N, R, Fr, inc) p0 p1 p2 p3 = (1, 0, (N, R, Fr, inc)) := by simp [op_addBoat, hq_42, hq_45, hq_48, hq_51]
          exact k_iret () F (hW.eq (by rw [hop]; rfl)) (by rw [hop]) dX5_addBoat_83 (Nat.le_of_ble_eq_true rfl) (Nat.le_of_ble_eq_true rfl)
        · refine lv_if_eq (tgt := 49) hx hb dX5_addBoat_42 (by decide) (fun h => absurd h (by decide)) (fun _ => ?_)
          refine lv_iconst (v := 1) hx hb dX5_addBoat_45 (by decide) ?_
          refine lv_goto (tgt := 50) hx hb dX5_addBoat_46 (by decide) ?_
          refine lv_istore (lv' := [(5, .int 1), (0, .ref (β 0)), (1, .int p0), (2, .int p1), (3, .int p2), (4, .int p3)]) hx hb dX5_addBoat_50 hl (by decide) rfl (fun ls hl => ?_)
          refine lv_aload_n hx hb dX5_addBoat_52 rfl (lv_at hl 1 rfl) ?_
          refine lv_iload hx hb dX5_addBoat_53 (lv_at hl 0 rfl) ?_
          refine lv_if_ne (tgt := 62) hx hb dX5_addBoat_55 (by decide) (fun _ => ?_) (fun h => absurd h (by decide))
          refine lv_aload_n hx hb dX5_addBoat_62 rfl (lv_at hl 1 rfl) ?_
          refine k_get (v := .int (nI (N 0 0))) F hW inX5 rfl 2 rfl rfl 1 (by decide) FL_X5_77 rfl rfl dX5_addBoat_63 ?_
          refine lv_bipush (v := 6) hx hb dX5_addBoat_66 (by decide) ?_
          refine lv_icmp_ne (tgt := 75) hx hb dX5_addBoat_68 (by decide) (fun h_n => ?_) (fun h_n => ?_)
          · have h_n : ¬ N 0 0 = 6 := fun q => h_n (by rw [q]; rfl)
            refine lv_iconst (v := 0) hx hb dX5_addBoat_75 (by decide) ?_
            refine k_callVi (as := [.int 0]) (rest := []) (b := (β 0)) (ci := 7) (q0 := 2) F hW (met_X5_goesOn l D cA β c0 c1 wr th N R Fr inc 0) rfl ML_X5_93 IM_X5_goesOn SE_X5_goesOn IN_X5 CO_X5_goesOn hdV_X5_goesOn rfl rfl ⟨(Nat.le_of_ble_eq_true rfl), (Nat.le_of_ble_eq_true rfl)⟩ rfl rfl (rfl) rfl rfl hl.1 (Nat.le_of_ble_eq_true rfl) dX5_addBoat_76 ⟨(Nat.le_of_ble_eq_true rfl), (Nat.le_of_ble_eq_true rfl)⟩ (fun r_53 u H locs hw hW => ?_)
            subst hw
            refine lv_if_ne (tgt := 84) hx hb dX5_addBoat_79 (by decide) (fun _ => ?_) (fun h => absurd h (by decide))
            refine lv_aload_n hx hb dX5_addBoat_84 rfl (lv_at hl 1 rfl) ?_
            refine k_get (v := .ref (β 1)) F hW inX5 rfl 2 rfl rfl 2 (by decide) FL_X5_9 rfl rfl dX5_addBoat_85 ?_
            refine lv_iconst (v := 4) hx hb dX5_addBoat_88 (by decide) ?_
            refine lv_aload_n hx hb dX5_addBoat_89 rfl (lv_at hl 1 rfl) ?_
            refine k_get (v := .int (nI (N 0 0))) F hW inX5 rfl 2 rfl rfl 1 (by decide) FL_X5_77 rfl rfl dX5_addBoat_90 ?_
            refine lv_imul hx hb dX5_addBoat_93 ?_
            have hlt : N 0 0 < 6 := by omega
            refine lv_topi (fun x_54 ex_54 => ?_)
            obtain rfl : x_54 = nI (4 * N 0 0 + 0) := ex_54.trans (pk_mul 4 _)
            refine lv_iload_n hx hb dX5_addBoat_94 rfl (lv_at hl 2 rfl) ?_
            refine k_iast F hW 3 rfl (vp_in_nI (by omega) (by decide)) (mWd cA β c0 c1 wr 0 (N, up3 R 1 (N 0 0) 0 p0, Fr, inc)) (by rw [nI_clamp (by omega), ud 4 R 1 (N 0 0) 0 p0 (by decide)]; rfl) dX5_addBoat_95 (fun H locs hW => ?_)
            refine lv_aload_n hx hb dX5_addBoat_96 rfl (lv_at hl 1 rfl) ?_
            refine k_get (v := .ref (β 1)) F hW inX5 rfl 2 rfl rfl 2 (by decide) FL_X5_9 rfl rfl dX5_addBoat_97 ?_
            refine lv_iconst (v := 4) hx hb dX5_addBoat_100 (by decide) ?_
            refine lv_aload_n hx hb dX5_addBoat_101 rfl (lv_at hl 1 rfl) ?_
            refine k_get (v := .int (nI (N 0 0))) F hW inX5 rfl 2 rfl rfl 1 (by decide) FL_X5_77 rfl rfl dX5_addBoat_102 ?_
            refine lv_imul hx hb dX5_addBoat_105 ?_
            refine lv_iconst (v := 1) hx hb dX5_addBoat_106 (by decide) ?_
            refine lv_iadd hx hb dX5_addBoat_107 ?_
            refine lv_topi (fun x_55 ex_55 => ?_)
            obtain rfl : x_55 = nI (4 * N 0 0 + 1) := ex_55.trans (ix4 _ 1)
            refine lv_iload_n hx hb dX5_addBoat_108 rfl (lv_at hl 3 rfl) ?_
            refine k_iast F hW 3 rfl (vp_in_nI (by omega) (by decide)) (mWd cA β c0 c1 wr 0 (N, up3 (up3 R 1 (N 0 0) 0 p0) 1 (N 0 0) 1 p1, Fr, inc)) (by rw [nI_clamp (by omega), ud 4 (up3 R 1 (N 0 0) 0 p0) 1 (N 0 0) 1 p1 (by decide)]; rfl) dX5_addBoat_109 (fun H locs hW => ?_)
            refine lv_aload_n hx hb dX5_addBoat_110 rfl (lv_at hl 1 rfl) ?_
            refine k_get (v := .ref (β 1)) F hW inX5 rfl 2 rfl rfl 2 (by decide) FL_X5_9 rfl rfl dX5_addBoat_111 ?_
            refine lv_iconst (v := 4) hx hb dX5_addBoat_114 (by decide) ?_
            refine lv_aload_n hx hb dX5_addBoat_115 rfl (lv_at hl 1 rfl) ?_
            refine k_get (v := .int (nI (N 0 0))) F hW inX5 rfl 2 rfl rfl 1 (by decide) FL_X5_77 rfl rfl dX5_addBoat_116 ?_
            refine lv_imul hx hb dX5_addBoat_119 ?_
            refine lv_iconst (v := 2) hx hb dX5_addBoat_120 (by decide) ?_
            refine lv_iadd hx hb dX5_addBoat_121 ?_
            refine lv_topi (fun x_56 ex_56 => ?_)
            obtain rfl : x_56 = nI (4 * N 0 0 + 2) := ex_56.trans (ix4 _ 2)
            refine lv_iload_n hx hb dX5_addBoat_122 rfl (lv_at hl 4 rfl) ?_
            refine k_iast F hW 3 rfl (vp_in_nI (by omega) (by decide)) (mWd cA β c0 c1 wr 0 (N, up3 (up3 (up3 R 1 (N 0 0) 0 p0) 1 (N 0 0) 1 p1) 1 (N 0 0) 2 p2, Fr, inc)) (by rw [nI_clamp (by omega), ud 4 (up3 (up3 R 1 (N 0 0) 0 p0) 1 (N 0 0) 1 p1) 1 (N 0 0) 2 p2 (by decide)]; rfl) dX5_addBoat_123 (fun H locs hW => ?_)
            refine lv_aload_n hx hb dX5_addBoat_124 rfl (lv_at hl 1 rfl) ?_
            refine k_get (v := .ref (β 1)) F hW inX5 rfl 2 rfl rfl 2 (by decide) FL_X5_9 rfl rfl dX5_addBoat_125 ?_
            refine lv_iconst (v := 4) hx hb dX5_addBoat_128 (by decide) ?_
            refine lv_aload_n hx hb dX5_addBoat_129 rfl (lv_at hl 1 rfl) ?_
            refine k_get (v := .int (nI (N 0 0))) F hW inX5 rfl 2 rfl rfl 1 (by decide) FL_X5_77 rfl rfl dX5_addBoat_130 ?_
            refine lv_imul hx hb dX5_addBoat_133 ?_
            refine lv_iconst (v := 3) hx hb dX5_addBoat_134 (by decide) ?_
            refine lv_iadd hx hb dX5_addBoat_135 ?_
            refine lv_topi (fun x_57 ex_57 => ?_)
            obtain rfl : x_57 = nI (4 * N 0 0 + 3) := ex_57.trans (ix4 _ 3)
            refine lv_iload hx hb dX5_addBoat_136 (lv_at hl 5 rfl) ?_
            refine k_iast F hW 3 rfl (vp_in_nI (by omega) (by decide)) (mWd cA β c0 c1 wr 0 (N, up3 (up3 (up3 (up3 R 1 (N 0 0) 0 p0) 1 (N 0 0) 1 p1) 1 (N 0 0) 2 p2) 1 (N 0 0) 3 p3, Fr, inc)) (by rw [nI_clamp (by omega), ud 4 (up3 (up3 (up3 R 1 (N 0 0) 0 p0) 1 (N 0 0) 1 p1) 1 (N 0 0) 2 p2) 1 (N 0 0) 3 p3 (by decide)]; rfl) dX5_addBoat_138 (fun H locs hW => ?_)
            refine lv_aload_n hx hb dX5_addBoat_139 rfl (lv_at hl 1 rfl) ?_
            refine lv_dup hx hb dX5_addBoat_140 rfl ?_
            refine k_get (v := .int (nI (N 0 0))) F hW inX5 rfl 2 rfl rfl 1 (by decide) FL_X5_77 rfl rfl dX5_addBoat_141 ?_
            refine lv_iconst (v := 1) hx hb dX5_addBoat_144 (by decide) ?_
            refine lv_iadd hx hb dX5_addBoat_145 ?_
            refine lv_topi (fun x_58 ex_58 => ?_)
            obtain rfl : x_58 = nI (N 0 0 + 1) := ex_58.trans (nI_1 _)
            refine k_put F hW inX5 tyX5_ok nmX5 rfl 2 rfl rfl 1 (by decide) FL_X5_77 rfl rfl rfl rfl rfl (Nat.le_of_ble_eq_true rfl) (mWd cA β c0 c1 wr 0 (up2 N 0 0 (N 0 0 + 1), up3 (up3 (up3 (up3 R 1 (N 0 0) 0 p0) 1 (N 0 0) 1 p1) 1 (N 0 0) 2 p2) 1 (N 0 0) 3 p3, Fr, inc)) rfl dX5_addBoat_146 (fun H locs hW => ?_)
            refine lv_aload_n hx hb dX5_addBoat_149 rfl (lv_at hl 1 rfl) ?_
            refine k_get (v := .int (nI (N 0 0 + 1))) F hW inX5 rfl 2 rfl rfl 1 (by decide) FL_X5_77 rfl rfl dX5_addBoat_150 ?_
            refine lv_iconst (v := 1) hx hb dX5_addBoat_153 (by decide) ?_
            refine lv_isub hx hb dX5_addBoat_154 ?_
            refine lv_topi (fun x_59 ex_59 => ?_)
            obtain rfl : x_59 = nI (N 0 0) := ex_59.trans (nI_pred _)
            have hop : op_addBoat (N, R, Fr, inc) p0 p1 p2 p3 = (0, nI (N 0 0), (up2 (up2 N 0 0 (N 0 0 + 1)) 2 0 (N 0 0 + 1), up3 (up3 (up3 (up3 (up3 (up3 (up3 (up3 R 1 (N 0 0) 0 p0) 1 (N 0 0) 1 p1) 1 (N 0 0) 2 p2) 1 (N 0 0) 3 p3) 3 (N 0 0) 0 p0) 3 (N 0 0) 1 p1) 3 (N 0 0) 2 p2) 3 (N 0 0) 3 p3, Fr, inc)) := by simp [op_addBoat, hq_42, hq_45, hq_48, hq_51, h_n]
            exact k_iret () F (hW.eq (by rw [hop]; rfl)) (by rw [hop]) dX5_addBoat_155 (Nat.le_of_ble_eq_true rfl) (Nat.le_of_ble_eq_true rfl)
          · have h_n : N 0 0 = 6 := (nI_eq (by omega) (by decide)).mp h_n
            refine lv_iconst (v := 2) hx hb dX5_addBoat_71 (by decide) ?_
            refine lv_goto (tgt := 76) hx hb dX5_addBoat_72 (by decide) ?_
            refine k_callVi (as := [.int 2]) (rest := []) (b := (β 0)) (ci := 7) (q0 := 2) F hW (met_X5_goesOn l D cA β c0 c1 wr th N R Fr inc 2) rfl ML_X5_93 IM_X5_goesOn SE_X5_goesOn IN_X5 CO_X5_goesOn hdV_X5_goesOn rfl rfl ⟨(Nat.le_of_ble_eq_true rfl), (Nat.le_of_ble_eq_true rfl)⟩ rfl rfl (rfl) rfl rfl hl.1 (Nat.le_of_ble_eq_true rfl) dX5_addBoat_76 ⟨(Nat.le_of_ble_eq_true rfl), (Nat.le_of_ble_eq_true rfl)⟩ (fun r_60 u H locs hw hW => ?_)
            subst hw
            refine lv_if_ne (tgt := 84) hx hb dX5_addBoat_79 (by decide) (fun h => absurd (by decide) h) (fun _ => ?_)
            refine lv_iconst (v := 0) hx hb dX5_addBoat_82 (by decide) ?_
            have hop : op_addBoat (N, R, Fr, inc) p0 p1 p2 p3 = (2, 0, (N, R, Fr, inc)) := by simp [op_addBoat, hq_42, hq_45, hq_48, hq_51, h_n]
            exact k_iret () F (hW.eq (by rw [hop]; rfl)) (by rw [hop]) dX5_addBoat_83 (Nat.le_of_ble_eq_true rfl) (Nat.le_of_ble_eq_true rfl)

set_option maxHeartbeats 4000000 in
set_option maxRecDepth 100000 in
theorem met_X5_setClock (l : Launch) (D : va_G) (cA : Nat → ClassId) (β : Nat → Nat) (c0 c1 : Nat × va_E) (wr : va_W) (th : Int32) (N : Nat → Nat → Nat) (R : Nat → Nat → Nat → Int32) (Fr : Nat → UInt32) (inc : Int64) (p0 p1 p2 : Int32) : MetI l yX5_setClock (.code yX5_setClock cX5_setClock 5 (some .int) :: LW) ({ frames := 1, cells := 0, slots := 0, locals := 22 }) D cA (mWd cA β c0 c1 wr th (N, R, Fr, inc)) [.ref (β 0), .int p0, .int p1, .int p2] (fun r (_ : Unit) => r = (op_setClock (N, R, Fr, inc) p0 p1 p2).2.1) (fun _ => mWd cA β c0 c1 wr (nI (op_setClock (N, R, Fr, inc) p0 p1 p2).1) (op_setClock (N, R, Fr, inc) p0 p1 p2).2.2) 0 0 := by
  refine k_bodyI (plainFor_of_name (by decide)) (Nat.le_of_ble_eq_true rfl) (fun p e s m args below meth c ls F hW hl => ?_)
  obtain ⟨hx, hb, hr, hml, hown, hts, hlocks, hname⟩ := id F
  have hl : lv_has ls 5 [(0, .ref (β 0)), (1, .int p0), (2, .int p1), (3, .int p2)] := hl
  refine lv_aload_n hx hb dX5_setClock_0 rfl (lv_at hl 0 rfl) ?_
  refine lv_iload_n hx hb dX5_setClock_1 rfl (lv_at hl 1 rfl) ?_
  refine lv_iconst (v := 1) hx hb dX5_setClock_2 (by decide) ?_
  refine lv_sipush (v := 9999) hx hb dX5_setClock_3 (by decide) ?_
  refine k_callSi (as := [.int p0, .int 1, .int 9999]) (rest := [.ref (β 0)]) F hW (met_X5_in l D cA _ p0 1 9999) rfl ML_X5_80 ST_X5_in IN_X5 CO_X5_in hdS_X5_in rfl rfl ⟨(Nat.le_of_ble_eq_true rfl), (Nat.le_of_ble_eq_true rfl)⟩ rfl rfl hl.1 (Nat.le_of_ble_eq_true rfl) dX5_setClock_6 ⟨(Nat.le_of_ble_eq_true rfl), (Nat.le_of_ble_eq_true rfl)⟩ (fun r_61 u H locs hw hW => ?_)
  subst hw
  cases hq_62 : wi p0 1 9999
  · refine lv_if_eq (tgt := 36) hx hb dX5_setClock_9 (by decide) (fun _ => ?_) (fun h => absurd (by decide) h)
    refine lv_iconst (v := 1) hx hb dX5_setClock_36 (by decide) ?_
    refine k_callVi (as := [.int 1]) (rest := []) (b := (β 0)) (ci := 7) (q0 := 2) F hW (met_X5_goesOn l D cA β c0 c1 wr th N R Fr inc 1) rfl ML_X5_93 IM_X5_goesOn SE_X5_goesOn IN_X5 CO_X5_goesOn hdV_X5_goesOn rfl rfl ⟨(Nat.le_of_ble_eq_true rfl), (Nat.le_of_ble_eq_true rfl)⟩ rfl rfl (rfl) rfl rfl hl.1 (Nat.le_of_ble_eq_true rfl) dX5_setClock_37 ⟨(Nat.le_of_ble_eq_true rfl), (Nat.le_of_ble_eq_true rfl)⟩ (fun r_63 u H locs hw hW => ?_)
    subst hw
    refine lv_if_ne (tgt := 45) hx hb dX5_setClock_40 (by decide) (fun h => absurd (by decide) h) (fun _ => ?_)
    refine lv_iconst (v := 0) hx hb dX5_setClock_43 (by decide) ?_
    have hop : op_setClock (N, R, Fr, inc) p0 p1 p2 = (1, 0, (N, R, Fr, inc)) := by simp [op_setClock, hq_62]
    exact k_iret () F (hW.eq (by rw [hop]; rfl)) (by rw [hop]) dX5_setClock_44 (Nat.le_of_ble_eq_true rfl) (Nat.le_of_ble_eq_true rfl)
  · refine lv_if_eq (tgt := 36) hx hb dX5_setClock_9 (by decide) (fun h => absurd h (by decide)) (fun _ => ?_)
    refine lv_iload_n hx hb dX5_setClock_12 rfl (lv_at hl 2 rfl) ?_
    refine lv_iconst (v := 1) hx hb dX5_setClock_13 (by decide) ?_
    refine lv_sipush (v := 500) hx hb dX5_setClock_14 (by decide) ?_
    refine k_callSi (as := [.int p1, .int 1, .int 500]) (rest := [.ref (β 0)]) F hW (met_X5_in l D cA _ p1 1 500) rfl ML_X5_80 ST_X5_in IN_X5 CO_X5_in hdS_X5_in rfl rfl ⟨(Nat.le_of_ble_eq_true rfl), (Nat.le_of_ble_eq_true rfl)⟩ rfl rfl hl.1 (Nat.le_of_ble_eq_true rfl) dX5_setClock_17 ⟨(Nat.le_of_ble_eq_true rfl), (Nat.le_of_ble_eq_true rfl)⟩ (fun r_64 u H locs hw hW => ?_)
    subst hw
    cases hq_65 : wi p1 1 500
    · refine lv_if_eq (tgt := 36) hx hb dX5_setClock_20 (by decide) (fun _ => ?_) (fun h => absurd (by decide) h)
      refine lv_iconst (v := 1) hx hb dX5_setClock_36 (by decide) ?_
      refine k_callVi (as := [.int 1]) (rest := []) (b := (β 0)) (ci := 7) (q0 := 2) F hW (met_X5_goesOn l D cA β c0 c1 wr th N R Fr inc 1) rfl ML_X5_93 IM_X5_goesOn SE_X5_goesOn IN_X5 CO_X5_goesOn hdV_X5_goesOn rfl rfl ⟨(Nat.le_of_ble_eq_true rfl), (Nat.le_of_ble_eq_true rfl)⟩ rfl rfl (rfl) rfl rfl hl.1 (Nat.le_of_ble_eq_true rfl) dX5_setClock_37 ⟨(Nat.le_of_ble_eq_true rfl), (Nat.le_of_ble_eq_true rfl)⟩ (fun r_66 u H locs hw hW => ?_)
      subst hw
      refine lv_if_ne (tgt := 45) hx hb dX5_setClock_40 (by decide) (fun h => absurd (by decide) h) (fun _ => ?_)
      refine lv_iconst (v := 0) hx hb dX5_setClock_43 (by decide) ?_
      have hop : op_setClock (N, R, Fr, inc) p0 p1 p2 = (1, 0, (N, R, Fr, inc)) := by simp [op_setClock, hq_62, hq_65]
      exact k_iret () F (hW.eq (by rw [hop]; rfl)) (by rw [hop]) dX5_setClock_44 (Nat.le_of_ble_eq_true rfl) (Nat.le_of_ble_eq_true rfl)
    · refine lv_if_eq (tgt := 36) hx hb dX5_setClock_20 (by decide) (fun h => absurd h (by decide)) (fun _ => ?_)
      refine lv_iload_n hx hb dX5_setClock_23 rfl (lv_at hl 3 rfl) ?_
      refine lv_iconst (v := 0) hx hb dX5_setClock_24 (by decide) ?_
      refine lv_iload_n hx hb dX5_setClock_25 rfl (lv_at hl 1 rfl) ?_
      refine k_callSi (as := [.int p2, .int 0, .int p0]) (rest := [.ref (β 0)]) F hW (met_X5_in l D cA _ p2 0 p0) rfl ML_X5_80 ST_X5_in IN_X5 CO_X5_in hdS_X5_in rfl rfl ⟨(Nat.le_of_ble_eq_true rfl), (Nat.le_of_ble_eq_true rfl)⟩ rfl rfl hl.1 (Nat.le_of_ble_eq_true rfl) dX5_setClock_26 ⟨(Nat.le_of_ble_eq_true rfl), (Nat.le_of_ble_eq_true rfl)⟩ (fun r_67 u H locs hw hW => ?_)
      subst hw
      cases hq_68 : wi p2 0 p0
      · refine lv_if_eq (tgt := 36) hx hb dX5_setClock_29 (by decide) (fun _ => ?_) (fun h => absurd (by decide) h)
        refine lv_iconst (v := 1) hx hb dX5_setClock_36 (by decide) ?_
        refine k_callVi (as := [.int 1]) (rest := []) (b := (β 0)) (ci := 7) (q0 := 2) F hW (met_X5_goesOn l D cA β c0 c1 wr th N R Fr inc 1) rfl ML_X5_93 IM_X5_goesOn SE_X5_goesOn IN_X5 CO_X5_goesOn hdV_X5_goesOn rfl rfl ⟨(Nat.le_of_ble_eq_true rfl), (Nat.le_of_ble_eq_true rfl)⟩ rfl rfl (rfl) rfl rfl hl.1 (Nat.le_of_ble_eq_true rfl) dX5_setClock_37 ⟨(Nat.le_of_ble_eq_true rfl), (Nat.le_of_ble_eq_true rfl)⟩ (fun r_69 u H locs hw hW => ?_)
        subst hw
        refine lv_if_ne (tgt := 45) hx hb dX5_setClock_40 (by decide) (fun h => absurd (by decide) h) (fun _ => ?_)
        refine lv_iconst (v := 0) hx hb dX5_setClock_43 (by decide) ?_
        have hop : op_setClock (N, R, Fr, inc) p0 p1 p2 = (1, 0, (N, R, Fr, inc)) := by simp [op_setClock, hq_62, hq_65, hq_68]
        exact k_iret () F (hW.eq (by rw [hop]; rfl)) (by rw [hop]) dX5_setClock_44 (Nat.le_of_ble_eq_true rfl) (Nat.le_of_ble_eq_true rfl)
      · refine lv_if_eq (tgt := 36) hx hb dX5_setClock_29 (by decide) (fun h => absurd h (by decide)) (fun _ => ?_)
        refine lv_iconst (v := 0) hx hb dX5_setClock_32 (by decide) ?_
        refine lv_goto (tgt := 37) hx hb dX5_setClock_33 (by decide) ?_
        refine k_callVi (as := [.int 0]) (rest := []) (b := (β 0)) (ci := 7) (q0 := 2) F hW (met_X5_goesOn l D cA β c0 c1 wr th N R Fr inc 0) rfl ML_X5_93 IM_X5_goesOn SE_X5_goesOn IN_X5 CO_X5_goesOn hdV_X5_goesOn rfl rfl ⟨(Nat.le_of_ble_eq_true rfl), (Nat.le_of_ble_eq_true rfl)⟩ rfl rfl (rfl) rfl rfl hl.1 (Nat.le_of_ble_eq_true rfl) dX5_setClock_37 ⟨(Nat.le_of_ble_eq_true rfl), (Nat.le_of_ble_eq_true rfl)⟩ (fun r_70 u H locs hw hW => ?_)
        subst hw
        refine lv_if_ne (tgt := 45) hx hb dX5_setClock_40 (by decide) (fun _ => ?_) (fun h => absurd h (by decide))
        refine lv_aload_n hx hb dX5_setClock_45 rfl (lv_at hl 0 rfl) ?_
        refine k_get (v := .int (R 0 1 0)) F hW inX5 rfl 2 rfl rfl 20 (by decide) FL_X5_52 rfl rfl dX5_setClock_46 ?_
        refine lv_istore (lv' := [(4, .int (R 0 1 0)), (0, .ref (β 0)), (1, .int p0), (2, .int p1), (3, .int p2)]) hx hb dX5_setClock_49 hl (by decide) rfl (fun ls hl => ?_)
        refine lv_aload_n hx hb dX5_setClock_51 rfl (lv_at hl 1 rfl) ?_
        refine lv_iload_n hx hb dX5_setClock_52 rfl (lv_at hl 2 rfl) ?_
        refine k_put F hW inX5 tyX5_ok nmX5 rfl 2 rfl rfl 20 (by decide) FL_X5_52 rfl rfl rfl rfl rfl (Nat.le_of_ble_eq_true rfl) (mWd cA β c0 c1 wr 0 (N, up3 R 0 1 0 p0, Fr, inc)) rfl dX5_setClock_53 (fun H locs hW => ?_)
        refine lv_aload_n hx hb dX5_setClock_56 rfl (lv_at hl 1 rfl) ?_
        refine lv_iload_n hx hb dX5_setClock_57 rfl (lv_at hl 3 rfl) ?_
        refine k_put F hW inX5 tyX5_ok nmX5 rfl 2 rfl rfl 21 (by decide) FL_X5_56 rfl rfl rfl rfl rfl (Nat.le_of_ble_eq_true rfl) (mWd cA β c0 c1 wr 0 (N, up3 (up3 R 0 1 0 p0) 0 2 0 p1, Fr, inc)) rfl dX5_setClock_58 (fun H locs hW => ?_)
        refine lv_aload_n hx hb dX5_setClock_61 rfl (lv_at hl 1 rfl) ?_
        refine lv_iload_n hx hb dX5_setClock_62 rfl (lv_at hl 4 rfl) ?_
        refine k_put F hW inX5 tyX5_ok nmX5 rfl 2 rfl rfl 22 (by decide) FL_X5_145 rfl rfl rfl rfl rfl (Nat.le_of_ble_eq_true rfl) (mWd cA β c0 c1 wr 0 (N, up3 (up3 (up3 R 0 1 0 p0) 0 2 0 p1) 0 3 0 p2, Fr, inc)) rfl dX5_setClock_63 (fun H locs hW => ?_)
        refine lv_iload hx hb dX5_setClock_66 (lv_at hl 0 rfl) ?_
        have hop : op_setClock (N, R, Fr, inc) p0 p1 p2 = (0, (R 0 1 0), (N, up3 (up3 (up3 R 0 1 0 p0) 0 2 0 p1) 0 3 0 p2, Fr, inc)) := by simp [op_setClock, hq_62, hq_65, hq_68]
        exact k_iret () F (hW.eq (by rw [hop]; rfl)) (by rw [hop]) dX5_setClock_68 (Nat.le_of_ble_eq_true rfl) (Nat.le_of_ble_eq_true rfl)

set_option maxHeartbeats 4000000 in
set_option maxRecDepth 100000 in
theorem met_X5_buyerOf (l : Launch) (D : va_G) (cA : Nat → ClassId) (β : Nat → Nat) (c0 c1 : Nat × va_E) (wr : va_W) (th : Int32) (N : Nat → Nat → Nat) (R : Nat → Nat → Nat → Int32) (Fr : Nat → UInt32) (inc : Int64) (p0 : Int32) (hN : N 0 1 ≤ 20) : MetI l yX5_buyerOf (.code yX5_buyerOf cX5_buyerOf 2 (some .int) :: LW) ({ frames := 2, cells := 0, slots := 0, locals := 43 }) D cA (mWd cA β c0 c1 wr th (N, R, Fr, inc)) [.ref (β 0), .int p0] (fun r (_ : Unit) => r = (op_buyerOf (N, R, Fr, inc) p0).2.1) (fun _ => mWd cA β c0 c1 wr (nI (op_buyerOf (N, R, Fr, inc) p0).1) (op_buyerOf (N, R, Fr, inc) p0).2.2) 0 0 := by
  refine k_bodyI (plainFor_of_name (by decide)) (Nat.le_of_ble_eq_true rfl) (fun p e s m args below meth c ls F hW hl => ?_)
  obtain ⟨hx, hb, hr, hml, hown, hts, hlocks, hname⟩ := id F
  have hl : lv_has ls 2 [(0, .ref (β 0)), (1, .int p0)] := hl
  refine lv_aload_n hx hb dX5_buyerOf_0 rfl (lv_at hl 0 rfl) ?_
  refine lv_aload_n hx hb dX5_buyerOf_1 rfl (lv_at hl 0 rfl) ?_
  refine lv_iload_n hx hb dX5_buyerOf_2 rfl (lv_at hl 1 rfl) ?_
  refine k_callVi (as := [.int p0]) (rest := [.ref (β 0)]) (b := (β 0)) (ci := 7) (q0 := 2) F hW (met_X5_isLot l D cA β c0 c1 wr th N R Fr inc p0) rfl ML_X5_110 IM_X5_isLot SE_X5_isLot IN_X5 CO_X5_isLot hdV_X5_isLot rfl rfl ⟨(Nat.le_of_ble_eq_true rfl), (Nat.le_of_ble_eq_true rfl)⟩ rfl rfl (rfl) rfl rfl hl.1 (Nat.le_of_ble_eq_true rfl) dX5_buyerOf_3 ⟨(Nat.le_of_ble_eq_true rfl), (Nat.le_of_ble_eq_true rfl)⟩ (fun r_71 u H locs hw hW => ?_)
  subst hw
  cases hq_72 : isIx (N 0 1) p0
  · refine lv_if_eq (tgt := 19) hx hb dX5_buyerOf_6 (by decide) (fun _ => ?_) (fun h => absurd (by decide) h)
    refine lv_iconst (v := 1) hx hb dX5_buyerOf_19 (by decide) ?_
    refine lv_goto (tgt := 24) hx hb dX5_buyerOf_20 (by decide) ?_
    refine k_callVi (as := [.int 1]) (rest := []) (b := (β 0)) (ci := 7) (q0 := 2) F hW (met_X5_goesOn l D cA β c0 c1 wr th N R Fr inc 1) rfl ML_X5_93 IM_X5_goesOn SE_X5_goesOn IN_X5 CO_X5_goesOn hdV_X5_goesOn rfl rfl ⟨(Nat.le_of_ble_eq_true rfl), (Nat.le_of_ble_eq_true rfl)⟩ rfl rfl (rfl) rfl rfl hl.1 (Nat.le_of_ble_eq_true rfl) dX5_buyerOf_24 ⟨(Nat.le_of_ble_eq_true rfl), (Nat.le_of_ble_eq_true rfl)⟩ (fun r_73 u H locs hw hW => ?_)
    subst hw
    refine lv_if_eq (tgt := 39) hx hb dX5_buyerOf_27 (by decide) (fun _ => ?_) (fun h => absurd (by decide) h)
    refine lv_iconst (v := 0) hx hb dX5_buyerOf_39 (by decide) ?_
    have hop : op_buyerOf (N, R, Fr, inc) p0 = (1, 0, (N, R, Fr, inc)) := by simp [op_buyerOf, hq_72]
    exact k_iret () F (hW.eq (by rw [hop]; rfl)) (by rw [hop]) dX5_buyerOf_40 (Nat.le_of_ble_eq_true rfl) (Nat.le_of_ble_eq_true rfl)
  · refine lv_if_eq (tgt := 19) hx hb dX5_buyerOf_6 (by decide) (fun h => absurd h (by decide)) (fun _ => ?_)
    refine lv_aload_n hx hb dX5_buyerOf_9 rfl (lv_at hl 0 rfl) ?_
    refine k_get (v := .ref (β 10)) F hW inX5 rfl 2 rfl rfl 14 (by decide) FL_X5_40 rfl rfl dX5_buyerOf_10 ?_
    refine lv_iload_n hx hb dX5_buyerOf_13 rfl (lv_at hl 1 rfl) ?_
    refine k_iald (v := R 11 (ix p0) 0) F hW 12 rfl (in1 hq_72 hN (by decide)) (rfl) dX5_buyerOf_14 ?_
    refine lv_iconst (v := (-1)) hx hb dX5_buyerOf_15 (by decide) ?_
    refine lv_icmp_ne (tgt := 23) hx hb dX5_buyerOf_16 (by decide) (fun h_n => ?_) (fun h_n => ?_)
    · refine lv_iconst (v := 0) hx hb dX5_buyerOf_23 (by decide) ?_
      refine k_callVi (as := [.int 0]) (rest := []) (b := (β 0)) (ci := 7) (q0 := 2) F hW (met_X5_goesOn l D cA β c0 c1 wr th N R Fr inc 0) rfl ML_X5_93 IM_X5_goesOn SE_X5_goesOn IN_X5 CO_X5_goesOn hdV_X5_goesOn rfl rfl ⟨(Nat.le_of_ble_eq_true rfl), (Nat.le_of_ble_eq_true rfl)⟩ rfl rfl (rfl) rfl rfl hl.1 (Nat.le_of_ble_eq_true rfl) dX5_buyerOf_24 ⟨(Nat.le_of_ble_eq_true rfl), (Nat.le_of_ble_eq_true rfl)⟩ (fun r_74 u H locs hw hW => ?_)
      subst hw
      refine lv_if_eq (tgt := 39) hx hb dX5_buyerOf_27 (by decide) (fun h => absurd h (by decide)) (fun _ => ?_)
      refine lv_aload_n hx hb dX5_buyerOf_30 rfl (lv_at hl 0 rfl) ?_
      refine k_get (v := .ref (β 10)) F hW inX5 rfl 2 rfl rfl 14 (by decide) FL_X5_40 rfl rfl dX5_buyerOf_31 ?_
      refine lv_iload_n hx hb dX5_buyerOf_34 rfl (lv_at hl 1 rfl) ?_
      refine k_iald (v := R 11 (ix p0) 0) F hW 12 rfl (in1 hq_72 hN (by decide)) (rfl) dX5_buyerOf_35 ?_
      refine lv_goto (tgt := 40) hx hb dX5_buyerOf_36 (by decide) ?_
      have hop : op_buyerOf (N, R, Fr, inc) p0 = (0, (R 11 (ix p0) 0), (N, R, Fr, inc)) := by simp [op_buyerOf, hq_72, h_n]
      exact k_iret () F (hW.eq (by rw [hop]; rfl)) (by rw [hop]) dX5_buyerOf_40 (Nat.le_of_ble_eq_true rfl) (Nat.le_of_ble_eq_true rfl)
    · refine lv_iconst (v := 1) hx hb dX5_buyerOf_19 (by decide) ?_
      refine lv_goto (tgt := 24) hx hb dX5_buyerOf_20 (by decide) ?_
      refine k_callVi (as := [.int 1]) (rest := []) (b := (β 0)) (ci := 7) (q0 := 2) F hW (met_X5_goesOn l D cA β c0 c1 wr th N R Fr inc 1) rfl ML_X5_93 IM_X5_goesOn SE_X5_goesOn IN_X5 CO_X5_goesOn hdV_X5_goesOn rfl rfl ⟨(Nat.le_of_ble_eq_true rfl), (Nat.le_of_ble_eq_true rfl)⟩ rfl rfl (rfl) rfl rfl hl.1 (Nat.le_of_ble_eq_true rfl) dX5_buyerOf_24 ⟨(Nat.le_of_ble_eq_true rfl), (Nat.le_of_ble_eq_true rfl)⟩ (fun r_75 u H locs hw hW => ?_)
      subst hw
      refine lv_if_eq (tgt := 39) hx hb dX5_buyerOf_27 (by decide) (fun _ => ?_) (fun h => absurd (by decide) h)
      refine lv_iconst (v := 0) hx hb dX5_buyerOf_39 (by decide) ?_
      have hop : op_buyerOf (N, R, Fr, inc) p0 = (1, 0, (N, R, Fr, inc)) := by simp [op_buyerOf, hq_72, h_n]
      exact k_iret () F (hW.eq (by rw [hop]; rfl)) (by rw [hop]) dX5_buyerOf_40 (Nat.le_of_ble_eq_true rfl) (Nat.le_of_ble_eq_true rfl)

set_option maxHeartbeats 4000000 in
set_option maxRecDepth 100000 in
theorem met_X5_addTruck (l : Launch) (D : va_G) (cA : Nat → ClassId) (β : Nat → Nat) (c0 c1 : Nat × va_E) (wr : va_W) (th : Int32) (N : Nat → Nat → Nat) (R : Nat → Nat → Nat → Int32) (Fr : Nat → UInt32) (inc : Int64) (p0 p1 p2 : Int32) (hN : N 0 3 ≤ 4) (hz2 : p2 = 0 ∨ p2 = 1) : MetI l yX5_addTruck (.code yX5_addTruck cX5_addTruck 5 (some .int) :: LW) ({ frames := 1, cells := 0, slots := 0, locals := 22 }) D cA (mWd cA β c0 c1 wr th (N, R, Fr, inc)) [.ref (β 0), .int p0, .int p1, .int p2] (fun r (_ : Unit) => r = (op_addTruck (N, R, Fr, inc) p0 p1 p2).2.1) (fun _ => mWd cA β c0 c1 wr (nI (op_addTruck (N, R, Fr, inc) p0 p1 p2).1) (op_addTruck (N, R, Fr, inc) p0 p1 p2).2.2) 0 0 := by
  refine k_bodyI (plainFor_of_name (by decide)) (Nat.le_of_ble_eq_true rfl) (fun p e s m args below meth c ls F hW hl => ?_)
  obtain ⟨hx, hb, hr, hml, hown, hts, hlocks, hname⟩ := id F
  have hl : lv_has ls 5 [(0, .ref (β 0)), (1, .int p0), (2, .int p1), (3, .int p2)] := hl
  refine lv_iload_n hx hb dX5_addTruck_0 rfl (lv_at hl 1 rfl) ?_
  refine lv_aload_n hx hb dX5_addTruck_1 rfl (lv_at hl 0 rfl) ?_
  refine k_get (v := .int (nI (N 0 5))) F hW inX5 rfl 2 rfl rfl 16 (by decide) FL_X5_135 rfl rfl dX5_addTruck_2 ?_
  refine lv_iconst (v := 1) hx hb dX5_addTruck_5 (by decide) ?_
  refine lv_iadd hx hb dX5_addTruck_6 ?_
  refine lv_sipush (v := 1000) hx hb dX5_addTruck_7 (by decide) ?_
  refine k_callSi (as := [.int p0, .int ((nI (N 0 5)) + 1), .int 1000]) (rest := []) F hW (met_X5_in l D cA _ p0 ((nI (N 0 5)) + 1) 1000) rfl ML_X5_80 ST_X5_in IN_X5 CO_X5_in hdS_X5_in rfl rfl ⟨(Nat.le_of_ble_eq_true rfl), (Nat.le_of_ble_eq_true rfl)⟩ rfl rfl hl.1 (Nat.le_of_ble_eq_true rfl) dX5_addTruck_10 ⟨(Nat.le_of_ble_eq_true rfl), (Nat.le_of_ble_eq_true rfl)⟩ (fun r_76 u H locs hw hW => ?_)
  subst hw
  cases hq_77 : wi p0 ((nI (N 0 5)) + 1) 1000
  · refine lv_if_eq (tgt := 28) hx hb dX5_addTruck_13 (by decide) (fun _ => ?_) (fun h => absurd (by decide) h)
    refine lv_iconst (v := 1) hx hb dX5_addTruck_28 (by decide) ?_
    refine lv_goto (tgt := 33) hx hb dX5_addTruck_29 (by decide) ?_
    refine lv_istore (lv' := [(4, .int 1), (0, .ref (β 0)), (1, .int p0), (2, .int p1), (3, .int p2)]) hx hb dX5_addTruck_33 hl (by decide) rfl (fun ls hl => ?_)
    refine lv_aload_n hx hb dX5_addTruck_35 rfl (lv_at hl 1 rfl) ?_
    refine lv_iload hx hb dX5_addTruck_36 (lv_at hl 0 rfl) ?_
    refine lv_if_eq (tgt := 45) hx hb dX5_addTruck_38 (by decide) (fun h => absurd h (by decide)) (fun _ => ?_)
    refine lv_iconst (v := 1) hx hb dX5_addTruck_41 (by decide) ?_
    refine lv_goto (tgt := 58) hx hb dX5_addTruck_42 (by decide) ?_
    refine k_callVi (as := [.int 1]) (rest := []) (b := (β 0)) (ci := 7) (q0 := 2) F hW (met_X5_goesOn l D cA β c0 c1 wr th N R Fr inc 1) rfl ML_X5_93 IM_X5_goesOn SE_X5_goesOn IN_X5 CO_X5_goesOn hdV_X5_goesOn rfl rfl ⟨(Nat.le_of_ble_eq_true rfl), (Nat.le_of_ble_eq_true rfl)⟩ rfl rfl (rfl) rfl rfl hl.1 (Nat.le_of_ble_eq_true rfl) dX5_addTruck_58 ⟨(Nat.le_of_ble_eq_true rfl), (Nat.le_of_ble_eq_true rfl)⟩ (fun r_78 u H locs hw hW => ?_)
    subst hw
    refine lv_if_ne (tgt := 66) hx hb dX5_addTruck_61 (by decide) (fun h => absurd (by decide) h) (fun _ => ?_)
    refine lv_iconst (v := 0) hx hb dX5_addTruck_64 (by decide) ?_
    have hop : op_addTruck (N, R, Fr, inc) p0 p1 p2 = (1, 0, (N, R, Fr, inc)) := by simp [op_addTruck, hq_77]
    exact k_iret () F (hW.eq (by rw [hop]; rfl)) (by rw [hop]) dX5_addTruck_65 (Nat.le_of_ble_eq_true rfl) (Nat.le_of_ble_eq_true rfl)
  · refine lv_if_eq (tgt := 28) hx hb dX5_addTruck_13 (by decide) (fun h => absurd h (by decide)) (fun _ => ?_)
    refine lv_iload_n hx hb dX5_addTruck_16 rfl (lv_at hl 2 rfl) ?_
    refine lv_bipush (v := 100) hx hb dX5_addTruck_17 (by decide) ?_
    refine lv_sipush (v := 9999) hx hb dX5_addTruck_19 (by decide) ?_
    refine k_callSi (as := [.int p1, .int 100, .int 9999]) (rest := []) F hW (met_X5_in l D cA _ p1 100 9999) rfl ML_X5_80 ST_X5_in IN_X5 CO_X5_in hdS_X5_in rfl rfl ⟨(Nat.le_of_ble_eq_true rfl), (Nat.le_of_ble_eq_true rfl)⟩ rfl rfl hl.1 (Nat.le_of_ble_eq_true rfl) dX5_addTruck_22 ⟨(Nat.le_of_ble_eq_true rfl), (Nat.le_of_ble_eq_true rfl)⟩ (fun r_79 u H locs hw hW => ?_)
    subst hw
    cases hq_80 : wi p1 100 9999
    · refine lv_if_ne (tgt := 32) hx hb dX5_addTruck_25 (by decide) (fun h => absurd (by decide) h) (fun _ => ?_)
      refine lv_iconst (v := 1) hx hb dX5_addTruck_28 (by decide) ?_
      refine lv_goto (tgt := 33) hx hb dX5_addTruck_29 (by decide) ?_
      refine lv_istore (lv' := [(4, .int 1), (0, .ref (β 0)), (1, .int p0), (2, .int p1), (3, .int p2)]) hx hb dX5_addTruck_33 hl (by decide) rfl (fun ls hl => ?_)
      refine lv_aload_n hx hb dX5_addTruck_35 rfl (lv_at hl 1 rfl) ?_
      refine lv_iload hx hb dX5_addTruck_36 (lv_at hl 0 rfl) ?_
      refine lv_if_eq (tgt := 45) hx hb dX5_addTruck_38 (by decide) (fun h => absurd h (by decide)) (fun _ => ?_)
      refine lv_iconst (v := 1) hx hb dX5_addTruck_41 (by decide) ?_
      refine lv_goto (tgt := 58) hx hb dX5_addTruck_42 (by decide) ?_
      refine k_callVi (as := [.int 1]) (rest := []) (b := (β 0)) (ci := 7) (q0 := 2) F hW (met_X5_goesOn l D cA β c0 c1 wr th N R Fr inc 1) rfl ML_X5_93 IM_X5_goesOn SE_X5_goesOn IN_X5 CO_X5_goesOn hdV_X5_goesOn rfl rfl ⟨(Nat.le_of_ble_eq_true rfl), (Nat.le_of_ble_eq_true rfl)⟩ rfl rfl (rfl) rfl rfl hl.1 (Nat.le_of_ble_eq_true rfl) dX5_addTruck_58 ⟨(Nat.le_of_ble_eq_true rfl), (Nat.le_of_ble_eq_true rfl)⟩ (fun r_81 u H locs hw hW => ?_)
      subst hw
      refine lv_if_ne (tgt := 66) hx hb dX5_addTruck_61 (by decide) (fun h => absurd (by decide) h) (fun _ => ?_)
      refine lv_iconst (v := 0) hx hb dX5_addTruck_64 (by decide) ?_
      have hop : op_addTruck (N, R, Fr, inc) p0 p1 p2 = (1, 0, (N, R, Fr, inc)) := by simp [op_addTruck, hq_77, hq_80]
      exact k_iret () F (hW.eq (by rw [hop]; rfl)) (by rw [hop]) dX5_addTruck_65 (Nat.le_of_ble_eq_true rfl) (Nat.le_of_ble_eq_true rfl)
    · refine lv_if_ne (tgt := 32) hx hb dX5_addTruck_25 (by decide) (fun _ => ?_) (fun h => absurd h (by decide))
      refine lv_iconst (v := 0) hx hb dX5_addTruck_32 (by decide) ?_
      refine lv_istore (lv' := [(4, .int 0), (0, .ref (β 0)), (1, .int p0), (2, .int p1), (3, .int p2)]) hx hb dX5_addTruck_33 hl (by decide) rfl (fun ls hl => ?_)
      refine lv_aload_n hx hb dX5_addTruck_35 rfl (lv_at hl 1 rfl) ?_
      refine lv_iload hx hb dX5_addTruck_36 (lv_at hl 0 rfl) ?_
      refine lv_if_eq (tgt := 45) hx hb dX5_addTruck_38 (by decide) (fun _ => ?_) (fun h => absurd (by decide) h)
      refine lv_aload_n hx hb dX5_addTruck_45 rfl (lv_at hl 1 rfl) ?_
      refine k_get (v := .int (nI (N 0 3))) F hW inX5 rfl 2 rfl rfl 23 (by decide) FL_X5_90 rfl rfl dX5_addTruck_46 ?_
      refine lv_iconst (v := 4) hx hb dX5_addTruck_49 (by decide) ?_
      refine lv_icmp_ne (tgt := 57) hx hb dX5_addTruck_50 (by decide) (fun h_n => ?_) (fun h_n => ?_)
      · have h_n : ¬ N 0 3 = 4 := fun q => h_n (by rw [q]; rfl)
        refine lv_iconst (v := 0) hx hb dX5_addTruck_57 (by decide) ?_
        refine k_callVi (as := [.int 0]) (rest := []) (b := (β 0)) (ci := 7) (q0 := 2) F hW (met_X5_goesOn l D cA β c0 c1 wr th N R Fr inc 0) rfl ML_X5_93 IM_X5_goesOn SE_X5_goesOn IN_X5 CO_X5_goesOn hdV_X5_goesOn rfl rfl ⟨(Nat.le_of_ble_eq_true rfl), (Nat.le_of_ble_eq_true rfl)⟩ rfl rfl (rfl) rfl rfl hl.1 (Nat.le_of_ble_eq_true rfl) dX5_addTruck_58 ⟨(Nat.le_of_ble_eq_true rfl), (Nat.le_of_ble_eq_true rfl)⟩ (fun r_82 u H locs hw hW => ?_)
        subst hw
        refine lv_if_ne (tgt := 66) hx hb dX5_addTruck_61 (by decide) (fun _ => ?_) (fun h => absurd h (by decide))
        refine lv_aload_n hx hb dX5_addTruck_66 rfl (lv_at hl 1 rfl) ?_
        refine k_get (v := .ref (β 14)) F hW inX5 rfl 2 rfl rfl 24 (by decide) FL_X5_59 rfl rfl dX5_addTruck_67 ?_
        refine lv_aload_n hx hb dX5_addTruck_70 rfl (lv_at hl 1 rfl) ?_
        refine k_get (v := .int (nI (N 0 3))) F hW inX5 rfl 2 rfl rfl 23 (by decide) FL_X5_90 rfl rfl dX5_addTruck_71 ?_
        refine lv_iload_n hx hb dX5_addTruck_74 rfl (lv_at hl 2 rfl) ?_
        have hlt : N 0 3 < 4 := by omega
        refine k_iast F hW 16 rfl (vp_in_nI hlt (by decide)) (mWd cA β c0 c1 wr 0 (N, up3 R 15 (N 0 3) 0 p0, Fr, inc)) (by rw [nI_clamp (by omega), u1 R 15]; rfl) dX5_addTruck_75 (fun H locs hW => ?_)
        refine lv_aload_n hx hb dX5_addTruck_76 rfl (lv_at hl 1 rfl) ?_
        refine k_get (v := .ref (β 15)) F hW inX5 rfl 2 rfl rfl 25 (by decide) FL_X5_62 rfl rfl dX5_addTruck_77 ?_
        refine lv_aload_n hx hb dX5_addTruck_80 rfl (lv_at hl 1 rfl) ?_
        refine k_get (v := .int (nI (N 0 3))) F hW inX5 rfl 2 rfl rfl 23 (by decide) FL_X5_90 rfl rfl dX5_addTruck_81 ?_
        refine lv_iload_n hx hb dX5_addTruck_84 rfl (lv_at hl 3 rfl) ?_
        refine k_iast F hW 17 rfl (vp_in_nI hlt (by decide)) (mWd cA β c0 c1 wr 0 (N, up3 (up3 R 15 (N 0 3) 0 p0) 17 (N 0 3) 0 p1, Fr, inc)) (by rw [nI_clamp (by omega), u1 (up3 R 15 (N 0 3) 0 p0) 17]; rfl) dX5_addTruck_85 (fun H locs hW => ?_)
        refine lv_aload_n hx hb dX5_addTruck_86 rfl (lv_at hl 1 rfl) ?_
        refine k_get (v := .ref (β 16)) F hW inX5 rfl 2 rfl rfl 26 (by decide) FL_X5_65 rfl rfl dX5_addTruck_87 ?_
        refine lv_aload_n hx hb dX5_addTruck_90 rfl (lv_at hl 1 rfl) ?_
        refine k_get (v := .int (nI (N 0 3))) F hW inX5 rfl 2 rfl rfl 23 (by decide) FL_X5_90 rfl rfl dX5_addTruck_91 ?_
        refine lv_iload_n hx hb dX5_addTruck_94 rfl (lv_at hl 4 rfl) ?_
        refine k_zast F hW 18 rfl (vp_in_nI hlt (by decide)) (z01 hz2) (mWd cA β c0 c1 wr 0 (N, up3 (up3 (up3 R 15 (N 0 3) 0 p0) 17 (N 0 3) 0 p1) 16 (N 0 3) 0 p2, Fr, inc)) (by rw [nI_clamp (by omega), u1 (up3 (up3 R 15 (N 0 3) 0 p0) 17 (N 0 3) 0 p1) 16]; rfl) dX5_addTruck_95 (fun H locs hW => ?_)
        refine lv_aload_n hx hb dX5_addTruck_96 rfl (lv_at hl 1 rfl) ?_
        refine lv_dup hx hb dX5_addTruck_97 rfl ?_
        refine k_get (v := .int (nI (N 0 3))) F hW inX5 rfl 2 rfl rfl 23 (by decide) FL_X5_90 rfl rfl dX5_addTruck_98 ?_
        refine lv_iconst (v := 1) hx hb dX5_addTruck_101 (by decide) ?_
        refine lv_iadd hx hb dX5_addTruck_102 ?_
        refine lv_topi (fun x_83 ex_83 => ?_)
        obtain rfl : x_83 = nI (N 0 3 + 1) := ex_83.trans (nI_1 _)
        refine k_put F hW inX5 tyX5_ok nmX5 rfl 2 rfl rfl 23 (by decide) FL_X5_90 rfl rfl rfl rfl rfl (Nat.le_of_ble_eq_true rfl) (mWd cA β c0 c1 wr 0 (up2 N 0 3 (N 0 3 + 1), up3 (up3 (up3 R 15 (N 0 3) 0 p0) 17 (N 0 3) 0 p1) 16 (N 0 3) 0 p2, Fr, inc)) rfl dX5_addTruck_103 (fun H locs hW => ?_)
        refine lv_aload_n hx hb dX5_addTruck_106 rfl (lv_at hl 1 rfl) ?_
        refine k_get (v := .int (nI (N 0 3 + 1))) F hW inX5 rfl 2 rfl rfl 23 (by decide) FL_X5_90 rfl rfl dX5_addTruck_107 ?_
        refine lv_iconst (v := 1) hx hb dX5_addTruck_110 (by decide) ?_
        refine lv_isub hx hb dX5_addTruck_111 ?_
        refine lv_topi (fun x_84 ex_84 => ?_)
        obtain rfl : x_84 = nI (N 0 3) := ex_84.trans (nI_pred _)
        have hop : op_addTruck (N, R, Fr, inc) p0 p1 p2 = (0, nI (N 0 3), (up2 (up2 N 0 3 (N 0 3 + 1)) 2 3 (N 0 3 + 1), up3 (up3 (up3 R 15 (N 0 3) 0 p0) 17 (N 0 3) 0 p1) 16 (N 0 3) 0 p2, Fr, inc)) := by simp [op_addTruck, hq_77, hq_80, h_n]
        exact k_iret () F (hW.eq (by rw [hop]; rfl)) (by rw [hop]) dX5_addTruck_112 (Nat.le_of_ble_eq_true rfl) (Nat.le_of_ble_eq_true rfl)
      · have h_n : N 0 3 = 4 := (nI_eq (by omega) (by decide)).mp h_n
        refine lv_iconst (v := 2) hx hb dX5_addTruck_53 (by decide) ?_
        refine lv_goto (tgt := 58) hx hb dX5_addTruck_54 (by decide) ?_
        refine k_callVi (as := [.int 2]) (rest := []) (b := (β 0)) (ci := 7) (q0 := 2) F hW (met_X5_goesOn l D cA β c0 c1 wr th N R Fr inc 2) rfl ML_X5_93 IM_X5_goesOn SE_X5_goesOn IN_X5 CO_X5_goesOn hdV_X5_goesOn rfl rfl ⟨(Nat.le_of_ble_eq_true rfl), (Nat.le_of_ble_eq_true rfl)⟩ rfl rfl (rfl) rfl rfl hl.1 (Nat.le_of_ble_eq_true rfl) dX5_addTruck_58 ⟨(Nat.le_of_ble_eq_true rfl), (Nat.le_of_ble_eq_true rfl)⟩ (fun r_85 u H locs hw hW => ?_)
        subst hw
        refine lv_if_ne (tgt := 66) hx hb dX5_addTruck_61 (by decide) (fun h => absurd (by decide) h) (fun _ => ?_)
        refine lv_iconst (v := 0) hx hb dX5_addTruck_64 (by decide) ?_
        have hop : op_addTruck (N, R, Fr, inc) p0 p1 p2 = (2, 0, (N, R, Fr, inc)) := by simp [op_addTruck, hq_77, hq_80, h_n]
        exact k_iret () F (hW.eq (by rw [hop]; rfl)) (by rw [hop]) dX5_addTruck_65 (Nat.le_of_ble_eq_true rfl) (Nat.le_of_ble_eq_true rfl)
