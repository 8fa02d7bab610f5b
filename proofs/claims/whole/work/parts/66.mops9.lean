set_option maxHeartbeats 4000000 in
set_option maxRecDepth 100000 in
theorem met_X5_tick (l : Launch) (D : va_G) (cA : Nat → ClassId) (β : Nat → Nat) (c0 c1 : Nat × va_E) (wr : va_W) (th : Int32) (N : Nat → Nat → Nat) (R : Nat → Nat → Nat → Int32) (Fr : Nat → UInt32) (inc : Int64) (hN : N 0 1 ≤ 20) (hL : ∀ j, j < N 0 1 → lotOK R Fr j) (hN2 : N 0 2 ≤ 5) (hN3 : N 0 3 ≤ 4) (hN1 : ∀ t, N 1 t ≤ 5) (hPd : ∀ i, paidOK (R 12 i 0)) (hT : truckOK N R) : MetI l yX5_tick (.code yX5_tick cX5_tick 4 (some .int) :: LW) ({ frames := 2, cells := 0, slots := 0, locals := 42 }) D cA (mWd cA β c0 c1 wr th (N, R, Fr, inc)) [.ref (β 0)] (fun r (_ : Unit) => r = (op_tick (N, R, Fr, inc)).2.1) (fun _ => mWd cA β c0 c1 wr (nI (op_tick (N, R, Fr, inc)).1) (op_tick (N, R, Fr, inc)).2.2) 0 0 := by
  refine k_bodyI (plainFor_of_name (by decide)) (Nat.le_of_ble_eq_true rfl) (fun p e s m args below meth c ls F hW hl => ?_)
  obtain ⟨hx, hb, hr, hml, hown, hts, hlocks, hname⟩ := id F
  have hl : lv_has ls 4 [(0, .ref (β 0))] := hl
  refine lv_aload_n hx hb dX5_tick_0 rfl (lv_at hl 0 rfl) ?_
  refine lv_iconst (v := 0) hx hb dX5_tick_1 (by decide) ?_
  refine k_put F hW inX5 tyX5_ok nmX5 rfl 2 rfl rfl 0 (by decide) FL_X5_74 rfl rfl rfl rfl rfl (Nat.le_of_ble_eq_true rfl) (mWd cA β c0 c1 wr 0 (N, R, Fr, inc)) rfl dX5_tick_2 (fun H locs hW => ?_)
  refine lv_iconst (v := 0) hx hb dX5_tick_5 (by decide) ?_
  refine lv_istore_n (lv' := [(1, .int 0), (0, .ref (β 0))]) hx hb dX5_tick_6 rfl hl (by decide) rfl (fun ls hl => ?_)
  refine k_ind (P := fun k H locs ls => ∃ i, i + k = N 0 1 ∧ Cw D cA s (va_A (mWd cA β c0 c1 wr th (N, R, Fr, inc)) s.heap.size) (mWd cA β c0 c1 wr 0 (N, (agesR R Fr i).1, (agesR R Fr i).2, inc)) H locs ∧ lv_has ls 4 [(0, .ref (β 0)), (1, .int (nI i))]) (fun k ih H locs ls hP => ?_) (N 0 1) ⟨0, by omega, hW, lv_sub hl [1, 0] rfl⟩
  obtain ⟨i, hi_i, hW, hl⟩ := hP
  refine lv_iload_n hx hb dX5_tick_7 rfl (lv_at hl 1 rfl) ?_
  refine lv_aload_n hx hb dX5_tick_8 rfl (lv_at hl 0 rfl) ?_
  refine k_get (v := .int (nI (N 0 1))) F hW inX5 rfl 2 rfl rfl 6 (by decide) FL_X5_84 rfl rfl dX5_tick_9 ?_
  refine lv_icmp_ge (tgt := 26) hx hb dX5_tick_12 (by decide) (fun h_c => ?_) (fun h_c => ?_)
  · obtain rfl : i = N 0 1 := by have := (nI_leI (by omega) (by omega)).mp h_c; omega
    refine lv_aload_n hx hb dX5_tick_26 rfl (lv_at hl 0 rfl) ?_
    refine lv_dup hx hb dX5_tick_27 rfl ?_
    refine k_get (v := .int (nI (N 0 5))) F hW inX5 rfl 2 rfl rfl 16 (by decide) FL_X5_135 rfl rfl dX5_tick_28 ?_
    refine lv_iconst (v := 1) hx hb dX5_tick_31 (by decide) ?_
    refine lv_iadd hx hb dX5_tick_32 ?_
    refine lv_topi (fun x_251 ex_251 => ?_)
    obtain rfl : x_251 = nI (N 0 5 + 1) := ex_251.trans (nI_1 _)
    refine k_put F hW inX5 tyX5_ok nmX5 rfl 2 rfl rfl 16 (by decide) FL_X5_135 rfl rfl rfl rfl rfl (Nat.le_of_ble_eq_true rfl) (mWd cA β c0 c1 wr 0 (up2 N 0 5 (N 0 5 + 1), (agesR R Fr (N 0 1)).1, (agesR R Fr (N 0 1)).2, inc)) rfl dX5_tick_33 (fun H locs hW => ?_)
    have hk0 : dkeep (agesR R Fr (N 0 1)).1 ((agesR R Fr (N 0 1)).1, inc) := ⟨fun _ _ _ _ => rfl, fun i => by show paidOK ((agesR R Fr (N 0 1)).1 12 i 0); rw [agesR_row R Fr _ 12 (by decide) (by decide)]; exact hPd i⟩
    have hT1 : truckOK N (agesR R Fr (N 0 1)).1 := by intro t ht k hk; rw [agesR_row R Fr _ 18 (by decide) (by decide), agesR_row R Fr _ 11 (by decide) (by decide)]; exact hT t ht k hk
    have hF1 : ∀ j, j < N 0 1 → fo ((agesR R Fr (N 0 1)).2 j) := fun j hj => (agesR_ok (hL j hj) _).2.2.2.2.1
    refine lv_iconst (v := 0) hx hb dX5_tick_36 (by decide) ?_
    refine lv_istore_n (lv' := [(1, .int 0), (0, .ref (β 0))]) hx hb dX5_tick_37 rfl hl (by decide) rfl (fun ls hl => ?_)
    refine lv_iconst (v := 0) hx hb dX5_tick_38 (by decide) ?_
    refine lv_istore_n (lv' := [(2, .int 0), (1, .int 0), (0, .ref (β 0))]) hx hb dX5_tick_39 rfl hl (by decide) rfl (fun ls hl => ?_)
    refine k_ind (P := fun k H locs ls => ∃ t, t + k = N 0 3 ∧ Cw D cA s (va_A (mWd cA β c0 c1 wr th (N, R, Fr, inc)) s.heap.size) (mWd cA β c0 c1 wr 0 (up2 N 0 5 (N 0 5 + 1), (leaveR N (agesR R Fr (N 0 1)).2 (nI (N 0 5 + 1)) t ((agesR R Fr (N 0 1)).1, inc)).1, (agesR R Fr (N 0 1)).2, (leaveR N (agesR R Fr (N 0 1)).2 (nI (N 0 5 + 1)) t ((agesR R Fr (N 0 1)).1, inc)).2)) H locs ∧ lv_has ls 4 [(0, .ref (β 0)), (1, .int (nI (leaveN R (nI (N 0 5 + 1)) t))), (2, .int (nI t))]) (fun k ih H locs ls hP => ?_) (N 0 3) ⟨0, by omega, hW, lv_sub hl [2, 1, 0] rfl⟩
    obtain ⟨t, hi_t, hW, hl⟩ := hP
    refine lv_iload_n hx hb dX5_tick_40 rfl (lv_at hl 2 rfl) ?_
    refine lv_aload_n hx hb dX5_tick_41 rfl (lv_at hl 0 rfl) ?_
    refine k_get (v := .int (nI (N 0 3))) F hW inX5 rfl 2 rfl rfl 23 (by decide) FL_X5_90 rfl rfl dX5_tick_42 ?_
    refine lv_icmp_ge (tgt := 105) hx hb dX5_tick_45 (by decide) (fun h_c => ?_) (fun h_c => ?_)
    · obtain rfl : t = N 0 3 := by have := (nI_leI (by omega) (by omega)).mp h_c; omega
      refine lv_iload_n hx hb dX5_tick_105 rfl (lv_at hl 1 rfl) ?_
      exact k_iret () F (hW) (rfl) dX5_tick_106 (Nat.le_of_ble_eq_true rfl) (Nat.le_of_ble_eq_true rfl)
    · have htl : t < N 0 3 := Nat.lt_of_not_le fun q => h_c (nI_le q (by omega))
      refine lv_aload_n hx hb dX5_tick_48 rfl (lv_at hl 0 rfl) ?_
      refine k_get (v := .ref (β 14)) F hW inX5 rfl 2 rfl rfl 24 (by decide) FL_X5_59 rfl rfl dX5_tick_49 ?_
      refine lv_iload_n hx hb dX5_tick_52 rfl (lv_at hl 2 rfl) ?_
      have hkt := hk0.leave (now := (nI (N 0 5 + 1))) hN hT1 hF1 t (by omega)
      have h15 : (leaveR N (agesR R Fr (N 0 1)).2 (nI (N 0 5 + 1)) t ((agesR R Fr (N 0 1)).1, inc)).1 15 t 0 = R 15 t 0 := by rw [hkt.1 15 (by decide) (by decide) (by decide), agesR_row R Fr _ 15 (by decide) (by decide)]
      refine k_iald (v := R 15 t 0) F hW 16 rfl (vp_in_nI (by omega) (by decide)) (by rw [nI_clamp (by omega)]; exact h15) dX5_tick_53 ?_
      refine lv_aload_n hx hb dX5_tick_54 rfl (lv_at hl 0 rfl) ?_
      refine k_get (v := .int (nI (N 0 5 + 1))) F hW inX5 rfl 2 rfl rfl 16 (by decide) FL_X5_135 rfl rfl dX5_tick_55 ?_
      refine lv_icmp_eq (tgt := 64) hx hb dX5_tick_58 (by decide) (fun h_e => ?_) (fun h_e => ?_)
      · have hls : leaveR N (agesR R Fr (N 0 1)).2 (nI (N 0 5 + 1)) (t + 1) ((agesR R Fr (N 0 1)).1, inc) = delsR (agesR R Fr (N 0 1)).2 t (N 1 t) (leaveR N (agesR R Fr (N 0 1)).2 (nI (N 0 5 + 1)) t ((agesR R Fr (N 0 1)).1, inc)) := by rw [show leaveR N (agesR R Fr (N 0 1)).2 (nI (N 0 5 + 1)) (t + 1) ((agesR R Fr (N 0 1)).1, inc) = _ from rfl]; simp only [leaveR]; rw [if_pos (h15.trans h_e)]
        have hcn : leaveN R (nI (N 0 5 + 1)) t + 1 = leaveN R (nI (N 0 5 + 1)) (t + 1) := by simp [leaveN, h_e]
        refine lv_iinc (k := 1) (lv' := [(1, .int (nI ((leaveN R (nI (N 0 5 + 1)) t) + 1))), (0, .ref (β 0)), (2, .int (nI t))]) hx hb dX5_tick_64 hl rfl (nI_1 (leaveN R (nI (N 0 5 + 1)) t)) (by decide) rfl (fun ls hl => ?_)
        refine lv_iconst (v := 0) hx hb dX5_tick_67 (by decide) ?_
        refine lv_istore_n (lv' := [(3, .int 0), (1, .int (nI ((leaveN R (nI (N 0 5 + 1)) t) + 1))), (0, .ref (β 0)), (2, .int (nI t))]) hx hb dX5_tick_68 rfl hl (by decide) rfl (fun ls hl => ?_)
        refine k_ind (P := fun k2 H locs ls => ∃ q, q + k2 = N 1 t ∧ Cw D cA s (va_A (mWd cA β c0 c1 wr th (N, R, Fr, inc)) s.heap.size) (mWd cA β c0 c1 wr 0 (up2 N 0 5 (N 0 5 + 1), (delsR (agesR R Fr (N 0 1)).2 t q (leaveR N (agesR R Fr (N 0 1)).2 (nI (N 0 5 + 1)) t ((agesR R Fr (N 0 1)).1, inc))).1, (agesR R Fr (N 0 1)).2, (delsR (agesR R Fr (N 0 1)).2 t q (leaveR N (agesR R Fr (N 0 1)).2 (nI (N 0 5 + 1)) t ((agesR R Fr (N 0 1)).1, inc))).2)) H locs ∧ lv_has ls 4 [(0, .ref (β 0)), (1, .int (nI (leaveN R (nI (N 0 5 + 1)) t + 1))), (2, .int (nI t)), (3, .int (nI q))]) (fun k2 ih2 H locs ls hP => ?_) (N 1 t) ⟨0, by omega, hW, lv_sub hl [2, 1, 3, 0] rfl⟩
        obtain ⟨q, hi_q, hW, hl⟩ := hP
        refine lv_iload_n hx hb dX5_tick_69 rfl (lv_at hl 3 rfl) ?_
        refine lv_aload_n hx hb dX5_tick_70 rfl (lv_at hl 0 rfl) ?_
        refine k_get (v := .ref (β 17)) F hW inX5 rfl 2 rfl rfl 27 (by decide) FL_X5_68 rfl rfl dX5_tick_71 ?_
        refine lv_iload_n hx hb dX5_tick_74 rfl (lv_at hl 2 rfl) ?_
        have hn1 := hN1 t
        refine k_iald (v := nI (N 1 t)) F hW 19 rfl (vp_in_nI (by omega) (by decide)) (by rw [nI_clamp (by omega)]; rfl) dX5_tick_75 ?_
        refine lv_icmp_ge (tgt := 99) hx hb dX5_tick_76 (by decide) (fun h_c => ?_) (fun h_c => ?_)
        · obtain rfl : q = N 1 t := by have := (nI_leI (by omega) (by omega)).mp h_c; omega
          have hW := hW.eq (show _ = mWd cA β c0 c1 wr 0 (up2 N 0 5 (N 0 5 + 1), (leaveR N (agesR R Fr (N 0 1)).2 (nI (N 0 5 + 1)) (t + 1) ((agesR R Fr (N 0 1)).1, inc)).1, (agesR R Fr (N 0 1)).2, (leaveR N (agesR R Fr (N 0 1)).2 (nI (N 0 5 + 1)) (t + 1) ((agesR R Fr (N 0 1)).1, inc)).2) by rw [hls])
          rw [hcn] at hl
          refine lv_iinc (k := 2) (lv' := [(2, .int (nI (t + 1))), (0, .ref (β 0)), (1, .int (nI (leaveN R (nI (N 0 5 + 1)) (t + 1)))), (3, .int (nI (N 1 t)))]) hx hb dX5_tick_99 hl rfl (nI_1 t) (by decide) rfl (fun ls hl => ?_)
          refine lv_goto (tgt := 40) hx hb dX5_tick_102 (by decide) ?_
          exact ih (k - 1) (by omega) ⟨t + 1, by omega, hW, lv_sub hl [1, 2, 0] rfl⟩
        · have hql : q < N 1 t := Nat.lt_of_not_le fun q => h_c (nI_le q (by omega))
          refine lv_aload_n hx hb dX5_tick_79 rfl (lv_at hl 0 rfl) ?_
          refine lv_aload_n hx hb dX5_tick_80 rfl (lv_at hl 0 rfl) ?_
          refine k_get (v := .ref (β 18)) F hW inX5 rfl 2 rfl rfl 28 (by decide) FL_X5_71 rfl rfl dX5_tick_81 ?_
          refine lv_iconst (v := 5) hx hb dX5_tick_84 (by decide) ?_
          refine lv_iload_n hx hb dX5_tick_85 rfl (lv_at hl 2 rfl) ?_
          refine lv_imul hx hb dX5_tick_86 ?_
          refine lv_iload_n hx hb dX5_tick_87 rfl (lv_at hl 3 rfl) ?_
          refine lv_iadd hx hb dX5_tick_88 ?_
          have hti := isIx_t htl (by omega)
          have hkd := hkt.dels hN hT1 hF1 htl q (by omega)
          refine k_iald (v := (delsR (agesR R Fr (N 0 1)).2 t q (leaveR N (agesR R Fr (N 0 1)).2 (nI (N 0 5 + 1)) t ((agesR R Fr (N 0 1)).1, inc))).1 18 t q) F hW 20 rfl (in5 hti hN3 (by omega)) ((v5 (f := (delsR (agesR R Fr (N 0 1)).2 t q (leaveR N (agesR R Fr (N 0 1)).2 (nI (N 0 5 + 1)) t ((agesR R Fr (N 0 1)).1, inc))).1 18) hti hN3 (by omega)).trans (by rw [ix_nI (by omega)])) dX5_tick_89 ?_
          have h18 : (delsR (agesR R Fr (N 0 1)).2 t q (leaveR N (agesR R Fr (N 0 1)).2 (nI (N 0 5 + 1)) t ((agesR R Fr (N 0 1)).1, inc))).1 18 t q = R 18 t q := by rw [hkd.1 18 (by decide) (by decide) (by decide), agesR_row R Fr _ 18 (by decide) (by decide)]
          have hlo := hT t htl q (by omega)
          refine k_callVv (as := [.int ((delsR (agesR R Fr (N 0 1)).2 t q (leaveR N (agesR R Fr (N 0 1)).2 (nI (N 0 5 + 1)) t ((agesR R Fr (N 0 1)).1, inc))).1 18 t q)]) (rest := []) (b := (β 0)) (ci := 7) (q0 := 2) F hW (met_X5_delivers l D cA β c0 c1 wr 0 (up2 N 0 5 (N 0 5 + 1)) ((delsR (agesR R Fr (N 0 1)).2 t q (leaveR N (agesR R Fr (N 0 1)).2 (nI (N 0 5 + 1)) t ((agesR R Fr (N 0 1)).1, inc))).1) ((agesR R Fr (N 0 1)).2) ((delsR (agesR R Fr (N 0 1)).2 t q (leaveR N (agesR R Fr (N 0 1)).2 (nI (N 0 5 + 1)) t ((agesR R Fr (N 0 1)).1, inc))).2) ((delsR (agesR R Fr (N 0 1)).2 t q (leaveR N (agesR R Fr (N 0 1)).2 (nI (N 0 5 + 1)) t ((agesR R Fr (N 0 1)).1, inc))).1 18 t q) hN hN2 (by rw [h18]; exact hF1 _ (ix_lt hlo.1 (by omega)).1) (hkd.2 _) (by rw [h18]; exact hlo.1) (by rw [h18, hkd.1 11 (by decide) (by decide) (by decide), agesR_row R Fr _ 11 (by decide) (by decide)]; exact hlo.2)) rfl ML_X5_138 IM_X5_delivers SE_X5_delivers IN_X5 CO_X5_delivers hdV_X5_delivers rfl rfl ⟨(Nat.le_of_ble_eq_true rfl), (Nat.le_of_ble_eq_true rfl)⟩ rfl rfl (rfl) rfl rfl hl.1 (Nat.le_of_ble_eq_true rfl) dX5_tick_90 ⟨(Nat.le_of_ble_eq_true rfl), (Nat.le_of_ble_eq_true rfl)⟩ (fun u H locs hw hW => ?_)
          refine lv_iinc (k := 3) (lv' := [(3, .int (nI (q + 1))), (0, .ref (β 0)), (1, .int (nI (leaveN R (nI (N 0 5 + 1)) t + 1))), (2, .int (nI t))]) hx hb dX5_tick_93 hl rfl (nI_1 q) (by decide) rfl (fun ls hl => ?_)
          refine lv_goto (tgt := 69) hx hb dX5_tick_96 (by decide) ?_
          exact ih2 (k2 - 1) (by omega) ⟨q + 1, by omega, hW, lv_sub hl [1, 2, 3, 0] rfl⟩
      · have hls : leaveR N (agesR R Fr (N 0 1)).2 (nI (N 0 5 + 1)) (t + 1) ((agesR R Fr (N 0 1)).1, inc) = leaveR N (agesR R Fr (N 0 1)).2 (nI (N 0 5 + 1)) t ((agesR R Fr (N 0 1)).1, inc) := by rw [show leaveR N (agesR R Fr (N 0 1)).2 (nI (N 0 5 + 1)) (t + 1) ((agesR R Fr (N 0 1)).1, inc) = _ from rfl]; simp only [leaveR]; rw [if_neg (fun q => h_e (h15.symm.trans q))]
        have hcn : leaveN R (nI (N 0 5 + 1)) t = leaveN R (nI (N 0 5 + 1)) (t + 1) := by simp [leaveN, h_e]
        refine lv_goto (tgt := 99) hx hb dX5_tick_61 (by decide) ?_
        have hW := hW.eq (show _ = mWd cA β c0 c1 wr 0 (up2 N 0 5 (N 0 5 + 1), (leaveR N (agesR R Fr (N 0 1)).2 (nI (N 0 5 + 1)) (t + 1) ((agesR R Fr (N 0 1)).1, inc)).1, (agesR R Fr (N 0 1)).2, (leaveR N (agesR R Fr (N 0 1)).2 (nI (N 0 5 + 1)) (t + 1) ((agesR R Fr (N 0 1)).1, inc)).2) by rw [hls])
        rw [hcn] at hl
        refine lv_iinc (k := 2) (lv' := [(2, .int (nI (t + 1))), (0, .ref (β 0)), (1, .int (nI (leaveN R (nI (N 0 5 + 1)) (t + 1))))]) hx hb dX5_tick_99 hl rfl (nI_1 t) (by decide) rfl (fun ls hl => ?_)
        refine lv_goto (tgt := 40) hx hb dX5_tick_102 (by decide) ?_
        exact ih (k - 1) (by omega) ⟨t + 1, by omega, hW, lv_sub hl [1, 2, 0] rfl⟩
  · have hlt : i < N 0 1 := Nat.lt_of_not_le fun q => h_c (nI_le q (by omega))
    refine lv_aload_n hx hb dX5_tick_15 rfl (lv_at hl 0 rfl) ?_
    refine lv_iload_n hx hb dX5_tick_16 rfl (lv_at hl 1 rfl) ?_
    refine k_callVv (as := [.int (nI i)]) (rest := []) (b := (β 0)) (ci := 7) (q0 := 2) F hW (met_X5_ages l D cA β c0 c1 wr 0 N ((agesR R Fr i).1) ((agesR R Fr i).2) inc (nI i) hN (by rw [ix_nI (by omega)]; exact agesR_ok (hL i hlt) i) (isIx_t hlt (by omega))) rfl ML_X5_131 IM_X5_ages SE_X5_ages IN_X5 CO_X5_ages hdV_X5_ages rfl rfl ⟨(Nat.le_of_ble_eq_true rfl), (Nat.le_of_ble_eq_true rfl)⟩ rfl rfl (rfl) rfl rfl hl.1 (Nat.le_of_ble_eq_true rfl) dX5_tick_17 ⟨(Nat.le_of_ble_eq_true rfl), (Nat.le_of_ble_eq_true rfl)⟩ (fun u H locs hw hW => ?_)
    rw [ix_nI (by omega)] at hW
    refine lv_iinc (k := 1) (lv' := [(1, .int (nI (i + 1))), (0, .ref (β 0))]) hx hb dX5_tick_20 hl rfl (nI_1 i) (by decide) rfl (fun ls hl => ?_)
    refine lv_goto (tgt := 7) hx hb dX5_tick_23 (by decide) ?_
    exact ih (k - 1) (by omega) ⟨i + 1, by omega, hW, lv_sub hl [1, 0] rfl⟩
