theorem IC.time {N : Nat → Nat → Nat} (h : IC N) (v : Nat) : IC (up2 N 0 5 v) := by
  refine ⟨h.1, h.2.1, h.2.2.1, h.2.2.2.1, h.2.2.2.2.1, fun c hc => ?_, h.2.2.2.2.2.2.1, h.2.2.2.2.2.2.2⟩
  have e : up2 N 0 5 v 0 c = N 0 c := up2_ne (fun q => by omega)
  rw [e]
  exact h.2.2.2.2.2.1 c hc
theorem dkeep.truck {R0 : Nat → Nat → Nat → Int32} {x : (Nat → Nat → Nat → Int32) × Int64} {N : Nat → Nat → Nat} (h : dkeep R0 x) (hT : truckOK N R0) : truckOK N x.1 := by
  intro t ht k hk
  rw [h.1 18 (by decide) (by decide) (by decide), h.1 11 (by decide) (by decide) (by decide)]
  exact hT t ht k hk
set_option maxHeartbeats 4000000 in
set_option maxRecDepth 100000 in
theorem met_X4_tick (l : Launch) (D : va_G) (cA : Nat → ClassId) (wr : va_W) (α : Nat → Nat → Nat) (L : List (Nat × Nat)) (N : Nat → Nat → Nat) (R : Nat → Nat → Nat → Int32) (Fr : Nat → UInt32) (inc : Int64) (hLk : LOK N L) (hC : IC N) (hL : ∀ j, j < N 0 1 → lotOK R Fr j) (hPd : ∀ i, paidOK (R 12 i 0)) (hT : truckOK N R) : MetI l yX4_tick (.code yX4_tick cX4_tick 6 (some .int) :: LW) ({ frames := 2, cells := 0, slots := 0, locals := 48 }) D cA (xWd wr cA α L (N, R, Fr, inc)) [.ref (α 0 0)] (fun r (_ : Unit) => r = (op_tick (N, R, Fr, inc)).2.1) (fun _ => xWd wr cA α L (op_tick (N, R, Fr, inc)).2.2) 0 0 := by
  refine k_bodyI (plainFor_of_name (by decide)) (Nat.le_of_ble_eq_true rfl) (fun p e s m args below meth c ls F hW hl => ?_)
  obtain ⟨hx, hb, hr, hml, hown, hts, hlocks, hname⟩ := id F
  have hl : lv_has ls 6 [(0, .ref (α 0 0))] := hl
  refine lv_aload_n hx hb dX4_tick_0 rfl (lv_at hl 0 rfl) ?_
  obtain ⟨q_537, hq_537⟩ := xw_at (wr := wr) (cA := cA) (α := α) (L := L) (S := (N, R, Fr, inc)) 0 0 (hLk.o 0 (by decide))
  refine k_get (v := .ref (α 2 0)) F hW inX4 rfl q_537 hq_537 rfl 1 (by decide) FL_X4_17 rfl rfl dX4_tick_1 ?_
  refine lv_astore_n (lv' := [(1, .ref (α 2 0)), (0, .ref (α 0 0))]) hx hb dX4_tick_4 rfl hl (by decide) rfl (fun ls hl => ?_)
  refine lv_aload_n hx hb dX4_tick_5 rfl (lv_at hl 0 rfl) ?_
  obtain ⟨q_538, hq_538⟩ := xw_at (wr := wr) (cA := cA) (α := α) (L := L) (S := (N, R, Fr, inc)) 2 0 (hLk.o 2 (by decide))
  refine k_alen (v := 20) F hW q_538 7 hq_538 rfl rfl dX4_tick_6 ?_
  refine lv_istore_n (lv' := [(2, .int 20), (1, .ref (α 2 0)), (0, .ref (α 0 0))]) hx hb dX4_tick_7 rfl hl (by decide) rfl (fun ls hl => ?_)
  refine lv_iconst (v := 0) hx hb dX4_tick_8 (by decide) ?_
  refine lv_istore_n (lv' := [(3, .int 0), (2, .int 20), (1, .ref (α 2 0)), (0, .ref (α 0 0))]) hx hb dX4_tick_9 rfl hl (by decide) rfl (fun ls hl => ?_)
  have hW := hW.eq (show _ = xWd wr cA α L (N, (agesR R Fr (min 0 (N 0 1))).1, (agesR R Fr (min 0 (N 0 1))).2, inc) by rw [Nat.zero_min]; rfl)
  refine k_ind (P := fun k H locs ls => ∃ i, i + k = 20 ∧ Cw D cA s (va_A (xWd wr cA α L (N, R, Fr, inc)) s.heap.size) (xWd wr cA α L (N, (agesR R Fr (min i (N 0 1))).1, (agesR R Fr (min i (N 0 1))).2, inc)) H locs ∧ lv_has ls 6 [(0, .ref (α 0 0)), (1, .ref (α 2 0)), (2, .int 20), (3, .int (nI i))]) (fun k ih H locs ls hP => ?_) (20) ⟨0, by omega, hW, lv_sub hl [3, 2, 1, 0] rfl⟩
  obtain ⟨i, hi_i, hW, hl⟩ := hP
  refine lv_iload_n hx hb dX4_tick_10 rfl (lv_at hl 3 rfl) ?_
  refine lv_iload_n hx hb dX4_tick_11 rfl (lv_at hl 2 rfl) ?_
  refine lv_icmp_ge (tgt := 44) hx hb dX4_tick_12 (by decide) (fun h_c => ?_) (fun h_c => ?_)
  · obtain rfl : i = 20 := by have := (nI_leI (b := i) (a := 20) (by omega) (by omega)).mp h_c; omega
    have hm20 : min 20 (N 0 1) = N 0 1 := Nat.min_eq_right (by have := hC; unfold IC at this; omega)
    rw [hm20] at hW
    refine lv_aload_n hx hb dX4_tick_44 rfl (lv_at hl 0 rfl) ?_
    refine lv_dup hx hb dX4_tick_45 rfl ?_
    obtain ⟨q_539, hq_539⟩ := xw_at (wr := wr) (cA := cA) (α := α) (L := L) (S := (N, (agesR R Fr (N 0 1)).1, (agesR R Fr (N 0 1)).2, inc)) 0 0 (hLk.o 0 (by decide))
    refine k_get (v := .int (nI (N 0 5))) F hW inX4 rfl q_539 hq_539 rfl 8 (by decide) FL_X4_46 rfl rfl dX4_tick_46 ?_
    refine lv_iconst (v := 1) hx hb dX4_tick_49 (by decide) ?_
    refine lv_iadd hx hb dX4_tick_50 ?_
    refine lv_topi (fun x_540 ex_540 => ?_)
    obtain rfl : x_540 = nI (N 0 5 + 1) := ex_540.trans (nI_1 _)
    obtain ⟨q_541, hq_541, gq_541⟩ := xput (wr := wr) (L := L) (S := (N, (agesR R Fr (N 0 1)).1, (agesR R Fr (N 0 1)).2, inc)) (S' := (up2 N 0 5 (N 0 5 + 1), (agesR R Fr (N 0 1)).1, (agesR R Fr (N 0 1)).2, inc)) 0 0 (hLk.o 0 (by decide)) hLk.1 (fun p hp hne => xe_n0 cA α N (agesR R Fr (N 0 1)).1 (agesR R Fr (N 0 1)).2 inc 5 (N 0 5 + 1) p (xe_0 hLk hp hne)) (xs_n0_5 cA α N (agesR R Fr (N 0 1)).1 (agesR R Fr (N 0 1)).2 inc (N 0 5 + 1))
    refine k_put F hW inX4 tyX4_ok nmX4 rfl q_541 hq_541 rfl 8 (by decide) FL_X4_46 rfl rfl rfl rfl rfl (Nat.le_of_ble_eq_true rfl) (xWd wr cA α L (up2 N 0 5 (N 0 5 + 1), (agesR R Fr (N 0 1)).1, (agesR R Fr (N 0 1)).2, inc)) gq_541 dX4_tick_51 (fun H locs hW => ?_)
    have hk0 : dkeep (agesR R Fr (N 0 1)).1 ((agesR R Fr (N 0 1)).1, inc) := ⟨fun _ _ _ _ => rfl, fun i => by show paidOK ((agesR R Fr (N 0 1)).1 12 i 0); rw [agesR_row R Fr _ 12 (by decide) (by decide)]; exact hPd i⟩
    have hT1 : truckOK N (agesR R Fr (N 0 1)).1 := by intro t ht k hk; rw [agesR_row R Fr _ 18 (by decide) (by decide), agesR_row R Fr _ 11 (by decide) (by decide)]; exact hT t ht k hk
    have hF1 : ∀ j, j < N 0 1 → fo ((agesR R Fr (N 0 1)).2 j) := fun j hj => (agesR_ok (hL j hj) _).2.2.2.2.1
    have hLk1 : LOK (up2 N 0 5 (N 0 5 + 1)) L := hLk.same rfl
    have hC1 := hC.time (N 0 5 + 1)
    refine lv_iconst (v := 0) hx hb dX4_tick_54 (by decide) ?_
    refine lv_istore_n (lv' := [(1, .int 0), (0, .ref (α 0 0)), (2, .int 20), (3, .int (nI 20))]) hx hb dX4_tick_55 rfl hl (by decide) rfl (fun ls hl => ?_)
    refine lv_aload_n hx hb dX4_tick_56 rfl (lv_at hl 1 rfl) ?_
    obtain ⟨q_542, hq_542⟩ := xw_at (wr := wr) (cA := cA) (α := α) (L := L) (S := (up2 N 0 5 (N 0 5 + 1), (agesR R Fr (N 0 1)).1, (agesR R Fr (N 0 1)).2, inc)) 0 0 (hLk1.o 0 (by decide))
    refine k_get (v := .ref (α 4 0)) F hW inX4 rfl q_542 hq_542 rfl 3 (by decide) FL_X4_29 rfl rfl dX4_tick_57 ?_
    refine lv_astore_n (lv' := [(2, .ref (α 4 0)), (1, .int 0), (0, .ref (α 0 0)), (3, .int (nI 20))]) hx hb dX4_tick_60 rfl hl (by decide) rfl (fun ls hl => ?_)
    refine lv_aload_n hx hb dX4_tick_61 rfl (lv_at hl 0 rfl) ?_
    obtain ⟨q_543, hq_543⟩ := xw_at (wr := wr) (cA := cA) (α := α) (L := L) (S := (up2 N 0 5 (N 0 5 + 1), (agesR R Fr (N 0 1)).1, (agesR R Fr (N 0 1)).2, inc)) 4 0 (hLk1.o 4 (by decide))
    refine k_alen (v := 4) F hW q_543 9 hq_543 rfl rfl dX4_tick_62 ?_
    refine lv_istore_n (lv' := [(3, .int 4), (2, .ref (α 4 0)), (1, .int 0), (0, .ref (α 0 0))]) hx hb dX4_tick_63 rfl hl (by decide) rfl (fun ls hl => ?_)
    refine lv_iconst (v := 0) hx hb dX4_tick_64 (by decide) ?_
    refine lv_istore (lv' := [(4, .int 0), (3, .int 4), (2, .ref (α 4 0)), (1, .int 0), (0, .ref (α 0 0))]) hx hb dX4_tick_65 hl (by decide) rfl (fun ls hl => ?_)
    have hW := hW.eq (show _ = xWd wr cA α L (up2 N 0 5 (N 0 5 + 1), (leaveR N (agesR R Fr (N 0 1)).2 (nI (N 0 5 + 1)) (min 0 (N 0 3)) ((agesR R Fr (N 0 1)).1, inc)).1, (agesR R Fr (N 0 1)).2, (leaveR N (agesR R Fr (N 0 1)).2 (nI (N 0 5 + 1)) (min 0 (N 0 3)) ((agesR R Fr (N 0 1)).1, inc)).2) by rw [Nat.zero_min]; rfl)
    have hl := lv_chg hl (show Value.int 0 = .int (nI (leaveN R (nI (N 0 5 + 1)) (min 0 (N 0 3)))) from by rw [Nat.zero_min]; rfl) 3 rfl
    have hl : lv_has ls 6 [(4, .int 0), (3, .int 4), (2, .ref (α 4 0)), (1, .int (nI (leaveN R (nI (N 0 5 + 1)) (min 0 (N 0 3))))), (0, .ref (α 0 0))] := hl
    refine k_ind (P := fun k H locs ls => ∃ t, t + k = 4 ∧ Cw D cA s (va_A (xWd wr cA α L (N, R, Fr, inc)) s.heap.size) (xWd wr cA α L (up2 N 0 5 (N 0 5 + 1), (leaveR N (agesR R Fr (N 0 1)).2 (nI (N 0 5 + 1)) (min t (N 0 3)) ((agesR R Fr (N 0 1)).1, inc)).1, (agesR R Fr (N 0 1)).2, (leaveR N (agesR R Fr (N 0 1)).2 (nI (N 0 5 + 1)) (min t (N 0 3)) ((agesR R Fr (N 0 1)).1, inc)).2)) H locs ∧ lv_has ls 6 [(0, .ref (α 0 0)), (1, .int (nI (leaveN R (nI (N 0 5 + 1)) (min t (N 0 3))))), (2, .ref (α 4 0)), (3, .int 4), (4, .int (nI t))]) (fun k ih H locs ls hP => ?_) (4) ⟨0, by omega, hW, lv_sub hl [4, 3, 2, 1, 0] rfl⟩
    obtain ⟨t, hi_t, hW, hl⟩ := hP
    refine lv_iload hx hb dX4_tick_67 (lv_at hl 4 rfl) ?_
    refine lv_iload_n hx hb dX4_tick_69 rfl (lv_at hl 3 rfl) ?_
    refine lv_icmp_ge (tgt := 111) hx hb dX4_tick_70 (by decide) (fun h_c => ?_) (fun h_c => ?_)
    · obtain rfl : t = 4 := by have := (nI_leI (b := t) (a := 4) (by omega) (by omega)).mp h_c; omega
      have hm4 : min 4 (N 0 3) = N 0 3 := Nat.min_eq_right (by have := hC; unfold IC at this; omega)
      rw [hm4] at hW hl
      refine lv_iload_n hx hb dX4_tick_111 rfl (lv_at hl 1 rfl) ?_
      exact k_iret () F (hW) (rfl) dX4_tick_112 (Nat.le_of_ble_eq_true rfl) (Nat.le_of_ble_eq_true rfl)
    · have hlt : t < 4 := Nat.lt_of_not_le fun q => h_c (nI_le (a := 4) q (by omega))
      refine lv_aload_n hx hb dX4_tick_73 rfl (lv_at hl 2 rfl) ?_
      refine lv_iload hx hb dX4_tick_74 (lv_at hl 4 rfl) ?_
      by_cases htv : t < N 0 3
      · obtain ⟨q_544, hq_544⟩ := xw_at (wr := wr) (cA := cA) (α := α) (L := L) (S := (up2 N 0 5 (N 0 5 + 1), (leaveR N (agesR R Fr (N 0 1)).2 (nI (N 0 5 + 1)) (min t (N 0 3)) ((agesR R Fr (N 0 1)).1, inc)).1, (agesR R Fr (N 0 1)).2, (leaveR N (agesR R Fr (N 0 1)).2 (nI (N 0 5 + 1)) (min t (N 0 3)) ((agesR R Fr (N 0 1)).1, inc)).2)) 4 0 (hLk1.o 4 (by decide))
        refine k_aaldS (x := (α 12 t)) F hW q_544 hq_544 (tI := 9) rfl (vp_in_nI hlt (by decide)) (by rw [nI_clamp (by omega)]; exact if_pos (hC.lt (by decide) htv)) dX4_tick_76 ?_
        have hmt : min t (N 0 3) = t := Nat.min_eq_left (by omega)
        have hmt1 : min (t + 1) (N 0 3) = t + 1 := Nat.min_eq_left (by omega)
        have hkt := hk0.leave (now := (nI (N 0 5 + 1))) (by have := hC; unfold IC at this; omega) hT1 hF1 (min t (N 0 3)) (by omega)
        have h15 : (leaveR N (agesR R Fr (N 0 1)).2 (nI (N 0 5 + 1)) (min t (N 0 3)) ((agesR R Fr (N 0 1)).1, inc)).1 15 t 0 = R 15 t 0 := by rw [hkt.1 15 (by decide) (by decide) (by decide), agesR_row R Fr _ 15 (by decide) (by decide)]
        refine lv_astore (lv' := [(5, .ref (α 12 t)), (0, .ref (α 0 0)), (1, .int (nI (leaveN R (nI (N 0 5 + 1)) (min t (N 0 3))))), (2, .ref (α 4 0)), (3, .int 4), (4, .int (nI t))]) hx hb dX4_tick_77 hl (by decide) rfl (fun ls hl => ?_)
        refine lv_aload hx hb dX4_tick_79 (lv_at hl 0 rfl) ?_
        refine lv_ifnull hx hb dX4_tick_81 ?_
        refine lv_aload hx hb dX4_tick_84 (lv_at hl 0 rfl) ?_
        obtain ⟨q_545, hq_545⟩ := xw_at (wr := wr) (cA := cA) (α := α) (L := L) (S := (up2 N 0 5 (N 0 5 + 1), (leaveR N (agesR R Fr (N 0 1)).2 (nI (N 0 5 + 1)) (min t (N 0 3)) ((agesR R Fr (N 0 1)).1, inc)).1, (agesR R Fr (N 0 1)).2, (leaveR N (agesR R Fr (N 0 1)).2 (nI (N 0 5 + 1)) (min t (N 0 3)) ((agesR R Fr (N 0 1)).1, inc)).2)) 12 t (hLk1.t 12 t (by decide) (hC.lt (by decide) htv))
        refine k_get (v := .int ((leaveR N (agesR R Fr (N 0 1)).2 (nI (N 0 5 + 1)) (min t (N 0 3)) ((agesR R Fr (N 0 1)).1, inc)).1 15 t 0)) F hW inX3 rfl q_545 hq_545 rfl 0 (by decide) FL_X4_182 rfl rfl dX4_tick_86 ?_
        refine lv_topi (fun x_546 ex_546 => ?_)
        obtain rfl : x_546 = R 15 t 0 := ex_546.trans (h15)
        refine lv_aload_n hx hb dX4_tick_89 rfl (lv_at hl 1 rfl) ?_
        obtain ⟨q_547, hq_547⟩ := xw_at (wr := wr) (cA := cA) (α := α) (L := L) (S := (up2 N 0 5 (N 0 5 + 1), (leaveR N (agesR R Fr (N 0 1)).2 (nI (N 0 5 + 1)) (min t (N 0 3)) ((agesR R Fr (N 0 1)).1, inc)).1, (agesR R Fr (N 0 1)).2, (leaveR N (agesR R Fr (N 0 1)).2 (nI (N 0 5 + 1)) (min t (N 0 3)) ((agesR R Fr (N 0 1)).1, inc)).2)) 0 0 (hLk1.o 0 (by decide))
        refine k_get (v := .int (nI (N 0 5 + 1))) F hW inX4 rfl q_547 hq_547 rfl 8 (by decide) FL_X4_46 rfl rfl dX4_tick_90 ?_
        refine lv_icmp_ne (tgt := 105) hx hb dX4_tick_93 (by decide) (fun h_e => ?_) (fun h_e => ?_)
        · have hls : leaveR N (agesR R Fr (N 0 1)).2 (nI (N 0 5 + 1)) (min (t + 1) (N 0 3)) ((agesR R Fr (N 0 1)).1, inc) = leaveR N (agesR R Fr (N 0 1)).2 (nI (N 0 5 + 1)) (min t (N 0 3)) ((agesR R Fr (N 0 1)).1, inc) := by rw [hmt, hmt1]; simp only [leaveR]; rw [if_neg]; rw [hmt] at h15; exact fun q => h_e (h15.symm.trans q)
          have hcn : leaveN R (nI (N 0 5 + 1)) (min t (N 0 3)) = leaveN R (nI (N 0 5 + 1)) (min (t + 1) (N 0 3)) := by rw [hmt, hmt1]; simp [leaveN, h_e]
          have hW := hW.eq (show _ = xWd wr cA α L (up2 N 0 5 (N 0 5 + 1), (leaveR N (agesR R Fr (N 0 1)).2 (nI (N 0 5 + 1)) (min (t + 1) (N 0 3)) ((agesR R Fr (N 0 1)).1, inc)).1, (agesR R Fr (N 0 1)).2, (leaveR N (agesR R Fr (N 0 1)).2 (nI (N 0 5 + 1)) (min (t + 1) (N 0 3)) ((agesR R Fr (N 0 1)).1, inc)).2) by rw [hls])
          rw [hcn] at hl
          refine lv_iinc (k := 5) (lv' := [(4, .int (nI (t + 1))), (5, .ref (α 12 t)), (0, .ref (α 0 0)), (1, .int (nI (leaveN R (nI (N 0 5 + 1)) (min (t + 1) (N 0 3))))), (2, .ref (α 4 0)), (3, .int 4)]) hx hb dX4_tick_105 hl rfl (nI_1 t) (by decide) rfl (fun ls hl => ?_)
          refine lv_goto (tgt := 67) hx hb dX4_tick_108 (by decide) ?_
          exact ih (k - 1) (by omega) ⟨t + 1, by omega, hW, lv_sub hl [2, 3, 4, 5, 0] rfl⟩
        · have hls : leaveR N (agesR R Fr (N 0 1)).2 (nI (N 0 5 + 1)) (min (t + 1) (N 0 3)) ((agesR R Fr (N 0 1)).1, inc) = delsR (agesR R Fr (N 0 1)).2 t (N 1 t) (leaveR N (agesR R Fr (N 0 1)).2 (nI (N 0 5 + 1)) (min t (N 0 3)) ((agesR R Fr (N 0 1)).1, inc)) := by rw [hmt, hmt1]; simp only [leaveR]; rw [if_pos]; rw [hmt] at h15; exact h15.trans h_e
          have hcn : leaveN R (nI (N 0 5 + 1)) (min t (N 0 3)) + 1 = leaveN R (nI (N 0 5 + 1)) (min (t + 1) (N 0 3)) := by rw [hmt, hmt1]; simp [leaveN, h_e]
          refine lv_aload_n hx hb dX4_tick_96 rfl (lv_at hl 1 rfl) ?_
          refine lv_aload hx hb dX4_tick_97 (lv_at hl 0 rfl) ?_
          obtain ⟨q_548, hq_548⟩ := xw_at (wr := wr) (cA := cA) (α := α) (L := L) (S := (up2 N 0 5 (N 0 5 + 1), (leaveR N (agesR R Fr (N 0 1)).2 (nI (N 0 5 + 1)) (min t (N 0 3)) ((agesR R Fr (N 0 1)).1, inc)).1, (agesR R Fr (N 0 1)).2, (leaveR N (agesR R Fr (N 0 1)).2 (nI (N 0 5 + 1)) (min t (N 0 3)) ((agesR R Fr (N 0 1)).1, inc)).2)) 0 0 (hLk1.o 0 (by decide))
          refine k_callVv (as := [.ref (α 12 t)]) (rest := []) (b := (α 0 0)) (ci := 6) (q0 := q_548) F hW (met_X4_deliverAll l D cA wr α L (up2 N 0 5 (N 0 5 + 1)) ((leaveR N (agesR R Fr (N 0 1)).2 (nI (N 0 5 + 1)) (min t (N 0 3)) ((agesR R Fr (N 0 1)).1, inc)).1) ((agesR R Fr (N 0 1)).2) ((leaveR N (agesR R Fr (N 0 1)).2 (nI (N 0 5 + 1)) (min t (N 0 3)) ((agesR R Fr (N 0 1)).1, inc)).2) t hLk1 hC1 htv (hkt.truck hT1) hF1 hkt.2) rfl ML_X4_185 IM_X4_deliverAll SE_X4_deliverAll IN_X4 CO_X4_deliverAll hdV_X4_deliverAll rfl rfl ⟨(Nat.le_of_ble_eq_true rfl), (Nat.le_of_ble_eq_true rfl)⟩ rfl rfl (hq_548) rfl rfl hl.1 (Nat.le_of_ble_eq_true rfl) dX4_tick_99 ⟨(Nat.le_of_ble_eq_true rfl), (Nat.le_of_ble_eq_true rfl)⟩ (fun u H locs hw hW => ?_)
          have hW := hW.eq (show _ = xWd wr cA α L (up2 N 0 5 (N 0 5 + 1), (leaveR N (agesR R Fr (N 0 1)).2 (nI (N 0 5 + 1)) (min (t + 1) (N 0 3)) ((agesR R Fr (N 0 1)).1, inc)).1, (agesR R Fr (N 0 1)).2, (leaveR N (agesR R Fr (N 0 1)).2 (nI (N 0 5 + 1)) (min (t + 1) (N 0 3)) ((agesR R Fr (N 0 1)).1, inc)).2) by rw [hls]; rfl)
          refine lv_iinc (k := 2) (lv' := [(1, .int (nI ((leaveN R (nI (N 0 5 + 1)) (min t (N 0 3))) + 1))), (5, .ref (α 12 t)), (0, .ref (α 0 0)), (2, .ref (α 4 0)), (3, .int 4), (4, .int (nI t))]) hx hb dX4_tick_102 hl rfl (nI_1 (leaveN R (nI (N 0 5 + 1)) (min t (N 0 3)))) (by decide) rfl (fun ls hl => ?_)
          rw [hcn] at hl
          refine lv_iinc (k := 5) (lv' := [(4, .int (nI (t + 1))), (1, .int (nI (leaveN R (nI (N 0 5 + 1)) (min (t + 1) (N 0 3))))), (5, .ref (α 12 t)), (0, .ref (α 0 0)), (2, .ref (α 4 0)), (3, .int 4)]) hx hb dX4_tick_105 hl rfl (nI_1 t) (by decide) rfl (fun ls hl => ?_)
          refine lv_goto (tgt := 67) hx hb dX4_tick_108 (by decide) ?_
          exact ih (k - 1) (by omega) ⟨t + 1, by omega, hW, lv_sub hl [3, 1, 4, 5, 0] rfl⟩
      · obtain ⟨q_550, hq_550⟩ := xw_at (wr := wr) (cA := cA) (α := α) (L := L) (S := (up2 N 0 5 (N 0 5 + 1), (leaveR N (agesR R Fr (N 0 1)).2 (nI (N 0 5 + 1)) (min t (N 0 3)) ((agesR R Fr (N 0 1)).1, inc)).1, (agesR R Fr (N 0 1)).2, (leaveR N (agesR R Fr (N 0 1)).2 (nI (N 0 5 + 1)) (min t (N 0 3)) ((agesR R Fr (N 0 1)).1, inc)).2)) 4 0 (hLk1.o 4 (by decide))
        refine k_aaldN F hW q_550 hq_550 (tI := 9) rfl (vp_in_nI hlt (by decide)) (by rw [nI_clamp (by omega)]; exact if_neg (by show ¬ t < N 2 3; rw [hC.2.2.2.2.2.1 3 (by decide)]; exact htv)) dX4_tick_76 ?_
        refine x_astoreQ (r := none) (lv' := [(5, va_rf none), (0, .ref (α 0 0)), (1, .int (nI (leaveN R (nI (N 0 5 + 1)) (min t (N 0 3))))), (2, .ref (α 4 0)), (3, .int 4), (4, .int (nI t))]) hx hb dX4_tick_77 hl (by decide) rfl (fun ls hl => ?_)
        refine x_aloadQ (r := none) hx hb dX4_tick_79 (lv_at hl 0 rfl) ?_
        refine lv_ifnullN (tgt := 105) hx hb dX4_tick_81 (by decide) ?_
        have hmt2 : min (t + 1) (N 0 3) = min t (N 0 3) := by rw [Nat.min_eq_right (by omega), Nat.min_eq_right (by omega)]
        have hW := hW.eq (show _ = xWd wr cA α L (up2 N 0 5 (N 0 5 + 1), (leaveR N (agesR R Fr (N 0 1)).2 (nI (N 0 5 + 1)) (min (t + 1) (N 0 3)) ((agesR R Fr (N 0 1)).1, inc)).1, (agesR R Fr (N 0 1)).2, (leaveR N (agesR R Fr (N 0 1)).2 (nI (N 0 5 + 1)) (min (t + 1) (N 0 3)) ((agesR R Fr (N 0 1)).1, inc)).2) by rw [hmt2])
        rw [← hmt2] at hl
        refine lv_iinc (k := 5) (lv' := [(4, .int (nI (t + 1))), (5, va_rf none), (0, .ref (α 0 0)), (1, .int (nI (leaveN R (nI (N 0 5 + 1)) (min (t + 1) (N 0 3))))), (2, .ref (α 4 0)), (3, .int 4)]) hx hb dX4_tick_105 hl rfl (nI_1 t) (by decide) rfl (fun ls hl => ?_)
        refine lv_goto (tgt := 67) hx hb dX4_tick_108 (by decide) ?_
        exact ih (k - 1) (by omega) ⟨t + 1, by omega, hW, lv_sub hl [2, 3, 4, 5, 0] rfl⟩
  · have hlt : i < 20 := Nat.lt_of_not_le fun q => h_c (nI_le (a := 20) q (by omega))
    refine lv_aload_n hx hb dX4_tick_15 rfl (lv_at hl 1 rfl) ?_
    refine lv_iload_n hx hb dX4_tick_16 rfl (lv_at hl 3 rfl) ?_
    by_cases hiv : i < N 0 1
    · obtain ⟨q_551, hq_551⟩ := xw_at (wr := wr) (cA := cA) (α := α) (L := L) (S := (N, (agesR R Fr (min i (N 0 1))).1, (agesR R Fr (min i (N 0 1))).2, inc)) 2 0 (hLk.o 2 (by decide))
      refine k_aaldS (x := (α 9 i)) F hW q_551 hq_551 (tI := 7) rfl (vp_in_nI hlt (by decide)) (by rw [nI_clamp (by omega)]; exact if_pos (hC.lt (by decide) hiv)) dX4_tick_17 ?_
      refine lv_astore (lv' := [(4, .ref (α 9 i)), (0, .ref (α 0 0)), (1, .ref (α 2 0)), (2, .int 20), (3, .int (nI i))]) hx hb dX4_tick_18 hl (by decide) rfl (fun ls hl => ?_)
      refine lv_aload hx hb dX4_tick_20 (lv_at hl 0 rfl) ?_
      refine lv_ifnull hx hb dX4_tick_22 ?_
      refine lv_aload hx hb dX4_tick_25 (lv_at hl 0 rfl) ?_
      obtain ⟨q_552, hq_552⟩ := xw_at (wr := wr) (cA := cA) (α := α) (L := L) (S := (N, (agesR R Fr (min i (N 0 1))).1, (agesR R Fr (min i (N 0 1))).2, inc)) 9 i (hLk.l i (hC.lt (by decide) hiv))
      refine k_callVi (as := []) (rest := []) (b := (α 9 i)) (ci := 4) (q0 := q_552) F hW (met_X2_isAtPier l D cA wr α L N ((agesR R Fr (min i (N 0 1))).1) ((agesR R Fr (min i (N 0 1))).2) inc i hLk (hC.lt (by decide) hiv)) rfl ML_X4_166 IM_X2_isAtPier SE_X2_isAtPier IN_X2 CO_X2_isAtPier hdV_X2_isAtPier rfl rfl ⟨(Nat.le_of_ble_eq_true rfl), (Nat.le_of_ble_eq_true rfl)⟩ rfl rfl (hq_552) rfl rfl hl.1 (Nat.le_of_ble_eq_true rfl) dX4_tick_27 ⟨(Nat.le_of_ble_eq_true rfl), (Nat.le_of_ble_eq_true rfl)⟩ (fun r_553 u H locs hw hW => ?_)
      subst hw
      have hmi : min i (N 0 1) = i := Nat.min_eq_left (by omega)
      have hms : min (i + 1) (N 0 1) = i + 1 := Nat.min_eq_left (by omega)
      cases hap : atPier (agesR R Fr (min i (N 0 1))).1 i
      · have hW := hW.eq (show _ = xWd wr cA α L (N, (agesR R Fr (min (i + 1) (N 0 1))).1, (agesR R Fr (min (i + 1) (N 0 1))).2, inc) by rw [hms, hmi]; simp only [agesR]; rw [ageR_off (by rw [← hmi]; rw [hmi] at hap ⊢; exact hap)])
        refine lv_if_eq (tgt := 38) hx hb dX4_tick_30 (by decide) (fun _ => ?_) (fun h => absurd (by decide) h)
        refine lv_iinc (k := 4) (lv' := [(3, .int (nI (i + 1))), (4, .ref (α 9 i)), (0, .ref (α 0 0)), (1, .ref (α 2 0)), (2, .int 20)]) hx hb dX4_tick_38 hl rfl (nI_1 i) (by decide) rfl (fun ls hl => ?_)
        refine lv_goto (tgt := 10) hx hb dX4_tick_41 (by decide) ?_
        exact ih (k - 1) (by omega) ⟨i + 1, by omega, hW, lv_sub hl [2, 3, 4, 0] rfl⟩
      · refine lv_if_eq (tgt := 38) hx hb dX4_tick_30 (by decide) (fun h => absurd h (by decide)) (fun _ => ?_)
        refine lv_aload hx hb dX4_tick_33 (lv_at hl 0 rfl) ?_
        obtain ⟨q_554, hq_554⟩ := xw_at (wr := wr) (cA := cA) (α := α) (L := L) (S := (N, (agesR R Fr (min i (N 0 1))).1, (agesR R Fr (min i (N 0 1))).2, inc)) 9 i (hLk.l i (hC.lt (by decide) hiv))
        refine k_callVv (as := []) (rest := []) (b := (α 9 i)) (ci := 4) (q0 := q_554) F hW (met_X2_age l D cA wr α L N ((agesR R Fr (min i (N 0 1))).1) ((agesR R Fr (min i (N 0 1))).2) inc i hLk (hC.lt (by decide) hiv) (agesR_ok (hL i hiv) _).2.2.2.2.1 hap) rfl ML_X4_179 IM_X2_age SE_X2_age IN_X2 CO_X2_age hdV_X2_age rfl rfl ⟨(Nat.le_of_ble_eq_true rfl), (Nat.le_of_ble_eq_true rfl)⟩ rfl rfl (hq_554) rfl rfl hl.1 (Nat.le_of_ble_eq_true rfl) dX4_tick_35 ⟨(Nat.le_of_ble_eq_true rfl), (Nat.le_of_ble_eq_true rfl)⟩ (fun u H locs hw hW => ?_)
        have hW := hW.eq (show _ = xWd wr cA α L (N, (agesR R Fr (min (i + 1) (N 0 1))).1, (agesR R Fr (min (i + 1) (N 0 1))).2, inc) by rw [hms, hmi]; rfl)
        refine lv_iinc (k := 4) (lv' := [(3, .int (nI (i + 1))), (4, .ref (α 9 i)), (0, .ref (α 0 0)), (1, .ref (α 2 0)), (2, .int 20)]) hx hb dX4_tick_38 hl rfl (nI_1 i) (by decide) rfl (fun ls hl => ?_)
        refine lv_goto (tgt := 10) hx hb dX4_tick_41 (by decide) ?_
        exact ih (k - 1) (by omega) ⟨i + 1, by omega, hW, lv_sub hl [2, 3, 4, 0] rfl⟩
    · obtain ⟨q_556, hq_556⟩ := xw_at (wr := wr) (cA := cA) (α := α) (L := L) (S := (N, (agesR R Fr (min i (N 0 1))).1, (agesR R Fr (min i (N 0 1))).2, inc)) 2 0 (hLk.o 2 (by decide))
      refine k_aaldN F hW q_556 hq_556 (tI := 7) rfl (vp_in_nI hlt (by decide)) (by rw [nI_clamp (by omega)]; exact if_neg (by rw [hC.2.2.2.2.2.1 1 (by decide)]; exact hiv)) dX4_tick_17 ?_
      refine x_astoreQ (r := none) (lv' := [(4, va_rf none), (0, .ref (α 0 0)), (1, .ref (α 2 0)), (2, .int 20), (3, .int (nI i))]) hx hb dX4_tick_18 hl (by decide) rfl (fun ls hl => ?_)
      refine x_aloadQ (r := none) hx hb dX4_tick_20 (lv_at hl 0 rfl) ?_
      refine lv_ifnullN (tgt := 38) hx hb dX4_tick_22 (by decide) ?_
      have hW := hW.eq (show _ = xWd wr cA α L (N, (agesR R Fr (min (i + 1) (N 0 1))).1, (agesR R Fr (min (i + 1) (N 0 1))).2, inc) by rw [show min (i + 1) (N 0 1) = min i (N 0 1) from by rw [Nat.min_eq_right (by omega), Nat.min_eq_right (by omega)]])
      refine lv_iinc (k := 4) (lv' := [(3, .int (nI (i + 1))), (4, va_rf none), (0, .ref (α 0 0)), (1, .ref (α 2 0)), (2, .int 20)]) hx hb dX4_tick_38 hl rfl (nI_1 i) (by decide) rfl (fun ls hl => ?_)
      refine lv_goto (tgt := 10) hx hb dX4_tick_41 (by decide) ?_
      exact ih (k - 1) (by omega) ⟨i + 1, by omega, hW, lv_sub hl [2, 3, 4, 0] rfl⟩
