set_option maxHeartbeats 4000000 in
set_option maxRecDepth 100000 in
theorem met_X4_bitsOfMean (l : Launch) (D : va_G) (cA : Nat → ClassId) (ws : va_W) (x : UInt64) (hx9 : x.toNat < 1089 * 4503599627370496) : MetL l yX4_bitsOfMean (.code yX4_bitsOfMean cX4_bitsOfMean 5 (some .long) :: LW) ({ frames := 0, cells := 0, slots := 0, locals := 0 }) D cA (ws) [.double x] (fun r (_ : Unit) => r = x.toInt64) (fun _ => ws) 0 0 := by
  refine k_bodyL (plainFor_of_name (by decide)) (Nat.le_of_ble_eq_true rfl) (fun p e s m args below meth c ls F hW hl => ?_)
  obtain ⟨hx, hb, hr, hml, hown, hts, hlocks, hname⟩ := id F
  have hl : lv_has ls 5 [(0, .double x)] := hl
  have ht : FP.Core.b64.tails = 4503599627370496 := by decide
  refine lv_dload_n hx hb dX4_bitsOfMean_0 rfl (lv_at hl 0 rfl) ?_
  refine lv_dconst0 hx hb dX4_bitsOfMean_1 ?_
  refine lv_dcmp hx hb dX4_bitsOfMean_2 ?_
  by_cases hx0 : x.toNat = 0
  · refine lv_if_ne (tgt := 8) hx hb dX4_bitsOfMean_3 (by decide) (fun h => absurd (cmp_eq0 ((cmp64_zero (by omega)).mpr hx0)) h) (fun _ => ?_)
    refine lv_lconst (v := 0) hx hb dX4_bitsOfMean_6 (by decide) ?_
    have hx1 : x = 0 := UInt64.toNat_inj.mp hx0
    exact k_lret () F (hW) (by rw [hx1]; rfl) dX4_bitsOfMean_7 (Nat.le_of_ble_eq_true rfl) (Nat.le_of_ble_eq_true rfl)
  · refine lv_if_ne (tgt := 8) hx hb dX4_bitsOfMean_3 (by decide) (fun _ => ?_) (fun h => absurd h (cmp_ne0 (fun q => hx0 ((cmp64_zero (by omega)).mp q))))
    refine lv_dload_n hx hb dX4_bitsOfMean_8 rfl (lv_at hl 0 rfl) ?_
    refine lv_dstore_n (lv' := [(2, .double x), (0, .double x)]) hx hb dX4_bitsOfMean_9 rfl hl (by decide) rfl (fun ls hl => ?_)
    refine lv_iconst (v := 0) hx hb dX4_bitsOfMean_10 (by decide) ?_
    refine lv_istore (lv' := [(4, .int 0), (2, .double x), (0, .double x)]) hx hb dX4_bitsOfMean_11 hl (by decide) rfl (fun ls hl => ?_)
    refine k_ind (P := fun k H locs ls => ∃ (a : Nat) (y : UInt64), a + k = 67 ∧ y.toNat + a * 4503599627370496 = x.toNat ∧ (a = 0 ∨ 1023 * 4503599627370496 ≤ y.toNat) ∧ Cw D cA s (va_A (ws) s.heap.size) (ws) H locs ∧ lv_has ls 5 [(0, .double x), (2, .double y), (4, .int (nI a))]) (fun k ih H locs ls hP => ?_) 67 ⟨0, x, by omega, by omega, Or.inl rfl, hW, lv_sub hl [2, 1, 0] rfl⟩
    obtain ⟨a, y, hi_a, hya, hya2, hW, hl⟩ := hP
    have hyn : y.toNat < 9218868437227405312 := by omega
    have cm2 := cmp64_pos hyn (show (4611686018427387904 : UInt64).toNat < 9218868437227405312 by decide)
    refine lv_dload_n hx hb dX4_bitsOfMean_13 rfl (lv_at hl 1 rfl) ?_
    refine lv_ldc2d (v := 4611686018427387904) hx hb hown (hts _ CK_X4_368) dX4_bitsOfMean_14 ?_
    refine lv_dcmp hx hb dX4_bitsOfMean_17 ?_
    by_cases h_1 : y.toNat < 1024 * 4503599627370496
    · refine lv_if_lt (tgt := 41) hx hb dX4_bitsOfMean_18 (by decide) (fun _ => ?_) (fun h => absurd (cmpl_lt (cm2.1.mpr (by show y.toNat < _; exact h_1))) h)
      refine k_ind (P := fun k H locs ls => ∃ (b : Nat) (y2 : UInt64) (e2 : Int32), b + k = 1022 ∧ e2.toInt = (a : Int) - b ∧ ((b = 0 ∧ y2.toNat + a * 4503599627370496 = x.toNat ∧ y2.toNat < 1024 * 4503599627370496 ∧ 1023 * 4503599627370496 ≤ y2.toNat) ∨ (a = 0 ∧ b ≤ 1022 ∧ FP.Core.unitsOf FP.Core.b64 y2.toNat = FP.Core.unitsOf FP.Core.b64 x.toNat * 2 ^ b ∧ y2.toNat < 1024 * 4503599627370496)) ∧ Cw D cA s (va_A (ws) s.heap.size) (ws) H locs ∧ lv_has ls 5 [(0, .double x), (2, .double y2), (4, .int e2)]) (fun k ih2 H locs ls hP => ?_) 1022 ⟨0, y, nI a, by omega, by rw [nI_toInt (by omega)]; omega, ?_, hW, lv_sub hl [0, 1, 2] rfl⟩
      · obtain ⟨b, y2, e2, hi_b, he2, hab, hW, hl⟩ := hP
        have ha9 : a ≤ 200 := by omega
        have hb9 : b ≤ 1022 := by omega
        have hy2 : y2.toNat < 1024 * 4503599627370496 := hab.elim (fun h => h.2.2.1) (fun h => h.2.2.2)
        have cm1 := cmp64_pos (x := y2) (by omega) (show (4607182418800017408 : UInt64).toNat < 9218868437227405312 by decide)
        refine lv_dload_n hx hb dX4_bitsOfMean_41 rfl (lv_at hl 1 rfl) ?_
        refine lv_dconst1 hx hb dX4_bitsOfMean_42 ?_
        refine lv_dcmp hx hb dX4_bitsOfMean_43 ?_
        by_cases h_2 : y2.toNat < 1023 * 4503599627370496
        · refine lv_if_ge (tgt := 67) hx hb dX4_bitsOfMean_44 (by decide) (fun h => absurd h (cmpg_lt (cm1.1.mpr (by show y2.toNat < _; exact h_2)))) (fun _ => ?_)
          refine lv_iload hx hb dX4_bitsOfMean_47 (lv_at hl 2 rfl) ?_
          refine lv_sipush (v := (-1022)) hx hb dX4_bitsOfMean_49 (by decide) ?_
          have ha0 : a = 0 := by rcases hab with h | h <;> omega
          by_cases h_3 : b = 1022
          · refine lv_icmp_le (tgt := 67) hx hb dX4_bitsOfMean_52 (by decide) (fun _ => ?_) (fun h => absurd (by rw [Int32.le_iff_toInt_le, he2]; show _ ≤ (-1022 : Int); omega) h)
            obtain ⟨m, hm1, hm2, hm3⟩ := last64 (x := x) (y := y2) (a := a) (b := b) (hab.elim (fun h => Or.inl h) (fun h => Or.inr ⟨h.1, h.2.1, h.2.2.1, h.2.2.2, Or.inr h_3⟩))
            obtain ⟨k1, k2, k3⟩ := rest64 (y := y2) (by omega) hm1 hm2
            refine lv_iload hx hb dX4_bitsOfMean_67 (lv_at hl 2 rfl) ?_
            refine lv_sipush (v := 1023) hx hb dX4_bitsOfMean_69 (by decide) ?_
            refine lv_iadd hx hb dX4_bitsOfMean_72 ?_
            refine lv_i2l hx hb dX4_bitsOfMean_73 rfl ?_
            refine lv_bipush (v := 52) hx hb dX4_bitsOfMean_74 (by decide) ?_
            refine lv_lshl (v := (((e2 + 1023)).toInt64) <<< ((52 : Int32).toInt64 &&& 63)) hx hb dX4_bitsOfMean_76 rfl ?_
            refine lv_dload_n hx hb dX4_bitsOfMean_77 rfl (lv_at hl 1 rfl) ?_
            refine lv_dconst1 hx hb dX4_bitsOfMean_78 ?_
            refine lv_dsub hx hb dX4_bitsOfMean_79 (k1) ?_
            refine lv_ldc2d (v := 4841369599423283200) hx hb hown (hts _ CK_X4_370) dX4_bitsOfMean_80 ?_
            refine lv_dmul hx hb dX4_bitsOfMean_83 (k2) ?_
            refine lv_d2l hx hb dX4_bitsOfMean_84 ?_
            refine lv_ladd hx hb dX4_bitsOfMean_85 ?_
            exact k_lret () F (hW) (bits64_eq he2 (by omega) (by omega) (by omega) hm1 k3 hm3) dX4_bitsOfMean_86 (Nat.le_of_ble_eq_true rfl) (Nat.le_of_ble_eq_true rfl)
          · refine lv_icmp_le (tgt := 67) hx hb dX4_bitsOfMean_52 (by decide) (fun h => absurd h (by rw [Int32.le_iff_toInt_le, he2]; show ¬ _ ≤ (-1022 : Int); omega)) (fun _ => ?_)
            refine lv_dload_n hx hb dX4_bitsOfMean_55 rfl (lv_at hl 1 rfl) ?_
            refine lv_ldc2d (v := 4611686018427387904) hx hb hown (hts _ CK_X4_368) dX4_bitsOfMean_56 ?_
            have hh : (FP.dmul y2 4611686018427387904).toNat = dbl64 y2.toNat := twice64 (x := y2) (by omega)
            have hh2 : dbl64 y2.toNat < 1024 * 4503599627370496 := by unfold dbl64; split <;> omega
            refine lv_dmul hx hb dX4_bitsOfMean_59 (nn64 (by rw [hh]; omega)) ?_
            refine lv_dstore_n (lv' := [(2, .double (FP.dmul y2 4611686018427387904)), (0, .double x), (4, .int e2)]) hx hb dX4_bitsOfMean_60 rfl hl (by decide) rfl (fun ls hl => ?_)
            refine lv_iinc (k := 2) (lv' := [(4, .int (e2 + -1)), (2, .double (FP.dmul y2 4611686018427387904)), (0, .double x)]) hx hb dX4_bitsOfMean_61 hl rfl rfl (by decide) rfl (fun ls hl => ?_)
            refine lv_goto (tgt := 41) hx hb dX4_bitsOfMean_64 (by decide) ?_
            refine ih2 (k - 1) (by omega) ⟨b + 1, _, _, by omega, by rw [i32_dec (by omega), he2]; omega, Or.inr ⟨ha0, by omega, ?_, by rw [hh]; refine hh2⟩, hW, lv_sub hl [2, 1, 0] rfl⟩
            rw [hh, dbl64_u]
            rcases hab with h | h
            · exact absurd h_2 (by omega)
            · rw [h.2.2.1, Nat.pow_succ, Nat.mul_comm 2, Nat.mul_assoc]
        · refine lv_if_ge (tgt := 67) hx hb dX4_bitsOfMean_44 (by decide) (fun _ => ?_) (fun h => absurd (cmpg_ge (fun q => h_2 (cm1.1.mp q))) h)
          obtain ⟨m, hm1, hm2, hm3⟩ := last64 (x := x) (y := y2) (a := a) (b := b) (hab.elim (fun h => Or.inl h) (fun h => Or.inr ⟨h.1, h.2.1, h.2.2.1, h.2.2.2, Or.inl (Nat.le_of_not_lt h_2)⟩))
          obtain ⟨k1, k2, k3⟩ := rest64 (y := y2) (by omega) hm1 hm2
          refine lv_iload hx hb dX4_bitsOfMean_67 (lv_at hl 2 rfl) ?_
          refine lv_sipush (v := 1023) hx hb dX4_bitsOfMean_69 (by decide) ?_
          refine lv_iadd hx hb dX4_bitsOfMean_72 ?_
          refine lv_i2l hx hb dX4_bitsOfMean_73 rfl ?_
          refine lv_bipush (v := 52) hx hb dX4_bitsOfMean_74 (by decide) ?_
          refine lv_lshl (v := (((e2 + 1023)).toInt64) <<< ((52 : Int32).toInt64 &&& 63)) hx hb dX4_bitsOfMean_76 rfl ?_
          refine lv_dload_n hx hb dX4_bitsOfMean_77 rfl (lv_at hl 1 rfl) ?_
          refine lv_dconst1 hx hb dX4_bitsOfMean_78 ?_
          refine lv_dsub hx hb dX4_bitsOfMean_79 (k1) ?_
          refine lv_ldc2d (v := 4841369599423283200) hx hb hown (hts _ CK_X4_370) dX4_bitsOfMean_80 ?_
          refine lv_dmul hx hb dX4_bitsOfMean_83 (k2) ?_
          refine lv_d2l hx hb dX4_bitsOfMean_84 ?_
          refine lv_ladd hx hb dX4_bitsOfMean_85 ?_
          exact k_lret () F (hW) (bits64_eq he2 (by omega) (by omega) (by omega) hm1 k3 hm3) dX4_bitsOfMean_86 (Nat.le_of_ble_eq_true rfl) (Nat.le_of_ble_eq_true rfl)
      · rcases hya2 with rfl | hya2
        · exact Or.inr ⟨rfl, by omega, by rw [Nat.zero_mul, Nat.add_zero] at hya; rw [hya, Nat.pow_zero, Nat.mul_one], h_1⟩
        · exact Or.inl ⟨rfl, hya, h_1, hya2⟩
    · refine lv_if_lt (tgt := 41) hx hb dX4_bitsOfMean_18 (by decide) (fun h => absurd h (cmpl_ge (fun q => h_1 (cm2.1.mp q)) cm2.2)) (fun _ => ?_)
      refine lv_iload hx hb dX4_bitsOfMean_21 (lv_at hl 2 rfl) ?_
      refine lv_sipush (v := 1023) hx hb dX4_bitsOfMean_23 (by decide) ?_
      have ha5 : a < 67 := by omega
      refine lv_icmp_ge (tgt := 41) hx hb dX4_bitsOfMean_26 (by decide) (fun h => absurd h (Int32.not_le.mpr (nI_lt (a := a) (b := 1023) (by omega) (by omega)))) (fun _ => ?_)
      refine lv_dload_n hx hb dX4_bitsOfMean_29 rfl (lv_at hl 1 rfl) ?_
      refine lv_ldc2d (v := 4611686018427387904) hx hb hown (hts _ CK_X4_368) dX4_bitsOfMean_30 ?_
      have hh : (FP.ddiv y 4611686018427387904).toNat = y.toNat - 4503599627370496 := half64 hyn (by omega)
      refine lv_ddiv hx hb dX4_bitsOfMean_33 (nn64 (by rw [hh]; omega)) ?_
      refine lv_dstore_n (lv' := [(2, .double (FP.ddiv y 4611686018427387904)), (0, .double x), (4, .int (nI a))]) hx hb dX4_bitsOfMean_34 rfl hl (by decide) rfl (fun ls hl => ?_)
      refine lv_iinc (k := 2) (lv' := [(4, .int (nI (a + 1))), (2, .double (FP.ddiv y 4611686018427387904)), (0, .double x)]) hx hb dX4_bitsOfMean_35 hl rfl (nI_1 a) (by decide) rfl (fun ls hl => ?_)
      refine lv_goto (tgt := 13) hx hb dX4_bitsOfMean_38 (by decide) ?_
      exact ih (k - 1) (by omega) ⟨a + 1, _, by omega, by rw [hh, Nat.succ_mul]; omega, Or.inr (by rw [hh]; omega), hW, lv_sub hl [2, 1, 0] rfl⟩
