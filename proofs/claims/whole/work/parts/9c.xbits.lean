set_option maxHeartbeats 4000000 in
set_option maxRecDepth 100000 in
theorem met_X4_bitsOfFreshness (l : Launch) (D : va_G) (cA : Nat → ClassId) (ws : va_W) (x : UInt32) (hx9 : fo x) : MetI l yX4_bitsOfFreshness (.code yX4_bitsOfFreshness cX4_bitsOfFreshness 3 (some .int) :: LW) ({ frames := 0, cells := 0, slots := 0, locals := 0 }) D cA (ws) [.float x] (fun r (_ : Unit) => r = x.toInt32) (fun _ => ws) 0 0 := by
  refine k_bodyI (plainFor_of_name (by decide)) (Nat.le_of_ble_eq_true rfl) (fun p e s m args below meth c ls F hW hl => ?_)
  obtain ⟨hx, hb, hr, hml, hown, hts, hlocks, hname⟩ := id F
  have hl : lv_has ls 3 [(0, .float x)] := hl
  have ht : FP.Core.b32.tails = 8388608 := by decide
  refine lv_fload_n hx hb dX4_bitsOfFreshness_0 rfl (lv_at hl 0 rfl) ?_
  refine lv_fstore_n (lv' := [(1, .float x), (0, .float x)]) hx hb dX4_bitsOfFreshness_1 rfl hl (by decide) rfl (fun ls hl => ?_)
  refine lv_iconst (v := 0) hx hb dX4_bitsOfFreshness_2 (by decide) ?_
  refine lv_istore_n (lv' := [(2, .int 0), (1, .float x), (0, .float x)]) hx hb dX4_bitsOfFreshness_3 rfl hl (by decide) rfl (fun ls hl => ?_)
  refine k_ind (P := fun k H locs ls => ∃ (a : Nat) (y : UInt32), a + k = 7 ∧ y.toNat + a * 8388608 = x.toNat ∧ (a = 0 ∨ 127 * 8388608 ≤ y.toNat) ∧ Cw D cA s (va_A (ws) s.heap.size) (ws) H locs ∧ lv_has ls 3 [(0, .float x), (1, .float y), (2, .int (nI a))]) (fun k ih H locs ls hP => ?_) 7 ⟨0, x, by omega, by omega, Or.inl rfl, hW, lv_sub hl [2, 1, 0] rfl⟩
  obtain ⟨a, y, hi_a, hya, hya2, hW, hl⟩ := hP
  have hyn : y.toNat < 2139095040 := by unfold fo at hx9; omega
  have cm2 := cmp32_pos hyn (show (1073741824 : UInt32).toNat < 2139095040 by decide)
  refine lv_fload_n hx hb dX4_bitsOfFreshness_4 rfl (lv_at hl 1 rfl) ?_
  refine lv_fconst2 hx hb dX4_bitsOfFreshness_5 ?_
  refine lv_fcmp hx hb dX4_bitsOfFreshness_6 ?_
  by_cases h_1 : y.toNat < 128 * 8388608
  · refine lv_if_lt (tgt := 26) hx hb dX4_bitsOfFreshness_7 (by decide) (fun _ => ?_) (fun h => absurd (cmpl_lt (cm2.1.mpr (by show y.toNat < _; exact h_1))) h)
    refine k_ind (P := fun k H locs ls => ∃ (b : Nat) (y2 : UInt32) (e2 : Int32), b + k = 126 ∧ e2.toInt = (a : Int) - b ∧ ((b = 0 ∧ y2.toNat + a * 8388608 = x.toNat ∧ y2.toNat < 128 * 8388608 ∧ 127 * 8388608 ≤ y2.toNat) ∨ (a = 0 ∧ b ≤ 126 ∧ FP.Core.unitsOf FP.Core.b32 y2.toNat = FP.Core.unitsOf FP.Core.b32 x.toNat * 2 ^ b ∧ y2.toNat < 128 * 8388608)) ∧ Cw D cA s (va_A (ws) s.heap.size) (ws) H locs ∧ lv_has ls 3 [(0, .float x), (1, .float y2), (2, .int e2)]) (fun k ih2 H locs ls hP => ?_) 126 ⟨0, y, nI a, by omega, by rw [nI_toInt (by omega)]; omega, ?_, hW, lv_sub hl [0, 1, 2] rfl⟩
    · obtain ⟨b, y2, e2, hi_b, he2, hab, hW, hl⟩ := hP
      have ha9 : a ≤ 200 := by unfold fo at hx9; omega
      have hb9 : b ≤ 126 := by omega
      have hy2 : y2.toNat < 128 * 8388608 := hab.elim (fun h => h.2.2.1) (fun h => h.2.2.2)
      have cm1 := cmp32_pos (x := y2) (by omega) (show (1065353216 : UInt32).toNat < 2139095040 by decide)
      refine lv_fload_n hx hb dX4_bitsOfFreshness_26 rfl (lv_at hl 1 rfl) ?_
      refine lv_fconst1 hx hb dX4_bitsOfFreshness_27 ?_
      refine lv_fcmp hx hb dX4_bitsOfFreshness_28 ?_
      by_cases h_2 : y2.toNat < 127 * 8388608
      · refine lv_if_ge (tgt := 48) hx hb dX4_bitsOfFreshness_29 (by decide) (fun h => absurd h (cmpg_lt (cm1.1.mpr (by show y2.toNat < _; exact h_2)))) (fun _ => ?_)
        refine lv_iload_n hx hb dX4_bitsOfFreshness_32 rfl (lv_at hl 2 rfl) ?_
        refine lv_bipush (v := (-126)) hx hb dX4_bitsOfFreshness_33 (by decide) ?_
        have ha0 : a = 0 := by rcases hab with h | h <;> omega
        by_cases h_3 : b = 126
        · refine lv_icmp_le (tgt := 48) hx hb dX4_bitsOfFreshness_35 (by decide) (fun _ => ?_) (fun h => absurd (by rw [Int32.le_iff_toInt_le, he2]; show _ ≤ (-126 : Int); omega) h)
          obtain ⟨m, hm1, hm2, hm3⟩ := last32 (x := x) (y := y2) (a := a) (b := b) (hab.elim (fun h => Or.inl h) (fun h => Or.inr ⟨h.1, h.2.1, h.2.2.1, h.2.2.2, Or.inr h_3⟩))
          obtain ⟨k1, k2, k3⟩ := rest32 (y := y2) (by omega) hm1 hm2
          refine lv_iload_n hx hb dX4_bitsOfFreshness_48 rfl (lv_at hl 2 rfl) ?_
          refine lv_bipush (v := 127) hx hb dX4_bitsOfFreshness_49 (by decide) ?_
          refine lv_iadd hx hb dX4_bitsOfFreshness_51 ?_
          refine lv_bipush (v := 23) hx hb dX4_bitsOfFreshness_52 (by decide) ?_
          refine lv_ishl hx hb dX4_bitsOfFreshness_54 ?_
          refine lv_fload_n hx hb dX4_bitsOfFreshness_55 rfl (lv_at hl 1 rfl) ?_
          refine lv_fconst1 hx hb dX4_bitsOfFreshness_56 ?_
          refine lv_fsub hx hb dX4_bitsOfFreshness_57 (k1) ?_
          refine x_ldcfw (v := 1258291200) hx hb hown (hts _ CK_X4_367) dX4_bitsOfFreshness_58 ?_
          refine lv_fmul hx hb dX4_bitsOfFreshness_61 (k2) ?_
          refine lv_f2i hx hb dX4_bitsOfFreshness_62 ?_
          refine lv_iadd hx hb dX4_bitsOfFreshness_63 ?_
          exact k_iret () F (hW) (bits32_eq he2 (by omega) (by omega) (by omega) hm1 k3 hm3) dX4_bitsOfFreshness_64 (Nat.le_of_ble_eq_true rfl) (Nat.le_of_ble_eq_true rfl)
        · refine lv_icmp_le (tgt := 48) hx hb dX4_bitsOfFreshness_35 (by decide) (fun h => absurd h (by rw [Int32.le_iff_toInt_le, he2]; show ¬ _ ≤ (-126 : Int); omega)) (fun _ => ?_)
          refine lv_fload_n hx hb dX4_bitsOfFreshness_38 rfl (lv_at hl 1 rfl) ?_
          refine lv_fconst2 hx hb dX4_bitsOfFreshness_39 ?_
          have hh : (FP.fmul y2 FP.fconst2).toNat = dbl32 y2.toNat := twice32 (x := y2) (by omega)
          have hh2 : dbl32 y2.toNat < 128 * 8388608 := by unfold dbl32; split <;> omega
          refine lv_fmul hx hb dX4_bitsOfFreshness_40 (nn32 (by rw [hh]; omega)) ?_
          refine lv_fstore_n (lv' := [(1, .float (FP.fmul y2 FP.fconst2)), (0, .float x), (2, .int e2)]) hx hb dX4_bitsOfFreshness_41 rfl hl (by decide) rfl (fun ls hl => ?_)
          refine lv_iinc (k := 2) (lv' := [(2, .int (e2 + -1)), (1, .float (FP.fmul y2 FP.fconst2)), (0, .float x)]) hx hb dX4_bitsOfFreshness_42 hl rfl rfl (by decide) rfl (fun ls hl => ?_)
          refine lv_goto (tgt := 26) hx hb dX4_bitsOfFreshness_45 (by decide) ?_
          refine ih2 (k - 1) (by omega) ⟨b + 1, _, _, by omega, by rw [i32_dec (by omega), he2]; omega, Or.inr ⟨ha0, by omega, ?_, by rw [hh]; refine hh2⟩, hW, lv_sub hl [2, 1, 0] rfl⟩
          rw [hh, dbl32_u]
          rcases hab with h | h
          · exact absurd h_2 (by omega)
          · rw [h.2.2.1, Nat.pow_succ, Nat.mul_comm 2, Nat.mul_assoc]
      · refine lv_if_ge (tgt := 48) hx hb dX4_bitsOfFreshness_29 (by decide) (fun _ => ?_) (fun h => absurd (cmpg_ge (fun q => h_2 (cm1.1.mp q))) h)
        obtain ⟨m, hm1, hm2, hm3⟩ := last32 (x := x) (y := y2) (a := a) (b := b) (hab.elim (fun h => Or.inl h) (fun h => Or.inr ⟨h.1, h.2.1, h.2.2.1, h.2.2.2, Or.inl (Nat.le_of_not_lt h_2)⟩))
        obtain ⟨k1, k2, k3⟩ := rest32 (y := y2) (by omega) hm1 hm2
        refine lv_iload_n hx hb dX4_bitsOfFreshness_48 rfl (lv_at hl 2 rfl) ?_
        refine lv_bipush (v := 127) hx hb dX4_bitsOfFreshness_49 (by decide) ?_
        refine lv_iadd hx hb dX4_bitsOfFreshness_51 ?_
        refine lv_bipush (v := 23) hx hb dX4_bitsOfFreshness_52 (by decide) ?_
        refine lv_ishl hx hb dX4_bitsOfFreshness_54 ?_
        refine lv_fload_n hx hb dX4_bitsOfFreshness_55 rfl (lv_at hl 1 rfl) ?_
        refine lv_fconst1 hx hb dX4_bitsOfFreshness_56 ?_
        refine lv_fsub hx hb dX4_bitsOfFreshness_57 (k1) ?_
        refine x_ldcfw (v := 1258291200) hx hb hown (hts _ CK_X4_367) dX4_bitsOfFreshness_58 ?_
        refine lv_fmul hx hb dX4_bitsOfFreshness_61 (k2) ?_
        refine lv_f2i hx hb dX4_bitsOfFreshness_62 ?_
        refine lv_iadd hx hb dX4_bitsOfFreshness_63 ?_
        exact k_iret () F (hW) (bits32_eq he2 (by omega) (by omega) (by omega) hm1 k3 hm3) dX4_bitsOfFreshness_64 (Nat.le_of_ble_eq_true rfl) (Nat.le_of_ble_eq_true rfl)
    · rcases hya2 with rfl | hya2
      · exact Or.inr ⟨rfl, by omega, by rw [Nat.zero_mul, Nat.add_zero] at hya; rw [hya, Nat.pow_zero, Nat.mul_one], h_1⟩
      · exact Or.inl ⟨rfl, hya, h_1, hya2⟩
  · refine lv_if_lt (tgt := 26) hx hb dX4_bitsOfFreshness_7 (by decide) (fun h => absurd h (cmpl_ge (fun q => h_1 (cm2.1.mp q)) cm2.2)) (fun _ => ?_)
    refine lv_iload_n hx hb dX4_bitsOfFreshness_10 rfl (lv_at hl 2 rfl) ?_
    refine lv_bipush (v := 127) hx hb dX4_bitsOfFreshness_11 (by decide) ?_
    have ha5 : a < 6 := by unfold fo at hx9; omega
    refine lv_icmp_ge (tgt := 26) hx hb dX4_bitsOfFreshness_13 (by decide) (fun h => absurd h (Int32.not_le.mpr (nI_lt (a := a) (b := 127) (by omega) (by omega)))) (fun _ => ?_)
    refine lv_fload_n hx hb dX4_bitsOfFreshness_16 rfl (lv_at hl 1 rfl) ?_
    refine lv_fconst2 hx hb dX4_bitsOfFreshness_17 ?_
    have hh : (FP.fdiv y FP.fconst2).toNat = y.toNat - 8388608 := half32 hyn (by omega)
    refine lv_fdiv hx hb dX4_bitsOfFreshness_18 (nn32 (by rw [hh]; omega)) ?_
    refine lv_fstore_n (lv' := [(1, .float (FP.fdiv y FP.fconst2)), (0, .float x), (2, .int (nI a))]) hx hb dX4_bitsOfFreshness_19 rfl hl (by decide) rfl (fun ls hl => ?_)
    refine lv_iinc (k := 2) (lv' := [(2, .int (nI (a + 1))), (1, .float (FP.fdiv y FP.fconst2)), (0, .float x)]) hx hb dX4_bitsOfFreshness_20 hl rfl (nI_1 a) (by decide) rfl (fun ls hl => ?_)
    refine lv_goto (tgt := 4) hx hb dX4_bitsOfFreshness_23 (by decide) ?_
    exact ih (k - 1) (by omega) ⟨a + 1, _, by omega, by rw [hh, Nat.succ_mul]; omega, Or.inr (by rw [hh]; omega), hW, lv_sub hl [2, 1, 0] rfl⟩
