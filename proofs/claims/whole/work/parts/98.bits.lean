/-! The bits of a float, out of doublings and halvings -/
theorem units_dbl {f : FP.Core.Fmt} {m : Nat} (h : f.tails ≤ m) : FP.Core.unitsOf f (m + f.tails) = 2 * FP.Core.unitsOf f m := by
  have ht := FP.Core.tails_pos f
  have h1 : 1 ≤ m / f.tails := (Nat.le_div_iff_mul_le ht).mpr (by omega)
  unfold FP.Core.unitsOf
  rw [if_neg (by omega), if_neg (by omega), Nat.add_mod_right, Nat.add_div_right _ ht]
  rw [show (m / f.tails).succ - 1 = (m / f.tails - 1) + 1 by omega, Nat.pow_succ, ← Nat.mul_assoc, Nat.mul_comm _ 2]
theorem units_dbl0 {f : FP.Core.Fmt} {m : Nat} (h : m < f.tails) : FP.Core.unitsOf f (2 * m) = 2 * FP.Core.unitsOf f m := by
  have ht := FP.Core.tails_pos f
  unfold FP.Core.unitsOf
  rw [if_pos h]
  by_cases h2 : 2 * m < f.tails
  · rw [if_pos h2]
  · rw [if_neg h2]
    have e1 : 2 * m / f.tails = 1 := by
      rw [Nat.div_eq_iff ht]; omega
    have e2 : 2 * m % f.tails = 2 * m - f.tails := by
      rw [Nat.mod_eq_sub_mod (by omega), Nat.mod_eq_of_lt (by omega)]
    rw [e1, e2]; simp; omega
theorem units_up {f : FP.Core.Fmt} {z : Nat} (h : f.tails ≤ z) : ∀ b : Nat, FP.Core.unitsOf f (z + b * f.tails) = FP.Core.unitsOf f z * 2 ^ b := by
  intro b
  induction b with
  | zero => simp
  | succ b ih =>
    rw [Nat.succ_mul, ← Nat.add_assoc, units_dbl (by omega), ih, Nat.pow_succ]
    rw [Nat.mul_comm 2, Nat.mul_assoc]
theorem units_back {f : FP.Core.Fmt} {x y b K : Nat} (h : FP.Core.unitsOf f y = FP.Core.unitsOf f x * 2 ^ b) (hy : K * f.tails ≤ y) (hb : b < K) : x + b * f.tails = y := by
  have ht := FP.Core.tails_pos f
  have h1 : (b + 1) * f.tails ≤ K * f.tails := Nat.mul_le_mul_right _ hb
  rw [Nat.succ_mul] at h1
  have e := units_up (f := f) (z := y - b * f.tails) (by omega) b
  rw [Nat.sub_add_cancel (by omega), h] at e
  have e2 := Nat.eq_of_mul_eq_mul_right (Nat.two_pow_pos b) e
  have e3 : x = y - b * f.tails := by
    have a1 := (FP.Core.unitsOf_le_iff (f := f)).mp (Nat.le_of_eq e2)
    have a2 := (FP.Core.unitsOf_le_iff (f := f)).mp (Nat.le_of_eq e2.symm)
    omega
  omega
theorem inU {c : Nat} {q e : Int} : FP.Core.inUnits c q e = c * 2 ^ (q - e).toNat := rfl
/-- a product that is exact -/
theorem mul_eq32 {x c : UInt32} (hx : x.toNat < 2139095040) (hc : c.toNat < 2139095040) {m : Nat} (hm : m ≤ 2139095040) (h : FP.Core.unitsOf FP.Core.b32 x.toNat * FP.Core.unitsOf FP.Core.b32 c.toNat = FP.Core.unitsOf FP.Core.b32 m * 2 ^ 149) : (FP.fmul x c).toNat = m := by
  refine Nat.le_antisymm (mul_le32 hx hc m (Nat.le_of_eq h)) ?_
  have fx : FP.Core.FFin x := (FP.Core.fin_bits32 x).mpr (by omega)
  have fc : FP.Core.FFin c := (FP.Core.fin_bits32 c).mpr (by omega)
  have zx := FP.Core.zmag_toNat32 (a := x) fx.ne_nan
  have zc := FP.Core.zmag_toNat32 (a := c) fc.ne_nan
  rw [Nat.mod_eq_of_lt (by omega)] at zx zc
  have vx := FP.Core.val32_fits x
  have vc := FP.Core.val32_fits c
  obtain ⟨s, a, q, ex⟩ := fx
  obtain ⟨t, b, r, ec⟩ := fc
  rw [ex] at zx vx
  rw [ec] at zc vc
  obtain ⟨p1, p2, p3⟩ := FP.Core.product_units vx vc
  have e := FP.Core.val32_fmul x c
  rw [ex, ec, p1] at e
  have hm2 := FP.Core.mag_ge FP.Core.good_b32 (n := (FP.Core.fmul x c).toNat) (m := m) (s := s != t) (A := a * b) (B := 1) (e := q + r) (e0 := 2 * FP.Core.b32.qmin) e (by decide) (by decide) p2 (by rw [show FP.Core.infBits FP.Core.b32 = 2139095040 by decide]; exact hm) (by rw [p3, zx, zc, FP.Core.qmin_b32, Nat.mul_one]; exact Nat.le_of_eq h.symm)
  rw [FP.Core.mag_toNat32] at hm2
  exact Nat.le_trans hm2 (Nat.mod_le _ _)
theorem v2f : FP.Core.val32 1073741824 = .fin false 8388608 (-22) := by decide +kernel
theorem v1f : FP.Core.val32 1065353216 = .fin false 8388608 (-23) := by decide +kernel
theorem v23f : FP.Core.val32 1258291200 = .fin false 8388608 0 := by decide +kernel
/-- half of a number that is not small -/
theorem half32 {x : UInt32} (hx : x.toNat < 2139095040) (h2 : 2 * 8388608 ≤ x.toNat) : (FP.fdiv x 1073741824).toNat = x.toNat - 8388608 := by
  have fx : FP.Core.FFin x := (FP.Core.fin_bits32 x).mpr (by omega)
  have zx := FP.Core.zmag_toNat32 (a := x) fx.ne_nan
  rw [Nat.mod_eq_of_lt (by omega)] at zx
  have sx := FP.Core.sgn_bits32 (a := x) fx.ne_nan
  rw [decide_eq_false (by omega)] at sx
  have vx := FP.Core.val32_fits x
  have eD := FP.Core.val32_fdiv x 1073741824
  obtain ⟨s, a, q, ex⟩ := fx
  rw [ex] at zx sx vx
  rw [ex, v2f] at eD
  have hs : s = false := sx
  subst hs
  have eD2 : FP.Core.val32 (FP.fdiv x 1073741824) = FP.Core.roundRatio FP.Core.b32 false a 8388608 (q - (-22)) := eD
  have hq : FP.Core.b32.qmin ≤ q := vx.2.1
  have hqm : FP.Core.b32.qmin = -149 := by decide
  have hn : FP.Core.val32 (FP.fdiv x 1073741824) ≠ .nan := by rw [eD2]; exact FP.Core.roundRatio_ne_nan _ _ _ _ _
  have hs2 : FP.Core.sgn (FP.Core.val32 (FP.fdiv x 1073741824)) = false := by rw [eD2, FP.Core.sgn_roundRatio]
  rw [FP.Core.sgn_bits32 hn] at hs2
  have hs3 : ¬ 2 ^ 31 ≤ (FP.fdiv x 1073741824).toNat := of_decide_eq_false hs2
  have hU := units_dbl (f := FP.Core.b32) (m := x.toNat - 8388608) (by rw [show FP.Core.b32.tails = 8388608 by decide]; omega)
  rw [show FP.Core.b32.tails = 8388608 by decide, Nat.sub_add_cancel (by omega)] at hU
  have h1 : FP.Core.inUnits a (q - (-22)) (2 * FP.Core.b32.qmin) = FP.Core.unitsOf FP.Core.b32 (x.toNat - 8388608) * 2 ^ (FP.Core.b32.qmin - 2 * FP.Core.b32.qmin).toNat * 8388608 := by
    have h3 : a * 2 ^ (q - FP.Core.b32.qmin).toNat = FP.Core.unitsOf FP.Core.b32 x.toNat := zx
    rw [inU, show (q - (-22) - 2 * FP.Core.b32.qmin).toNat = (q - FP.Core.b32.qmin).toNat + 171 by omega, Nat.pow_add, ← Nat.mul_assoc, h3, hU, hqm]
    rw [show ((-149 : Int) - 2 * (-149)).toNat = 149 by decide]
    omega
  have l1 := FP.Core.mag_le FP.Core.good_b32 (n := (FP.fdiv x 1073741824).toNat) (m := x.toNat - 8388608) (s := false) (A := a) (B := 8388608) (e := q - (-22)) (e0 := 2 * FP.Core.b32.qmin) eD2 (by decide) (by decide) (by omega) (Nat.le_of_eq h1)
  have l2 := FP.Core.mag_ge FP.Core.good_b32 (n := (FP.fdiv x 1073741824).toNat) (m := x.toNat - 8388608) (s := false) (A := a) (B := 8388608) (e := q - (-22)) (e0 := 2 * FP.Core.b32.qmin) eD2 (by decide) (by decide) (by omega) (by rw [show FP.Core.infBits FP.Core.b32 = 2139095040 by decide]; omega) (Nat.le_of_eq h1.symm)
  rw [FP.Core.mag_toNat32, Nat.mod_eq_of_lt (by omega)] at l1 l2
  exact Nat.le_antisymm l1 l2
/-- twice a number, in its bits -/
def dbl32 (m : Nat) : Nat := if m < 8388608 then 2 * m else m + 8388608
theorem dbl32_u (m : Nat) : FP.Core.unitsOf FP.Core.b32 (dbl32 m) = 2 * FP.Core.unitsOf FP.Core.b32 m := by
  have ht : FP.Core.b32.tails = 8388608 := by decide
  unfold dbl32
  split
  · exact units_dbl0 (by rw [ht]; assumption)
  · have := units_dbl (f := FP.Core.b32) (m := m) (by rw [ht]; omega)
    rw [ht] at this; exact this
theorem twice32 {x : UInt32} (hx : x.toNat < 2130706432) : (FP.fmul x 1073741824).toNat = dbl32 x.toNat := by
  refine mul_eq32 (by omega) (by decide) (by unfold dbl32; split <;> omega) ?_
  rw [dbl32_u, show FP.Core.unitsOf FP.Core.b32 (1073741824 : UInt32).toNat = 2 ^ 150 by decide +kernel]
  omega
