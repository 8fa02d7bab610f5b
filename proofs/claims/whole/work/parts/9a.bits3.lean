/-! The bits of a double, in the same way -/
/-- a product's bits are bounded by those of a number that is as great -/
theorem mul_le64 {x c : UInt64} (hx : x.toNat < 9218868437227405312) (hc : c.toNat < 9218868437227405312) (m : Nat) (h : FP.Core.unitsOf FP.Core.b64 x.toNat * FP.Core.unitsOf FP.Core.b64 c.toNat ≤ FP.Core.unitsOf FP.Core.b64 m * 2 ^ 1074) : (FP.dmul x c).toNat ≤ m := by
  have fx : FP.Core.DFin x := (FP.Core.fin_bits x).mpr (by omega)
  have fc : FP.Core.DFin c := (FP.Core.fin_bits c).mpr (by omega)
  have zx := FP.Core.zmag_bits (a := x) fx.ne_nan
  have zc := FP.Core.zmag_bits (a := c) fc.ne_nan
  have sx := FP.Core.sgn_bits (a := x) fx.ne_nan
  have sc := FP.Core.sgn_bits (a := c) fc.ne_nan
  rw [Nat.mod_eq_of_lt (by omega)] at zx zc
  rw [decide_eq_false (by omega)] at sx sc
  have vx := FP.Core.val64_fits x
  have vc := FP.Core.val64_fits c
  obtain ⟨s, a, q, ex⟩ := fx
  obtain ⟨t, b, r, ec⟩ := fc
  rw [ex] at zx sx vx
  rw [ec] at zc sc vc
  obtain ⟨p1, p2, p3⟩ := FP.Core.product_units vx vc
  have e := FP.Core.val64_dmul x c
  rw [ex, ec, p1] at e
  have hs : FP.Core.sgn (FP.Core.val64 (FP.Core.dmul x c)) = false := by
    rw [e]
    show FP.Core.sgn (FP.Core.roundRatio _ _ _ _ _) = false
    rw [FP.Core.sgn_roundRatio]
    have h1 : s = false := sx
    have h2 : t = false := sc
    rw [h1, h2]; rfl
  have hn : FP.Core.val64 (FP.Core.dmul x c) ≠ .nan := by rw [e]; exact FP.Core.roundRatio_ne_nan _ _ _ _ _
  rw [FP.Core.sgn_bits hn] at hs
  have hs2 : ¬ 2 ^ 63 ≤ (FP.Core.dmul x c).toNat := of_decide_eq_false hs
  have hm := FP.Core.mag_le FP.Core.good_b64 (n := (FP.Core.dmul x c).toNat) (m := m) (s := s != t) (A := a * b) (B := 1) (e := q + r) (e0 := 2 * FP.Core.b64.qmin) e (by decide) (by decide) p2 (by rw [p3, zx, zc, FP.Core.qmin_b64, Nat.mul_one]; exact h)
  rw [FP.Core.mag_toNat64, Nat.mod_eq_of_lt (by omega)] at hm
  exact hm
/-- a product that is exact -/
theorem mul_eq64 {x c : UInt64} (hx : x.toNat < 9218868437227405312) (hc : c.toNat < 9218868437227405312) {m : Nat} (hm : m ≤ 9218868437227405312) (h : FP.Core.unitsOf FP.Core.b64 x.toNat * FP.Core.unitsOf FP.Core.b64 c.toNat = FP.Core.unitsOf FP.Core.b64 m * 2 ^ 1074) : (FP.dmul x c).toNat = m := by
  refine Nat.le_antisymm (mul_le64 hx hc m (Nat.le_of_eq h)) ?_
  have fx : FP.Core.DFin x := (FP.Core.fin_bits x).mpr (by omega)
  have fc : FP.Core.DFin c := (FP.Core.fin_bits c).mpr (by omega)
  have zx := FP.Core.zmag_bits (a := x) fx.ne_nan
  have zc := FP.Core.zmag_bits (a := c) fc.ne_nan
  rw [Nat.mod_eq_of_lt (by omega)] at zx zc
  have vx := FP.Core.val64_fits x
  have vc := FP.Core.val64_fits c
  obtain ⟨s, a, q, ex⟩ := fx
  obtain ⟨t, b, r, ec⟩ := fc
  rw [ex] at zx vx
  rw [ec] at zc vc
  obtain ⟨p1, p2, p3⟩ := FP.Core.product_units vx vc
  have e := FP.Core.val64_dmul x c
  rw [ex, ec, p1] at e
  have hm2 := FP.Core.mag_ge FP.Core.good_b64 (n := (FP.Core.dmul x c).toNat) (m := m) (s := s != t) (A := a * b) (B := 1) (e := q + r) (e0 := 2 * FP.Core.b64.qmin) e (by decide) (by decide) p2 (by rw [show FP.Core.infBits FP.Core.b64 = 9218868437227405312 by decide]; exact hm) (by rw [p3, zx, zc, FP.Core.qmin_b64, Nat.mul_one]; exact Nat.le_of_eq h.symm)
  rw [FP.Core.mag_toNat64] at hm2
  exact Nat.le_trans hm2 (Nat.mod_le _ _)
theorem v2d : FP.Core.val64 4611686018427387904 = .fin false 4503599627370496 (-51) := by decide +kernel
theorem v1d : FP.Core.val64 4607182418800017408 = .fin false 4503599627370496 (-52) := by decide +kernel
theorem v52d : FP.Core.val64 4841369599423283200 = .fin false 4503599627370496 0 := by decide +kernel
/-- half of a number that is not small -/
theorem half64 {x : UInt64} (hx : x.toNat < 9218868437227405312) (h2 : 2 * 4503599627370496 ≤ x.toNat) : (FP.ddiv x 4611686018427387904).toNat = x.toNat - 4503599627370496 := by
  have fx : FP.Core.DFin x := (FP.Core.fin_bits x).mpr (by omega)
  have zx := FP.Core.zmag_bits (a := x) fx.ne_nan
  rw [Nat.mod_eq_of_lt (by omega)] at zx
  have sx := FP.Core.sgn_bits (a := x) fx.ne_nan
  rw [decide_eq_false (by omega)] at sx
  have vx := FP.Core.val64_fits x
  have eD := FP.Core.val64_ddiv x 4611686018427387904
  obtain ⟨s, a, q, ex⟩ := fx
  rw [ex] at zx sx vx
  rw [ex, v2d] at eD
  have hs : s = false := sx
  subst hs
  have eD2 : FP.Core.val64 (FP.ddiv x 4611686018427387904) = FP.Core.roundRatio FP.Core.b64 false a 4503599627370496 (q - (-51)) := eD
  have hq : FP.Core.b64.qmin ≤ q := vx.2.1
  have hqm : FP.Core.b64.qmin = -1074 := by decide
  have hn : FP.Core.val64 (FP.ddiv x 4611686018427387904) ≠ .nan := by rw [eD2]; exact FP.Core.roundRatio_ne_nan _ _ _ _ _
  have hs2 : FP.Core.sgn (FP.Core.val64 (FP.ddiv x 4611686018427387904)) = false := by rw [eD2, FP.Core.sgn_roundRatio]
  rw [FP.Core.sgn_bits hn] at hs2
  have hs3 : ¬ 2 ^ 63 ≤ (FP.ddiv x 4611686018427387904).toNat := of_decide_eq_false hs2
  have hU := units_dbl (f := FP.Core.b64) (m := x.toNat - 4503599627370496) (by rw [show FP.Core.b64.tails = 4503599627370496 by decide]; omega)
  rw [show FP.Core.b64.tails = 4503599627370496 by decide, Nat.sub_add_cancel (by omega)] at hU
  have h1 : FP.Core.inUnits a (q - (-51)) (2 * FP.Core.b64.qmin) = FP.Core.unitsOf FP.Core.b64 (x.toNat - 4503599627370496) * 2 ^ (FP.Core.b64.qmin - 2 * FP.Core.b64.qmin).toNat * 4503599627370496 := by
    have h3 : a * 2 ^ (q - FP.Core.b64.qmin).toNat = FP.Core.unitsOf FP.Core.b64 x.toNat := zx
    rw [inU, show (q - (-51) - 2 * FP.Core.b64.qmin).toNat = (q - FP.Core.b64.qmin).toNat + 1125 by omega, Nat.pow_add, ← Nat.mul_assoc, h3, hU, hqm]
    rw [show ((-1074 : Int) - 2 * (-1074)).toNat = 1074 by decide]
    omega
  have l1 := FP.Core.mag_le FP.Core.good_b64 (n := (FP.ddiv x 4611686018427387904).toNat) (m := x.toNat - 4503599627370496) (s := false) (A := a) (B := 4503599627370496) (e := q - (-51)) (e0 := 2 * FP.Core.b64.qmin) eD2 (by decide) (by decide) (by omega) (Nat.le_of_eq h1)
  have l2 := FP.Core.mag_ge FP.Core.good_b64 (n := (FP.ddiv x 4611686018427387904).toNat) (m := x.toNat - 4503599627370496) (s := false) (A := a) (B := 4503599627370496) (e := q - (-51)) (e0 := 2 * FP.Core.b64.qmin) eD2 (by decide) (by decide) (by omega) (by rw [show FP.Core.infBits FP.Core.b64 = 9218868437227405312 by decide]; omega) (Nat.le_of_eq h1.symm)
  rw [FP.Core.mag_toNat64, Nat.mod_eq_of_lt (by omega)] at l1 l2
  exact Nat.le_antisymm l1 l2
/-- twice a number, in its bits -/
def dbl64 (m : Nat) : Nat := if m < 4503599627370496 then 2 * m else m + 4503599627370496
theorem dbl64_u (m : Nat) : FP.Core.unitsOf FP.Core.b64 (dbl64 m) = 2 * FP.Core.unitsOf FP.Core.b64 m := by
  have ht : FP.Core.b64.tails = 4503599627370496 := by decide
  unfold dbl64
  split
  · exact units_dbl0 (by rw [ht]; assumption)
  · have := units_dbl (f := FP.Core.b64) (m := m) (by rw [ht]; omega)
    rw [ht] at this; exact this
theorem twice64 {x : UInt64} (hx : x.toNat < 9214364837600034816) : (FP.dmul x 4611686018427387904).toNat = dbl64 x.toNat := by
  refine mul_eq64 (by omega) (by decide) (by unfold dbl64; split <;> omega) ?_
  rw [dbl64_u, show FP.Core.unitsOf FP.Core.b64 (4611686018427387904 : UInt64).toNat = 2 ^ 1075 by decide +kernel]
  omega
/-- what remains when one is taken away, in whole steps -/
theorem rest64 {y : UInt64} (hy : y.toNat < 9218868437227405312) {m : Nat} (hm : m < 9007199254740992) (hu : FP.Core.unitsOf FP.Core.b64 y.toNat = m * 2 ^ 1022) :
    vf_n64 (FP.dsub y 4607182418800017408) ∧ vf_n64 (FP.dmul (FP.dsub y 4607182418800017408) 4841369599423283200) ∧ (FP.d2l (FP.dmul (FP.dsub y 4607182418800017408) 4841369599423283200)).toInt = (m : Int) - 4503599627370496 := by
  have fx : FP.Core.DFin y := (FP.Core.fin_bits y).mpr (by omega)
  have zx := FP.Core.zmag_bits (a := y) fx.ne_nan
  rw [Nat.mod_eq_of_lt (by omega), hu] at zx
  have sx := FP.Core.sgn_bits (a := y) fx.ne_nan
  rw [decide_eq_false (by omega)] at sx
  have vx := FP.Core.val64_fits y
  have v1 := FP.Core.val64_fits 4607182418800017408
  have e := FP.Core.val64_dsub y 4607182418800017408
  obtain ⟨s, a, q, ex⟩ := fx
  rw [ex] at zx sx vx
  rw [ex, v1d] at e
  rw [v1d] at v1
  have hs : s = false := sx
  subst hs
  obtain ⟨sg, n, e1, p1, p2, p3⟩ := FP.Core.sum_units vx (FP.Core.negate_fits v1)
  rw [show FP.Core.exactSum (.fin false a q) (FP.Core.negate (.fin false 4503599627370496 (-52))) = _ from p1] at e
  have z1 : FP.Core.zval FP.Core.b64 (.fin false a q) = ((m * 2 ^ 1022 : Nat) : Int) := by rw [← zx]; rfl
  have z2 : FP.Core.zval FP.Core.b64 (.fin (!false) 4503599627370496 (-52)) = -((4503599627370496 * 2 ^ 1022 : Nat) : Int) := by decide +kernel
  rw [z1, z2] at p3
  have hqm : FP.Core.b64.qmin = -1074 := by decide
  -- the size of the difference
  obtain ⟨w, hw, hw2⟩ : ∃ w : Nat, FP.Core.inUnits n e1 FP.Core.b64.qmin = w * 2 ^ 1022 ∧ FP.Core.signed sg w = (m : Int) - 4503599627370496 := by
    cases sg with
    | false =>
      have g : FP.Core.signed false (FP.Core.inUnits n e1 FP.Core.b64.qmin) = (FP.Core.inUnits n e1 FP.Core.b64.qmin : Int) := rfl
      rw [g] at p3
      refine ⟨m - 4503599627370496, by omega, ?_⟩
      show ((m - 4503599627370496 : Nat) : Int) = _
      omega
    | true =>
      have g : FP.Core.signed true (FP.Core.inUnits n e1 FP.Core.b64.qmin) = -(FP.Core.inUnits n e1 FP.Core.b64.qmin : Int) := rfl
      rw [g] at p3
      refine ⟨4503599627370496 - m, by omega, ?_⟩
      show -((4503599627370496 - m : Nat) : Int) = _
      omega
  have hwl : w < 2 ^ FP.Core.b64.p := by
    rw [show 2 ^ FP.Core.b64.p = 9007199254740992 by decide]
    cases sg with
    | false => have : FP.Core.signed false w = (w : Int) := rfl
               omega
    | true => have : FP.Core.signed true w = -(w : Int) := rfl
              omega
  obtain ⟨c1, q1, hV, hU⟩ := FP.Core.round_exact FP.Core.good_b64 sg (c := w) (q := -52) hwl (by decide) (by decide)
  have e2 : FP.Core.val64 (FP.dsub y 4607182418800017408) = .fin sg c1 q1 := by
    rw [← hV, ← FP.Core.round_inUnits (f := FP.Core.b64) sg w (q := -52) (e := FP.Core.b64.qmin) (by decide)]
    rw [show FP.Core.inUnits w (-52) FP.Core.b64.qmin = w * 2 ^ 1022 by rw [inU, hqm]; rfl, ← hw, FP.Core.round_inUnits (f := FP.Core.b64) sg n p2]
    exact e
  have f1 : FP.Core.DFin (FP.dsub y 4607182418800017408) := ⟨_, _, _, e2⟩
  have v2 := FP.Core.val64_fits (FP.dsub y 4607182418800017408)
  have v3 := FP.Core.val64_fits 4841369599423283200
  rw [e2] at v2
  rw [v52d] at v3
  obtain ⟨r1, r2, r3⟩ := FP.Core.product_units v2 v3
  have e3 := FP.Core.val64_dmul (FP.dsub y 4607182418800017408) 4841369599423283200
  rw [e2, v52d, r1] at e3
  have hz : FP.Core.zmag FP.Core.b64 (.fin sg c1 q1) = w * 2 ^ 1022 := by
    show FP.Core.inUnits c1 q1 FP.Core.b64.qmin = _
    rw [hU, inU, hqm]; rfl
  rw [hz, show FP.Core.zmag FP.Core.b64 (.fin false 4503599627370496 0) = 2 ^ 1126 by decide +kernel] at r3
  obtain ⟨c2, q2, hV2, hU2⟩ := FP.Core.round_exact FP.Core.good_b64 sg (c := w) (q := 0) hwl (by decide) (by decide)
  have e4 : FP.Core.val64 (FP.dmul (FP.dsub y 4607182418800017408) 4841369599423283200) = .fin sg c2 q2 := by
    rw [← hV2, ← FP.Core.round_inUnits (f := FP.Core.b64) sg w (q := 0) (e := 2 * FP.Core.b64.qmin) (by decide)]
    rw [show FP.Core.inUnits w 0 (2 * FP.Core.b64.qmin) = w * 2 ^ 1022 * 2 ^ 1126 by rw [inU, hqm, Nat.mul_assoc, ← Nat.pow_add]; rfl, ← r3, FP.Core.round_inUnits (f := FP.Core.b64) sg _ r2]
    have hx : (sg != false) = sg := by cases sg <;> rfl
    rw [hx] at e3
    exact e3
  have f2 : FP.Core.DFin (FP.dmul (FP.dsub y 4607182418800017408) 4841369599423283200) := ⟨_, _, _, e4⟩
  refine ⟨nnD f1.notNaN, nnD f2.notNaN, ?_⟩
  have h := FP.Core.d2l_val (a := FP.dmul (FP.dsub y 4607182418800017408) 4841369599423283200) f2.ne_nan
  have hz2 : FP.Core.zmag FP.Core.b64 (.fin sg c2 q2) = w * 2 ^ 1074 := by
    show FP.Core.inUnits c2 q2 FP.Core.b64.qmin = _
    rw [hU2, inU, hqm]; rfl
  rw [e4, hz2, show FP.Core.one64 = 2 ^ 1074 by decide +kernel, Nat.mul_div_cancel _ (Nat.two_pow_pos _)] at h
  have h5 : FP.Core.signed (FP.Core.sgn (.fin sg c2 q2)) w = (m : Int) - 4503599627370496 := hw2
  rw [h5] at h
  have h6 : (FP.d2l (FP.dmul (FP.dsub y 4607182418800017408) 4841369599423283200)).toInt = _ := h
  rw [h6]
  omega
/-- at the end: the exponent and the rest give the bits -/
theorem last64 {x y : UInt64} {a b : Nat} (hab : (b = 0 ∧ y.toNat + a * 4503599627370496 = x.toNat ∧ y.toNat < 1024 * 4503599627370496 ∧ 1023 * 4503599627370496 ≤ y.toNat) ∨ (a = 0 ∧ b ≤ 1022 ∧ FP.Core.unitsOf FP.Core.b64 y.toNat = FP.Core.unitsOf FP.Core.b64 x.toNat * 2 ^ b ∧ y.toNat < 1024 * 4503599627370496 ∧ (1023 * 4503599627370496 ≤ y.toNat ∨ b = 1022))) :
    ∃ m : Nat, m < 9007199254740992 ∧ FP.Core.unitsOf FP.Core.b64 y.toNat = m * 2 ^ 1022 ∧ (((a : Int) - b + 1023) * 4503599627370496 + ((m : Int) - 4503599627370496)) = x.toNat := by
  have ht : FP.Core.b64.tails = 4503599627370496 := by decide
  have hun : ∀ z : Nat, 1023 * 4503599627370496 ≤ z → z < 1024 * 4503599627370496 → FP.Core.unitsOf FP.Core.b64 z = (z - 1022 * 4503599627370496) * 2 ^ 1022 := by
    intro z h1 h2
    have := units_up (f := FP.Core.b64) (z := z - 1022 * 4503599627370496) (by rw [ht]; omega) 1022
    rw [ht, Nat.sub_add_cancel (by omega)] at this
    rw [this]
    have e : FP.Core.unitsOf FP.Core.b64 (z - 1022 * 4503599627370496) = z - 1022 * 4503599627370496 := by
      unfold FP.Core.unitsOf
      rw [if_neg (by rw [ht]; omega), ht]
      rw [show (z - 1022 * 4503599627370496) / 4503599627370496 = 1 by omega]
      omega
    rw [e]
  rcases hab with ⟨rfl, h1, h2, h3⟩ | ⟨rfl, h1, h2, h3, h4⟩
  · exact ⟨y.toNat - 1022 * 4503599627370496, by omega, hun _ h3 h2, by omega⟩
  · by_cases h5 : 1023 * 4503599627370496 ≤ y.toNat
    · have := units_back (f := FP.Core.b64) (K := 1023) h2 (by rw [ht]; exact h5) (by omega)
      rw [ht] at this
      exact ⟨y.toNat - 1022 * 4503599627370496, by omega, hun _ h5 h3, by omega⟩
    · obtain rfl : b = 1022 := by omega
      have h6 : FP.Core.unitsOf FP.Core.b64 y.toNat < FP.Core.unitsOf FP.Core.b64 (1023 * 4503599627370496) := FP.Core.unitsOf_lt (by omega)
      rw [hun _ (Nat.le_refl _) (by decide), h2] at h6
      have h7 : FP.Core.unitsOf FP.Core.b64 x.toNat < 4503599627370496 := by omega
      have h8 : FP.Core.unitsOf FP.Core.b64 4503599627370496 = 4503599627370496 := by decide +kernel
      rw [← h8, FP.Core.unitsOf_lt_iff] at h7
      have h9 : FP.Core.unitsOf FP.Core.b64 x.toNat = x.toNat := by unfold FP.Core.unitsOf; rw [if_pos (by rw [ht]; exact h7)]
      exact ⟨x.toNat, by omega, by rw [h2, h9], by omega⟩
