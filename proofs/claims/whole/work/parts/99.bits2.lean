/-- what remains when one is taken away, in whole steps -/
theorem rest32 {y : UInt32} (hy : y.toNat < 2139095040) {m : Nat} (hm : m < 16777216) (hu : FP.Core.unitsOf FP.Core.b32 y.toNat = m * 2 ^ 126) :
    vf_n32 (FP.fsub y 1065353216) ∧ vf_n32 (FP.fmul (FP.fsub y 1065353216) 1258291200) ∧ (FP.f2i (FP.fmul (FP.fsub y 1065353216) 1258291200)).toInt = (m : Int) - 8388608 := by
  have fx : FP.Core.FFin y := (FP.Core.fin_bits32 y).mpr (by omega)
  have zx := FP.Core.zmag_toNat32 (a := y) fx.ne_nan
  rw [Nat.mod_eq_of_lt (by omega), hu] at zx
  have sx := FP.Core.sgn_bits32 (a := y) fx.ne_nan
  rw [decide_eq_false (by omega)] at sx
  have vx := FP.Core.val32_fits y
  have v1 := FP.Core.val32_fits 1065353216
  have e := FP.Core.val32_fsub y 1065353216
  obtain ⟨s, a, q, ex⟩ := fx
  rw [ex] at zx sx vx
  rw [ex, v1f] at e
  rw [v1f] at v1
  have hs : s = false := sx
  subst hs
  obtain ⟨sg, n, e1, p1, p2, p3⟩ := FP.Core.sum_units vx (FP.Core.negate_fits v1)
  rw [show FP.Core.exactSum (.fin false a q) (FP.Core.negate (.fin false 8388608 (-23))) = _ from p1] at e
  have z1 : FP.Core.zval FP.Core.b32 (.fin false a q) = ((m * 2 ^ 126 : Nat) : Int) := by rw [← zx]; rfl
  have z2 : FP.Core.zval FP.Core.b32 (.fin (!false) 8388608 (-23)) = -((8388608 * 2 ^ 126 : Nat) : Int) := by decide +kernel
  rw [z1, z2] at p3
  have hqm : FP.Core.b32.qmin = -149 := by decide
  -- the size of the difference
  obtain ⟨w, hw, hw2⟩ : ∃ w : Nat, FP.Core.inUnits n e1 FP.Core.b32.qmin = w * 2 ^ 126 ∧ FP.Core.signed sg w = (m : Int) - 8388608 := by
    cases sg with
    | false =>
      have g : FP.Core.signed false (FP.Core.inUnits n e1 FP.Core.b32.qmin) = (FP.Core.inUnits n e1 FP.Core.b32.qmin : Int) := rfl
      rw [g] at p3
      refine ⟨m - 8388608, by omega, ?_⟩
      show ((m - 8388608 : Nat) : Int) = _
      omega
    | true =>
      have g : FP.Core.signed true (FP.Core.inUnits n e1 FP.Core.b32.qmin) = -(FP.Core.inUnits n e1 FP.Core.b32.qmin : Int) := rfl
      rw [g] at p3
      refine ⟨8388608 - m, by omega, ?_⟩
      show -((8388608 - m : Nat) : Int) = _
      omega
  have hwl : w < 2 ^ FP.Core.b32.p := by
    rw [show 2 ^ FP.Core.b32.p = 16777216 by decide]
    cases sg with
    | false => have : FP.Core.signed false w = (w : Int) := rfl
               omega
    | true => have : FP.Core.signed true w = -(w : Int) := rfl
              omega
  obtain ⟨c1, q1, hV, hU⟩ := FP.Core.round_exact FP.Core.good_b32 sg (c := w) (q := -23) hwl (by decide) (by decide)
  have e2 : FP.Core.val32 (FP.fsub y 1065353216) = .fin sg c1 q1 := by
    rw [← hV, ← FP.Core.round_inUnits (f := FP.Core.b32) sg w (q := -23) (e := FP.Core.b32.qmin) (by decide)]
    rw [show FP.Core.inUnits w (-23) FP.Core.b32.qmin = w * 2 ^ 126 by rw [inU, hqm]; rfl, ← hw, FP.Core.round_inUnits (f := FP.Core.b32) sg n p2]
    exact e
  have f1 : FP.Core.FFin (FP.fsub y 1065353216) := ⟨_, _, _, e2⟩
  have v2 := FP.Core.val32_fits (FP.fsub y 1065353216)
  have v3 := FP.Core.val32_fits 1258291200
  rw [e2] at v2
  rw [v23f] at v3
  obtain ⟨r1, r2, r3⟩ := FP.Core.product_units v2 v3
  have e3 := FP.Core.val32_fmul (FP.fsub y 1065353216) 1258291200
  rw [e2, v23f, r1] at e3
  have hz : FP.Core.zmag FP.Core.b32 (.fin sg c1 q1) = w * 2 ^ 126 := by
    show FP.Core.inUnits c1 q1 FP.Core.b32.qmin = _
    rw [hU, inU, hqm]; rfl
  rw [hz, show FP.Core.zmag FP.Core.b32 (.fin false 8388608 0) = 2 ^ 172 by decide +kernel] at r3
  obtain ⟨c2, q2, hV2, hU2⟩ := FP.Core.round_exact FP.Core.good_b32 sg (c := w) (q := 0) hwl (by decide) (by decide)
  have e4 : FP.Core.val32 (FP.fmul (FP.fsub y 1065353216) 1258291200) = .fin sg c2 q2 := by
    rw [← hV2, ← FP.Core.round_inUnits (f := FP.Core.b32) sg w (q := 0) (e := 2 * FP.Core.b32.qmin) (by decide)]
    rw [show FP.Core.inUnits w 0 (2 * FP.Core.b32.qmin) = w * 2 ^ 126 * 2 ^ 172 by rw [inU, hqm, Nat.mul_assoc, ← Nat.pow_add]; rfl, ← r3, FP.Core.round_inUnits (f := FP.Core.b32) sg _ r2]
    have hx : (sg != false) = sg := by cases sg <;> rfl
    rw [hx] at e3
    exact e3
  have f2 : FP.Core.FFin (FP.fmul (FP.fsub y 1065353216) 1258291200) := ⟨_, _, _, e4⟩
  refine ⟨nnF f1.notNaN, nnF f2.notNaN, ?_⟩
  have h := FP.Core.f2i_val (a := FP.fmul (FP.fsub y 1065353216) 1258291200) f2.ne_nan
  have hz2 : FP.Core.zmag FP.Core.b32 (.fin sg c2 q2) = w * 2 ^ 149 := by
    show FP.Core.inUnits c2 q2 FP.Core.b32.qmin = _
    rw [hU2, inU, hqm]; rfl
  rw [e4, hz2, show FP.Core.one32 = 2 ^ 149 by decide +kernel, Nat.mul_div_cancel _ (Nat.two_pow_pos _)] at h
  have h5 : FP.Core.signed (FP.Core.sgn (.fin sg c2 q2)) w = (m : Int) - 8388608 := hw2
  rw [h5] at h
  have h6 : (FP.f2i (FP.fmul (FP.fsub y 1065353216) 1258291200)).toInt = _ := h
  rw [h6]
  omega
/-- at the end: the exponent and the rest give the bits -/
theorem last32 {x y : UInt32} {a b : Nat} (hab : (b = 0 ∧ y.toNat + a * 8388608 = x.toNat ∧ y.toNat < 128 * 8388608 ∧ 127 * 8388608 ≤ y.toNat) ∨ (a = 0 ∧ b ≤ 126 ∧ FP.Core.unitsOf FP.Core.b32 y.toNat = FP.Core.unitsOf FP.Core.b32 x.toNat * 2 ^ b ∧ y.toNat < 128 * 8388608 ∧ (127 * 8388608 ≤ y.toNat ∨ b = 126))) :
    ∃ m : Nat, m < 16777216 ∧ FP.Core.unitsOf FP.Core.b32 y.toNat = m * 2 ^ 126 ∧ (((a : Int) - b + 127) * 8388608 + ((m : Int) - 8388608)) = x.toNat := by
  have ht : FP.Core.b32.tails = 8388608 := by decide
  have hun : ∀ z : Nat, 127 * 8388608 ≤ z → z < 128 * 8388608 → FP.Core.unitsOf FP.Core.b32 z = (z - 126 * 8388608) * 2 ^ 126 := by
    intro z h1 h2
    have := units_up (f := FP.Core.b32) (z := z - 126 * 8388608) (by rw [ht]; omega) 126
    rw [ht, Nat.sub_add_cancel (by omega)] at this
    rw [this]
    have e : FP.Core.unitsOf FP.Core.b32 (z - 126 * 8388608) = z - 126 * 8388608 := by
      unfold FP.Core.unitsOf
      rw [if_neg (by rw [ht]; omega), ht]
      rw [show (z - 126 * 8388608) / 8388608 = 1 by omega]
      omega
    rw [e]
  rcases hab with ⟨rfl, h1, h2, h3⟩ | ⟨rfl, h1, h2, h3, h4⟩
  · exact ⟨y.toNat - 126 * 8388608, by omega, hun _ h3 h2, by omega⟩
  · by_cases h5 : 127 * 8388608 ≤ y.toNat
    · have := units_back (f := FP.Core.b32) (K := 127) h2 (by rw [ht]; exact h5) (by omega)
      rw [ht] at this
      exact ⟨y.toNat - 126 * 8388608, by omega, hun _ h5 h3, by omega⟩
    · obtain rfl : b = 126 := by omega
      have h6 : FP.Core.unitsOf FP.Core.b32 y.toNat < FP.Core.unitsOf FP.Core.b32 (127 * 8388608) := FP.Core.unitsOf_lt (by omega)
      rw [hun _ (Nat.le_refl _) (by decide), h2] at h6
      have h7 : FP.Core.unitsOf FP.Core.b32 x.toNat < 8388608 := by omega
      have h8 : FP.Core.unitsOf FP.Core.b32 8388608 = 8388608 := by decide +kernel
      rw [← h8, FP.Core.unitsOf_lt_iff] at h7
      have h9 : FP.Core.unitsOf FP.Core.b32 x.toNat = x.toNat := by unfold FP.Core.unitsOf; rw [if_pos (by rw [ht]; exact h7)]
      exact ⟨x.toNat, by omega, by rw [h2, h9], by omega⟩
