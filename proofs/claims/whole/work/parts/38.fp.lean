/-- the money back for a lot -/
def backV (paid : Int32) (fr : UInt32) : Int32 := FP.f2i (FP.fdiv (FP.fmul (FP.i2f paid) (FP.fsub 1116471296 fr)) 1120403456)
/-! Floats that are no NaN -/
theorem nn32 {a : UInt32} (h : a.toNat % 2 ^ 31 ≤ 2139095040) : vf_n32 a := by
  unfold vf_n32
  rw [UInt32.le_iff_toNat_le, FP.Core.mask_toNat32]
  exact h
theorem nn64 {a : UInt64} (h : a.toNat % 2 ^ 63 ≤ 9218868437227405312) : vf_n64 a := by
  unfold vf_n64
  rw [UInt64.le_iff_toNat_le, FP.Core.mask_toNat]
  exact h
/-- a freshness: at most 100 -/
def fo (x : UInt32) : Prop := x.toNat ≤ 1120403456
theorem fo_mag {x : UInt32} (h : fo x) : x.toNat % 2 ^ 31 < 134 * 2 ^ 23 := by unfold fo at h; omega
theorem fo_fin {x : UInt32} (h : fo x) : FP.Core.FFin x := FP.Core.fin_of_lt32 (fo_mag h) (by decide)
theorem fo_f2d {x : UInt32} (h : fo x) : FP.f2d x = FP.Core.f2d x := FP.f2d_core (by rw [FP.fIsNaN_core, FP.Core.notNaN_iff32, FP.Core.ne_nan32]; unfold fo at h; omega)
theorem nn_i2d (v : Int32) : (FP.ddiv (FP.i2d v) 4636737291354636288).toNat % 2 ^ 63 < 1056 * 2 ^ 52 := by
  have h := FP.Core.ddiv_mag (a := FP.i2d v) (b := 4636737291354636288) (K := 1056) (L := 1029) (FP.Core.i2d_mag v) (by decide) (by decide) (by decide) (by decide)
  show (FP.Core.ddiv _ _).toNat % 2 ^ 63 < _
  omega
theorem nn_off1 (v : Int32) : vf_n64 (FP.ddiv (FP.i2d v) 4636737291354636288) := nn64 (by have := nn_i2d v; omega)
theorem nnF {a : UInt32} (h : FP.Core.fIsNaN a = false) : vf_n32 a := nn32 ((FP.Core.ne_nan32 a).mp ((FP.Core.notNaN_iff32 a).mp h))
theorem nnD {a : UInt64} (h : FP.Core.dIsNaN a = false) : vf_n64 a := nn64 ((FP.Core.ne_nan a).mp ((FP.Core.notNaN_iff a).mp h))
theorem off1_fin (v : Int32) : FP.Core.DFin (FP.ddiv (FP.i2d v) 4636737291354636288) := FP.Core.fin_of_lt (nn_i2d v) (by decide)
theorem nn_off2 {x : UInt32} (h : fo x) : vf_n64 (FP.f2d x) := by
  rw [fo_f2d h]; exact nnD (FP.Core.f2d_fin (fo_fin h)).notNaN
theorem off3_nan (v : Int32) {x : UInt32} (h : fo x) : FP.Core.dIsNaN (FP.dmul (FP.ddiv (FP.i2d v) 4636737291354636288) (FP.f2d x)) = false := by
  rw [fo_f2d h]; exact FP.Core.dmul_out (off1_fin v) (FP.Core.f2d_fin (fo_fin h))
theorem nn_off3 (v : Int32) {x : UInt32} (h : fo x) : vf_n64 (FP.dmul (FP.ddiv (FP.i2d v) 4636737291354636288) (FP.f2d x)) := nnD (off3_nan v h)
theorem d100_fin : FP.Core.DFin 4636737291354636288 := (FP.Core.fin_bits _).mpr (by decide)
theorem d100_nz : ¬ FP.Core.DZero 4636737291354636288 := fun h => absurd ((FP.Core.zero_bits2 _).mp h) (by decide)
theorem nn_off4 (v : Int32) {x : UInt32} (h : fo x) : vf_n64 (FP.ddiv (FP.dmul (FP.ddiv (FP.i2d v) 4636737291354636288) (FP.f2d x)) 4636737291354636288) := nnD (FP.Core.ddiv_out (off3_nan v h) d100_fin d100_nz)
theorem nn_share (a : Int32) {b : Int32} (h : ¬ b = 0) : vf_n32 (FP.fdiv (FP.i2f a) (FP.i2f b)) :=
  nnF (FP.Core.fdiv_out (FP.Core.i2f_fin a).notNaN (FP.Core.i2f_fin b) (fun q => FP.Core.i2f_ne_zero h ((FP.Core.zero_bits232 _).mp q)))
theorem nn_mean (a : Int64) {b : Int32} (h : ¬ b = 0) : vf_n64 (FP.ddiv (FP.l2d a) (FP.i2d b)) :=
  nnD (FP.Core.ddiv_out (FP.Core.l2d_fin a).notNaN (FP.Core.i2d_fin b) (fun q => FP.Core.i2d_ne_zero h ((FP.Core.zero_bits2 _).mp q)))
/-- a product's bits are bounded by those of a number that is as great -/
theorem mul_le32 {x c : UInt32} (hx : x.toNat < 2139095040) (hc : c.toNat < 2139095040) (m : Nat) (h : FP.Core.unitsOf FP.Core.b32 x.toNat * FP.Core.unitsOf FP.Core.b32 c.toNat ≤ FP.Core.unitsOf FP.Core.b32 m * 2 ^ 149) : (FP.fmul x c).toNat ≤ m := by
  have fx : FP.Core.FFin x := (FP.Core.fin_bits32 x).mpr (by omega)
  have fc : FP.Core.FFin c := (FP.Core.fin_bits32 c).mpr (by omega)
  have zx := FP.Core.zmag_toNat32 (a := x) fx.ne_nan
  have zc := FP.Core.zmag_toNat32 (a := c) fc.ne_nan
  have sx := FP.Core.sgn_bits32 (a := x) fx.ne_nan
  have sc := FP.Core.sgn_bits32 (a := c) fc.ne_nan
  rw [Nat.mod_eq_of_lt (by omega)] at zx zc
  rw [decide_eq_false (by omega)] at sx sc
  have vx := FP.Core.val32_fits x
  have vc := FP.Core.val32_fits c
  obtain ⟨s, a, q, ex⟩ := fx
  obtain ⟨t, b, r, ec⟩ := fc
  rw [ex] at zx sx vx
  rw [ec] at zc sc vc
  obtain ⟨p1, p2, p3⟩ := FP.Core.product_units vx vc
  have e := FP.Core.val32_fmul x c
  rw [ex, ec, p1] at e
  have hs : FP.Core.sgn (FP.Core.val32 (FP.Core.fmul x c)) = false := by
    rw [e]
    show FP.Core.sgn (FP.Core.roundRatio _ _ _ _ _) = false
    rw [FP.Core.sgn_roundRatio]
    have h1 : s = false := sx
    have h2 : t = false := sc
    rw [h1, h2]; rfl
  have hn : FP.Core.val32 (FP.Core.fmul x c) ≠ .nan := by rw [e]; exact FP.Core.roundRatio_ne_nan _ _ _ _ _
  rw [FP.Core.sgn_bits32 hn] at hs
  have hs2 : ¬ 2 ^ 31 ≤ (FP.Core.fmul x c).toNat := of_decide_eq_false hs
  have hm := FP.Core.mag_le FP.Core.good_b32 (n := (FP.Core.fmul x c).toNat) (m := m) (s := s != t) (A := a * b) (B := 1) (e := q + r) (e0 := 2 * FP.Core.b32.qmin) e (by decide) (by decide) p2 (by rw [p3, zx, zc, FP.Core.qmin_b32, Nat.mul_one]; exact h)
  rw [FP.Core.mag_toNat32, Nat.mod_eq_of_lt (by omega)] at hm
  exact hm
theorem fo_mul {x c : UInt32} (hx : fo x) (hc : c.toNat < 2139095040) (h : FP.Core.unitsOf FP.Core.b32 c.toNat ≤ 2 ^ 149) : fo (FP.fmul x c) := by
  unfold fo at hx ⊢
  exact Nat.le_trans (mul_le32 (by omega) hc x.toNat (Nat.mul_le_mul_left _ h)) hx
theorem fo_ice {x : UInt32} (hx : fo x) : fo (FP.fmul x 1065269330) := fo_mul hx (by decide) (by decide +kernel)
theorem fo_bare {x : UInt32} (hx : fo x) : fo (FP.fmul x 1065017672) := fo_mul hx (by decide) (by decide +kernel)
theorem fo_nn {x : UInt32} (hx : fo x) : vf_n32 x := nn32 (by unfold fo at hx; omega)
theorem i2f_nat {P : Nat} (h : P ≤ 2 ^ 24) : FP.Core.FFin (FP.i2f (nI P)) ∧ FP.Core.sgn (FP.Core.val32 (FP.i2f (nI P))) = false ∧ FP.Core.zmag FP.Core.b32 (FP.Core.val32 (FP.i2f (nI P))) = P * 2 ^ 149 := by
  have hi : (nI P).toInt = P := nI_toInt (by omega)
  have h1 := FP.Core.i2f_int (a := nI P) (by rw [hi]; omega)
  have h2 := FP.Core.whole_zval FP.Core.good_b32 (FP.Core.val32_fits _) h1
  have h3 : FP.Core.sgn (FP.Core.val32 (FP.Core.i2f (nI P))) = false := by
    rw [FP.Core.val32_i2f]
    show FP.Core.sgn (FP.Core.roundRatio _ _ _ _ _) = false
    rw [FP.Core.sgn_roundRatio, hi]
    exact decide_eq_false (by omega)
  refine ⟨FP.Core.i2f_fin _, h3, ?_⟩
  unfold FP.Core.zval at h2
  rw [h3, hi] at h2
  have h4 : (-FP.Core.b32.qmin).toNat = 149 := by decide
  rw [h4] at h2
  have h5 : (FP.Core.zmag FP.Core.b32 (FP.Core.val32 (FP.Core.i2f (nI P))) : Int) = (P : Int) * ((2 ^ 149 : Nat) : Int) := h2
  exact_mod_cast h5
theorem v70 : FP.Core.val32 1116471296 = .fin false 9175040 (-17) := by decide +kernel
theorem v100 : FP.Core.val32 1120403456 = .fin false 13107200 (-17) := by decide +kernel
/-- 70 - x, for x below 70 -/
theorem sub70 {x : UInt32} (hx : fo x) (hlt : FP.fcmp x 1116471296 = some .lt) : (FP.fsub 1116471296 x).toNat ≤ 1116471296 := by
  have fx := fo_fin hx
  have sx := FP.Core.sgn_bits32 (a := x) fx.ne_nan
  rw [decide_eq_false (by unfold fo at hx; omega)] at sx
  have vx := FP.Core.val32_fits x
  have v7 := FP.Core.val32_fits 1116471296
  obtain ⟨-, -, hz⟩ := FP.Core.fcmp_lt.mp hlt
  have e := FP.Core.val32_fsub 1116471296 x
  obtain ⟨s, a, q, ex⟩ := fx
  rw [ex] at vx sx hz
  rw [ex, v70] at e
  rw [v70] at v7 hz
  have hs : s = false := sx
  subst hs
  obtain ⟨sg, n, e1, p1, p2, p3⟩ := FP.Core.sum_units v7 (FP.Core.negate_fits vx)
  rw [show FP.Core.exactSum (.fin false 9175040 (-17)) (FP.Core.negate (.fin false a q)) = _ from p1] at e
  have p4 : FP.Core.signed sg (FP.Core.inUnits n e1 FP.Core.b32.qmin) = FP.Core.zval FP.Core.b32 (.fin false 9175040 (-17)) - FP.Core.zval FP.Core.b32 (.fin false a q) := by rw [p3]; have e5 := FP.Core.zval_negate FP.Core.b32 (.fin false a q); have e6 : FP.Core.zval FP.Core.b32 (.fin (!false) a q) = -FP.Core.zval FP.Core.b32 (.fin false a q) := e5; rw [e6]; omega
  have h0 : 0 ≤ FP.Core.zval FP.Core.b32 (.fin false a q) := Int.natCast_nonneg _
  have h7 : FP.Core.zval FP.Core.b32 (.fin false 9175040 (-17)) = (FP.Core.zmag FP.Core.b32 (.fin false 9175040 (-17)) : Nat) := rfl
  have h8 : FP.Core.zmag FP.Core.b32 (.fin false 9175040 (-17)) = FP.Core.unitsOf FP.Core.b32 1116471296 := by decide +kernel
  have hsg : sg = false := by
    cases sg
    · rfl
    · have : FP.Core.signed true (FP.Core.inUnits n e1 FP.Core.b32.qmin) = -(FP.Core.inUnits n e1 FP.Core.b32.qmin : Int) := rfl
      omega
  subst hsg
  have h9 : FP.Core.inUnits n e1 FP.Core.b32.qmin ≤ FP.Core.unitsOf FP.Core.b32 1116471296 := by
    have : FP.Core.signed false (FP.Core.inUnits n e1 FP.Core.b32.qmin) = (FP.Core.inUnits n e1 FP.Core.b32.qmin : Int) := rfl
    omega
  have hn : FP.Core.val32 (FP.Core.fsub 1116471296 x) ≠ .nan := by rw [e]; exact FP.Core.roundRatio_ne_nan _ _ _ _ _
  have hs2 : FP.Core.sgn (FP.Core.val32 (FP.Core.fsub 1116471296 x)) = false := by
    rw [e]
    show FP.Core.sgn (FP.Core.roundRatio _ _ _ _ _) = false
    rw [FP.Core.sgn_roundRatio]
  rw [FP.Core.sgn_bits32 hn] at hs2
  have hs3 : ¬ 2 ^ 31 ≤ (FP.Core.fsub 1116471296 x).toNat := of_decide_eq_false hs2
  have hm := FP.Core.mag_le FP.Core.good_b32 (n := (FP.Core.fsub 1116471296 x).toNat) (m := 1116471296) (s := false) (A := n) (B := 1) (e := e1) (e0 := FP.Core.b32.qmin) e (by decide) (by decide) p2 (by rw [Int.sub_self]; simpa using h9)
  rw [FP.Core.mag_toNat32, Nat.mod_eq_of_lt (by omega)] at hm
  exact hm
/-- no NaN on the way to the money back, and no more than was paid -/
theorem back_ok {P : Nat} (hP : P ≤ 1000000) {x : UInt32} (hx : fo x) (hlt : FP.fcmp x 1116471296 = some .lt) :
    vf_n32 (FP.fsub 1116471296 x) ∧ vf_n32 (FP.fmul (FP.i2f (nI P)) (FP.fsub 1116471296 x)) ∧ vf_n32 (FP.fdiv (FP.fmul (FP.i2f (nI P)) (FP.fsub 1116471296 x)) 1120403456) ∧ ∃ B : Nat, B ≤ P ∧ backV (nI P) x = nI B := by
  have hy := sub70 hx hlt
  obtain ⟨fp, sp, zp⟩ := i2f_nat (P := P) (by omega)
  have hpn : (FP.i2f (nI P)).toNat < 2139095040 := by
    have h1 := (FP.Core.fin_bits32 _).mp fp
    rw [FP.Core.sgn_bits32 fp.ne_nan] at sp
    have := of_decide_eq_false sp
    have h2 : (FP.i2f (nI P)).toNat = (FP.Core.i2f (nI P)).toNat := rfl
    omega
  have fy : FP.Core.FFin (FP.fsub 1116471296 x) := (FP.Core.fin_bits32 _).mpr (by omega)
  obtain ⟨c1, q1, hV, hU⟩ := FP.Core.round_exact FP.Core.good_b32 false (c := 3 * P) (q := 5) (by rw [show 2 ^ FP.Core.b32.p = 16777216 by decide]; omega) (by decide) (by decide)
  have hVf : FP.Core.fits FP.Core.b32 (.fin false c1 q1) := hV ▸ FP.Core.round_fits FP.Core.good_b32 _
  have hzV : FP.Core.zmag FP.Core.b32 (FP.Core.val32 (FP.Core.of32 (.fin false c1 q1))) = 96 * P * 2 ^ 149 := by
    rw [FP.Core.val32_of32 hVf]
    show FP.Core.inUnits c1 q1 FP.Core.b32.qmin = _
    rw [hU]
    unfold FP.Core.inUnits
    rw [show (5 - FP.Core.b32.qmin).toNat = 5 + 149 by decide, Nat.pow_add]
    omega
  have hVn : FP.Core.val32 (FP.Core.of32 (.fin false c1 q1)) ≠ .nan := by rw [FP.Core.val32_of32 hVf]; exact fun h => by cases h
  have hVs : (FP.Core.of32 (.fin false c1 q1)).toNat < 2 ^ 31 := by
    have : FP.Core.sgn (FP.Core.val32 (FP.Core.of32 (.fin false c1 q1))) = false := by rw [FP.Core.val32_of32 hVf]; rfl
    rw [FP.Core.sgn_bits32 hVn] at this
    have := of_decide_eq_false this
    omega
  have hVu : FP.Core.unitsOf FP.Core.b32 (FP.Core.of32 (.fin false c1 q1)).toNat = 96 * P * 2 ^ 149 := by
    rw [← hzV, FP.Core.zmag_toNat32 hVn, Nat.mod_eq_of_lt hVs]
  have hPu : FP.Core.unitsOf FP.Core.b32 (FP.i2f (nI P)).toNat = P * 2 ^ 149 := by
    rw [← zp, FP.Core.zmag_toNat32 fp.ne_nan, Nat.mod_eq_of_lt (by omega)]
  have hYu : FP.Core.unitsOf FP.Core.b32 (FP.fsub 1116471296 x).toNat ≤ 70 * 2 ^ 149 := Nat.le_trans (FP.Core.unitsOf_le_iff.mpr hy) (by decide +kernel)
  have hM := mul_le32 (x := FP.i2f (nI P)) (c := FP.fsub 1116471296 x) hpn (by omega) (FP.Core.of32 (.fin false c1 q1)).toNat (by
    rw [hPu, hVu]
    exact Nat.le_trans (Nat.mul_le_mul_left _ hYu) (by
      rw [show P * 2 ^ 149 * (70 * 2 ^ 149) = (P * 70) * (2 ^ 149 * 2 ^ 149) from Nat.mul_mul_mul_comm _ _ _ _, Nat.mul_assoc (96 * P)]
      exact Nat.mul_le_mul_right _ (by omega)))
  have fV : FP.Core.FFin (FP.Core.of32 (.fin false c1 q1)) := ⟨_, _, _, FP.Core.val32_of32 hVf⟩
  have hVb := (FP.Core.fin_bits32 _).mp fV
  rw [Nat.mod_eq_of_lt hVs] at hVb
  have fM : FP.Core.FFin (FP.fmul (FP.i2f (nI P)) (FP.fsub 1116471296 x)) := (FP.Core.fin_bits32 _).mpr (by omega)
  have sM := FP.Core.sgn_bits32 fM.ne_nan
  rw [decide_eq_false (by omega)] at sM
  have zM := FP.Core.zmag_toNat32 fM.ne_nan
  rw [Nat.mod_eq_of_lt (by omega)] at zM
  have zM2 : FP.Core.zmag FP.Core.b32 (FP.Core.val32 (FP.fmul (FP.i2f (nI P)) (FP.fsub 1116471296 x))) ≤ 96 * P * 2 ^ 149 := by
    rw [zM, ← hVu]; exact FP.Core.unitsOf_le_iff.mpr hM
  have eD := FP.Core.val32_fdiv (FP.fmul (FP.i2f (nI P)) (FP.fsub 1116471296 x)) 1120403456
  have fM2 := fM.notNaN
  have hvM := FP.Core.val32_fits (FP.fmul (FP.i2f (nI P)) (FP.fsub 1116471296 x))
  obtain ⟨s, c, q, eM⟩ := fM
  rw [eM] at sM zM2 hvM
  rw [eM, v100] at eD
  have hs : s = false := sM
  subst hs
  have eD2 : FP.Core.val32 (FP.fdiv (FP.fmul (FP.i2f (nI P)) (FP.fsub 1116471296 x)) 1120403456) = FP.Core.roundRatio FP.Core.b32 false c 13107200 (q - (-17)) := eD
  have hq : FP.Core.b32.qmin ≤ q := hvM.2.1
  have hqm : FP.Core.b32.qmin = -149 := by decide
  have hD := FP.Core.zmag_roundRatio_le FP.Core.good_b32 (s := false) (A := c) (B := 13107200) (e := q - (-17)) (e0 := 2 * FP.Core.b32.qmin) (V := FP.Core.val32 (FP.i2f (nI P))) (by decide) (FP.Core.val32_fits _) fp.ne_nan (by decide) (by omega) (by
    rw [zp]
    have h1 : FP.Core.inUnits c (q - (-17)) (2 * FP.Core.b32.qmin) = FP.Core.zmag FP.Core.b32 (.fin false c q) * 2 ^ 166 := by
      show c * 2 ^ _ = c * 2 ^ _ * 2 ^ 166
      rw [Nat.mul_assoc, ← Nat.pow_add]
      congr 2
      omega
    rw [h1, show (FP.Core.b32.qmin - 2 * FP.Core.b32.qmin).toNat = 149 by decide]
    exact Nat.le_trans (Nat.mul_le_mul_right _ zM2) (by omega))
  rw [← eD2, zp] at hD
  have hDn : FP.Core.val32 (FP.fdiv (FP.fmul (FP.i2f (nI P)) (FP.fsub 1116471296 x)) 1120403456) ≠ .nan := by rw [eD2]; exact FP.Core.roundRatio_ne_nan _ _ _ _ _
  have hDs : FP.Core.sgn (FP.Core.val32 (FP.fdiv (FP.fmul (FP.i2f (nI P)) (FP.fsub 1116471296 x)) 1120403456)) = false := by rw [eD2, FP.Core.sgn_roundRatio]
  refine ⟨nnF fy.notNaN, nnF fM2, nnF ((FP.Core.notNaN_iff32 _).mpr hDn), FP.Core.zmag FP.Core.b32 (FP.Core.val32 (FP.fdiv (FP.fmul (FP.i2f (nI P)) (FP.fsub 1116471296 x)) 1120403456)) / FP.Core.one32, ?_, ?_⟩
  · exact Nat.le_trans (Nat.div_le_div_right hD) (Nat.le_of_eq (Nat.mul_div_cancel _ FP.Core.one32_pos))
  · have hB := Nat.le_trans (Nat.div_le_div_right (c := FP.Core.one32) hD) (Nat.le_of_eq (Nat.mul_div_cancel _ FP.Core.one32_pos))
    have h1 := FP.Core.f2i_val hDn
    rw [hDs] at h1
    apply Int32.toInt.inj
    rw [nI_toInt (by omega)]
    show (FP.Core.f2i (FP.fdiv (FP.fmul (FP.i2f (nI P)) (FP.fsub 1116471296 x)) 1120403456)).toInt = _
    generalize FP.Core.zmag FP.Core.b32 (FP.Core.val32 (FP.fdiv (FP.fmul (FP.i2f (nI P)) (FP.fsub 1116471296 x)) 1120403456)) / FP.Core.one32 = B at h1 hB ⊢
    rw [h1]
    have h2 : FP.Core.signed false B = (B : Int) := rfl
    rw [h2, Int.min_eq_right (by omega), Int.max_eq_right (by omega)]
