/-! The last step: the exponent above, the rest below -/
theorem cmp32_pos {x c : UInt32} (hx : x.toNat < 2139095040) (hc : c.toNat < 2139095040) : (FP.fcmp x c = some .lt ↔ x.toNat < c.toNat) ∧ FP.fcmp x c ≠ none := by
  have fx := ((FP.Core.fin_bits32 x).mpr (by omega)).ne_nan
  have fc := ((FP.Core.fin_bits32 c).mpr (by omega)).ne_nan
  have e1 : FP.Core.fkey x = (x.toNat : Int) := if_neg (by omega)
  have e2 : FP.Core.fkey c = (c.toNat : Int) := if_neg (by omega)
  constructor
  · have h := FP.Core.fcmp_lt_key fx fc
    rw [e1, e2] at h
    exact h.trans ⟨fun q => by omega, fun q => by omega⟩
  · intro h
    rcases (FP.Core.fcmp_none _ _).mp h with q | q
    · exact fx q
    · exact fc q
theorem cmp64_pos {x c : UInt64} (hx : x.toNat < 9218868437227405312) (hc : c.toNat < 9218868437227405312) : (FP.dcmp x c = some .lt ↔ x.toNat < c.toNat) ∧ FP.dcmp x c ≠ none := by
  have fx := ((FP.Core.fin_bits x).mpr (by omega)).ne_nan
  have fc := ((FP.Core.fin_bits c).mpr (by omega)).ne_nan
  have e1 : FP.Core.dkey x = (x.toNat : Int) := if_neg (by omega)
  have e2 : FP.Core.dkey c = (c.toNat : Int) := if_neg (by omega)
  constructor
  · have h := FP.Core.dcmp_lt_key fx fc
    rw [e1, e2] at h
    exact h.trans ⟨fun q => by omega, fun q => by omega⟩
  · intro h
    rcases (FP.Core.dcmp_none _ _).mp h with q | q
    · exact fx q
    · exact fc q
theorem i32_dec {e : Int32} (h : -1000000 < e.toInt) : (e + -1).toInt = e.toInt - 1 := by
  have h2 := e.toInt_lt
  rw [Int32.toInt_add, show (-1 : Int32).toInt = -1 by decide, Int.bmod_def]
  omega
theorem sh32 {k : Int32} : k <<< ((23 : Int32) &&& 31) = k * 8388608 := by
  apply Int32.toBitVec_inj.mp
  rw [Int32.toBitVec_shiftLeft, Int32.toBitVec_mul]
  show k.toBitVec <<< (23 : Nat) = k.toBitVec * 8388608#32
  rw [BitVec.shiftLeft_eq_mul_twoPow]
  rfl
theorem bits32_eq {e r : Int32} {x : UInt32} {a b m : Nat} (he : e.toInt = (a : Int) - b) (ha : a ≤ 127) (hb : b ≤ 126) (hx : x.toNat < 2147483648) (hm : m < 16777216) (hr : r.toInt = (m : Int) - 8388608) (h3 : ((a : Int) - b + 127) * 8388608 + ((m : Int) - 8388608) = x.toNat) : (e + 127) <<< ((23 : Int32) &&& 31) + r = x.toInt32 := by
  apply Int32.toInt_inj.mp
  have e1 : x.toInt32.toInt = (x.toNat : Int) := by
    show x.toBitVec.toInt = _
    rw [BitVec.toInt_eq_toNat_of_lt]
    · rfl
    · show 2 * x.toNat < 2 ^ 32; omega
  rw [e1, sh32, Int32.toInt_add, Int32.toInt_mul, Int32.toInt_add, he, hr, show (127 : Int32).toInt = 127 by decide, show (8388608 : Int32).toInt = 8388608 by decide]
  rw [show ((a : Int) - b + 127).bmod (2 ^ 32) = (a : Int) - b + 127 by rw [Int.bmod_def]; omega]
  rw [Int.bmod_add_bmod, h3, Int.bmod_def]
  omega
theorem sh64 {k : Int64} : k <<< ((52 : Int32).toInt64 &&& 63) = k * 4503599627370496 := by
  rw [show ((52 : Int32).toInt64 &&& 63) = (52 : Int64) by decide]
  apply Int64.toBitVec_inj.mp
  rw [Int64.toBitVec_shiftLeft, Int64.toBitVec_mul]
  show k.toBitVec <<< (52 : Nat) = k.toBitVec * 4503599627370496#64
  rw [BitVec.shiftLeft_eq_mul_twoPow]
  rfl
theorem bits64_eq {e : Int32} {r : Int64} {x : UInt64} {a b m : Nat} (he : e.toInt = (a : Int) - b) (ha : a ≤ 200) (hb : b ≤ 1022) (hx : x.toNat < 9223372036854775808) (hm : m < 9007199254740992) (hr : r.toInt = (m : Int) - 4503599627370496) (h3 : ((a : Int) - b + 1023) * 4503599627370496 + ((m : Int) - 4503599627370496) = x.toNat) : (e + 1023).toInt64 <<< ((52 : Int32).toInt64 &&& 63) + r = x.toInt64 := by
  apply Int64.toInt_inj.mp
  have e1 : x.toInt64.toInt = (x.toNat : Int) := by
    show x.toBitVec.toInt = _
    rw [BitVec.toInt_eq_toNat_of_lt]
    · rfl
    · show 2 * x.toNat < 2 ^ 64; omega
  have e2 : (e + 1023).toInt64.toInt = (a : Int) - b + 1023 := by
    rw [Int32.toInt_toInt64, Int32.toInt_add, he, show (1023 : Int32).toInt = 1023 by decide, Int.bmod_def]
    omega
  rw [e1, sh64, Int64.toInt_add, Int64.toInt_mul, e2, hr, show (4503599627370496 : Int64).toInt = 4503599627370496 by decide]
  rw [Int.bmod_add_bmod, h3, Int.bmod_def]
  omega
theorem cmp64_zero {x : UInt64} (hx : x.toNat < 9218868437227405312) : FP.dcmp x FP.dconst0 = some .eq ↔ x.toNat = 0 := by
  have fx := ((FP.Core.fin_bits x).mpr (by omega)).ne_nan
  have fc := ((FP.Core.fin_bits 0).mpr (by decide)).ne_nan
  have e1 : FP.Core.dkey x = (x.toNat : Int) := if_neg (by omega)
  have e2 : FP.Core.dkey 0 = 0 := by decide
  have h := FP.Core.dcmp_eq_key fx fc
  rw [e1, e2] at h
  exact h.trans ⟨fun q => by omega, fun q => by omega⟩
theorem cmp_eq0 {o : Option Ordering} {k : CmpOp} (h : o = some .eq) : Op.cmpValue o k = 0 := by subst h; rfl
theorem cmp_ne0 {o : Option Ordering} (h : ¬ o = some .eq) : Op.cmpValue o .l ≠ 0 := by
  rcases o with _ | _ | _ | _
  · decide
  · decide
  · exact absurd rfl h
  · decide
