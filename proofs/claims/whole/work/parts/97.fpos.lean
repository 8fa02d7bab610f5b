/-! Offers are not negative -/
theorem v100d : FP.Core.val64 4636737291354636288 = .fin false 7036874417766400 (-46) := by decide +kernel
theorem sg_ddiv {a : UInt64} (hn : FP.Core.val64 a ≠ .nan) (hs : FP.Core.sgn (FP.Core.val64 a) = false) : FP.Core.val64 (FP.ddiv a 4636737291354636288) ≠ .nan ∧ FP.Core.sgn (FP.Core.val64 (FP.ddiv a 4636737291354636288)) = false := by
  have e : FP.Core.val64 (FP.ddiv a 4636737291354636288) = FP.Core.quotient FP.Core.b64 (FP.Core.val64 a) (.fin false 7036874417766400 (-46)) := by
    rw [← v100d]; exact FP.Core.val64_ddiv a _
  rw [e]
  cases hv : FP.Core.val64 a with
  | nan => exact absurd hv hn
  | inf s =>
    rw [hv] at hs
    have h1 : s = false := hs
    subst h1
    exact ⟨(fun h => by cases h), rfl⟩
  | fin s c q =>
    rw [hv] at hs
    have h1 : s = false := hs
    subst h1
    have e2 : FP.Core.quotient FP.Core.b64 (.fin false c q) (.fin false 7036874417766400 (-46)) = FP.Core.roundRatio FP.Core.b64 false c 7036874417766400 (q - (-46)) := rfl
    rw [e2]
    exact ⟨FP.Core.roundRatio_ne_nan _ _ _ _ _, FP.Core.sgn_roundRatio _ _ _ _ _⟩
theorem sg_i2d {v : Int32} (h : 0 ≤ v.toInt) : FP.Core.sgn (FP.Core.val64 (FP.i2d v)) = false := by
  have e : FP.Core.val64 (FP.i2d v) = FP.Core.roundRatio FP.Core.b64 (decide (v.toInt < 0)) v.toInt.natAbs 1 0 := FP.Core.val64_i2d v
  rw [e, FP.Core.sgn_roundRatio]
  exact decide_eq_false (by omega)
theorem sg_f2d {x : UInt32} (h : fo x) : FP.Core.DFin (FP.f2d x) ∧ FP.Core.sgn (FP.Core.val64 (FP.f2d x)) = false := by
  have fx := fo_fin h
  have sx := FP.Core.sgn_bits32 (a := x) fx.ne_nan
  rw [decide_eq_false (by unfold fo at h; omega)] at sx
  rw [fo_f2d h]
  refine ⟨FP.Core.f2d_fin fx, ?_⟩
  rw [FP.Core.val64_f2d]
  obtain ⟨s, c, q, e⟩ := fx
  rw [e] at sx ⊢
  show FP.Core.sgn (FP.Core.roundRatio _ _ _ _ _) = false
  rw [FP.Core.sgn_roundRatio]
  exact sx
theorem sg_dmul {a b : UInt64} (ha : FP.Core.DFin a) (hb : FP.Core.DFin b) (h1 : FP.Core.sgn (FP.Core.val64 a) = false) (h2 : FP.Core.sgn (FP.Core.val64 b) = false) : FP.Core.val64 (FP.dmul a b) ≠ .nan ∧ FP.Core.sgn (FP.Core.val64 (FP.dmul a b)) = false := by
  obtain ⟨s, c, q, ea⟩ := ha
  obtain ⟨t, d, r, eb⟩ := hb
  rw [ea] at h1
  rw [eb] at h2
  have e : FP.Core.val64 (FP.dmul a b) = FP.Core.round FP.Core.b64 (FP.Core.exactProduct (FP.Core.val64 a) (FP.Core.val64 b)) := FP.Core.val64_dmul a b
  rw [e, ea, eb]
  have e2 : FP.Core.round FP.Core.b64 (FP.Core.exactProduct (.fin s c q) (.fin t d r)) = FP.Core.roundRatio FP.Core.b64 (s != t) (c * d) 1 (q + r) := rfl
  rw [e2]
  refine ⟨FP.Core.roundRatio_ne_nan _ _ _ _ _, ?_⟩
  rw [FP.Core.sgn_roundRatio]
  have g1 : s = false := h1
  have g2 : t = false := h2
  rw [g1, g2]; rfl
theorem d2i_nn {a : UInt64} (hn : FP.Core.val64 a ≠ .nan) (hs : FP.Core.sgn (FP.Core.val64 a) = false) : 0 ≤ (FP.d2i a).toInt := by
  have h : (FP.d2i a).toInt = _ := FP.Core.d2i_val hn
  rw [h, hs]
  generalize FP.Core.zmag FP.Core.b64 (FP.Core.val64 a) / FP.Core.one64 = z
  have e : FP.Core.signed false z = (z : Int) := rfl
  rw [e]
  omega
theorem offerV_nn {lim sz : Int32} {fr : UInt32} (h : 0 ≤ (lim * (100 + 10 * sz)).toInt) (hf : fo fr) : 0 ≤ (offerV lim sz fr).toInt := by
  have h1 := sg_ddiv (a := FP.i2d (lim * (100 + 10 * sz))) (FP.Core.i2d_fin _).ne_nan (sg_i2d h)
  have h2 := sg_f2d hf
  have h3 := sg_dmul (off1_fin (lim * (100 + 10 * sz))) h2.1 h1.2 h2.2
  have h4 := sg_ddiv h3.1 h3.2
  exact d2i_nn h4.1 h4.2
theorem offer_nn {R : Nat → Nat → Nat → Int32} {Fr : Nat → UInt32} {u j : Nat} (hl : wi (R 14 u (ix (R 5 j 0))) 0 9999 = true) (hs : wi (R 6 j 0) 0 2 = true) (hf : fo (Fr j)) : 0 ≤ (offerOf R Fr u j).toInt := by
  obtain ⟨a, -, ha, ea, -⟩ := wi_nat (a := 0) (b := 9999) (by decide) (by decide) hl
  obtain ⟨b, -, hb, eb, -⟩ := wi_nat (a := 0) (b := 2) (by decide) (by decide) hs
  unfold offerOf
  refine offerV_nn ?_ hf
  rw [ea, eb, show (10 : Int32) = nI 10 from rfl, show (100 : Int32) = nI 100 from rfl, pk_mul, nI_add, pk_mul]
  have : a * (100 + 10 * b) ≤ 9999 * 120 := Nat.mul_le_mul ha (by omega)
  rw [nI_toInt (by omega)]
  omega
