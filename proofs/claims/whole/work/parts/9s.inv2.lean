/-! What follows from the invariant -/
theorem mean_b {p w : Nat} (hp : p < 2 ^ 31) (hw0 : 0 < w) (hw : w < 2 ^ 31) : (FP.ddiv (FP.l2d (lN p)) (FP.i2d (nI w))).toNat < 1089 * 4503599627370496 := by
  have hi : (nI w).toInt ≠ 0 := by rw [nI_toInt hw]; omega
  have hm := FP.Core.ddiv_mag (a := FP.l2d (lN p)) (b := FP.i2d (nI w)) (K := 1088) (L := 1023) (FP.Core.l2d_mag _) (FP.Core.i2d_big hi).1 (FP.Core.i2d_big hi).2 (by decide) (by decide)
  obtain ⟨c, q, e1⟩ := FP.Core.l2d_shape (lN p)
  obtain ⟨c2, q2, e2⟩ := FP.Core.l2d_shape (nI w).toInt64
  have e3 : FP.Core.val64 (FP.i2d (nI w)) = .fin (decide ((nI w).toInt64.toInt < 0)) c2 q2 := by
    rw [← e2]; exact congrArg FP.Core.val64 (FP.Core.i2d_l2d (nI w))
  rw [decide_eq_false (by rw [lN_toInt hp]; omega)] at e1
  rw [decide_eq_false (by rw [nI_l hw, lN_toInt hw]; omega)] at e3
  have hnz := FP.Core.i2d_ne_zero (v := nI w) (nI_ne0 hw0 hw)
  have hnn : FP.Core.dIsNaN (FP.ddiv (FP.l2d (lN p)) (FP.i2d (nI w))) = false := FP.Core.ddiv_out (FP.Core.l2d_fin _).notNaN (FP.Core.i2d_fin _) (fun q => hnz ((FP.Core.zero_bits2 _).mp q))
  have hne : FP.Core.val64 (FP.ddiv (FP.l2d (lN p)) (FP.i2d (nI w))) ≠ .nan := (FP.Core.notNaN_iff _).mp hnn
  have hs := FP.Core.sgn_bits hne
  have e4 : FP.Core.val64 (FP.ddiv (FP.l2d (lN p)) (FP.i2d (nI w))) = FP.Core.quotient FP.Core.b64 (FP.Core.val64 (FP.l2d (lN p))) (FP.Core.val64 (FP.i2d (nI w))) := FP.Core.val64_ddiv _ _
  have e1' : FP.Core.val64 (FP.l2d (lN p)) = .fin false c q := e1
  have hs0 : FP.Core.sgn (FP.Core.val64 (FP.ddiv (FP.l2d (lN p)) (FP.i2d (nI w)))) = false := by
    rw [e4, e1', e3] at hne ⊢
    cases c2 with
    | zero =>
      cases c with
      | zero => exact absurd rfl hne
      | succ c => rfl
    | succ c2 =>
      have e5 : FP.Core.quotient FP.Core.b64 (.fin false c q) (.fin false (c2 + 1) q2) = FP.Core.roundRatio FP.Core.b64 false c (c2 + 1) (q - q2) := rfl
      rw [e5, FP.Core.sgn_roundRatio]
  rw [hs0] at hs
  have := of_decide_eq_false hs.symm
  have hm2 : (FP.ddiv (FP.l2d (lN p)) (FP.i2d (nI w))).toNat % 2 ^ 63 < 1089 * 2 ^ 52 := by
    show (FP.Core.ddiv _ _).toNat % 2 ^ 63 < _
    omega
  omega
section
variable {n : Nat} {N : Nat → Nat → Nat} {R : Nat → Nat → Nat → Int32} {Fr : Nat → UInt32} {inc : Int64}
theorem iv_pf (h : INV n N R Fr inc) : ∀ j, j < N 0 1 → pfb R Fr j (N 0 2) = falls N R Fr j := fun j hj =>
  pfb_falls (iv_ck h) (iv_ck2 h) (iv_lot h j hj).2.2.1 (fun b hb => by
    obtain ⟨B, e, hB⟩ := iv_bud h b hb
    exact ⟨B, by omega, e⟩) (fun b _ => offer_nn (iv_lim h _ _) (iv_lot h j hj).2.1 (iv_lot h j hj).2.2.2.2.1)
theorem iv_mb (h : INV n N R Fr inc) : ¬ wsum R (isSold R) (N 0 1) = 0 → (meanOf N R inc).toNat < 1089 * 4503599627370496 := by
  intro h0
  obtain ⟨w, w1, w2, -⟩ := wsum_b (R := R) (p := isSold R) (N 0 1) (fun j hj => (iv_lot h j hj).2.2.1)
  have h20 := (iv_ic h).2.1
  obtain ⟨p1, p2⟩ := psum_nat (iv_paid h) (N 0 1)
  unfold meanOf
  rw [iv_inc h, p1, w2]
  rw [w2] at h0
  refine mean_b (by omega) (Nat.pos_of_ne_zero fun q => h0 (by rw [q]; rfl)) (by omega)
theorem iv_q (h : INV n N R Fr inc) : ∀ b, b < N 0 0 → ∀ q, q < 4 → R 1 b q + wsum R (byB R b (nI q)) (N 0 1) = R 3 b q := fun b hb => iv_quo h b (by have := (iv_ic h).1; omega)
end
/-- the invariant of a state -/
def IV (n : Nat) : St → Prop := fun S => INVs n S ∧ QSs S
theorem IV.mono {n n' : Nat} {S : St} (h : IV n S) (hn : n ≤ n') : IV n' S := by
  obtain ⟨N, R, Fr, inc⟩ := S
  exact ⟨inv_mono h.1 hn, h.2⟩
theorem iv_start : IV 0 S00 := ⟨inv_0, qs_0⟩
section
variable {n : Nat} {S : St}
theorem IV.addBoat (h : IV n S) (p0 p1 p2 p3 : Int32) : IV n (op_addBoat S p0 p1 p2 p3).2.2 := by
  obtain ⟨N, R, Fr, inc⟩ := S
  exact ⟨inv_addBoat h.1 p0 p1 p2 p3, qs_addBoat h.1 h.2 p0 p1 p2 p3⟩
theorem IV.land (h : IV n S) (p0 p1 p2 p3 p4 : Int32) (hz : p4 = 0 ∨ p4 = 1) : IV n (op_land S p0 p1 p2 p3 p4).2.2 := by
  obtain ⟨N, R, Fr, inc⟩ := S
  exact ⟨inv_land h.1 h.2 p0 p1 p2 p3 p4 hz, qs_land h.1 h.2 p0 p1 p2 p3 p4⟩
theorem IV.moveQuota (h : IV n S) (p0 p1 p2 p3 : Int32) : IV n (op_moveQuota S p0 p1 p2 p3).2.2 := by
  obtain ⟨N, R, Fr, inc⟩ := S
  exact ⟨inv_moveQuota h.1 p0 p1 p2 p3, qs_moveQuota h.1 h.2 p0 p1 p2 p3⟩
theorem IV.endDay (h : IV n S) : IV n (op_endDay S).2.2 := by
  obtain ⟨N, R, Fr, inc⟩ := S
  exact ⟨inv_endDay h.1, qs_endDay h.2⟩
theorem IV.ice (h : IV n S) (p0 p1 : Int32) : IV n (op_ice S p0 p1).2.2 := by
  obtain ⟨N, R, Fr, inc⟩ := S
  exact ⟨inv_ice h.1 p0 p1, qs_ice h.2 p0 p1⟩
theorem IV.tick (h : IV n S) : IV (n + 1) (op_tick S).2.2 := by
  obtain ⟨N, R, Fr, inc⟩ := S
  exact ⟨inv_tick h.1, qs_tick h.2⟩
theorem IV.addBuyer (h : IV n S) (p0 : Int32) : IV n (op_addBuyer S p0).2.2 := by
  obtain ⟨N, R, Fr, inc⟩ := S
  exact ⟨inv_addBuyer h.1 p0, qs_addBuyer h.2 p0⟩
theorem IV.setLimit (h : IV n S) (p0 p1 p2 : Int32) : IV n (op_setLimit S p0 p1 p2).2.2 := by
  obtain ⟨N, R, Fr, inc⟩ := S
  exact ⟨inv_setLimit h.1 p0 p1 p2, qs_setLimit h.2 p0 p1 p2⟩
theorem IV.setClock (h : IV n S) (p0 p1 p2 : Int32) : IV n (op_setClock S p0 p1 p2).2.2 := by
  obtain ⟨N, R, Fr, inc⟩ := S
  exact ⟨inv_setClock h.1 p0 p1 p2, qs_setClock h.2 p0 p1 p2⟩
theorem IV.sell (h : IV n S) (p0 : Int32) : IV n (op_sell S p0).2.2 := by
  obtain ⟨N, R, Fr, inc⟩ := S
  exact ⟨inv_sell h.1 p0, qs_sell h.2 p0⟩
theorem IV.addTruck (h : IV n S) (p0 p1 p2 : Int32) : IV n (op_addTruck S p0 p1 p2).2.2 := by
  obtain ⟨N, R, Fr, inc⟩ := S
  exact ⟨inv_addTruck h.1 p0 p1 p2, qs_addTruck h.2 p0 p1 p2⟩
theorem IV.load (h : IV n S) (p0 p1 : Int32) : IV n (op_load S p0 p1).2.2 := by
  obtain ⟨N, R, Fr, inc⟩ := S
  exact ⟨inv_load h.1 p0 p1, qs_load h.2 p0 p1⟩
end
