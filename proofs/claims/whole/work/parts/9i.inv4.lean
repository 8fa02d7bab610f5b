/-! More calls -/
section
variable {n : Nat} {N : Nat → Nat → Nat} {R : Nat → Nat → Nat → Int32} {Fr : Nat → UInt32} {inc : Int64}
theorem inv_endDay (h : INV n N R Fr inc) : INVs n (op_endDay (N, R, Fr, inc)).2.2 := by
  simp only [op_endDay]
  split
  · exact h
  · rename_i h4
    have hC := iv_ic h
    have e0 : up2 N 0 4 (N 0 4 + 1) 0 0 = N 0 0 := by simp [up2]
    have e1 : up2 N 0 4 (N 0 4 + 1) 0 1 = N 0 1 := by simp [up2]
    have e2 : up2 N 0 4 (N 0 4 + 1) 0 2 = N 0 2 := by simp [up2]
    have e3 : up2 N 0 4 (N 0 4 + 1) 0 3 = N 0 3 := by simp [up2]
    have e4 : up2 N 0 4 (N 0 4 + 1) 0 4 = N 0 4 + 1 := by simp [up2]
    have e5 : up2 N 0 4 (N 0 4 + 1) 0 5 = N 0 5 := by simp [up2]
    have er : ∀ k, ¬ k = 2 → wrote R (N 0 4) 24 k = R k := by
      intro k hk; funext i j; simp [wrote, hk]
    have eN : ∀ k, ¬ k = 0 → up2 N 0 4 (N 0 4 + 1) k = N k := by
      intro k hk; funext i; simp [up2, hk]
    refine ⟨?_, ?_, ?_, ?_, ?_, ?_, ?_, ?_, ?_, ?_, ?_, ?_, ?_, ?_, ?_, ?_, ?_, ?_, ?_, ?_, ?_⟩
    · unfold IC
      rw [e0, e1, e2, e3, e4, eN 1 (by decide), eN 2 (by decide), eN 3 (by decide)]
      refine ⟨hC.1, hC.2.1, hC.2.2.1, hC.2.2.2.1, by have := hC.2.2.2.2.1; omega, ?_, hC.2.2.2.2.2.2.1, hC.2.2.2.2.2.2.2⟩
      intro c hc
      rw [hC.2.2.2.2.2.1 c hc]
      have : ¬ c = 4 := by omega
      simp [up2, this]
    · rw [e5]; exact iv_tm h
    · rw [e0, er 1 (by decide)]; exact iv_q1 h
    · rw [e0, er 3 (by decide)]; exact iv_q3 h
    · rw [e4]
      intro d hd j
      have : ¬ d = N 0 4 := by omega
      simp only [wrote, this, false_and, and_false, if_false]
      exact iv_d1 h d (by omega) j
    · rw [e0]
      intro d j hj
      simp only [wrote]
      split
      · exact iv_q1 h _ _ (by omega)
      · exact iv_d2 h d j hj
    · rw [e2, er 14 (by decide)]; exact iv_u1 h
    · rw [e1, er 10 (by decide), er 12 (by decide)]; exact iv_l1 h
    · rw [e3, eN 1 (by decide)]; exact iv_t1 h
    · rw [e1]; exact fun j hj => lot_rows (fun k h1 h2 => er k (by omega)) (iv_lot h j hj)
    · unfold ownOK; rw [e1, e2, er 11 (by decide)]; exact iv_own h
    · rw [e1, e2, er 9 (by decide), er 11 (by decide)]; exact iv_own2 h
    · rw [e1, er 9 (by decide), er 12 (by decide)]; exact iv_own3 h
    · rw [er 12 (by decide)]; exact iv_paid h
    · rw [e1, e2, er 13 (by decide)]
      intro u hu
      rw [bsum_rows (R := R) (fun j _ => by rw [er 11 (by decide)]) (fun j _ => by rw [er 12 (by decide)])]
      exact iv_bud h u hu
    · rw [er 14 (by decide)]; exact iv_lim h
    · unfold ckOK; rw [er 0 (by decide)]; exact iv_ck h
    · rw [er 0 (by decide)]; exact iv_ck2 h
    · unfold truckOK; rw [e1, e2, e3, eN 1 (by decide), er 18 (by decide), er 11 (by decide)]; exact iv_tr h
    · rw [e1, er 1 (by decide), er 3 (by decide)]
      intro b hb q hq
      rw [wsum_rows (R := R) (p := byB R b (nI q)) (fun j _ => by rw [er 7 (by decide)]) (fun j _ => by unfold byB; rw [er 4 (by decide), er 5 (by decide)])]
      exact iv_quo h b hb q hq
    · rw [e1, psum_rows (R := R) (fun j _ => by rw [er 12 (by decide)])]; exact iv_inc h
end
