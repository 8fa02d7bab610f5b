/-! A new truck -/
section
variable {n : Nat} {N : Nat → Nat → Nat} {R : Nat → Nat → Nat → Int32} {Fr : Nat → UInt32} {inc : Int64}
theorem inv_addTruck (h : INV n N R Fr inc) (p0 p1 p2 : Int32) : INVs n (op_addTruck (N, R, Fr, inc) p0 p1 p2).2.2 := by
  simp only [op_addTruck]
  split
  · exact h
  split
  · exact h
  · rename_i hp h4
    have hC := iv_ic h
    have e0 : up2 (up2 N 0 3 (N 0 3 + 1)) 2 3 (N 0 3 + 1) 0 0 = N 0 0 := by simp [up2]
    have e1 : up2 (up2 N 0 3 (N 0 3 + 1)) 2 3 (N 0 3 + 1) 0 1 = N 0 1 := by simp [up2]
    have e2 : up2 (up2 N 0 3 (N 0 3 + 1)) 2 3 (N 0 3 + 1) 0 2 = N 0 2 := by simp [up2]
    have e3 : up2 (up2 N 0 3 (N 0 3 + 1)) 2 3 (N 0 3 + 1) 0 3 = N 0 3 + 1 := by simp [up2]
    have e4 : up2 (up2 N 0 3 (N 0 3 + 1)) 2 3 (N 0 3 + 1) 0 4 = N 0 4 := by simp [up2]
    have e5 : up2 (up2 N 0 3 (N 0 3 + 1)) 2 3 (N 0 3 + 1) 0 5 = N 0 5 := by simp [up2]
    have eN : ∀ k, ¬ k = 0 → ¬ k = 2 → up2 (up2 N 0 3 (N 0 3 + 1)) 2 3 (N 0 3 + 1) k = N k := by
      intro k hk hk2; funext i; simp [up2, hk, hk2]
    have er : ∀ k, ¬ k = 15 → ¬ k = 16 → ¬ k = 17 → up3 (up3 (up3 R 15 (N 0 3) 0 p0) 17 (N 0 3) 0 p1) 16 (N 0 3) 0 p2 k = R k := by
      intro k h1 h2 h3; funext i j; simp [up3, h1, h2, h3]
    refine ⟨?_, ?_, ?_, ?_, ?_, ?_, ?_, ?_, ?_, ?_, ?_, ?_, ?_, ?_, ?_, ?_, ?_, ?_, ?_, ?_, ?_⟩
    · unfold IC
      rw [e0, e1, e2, e3, e4, eN 1 (by decide) (by decide), eN 3 (by decide) (by decide)]
      refine ⟨hC.1, hC.2.1, hC.2.2.1, by have := hC.2.2.2.1; omega, hC.2.2.2.2.1, ?_, hC.2.2.2.2.2.2.1, hC.2.2.2.2.2.2.2⟩
      intro c hc
      by_cases q : c = 3
      · subst q; simp [up2]
      · have := hC.2.2.2.2.2.1 c hc
        simp [up2, q, this]
    · rw [e5]; exact iv_tm h
    · rw [e0, er 1 (by decide) (by decide) (by decide)]; exact iv_q1 h
    · rw [e0, er 3 (by decide) (by decide) (by decide)]; exact iv_q3 h
    · rw [e4, er 2 (by decide) (by decide) (by decide)]; exact iv_d1 h
    · rw [e0, er 2 (by decide) (by decide) (by decide)]; exact iv_d2 h
    · rw [e2, er 14 (by decide) (by decide) (by decide)]; exact iv_u1 h
    · rw [e1, er 10 (by decide) (by decide) (by decide), er 12 (by decide) (by decide) (by decide)]; exact iv_l1 h
    · rw [e3, eN 1 (by decide) (by decide)]; exact fun t ht => iv_t1 h t (by omega)
    · rw [e1]; exact fun j hj => lot_rows (fun k h1 h2 => er k (by omega) (by omega) (by omega)) (iv_lot h j hj)
    · unfold ownOK; rw [e1, e2, er 11 (by decide) (by decide) (by decide)]; exact iv_own h
    · rw [e1, e2, er 9 (by decide) (by decide) (by decide), er 11 (by decide) (by decide) (by decide)]; exact iv_own2 h
    · rw [e1, er 9 (by decide) (by decide) (by decide), er 12 (by decide) (by decide) (by decide)]; exact iv_own3 h
    · rw [er 12 (by decide) (by decide) (by decide)]; exact iv_paid h
    · rw [e1, e2, er 13 (by decide) (by decide) (by decide)]
      intro u hu
      rw [bsum_rows (R := R) (fun j _ => by rw [er 11 (by decide) (by decide) (by decide)]) (fun j _ => by rw [er 12 (by decide) (by decide) (by decide)])]
      exact iv_bud h u hu
    · rw [er 14 (by decide) (by decide) (by decide)]; exact iv_lim h
    · unfold ckOK; rw [er 0 (by decide) (by decide) (by decide)]; exact iv_ck h
    · rw [er 0 (by decide) (by decide) (by decide)]; exact iv_ck2 h
    · unfold truckOK; rw [e1, e2, e3, eN 1 (by decide) (by decide), er 18 (by decide) (by decide) (by decide), er 11 (by decide) (by decide) (by decide)]
      intro t ht k hk
      by_cases q : t = N 0 3
      · rw [q, iv_t1 h _ (Nat.le_refl _)] at hk; exact absurd hk (Nat.not_lt_zero _)
      · exact iv_tr h t (by omega) k hk
    · rw [e1, er 1 (by decide) (by decide) (by decide), er 3 (by decide) (by decide) (by decide)]
      intro b hb q hq
      rw [wsum_rows (R := R) (p := byB R b (nI q)) (fun j _ => by rw [er 7 (by decide) (by decide) (by decide)]) (fun j _ => by unfold byB; rw [er 4 (by decide) (by decide) (by decide), er 5 (by decide) (by decide) (by decide)])]
      exact iv_quo h b hb q hq
    · rw [e1, psum_rows (R := R) (fun j _ => by rw [er 12 (by decide) (by decide) (by decide)])]; exact iv_inc h
end
