/-! Quota from one boat to another -/
section
variable {n : Nat} {N : Nat → Nat → Nat} {R R' : Nat → Nat → Nat → Int32} {Fr : Nat → UInt32} {inc : Int64}
theorem inv_moveQuota (h : INV n N R Fr inc) (p0 p1 p2 p3 : Int32) : INVs n (op_moveQuota (N, R, Fr, inc) p0 p1 p2 p3).2.2 := by
  simp only [op_moveQuota]
  split
  · exact h
  split
  · exact h
  split
  · exact h
  · rename_i h1 h2 h3
    have hC := iv_ic h
    have h1 : isIx (N 0 0) p0 = true ∧ isIx (N 0 0) p1 = true := by simpa using h1
    have i0 := ix_lt h1.1 (by have := hC.1; omega)
    have i1 := ix_lt h1.2 (by have := hC.1; omega)
    have hne : ¬ ix p1 = ix p0 := fun q => h2 (Or.inl (by rw [i0.2, i1.2, q]))
    obtain ⟨c0, hc0, d0⟩ : ∃ c, c = ix p0 ∧ c < N 0 0 := ⟨_, rfl, i0.1⟩
    obtain ⟨c1, hc1, d1⟩ : ∃ c, c = ix p1 ∧ c < N 0 0 := ⟨_, rfl, i1.1⟩
    rw [← hc0, ← hc1] at hne ⊢
    generalize ix p2 = s0
    have er : ∀ k, ¬ k = 1 → ¬ k = 3 → up3 (up3 (up3 (up3 R 1 c0 s0 (R 1 c0 s0 - p3)) 1 c1 s0 (R 1 c1 s0 + p3)) 3 c0 s0 (R 3 c0 s0 - p3)) 3 c1 s0 (R 3 c1 s0 + p3) k = R k := by
      intro k h1 h2; funext i j; simp [up3, h1, h2]
    have eo : ∀ k b s, ¬ b = c0 → ¬ b = c1 → up3 (up3 (up3 (up3 R 1 c0 s0 (R 1 c0 s0 - p3)) 1 c1 s0 (R 1 c1 s0 + p3)) 3 c0 s0 (R 3 c0 s0 - p3)) 3 c1 s0 (R 3 c1 s0 + p3) k b s = R k b s := by
      intro k b s g0 g1; simp [up3, g0, g1]
    have es : ∀ k b s, ¬ s = s0 → up3 (up3 (up3 (up3 R 1 c0 s0 (R 1 c0 s0 - p3)) 1 c1 s0 (R 1 c1 s0 + p3)) 3 c0 s0 (R 3 c0 s0 - p3)) 3 c1 s0 (R 3 c1 s0 + p3) k b s = R k b s := by
      intro k b s g; simp [up3, g]
    refine ⟨hC, iv_tm h, ?_, ?_, ?_, ?_, ?_, ?_, iv_t1 h, ?_, ?_, ?_, ?_, ?_, ?_, ?_, ?_, ?_, ?_, ?_, ?_⟩
    · intro b s hb; rw [eo _ _ _ (by omega) (by omega)]; exact iv_q1 h b s hb
    · intro b s hb; rw [eo _ _ _ (by omega) (by omega)]; exact iv_q3 h b s hb
    · rw [er 2 (by decide) (by decide)]; exact iv_d1 h
    · rw [er 2 (by decide) (by decide)]; exact iv_d2 h
    · rw [er 14 (by decide) (by decide)]; exact iv_u1 h
    · rw [er 10 (by decide) (by decide), er 12 (by decide) (by decide)]; exact iv_l1 h
    · exact fun j hj => lot_rows (fun k h1 h2 => er k (by omega) (by omega)) (iv_lot h j hj)
    · unfold ownOK; rw [er 11 (by decide) (by decide)]; exact iv_own h
    · rw [er 9 (by decide) (by decide), er 11 (by decide) (by decide)]; exact iv_own2 h
    · rw [er 9 (by decide) (by decide), er 12 (by decide) (by decide)]; exact iv_own3 h
    · rw [er 12 (by decide) (by decide)]; exact iv_paid h
    · rw [er 13 (by decide) (by decide)]
      intro u hu
      rw [bsum_rows (R := R) (fun j _ => by rw [er 11 (by decide) (by decide)]) (fun j _ => by rw [er 12 (by decide) (by decide)])]
      exact iv_bud h u hu
    · rw [er 14 (by decide) (by decide)]; exact iv_lim h
    · unfold ckOK; rw [er 0 (by decide) (by decide)]; exact iv_ck h
    · rw [er 0 (by decide) (by decide)]; exact iv_ck2 h
    · unfold truckOK; rw [er 18 (by decide) (by decide), er 11 (by decide) (by decide)]; exact iv_tr h
    · intro b hb q hq
      rw [wsum_rows (R := R) (p := byB R b (nI q)) (fun j _ => by rw [er 7 (by decide) (by decide)]) (fun j _ => by unfold byB; rw [er 4 (by decide) (by decide), er 5 (by decide) (by decide)])]
      have h0 := iv_quo h b hb q hq
      by_cases g : q = s0
      · subst g
        by_cases g0 : b = c0
        · subst g0
          have g1 : ¬ b = c1 := fun z => hne z.symm
          simp [up3, g1]
          rw [← h0, Int32.sub_eq_add_neg, Int32.sub_eq_add_neg, Int32.add_assoc, Int32.add_comm (-p3), ← Int32.add_assoc]
        · by_cases g1 : b = c1
          · subst g1
            simp [up3]
            rw [← h0, Int32.add_assoc, Int32.add_comm p3, ← Int32.add_assoc]
          · rw [eo _ _ _ g0 g1, eo _ _ _ g0 g1]; exact h0
      · rw [es _ _ _ g, es _ _ _ g]; exact h0
    · rw [psum_rows (R := R) (fun j _ => by rw [er 12 (by decide) (by decide)])]; exact iv_inc h
end
