/-! New buyers and trucks -/
section
variable {n : Nat} {N : Nat → Nat → Nat} {R : Nat → Nat → Nat → Int32} {Fr : Nat → UInt32} {inc : Int64}
theorem bsum_new (hu : N 0 2 ≤ 5) : ∀ {k : Nat}, (∀ j, j < k → ownOK N R j) → bsum R (N 0 2) k = 0 := by
  intro k
  induction k with
  | zero => intros; rfl
  | succ k ih =>
    intro h
    unfold bsum
    rw [ih (fun j hj => h j (by omega)), if_neg ?_]
    intro q
    rcases h k (by omega) with e | e
    · rw [q] at e; exact nI_neg1 (by omega) e
    · have := ix_lt e (by omega)
      rw [q] at this
      obtain ⟨h1, h2⟩ := this
      have h3 := congrArg Int32.toInt h2
      rw [nI_toInt (by omega), nI_toInt (by omega)] at h3
      omega
theorem inv_addBuyer (h : INV n N R Fr inc) (p0 : Int32) : INVs n (op_addBuyer (N, R, Fr, inc) p0).2.2 := by
  simp only [op_addBuyer]
  split
  · exact h
  split
  · exact h
  · rename_i hp h4
    have hC := iv_ic h
    have hp : wi p0 0 1000000 = true := by simpa using hp
    obtain ⟨B, -, hB, eB, -⟩ := wi_nat (a := 0) (b := 1000000) (by decide) (by decide) hp
    have e0 : up2 (up2 N 0 2 (N 0 2 + 1)) 2 2 (N 0 2 + 1) 0 0 = N 0 0 := by simp [up2]
    have e1 : up2 (up2 N 0 2 (N 0 2 + 1)) 2 2 (N 0 2 + 1) 0 1 = N 0 1 := by simp [up2]
    have e2 : up2 (up2 N 0 2 (N 0 2 + 1)) 2 2 (N 0 2 + 1) 0 2 = N 0 2 + 1 := by simp [up2]
    have e3 : up2 (up2 N 0 2 (N 0 2 + 1)) 2 2 (N 0 2 + 1) 0 3 = N 0 3 := by simp [up2]
    have e4 : up2 (up2 N 0 2 (N 0 2 + 1)) 2 2 (N 0 2 + 1) 0 4 = N 0 4 := by simp [up2]
    have e5 : up2 (up2 N 0 2 (N 0 2 + 1)) 2 2 (N 0 2 + 1) 0 5 = N 0 5 := by simp [up2]
    have eN : ∀ k, ¬ k = 0 → ¬ k = 2 → up2 (up2 N 0 2 (N 0 2 + 1)) 2 2 (N 0 2 + 1) k = N k := by
      intro k hk hk2; funext i; simp [up2, hk, hk2]
    have er : ∀ k, ¬ k = 13 → up3 R 13 (N 0 2) 0 p0 k = R k := by
      intro k hk; funext i j; simp [up3, hk]
    refine ⟨?_, ?_, ?_, ?_, ?_, ?_, ?_, ?_, ?_, ?_, ?_, ?_, ?_, ?_, ?_, ?_, ?_, ?_, ?_, ?_, ?_⟩
    · unfold IC
      rw [e0, e1, e2, e3, e4, eN 1 (by decide) (by decide), eN 3 (by decide) (by decide)]
      refine ⟨hC.1, hC.2.1, by have := hC.2.2.1; omega, hC.2.2.2.1, hC.2.2.2.2.1, ?_, hC.2.2.2.2.2.2.1, hC.2.2.2.2.2.2.2⟩
      intro c hc
      by_cases q : c = 2
      · subst q; simp [up2]
      · have := hC.2.2.2.2.2.1 c hc
        simp [up2, q, this]
    · rw [e5]; exact iv_tm h
    · rw [e0, er 1 (by decide)]; exact iv_q1 h
    · rw [e0, er 3 (by decide)]; exact iv_q3 h
    · rw [e4, er 2 (by decide)]; exact iv_d1 h
    · rw [e0, er 2 (by decide)]; exact iv_d2 h
    · rw [e2, er 14 (by decide)]; exact fun u s hu => iv_u1 h u s (by omega)
    · rw [e1, er 10 (by decide), er 12 (by decide)]; exact iv_l1 h
    · rw [e3, eN 1 (by decide) (by decide)]; exact iv_t1 h
    · rw [e1]; exact fun j hj => lot_rows (fun k h1 h2 => er k (by omega)) (iv_lot h j hj)
    · unfold ownOK; rw [e1, e2, er 11 (by decide)]; exact fun j hj => (iv_own h j hj).imp id fun q => isIx_mono q (by omega) (by have := hC.2.2.1; omega)
    · rw [e1, e2, er 9 (by decide), er 11 (by decide)]; exact fun j hj q => isIx_mono (iv_own2 h j hj q) (by omega) (by have := hC.2.2.1; omega)
    · rw [e1, er 9 (by decide), er 12 (by decide)]; exact iv_own3 h
    · rw [er 12 (by decide)]; exact iv_paid h
    · rw [e1, e2]
      intro u hu
      rw [bsum_rows (R := R) (fun j _ => by rw [er 11 (by decide)]) (fun j _ => by rw [er 12 (by decide)])]
      by_cases q : u = N 0 2
      · subst q
        refine ⟨B, by rw [← eB]; simp [up3], ?_⟩
        rw [bsum_new hC.2.2.1 (iv_own h)]; exact hB
      · obtain ⟨B2, h1, h2⟩ := iv_bud h u (by omega)
        exact ⟨B2, by simp [up3, q]; exact h1, h2⟩
    · rw [er 14 (by decide)]; exact iv_lim h
    · unfold ckOK; rw [er 0 (by decide)]; exact iv_ck h
    · rw [er 0 (by decide)]; exact iv_ck2 h
    · unfold truckOK; rw [e1, e2, e3, eN 1 (by decide) (by decide), er 18 (by decide), er 11 (by decide)]
      exact fun t ht k hk => ⟨(iv_tr h t ht k hk).1, isIx_mono (iv_tr h t ht k hk).2 (by omega) (by have := hC.2.2.1; omega)⟩
    · rw [e1, er 1 (by decide), er 3 (by decide)]
      intro b hb q hq
      rw [wsum_rows (R := R) (p := byB R b (nI q)) (fun j _ => by rw [er 7 (by decide)]) (fun j _ => by unfold byB; rw [er 4 (by decide), er 5 (by decide)])]
      exact iv_quo h b hb q hq
    · rw [e1, psum_rows (R := R) (fun j _ => by rw [er 12 (by decide)])]; exact iv_inc h
end
