/-! A lot onto a truck -/
section
variable {n : Nat} {N : Nat → Nat → Nat} {R R' : Nat → Nat → Nat → Int32} {Fr : Nat → UInt32} {inc : Int64}
theorem inv_load (h : INV n N R Fr inc) (p0 p1 : Int32) : INVs n (op_load (N, R, Fr, inc) p0 p1).2.2 := by
  simp only [op_load]
  split
  · exact h
  split
  · exact h
  split
  · exact h
  split
  · exact h
  · rename_i h1 h2 h3 h4
    have hC := iv_ic h
    have h1 : isIx (N 0 1) p0 = true := by simpa using h1
    have h2 : isIx (N 0 3) p1 = true := by simpa using h2
    have i0 := ix_lt h1 (by have := hC.2.1; omega)
    have i1 := ix_lt h2 (by have := hC.2.2.2.1; omega)
    have h9 : R 9 (ix p0) 0 = 115 := Decidable.byContradiction fun q => h3 (Or.inl q)
    have hn5 : ¬ N 1 (ix p1) = 5 := fun q => h3 (Or.inr (Or.inr (Or.inl q)))
    obtain ⟨j, hj, dj⟩ : ∃ c, c = ix p0 ∧ c < N 0 1 := ⟨_, rfl, i0.1⟩
    obtain ⟨t, ht, dt⟩ : ∃ c, c = ix p1 ∧ c < N 0 3 := ⟨_, rfl, i1.1⟩
    rw [← hj] at h9 ⊢
    rw [← ht] at hn5 ⊢
    have e0 : up2 (up2 N 1 t (N 1 t + 1)) 3 t (N 1 t + 1) 0 = N 0 := by funext i; simp [up2]
    have e2 : up2 (up2 N 1 t (N 1 t + 1)) 3 t (N 1 t + 1) 2 = N 2 := by funext i; simp [up2]
    have er : ∀ k, ¬ k = 9 → ¬ k = 17 → ¬ k = 18 → up3 (up3 (up3 R 9 j 0 108) 18 t (N 1 t) p0) 17 t 0 (R 17 t 0 - R 7 j 0) k = R k := by
      intro k h1 h2 h3; funext a b; simp [up3, h1, h2, h3]
    have e9 : ∀ i, ¬ i = j → up3 (up3 (up3 R 9 j 0 108) 18 t (N 1 t) p0) 17 t 0 (R 17 t 0 - R 7 j 0) 9 i 0 = R 9 i 0 := by
      intro i g; simp [up3, g]
    have e9j : up3 (up3 (up3 R 9 j 0 108) 18 t (N 1 t) p0) 17 t 0 (R 17 t 0 - R 7 j 0) 9 j 0 = 108 := by simp [up3]
    refine ⟨?_, ?_, ?_, ?_, ?_, ?_, ?_, ?_, ?_, ?_, ?_, ?_, ?_, ?_, ?_, ?_, ?_, ?_, ?_, ?_, ?_⟩
    · unfold IC
      rw [e0, e2]
      refine ⟨hC.1, hC.2.1, hC.2.2.1, hC.2.2.2.1, hC.2.2.2.2.1, hC.2.2.2.2.2.1, ?_, ?_⟩
      · intro t2
        have h5 := hC.2.2.2.2.2.2.1 t2
        by_cases g : t2 = t
        · subst g; simp [up2]; omega
        · simp [up2, g]; exact h5
      · intro t2
        have h5 := hC.2.2.2.2.2.2.2 t2
        by_cases g : t2 = t
        · subst g; simp [up2]
        · simp [up2, g]; exact h5
    · rw [e0]; exact iv_tm h
    · rw [e0, er 1 (by decide) (by decide) (by decide)]; exact iv_q1 h
    · rw [e0, er 3 (by decide) (by decide) (by decide)]; exact iv_q3 h
    · rw [e0, er 2 (by decide) (by decide) (by decide)]; exact iv_d1 h
    · rw [e0, er 2 (by decide) (by decide) (by decide)]; exact iv_d2 h
    · rw [e0, er 14 (by decide) (by decide) (by decide)]; exact iv_u1 h
    · rw [e0, er 10 (by decide) (by decide) (by decide), er 12 (by decide) (by decide) (by decide)]; exact iv_l1 h
    · rw [e0]
      intro t2 ht2
      have g : ¬ t2 = t := by omega
      have := iv_t1 h t2 ht2
      simp [up2, g]; exact this
    · rw [e0]
      intro i hi
      obtain ⟨l5, l6, l7, l9, l8, l10⟩ := iv_lot h i hi
      unfold lotOK
      rw [er 5 (by decide) (by decide) (by decide), er 6 (by decide) (by decide) (by decide), er 7 (by decide) (by decide) (by decide), er 8 (by decide) (by decide) (by decide)]
      refine ⟨l5, l6, l7, ?_, l8, l10⟩
      by_cases g : i = j
      · rw [g, e9j]; exact Or.inr (Or.inr (Or.inl rfl))
      · rw [e9 i g]; exact l9
    · unfold ownOK; rw [e0, er 11 (by decide) (by decide) (by decide)]; exact iv_own h
    · rw [e0, er 11 (by decide) (by decide) (by decide)]
      intro i hi hq
      by_cases g : i = j
      · rw [g, e9j] at hq; exact absurd hq (by decide)
      · rw [e9 i g] at hq; exact iv_own2 h i hi hq
    · rw [e0, er 12 (by decide) (by decide) (by decide)]
      intro i hi hq
      by_cases g : i = j
      · rw [g, e9j] at hq; exact absurd hq (by decide)
      · rw [e9 i g] at hq; exact iv_own3 h i hi hq
    · rw [er 12 (by decide) (by decide) (by decide)]; exact iv_paid h
    · rw [e0, er 13 (by decide) (by decide) (by decide)]
      intro u hu
      rw [bsum_rows (R := R) (fun j _ => by rw [er 11 (by decide) (by decide) (by decide)]) (fun j _ => by rw [er 12 (by decide) (by decide) (by decide)])]
      exact iv_bud h u hu
    · rw [er 14 (by decide) (by decide) (by decide)]; exact iv_lim h
    · unfold ckOK; rw [er 0 (by decide) (by decide) (by decide)]; exact iv_ck h
    · rw [er 0 (by decide) (by decide) (by decide)]; exact iv_ck2 h
    · unfold truckOK; rw [e0, er 11 (by decide) (by decide) (by decide)]
      intro t2 ht2 k hk
      by_cases g : t2 = t ∧ k = N 1 t
      · obtain ⟨rfl, rfl⟩ := g
        have e : up3 (up3 (up3 R 9 j 0 108) 18 t2 (N 1 t2) p0) 17 t2 0 (R 17 t2 0 - R 7 j 0) 18 t2 (N 1 t2) = p0 := by simp [up3]
        rw [e, ← hj]
        exact ⟨h1, iv_own2 h j dj h9⟩
      · have e : up3 (up3 (up3 R 9 j 0 108) 18 t (N 1 t) p0) 17 t 0 (R 17 t 0 - R 7 j 0) 18 t2 k = R 18 t2 k := by simp [up3, g]
        rw [e]
        refine iv_tr h t2 ht2 k ?_
        by_cases g2 : t2 = t
        · subst g2
          have g3 : ¬ k = N 1 t2 := fun q => g ⟨rfl, q⟩
          simp [up2] at hk; omega
        · simp [up2, g2] at hk; exact hk
    · rw [e0, er 1 (by decide) (by decide) (by decide), er 3 (by decide) (by decide) (by decide)]
      intro b hb q hq
      rw [wsum_rows (R := R) (p := byB R b (nI q)) (fun j _ => by rw [er 7 (by decide) (by decide) (by decide)]) (fun j _ => by unfold byB; rw [er 4 (by decide) (by decide) (by decide), er 5 (by decide) (by decide) (by decide)])]
      exact iv_quo h b hb q hq
    · rw [e0, psum_rows (R := R) (fun j _ => by rw [er 12 (by decide) (by decide) (by decide)])]; exact iv_inc h
end
