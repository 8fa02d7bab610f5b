/-! A new lot -/
section
variable {n : Nat} {N : Nat → Nat → Nat} {R : Nat → Nat → Nat → Int32} {Fr : Nat → UInt32} {inc : Int64}
theorem inv_land (h : INV n N R Fr inc) (hq : QS N R) (p0 p1 p2 p3 p4 : Int32) (hz4 : p4 = 0 ∨ p4 = 1) : INVs n (op_land (N, R, Fr, inc) p0 p1 p2 p3 p4).2.2 := by
  simp only [op_land]
  split
  · exact h
  split
  · exact h
  split
  · exact h
  split
  · exact h
  · rename_i h1 h2 h3 h4
    have hC := iv_ic h
    have h1 : isIx (N 0 0) p0 = true := by simpa using h1
    have i0 := ix_lt h1 (by have := hC.1; omega)
    have hw : wi p1 0 3 = true ∧ wi p2 0 2 = true ∧ wi p3 1 2000 = true := nf3 h2
    have i1 := wi_lt (b := 3) (by decide) hw.1
    obtain ⟨a, ha, da⟩ : ∃ c, c = ix p0 ∧ c < N 0 0 := ⟨_, rfl, i0.1⟩
    obtain ⟨s, hs, ds⟩ : ∃ c, c = ix p1 ∧ c ≤ 3 := ⟨_, rfl, i1.1⟩
    have e0p : p0 = nI a := by rw [ha]; exact i0.2
    have e1p : p1 = nI s := by rw [hs]; exact i1.2
    rw [← ha, ← hs] at h4
    rw [← ha, ← hs]
    obtain ⟨hwo, -⟩ := landed_ok hw.2.2 (hq.1 a s) h4
    revert hwo
    generalize landed p3 (R 1 a s) = w
    intro hwo
    have hn6 := hC.1
    have hn20 := hC.2.1
    obtain ⟨k, hk⟩ : ∃ k, k = N 0 1 := ⟨_, rfl⟩
    rw [← hk] at h3 hn20
    have hN0 : up2 (up2 N 0 1 (N 0 1 + 1)) 2 1 (N 0 1 + 1) 0 0 = N 0 0 := by simp [up2]
    have hN1 : up2 (up2 N 0 1 (N 0 1 + 1)) 2 1 (N 0 1 + 1) 0 1 = k + 1 := by simp [up2, hk]
    have hN2 : up2 (up2 N 0 1 (N 0 1 + 1)) 2 1 (N 0 1 + 1) 0 2 = N 0 2 := by simp [up2]
    have hN3 : up2 (up2 N 0 1 (N 0 1 + 1)) 2 1 (N 0 1 + 1) 0 3 = N 0 3 := by simp [up2]
    have hN4 : up2 (up2 N 0 1 (N 0 1 + 1)) 2 1 (N 0 1 + 1) 0 4 = N 0 4 := by simp [up2]
    have hN5 : up2 (up2 N 0 1 (N 0 1 + 1)) 2 1 (N 0 1 + 1) 0 5 = N 0 5 := by simp [up2]
    have hNk : ∀ i, ¬ i = 0 → ¬ i = 2 → up2 (up2 N 0 1 (N 0 1 + 1)) 2 1 (N 0 1 + 1) i = N i := by
      intro i a b; funext j; simp [up2, a, b]
    have hNc : ∀ c, c < 4 → up2 (up2 N 0 1 (N 0 1 + 1)) 2 1 (N 0 1 + 1) 2 c = up2 (up2 N 0 1 (N 0 1 + 1)) 2 1 (N 0 1 + 1) 0 c := by
      intro c hc
      by_cases q : c = 1
      · subst q; simp [up2]
      · have := hC.2.2.2.2.2.1 c hc
        simp [up2, q, this]
    generalize up2 (up2 N 0 1 (N 0 1 + 1)) 2 1 (N 0 1 + 1) = N' at hN0 hN1 hN2 hN3 hN4 hN5 hNk hNc ⊢
    rw [← hk]
    have er : ∀ i, ¬ i = 0 → ¬ i = 1 → ¬ i = 4 → ¬ i = 5 → ¬ i = 6 → ¬ i = 7 → ¬ i = 8 → ¬ i = 9 → ¬ i = 11 → up3 (up3 (up3 (up3 (up3 (up3 (up3 (up3 (up3 R 1 a s (R 1 a s - w)) 0 0 0 (R 0 0 0 + (p3 - w))) 5 k 0 p1) 6 k 0 p2) 7 k 0 w) 8 k 0 p4) 9 k 0 102) 11 k 0 (-1)) 4 k 0 p0 i = R i := by
      intro i a0 a1 a4 a5 a6 a7 a8 a9 a11; funext x y; simp [up3, a0, a1, a4, a5, a6, a7, a8, a9, a11]
    have eo : ∀ i j x, 2 ≤ i → ¬ j = k → up3 (up3 (up3 (up3 (up3 (up3 (up3 (up3 (up3 R 1 a s (R 1 a s - w)) 0 0 0 (R 0 0 0 + (p3 - w))) 5 k 0 p1) 6 k 0 p2) 7 k 0 w) 8 k 0 p4) 9 k 0 102) 11 k 0 (-1)) 4 k 0 p0 i j x = R i j x := by
      intro i j x a2 aj
      have b0 : ¬ i = 0 := by omega
      have b1 : ¬ i = 1 := by omega
      simp [up3, b0, b1, aj]
    have e0 : ∀ j, ¬ j = 0 → up3 (up3 (up3 (up3 (up3 (up3 (up3 (up3 (up3 R 1 a s (R 1 a s - w)) 0 0 0 (R 0 0 0 + (p3 - w))) 5 k 0 p1) 6 k 0 p2) 7 k 0 w) 8 k 0 p4) 9 k 0 102) 11 k 0 (-1)) 4 k 0 p0 0 j 0 = R 0 j 0 := by
      intro j g; simp [up3, g]
    have e1 : ∀ b q, ¬ (b = a ∧ q = s) → up3 (up3 (up3 (up3 (up3 (up3 (up3 (up3 (up3 R 1 a s (R 1 a s - w)) 0 0 0 (R 0 0 0 + (p3 - w))) 5 k 0 p1) 6 k 0 p2) 7 k 0 w) 8 k 0 p4) 9 k 0 102) 11 k 0 (-1)) 4 k 0 p0 1 b q = R 1 b q := by
      intro b q g; simp [up3, g]
    have e1a : up3 (up3 (up3 (up3 (up3 (up3 (up3 (up3 (up3 R 1 a s (R 1 a s - w)) 0 0 0 (R 0 0 0 + (p3 - w))) 5 k 0 p1) 6 k 0 p2) 7 k 0 w) 8 k 0 p4) 9 k 0 102) 11 k 0 (-1)) 4 k 0 p0 1 a s = R 1 a s - w := by simp [up3]
    have k4 : up3 (up3 (up3 (up3 (up3 (up3 (up3 (up3 (up3 R 1 a s (R 1 a s - w)) 0 0 0 (R 0 0 0 + (p3 - w))) 5 k 0 p1) 6 k 0 p2) 7 k 0 w) 8 k 0 p4) 9 k 0 102) 11 k 0 (-1)) 4 k 0 p0 4 k 0 = p0 := by simp [up3]
    have k5 : up3 (up3 (up3 (up3 (up3 (up3 (up3 (up3 (up3 R 1 a s (R 1 a s - w)) 0 0 0 (R 0 0 0 + (p3 - w))) 5 k 0 p1) 6 k 0 p2) 7 k 0 w) 8 k 0 p4) 9 k 0 102) 11 k 0 (-1)) 4 k 0 p0 5 k 0 = p1 := by simp [up3]
    have k6 : up3 (up3 (up3 (up3 (up3 (up3 (up3 (up3 (up3 R 1 a s (R 1 a s - w)) 0 0 0 (R 0 0 0 + (p3 - w))) 5 k 0 p1) 6 k 0 p2) 7 k 0 w) 8 k 0 p4) 9 k 0 102) 11 k 0 (-1)) 4 k 0 p0 6 k 0 = p2 := by simp [up3]
    have k7 : up3 (up3 (up3 (up3 (up3 (up3 (up3 (up3 (up3 R 1 a s (R 1 a s - w)) 0 0 0 (R 0 0 0 + (p3 - w))) 5 k 0 p1) 6 k 0 p2) 7 k 0 w) 8 k 0 p4) 9 k 0 102) 11 k 0 (-1)) 4 k 0 p0 7 k 0 = w := by simp [up3]
    have k8 : up3 (up3 (up3 (up3 (up3 (up3 (up3 (up3 (up3 R 1 a s (R 1 a s - w)) 0 0 0 (R 0 0 0 + (p3 - w))) 5 k 0 p1) 6 k 0 p2) 7 k 0 w) 8 k 0 p4) 9 k 0 102) 11 k 0 (-1)) 4 k 0 p0 8 k 0 = p4 := by simp [up3]
    have k9 : up3 (up3 (up3 (up3 (up3 (up3 (up3 (up3 (up3 R 1 a s (R 1 a s - w)) 0 0 0 (R 0 0 0 + (p3 - w))) 5 k 0 p1) 6 k 0 p2) 7 k 0 w) 8 k 0 p4) 9 k 0 102) 11 k 0 (-1)) 4 k 0 p0 9 k 0 = 102 := by simp [up3]
    have k11 : up3 (up3 (up3 (up3 (up3 (up3 (up3 (up3 (up3 R 1 a s (R 1 a s - w)) 0 0 0 (R 0 0 0 + (p3 - w))) 5 k 0 p1) 6 k 0 p2) 7 k 0 w) 8 k 0 p4) 9 k 0 102) 11 k 0 (-1)) 4 k 0 p0 11 k 0 = -1 := by simp [up3]
    generalize up3 (up3 (up3 (up3 (up3 (up3 (up3 (up3 (up3 R 1 a s (R 1 a s - w)) 0 0 0 (R 0 0 0 + (p3 - w))) 5 k 0 p1) 6 k 0 p2) 7 k 0 w) 8 k 0 p4) 9 k 0 102) 11 k 0 (-1)) 4 k 0 p0 = R' at er eo e0 e1 e1a k4 k5 k6 k7 k8 k9 k11 ⊢
    have r2 := er 2 (by decide) (by decide) (by decide) (by decide) (by decide) (by decide) (by decide) (by decide) (by decide)
    have r3 := er 3 (by decide) (by decide) (by decide) (by decide) (by decide) (by decide) (by decide) (by decide) (by decide)
    have r10 := er 10 (by decide) (by decide) (by decide) (by decide) (by decide) (by decide) (by decide) (by decide) (by decide)
    have r12 := er 12 (by decide) (by decide) (by decide) (by decide) (by decide) (by decide) (by decide) (by decide) (by decide)
    have r13 := er 13 (by decide) (by decide) (by decide) (by decide) (by decide) (by decide) (by decide) (by decide) (by decide)
    have r14 := er 14 (by decide) (by decide) (by decide) (by decide) (by decide) (by decide) (by decide) (by decide) (by decide)
    have r18 := er 18 (by decide) (by decide) (by decide) (by decide) (by decide) (by decide) (by decide) (by decide) (by decide)
    have hl12 : R 12 k 0 = 0 := (iv_l1 h k (by omega)).2
    refine ⟨?_, ?_, ?_, ?_, ?_, ?_, ?_, ?_, ?_, ?_, ?_, ?_, ?_, ?_, ?_, ?_, ?_, ?_, ?_, ?_, ?_⟩
    · unfold IC
      rw [hN0, hN1, hN2, hN3, hN4, hNk 1 (by decide) (by decide), hNk 3 (by decide) (by decide)]
      exact ⟨hC.1, by omega, hC.2.2.1, hC.2.2.2.1, hC.2.2.2.2.1, hNc, hC.2.2.2.2.2.2.1, hC.2.2.2.2.2.2.2⟩
    · rw [hN5]; exact iv_tm h
    · rw [hN0]; intro b q hb; rw [e1 b q (fun g => by omega)]; exact iv_q1 h b q hb
    · rw [hN0, r3]; exact iv_q3 h
    · rw [hN4, r2]; exact iv_d1 h
    · rw [hN0, r2]; exact iv_d2 h
    · rw [hN2, r14]; exact iv_u1 h
    · rw [hN1, r10, r12]; exact fun j hj => iv_l1 h j (by omega)
    · rw [hN3, hNk 1 (by decide) (by decide)]; exact iv_t1 h
    · rw [hN1]
      intro j hj
      by_cases g : j = k
      · rw [g]
        unfold lotOK
        rw [k5, k6, k7, k8, k9]
        refine ⟨hw.1, hw.2.1, hwo, Or.inl rfl, ?_, hz4⟩
        simp [vf_upd, fo]
      · have hj2 : j < N 0 1 := by omega
        have hl := iv_lot h j hj2
        unfold lotOK at hl ⊢
        rw [eo 5 j 0 (by decide) g, eo 6 j 0 (by decide) g, eo 7 j 0 (by decide) g, eo 8 j 0 (by decide) g, eo 9 j 0 (by decide) g]
        refine ⟨hl.1, hl.2.1, hl.2.2.1, hl.2.2.2.1, ?_, hl.2.2.2.2.2⟩
        simp [vf_upd, g]; exact hl.2.2.2.2.1
    · rw [hN1]
      intro j hj
      unfold ownOK
      rw [hN2]
      by_cases g : j = k
      · rw [g, k11]; exact Or.inl rfl
      · rw [eo 11 j 0 (by decide) g]; exact iv_own h j (by omega)
    · rw [hN1, hN2]
      intro j hj hq
      by_cases g : j = k
      · rw [g, k9] at hq; exact absurd hq (by decide)
      · rw [eo 9 j 0 (by decide) g] at hq; rw [eo 11 j 0 (by decide) g]; exact iv_own2 h j (by omega) hq
    · rw [hN1, r12]
      intro j hj hq
      by_cases g : j = k
      · rw [g]; exact hl12
      · rw [eo 9 j 0 (by decide) g] at hq; exact iv_own3 h j (by omega) hq
    · rw [r12]; exact iv_paid h
    · rw [hN1, hN2, r13]
      intro u hu
      have e : bsum R' u (k + 1) = bsum R u k := by
        show bsum R' u k + (if R' 11 k 0 = nI u then (R' 12 k 0).toInt.toNat else 0) = bsum R u k
        rw [bsum_rows (R := R) (fun j hj => eo 11 j 0 (by decide) (by omega)) (fun j _ => by rw [r12]), r12, hl12]
        simp
      rw [e, hk]
      exact iv_bud h u hu
    · rw [r14]; exact iv_lim h
    · unfold ckOK; rw [e0 1 (by decide), e0 2 (by decide), e0 3 (by decide)]; exact iv_ck h
    · rw [e0 1 (by decide), e0 3 (by decide)]; exact iv_ck2 h
    · unfold truckOK
      rw [hN1, hN2, hN3, hNk 1 (by decide) (by decide), r18]
      intro t ht i hi
      obtain ⟨b1, b2⟩ := iv_tr h t ht i hi
      have b3 := ix_lt b1 (by omega)
      rw [eo 11 _ 0 (by decide) (by omega)]
      exact ⟨isIx_mono b1 (by omega) (by omega), b2⟩
    · rw [hN1, r3]
      intro b hb q hq4
      have h0 := iv_quo h b hb q hq4
      show R' 1 b q + (wsum R' (byB R' b (nI q)) k + (if byB R' b (nI q) k then R' 7 k 0 else 0)) = R 3 b q
      rw [wsum_rows (R := R) (p := byB R b (nI q)) (fun j hj => eo 7 j 0 (by decide) (by omega)) (fun j hj => by unfold byB; rw [eo 4 j 0 (by decide) (by omega), eo 5 j 0 (by decide) (by omega)]), k7]
      have eb : byB R' b (nI q) k = decide (b = a ∧ q = s) := by
        unfold byB
        rw [k4, k5, e0p, e1p]
        have x1 := nI_eq (a := a) (b := b) (by omega) (by omega)
        have x2 := nI_eq (a := s) (b := q) (by omega) (by omega)
        rw [decide_eq_decide.mpr x1, decide_eq_decide.mpr x2, ← Bool.decide_and]
        exact decide_eq_decide.mpr ⟨fun z => ⟨z.1.symm, z.2.symm⟩, fun z => ⟨z.1.symm, z.2.symm⟩⟩
      rw [eb]
      by_cases g : b = a ∧ q = s
      · rw [g.1, g.2] at h0 ⊢
        rw [e1a]
        simp only [and_self, decide_true, if_true]
        rw [← h0, hk, Int32.add_comm _ w, ← Int32.add_assoc, Int32.sub_add_cancel]
      · rw [e1 b q g]
        simp only [g, decide_false, Bool.false_eq_true, if_false, Int32.add_zero]
        rw [hk]; exact h0
    · rw [hN1]
      show inc = psum R' k + (R' 12 k 0).toInt64
      rw [psum_rows (R := R) (fun j _ => by rw [r12]), r12, hl12, iv_inc h, hk]
      exact (Int64.add_zero _).symm
end
