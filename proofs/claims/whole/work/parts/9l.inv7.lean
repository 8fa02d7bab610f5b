/-! A new boat -/
section
variable {n : Nat} {N : Nat → Nat → Nat} {R : Nat → Nat → Nat → Int32} {Fr : Nat → UInt32} {inc : Int64}
/-- four numbers of a row -/
def put4 (R : Nat → Nat → Nat → Int32) (k b : Nat) (p0 p1 p2 p3 : Int32) : Nat → Nat → Nat → Int32 := up3 (up3 (up3 (up3 R k b 0 p0) k b 1 p1) k b 2 p2) k b 3 p3
theorem put4_ne {k b : Nat} {p0 p1 p2 p3 : Int32} {k' b' s : Nat} (h : ¬ (k' = k ∧ b' = b ∧ s < 4)) : put4 R k b p0 p1 p2 p3 k' b' s = R k' b' s := by
  unfold put4
  simp only [up3]
  rw [if_neg (fun q => h ⟨q.1, q.2.1, by omega⟩), if_neg (fun q => h ⟨q.1, q.2.1, by omega⟩), if_neg (fun q => h ⟨q.1, q.2.1, by omega⟩), if_neg (fun q => h ⟨q.1, q.2.1, by omega⟩)]
def four (p0 p1 p2 p3 : Int32) (s : Nat) : Int32 := if s = 0 then p0 else if s = 1 then p1 else if s = 2 then p2 else p3
theorem put4_eq {k b : Nat} {p0 p1 p2 p3 : Int32} {s : Nat} (h : s < 4) : put4 R k b p0 p1 p2 p3 k b s = four p0 p1 p2 p3 s := by
  unfold put4 four
  obtain rfl | rfl | rfl | rfl : s = 0 ∨ s = 1 ∨ s = 2 ∨ s = 3 := by omega
  all_goals simp [up3]
theorem inv_addBoat (h : INV n N R Fr inc) (p0 p1 p2 p3 : Int32) : INVs n (op_addBoat (N, R, Fr, inc) p0 p1 p2 p3).2.2 := by
  simp only [op_addBoat]
  split
  · exact h
  split
  · exact h
  · rename_i hp h4
    have hC := iv_ic h
    show INV n _ (put4 (put4 R 1 (N 0 0) p0 p1 p2 p3) 3 (N 0 0) p0 p1 p2 p3) Fr inc
    have e0 : up2 (up2 N 0 0 (N 0 0 + 1)) 2 0 (N 0 0 + 1) 0 0 = N 0 0 + 1 := by simp [up2]
    have e1 : up2 (up2 N 0 0 (N 0 0 + 1)) 2 0 (N 0 0 + 1) 0 1 = N 0 1 := by simp [up2]
    have e2 : up2 (up2 N 0 0 (N 0 0 + 1)) 2 0 (N 0 0 + 1) 0 2 = N 0 2 := by simp [up2]
    have e3 : up2 (up2 N 0 0 (N 0 0 + 1)) 2 0 (N 0 0 + 1) 0 3 = N 0 3 := by simp [up2]
    have e4 : up2 (up2 N 0 0 (N 0 0 + 1)) 2 0 (N 0 0 + 1) 0 4 = N 0 4 := by simp [up2]
    have e5 : up2 (up2 N 0 0 (N 0 0 + 1)) 2 0 (N 0 0 + 1) 0 5 = N 0 5 := by simp [up2]
    have eN : ∀ k, ¬ k = 0 → ¬ k = 2 → up2 (up2 N 0 0 (N 0 0 + 1)) 2 0 (N 0 0 + 1) k = N k := by
      intro k hk hk2; funext i; simp [up2, hk, hk2]
    have er : ∀ k, ¬ k = 1 → ¬ k = 3 → put4 (put4 R 1 (N 0 0) p0 p1 p2 p3) 3 (N 0 0) p0 p1 p2 p3 k = R k := by
      intro k h1 h2; funext i j; rw [put4_ne (fun q => h2 q.1), put4_ne (fun q => h1 q.1)]
    have eo : ∀ k b s, ¬ b = N 0 0 → put4 (put4 R 1 (N 0 0) p0 p1 p2 p3) 3 (N 0 0) p0 p1 p2 p3 k b s = R k b s := by
      intro k b s hb; rw [put4_ne (fun q => hb q.2.1), put4_ne (fun q => hb q.2.1)]
    refine ⟨?_, ?_, ?_, ?_, ?_, ?_, ?_, ?_, ?_, ?_, ?_, ?_, ?_, ?_, ?_, ?_, ?_, ?_, ?_, ?_, ?_⟩
    · unfold IC
      rw [e0, e1, e2, e3, e4, eN 1 (by decide) (by decide), eN 3 (by decide) (by decide)]
      refine ⟨by have := hC.1; omega, hC.2.1, hC.2.2.1, hC.2.2.2.1, hC.2.2.2.2.1, ?_, hC.2.2.2.2.2.2.1, hC.2.2.2.2.2.2.2⟩
      intro c hc
      by_cases q : c = 0
      · subst q; simp [up2]
      · have := hC.2.2.2.2.2.1 c hc
        simp [up2, q, this]
    · rw [e5]; exact iv_tm h
    · rw [e0]; intro b s hb; rw [eo _ _ _ (by omega)]; exact iv_q1 h b s (by omega)
    · rw [e0]; intro b s hb; rw [eo _ _ _ (by omega)]; exact iv_q3 h b s (by omega)
    · rw [e4, er 2 (by decide) (by decide)]; exact iv_d1 h
    · rw [e0, er 2 (by decide) (by decide)]; exact fun d j hj => iv_d2 h d j (by omega)
    · rw [e2, er 14 (by decide) (by decide)]; exact iv_u1 h
    · rw [e1, er 10 (by decide) (by decide), er 12 (by decide) (by decide)]; exact iv_l1 h
    · rw [e3, eN 1 (by decide) (by decide)]; exact iv_t1 h
    · rw [e1]; exact fun j hj => lot_rows (fun k h1 h2 => er k (by omega) (by omega)) (iv_lot h j hj)
    · unfold ownOK; rw [e1, e2, er 11 (by decide) (by decide)]; exact iv_own h
    · rw [e1, e2, er 9 (by decide) (by decide), er 11 (by decide) (by decide)]; exact iv_own2 h
    · rw [e1, er 9 (by decide) (by decide), er 12 (by decide) (by decide)]; exact iv_own3 h
    · rw [er 12 (by decide) (by decide)]; exact iv_paid h
    · rw [e1, e2, er 13 (by decide) (by decide)]
      intro u hu
      rw [bsum_rows (R := R) (fun j _ => by rw [er 11 (by decide) (by decide)]) (fun j _ => by rw [er 12 (by decide) (by decide)])]
      exact iv_bud h u hu
    · rw [er 14 (by decide) (by decide)]; exact iv_lim h
    · unfold ckOK; rw [er 0 (by decide) (by decide)]; exact iv_ck h
    · rw [er 0 (by decide) (by decide)]; exact iv_ck2 h
    · unfold truckOK; rw [e1, e2, e3, eN 1 (by decide) (by decide), er 18 (by decide) (by decide), er 11 (by decide) (by decide)]; exact iv_tr h
    · rw [e1]
      intro b hb q hq
      rw [wsum_rows (R := R) (p := byB R b (nI q)) (fun j _ => by rw [er 7 (by decide) (by decide)]) (fun j _ => by unfold byB; rw [er 4 (by decide) (by decide), er 5 (by decide) (by decide)])]
      have h0 := iv_quo h b hb q hq
      by_cases g : b = N 0 0
      · rw [iv_q1 h b q (by omega), iv_q3 h b q (by omega), Int32.zero_add] at h0
        rw [h0, Int32.add_zero]
        subst g
        rw [put4_eq hq, put4_ne (fun z => absurd z.1 (by decide)), put4_eq hq]
      · rw [eo _ _ _ g, eo _ _ _ g]; exact h0
    · rw [e1, psum_rows (R := R) (fun j _ => by rw [er 12 (by decide) (by decide)])]; exact iv_inc h
end
