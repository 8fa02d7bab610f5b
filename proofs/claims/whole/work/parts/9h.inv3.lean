/-! The invariant, call by call -/
section
variable {n : Nat} {N : Nat → Nat → Nat} {R : Nat → Nat → Nat → Int32} {Fr : Nat → UInt32} {inc : Int64}
def INVs (n : Nat) : St → Prop := fun (N, R, Fr, inc) => INV n N R Fr inc
theorem ix_lt2 {c : Nat} {v : Int32} (h : isIx c v = true) (hc : c < 2 ^ 31) : ix v < c := (ix_lt h hc).1
theorem inv_setLimit (h : INV n N R Fr inc) (p0 p1 p2 : Int32) : INVs n (op_setLimit (N, R, Fr, inc) p0 p1 p2).2.2 := by
  simp only [op_setLimit]
  split
  · exact h
  split
  · exact h
  · rename_i h1 h2
    have h1 : isIx (N 0 2) p0 = true := by simpa using h1
    have h2 : wi p1 0 3 = true ∧ wi p2 0 9999 = true := by simpa using h2
    have hi := ix_lt2 h1 (by have := (iv_ic h).2.2.1; omega)
    refine inv_rows h ?_ ?_ ?_ ?_ ?_ ?_
    · intro k a b c; funext i j; simp [up3, c]
    · intro u s hu
      have : ¬ u = ix p0 := by omega
      simp only [up3, this, false_and, and_false, if_false]
      exact iv_u1 h u s hu
    · intro j hj; simp [up3]; exact (iv_l1 h j hj).1
    · intro u s
      simp only [up3]
      split
      · exact h2.2
      · exact iv_lim h u s
    · unfold ckOK; simp [up3]; exact iv_ck h
    · simp [up3]; exact iv_ck2 h
theorem inv_setClock (h : INV n N R Fr inc) (p0 p1 p2 : Int32) : INVs n (op_setClock (N, R, Fr, inc) p0 p1 p2).2.2 := by
  simp only [op_setClock]
  split
  · exact h
  · rename_i h1
    have h1 : wi p0 1 9999 = true ∧ wi p1 1 500 = true ∧ wi p2 0 p0 = true := by simpa using h1
    have a0 : 1 ≤ p0 ∧ p0 ≤ 9999 := by simpa [wi] using h1.1
    have a2 : 0 ≤ p2 ∧ p2 ≤ p0 := by simpa [wi] using h1.2.2
    refine inv_rows h ?_ ?_ ?_ ?_ ?_ ?_
    · intro k a b c; funext i j; simp [up3, a]
    · intro u s hu; simp [up3]; exact iv_u1 h u s hu
    · intro j hj; simp [up3]; exact (iv_l1 h j hj).1
    · intro u s; simp [up3]; exact iv_lim h u s
    · refine ⟨?_, ?_, ?_⟩
      · simp [up3, wi]; exact ⟨Int32.le_trans (by decide) a0.1, a0.2⟩
      · simp [up3]; exact h1.2.1
      · simp [up3, wi]; exact ⟨a2.1, Int32.le_trans a2.2 a0.2⟩
    · simp [up3]; exact a2.2
theorem inv_ice (h : INV n N R Fr inc) (p0 p1 : Int32) : INVs n (op_ice (N, R, Fr, inc) p0 p1).2.2 := by
  simp only [op_ice]
  split
  · exact h
  split
  · exact h
  split
  · exact h
  · rename_i h1 h2 h3
    have h1 : isIx (N 0 1) p0 = true := by simpa using h1
    have hi := ix_lt2 h1 (by have := (iv_ic h).2.1; omega)
    refine inv_rows h ?_ ?_ ?_ ?_ ?_ ?_
    · intro k a b c; funext i j; simp [up3, b]
    · intro u s hu; simp [up3]; exact iv_u1 h u s hu
    · intro j hj
      have : ¬ j = ix p0 := by omega
      simp only [up3, this, false_and, and_false, if_false]
      exact (iv_l1 h j hj).1
    · intro u s; simp [up3]; exact iv_lim h u s
    · unfold ckOK; simp [up3]; exact iv_ck h
    · simp [up3]; exact iv_ck2 h
end
