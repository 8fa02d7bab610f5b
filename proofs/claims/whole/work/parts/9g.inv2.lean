/-! The invariant by rows -/
theorem bsum_rows {R R' : Nat → Nat → Nat → Int32} {u : Nat} : ∀ {n : Nat}, (∀ j, j < n → R' 11 j 0 = R 11 j 0) → (∀ j, j < n → R' 12 j 0 = R 12 j 0) → bsum R' u n = bsum R u n := by
  intro n
  induction n with
  | zero => intros; rfl
  | succ n ih =>
    intro h1 h2
    unfold bsum
    rw [ih (fun j hj => h1 j (by omega)) (fun j hj => h2 j (by omega)), h1 n (by omega), h2 n (by omega)]
theorem psum_rows {R R' : Nat → Nat → Nat → Int32} : ∀ {n : Nat}, (∀ j, j < n → R' 12 j 0 = R 12 j 0) → psum R' n = psum R n := by
  intro n
  induction n with
  | zero => intros; rfl
  | succ n ih =>
    intro h2
    unfold psum
    rw [ih (fun j hj => h2 j (by omega)), h2 n (by omega)]
theorem wsum_rows {R R' : Nat → Nat → Nat → Int32} {p p' : Nat → Bool} : ∀ {n : Nat}, (∀ j, j < n → R' 7 j 0 = R 7 j 0) → (∀ j, j < n → p' j = p j) → wsum R' p' n = wsum R p n := by
  intro n
  induction n with
  | zero => intros; rfl
  | succ n ih =>
    intro h1 h2
    unfold wsum
    rw [ih (fun j hj => h1 j (by omega)) (fun j hj => h2 j (by omega)), h1 n (by omega), h2 n (by omega)]
theorem lot_rows {R R' : Nat → Nat → Nat → Int32} {Fr : Nat → UInt32} {j : Nat} (h : ∀ k, 5 ≤ k → k ≤ 9 → R' k = R k) (hl : lotOK R Fr j) : lotOK R' Fr j := by
  unfold lotOK at hl ⊢
  rw [h 5 (by decide) (by decide), h 6 (by decide) (by decide), h 7 (by decide) (by decide), h 8 (by decide) (by decide), h 9 (by decide) (by decide)]
  exact hl
/-- rows 10, 14 and 0 alone were changed -/
theorem inv_rows {n : Nat} {N : Nat → Nat → Nat} {R R' : Nat → Nat → Nat → Int32} {Fr : Nat → UInt32} {inc : Int64} (h : INV n N R Fr inc) (hr : ∀ k, ¬ k = 0 → ¬ k = 10 → ¬ k = 14 → R' k = R k)
    (h14 : ∀ u s, N 0 2 ≤ u → R' 14 u s = 0) (h10 : ∀ j, N 0 1 ≤ j → R' 10 j 0 = 0) (hlim : ∀ u s, wi (R' 14 u s) 0 9999 = true) (hck : ckOK R') (hck2 : R' 0 3 0 ≤ R' 0 1 0) : INV n N R' Fr inc := by
  have r1 := hr 1 (by decide) (by decide) (by decide)
  have r2 := hr 2 (by decide) (by decide) (by decide)
  have r3 := hr 3 (by decide) (by decide) (by decide)
  have r4 := hr 4 (by decide) (by decide) (by decide)
  have r5 := hr 5 (by decide) (by decide) (by decide)
  have r7 := hr 7 (by decide) (by decide) (by decide)
  have r9 := hr 9 (by decide) (by decide) (by decide)
  have r11 := hr 11 (by decide) (by decide) (by decide)
  have r12 := hr 12 (by decide) (by decide) (by decide)
  have r13 := hr 13 (by decide) (by decide) (by decide)
  have r18 := hr 18 (by decide) (by decide) (by decide)
  refine ⟨iv_ic h, iv_tm h, ?_, ?_, ?_, ?_, h14, ?_, iv_t1 h, ?_, ?_, ?_, ?_, ?_, ?_, hlim, hck, hck2, ?_, ?_, ?_⟩
  · rw [r1]; exact iv_q1 h
  · rw [r3]; exact iv_q3 h
  · rw [r2]; exact iv_d1 h
  · rw [r2]; exact iv_d2 h
  · rw [r12]; exact fun j hj => ⟨h10 j hj, (iv_l1 h j hj).2⟩
  · exact fun j hj => lot_rows (fun k h1 h2 => hr k (by omega) (by omega) (by omega)) (iv_lot h j hj)
  · unfold ownOK; rw [r11]; exact iv_own h
  · rw [r9, r11]; exact iv_own2 h
  · rw [r9, r12]; exact iv_own3 h
  · rw [r12]; exact iv_paid h
  · intro u hu
    rw [r13, bsum_rows (R := R) (fun j _ => by rw [r11]) (fun j _ => by rw [r12])]
    exact iv_bud h u hu
  · unfold truckOK; rw [r18, r11]; exact iv_tr h
  · intro b hb q hq
    rw [r1, r3, wsum_rows (R := R) (p := byB R b (nI q)) (fun j _ => by rw [r7]) (fun j _ => by unfold byB; rw [r4, r5])]
    exact iv_quo h b hb q hq
  · rw [psum_rows (R := R) (fun j _ => by rw [r12])]; exact iv_inc h
