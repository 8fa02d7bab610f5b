/-! What holds between calls -/
/-- what buyer u has paid for the first n lots -/
def bsum (R : Nat → Nat → Nat → Int32) (u : Nat) : Nat → Nat
  | 0 => 0
  | n + 1 => bsum R u n + (if R 11 n 0 = nI u then (R 12 n 0).toInt.toNat else 0)
def INV (n : Nat) (N : Nat → Nat → Nat) (R : Nat → Nat → Nat → Int32) (Fr : Nat → UInt32) (inc : Int64) : Prop :=
  (IC N) ∧
  (N 0 5 ≤ n) ∧
  (∀ b s, N 0 0 ≤ b → R 1 b s = 0) ∧
  (∀ b s, N 0 0 ≤ b → R 3 b s = 0) ∧
  (∀ d, N 0 4 ≤ d → ∀ j, R 2 d j = 0) ∧
  (∀ d j, 4 * N 0 0 ≤ j → R 2 d j = 0) ∧
  (∀ u s, N 0 2 ≤ u → R 14 u s = 0) ∧
  (∀ j, N 0 1 ≤ j → R 10 j 0 = 0 ∧ R 12 j 0 = 0) ∧
  (∀ t, N 0 3 ≤ t → N 1 t = 0) ∧
  (∀ j, j < N 0 1 → lotOK R Fr j) ∧
  (∀ j, j < N 0 1 → ownOK N R j) ∧
  (∀ j, j < N 0 1 → R 9 j 0 = 115 → isIx (N 0 2) (R 11 j 0) = true) ∧
  (∀ j, j < N 0 1 → R 9 j 0 = 102 → R 12 j 0 = 0) ∧
  (∀ i, paidOK (R 12 i 0)) ∧
  (∀ u, u < N 0 2 → ∃ B : Nat, R 13 u 0 = nI B ∧ B + bsum R u (N 0 1) ≤ 1000000) ∧
  (∀ u s, wi (R 14 u s) 0 9999 = true) ∧
  (ckOK R) ∧
  (R 0 3 0 ≤ R 0 1 0) ∧
  (truckOK N R) ∧
  (∀ b, b ≤ 6 → ∀ q, q < 4 → R 1 b q + wsum R (byB R b (nI q)) (N 0 1) = R 3 b q) ∧
  (inc = psum R (N 0 1))
theorem iv_ic {n : Nat} {N : Nat → Nat → Nat} {R : Nat → Nat → Nat → Int32} {Fr : Nat → UInt32} {inc : Int64} (h : INV n N R Fr inc) : IC N := h.1
theorem iv_tm {n : Nat} {N : Nat → Nat → Nat} {R : Nat → Nat → Nat → Int32} {Fr : Nat → UInt32} {inc : Int64} (h : INV n N R Fr inc) : N 0 5 ≤ n := h.2.1
theorem iv_q1 {n : Nat} {N : Nat → Nat → Nat} {R : Nat → Nat → Nat → Int32} {Fr : Nat → UInt32} {inc : Int64} (h : INV n N R Fr inc) : ∀ b s, N 0 0 ≤ b → R 1 b s = 0 := h.2.2.1
theorem iv_q3 {n : Nat} {N : Nat → Nat → Nat} {R : Nat → Nat → Nat → Int32} {Fr : Nat → UInt32} {inc : Int64} (h : INV n N R Fr inc) : ∀ b s, N 0 0 ≤ b → R 3 b s = 0 := h.2.2.2.1
theorem iv_d1 {n : Nat} {N : Nat → Nat → Nat} {R : Nat → Nat → Nat → Int32} {Fr : Nat → UInt32} {inc : Int64} (h : INV n N R Fr inc) : ∀ d, N 0 4 ≤ d → ∀ j, R 2 d j = 0 := h.2.2.2.2.1
theorem iv_d2 {n : Nat} {N : Nat → Nat → Nat} {R : Nat → Nat → Nat → Int32} {Fr : Nat → UInt32} {inc : Int64} (h : INV n N R Fr inc) : ∀ d j, 4 * N 0 0 ≤ j → R 2 d j = 0 := h.2.2.2.2.2.1
theorem iv_u1 {n : Nat} {N : Nat → Nat → Nat} {R : Nat → Nat → Nat → Int32} {Fr : Nat → UInt32} {inc : Int64} (h : INV n N R Fr inc) : ∀ u s, N 0 2 ≤ u → R 14 u s = 0 := h.2.2.2.2.2.2.1
theorem iv_l1 {n : Nat} {N : Nat → Nat → Nat} {R : Nat → Nat → Nat → Int32} {Fr : Nat → UInt32} {inc : Int64} (h : INV n N R Fr inc) : ∀ j, N 0 1 ≤ j → R 10 j 0 = 0 ∧ R 12 j 0 = 0 := h.2.2.2.2.2.2.2.1
theorem iv_t1 {n : Nat} {N : Nat → Nat → Nat} {R : Nat → Nat → Nat → Int32} {Fr : Nat → UInt32} {inc : Int64} (h : INV n N R Fr inc) : ∀ t, N 0 3 ≤ t → N 1 t = 0 := h.2.2.2.2.2.2.2.2.1
theorem iv_lot {n : Nat} {N : Nat → Nat → Nat} {R : Nat → Nat → Nat → Int32} {Fr : Nat → UInt32} {inc : Int64} (h : INV n N R Fr inc) : ∀ j, j < N 0 1 → lotOK R Fr j := h.2.2.2.2.2.2.2.2.2.1
theorem iv_own {n : Nat} {N : Nat → Nat → Nat} {R : Nat → Nat → Nat → Int32} {Fr : Nat → UInt32} {inc : Int64} (h : INV n N R Fr inc) : ∀ j, j < N 0 1 → ownOK N R j := h.2.2.2.2.2.2.2.2.2.2.1
theorem iv_own2 {n : Nat} {N : Nat → Nat → Nat} {R : Nat → Nat → Nat → Int32} {Fr : Nat → UInt32} {inc : Int64} (h : INV n N R Fr inc) : ∀ j, j < N 0 1 → R 9 j 0 = 115 → isIx (N 0 2) (R 11 j 0) = true := h.2.2.2.2.2.2.2.2.2.2.2.1
theorem iv_own3 {n : Nat} {N : Nat → Nat → Nat} {R : Nat → Nat → Nat → Int32} {Fr : Nat → UInt32} {inc : Int64} (h : INV n N R Fr inc) : ∀ j, j < N 0 1 → R 9 j 0 = 102 → R 12 j 0 = 0 := h.2.2.2.2.2.2.2.2.2.2.2.2.1
theorem iv_paid {n : Nat} {N : Nat → Nat → Nat} {R : Nat → Nat → Nat → Int32} {Fr : Nat → UInt32} {inc : Int64} (h : INV n N R Fr inc) : ∀ i, paidOK (R 12 i 0) := h.2.2.2.2.2.2.2.2.2.2.2.2.2.1
theorem iv_bud {n : Nat} {N : Nat → Nat → Nat} {R : Nat → Nat → Nat → Int32} {Fr : Nat → UInt32} {inc : Int64} (h : INV n N R Fr inc) : ∀ u, u < N 0 2 → ∃ B : Nat, R 13 u 0 = nI B ∧ B + bsum R u (N 0 1) ≤ 1000000 := h.2.2.2.2.2.2.2.2.2.2.2.2.2.2.1
theorem iv_lim {n : Nat} {N : Nat → Nat → Nat} {R : Nat → Nat → Nat → Int32} {Fr : Nat → UInt32} {inc : Int64} (h : INV n N R Fr inc) : ∀ u s, wi (R 14 u s) 0 9999 = true := h.2.2.2.2.2.2.2.2.2.2.2.2.2.2.2.1
theorem iv_ck {n : Nat} {N : Nat → Nat → Nat} {R : Nat → Nat → Nat → Int32} {Fr : Nat → UInt32} {inc : Int64} (h : INV n N R Fr inc) : ckOK R := h.2.2.2.2.2.2.2.2.2.2.2.2.2.2.2.2.1
theorem iv_ck2 {n : Nat} {N : Nat → Nat → Nat} {R : Nat → Nat → Nat → Int32} {Fr : Nat → UInt32} {inc : Int64} (h : INV n N R Fr inc) : R 0 3 0 ≤ R 0 1 0 := h.2.2.2.2.2.2.2.2.2.2.2.2.2.2.2.2.2.1
theorem iv_tr {n : Nat} {N : Nat → Nat → Nat} {R : Nat → Nat → Nat → Int32} {Fr : Nat → UInt32} {inc : Int64} (h : INV n N R Fr inc) : truckOK N R := h.2.2.2.2.2.2.2.2.2.2.2.2.2.2.2.2.2.2.1
theorem iv_quo {n : Nat} {N : Nat → Nat → Nat} {R : Nat → Nat → Nat → Int32} {Fr : Nat → UInt32} {inc : Int64} (h : INV n N R Fr inc) : ∀ b, b ≤ 6 → ∀ q, q < 4 → R 1 b q + wsum R (byB R b (nI q)) (N 0 1) = R 3 b q := h.2.2.2.2.2.2.2.2.2.2.2.2.2.2.2.2.2.2.2.1
theorem iv_inc {n : Nat} {N : Nat → Nat → Nat} {R : Nat → Nat → Nat → Int32} {Fr : Nat → UInt32} {inc : Int64} (h : INV n N R Fr inc) : inc = psum R (N 0 1) := h.2.2.2.2.2.2.2.2.2.2.2.2.2.2.2.2.2.2.2.2
theorem inv_0 : INV 0 (fun _ _ => 0) R00 (fun _ => 0) 0 :=
  ⟨⟨by decide, by decide, by decide, by decide, by decide, fun _ _ => rfl, fun _ => Nat.zero_le _, fun _ => rfl⟩,
  Nat.le_refl _,
  fun b s _ => by simp [R00, up3],
  fun b s _ => by simp [R00, up3],
  fun d _ j => by simp [R00, up3],
  fun d j _ => by simp [R00, up3],
  fun u s _ => by simp [R00, up3],
  fun j _ => by simp [R00, up3],
  fun _ _ => rfl,
  fun j h => absurd h (Nat.not_lt_zero _),
  fun j h => absurd h (Nat.not_lt_zero _),
  fun j h => absurd h (Nat.not_lt_zero _),
  fun j h => absurd h (Nat.not_lt_zero _),
  fun i => ⟨0, by decide, by simp [R00, up3]; rfl⟩,
  fun u h => absurd h (Nat.not_lt_zero _),
  fun u s => by
    have e : R00 14 u s = 0 := by simp [R00, up3]
    rw [e]; decide,
  ⟨by decide, by decide, by decide⟩,
  by decide,
  fun t h => absurd h (Nat.not_lt_zero _),
  fun b _ q _ => by simp [R00, up3, wsum],
  rfl⟩
theorem inv_mono {n n' : Nat} {N : Nat → Nat → Nat} {R : Nat → Nat → Nat → Int32} {Fr : Nat → UInt32} {inc : Int64} (h : INV n N R Fr inc) (hn : n ≤ n') : INV n' N R Fr inc := ⟨h.1, Nat.le_trans h.2.1 hn, h.2.2⟩
