/-! The auction, as the class reckons it -/
def imax (a b : Int32) : Int32 := if a < b then b else a
def imin (a b : Int32) : Int32 := if b < a then b else a
/-- the best taker's address, his offer -/
def bestR (α : Nat → Nat → Nat) (n : Nat) : Option Nat := if n = 0 then none else some (α 10 (n - 1))
def bestO (R : Nat → Nat → Nat → Int32) (Fr : Nat → UInt32) (j n : Nat) : Int32 := if n = 0 then -1 else offerOf R Fr (n - 1) j
/-- the greatest of the first n offers -/
def gO (R : Nat → Nat → Nat → Int32) (Fr : Nat → UInt32) (j : Nat) : Nat → Int32
  | 0 => -1
  | n + 1 => imax (gO R Fr j n) (offerOf R Fr n j)
theorem m1_lt {x : Int32} (h : 0 ≤ x) : (-1 : Int32) < x := by
  rw [Int32.lt_iff_toInt_lt]
  have := nn_toInt.mp h
  have h1 : (-1 : Int32).toInt = -1 := rfl
  omega
theorem best_yes {R : Nat → Nat → Nat → Int32} {Fr : Nat → UInt32} {j i : Nat} {v : Int32} (h1 : ¬ R 13 i 0 < v * R 7 j 0) (h2 : ¬ offerOf R Fr i j < v) (h3 : ¬ offerOf R Fr i j ≤ bestO R Fr j (best R Fr j v i)) : best R Fr j v (i + 1) = i + 1 := by
  simp only [best]
  have hc : can R Fr j v i = true := by simp [can, Int32.not_lt.mp h1, Int32.not_lt.mp h2]
  rw [hc]
  by_cases h0 : best R Fr j v i = 0
  · simp [h0]
  · unfold bestO at h3
    rw [if_neg h0] at h3
    simp [Int32.not_le.mp h3]
theorem best_no1 {R : Nat → Nat → Nat → Int32} {Fr : Nat → UInt32} {j i : Nat} {v : Int32} (h1 : R 13 i 0 < v * R 7 j 0) : best R Fr j v (i + 1) = best R Fr j v i := by
  simp only [best]
  have hc : can R Fr j v i = false := by simp [can, Int32.not_le.mpr h1]
  simp [hc]
theorem best_no2 {R : Nat → Nat → Nat → Int32} {Fr : Nat → UInt32} {j i : Nat} {v : Int32} (h1 : offerOf R Fr i j < v) : best R Fr j v (i + 1) = best R Fr j v i := by
  simp only [best]
  have hc : can R Fr j v i = false := by simp [can, Int32.not_le.mpr h1]
  simp [hc]
theorem best_no3 {R : Nat → Nat → Nat → Int32} {Fr : Nat → UInt32} {j i : Nat} {v : Int32} (h0 : 0 ≤ v) (h2 : ¬ offerOf R Fr i j < v) (h3 : offerOf R Fr i j ≤ bestO R Fr j (best R Fr j v i)) : best R Fr j v (i + 1) = best R Fr j v i := by
  simp only [best]
  by_cases hb : best R Fr j v i = 0
  · unfold bestO at h3
    rw [if_pos hb] at h3
    exact absurd (Int32.le_trans (Int32.le_trans h0 (Int32.not_lt.mp h2)) h3) (by decide)
  · unfold bestO at h3
    rw [if_neg hb] at h3
    simp [hb, Int32.not_lt.mpr h3]
theorem imax_le {a b v : Int32} (h : imax a b < v) : a < v ∧ b < v := by
  unfold imax at h
  split at h
  · rename_i h1
    exact ⟨Int32.lt_trans h1 h, h⟩
  · rename_i h1
    exact ⟨h, Int32.lt_of_le_of_lt (Int32.not_lt.mp h1) h⟩
/-- above all offers nobody takes it -/
theorem gO_best {R : Nat → Nat → Nat → Int32} {Fr : Nat → UInt32} {j : Nat} {v : Int32} : ∀ n : Nat, gO R Fr j n < v → best R Fr j v n = 0 := by
  intro n
  induction n with
  | zero => exact fun _ => rfl
  | succ n ih =>
    intro h
    obtain ⟨h1, h2⟩ := imax_le h
    rw [best_no2 h2]
    exact ih h1
/-- the price after k falls -/
def shown (R : Nat → Nat → Nat → Int32) (k : Nat) : Int32 := R 0 1 0 - nI k * R 0 2 0
theorem ck_nat {R : Nat → Nat → Nat → Int32} (h : ckOK R) : ∃ a b : Nat, a ≤ 9999 ∧ 1 ≤ b ∧ b ≤ 500 ∧ R 0 1 0 = nI a ∧ R 0 2 0 = nI b := by
  obtain ⟨a, -, h1, h2, -⟩ := wi_nat (a := 0) (b := 9999) (by decide) (by decide) h.1
  obtain ⟨b, h3, h4, h5, -⟩ := wi_nat (a := 1) (b := 500) (by decide) (by decide) h.2.1
  exact ⟨a, b, h1, h3, h4, h2, h5⟩
theorem shown_toInt {R : Nat → Nat → Nat → Int32} (h : ckOK R) {k : Nat} (hk : k ≤ 10000) : (shown R k).toInt = (R 0 1 0).toInt - k * (R 0 2 0).toInt := by
  obtain ⟨a, b, h1, h2, h3, h4, h5⟩ := ck_nat h
  unfold shown
  have hkb : k * b ≤ 10000 * 500 := Nat.mul_le_mul hk h3
  rw [h4, h5, pk_mul]
  rw [sub_toInt (by rw [nI_toInt (by omega), nI_toInt (by omega)]; omega) (by rw [nI_toInt (by omega), nI_toInt (by omega)]; omega)]
  rw [nI_toInt (by omega), nI_toInt (by omega), nI_toInt (by omega)]
  rw [Int.natCast_mul]
theorem shown_next {R : Nat → Nat → Nat → Int32} (h : ckOK R) {k : Nat} (hk : k < 10000) : shown R k - R 0 2 0 = shown R (k + 1) := by
  apply Int32.toInt.inj
  have h1 := shown_toInt h (k := k) (by omega)
  have h2 := shown_toInt h (k := k + 1) (by omega)
  have h3 := ck_step h
  have h4 := ck_start h
  have h5 : 0 ≤ (k : Int) * (R 0 2 0).toInt := Int.mul_nonneg (by omega) (by omega)
  have h6 : (k : Int) * (R 0 2 0).toInt ≤ 10000 * 500 := Int.mul_le_mul (by omega) (by omega) (by omega) (by omega)
  have h7 : ((k + 1 : Nat) : Int) * (R 0 2 0).toInt = (k : Int) * (R 0 2 0).toInt + (R 0 2 0).toInt := by rw [Int.natCast_add, Int.add_mul]; simp
  rw [sub_toInt (by omega) (by omega), h1, h2, h7]
  omega
theorem shown_0 (R : Nat → Nat → Nat → Int32) : shown R 0 = R 0 1 0 := by
  unfold shown
  rw [show nI 0 = 0 from rfl, Int32.zero_mul, Int32.sub_zero]
theorem shown_last {R : Nat → Nat → Nat → Int32} (h : ckOK R) : shown R 10000 < 0 := by
  rw [Int32.lt_iff_toInt_lt, shown_toInt h (Nat.le_refl _)]
  have h3 := ck_step h
  have h4 := ck_start h
  have h1 : (0 : Int32).toInt = 0 := rfl
  omega
theorem res_nn {R : Nat → Nat → Nat → Int32} (h : ckOK R) : (0 : Int32) ≤ R 0 3 0 := nn_toInt.mpr (wi_toInt.mp h.2.2).1
