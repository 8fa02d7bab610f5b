theorem sub_toInt {x y : Int32} (h1 : -2147483648 ≤ x.toInt - y.toInt) (h2 : x.toInt - y.toInt < 2147483648) : (x - y).toInt = x.toInt - y.toInt := by
  rw [Int32.toInt_sub, Int.bmod_def]
  split <;> omega
theorem fallsN_stop {N : Nat → Nat → Nat} {R : Nat → Nat → Nat → Int32} {Fr : Nat → UInt32} {j k : Nat} {q : Int32} (h : ¬ (R 0 3 0 ≤ q ∧ 0 ≤ q)) : fallsN N R Fr j k q = -1 := by
  cases k with
  | zero => rfl
  | succ k => simp only [fallsN]; rw [if_neg h]
theorem fallsN_sale {N : Nat → Nat → Nat} {R : Nat → Nat → Nat → Int32} {Fr : Nat → UInt32} {j k : Nat} {q : Int32} (h : R 0 3 0 ≤ q ∧ 0 ≤ q) (hk : 0 < k) (hb : ¬ best R Fr j q (N 0 2) = 0) : fallsN N R Fr j k q = q := by
  cases k with
  | zero => omega
  | succ k => simp only [fallsN]; rw [if_pos h, if_neg hb]
theorem fallsN_step {N : Nat → Nat → Nat} {R : Nat → Nat → Nat → Int32} {Fr : Nat → UInt32} {j k : Nat} {q : Int32} (h : R 0 3 0 ≤ q ∧ 0 ≤ q) (hk : 0 < k) (hb : best R Fr j q (N 0 2) = 0) : fallsN N R Fr j k q = fallsN N R Fr j (k - 1) (q - R 0 2 0) := by
  cases k with
  | zero => omega
  | succ k => simp only [fallsN]; rw [if_pos h, if_pos hb]; rfl
/-- the clock: start, step and reserve -/
def ckOK (R : Nat → Nat → Nat → Int32) : Prop := wi (R 0 1 0) 0 9999 = true ∧ wi (R 0 2 0) 1 500 = true ∧ wi (R 0 3 0) 0 9999 = true
theorem wi_toInt {v lo hi : Int32} : wi v lo hi = true ↔ lo.toInt ≤ v.toInt ∧ v.toInt ≤ hi.toInt := by
  simp only [wi, Bool.and_eq_true, decide_eq_true_eq, Int32.le_iff_toInt_le]
theorem ck_start {R : Nat → Nat → Nat → Int32} (h : ckOK R) : 0 ≤ (R 0 1 0).toInt ∧ (R 0 1 0).toInt ≤ 9999 := wi_toInt.mp h.1
theorem ck_step {R : Nat → Nat → Nat → Int32} (h : ckOK R) : 1 ≤ (R 0 2 0).toInt ∧ (R 0 2 0).toInt ≤ 500 := wi_toInt.mp h.2.1
theorem nn_toInt {q : Int32} : 0 ≤ q ↔ 0 ≤ q.toInt := by rw [Int32.le_iff_toInt_le]; rfl
/-- the next price of the clock -/
theorem next_price {R : Nat → Nat → Nat → Int32} (hc : ckOK R) {q : Int32} {k : Nat} (h0 : 0 ≤ q) (h1 : q.toInt < (k : Int)) (h2 : q.toInt ≤ 9999) : (q - R 0 2 0).toInt < ((k - 1 : Nat) : Int) ∧ (q - R 0 2 0).toInt ≤ 9999 := by
  have h3 := ck_step hc
  have h4 := nn_toInt.mp h0
  rw [sub_toInt (by omega) (by omega)]
  omega
theorem fallsN_best {N : Nat → Nat → Nat} {R : Nat → Nat → Nat → Int32} {Fr : Nat → UInt32} {j : Nat} (hc : ckOK R) : ∀ (k : Nat) (q : Int32), q.toInt ≤ 9999 → ¬ fallsN N R Fr j k q = -1 → (R 0 3 0 ≤ fallsN N R Fr j k q ∧ 0 ≤ fallsN N R Fr j k q) ∧ (fallsN N R Fr j k q).toInt ≤ 9999 ∧ ¬ best R Fr j (fallsN N R Fr j k q) (N 0 2) = 0 := by
  intro k
  induction k with
  | zero => intro q _ h; exact absurd rfl h
  | succ k ih =>
    intro q hq h
    by_cases h1 : R 0 3 0 ≤ q ∧ 0 ≤ q
    · by_cases h2 : best R Fr j q (N 0 2) = 0
      · rw [fallsN_step h1 (by omega) h2] at h ⊢
        have h4 := nn_toInt.mp h1.2
        have h3 := ck_step hc
        exact ih _ (by rw [sub_toInt (by omega) (by omega)]; omega) h
      · rw [fallsN_sale h1 (by omega) h2]
        exact ⟨h1, hq, h2⟩
    · exact absurd (fallsN_stop h1) h
theorem falls_best {N : Nat → Nat → Nat} {R : Nat → Nat → Nat → Int32} {Fr : Nat → UInt32} {j : Nat} (hc : ckOK R) (h : ¬ falls N R Fr j = -1) : (R 0 3 0 ≤ falls N R Fr j ∧ 0 ≤ falls N R Fr j) ∧ (falls N R Fr j).toInt ≤ 9999 ∧ ¬ best R Fr j (falls N R Fr j) (N 0 2) = 0 := fallsN_best hc _ _ (ck_start hc).2 h
theorem takes_eq {N : Nat → Nat → Nat} {R : Nat → Nat → Nat → Int32} {Fr : Nat → UInt32} {j : Nat} {q : Int32} (h : ¬ best R Fr j q (N 0 2) = 0) : takes N R Fr j q = nI (best R Fr j q (N 0 2) - 1) := by
  obtain ⟨b, hb⟩ := Nat.exists_eq_succ_of_ne_zero h
  unfold takes
  rw [hb]
  exact nI_pred _
theorem takes_in {N : Nat → Nat → Nat} {R : Nat → Nat → Nat → Int32} {Fr : Nat → UInt32} {j : Nat} {q : Int32} (h : ¬ best R Fr j q (N 0 2) = 0) (hn : N 0 2 ≤ 5) : isIx (N 0 2) (takes N R Fr j q) = true := by
  have := best_le R Fr j q (N 0 2)
  rw [takes_eq h]
  exact isIx_t (by omega) (by omega)
theorem fault_nz {N : Nat → Nat → Nat} {R : Nat → Nat → Nat → Int32} {Fr : Nat → UInt32} {p : Int32} (h : ¬ faultOf N R Fr p = 0) : ¬ nI (faultOf N R Fr p) = 0 := by
  have h3 : faultOf N R Fr p ≤ 3 := by
    unfold faultOf
    split
    · omega
    · split
      · split <;> omega
      · omega
  exact fun q => h ((nI_eq (b := 0) (by omega) (by decide)).mp q)
theorem fault_0 {N : Nat → Nat → Nat} {R : Nat → Nat → Nat → Int32} {Fr : Nat → UInt32} {p : Int32} (h : faultOf N R Fr p = 0) : isIx (N 0 1) p = true ∧ R 9 (ix p) 0 = 102 ∧ ¬ falls N R Fr (ix p) = -1 := by
  unfold faultOf at h
  split at h
  · cases h
  · rename_i h1
    split at h
    · rename_i h2
      split at h
      · cases h
      · rename_i h3
        exact ⟨by cases hq : isIx (N 0 1) p <;> simp_all, h2, h3⟩
    · cases h
