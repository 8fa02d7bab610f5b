/-! The price by the buyers is the price by the clock -/
theorem imin_toInt (a b : Int32) : (imin a b).toInt = min a.toInt b.toInt := by
  unfold imin
  by_cases h : b < a
  · rw [if_pos h]; have := Int32.lt_iff_toInt_lt.mp h; omega
  · rw [if_neg h]; have h2 : ¬ b.toInt < a.toInt := fun q => h (Int32.lt_iff_toInt_lt.mpr q)
    omega
theorem imax_toInt (a b : Int32) : (imax a b).toInt = max a.toInt b.toInt := by
  unfold imax
  by_cases h : a < b
  · rw [if_pos h]; have := Int32.lt_iff_toInt_lt.mp h; omega
  · rw [if_neg h]; have h2 : ¬ a.toInt < b.toInt := fun q => h (Int32.lt_iff_toInt_lt.mpr q)
    omega
theorem best_iff {R : Nat → Nat → Nat → Int32} {Fr : Nat → UInt32} {j : Nat} {v : Int32} : ∀ n : Nat, best R Fr j v n = 0 ↔ ∀ b, b < n → can R Fr j v b = false := by
  intro n
  induction n with
  | zero => exact ⟨fun _ b hb => absurd hb (Nat.not_lt_zero _), fun _ => rfl⟩
  | succ n ih =>
    constructor
    · intro h b hb
      have h1 : can R Fr j v n = false := by
        cases hc : can R Fr j v n
        · rfl
        · exfalso
          simp only [best, hc, Bool.true_and] at h
          by_cases h0 : best R Fr j v n = 0
          · simp [h0] at h
          · split at h
            · omega
            · exact h0 h
      have h2 : best R Fr j v n = 0 := by
        simp only [best, h1, Bool.false_and] at h
        simpa using h
      by_cases hbn : b = n
      · rw [hbn]; exact h1
      · exact ih.mp h2 b (by omega)
    · intro h
      have h1 := h n (by omega)
      have h2 := ih.mpr (fun b hb => h b (by omega))
      simp [best, h1, h2]
theorem can_iff {R : Nat → Nat → Nat → Int32} {Fr : Nat → UInt32} {j b : Nat} {v : Int32} (h0 : 0 ≤ v.toInt) (h1 : v.toInt ≤ 9999) (hw : wOK (R 7 j 0)) (hB : paidOK (R 13 b 0)) : can R Fr j v b = true ↔ v.toInt ≤ (mostF R Fr b j).toInt := by
  obtain ⟨c, hc1, hc2, ec⟩ := hw
  obtain ⟨m, hm, em⟩ := hB
  obtain ⟨a, ha, rfl⟩ := nI_of (x := v) (Int32.not_lt.mpr (nn_toInt.mpr h0))
  rw [nI_toInt ha] at h0 h1 ⊢
  have hac : a * c ≤ 9999 * 2000 := Nat.mul_le_mul (by omega) hc2
  unfold can mostF
  rw [imin_toInt, ec, em, pk_mul, pk_div (by omega) (by omega) (by omega), nI_toInt (Nat.lt_of_le_of_lt (Nat.div_le_self _ _) (by omega))]
  rw [Bool.and_eq_true, decide_eq_true_eq, decide_eq_true_eq, nI_leI (by omega) (by omega), Int32.le_iff_toInt_le, nI_toInt ha, ← Nat.le_div_iff_mul_le (by omega)]
  omega
theorem shown_mono {R : Nat → Nat → Nat → Int32} (h : ckOK R) {k k' : Nat} (hk : k ≤ k') (hk' : k' ≤ 10000) : (shown R k').toInt ≤ (shown R k).toInt := by
  rw [shown_toInt h hk', shown_toInt h (by omega)]
  have h1 := ck_step h
  have : (k : Int) * (R 0 2 0).toInt ≤ (k' : Int) * (R 0 2 0).toInt := Int.mul_le_mul_of_nonneg_right (by omega) (by omega)
  omega
theorem gs_spec {R : Nat → Nat → Nat → Int32} (h : ckOK R) (hrs : R 0 3 0 ≤ R 0 1 0) {v : Int32} (h0 : 0 ≤ v.toInt) : (gs R v = -1 ∧ ∀ k, k ≤ 10000 → (R 0 3 0).toInt ≤ (shown R k).toInt → v.toInt < (shown R k).toInt) ∨ ∃ k, k ≤ 10000 ∧ gs R v = shown R k ∧ (R 0 3 0).toInt ≤ (shown R k).toInt ∧ (shown R k).toInt ≤ v.toInt ∧ ∀ k', k' < k → v.toInt < (shown R k').toInt := by
  obtain ⟨a, b, h1, h2, h3, h4, h5⟩ := ck_nat h
  obtain ⟨m, hm, rfl⟩ := nI_of (x := v) (Int32.not_lt.mpr (nn_toInt.mpr h0))
  have em := nI_toInt hm
  have ea : (R 0 1 0).toInt = a := by rw [h4, nI_toInt (by omega)]
  have eb : (R 0 2 0).toInt = b := by rw [h5, nI_toInt (by omega)]
  unfold gs
  by_cases hlt : nI m < R 0 1 0
  · rw [if_pos hlt]
    rw [h4] at hlt
    have hma : m < a := (nI_ltI hm (by omega)).mp hlt
    obtain ⟨f, hf⟩ : ∃ f, f = (a - m + b - 1) / b := ⟨_, rfl⟩
    have e1 : (R 0 1 0 - nI m + R 0 2 0 - 1) / R 0 2 0 = nI f := by
      rw [h4, h5, nI_sub (by omega), nI_add, show a - m + b = (a - m + b - 1) + 1 by omega, nI_pred, pk_div (by omega) (by omega) (by omega), hf]
    rw [e1]
    have e2 : R 0 1 0 - nI f * R 0 2 0 = shown R f := rfl
    rw [e2]
    have hd := Nat.div_add_mod (a - m + b - 1) b
    have hmod := Nat.mod_lt (a - m + b - 1) (show 0 < b by omega)
    rw [← hf] at hd
    have hfb : b * f = f * b := Nat.mul_comm _ _
    have hf4 : f ≤ 10000 := by
      apply Nat.le_of_not_lt
      intro q
      have : 10001 * b ≤ f * b := Nat.mul_le_mul_right _ q
      omega
    have ef := shown_toInt h hf4
    rw [ea, eb] at ef
    have hfi : (f : Int) * (b : Int) = ((f * b : Nat) : Int) := (Int.natCast_mul _ _).symm
    rw [hfi] at ef
    have hle : (shown R f).toInt ≤ (nI m).toInt := by rw [ef, em]; omega
    have hgt : ∀ k', k' < f → (nI m).toInt < (shown R k').toInt := by
      intro k' hk'
      rw [shown_toInt h (by omega), ea, eb, em]
      have h6 : (k' + 1) * b ≤ f * b := Nat.mul_le_mul_right _ hk'
      rw [Nat.add_mul, Nat.one_mul] at h6
      have hki : (k' : Int) * (b : Int) = ((k' * b : Nat) : Int) := (Int.natCast_mul _ _).symm
      rw [hki]
      omega
    by_cases hr : shown R f < R 0 3 0
    · rw [if_pos hr]
      refine Or.inl ⟨rfl, fun k hk hrk => ?_⟩
      by_cases hkf : k < f
      · exact hgt k hkf
      · have := shown_mono h (Nat.le_of_not_lt hkf) hk
        have := Int32.lt_iff_toInt_lt.mp hr
        omega
    · rw [if_neg hr]
      have h7 : (R 0 3 0).toInt ≤ (shown R f).toInt := Int32.le_iff_toInt_le.mp (Int32.not_lt.mp hr)
      exact Or.inr ⟨f, hf4, rfl, h7, hle, hgt⟩
  · rw [if_neg hlt]
    have h6 := Int32.le_iff_toInt_le.mp (Int32.not_lt.mp hlt)
    refine Or.inr ⟨0, by omega, (shown_0 R).symm, ?_, ?_, fun k' hk' => absurd hk' (Nat.not_lt_zero _)⟩
    · rw [shown_0]; exact Int32.le_iff_toInt_le.mp hrs
    · rw [shown_0]; exact h6
theorem fallsN_spec {N : Nat → Nat → Nat} {R : Nat → Nat → Nat → Int32} {Fr : Nat → UInt32} {j : Nat} (h : ckOK R) : ∀ (d k : Nat), d + k = 10001 → (fallsN N R Fr j d (shown R k) = -1 ∧ ∀ k', k ≤ k' → k' ≤ 10000 → (R 0 3 0).toInt ≤ (shown R k').toInt → best R Fr j (shown R k') (N 0 2) = 0) ∨ ∃ q, k ≤ q ∧ q ≤ 10000 ∧ fallsN N R Fr j d (shown R k) = shown R q ∧ (R 0 3 0).toInt ≤ (shown R q).toInt ∧ ¬ best R Fr j (shown R q) (N 0 2) = 0 ∧ ∀ k', k ≤ k' → k' < q → best R Fr j (shown R k') (N 0 2) = 0 := by
  intro d
  induction d with
  | zero => exact fun k hk => Or.inl ⟨rfl, fun k' h1 h2 _ => by omega⟩
  | succ d ih =>
    intro k hk
    have hres := nn_toInt.mp (res_nn h)
    by_cases hr : R 0 3 0 ≤ shown R k ∧ 0 ≤ shown R k
    · by_cases hb : best R Fr j (shown R k) (N 0 2) = 0
      · have hlast := shown_last h
        have hk1 : k < 10000 := by
          apply Nat.lt_of_not_le
          intro q
          have : k = 10000 := by omega
          subst this
          exact absurd hr.2 (Int32.not_le.mpr hlast)
        rw [fallsN_step hr (by omega) hb, shown_next h hk1]
        rcases ih (k + 1) (by omega) with ⟨e, h1⟩ | ⟨q, h1, h2, e, h3, h4, h5⟩
        · refine Or.inl ⟨e, fun k' g1 g2 g3 => ?_⟩
          by_cases hkk : k' = k
          · rw [hkk]; exact hb
          · exact h1 k' (by omega) g2 g3
        · refine Or.inr ⟨q, by omega, h2, e, h3, h4, fun k' g1 g2 => ?_⟩
          by_cases hkk : k' = k
          · rw [hkk]; exact hb
          · exact h5 k' (by omega) g2
      · rw [fallsN_sale hr (by omega) hb]
        exact Or.inr ⟨k, Nat.le_refl _, by omega, rfl, Int32.le_iff_toInt_le.mp hr.1, hb, fun k' g1 g2 => by omega⟩
    · rw [fallsN_stop hr]
      refine Or.inl ⟨rfl, fun k' g1 g2 g3 => ?_⟩
      exfalso
      have := shown_mono h g1 g2
      exact hr ⟨Int32.le_iff_toInt_le.mpr (by omega), nn_toInt.mpr (by omega)⟩
theorem pfb_ge {R : Nat → Nat → Nat → Int32} {Fr : Nat → UInt32} {j : Nat} : ∀ n b : Nat, b < n → (gs R (mostF R Fr b j)).toInt ≤ (pfb R Fr j n).toInt := by
  intro n
  induction n with
  | zero => exact fun b hb => absurd hb (Nat.not_lt_zero _)
  | succ n ih =>
    intro b hb
    simp only [pfb]
    rw [imax_toInt]
    by_cases e : b = n
    · subst e; omega
    · have := ih b (by omega); omega
theorem pfb_or {R : Nat → Nat → Nat → Int32} {Fr : Nat → UInt32} {j : Nat} : ∀ n : Nat, -1 ≤ (pfb R Fr j n).toInt ∧ (pfb R Fr j n = -1 ∨ ∃ b, b < n ∧ pfb R Fr j n = gs R (mostF R Fr b j)) := by
  intro n
  induction n with
  | zero => exact ⟨(by decide : (-1 : Int) ≤ (-1 : Int32).toInt), Or.inl rfl⟩
  | succ n ih =>
    simp only [pfb]
    refine ⟨by rw [imax_toInt]; omega, ?_⟩
    unfold imax
    split
    · exact Or.inr ⟨n, by omega, rfl⟩
    · rcases ih.2 with e | ⟨b, hb, e⟩
      · exact Or.inl e
      · exact Or.inr ⟨b, by omega, e⟩
theorem pfb_falls {N : Nat → Nat → Nat} {R : Nat → Nat → Nat → Int32} {Fr : Nat → UInt32} {j : Nat} (h : ckOK R) (hrs : R 0 3 0 ≤ R 0 1 0) (hw : wOK (R 7 j 0)) (hB : ∀ b, b < N 0 2 → paidOK (R 13 b 0)) (hO : ∀ b, b < N 0 2 → 0 ≤ (offerOf R Fr b j).toInt) : pfb R Fr j (N 0 2) = falls N R Fr j := by
  have hres := nn_toInt.mp (res_nn h)
  have hst := ck_start h
  have hM : ∀ b, b < N 0 2 → 0 ≤ (mostF R Fr b j).toInt := by
    intro b hb
    obtain ⟨m, hm, em⟩ := hB b hb
    obtain ⟨c, hc1, hc2, ec⟩ := hw
    unfold mostF
    rw [imin_toInt, em, ec, pk_div (by omega) (by omega) (by omega), nI_toInt (Nat.lt_of_le_of_lt (Nat.div_le_self _ _) (by omega))]
    have := hO b hb
    generalize m / c = z
    omega
  have hub : ∀ k, k ≤ 10000 → (shown R k).toInt ≤ 9999 := by
    intro k hk
    have h1 := shown_mono h (Nat.zero_le k) hk
    rw [shown_0] at h1
    omega
  have hbest : ∀ k, k ≤ 10000 → (R 0 3 0).toInt ≤ (shown R k).toInt → (best R Fr j (shown R k) (N 0 2) = 0 ↔ ∀ b, b < N 0 2 → (mostF R Fr b j).toInt < (shown R k).toInt) := by
    intro k hk hr
    rw [best_iff]
    constructor
    · intro g b hb
      have h1 := g b hb
      apply Int.lt_of_not_ge
      intro q
      rw [(can_iff (by omega) (hub k hk) hw (hB b hb)).mpr q] at h1
      cases h1
    · intro g b hb
      cases hc : can R Fr j (shown R k) b
      · rfl
      · have := (can_iff (by omega) (hub k hk) hw (hB b hb)).mp hc
        have := g b hb
        omega
  have hF := fallsN_spec (N := N) (Fr := Fr) (j := j) h 10001 0 rfl
  rw [shown_0] at hF
  have hF2 : fallsN N R Fr j 10001 (R 0 1 0) = falls N R Fr j := rfl
  rw [hF2] at hF
  have hP := pfb_or (R := R) (Fr := Fr) (j := j) (N 0 2)
  have m1 : (-1 : Int32).toInt = -1 := rfl
  apply Int32.toInt.inj
  apply Int.le_antisymm
  · rcases hP.2 with e | ⟨b, hb, e⟩
    · rw [e, m1]
      rcases hF with ⟨e2, -⟩ | ⟨q, -, -, e2, h3, -, -⟩
      · rw [e2]; decide
      · rw [e2]; omega
    · rw [e]
      rcases gs_spec h hrs (hM b hb) with ⟨e3, -⟩ | ⟨k, hk, e3, h3, h4, -⟩
      · rw [e3, m1]
        rcases hF with ⟨e2, -⟩ | ⟨q, -, -, e2, h3, -, -⟩
        · rw [e2]; decide
        · rw [e2]; omega
      · rw [e3]
        have hnb : ¬ best R Fr j (shown R k) (N 0 2) = 0 := by
          intro q
          have := (hbest k hk h3).mp q b hb
          omega
        rcases hF with ⟨e2, h5⟩ | ⟨q, -, hq, e2, h5, h6, h7⟩
        · exact absurd (h5 k (Nat.zero_le _) hk h3) hnb
        · rw [e2]
          have : q ≤ k := by
            apply Nat.le_of_not_lt
            intro hlt
            exact hnb (h7 k (Nat.zero_le _) hlt)
          exact shown_mono h this hk
  · rcases hF with ⟨e2, -⟩ | ⟨q, -, hq, e2, h5, h6, -⟩
    · rw [e2, m1]; exact hP.1
    · rw [e2]
      have h7 : ∃ b, b < N 0 2 ∧ (shown R q).toInt ≤ (mostF R Fr b j).toInt := by
        apply Decidable.byContradiction
        intro hno
        exact h6 ((hbest q hq h5).mpr (fun b hb => Int.lt_of_not_ge fun g => hno ⟨b, hb, g⟩))
      obtain ⟨b, hb, h8⟩ := h7
      have h9 := pfb_ge (R := R) (Fr := Fr) (j := j) (N 0 2) b hb
      rcases gs_spec h hrs (hM b hb) with ⟨-, g2⟩ | ⟨k, hk, e3, g3, g4, g5⟩
      · have := g2 q hq h5; omega
      · rw [e3] at h9
        have : k ≤ q := by
          apply Nat.le_of_not_lt
          intro hlt
          have := g5 q hlt
          omega
        have := shown_mono h this hq
        omega
