/-! Sums with one lot's payment changed -/
/-- what lot j counts for buyer u -/
def bterm (R : Nat → Nat → Nat → Int32) (u j : Nat) : Nat := if R 11 j 0 = nI u then (R 12 j 0).toInt.toNat else 0
theorem bsum_one {R R' : Nat → Nat → Nat → Int32} {u j : Nat} (h1 : ∀ i, ¬ i = j → R' 11 i 0 = R 11 i 0) (h2 : ∀ i, ¬ i = j → R' 12 i 0 = R 12 i 0) : ∀ n, j < n → bsum R' u n + bterm R u j = bsum R u n + bterm R' u j := by
  intro n
  induction n with
  | zero => intro h; omega
  | succ n ih =>
    intro h
    show bsum R' u n + bterm R' u n + bterm R u j = bsum R u n + bterm R u n + bterm R' u j
    by_cases g : j = n
    · subst g
      rw [bsum_rows (R := R) (R' := R') (u := u) (n := j) (fun i hi => h1 i (by omega)) (fun i hi => h2 i (by omega))]
      omega
    · have e : bterm R' u n = bterm R u n := by
        unfold bterm
        rw [h1 n (by omega), h2 n (by omega)]
      have := ih (by omega)
      omega
def pterm (R : Nat → Nat → Nat → Int32) (j : Nat) : Nat := (R 12 j 0).toInt.toNat
def pnat (R : Nat → Nat → Nat → Int32) : Nat → Nat
  | 0 => 0
  | n + 1 => pnat R n + pterm R n
theorem paid_nat {x : Int32} (h : paidOK x) : x.toInt64 = lN x.toInt.toNat ∧ x.toInt.toNat ≤ 1000000 := by
  obtain ⟨P, hP, rfl⟩ := h
  rw [nI_l (by omega), nI_toInt (by omega)]
  exact ⟨rfl, hP⟩
theorem psum_nat {R : Nat → Nat → Nat → Int32} (h : ∀ i, paidOK (R 12 i 0)) : ∀ n, psum R n = lN (pnat R n) ∧ pnat R n ≤ 1000000 * n := by
  intro n
  induction n with
  | zero => exact ⟨rfl, Nat.le_refl _⟩
  | succ n ih =>
    obtain ⟨a, b⟩ := paid_nat (h n)
    constructor
    · show psum R n + (R 12 n 0).toInt64 = lN (pnat R n + pterm R n)
      rw [ih.1, a, lN_add]; rfl
    · show pnat R n + pterm R n ≤ _
      unfold pterm
      omega
theorem pnat_one {R R' : Nat → Nat → Nat → Int32} {j : Nat} (h2 : ∀ i, ¬ i = j → R' 12 i 0 = R 12 i 0) : ∀ n, j < n → pnat R' n + pterm R j = pnat R n + pterm R' j := by
  intro n
  induction n with
  | zero => intro h; omega
  | succ n ih =>
    intro h
    show pnat R' n + pterm R' n + pterm R j = pnat R n + pterm R n + pterm R' j
    by_cases g : j = n
    · subst g
      have e : ∀ m, m ≤ j → pnat R' m = pnat R m := by
        intro m
        induction m with
        | zero => intro _; rfl
        | succ m im =>
          intro hm
          show pnat R' m + pterm R' m = pnat R m + pterm R m
          rw [im (by omega)]
          unfold pterm
          rw [h2 m (by omega)]
      rw [e j (Nat.le_refl _)]
      omega
    · have e : pterm R' n = pterm R n := by
        unfold pterm
        rw [h2 n (by omega)]
      have := ih (by omega)
      omega
/-! A sale -/
section
variable {n : Nat} {N : Nat → Nat → Nat} {R : Nat → Nat → Nat → Int32} {Fr : Nat → UInt32} {inc : Int64}
/-- the best buyer can -/
theorem best_can {j : Nat} {q : Int32} : ∀ m, ¬ best R Fr j q m = 0 → can R Fr j q (best R Fr j q m - 1) = true := by
  intro m
  induction m with
  | zero => intro h; exact absurd rfl h
  | succ m ih =>
    simp only [best]
    split
    · rename_i hc
      intro _
      rw [Nat.add_sub_cancel]
      simp only [Bool.and_eq_true] at hc
      exact hc.1
    · exact ih
theorem inv_sell (h : INV n N R Fr inc) (p0 : Int32) : INVs n (op_sell (N, R, Fr, inc) p0).2.2 := by
  simp only [op_sell]
  split
  · rename_i hf
    have hC := iv_ic h
    obtain ⟨h1, h9, hfa⟩ := fault_0 hf
    have hj := ix_lt2 h1 (by have := hC.2.1; omega)
    obtain ⟨j, ej, hj⟩ : ∃ j, j = ix p0 ∧ j < N 0 1 := ⟨_, rfl, hj⟩
    rw [← ej] at h9 hfa ⊢
    obtain ⟨⟨hb1, hb2⟩, hb3, hb4⟩ := falls_best (iv_ck h) hfa
    obtain ⟨q, eq⟩ : ∃ q, q = falls N R Fr j := ⟨_, rfl⟩
    rw [← eq] at hb1 hb2 hb3 hb4 hfa ⊢
    have hti := takes_in (Fr := Fr) (j := j) (q := q) hb4 hC.2.2.1
    have hte := takes_eq (Fr := Fr) (j := j) (q := q) hb4
    have hcan := best_can (N 0 2) hb4
    have hble := best_le R Fr j q (N 0 2)
    obtain ⟨u, eu⟩ : ∃ u, u = best R Fr j q (N 0 2) - 1 := ⟨_, rfl⟩
    rw [← eu] at hte hcan
    have hu : u < N 0 2 := by omega
    have hu5 := hC.2.2.1
    have hix : ix (takes N R Fr j q) = u := by rw [hte]; exact ix_nI (by omega)
    rw [hix, hte]
    rw [hte] at hti
    obtain ⟨k, hk, rfl⟩ := nI_of (x := q) (Int32.not_lt.mpr hb2)
    rw [nI_toInt hk] at hb3
    obtain ⟨w, w1, w2, ew⟩ := (iv_lot h j hj).2.2.1
    have hkw : k * w ≤ 9999 * 2000 := Nat.mul_le_mul (by omega) w2
    obtain ⟨B, eB, hB⟩ := iv_bud h u hu
    have hm : k * w ≤ B := by
      simp only [can, Bool.and_eq_true, decide_eq_true_eq] at hcan
      have := hcan.2
      rw [ew, eB, pk_mul] at this
      exact (nI_leI (by omega) (by omega)).mp this
    rw [ew, eB, pk_mul]
    obtain ⟨m, em⟩ : ∃ m, m = k * w := ⟨_, rfl⟩
    rw [← em] at hm hkw ⊢
    rw [nI_sub hm, nI_l (n := m) (by omega)]
    have h12 := iv_own3 h j hj h9
    have er : ∀ i, ¬ i = 9 → ¬ i = 11 → ¬ i = 12 → ¬ i = 13 → up3 (up3 (up3 (up3 R 11 j 0 (nI u)) 12 j 0 (nI m)) 13 u 0 (nI (B - m))) 9 j 0 115 i = R i := by
      intro i a b c d; funext x y; simp [up3, a, b, c, d]
    have e9 : ∀ i, ¬ i = j → up3 (up3 (up3 (up3 R 11 j 0 (nI u)) 12 j 0 (nI m)) 13 u 0 (nI (B - m))) 9 j 0 115 9 i 0 = R 9 i 0 := by
      intro i a; simp [up3, a]
    have e11 : ∀ i, ¬ i = j → up3 (up3 (up3 (up3 R 11 j 0 (nI u)) 12 j 0 (nI m)) 13 u 0 (nI (B - m))) 9 j 0 115 11 i 0 = R 11 i 0 := by
      intro i a; simp [up3, a]
    have e12 : ∀ i, ¬ i = j → up3 (up3 (up3 (up3 R 11 j 0 (nI u)) 12 j 0 (nI m)) 13 u 0 (nI (B - m))) 9 j 0 115 12 i 0 = R 12 i 0 := by
      intro i a; simp [up3, a]
    have e13 : ∀ i, ¬ i = u → up3 (up3 (up3 (up3 R 11 j 0 (nI u)) 12 j 0 (nI m)) 13 u 0 (nI (B - m))) 9 j 0 115 13 i 0 = R 13 i 0 := by
      intro i a; simp [up3, a]
    have j9 : up3 (up3 (up3 (up3 R 11 j 0 (nI u)) 12 j 0 (nI m)) 13 u 0 (nI (B - m))) 9 j 0 115 9 j 0 = 115 := by simp [up3]
    have j11 : up3 (up3 (up3 (up3 R 11 j 0 (nI u)) 12 j 0 (nI m)) 13 u 0 (nI (B - m))) 9 j 0 115 11 j 0 = nI u := by simp [up3]
    have j12 : up3 (up3 (up3 (up3 R 11 j 0 (nI u)) 12 j 0 (nI m)) 13 u 0 (nI (B - m))) 9 j 0 115 12 j 0 = nI m := by simp [up3]
    have j13 : up3 (up3 (up3 (up3 R 11 j 0 (nI u)) 12 j 0 (nI m)) 13 u 0 (nI (B - m))) 9 j 0 115 13 u 0 = nI (B - m) := by simp [up3]
    generalize up3 (up3 (up3 (up3 R 11 j 0 (nI u)) 12 j 0 (nI m)) 13 u 0 (nI (B - m))) 9 j 0 115 = R' at er e9 e11 e12 e13 j9 j11 j12 j13 ⊢
    have r0 := er 0 (by decide) (by decide) (by decide) (by decide)
    have r1 := er 1 (by decide) (by decide) (by decide) (by decide)
    have r2 := er 2 (by decide) (by decide) (by decide) (by decide)
    have r3 := er 3 (by decide) (by decide) (by decide) (by decide)
    have r4 := er 4 (by decide) (by decide) (by decide) (by decide)
    have r5 := er 5 (by decide) (by decide) (by decide) (by decide)
    have r6 := er 6 (by decide) (by decide) (by decide) (by decide)
    have r7 := er 7 (by decide) (by decide) (by decide) (by decide)
    have r8 := er 8 (by decide) (by decide) (by decide) (by decide)
    have r10 := er 10 (by decide) (by decide) (by decide) (by decide)
    have r14 := er 14 (by decide) (by decide) (by decide) (by decide)
    have r18 := er 18 (by decide) (by decide) (by decide) (by decide)
    have hm1 : m ≤ 1000000 := by omega
    have hpd : ∀ i, paidOK (R' 12 i 0) := by
      intro i
      by_cases g : i = j
      · rw [g, j12]; exact ⟨m, hm1, rfl⟩
      · rw [e12 i g]; exact iv_paid h i
    have hown : ∀ i, i < N 0 1 → isIx (N 0 2) (R 11 i 0) = true → isIx (N 0 2) (R' 11 i 0) = true := by
      intro i _ hq
      by_cases g : i = j
      · rw [g, j11]; exact hti
      · rw [e11 i g]; exact hq
    refine ⟨hC, iv_tm h, ?_, ?_, ?_, ?_, ?_, ?_, iv_t1 h, ?_, ?_, ?_, ?_, hpd, ?_, ?_, ?_, ?_, ?_, ?_, ?_⟩
    · rw [r1]; exact iv_q1 h
    · rw [r3]; exact iv_q3 h
    · rw [r2]; exact iv_d1 h
    · rw [r2]; exact iv_d2 h
    · rw [r14]; exact iv_u1 h
    · intro i hi
      rw [r10, e12 i (by omega)]; exact iv_l1 h i hi
    · intro i hi
      have hl := iv_lot h i hi
      unfold lotOK at hl ⊢
      rw [r5, r6, r7, r8]
      refine ⟨hl.1, hl.2.1, hl.2.2.1, ?_, hl.2.2.2.2⟩
      by_cases g : i = j
      · rw [g, j9]; exact Or.inr (Or.inl rfl)
      · rw [e9 i g]; exact hl.2.2.2.1
    · intro i hi
      unfold ownOK
      by_cases g : i = j
      · rw [g, j11]; exact Or.inr hti
      · rw [e11 i g]; exact iv_own h i hi
    · intro i hi hq
      by_cases g : i = j
      · rw [g, j11]; exact hti
      · rw [e9 i g] at hq; rw [e11 i g]; exact iv_own2 h i hi hq
    · intro i hi hq
      by_cases g : i = j
      · rw [g, j9] at hq; exact absurd hq (by decide)
      · rw [e9 i g] at hq; rw [e12 i g]; exact iv_own3 h i hi hq
    · intro v hv
      have hs := bsum_one (R := R) (R' := R') (u := v) (j := j) e11 e12 (N 0 1) hj
      have t0 : bterm R v j = 0 := by
        unfold bterm
        rw [h12]
        split <;> rfl
      by_cases g : v = u
      · refine ⟨B - m, by rw [g, j13], ?_⟩
        have t1 : bterm R' v j = m := by
          unfold bterm
          rw [j11, j12, g, if_pos rfl, nI_toInt (by omega)]; rfl
        rw [g] at hs t0 t1 ⊢
        omega
      · have t1 : bterm R' v j = 0 := by
          unfold bterm
          rw [j11, if_neg (fun z => g ((nI_eq (by omega) (by omega)).mp z).symm)]
        rw [e13 v g]
        obtain ⟨C, c1, c2⟩ := iv_bud h v hv
        exact ⟨C, c1, by omega⟩
    · rw [r14]; exact iv_lim h
    · unfold ckOK; rw [r0]; exact iv_ck h
    · rw [r0]; exact iv_ck2 h
    · unfold truckOK
      rw [r18]
      intro t ht i hi
      obtain ⟨b1, b2⟩ := iv_tr h t ht i hi
      exact ⟨b1, hown _ (ix_lt2 b1 (by have := hC.2.1; omega)) b2⟩
    · intro b hb q hq
      rw [r1, r3, wsum_rows (R := R) (p := byB R b (nI q)) (fun j _ => by rw [r7]) (fun j _ => by unfold byB; rw [r4, r5])]
      exact iv_quo h b hb q hq
    · have hs := pnat_one (R := R) (R' := R') (j := j) e12 (N 0 1) hj
      have t0 : pterm R j = 0 := by unfold pterm; rw [h12]; rfl
      have t1 : pterm R' j = m := by unfold pterm; rw [j12, nI_toInt (by omega)]; rfl
      rw [iv_inc h, (psum_nat (iv_paid h) _).1, (psum_nat hpd _).1, lN_add]
      congr 1
      omega
  · exact h
end
