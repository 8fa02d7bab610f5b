/-! A tick -/
section
variable {n : Nat} {N : Nat → Nat → Nat} {R : Nat → Nat → Nat → Int32} {Fr : Nat → UInt32} {inc : Int64}
theorem ageR_ne {i j : Nat} (h : ¬ i = j) (k x : Nat) : (ageR R Fr j).1 k i x = R k i x := by
  unfold ageR
  split
  · rfl
  · split
    · simp [up3, h]
    · simp [up3, h]
theorem agesR_hi {i : Nat} (k x : Nat) : ∀ m, m ≤ i → (agesR R Fr m).1 k i x = R k i x := by
  intro m
  induction m with
  | zero => intro _; rfl
  | succ m ih =>
    intro h
    show (ageR (agesR R Fr m).1 (agesR R Fr m).2 m).1 k i x = R k i x
    rw [ageR_ne (by omega)]
    exact ih (by omega)
theorem ageR_9 (i j : Nat) : (ageR R Fr j).1 9 i 0 = R 9 i 0 ∨ (R 9 i 0 = 102 ∧ (ageR R Fr j).1 9 i 0 = 120) := by
  by_cases g : i = j
  · subst g
    unfold ageR
    split
    · exact Or.inl rfl
    · split
      · by_cases c : R 9 i 0 = 102 ∧ FP.fcmp (FP.fmul (Fr i) 1065269330) 1106247680 = some .lt
        · exact Or.inr ⟨c.1, by simp [up3, c]⟩
        · exact Or.inl (by simp only [up3, and_self, if_true]; exact if_neg c)
      · by_cases c : R 9 i 0 = 102 ∧ FP.fcmp (FP.fmul (Fr i) 1065017672) 1106247680 = some .lt
        · exact Or.inr ⟨c.1, by simp [up3, c]⟩
        · exact Or.inl (by simp only [up3, and_self, if_true]; exact if_neg c)
  · exact Or.inl (ageR_ne g 9 0)
theorem agesR_9 (i : Nat) : ∀ m, (agesR R Fr m).1 9 i 0 = R 9 i 0 ∨ (R 9 i 0 = 102 ∧ (agesR R Fr m).1 9 i 0 = 120) := by
  intro m
  induction m with
  | zero => exact Or.inl rfl
  | succ m ih =>
    rcases ageR_9 (R := (agesR R Fr m).1) (Fr := (agesR R Fr m).2) i m with e | ⟨e1, e2⟩
    · rcases ih with a | ⟨a, b⟩
      · exact Or.inl (e.trans a)
      · exact Or.inr ⟨a, e.trans b⟩
    · rcases ih with a | ⟨a, b⟩
      · exact Or.inr ⟨a.symm.trans e1, e2⟩
      · rw [b] at e1; exact absurd e1 (by decide)
theorem inv_ages (h : INV n N R Fr inc) : INV (n + 1) (up2 N 0 5 (N 0 5 + 1)) (agesR R Fr (N 0 1)).1 (agesR R Fr (N 0 1)).2 inc := by
  have hC := iv_ic h
  have hN0 : up2 N 0 5 (N 0 5 + 1) 0 0 = N 0 0 := by simp [up2]
  have hN1 : up2 N 0 5 (N 0 5 + 1) 0 1 = N 0 1 := by simp [up2]
  have hN2 : up2 N 0 5 (N 0 5 + 1) 0 2 = N 0 2 := by simp [up2]
  have hN3 : up2 N 0 5 (N 0 5 + 1) 0 3 = N 0 3 := by simp [up2]
  have hN4 : up2 N 0 5 (N 0 5 + 1) 0 4 = N 0 4 := by simp [up2]
  have hN5 : up2 N 0 5 (N 0 5 + 1) 0 5 = N 0 5 + 1 := by simp [up2]
  have hNk : ∀ i, ¬ i = 0 → up2 N 0 5 (N 0 5 + 1) i = N i := by
    intro i a; funext j; simp [up2, a]
  have hNc : ∀ c, c < 4 → up2 N 0 5 (N 0 5 + 1) 0 c = N 0 c := by
    intro c hc
    have : ¬ c = 5 := by omega
    simp [up2, this]
  generalize up2 N 0 5 (N 0 5 + 1) = N' at hN0 hN1 hN2 hN3 hN4 hN5 hNk hNc ⊢
  have er := agesR_row R Fr (N 0 1)
  have e9 := fun i => agesR_9 (R := R) (Fr := Fr) i (N 0 1)
  have e10 : ∀ i, N 0 1 ≤ i → (agesR R Fr (N 0 1)).1 10 i 0 = R 10 i 0 := fun i hi => agesR_hi 10 0 (N 0 1) hi
  have eo : ∀ j, j < N 0 1 → lotOK (agesR R Fr (N 0 1)).1 (agesR R Fr (N 0 1)).2 j := fun j hj => agesR_ok (iv_lot h j hj) (N 0 1)
  generalize (agesR R Fr (N 0 1)).1 = R' at er e9 e10 eo ⊢
  generalize (agesR R Fr (N 0 1)).2 = Fr' at eo ⊢
  have r0 := er 0 (by decide) (by decide)
  have r1 := er 1 (by decide) (by decide)
  have r2 := er 2 (by decide) (by decide)
  have r3 := er 3 (by decide) (by decide)
  have r4 := er 4 (by decide) (by decide)
  have r5 := er 5 (by decide) (by decide)
  have r7 := er 7 (by decide) (by decide)
  have r11 := er 11 (by decide) (by decide)
  have r12 := er 12 (by decide) (by decide)
  have r13 := er 13 (by decide) (by decide)
  have r14 := er 14 (by decide) (by decide)
  have r18 := er 18 (by decide) (by decide)
  refine ⟨?_, ?_, ?_, ?_, ?_, ?_, ?_, ?_, ?_, ?_, ?_, ?_, ?_, ?_, ?_, ?_, ?_, ?_, ?_, ?_, ?_⟩
  · unfold IC
    rw [hN0, hN1, hN2, hN3, hN4, hNk 1 (by decide), hNk 2 (by decide), hNk 3 (by decide)]
    exact ⟨hC.1, hC.2.1, hC.2.2.1, hC.2.2.2.1, hC.2.2.2.2.1, fun c hc => by rw [hNc c hc]; exact hC.2.2.2.2.2.1 c hc, hC.2.2.2.2.2.2.1, hC.2.2.2.2.2.2.2⟩
  · rw [hN5]; have := iv_tm h; omega
  · rw [hN0, r1]; exact iv_q1 h
  · rw [hN0, r3]; exact iv_q3 h
  · rw [hN4, r2]; exact iv_d1 h
  · rw [hN0, r2]; exact iv_d2 h
  · rw [hN2, r14]; exact iv_u1 h
  · rw [hN1, r12]; intro j hj; rw [e10 j hj]; exact iv_l1 h j hj
  · rw [hN3, hNk 1 (by decide)]; exact iv_t1 h
  · rw [hN1]; exact eo
  · unfold ownOK; rw [hN1, hN2, r11]; exact iv_own h
  · rw [hN1, hN2, r11]
    intro j hj hq
    rcases e9 j with e | ⟨-, e⟩
    · rw [e] at hq; exact iv_own2 h j hj hq
    · rw [e] at hq; exact absurd hq (by decide)
  · rw [hN1, r12]
    intro j hj hq
    rcases e9 j with e | ⟨-, e⟩
    · rw [e] at hq; exact iv_own3 h j hj hq
    · rw [e] at hq; exact absurd hq (by decide)
  · rw [r12]; exact iv_paid h
  · rw [hN1, hN2, r13]
    intro u hu
    rw [bsum_rows (R := R) (fun j _ => by rw [r11]) (fun j _ => by rw [r12])]
    exact iv_bud h u hu
  · rw [r14]; exact iv_lim h
  · unfold ckOK; rw [r0]; exact iv_ck h
  · rw [r0]; exact iv_ck2 h
  · unfold truckOK; rw [hN1, hN2, hN3, hNk 1 (by decide), r18, r11]; exact iv_tr h
  · rw [hN1, r1, r3]
    intro b hb q hq
    rw [wsum_rows (R := R) (p := byB R b (nI q)) (fun j _ => by rw [r7]) (fun j _ => by unfold byB; rw [r4, r5])]
    exact iv_quo h b hb q hq
  · rw [hN1, psum_rows (R := R) (fun j _ => by rw [r12])]; exact iv_inc h
/-- a lot's state becomes 'delivered' -/
theorem inv_st (h : INV n N R Fr inc) (j : Nat) : INV n N (up3 R 9 j 0 100) Fr inc := by
  have er : ∀ i, ¬ i = 9 → up3 R 9 j 0 100 i = R i := fun i a => up3_k a
  have e9 : ∀ i, ¬ i = j → up3 R 9 j 0 100 9 i 0 = R 9 i 0 := fun i a => up3_ne (fun q => a q.2.1)
  have j9 : up3 R 9 j 0 100 9 j 0 = 100 := by simp [up3]
  generalize up3 R 9 j 0 100 = R' at er e9 j9 ⊢
  have r11 := er 11 (by decide)
  have r12 := er 12 (by decide)
  refine ⟨iv_ic h, iv_tm h, ?_, ?_, ?_, ?_, ?_, ?_, iv_t1 h, ?_, ?_, ?_, ?_, ?_, ?_, ?_, ?_, ?_, ?_, ?_, ?_⟩
  · rw [er 1 (by decide)]; exact iv_q1 h
  · rw [er 3 (by decide)]; exact iv_q3 h
  · rw [er 2 (by decide)]; exact iv_d1 h
  · rw [er 2 (by decide)]; exact iv_d2 h
  · rw [er 14 (by decide)]; exact iv_u1 h
  · rw [er 10 (by decide), r12]; exact iv_l1 h
  · intro i hi
    have hl := iv_lot h i hi
    unfold lotOK at hl ⊢
    rw [er 5 (by decide), er 6 (by decide), er 7 (by decide), er 8 (by decide)]
    refine ⟨hl.1, hl.2.1, hl.2.2.1, ?_, hl.2.2.2.2⟩
    by_cases g : i = j
    · rw [g, j9]; exact Or.inr (Or.inr (Or.inr (Or.inl rfl)))
    · rw [e9 i g]; exact hl.2.2.2.1
  · unfold ownOK; rw [r11]; exact iv_own h
  · rw [r11]
    intro i hi hq
    by_cases g : i = j
    · rw [g, j9] at hq; exact absurd hq (by decide)
    · rw [e9 i g] at hq; exact iv_own2 h i hi hq
  · rw [r12]
    intro i hi hq
    by_cases g : i = j
    · rw [g, j9] at hq; exact absurd hq (by decide)
    · rw [e9 i g] at hq; exact iv_own3 h i hi hq
  · rw [r12]; exact iv_paid h
  · rw [er 13 (by decide)]
    intro u hu
    rw [bsum_rows (R := R) (fun j _ => by rw [r11]) (fun j _ => by rw [r12])]
    exact iv_bud h u hu
  · rw [er 14 (by decide)]; exact iv_lim h
  · unfold ckOK; rw [er 0 (by decide)]; exact iv_ck h
  · rw [er 0 (by decide)]; exact iv_ck2 h
  · unfold truckOK; rw [er 18 (by decide), r11]; exact iv_tr h
  · rw [er 1 (by decide), er 3 (by decide)]
    intro b hb q hq
    rw [wsum_rows (R := R) (p := byB R b (nI q)) (fun j _ => by rw [er 7 (by decide)]) (fun j _ => by unfold byB; rw [er 4 (by decide), er 5 (by decide)])]
    exact iv_quo h b hb q hq
  · rw [psum_rows (R := R) (fun j _ => by rw [r12])]; exact iv_inc h
/-- money goes back -/
theorem inv_back (h : INV n N R Fr inc) {j u P B : Nat} (hj : j < N 0 1) (hu : u < N 0 2) (ho : R 11 j 0 = nI u) (hP : R 12 j 0 = nI P) (hB : B ≤ P) (hP6 : P ≤ 1000000) (hs : ¬ R 9 j 0 = 102) : INV n N (up3 (up3 R 12 j 0 (nI (P - B))) 13 u 0 (R 13 u 0 + nI B)) Fr (inc - lN B) := by
  have hC := iv_ic h
  have hu5 := hC.2.2.1
  have er : ∀ i, ¬ i = 12 → ¬ i = 13 → up3 (up3 R 12 j 0 (nI (P - B))) 13 u 0 (R 13 u 0 + nI B) i = R i := fun i a b => (up3_k b).trans (up3_k a)
  have e12 : ∀ i, ¬ i = j → up3 (up3 R 12 j 0 (nI (P - B))) 13 u 0 (R 13 u 0 + nI B) 12 i 0 = R 12 i 0 := by
    intro i a; simp [up3, a]
  have e13 : ∀ i, ¬ i = u → up3 (up3 R 12 j 0 (nI (P - B))) 13 u 0 (R 13 u 0 + nI B) 13 i 0 = R 13 i 0 := by
    intro i a; simp [up3, a]
  have j12 : up3 (up3 R 12 j 0 (nI (P - B))) 13 u 0 (R 13 u 0 + nI B) 12 j 0 = nI (P - B) := by simp [up3]
  have j13 : up3 (up3 R 12 j 0 (nI (P - B))) 13 u 0 (R 13 u 0 + nI B) 13 u 0 = R 13 u 0 + nI B := by simp [up3]
  generalize up3 (up3 R 12 j 0 (nI (P - B))) 13 u 0 (R 13 u 0 + nI B) = R' at er e12 e13 j12 j13 ⊢
  have r9 := er 9 (by decide) (by decide)
  have r11 := er 11 (by decide) (by decide)
  have hpd : ∀ i, paidOK (R' 12 i 0) := by
    intro i
    by_cases g : i = j
    · rw [g, j12]; exact ⟨P - B, by omega, rfl⟩
    · rw [e12 i g]; exact iv_paid h i
  refine ⟨hC, iv_tm h, ?_, ?_, ?_, ?_, ?_, ?_, iv_t1 h, ?_, ?_, ?_, ?_, hpd, ?_, ?_, ?_, ?_, ?_, ?_, ?_⟩
  · rw [er 1 (by decide) (by decide)]; exact iv_q1 h
  · rw [er 3 (by decide) (by decide)]; exact iv_q3 h
  · rw [er 2 (by decide) (by decide)]; exact iv_d1 h
  · rw [er 2 (by decide) (by decide)]; exact iv_d2 h
  · rw [er 14 (by decide) (by decide)]; exact iv_u1 h
  · intro i hi
    rw [er 10 (by decide) (by decide), e12 i (by omega)]; exact iv_l1 h i hi
  · exact fun i hi => lot_rows (fun k h1 h2 => er k (by omega) (by omega)) (iv_lot h i hi)
  · unfold ownOK; rw [r11]; exact iv_own h
  · rw [r9, r11]; exact iv_own2 h
  · rw [r9]
    intro i hi hq
    by_cases g : i = j
    · rw [g] at hq; exact absurd hq hs
    · rw [e12 i g]; exact iv_own3 h i hi hq
  · intro v hv
    have hb := bsum_one (R := R) (R' := R') (u := v) (j := j) (fun i _ => by rw [r11]) e12 (N 0 1) hj
    by_cases g : v = u
    · have t0 : bterm R v j = P := by
        unfold bterm
        rw [ho, hP, g, if_pos rfl, nI_toInt (by omega)]; rfl
      have t1 : bterm R' v j = P - B := by
        unfold bterm
        rw [r11, ho, j12, g, if_pos rfl, nI_toInt (by omega)]; rfl
      obtain ⟨C, c1, c2⟩ := iv_bud h u hu
      refine ⟨C + B, by rw [g, j13, c1, nI_add], ?_⟩
      rw [g] at hb t0 t1 ⊢
      omega
    · have t0 : bterm R v j = 0 := by
        unfold bterm
        rw [ho, if_neg (fun z => g ((nI_eq (by omega) (by omega)).mp z).symm)]
      have t1 : bterm R' v j = 0 := by
        unfold bterm
        rw [r11, ho, if_neg (fun z => g ((nI_eq (by omega) (by omega)).mp z).symm)]
      obtain ⟨C, c1, c2⟩ := iv_bud h v hv
      rw [e13 v g]
      exact ⟨C, c1, by omega⟩
  · rw [er 14 (by decide) (by decide)]; exact iv_lim h
  · unfold ckOK; rw [er 0 (by decide) (by decide)]; exact iv_ck h
  · rw [er 0 (by decide) (by decide)]; exact iv_ck2 h
  · unfold truckOK; rw [er 18 (by decide) (by decide), r11]; exact iv_tr h
  · rw [er 1 (by decide) (by decide), er 3 (by decide) (by decide)]
    intro b hb q hq
    rw [wsum_rows (R := R) (p := byB R b (nI q)) (fun j _ => by rw [er 7 (by decide) (by decide)]) (fun j _ => by unfold byB; rw [er 4 (by decide) (by decide), er 5 (by decide) (by decide)])]
    exact iv_quo h b hb q hq
  · have hs2 := pnat_one (R := R) (R' := R') (j := j) e12 (N 0 1) hj
    have t0 : pterm R j = P := by unfold pterm; rw [hP, nI_toInt (by omega)]; rfl
    have t1 : pterm R' j = P - B := by unfold pterm; rw [j12, nI_toInt (by omega)]; rfl
    rw [iv_inc h, (psum_nat (iv_paid h) _).1, (psum_nat hpd _).1, lN_sub (by omega)]
    congr 1
    omega
theorem inv_del (h : INV n N R Fr inc) {j : Nat} (hj : j < N 0 1) (ho : isIx (N 0 2) (R 11 j 0) = true) : INV n N (delR Fr j (R, inc)).1 Fr (delR Fr j (R, inc)).2 := by
  obtain ⟨P, hP, eP⟩ := iv_paid h j
  have hfo : fo (Fr j) := (iv_lot h j hj).2.2.2.2.1
  have i1 := ix_lt ho (by have := (iv_ic h).2.2.1; omega)
  simp only [delR]
  split
  · rename_i hlt
    obtain ⟨-, -, -, B, hB, eB⟩ := back_ok hP hfo hlt
    have h2 := inv_back (inv_st h j) (j := j) (u := ix (R 11 j 0)) (P := P) (B := B) hj i1.1 (by rw [up3_k (by decide)]; exact i1.2) (by rw [up3_k (by decide)]; exact eP) hB hP (by simp [up3])
    show INV n N (up3 (up3 (up3 R 9 j 0 100) 12 j 0 (R 12 j 0 - backV (R 12 j 0) (Fr j))) 13 (ix (R 11 j 0)) 0 (R 13 (ix (R 11 j 0)) 0 + backV (R 12 j 0) (Fr j))) Fr (inc - (backV (R 12 j 0) (Fr j)).toInt64)
    rw [eP, eB, nI_sub hB, nI_l (by omega)]
    rw [show up3 R 9 j 0 100 13 = R 13 from up3_k (by decide)] at h2
    exact h2
  · exact inv_st h j
theorem inv_dels {x : (Nat → Nat → Nat → Int32) × Int64} (h : INV n N x.1 Fr x.2) {t : Nat} (ht : t < N 0 3) : ∀ m, m ≤ N 1 t → INV n N (delsR Fr t m x).1 Fr (delsR Fr t m x).2 := by
  intro m
  induction m with
  | zero => exact fun _ => h
  | succ m ih =>
    intro hm
    have h1 := ih (by omega)
    obtain ⟨b1, b2⟩ := iv_tr h1 t ht m (by omega)
    show INV n N (delR Fr (ix ((delsR Fr t m x).1 18 t m)) (delsR Fr t m x)).1 Fr (delR Fr (ix ((delsR Fr t m x).1 18 t m)) (delsR Fr t m x)).2
    generalize delsR Fr t m x = y at h1 b1 b2 ⊢
    obtain ⟨R, inc⟩ := y
    exact inv_del h1 (ix_lt2 b1 (by have := (iv_ic h1).2.1; omega)) b2
theorem inv_leave {x : (Nat → Nat → Nat → Int32) × Int64} (h : INV n N x.1 Fr x.2) (now : Int32) : ∀ m, m ≤ N 0 3 → INV n N (leaveR N Fr now m x).1 Fr (leaveR N Fr now m x).2 := by
  intro m
  induction m with
  | zero => exact fun _ => h
  | succ m ih =>
    intro hm
    have h1 := ih (by omega)
    simp only [leaveR]
    split
    · exact inv_dels h1 (by omega) _ (Nat.le_refl _)
    · exact h1
theorem delsR_row (Fr : Nat → UInt32) (t k : Nat) (x : (Nat → Nat → Nat → Int32) × Int64) (h9 : ¬ k = 9) (h12 : ¬ k = 12) (h13 : ¬ k = 13) : ∀ m, (delsR Fr t m x).1 k = x.1 k := by
  intro m
  induction m with
  | zero => rfl
  | succ m ih => exact (delR_row Fr _ k _ h9 h12 h13).trans ih
theorem leaveR_row (N : Nat → Nat → Nat) (Fr : Nat → UInt32) (now : Int32) (k : Nat) (x : (Nat → Nat → Nat → Int32) × Int64) (h9 : ¬ k = 9) (h12 : ¬ k = 12) (h13 : ¬ k = 13) : ∀ m, (leaveR N Fr now m x).1 k = x.1 k := by
  intro m
  induction m with
  | zero => rfl
  | succ m ih =>
    simp only [leaveR]
    split
    · exact (delsR_row Fr _ k _ h9 h12 h13 _).trans ih
    · exact ih
theorem inv_tick (h : INV n N R Fr inc) : INVs (n + 1) (op_tick (N, R, Fr, inc)).2.2 := by
  have e := inv_leave (x := ((agesR R Fr (N 0 1)).1, inc)) (inv_ages h) (nI (N 0 5 + 1)) (N 0 3) (by simp [up2])
  rw [leaveR_N (N := N) (N' := up2 N 0 5 (N 0 5 + 1)) (by funext i; simp [up2])] at e
  exact e
theorem qs_tick (hq : QS N R) : QSs (op_tick (N, R, Fr, inc)).2.2 :=
  qs_same (N' := up2 N 0 5 (N 0 5 + 1)) hq (by simp [up2]) ((leaveR_row N _ _ 1 _ (by decide) (by decide) (by decide) _).trans (agesR_row R Fr _ 1 (by decide) (by decide)))
end
