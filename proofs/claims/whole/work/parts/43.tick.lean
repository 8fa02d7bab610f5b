theorem wsum_b {R : Nat → Nat → Nat → Int32} {p : Nat → Bool} : ∀ n : Nat, (∀ j, j < n → wOK (R 7 j 0)) → ∃ w : Nat, w ≤ 2000 * n ∧ wsum R p n = nI w ∧ ((∀ j, j < n → p j = true) → n ≤ w) := by
  intro n
  induction n with
  | zero => exact fun _ => ⟨0, Nat.le_refl _, rfl, fun _ => Nat.le_refl _⟩
  | succ n ih =>
    intro h
    obtain ⟨w, h1, h2, h3⟩ := ih (fun j hj => h j (by omega))
    obtain ⟨v, h4, h5, h6⟩ := h n (by omega)
    simp only [wsum]
    cases hp : p n
    · refine ⟨w, by omega, ?_, fun q => ?_⟩
      · rw [h2]; simp
      · rw [q n (by omega)] at hp; cases hp
    · refine ⟨w + v, by omega, ?_, fun q => ?_⟩
      · rw [h2, h6, if_pos rfl, nI_add]
      · have := h3 (fun j hj => q j (by omega)); omega
theorem wsum_nz {R : Nat → Nat → Nat → Int32} {n : Nat} (h : ∀ j, j < n → wOK (R 7 j 0)) (hn : ¬ n = 0) (hb : n ≤ 20) : ¬ wsum R (fun _ => true) n = 0 := by
  obtain ⟨w, h1, h2, h3⟩ := wsum_b (p := fun _ => true) n h
  have := h3 (fun _ _ => rfl)
  rw [h2]
  exact nI_ne0 (by omega) (by omega)
theorem mean_nn (a : Int64) {b : Int32} (h : ¬ b = 0) : FP.Core.val64 (FP.ddiv (FP.l2d a) (FP.i2d b)) ≠ .nan :=
  (FP.Core.notNaN_iff _).mp (FP.Core.ddiv_out (FP.Core.l2d_fin a).notNaN (FP.Core.i2d_fin b) (fun q => FP.Core.i2d_ne_zero h ((FP.Core.zero_bits2 _).mp q)))
theorem wrote_0 (R : Nat → Nat → Nat → Int32) (d : Nat) : wrote R d 0 = R := by
  funext k i j
  simp [wrote]
theorem ix24 (d i : Nat) : 24 * nI d + nI i = nI (24 * d + i) := by rw [show (24 : Int32) = nI 24 from rfl, pk_mul, nI_add]
theorem wrote_s (R : Nat → Nat → Nat → Int32) {d i : Nat} (hi : i < 24) : upd (fun k => wrote R d i 2 (k / 24) (k % 24)) (24 * d + i) (R 1 (i / 4) (i % 4)) = fun k => wrote R d (i + 1) 2 (k / 24) (k % 24) := by
  funext k
  simp only [upd, wrote]
  by_cases h : k = 24 * d + i
  · have h1 : k / 24 = d := by omega
    have h2 : k % 24 = i := by omega
    simp [h, h1, h2, show (24 * d + i) / 24 = d by omega, show (24 * d + i) % 24 = i by omega]
  · rw [if_neg h]
    by_cases h1 : k / 24 = d ∧ k % 24 < i
    · simp [h1.1, h1.2, show k % 24 < i + 1 by omega]
    · by_cases h2 : k / 24 = d
      · have h3 : ¬ k % 24 < i := fun q => h1 ⟨h2, q⟩
        have h4 : ¬ k % 24 < i + 1 := by omega
        simp [h3, h4]
      · simp [h2]
theorem cmpg_lt {o : Option Ordering} (h : o = some .lt) : ¬ Op.cmpValue o .g ≥ 0 := by subst h; decide
theorem cmpg_ge {o : Option Ordering} (h : ¬ o = some .lt) : Op.cmpValue o .g ≥ 0 := by
  cases o with
  | none => decide
  | some o => cases o with
    | lt => exact absurd rfl h
    | eq => decide
    | gt => decide
theorem up3_ne {R : Nat → Nat → Nat → Int32} {k i j k' i' j' : Nat} {v : Int32} (h : ¬ (k' = k ∧ i' = i ∧ j' = j)) : up3 R k i j v k' i' j' = R k' i' j' := if_neg h
theorem up3_k {R : Nat → Nat → Nat → Int32} {k i j k' : Nat} {v : Int32} (h : ¬ k' = k) : up3 R k i j v k' = R k' := by
  funext a b
  exact up3_ne fun q => h q.1
/-- the rows that growing older leaves alone -/
theorem ageR_row (R : Nat → Nat → Nat → Int32) (Fr : Nat → UInt32) (j k : Nat) (h9 : ¬ k = 9) (h10 : ¬ k = 10) : (ageR R Fr j).1 k = R k := by
  unfold ageR
  split
  · rfl
  · split
    · exact (up3_k h9).trans (up3_k h10)
    · exact up3_k h9
theorem agesR_row (R : Nat → Nat → Nat → Int32) (Fr : Nat → UInt32) (n k : Nat) (h9 : ¬ k = 9) (h10 : ¬ k = 10) : (agesR R Fr n).1 k = R k := by
  induction n with
  | zero => rfl
  | succ n ih => exact (ageR_row _ _ _ _ h9 h10).trans ih
theorem ageR_ok {R : Nat → Nat → Nat → Int32} {Fr : Nat → UInt32} {i j : Nat} (h : lotOK R Fr j) : lotOK (ageR R Fr i).1 (ageR R Fr i).2 j := by
  have r5 := ageR_row R Fr i 5 (by decide) (by decide)
  have r6 := ageR_row R Fr i 6 (by decide) (by decide)
  have r7 := ageR_row R Fr i 7 (by decide) (by decide)
  have r8 := ageR_row R Fr i 8 (by decide) (by decide)
  obtain ⟨a1, a2, a3, a4, a5, a6⟩ := h
  refine ⟨by rw [r5]; exact a1, by rw [r6]; exact a2, by rw [r7]; exact a3, ?_, ?_, by rw [r8]; exact a6⟩
  · unfold ageR
    split
    · exact a4
    · split
      · by_cases e : j = i
        · subst e
          simp only [up3, and_self, if_true]
          split
          · exact Or.inr (Or.inr (Or.inr (Or.inr rfl)))
          · exact a4
        · simp only [up3, e, false_and, and_false, if_false]
          simpa using a4
      · by_cases e : j = i
        · subst e
          simp only [up3, and_self, if_true]
          split
          · exact Or.inr (Or.inr (Or.inr (Or.inr rfl)))
          · exact a4
        · simp only [up3, e, false_and, and_false, if_false]
          exact a4
  · unfold ageR
    split
    · exact a5
    · split
      · by_cases e : j = i
        · subst e; simp only [vf_upd, if_true]; exact fo_ice a5
        · simp only [vf_upd, e, if_false]; exact a5
      · by_cases e : j = i
        · subst e; simp only [vf_upd, if_true]; exact fo_bare a5
        · simp only [vf_upd, e, if_false]; exact a5
theorem agesR_ok {R : Nat → Nat → Nat → Int32} {Fr : Nat → UInt32} {j : Nat} (h : lotOK R Fr j) (n : Nat) : lotOK (agesR R Fr n).1 (agesR R Fr n).2 j := by
  induction n with
  | zero => exact h
  | succ n ih => exact ageR_ok ih
/-- what may have been paid -/
def paidOK (x : Int32) : Prop := ∃ P : Nat, P ≤ 1000000 ∧ x = nI P
theorem nI_sub {a b : Nat} (h : b ≤ a) : nI a - nI b = nI (a - b) := by
  obtain ⟨c, rfl⟩ := Nat.exists_eq_add_of_le h
  rw [Nat.add_sub_cancel_left, ← nI_add, Int32.add_comm, Int32.add_sub_cancel]
theorem back_sub {x : Int32} {fr : UInt32} (h : paidOK x) (hf : fo fr) (hlt : FP.fcmp fr 1116471296 = some .lt) : paidOK (x - backV x fr) := by
  obtain ⟨P, hP, rfl⟩ := h
  obtain ⟨-, -, -, B, hB, e⟩ := back_ok hP hf hlt
  exact ⟨P - B, by omega, by rw [e]; exact nI_sub hB⟩
/-- the rows that a delivery leaves alone -/
theorem delR_row (Fr : Nat → UInt32) (j k : Nat) (x : (Nat → Nat → Nat → Int32) × Int64) (h9 : ¬ k = 9) (h12 : ¬ k = 12) (h13 : ¬ k = 13) : (delR Fr j x).1 k = x.1 k := by
  obtain ⟨R, inc⟩ := x
  simp only [delR]
  split
  · exact (up3_k h13).trans ((up3_k h12).trans (up3_k h9))
  · exact up3_k h9
theorem delR_paid {Fr : Nat → UInt32} {j : Nat} {x : (Nat → Nat → Nat → Int32) × Int64} (hf : fo (Fr j)) (h : ∀ i, paidOK (x.1 12 i 0)) (i : Nat) : paidOK ((delR Fr j x).1 12 i 0) := by
  obtain ⟨R, inc⟩ := x
  simp only [delR]
  split
  · rename_i hlt
    show paidOK (up3 (up3 (up3 R 9 j 0 100) 12 j 0 (R 12 j 0 - backV (R 12 j 0) (Fr j))) 13 (ix (R 11 j 0)) 0 (R 13 (ix (R 11 j 0)) 0 + backV (R 12 j 0) (Fr j)) 12 i 0)
    rw [up3_k (by decide)]
    by_cases e : i = j
    · subst e
      simp only [up3, and_self, if_true]
      exact back_sub (h i) hf hlt
    · rw [up3_ne (by simp [e]), up3_k (by decide)]
      exact h i
  · show paidOK (up3 R 9 j 0 100 12 i 0)
    rw [up3_k (by decide)]
    exact h i
/-- trucks carry lots that are, sold to buyers that are -/
def truckOK (N : Nat → Nat → Nat) (R : Nat → Nat → Nat → Int32) : Prop := ∀ t, t < N 0 3 → ∀ k, k < N 1 t → isIx (N 0 1) (R 18 t k) = true ∧ isIx (N 0 2) (R 11 (ix (R 18 t k)) 0) = true
/-- what the deliveries of a tick keep -/
def dkeep (R0 : Nat → Nat → Nat → Int32) (x : (Nat → Nat → Nat → Int32) × Int64) : Prop := (∀ k, ¬ k = 9 → ¬ k = 12 → ¬ k = 13 → x.1 k = R0 k) ∧ ∀ i, paidOK (x.1 12 i 0)
theorem dkeep.del {R0 : Nat → Nat → Nat → Int32} {x : (Nat → Nat → Nat → Int32) × Int64} (h : dkeep R0 x) {Fr : Nat → UInt32} {j : Nat} (hf : fo (Fr j)) : dkeep R0 (delR Fr j x) :=
  ⟨fun k h9 h12 h13 => (delR_row Fr j k x h9 h12 h13).trans (h.1 k h9 h12 h13), delR_paid hf h.2⟩
theorem dkeep.dels {R0 : Nat → Nat → Nat → Int32} {x : (Nat → Nat → Nat → Int32) × Int64} {N : Nat → Nat → Nat} {Fr : Nat → UInt32} (h : dkeep R0 x) (hN : N 0 1 ≤ 20) (hT : truckOK N R0) (hF : ∀ j, j < N 0 1 → fo (Fr j)) {t : Nat} (ht : t < N 0 3) : ∀ n : Nat, n ≤ N 1 t → dkeep R0 (delsR Fr t n x) := by
  intro n
  induction n with
  | zero => exact fun _ => h
  | succ n ih =>
    intro hn
    have h1 := ih (by omega)
    refine h1.del (hF _ ?_)
    rw [h1.1 18 (by decide) (by decide) (by decide)]
    exact (ix_lt (hT t ht n (by omega)).1 (by omega)).1
theorem dkeep.leave {R0 : Nat → Nat → Nat → Int32} {x : (Nat → Nat → Nat → Int32) × Int64} {N : Nat → Nat → Nat} {Fr : Nat → UInt32} {now : Int32} (h : dkeep R0 x) (hN : N 0 1 ≤ 20) (hT : truckOK N R0) (hF : ∀ j, j < N 0 1 → fo (Fr j)) : ∀ n : Nat, n ≤ N 0 3 → dkeep R0 (leaveR N Fr now n x) := by
  intro n
  induction n with
  | zero => exact fun _ => h
  | succ n ih =>
    intro hn
    have h1 := ih (by omega)
    simp only [leaveR]
    split
    · exact h1.dels hN hT hF (by omega) _ (Nat.le_refl _)
    · exact h1
theorem leaveR_N {N N' : Nat → Nat → Nat} {Fr : Nat → UInt32} {now : Int32} (h : N' 1 = N 1) (n : Nat) (x : (Nat → Nat → Nat → Int32) × Int64) : leaveR N' Fr now n x = leaveR N Fr now n x := by
  induction n with
  | zero => rfl
  | succ n ih => simp only [leaveR]; rw [ih, h]
