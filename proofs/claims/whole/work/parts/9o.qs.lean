/-! The quotas left: not negative, bounded in sum -/
def sum6 (f : Nat → Int) : Int := f 0 + f 1 + f 2 + f 3 + f 4 + f 5
theorem sum6_one {f g : Nat → Int} {b : Nat} (hb : b < 6) (h : ∀ i, ¬ i = b → g i = f i) : sum6 g = sum6 f - f b + g b := by
  unfold sum6
  have h0 := h 0
  have h1 := h 1
  have h2 := h 2
  have h3 := h 3
  have h4 := h 4
  have h5 := h 5
  obtain rfl | rfl | rfl | rfl | rfl | rfl : b = 0 ∨ b = 1 ∨ b = 2 ∨ b = 3 ∨ b = 4 ∨ b = 5 := by omega
  all_goals omega
theorem le_sum6 {f : Nat → Int} (h : ∀ i, 0 ≤ f i) {b : Nat} (hb : b < 6) : f b ≤ sum6 f := by
  unfold sum6
  have h0 := h 0
  have h1 := h 1
  have h2 := h 2
  have h3 := h 3
  have h4 := h 4
  have h5 := h 5
  obtain rfl | rfl | rfl | rfl | rfl | rfl : b = 0 ∨ b = 1 ∨ b = 2 ∨ b = 3 ∨ b = 4 ∨ b = 5 := by omega
  all_goals omega
def QS (N : Nat → Nat → Nat) (R : Nat → Nat → Nat → Int32) : Prop := (∀ b q, 0 ≤ (R 1 b q).toInt) ∧ ∀ q, q < 4 → sum6 (fun b => (R 1 b q).toInt) ≤ 9999 * (N 0 0 : Int)
def QSs : St → Prop := fun (N, R, _, _) => QS N R
theorem qs_same {N N' : Nat → Nat → Nat} {R R' : Nat → Nat → Nat → Int32} (h : QS N R) (h0 : N' 0 0 = N 0 0) (h1 : R' 1 = R 1) : QS N' R' := by
  unfold QS
  rw [h0, h1]
  exact h
theorem qs_0 : QS (fun _ _ => 0) R00 := by
  have e : ∀ b q, R00 1 b q = 0 := fun b q => by simp [R00, up3]
  refine ⟨fun b q => by rw [e]; decide, fun q _ => ?_⟩
  simp only [e]
  decide
theorem add_toInt {x y : Int32} (h1 : -2147483648 ≤ x.toInt + y.toInt) (h2 : x.toInt + y.toInt < 2147483648) : (x + y).toInt = x.toInt + y.toInt := by
  rw [Int32.toInt_add, Int.bmod_def]
  split <;> omega
theorem four_b {p0 p1 p2 p3 : Int32} (h0 : wi p0 0 9999 = true) (h1 : wi p1 0 9999 = true) (h2 : wi p2 0 9999 = true) (h3 : wi p3 0 9999 = true) (s : Nat) : 0 ≤ (four p0 p1 p2 p3 s).toInt ∧ (four p0 p1 p2 p3 s).toInt ≤ 9999 := by
  unfold four
  split
  · exact wi_toInt.mp h0
  split
  · exact wi_toInt.mp h1
  split
  · exact wi_toInt.mp h2
  · exact wi_toInt.mp h3
theorem nf2 {a b : Bool} (h : ¬ (a && b) = false) : a = true ∧ b = true := by
  cases a <;> cases b <;> simp_all
theorem nf3 {a b c : Bool} (h : ¬ (a && b && c) = false) : a = true ∧ b = true ∧ c = true := by
  cases a <;> cases b <;> cases c <;> simp_all
theorem nf4 {a b c d : Bool} (h : ¬ (a && b && c && d) = false) : a = true ∧ b = true ∧ c = true ∧ d = true := by
  cases a <;> cases b <;> cases c <;> cases d <;> simp_all
section
variable {n : Nat} {N : Nat → Nat → Nat} {R : Nat → Nat → Nat → Int32} {Fr : Nat → UInt32} {inc : Int64}
theorem qs_addBoat (h : INV n N R Fr inc) (hq : QS N R) (p0 p1 p2 p3 : Int32) : QSs (op_addBoat (N, R, Fr, inc) p0 p1 p2 p3).2.2 := by
  simp only [op_addBoat]
  split
  · exact hq
  split
  · exact hq
  · rename_i hp h4
    have hC := iv_ic h
    show QS (up2 (up2 N 0 0 (N 0 0 + 1)) 2 0 (N 0 0 + 1)) (put4 (put4 R 1 (N 0 0) p0 p1 p2 p3) 3 (N 0 0) p0 p1 p2 p3)
    have hp : wi p0 0 9999 = true ∧ wi p1 0 9999 = true ∧ wi p2 0 9999 = true ∧ wi p3 0 9999 = true := nf4 hp
    have hf := four_b hp.1 hp.2.1 hp.2.2.1 hp.2.2.2
    have e0 : up2 (up2 N 0 0 (N 0 0 + 1)) 2 0 (N 0 0 + 1) 0 0 = N 0 0 + 1 := by simp [up2]
    have e1 : ∀ b q, put4 (put4 R 1 (N 0 0) p0 p1 p2 p3) 3 (N 0 0) p0 p1 p2 p3 1 b q = put4 R 1 (N 0 0) p0 p1 p2 p3 1 b q := fun b q => put4_ne (fun z => absurd z.1 (by decide))
    refine ⟨fun b q => ?_, fun q hq4 => ?_⟩
    · rw [e1]
      by_cases g : b = N 0 0 ∧ q < 4
      · rw [g.1, put4_eq g.2]; exact (hf q).1
      · rw [put4_ne (fun z => g z.2)]; exact hq.1 b q
    · have e6 := sum6_one (f := fun b => (R 1 b q).toInt) (g := fun b => (put4 (put4 R 1 (N 0 0) p0 p1 p2 p3) 3 (N 0 0) p0 p1 p2 p3 1 b q).toInt) (b := N 0 0) (by have := hC.1; omega) (fun i hi => by
        show (put4 (put4 R 1 (N 0 0) p0 p1 p2 p3) 3 (N 0 0) p0 p1 p2 p3 1 i q).toInt = (R 1 i q).toInt
        rw [e1, put4_ne (fun z => hi z.2.1)])
      have e7 : put4 (put4 R 1 (N 0 0) p0 p1 p2 p3) 3 (N 0 0) p0 p1 p2 p3 1 (N 0 0) q = four p0 p1 p2 p3 q := by rw [e1, put4_eq hq4]
      have e8 : (R 1 (N 0 0) q).toInt = 0 := by rw [iv_q1 h _ q (Nat.le_refl _)]; rfl
      have := hq.2 q hq4
      have := (hf q).2
      rw [e6, e0]
      rw [e7, e8]
      omega
theorem qs_moveQuota (h : INV n N R Fr inc) (hq : QS N R) (p0 p1 p2 p3 : Int32) : QSs (op_moveQuota (N, R, Fr, inc) p0 p1 p2 p3).2.2 := by
  simp only [op_moveQuota]
  split
  · exact hq
  split
  · exact hq
  split
  · exact hq
  · rename_i h1 h2 h3
    have hC := iv_ic h
    have h1 : isIx (N 0 0) p0 = true ∧ isIx (N 0 0) p1 = true := by simpa using h1
    have i0 := ix_lt h1.1 (by have := hC.1; omega)
    have i1 := ix_lt h1.2 (by have := hC.1; omega)
    have hne : ¬ ix p1 = ix p0 := fun q => h2 (Or.inl (by rw [i0.2, i1.2, q]))
    have hw : wi p2 0 3 = true ∧ wi p3 1 9999 = true := nf2 (fun q => h2 (Or.inr q))
    have hp := wi_toInt.mp hw.2
    have z1 : (1 : Int32).toInt = 1 := rfl
    have z9 : (9999 : Int32).toInt = 9999 := rfl
    have h3 := Int32.le_iff_toInt_le.mp (Int32.not_lt.mp h3)
    obtain ⟨a, ha, da⟩ : ∃ c, c = ix p0 ∧ c < N 0 0 := ⟨_, rfl, i0.1⟩
    obtain ⟨b, hb, db⟩ : ∃ c, c = ix p1 ∧ c < N 0 0 := ⟨_, rfl, i1.1⟩
    obtain ⟨s, hs, ds⟩ : ∃ c, c = ix p2 ∧ c ≤ 3 := ⟨_, rfl, (wi_lt (b := 3) (by decide) hw.1).1⟩
    rw [← ha, ← hb] at hne
    rw [← ha, ← hs] at h3
    rw [← ha, ← hb, ← hs]
    have h6 := hC.1
    have hA := hq.1 a s
    have hA9 := Int32.toInt_lt (R 1 a s)
    have hB := hq.1 b s
    have hS := hq.2 s (by omega)
    have hBS : (R 1 b s).toInt ≤ sum6 (fun b => (R 1 b s).toInt) := le_sum6 (f := fun b => (R 1 b s).toInt) (fun i => hq.1 i s) (by omega)
    have m1 : (R 1 a s - p3).toInt = (R 1 a s).toInt - p3.toInt := sub_toInt (by omega) (by omega)
    have m2 : (R 1 b s + p3).toInt = (R 1 b s).toInt + p3.toInt := add_toInt (by omega) (by omega)
    have e : ∀ i q, up3 (up3 (up3 (up3 R 1 a s (R 1 a s - p3)) 1 b s (R 1 b s + p3)) 3 a s (R 3 a s - p3)) 3 b s (R 3 b s + p3) 1 i q = if i = b ∧ q = s then R 1 b s + p3 else if i = a ∧ q = s then R 1 a s - p3 else R 1 i q := by
      intro i q; simp [up3]
    refine ⟨fun i q => ?_, fun q hq4 => ?_⟩
    · rw [e]
      split
      · rw [m2]; omega
      split
      · rw [m1]; omega
      · exact hq.1 i q
    · simp only [e]
      by_cases g : q = s
      · rw [g]
        have s1 := sum6_one (f := fun i => (R 1 i s).toInt) (g := fun i => (if i = a then R 1 a s - p3 else R 1 i s).toInt) (b := a) (by omega) (fun i hi => by simp [hi])
        have s2 := sum6_one (f := fun i => (if i = a then R 1 a s - p3 else R 1 i s).toInt) (g := fun i => (if i = b ∧ s = s then R 1 b s + p3 else if i = a ∧ s = s then R 1 a s - p3 else R 1 i s).toInt) (b := b) (by omega) (fun i hi => by simp [hi])
        rw [s2, s1]
        simp only [and_self, if_true, hne, and_true, if_false]
        rw [m1, m2]
        omega
      · simp only [g, and_false, if_false]
        exact hq.2 q hq4
/-- what is landed is a weight -/
theorem landed_ok {p x : Int32} (hp : wi p 1 2000 = true) (h0 : 0 ≤ x.toInt) (hn : ¬ x = 0) : wOK (landed p x) ∧ (landed p x).toInt ≤ x.toInt := by
  obtain ⟨k, hk1, hk2, rfl, -⟩ := wi_nat (a := 1) (b := 2000) (by decide) (by decide) hp
  obtain ⟨j, hj, rfl⟩ := nI_of (x := x) (Int32.not_lt.mpr (nn_toInt.mpr h0))
  have hj0 : 0 < j := Nat.pos_of_ne_zero fun q => hn (by rw [q]; rfl)
  unfold landed
  split
  · rename_i h
    have := (nI_ltI (by omega) hj).mp h
    exact ⟨⟨k, hk1, hk2, rfl⟩, by rw [nI_toInt (by omega), nI_toInt hj]; omega⟩
  · rename_i h
    have : j ≤ k := Nat.le_of_not_lt fun q => h ((nI_ltI (by omega) hj).mpr q)
    exact ⟨⟨j, hj0, by omega, rfl⟩, Int.le_refl _⟩
theorem qs_land (h : INV n N R Fr inc) (hq : QS N R) (p0 p1 p2 p3 p4 : Int32) : QSs (op_land (N, R, Fr, inc) p0 p1 p2 p3 p4).2.2 := by
  simp only [op_land]
  split
  · exact hq
  split
  · exact hq
  split
  · exact hq
  split
  · exact hq
  · rename_i h1 h2 h3 h4
    have hC := iv_ic h
    have h1 : isIx (N 0 0) p0 = true := by simpa using h1
    have i0 := ix_lt h1 (by have := hC.1; omega)
    have hw : wi p1 0 3 = true ∧ wi p3 1 2000 = true := ⟨(nf3 h2).1, (nf3 h2).2.2⟩
    obtain ⟨a, ha, da⟩ : ∃ c, c = ix p0 ∧ c < N 0 0 := ⟨_, rfl, i0.1⟩
    obtain ⟨s, hs, ds⟩ : ∃ c, c = ix p1 ∧ c ≤ 3 := ⟨_, rfl, (wi_lt (b := 3) (by decide) hw.1).1⟩
    rw [← ha, ← hs] at h4
    rw [← ha, ← hs]
    obtain ⟨⟨w, w1, w2, ew⟩, hle⟩ := landed_ok hw.2 (hq.1 a s) h4
    rw [ew] at hle
    rw [ew]
    have h6 := hC.1
    have hA := hq.1 a s
    have hS := hq.2 s (by omega)
    have ht := nI_toInt (n := w) (by omega)
    have hA2 := Int32.toInt_lt (R 1 a s)
    have m1 : (R 1 a s - nI w).toInt = (R 1 a s).toInt - (nI w).toInt := sub_toInt (by omega) (by omega)
    show QS (up2 (up2 N 0 1 (N 0 1 + 1)) 2 1 (N 0 1 + 1)) _
    have e0 : up2 (up2 N 0 1 (N 0 1 + 1)) 2 1 (N 0 1 + 1) 0 0 = N 0 0 := by simp [up2]
    unfold QS
    rw [e0]
    refine ⟨fun i q => ?_, fun q hq4 => ?_⟩
    · by_cases g : i = a ∧ q = s
      · rw [g.1, g.2, show ∀ v, up3 (up3 (up3 (up3 (up3 (up3 (up3 (up3 (up3 R 1 a s v) 0 0 0 (R 0 0 0 + (p3 - nI w))) 5 (N 0 1) 0 p1) 6 (N 0 1) 0 p2) 7 (N 0 1) 0 (nI w)) 8 (N 0 1) 0 p4) 9 (N 0 1) 0 102) 11 (N 0 1) 0 (-1)) 4 (N 0 1) 0 p0 1 a s = v from fun v => by simp [up3]]
        rw [m1]; omega
      · rw [show ∀ v, up3 (up3 (up3 (up3 (up3 (up3 (up3 (up3 (up3 R 1 a s v) 0 0 0 (R 0 0 0 + (p3 - nI w))) 5 (N 0 1) 0 p1) 6 (N 0 1) 0 p2) 7 (N 0 1) 0 (nI w)) 8 (N 0 1) 0 p4) 9 (N 0 1) 0 102) 11 (N 0 1) 0 (-1)) 4 (N 0 1) 0 p0 1 i q = R 1 i q from fun v => by simp [up3, g]]
        exact hq.1 i q
    · by_cases g : q = s
      · rw [g]
        have s1 := sum6_one (f := fun i => (R 1 i s).toInt) (g := fun i => (if i = a then R 1 a s - nI w else R 1 i s).toInt) (b := a) (by omega) (fun i hi => by simp [hi])
        simp only [if_true] at s1
        rw [m1] at s1
        refine Int.le_trans (Int.le_of_eq (Eq.trans ?_ s1)) (by omega)
        congr 1
        funext i
        congr 1
        simp [up3]
      · refine Int.le_trans (Int.le_of_eq ?_) (hq.2 q hq4)
        congr 1
        funext i
        congr 1
        simp [up3, g]
theorem qs_setLimit (hq : QS N R) (p0 p1 p2 : Int32) : QSs (op_setLimit (N, R, Fr, inc) p0 p1 p2).2.2 := by
  simp only [op_setLimit]
  split
  · exact hq
  split
  · exact hq
  · exact qs_same hq rfl (by funext b q; simp [up3])
theorem qs_setClock (hq : QS N R) (p0 p1 p2 : Int32) : QSs (op_setClock (N, R, Fr, inc) p0 p1 p2).2.2 := by
  simp only [op_setClock]
  split
  · exact hq
  · exact qs_same hq rfl (by funext b q; simp [up3])
theorem qs_ice (hq : QS N R) (p0 p1 : Int32) : QSs (op_ice (N, R, Fr, inc) p0 p1).2.2 := by
  simp only [op_ice]
  split
  · exact hq
  split
  · exact hq
  split
  · exact hq
  · exact qs_same hq rfl (by funext b q; simp [up3])
theorem qs_endDay (hq : QS N R) : QSs (op_endDay (N, R, Fr, inc)).2.2 := by
  simp only [op_endDay]
  split
  · exact hq
  · exact qs_same hq (by simp [up2]) (by funext b q; simp [wrote])
theorem qs_addBuyer (hq : QS N R) (p0 : Int32) : QSs (op_addBuyer (N, R, Fr, inc) p0).2.2 := by
  simp only [op_addBuyer]
  split
  · exact hq
  split
  · exact hq
  · exact qs_same hq (by simp [up2]) (by funext b q; simp [up3])
theorem qs_addTruck (hq : QS N R) (p0 p1 p2 : Int32) : QSs (op_addTruck (N, R, Fr, inc) p0 p1 p2).2.2 := by
  simp only [op_addTruck]
  split
  · exact hq
  split
  · exact hq
  · exact qs_same hq (by simp [up2]) (by funext b q; simp [up3])
theorem qs_load (hq : QS N R) (p0 p1 : Int32) : QSs (op_load (N, R, Fr, inc) p0 p1).2.2 := by
  simp only [op_load]
  split
  · exact hq
  split
  · exact hq
  split
  · exact hq
  split
  · exact hq
  · exact qs_same hq (by simp [up2]) (by funext b q; simp [up3])
theorem qs_sell (hq : QS N R) (p0 : Int32) : QSs (op_sell (N, R, Fr, inc) p0).2.2 := by
  simp only [op_sell]
  split
  · exact qs_same hq rfl (by funext b q; simp [up3])
  · exact hq
end
