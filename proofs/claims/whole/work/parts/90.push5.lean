section PUSH5
variable {wr : va_W} {cA : Nat → ClassId} {α : Nat → Nat → Nat} {L : List (Nat × Nat)} {N : Nat → Nat → Nat} {R : Nat → Nat → Nat → Int32} {Fr : Nat → UInt32} {inc : Int64}
def alT (α : Nat → Nat → Nat) (n q a1 : Nat) : Nat → Nat → Nat := upA (upA α 12 n q) 13 n a1
theorem push_truck (hLk : LOK N L) (hC : IC N) (hOw : ∀ j, j < N 0 1 → ownOK N R j) (hT : truckOK N R) (hz : N 1 (N 0 3) = 0) (q a1 : Nat) (v0 v1 v2 : Int32) : ∃ q0 : Nat, (xWd wr cA α L (N, R, Fr, inc) ++ ([(q, .inr (5, [.int v0, .int v2, .ref a1, .int 0, .int v1])), (a1, .inl (cA 7, rfA 5 (fun _ => none)))] : va_W))[q0]? = some (α 4 0, xent cA α (N, R, Fr, inc) 4 0) ∧ (xWd wr cA α L (N, R, Fr, inc) ++ ([(q, .inr (5, [.int v0, .int v2, .ref a1, .int 0, .int v1])), (a1, .inl (cA 7, rfA 5 (fun _ => none)))] : va_W)).set q0 (α 4 0, .inl (cA 9, rfA 4 (va_up (fun u => if u < N 2 3 then some (α 12 u) else none) (N 0 3) (some q)))) = xWd wr cA (alT α (N 0 3) q a1) (L ++ [(12, N 0 3), (13, N 0 3)]) (up2 N 2 3 (N 0 3 + 1), up3 (up3 (up3 R 15 (N 0 3) 0 v0) 17 (N 0 3) 0 v1) 16 (N 0 3) 0 v2, Fr, inc) := by
  have e2 := hC.2.2.2.2.2.1 3 (by decide)
  have hα : ∀ a b, (a, b) ∈ L → alT α (N 0 3) q a1 a b = α a b := by
    intro a b hm
    unfold alT
    rw [upA_ne, upA_ne]
    · rintro ⟨rfl, rfl⟩; exact not_inL hLk (by decide) (by omega) hm
    · rintro ⟨rfl, rfl⟩; exact not_inL hLk (by decide) (by omega) hm
  refine xpush (S := (N, R, Fr, inc)) (S' := (up2 N 2 3 (N 0 3 + 1), up3 (up3 (up3 R 15 (N 0 3) 0 v0) 17 (N 0 3) 0 v1) 16 (N 0 3) 0 v2, Fr, inc)) 4 (hLk.o 4 (by decide)) hLk.1 hα (fun a b hm hne => ?_) ?_ ?_
  · rw [xe_n2 cA _ N _ _ inc 3 _ a b (by decide) (fun h => hne (by subst h; rw [hLk.n0 (by decide) hm]))]
    have m12 : (a, b) ≠ (12, N 0 3) := by
      intro h
      cases h
      exact not_inL hLk (by decide) (by omega) hm
    have m13 : (a, b) ≠ (13, N 0 3) := by
      intro h
      cases h
      exact not_inL hLk (by decide) (by omega) hm
    rw [xe_r16 cA _ N _ Fr inc (N 0 3) v2 (a, b) m12]
    rw [xe_r17 cA _ N _ Fr inc (N 0 3) v1 (a, b) m12]
    rw [xe_r15 cA _ N _ Fr inc (N 0 3) v0 (a, b) m12]
    exact xent_agree hLk hC hOw hT hα a b hm
  · have e : (fun u => if u < up2 N 2 3 (N 0 3 + 1) 2 3 then some (alT α (N 0 3) q a1 12 u) else none) = va_up (fun u => if u < N 2 3 then some (α 12 u) else none) (N 0 3) (some q) := by
      rw [up2_self]
      refine arr_up e2 ?_ (fun j hj => hα 12 j (hLk.t 12 j (by decide) (by omega)))
      unfold alT
      rw [upA_ne (by simp), upA_self]
    exact congrArg (fun f => (Sum.inl (cA 9, rfA 4 f) : va_E)) e
  · have h12 : alT α (N 0 3) q a1 12 (N 0 3) = q := by unfold alT; rw [upA_ne (by simp), upA_self]
    have h13 : alT α (N 0 3) q a1 13 (N 0 3) = a1 := by unfold alT; rw [upA_self]
    show [(alT α (N 0 3) q a1 12 (N 0 3), _), (alT α (N 0 3) q a1 13 (N 0 3), _)] = _
    rw [h12, h13]
    have x12 : xent cA (alT α (N 0 3) q a1) (up2 N 2 3 (N 0 3 + 1), up3 (up3 (up3 R 15 (N 0 3) 0 v0) 17 (N 0 3) 0 v1) 16 (N 0 3) 0 v2, Fr, inc) 12 (N 0 3) = .inr (5, [.int v0, .int v2, .ref a1, .int 0, .int v1]) := by
      have z1 : up2 N 2 3 (N 0 3 + 1) 1 (N 0 3) = 0 := (up2_ne (by simp)).trans hz
      simp only [xent, h13, z1]
      simp [up3]
      rfl
    have x13 : xent cA (alT α (N 0 3) q a1) (up2 N 2 3 (N 0 3 + 1), up3 (up3 (up3 R 15 (N 0 3) 0 v0) 17 (N 0 3) 0 v1) 16 (N 0 3) 0 v2, Fr, inc) 13 (N 0 3) = .inl (cA 7, rfA 5 (fun _ => none)) := by
      have z3 : up2 N 2 3 (N 0 3 + 1) 3 (N 0 3) = 0 := (up2_ne (by simp)).trans ((hC.2.2.2.2.2.2.2 _).trans hz)
      simp only [xent, z3]
      simp
    rw [x12, x13]
theorem lok_truck (hLk : LOK N L) (hC : IC N) : LOK (up2 N 2 3 (N 0 3 + 1)) (L ++ [(12, N 0 3), (13, N 0 3)]) := by
  have e2 := hC.2.2.2.2.2.1 3 (by decide)
  have f0 : up2 N 2 3 (N 0 3 + 1) 2 0 = N 2 0 := rfl
  have f1 : up2 N 2 3 (N 0 3 + 1) 2 1 = N 2 1 := rfl
  have f2 : up2 N 2 3 (N 0 3 + 1) 2 2 = N 2 2 := rfl
  have f3 : up2 N 2 3 (N 0 3 + 1) 2 3 = N 0 3 + 1 := rfl
  refine hLk.push (fun i j p hi hj => ?_) (fun k n hm => ?_) (fun k n => ?_)
  · match i, j, hi, hj with
    | 0, 0, _, _ => rfl
    | 1, 1, _, _ => rfl
    | 0, 1, hi, hj => cases hi; cases hj
    | 1, 0, hi, hj => cases hi; cases hj
    | i + 2, _, hi, _ => cases hi
    | 0, j + 2, _, hj => cases hj
    | 1, j + 2, _, hj => cases hj
  · simp only [List.mem_cons, Prod.mk.injEq, List.not_mem_nil, or_false] at hm
    rcases hm with ⟨rfl, rfl⟩ | ⟨rfl, rfl⟩
    · exact not_inL hLk (by decide) (by omega)
    · exact not_inL hLk (by decide) (by omega)
  · rw [f0, f1, f2, f3]
    simp only [List.mem_cons, Prod.mk.injEq, List.not_mem_nil, or_false]
    omega
def alL (α : Nat → Nat → Nat) (n q : Nat) : Nat → Nat → Nat := upA α 9 n q
theorem push_lot (hLk : LOK N L) (hC : IC N) (hOw : ∀ j, j < N 0 1 → ownOK N R j) (hT : truckOK N R) (hz1 : R 10 (N 0 1) 0 = 0) (hz2 : R 12 (N 0 1) 0 = 0) (q : Nat) (v1 v2 v3 v4 v5 : Int32) : ∃ q0 : Nat, (xWd wr cA α L (N, R, Fr, inc) ++ ([(q, .inr (4, [.int (nI (N 0 1)), .int v1, .int v2, .int v3, .int v4, .int v5, .int 102, .float 1120403456, .int 0, .null, .int 0]))] : va_W))[q0]? = some (α 2 0, xent cA α (N, R, Fr, inc) 2 0) ∧ (xWd wr cA α L (N, R, Fr, inc) ++ ([(q, .inr (4, [.int (nI (N 0 1)), .int v1, .int v2, .int v3, .int v4, .int v5, .int 102, .float 1120403456, .int 0, .null, .int 0]))] : va_W)).set q0 (α 2 0, .inl (cA 7, rfA 20 (va_up (fun u => if u < N 2 1 then some (α 9 u) else none) (N 0 1) (some q)))) = xWd wr cA (alL α (N 0 1) q) (L ++ [(9, N 0 1)]) (up2 N 2 1 (N 0 1 + 1), up3 (up3 (up3 (up3 (up3 (up3 (up3 R 5 (N 0 1) 0 v2) 6 (N 0 1) 0 v3) 7 (N 0 1) 0 v4) 8 (N 0 1) 0 v5) 9 (N 0 1) 0 102) 11 (N 0 1) 0 (-1)) 4 (N 0 1) 0 v1, vf_upd Fr (N 0 1) 1120403456, inc) := by
  have e2 := hC.2.2.2.2.2.1 1 (by decide)
  have hα : ∀ a b, (a, b) ∈ L → alL α (N 0 1) q a b = α a b := by
    intro a b hm
    unfold alL
    rw [upA_ne]
    · rintro ⟨rfl, rfl⟩; exact not_inL hLk (by decide) (by omega) hm
  refine xpush (S := (N, R, Fr, inc)) (S' := (up2 N 2 1 (N 0 1 + 1), up3 (up3 (up3 (up3 (up3 (up3 (up3 R 5 (N 0 1) 0 v2) 6 (N 0 1) 0 v3) 7 (N 0 1) 0 v4) 8 (N 0 1) 0 v5) 9 (N 0 1) 0 102) 11 (N 0 1) 0 (-1)) 4 (N 0 1) 0 v1, vf_upd Fr (N 0 1) 1120403456, inc)) 2 (hLk.o 2 (by decide)) hLk.1 hα (fun a b hm hne => ?_) ?_ ?_
  · rw [xe_n2 cA _ N _ _ inc 1 _ a b (by decide) (fun h => hne (by subst h; rw [hLk.n0 (by decide) hm]))]
    have m9 : (a, b) ≠ (9, N 0 1) := by
      intro h
      cases h
      exact not_inL hLk (by decide) (by omega) hm
    rw [xe_r4 cA _ N _ _ inc (N 0 1) _ (a, b) m9]
    rw [xe_r11 cA _ N _ _ inc (N 0 1) _ (a, b) m9]
    rw [xe_r9 cA _ N _ _ inc (N 0 1) _ (a, b) m9]
    rw [xe_r8 cA _ N _ _ inc (N 0 1) _ (a, b) m9]
    rw [xe_r7 cA _ N _ _ inc (N 0 1) _ (a, b) m9]
    rw [xe_r6 cA _ N _ _ inc (N 0 1) _ (a, b) m9]
    rw [xe_r5 cA _ N _ _ inc (N 0 1) _ (a, b) m9]
    rw [xe_fr cA _ N R Fr inc (N 0 1) _ (a, b) m9]
    exact xent_agree hLk hC hOw hT hα a b hm
  · have e : (fun u => if u < up2 N 2 1 (N 0 1 + 1) 2 1 then some (alL α (N 0 1) q 9 u) else none) = va_up (fun u => if u < N 2 1 then some (α 9 u) else none) (N 0 1) (some q) := by
      rw [up2_self]
      refine arr_up e2 ?_ (fun j hj => hα 9 j (hLk.l j (by omega)))
      unfold alL
      rw [upA_self]
    exact congrArg (fun f => (Sum.inl (cA 7, rfA 20 f) : va_E)) e
  · have h9 : alL α (N 0 1) q 9 (N 0 1) = q := by unfold alL; rw [upA_self]
    show [(alL α (N 0 1) q 9 (N 0 1), _)] = _
    rw [h9]
    have x9 : xent cA (alL α (N 0 1) q) (up2 N 2 1 (N 0 1 + 1), up3 (up3 (up3 (up3 (up3 (up3 (up3 R 5 (N 0 1) 0 v2) 6 (N 0 1) 0 v3) 7 (N 0 1) 0 v4) 8 (N 0 1) 0 v5) 9 (N 0 1) 0 102) 11 (N 0 1) 0 (-1)) 4 (N 0 1) 0 v1, vf_upd Fr (N 0 1) 1120403456, inc) 9 (N 0 1) = .inr (4, [.int (nI (N 0 1)), .int v1, .int v2, .int v3, .int v4, .int v5, .int 102, .float 1120403456, .int 0, .null, .int 0]) := by
      have zo := ownr_none (alL α (N 0 1) q)
      have t11 : (up3 (up3 (up3 (up3 (up3 (up3 (up3 R 5 (N 0 1) 0 v2) 6 (N 0 1) 0 v3) 7 (N 0 1) 0 v4) 8 (N 0 1) 0 v5) 9 (N 0 1) 0 102) 11 (N 0 1) 0 (-1)) 4 (N 0 1) 0 v1) 11 (N 0 1) 0 = -1 := (up3_ne (by simp)).trans up3_self
      simp only [xent, t11, zo]
      simp [up3, vf_upd, hz1, hz2]
      rfl
    rw [x9]
theorem lok_lot (hLk : LOK N L) (hC : IC N) : LOK (up2 N 2 1 (N 0 1 + 1)) (L ++ [(9, N 0 1)]) := by
  have e2 := hC.2.2.2.2.2.1 1 (by decide)
  have f0 : up2 N 2 1 (N 0 1 + 1) 2 0 = N 2 0 := rfl
  have f1 : up2 N 2 1 (N 0 1 + 1) 2 1 = N 0 1 + 1 := rfl
  have f2 : up2 N 2 1 (N 0 1 + 1) 2 2 = N 2 2 := rfl
  have f3 : up2 N 2 1 (N 0 1 + 1) 2 3 = N 2 3 := rfl
  refine hLk.push (fun i j p hi hj => ?_) (fun k n hm => ?_) (fun k n => ?_)
  · match i, j, hi, hj with
    | 0, 0, _, _ => rfl
    | i + 1, _, hi, _ => cases hi
    | 0, j + 1, _, hj => cases hj
  · simp only [List.mem_cons, Prod.mk.injEq, List.not_mem_nil, or_false] at hm
    obtain ⟨rfl, rfl⟩ := hm
    exact not_inL hLk (by decide) (by omega)
  · rw [f0, f1, f2, f3]
    simp only [List.mem_cons, Prod.mk.injEq, List.not_mem_nil, or_false]
    omega
def alW (α : Nat → Nat → Nat) (n q a1 a2 a3 : Nat) : Nat → Nat → Nat := upA (upA (upA (upA α 5 n q) 6 n a1) 7 n a2) 8 n a3
theorem boat_l {R : Nat → Nat → Nat → Int32} {n : Nat} {v1 v2 v3 v4 : Int32} (h : ∀ s, R 1 n s = 0) : (fun s => (up3 (up3 (up3 (up3 (up3 (up3 (up3 (up3 R 1 n 0 v1) 1 n 1 v2) 1 n 2 v3) 1 n 3 v4) 3 n 0 v1) 3 n 1 v2) 3 n 2 v3) 3 n 3 v4) 1 n s) = upd (upd (upd (upd (fun _ => 0) 0 v1) 1 v2) 2 v3) 3 v4 := by
  funext s
  simp only [up3, upd]
  by_cases h3 : s = 3
  · subst h3; simp
  · by_cases h2 : s = 2
    · subst h2; simp
    · by_cases h1 : s = 1
      · subst h1; simp
      · by_cases h0 : s = 0
        · subst h0; simp
        · simp [h0, h1, h2, h3, h]
theorem boat_g {R : Nat → Nat → Nat → Int32} {n : Nat} {v1 v2 v3 v4 : Int32} (h : ∀ s, R 3 n s = 0) : (fun s => (up3 (up3 (up3 (up3 (up3 (up3 (up3 (up3 R 1 n 0 v1) 1 n 1 v2) 1 n 2 v3) 1 n 3 v4) 3 n 0 v1) 3 n 1 v2) 3 n 2 v3) 3 n 3 v4) 3 n s) = va_cpy (upd (upd (upd (upd (fun _ => 0) 0 v1) 1 v2) 2 v3) 3 v4) (fun _ => 0) 0 0 4 := by
  funext s
  simp only [up3, upd, va_cpy]
  by_cases h3 : s = 3
  · subst h3; simp
  · by_cases h2 : s = 2
    · subst h2; simp
    · by_cases h1 : s = 1
      · subst h1; simp
      · by_cases h0 : s = 0
        · subst h0; simp
        · simp [h0, h1, h2, h3, h, show ¬ s < 4 by omega]
theorem push_boat (hLk : LOK N L) (hC : IC N) (hOw : ∀ j, j < N 0 1 → ownOK N R j) (hT : truckOK N R) (hz1 : ∀ s, R 1 (N 0 0) s = 0) (hz3 : ∀ s, R 3 (N 0 0) s = 0) (hz2 : ∀ d s, s < 4 → R 2 d (4 * N 0 0 + s) = 0) (q a1 a2 a3 : Nat) (v1 v2 v3 v4 : Int32) : ∃ q0 : Nat, (xWd wr cA α L (N, R, Fr, inc) ++ ([(q, .inr (2, [.int (nI (N 0 0)), .ref a1, .ref a2, .ref a3])), (a1, .inl (cA 0, 4, .inl (upd (upd (upd (upd (fun _ => 0) 0 v1) 1 v2) 2 v3) 3 v4))), (a2, .inl (cA 0, 4, .inl (va_cpy (upd (upd (upd (upd (fun _ => 0) 0 v1) 1 v2) 2 v3) 3 v4) (fun _ => 0) 0 0 4))), (a3, .inl (cA 0, 76, .inl (fun _ => 0)))] : va_W))[q0]? = some (α 1 0, xent cA α (N, R, Fr, inc) 1 0) ∧ (xWd wr cA α L (N, R, Fr, inc) ++ ([(q, .inr (2, [.int (nI (N 0 0)), .ref a1, .ref a2, .ref a3])), (a1, .inl (cA 0, 4, .inl (upd (upd (upd (upd (fun _ => 0) 0 v1) 1 v2) 2 v3) 3 v4))), (a2, .inl (cA 0, 4, .inl (va_cpy (upd (upd (upd (upd (fun _ => 0) 0 v1) 1 v2) 2 v3) 3 v4) (fun _ => 0) 0 0 4))), (a3, .inl (cA 0, 76, .inl (fun _ => 0)))] : va_W)).set q0 (α 1 0, .inl (cA 6, rfA 6 (va_up (fun u => if u < N 2 0 then some (α 5 u) else none) (N 0 0) (some q)))) = xWd wr cA (alW α (N 0 0) q a1 a2 a3) (L ++ [(5, N 0 0), (6, N 0 0), (7, N 0 0), (8, N 0 0)]) (up2 N 2 0 (N 0 0 + 1), up3 (up3 (up3 (up3 (up3 (up3 (up3 (up3 R 1 (N 0 0) 0 v1) 1 (N 0 0) 1 v2) 1 (N 0 0) 2 v3) 1 (N 0 0) 3 v4) 3 (N 0 0) 0 v1) 3 (N 0 0) 1 v2) 3 (N 0 0) 2 v3) 3 (N 0 0) 3 v4, Fr, inc) := by
  have e2 := hC.2.2.2.2.2.1 0 (by decide)
  have hα : ∀ a b, (a, b) ∈ L → alW α (N 0 0) q a1 a2 a3 a b = α a b := by
    intro a b hm
    unfold alW
    rw [upA_ne, upA_ne, upA_ne, upA_ne]
    · rintro ⟨rfl, rfl⟩; exact not_inL hLk (by decide) (by omega) hm
    · rintro ⟨rfl, rfl⟩; exact not_inL hLk (by decide) (by omega) hm
    · rintro ⟨rfl, rfl⟩; exact not_inL hLk (by decide) (by omega) hm
    · rintro ⟨rfl, rfl⟩; exact not_inL hLk (by decide) (by omega) hm
  refine xpush (S := (N, R, Fr, inc)) (S' := (up2 N 2 0 (N 0 0 + 1), up3 (up3 (up3 (up3 (up3 (up3 (up3 (up3 R 1 (N 0 0) 0 v1) 1 (N 0 0) 1 v2) 1 (N 0 0) 2 v3) 1 (N 0 0) 3 v4) 3 (N 0 0) 0 v1) 3 (N 0 0) 1 v2) 3 (N 0 0) 2 v3) 3 (N 0 0) 3 v4, Fr, inc)) 1 (hLk.o 1 (by decide)) hLk.1 hα (fun a b hm hne => ?_) ?_ ?_
  · rw [xe_n2 cA _ N _ _ inc 0 _ a b (by decide) (fun h => hne (by subst h; rw [hLk.n0 (by decide) hm]))]
    have m5 : (a, b) ≠ (5, N 0 0) := by
      intro h
      cases h
      exact not_inL hLk (by decide) (by omega) hm
    have m6 : (a, b) ≠ (6, N 0 0) := by
      intro h
      cases h
      exact not_inL hLk (by decide) (by omega) hm
    have m7 : (a, b) ≠ (7, N 0 0) := by
      intro h
      cases h
      exact not_inL hLk (by decide) (by omega) hm
    have m8 : (a, b) ≠ (8, N 0 0) := by
      intro h
      cases h
      exact not_inL hLk (by decide) (by omega) hm
    rw [xe_r3 cA _ N _ Fr inc (N 0 0) 3 v4 (a, b) m7]
    rw [xe_r3 cA _ N _ Fr inc (N 0 0) 2 v3 (a, b) m7]
    rw [xe_r3 cA _ N _ Fr inc (N 0 0) 1 v2 (a, b) m7]
    rw [xe_r3 cA _ N _ Fr inc (N 0 0) 0 v1 (a, b) m7]
    rw [xe_r1 cA _ N _ Fr inc (N 0 0) 3 v4 (a, b) m6]
    rw [xe_r1 cA _ N _ Fr inc (N 0 0) 2 v3 (a, b) m6]
    rw [xe_r1 cA _ N _ Fr inc (N 0 0) 1 v2 (a, b) m6]
    rw [xe_r1 cA _ N _ Fr inc (N 0 0) 0 v1 (a, b) m6]
    exact xent_agree hLk hC hOw hT hα a b hm
  · have e : (fun u => if u < up2 N 2 0 (N 0 0 + 1) 2 0 then some (alW α (N 0 0) q a1 a2 a3 5 u) else none) = va_up (fun u => if u < N 2 0 then some (α 5 u) else none) (N 0 0) (some q) := by
      rw [up2_self]
      refine arr_up e2 ?_ (fun j hj => hα 5 j (hLk.b 5 j (by decide) (by omega)))
      unfold alW
      rw [upA_ne (by simp), upA_ne (by simp), upA_ne (by simp), upA_self]
    exact congrArg (fun f => (Sum.inl (cA 6, rfA 6 f) : va_E)) e
  · have h5 : alW α (N 0 0) q a1 a2 a3 5 (N 0 0) = q := by unfold alW; rw [upA_ne (by simp), upA_ne (by simp), upA_ne (by simp), upA_self]
    have h6 : alW α (N 0 0) q a1 a2 a3 6 (N 0 0) = a1 := by unfold alW; rw [upA_ne (by simp), upA_ne (by simp), upA_self]
    have h7 : alW α (N 0 0) q a1 a2 a3 7 (N 0 0) = a2 := by unfold alW; rw [upA_ne (by simp), upA_self]
    have h8 : alW α (N 0 0) q a1 a2 a3 8 (N 0 0) = a3 := by unfold alW; rw [upA_self]
    show [(alW α (N 0 0) q a1 a2 a3 5 (N 0 0), _), (alW α (N 0 0) q a1 a2 a3 6 (N 0 0), _), (alW α (N 0 0) q a1 a2 a3 7 (N 0 0), _), (alW α (N 0 0) q a1 a2 a3 8 (N 0 0), _)] = _
    rw [h5, h6, h7, h8]
    have x5 : xent cA (alW α (N 0 0) q a1 a2 a3) (up2 N 2 0 (N 0 0 + 1), up3 (up3 (up3 (up3 (up3 (up3 (up3 (up3 R 1 (N 0 0) 0 v1) 1 (N 0 0) 1 v2) 1 (N 0 0) 2 v3) 1 (N 0 0) 3 v4) 3 (N 0 0) 0 v1) 3 (N 0 0) 1 v2) 3 (N 0 0) 2 v3) 3 (N 0 0) 3 v4, Fr, inc) 5 (N 0 0) = .inr (2, [.int (nI (N 0 0)), .ref a1, .ref a2, .ref a3]) := by
      simp only [xent, h6, h7, h8]
    have x6 : xent cA (alW α (N 0 0) q a1 a2 a3) (up2 N 2 0 (N 0 0 + 1), up3 (up3 (up3 (up3 (up3 (up3 (up3 (up3 R 1 (N 0 0) 0 v1) 1 (N 0 0) 1 v2) 1 (N 0 0) 2 v3) 1 (N 0 0) 3 v4) 3 (N 0 0) 0 v1) 3 (N 0 0) 1 v2) 3 (N 0 0) 2 v3) 3 (N 0 0) 3 v4, Fr, inc) 6 (N 0 0) = .inl (cA 0, 4, .inl (upd (upd (upd (upd (fun _ => 0) 0 v1) 1 v2) 2 v3) 3 v4)) := by
      exact congrArg (fun f => (Sum.inl (cA 0, 4, .inl f) : va_E)) (boat_l hz1)
    have x7 : xent cA (alW α (N 0 0) q a1 a2 a3) (up2 N 2 0 (N 0 0 + 1), up3 (up3 (up3 (up3 (up3 (up3 (up3 (up3 R 1 (N 0 0) 0 v1) 1 (N 0 0) 1 v2) 1 (N 0 0) 2 v3) 1 (N 0 0) 3 v4) 3 (N 0 0) 0 v1) 3 (N 0 0) 1 v2) 3 (N 0 0) 2 v3) 3 (N 0 0) 3 v4, Fr, inc) 7 (N 0 0) = .inl (cA 0, 4, .inl (va_cpy (upd (upd (upd (upd (fun _ => 0) 0 v1) 1 v2) 2 v3) 3 v4) (fun _ => 0) 0 0 4)) := by
      exact congrArg (fun f => (Sum.inl (cA 0, 4, .inl f) : va_E)) (boat_g hz3)
    have x8 : xent cA (alW α (N 0 0) q a1 a2 a3) (up2 N 2 0 (N 0 0 + 1), up3 (up3 (up3 (up3 (up3 (up3 (up3 (up3 R 1 (N 0 0) 0 v1) 1 (N 0 0) 1 v2) 1 (N 0 0) 2 v3) 1 (N 0 0) 3 v4) 3 (N 0 0) 0 v1) 3 (N 0 0) 1 v2) 3 (N 0 0) 2 v3) 3 (N 0 0) 3 v4, Fr, inc) 8 (N 0 0) = .inl (cA 0, 76, .inl (fun _ => 0)) := by
      have e : (fun i => (up3 (up3 (up3 (up3 (up3 (up3 (up3 (up3 R 1 (N 0 0) 0 v1) 1 (N 0 0) 1 v2) 1 (N 0 0) 2 v3) 1 (N 0 0) 3 v4) 3 (N 0 0) 0 v1) 3 (N 0 0) 1 v2) 3 (N 0 0) 2 v3) 3 (N 0 0) 3 v4) 2 (i / 4) (4 * N 0 0 + i % 4)) = fun _ => 0 := by
        funext i
        simp only [up3]
        simp [hz2 (i / 4) (i % 4) (by omega)]
      exact congrArg (fun f => (Sum.inl (cA 0, 76, .inl f) : va_E)) e
    rw [x5, x6, x7, x8]
theorem lok_boat (hLk : LOK N L) (hC : IC N) : LOK (up2 N 2 0 (N 0 0 + 1)) (L ++ [(5, N 0 0), (6, N 0 0), (7, N 0 0), (8, N 0 0)]) := by
  have e2 := hC.2.2.2.2.2.1 0 (by decide)
  have f0 : up2 N 2 0 (N 0 0 + 1) 2 0 = N 0 0 + 1 := rfl
  have f1 : up2 N 2 0 (N 0 0 + 1) 2 1 = N 2 1 := rfl
  have f2 : up2 N 2 0 (N 0 0 + 1) 2 2 = N 2 2 := rfl
  have f3 : up2 N 2 0 (N 0 0 + 1) 2 3 = N 2 3 := rfl
  refine hLk.push (fun i j p hi hj => ?_) (fun k n hm => ?_) (fun k n => ?_)
  · match i, j, hi, hj with
    | 0, 0, _, _ => rfl
    | 0, 1, hi, hj => cases hi; cases hj
    | 0, 2, hi, hj => cases hi; cases hj
    | 0, 3, hi, hj => cases hi; cases hj
    | 1, 0, hi, hj => cases hi; cases hj
    | 1, 1, _, _ => rfl
    | 1, 2, hi, hj => cases hi; cases hj
    | 1, 3, hi, hj => cases hi; cases hj
    | 2, 0, hi, hj => cases hi; cases hj
    | 2, 1, hi, hj => cases hi; cases hj
    | 2, 2, _, _ => rfl
    | 2, 3, hi, hj => cases hi; cases hj
    | 3, 0, hi, hj => cases hi; cases hj
    | 3, 1, hi, hj => cases hi; cases hj
    | 3, 2, hi, hj => cases hi; cases hj
    | 3, 3, _, _ => rfl
    | i + 4, _, hi, _ => cases hi
    | 0, j + 4, _, hj => cases hj
    | 1, j + 4, _, hj => cases hj
    | 2, j + 4, _, hj => cases hj
    | 3, j + 4, _, hj => cases hj
  · simp only [List.mem_cons, Prod.mk.injEq, List.not_mem_nil, or_false] at hm
    rcases hm with ⟨rfl, rfl⟩ | ⟨rfl, rfl⟩ | ⟨rfl, rfl⟩ | ⟨rfl, rfl⟩
    · exact not_inL hLk (by decide) (by omega)
    · exact not_inL hLk (by decide) (by omega)
    · exact not_inL hLk (by decide) (by omega)
    · exact not_inL hLk (by decide) (by omega)
  · rw [f0, f1, f2, f3]
    simp only [List.mem_cons, Prod.mk.injEq, List.not_mem_nil, or_false]
    omega
end PUSH5
