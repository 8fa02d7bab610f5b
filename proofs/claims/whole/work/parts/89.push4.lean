theorem not_inL {N : Nat → Nat → Nat} {L : List (Nat × Nat)} (h : LOK N L) {k n : Nat} (hk : 5 ≤ k) (hn : (k ≤ 8 → N 2 0 ≤ n) ∧ (k = 9 → N 2 1 ≤ n) ∧ ((k = 10 ∨ k = 11) → N 2 2 ≤ n) ∧ (12 ≤ k → N 2 3 ≤ n)) : (k, n) ∉ L := by
  intro hm
  have := (h.2 k n).mp hm
  omega
section PUSH4
variable {wr : va_W} {cA : Nat → ClassId} {α : Nat → Nat → Nat} {L : List (Nat × Nat)} {N : Nat → Nat → Nat} {R : Nat → Nat → Nat → Int32} {Fr : Nat → UInt32} {inc : Int64}
def alB (α : Nat → Nat → Nat) (n q a1 : Nat) : Nat → Nat → Nat := upA (upA α 10 n q) 11 n a1
theorem push_buyer (hLk : LOK N L) (hC : IC N) (hOw : ∀ j, j < N 0 1 → ownOK N R j) (hT : truckOK N R) (hz : ∀ s, R 14 (N 0 2) s = 0) (q a1 : Nat) (v : Int32) : ∃ q0 : Nat, (xWd wr cA α L (N, R, Fr, inc) ++ ([(q, .inr (3, [.int (nI (N 0 2)), .ref a1, .int v])), (a1, .inl (cA 0, 4, .inl (fun _ => 0)))] : va_W))[q0]? = some (α 3 0, xent cA α (N, R, Fr, inc) 3 0) ∧ (xWd wr cA α L (N, R, Fr, inc) ++ ([(q, .inr (3, [.int (nI (N 0 2)), .ref a1, .int v])), (a1, .inl (cA 0, 4, .inl (fun _ => 0)))] : va_W)).set q0 (α 3 0, .inl (cA 8, rfA 5 (va_up (fun u => if u < N 2 2 then some (α 10 u) else none) (N 0 2) (some q)))) = xWd wr cA (alB α (N 0 2) q a1) (L ++ [(10, N 0 2), (11, N 0 2)]) (up2 N 2 2 (N 0 2 + 1), up3 R 13 (N 0 2) 0 v, Fr, inc) := by
  have e2 := hC.2.2.2.2.2.1 2 (by decide)
  have hα : ∀ a b, (a, b) ∈ L → alB α (N 0 2) q a1 a b = α a b := by
    intro a b hm
    unfold alB
    rw [upA_ne, upA_ne]
    · rintro ⟨rfl, rfl⟩; exact not_inL hLk (by decide) (by omega) hm
    · rintro ⟨rfl, rfl⟩; exact not_inL hLk (by decide) (by omega) hm
  refine xpush (S := (N, R, Fr, inc)) (S' := (up2 N 2 2 (N 0 2 + 1), up3 R 13 (N 0 2) 0 v, Fr, inc)) 3 (hLk.o 3 (by decide)) hLk.1 hα (fun a b hm hne => ?_) ?_ ?_
  · rw [xe_n2 cA _ N _ Fr inc 2 _ a b (by decide) (fun h => hne (by subst h; rw [hLk.n0 (by decide) hm]))]
    rw [xe_r13 cA _ N R Fr inc (N 0 2) v (a, b) (by
      intro h
      cases h
      exact not_inL hLk (by decide) (by omega) hm)]
    exact xent_agree hLk hC hOw hT hα a b hm
  · have e : (fun u => if u < up2 N 2 2 (N 0 2 + 1) 2 2 then some (alB α (N 0 2) q a1 10 u) else none) = va_up (fun u => if u < N 2 2 then some (α 10 u) else none) (N 0 2) (some q) := by
      rw [up2_self]
      refine arr_up e2 ?_ (fun j hj => hα 10 j (hLk.u 10 j (by decide) (by omega)))
      unfold alB
      rw [upA_ne (by simp), upA_self]
    exact congrArg (fun f => (Sum.inl (cA 8, rfA 5 f) : va_E)) e
  · have h10 : alB α (N 0 2) q a1 10 (N 0 2) = q := by unfold alB; rw [upA_ne (by simp), upA_self]
    have h11 : alB α (N 0 2) q a1 11 (N 0 2) = a1 := by unfold alB; rw [upA_self]
    have e1 : (fun s => R 14 (N 0 2) s) = fun _ => 0 := funext hz
    show [(alB α (N 0 2) q a1 10 (N 0 2), _), (alB α (N 0 2) q a1 11 (N 0 2), _)] = _
    rw [h10, h11]
    have x1 : xent cA (alB α (N 0 2) q a1) (up2 N 2 2 (N 0 2 + 1), up3 R 13 (N 0 2) 0 v, Fr, inc) 10 (N 0 2) = .inr (3, [.int (nI (N 0 2)), .ref a1, .int v]) := by
      rw [xs_r13, h11]
    have x2 : xent cA (alB α (N 0 2) q a1) (up2 N 2 2 (N 0 2 + 1), up3 R 13 (N 0 2) 0 v, Fr, inc) 11 (N 0 2) = .inl (cA 0, 4, .inl (fun _ => 0)) := by
      exact congrArg (fun f => (Sum.inl (cA 0, 4, .inl f) : va_E)) e1
    rw [x1, x2]
theorem lok_buyer (hLk : LOK N L) (hC : IC N) : LOK (up2 N 2 2 (N 0 2 + 1)) (L ++ [(10, N 0 2), (11, N 0 2)]) := by
  have e2 := hC.2.2.2.2.2.1 2 (by decide)
  have f0 : up2 N 2 2 (N 0 2 + 1) 2 0 = N 2 0 := rfl
  have f1 : up2 N 2 2 (N 0 2 + 1) 2 1 = N 2 1 := rfl
  have f2 : up2 N 2 2 (N 0 2 + 1) 2 2 = N 0 2 + 1 := rfl
  have f3 : up2 N 2 2 (N 0 2 + 1) 2 3 = N 2 3 := rfl
  refine hLk.push (fun i j p hi hj => ?_) (fun k n hm => ?_) (fun k n => ?_)
  · match i, j, hi, hj with
    | 0, 0, _, _ => rfl
    | 1, 1, _, _ => rfl
    | 0, 1, hi, hj => cases hi; cases hj
    | 1, 0, hi, hj => cases hi; cases hj
    | i + 2, _, hi, _ => cases hi
    | 0, j + 2, _, hj => cases hj
    | 1, j + 2, _, hj => cases hj
  · simp only [List.mem_cons, Prod.mk.injEq, List.not_mem_nil, or_false] at hm
    rcases hm with ⟨rfl, rfl⟩ | ⟨rfl, rfl⟩
    · exact not_inL hLk (by decide) (by omega)
    · exact not_inL hLk (by decide) (by omega)
  · rw [f0, f1, f2, f3]
    simp only [List.mem_cons, Prod.mk.injEq, List.not_mem_nil, or_false]
    omega
end PUSH4
