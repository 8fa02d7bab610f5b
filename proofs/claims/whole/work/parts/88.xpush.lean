/-! The class's world grows -/
def upA (α : Nat → Nat → Nat) (k n a : Nat) : Nat → Nat → Nat := fun k' n' => if k' = k ∧ n' = n then a else α k' n'
theorem upA_self {α : Nat → Nat → Nat} {k n a : Nat} : upA α k n a k n = a := if_pos ⟨rfl, rfl⟩
theorem upA_ne {α : Nat → Nat → Nat} {k n a k' n' : Nat} (h : ¬ (k' = k ∧ n' = n)) : upA α k n a k' n' = α k' n' := if_neg h
theorem ownr_agree {α α' : Nat → Nat → Nat} {x : Int32} (h : x = -1 ∨ α' 10 (ix x) = α 10 (ix x)) : ownr α' x = ownr α x := by
  by_cases h1 : x = -1
  · rw [h1, ownr_none, ownr_none]
  · rw [ownr_some α' h1, ownr_some α h1, h.resolve_left h1]
theorem xent_agree {cA : Nat → ClassId} {α α' : Nat → Nat → Nat} {L : List (Nat × Nat)} {N : Nat → Nat → Nat} {R : Nat → Nat → Nat → Int32} {Fr : Nat → UInt32} {inc : Int64} (hLk : LOK N L) (hC : IC N) (hOw : ∀ j, j < N 0 1 → ownOK N R j) (hT : truckOK N R) (h : ∀ k n, (k, n) ∈ L → α' k n = α k n) (k n : Nat) (hp : (k, n) ∈ L) : xent cA α' (N, R, Fr, inc) k n = xent cA α (N, R, Fr, inc) k n := by
  have hm := (hLk.2 k n).mp hp
  have e2 := hC.2.2.2.2.2.1
  by_cases k0 : k = 0
  · subst k0
    simp only [xent]
    rw [h 1 0 (hLk.o 1 (by decide)), h 2 0 (hLk.o 2 (by decide)), h 3 0 (hLk.o 3 (by decide)), h 4 0 (hLk.o 4 (by decide))]
  by_cases k1 : k = 1
  · subst k1
    have e : (fun b => if b < N 2 0 then some (α' 5 b) else none) = fun b => if b < N 2 0 then some (α 5 b) else none := by
      funext b
      by_cases hb : b < N 2 0
      · rw [if_pos hb, if_pos hb, h 5 b (hLk.b 5 b (by decide) hb)]
      · rw [if_neg hb, if_neg hb]
    exact congrArg (fun f => (Sum.inl (cA 6, rfA 6 f) : va_E)) e
  by_cases k2 : k = 2
  · subst k2
    have e : (fun b => if b < N 2 1 then some (α' 9 b) else none) = fun b => if b < N 2 1 then some (α 9 b) else none := by
      funext b
      by_cases hb : b < N 2 1
      · rw [if_pos hb, if_pos hb, h 9 b (hLk.l b hb)]
      · rw [if_neg hb, if_neg hb]
    exact congrArg (fun f => (Sum.inl (cA 7, rfA 20 f) : va_E)) e
  by_cases k3 : k = 3
  · subst k3
    have e : (fun b => if b < N 2 2 then some (α' 10 b) else none) = fun b => if b < N 2 2 then some (α 10 b) else none := by
      funext b
      by_cases hb : b < N 2 2
      · rw [if_pos hb, if_pos hb, h 10 b (hLk.u 10 b (by decide) hb)]
      · rw [if_neg hb, if_neg hb]
    exact congrArg (fun f => (Sum.inl (cA 8, rfA 5 f) : va_E)) e
  by_cases k4 : k = 4
  · subst k4
    have e : (fun b => if b < N 2 3 then some (α' 12 b) else none) = fun b => if b < N 2 3 then some (α 12 b) else none := by
      funext b
      by_cases hb : b < N 2 3
      · rw [if_pos hb, if_pos hb, h 12 b (hLk.t 12 b (by decide) hb)]
      · rw [if_neg hb, if_neg hb]
    exact congrArg (fun f => (Sum.inl (cA 9, rfA 4 f) : va_E)) e
  by_cases k5 : k = 5
  · subst k5
    have hb : n < N 2 0 := by omega
    simp only [xent]
    rw [h 6 n (hLk.b 6 n (by decide) hb), h 7 n (hLk.b 7 n (by decide) hb), h 8 n (hLk.b 8 n (by decide) hb)]
  by_cases k6 : k = 6
  · subst k6; simp only [xent]
  by_cases k7 : k = 7
  · subst k7; simp only [xent]
  by_cases k8 : k = 8
  · subst k8; simp only [xent]
  by_cases k9 : k = 9
  · subst k9
    have hj : n < N 0 1 := by rw [← e2 1 (by decide)]; omega
    have e : ownr α' (R 11 n 0) = ownr α (R 11 n 0) := ownr_agree ((hOw n hj).imp id fun hu => h 10 _ (hLk.u 10 _ (by decide) (hC.lt (by decide) (ix_lt hu (by have := hC; unfold IC at this; omega)).1)))
    exact congrArg (fun o => (Sum.inr (4, [.int (nI n), .int (R 4 n 0), .int (R 5 n 0), .int (R 6 n 0), .int (R 7 n 0), .int (R 8 n 0), .int (R 9 n 0), .float (Fr n), .int (R 10 n 0), va_rf o, .int (R 12 n 0)]) : va_E)) e
  by_cases k10 : k = 10
  · subst k10
    have hb : n < N 2 2 := by omega
    simp only [xent]
    rw [h 11 n (hLk.u 11 n (by decide) hb)]
  by_cases k11 : k = 11
  · subst k11; simp only [xent]
  by_cases k12 : k = 12
  · subst k12
    have hb : n < N 2 3 := by omega
    simp only [xent]
    rw [h 13 n (hLk.t 13 n (by decide) hb)]
  have k13 : k = 13 := by omega
  subst k13
  have ht : n < N 0 3 := by rw [← e2 3 (by decide)]; omega
  have e : (fun i => if i < N 3 n then some (α' 9 (ix (R 18 n i))) else none) = fun i => if i < N 3 n then some (α 9 (ix (R 18 n i))) else none := by
    funext i
    by_cases hi : i < N 3 n
    · rw [if_pos hi, if_pos hi]
      have h1 := (hT n ht i (by rw [← hC.2.2.2.2.2.2.2 n]; exact hi)).1
      rw [h 9 _ (hLk.l _ (hC.lt (by decide) (ix_lt h1 (by have := hC; unfold IC at this; omega)).1))]
    · rw [if_neg hi, if_neg hi]
  exact congrArg (fun f => (Sum.inl (cA 7, rfA 5 f) : va_E)) e
theorem xpush {wr : va_W} {cA : Nat → ClassId} {α α' : Nat → Nat → Nat} {L ids : List (Nat × Nat)} {S S' : St} {es : va_W} (k : Nat) (hm : (k, 0) ∈ L) (hnd : Lnd L) {e' : va_E} (hα : ∀ a b, (a, b) ∈ L → α' a b = α a b) (hoth : ∀ a b, (a, b) ∈ L → (a, b) ≠ (k, 0) → xent cA α' S' a b = xent cA α S a b) (hs : xent cA α' S' k 0 = e') (hes : ids.map (xf cA α' S') = es) : ∃ q0 : Nat, (xWd wr cA α L S ++ es)[q0]? = some (α k 0, xent cA α S k 0) ∧ (xWd wr cA α L S ++ es).set q0 (α k 0, e') = xWd wr cA α' (L ++ ids) S' := by
  obtain ⟨q0, h1, h2⟩ := xg_set (wr := wr) (xf cA α S) (k, 0) hm hnd
  have hlt : q0 < (wr ++ L.map (xf cA α S)).length := (List.getElem?_eq_some_iff.mp h1).1
  refine ⟨q0, ?_, ?_⟩
  · show ((wr ++ L.map (xf cA α S)) ++ es)[q0]? = _
    rw [List.getElem?_append_left hlt]
    exact h1
  · show ((wr ++ L.map (xf cA α S)) ++ es).set q0 _ = _
    rw [List.set_append_left _ _ hlt]
    have h3 := h2 (xf cA α' S') (fun q hq hn => by
      obtain ⟨a, b⟩ := q
      show (α' a b, xent cA α' S' a b) = (α a b, xent cA α S a b)
      rw [hα a b hq, hoth a b hq hn])
    have h4 : xf cA α' S' (k, 0) = (α k 0, e') := by
      show (α' k 0, xent cA α' S' k 0) = _
      rw [hα k 0 hm, hs]
    rw [h4] at h3
    rw [h3, ← hes]
    unfold xWd
    rw [List.map_append, List.append_assoc]
theorem xe_n2 (cA : Nat → ClassId) (α : Nat → Nat → Nat) (N : Nat → Nat → Nat) (R : Nat → Nat → Nat → Int32) (Fr : Nat → UInt32) (inc : Int64) (c v k n : Nat) (hc : c < 4) (h : ¬ k = c + 1) : xent cA α (up2 N 2 c v, R, Fr, inc) k n = xent cA α (N, R, Fr, inc) k n := by
  match k, h with
  | 0, _ => simp [xent, up2]
  | 1, h => simp [xent, up2, show ¬ 0 = c by omega]
  | 2, h => simp [xent, up2, show ¬ 1 = c by omega]
  | 3, h => simp [xent, up2, show ¬ 2 = c by omega]
  | 4, h => simp [xent, up2, show ¬ 3 = c by omega]
  | 5, _ => simp [xent]
  | 6, _ => simp [xent]
  | 7, _ => simp [xent]
  | 8, _ => simp [xent]
  | 9, _ => simp [xent]
  | 10, _ => simp [xent]
  | 11, _ => simp [xent]
  | 12, _ => simp [xent, up2]
  | k + 13, _ => simp [xent, up2]
theorem LOK.push {N : Nat → Nat → Nat} {L ids : List (Nat × Nat)} (h : LOK N L) {N' : Nat → Nat → Nat} (hids : ∀ (i j : Nat) (p : Nat × Nat), ids[i]? = some p → ids[j]? = some p → i = j) (hnew : ∀ k n, (k, n) ∈ ids → (k, n) ∉ L) (hiff : ∀ k n, ((k < 5 ∧ n = 0) ∨ ((k = 5 ∨ k = 6 ∨ k = 7 ∨ k = 8) ∧ n < N' 2 0) ∨ (k = 9 ∧ n < N' 2 1) ∨ ((k = 10 ∨ k = 11) ∧ n < N' 2 2) ∨ ((k = 12 ∨ k = 13) ∧ n < N' 2 3)) ↔ ((k, n) ∈ ids ∨ (k < 5 ∧ n = 0) ∨ ((k = 5 ∨ k = 6 ∨ k = 7 ∨ k = 8) ∧ n < N 2 0) ∨ (k = 9 ∧ n < N 2 1) ∨ ((k = 10 ∨ k = 11) ∧ n < N 2 2) ∨ ((k = 12 ∨ k = 13) ∧ n < N 2 3))) : LOK N' (L ++ ids) := by
  refine ⟨fun i j p hi hj => ?_, fun k n => ?_⟩
  · by_cases h1 : i < L.length
    · rw [List.getElem?_append_left h1] at hi
      by_cases h2 : j < L.length
      · rw [List.getElem?_append_left h2] at hj
        exact h.1 i j p hi hj
      · rw [List.getElem?_append_right (by omega)] at hj
        exact absurd (List.mem_of_getElem? hi) (hnew p.1 p.2 (List.mem_of_getElem? hj))
    · rw [List.getElem?_append_right (by omega)] at hi
      by_cases h2 : j < L.length
      · rw [List.getElem?_append_left h2] at hj
        exact absurd (List.mem_of_getElem? hj) (hnew p.1 p.2 (List.mem_of_getElem? hi))
      · rw [List.getElem?_append_right (by omega)] at hj
        have := hids _ _ p hi hj
        omega
  · rw [List.mem_append, h.2 k n, hiff k n]
    exact ⟨fun q => q.elim Or.inr Or.inl, fun q => q.elim Or.inr Or.inl⟩
theorem arr_up {N n : Nat} {f g : Nat → Nat} {q : Nat} (hN : N = n) (hq : g n = q) (hg : ∀ j, j < n → g j = f j) : (fun j => if j < n + 1 then some (g j) else none) = va_up (fun j => if j < N then some (f j) else none) n (some q) := by
  subst hN
  funext j
  simp only [va_up]
  by_cases h : j = N
  · subst h
    simp [hq]
  · by_cases h1 : j < N
    · simp [h, h1, hg j h1, show j < N + 1 by omega]
    · simp [h, h1, show ¬ j < N + 1 by omega]
