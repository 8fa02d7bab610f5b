/-! The class's cells -/
def rfA (n : Nat) (f : Nat → Option Nat) : vp_A := (n, .inr (.inr (.inr (.inr f))))
theorem ownr_ex : ∃ f : (Nat → Nat → Nat) → Int32 → Option Nat, ∀ (α : Nat → Nat → Nat) (x : Int32), f α x = if x = -1 then none else some (α 10 (ix x)) := ⟨_, fun _ _ => rfl⟩
/-- the address of the owner; never to be unfolded -/
noncomputable def ownr : (Nat → Nat → Nat) → Int32 → Option Nat := Classical.choose ownr_ex
theorem ownr_none (α : Nat → Nat → Nat) : ownr α (-1) = none := by
  unfold ownr
  rw [Classical.choose_spec ownr_ex]
  exact if_pos rfl
theorem ownr_some (α : Nat → Nat → Nat) {x : Int32} (h : ¬ x = -1) : ownr α x = some (α 10 (ix x)) := by
  unfold ownr
  rw [Classical.choose_spec ownr_ex]
  exact if_neg h
/-- the entry of the cell (kind, number) -/
noncomputable def xent (cA : Nat → ClassId) (α : Nat → Nat → Nat) (S : St) (k n : Nat) : va_E := match S with
  | (N, R, Fr, inc) => match k with
    | 0 => .inr (6, [.ref (α 1 0), .ref (α 2 0), .ref (α 3 0), .ref (α 4 0), .int (nI (N 0 0)), .int (nI (N 0 1)), .int (nI (N 0 2)), .int (nI (N 0 3)), .int (nI (N 0 5)), .int (nI (N 0 4)), .int (R 0 0 0), .int (R 0 1 0), .int (R 0 2 0), .int (R 0 3 0), .long inc])
    | 1 => .inl (cA 6, rfA 6 (fun b => if b < N 2 0 then some (α 5 b) else none))
    | 2 => .inl (cA 7, rfA 20 (fun j => if j < N 2 1 then some (α 9 j) else none))
    | 3 => .inl (cA 8, rfA 5 (fun u => if u < N 2 2 then some (α 10 u) else none))
    | 4 => .inl (cA 9, rfA 4 (fun t => if t < N 2 3 then some (α 12 t) else none))
    | 5 => .inr (2, [.int (nI n), .ref (α 6 n), .ref (α 7 n), .ref (α 8 n)])
    | 6 => .inl (cA 0, 4, .inl (fun s => R 1 n s))
    | 7 => .inl (cA 0, 4, .inl (fun s => R 3 n s))
    | 8 => .inl (cA 0, 76, .inl (fun i => R 2 (i / 4) (4 * n + i % 4)))
    | 9 => .inr (4, [.int (nI n), .int (R 4 n 0), .int (R 5 n 0), .int (R 6 n 0), .int (R 7 n 0), .int (R 8 n 0), .int (R 9 n 0), .float (Fr n), .int (R 10 n 0), va_rf (ownr α (R 11 n 0)), .int (R 12 n 0)])
    | 10 => .inr (3, [.int (nI n), .ref (α 11 n), .int (R 13 n 0)])
    | 11 => .inl (cA 0, 4, .inl (fun s => R 14 n s))
    | 12 => .inr (5, [.int (R 15 n 0), .int (R 16 n 0), .ref (α 13 n), .int (nI (N 1 n)), .int (R 17 n 0)])
    | _ => .inl (cA 7, rfA 5 (fun i => if i < N 3 n then some (α 9 (ix (R 18 n i))) else none))
noncomputable def xf (cA : Nat → ClassId) (α : Nat → Nat → Nat) (S : St) (p : Nat × Nat) : Nat × va_E := (α p.1 p.2, xent cA α S p.1 p.2)
/-- no cell twice -/
def Lnd (L : List (Nat × Nat)) : Prop := ∀ (i j : Nat) (p : Nat × Nat), L[i]? = some p → L[j]? = some p → i = j
/-- the class's world, behind all else -/
noncomputable def xWd (wr : va_W) (cA : Nat → ClassId) (α : Nat → Nat → Nat) (L : List (Nat × Nat)) (S : St) : va_W := wr ++ L.map (xf cA α S)
theorem xg_at {A : Type} {wr : List A} {L : List (Nat × Nat)} (f : Nat × Nat → A) (p : Nat × Nat) (h : p ∈ L) : ∃ q0 : Nat, (wr ++ L.map f)[q0]? = some (f p) := by
  obtain ⟨i, hi⟩ := List.getElem?_of_mem h
  refine ⟨wr.length + i, ?_⟩
  rw [List.getElem?_append_right (by omega), Nat.add_sub_cancel_left, List.getElem?_map, hi]
  rfl
theorem xg_set {A : Type} {wr : List A} {L : List (Nat × Nat)} (f : Nat × Nat → A) (p : Nat × Nat) (h : p ∈ L) (hnd : Lnd L) : ∃ q0 : Nat, (wr ++ L.map f)[q0]? = some (f p) ∧ ∀ f' : Nat × Nat → A, (∀ q ∈ L, q ≠ p → f' q = f q) → (wr ++ L.map f).set q0 (f' p) = wr ++ L.map f' := by
  obtain ⟨i, hi⟩ := List.getElem?_of_mem h
  refine ⟨wr.length + i, ?_, fun f' hS => ?_⟩
  · rw [List.getElem?_append_right (by omega), Nat.add_sub_cancel_left, List.getElem?_map, hi]
    rfl
  · rw [List.set_append_right _ _ (by omega), Nat.add_sub_cancel_left]
    congr 1
    apply List.ext_getElem?
    intro j
    rw [List.getElem?_set]
    by_cases hj : i = j
    · subst hj
      have hl : i < L.length := (List.getElem?_eq_some_iff.mp hi).1
      simp only [if_true, List.length_map, hl, List.getElem?_map, hi, Option.map_some]
    · simp only [if_neg hj, List.getElem?_map]
      cases hq : L[j]? with
      | none => rfl
      | some r =>
        simp only [Option.map_some]
        rw [hS r (List.mem_of_getElem? hq) (fun e => hj (hnd i j _ hi (e ▸ hq)))]
theorem xw_at {wr : va_W} {cA : Nat → ClassId} {α : Nat → Nat → Nat} {L : List (Nat × Nat)} {S : St} (k n : Nat) (h : (k, n) ∈ L) : ∃ q0 : Nat, (xWd wr cA α L S)[q0]? = some (α k n, xent cA α S k n) := xg_at (xf cA α S) (k, n) h
theorem xf_eq {cA : Nat → ClassId} {α : Nat → Nat → Nat} {S S' : St} {p : Nat × Nat} (h : xent cA α S' p.1 p.2 = xent cA α S p.1 p.2) : xf cA α S' p = xf cA α S p := by
  unfold xf
  rw [h]
theorem xw_set {wr : va_W} {cA : Nat → ClassId} {α : Nat → Nat → Nat} {L : List (Nat × Nat)} {S : St} (k n : Nat) (h : (k, n) ∈ L) (hnd : Lnd L) : ∃ q0 : Nat, (xWd wr cA α L S)[q0]? = some (α k n, xent cA α S k n) ∧ ∀ S' : St, (∀ p ∈ L, p ≠ (k, n) → xent cA α S' p.1 p.2 = xent cA α S p.1 p.2) → (xWd wr cA α L S).set q0 (α k n, xent cA α S' k n) = xWd wr cA α L S' := by
  obtain ⟨q0, h1, h2⟩ := xg_set (wr := wr) (xf cA α S) (k, n) h hnd
  exact ⟨q0, h1, fun S' hS => h2 (xf cA α S') (fun q hq hn => xf_eq (hS q hq hn))⟩
theorem xw_congr {wr : va_W} {cA : Nat → ClassId} {α α' : Nat → Nat → Nat} {L : List (Nat × Nat)} {S S' : St} (h : ∀ p ∈ L, xf cA α S p = xf cA α' S' p) : xWd wr cA α L S = xWd wr cA α' L S' := by
  unfold xWd
  rw [List.map_congr_left h]
/-- which cells there are -/
def LOK (N : Nat → Nat → Nat) (L : List (Nat × Nat)) : Prop := Lnd L ∧ ∀ k n : Nat, (k, n) ∈ L ↔ (k < 5 ∧ n = 0) ∨ ((k = 5 ∨ k = 6 ∨ k = 7 ∨ k = 8) ∧ n < N 2 0) ∨ (k = 9 ∧ n < N 2 1) ∨ ((k = 10 ∨ k = 11) ∧ n < N 2 2) ∨ ((k = 12 ∨ k = 13) ∧ n < N 2 3)
theorem LOK.o {N : Nat → Nat → Nat} {L : List (Nat × Nat)} (h : LOK N L) (k : Nat) (hk : k < 5) : (k, 0) ∈ L := (h.2 k 0).mpr (Or.inl ⟨hk, rfl⟩)
theorem LOK.b {N : Nat → Nat → Nat} {L : List (Nat × Nat)} (h : LOK N L) (k n : Nat) (hk : k = 5 ∨ k = 6 ∨ k = 7 ∨ k = 8) (hn : n < N 2 0) : (k, n) ∈ L := (h.2 k n).mpr (Or.inr (Or.inl ⟨hk, hn⟩))
theorem LOK.l {N : Nat → Nat → Nat} {L : List (Nat × Nat)} (h : LOK N L) (n : Nat) (hn : n < N 2 1) : (9, n) ∈ L := (h.2 9 n).mpr (Or.inr (Or.inr (Or.inl ⟨rfl, hn⟩)))
theorem LOK.u {N : Nat → Nat → Nat} {L : List (Nat × Nat)} (h : LOK N L) (k n : Nat) (hk : k = 10 ∨ k = 11) (hn : n < N 2 2) : (k, n) ∈ L := (h.2 k n).mpr (Or.inr (Or.inr (Or.inr (Or.inl ⟨hk, hn⟩))))
theorem LOK.t {N : Nat → Nat → Nat} {L : List (Nat × Nat)} (h : LOK N L) (k n : Nat) (hk : k = 12 ∨ k = 13) (hn : n < N 2 3) : (k, n) ∈ L := (h.2 k n).mpr (Or.inr (Or.inr (Or.inr (Or.inr ⟨hk, hn⟩))))
theorem LOK.n0 {N : Nat → Nat → Nat} {L : List (Nat × Nat)} (h : LOK N L) {k n : Nat} (hk : k < 5) (hm : (k, n) ∈ L) : n = 0 := by
  have := (h.2 k n).mp hm
  omega
theorem LOK.same {N N' : Nat → Nat → Nat} {L : List (Nat × Nat)} (h : LOK N L) (e : N' 2 = N 2) : LOK N' L := by
  unfold LOK
  rw [e]
  exact h

theorem xe_r4 (cA : Nat → ClassId) (α : Nat → Nat → Nat) (N : Nat → Nat → Nat) (R : Nat → Nat → Nat → Int32) (Fr : Nat → UInt32) (inc : Int64) (j : Nat) (v : Int32) (p : Nat × Nat) (h : p ≠ (9, j)) : xent cA α (N, up3 R 4 j 0 v, Fr, inc) p.1 p.2 = xent cA α (N, R, Fr, inc) p.1 p.2 := by
  obtain ⟨k, n⟩ := p
  match k, h with
  | 0, _ => rfl
  | 1, _ => rfl
  | 2, _ => rfl
  | 3, _ => rfl
  | 4, _ => rfl
  | 5, _ => rfl
  | 6, _ => rfl
  | 7, _ => rfl
  | 8, _ => rfl
  | 9, h =>
    have hn : ¬ n = j := fun q => h (by rw [q])
    exact congrArg (fun x : Int32 => (Sum.inr (4, [.int (nI n), .int x, .int (R 5 n 0), .int (R 6 n 0), .int (R 7 n 0), .int (R 8 n 0), .int (R 9 n 0), .float (Fr n), .int (R 10 n 0), va_rf (ownr α (R 11 n 0)), .int (R 12 n 0)]) : va_E)) (show up3 R 4 j 0 v 4 n 0 = R 4 n 0 from if_neg (fun q => hn q.2.1))
  | 10, _ => rfl
  | 11, _ => rfl
  | 12, _ => rfl
  | k + 13, _ => rfl

theorem xe_r5 (cA : Nat → ClassId) (α : Nat → Nat → Nat) (N : Nat → Nat → Nat) (R : Nat → Nat → Nat → Int32) (Fr : Nat → UInt32) (inc : Int64) (j : Nat) (v : Int32) (p : Nat × Nat) (h : p ≠ (9, j)) : xent cA α (N, up3 R 5 j 0 v, Fr, inc) p.1 p.2 = xent cA α (N, R, Fr, inc) p.1 p.2 := by
  obtain ⟨k, n⟩ := p
  match k, h with
  | 0, _ => rfl
  | 1, _ => rfl
  | 2, _ => rfl
  | 3, _ => rfl
  | 4, _ => rfl
  | 5, _ => rfl
  | 6, _ => rfl
  | 7, _ => rfl
  | 8, _ => rfl
  | 9, h =>
    have hn : ¬ n = j := fun q => h (by rw [q])
    exact congrArg (fun x : Int32 => (Sum.inr (4, [.int (nI n), .int (R 4 n 0), .int x, .int (R 6 n 0), .int (R 7 n 0), .int (R 8 n 0), .int (R 9 n 0), .float (Fr n), .int (R 10 n 0), va_rf (ownr α (R 11 n 0)), .int (R 12 n 0)]) : va_E)) (show up3 R 5 j 0 v 5 n 0 = R 5 n 0 from if_neg (fun q => hn q.2.1))
  | 10, _ => rfl
  | 11, _ => rfl
  | 12, _ => rfl
  | k + 13, _ => rfl

theorem xe_r6 (cA : Nat → ClassId) (α : Nat → Nat → Nat) (N : Nat → Nat → Nat) (R : Nat → Nat → Nat → Int32) (Fr : Nat → UInt32) (inc : Int64) (j : Nat) (v : Int32) (p : Nat × Nat) (h : p ≠ (9, j)) : xent cA α (N, up3 R 6 j 0 v, Fr, inc) p.1 p.2 = xent cA α (N, R, Fr, inc) p.1 p.2 := by
  obtain ⟨k, n⟩ := p
  match k, h with
  | 0, _ => rfl
  | 1, _ => rfl
  | 2, _ => rfl
  | 3, _ => rfl
  | 4, _ => rfl
  | 5, _ => rfl
  | 6, _ => rfl
  | 7, _ => rfl
  | 8, _ => rfl
  | 9, h =>
    have hn : ¬ n = j := fun q => h (by rw [q])
    exact congrArg (fun x : Int32 => (Sum.inr (4, [.int (nI n), .int (R 4 n 0), .int (R 5 n 0), .int x, .int (R 7 n 0), .int (R 8 n 0), .int (R 9 n 0), .float (Fr n), .int (R 10 n 0), va_rf (ownr α (R 11 n 0)), .int (R 12 n 0)]) : va_E)) (show up3 R 6 j 0 v 6 n 0 = R 6 n 0 from if_neg (fun q => hn q.2.1))
  | 10, _ => rfl
  | 11, _ => rfl
  | 12, _ => rfl
  | k + 13, _ => rfl

theorem xe_r7 (cA : Nat → ClassId) (α : Nat → Nat → Nat) (N : Nat → Nat → Nat) (R : Nat → Nat → Nat → Int32) (Fr : Nat → UInt32) (inc : Int64) (j : Nat) (v : Int32) (p : Nat × Nat) (h : p ≠ (9, j)) : xent cA α (N, up3 R 7 j 0 v, Fr, inc) p.1 p.2 = xent cA α (N, R, Fr, inc) p.1 p.2 := by
  obtain ⟨k, n⟩ := p
  match k, h with
  | 0, _ => rfl
  | 1, _ => rfl
  | 2, _ => rfl
  | 3, _ => rfl
  | 4, _ => rfl
  | 5, _ => rfl
  | 6, _ => rfl
  | 7, _ => rfl
  | 8, _ => rfl
  | 9, h =>
    have hn : ¬ n = j := fun q => h (by rw [q])
    exact congrArg (fun x : Int32 => (Sum.inr (4, [.int (nI n), .int (R 4 n 0), .int (R 5 n 0), .int (R 6 n 0), .int x, .int (R 8 n 0), .int (R 9 n 0), .float (Fr n), .int (R 10 n 0), va_rf (ownr α (R 11 n 0)), .int (R 12 n 0)]) : va_E)) (show up3 R 7 j 0 v 7 n 0 = R 7 n 0 from if_neg (fun q => hn q.2.1))
  | 10, _ => rfl
  | 11, _ => rfl
  | 12, _ => rfl
  | k + 13, _ => rfl

theorem xe_r8 (cA : Nat → ClassId) (α : Nat → Nat → Nat) (N : Nat → Nat → Nat) (R : Nat → Nat → Nat → Int32) (Fr : Nat → UInt32) (inc : Int64) (j : Nat) (v : Int32) (p : Nat × Nat) (h : p ≠ (9, j)) : xent cA α (N, up3 R 8 j 0 v, Fr, inc) p.1 p.2 = xent cA α (N, R, Fr, inc) p.1 p.2 := by
  obtain ⟨k, n⟩ := p
  match k, h with
  | 0, _ => rfl
  | 1, _ => rfl
  | 2, _ => rfl
  | 3, _ => rfl
  | 4, _ => rfl
  | 5, _ => rfl
  | 6, _ => rfl
  | 7, _ => rfl
  | 8, _ => rfl
  | 9, h =>
    have hn : ¬ n = j := fun q => h (by rw [q])
    exact congrArg (fun x : Int32 => (Sum.inr (4, [.int (nI n), .int (R 4 n 0), .int (R 5 n 0), .int (R 6 n 0), .int (R 7 n 0), .int x, .int (R 9 n 0), .float (Fr n), .int (R 10 n 0), va_rf (ownr α (R 11 n 0)), .int (R 12 n 0)]) : va_E)) (show up3 R 8 j 0 v 8 n 0 = R 8 n 0 from if_neg (fun q => hn q.2.1))
  | 10, _ => rfl
  | 11, _ => rfl
  | 12, _ => rfl
  | k + 13, _ => rfl

theorem xe_r9 (cA : Nat → ClassId) (α : Nat → Nat → Nat) (N : Nat → Nat → Nat) (R : Nat → Nat → Nat → Int32) (Fr : Nat → UInt32) (inc : Int64) (j : Nat) (v : Int32) (p : Nat × Nat) (h : p ≠ (9, j)) : xent cA α (N, up3 R 9 j 0 v, Fr, inc) p.1 p.2 = xent cA α (N, R, Fr, inc) p.1 p.2 := by
  obtain ⟨k, n⟩ := p
  match k, h with
  | 0, _ => rfl
  | 1, _ => rfl
  | 2, _ => rfl
  | 3, _ => rfl
  | 4, _ => rfl
  | 5, _ => rfl
  | 6, _ => rfl
  | 7, _ => rfl
  | 8, _ => rfl
  | 9, h =>
    have hn : ¬ n = j := fun q => h (by rw [q])
    exact congrArg (fun x : Int32 => (Sum.inr (4, [.int (nI n), .int (R 4 n 0), .int (R 5 n 0), .int (R 6 n 0), .int (R 7 n 0), .int (R 8 n 0), .int x, .float (Fr n), .int (R 10 n 0), va_rf (ownr α (R 11 n 0)), .int (R 12 n 0)]) : va_E)) (show up3 R 9 j 0 v 9 n 0 = R 9 n 0 from if_neg (fun q => hn q.2.1))
  | 10, _ => rfl
  | 11, _ => rfl
  | 12, _ => rfl
  | k + 13, _ => rfl

theorem xe_r10 (cA : Nat → ClassId) (α : Nat → Nat → Nat) (N : Nat → Nat → Nat) (R : Nat → Nat → Nat → Int32) (Fr : Nat → UInt32) (inc : Int64) (j : Nat) (v : Int32) (p : Nat × Nat) (h : p ≠ (9, j)) : xent cA α (N, up3 R 10 j 0 v, Fr, inc) p.1 p.2 = xent cA α (N, R, Fr, inc) p.1 p.2 := by
  obtain ⟨k, n⟩ := p
  match k, h with
  | 0, _ => rfl
  | 1, _ => rfl
  | 2, _ => rfl
  | 3, _ => rfl
  | 4, _ => rfl
  | 5, _ => rfl
  | 6, _ => rfl
  | 7, _ => rfl
  | 8, _ => rfl
  | 9, h =>
    have hn : ¬ n = j := fun q => h (by rw [q])
    exact congrArg (fun x : Int32 => (Sum.inr (4, [.int (nI n), .int (R 4 n 0), .int (R 5 n 0), .int (R 6 n 0), .int (R 7 n 0), .int (R 8 n 0), .int (R 9 n 0), .float (Fr n), .int x, va_rf (ownr α (R 11 n 0)), .int (R 12 n 0)]) : va_E)) (show up3 R 10 j 0 v 10 n 0 = R 10 n 0 from if_neg (fun q => hn q.2.1))
  | 10, _ => rfl
  | 11, _ => rfl
  | 12, _ => rfl
  | k + 13, _ => rfl

theorem xe_r11 (cA : Nat → ClassId) (α : Nat → Nat → Nat) (N : Nat → Nat → Nat) (R : Nat → Nat → Nat → Int32) (Fr : Nat → UInt32) (inc : Int64) (j : Nat) (v : Int32) (p : Nat × Nat) (h : p ≠ (9, j)) : xent cA α (N, up3 R 11 j 0 v, Fr, inc) p.1 p.2 = xent cA α (N, R, Fr, inc) p.1 p.2 := by
  obtain ⟨k, n⟩ := p
  match k, h with
  | 0, _ => rfl
  | 1, _ => rfl
  | 2, _ => rfl
  | 3, _ => rfl
  | 4, _ => rfl
  | 5, _ => rfl
  | 6, _ => rfl
  | 7, _ => rfl
  | 8, _ => rfl
  | 9, h =>
    have hn : ¬ n = j := fun q => h (by rw [q])
    exact congrArg (fun x : Int32 => (Sum.inr (4, [.int (nI n), .int (R 4 n 0), .int (R 5 n 0), .int (R 6 n 0), .int (R 7 n 0), .int (R 8 n 0), .int (R 9 n 0), .float (Fr n), .int (R 10 n 0), va_rf (ownr α x), .int (R 12 n 0)]) : va_E)) (show up3 R 11 j 0 v 11 n 0 = R 11 n 0 from if_neg (fun q => hn q.2.1))
  | 10, _ => rfl
  | 11, _ => rfl
  | 12, _ => rfl
  | k + 13, _ => rfl

theorem xe_r12 (cA : Nat → ClassId) (α : Nat → Nat → Nat) (N : Nat → Nat → Nat) (R : Nat → Nat → Nat → Int32) (Fr : Nat → UInt32) (inc : Int64) (j : Nat) (v : Int32) (p : Nat × Nat) (h : p ≠ (9, j)) : xent cA α (N, up3 R 12 j 0 v, Fr, inc) p.1 p.2 = xent cA α (N, R, Fr, inc) p.1 p.2 := by
  obtain ⟨k, n⟩ := p
  match k, h with
  | 0, _ => rfl
  | 1, _ => rfl
  | 2, _ => rfl
  | 3, _ => rfl
  | 4, _ => rfl
  | 5, _ => rfl
  | 6, _ => rfl
  | 7, _ => rfl
  | 8, _ => rfl
  | 9, h =>
    have hn : ¬ n = j := fun q => h (by rw [q])
    exact congrArg (fun x : Int32 => (Sum.inr (4, [.int (nI n), .int (R 4 n 0), .int (R 5 n 0), .int (R 6 n 0), .int (R 7 n 0), .int (R 8 n 0), .int (R 9 n 0), .float (Fr n), .int (R 10 n 0), va_rf (ownr α (R 11 n 0)), .int x]) : va_E)) (show up3 R 12 j 0 v 12 n 0 = R 12 n 0 from if_neg (fun q => hn q.2.1))
  | 10, _ => rfl
  | 11, _ => rfl
  | 12, _ => rfl
  | k + 13, _ => rfl

theorem xe_fr (cA : Nat → ClassId) (α : Nat → Nat → Nat) (N : Nat → Nat → Nat) (R : Nat → Nat → Nat → Int32) (Fr : Nat → UInt32) (inc : Int64) (j : Nat) (v : UInt32) (p : Nat × Nat) (h : p ≠ (9, j)) : xent cA α (N, R, vf_upd Fr j v, inc) p.1 p.2 = xent cA α (N, R, Fr, inc) p.1 p.2 := by
  obtain ⟨k, n⟩ := p
  match k, h with
  | 0, _ => rfl
  | 1, _ => rfl
  | 2, _ => rfl
  | 3, _ => rfl
  | 4, _ => rfl
  | 5, _ => rfl
  | 6, _ => rfl
  | 7, _ => rfl
  | 8, _ => rfl
  | 9, h =>
    have hn : ¬ n = j := fun q => h (by rw [q])
    simp [xent, up2, up3, vf_upd, hn]
  | 10, _ => rfl
  | 11, _ => rfl
  | 12, _ => rfl
  | k + 13, _ => rfl

theorem xe_r13 (cA : Nat → ClassId) (α : Nat → Nat → Nat) (N : Nat → Nat → Nat) (R : Nat → Nat → Nat → Int32) (Fr : Nat → UInt32) (inc : Int64) (j : Nat) (v : Int32) (p : Nat × Nat) (h : p ≠ (10, j)) : xent cA α (N, up3 R 13 j 0 v, Fr, inc) p.1 p.2 = xent cA α (N, R, Fr, inc) p.1 p.2 := by
  obtain ⟨k, n⟩ := p
  match k, h with
  | 0, _ => rfl
  | 1, _ => rfl
  | 2, _ => rfl
  | 3, _ => rfl
  | 4, _ => rfl
  | 5, _ => rfl
  | 6, _ => rfl
  | 7, _ => rfl
  | 8, _ => rfl
  | 9, _ => rfl
  | 10, h =>
    have hn : ¬ n = j := fun q => h (by rw [q])
    simp [xent, up2, up3, vf_upd, hn]
  | 11, _ => rfl
  | 12, _ => rfl
  | k + 13, _ => rfl

theorem xe_r14 (cA : Nat → ClassId) (α : Nat → Nat → Nat) (N : Nat → Nat → Nat) (R : Nat → Nat → Nat → Int32) (Fr : Nat → UInt32) (inc : Int64) (j s : Nat) (v : Int32) (p : Nat × Nat) (h : p ≠ (11, j)) : xent cA α (N, up3 R 14 j s v, Fr, inc) p.1 p.2 = xent cA α (N, R, Fr, inc) p.1 p.2 := by
  obtain ⟨k, n⟩ := p
  match k, h with
  | 0, _ => rfl
  | 1, _ => rfl
  | 2, _ => rfl
  | 3, _ => rfl
  | 4, _ => rfl
  | 5, _ => rfl
  | 6, _ => rfl
  | 7, _ => rfl
  | 8, _ => rfl
  | 9, _ => rfl
  | 10, _ => rfl
  | 11, h =>
    have hn : ¬ n = j := fun q => h (by rw [q])
    simp [xent, up2, up3, vf_upd, hn]
  | 12, _ => rfl
  | k + 13, _ => rfl

theorem xe_r1 (cA : Nat → ClassId) (α : Nat → Nat → Nat) (N : Nat → Nat → Nat) (R : Nat → Nat → Nat → Int32) (Fr : Nat → UInt32) (inc : Int64) (j s : Nat) (v : Int32) (p : Nat × Nat) (h : p ≠ (6, j)) : xent cA α (N, up3 R 1 j s v, Fr, inc) p.1 p.2 = xent cA α (N, R, Fr, inc) p.1 p.2 := by
  obtain ⟨k, n⟩ := p
  match k, h with
  | 0, _ => rfl
  | 1, _ => rfl
  | 2, _ => rfl
  | 3, _ => rfl
  | 4, _ => rfl
  | 5, _ => rfl
  | 6, h =>
    have hn : ¬ n = j := fun q => h (by rw [q])
    simp [xent, up2, up3, vf_upd, hn]
  | 7, _ => rfl
  | 8, _ => rfl
  | 9, _ => rfl
  | 10, _ => rfl
  | 11, _ => rfl
  | 12, _ => rfl
  | k + 13, _ => rfl

theorem xe_r3 (cA : Nat → ClassId) (α : Nat → Nat → Nat) (N : Nat → Nat → Nat) (R : Nat → Nat → Nat → Int32) (Fr : Nat → UInt32) (inc : Int64) (j s : Nat) (v : Int32) (p : Nat × Nat) (h : p ≠ (7, j)) : xent cA α (N, up3 R 3 j s v, Fr, inc) p.1 p.2 = xent cA α (N, R, Fr, inc) p.1 p.2 := by
  obtain ⟨k, n⟩ := p
  match k, h with
  | 0, _ => rfl
  | 1, _ => rfl
  | 2, _ => rfl
  | 3, _ => rfl
  | 4, _ => rfl
  | 5, _ => rfl
  | 6, _ => rfl
  | 7, h =>
    have hn : ¬ n = j := fun q => h (by rw [q])
    simp [xent, up2, up3, vf_upd, hn]
  | 8, _ => rfl
  | 9, _ => rfl
  | 10, _ => rfl
  | 11, _ => rfl
  | 12, _ => rfl
  | k + 13, _ => rfl

theorem xe_r15 (cA : Nat → ClassId) (α : Nat → Nat → Nat) (N : Nat → Nat → Nat) (R : Nat → Nat → Nat → Int32) (Fr : Nat → UInt32) (inc : Int64) (j : Nat) (v : Int32) (p : Nat × Nat) (h : p ≠ (12, j)) : xent cA α (N, up3 R 15 j 0 v, Fr, inc) p.1 p.2 = xent cA α (N, R, Fr, inc) p.1 p.2 := by
  obtain ⟨k, n⟩ := p
  match k, h with
  | 0, _ => rfl
  | 1, _ => rfl
  | 2, _ => rfl
  | 3, _ => rfl
  | 4, _ => rfl
  | 5, _ => rfl
  | 6, _ => rfl
  | 7, _ => rfl
  | 8, _ => rfl
  | 9, _ => rfl
  | 10, _ => rfl
  | 11, _ => rfl
  | 12, h =>
    have hn : ¬ n = j := fun q => h (by rw [q])
    simp [xent, up2, up3, vf_upd, hn]
  | k + 13, _ => rfl

theorem xe_r16 (cA : Nat → ClassId) (α : Nat → Nat → Nat) (N : Nat → Nat → Nat) (R : Nat → Nat → Nat → Int32) (Fr : Nat → UInt32) (inc : Int64) (j : Nat) (v : Int32) (p : Nat × Nat) (h : p ≠ (12, j)) : xent cA α (N, up3 R 16 j 0 v, Fr, inc) p.1 p.2 = xent cA α (N, R, Fr, inc) p.1 p.2 := by
  obtain ⟨k, n⟩ := p
  match k, h with
  | 0, _ => rfl
  | 1, _ => rfl
  | 2, _ => rfl
  | 3, _ => rfl
  | 4, _ => rfl
  | 5, _ => rfl
  | 6, _ => rfl
  | 7, _ => rfl
  | 8, _ => rfl
  | 9, _ => rfl
  | 10, _ => rfl
  | 11, _ => rfl
  | 12, h =>
    have hn : ¬ n = j := fun q => h (by rw [q])
    simp [xent, up2, up3, vf_upd, hn]
  | k + 13, _ => rfl

theorem xe_r17 (cA : Nat → ClassId) (α : Nat → Nat → Nat) (N : Nat → Nat → Nat) (R : Nat → Nat → Nat → Int32) (Fr : Nat → UInt32) (inc : Int64) (j : Nat) (v : Int32) (p : Nat × Nat) (h : p ≠ (12, j)) : xent cA α (N, up3 R 17 j 0 v, Fr, inc) p.1 p.2 = xent cA α (N, R, Fr, inc) p.1 p.2 := by
  obtain ⟨k, n⟩ := p
  match k, h with
  | 0, _ => rfl
  | 1, _ => rfl
  | 2, _ => rfl
  | 3, _ => rfl
  | 4, _ => rfl
  | 5, _ => rfl
  | 6, _ => rfl
  | 7, _ => rfl
  | 8, _ => rfl
  | 9, _ => rfl
  | 10, _ => rfl
  | 11, _ => rfl
  | 12, h =>
    have hn : ¬ n = j := fun q => h (by rw [q])
    simp [xent, up2, up3, vf_upd, hn]
  | k + 13, _ => rfl

theorem xe_n1 (cA : Nat → ClassId) (α : Nat → Nat → Nat) (N : Nat → Nat → Nat) (R : Nat → Nat → Nat → Int32) (Fr : Nat → UInt32) (inc : Int64) (j v : Nat) (p : Nat × Nat) (h : p ≠ (12, j)) : xent cA α (up2 N 1 j v, R, Fr, inc) p.1 p.2 = xent cA α (N, R, Fr, inc) p.1 p.2 := by
  obtain ⟨k, n⟩ := p
  match k, h with
  | 0, _ => rfl
  | 1, _ => rfl
  | 2, _ => rfl
  | 3, _ => rfl
  | 4, _ => rfl
  | 5, _ => rfl
  | 6, _ => rfl
  | 7, _ => rfl
  | 8, _ => rfl
  | 9, _ => rfl
  | 10, _ => rfl
  | 11, _ => rfl
  | 12, h =>
    have hn : ¬ n = j := fun q => h (by rw [q])
    simp [xent, up2, up3, vf_upd, hn]
  | k + 13, _ => rfl

theorem xe_n0 (cA : Nat → ClassId) (α : Nat → Nat → Nat) (N : Nat → Nat → Nat) (R : Nat → Nat → Nat → Int32) (Fr : Nat → UInt32) (inc : Int64) (c v : Nat) (p : Nat × Nat) (h : ¬ p.1 = 0) : xent cA α (up2 N 0 c v, R, Fr, inc) p.1 p.2 = xent cA α (N, R, Fr, inc) p.1 p.2 := by
  obtain ⟨k, n⟩ := p
  match k, h with
  | 0, h => exact absurd rfl h
  | 1, _ => rfl
  | 2, _ => rfl
  | 3, _ => rfl
  | 4, _ => rfl
  | 5, _ => rfl
  | 6, _ => rfl
  | 7, _ => rfl
  | 8, _ => rfl
  | 9, _ => rfl
  | 10, _ => rfl
  | 11, _ => rfl
  | 12, _ => rfl
  | k + 13, _ => rfl

theorem xe_r0 (cA : Nat → ClassId) (α : Nat → Nat → Nat) (N : Nat → Nat → Nat) (R : Nat → Nat → Nat → Int32) (Fr : Nat → UInt32) (inc : Int64) (c : Nat) (v : Int32) (p : Nat × Nat) (h : ¬ p.1 = 0) : xent cA α (N, up3 R 0 c 0 v, Fr, inc) p.1 p.2 = xent cA α (N, R, Fr, inc) p.1 p.2 := by
  obtain ⟨k, n⟩ := p
  match k, h with
  | 0, h => exact absurd rfl h
  | 1, _ => rfl
  | 2, _ => rfl
  | 3, _ => rfl
  | 4, _ => rfl
  | 5, _ => rfl
  | 6, _ => rfl
  | 7, _ => rfl
  | 8, _ => rfl
  | 9, _ => rfl
  | 10, _ => rfl
  | 11, _ => rfl
  | 12, _ => rfl
  | k + 13, _ => rfl

theorem xe_inc (cA : Nat → ClassId) (α : Nat → Nat → Nat) (N : Nat → Nat → Nat) (R : Nat → Nat → Nat → Int32) (Fr : Nat → UInt32) (inc : Int64) (v : Int64) (p : Nat × Nat) (h : ¬ p.1 = 0) : xent cA α (N, R, Fr, v) p.1 p.2 = xent cA α (N, R, Fr, inc) p.1 p.2 := by
  obtain ⟨k, n⟩ := p
  match k, h with
  | 0, h => exact absurd rfl h
  | 1, _ => rfl
  | 2, _ => rfl
  | 3, _ => rfl
  | 4, _ => rfl
  | 5, _ => rfl
  | 6, _ => rfl
  | 7, _ => rfl
  | 8, _ => rfl
  | 9, _ => rfl
  | 10, _ => rfl
  | 11, _ => rfl
  | 12, _ => rfl
  | k + 13, _ => rfl
