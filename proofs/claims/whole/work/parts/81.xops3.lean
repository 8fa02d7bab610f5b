def placeFor (N : Nat → Nat → Nat) (R : Nat → Nat → Nat → Int32) (t j : Nat) : Bool := decide (N 1 t < 5) && decide (R 7 j 0 ≤ R 17 t 0)
theorem up2_ne {N : Nat → Nat → Nat} {i j i' j' v : Nat} (h : ¬ (i' = i ∧ j' = j)) : up2 N i j v i' j' = N i' j' := if_neg h
theorem up2_self {N : Nat → Nat → Nat} {i j v : Nat} : up2 N i j v i j = v := if_pos ⟨rfl, rfl⟩
theorem up2_comm {N : Nat → Nat → Nat} {i j v i' j' v' : Nat} (h : ¬ i = i') : up2 (up2 N i j v) i' j' v' = up2 (up2 N i' j' v') i j v := by
  funext a b
  simp only [up2]
  by_cases h1 : a = i' ∧ b = j'
  · rw [if_pos h1, if_neg (fun q => h (q.1.symm.trans h1.1)), if_pos h1]
  · rw [if_neg h1]
    by_cases h2 : a = i ∧ b = j
    · rw [if_pos h2, if_pos h2]
    · rw [if_neg h2, if_neg h2, if_neg h1]
theorem LOK.k13 {N : Nat → Nat → Nat} {L : List (Nat × Nat)} (h : LOK N L) {p : Nat × Nat} (hp : p ∈ L) : p.1 ≤ 13 := by
  have := (h.2 p.1 p.2).mp hp
  omega
theorem xe_load13 (cA : Nat → ClassId) (α : Nat → Nat → Nat) (N : Nat → Nat → Nat) (R : Nat → Nat → Nat → Int32) (Fr : Nat → UInt32) (inc : Int64) (t i w : Nat) (v : Int32) (n : Nat) (hn : ¬ n = t) : xent cA α (up2 N 3 t w, up3 R 18 t i v, Fr, inc) 13 n = xent cA α (N, R, Fr, inc) 13 n := by
  have e : (fun x => if x < up2 N 3 t w 3 n then some (α 9 (ix (up3 R 18 t i v 18 n x))) else none) = fun x => if x < N 3 n then some (α 9 (ix (R 18 n x))) else none := by
    have e3 : up2 N 3 t w 3 n = N 3 n := up2_ne (fun q => hn q.2)
    have e18 : up3 R 18 t i v 18 n = R 18 n := by
      funext x
      exact up3_ne (fun q => hn q.2.1)
    rw [e3, e18]
  show (Sum.inl (cA 7, rfA 5 (fun x => if x < up2 N 3 t w 3 n then some (α 9 (ix (up3 R 18 t i v 18 n x))) else none)) : va_E) = _
  rw [e]
  rfl
theorem xe_load_0 (cA : Nat → ClassId) (α : Nat → Nat → Nat) (N : Nat → Nat → Nat) (R : Nat → Nat → Nat → Int32) (Fr : Nat → UInt32) (inc : Int64) (t i w : Nat) (v : Int32) (n : Nat) : xent cA α (up2 N 3 t w, up3 R 18 t i v, Fr, inc) 0 n = xent cA α (N, R, Fr, inc) 0 n := by simp [xent, up2, up3]
theorem xe_load_1 (cA : Nat → ClassId) (α : Nat → Nat → Nat) (N : Nat → Nat → Nat) (R : Nat → Nat → Nat → Int32) (Fr : Nat → UInt32) (inc : Int64) (t i w : Nat) (v : Int32) (n : Nat) : xent cA α (up2 N 3 t w, up3 R 18 t i v, Fr, inc) 1 n = xent cA α (N, R, Fr, inc) 1 n := by simp [xent, up2, up3]
theorem xe_load_2 (cA : Nat → ClassId) (α : Nat → Nat → Nat) (N : Nat → Nat → Nat) (R : Nat → Nat → Nat → Int32) (Fr : Nat → UInt32) (inc : Int64) (t i w : Nat) (v : Int32) (n : Nat) : xent cA α (up2 N 3 t w, up3 R 18 t i v, Fr, inc) 2 n = xent cA α (N, R, Fr, inc) 2 n := by simp [xent, up2, up3]
theorem xe_load_3 (cA : Nat → ClassId) (α : Nat → Nat → Nat) (N : Nat → Nat → Nat) (R : Nat → Nat → Nat → Int32) (Fr : Nat → UInt32) (inc : Int64) (t i w : Nat) (v : Int32) (n : Nat) : xent cA α (up2 N 3 t w, up3 R 18 t i v, Fr, inc) 3 n = xent cA α (N, R, Fr, inc) 3 n := by simp [xent, up2, up3]
theorem xe_load_4 (cA : Nat → ClassId) (α : Nat → Nat → Nat) (N : Nat → Nat → Nat) (R : Nat → Nat → Nat → Int32) (Fr : Nat → UInt32) (inc : Int64) (t i w : Nat) (v : Int32) (n : Nat) : xent cA α (up2 N 3 t w, up3 R 18 t i v, Fr, inc) 4 n = xent cA α (N, R, Fr, inc) 4 n := by simp [xent, up2, up3]
theorem xe_load_5 (cA : Nat → ClassId) (α : Nat → Nat → Nat) (N : Nat → Nat → Nat) (R : Nat → Nat → Nat → Int32) (Fr : Nat → UInt32) (inc : Int64) (t i w : Nat) (v : Int32) (n : Nat) : xent cA α (up2 N 3 t w, up3 R 18 t i v, Fr, inc) 5 n = xent cA α (N, R, Fr, inc) 5 n := by simp [xent, up2, up3]
theorem xe_load_6 (cA : Nat → ClassId) (α : Nat → Nat → Nat) (N : Nat → Nat → Nat) (R : Nat → Nat → Nat → Int32) (Fr : Nat → UInt32) (inc : Int64) (t i w : Nat) (v : Int32) (n : Nat) : xent cA α (up2 N 3 t w, up3 R 18 t i v, Fr, inc) 6 n = xent cA α (N, R, Fr, inc) 6 n := by simp [xent, up2, up3]
theorem xe_load_7 (cA : Nat → ClassId) (α : Nat → Nat → Nat) (N : Nat → Nat → Nat) (R : Nat → Nat → Nat → Int32) (Fr : Nat → UInt32) (inc : Int64) (t i w : Nat) (v : Int32) (n : Nat) : xent cA α (up2 N 3 t w, up3 R 18 t i v, Fr, inc) 7 n = xent cA α (N, R, Fr, inc) 7 n := by simp [xent, up2, up3]
theorem xe_load_8 (cA : Nat → ClassId) (α : Nat → Nat → Nat) (N : Nat → Nat → Nat) (R : Nat → Nat → Nat → Int32) (Fr : Nat → UInt32) (inc : Int64) (t i w : Nat) (v : Int32) (n : Nat) : xent cA α (up2 N 3 t w, up3 R 18 t i v, Fr, inc) 8 n = xent cA α (N, R, Fr, inc) 8 n := by simp [xent, up2, up3]
theorem xe_load_9 (cA : Nat → ClassId) (α : Nat → Nat → Nat) (N : Nat → Nat → Nat) (R : Nat → Nat → Nat → Int32) (Fr : Nat → UInt32) (inc : Int64) (t i w : Nat) (v : Int32) (n : Nat) : xent cA α (up2 N 3 t w, up3 R 18 t i v, Fr, inc) 9 n = xent cA α (N, R, Fr, inc) 9 n := by simp [xent, up2, up3]
theorem xe_load_10 (cA : Nat → ClassId) (α : Nat → Nat → Nat) (N : Nat → Nat → Nat) (R : Nat → Nat → Nat → Int32) (Fr : Nat → UInt32) (inc : Int64) (t i w : Nat) (v : Int32) (n : Nat) : xent cA α (up2 N 3 t w, up3 R 18 t i v, Fr, inc) 10 n = xent cA α (N, R, Fr, inc) 10 n := by simp [xent, up2, up3]
theorem xe_load_11 (cA : Nat → ClassId) (α : Nat → Nat → Nat) (N : Nat → Nat → Nat) (R : Nat → Nat → Nat → Int32) (Fr : Nat → UInt32) (inc : Int64) (t i w : Nat) (v : Int32) (n : Nat) : xent cA α (up2 N 3 t w, up3 R 18 t i v, Fr, inc) 11 n = xent cA α (N, R, Fr, inc) 11 n := by simp [xent, up2, up3]
theorem xe_load_12 (cA : Nat → ClassId) (α : Nat → Nat → Nat) (N : Nat → Nat → Nat) (R : Nat → Nat → Nat → Int32) (Fr : Nat → UInt32) (inc : Int64) (t i w : Nat) (v : Int32) (n : Nat) : xent cA α (up2 N 3 t w, up3 R 18 t i v, Fr, inc) 12 n = xent cA α (N, R, Fr, inc) 12 n := by simp [xent, up2, up3]
theorem xe_load12 (cA : Nat → ClassId) (α : Nat → Nat → Nat) (N : Nat → Nat → Nat) (R : Nat → Nat → Nat → Int32) (Fr : Nat → UInt32) (inc : Int64) (t i w : Nat) (v : Int32) (k n : Nat) (hk : k < 13) : xent cA α (up2 N 3 t w, up3 R 18 t i v, Fr, inc) k n = xent cA α (N, R, Fr, inc) k n := by
  have h : k = 0 ∨ k = 1 ∨ k = 2 ∨ k = 3 ∨ k = 4 ∨ k = 5 ∨ k = 6 ∨ k = 7 ∨ k = 8 ∨ k = 9 ∨ k = 10 ∨ k = 11 ∨ k = 12 := by omega
  rcases h with rfl | rfl | rfl | rfl | rfl | rfl | rfl | rfl | rfl | rfl | rfl | rfl | rfl
  · exact xe_load_0 cA α N R Fr inc t i w v n
  · exact xe_load_1 cA α N R Fr inc t i w v n
  · exact xe_load_2 cA α N R Fr inc t i w v n
  · exact xe_load_3 cA α N R Fr inc t i w v n
  · exact xe_load_4 cA α N R Fr inc t i w v n
  · exact xe_load_5 cA α N R Fr inc t i w v n
  · exact xe_load_6 cA α N R Fr inc t i w v n
  · exact xe_load_7 cA α N R Fr inc t i w v n
  · exact xe_load_8 cA α N R Fr inc t i w v n
  · exact xe_load_9 cA α N R Fr inc t i w v n
  · exact xe_load_10 cA α N R Fr inc t i w v n
  · exact xe_load_11 cA α N R Fr inc t i w v n
  · exact xe_load_12 cA α N R Fr inc t i w v n
theorem xe_load (cA : Nat → ClassId) (α : Nat → Nat → Nat) (N : Nat → Nat → Nat) (R : Nat → Nat → Nat → Int32) (Fr : Nat → UInt32) (inc : Int64) (t i w : Nat) (v : Int32) (p : Nat × Nat) (hk : p.1 ≤ 13) (h : p ≠ (13, t)) : xent cA α (up2 N 3 t w, up3 R 18 t i v, Fr, inc) p.1 p.2 = xent cA α (N, R, Fr, inc) p.1 p.2 := by
  obtain ⟨k, n⟩ := p
  by_cases h13 : k = 13
  · subst h13
    exact xe_load13 cA α N R Fr inc t i w v n (fun q => h (by rw [q]))
  · exact xe_load12 cA α N R Fr inc t i w v k n (by have : k ≤ 13 := hk; omega)
theorem xs_load (cA : Nat → ClassId) (α : Nat → Nat → Nat) (N : Nat → Nat → Nat) (R : Nat → Nat → Nat → Int32) (Fr : Nat → UInt32) (inc : Int64) (t n j : Nat) (h3 : N 3 t = n) (hj : j < 2 ^ 31) : xent cA α (up2 N 3 t (n + 1), up3 R 18 t n (nI j), Fr, inc) 13 t = .inl (cA 7, rfA 5 (va_up (fun x => if x < N 3 t then some (α 9 (ix (R 18 t x))) else none) n (some (α 9 j)))) := by
  have e : (fun x => if x < up2 N 3 t (n + 1) 3 t then some (α 9 (ix (up3 R 18 t n (nI j) 18 t x))) else none) = va_up (fun x => if x < N 3 t then some (α 9 (ix (R 18 t x))) else none) n (some (α 9 j)) := by
    funext x
    rw [up2_self]
    simp only [va_up, h3]
    by_cases hx : x = n
    · subst hx
      rw [if_pos (by omega), up3_self, ix_nI hj]
      simp
    · rw [up3_ne (fun q => hx q.2.2)]
      by_cases h4 : x < n
      · simp [h4, hx, show x < n + 1 by omega]
      · simp [h4, hx, show ¬ x < n + 1 by omega]
  exact congrArg (fun f => (Sum.inl (cA 7, rfA 5 f) : va_E)) e
section XB2
variable {p : Program} {l : Launch} {e : Env} {R : Room} {s : State} {m : MethodId} {args : Array Value} {below : List Frame} {meth : Method} {c : Code} {H : Heap} {locs : List Loc} {cells slots : Nat} {Q : State → Prop}
variable {cc : ByteArray} {pc : Nat} {ls : Array Slot} {rest st : List Value} {D : va_G} {cA : Nat → ClassId} {A : Nat → Prop} {ws : va_W} {y0 : MethodName} {nL : Nat} {ret : Option FieldType}
/-- a reference into a row -/
theorem k_aast {a n tI qk ci v : Nat} {r : vw_C} {f : Nat → Option Nat} {vs : List Value} {i : Int32} {cl : ClassId} (F : Fx p s m args meth c y0 cc nL ret) (hW : Cw D cA s A ws H locs) (q0 : Nat) (he : ws[q0]? = some (a, .inl (cl, rfA n f))) (ht : (tyL cA)[tI]? = some (cl, .object r.1)) (hv : ws[qk]? = some (v, .inr (ci, vs))) (hc : vwCl[ci]? = some r) (hi : vp_in i n) (ws' : va_W) (he' : ws.set q0 (a, .inl (cl, rfA n (va_up f i.toNatClampNeg (some v)))) = ws') (hdg : decode cc pc = .ok (.aastore, 1))
    (kk : ∀ (H1 : Heap) (locs1 : List Loc), Cw D cA s A ws' H1 locs1 → W p l e R s m args below meth c H1 locs1 cells slots Q (F0 m (pc + 1) ls rest)) : W p l e R s m args below meth c H locs cells slots Q (F0 m pc ls (.ref v :: .int i :: .ref a :: rest)) := by
  refine va_astq (D := D) F.1 F.2.1 hW.1 hW.2.1 hW.2.2.1 hW.2.2.2.1 q0 tI qk ci he ht hv hc hi hdg (fun H1 locs1 hP hD hS => ?_)
  subst he'
  exact kk H1 locs1 (hW.mk hP hD hS)
end XB2
set_option maxHeartbeats 4000000 in
set_option maxRecDepth 100000 in
theorem met_X3_hasPlaceFor (l : Launch) (D : va_G) (cA : Nat → ClassId) (wr : va_W) (α : Nat → Nat → Nat) (L : List (Nat × Nat)) (N : Nat → Nat → Nat) (R : Nat → Nat → Nat → Int32) (Fr : Nat → UInt32) (inc : Int64) (t j : Nat) (hLk : LOK N L) (ht : t < N 2 3) (hj : j < N 2 1) (hn5 : N 1 t ≤ 5) : MetI l yX3_hasPlaceFor (.code yX3_hasPlaceFor cX3_hasPlaceFor 2 (some .boolean) :: LW) ({ frames := 0, cells := 0, slots := 0, locals := 0 }) D cA (xWd wr cA α L (N, R, Fr, inc)) [.ref (α 12 t), .ref (α 9 j)] (fun r (_ : Unit) => r = b2i (placeFor N R t j)) (fun _ => xWd wr cA α L (N, R, Fr, inc)) 0 0 := by
  refine k_bodyI (plainFor_of_name (by decide)) (Nat.le_of_ble_eq_true rfl) (fun p e s m args below meth c ls F hW hl => ?_)
  obtain ⟨hx, hb, hr, hml, hown, hts, hlocks, hname⟩ := id F
  have hl : lv_has ls 2 [(0, .ref (α 12 t)), (1, .ref (α 9 j))] := hl
  refine lv_aload_n hx hb dX3_hasPlaceFor_0 rfl (lv_at hl 0 rfl) ?_
  obtain ⟨q_410, hq_410⟩ := xw_at (wr := wr) (cA := cA) (α := α) (L := L) (S := (N, R, Fr, inc)) 12 t (hLk.t 12 t (by decide) ht)
  refine k_get (v := .int (nI (N 1 t))) F hW inX3 rfl q_410 hq_410 rfl 3 (by decide) FL_X3_17 rfl rfl dX3_hasPlaceFor_1 ?_
  refine lv_aload_n hx hb dX3_hasPlaceFor_4 rfl (lv_at hl 0 rfl) ?_
  obtain ⟨q_411, hq_411⟩ := xw_at (wr := wr) (cA := cA) (α := α) (L := L) (S := (N, R, Fr, inc)) 12 t (hLk.t 12 t (by decide) ht)
  refine k_get (v := .ref (α 13 t)) F hW inX3 rfl q_411 hq_411 rfl 2 (by decide) FL_X3_11 rfl rfl dX3_hasPlaceFor_5 ?_
  obtain ⟨q_412, hq_412⟩ := xw_at (wr := wr) (cA := cA) (α := α) (L := L) (S := (N, R, Fr, inc)) 13 t (hLk.t 13 t (by decide) ht)
  refine k_alen (v := 5) F hW q_412 7 hq_412 rfl rfl dX3_hasPlaceFor_8 ?_
  refine lv_icmp_ge (tgt := 27) hx hb dX3_hasPlaceFor_9 (by decide) (fun h_1 => ?_) (fun h_1 => ?_)
  · have h_1 : ¬ N 1 t < 5 := Nat.not_lt.mpr ((nI_leI (a := 5) (by decide) (by omega)).mp h_1)
    refine lv_iconst (v := 0) hx hb dX3_hasPlaceFor_27 (by decide) ?_
    exact k_zret () F (by rfl) (hW) (by simp [placeFor, b2i, h_1]) dX3_hasPlaceFor_28 (Nat.le_of_ble_eq_true rfl) (Nat.le_of_ble_eq_true rfl)
  · have h_1 : N 1 t < 5 := Nat.lt_of_not_le fun q => h_1 (nI_le (a := 5) q (by omega))
    refine lv_aload_n hx hb dX3_hasPlaceFor_12 rfl (lv_at hl 1 rfl) ?_
    obtain ⟨q_413, hq_413⟩ := xw_at (wr := wr) (cA := cA) (α := α) (L := L) (S := (N, R, Fr, inc)) 9 j (hLk.l j hj)
    refine k_get (v := .int (R 7 j 0)) F hW inX2 rfl q_413 hq_413 rfl 4 (by decide) FL_X3_31 rfl rfl dX3_hasPlaceFor_13 ?_
    refine lv_aload_n hx hb dX3_hasPlaceFor_16 rfl (lv_at hl 0 rfl) ?_
    obtain ⟨q_414, hq_414⟩ := xw_at (wr := wr) (cA := cA) (α := α) (L := L) (S := (N, R, Fr, inc)) 12 t (hLk.t 12 t (by decide) ht)
    refine k_get (v := .int (R 17 t 0)) F hW inX3 rfl q_414 hq_414 rfl 4 (by decide) FL_X3_24 rfl rfl dX3_hasPlaceFor_17 ?_
    refine lv_icmp_gt (tgt := 27) hx hb dX3_hasPlaceFor_20 (by decide) (fun h_2 => ?_) (fun h_2 => ?_)
    · have h_2 : ¬ R 7 j 0 ≤ R 17 t 0 := Int32.not_le.mpr h_2
      refine lv_iconst (v := 0) hx hb dX3_hasPlaceFor_27 (by decide) ?_
      exact k_zret () F (by rfl) (hW) (by simp [placeFor, b2i, h_1, h_2]) dX3_hasPlaceFor_28 (Nat.le_of_ble_eq_true rfl) (Nat.le_of_ble_eq_true rfl)
    · have h_2 : R 7 j 0 ≤ R 17 t 0 := Int32.not_lt.mp h_2
      refine lv_iconst (v := 1) hx hb dX3_hasPlaceFor_23 (by decide) ?_
      refine lv_goto (tgt := 28) hx hb dX3_hasPlaceFor_24 (by decide) ?_
      exact k_zret () F (by rfl) (hW) (by simp [placeFor, b2i, h_1, h_2]) dX3_hasPlaceFor_28 (Nat.le_of_ble_eq_true rfl) (Nat.le_of_ble_eq_true rfl)

set_option maxHeartbeats 4000000 in
set_option maxRecDepth 100000 in
theorem met_X3_take (l : Launch) (D : va_G) (cA : Nat → ClassId) (wr : va_W) (α : Nat → Nat → Nat) (L : List (Nat × Nat)) (N : Nat → Nat → Nat) (R : Nat → Nat → Nat → Int32) (Fr : Nat → UInt32) (inc : Int64) (t j : Nat) (hLk : LOK N L) (ht : t < N 2 3) (hj : j < N 2 1) (h3 : N 3 t = N 1 t) (hlt : N 1 t < 5) (hj31 : j < 2 ^ 31) : MetV l yX3_take (.code yX3_take cX3_take 2 none :: LW) ({ frames := 0, cells := 0, slots := 0, locals := 0 }) D cA (xWd wr cA α L (N, R, Fr, inc)) [.ref (α 12 t), .ref (α 9 j)] (fun (_ : Unit) => True) (fun _ => xWd wr cA α L (up2 (up2 N 3 t (N 1 t + 1)) 1 t (N 1 t + 1), up3 (up3 (up3 R 18 t (N 1 t) (nI j)) 17 t 0 (R 17 t 0 - R 7 j 0)) 9 j 0 108, Fr, inc)) 0 0 := by
  refine k_bodyV (plainFor_of_name (by decide)) (Nat.le_of_ble_eq_true rfl) (fun p e s m args below meth c ls F hW hl => ?_)
  obtain ⟨hx, hb, hr, hml, hown, hts, hlocks, hname⟩ := id F
  have hl : lv_has ls 2 [(0, .ref (α 12 t)), (1, .ref (α 9 j))] := hl
  refine lv_aload_n hx hb dX3_take_0 rfl (lv_at hl 0 rfl) ?_
  obtain ⟨q_415, hq_415⟩ := xw_at (wr := wr) (cA := cA) (α := α) (L := L) (S := (N, R, Fr, inc)) 12 t (hLk.t 12 t (by decide) ht)
  refine k_get (v := .ref (α 13 t)) F hW inX3 rfl q_415 hq_415 rfl 2 (by decide) FL_X3_11 rfl rfl dX3_take_1 ?_
  refine lv_aload_n hx hb dX3_take_4 rfl (lv_at hl 0 rfl) ?_
  obtain ⟨q_416, hq_416⟩ := xw_at (wr := wr) (cA := cA) (α := α) (L := L) (S := (N, R, Fr, inc)) 12 t (hLk.t 12 t (by decide) ht)
  refine k_get (v := .int (nI (N 1 t))) F hW inX3 rfl q_416 hq_416 rfl 3 (by decide) FL_X3_17 rfl rfl dX3_take_5 ?_
  refine lv_aload_n hx hb dX3_take_8 rfl (lv_at hl 1 rfl) ?_
  obtain ⟨q_418, hq_418⟩ := xw_at (wr := wr) (cA := cA) (α := α) (L := L) (S := (N, R, Fr, inc)) 9 j (hLk.l j hj)
  obtain ⟨q_417, hq_417, gq_417⟩ := xput (wr := wr) (L := L) (S := (N, R, Fr, inc)) (S' := (up2 N 3 t (N 1 t + 1), up3 R 18 t (N 1 t) (nI j), Fr, inc)) 13 t (hLk.t 13 t (by decide) ht) hLk.1 (fun p hp hne => xe_load cA α N R Fr inc t (N 1 t) (N 1 t + 1) (nI j) p (hLk.k13 hp) hne) (xs_load cA α N R Fr inc t (N 1 t) j h3 hj31)
  refine k_aast F hW q_417 hq_417 (tI := 7) (r := (RX2, TX2, 11)) rfl hq_418 rfl (vp_in_nI hlt (by decide)) (xWd wr cA α L (up2 N 3 t (N 1 t + 1), up3 R 18 t (N 1 t) (nI j), Fr, inc)) (by rw [nI_clamp (by omega)]; exact gq_417) dX3_take_9 (fun H locs hW => ?_)
  have hLk1 : LOK (up2 N 3 t (N 1 t + 1)) L := hLk.same rfl
  refine lv_aload_n hx hb dX3_take_10 rfl (lv_at hl 0 rfl) ?_
  refine lv_dup hx hb dX3_take_11 rfl ?_
  obtain ⟨q_419, hq_419⟩ := xw_at (wr := wr) (cA := cA) (α := α) (L := L) (S := (up2 N 3 t (N 1 t + 1), up3 R 18 t (N 1 t) (nI j), Fr, inc)) 12 t (hLk1.t 12 t (by decide) ht)
  refine k_get (v := .int (nI (N 1 t))) F hW inX3 rfl q_419 hq_419 rfl 3 (by decide) FL_X3_17 rfl rfl dX3_take_12 ?_
  refine lv_iconst (v := 1) hx hb dX3_take_15 (by decide) ?_
  refine lv_iadd hx hb dX3_take_16 ?_
  refine lv_topi (fun x_420 ex_420 => ?_)
  obtain rfl : x_420 = nI (N 1 t + 1) := ex_420.trans (nI_1 _)
  obtain ⟨q_421, hq_421, gq_421⟩ := xput (wr := wr) (L := L) (S := (up2 N 3 t (N 1 t + 1), up3 R 18 t (N 1 t) (nI j), Fr, inc)) (S' := (up2 (up2 N 3 t (N 1 t + 1)) 1 t (N 1 t + 1), up3 R 18 t (N 1 t) (nI j), Fr, inc)) 12 t (hLk1.t 12 t (by decide) ht) hLk1.1 (fun p hp hne => xe_n1 cA α (up2 N 3 t (N 1 t + 1)) (up3 R 18 t (N 1 t) (nI j)) Fr inc t (N 1 t + 1) p hne) (xs_n1 cA α (up2 N 3 t (N 1 t + 1)) (up3 R 18 t (N 1 t) (nI j)) Fr inc t (N 1 t + 1))
  refine k_put F hW inX3 tyX3_ok nmX3 rfl q_421 hq_421 rfl 3 (by decide) FL_X3_17 rfl rfl rfl rfl rfl (Nat.le_of_ble_eq_true rfl) (xWd wr cA α L (up2 (up2 N 3 t (N 1 t + 1)) 1 t (N 1 t + 1), up3 R 18 t (N 1 t) (nI j), Fr, inc)) gq_421 dX3_take_17 (fun H locs hW => ?_)
  refine lv_aload_n hx hb dX3_take_20 rfl (lv_at hl 0 rfl) ?_
  refine lv_dup hx hb dX3_take_21 rfl ?_
  obtain ⟨q_422, hq_422⟩ := xw_at (wr := wr) (cA := cA) (α := α) (L := L) (S := (up2 (up2 N 3 t (N 1 t + 1)) 1 t (N 1 t + 1), up3 R 18 t (N 1 t) (nI j), Fr, inc)) 12 t (hLk1.t 12 t (by decide) ht)
  refine k_get (v := .int (R 17 t 0)) F hW inX3 rfl q_422 hq_422 rfl 4 (by decide) FL_X3_24 rfl rfl dX3_take_22 ?_
  refine lv_aload_n hx hb dX3_take_25 rfl (lv_at hl 1 rfl) ?_
  obtain ⟨q_423, hq_423⟩ := xw_at (wr := wr) (cA := cA) (α := α) (L := L) (S := (up2 (up2 N 3 t (N 1 t + 1)) 1 t (N 1 t + 1), up3 R 18 t (N 1 t) (nI j), Fr, inc)) 9 j (hLk1.l j hj)
  refine k_get (v := .int (R 7 j 0)) F hW inX2 rfl q_423 hq_423 rfl 4 (by decide) FL_X3_31 rfl rfl dX3_take_26 ?_
  refine lv_isub hx hb dX3_take_29 ?_
  obtain ⟨q_424, hq_424, gq_424⟩ := xput (wr := wr) (L := L) (S := (up2 (up2 N 3 t (N 1 t + 1)) 1 t (N 1 t + 1), up3 R 18 t (N 1 t) (nI j), Fr, inc)) (S' := (up2 (up2 N 3 t (N 1 t + 1)) 1 t (N 1 t + 1), up3 (up3 R 18 t (N 1 t) (nI j)) 17 t 0 (R 17 t 0 - R 7 j 0), Fr, inc)) 12 t (hLk1.t 12 t (by decide) ht) hLk1.1 (fun p hp hne => xe_r17 cA α (up2 (up2 N 3 t (N 1 t + 1)) 1 t (N 1 t + 1)) (up3 R 18 t (N 1 t) (nI j)) Fr inc t (R 17 t 0 - R 7 j 0) p hne) (xs_r17 cA α (up2 (up2 N 3 t (N 1 t + 1)) 1 t (N 1 t + 1)) (up3 R 18 t (N 1 t) (nI j)) Fr inc t (R 17 t 0 - R 7 j 0))
  refine k_put F hW inX3 tyX3_ok nmX3 rfl q_424 hq_424 rfl 4 (by decide) FL_X3_24 rfl rfl rfl rfl rfl (Nat.le_of_ble_eq_true rfl) (xWd wr cA α L (up2 (up2 N 3 t (N 1 t + 1)) 1 t (N 1 t + 1), up3 (up3 R 18 t (N 1 t) (nI j)) 17 t 0 (R 17 t 0 - R 7 j 0), Fr, inc)) gq_424 dX3_take_30 (fun H locs hW => ?_)
  refine lv_aload_n hx hb dX3_take_33 rfl (lv_at hl 1 rfl) ?_
  refine lv_bipush (v := 108) hx hb dX3_take_34 (by decide) ?_
  obtain ⟨q_425, hq_425, gq_425⟩ := xput (wr := wr) (L := L) (S := (up2 (up2 N 3 t (N 1 t + 1)) 1 t (N 1 t + 1), up3 (up3 R 18 t (N 1 t) (nI j)) 17 t 0 (R 17 t 0 - R 7 j 0), Fr, inc)) (S' := (up2 (up2 N 3 t (N 1 t + 1)) 1 t (N 1 t + 1), up3 (up3 (up3 R 18 t (N 1 t) (nI j)) 17 t 0 (R 17 t 0 - R 7 j 0)) 9 j 0 108, Fr, inc)) 9 j (hLk1.l j hj) hLk1.1 (fun p hp hne => xe_r9 cA α (up2 (up2 N 3 t (N 1 t + 1)) 1 t (N 1 t + 1)) (up3 (up3 R 18 t (N 1 t) (nI j)) 17 t 0 (R 17 t 0 - R 7 j 0)) Fr inc j 108 p hne) (xs_r9 cA α (up2 (up2 N 3 t (N 1 t + 1)) 1 t (N 1 t + 1)) (up3 (up3 R 18 t (N 1 t) (nI j)) 17 t 0 (R 17 t 0 - R 7 j 0)) Fr inc j 108)
  refine k_put F hW inX2 tyX2_ok nmX2 rfl q_425 hq_425 rfl 6 (by decide) FL_X3_34 rfl rfl rfl rfl rfl (Nat.le_of_ble_eq_true rfl) (xWd wr cA α L (up2 (up2 N 3 t (N 1 t + 1)) 1 t (N 1 t + 1), up3 (up3 (up3 R 18 t (N 1 t) (nI j)) 17 t 0 (R 17 t 0 - R 7 j 0)) 9 j 0 108, Fr, inc)) gq_425 dX3_take_36 (fun H locs hW => ?_)
  exact k_vret () F (hW) (trivial) dX3_take_39 (Nat.le_of_ble_eq_true rfl) (Nat.le_of_ble_eq_true rfl)

set_option maxHeartbeats 4000000 in
set_option maxRecDepth 100000 in
theorem met_X4_load (l : Launch) (D : va_G) (cA : Nat → ClassId) (wr : va_W) (α : Nat → Nat → Nat) (L : List (Nat × Nat)) (N : Nat → Nat → Nat) (R : Nat → Nat → Nat → Int32) (Fr : Nat → UInt32) (inc : Int64) (p0 p1 : Int32) (z0 : Nat) (hl0 : l.stackTraces = false) (hLk : LOK N L) (hC : IC N) : MetXI z0 l yX4_load (.code yX4_load cX4_load 5 (some .int) :: LW) ({ frames := 7, cells := 3, slots := 18, locals := 111 }) D cA (xWd wr cA α L (N, R, Fr, inc)) [.ref (α 0 0), .int p0, .int p1] (fun r (_ : Unit) => (op_load (N, R, Fr, inc) p0 p1).1 = 0 ∧ r = (op_load (N, R, Fr, inc) p0 p1).2.1) (fun _ => xWd wr cA α L (op_load (N, R, Fr, inc) p0 p1).2.2) (fun E => ¬ (op_load (N, R, Fr, inc) p0 p1).1 = 0 ∧ E = exOf [nE, "java/lang/IndexOutOfBoundsException", "java/lang/IllegalStateException", "java/lang/UnsupportedOperationException"] (op_load (N, R, Fr, inc) p0 p1).1) 3 18 := by
  refine k_bodyX hl0 (by decide) (Nat.le_of_ble_eq_true rfl) (fun p e s m args below meth c ls F G hW hl => ?_)
  obtain ⟨hx, hb, hr, hml, hown, hts, hlocks, hname⟩ := id F
  have hl : lv_has ls 5 [(0, .ref (α 0 0)), (1, .int p0), (2, .int p1)] := hl
  refine lv_aload_n hx hb dX4_load_0 rfl (lv_at hl 0 rfl) ?_
  refine lv_iload_n hx hb dX4_load_1 rfl (lv_at hl 1 rfl) ?_
  obtain ⟨q_428, hq_428⟩ := xw_at (wr := wr) (cA := cA) (α := α) (L := L) (S := (N, R, Fr, inc)) 0 0 (hLk.o 0 (by decide))
  refine k_cXVr (as := [.int p0]) (rest := []) (b := (α 0 0)) (ci := 6) (q0 := q_428) F G hW (met_X4_lotNumbered l D cA wr α L N R Fr inc p0 z0 hl0 hLk hC) rfl ML_X4_145 IM_X4_lotNumbered SE_X4_lotNumbered IN_X4 CO_X4_lotNumbered hdV_X4_lotNumbered rfl rfl ⟨(Nat.le_of_ble_eq_true rfl), (Nat.le_of_ble_eq_true rfl)⟩ rfl rfl (hq_428) rfl rfl dX4_load_2 hl.1 (Nat.le_of_ble_eq_true rfl) ⟨(Nat.le_of_ble_eq_true rfl), (Nat.le_of_ble_eq_true rfl)⟩ (fun E h => by
      obtain ⟨rfl, hix⟩ := h
      have hop : op_load (N, R, Fr, inc) p0 p1 = (1, 0, (N, R, Fr, inc)) := by simp [op_load, hix]
      exact ⟨by rw [hop]; exact Nat.succ_ne_zero _, by rw [hop]; rfl⟩) ⟨(Nat.le_of_ble_eq_true rfl), (Nat.le_of_ble_eq_true rfl)⟩ (fun r_427 u H locs hw hW => ?_)
  obtain ⟨hix_426, rfl⟩ := hw
  refine lv_astore_n (lv' := [(3, .ref (α 9 (ix p0))), (0, .ref (α 0 0)), (1, .int p0), (2, .int p1)]) hx hb dX4_load_5 rfl hl (by decide) rfl (fun ls hl => ?_)
  refine lv_aload_n hx hb dX4_load_6 rfl (lv_at hl 1 rfl) ?_
  refine lv_iload_n hx hb dX4_load_7 rfl (lv_at hl 3 rfl) ?_
  obtain ⟨q_431, hq_431⟩ := xw_at (wr := wr) (cA := cA) (α := α) (L := L) (S := (N, R, Fr, inc)) 0 0 (hLk.o 0 (by decide))
  refine k_cXVr (as := [.int p1]) (rest := []) (b := (α 0 0)) (ci := 6) (q0 := q_431) F G hW (met_X4_truckNumbered l D cA wr α L N R Fr inc p1 z0 hl0 hLk hC) rfl ML_X4_250 IM_X4_truckNumbered SE_X4_truckNumbered IN_X4 CO_X4_truckNumbered hdV_X4_truckNumbered rfl rfl ⟨(Nat.le_of_ble_eq_true rfl), (Nat.le_of_ble_eq_true rfl)⟩ rfl rfl (hq_431) rfl rfl dX4_load_8 hl.1 (Nat.le_of_ble_eq_true rfl) ⟨(Nat.le_of_ble_eq_true rfl), (Nat.le_of_ble_eq_true rfl)⟩ (fun E h => by
      obtain ⟨rfl, hix⟩ := h
      have hop : op_load (N, R, Fr, inc) p0 p1 = (2, 0, (N, R, Fr, inc)) := by simp [op_load, hix_426, hix]
      exact ⟨by rw [hop]; exact Nat.succ_ne_zero _, by rw [hop]; rfl⟩) ⟨(Nat.le_of_ble_eq_true rfl), (Nat.le_of_ble_eq_true rfl)⟩ (fun r_430 u H locs hw hW => ?_)
  obtain ⟨hix_429, rfl⟩ := hw
  refine lv_astore (lv' := [(4, .ref (α 12 (ix p1))), (3, .ref (α 9 (ix p0))), (0, .ref (α 0 0)), (1, .int p0), (2, .int p1)]) hx hb dX4_load_11 hl (by decide) rfl (fun ls hl => ?_)
  refine lv_aload_n hx hb dX4_load_13 rfl (lv_at hl 1 rfl) ?_
  obtain ⟨q_432, hq_432⟩ := xw_at (wr := wr) (cA := cA) (α := α) (L := L) (S := (N, R, Fr, inc)) 9 (ix p0) (hLk.l (ix p0) (hC.lt (by decide) (ix_lt hix_426 (by have := hC; unfold IC at this; omega)).1))
  refine k_get (v := .int (R 9 (ix p0) 0)) F hW inX2 rfl q_432 hq_432 rfl 6 (by decide) FL_X4_152 rfl rfl dX4_load_14 ?_
  refine lv_bipush (v := 115) hx hb dX4_load_17 (by decide) ?_
  refine lv_icmp_ne (tgt := 43) hx hb dX4_load_19 (by decide) (fun h_s => ?_) (fun h_s => ?_)
  · have hop : op_load (N, R, Fr, inc) p0 p1 = (3, 0, (N, R, Fr, inc)) := by simp [op_load, hix_426, hix_429, h_s]
    exact k_throwSW F G hW rfl (by decide) CL_X4_79 IN_E_IllegalStateException (List.mem_of_getElem? (i := 20) rfl) hat_IllegalState good_IllegalState hl.1 (Nat.le_of_ble_eq_true rfl) dX4_load_43 dX4_load_46 dX4_load_47 dX4_load_50 dX4_load_53 (⟨by rw [hop]; exact Nat.succ_ne_zero _, by rw [hop]; rfl⟩) ⟨(Nat.le_of_ble_eq_true rfl), (Nat.le_of_ble_eq_true rfl), (Nat.le_of_ble_eq_true rfl), (Nat.le_of_ble_eq_true rfl)⟩ ⟨(Nat.le_of_ble_eq_true rfl), (Nat.le_of_ble_eq_true rfl)⟩
  · refine lv_aload hx hb dX4_load_22 (lv_at hl 0 rfl) ?_
    obtain ⟨q_433, hq_433⟩ := xw_at (wr := wr) (cA := cA) (α := α) (L := L) (S := (N, R, Fr, inc)) 12 (ix p1) (hLk.t 12 (ix p1) (by decide) (hC.lt (by decide) (ix_lt hix_429 (by have := hC; unfold IC at this; omega)).1))
    refine k_get (v := .int (R 15 (ix p1) 0)) F hW inX3 rfl q_433 hq_433 rfl 0 (by decide) FL_X4_182 rfl rfl dX4_load_24 ?_
    refine lv_aload_n hx hb dX4_load_27 rfl (lv_at hl 2 rfl) ?_
    obtain ⟨q_434, hq_434⟩ := xw_at (wr := wr) (cA := cA) (α := α) (L := L) (S := (N, R, Fr, inc)) 0 0 (hLk.o 0 (by decide))
    refine k_get (v := .int (nI (N 0 5))) F hW inX4 rfl q_434 hq_434 rfl 8 (by decide) FL_X4_46 rfl rfl dX4_load_28 ?_
    refine lv_icmp_le (tgt := 43) hx hb dX4_load_31 (by decide) (fun h_h => ?_) (fun h_h => ?_)
    · have hop : op_load (N, R, Fr, inc) p0 p1 = (3, 0, (N, R, Fr, inc)) := by simp [op_load, hix_426, hix_429, h_s, h_h]
      exact k_throwSW F G hW rfl (by decide) CL_X4_79 IN_E_IllegalStateException (List.mem_of_getElem? (i := 20) rfl) hat_IllegalState good_IllegalState hl.1 (Nat.le_of_ble_eq_true rfl) dX4_load_43 dX4_load_46 dX4_load_47 dX4_load_50 dX4_load_53 (⟨by rw [hop]; exact Nat.succ_ne_zero _, by rw [hop]; rfl⟩) ⟨(Nat.le_of_ble_eq_true rfl), (Nat.le_of_ble_eq_true rfl), (Nat.le_of_ble_eq_true rfl), (Nat.le_of_ble_eq_true rfl)⟩ ⟨(Nat.le_of_ble_eq_true rfl), (Nat.le_of_ble_eq_true rfl)⟩
    · refine lv_aload hx hb dX4_load_34 (lv_at hl 0 rfl) ?_
      refine lv_aload_n hx hb dX4_load_36 rfl (lv_at hl 1 rfl) ?_
      obtain ⟨q_435, hq_435⟩ := xw_at (wr := wr) (cA := cA) (α := α) (L := L) (S := (N, R, Fr, inc)) 12 (ix p1) (hLk.t 12 (ix p1) (by decide) (hC.lt (by decide) (ix_lt hix_429 (by have := hC; unfold IC at this; omega)).1))
      refine k_callVi (as := [.ref (α 9 (ix p0))]) (rest := []) (b := (α 12 (ix p1))) (ci := 5) (q0 := q_435) F hW (met_X3_hasPlaceFor l D cA wr α L N R Fr inc (ix p1) (ix p0) hLk (hC.lt (by decide) (ix_lt hix_429 (by have := hC; unfold IC at this; omega)).1) (hC.lt (by decide) (ix_lt hix_426 (by have := hC; unfold IC at this; omega)).1) (hC.2.2.2.2.2.2.1 _)) rfl ML_X4_254 IM_X3_hasPlaceFor SE_X3_hasPlaceFor IN_X3 CO_X3_hasPlaceFor hdV_X3_hasPlaceFor rfl rfl ⟨(Nat.le_of_ble_eq_true rfl), (Nat.le_of_ble_eq_true rfl)⟩ rfl rfl (hq_435) rfl rfl hl.1 (Nat.le_of_ble_eq_true rfl) dX4_load_37 ⟨(Nat.le_of_ble_eq_true rfl), (Nat.le_of_ble_eq_true rfl)⟩ (fun r_436 u H locs hw hW => ?_)
      subst hw
      have hn5 := hC.2.2.2.2.2.2.1 (ix p1)
      by_cases h_p1 : N 1 (ix p1) < 5
      · by_cases h_p2 : R 7 (ix p0) 0 ≤ R 17 (ix p1) 0
        · have h_n5 : ¬ N 1 (ix p1) = 5 := by omega
          have h_q2 : ¬ R 17 (ix p1) 0 < R 7 (ix p0) 0 := Int32.not_lt.mpr h_p2
          rw [show placeFor N R (ix p1) (ix p0) = true from by simp [placeFor, h_p1, h_p2]]
          refine lv_if_ne (tgt := 54) hx hb dX4_load_40 (by decide) (fun _ => ?_) (fun h => absurd h (by decide))
          refine lv_aload hx hb dX4_load_54 (lv_at hl 0 rfl) ?_
          obtain ⟨q_437, hq_437⟩ := xw_at (wr := wr) (cA := cA) (α := α) (L := L) (S := (N, R, Fr, inc)) 12 (ix p1) (hLk.t 12 (ix p1) (by decide) (hC.lt (by decide) (ix_lt hix_429 (by have := hC; unfold IC at this; omega)).1))
          refine k_get (v := .int (R 16 (ix p1) 0)) F hW inX3 rfl q_437 hq_437 rfl 1 (by decide) FL_X4_260 rfl rfl dX4_load_56 ?_
          refine lv_if_eq (tgt := 80) hx hb dX4_load_59 (by decide) (fun h_c1 => ?_) (fun h_c1 => ?_)
          · refine lv_aload hx hb dX4_load_80 (lv_at hl 0 rfl) ?_
            refine lv_aload_n hx hb dX4_load_82 rfl (lv_at hl 1 rfl) ?_
            obtain ⟨q_438, hq_438⟩ := xw_at (wr := wr) (cA := cA) (α := α) (L := L) (S := (N, R, Fr, inc)) 12 (ix p1) (hLk.t 12 (ix p1) (by decide) (hC.lt (by decide) (ix_lt hix_429 (by have := hC; unfold IC at this; omega)).1))
            refine k_callVv (as := [.ref (α 9 (ix p0))]) (rest := []) (b := (α 12 (ix p1))) (ci := 5) (q0 := q_438) F hW (met_X3_take l D cA wr α L N R Fr inc (ix p1) (ix p0) hLk (hC.lt (by decide) (ix_lt hix_429 (by have := hC; unfold IC at this; omega)).1) (hC.lt (by decide) (ix_lt hix_426 (by have := hC; unfold IC at this; omega)).1) (hC.2.2.2.2.2.2.2 _) h_p1 (by have := (ix_lt hix_426 (by have := hC; unfold IC at this; omega)).1; have := hC; unfold IC at this; omega)) rfl ML_X4_269 IM_X3_take SE_X3_take IN_X3 CO_X3_take hdV_X3_take rfl rfl ⟨(Nat.le_of_ble_eq_true rfl), (Nat.le_of_ble_eq_true rfl)⟩ rfl rfl (hq_438) rfl rfl hl.1 (Nat.le_of_ble_eq_true rfl) dX4_load_83 ⟨(Nat.le_of_ble_eq_true rfl), (Nat.le_of_ble_eq_true rfl)⟩ (fun u H locs hw hW => ?_)
            have hLk1 : LOK (up2 (up2 N 3 (ix p1) (N 1 (ix p1) + 1)) 1 (ix p1) (N 1 (ix p1) + 1)) L := hLk.same rfl
            refine lv_aload hx hb dX4_load_86 (lv_at hl 0 rfl) ?_
            obtain ⟨q_440, hq_440⟩ := xw_at (wr := wr) (cA := cA) (α := α) (L := L) (S := (up2 (up2 N 3 (ix p1) (N 1 (ix p1) + 1)) 1 (ix p1) (N 1 (ix p1) + 1), up3 (up3 (up3 R 18 (ix p1) (N 1 (ix p1)) (nI (ix p0))) 17 (ix p1) 0 (R 17 (ix p1) 0 - R 7 (ix p0) 0)) 9 (ix p0) 0 108, Fr, inc)) 12 (ix p1) (hLk1.t 12 (ix p1) (by decide) (hC.lt (by decide) (ix_lt hix_429 (by have := hC; unfold IC at this; omega)).1))
            refine k_get (v := .int ((up3 (up3 (up3 R 18 (ix p1) (N 1 (ix p1)) (nI (ix p0))) 17 (ix p1) 0 (R 17 (ix p1) 0 - R 7 (ix p0) 0)) 9 (ix p0) 0 108) 17 (ix p1) 0)) F hW inX3 rfl q_440 hq_440 rfl 4 (by decide) FL_X4_273 rfl rfl dX4_load_88 ?_
            refine lv_topi (fun x_441 ex_441 => ?_)
            obtain rfl : x_441 = R 17 (ix p1) 0 - R 7 (ix p0) 0 := ex_441.trans ((up3_ne (by simp)).trans up3_self)
            have hNN : up2 (up2 N 3 (ix p1) (N 1 (ix p1) + 1)) 1 (ix p1) (N 1 (ix p1) + 1) = up2 (up2 N 1 (ix p1) (N 1 (ix p1) + 1)) 3 (ix p1) (N 1 (ix p1) + 1) := up2_comm (by decide)
            have hRR : up3 (up3 (up3 R 18 (ix p1) (N 1 (ix p1)) (nI (ix p0))) 17 (ix p1) 0 (R 17 (ix p1) 0 - R 7 (ix p0) 0)) 9 (ix p0) 0 108 = up3 (up3 (up3 R 9 (ix p0) 0 108) 18 (ix p1) (N 1 (ix p1)) p0) 17 (ix p1) 0 (R 17 (ix p1) 0 - R 7 (ix p0) 0) := by rw [← (ix_lt hix_426 (by have := hC; unfold IC at this; omega)).2, up3_row (k := 17) (k' := 9) (by decide), up3_row (k := 18) (k' := 9) (by decide)]
            have hop : op_load (N, R, Fr, inc) p0 p1 = (0, R 17 (ix p1) 0 - R 7 (ix p0) 0, (up2 (up2 N 1 (ix p1) (N 1 (ix p1) + 1)) 3 (ix p1) (N 1 (ix p1) + 1), up3 (up3 (up3 R 9 (ix p0) 0 108) 18 (ix p1) (N 1 (ix p1)) p0) 17 (ix p1) 0 (R 17 (ix p1) 0 - R 7 (ix p0) 0), Fr, inc)) := by simp [op_load, hix_426, hix_429, h_s, h_h, h_n5, h_q2, h_c1]
            refine vx_ret ?_
            exact k_iret () F (hW.eq (by rw [hop]; rw [hNN, hRR])) (⟨by rw [hop], by rw [hop]⟩) dX4_load_91 (Nat.le_of_ble_eq_true rfl) (Nat.le_of_ble_eq_true rfl)
          · refine lv_aload_n hx hb dX4_load_62 rfl (lv_at hl 1 rfl) ?_
            obtain ⟨q_442, hq_442⟩ := xw_at (wr := wr) (cA := cA) (α := α) (L := L) (S := (N, R, Fr, inc)) 9 (ix p0) (hLk.l (ix p0) (hC.lt (by decide) (ix_lt hix_426 (by have := hC; unfold IC at this; omega)).1))
            refine k_get (v := .int (R 8 (ix p0) 0)) F hW inX2 rfl q_442 hq_442 rfl 5 (by decide) FL_X4_264 rfl rfl dX4_load_63 ?_
            refine lv_if_ne (tgt := 80) hx hb dX4_load_66 (by decide) (fun h_c2 => ?_) (fun h_c2 => ?_)
            · refine lv_aload hx hb dX4_load_80 (lv_at hl 0 rfl) ?_
              refine lv_aload_n hx hb dX4_load_82 rfl (lv_at hl 1 rfl) ?_
              obtain ⟨q_443, hq_443⟩ := xw_at (wr := wr) (cA := cA) (α := α) (L := L) (S := (N, R, Fr, inc)) 12 (ix p1) (hLk.t 12 (ix p1) (by decide) (hC.lt (by decide) (ix_lt hix_429 (by have := hC; unfold IC at this; omega)).1))
              refine k_callVv (as := [.ref (α 9 (ix p0))]) (rest := []) (b := (α 12 (ix p1))) (ci := 5) (q0 := q_443) F hW (met_X3_take l D cA wr α L N R Fr inc (ix p1) (ix p0) hLk (hC.lt (by decide) (ix_lt hix_429 (by have := hC; unfold IC at this; omega)).1) (hC.lt (by decide) (ix_lt hix_426 (by have := hC; unfold IC at this; omega)).1) (hC.2.2.2.2.2.2.2 _) h_p1 (by have := (ix_lt hix_426 (by have := hC; unfold IC at this; omega)).1; have := hC; unfold IC at this; omega)) rfl ML_X4_269 IM_X3_take SE_X3_take IN_X3 CO_X3_take hdV_X3_take rfl rfl ⟨(Nat.le_of_ble_eq_true rfl), (Nat.le_of_ble_eq_true rfl)⟩ rfl rfl (hq_443) rfl rfl hl.1 (Nat.le_of_ble_eq_true rfl) dX4_load_83 ⟨(Nat.le_of_ble_eq_true rfl), (Nat.le_of_ble_eq_true rfl)⟩ (fun u H locs hw hW => ?_)
              have hLk1 : LOK (up2 (up2 N 3 (ix p1) (N 1 (ix p1) + 1)) 1 (ix p1) (N 1 (ix p1) + 1)) L := hLk.same rfl
              refine lv_aload hx hb dX4_load_86 (lv_at hl 0 rfl) ?_
              obtain ⟨q_445, hq_445⟩ := xw_at (wr := wr) (cA := cA) (α := α) (L := L) (S := (up2 (up2 N 3 (ix p1) (N 1 (ix p1) + 1)) 1 (ix p1) (N 1 (ix p1) + 1), up3 (up3 (up3 R 18 (ix p1) (N 1 (ix p1)) (nI (ix p0))) 17 (ix p1) 0 (R 17 (ix p1) 0 - R 7 (ix p0) 0)) 9 (ix p0) 0 108, Fr, inc)) 12 (ix p1) (hLk1.t 12 (ix p1) (by decide) (hC.lt (by decide) (ix_lt hix_429 (by have := hC; unfold IC at this; omega)).1))
              refine k_get (v := .int ((up3 (up3 (up3 R 18 (ix p1) (N 1 (ix p1)) (nI (ix p0))) 17 (ix p1) 0 (R 17 (ix p1) 0 - R 7 (ix p0) 0)) 9 (ix p0) 0 108) 17 (ix p1) 0)) F hW inX3 rfl q_445 hq_445 rfl 4 (by decide) FL_X4_273 rfl rfl dX4_load_88 ?_
              refine lv_topi (fun x_446 ex_446 => ?_)
              obtain rfl : x_446 = R 17 (ix p1) 0 - R 7 (ix p0) 0 := ex_446.trans ((up3_ne (by simp)).trans up3_self)
              have hNN : up2 (up2 N 3 (ix p1) (N 1 (ix p1) + 1)) 1 (ix p1) (N 1 (ix p1) + 1) = up2 (up2 N 1 (ix p1) (N 1 (ix p1) + 1)) 3 (ix p1) (N 1 (ix p1) + 1) := up2_comm (by decide)
              have hRR : up3 (up3 (up3 R 18 (ix p1) (N 1 (ix p1)) (nI (ix p0))) 17 (ix p1) 0 (R 17 (ix p1) 0 - R 7 (ix p0) 0)) 9 (ix p0) 0 108 = up3 (up3 (up3 R 9 (ix p0) 0 108) 18 (ix p1) (N 1 (ix p1)) p0) 17 (ix p1) 0 (R 17 (ix p1) 0 - R 7 (ix p0) 0) := by rw [← (ix_lt hix_426 (by have := hC; unfold IC at this; omega)).2, up3_row (k := 17) (k' := 9) (by decide), up3_row (k := 18) (k' := 9) (by decide)]
              have hop : op_load (N, R, Fr, inc) p0 p1 = (0, R 17 (ix p1) 0 - R 7 (ix p0) 0, (up2 (up2 N 1 (ix p1) (N 1 (ix p1) + 1)) 3 (ix p1) (N 1 (ix p1) + 1), up3 (up3 (up3 R 9 (ix p0) 0 108) 18 (ix p1) (N 1 (ix p1)) p0) 17 (ix p1) 0 (R 17 (ix p1) 0 - R 7 (ix p0) 0), Fr, inc)) := by simp [op_load, hix_426, hix_429, h_s, h_h, h_n5, h_q2, h_c1, h_c2]
              refine vx_ret ?_
              exact k_iret () F (hW.eq (by rw [hop]; rw [hNN, hRR])) (⟨by rw [hop], by rw [hop]⟩) dX4_load_91 (Nat.le_of_ble_eq_true rfl) (Nat.le_of_ble_eq_true rfl)
            · have hop : op_load (N, R, Fr, inc) p0 p1 = (4, 0, (N, R, Fr, inc)) := by simp [op_load, hix_426, hix_429, h_s, h_h, h_n5, h_q2, h_c1, h_c2]
              exact k_throwSW F G hW rfl (by decide) CL_X4_106 IN_E_UnsupportedOperationException (List.mem_of_getElem? (i := 21) rfl) hat_UnsupportedOperation good_UnsupportedOperation hl.1 (Nat.le_of_ble_eq_true rfl) dX4_load_69 dX4_load_72 dX4_load_73 dX4_load_76 dX4_load_79 (⟨by rw [hop]; exact Nat.succ_ne_zero _, by rw [hop]; rfl⟩) ⟨(Nat.le_of_ble_eq_true rfl), (Nat.le_of_ble_eq_true rfl), (Nat.le_of_ble_eq_true rfl), (Nat.le_of_ble_eq_true rfl)⟩ ⟨(Nat.le_of_ble_eq_true rfl), (Nat.le_of_ble_eq_true rfl)⟩
        · have h_q2 : R 17 (ix p1) 0 < R 7 (ix p0) 0 := Int32.not_le.mp h_p2
          rw [show placeFor N R (ix p1) (ix p0) = false from by simp [placeFor, h_p2]]
          refine lv_if_ne (tgt := 54) hx hb dX4_load_40 (by decide) (fun h => absurd (by decide) h) (fun _ => ?_)
          have hop : op_load (N, R, Fr, inc) p0 p1 = (3, 0, (N, R, Fr, inc)) := by simp [op_load, hix_426, hix_429, h_s, h_h, h_q2]
          exact k_throwSW F G hW rfl (by decide) CL_X4_79 IN_E_IllegalStateException (List.mem_of_getElem? (i := 20) rfl) hat_IllegalState good_IllegalState hl.1 (Nat.le_of_ble_eq_true rfl) dX4_load_43 dX4_load_46 dX4_load_47 dX4_load_50 dX4_load_53 (⟨by rw [hop]; exact Nat.succ_ne_zero _, by rw [hop]; rfl⟩) ⟨(Nat.le_of_ble_eq_true rfl), (Nat.le_of_ble_eq_true rfl), (Nat.le_of_ble_eq_true rfl), (Nat.le_of_ble_eq_true rfl)⟩ ⟨(Nat.le_of_ble_eq_true rfl), (Nat.le_of_ble_eq_true rfl)⟩
      · have h_n5 : N 1 (ix p1) = 5 := by omega
        rw [show placeFor N R (ix p1) (ix p0) = false from by simp [placeFor, h_p1]]
        refine lv_if_ne (tgt := 54) hx hb dX4_load_40 (by decide) (fun h => absurd (by decide) h) (fun _ => ?_)
        have hop : op_load (N, R, Fr, inc) p0 p1 = (3, 0, (N, R, Fr, inc)) := by simp [op_load, hix_426, hix_429, h_s, h_h, h_n5]
        exact k_throwSW F G hW rfl (by decide) CL_X4_79 IN_E_IllegalStateException (List.mem_of_getElem? (i := 20) rfl) hat_IllegalState good_IllegalState hl.1 (Nat.le_of_ble_eq_true rfl) dX4_load_43 dX4_load_46 dX4_load_47 dX4_load_50 dX4_load_53 (⟨by rw [hop]; exact Nat.succ_ne_zero _, by rw [hop]; rfl⟩) ⟨(Nat.le_of_ble_eq_true rfl), (Nat.le_of_ble_eq_true rfl), (Nat.le_of_ble_eq_true rfl), (Nat.le_of_ble_eq_true rfl)⟩ ⟨(Nat.le_of_ble_eq_true rfl), (Nat.le_of_ble_eq_true rfl)⟩

set_option maxHeartbeats 4000000 in
set_option maxRecDepth 100000 in
theorem met_X4_lotOn (l : Launch) (D : va_G) (cA : Nat → ClassId) (wr : va_W) (α : Nat → Nat → Nat) (L : List (Nat × Nat)) (N : Nat → Nat → Nat) (R : Nat → Nat → Nat → Int32) (Fr : Nat → UInt32) (inc : Int64) (p0 p1 : Int32) (z0 : Nat) (hl0 : l.stackTraces = false) (hLk : LOK N L) (hC : IC N) (hT : truckOK N R) : MetXI z0 l yX4_lotOn (.code yX4_lotOn cX4_lotOn 4 (some .int) :: LW) ({ frames := 7, cells := 2, slots := 12, locals := 111 }) D cA (xWd wr cA α L (N, R, Fr, inc)) [.ref (α 0 0), .int p0, .int p1] (fun r (_ : Unit) => (op_lotOn (N, R, Fr, inc) p0 p1).1 = 0 ∧ r = (op_lotOn (N, R, Fr, inc) p0 p1).2.1) (fun _ => xWd wr cA α L (op_lotOn (N, R, Fr, inc) p0 p1).2.2) (fun E => ¬ (op_lotOn (N, R, Fr, inc) p0 p1).1 = 0 ∧ E = exOf ["java/lang/IndexOutOfBoundsException", nE] (op_lotOn (N, R, Fr, inc) p0 p1).1) 2 12 := by
  refine k_bodyX hl0 (by decide) (Nat.le_of_ble_eq_true rfl) (fun p e s m args below meth c ls F G hW hl => ?_)
  obtain ⟨hx, hb, hr, hml, hown, hts, hlocks, hname⟩ := id F
  have hl : lv_has ls 4 [(0, .ref (α 0 0)), (1, .int p0), (2, .int p1)] := hl
  refine lv_aload_n hx hb dX4_lotOn_0 rfl (lv_at hl 0 rfl) ?_
  refine lv_iload_n hx hb dX4_lotOn_1 rfl (lv_at hl 1 rfl) ?_
  obtain ⟨q_449, hq_449⟩ := xw_at (wr := wr) (cA := cA) (α := α) (L := L) (S := (N, R, Fr, inc)) 0 0 (hLk.o 0 (by decide))
  refine k_cXVr (as := [.int p0]) (rest := []) (b := (α 0 0)) (ci := 6) (q0 := q_449) F G hW (met_X4_truckNumbered l D cA wr α L N R Fr inc p0 z0 hl0 hLk hC) rfl ML_X4_250 IM_X4_truckNumbered SE_X4_truckNumbered IN_X4 CO_X4_truckNumbered hdV_X4_truckNumbered rfl rfl ⟨(Nat.le_of_ble_eq_true rfl), (Nat.le_of_ble_eq_true rfl)⟩ rfl rfl (hq_449) rfl rfl dX4_lotOn_2 hl.1 (Nat.le_of_ble_eq_true rfl) ⟨(Nat.le_of_ble_eq_true rfl), (Nat.le_of_ble_eq_true rfl)⟩ (fun E h => by
      obtain ⟨rfl, hix⟩ := h
      have hop : op_lotOn (N, R, Fr, inc) p0 p1 = (1, 0, (N, R, Fr, inc)) := by simp [op_lotOn, hix]
      exact ⟨by rw [hop]; exact Nat.succ_ne_zero _, by rw [hop]; rfl⟩) ⟨(Nat.le_of_ble_eq_true rfl), (Nat.le_of_ble_eq_true rfl)⟩ (fun r_448 u H locs hw hW => ?_)
  obtain ⟨hix_447, rfl⟩ := hw
  obtain ⟨q_450, hq_450⟩ := xw_at (wr := wr) (cA := cA) (α := α) (L := L) (S := (N, R, Fr, inc)) 12 (ix p0) (hLk.t 12 (ix p0) (by decide) (hC.lt (by decide) (ix_lt hix_447 (by have := hC; unfold IC at this; omega)).1))
  refine k_get (v := .ref (α 13 (ix p0))) F hW inX3 rfl q_450 hq_450 rfl 2 (by decide) FL_X4_276 rfl rfl dX4_lotOn_5 ?_
  refine lv_astore_n (lv' := [(3, .ref (α 13 (ix p0))), (0, .ref (α 0 0)), (1, .int p0), (2, .int p1)]) hx hb dX4_lotOn_8 rfl hl (by decide) rfl (fun ls hl => ?_)
  refine lv_iload_n hx hb dX4_lotOn_9 rfl (lv_at hl 3 rfl) ?_
  refine lv_if_lt (tgt := 25) hx hb dX4_lotOn_10 (by decide) (fun h_a => ?_) (fun h_a => ?_)
  · have hd : isIx (N 1 (ix p0)) p1 = false := isIx_neg h_a
    have hop : op_lotOn (N, R, Fr, inc) p0 p1 = (2, 0, (N, R, Fr, inc)) := by simp [op_lotOn, hix_447, hd]
    exact k_throwNW F G hW rfl CL_X4_132 IN_E_NoSuchElementException (List.mem_of_getElem? (i := 22) rfl) hl.1 (Nat.le_of_ble_eq_true rfl) dX4_lotOn_25 dX4_lotOn_28 dX4_lotOn_29 dX4_lotOn_32 dX4_lotOn_35 (⟨by rw [hop]; exact Nat.succ_ne_zero _, by rw [hop]; rfl⟩) ⟨(Nat.le_of_ble_eq_true rfl), (Nat.le_of_ble_eq_true rfl), (Nat.le_of_ble_eq_true rfl), (Nat.le_of_ble_eq_true rfl)⟩ ⟨(Nat.le_of_ble_eq_true rfl), (Nat.le_of_ble_eq_true rfl)⟩
  · have h_a : 0 ≤ p1 := Int32.not_lt.mp h_a
    have hn5 := hC.2.2.2.2.2.2.1 (ix p0)
    refine lv_iload_n hx hb dX4_lotOn_13 rfl (lv_at hl 3 rfl) ?_
    refine lv_aload_n hx hb dX4_lotOn_14 rfl (lv_at hl 0 rfl) ?_
    obtain ⟨q_451, hq_451⟩ := xw_at (wr := wr) (cA := cA) (α := α) (L := L) (S := (N, R, Fr, inc)) 13 (ix p0) (hLk.t 13 (ix p0) (by decide) (hC.lt (by decide) (ix_lt hix_447 (by have := hC; unfold IC at this; omega)).1))
    refine k_alen (v := 5) F hW q_451 7 hq_451 rfl rfl dX4_lotOn_15 ?_
    refine lv_icmp_ge (tgt := 25) hx hb dX4_lotOn_16 (by decide) (fun h_b => ?_) (fun h_b => ?_)
    · have hd : isIx (N 1 (ix p0)) p1 = false := isIx_big (k := 5) h_b (by omega) (by decide)
      have hop : op_lotOn (N, R, Fr, inc) p0 p1 = (2, 0, (N, R, Fr, inc)) := by simp [op_lotOn, hix_447, hd]
      exact k_throwNW F G hW rfl CL_X4_132 IN_E_NoSuchElementException (List.mem_of_getElem? (i := 22) rfl) hl.1 (Nat.le_of_ble_eq_true rfl) dX4_lotOn_25 dX4_lotOn_28 dX4_lotOn_29 dX4_lotOn_32 dX4_lotOn_35 (⟨by rw [hop]; exact Nat.succ_ne_zero _, by rw [hop]; rfl⟩) ⟨(Nat.le_of_ble_eq_true rfl), (Nat.le_of_ble_eq_true rfl), (Nat.le_of_ble_eq_true rfl), (Nat.le_of_ble_eq_true rfl)⟩ ⟨(Nat.le_of_ble_eq_true rfl), (Nat.le_of_ble_eq_true rfl)⟩
    · have hin : vp_in p1 5 := vp_in_nn (n := 5) h_a h_b
      refine lv_aload_n hx hb dX4_lotOn_19 rfl (lv_at hl 0 rfl) ?_
      refine lv_iload_n hx hb dX4_lotOn_20 rfl (lv_at hl 3 rfl) ?_
      rcases ixc2 (N 1 (ix p0)) p1 h_a (by omega) with hd | ⟨hd, hlt⟩
      · obtain ⟨q_452, hq_452⟩ := xw_at (wr := wr) (cA := cA) (α := α) (L := L) (S := (N, R, Fr, inc)) 13 (ix p0) (hLk.t 13 (ix p0) (by decide) (hC.lt (by decide) (ix_lt hix_447 (by have := hC; unfold IC at this; omega)).1))
        refine k_aaldN F hW q_452 hq_452 (tI := 7) rfl (hin) (if_neg (by rw [hC.2.2.2.2.2.2.2 (ix p0)]; exact fun q => ixc3 hd h_a q (by omega))) dX4_lotOn_21 ?_
        refine lv_ifnonnullN hx hb dX4_lotOn_22 ?_
        have hop : op_lotOn (N, R, Fr, inc) p0 p1 = (2, 0, (N, R, Fr, inc)) := by simp [op_lotOn, hix_447, hd]
        exact k_throwNW F G hW rfl CL_X4_132 IN_E_NoSuchElementException (List.mem_of_getElem? (i := 22) rfl) hl.1 (Nat.le_of_ble_eq_true rfl) dX4_lotOn_25 dX4_lotOn_28 dX4_lotOn_29 dX4_lotOn_32 dX4_lotOn_35 (⟨by rw [hop]; exact Nat.succ_ne_zero _, by rw [hop]; rfl⟩) ⟨(Nat.le_of_ble_eq_true rfl), (Nat.le_of_ble_eq_true rfl), (Nat.le_of_ble_eq_true rfl), (Nat.le_of_ble_eq_true rfl)⟩ ⟨(Nat.le_of_ble_eq_true rfl), (Nat.le_of_ble_eq_true rfl)⟩
      · obtain ⟨q_453, hq_453⟩ := xw_at (wr := wr) (cA := cA) (α := α) (L := L) (S := (N, R, Fr, inc)) 13 (ix p0) (hLk.t 13 (ix p0) (by decide) (hC.lt (by decide) (ix_lt hix_447 (by have := hC; unfold IC at this; omega)).1))
        refine k_aaldS (x := (α 9 (ix (R 18 (ix p0) (ix p1))))) F hW q_453 hq_453 (tI := 7) rfl (hin) (if_pos (by rw [hC.2.2.2.2.2.2.2 (ix p0)]; exact hlt)) dX4_lotOn_21 ?_
        have hix9 := (hT _ (ix_lt hix_447 (by have := hC; unfold IC at this; omega)).1 _ hlt).1
        refine lv_ifnonnull (tgt := 36) hx hb dX4_lotOn_22 (by decide) ?_
        refine lv_aload_n hx hb dX4_lotOn_36 rfl (lv_at hl 0 rfl) ?_
        refine lv_iload_n hx hb dX4_lotOn_37 rfl (lv_at hl 3 rfl) ?_
        obtain ⟨q_454, hq_454⟩ := xw_at (wr := wr) (cA := cA) (α := α) (L := L) (S := (N, R, Fr, inc)) 13 (ix p0) (hLk.t 13 (ix p0) (by decide) (hC.lt (by decide) (ix_lt hix_447 (by have := hC; unfold IC at this; omega)).1))
        refine k_aaldS (x := (α 9 (ix (R 18 (ix p0) (ix p1))))) F hW q_454 hq_454 (tI := 7) rfl (hin) (if_pos (by rw [hC.2.2.2.2.2.2.2 (ix p0)]; exact hlt)) dX4_lotOn_38 ?_
        obtain ⟨q_455, hq_455⟩ := xw_at (wr := wr) (cA := cA) (α := α) (L := L) (S := (N, R, Fr, inc)) 9 (ix (R 18 (ix p0) (ix p1))) (hLk.l (ix (R 18 (ix p0) (ix p1))) (hC.lt (by decide) (ix_lt hix9 (by have := hC; unfold IC at this; omega)).1))
        refine k_get (v := .int (nI (ix (R 18 (ix p0) (ix p1))))) F hW inX2 rfl q_455 hq_455 rfl 0 (by decide) FL_X4_281 rfl rfl dX4_lotOn_39 ?_
        refine lv_topi (fun x_456 ex_456 => ?_)
        obtain rfl : x_456 = R 18 (ix p0) (ix p1) := ex_456.trans ((ix_lt hix9 (by have := hC; unfold IC at this; omega)).2.symm)
        have hop : op_lotOn (N, R, Fr, inc) p0 p1 = (0, (R 18 (ix p0) (ix p1)), (N, R, Fr, inc)) := by simp [op_lotOn, hix_447, hd]
        refine vx_ret ?_
        exact k_iret () F (hW.eq (by rw [hop])) (⟨by rw [hop], by rw [hop]⟩) dX4_lotOn_42 (Nat.le_of_ble_eq_true rfl) (Nat.le_of_ble_eq_true rfl)
