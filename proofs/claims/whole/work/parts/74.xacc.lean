/-! Reading and writing the class's cells -/
theorem xput {wr : va_W} {cA : Nat → ClassId} {α : Nat → Nat → Nat} {L : List (Nat × Nat)} {S S' : St} (k n : Nat) (h : (k, n) ∈ L) (hnd : Lnd L) {e' : va_E} (hoth : ∀ p ∈ L, p ≠ (k, n) → xent cA α S' p.1 p.2 = xent cA α S p.1 p.2) (hs : xent cA α S' k n = e') : ∃ q0 : Nat, (xWd wr cA α L S)[q0]? = some (α k n, xent cA α S k n) ∧ (xWd wr cA α L S).set q0 (α k n, e') = xWd wr cA α L S' := by
  obtain ⟨q0, h1, h2⟩ := xw_set (wr := wr) (cA := cA) (α := α) (S := S) k n h hnd
  exact ⟨q0, h1, by rw [← hs]; exact h2 S' hoth⟩
section XA
variable {p : Program} {l : Launch} {e : Env} {R : Room} {s : State} {m : MethodId} {args : Array Value} {below : List Frame} {meth : Method} {c : Code} {H : Heap} {locs : List Loc} {cells slots : Nat} {Q : State → Prop}
variable {cc : ByteArray} {pc : Nat} {ls : Array Slot} {rest st : List Value} {D : va_G} {cA : Nat → ClassId} {A : Nat → Prop} {ws ws0 : va_W} {y0 : MethodName} {nL : Nat} {ret : Option FieldType} {S : Type} {mc ms : Nat}
theorem k_aald {a n tI : Nat} {C : String} {f : Nat → Option Nat} {i : Int32} {r : Option Nat} {cl : ClassId} (F : Fx p s m args meth c y0 cc nL ret) (hW : Cw D cA s A ws H locs) (q0 : Nat) (he : ws[q0]? = some (a, .inl (cl, rfA n f))) (ht : (tyL cA)[tI]? = some (cl, .object C)) (hi : vp_in i n) (hv : f i.toNatClampNeg = r) (hdg : decode cc pc = .ok (.aaload, 1))
    (kk : W p l e R s m args below meth c H locs cells slots Q (F0 m (pc + 1) ls (va_rf r :: rest))) : W p l e R s m args below meth c H locs cells slots Q (F0 m pc ls (.int i :: .ref a :: rest)) := by
  subst hv
  exact va_aldq (D := D) F.1 F.2.1 hW.1 hW.2.1 q0 tI he ht hi hdg kk
theorem k_aaldS {a n tI x : Nat} {C : String} {f : Nat → Option Nat} {i : Int32} {cl : ClassId} (F : Fx p s m args meth c y0 cc nL ret) (hW : Cw D cA s A ws H locs) (q0 : Nat) (he : ws[q0]? = some (a, .inl (cl, rfA n f))) (ht : (tyL cA)[tI]? = some (cl, .object C)) (hi : vp_in i n) (hv : f i.toNatClampNeg = some x) (hdg : decode cc pc = .ok (.aaload, 1))
    (kk : W p l e R s m args below meth c H locs cells slots Q (F0 m (pc + 1) ls (.ref x :: rest))) : W p l e R s m args below meth c H locs cells slots Q (F0 m pc ls (.int i :: .ref a :: rest)) := k_aald F hW q0 he ht hi hv hdg kk
theorem k_aaldN {a n tI : Nat} {C : String} {f : Nat → Option Nat} {i : Int32} {cl : ClassId} (F : Fx p s m args meth c y0 cc nL ret) (hW : Cw D cA s A ws H locs) (q0 : Nat) (he : ws[q0]? = some (a, .inl (cl, rfA n f))) (ht : (tyL cA)[tI]? = some (cl, .object C)) (hi : vp_in i n) (hv : f i.toNatClampNeg = none) (hdg : decode cc pc = .ok (.aaload, 1))
    (kk : W p l e R s m args below meth c H locs cells slots Q (F0 m (pc + 1) ls (.null :: rest))) : W p l e R s m args below meth c H locs cells slots Q (F0 m pc ls (.int i :: .ref a :: rest)) := k_aald F hW q0 he ht hi hv hdg kk
theorem k_alen {a : Nat} {x : vp_A} {v : Int32} {cl : ClassId} {ty : FieldType} (F : Fx p s m args meth c y0 cc nL ret) (hW : Cw D cA s A ws H locs) (q0 tI : Nat) (he : ws[q0]? = some (a, .inl (cl, x))) (ht : (tyL cA)[tI]? = some (cl, ty)) (hv : Int32.ofNat x.1 = v) (hdg : decode cc pc = .ok (.arraylength, 1))
    (kk : W p l e R s m args below meth c H locs cells slots Q (F0 m (pc + 1) ls (.int v :: rest))) : W p l e R s m args below meth c H locs cells slots Q (F0 m pc ls (.ref a :: rest)) := va_alen (D := D) F.1 F.2.1 hW.1 hW.2.1 q0 tI he ht hv hdg kk
theorem k_rret {post : Option Nat → S → Prop} {wo : S → va_W} {v : Value} {n : String} (r : Option Nat) (u : S) (F : Fx p s m args meth c y0 cc nL (some (.object n))) (hv : v = va_rf r) (hW : Cw D cA s (va_A ws0 s.heap.size) (wo u) H locs) (hp : post r u) (hdg : decode cc pc = .ok (.areturn, 1)) (hc : cells ≤ mc) (hs : slots ≤ ms) : W p l e R s m args below meth c H locs cells slots (MQ below (va_Qq post (fun u t => Qw D ws0 s.heap.size (wo u) t) (va_A ws0 s.heap.size)) args s mc ms (va_A ws0 s.heap.size)) (F0 m pc ls [v]) := by
  subst hv
  refine W.widen (k := mc) (n := ms) hc hs ?_
  exact W.aret (v := va_rf r) F.1 F.2.1 F.2.2.1 (Or.inl ⟨n, rfl⟩) (va_rf_or r) (fun t ht _ => ⟨⟨r, u, rfl, hp, ⟨by rw [ht]; exact hW.2.1, hW.2.2.1⟩⟩, hW.2.2.2.1.F ht⟩) hW.2.2.2.1.2.2 hdg F.2.2.2.2.2.2.1
end XA

theorem xs_r7 (cA : Nat → ClassId) (α : Nat → Nat → Nat) (N : Nat → Nat → Nat) (R : Nat → Nat → Nat → Int32) (Fr : Nat → UInt32) (inc : Int64) (j : Nat) (v : Int32) : xent cA α (N, up3 R 7 j 0 v, Fr, inc) 9 j = .inr (4, [.int (nI j), .int (R 4 j 0), .int (R 5 j 0), .int (R 6 j 0), .int v, .int (R 8 j 0), .int (R 9 j 0), .float (Fr j), .int (R 10 j 0), va_rf (ownr α (R 11 j 0)), .int (R 12 j 0)]) :=
  congrArg (fun x => (Sum.inr (4, [.int (nI j), .int (R 4 j 0), .int (R 5 j 0), .int (R 6 j 0), .int x, .int (R 8 j 0), .int (R 9 j 0), .float (Fr j), .int (R 10 j 0), va_rf (ownr α (R 11 j 0)), .int (R 12 j 0)]) : va_E)) ((if_pos ⟨rfl, rfl, rfl⟩ : up3 R 7 j 0 v 7 j 0 = v))
theorem xs_r9 (cA : Nat → ClassId) (α : Nat → Nat → Nat) (N : Nat → Nat → Nat) (R : Nat → Nat → Nat → Int32) (Fr : Nat → UInt32) (inc : Int64) (j : Nat) (v : Int32) : xent cA α (N, up3 R 9 j 0 v, Fr, inc) 9 j = .inr (4, [.int (nI j), .int (R 4 j 0), .int (R 5 j 0), .int (R 6 j 0), .int (R 7 j 0), .int (R 8 j 0), .int v, .float (Fr j), .int (R 10 j 0), va_rf (ownr α (R 11 j 0)), .int (R 12 j 0)]) :=
  congrArg (fun x => (Sum.inr (4, [.int (nI j), .int (R 4 j 0), .int (R 5 j 0), .int (R 6 j 0), .int (R 7 j 0), .int (R 8 j 0), .int x, .float (Fr j), .int (R 10 j 0), va_rf (ownr α (R 11 j 0)), .int (R 12 j 0)]) : va_E)) ((if_pos ⟨rfl, rfl, rfl⟩ : up3 R 9 j 0 v 9 j 0 = v))
theorem xs_r10 (cA : Nat → ClassId) (α : Nat → Nat → Nat) (N : Nat → Nat → Nat) (R : Nat → Nat → Nat → Int32) (Fr : Nat → UInt32) (inc : Int64) (j : Nat) (v : Int32) : xent cA α (N, up3 R 10 j 0 v, Fr, inc) 9 j = .inr (4, [.int (nI j), .int (R 4 j 0), .int (R 5 j 0), .int (R 6 j 0), .int (R 7 j 0), .int (R 8 j 0), .int (R 9 j 0), .float (Fr j), .int v, va_rf (ownr α (R 11 j 0)), .int (R 12 j 0)]) :=
  congrArg (fun x => (Sum.inr (4, [.int (nI j), .int (R 4 j 0), .int (R 5 j 0), .int (R 6 j 0), .int (R 7 j 0), .int (R 8 j 0), .int (R 9 j 0), .float (Fr j), .int x, va_rf (ownr α (R 11 j 0)), .int (R 12 j 0)]) : va_E)) ((if_pos ⟨rfl, rfl, rfl⟩ : up3 R 10 j 0 v 10 j 0 = v))
theorem xs_r11 (cA : Nat → ClassId) (α : Nat → Nat → Nat) (N : Nat → Nat → Nat) (R : Nat → Nat → Nat → Int32) (Fr : Nat → UInt32) (inc : Int64) (j : Nat) (v : Int32) : xent cA α (N, up3 R 11 j 0 v, Fr, inc) 9 j = .inr (4, [.int (nI j), .int (R 4 j 0), .int (R 5 j 0), .int (R 6 j 0), .int (R 7 j 0), .int (R 8 j 0), .int (R 9 j 0), .float (Fr j), .int (R 10 j 0), va_rf (ownr α v), .int (R 12 j 0)]) :=
  congrArg (fun x => (Sum.inr (4, [.int (nI j), .int (R 4 j 0), .int (R 5 j 0), .int (R 6 j 0), .int (R 7 j 0), .int (R 8 j 0), .int (R 9 j 0), .float (Fr j), .int (R 10 j 0), va_rf (ownr α x), .int (R 12 j 0)]) : va_E)) ((if_pos ⟨rfl, rfl, rfl⟩ : up3 R 11 j 0 v 11 j 0 = v))
theorem xs_r12 (cA : Nat → ClassId) (α : Nat → Nat → Nat) (N : Nat → Nat → Nat) (R : Nat → Nat → Nat → Int32) (Fr : Nat → UInt32) (inc : Int64) (j : Nat) (v : Int32) : xent cA α (N, up3 R 12 j 0 v, Fr, inc) 9 j = .inr (4, [.int (nI j), .int (R 4 j 0), .int (R 5 j 0), .int (R 6 j 0), .int (R 7 j 0), .int (R 8 j 0), .int (R 9 j 0), .float (Fr j), .int (R 10 j 0), va_rf (ownr α (R 11 j 0)), .int v]) :=
  congrArg (fun x => (Sum.inr (4, [.int (nI j), .int (R 4 j 0), .int (R 5 j 0), .int (R 6 j 0), .int (R 7 j 0), .int (R 8 j 0), .int (R 9 j 0), .float (Fr j), .int (R 10 j 0), va_rf (ownr α (R 11 j 0)), .int x]) : va_E)) ((if_pos ⟨rfl, rfl, rfl⟩ : up3 R 12 j 0 v 12 j 0 = v))
theorem xs_fr (cA : Nat → ClassId) (α : Nat → Nat → Nat) (N : Nat → Nat → Nat) (R : Nat → Nat → Nat → Int32) (Fr : Nat → UInt32) (inc : Int64) (j : Nat) (v : UInt32) : xent cA α (N, R, vf_upd Fr j v, inc) 9 j = .inr (4, [.int (nI j), .int (R 4 j 0), .int (R 5 j 0), .int (R 6 j 0), .int (R 7 j 0), .int (R 8 j 0), .int (R 9 j 0), .float v, .int (R 10 j 0), va_rf (ownr α (R 11 j 0)), .int (R 12 j 0)]) :=
  congrArg (fun x => (Sum.inr (4, [.int (nI j), .int (R 4 j 0), .int (R 5 j 0), .int (R 6 j 0), .int (R 7 j 0), .int (R 8 j 0), .int (R 9 j 0), .float x, .int (R 10 j 0), va_rf (ownr α (R 11 j 0)), .int (R 12 j 0)]) : va_E)) ((if_pos rfl : vf_upd Fr j v j = v))
theorem xs_r13 (cA : Nat → ClassId) (α : Nat → Nat → Nat) (N : Nat → Nat → Nat) (R : Nat → Nat → Nat → Int32) (Fr : Nat → UInt32) (inc : Int64) (j : Nat) (v : Int32) : xent cA α (N, up3 R 13 j 0 v, Fr, inc) 10 j = .inr (3, [.int (nI j), .ref (α 11 j), .int v]) :=
  congrArg (fun x => (Sum.inr (3, [.int (nI j), .ref (α 11 j), .int x]) : va_E)) ((if_pos ⟨rfl, rfl, rfl⟩ : up3 R 13 j 0 v 13 j 0 = v))
theorem xs_r17 (cA : Nat → ClassId) (α : Nat → Nat → Nat) (N : Nat → Nat → Nat) (R : Nat → Nat → Nat → Int32) (Fr : Nat → UInt32) (inc : Int64) (j : Nat) (v : Int32) : xent cA α (N, up3 R 17 j 0 v, Fr, inc) 12 j = .inr (5, [.int (R 15 j 0), .int (R 16 j 0), .ref (α 13 j), .int (nI (N 1 j)), .int v]) :=
  congrArg (fun x => (Sum.inr (5, [.int (R 15 j 0), .int (R 16 j 0), .ref (α 13 j), .int (nI (N 1 j)), .int x]) : va_E)) ((if_pos ⟨rfl, rfl, rfl⟩ : up3 R 17 j 0 v 17 j 0 = v))
theorem xs_n1 (cA : Nat → ClassId) (α : Nat → Nat → Nat) (N : Nat → Nat → Nat) (R : Nat → Nat → Nat → Int32) (Fr : Nat → UInt32) (inc : Int64) (j v : Nat) : xent cA α (up2 N 1 j v, R, Fr, inc) 12 j = .inr (5, [.int (R 15 j 0), .int (R 16 j 0), .ref (α 13 j), .int (nI v), .int (R 17 j 0)]) :=
  congrArg (fun x => (Sum.inr (5, [.int (R 15 j 0), .int (R 16 j 0), .ref (α 13 j), .int (nI x), .int (R 17 j 0)]) : va_E)) ((if_pos ⟨rfl, rfl⟩ : up2 N 1 j v 1 j = v))
theorem xs_n0_0 (cA : Nat → ClassId) (α : Nat → Nat → Nat) (N : Nat → Nat → Nat) (R : Nat → Nat → Nat → Int32) (Fr : Nat → UInt32) (inc : Int64) (v : Nat) : xent cA α (up2 N 0 0 v, R, Fr, inc) 0 0 = .inr (6, [.ref (α 1 0), .ref (α 2 0), .ref (α 3 0), .ref (α 4 0), .int (nI v), .int (nI (N 0 1)), .int (nI (N 0 2)), .int (nI (N 0 3)), .int (nI (N 0 5)), .int (nI (N 0 4)), .int (R 0 0 0), .int (R 0 1 0), .int (R 0 2 0), .int (R 0 3 0), .long inc]) := rfl
theorem xs_n0_1 (cA : Nat → ClassId) (α : Nat → Nat → Nat) (N : Nat → Nat → Nat) (R : Nat → Nat → Nat → Int32) (Fr : Nat → UInt32) (inc : Int64) (v : Nat) : xent cA α (up2 N 0 1 v, R, Fr, inc) 0 0 = .inr (6, [.ref (α 1 0), .ref (α 2 0), .ref (α 3 0), .ref (α 4 0), .int (nI (N 0 0)), .int (nI v), .int (nI (N 0 2)), .int (nI (N 0 3)), .int (nI (N 0 5)), .int (nI (N 0 4)), .int (R 0 0 0), .int (R 0 1 0), .int (R 0 2 0), .int (R 0 3 0), .long inc]) := rfl
theorem xs_n0_2 (cA : Nat → ClassId) (α : Nat → Nat → Nat) (N : Nat → Nat → Nat) (R : Nat → Nat → Nat → Int32) (Fr : Nat → UInt32) (inc : Int64) (v : Nat) : xent cA α (up2 N 0 2 v, R, Fr, inc) 0 0 = .inr (6, [.ref (α 1 0), .ref (α 2 0), .ref (α 3 0), .ref (α 4 0), .int (nI (N 0 0)), .int (nI (N 0 1)), .int (nI v), .int (nI (N 0 3)), .int (nI (N 0 5)), .int (nI (N 0 4)), .int (R 0 0 0), .int (R 0 1 0), .int (R 0 2 0), .int (R 0 3 0), .long inc]) := rfl
theorem xs_n0_3 (cA : Nat → ClassId) (α : Nat → Nat → Nat) (N : Nat → Nat → Nat) (R : Nat → Nat → Nat → Int32) (Fr : Nat → UInt32) (inc : Int64) (v : Nat) : xent cA α (up2 N 0 3 v, R, Fr, inc) 0 0 = .inr (6, [.ref (α 1 0), .ref (α 2 0), .ref (α 3 0), .ref (α 4 0), .int (nI (N 0 0)), .int (nI (N 0 1)), .int (nI (N 0 2)), .int (nI v), .int (nI (N 0 5)), .int (nI (N 0 4)), .int (R 0 0 0), .int (R 0 1 0), .int (R 0 2 0), .int (R 0 3 0), .long inc]) := rfl
theorem xs_n0_5 (cA : Nat → ClassId) (α : Nat → Nat → Nat) (N : Nat → Nat → Nat) (R : Nat → Nat → Nat → Int32) (Fr : Nat → UInt32) (inc : Int64) (v : Nat) : xent cA α (up2 N 0 5 v, R, Fr, inc) 0 0 = .inr (6, [.ref (α 1 0), .ref (α 2 0), .ref (α 3 0), .ref (α 4 0), .int (nI (N 0 0)), .int (nI (N 0 1)), .int (nI (N 0 2)), .int (nI (N 0 3)), .int (nI v), .int (nI (N 0 4)), .int (R 0 0 0), .int (R 0 1 0), .int (R 0 2 0), .int (R 0 3 0), .long inc]) := rfl
theorem xs_n0_4 (cA : Nat → ClassId) (α : Nat → Nat → Nat) (N : Nat → Nat → Nat) (R : Nat → Nat → Nat → Int32) (Fr : Nat → UInt32) (inc : Int64) (v : Nat) : xent cA α (up2 N 0 4 v, R, Fr, inc) 0 0 = .inr (6, [.ref (α 1 0), .ref (α 2 0), .ref (α 3 0), .ref (α 4 0), .int (nI (N 0 0)), .int (nI (N 0 1)), .int (nI (N 0 2)), .int (nI (N 0 3)), .int (nI (N 0 5)), .int (nI v), .int (R 0 0 0), .int (R 0 1 0), .int (R 0 2 0), .int (R 0 3 0), .long inc]) := rfl
theorem xs_r0_0 (cA : Nat → ClassId) (α : Nat → Nat → Nat) (N : Nat → Nat → Nat) (R : Nat → Nat → Nat → Int32) (Fr : Nat → UInt32) (inc : Int64) (v : Int32) : xent cA α (N, up3 R 0 0 0 v, Fr, inc) 0 0 = .inr (6, [.ref (α 1 0), .ref (α 2 0), .ref (α 3 0), .ref (α 4 0), .int (nI (N 0 0)), .int (nI (N 0 1)), .int (nI (N 0 2)), .int (nI (N 0 3)), .int (nI (N 0 5)), .int (nI (N 0 4)), .int v, .int (R 0 1 0), .int (R 0 2 0), .int (R 0 3 0), .long inc]) := rfl
theorem xs_r0_1 (cA : Nat → ClassId) (α : Nat → Nat → Nat) (N : Nat → Nat → Nat) (R : Nat → Nat → Nat → Int32) (Fr : Nat → UInt32) (inc : Int64) (v : Int32) : xent cA α (N, up3 R 0 1 0 v, Fr, inc) 0 0 = .inr (6, [.ref (α 1 0), .ref (α 2 0), .ref (α 3 0), .ref (α 4 0), .int (nI (N 0 0)), .int (nI (N 0 1)), .int (nI (N 0 2)), .int (nI (N 0 3)), .int (nI (N 0 5)), .int (nI (N 0 4)), .int (R 0 0 0), .int v, .int (R 0 2 0), .int (R 0 3 0), .long inc]) := rfl
theorem xs_r0_2 (cA : Nat → ClassId) (α : Nat → Nat → Nat) (N : Nat → Nat → Nat) (R : Nat → Nat → Nat → Int32) (Fr : Nat → UInt32) (inc : Int64) (v : Int32) : xent cA α (N, up3 R 0 2 0 v, Fr, inc) 0 0 = .inr (6, [.ref (α 1 0), .ref (α 2 0), .ref (α 3 0), .ref (α 4 0), .int (nI (N 0 0)), .int (nI (N 0 1)), .int (nI (N 0 2)), .int (nI (N 0 3)), .int (nI (N 0 5)), .int (nI (N 0 4)), .int (R 0 0 0), .int (R 0 1 0), .int v, .int (R 0 3 0), .long inc]) := rfl
theorem xs_r0_3 (cA : Nat → ClassId) (α : Nat → Nat → Nat) (N : Nat → Nat → Nat) (R : Nat → Nat → Nat → Int32) (Fr : Nat → UInt32) (inc : Int64) (v : Int32) : xent cA α (N, up3 R 0 3 0 v, Fr, inc) 0 0 = .inr (6, [.ref (α 1 0), .ref (α 2 0), .ref (α 3 0), .ref (α 4 0), .int (nI (N 0 0)), .int (nI (N 0 1)), .int (nI (N 0 2)), .int (nI (N 0 3)), .int (nI (N 0 5)), .int (nI (N 0 4)), .int (R 0 0 0), .int (R 0 1 0), .int (R 0 2 0), .int v, .long inc]) := rfl
theorem xs_inc (cA : Nat → ClassId) (α : Nat → Nat → Nat) (N : Nat → Nat → Nat) (R : Nat → Nat → Nat → Int32) (Fr : Nat → UInt32) (inc : Int64) (v : Int64) : xent cA α (N, R, Fr, v) 0 0 = .inr (6, [.ref (α 1 0), .ref (α 2 0), .ref (α 3 0), .ref (α 4 0), .int (nI (N 0 0)), .int (nI (N 0 1)), .int (nI (N 0 2)), .int (nI (N 0 3)), .int (nI (N 0 5)), .int (nI (N 0 4)), .int (R 0 0 0), .int (R 0 1 0), .int (R 0 2 0), .int (R 0 3 0), .long v]) := rfl
theorem xs_r1 (cA : Nat → ClassId) (α : Nat → Nat → Nat) (N : Nat → Nat → Nat) (R : Nat → Nat → Nat → Int32) (Fr : Nat → UInt32) (inc : Int64) (j i : Nat) (v : Int32) : xent cA α (N, up3 R 1 j i v, Fr, inc) 6 j = .inl (cA 0, 4, .inl (upd (fun x => R 1 j x) i v)) := by
  have h : (fun x => up3 R 1 j i v 1 j x) = upd (fun x => R 1 j x) i v := by
    funext x
    simp [up3, upd]
  exact congrArg (fun f => (Sum.inl (cA 0, 4, .inl f) : va_E)) h
theorem xs_r3 (cA : Nat → ClassId) (α : Nat → Nat → Nat) (N : Nat → Nat → Nat) (R : Nat → Nat → Nat → Int32) (Fr : Nat → UInt32) (inc : Int64) (j i : Nat) (v : Int32) : xent cA α (N, up3 R 3 j i v, Fr, inc) 7 j = .inl (cA 0, 4, .inl (upd (fun x => R 3 j x) i v)) := by
  have h : (fun x => up3 R 3 j i v 3 j x) = upd (fun x => R 3 j x) i v := by
    funext x
    simp [up3, upd]
  exact congrArg (fun f => (Sum.inl (cA 0, 4, .inl f) : va_E)) h
theorem xs_r14 (cA : Nat → ClassId) (α : Nat → Nat → Nat) (N : Nat → Nat → Nat) (R : Nat → Nat → Nat → Int32) (Fr : Nat → UInt32) (inc : Int64) (j i : Nat) (v : Int32) : xent cA α (N, up3 R 14 j i v, Fr, inc) 11 j = .inl (cA 0, 4, .inl (upd (fun x => R 14 j x) i v)) := by
  have h : (fun x => up3 R 14 j i v 14 j x) = upd (fun x => R 14 j x) i v := by
    funext x
    simp [up3, upd]
  exact congrArg (fun f => (Sum.inl (cA 0, 4, .inl f) : va_E)) h
theorem xe_0 {N : Nat → Nat → Nat} {L : List (Nat × Nat)} (hLk : LOK N L) {p : Nat × Nat} (h : p ∈ L) (hne : p ≠ (0, 0)) : ¬ p.1 = 0 := by
  intro e
  obtain ⟨k, n⟩ := p
  simp only at e
  subst e
  exact hne (by rw [hLk.n0 (by decide) h])
section XQ
variable {p : Program} {l : Launch} {e : Env} {R : Room} {s : State} {m : MethodId} {args : Array Value} {below : List Frame} {meth : Method} {c : Code} {H : Heap} {locs : List Loc} {cells slots : Nat} {Q : State → Prop} {cc : ByteArray} {pc : Nat} {ls : Array Slot} {rest : List Value}
theorem x_aload_nQ (hexec : p.tables.exec = Jvm.exec) (hb : c.code = cc) {k : Fin 4} {i : Nat} {r : Option Nat} (hdg : decode cc pc = .ok (.aload_n k, 1)) (hi : (k : Nat) = i) (hl : ls[i]? = some (.val (va_rf r)))
    (kk : W p l e R s m args below meth c H locs cells slots Q (F0 m (pc + 1) ls (va_rf r :: rest))) : W p l e R s m args below meth c H locs cells slots Q (F0 m pc ls rest) := by
  cases r with
  | none => exact lv_aload_nN hexec hb hdg hi hl kk
  | some a => exact lv_aload_n hexec hb hdg hi hl kk
theorem x_aloadQ (hexec : p.tables.exec = Jvm.exec) (hb : c.code = cc) {i : Nat} {r : Option Nat} (hdg : decode cc pc = .ok (.aload i, 2)) (hl : ls[i]? = some (.val (va_rf r)))
    (kk : W p l e R s m args below meth c H locs cells slots Q (F0 m (pc + 2) ls (va_rf r :: rest))) : W p l e R s m args below meth c H locs cells slots Q (F0 m pc ls rest) := by
  cases r with
  | none => exact lv_aloadN hexec hb hdg hl kk
  | some a => exact lv_aload hexec hb hdg hl kk
theorem x_astore_nQ (hexec : p.tables.exec = Jvm.exec) (hb : c.code = cc) {k : Fin 4} {i nL : Nat} {r : Option Nat} {lv lv' : List (Nat × Value)} (hdg : decode cc pc = .ok (.astore_n k, 1)) (hi : (k : Nat) = i) (h : lv_has ls nL lv) (hn : i < nL) (hl : (i, va_rf r) :: lv.filter (fun q => !(q.1 == i) && !(q.1 + 1 == i && q.2.category == 2)) = lv')
    (kk : ∀ ls' : Array Slot, lv_has ls' nL lv' → W p l e R s m args below meth c H locs cells slots Q (F0 m (pc + 1) ls' rest)) : W p l e R s m args below meth c H locs cells slots Q (F0 m pc ls (va_rf r :: rest)) := by
  cases r with
  | none => exact lv_astore_nN hexec hb hdg hi h hn hl kk
  | some a => exact lv_astore_n hexec hb hdg hi h hn hl kk
theorem x_astoreQ (hexec : p.tables.exec = Jvm.exec) (hb : c.code = cc) {i nL : Nat} {r : Option Nat} {lv lv' : List (Nat × Value)} (hdg : decode cc pc = .ok (.astore i, 2)) (h : lv_has ls nL lv) (hn : i < nL) (hl : (i, va_rf r) :: lv.filter (fun q => !(q.1 == i) && !(q.1 + 1 == i && q.2.category == 2)) = lv')
    (kk : ∀ ls' : Array Slot, lv_has ls' nL lv' → W p l e R s m args below meth c H locs cells slots Q (F0 m (pc + 2) ls' rest)) : W p l e R s m args below meth c H locs cells slots Q (F0 m pc ls (va_rf r :: rest)) := by
  cases r with
  | none => exact lv_astoreN hexec hb hdg h hn hl kk
  | some a => exact lv_astore hexec hb hdg h hn hl kk
theorem x_null (hexec : p.tables.exec = Jvm.exec) (hb : c.code = cc) (hdg : decode cc pc = .ok (.aconst_null, 1))
    (kk : W p l e R s m args below meth c H locs cells slots Q (F0 m (pc + 1) ls (va_rf none :: rest))) : W p l e R s m args below meth c H locs cells slots Q (F0 m pc ls rest) := lv_null hexec hb hdg kk
end XQ
