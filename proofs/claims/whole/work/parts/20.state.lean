/-! The state: counts N, registers R, freshness Fr, income. N 0: 0 boats, 1 lots, 2 buyers, 3 trucks, 4 day, 5 time; N 1 t: loaded on truck t; N 2 (class only): filled places of the four arrays; N 3 t (class only): of truck t's row.
R 0 f 0: beyond, start, step, reserve; R 1 b s quota; R 2 d k written (k = 4 b + s); R 3 b s given (class only); of lot j: R 4 j 0 boat (class only), 5 species, 6 size, 7 weight, 8 boxed, 9 state, 10 ice, 11 buyer, 12 paid; R 13 u 0 budget; R 14 u s limit; R 15 t 0 hour, 16 closed, 17 room; R 18 t k lotOn. -/
def up2 (f : Nat → Nat → Nat) (i j v : Nat) : Nat → Nat → Nat := fun i' j' => if i' = i ∧ j' = j then v else f i' j'
def up3 (f : Nat → Nat → Nat → Int32) (k i j : Nat) (v : Int32) : Nat → Nat → Nat → Int32 := fun k' i' j' => if k' = k ∧ i' = i ∧ j' = j then v else f k' i' j'
abbrev St : Type := (Nat → Nat → Nat) × (Nat → Nat → Nat → Int32) × (Nat → UInt32) × Int64
/-- the reference's cells -/
def mW (cA : Nat → ClassId) (β : Nat → Nat) (th : Int32) (S : St) : va_W := match S with
  | (N, R, Fr, inc) => [
  (β 0, .inr (7, [.int th, .int (nI (N 0 0)), .ref (β 1), .ref (β 2), .int (nI (N 0 4)), .int (R 0 0 0), .int (nI (N 0 1)), .ref (β 3), .ref (β 4), .ref (β 5), .ref (β 6), .ref (β 7), .ref (β 8), .ref (β 9), .ref (β 10), .ref (β 11), .int (nI (N 0 5)), .int (nI (N 0 2)), .ref (β 12), .ref (β 13), .int (R 0 1 0), .int (R 0 2 0), .int (R 0 3 0), .int (nI (N 0 3)), .ref (β 14), .ref (β 15), .ref (β 16), .ref (β 17), .ref (β 18), .long inc])),
  (β 1, .inl (cA 0, 24, .inl (fun k => R 1 (k / 4) (k % 4)))),
  (β 2, .inl (cA 0, 480, .inl (fun k => R 2 (k / 24) (k % 24)))),
  (β 3, .inl (cA 0, 20, .inl (fun j => R 5 j 0))),
  (β 4, .inl (cA 0, 20, .inl (fun j => R 6 j 0))),
  (β 5, .inl (cA 0, 20, .inl (fun j => R 7 j 0))),
  (β 6, .inl (cA 1, 20, .inl (fun j => R 8 j 0))),
  (β 7, .inl (cA 2, 20, .inl (fun j => R 9 j 0))),
  (β 8, .inl (cA 3, 20, .inr (.inr (.inl Fr)))),
  (β 9, .inl (cA 0, 20, .inl (fun j => R 10 j 0))),
  (β 10, .inl (cA 0, 20, .inl (fun j => R 11 j 0))),
  (β 11, .inl (cA 0, 20, .inl (fun j => R 12 j 0))),
  (β 12, .inl (cA 0, 5, .inl (fun u => R 13 u 0))),
  (β 13, .inl (cA 0, 20, .inl (fun k => R 14 (k / 4) (k % 4)))),
  (β 14, .inl (cA 0, 4, .inl (fun t => R 15 t 0))),
  (β 15, .inl (cA 0, 4, .inl (fun t => R 17 t 0))),
  (β 16, .inl (cA 1, 4, .inl (fun t => R 16 t 0))),
  (β 17, .inl (cA 0, 4, .inl (fun t => nI (N 1 t)))),
  (β 18, .inl (cA 0, 20, .inl (fun k => R 18 (k / 5) (k % 5))))]
/-- .. behind the law's two cells, ahead of all else -/
def mWd (cA : Nat → ClassId) (β : Nat → Nat) (c0 c1 : Nat × va_E) (wr : va_W) (th : Int32) (S : St) : va_W := c0 :: c1 :: (mW cA β th S ++ wr)
def b2i (b : Bool) : Int32 := if b then 1 else 0
/-- lo ≤ v ≤ hi -/
def wi (v lo hi : Int32) : Bool := decide (lo ≤ v) && decide (v ≤ hi)
theorem Cw.eq {D : va_G} {cA : Nat → ClassId} {s : State} {A : Nat → Prop} {ws ws1 : va_W} {H : Heap} {locs : List Loc} (h : Cw D cA s A ws H locs) (e : ws = ws1) : Cw D cA s A ws1 H locs := e ▸ h
section KIT2
variable {p : Program} {l : Launch} {e : Env} {R : Room} {s : State} {m : MethodId} {args : Array Value} {below : List Frame} {meth : Method} {c : Code} {H : Heap} {locs : List Loc} {cells slots : Nat} {Q : State → Prop}
variable {cc : ByteArray} {pc : Nat} {ls : Array Slot} {rest st : List Value} {D : va_G} {cA : Nat → ClassId} {A : Nat → Prop} {ws ws0 : va_W} {y0 : MethodName} {nL : Nat} {ret : Option FieldType}
theorem k_get {ci N idx a : Nat} {own C : String} {T : u_T} {fs : List Value} {v : Value} (F : Fx p s m args meth c y0 cc nL ret) (hW : Cw D cA s A ws H locs) (hin : ∀ w ∈ u_ws C T N, w ∈ LW) (hown : y0.cls = own) (q0 : Nat) (he : ws[q0]? = some (a, .inr (ci, fs))) (hc0 : vwCl[ci]? = some (C, T, N)) (k : Nat) (hk : k < N) (hlink : Cond.fieldLink own idx C (T k).2.1 (T k).2.2.1 ∈ LW) (hC : (T k).1 = C) (hv : fs[k]? = some v) (hdg : decode cc pc = .ok (.getfield idx, 3))
    (kk : W p l e R s m args below meth c H locs cells slots Q (F0 m (pc + 3) ls (v :: rest))) : W p l e R s m args below meth c H locs cells slots Q (F0 m pc ls (.ref a :: rest)) :=
  va_get (D := D) (own := own) (ref := C) F.1 F.2.1 F.2.2.2.2.2.1 hin (by rw [← hown]; exact F.2.2.2.2.1) hW.1 hW.2.1 q0 he hc0 k hk (F.2.2.2.2.2.1 _ hlink) (fun _ h => by rw [hC] at h; exact h) hv hdg kk
theorem k_put {ci N idx a : Nat} {own C : String} {T : u_T} {fs : List Value} {v : Value} {ty0 : Nat → FieldType} {ty : FieldType} (F : Fx p s m args meth c y0 cc nL ret) (hW : Cw D cA s A ws H locs) (hin : ∀ w ∈ u_ws C T N, w ∈ LW) (hty : ∀ k, k < N → parseFieldDescriptor (T k).2.2.1 = some (ty0 k)) (hnm : ∀ a, a < N → ∀ b, b < N → a ≠ b → (T a).2.1 ≠ (T b).2.1) (hown : y0.cls = own) (q0 : Nat) (he : ws[q0]? = some (a, .inr (ci, fs))) (hc0 : vwCl[ci]? = some (C, T, N)) (k : Nat) (hk : k < N) (hlink : Cond.fieldLink own idx C (T k).2.1 (T k).2.2.1 ∈ LW) (hC : (T k).1 = C) (hfin : (T k).2.2.2 = false) (hd : ty0 k = ty) (hn : narrow ty v = v) (hfit : fits ty v = true) (hl : k < fs.length) (ws' : va_W) (he' : ws.set q0 (a, .inr (ci, fs.set k v)) = ws') (hdg : decode cc pc = .ok (.putfield idx, 3))
    (kk : ∀ (H1 : Heap) (locs1 : List Loc), Cw D cA s A ws' H1 locs1 → W p l e R s m args below meth c H1 locs1 cells slots Q (F0 m (pc + 3) ls rest)) : W p l e R s m args below meth c H locs cells slots Q (F0 m pc ls (v :: .ref a :: rest)) := by
  refine va_put (D := D) (own := own) (ref := C) (ty := ty) F.1 F.2.1 F.2.2.2.2.2.1 hin ty0 hty hnm (by rw [← hown]; exact F.2.2.2.2.1) hW.1 hW.2.1 hW.2.2.1 hW.2.2.2.1 q0 he hc0 k hk (F.2.2.2.2.2.1 _ hlink) (fun _ h => by rw [hC] at h; exact h) hfin (by rw [← hd]; exact hty k hk) hn hfit hl hdg (fun H1 locs1 hP hD hS => ?_)
  rw [he'] at hP hD
  exact kk H1 locs1 (hW.mk hP hD hS)
theorem k_iald {a n : Nat} {f : Nat → Int32} {i v : Int32} (F : Fx p s m args meth c y0 cc nL ret) (hW : Cw D cA s A ws H locs) (q0 : Nat) (he : ws[q0]? = some (a, .inl (cA 0, n, .inl f))) (hi : vp_in i n) (hv : f i.toNatClampNeg = v) (hdg : decode cc pc = .ok (.iaload, 1))
    (kk : W p l e R s m args below meth c H locs cells slots Q (F0 m (pc + 1) ls (.int v :: rest))) : W p l e R s m args below meth c H locs cells slots Q (F0 m pc ls (.int i :: .ref a :: rest)) := by
  subst hv
  exact va_iald (D := D) F.1 F.2.1 hW.1 hW.2.1 q0 0 he rfl hi hdg kk
theorem k_zald {a n : Nat} {f : Nat → Int32} {i v : Int32} (F : Fx p s m args meth c y0 cc nL ret) (hW : Cw D cA s A ws H locs) (q0 : Nat) (he : ws[q0]? = some (a, .inl (cA 1, n, .inl f))) (hi : vp_in i n) (hv : f i.toNatClampNeg = v) (hdg : decode cc pc = .ok (.baload, 1))
    (kk : W p l e R s m args below meth c H locs cells slots Q (F0 m (pc + 1) ls (.int v :: rest))) : W p l e R s m args below meth c H locs cells slots Q (F0 m pc ls (.int i :: .ref a :: rest)) := by
  subst hv
  exact va_zald (D := D) F.1 F.2.1 hW.1 hW.2.1 q0 1 he rfl hi hdg kk
theorem k_cald {a n : Nat} {f : Nat → Int32} {i v : Int32} (F : Fx p s m args meth c y0 cc nL ret) (hW : Cw D cA s A ws H locs) (q0 : Nat) (he : ws[q0]? = some (a, .inl (cA 2, n, .inl f))) (hi : vp_in i n) (hv : f i.toNatClampNeg = v) (hdg : decode cc pc = .ok (.caload, 1))
    (kk : W p l e R s m args below meth c H locs cells slots Q (F0 m (pc + 1) ls (.int v :: rest))) : W p l e R s m args below meth c H locs cells slots Q (F0 m pc ls (.int i :: .ref a :: rest)) := by
  subst hv
  exact va_cald (D := D) F.1 F.2.1 hW.1 hW.2.1 q0 2 he rfl hi hdg kk
theorem k_fald {a n : Nat} {f : Nat → UInt32} {i : Int32} {v : UInt32} (F : Fx p s m args meth c y0 cc nL ret) (hW : Cw D cA s A ws H locs) (q0 : Nat) (he : ws[q0]? = some (a, .inl (cA 3, n, .inr (.inr (.inl f))))) (hi : vp_in i n) (hv : f i.toNatClampNeg = v) (hdg : decode cc pc = .ok (.faload, 1))
    (kk : W p l e R s m args below meth c H locs cells slots Q (F0 m (pc + 1) ls (.float v :: rest))) : W p l e R s m args below meth c H locs cells slots Q (F0 m pc ls (.int i :: .ref a :: rest)) := by
  subst hv
  exact va_fald (D := D) F.1 F.2.1 hW.1 hW.2.1 q0 3 he rfl hi hdg kk
theorem k_iast {a n : Nat} {f : Nat → Int32} {i x : Int32} (F : Fx p s m args meth c y0 cc nL ret) (hW : Cw D cA s A ws H locs) (q0 : Nat) (he : ws[q0]? = some (a, .inl (cA 0, n, .inl f))) (hi : vp_in i n) (ws' : va_W) (he' : ws.set q0 (a, .inl (cA 0, n, .inl (upd f i.toNatClampNeg x))) = ws') (hdg : decode cc pc = .ok (.iastore, 1))
    (kk : ∀ (H1 : Heap) (locs1 : List Loc), Cw D cA s A ws' H1 locs1 → W p l e R s m args below meth c H1 locs1 cells slots Q (F0 m (pc + 1) ls rest)) : W p l e R s m args below meth c H locs cells slots Q (F0 m pc ls (.int x :: .int i :: .ref a :: rest)) := by
  refine va_iast (D := D) F.1 F.2.1 hW.1 hW.2.1 hW.2.2.1 hW.2.2.2.1 q0 0 he rfl hi hdg (fun H1 locs1 hP hD hS => ?_)
  rw [he'] at hP hD
  exact kk H1 locs1 (hW.mk hP hD hS)
theorem k_zast {a n : Nat} {f : Nat → Int32} {i x : Int32} (F : Fx p s m args meth c y0 cc nL ret) (hW : Cw D cA s A ws H locs) (q0 : Nat) (he : ws[q0]? = some (a, .inl (cA 1, n, .inl f))) (hi : vp_in i n) (hx : vp_nar .boolean x = x) (ws' : va_W) (he' : ws.set q0 (a, .inl (cA 1, n, .inl (upd f i.toNatClampNeg x))) = ws') (hdg : decode cc pc = .ok (.bastore, 1))
    (kk : ∀ (H1 : Heap) (locs1 : List Loc), Cw D cA s A ws' H1 locs1 → W p l e R s m args below meth c H1 locs1 cells slots Q (F0 m (pc + 1) ls rest)) : W p l e R s m args below meth c H locs cells slots Q (F0 m pc ls (.int x :: .int i :: .ref a :: rest)) := by
  refine va_zast (D := D) F.1 F.2.1 hW.1 hW.2.1 hW.2.2.1 hW.2.2.2.1 q0 1 he rfl hi hdg (fun H1 locs1 hP hD hS => ?_)
  rw [hx, he'] at hP hD
  exact kk H1 locs1 (hW.mk hP hD hS)
theorem k_cast {a n : Nat} {f : Nat → Int32} {i x : Int32} (F : Fx p s m args meth c y0 cc nL ret) (hW : Cw D cA s A ws H locs) (q0 : Nat) (he : ws[q0]? = some (a, .inl (cA 2, n, .inl f))) (hi : vp_in i n) (hx : vp_nar .char x = x) (ws' : va_W) (he' : ws.set q0 (a, .inl (cA 2, n, .inl (upd f i.toNatClampNeg x))) = ws') (hdg : decode cc pc = .ok (.castore, 1))
    (kk : ∀ (H1 : Heap) (locs1 : List Loc), Cw D cA s A ws' H1 locs1 → W p l e R s m args below meth c H1 locs1 cells slots Q (F0 m (pc + 1) ls rest)) : W p l e R s m args below meth c H locs cells slots Q (F0 m pc ls (.int x :: .int i :: .ref a :: rest)) := by
  refine va_cast (D := D) F.1 F.2.1 hW.1 hW.2.1 hW.2.2.1 hW.2.2.2.1 q0 2 he rfl hi hdg (fun H1 locs1 hP hD hS => ?_)
  rw [hx, he'] at hP hD
  exact kk H1 locs1 (hW.mk hP hD hS)
theorem k_fast {a n : Nat} {f : Nat → UInt32} {i : Int32} {x : UInt32} (F : Fx p s m args meth c y0 cc nL ret) (hW : Cw D cA s A ws H locs) (q0 : Nat) (he : ws[q0]? = some (a, .inl (cA 3, n, .inr (.inr (.inl f))))) (hi : vp_in i n) (ws' : va_W) (he' : ws.set q0 (a, .inl (cA 3, n, .inr (.inr (.inl (vf_upd f i.toNatClampNeg x))))) = ws') (hdg : decode cc pc = .ok (.fastore, 1))
    (kk : ∀ (H1 : Heap) (locs1 : List Loc), Cw D cA s A ws' H1 locs1 → W p l e R s m args below meth c H1 locs1 cells slots Q (F0 m (pc + 1) ls rest)) : W p l e R s m args below meth c H locs cells slots Q (F0 m pc ls (.float x :: .int i :: .ref a :: rest)) := by
  refine va_fast (D := D) F.1 F.2.1 hW.1 hW.2.1 hW.2.2.1 hW.2.2.2.1 q0 3 he rfl hi hdg (fun H1 locs1 hP hD hS => ?_)
  rw [he'] at hP hD
  exact kk H1 locs1 (hW.mk hP hD hS)
end KIT2
section BODY
variable {l : Launch} {y : MethodName} {cc : ByteArray} {nL : Nat} {ret : Option FieldType} {rm : Room} {D : va_G} {cA : Nat → ClassId} {ws : va_W} {as : List Value} {mc ms : Nat} {S : Type} {wo : S → va_W}
theorem k_bodyI {post : Int32 → S → Prop} (hy : plainFor y = true) (hn : (lg_sl as).length ≤ nL)
    (body : ∀ (p : Program) (e : Env) (s : State) (m : MethodId) (args : Array Value) (below : List Frame) (meth : Method) (c : Code) (ls : Array Slot), Fx p s m args meth c y cc nL ret → Cw D cA s (va_A ws s.heap.size) ws s.heap [] → lv_has ls nL (lv_args 0 as) →
      W p l e rm s m args below meth c s.heap [] 0 0 (MQ below (va_Qi post (fun u t => Qw D ws s.heap.size (wo u) t) (va_A ws s.heap.size)) args s mc ms (va_A ws s.heap.size)) (F0 m 0 ls [])) : MetI l y (.code y cc nL ret :: LW) rm D cA ws as post wo mc ms :=
  k_body (Qc := fun sz => va_Qi post (fun u t => Qw D ws sz (wo u) t) (va_A ws sz)) hy hn body
theorem k_bodyV {post : S → Prop} (hy : plainFor y = true) (hn : (lg_sl as).length ≤ nL)
    (body : ∀ (p : Program) (e : Env) (s : State) (m : MethodId) (args : Array Value) (below : List Frame) (meth : Method) (c : Code) (ls : Array Slot), Fx p s m args meth c y cc nL ret → Cw D cA s (va_A ws s.heap.size) ws s.heap [] → lv_has ls nL (lv_args 0 as) →
      W p l e rm s m args below meth c s.heap [] 0 0 (MQ below (va_Qv post (fun u t => Qw D ws s.heap.size (wo u) t) (va_A ws s.heap.size)) args s mc ms (va_A ws s.heap.size)) (F0 m 0 ls [])) : MetV l y (.code y cc nL ret :: LW) rm D cA ws as post wo mc ms :=
  k_body (Qc := fun sz => va_Qv post (fun u t => Qw D ws sz (wo u) t) (va_A ws sz)) hy hn body
theorem k_bodyL {post : Int64 → S → Prop} (hy : plainFor y = true) (hn : (lg_sl as).length ≤ nL)
    (body : ∀ (p : Program) (e : Env) (s : State) (m : MethodId) (args : Array Value) (below : List Frame) (meth : Method) (c : Code) (ls : Array Slot), Fx p s m args meth c y cc nL ret → Cw D cA s (va_A ws s.heap.size) ws s.heap [] → lv_has ls nL (lv_args 0 as) →
      W p l e rm s m args below meth c s.heap [] 0 0 (MQ below (va_Ql post (fun u t => Qw D ws s.heap.size (wo u) t) (va_A ws s.heap.size)) args s mc ms (va_A ws s.heap.size)) (F0 m 0 ls [])) : MetL l y (.code y cc nL ret :: LW) rm D cA ws as post wo mc ms :=
  k_body (Qc := fun sz => va_Ql post (fun u t => Qw D ws sz (wo u) t) (va_A ws sz)) hy hn body
theorem k_bodyF {post : UInt32 → S → Prop} (hy : plainFor y = true) (hn : (lg_sl as).length ≤ nL)
    (body : ∀ (p : Program) (e : Env) (s : State) (m : MethodId) (args : Array Value) (below : List Frame) (meth : Method) (c : Code) (ls : Array Slot), Fx p s m args meth c y cc nL ret → Cw D cA s (va_A ws s.heap.size) ws s.heap [] → lv_has ls nL (lv_args 0 as) →
      W p l e rm s m args below meth c s.heap [] 0 0 (MQ below (va_Qf post (fun u t => Qw D ws s.heap.size (wo u) t) (va_A ws s.heap.size)) args s mc ms (va_A ws s.heap.size)) (F0 m 0 ls [])) : MetF l y (.code y cc nL ret :: LW) rm D cA ws as post wo mc ms :=
  k_body (Qc := fun sz => va_Qf post (fun u t => Qw D ws sz (wo u) t) (va_A ws sz)) hy hn body
theorem k_bodyB {post : UInt64 → S → Prop} (hy : plainFor y = true) (hn : (lg_sl as).length ≤ nL)
    (body : ∀ (p : Program) (e : Env) (s : State) (m : MethodId) (args : Array Value) (below : List Frame) (meth : Method) (c : Code) (ls : Array Slot), Fx p s m args meth c y cc nL ret → Cw D cA s (va_A ws s.heap.size) ws s.heap [] → lv_has ls nL (lv_args 0 as) →
      W p l e rm s m args below meth c s.heap [] 0 0 (MQ below (va_Qd post (fun u t => Qw D ws s.heap.size (wo u) t) (va_A ws s.heap.size)) args s mc ms (va_A ws s.heap.size)) (F0 m 0 ls [])) : MetB l y (.code y cc nL ret :: LW) rm D cA ws as post wo mc ms :=
  k_body (Qc := fun sz => va_Qd post (fun u t => Qw D ws sz (wo u) t) (va_A ws sz)) hy hn body
theorem k_bodyR {post : Option Nat → S → Prop} (hy : plainFor y = true) (hn : (lg_sl as).length ≤ nL)
    (body : ∀ (p : Program) (e : Env) (s : State) (m : MethodId) (args : Array Value) (below : List Frame) (meth : Method) (c : Code) (ls : Array Slot), Fx p s m args meth c y cc nL ret → Cw D cA s (va_A ws s.heap.size) ws s.heap [] → lv_has ls nL (lv_args 0 as) →
      W p l e rm s m args below meth c s.heap [] 0 0 (MQ below (va_Qq post (fun u t => Qw D ws s.heap.size (wo u) t) (va_A ws s.heap.size)) args s mc ms (va_A ws s.heap.size)) (F0 m 0 ls [])) : MetR l y (.code y cc nL ret :: LW) rm D cA ws as post wo mc ms :=
  k_body (Qc := fun sz => va_Qq post (fun u t => Qw D ws sz (wo u) t) (va_A ws sz)) hy hn body
end BODY
theorem wi_t {v lo hi : Int32} (h : ¬ v < lo) (h2 : ¬ hi < v) : 1 = b2i (wi v lo hi) := by
  have a : lo ≤ v := Int32.not_lt.mp h
  have b : v ≤ hi := Int32.not_lt.mp h2
  simp [wi, b2i, a, b]
theorem wi_f1 {v lo hi : Int32} (h : v < lo) : 0 = b2i (wi v lo hi) := by
  have a : ¬ lo ≤ v := Int32.not_le.mpr h
  simp [wi, b2i, a]
theorem wi_f2 {v lo hi : Int32} (h : hi < v) : 0 = b2i (wi v lo hi) := by
  have a : ¬ v ≤ hi := Int32.not_le.mpr h
  simp [wi, b2i, a]
