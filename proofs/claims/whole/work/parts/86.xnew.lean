/-! New cells -/
def MetZ (z0 : Nat) (l : Launch) (y : MethodName) (wy : List Cond) (rm : Room) (D : va_G) (cA : Nat → ClassId) (ws : va_W) (as : List Value) {S : Type} (post : S → Prop) (wo : S → va_W) (mc ms : Nat) : Prop := ∀ sz : Nat, Met l y wy rm (va_Pc as (Pz z0 D cA sz ws)) (va_Qv post (fun u t => Qw D ws sz (wo u) t) (va_A ws sz)) mc ms (va_A ws sz)
theorem k_bodyZ {z0 : Nat} {l : Launch} {y : MethodName} {cc : ByteArray} {nL : Nat} {ret : Option FieldType} {rm : Room} {D : va_G} {cA : Nat → ClassId} {ws : va_W} {as : List Value} {S : Type} {post : S → Prop} {wo : S → va_W} {mc ms : Nat} (hy : plainFor y = true) (hn : (lg_sl as).length ≤ nL)
    (body : ∀ (p : Program) (e : Env) (s : State) (m : MethodId) (args : Array Value) (below : List Frame) (meth : Method) (c : Code) (ls : Array Slot), Fx p s m args meth c y cc nL ret → TH z0 s → Cw D cA s (va_A ws s.heap.size) ws s.heap [] → lv_has ls nL (lv_args 0 as) →
      W p l e rm s m args below meth c s.heap [] 0 0 (MQ below (va_Qv post (fun u t => Qw D ws s.heap.size (wo u) t) (va_A ws s.heap.size)) args s mc ms (va_A ws s.heap.size)) (F0 m 0 ls [])) : MetZ z0 l y (.code y cc nL ret :: LW) rm D cA ws as post wo mc ms := by
  intro sz
  refine k_ofW (cc := cc) (nL := nL) (ret := ret) hy rfl ?_
  intro p e s m args below meth c s₁ B hml hv
  obtain ⟨rfl, hv, hth, -, -⟩ := hv
  obtain ⟨rfl, hC⟩ := Cw.entry hv
  have hts := atoms_spec (ws := .code y cc nL ret :: LW) B.pre
  have hl := lv_entry as (n := nL) hn
  rw [lg_entry_eq]
  exact body p e s m _ below meth c _ ⟨B.exec, B.bytes, B.returns, hml, findClass_of_methodNamed B.named, fun w h => hts w (List.mem_cons_of_mem _ h), B.notSynchronized, (name_of_methodNamed B.named B.method).1⟩ hth hC hl
section XN
variable {p : Program} {l : Launch} {e : Env} {R : Room} {s : State} {m : MethodId} {args : Array Value} {below : List Frame} {meth : Method} {c : Code} {H : Heap} {locs : List Loc} {cells slots : Nat} {Q : State → Prop} {z0 : Nat}
variable {cc : ByteArray} {pc : Nat} {ls : Array Slot} {rest st : List Value} {D : va_G} {cA : Nat → ClassId} {A : Nat → Prop} {ws ws0 : va_W} {y0 : MethodName} {nL : Nat} {ret : Option FieldType} {S : Type} {mc ms : Nat}
/-- Object.<init> -/
theorem k_obj {own : String} {idx a : Nat} (F : Fx p s m args meth c y0 cc nL ret) (hown : y0.cls = own) (h1 : Cond.methodLink own idx ⟨"java/lang/Object", "<init>", "()V"⟩ ∈ LW) (hsz : ls.size = nL) (hroom : (rest.map fun v => v.category).sum ≤ 8) (hR : 1 ≤ R.frames ∧ 30 ≤ R.locals) (hdg : decode cc pc = .ok (.invokespecial idx, 3))
    (kk : W p l e R s m args below meth c H locs cells slots Q (F0 m (pc + 3) ls rest)) : W p l e R s m args below meth c H locs cells slots Q (F0 m pc ls (.ref a :: rest)) :=
  W.objInit F.1 F.2.1 (by rw [← hown]; exact F.2.2.2.2.1) (F.2.2.2.2.2.1 _ h1) (F.2.2.2.2.2.1 _ IM_JO_init) (F.2.2.2.2.2.1 _ CO_JO_init) rfl (by rw [F.2.2.2.1]; exact hsz) rfl hdg hR.1 (by show 2 * 0 + _ + 12 ≤ _; omega) kk
/-- a new object -/
theorem k_new {ci N idx : Nat} {own C : String} {T : u_T} {ty0 : Nat → FieldType} {fs : List Value} (F : Fx p s m args meth c y0 cc nL ret) (hW : Cw D cA s A ws H locs) (hin : ∀ w ∈ u_ws C T N, w ∈ LW) (hty : ∀ k, k < N → parseFieldDescriptor (T k).2.2.1 = some (ty0 k)) (hown : y0.cls = own) (hcl : Cond.classLink own idx C ∈ LW) (hinst : Cond.instantiable C N ∈ LW) (hini : Cond.initialized C ∈ LW) (hc : vwCl[ci]? = some (C, T, N)) (hfs : ∀ j, j < N → defaultValue (ty0 j) = vp_V fs j) (hcells : cells + 1 ≤ R.cells) (hslots : slots + N ≤ R.slots) (hdg : decode cc pc = .ok (.new idx, 3))
    (kk : ∀ (q : Nat) (H1 : Heap), Cw D cA s A (ws ++ [(q, .inr (ci, fs))]) H1 locs → W p l e R s m args below meth c H1 locs (cells + 1) (slots + N) Q (F0 m (pc + 3) ls (.ref q :: rest))) : W p l e R s m args below meth c H locs cells slots Q (F0 m pc ls rest) :=
  va_new (D := D) F.1 F.2.1 F.2.2.2.2.2.1 hin ty0 hty (by rw [← hown]; exact F.2.2.2.2.1) (F.2.2.2.2.2.1 _ hcl) (F.2.2.2.2.2.1 _ hinst) (F.2.2.2.2.2.1 _ hini) hW.1 hW.2.1 hW.2.2.1 hW.2.2.2.1 hW.2.2.2.2 hc hfs hcells hslots hdg (fun q H1 hP hD hS => kk q H1 (hW.mk hP hD hS))
/-- a final field, by its constructor -/
theorem k_putF {ci N idx a : Nat} {own C : String} {T : u_T} {fs : List Value} {v : Value} {ty0 : Nat → FieldType} {ty : FieldType} (F : Fx p s m args meth c y0 cc nL ret) (hW : Cw D cA s A ws H locs) (hin : ∀ w ∈ u_ws C T N, w ∈ LW) (hty : ∀ k, k < N → parseFieldDescriptor (T k).2.2.1 = some (ty0 k)) (hnm : ∀ a, a < N → ∀ b, b < N → a ≠ b → (T a).2.1 ≠ (T b).2.1) (hown : y0.cls = own) (hini : y0.name = "<init>") (q0 : Nat) (he : ws[q0]? = some (a, .inr (ci, fs))) (hc0 : vwCl[ci]? = some (C, T, N)) (k : Nat) (hk : k < N) (hlink : Cond.fieldLink own idx C (T k).2.1 (T k).2.2.1 ∈ LW) (hC : (T k).1 = C) (hfin : (T k).2.2.2 = true) (hCo : C = own) (hd : ty0 k = ty) (hn : narrow ty v = v) (hfit : fits ty v = true) (hl : k < fs.length) (ws' : va_W) (he' : ws.set q0 (a, .inr (ci, fs.set k v)) = ws') (hdg : decode cc pc = .ok (.putfield idx, 3))
    (kk : ∀ (H1 : Heap) (locs1 : List Loc), Cw D cA s A ws' H1 locs1 → W p l e R s m args below meth c H1 locs1 cells slots Q (F0 m (pc + 3) ls rest)) : W p l e R s m args below meth c H locs cells slots Q (F0 m pc ls (v :: .ref a :: rest)) := by
  refine va_putF (D := D) (own := own) (ref := C) (ty := ty) F.1 F.2.1 F.2.2.2.2.2.1 hin ty0 hty hnm (by rw [← hown]; exact F.2.2.2.2.1) hW.1 hW.2.1 hW.2.2.1 hW.2.2.2.1 q0 he hc0 k hk (F.2.2.2.2.2.1 _ hlink) (fun _ h => by rw [hC] at h; exact h) hfin (F.2.2.2.2.2.2.2.trans hini) (hC.trans hCo) (by rw [← hd]; exact hty k hk) hn hfit hl hdg (fun H1 locs1 hP hD hS => ?_)
  rw [he'] at hP hD
  exact kk H1 locs1 (hW.mk hP hD hS)
/-- a new row of ints -/
theorem k_newi {n : Int32} {N' : Nat} (F : Fx p s m args meth c y0 cc nL ret) (hW : Cw D cA s A ws H locs) (hn : ¬ n < 0) (hN : n.toNatClampNeg = N') (hb : N' * 4 ≤ 536870912) (hcells : cells + 1 ≤ R.cells) (hslots : slots + N' ≤ R.slots) (hdg : decode cc pc = .ok (.newarray .int, 2))
    (kk : ∀ (q : Nat) (H1 : Heap), Cw D cA s A (ws ++ [(q, .inl (cA 0, N', .inl (fun _ => 0)))]) H1 locs → W p l e R s m args below meth c H1 locs (cells + 1) (slots + N') Q (F0 m (pc + 2) ls (.ref q :: rest))) : W p l e R s m args below meth c H locs cells slots Q (F0 m pc ls (.int n :: rest)) := by
  refine va_newa (D := D) (tys := tyL cA) (atype := .int) F.1 F.2.1 (F.2.2.2.2.2.1 _ AC_int) (ty := .int) rfl hW.1 hW.2.1 hW.2.2.1 hW.2.2.2.1 hW.2.2.2.2 (a0 := (N', .inl (fun _ => 0))) (fun _ => rfl) hn hN hb hcells hslots hdg (fun q cl H1 hK hP hD hS => ?_)
  have h1 := (hK.2 10 (cl, .int) rfl).2
  have h2 := (hW.1.2 0 (cA 0, .int) rfl).2
  have e : cl = cA 0 := Option.some.inj (h1.symm.trans h2)
  subst e
  exact kk q H1 (hW.mk hP hD hS)
/-- a new row of references -/
theorem k_newq {n : Int32} {N' idx tI : Nat} {own C : String} {cl : ClassId} (F : Fx p s m args meth c y0 cc nL ret) (hW : Cw D cA s A ws H locs) (hown : y0.cls = own) (hcl : Cond.classLink own idx C ∈ LW) (hao : va_AO C s) (ht : (tyL cA)[tI]? = some (cl, .object C)) (hn : ¬ n < 0) (hN : n.toNatClampNeg = N') (hb : N' * 4 ≤ 536870912) (hcells : cells + 1 ≤ R.cells) (hslots : slots + N' ≤ R.slots) (hdg : decode cc pc = .ok (.anewarray idx, 3))
    (kk : ∀ (q : Nat) (H1 : Heap), Cw D cA s A (ws ++ [(q, .inl (cl, rfA N' (fun _ => none)))]) H1 locs → W p l e R s m args below meth c H1 locs (cells + 1) (slots + N') Q (F0 m (pc + 3) ls (.ref q :: rest))) : W p l e R s m args below meth c H locs cells slots Q (F0 m pc ls (.int n :: rest)) := by
  refine va_newq (D := D) (tys := tyL cA) F.1 F.2.1 (by rw [← hown]; exact F.2.2.2.2.1) (F.2.2.2.2.2.1 _ hcl) hao hW.1 hW.2.1 hW.2.2.1 hW.2.2.2.1 hW.2.2.2.2 hn hN hb hcells hslots hdg (fun q cl' H1 hK hP hD hS => ?_)
  obtain ⟨-, -, -, -, -, h1⟩ := (hK.2 10 (cl', .object C) rfl).2
  obtain ⟨-, -, -, -, -, h2⟩ := (hW.1.2 tI (cl, .object C) ht).2
  have e : cl' = cl := Option.some.inj (h1.symm.trans h2)
  subst e
  exact kk q H1 (hW.mk hP hD hS)
/-- a constructor is called -/
theorem k_callI {post : S → Prop} {wo : S → va_W} {own : String} {idx ny n : Nat} {y : MethodName} {cy : ByteArray} {rm : Room} {b : Nat} {as : List Value} (F : Fx p s m args meth c y0 cc nL ret) (hW : Cw D cA s A ws H locs) (hM : MetV l y (.code y cy ny none :: LW) rm D cA ws (.ref b :: as) post wo mc ms) (hown : y0.cls = own) (hnm : y.name = "<init>") (h1 : Cond.methodLink own idx y ∈ LW) (h2 : Cond.instanceMethod y ∈ LW) (h4 : Cond.initialized y.cls ∈ LW) (h5 : Cond.code y cy ny none ∈ LW)
    (hd : y.cls ≠ "java/lang/invoke/MethodHandle" ∧ y.cls ≠ "java/lang/invoke/VarHandle" ∧ (parseMethodDescriptor y.desc).map (fun d => d.parameters.length) = some n) (hrc : rm.cells = mc) (hrs : rm.slots = ms) (hR : rm.frames + 1 ≤ R.frames ∧ 8 + (ny + 11) + rm.locals ≤ R.locals)
    (hn : as.length = n) (hst : st = as.reverse ++ .ref b :: rest) (hsz : ls.size = nL) (hroom : (rest.map fun v => v.category).sum ≤ 8) (hdg : decode cc pc = .ok (.invokespecial idx, 3)) (hf : cells + mc ≤ R.cells ∧ slots + ms ≤ R.slots)
    (kk : ∀ (u : S) (H1 : Heap) (locs1 : List Loc), post u → Cw D cA s A (wo u) H1 locs1 → W p l e R s m args below meth c H1 locs1 (cells + mc) (slots + ms) Q (F0 m (pc + 3) ls rest)) : W p l e R s m args below meth c H locs cells slots Q (F0 m pc ls st) := by
  subst hst
  have hcb : CallB R s args own idx y cy ny none (.code y cy ny none :: LW) rm mc ms n ∧ y.name = "<init>" ∧ (Cond.instanceMethod y).before args s = true := ⟨callB_of n F.2.2.2.2.2.1 (g_I h5) rfl hrc hrs (F.2.2.2.2.2.1 _ h4) (F.2.2.2.2.2.1 _ h1) hd hR, hnm, F.2.2.2.2.2.1 _ h2⟩
  refine va_callv (va_runI (As := as) (b := b) (rest := rest) (own := own) ⟨F.1, F.2.1, F.2.2.2.1, by rw [← hown]; exact F.2.2.2.2.1, F.2.2.2.2.2.1⟩ (hM H.size) hcb ⟨Pw.blind, fun U hU hWm => ⟨rfl, hW.pre U hU hWm⟩⟩ rfl hn hsz rfl (lv_room hroom) hdg hf) hW.2.2.2.1 (fun q _ h => hW.free q h) (fun q h => hW.free q h) (fun u t H1 locs1 ht hvm hw hB hz1 hk1 hS => ?_)
  exact kk u H1 locs1 hw (hW.back hB ht hS)
/-- a constructor is called that makes rows of references -/
theorem k_callZ {post : S → Prop} {wo : S → va_W} {own : String} {idx ny n : Nat} {y : MethodName} {cy : ByteArray} {rm : Room} {b : Nat} {as : List Value} (F : Fx p s m args meth c y0 cc nL ret) (G : GX z0 s ws0 l c) (hW : Cw D cA s (va_A ws0 s.heap.size) ws H locs) (hM : MetZ z0 l y (.code y cy ny none :: LW) rm D cA ws (.ref b :: as) post wo mc ms) (hown : y0.cls = own) (hnm : y.name = "<init>") (h1 : Cond.methodLink own idx y ∈ LW) (h2 : Cond.instanceMethod y ∈ LW) (h4 : Cond.initialized y.cls ∈ LW) (h5 : Cond.code y cy ny none ∈ LW)
    (hd : y.cls ≠ "java/lang/invoke/MethodHandle" ∧ y.cls ≠ "java/lang/invoke/VarHandle" ∧ (parseMethodDescriptor y.desc).map (fun d => d.parameters.length) = some n) (hrc : rm.cells = mc) (hrs : rm.slots = ms) (hR : rm.frames + 1 ≤ R.frames ∧ 8 + (ny + 11) + rm.locals ≤ R.locals)
    (hn : as.length = n) (hst : st = as.reverse ++ .ref b :: rest) (hsz : ls.size = nL) (hroom : (rest.map fun v => v.category).sum ≤ 8) (hdg : decode cc pc = .ok (.invokespecial idx, 3)) (hf : cells + mc ≤ R.cells ∧ slots + ms ≤ R.slots)
    (kk : ∀ (u : S) (H1 : Heap) (locs1 : List Loc), post u → Cw D cA s (va_A ws0 s.heap.size) (wo u) H1 locs1 → W p l e R s m args below meth c H1 locs1 (cells + mc) (slots + ms) Q (F0 m (pc + 3) ls rest)) : W p l e R s m args below meth c H locs cells slots Q (F0 m pc ls st) := by
  subst hst
  have hcb : CallB R s args own idx y cy ny none (.code y cy ny none :: LW) rm mc ms n ∧ y.name = "<init>" ∧ (Cond.instanceMethod y).before args s = true := ⟨callB_of n F.2.2.2.2.2.1 (g_I h5) rfl hrc hrs (F.2.2.2.2.2.1 _ h4) (F.2.2.2.2.2.1 _ h1) hd hR, hnm, F.2.2.2.2.2.1 _ h2⟩
  refine va_callv (va_runI (As := as) (b := b) (rest := rest) (own := own) ⟨F.1, F.2.1, F.2.2.2.1, by rw [← hown]; exact F.2.2.2.2.1, F.2.2.2.2.2.1⟩ (hM H.size) hcb ⟨Pz.blind, fun U hU hWm => ⟨rfl, G.pre hW U hU hWm⟩⟩ rfl hn hsz rfl (lv_room hroom) hdg hf) hW.2.2.2.1 (fun q _ h => hW.free q h) (fun q h => hW.free q h) (fun u t H1 locs1 ht hvm hw hB hz1 hk1 hS => ?_)
  exact kk u H1 locs1 hw (hW.back hB ht hS)
end XN
