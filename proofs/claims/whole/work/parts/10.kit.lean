/-! The one-world layer: every method's contract has the whole world as a list; a call passes it and gets it back. -/
section
theorem g_V {own : String} {idx : Nat} {C : String} {y : MethodName} {cc : ByteArray} {n : Nat} {ret : Option FieldType} (h1 : Cond.methodLink own idx y ∈ LW) (h2 : Cond.instanceMethod y ∈ LW) (h3 : Cond.selects C y y ∈ LW) (h4 : Cond.initialized C ∈ LW) (h5 : Cond.code y cc n ret ∈ LW) : GoodIn LW (wsV own idx C y (.code y cc n ret :: LW)) := by
  intro w hw
  have : w ∈ LW := by
    unfold wsV at hw
    simp only [List.cons_append, List.nil_append, List.mem_cons] at hw
    rcases hw with rfl | rfl | rfl | rfl | rfl | h <;> assumption
  exact ⟨this, lw_good w this⟩
theorem g_S {own : String} {idx : Nat} {y : MethodName} {cc : ByteArray} {n : Nat} {ret : Option FieldType} (h1 : Cond.methodLink own idx y ∈ LW) (h2 : Cond.static y ∈ LW) (h4 : Cond.initialized y.cls ∈ LW) (h5 : Cond.code y cc n ret ∈ LW) : GoodIn LW (va_wsS own idx y (.code y cc n ret :: LW)) := by
  intro w hw
  have : w ∈ LW := by
    unfold va_wsS at hw
    simp only [List.cons_append, List.nil_append, List.mem_cons] at hw
    rcases hw with rfl | rfl | rfl | rfl | h <;> assumption
  exact ⟨this, lw_good w this⟩
theorem g_I {y : MethodName} {cc : ByteArray} {n : Nat} {ret : Option FieldType} (h5 : Cond.code y cc n ret ∈ LW) : GoodIn LW (.code y cc n ret :: LW) := by
  intro w hw
  have : w ∈ LW := by
    simp only [List.mem_cons] at hw
    rcases hw with rfl | h <;> assumption
  exact ⟨this, lw_good w this⟩
theorem g_SW {own : String} {idx : Nat} {y : MethodName} {cc : ByteArray} {n : Nat} {ret : Option FieldType} {hh : List (Nat × Nat × Nat × Nat)} (h1 : Cond.methodLink own idx y ∈ LW) (h2 : Cond.static y ∈ LW) (h4 : Cond.initialized y.cls ∈ LW) (h5 : Cond.codeWith y cc n ret hh ∈ LW) : GoodIn LW (va_wsS own idx y (.codeWith y cc n ret hh :: LW)) := by
  intro w hw
  have : w ∈ LW := by
    unfold va_wsS at hw
    simp only [List.cons_append, List.nil_append, List.mem_cons] at hw
    rcases hw with rfl | rfl | rfl | rfl | h <;> assumption
  exact ⟨this, lw_good w this⟩
end
/-- the array classes, by number -/
abbrev tyL (cA : Nat → ClassId) : List (ClassId × FieldType) := [(cA 0, .int), (cA 1, .boolean), (cA 2, .char), (cA 3, .float), (cA 4, .long), (cA 5, .double), (cA 6, .object RX0), (cA 7, .object RX2), (cA 8, .object RX1), (cA 9, .object RX3)]
/-- a method's start: the world in the heap -/
def Pw (D : va_G) (cA : Nat → ClassId) (sz : Nat) (ws : va_W) (U : State) : Prop := U.heap.size = sz ∧ va_P D vwCl ws U.heap ∧ va_K D vwCl (tyL cA) U ∧ va_D (fun _ => True) ws
/-- its end -/
def Qw (D : va_G) (ws0 : va_W) (sz : Nat) (ws : va_W) (t : State) : Prop := va_P D vwCl ws t.heap ∧ va_D (va_A ws0 sz) ws
/-- in between -/
def Cw (D : va_G) (cA : Nat → ClassId) (s : State) (A : Nat → Prop) (ws : va_W) (H : Heap) (locs : List Loc) : Prop := va_K D vwCl (tyL cA) s ∧ va_P D vwCl ws H ∧ va_D A ws ∧ va_S A s.heap H locs ∧ ∀ q : Nat, s.heap.size ≤ q → A q
/-- what stands fast in a body -/
def Fx (p : Program) (s : State) (m : MethodId) (args : Array Value) (meth : Method) (c : Code) (y : MethodName) (cc : ByteArray) (nL : Nat) (ret : Option FieldType) : Prop := p.tables.exec = Jvm.exec ∧ c.code = cc ∧ meth.sig.returnType = ret ∧ c.maxLocals = nL ∧ s.vm.findClass y.cls = some m.cls ∧ (∀ w ∈ LW, w.before args s = true) ∧ meth.locks = false ∧ meth.name = y.name
theorem Pw.blind {D : va_G} {cA : Nat → ClassId} {sz : Nat} {ws : va_W} {av : List Value} : FrameBlind (va_Pc av (Pw D cA sz ws)) := fun a U g mk q => by
  obtain ⟨q0, q1, q2, q3, q4⟩ := q
  exact ⟨q0, q1, q2, va_K.moved (u := U) (U := U.calling g mk a) (Vm.Alike.refl U.vm) q3, q4⟩
theorem Cw.entry {D : va_G} {cA : Nat → ClassId} {s : State} {ws : va_W} {sz : Nat} (h : Pw D cA sz ws s) : sz = s.heap.size ∧ Cw D cA s (va_A ws s.heap.size) ws s.heap [] := ⟨h.1.symm, h.2.2.1, h.2.1, h.2.2.2.self, va_S.rf, fun _ h => Or.inr h⟩
theorem Cw.pre {D : va_G} {cA : Nat → ClassId} {s : State} {A : Nat → Prop} {ws : va_W} {H : Heap} {locs : List Loc} (h : Cw D cA s A ws H locs) : ∀ U : State, U.heap = H → s.WarmedH U.vm → Pw D cA H.size ws U := fun U hU hW => ⟨by rw [hU], by rw [hU]; exact h.2.1, va_K.moved hW.alike h.1, h.2.2.1.weaken (fun _ _ _ _ => trivial)⟩
theorem Cw.free {D : va_G} {cA : Nat → ClassId} {s : State} {A : Nat → Prop} {ws : va_W} {H : Heap} {locs : List Loc} (h : Cw D cA s A ws H locs) : ∀ q, va_A ws H.size q → A q := by
  intro q hq
  rcases hq with ⟨k, e, hk⟩ | hq
  · exact h.2.2.1.2 k (q, e) hk
  · exact h.2.2.2.2 q (Nat.le_trans h.2.2.2.1.1 hq)
theorem Cw.back {D : va_G} {cA : Nat → ClassId} {s : State} {A : Nat → Prop} {ws ws1 : va_W} {H H1 : Heap} {locs locs1 : List Loc} {t : State} (h : Cw D cA s A ws H locs) (hQ : Qw D ws H.size ws1 t) (ht : t.heap = H1) (hS : va_S A s.heap H1 locs1) : Cw D cA s A ws1 H1 locs1 := ⟨h.1, by rw [← ht]; exact hQ.1, hQ.2.weaken (fun _ q _ hq => h.free q.1 hq), hS, h.2.2.2.2⟩
theorem Cw.mk {D : va_G} {cA : Nat → ClassId} {s : State} {A : Nat → Prop} {ws ws1 : va_W} {H H1 : Heap} {locs locs1 : List Loc} (h : Cw D cA s A ws H locs) (hP : va_P D vwCl ws1 H1) (hD : va_D A ws1) (hS : va_S A s.heap H1 locs1) : Cw D cA s A ws1 H1 locs1 := ⟨h.1, hP, hD, hS, h.2.2.2.2⟩
/-- contracts: an int, nothing, a long, a float, a double, a reference or null -/
def MetI (l : Launch) (y : MethodName) (wy : List Cond) (rm : Room) (D : va_G) (cA : Nat → ClassId) (ws : va_W) (as : List Value) {S : Type} (post : Int32 → S → Prop) (wo : S → va_W) (mc ms : Nat) : Prop := ∀ sz : Nat, Met l y wy rm (va_Pc as (Pw D cA sz ws)) (va_Qi post (fun u t => Qw D ws sz (wo u) t) (va_A ws sz)) mc ms (va_A ws sz)
def MetV (l : Launch) (y : MethodName) (wy : List Cond) (rm : Room) (D : va_G) (cA : Nat → ClassId) (ws : va_W) (as : List Value) {S : Type} (post : S → Prop) (wo : S → va_W) (mc ms : Nat) : Prop := ∀ sz : Nat, Met l y wy rm (va_Pc as (Pw D cA sz ws)) (va_Qv post (fun u t => Qw D ws sz (wo u) t) (va_A ws sz)) mc ms (va_A ws sz)
def MetL (l : Launch) (y : MethodName) (wy : List Cond) (rm : Room) (D : va_G) (cA : Nat → ClassId) (ws : va_W) (as : List Value) {S : Type} (post : Int64 → S → Prop) (wo : S → va_W) (mc ms : Nat) : Prop := ∀ sz : Nat, Met l y wy rm (va_Pc as (Pw D cA sz ws)) (va_Ql post (fun u t => Qw D ws sz (wo u) t) (va_A ws sz)) mc ms (va_A ws sz)
def MetF (l : Launch) (y : MethodName) (wy : List Cond) (rm : Room) (D : va_G) (cA : Nat → ClassId) (ws : va_W) (as : List Value) {S : Type} (post : UInt32 → S → Prop) (wo : S → va_W) (mc ms : Nat) : Prop := ∀ sz : Nat, Met l y wy rm (va_Pc as (Pw D cA sz ws)) (va_Qf post (fun u t => Qw D ws sz (wo u) t) (va_A ws sz)) mc ms (va_A ws sz)
def MetB (l : Launch) (y : MethodName) (wy : List Cond) (rm : Room) (D : va_G) (cA : Nat → ClassId) (ws : va_W) (as : List Value) {S : Type} (post : UInt64 → S → Prop) (wo : S → va_W) (mc ms : Nat) : Prop := ∀ sz : Nat, Met l y wy rm (va_Pc as (Pw D cA sz ws)) (va_Qd post (fun u t => Qw D ws sz (wo u) t) (va_A ws sz)) mc ms (va_A ws sz)
def MetR (l : Launch) (y : MethodName) (wy : List Cond) (rm : Room) (D : va_G) (cA : Nat → ClassId) (ws : va_W) (as : List Value) {S : Type} (post : Option Nat → S → Prop) (wo : S → va_W) (mc ms : Nat) : Prop := ∀ sz : Nat, Met l y wy rm (va_Pc as (Pw D cA sz ws)) (va_Qq post (fun u t => Qw D ws sz (wo u) t) (va_A ws sz)) mc ms (va_A ws sz)
/-- a walk over the body, of a method that no row of the natives stands in for -/
theorem k_ofW {l : Launch} {y : MethodName} {ws ws' : List Cond} {rm : Room} {Pc : Array Value → State → Prop} {Qc : Array Value → State → Outcome → State → Prop} {mc ms : Nat} {free : Addr → Prop} {cc : ByteArray} {nL : Nat} {ret : Option FieldType} (hy : plainFor y = true) (hw : ws = Cond.code y cc nL ret :: ws')
    (body : ∀ (p : Program) (e : Env) (s : State) (m : MethodId) (args : Array Value) (below : List Frame) (meth : Method) (c : Code) (s₁ : State), BodyLoose p l y (headSpec ws rm) cc nL ret e s m args below meth c s₁ → c.maxLocals = nL → Pc args s → W p l e (headSpec ws rm).room s m args below meth c s.heap [] 0 0 (MQ below Qc args s mc ms free) (entryFrame m args nL)) : Met l y ws rm Pc Qc mc ms free := by
  refine MetFree.of_bodySF (code := cc) (maxLocals := nL) (ret := ret) hy (fun args s m h hn => ?_) (fun p e s m args below meth c s₁ B hml hP _ => ?_)
  · obtain ⟨meth, c, a1, a2, a3, a4, a5, a6, -, -⟩ := Cond.code_spec hn (atoms_spec (ws := ws) h _ (by rw [hw]; exact List.mem_cons_self))
    exact ⟨meth, c, a1, a2, a3, a4, a5, a6⟩
  · obtain ⟨t, a1, o, b1, b2, b3, b4⟩ := body p e s m args below meth c s₁ B hml hP s₁ (by rw [B.state]; rfl) (Stand.of_body B)
    exact ⟨t, o, a1, b1, b2, b3, b4⟩
/-- a body, with what it may use at its start -/
theorem k_body {l : Launch} {y : MethodName} {cc : ByteArray} {nL : Nat} {ret : Option FieldType} {rm : Room} {D : va_G} {cA : Nat → ClassId} {ws : va_W} {as : List Value} {Qc : Nat → Array Value → State → Outcome → State → Prop} {mc ms : Nat} (hy : plainFor y = true) (hn : (lg_sl as).length ≤ nL)
    (body : ∀ (p : Program) (e : Env) (s : State) (m : MethodId) (args : Array Value) (below : List Frame) (meth : Method) (c : Code) (ls : Array Slot), Fx p s m args meth c y cc nL ret → Cw D cA s (va_A ws s.heap.size) ws s.heap [] → lv_has ls nL (lv_args 0 as) →
      W p l e rm s m args below meth c s.heap [] 0 0 (MQ below (Qc s.heap.size) args s mc ms (va_A ws s.heap.size)) (F0 m 0 ls [])) :
    ∀ sz : Nat, Met l y (.code y cc nL ret :: LW) rm (va_Pc as (Pw D cA sz ws)) (Qc sz) mc ms (va_A ws sz) := by
  intro sz
  refine k_ofW (cc := cc) (nL := nL) (ret := ret) hy rfl ?_
  intro p e s m args below meth c s₁ B hml hv
  obtain ⟨rfl, hv⟩ := hv
  obtain ⟨rfl, hC⟩ := Cw.entry hv
  have hts := atoms_spec (ws := .code y cc nL ret :: LW) B.pre
  have hl := lv_entry as (n := nL) hn
  rw [lg_entry_eq]
  exact body p e s m _ below meth c _ ⟨B.exec, B.bytes, B.returns, hml, findClass_of_methodNamed B.named, fun w h => hts w (List.mem_cons_of_mem _ h), B.notSynchronized, (name_of_methodNamed B.named B.method).1⟩ hC hl
section KIT
variable {p : Program} {l : Launch} {e : Env} {R : Room} {s : State} {m : MethodId} {args : Array Value} {below : List Frame} {meth : Method} {c : Code} {H : Heap} {locs : List Loc} {cells slots : Nat} {Q : State → Prop}
variable {cc : ByteArray} {pc : Nat} {ls : Array Slot} {rest st : List Value} {D : va_G} {cA : Nat → ClassId} {A : Nat → Prop} {ws ws0 : va_W} {y0 : MethodName} {nL : Nat} {ret : Option FieldType} {S : Type} {mc ms mc0 ms0 : Nat}
-- ends
theorem k_iret {post : Int32 → S → Prop} {wo : S → va_W} {v : Int32} (u : S) (F : Fx p s m args meth c y0 cc nL (some .int)) (hW : Cw D cA s (va_A ws0 s.heap.size) (wo u) H locs) (hp : post v u) (hdg : decode cc pc = .ok (.ireturn, 1)) (hc : cells ≤ mc) (hs : slots ≤ ms) : W p l e R s m args below meth c H locs cells slots (MQ below (va_Qi post (fun u t => Qw D ws0 s.heap.size (wo u) t) (va_A ws0 s.heap.size)) args s mc ms (va_A ws0 s.heap.size)) (F0 m pc ls [.int v]) := by
  refine W.widen (k := mc) (n := ms) hc hs ?_
  exact W.iret (v := v) F.1 F.2.1 F.2.2.1 (fun t ht _ => ⟨⟨v, u, rfl, hp, ⟨by rw [ht]; exact hW.2.1, hW.2.2.1⟩⟩, hW.2.2.2.1.F ht⟩) hW.2.2.2.1.2.2 hdg F.2.2.2.2.2.2.1
theorem k_zret {post : Int32 → S → Prop} {wo : S → va_W} {v : Int32} {ty : FieldType} (u : S) (F : Fx p s m args meth c y0 cc nL (some ty)) (hn : narrow ty (.int v) = .int v) (hW : Cw D cA s (va_A ws0 s.heap.size) (wo u) H locs) (hp : post v u) (hdg : decode cc pc = .ok (.ireturn, 1)) (hc : cells ≤ mc) (hs : slots ≤ ms) : W p l e R s m args below meth c H locs cells slots (MQ below (va_Qi post (fun u t => Qw D ws0 s.heap.size (wo u) t) (va_A ws0 s.heap.size)) args s mc ms (va_A ws0 s.heap.size)) (F0 m pc ls [.int v]) := by
  refine W.widen (k := mc) (n := ms) hc hs ?_
  exact W.zret (v := v) F.1 F.2.1 F.2.2.1 hn (fun t ht _ => ⟨⟨v, u, rfl, hp, ⟨by rw [ht]; exact hW.2.1, hW.2.2.1⟩⟩, hW.2.2.2.1.F ht⟩) hW.2.2.2.1.2.2 hdg F.2.2.2.2.2.2.1
theorem k_vret {post : S → Prop} {wo : S → va_W} (u : S) (F : Fx p s m args meth c y0 cc nL none) (hW : Cw D cA s (va_A ws0 s.heap.size) (wo u) H locs) (hp : post u) (hdg : decode cc pc = .ok (.return_, 1)) (hc : cells ≤ mc) (hs : slots ≤ ms) : W p l e R s m args below meth c H locs cells slots (MQ below (va_Qv post (fun u t => Qw D ws0 s.heap.size (wo u) t) (va_A ws0 s.heap.size)) args s mc ms (va_A ws0 s.heap.size)) (F0 m pc ls []) := by
  refine W.widen (k := mc) (n := ms) hc hs ?_
  exact W.vret F.1 F.2.1 F.2.2.1 (fun t ht _ => ⟨⟨u, rfl, hp, ⟨by rw [ht]; exact hW.2.1, hW.2.2.1⟩⟩, hW.2.2.2.1.F ht⟩) hW.2.2.2.1.2.2 hdg F.2.2.2.2.2.2.1
-- calls: virtual, static; the answer an int
theorem k_callVi {post : Int32 → S → Prop} {wo : S → va_W} {own C : String} {idx ny ci n q0 : Nat} {y : MethodName} {cy : ByteArray} {ry : Option FieldType} {rm : Room} {b : Nat} {as : List Value} {q : vw_C} {fs : List Value} (F : Fx p s m args meth c y0 cc nL ret) (hW : Cw D cA s A ws H locs) (hM : MetI l y (.code y cy ny ry :: LW) rm D cA ws (.ref b :: as) post wo mc ms) (hown : y0.cls = own) (h1 : Cond.methodLink own idx y ∈ LW) (h2 : Cond.instanceMethod y ∈ LW) (h3 : Cond.selects C y y ∈ LW) (h4 : Cond.initialized C ∈ LW) (h5 : Cond.code y cy ny ry ∈ LW)
    (hd : y.cls = C ∧ y.cls ≠ "java/lang/invoke/MethodHandle" ∧ y.cls ≠ "java/lang/invoke/VarHandle" ∧ (parseMethodDescriptor y.desc).map (fun d => d.parameters.length) = some n) (hrc : rm.cells = mc) (hrs : rm.slots = ms) (hR : rm.frames + 1 ≤ R.frames ∧ 8 + (ny + 11) + rm.locals ≤ R.locals)
    (hc0 : vwCl[ci]? = some q) (hqC : q.1 = C) (he : ws[q0]? = some (b, .inr (ci, fs))) (hn : as.length = n) (hst : st = as.reverse ++ .ref b :: rest) (hsz : ls.size = nL) (hroom : (rest.map fun v => v.category).sum ≤ 8) (hdg : decode cc pc = .ok (.invokevirtual idx, 3)) (hf : cells + mc ≤ R.cells ∧ slots + ms ≤ R.slots)
    (kk : ∀ (r : Int32) (u : S) (H1 : Heap) (locs1 : List Loc), post r u → Cw D cA s A (wo u) H1 locs1 → W p l e R s m args below meth c H1 locs1 (cells + mc) (slots + ms) Q (F0 m (pc + 3) ls (.int r :: rest))) : W p l e R s m args below meth c H locs cells slots Q (F0 m pc ls st) := by
  subst hst
  refine va_calli (va_runV (As := as) (rest := rest) (C := C) (own := own) ⟨F.1, F.2.1, F.2.2.2.1, by rw [← hown]; exact F.2.2.2.2.1, F.2.2.2.2.2.1⟩ (hM H.size) (cwV n F.2.2.2.2.2.1 (g_V h1 h2 h3 h4 h5) rfl hrc hrs hd hR) ⟨Pw.blind, by rw [← hqC]; exact va_recv hW.1 hW.2.1 (ci := ci) (q0 := q0) hc0 he, fun U hU hWm => ⟨rfl, hW.pre U hU hWm⟩⟩ rfl hn hsz rfl (lv_room hroom) hdg hf) hW.2.2.2.1 (fun q _ h => hW.free q h) (fun q h => hW.free q h) (fun r u t H1 locs1 ht hvm hw hB hz1 hk1 hS => ?_)
  exact kk r u H1 locs1 hw (hW.back hB ht hS)
theorem k_callSi {post : Int32 → S → Prop} {wo : S → va_W} {own : String} {idx ny n : Nat} {y : MethodName} {cy : ByteArray} {ry : Option FieldType} {rm : Room} {as : List Value} (F : Fx p s m args meth c y0 cc nL ret) (hW : Cw D cA s A ws H locs) (hM : MetI l y (.code y cy ny ry :: LW) rm D cA ws as post wo mc ms) (hown : y0.cls = own) (h1 : Cond.methodLink own idx y ∈ LW) (h2 : Cond.static y ∈ LW) (h4 : Cond.initialized y.cls ∈ LW) (h5 : Cond.code y cy ny ry ∈ LW)
    (hd : y.cls ≠ "java/lang/invoke/MethodHandle" ∧ y.cls ≠ "java/lang/invoke/VarHandle" ∧ (parseMethodDescriptor y.desc).map (fun d => d.parameters.length) = some n) (hrc : rm.cells = mc) (hrs : rm.slots = ms) (hR : rm.frames + 1 ≤ R.frames ∧ 8 + (ny + 11) + rm.locals ≤ R.locals)
    (hn : as.length = n) (hst : st = as.reverse ++ rest) (hsz : ls.size = nL) (hroom : (rest.map fun v => v.category).sum ≤ 8) (hdg : decode cc pc = .ok (.invokestatic idx, 3)) (hf : cells + mc ≤ R.cells ∧ slots + ms ≤ R.slots)
    (kk : ∀ (r : Int32) (u : S) (H1 : Heap) (locs1 : List Loc), post r u → Cw D cA s A (wo u) H1 locs1 → W p l e R s m args below meth c H1 locs1 (cells + mc) (slots + ms) Q (F0 m (pc + 3) ls (.int r :: rest))) : W p l e R s m args below meth c H locs cells slots Q (F0 m pc ls st) := by
  subst hst
  refine va_calli (va_runS (As := as) (rest := rest) (own := own) ⟨F.1, F.2.1, F.2.2.2.1, by rw [← hown]; exact F.2.2.2.2.1, F.2.2.2.2.2.1⟩ (hM H.size) (va_cwS n F.2.2.2.2.2.1 (g_S h1 h2 h4 h5) rfl hrc hrs hd hR) ⟨Pw.blind, fun U hU hWm => ⟨rfl, hW.pre U hU hWm⟩⟩ rfl hn hsz rfl (lv_room hroom) hdg hf) hW.2.2.2.1 (fun q _ h => hW.free q h) (fun q h => hW.free q h) (fun r u t H1 locs1 ht hvm hw hB hz1 hk1 hS => ?_)
  exact kk r u H1 locs1 hw (hW.back hB ht hS)
end KIT
