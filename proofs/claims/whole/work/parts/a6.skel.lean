/-! THE CLAIM OUT OF ONE WALK OF THE LAW'S BODY. Your part is whole_start (and what it stands on); all else here is the same for every law, but numbers. -/
def R_law : String := "FishpierLaw"
def lw_P (b : Addr) (xs : List Int32) (args : Array Value) (s : State) : Prop := args = #[.ref b] ∧ s.IntsAt b xs ∧ xs.length ≤ 3072 ∧ (Jvm.Cond.and given_1 narrow_1).before args s = true
/-- what a walk over the start with the record d0 says of its end, said of the start itself -/
theorem lw_closed {s t : State} {o : Outcome} {d0 : Drawn} {L : List Loc} {k n : Nat} (hd0 : s.drawn.sameBut d0 lw_cs) (hv : ∃ v, o = .returned v) (hW : (s.setDrawn d0).WarmedH t.vm) (hs : (s.setDrawn d0).sameButNew ({ t with vm := s.vm } : State) L k n) : State.butDraws s t lw_cs (fun t1 => Framed s o t1 L k n) := by
  have h2 : t.drawn = d0 := congrArg State.drawn hs.1
  refine ⟨⟨hv, hW, State.sameButNew.setDrawn hs s.drawn⟩, ?_, by decide⟩
  rw [h2]
  exact hd0
def lw_Q (_ : Array Value) (s : State) (o : Outcome) (t : State) : Prop := o = .returned (some (.int 1)) ∧ State.butDraws s t lw_cs (fun t1 => Framed s o t1 [] 603072 7231594)
def lw_Z (below : List Frame) (a : Array Value) (s : State) : State → Prop := fun t => ∃ o, t.status = .running ∧ Ended t below o ∧ lw_Q a s o t
/-- the law's own end, with 1 on the stack, nothing written that was there before, its room as the claim has it; d0: the record of draws at this point (at the entry s.drawn: begin with 'refine W.base ?_' and 'have hd0 := Drawn.sameBut.refl s.drawn lw_cs') -/
theorem lw_ret {p : Program} {l : Launch} {e : Env} {s : State} {m : MethodId} {below : List Frame} {meth : Method} {c : Code} {b : Nat} {d0 : Drawn} (hd0 : s.drawn.sameBut d0 lw_cs) (hx : p.tables.exec = Jvm.exec) (hb : c.code = code) (hr : meth.sig.returnType = ret) (hlocks : meth.locks = false) {pc : Nat} {H : Heap} {ls : Array Slot} (hdg : decode code pc = .ok (.ireturn, 1)) : W p l e room_1 (s.setDrawn d0) m #[Value.ref b] below meth c H [] 603072 7231594 (lw_Z below #[Value.ref b] s) (F0 m pc ls [.int 1]) := by
  intro T hT X
  obtain ⟨fs, hret, hrun, hended, hW, hframe⟩ := X.leave (v := some (.int 1)) (hlocks := hlocks) (fun h => by rw [hr] at h; cases h)
  have hmeth' : T.vm.method? m = some meth := X.method'
  refine ⟨T.setFrames fs, ?_, .returned (some (.int 1)), hrun, hended, rfl, lw_closed hd0 ⟨_, rfl⟩ hW hframe⟩
  jvm_step X.here [X.here.top, hx, hb, hdg, hmeth', hr, ret, narrow_b1]
  (try refine ⟨rfl, ?_⟩); (try refine ⟨rfl, ?_⟩)
  first | (intro acts; rw [hret _ acts rfl rfl rfl]) | rw [hret _ _ rfl rfl rfl]
  exact Steps.refl _
/-- what holds at the law's entry: the machine, the code, the tables' words (any of lw_tbl by 'hts w (by decide +kernel)'), the script of L ints xs at the cell b, what the Statement gives of the start (any of its parts by flat_of_before) -/
def lw_At (p : Program) (s : State) (m : MethodId) (meth : Method) (c : Code) (b L : Nat) (xs : Nat → Int32) : Prop :=
  p.tables.exec = Jvm.exec ∧ c.code = code ∧ meth.sig.returnType = ret ∧ c.maxLocals = 9 ∧ s.vm.findClass R_law = some m.cls ∧ (∀ w ∈ lw_tbl, w.before #[Value.ref b] s = true) ∧ va_X b L xs s s.heap ∧ b < s.heap.size ∧ meth.locks = false ∧ (Jvm.Cond.and given_1 narrow_1).before #[Value.ref b] s = true
/-! The law's kit -/
theorem law_F {p : Program} {s : State} {m : MethodId} {meth : Method} {c : Code} {b Ls : Nat} {xs : Nat → Int32} (C0 : lw_At p s m meth c b Ls xs) : Fx p s m #[Value.ref b] meth c ⟨RL, meth.name, "([I)Z"⟩ cL_law 9 ret := by
  obtain ⟨hx, hb, hr, hml, hown, hts, hX, hbl, hlocks, hgv⟩ := C0
  exact ⟨hx, hb, hr, hml, hown, fun w hw => hts w (lw_sub w hw), hlocks, rfl⟩
theorem xm {cA : Nat → ClassId} {β : Nat → Nat} {c0 c1 : Nat × va_E} {α : Nat → Nat → Nat} {L : List (Nat × Nat)} {th : Int32} {S S' : St} : mWd cA β c0 c1 (L.map (xf cA α S')) th S = xWd (c0 :: c1 :: mW cA β th S) cA α L S' := rfl
theorem met_thr (l : Launch) (D : va_G) (cA : Nat → ClassId) (β : Nat → Nat) (c0 c1 : Nat × va_E) (wr : va_W) (th : Int32) (S : St) : MetI l yX5_thrown (.code yX5_thrown cX5_thrown 1 (some .int) :: LW) ({ frames := 0, cells := 0, slots := 0, locals := 0 }) D cA (mWd cA β c0 c1 wr th S) [.ref (β 0)] (fun r (_ : Unit) => r = th) (fun _ => mWd cA β c0 c1 wr th S) 0 0 := by
  obtain ⟨N, R, Fr, inc⟩ := S
  exact met_X5_thrown l D cA β c0 c1 wr th N R Fr inc
theorem nz_code {k : Nat} (hk : k ≤ 10) (h : nI k = 0) : k = 0 := (nI_eq (b := 0) (by omega) (by decide)).mp h
theorem sc_0 {i Ls : Nat} (hi : i + 6 ≤ Ls) (hL : Ls ≤ 3072) : vp_in (nI i) Ls := vp_in_nI (by omega) (by omega)
theorem sc_1 {i Ls : Nat} (hi : i + 6 ≤ Ls) (hL : Ls ≤ 3072) : vp_in (nI i + 1) Ls := by
  rw [show (1 : Int32) = nI 1 from rfl, nI_add]
  exact vp_in_nI (by omega) (by omega)
theorem sc_2 {i Ls : Nat} (hi : i + 6 ≤ Ls) (hL : Ls ≤ 3072) : vp_in (nI i + 2) Ls := by
  rw [show (2 : Int32) = nI 2 from rfl, nI_add]
  exact vp_in_nI (by omega) (by omega)
theorem sc_3 {i Ls : Nat} (hi : i + 6 ≤ Ls) (hL : Ls ≤ 3072) : vp_in (nI i + 3) Ls := by
  rw [show (3 : Int32) = nI 3 from rfl, nI_add]
  exact vp_in_nI (by omega) (by omega)
theorem sc_4 {i Ls : Nat} (hi : i + 6 ≤ Ls) (hL : Ls ≤ 3072) : vp_in (nI i + 4) Ls := by
  rw [show (4 : Int32) = nI 4 from rfl, nI_add]
  exact vp_in_nI (by omega) (by omega)
theorem sc_5 {i Ls : Nat} (hi : i + 6 ≤ Ls) (hL : Ls ≤ 3072) : vp_in (nI i + 5) Ls := by
  rw [show (5 : Int32) = nI 5 from rfl, nI_add]
  exact vp_in_nI (by omega) (by omega)
section LWK
variable {p : Program} {l : Launch} {e : Env} {R : Room} {s : State} {m : MethodId} {below : List Frame} {meth : Method} {c : Code} {H : Heap} {locs : List Loc} {cells slots : Nat} {Q : State → Prop} {pc : Nat} {ls : Array Slot} {rest : List Value}
theorem k_sld {b Ls : Nat} {xs : Nat → Int32} (C0 : lw_At p s m meth c b Ls xs) (hS : va_S (fun q => s.heap.size ≤ q) s.heap H locs) {i v : Int32} (hin : vp_in i Ls) (hv : xs i.toNatClampNeg = v) (hdg : decode cL_law pc = .ok (.iaload, 1))
    (kk : W p l e R s m #[Value.ref b] below meth c H locs cells slots Q (F0 m (pc + 1) ls (.int v :: rest))) : W p l e R s m #[Value.ref b] below meth c H locs cells slots Q (F0 m pc ls (.int i :: .ref b :: rest)) := by
  subst hv
  obtain ⟨hx, hb, hr, hml, hown, hts, hX, hbl, hlocks, hgv⟩ := C0
  exact va_sld hx hb hX hbl (Nat.not_le.mpr hbl) hS hin hdg kk
end LWK
/-- what comes behind a case -/
def LKK (p : Program) (l : Launch) (e : Env) (s : State) (m : MethodId) (below : List Frame) (meth : Method) (c : Code) (D : va_G) (cA : Nat → ClassId) (b x0 o oD : Nat) (β : Nat → Nat) (i n cells slots : Nat) : Prop :=
  ∀ (S' : St) (α' : Nat → Nat → Nat) (L' : List (Nat × Nat)) (f' : Nat → Int64) (g' : Nat → UInt64) (th' : Int32) (H' : Heap) (locs' : List Loc) (ls' : Array Slot), IV (n + 1) S' → LOK S'.1 L' → α' 0 0 = x0 → Cw D cA s (fun q => s.heap.size ≤ q) (mWd cA β (o, .inl (cA 4, 1, .inr (.inl f'))) (oD, .inl (cA 5, 1, .inr (.inr (.inr (.inl g'))))) (L'.map (xf cA α' S')) th' S') H' locs' → lv_has ls' 9 [(0, .ref b), (1, .ref x0), (2, .ref (β 0)), (3, .ref o), (4, .ref oD), (5, .int (nI i))] → W p l e room_1 s m #[Value.ref b] below meth c H' locs' (cells + 4) (slots + 88) (lw_Z below #[Value.ref b] s) (F0 m 2245 ls' [])
theorem st_quota (N : Nat → Nat → Nat) (R : Nat → Nat → Nat → Int32) (Fr : Nat → UInt32) (inc : Int64) (p0 p1 : Int32) : (op_quota (N, R, Fr, inc) p0 p1).2.2 = (N, R, Fr, inc) := by
  simp only [op_quota]
  repeat' split
  all_goals rfl
theorem st_quotaAt (N : Nat → Nat → Nat) (R : Nat → Nat → Nat → Int32) (Fr : Nat → UInt32) (inc : Int64) (p0 p1 p2 : Int32) : (op_quotaAt (N, R, Fr, inc) p0 p1 p2).2.2 = (N, R, Fr, inc) := by
  simp only [op_quotaAt]
  repeat' split
  all_goals rfl
theorem st_lot (k : Nat) (N : Nat → Nat → Nat) (R : Nat → Nat → Nat → Int32) (Fr : Nat → UInt32) (inc : Int64) (p0 : Int32) : (op_lot k (N, R, Fr, inc) p0).2.2 = (N, R, Fr, inc) := by
  simp only [op_lot]
  repeat' split
  all_goals rfl
theorem st_fresh (N : Nat → Nat → Nat) (R : Nat → Nat → Nat → Int32) (Fr : Nat → UInt32) (inc : Int64) (p0 : Int32) : (op_fresh (N, R, Fr, inc) p0).2.2 = (N, R, Fr, inc) := by
  simp only [op_fresh]
  repeat' split
  all_goals rfl
theorem st_freshBits (N : Nat → Nat → Nat) (R : Nat → Nat → Nat → Int32) (Fr : Nat → UInt32) (inc : Int64) (p0 : Int32) : (op_freshBits (N, R, Fr, inc) p0).2.2 = (N, R, Fr, inc) := by
  simp only [op_freshBits]
  repeat' split
  all_goals rfl
theorem st_iceLasts (N : Nat → Nat → Nat) (R : Nat → Nat → Nat → Int32) (Fr : Nat → UInt32) (inc : Int64) (p0 : Int32) : (op_iceLasts (N, R, Fr, inc) p0).2.2 = (N, R, Fr, inc) := by
  simp only [op_iceLasts]
  repeat' split
  all_goals rfl
theorem st_budget (N : Nat → Nat → Nat) (R : Nat → Nat → Nat → Int32) (Fr : Nat → UInt32) (inc : Int64) (p0 : Int32) : (op_budget (N, R, Fr, inc) p0).2.2 = (N, R, Fr, inc) := by
  simp only [op_budget]
  repeat' split
  all_goals rfl
theorem st_offer (N : Nat → Nat → Nat) (R : Nat → Nat → Nat → Int32) (Fr : Nat → UInt32) (inc : Int64) (p0 p1 : Int32) : (op_offer (N, R, Fr, inc) p0 p1).2.2 = (N, R, Fr, inc) := by
  simp only [op_offer]
  repeat' split
  all_goals rfl
theorem st_price (N : Nat → Nat → Nat) (R : Nat → Nat → Nat → Int32) (Fr : Nat → UInt32) (inc : Int64) (p0 : Int32) : (op_price (N, R, Fr, inc) p0).2.2 = (N, R, Fr, inc) := by
  simp only [op_price]
  repeat' split
  all_goals rfl
theorem st_buyerOf (N : Nat → Nat → Nat) (R : Nat → Nat → Nat → Int32) (Fr : Nat → UInt32) (inc : Int64) (p0 : Int32) : (op_buyerOf (N, R, Fr, inc) p0).2.2 = (N, R, Fr, inc) := by
  simp only [op_buyerOf]
  repeat' split
  all_goals rfl
theorem st_lotOn (N : Nat → Nat → Nat) (R : Nat → Nat → Nat → Int32) (Fr : Nat → UInt32) (inc : Int64) (p0 p1 : Int32) : (op_lotOn (N, R, Fr, inc) p0 p1).2.2 = (N, R, Fr, inc) := by
  simp only [op_lotOn]
  repeat' split
  all_goals rfl
theorem st_soldShare (N : Nat → Nat → Nat) (R : Nat → Nat → Nat → Int32) (Fr : Nat → UInt32) (inc : Int64) : (op_soldShare (N, R, Fr, inc)).2.2 = (N, R, Fr, inc) := by
  simp only [op_soldShare]
  repeat' split
  all_goals rfl
theorem st_meanPrice (N : Nat → Nat → Nat) (R : Nat → Nat → Nat → Int32) (Fr : Nat → UInt32) (inc : Int64) : (op_meanPrice (N, R, Fr, inc)).2.2 = (N, R, Fr, inc) := by
  simp only [op_meanPrice]
  repeat' split
  all_goals rfl
theorem st_meanBits (N : Nat → Nat → Nat) (R : Nat → Nat → Nat → Int32) (Fr : Nat → UInt32) (inc : Int64) : (op_meanBits (N, R, Fr, inc)).2.2 = (N, R, Fr, inc) := by
  simp only [op_meanBits]
  repeat' split
  all_goals rfl
