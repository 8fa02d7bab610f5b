/-! What the start gives -/
theorem str_of {s : State} {args : Array Value} {k : Nat} {tx : String} {cur : ClassId} (hc : s.vm.findClass RX4 = some cur) (h : (Cond.stringRef RX4 k tx).before args s = true) : ∃ sa : Nat, vk_R RX4 k tx sa s := by
  obtain ⟨-, -, -, a, -, -, -, -, -, he⟩ := Cond.stringRef_spec hc h
  exact ⟨a, vk_R.of h he⟩
theorem str_in : ∀ w ∈ strX.map (fun q => Cond.stringRef RX4 q.1 q.2), w ∈ lw_tbl := all_in (by decide +kernel)
theorem xb_in : ∀ w ∈ XB, w ∈ lw_tbl := all_in (by decide +kernel)
theorem ao_in : ∀ w ∈ [RX0, RX1, RX2, RX3].map (fun C => Cond.arrayOver (.object C)), w ∈ lw_tbl := all_in (by decide +kernel)
theorem st_in : ∀ w ∈ [Cond.laysStatic Bundle.tN "UNASSIGNED_STACK" Bundle.steD, Cond.laysStatic Bundle.tN "SUPPRESSED_SENTINEL" Bundle.listD, Cond.initialized Bundle.tN, Cond.instantiable RJ0 4, Cond.instantiable RJx00060 6], w ∈ lw_tbl := all_in (by decide +kernel)
theorem ws0_in : ∀ w ∈ u_ws RJ0 TJ0 2, w ∈ lw_tbl := all_in (by decide +kernel)
theorem ws1_in : ∀ w ∈ u_ws RJx00060 TJx00060 6, w ∈ lw_tbl := all_in (by decide +kernel)
theorem nc_in : ∀ w ∈ NCX.map (fun q => Cond.not (.castable q.1 q.2)), w ∈ flatC (Jvm.Cond.and given_1 narrow_1) := all_in (by decide +kernel)
theorem zq_in : ∀ w ∈ [Cond.isRef (.static Bundle.tN "UNASSIGNED_STACK" Bundle.steD), Cond.isRef (.static Bundle.tN "SUPPRESSED_SENTINEL" Bundle.listD)], w ∈ flatC (Jvm.Cond.and given_1 narrow_1) := all_in (by decide +kernel)
section LST
variable {p : Program} {s : State} {m : MethodId} {meth : Method} {c : Code} {b Ls : Nat} {xs : Nat → Int32}
theorem law_NC (C0 : lw_At p s m meth c b Ls xs) : NC s := by
  obtain ⟨hx, hb, hr, hml, hown, hts, hX, hbl, hlocks, hgv⟩ := C0
  intro q hq
  exact va_Nc.of (flat_of_before _ hgv _ (nc_in _ (List.mem_map.mpr ⟨q, hq, rfl⟩)))
theorem law_TH (C0 : lw_At p s m meth c b Ls xs) : TH s.heap.size s := by
  obtain ⟨hx, hb, hr, hml, hown, hts, hX, hbl, hlocks, hgv⟩ := C0
  obtain ⟨cur, -, hcur, -⟩ := Cond.instantiable_spec (hts _ (lw_sub _ NE_X4))
  refine ⟨fun q hq => str_of hcur (hts _ (str_in _ (List.mem_map.mpr ⟨q, hq, rfl⟩))), fun w hw => va_tabs (xb_ok w hw) rfl (hts w (xb_in w hw)), ?_, ?_, fun C hC => va_AO.of (hts _ (ao_in _ (List.mem_map.mpr ⟨C, hC, rfl⟩)))⟩
  · exact vx_Zqof (hts _ (st_in _ (by simp))) (hts _ (st_in _ (by simp))) (flat_of_before _ hgv _ (zq_in _ (by simp))) (fun a h1 h2 => Nat.not_le.mpr h1 h2)
  · exact vx_Zqof (hts _ (st_in _ (by simp))) (hts _ (st_in _ (by simp))) (flat_of_before _ hgv _ (zq_in _ (by simp))) (fun a h1 h2 => Nat.not_le.mpr h1 h2)
theorem arr_int {args : Array Value} (h : (Cond.arrayClass .int).before args s = true) : ∃ c : ClassId, ArrOfT s c .int ∧ va_RA s c .int := by
  obtain ⟨c, k, comp, h1, h2, h3⟩ := Cond.arrayClass_spec h
  exact ⟨c, fun n z => ⟨fun k h => (by cases h), k, h2, comp, h3⟩, h1⟩
theorem arr_boolean {args : Array Value} (h : (Cond.arrayClass .boolean).before args s = true) : ∃ c : ClassId, ArrOfT s c .boolean ∧ va_RA s c .boolean := by
  obtain ⟨c, k, comp, h1, h2, h3⟩ := Cond.arrayClass_spec h
  exact ⟨c, fun n z => ⟨fun k h => (by cases h), k, h2, comp, h3⟩, h1⟩
theorem arr_char {args : Array Value} (h : (Cond.arrayClass .char).before args s = true) : ∃ c : ClassId, ArrOfT s c .char ∧ va_RA s c .char := by
  obtain ⟨c, k, comp, h1, h2, h3⟩ := Cond.arrayClass_spec h
  exact ⟨c, fun n z => ⟨fun k h => (by cases h), k, h2, comp, h3⟩, h1⟩
theorem arr_float {args : Array Value} (h : (Cond.arrayClass .float).before args s = true) : ∃ c : ClassId, ArrOfT s c .float ∧ va_RA s c .float := by
  obtain ⟨c, k, comp, h1, h2, h3⟩ := Cond.arrayClass_spec h
  exact ⟨c, fun n z => ⟨fun k h => (by cases h), k, h2, comp, h3⟩, h1⟩
theorem arr_long {args : Array Value} (h : (Cond.arrayClass .long).before args s = true) : ∃ c : ClassId, ArrOfT s c .long ∧ va_RA s c .long := by
  obtain ⟨c, k, comp, h1, h2, h3⟩ := Cond.arrayClass_spec h
  exact ⟨c, fun n z => ⟨fun k h => (by cases h), k, h2, comp, h3⟩, h1⟩
theorem arr_double {args : Array Value} (h : (Cond.arrayClass .double).before args s = true) : ∃ c : ClassId, ArrOfT s c .double ∧ va_RA s c .double := by
  obtain ⟨c, k, comp, h1, h2, h3⟩ := Cond.arrayClass_spec h
  exact ⟨c, fun n z => ⟨fun k h => (by cases h), k, h2, comp, h3⟩, h1⟩
theorem arr_obj {C : String} (h : va_AO C s) : ∃ c : ClassId, ArrOfT s c (.object C) ∧ va_RA s c (.object C) := by
  obtain ⟨comp, c, k, h1, h2, h3, h4, h5⟩ := Cond.arrayOver_spec h
  exact ⟨c, fun n z => ⟨fun k h => (by cases h), k, h3, comp, h4⟩, k, comp, h3, h4, h1, h5⟩
theorem law_K (C0 : lw_At p s m meth c b Ls xs) : ∃ (D : va_G) (cA : Nat → ClassId), va_K D vwCl (tyL cA) s := by
  have hTH := law_TH C0
  obtain ⟨hx, hb, hr, hml, hown, hts, hX, hbl, hlocks, hgv⟩ := C0
  have hl : ∀ w ∈ LW, w.before #[Value.ref b] s = true := fun w hw => hts w (lw_sub w hw)
  obtain ⟨k0, i0, h0⟩ := u_known (C := RJ0) (T := TJ0) (N := 2) (n := 4) hts ws0_in (hts _ (st_in _ (by simp)))
  obtain ⟨k1, i1, h1⟩ := u_known (C := RJx00060) (T := TJx00060) (N := 6) (n := 6) hts ws1_in (hts _ (st_in _ (by simp)))
  obtain ⟨k2, i2, h2⟩ := u_known (C := RX0) (T := TX0) (N := 4) (n := 4) hl inX0 (hl _ NE_X0)
  obtain ⟨k3, i3, h3⟩ := u_known (C := RX1) (T := TX1) (N := 3) (n := 3) hl inX1 (hl _ NE_X1)
  obtain ⟨k4, i4, h4⟩ := u_known (C := RX2) (T := TX2) (N := 11) (n := 11) hl inX2 (hl _ NE_X2)
  obtain ⟨k5, i5, h5⟩ := u_known (C := RX3) (T := TX3) (N := 5) (n := 5) hl inX3 (hl _ NE_X3)
  obtain ⟨k6, i6, h6⟩ := u_known (C := RX4) (T := TX4) (N := 15) (n := 15) hl inX4 (hl _ NE_X4)
  obtain ⟨k7, i7, h7⟩ := u_known (C := RX5) (T := TX5) (N := 30) (n := 30) hl inX5 (hl _ NE_X5)
  obtain ⟨a0, f0⟩ := arr_int (hl _ AC_int)
  obtain ⟨a1, f1⟩ := arr_boolean (hl _ AC_boolean)
  obtain ⟨a2, f2⟩ := arr_char (hl _ AC_char)
  obtain ⟨a3, f3⟩ := arr_float (hl _ AC_float)
  obtain ⟨a4, f4⟩ := arr_long (hl _ AC_long)
  obtain ⟨a5, f5⟩ := arr_double (hl _ AC_double)
  obtain ⟨a6, f6⟩ := arr_obj (hTH.2.2.2.2 RX0 (by simp))
  obtain ⟨a7, f7⟩ := arr_obj (hTH.2.2.2.2 RX2 (by simp))
  obtain ⟨a8, f8⟩ := arr_obj (hTH.2.2.2.2 RX1 (by simp))
  obtain ⟨a9, f9⟩ := arr_obj (hTH.2.2.2.2 RX3 (by simp))
  refine ⟨(fun k => match k with | 0 => k0 | 1 => k1 | 2 => k2 | 3 => k3 | 4 => k4 | 5 => k5 | 6 => k6 | _ => k7, fun k => match k with | 0 => i0 | 1 => i1 | 2 => i2 | 3 => i3 | 4 => i4 | 5 => i5 | 6 => i6 | _ => i7), fun k => match k with | 0 => a0 | 1 => a1 | 2 => a2 | 3 => a3 | 4 => a4 | 5 => a5 | 6 => a6 | 7 => a7 | 8 => a8 | _ => a9, fun k q hq => ?_, fun k q hq => ?_⟩
  · match k, hq with
    | 0, hq => cases hq; exact h0
    | 1, hq => cases hq; exact h1
    | 2, hq => cases hq; exact h2
    | 3, hq => cases hq; exact h3
    | 4, hq => cases hq; exact h4
    | 5, hq => cases hq; exact h5
    | 6, hq => cases hq; exact h6
    | 7, hq => cases hq; exact h7
    | k + 8, hq => simp [vwCl] at hq
  · match k, hq with
    | 0, hq => cases hq; exact f0
    | 1, hq => cases hq; exact f1
    | 2, hq => cases hq; exact f2
    | 3, hq => cases hq; exact f3
    | 4, hq => cases hq; exact f4
    | 5, hq => cases hq; exact f5
    | 6, hq => cases hq; exact f6
    | 7, hq => cases hq; exact f7
    | 8, hq => cases hq; exact f8
    | 9, hq => cases hq; exact f9
    | k + 10, hq => simp [tyL] at hq
end LST
section XN5
variable {p : Program} {l : Launch} {e : Env} {R : Room} {s : State} {m : MethodId} {args : Array Value} {below : List Frame} {meth : Method} {c : Code} {H : Heap} {locs : List Loc} {cells slots : Nat} {Q : State → Prop}
variable {cc : ByteArray} {pc : Nat} {ls : Array Slot} {rest : List Value} {D : va_G} {cA : Nat → ClassId} {A : Nat → Prop} {ws : va_W} {y0 : MethodName} {nL : Nat} {ret : Option FieldType}
theorem k_new_long {n : Int32} {N' : Nat} (F : Fx p s m args meth c y0 cc nL ret) (hW : Cw D cA s A ws H locs) (hn : ¬ n < 0) (hN : n.toNatClampNeg = N') (hb : N' * 8 ≤ 536870912) (hcells : cells + 1 ≤ R.cells) (hslots : slots + N' ≤ R.slots) (hdg : decode cc pc = .ok (.newarray .long, 2))
    (kk : ∀ (q : Nat) (H1 : Heap), Cw D cA s A (ws ++ [(q, .inl (cA 4, N', .inr (.inl (fun _ => 0))))]) H1 locs → W p l e R s m args below meth c H1 locs (cells + 1) (slots + N') Q (F0 m (pc + 2) ls (.ref q :: rest))) : W p l e R s m args below meth c H locs cells slots Q (F0 m pc ls (.int n :: rest)) := by
  refine va_newa (D := D) (tys := tyL cA) (atype := .long) F.1 F.2.1 (F.2.2.2.2.2.1 _ AC_long) (ty := .long) rfl hW.1 hW.2.1 hW.2.2.1 hW.2.2.2.1 hW.2.2.2.2 (a0 := (N', .inr (.inl (fun _ => 0)))) (fun _ => rfl) hn hN hb hcells hslots hdg (fun q cl H1 hK hP hD hS => ?_)
  have h1 := (hK.2 10 (cl, .long) rfl).2
  have h2 := (hW.1.2 4 (cA 4, .long) rfl).2
  have e : cl = cA 4 := Option.some.inj (h1.symm.trans h2)
  subst e
  exact kk q H1 (hW.mk hP hD hS)
theorem k_new_double {n : Int32} {N' : Nat} (F : Fx p s m args meth c y0 cc nL ret) (hW : Cw D cA s A ws H locs) (hn : ¬ n < 0) (hN : n.toNatClampNeg = N') (hb : N' * 8 ≤ 536870912) (hcells : cells + 1 ≤ R.cells) (hslots : slots + N' ≤ R.slots) (hdg : decode cc pc = .ok (.newarray .double, 2))
    (kk : ∀ (q : Nat) (H1 : Heap), Cw D cA s A (ws ++ [(q, .inl (cA 5, N', .inr (.inr (.inr (.inl (fun _ => 0))))))]) H1 locs → W p l e R s m args below meth c H1 locs (cells + 1) (slots + N') Q (F0 m (pc + 2) ls (.ref q :: rest))) : W p l e R s m args below meth c H locs cells slots Q (F0 m pc ls (.int n :: rest)) := by
  refine va_newa (D := D) (tys := tyL cA) (atype := .double) F.1 F.2.1 (F.2.2.2.2.2.1 _ AC_double) (ty := .double) rfl hW.1 hW.2.1 hW.2.2.1 hW.2.2.2.1 hW.2.2.2.2 (a0 := (N', .inr (.inr (.inr (.inl (fun _ => 0)))))) (fun _ => rfl) hn hN hb hcells hslots hdg (fun q cl H1 hK hP hD hS => ?_)
  have h1 := (hK.2 10 (cl, .double) rfl).2
  have h2 := (hW.1.2 5 (cA 5, .double) rfl).2
  have e : cl = cA 5 := Option.some.inj (h1.symm.trans h2)
  subst e
  exact kk q H1 (hW.mk hP hD hS)
end XN5
theorem Cw.perm {D : va_G} {cA : Nat → ClassId} {s : State} {A : Nat → Prop} {ws ws' : va_W} {H : Heap} {locs : List Loc} (hW : Cw D cA s A ws H locs) (is : List Nat) (hn : va_nd is = true) (h1 : is.filterMap (fun i => ws[i]?) = ws') (h2 : is.map (fun i => ws[i]?) = ws'.map some) : Cw D cA s A ws' H locs :=
  ⟨hW.1, hW.2.1.sub is h1, hW.2.2.1.sub is hn h2, hW.2.2.2.1, hW.2.2.2.2⟩
def L5 : List (Nat × Nat) := [(0, 0), (1, 0), (2, 0), (3, 0), (4, 0)]
theorem lok_0 : LOK (fun _ _ => 0) L5 := by
  refine ⟨?_, ?_⟩
  · intro i j p h1 h2
    have hi : i < 5 := (List.getElem?_eq_some_iff.mp h1).1
    have hj : j < 5 := (List.getElem?_eq_some_iff.mp h2).1
    have e : ∀ k, k < 5 → L5[k]? = some (k, 0) := by
      intro k hk
      obtain rfl | rfl | rfl | rfl | rfl : k = 0 ∨ k = 1 ∨ k = 2 ∨ k = 3 ∨ k = 4 := by omega
      all_goals rfl
    rw [e i hi] at h1
    rw [e j hj] at h2
    have h3 := Option.some.inj (h1.trans h2.symm)
    exact congrArg Prod.fst h3
  · intro k n
    simp only [L5, List.mem_cons, Prod.mk.injEq, List.not_mem_nil, or_false]
    omega
/-- the first addresses -/
def al5 (a0 a1 a2 a3 a4 : Nat) : Nat → Nat → Nat := fun k _ => match k with | 0 => a0 | 1 => a1 | 2 => a2 | 3 => a3 | _ => a4
theorem x5 (cA : Nat → ClassId) (a0 a1 a2 a3 a4 : Nat) : L5.map (xf cA (al5 a0 a1 a2 a3 a4) S00) = [(a0, .inr (6, [.ref a1, .ref a2, .ref a3, .ref a4, .int 0, .int 0, .int 0, .int 0, .int 0, .int 0, .int 0, .int 1000, .int 10, .int 0, .long 0])), (a1, .inl (cA 6, rfA 6 (fun _ => none))), (a2, .inl (cA 7, rfA 20 (fun _ => none))), (a3, .inl (cA 8, rfA 5 (fun _ => none))), (a4, .inl (cA 9, rfA 4 (fun _ => none)))] := by
  simp [L5, xf, xent, S00, R00, up3, al5, nI_0]
