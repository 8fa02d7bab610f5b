section XCP
variable {p : Program} {l : Launch} {e : Env} {R : Room} {s : State} {m : MethodId} {args : Array Value} {below : List Frame} {meth : Method} {c : Code} {H : Heap} {locs : List Loc} {cells slots : Nat} {Q : State → Prop}
variable {cc : ByteArray} {pc : Nat} {ls : Array Slot} {rest st : List Value} {D : va_G} {cA : Nat → ClassId} {A : Nat → Prop} {ws : va_W} {y0 : MethodName} {nL : Nat} {ret : Option FieldType}
/-- System.arraycopy of ints -/
theorem k_copy {own : String} {idx a0 a n0 n1 : Nat} {f g : Nat → Int32} {sp dp n : Int32} (F : Fx p s m args meth c y0 cc nL ret) (hW : Cw D cA s A ws H locs) (hown : y0.cls = own) (h1 : Cond.methodLink own idx ⟨"java/lang/System", "arraycopy", "(Ljava/lang/Object;ILjava/lang/Object;II)V"⟩ ∈ LW) (q0 q1 : Nat) (he0 : ws[q0]? = some (a0, .inl (cA 0, n0, .inl f))) (he1 : ws[q1]? = some (a, .inl (cA 0, n1, .inl g))) (g1 : ¬ sp < 0) (g2 : ¬ dp < 0) (g3 : ¬ n < 0) (g4 : sp.toNatClampNeg + n.toNatClampNeg ≤ n0) (g5 : dp.toNatClampNeg + n.toNatClampNeg ≤ n1) (hsz : ls.size = nL) (hroom : (rest.map fun v => v.category).sum ≤ 8) (hR : 1 ≤ R.frames ∧ 30 ≤ R.locals) (ws' : va_W) (he' : ws.set q1 (a, .inl (cA 0, n1, .inl (va_cpy f g sp.toNatClampNeg dp.toNatClampNeg n.toNatClampNeg))) = ws') (hdg : decode cc pc = .ok (.invokestatic idx, 3))
    (kk : ∀ (H1 : Heap) (locs1 : List Loc), Cw D cA s A ws' H1 locs1 → W p l e R s m args below meth c H1 locs1 cells slots Q (F0 m (pc + 3) ls rest)) : W p l e R s m args below meth c H locs cells slots Q (F0 m pc ls (.int n :: .int dp :: .ref a :: .int sp :: .ref a0 :: rest)) := by
  have hw : nativeFrameWords "java/lang/System" "arraycopy" 5 ≤ 11 := by decide
  refine va_copyi (D := D) F.1 F.2.1 (by rw [F.2.2.2.1]; exact hsz.symm) (by rw [← hown]; exact F.2.2.2.2.1) (F.2.2.2.2.2.1 _ h1) (F.2.2.2.2.2.1 _ NA_JS_arraycopy) (F.2.2.2.2.2.1 _ ST_JS_arraycopy) (F.2.2.2.2.2.1 _ IN_JS) hW.1 hW.2.1 hW.2.2.1 hW.2.2.2.1 q0 q1 0 0 he0 he1 rfl rfl rfl g1 g2 g3 g4 g5 (fun _ _ => rfl) hR.1 (by omega) hdg (fun H1 locs1 hP hD hS => ?_)
  subst he'
  exact kk H1 locs1 (hW.mk hP hD hS)
end XCP
/-- boat b's quotas are written for day d -/
def wroteB (R : Nat → Nat → Nat → Int32) (d b : Nat) : Nat → Nat → Nat → Int32 := fun k i j => if k = 2 ∧ i = d ∧ 4 * b ≤ j ∧ j < 4 * b + 4 then R 1 b (j - 4 * b) else R k i j
theorem wroteB_row {R : Nat → Nat → Nat → Int32} {d b k : Nat} (h : ¬ k = 2) : wroteB R d b k = R k := by
  funext i j
  exact if_neg fun q => h q.1
theorem xs_wr (cA : Nat → ClassId) (α : Nat → Nat → Nat) (N : Nat → Nat → Nat) (R : Nat → Nat → Nat → Int32) (Fr : Nat → UInt32) (inc : Int64) (d b : Nat) : xent cA α (N, wroteB R d b, Fr, inc) 8 b = .inl (cA 0, 76, .inl (va_cpy (fun s => R 1 b s) (fun i => R 2 (i / 4) (4 * b + i % 4)) 0 (d * 4) 4)) := by
  have h : (fun i => wroteB R d b 2 (i / 4) (4 * b + i % 4)) = va_cpy (fun s => R 1 b s) (fun i => R 2 (i / 4) (4 * b + i % 4)) 0 (d * 4) 4 := by
    funext i
    simp only [wroteB, va_cpy]
    by_cases h1 : d * 4 ≤ i ∧ i < d * 4 + 4
    · rw [if_pos h1, if_pos ⟨trivial, by omega, by omega, by omega⟩]
      rw [show 4 * b + i % 4 - 4 * b = 0 + (i - d * 4) by omega]
    · rw [if_neg h1, if_neg]
      rintro ⟨-, h2, -, -⟩
      exact h1 (by omega)
  exact congrArg (fun f => (Sum.inl (cA 0, 76, .inl f) : va_E)) h
theorem xe_wr8 (cA : Nat → ClassId) (α : Nat → Nat → Nat) (N : Nat → Nat → Nat) (R : Nat → Nat → Nat → Int32) (Fr : Nat → UInt32) (inc : Int64) (d b n : Nat) (hn : ¬ n = b) : xent cA α (N, wroteB R d b, Fr, inc) 8 n = xent cA α (N, R, Fr, inc) 8 n := by
  have h : (fun i => wroteB R d b 2 (i / 4) (4 * n + i % 4)) = fun i => R 2 (i / 4) (4 * n + i % 4) := by
    funext i
    exact if_neg (by rintro ⟨-, -, h1, h2⟩; exact hn (by omega))
  exact congrArg (fun f => (Sum.inl (cA 0, 76, .inl f) : va_E)) h
theorem xe_wr (cA : Nat → ClassId) (α : Nat → Nat → Nat) (N : Nat → Nat → Nat) (R : Nat → Nat → Nat → Int32) (Fr : Nat → UInt32) (inc : Int64) (d b : Nat) (p : Nat × Nat) (h : p ≠ (8, b)) : xent cA α (N, wroteB R d b, Fr, inc) p.1 p.2 = xent cA α (N, R, Fr, inc) p.1 p.2 := by
  obtain ⟨k, n⟩ := p
  by_cases h8 : k = 8
  · subst h8
    exact xe_wr8 cA α N R Fr inc d b n (fun q => h (by rw [q]))
  · have e0 := wroteB_row (R := R) (d := d) (b := b) (k := 0) (by decide)
    have e1 := wroteB_row (R := R) (d := d) (b := b) (k := 1) (by decide)
    have e3 := wroteB_row (R := R) (d := d) (b := b) (k := 3) (by decide)
    have e4 := wroteB_row (R := R) (d := d) (b := b) (k := 4) (by decide)
    have e5 := wroteB_row (R := R) (d := d) (b := b) (k := 5) (by decide)
    have e6 := wroteB_row (R := R) (d := d) (b := b) (k := 6) (by decide)
    have e7 := wroteB_row (R := R) (d := d) (b := b) (k := 7) (by decide)
    have e8 := wroteB_row (R := R) (d := d) (b := b) (k := 8) (by decide)
    have e9 := wroteB_row (R := R) (d := d) (b := b) (k := 9) (by decide)
    have e10 := wroteB_row (R := R) (d := d) (b := b) (k := 10) (by decide)
    have e11 := wroteB_row (R := R) (d := d) (b := b) (k := 11) (by decide)
    have e12 := wroteB_row (R := R) (d := d) (b := b) (k := 12) (by decide)
    have e13 := wroteB_row (R := R) (d := d) (b := b) (k := 13) (by decide)
    have e14 := wroteB_row (R := R) (d := d) (b := b) (k := 14) (by decide)
    have e15 := wroteB_row (R := R) (d := d) (b := b) (k := 15) (by decide)
    have e16 := wroteB_row (R := R) (d := d) (b := b) (k := 16) (by decide)
    have e17 := wroteB_row (R := R) (d := d) (b := b) (k := 17) (by decide)
    have e18 := wroteB_row (R := R) (d := d) (b := b) (k := 18) (by decide)
    match k, h8 with
    | 0, _ => simp only [xent, e0]
    | 1, _ => simp only [xent]
    | 2, _ => simp only [xent]
    | 3, _ => simp only [xent]
    | 4, _ => simp only [xent]
    | 5, _ => simp only [xent]
    | 6, _ => simp only [xent, e1]
    | 7, _ => simp only [xent, e3]
    | 8, q => exact absurd rfl q
    | 9, _ => simp only [xent, e4, e5, e6, e7, e8, e9, e10, e11, e12]
    | 10, _ => simp only [xent, e13]
    | 11, _ => simp only [xent, e14]
    | 12, _ => simp only [xent, e15, e16, e17]
    | k + 13, _ => simp only [xent, e18]
theorem wroteB_step (R : Nat → Nat → Nat → Int32) (d b : Nat) : wroteB (wrote R d (4 * b)) d b = wrote R d (4 * (b + 1)) := by
  funext k i j
  simp only [wroteB, wrote]
  by_cases h : k = 2 ∧ i = d
  · obtain ⟨rfl, rfl⟩ := h
    by_cases h1 : 4 * b ≤ j
    · by_cases h2 : j < 4 * b + 4
      · rw [if_pos ⟨rfl, rfl, h1, h2⟩, if_neg (by simp), if_pos ⟨rfl, rfl, by omega⟩, show j / 4 = b by omega, show j % 4 = j - 4 * b by omega]
      · rw [if_neg (fun q => h2 q.2.2.2), if_neg (by rintro ⟨-, -, q⟩; omega), if_neg (by rintro ⟨-, -, q⟩; omega)]
    · rw [if_neg (fun q => h1 q.2.2.1), if_pos ⟨rfl, rfl, by omega⟩, if_pos ⟨rfl, rfl, by omega⟩]
  · rw [if_neg (fun q => h ⟨q.1, q.2.1⟩), if_neg (fun q => h ⟨q.1, q.2.1⟩), if_neg (fun q => h ⟨q.1, q.2.1⟩)]
theorem wrote_all {R : Nat → Nat → Nat → Int32} {d n : Nat} (hn : n ≤ 6) (h1 : ∀ b s, n ≤ b → R 1 b s = 0) (h2 : ∀ j, R 2 d j = 0) : wrote R d (4 * n) = wrote R d 24 := by
  funext k i j
  simp only [wrote]
  by_cases h : k = 2 ∧ i = d
  · obtain ⟨rfl, rfl⟩ := h
    by_cases h3 : j < 4 * n
    · rw [if_pos ⟨rfl, rfl, h3⟩, if_pos ⟨rfl, rfl, by omega⟩]
    · rw [if_neg (fun q => h3 q.2.2)]
      by_cases h4 : j < 24
      · rw [if_pos ⟨rfl, rfl, h4⟩, h1 _ _ (by omega), h2]
      · rw [if_neg (fun q => h4 q.2.2)]
  · rw [if_neg (fun q => h ⟨q.1, q.2.1⟩), if_neg (fun q => h ⟨q.1, q.2.1⟩)]
set_option maxHeartbeats 4000000 in
set_option maxRecDepth 100000 in
theorem met_X0_writeDown (l : Launch) (D : va_G) (cA : Nat → ClassId) (wr : va_W) (α : Nat → Nat → Nat) (L : List (Nat × Nat)) (N : Nat → Nat → Nat) (R : Nat → Nat → Nat → Int32) (Fr : Nat → UInt32) (inc : Int64) (b d : Nat) (hLk : LOK N L) (hb5 : b < N 2 0) (hd : d ≤ 18) : MetV l yX0_writeDown (.code yX0_writeDown cX0_writeDown 2 none :: LW) ({ frames := 2, cells := 0, slots := 0, locals := 79 }) D cA (xWd wr cA α L (N, R, Fr, inc)) [.ref (α 5 b), .int (nI d)] (fun (_ : Unit) => True) (fun _ => xWd wr cA α L (N, wroteB R d b, Fr, inc)) 0 0 := by
  refine k_bodyV (plainFor_of_name (by decide)) (Nat.le_of_ble_eq_true rfl) (fun p e s m args below meth c ls F hW hl => ?_)
  obtain ⟨hx, hb, hr, hml, hown, hts, hlocks, hname⟩ := id F
  have hl : lv_has ls 2 [(0, .ref (α 5 b)), (1, .int (nI d))] := hl
  refine lv_aload_n hx hb dX0_writeDown_0 rfl (lv_at hl 0 rfl) ?_
  obtain ⟨q_557, hq_557⟩ := xw_at (wr := wr) (cA := cA) (α := α) (L := L) (S := (N, R, Fr, inc)) 5 b (hLk.b 5 b (by decide) hb5)
  refine k_get (v := .ref (α 6 b)) F hW inX0 rfl q_557 hq_557 rfl 1 (by decide) FL_X0_9 rfl rfl dX0_writeDown_1 ?_
  refine lv_iconst (v := 0) hx hb dX0_writeDown_4 (by decide) ?_
  refine lv_aload_n hx hb dX0_writeDown_5 rfl (lv_at hl 0 rfl) ?_
  obtain ⟨q_558, hq_558⟩ := xw_at (wr := wr) (cA := cA) (α := α) (L := L) (S := (N, R, Fr, inc)) 5 b (hLk.b 5 b (by decide) hb5)
  refine k_get (v := .ref (α 8 b)) F hW inX0 rfl q_558 hq_558 rfl 3 (by decide) FL_X0_18 rfl rfl dX0_writeDown_6 ?_
  refine lv_iload_n hx hb dX0_writeDown_9 rfl (lv_at hl 1 rfl) ?_
  refine lv_iconst (v := 4) hx hb dX0_writeDown_10 (by decide) ?_
  refine lv_imul hx hb dX0_writeDown_11 ?_
  refine lv_topi (fun x_559 ex_559 => ?_)
  obtain rfl : x_559 = nI (d * 4) := ex_559.trans (by rw [show (4 : Int32) = nI 4 from rfl, pk_mul])
  refine lv_iconst (v := 4) hx hb dX0_writeDown_12 (by decide) ?_
  obtain ⟨q_560, hq_560⟩ := xw_at (wr := wr) (cA := cA) (α := α) (L := L) (S := (N, R, Fr, inc)) 6 b (hLk.b 6 b (by decide) hb5)
  obtain ⟨q_561, hq_561, gq_561⟩ := xput (wr := wr) (L := L) (S := (N, R, Fr, inc)) (S' := (N, wroteB R d b, Fr, inc)) 8 b (hLk.b 8 b (by decide) hb5) hLk.1 (fun p hp hne => xe_wr cA α N R Fr inc d b p hne) (xs_wr cA α N R Fr inc d b)
  refine k_copy F hW rfl ML_X0_25 q_560 q_561 hq_560 hq_561 (by decide) (by rw [Int32.not_lt]; exact nI_pos' (by omega)) (by decide) (by decide) (by rw [nI_clamp (by omega)]; show d * 4 + 4 ≤ 76; omega) hl.1 (Nat.le_of_ble_eq_true rfl) ⟨(Nat.le_of_ble_eq_true rfl), (Nat.le_of_ble_eq_true rfl)⟩ (xWd wr cA α L (N, wroteB R d b, Fr, inc)) (by rw [nI_clamp (by omega)]; exact gq_561) dX0_writeDown_13 (fun H locs hW => ?_)
  exact k_vret () F (hW) (trivial) dX0_writeDown_16 (Nat.le_of_ble_eq_true rfl) (Nat.le_of_ble_eq_true rfl)

set_option maxHeartbeats 4000000 in
set_option maxRecDepth 100000 in
theorem met_X4_endDay (l : Launch) (D : va_G) (cA : Nat → ClassId) (wr : va_W) (α : Nat → Nat → Nat) (L : List (Nat × Nat)) (N : Nat → Nat → Nat) (R : Nat → Nat → Nat → Int32) (Fr : Nat → UInt32) (inc : Int64) (z0 : Nat) (hl0 : l.stackTraces = false) (hLk : LOK N L) (hC : IC N) (hq0 : ∀ b s, N 0 0 ≤ b → R 1 b s = 0) (hw0 : ∀ d, N 0 4 ≤ d → ∀ j, R 2 d j = 0) : MetXI z0 l yX4_endDay (.code yX4_endDay cX4_endDay 5 (some .int) :: LW) ({ frames := 6, cells := 1, slots := 6, locals := 100 }) D cA (xWd wr cA α L (N, R, Fr, inc)) [.ref (α 0 0)] (fun r (_ : Unit) => (op_endDay (N, R, Fr, inc)).1 = 0 ∧ r = (op_endDay (N, R, Fr, inc)).2.1) (fun _ => xWd wr cA α L (op_endDay (N, R, Fr, inc)).2.2) (fun E => ¬ (op_endDay (N, R, Fr, inc)).1 = 0 ∧ E = exOf ["java/lang/IllegalStateException"] (op_endDay (N, R, Fr, inc)).1) 1 6 := by
  refine k_bodyX hl0 (by decide) (Nat.le_of_ble_eq_true rfl) (fun p e s m args below meth c ls F G hW hl => ?_)
  obtain ⟨hx, hb, hr, hml, hown, hts, hlocks, hname⟩ := id F
  have hl : lv_has ls 5 [(0, .ref (α 0 0))] := hl
  refine lv_aload_n hx hb dX4_endDay_0 rfl (lv_at hl 0 rfl) ?_
  obtain ⟨q_562, hq_562⟩ := xw_at (wr := wr) (cA := cA) (α := α) (L := L) (S := (N, R, Fr, inc)) 0 0 (hLk.o 0 (by decide))
  refine k_get (v := .int (nI (N 0 4))) F hW inX4 rfl q_562 hq_562 rfl 9 (by decide) FL_X4_49 rfl rfl dX4_endDay_1 ?_
  refine lv_bipush (v := 19) hx hb dX4_endDay_4 (by decide) ?_
  refine lv_icmp_lt (tgt := 19) hx hb dX4_endDay_6 (by decide) (fun h_n => ?_) (fun h_n => ?_)
  · have h_n : ¬ N 0 4 = 19 := fun q => absurd ((nI_ltI (b := 19) (by omega) (by decide)).mp h_n) (by omega)
    have h_d : N 0 4 ≤ 18 := by have := hC; unfold IC at this; omega
    refine lv_aload_n hx hb dX4_endDay_19 rfl (lv_at hl 0 rfl) ?_
    obtain ⟨q_563, hq_563⟩ := xw_at (wr := wr) (cA := cA) (α := α) (L := L) (S := (N, R, Fr, inc)) 0 0 (hLk.o 0 (by decide))
    refine k_get (v := .ref (α 1 0)) F hW inX4 rfl q_563 hq_563 rfl 0 (by decide) FL_X4_11 rfl rfl dX4_endDay_20 ?_
    refine lv_astore_n (lv' := [(1, .ref (α 1 0)), (0, .ref (α 0 0))]) hx hb dX4_endDay_23 rfl hl (by decide) rfl (fun ls hl => ?_)
    refine lv_aload_n hx hb dX4_endDay_24 rfl (lv_at hl 0 rfl) ?_
    obtain ⟨q_564, hq_564⟩ := xw_at (wr := wr) (cA := cA) (α := α) (L := L) (S := (N, R, Fr, inc)) 1 0 (hLk.o 1 (by decide))
    refine k_alen (v := 6) F hW q_564 6 hq_564 rfl rfl dX4_endDay_25 ?_
    refine lv_istore_n (lv' := [(2, .int 6), (1, .ref (α 1 0)), (0, .ref (α 0 0))]) hx hb dX4_endDay_26 rfl hl (by decide) rfl (fun ls hl => ?_)
    refine lv_iconst (v := 0) hx hb dX4_endDay_27 (by decide) ?_
    refine lv_istore_n (lv' := [(3, .int 0), (2, .int 6), (1, .ref (α 1 0)), (0, .ref (α 0 0))]) hx hb dX4_endDay_28 rfl hl (by decide) rfl (fun ls hl => ?_)
    have hW := hW.eq (show _ = xWd wr cA α L (N, wrote R (N 0 4) (4 * min 0 (N 0 0)), Fr, inc) by rw [Nat.zero_min, Nat.mul_zero, wrote_0])
    refine k_ind (P := fun k H locs ls => ∃ i, i + k = 6 ∧ Cw D cA s (va_A (xWd wr cA α L (N, R, Fr, inc)) s.heap.size) (xWd wr cA α L (N, wrote R (N 0 4) (4 * min i (N 0 0)), Fr, inc)) H locs ∧ lv_has ls 5 [(0, .ref (α 0 0)), (1, .ref (α 1 0)), (2, .int 6), (3, .int (nI i))]) (fun k ih H locs ls hP => ?_) (6) ⟨0, by omega, hW, lv_sub hl [3, 2, 1, 0] rfl⟩
    obtain ⟨i, hi_i, hW, hl⟩ := hP
    refine lv_iload_n hx hb dX4_endDay_29 rfl (lv_at hl 3 rfl) ?_
    refine lv_iload_n hx hb dX4_endDay_30 rfl (lv_at hl 2 rfl) ?_
    refine lv_icmp_ge (tgt := 59) hx hb dX4_endDay_31 (by decide) (fun h_c => ?_) (fun h_c => ?_)
    · obtain rfl : i = 6 := by have := (nI_leI (b := i) (a := 6) (by omega) (by omega)).mp h_c; omega
      have hW := hW.eq (show _ = xWd wr cA α L (N, wrote R (N 0 4) 24, Fr, inc) by rw [Nat.min_eq_right (by have := hC; unfold IC at this; omega), wrote_all (by have := hC; unfold IC at this; omega) hq0 (hw0 _ (Nat.le_refl _))])
      refine lv_aload_n hx hb dX4_endDay_59 rfl (lv_at hl 0 rfl) ?_
      refine lv_dup hx hb dX4_endDay_60 rfl ?_
      obtain ⟨q_565, hq_565⟩ := xw_at (wr := wr) (cA := cA) (α := α) (L := L) (S := (N, wrote R (N 0 4) 24, Fr, inc)) 0 0 (hLk.o 0 (by decide))
      refine k_get (v := .int (nI (N 0 4))) F hW inX4 rfl q_565 hq_565 rfl 9 (by decide) FL_X4_49 rfl rfl dX4_endDay_61 ?_
      refine lv_iconst (v := 1) hx hb dX4_endDay_64 (by decide) ?_
      refine lv_iadd hx hb dX4_endDay_65 ?_
      refine lv_topi (fun x_566 ex_566 => ?_)
      obtain rfl : x_566 = nI (N 0 4 + 1) := ex_566.trans (nI_1 _)
      obtain ⟨q_567, hq_567, gq_567⟩ := xput (wr := wr) (L := L) (S := (N, wrote R (N 0 4) 24, Fr, inc)) (S' := (up2 N 0 4 (N 0 4 + 1), wrote R (N 0 4) 24, Fr, inc)) 0 0 (hLk.o 0 (by decide)) hLk.1 (fun p hp hne => xe_n0 cA α N (wrote R (N 0 4) 24) Fr inc 4 (N 0 4 + 1) p (xe_0 hLk hp hne)) (xs_n0_4 cA α N (wrote R (N 0 4) 24) Fr inc (N 0 4 + 1))
      refine k_put F hW inX4 tyX4_ok nmX4 rfl q_567 hq_567 rfl 9 (by decide) FL_X4_49 rfl rfl rfl rfl rfl (Nat.le_of_ble_eq_true rfl) (xWd wr cA α L (up2 N 0 4 (N 0 4 + 1), wrote R (N 0 4) 24, Fr, inc)) gq_567 dX4_endDay_66 (fun H locs hW => ?_)
      have hLk1 : LOK (up2 N 0 4 (N 0 4 + 1)) L := hLk.same rfl
      refine lv_aload_n hx hb dX4_endDay_69 rfl (lv_at hl 0 rfl) ?_
      obtain ⟨q_568, hq_568⟩ := xw_at (wr := wr) (cA := cA) (α := α) (L := L) (S := (up2 N 0 4 (N 0 4 + 1), wrote R (N 0 4) 24, Fr, inc)) 0 0 (hLk1.o 0 (by decide))
      refine k_get (v := .int (nI (N 0 4 + 1))) F hW inX4 rfl q_568 hq_568 rfl 9 (by decide) FL_X4_49 rfl rfl dX4_endDay_70 ?_
      have hop : op_endDay (N, R, Fr, inc) = (0, nI (N 0 4 + 1), (up2 N 0 4 (N 0 4 + 1), wrote R (N 0 4) 24, Fr, inc)) := if_neg h_n
      refine vx_ret ?_
      exact k_iret () F (hW.eq (by rw [hop])) (⟨by rw [hop], by rw [hop]⟩) dX4_endDay_73 (Nat.le_of_ble_eq_true rfl) (Nat.le_of_ble_eq_true rfl)
    · have hlt : i < 6 := Nat.lt_of_not_le fun q => h_c (nI_le (a := 6) q (by omega))
      refine lv_aload_n hx hb dX4_endDay_34 rfl (lv_at hl 1 rfl) ?_
      refine lv_iload_n hx hb dX4_endDay_35 rfl (lv_at hl 3 rfl) ?_
      by_cases hiv : i < N 0 0
      · obtain ⟨q_569, hq_569⟩ := xw_at (wr := wr) (cA := cA) (α := α) (L := L) (S := (N, wrote R (N 0 4) (4 * min i (N 0 0)), Fr, inc)) 1 0 (hLk.o 1 (by decide))
        refine k_aaldS (x := (α 5 i)) F hW q_569 hq_569 (tI := 6) rfl (vp_in_nI hlt (by decide)) (by rw [nI_clamp (by omega)]; exact if_pos (hC.lt (by decide) hiv)) dX4_endDay_36 ?_
        refine lv_astore (lv' := [(4, .ref (α 5 i)), (0, .ref (α 0 0)), (1, .ref (α 1 0)), (2, .int 6), (3, .int (nI i))]) hx hb dX4_endDay_37 hl (by decide) rfl (fun ls hl => ?_)
        refine lv_aload hx hb dX4_endDay_39 (lv_at hl 0 rfl) ?_
        refine lv_ifnull hx hb dX4_endDay_41 ?_
        refine lv_aload hx hb dX4_endDay_44 (lv_at hl 0 rfl) ?_
        refine lv_aload_n hx hb dX4_endDay_46 rfl (lv_at hl 1 rfl) ?_
        obtain ⟨q_570, hq_570⟩ := xw_at (wr := wr) (cA := cA) (α := α) (L := L) (S := (N, wrote R (N 0 4) (4 * min i (N 0 0)), Fr, inc)) 0 0 (hLk.o 0 (by decide))
        refine k_get (v := .int (nI (N 0 4))) F hW inX4 rfl q_570 hq_570 rfl 9 (by decide) FL_X4_49 rfl rfl dX4_endDay_47 ?_
        obtain ⟨q_571, hq_571⟩ := xw_at (wr := wr) (cA := cA) (α := α) (L := L) (S := (N, wrote R (N 0 4) (4 * min i (N 0 0)), Fr, inc)) 5 i (hLk.b 5 i (by decide) (hC.lt (by decide) hiv))
        refine k_callVv (as := [.int (nI (N 0 4))]) (rest := []) (b := (α 5 i)) (ci := 2) (q0 := q_571) F hW (met_X0_writeDown l D cA wr α L N (wrote R (N 0 4) (4 * min i (N 0 0))) Fr inc i (N 0 4) hLk (hC.lt (by decide) hiv) h_d) rfl ML_X4_142 IM_X0_writeDown SE_X0_writeDown IN_X0 CO_X0_writeDown hdV_X0_writeDown rfl rfl ⟨(Nat.le_of_ble_eq_true rfl), (Nat.le_of_ble_eq_true rfl)⟩ rfl rfl (hq_571) rfl rfl hl.1 (Nat.le_of_ble_eq_true rfl) dX4_endDay_50 ⟨(Nat.le_of_ble_eq_true rfl), (Nat.le_of_ble_eq_true rfl)⟩ (fun u H locs hw hW => ?_)
        have hW := hW.eq (show _ = xWd wr cA α L (N, wrote R (N 0 4) (4 * min (i + 1) (N 0 0)), Fr, inc) by rw [Nat.min_eq_left (by omega), Nat.min_eq_left (by omega), wroteB_step])
        refine lv_iinc (k := 4) (lv' := [(3, .int (nI (i + 1))), (4, .ref (α 5 i)), (0, .ref (α 0 0)), (1, .ref (α 1 0)), (2, .int 6)]) hx hb dX4_endDay_53 hl rfl (nI_1 i) (by decide) rfl (fun ls hl => ?_)
        refine lv_goto (tgt := 29) hx hb dX4_endDay_56 (by decide) ?_
        exact ih (k - 1) (by omega) ⟨i + 1, by omega, hW, lv_sub hl [2, 3, 4, 0] rfl⟩
      · obtain ⟨q_573, hq_573⟩ := xw_at (wr := wr) (cA := cA) (α := α) (L := L) (S := (N, wrote R (N 0 4) (4 * min i (N 0 0)), Fr, inc)) 1 0 (hLk.o 1 (by decide))
        refine k_aaldN F hW q_573 hq_573 (tI := 6) rfl (vp_in_nI hlt (by decide)) (by rw [nI_clamp (by omega)]; exact if_neg (by rw [hC.2.2.2.2.2.1 0 (by decide)]; exact hiv)) dX4_endDay_36 ?_
        refine x_astoreQ (r := none) (lv' := [(4, va_rf none), (0, .ref (α 0 0)), (1, .ref (α 1 0)), (2, .int 6), (3, .int (nI i))]) hx hb dX4_endDay_37 hl (by decide) rfl (fun ls hl => ?_)
        refine x_aloadQ (r := none) hx hb dX4_endDay_39 (lv_at hl 0 rfl) ?_
        refine lv_ifnullN (tgt := 53) hx hb dX4_endDay_41 (by decide) ?_
        have hW := hW.eq (show _ = xWd wr cA α L (N, wrote R (N 0 4) (4 * min (i + 1) (N 0 0)), Fr, inc) by rw [show min (i + 1) (N 0 0) = min i (N 0 0) from by rw [Nat.min_eq_right (by omega), Nat.min_eq_right (by omega)]])
        refine lv_iinc (k := 4) (lv' := [(3, .int (nI (i + 1))), (4, va_rf none), (0, .ref (α 0 0)), (1, .ref (α 1 0)), (2, .int 6)]) hx hb dX4_endDay_53 hl rfl (nI_1 i) (by decide) rfl (fun ls hl => ?_)
        refine lv_goto (tgt := 29) hx hb dX4_endDay_56 (by decide) ?_
        exact ih (k - 1) (by omega) ⟨i + 1, by omega, hW, lv_sub hl [2, 3, 4, 0] rfl⟩
  · have h_n : N 0 4 = 19 := by have h1 : ¬ N 0 4 < 19 := fun q => h_n (nI_lt (b := 19) q (by decide)); have := hC; unfold IC at this; omega
    have hop : op_endDay (N, R, Fr, inc) = (1, 0, (N, R, Fr, inc)) := if_pos h_n
    exact k_throwS F G hW rfl (by decide) CL_X4_79 IN_E_IllegalStateException (List.mem_of_getElem? (i := 8) rfl) hat_IllegalState good_IllegalState hl.1 (Nat.le_of_ble_eq_true rfl) dX4_endDay_9 dX4_endDay_12 dX4_endDay_13 dX4_endDay_15 dX4_endDay_18 (⟨by rw [hop]; exact Nat.succ_ne_zero _, by rw [hop]; rfl⟩) ⟨(Nat.le_of_ble_eq_true rfl), (Nat.le_of_ble_eq_true rfl), (Nat.le_of_ble_eq_true rfl), (Nat.le_of_ble_eq_true rfl)⟩ ⟨(Nat.le_of_ble_eq_true rfl), (Nat.le_of_ble_eq_true rfl)⟩
