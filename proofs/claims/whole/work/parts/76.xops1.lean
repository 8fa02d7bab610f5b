theorem up3_comm {R : Nat → Nat → Nat → Int32} {k i j k' i' j' : Nat} {v v' : Int32} (h : ¬ (k = k' ∧ i = i' ∧ j = j')) : up3 (up3 R k i j v) k' i' j' v' = up3 (up3 R k' i' j' v') k i j v := by
  funext a b c
  simp only [up3]
  by_cases h1 : a = k' ∧ b = i' ∧ c = j'
  · obtain ⟨rfl, rfl, rfl⟩ := h1
    rw [if_pos ⟨rfl, rfl, rfl⟩, if_neg (fun q => h ⟨q.1.symm, q.2.1.symm, q.2.2.symm⟩)]
    exact (if_pos ⟨rfl, rfl, rfl⟩).symm
  · rw [if_neg h1]
    by_cases h2 : a = k ∧ b = i ∧ c = j
    · rw [if_pos h2, if_pos h2]
    · rw [if_neg h2, if_neg h2, if_neg h1]
theorem up3_row {R : Nat → Nat → Nat → Int32} {k i j k' i' j' : Nat} {v v' : Int32} (h : ¬ k = k') : up3 (up3 R k i j v) k' i' j' v' = up3 (up3 R k' i' j' v') k i j v := up3_comm fun q => h q.1
theorem up3_self {R : Nat → Nat → Nat → Int32} {k i j : Nat} {v : Int32} : up3 R k i j v k i j = v := if_pos ⟨rfl, rfl, rfl⟩
/-- which exception a code is -/
def exOf (l : List String) (c : Nat) : String := l.getD (c - 1) ""
set_option maxHeartbeats 4000000 in
set_option maxRecDepth 100000 in
theorem met_X4_beyond (l : Launch) (D : va_G) (cA : Nat → ClassId) (wr : va_W) (α : Nat → Nat → Nat) (L : List (Nat × Nat)) (N : Nat → Nat → Nat) (R : Nat → Nat → Nat → Int32) (Fr : Nat → UInt32) (inc : Int64) (hLk : LOK N L) : MetI l yX4_beyond (.code yX4_beyond cX4_beyond 1 (some .int) :: LW) ({ frames := 0, cells := 0, slots := 0, locals := 0 }) D cA (xWd wr cA α L (N, R, Fr, inc)) [.ref (α 0 0)] (fun r (_ : Unit) => r = R 0 0 0) (fun _ => xWd wr cA α L (N, R, Fr, inc)) 0 0 := by
  refine k_bodyI (plainFor_of_name (by decide)) (Nat.le_of_ble_eq_true rfl) (fun p e s m args below meth c ls F hW hl => ?_)
  obtain ⟨hx, hb, hr, hml, hown, hts, hlocks, hname⟩ := id F
  have hl : lv_has ls 1 [(0, .ref (α 0 0))] := hl
  refine lv_aload_n hx hb dX4_beyond_0 rfl (lv_at hl 0 rfl) ?_
  obtain ⟨q_299, hq_299⟩ := xw_at (wr := wr) (cA := cA) (α := α) (L := L) (S := (N, R, Fr, inc)) 0 0 (hLk.o 0 (by decide))
  refine k_get (v := .int (R 0 0 0)) F hW inX4 rfl q_299 hq_299 rfl 10 (by decide) FL_X4_52 rfl rfl dX4_beyond_1 ?_
  exact k_iret () F (hW) (rfl) dX4_beyond_4 (Nat.le_of_ble_eq_true rfl) (Nat.le_of_ble_eq_true rfl)

set_option maxHeartbeats 4000000 in
set_option maxRecDepth 100000 in
theorem met_X4_time (l : Launch) (D : va_G) (cA : Nat → ClassId) (wr : va_W) (α : Nat → Nat → Nat) (L : List (Nat × Nat)) (N : Nat → Nat → Nat) (R : Nat → Nat → Nat → Int32) (Fr : Nat → UInt32) (inc : Int64) (hLk : LOK N L) : MetI l yX4_time (.code yX4_time cX4_time 1 (some .int) :: LW) ({ frames := 0, cells := 0, slots := 0, locals := 0 }) D cA (xWd wr cA α L (N, R, Fr, inc)) [.ref (α 0 0)] (fun r (_ : Unit) => r = nI (N 0 5)) (fun _ => xWd wr cA α L (N, R, Fr, inc)) 0 0 := by
  refine k_bodyI (plainFor_of_name (by decide)) (Nat.le_of_ble_eq_true rfl) (fun p e s m args below meth c ls F hW hl => ?_)
  obtain ⟨hx, hb, hr, hml, hown, hts, hlocks, hname⟩ := id F
  have hl : lv_has ls 1 [(0, .ref (α 0 0))] := hl
  refine lv_aload_n hx hb dX4_time_0 rfl (lv_at hl 0 rfl) ?_
  obtain ⟨q_300, hq_300⟩ := xw_at (wr := wr) (cA := cA) (α := α) (L := L) (S := (N, R, Fr, inc)) 0 0 (hLk.o 0 (by decide))
  refine k_get (v := .int (nI (N 0 5))) F hW inX4 rfl q_300 hq_300 rfl 8 (by decide) FL_X4_46 rfl rfl dX4_time_1 ?_
  exact k_iret () F (hW) (rfl) dX4_time_4 (Nat.le_of_ble_eq_true rfl) (Nat.le_of_ble_eq_true rfl)

set_option maxHeartbeats 4000000 in
set_option maxRecDepth 100000 in
theorem met_X4_income (l : Launch) (D : va_G) (cA : Nat → ClassId) (wr : va_W) (α : Nat → Nat → Nat) (L : List (Nat × Nat)) (N : Nat → Nat → Nat) (R : Nat → Nat → Nat → Int32) (Fr : Nat → UInt32) (inc : Int64) (hLk : LOK N L) : MetL l yX4_income (.code yX4_income cX4_income 1 (some .long) :: LW) ({ frames := 0, cells := 0, slots := 0, locals := 0 }) D cA (xWd wr cA α L (N, R, Fr, inc)) [.ref (α 0 0)] (fun r (_ : Unit) => r = inc) (fun _ => xWd wr cA α L (N, R, Fr, inc)) 0 0 := by
  refine k_bodyL (plainFor_of_name (by decide)) (Nat.le_of_ble_eq_true rfl) (fun p e s m args below meth c ls F hW hl => ?_)
  obtain ⟨hx, hb, hr, hml, hown, hts, hlocks, hname⟩ := id F
  have hl : lv_has ls 1 [(0, .ref (α 0 0))] := hl
  refine lv_aload_n hx hb dX4_income_0 rfl (lv_at hl 0 rfl) ?_
  obtain ⟨q_301, hq_301⟩ := xw_at (wr := wr) (cA := cA) (α := α) (L := L) (S := (N, R, Fr, inc)) 0 0 (hLk.o 0 (by decide))
  refine k_get (v := .long inc) F hW inX4 rfl q_301 hq_301 rfl 14 (by decide) FL_X4_64 rfl rfl dX4_income_1 ?_
  exact k_lret () F (hW) (rfl) dX4_income_4 (Nat.le_of_ble_eq_true rfl) (Nat.le_of_ble_eq_true rfl)

set_option maxHeartbeats 4000000 in
set_option maxRecDepth 100000 in
theorem met_X4_weight (l : Launch) (D : va_G) (cA : Nat → ClassId) (wr : va_W) (α : Nat → Nat → Nat) (L : List (Nat × Nat)) (N : Nat → Nat → Nat) (R : Nat → Nat → Nat → Int32) (Fr : Nat → UInt32) (inc : Int64) (p0 : Int32) (z0 : Nat) (hl0 : l.stackTraces = false) (hLk : LOK N L) (hC : IC N) : MetXI z0 l yX4_weight (.code yX4_weight cX4_weight 2 (some .int) :: LW) ({ frames := 7, cells := 1, slots := 6, locals := 111 }) D cA (xWd wr cA α L (N, R, Fr, inc)) [.ref (α 0 0), .int p0] (fun r (_ : Unit) => (op_lot 7 (N, R, Fr, inc) p0).1 = 0 ∧ r = (op_lot 7 (N, R, Fr, inc) p0).2.1) (fun _ => xWd wr cA α L (op_lot 7 (N, R, Fr, inc) p0).2.2) (fun E => ¬ (op_lot 7 (N, R, Fr, inc) p0).1 = 0 ∧ E = exOf [nE] (op_lot 7 (N, R, Fr, inc) p0).1) 1 6 := by
  refine k_bodyX hl0 (by decide) (Nat.le_of_ble_eq_true rfl) (fun p e s m args below meth c ls F G hW hl => ?_)
  obtain ⟨hx, hb, hr, hml, hown, hts, hlocks, hname⟩ := id F
  have hl : lv_has ls 2 [(0, .ref (α 0 0)), (1, .int p0)] := hl
  refine lv_aload_n hx hb dX4_weight_0 rfl (lv_at hl 0 rfl) ?_
  refine lv_iload_n hx hb dX4_weight_1 rfl (lv_at hl 1 rfl) ?_
  obtain ⟨q_304, hq_304⟩ := xw_at (wr := wr) (cA := cA) (α := α) (L := L) (S := (N, R, Fr, inc)) 0 0 (hLk.o 0 (by decide))
  refine k_cXVr (as := [.int p0]) (rest := []) (b := (α 0 0)) (ci := 6) (q0 := q_304) F G hW (met_X4_lotNumbered l D cA wr α L N R Fr inc p0 z0 hl0 hLk hC) rfl ML_X4_145 IM_X4_lotNumbered SE_X4_lotNumbered IN_X4 CO_X4_lotNumbered hdV_X4_lotNumbered rfl rfl ⟨(Nat.le_of_ble_eq_true rfl), (Nat.le_of_ble_eq_true rfl)⟩ rfl rfl (hq_304) rfl rfl dX4_weight_2 hl.1 (Nat.le_of_ble_eq_true rfl) ⟨(Nat.le_of_ble_eq_true rfl), (Nat.le_of_ble_eq_true rfl)⟩ (fun E h => by
      obtain ⟨rfl, hix⟩ := h
      have hop : op_lot 7 (N, R, Fr, inc) p0 = (1, 0, (N, R, Fr, inc)) := by simp [op_lot, hix]
      exact ⟨by rw [hop]; exact Nat.succ_ne_zero _, by rw [hop]; rfl⟩) ⟨(Nat.le_of_ble_eq_true rfl), (Nat.le_of_ble_eq_true rfl)⟩ (fun r_303 u H locs hw hW => ?_)
  obtain ⟨hix_302, rfl⟩ := hw
  obtain ⟨q_305, hq_305⟩ := xw_at (wr := wr) (cA := cA) (α := α) (L := L) (S := (N, R, Fr, inc)) 9 (ix p0) (hLk.l (ix p0) (hC.lt (by decide) (ix_lt hix_302 (by have := hC; unfold IC at this; omega)).1))
  refine k_get (v := .int (R 7 (ix p0) 0)) F hW inX2 rfl q_305 hq_305 rfl 4 (by decide) FL_X4_149 rfl rfl dX4_weight_5 ?_
  have hop : op_lot 7 (N, R, Fr, inc) p0 = (0, (R 7 (ix p0) 0), (N, R, Fr, inc)) := by simp [op_lot, hix_302]
  refine vx_ret ?_
  exact k_iret () F (hW.eq (by rw [hop])) (⟨by rw [hop], by rw [hop]⟩) dX4_weight_8 (Nat.le_of_ble_eq_true rfl) (Nat.le_of_ble_eq_true rfl)

set_option maxHeartbeats 4000000 in
set_option maxRecDepth 100000 in
theorem met_X4_iceOn (l : Launch) (D : va_G) (cA : Nat → ClassId) (wr : va_W) (α : Nat → Nat → Nat) (L : List (Nat × Nat)) (N : Nat → Nat → Nat) (R : Nat → Nat → Nat → Int32) (Fr : Nat → UInt32) (inc : Int64) (p0 : Int32) (z0 : Nat) (hl0 : l.stackTraces = false) (hLk : LOK N L) (hC : IC N) : MetXI z0 l yX4_iceOn (.code yX4_iceOn cX4_iceOn 2 (some .int) :: LW) ({ frames := 7, cells := 1, slots := 6, locals := 111 }) D cA (xWd wr cA α L (N, R, Fr, inc)) [.ref (α 0 0), .int p0] (fun r (_ : Unit) => (op_lot 10 (N, R, Fr, inc) p0).1 = 0 ∧ r = (op_lot 10 (N, R, Fr, inc) p0).2.1) (fun _ => xWd wr cA α L (op_lot 10 (N, R, Fr, inc) p0).2.2) (fun E => ¬ (op_lot 10 (N, R, Fr, inc) p0).1 = 0 ∧ E = exOf [nE] (op_lot 10 (N, R, Fr, inc) p0).1) 1 6 := by
  refine k_bodyX hl0 (by decide) (Nat.le_of_ble_eq_true rfl) (fun p e s m args below meth c ls F G hW hl => ?_)
  obtain ⟨hx, hb, hr, hml, hown, hts, hlocks, hname⟩ := id F
  have hl : lv_has ls 2 [(0, .ref (α 0 0)), (1, .int p0)] := hl
  refine lv_aload_n hx hb dX4_iceOn_0 rfl (lv_at hl 0 rfl) ?_
  refine lv_iload_n hx hb dX4_iceOn_1 rfl (lv_at hl 1 rfl) ?_
  obtain ⟨q_308, hq_308⟩ := xw_at (wr := wr) (cA := cA) (α := α) (L := L) (S := (N, R, Fr, inc)) 0 0 (hLk.o 0 (by decide))
  refine k_cXVr (as := [.int p0]) (rest := []) (b := (α 0 0)) (ci := 6) (q0 := q_308) F G hW (met_X4_lotNumbered l D cA wr α L N R Fr inc p0 z0 hl0 hLk hC) rfl ML_X4_145 IM_X4_lotNumbered SE_X4_lotNumbered IN_X4 CO_X4_lotNumbered hdV_X4_lotNumbered rfl rfl ⟨(Nat.le_of_ble_eq_true rfl), (Nat.le_of_ble_eq_true rfl)⟩ rfl rfl (hq_308) rfl rfl dX4_iceOn_2 hl.1 (Nat.le_of_ble_eq_true rfl) ⟨(Nat.le_of_ble_eq_true rfl), (Nat.le_of_ble_eq_true rfl)⟩ (fun E h => by
      obtain ⟨rfl, hix⟩ := h
      have hop : op_lot 10 (N, R, Fr, inc) p0 = (1, 0, (N, R, Fr, inc)) := by simp [op_lot, hix]
      exact ⟨by rw [hop]; exact Nat.succ_ne_zero _, by rw [hop]; rfl⟩) ⟨(Nat.le_of_ble_eq_true rfl), (Nat.le_of_ble_eq_true rfl)⟩ (fun r_307 u H locs hw hW => ?_)
  obtain ⟨hix_306, rfl⟩ := hw
  obtain ⟨q_309, hq_309⟩ := xw_at (wr := wr) (cA := cA) (α := α) (L := L) (S := (N, R, Fr, inc)) 9 (ix p0) (hLk.l (ix p0) (hC.lt (by decide) (ix_lt hix_306 (by have := hC; unfold IC at this; omega)).1))
  refine k_get (v := .int (R 10 (ix p0) 0)) F hW inX2 rfl q_309 hq_309 rfl 8 (by decide) FL_X4_172 rfl rfl dX4_iceOn_5 ?_
  have hop : op_lot 10 (N, R, Fr, inc) p0 = (0, (R 10 (ix p0) 0), (N, R, Fr, inc)) := by simp [op_lot, hix_306]
  refine vx_ret ?_
  exact k_iret () F (hW.eq (by rw [hop])) (⟨by rw [hop], by rw [hop]⟩) dX4_iceOn_8 (Nat.le_of_ble_eq_true rfl) (Nat.le_of_ble_eq_true rfl)

set_option maxHeartbeats 4000000 in
set_option maxRecDepth 100000 in
theorem met_X4_paidFor (l : Launch) (D : va_G) (cA : Nat → ClassId) (wr : va_W) (α : Nat → Nat → Nat) (L : List (Nat × Nat)) (N : Nat → Nat → Nat) (R : Nat → Nat → Nat → Int32) (Fr : Nat → UInt32) (inc : Int64) (p0 : Int32) (z0 : Nat) (hl0 : l.stackTraces = false) (hLk : LOK N L) (hC : IC N) : MetXI z0 l yX4_paidFor (.code yX4_paidFor cX4_paidFor 2 (some .int) :: LW) ({ frames := 7, cells := 1, slots := 6, locals := 111 }) D cA (xWd wr cA α L (N, R, Fr, inc)) [.ref (α 0 0), .int p0] (fun r (_ : Unit) => (op_lot 12 (N, R, Fr, inc) p0).1 = 0 ∧ r = (op_lot 12 (N, R, Fr, inc) p0).2.1) (fun _ => xWd wr cA α L (op_lot 12 (N, R, Fr, inc) p0).2.2) (fun E => ¬ (op_lot 12 (N, R, Fr, inc) p0).1 = 0 ∧ E = exOf [nE] (op_lot 12 (N, R, Fr, inc) p0).1) 1 6 := by
  refine k_bodyX hl0 (by decide) (Nat.le_of_ble_eq_true rfl) (fun p e s m args below meth c ls F G hW hl => ?_)
  obtain ⟨hx, hb, hr, hml, hown, hts, hlocks, hname⟩ := id F
  have hl : lv_has ls 2 [(0, .ref (α 0 0)), (1, .int p0)] := hl
  refine lv_aload_n hx hb dX4_paidFor_0 rfl (lv_at hl 0 rfl) ?_
  refine lv_iload_n hx hb dX4_paidFor_1 rfl (lv_at hl 1 rfl) ?_
  obtain ⟨q_312, hq_312⟩ := xw_at (wr := wr) (cA := cA) (α := α) (L := L) (S := (N, R, Fr, inc)) 0 0 (hLk.o 0 (by decide))
  refine k_cXVr (as := [.int p0]) (rest := []) (b := (α 0 0)) (ci := 6) (q0 := q_312) F G hW (met_X4_lotNumbered l D cA wr α L N R Fr inc p0 z0 hl0 hLk hC) rfl ML_X4_145 IM_X4_lotNumbered SE_X4_lotNumbered IN_X4 CO_X4_lotNumbered hdV_X4_lotNumbered rfl rfl ⟨(Nat.le_of_ble_eq_true rfl), (Nat.le_of_ble_eq_true rfl)⟩ rfl rfl (hq_312) rfl rfl dX4_paidFor_2 hl.1 (Nat.le_of_ble_eq_true rfl) ⟨(Nat.le_of_ble_eq_true rfl), (Nat.le_of_ble_eq_true rfl)⟩ (fun E h => by
      obtain ⟨rfl, hix⟩ := h
      have hop : op_lot 12 (N, R, Fr, inc) p0 = (1, 0, (N, R, Fr, inc)) := by simp [op_lot, hix]
      exact ⟨by rw [hop]; exact Nat.succ_ne_zero _, by rw [hop]; rfl⟩) ⟨(Nat.le_of_ble_eq_true rfl), (Nat.le_of_ble_eq_true rfl)⟩ (fun r_311 u H locs hw hW => ?_)
  obtain ⟨hix_310, rfl⟩ := hw
  obtain ⟨q_313, hq_313⟩ := xw_at (wr := wr) (cA := cA) (α := α) (L := L) (S := (N, R, Fr, inc)) 9 (ix p0) (hLk.l (ix p0) (hC.lt (by decide) (ix_lt hix_310 (by have := hC; unfold IC at this; omega)).1))
  refine k_get (v := .int (R 12 (ix p0) 0)) F hW inX2 rfl q_313 hq_313 rfl 10 (by decide) FL_X4_235 rfl rfl dX4_paidFor_5 ?_
  have hop : op_lot 12 (N, R, Fr, inc) p0 = (0, (R 12 (ix p0) 0), (N, R, Fr, inc)) := by simp [op_lot, hix_310]
  refine vx_ret ?_
  exact k_iret () F (hW.eq (by rw [hop])) (⟨by rw [hop], by rw [hop]⟩) dX4_paidFor_8 (Nat.le_of_ble_eq_true rfl) (Nat.le_of_ble_eq_true rfl)

set_option maxHeartbeats 4000000 in
set_option maxRecDepth 100000 in
theorem met_X4_fresh (l : Launch) (D : va_G) (cA : Nat → ClassId) (wr : va_W) (α : Nat → Nat → Nat) (L : List (Nat × Nat)) (N : Nat → Nat → Nat) (R : Nat → Nat → Nat → Int32) (Fr : Nat → UInt32) (inc : Int64) (p0 : Int32) (z0 : Nat) (hl0 : l.stackTraces = false) (hLk : LOK N L) (hC : IC N) : MetXF z0 l yX4_fresh (.code yX4_fresh cX4_fresh 2 (some .float) :: LW) ({ frames := 7, cells := 1, slots := 6, locals := 111 }) D cA (xWd wr cA α L (N, R, Fr, inc)) [.ref (α 0 0), .int p0] (fun r (_ : Unit) => (op_fresh (N, R, Fr, inc) p0).1 = 0 ∧ r = (op_fresh (N, R, Fr, inc) p0).2.1) (fun _ => xWd wr cA α L (op_fresh (N, R, Fr, inc) p0).2.2) (fun E => ¬ (op_fresh (N, R, Fr, inc) p0).1 = 0 ∧ E = exOf [nE] (op_fresh (N, R, Fr, inc) p0).1) 1 6 := by
  refine k_bodyX hl0 (by decide) (Nat.le_of_ble_eq_true rfl) (fun p e s m args below meth c ls F G hW hl => ?_)
  obtain ⟨hx, hb, hr, hml, hown, hts, hlocks, hname⟩ := id F
  have hl : lv_has ls 2 [(0, .ref (α 0 0)), (1, .int p0)] := hl
  refine lv_aload_n hx hb dX4_fresh_0 rfl (lv_at hl 0 rfl) ?_
  refine lv_iload_n hx hb dX4_fresh_1 rfl (lv_at hl 1 rfl) ?_
  obtain ⟨q_316, hq_316⟩ := xw_at (wr := wr) (cA := cA) (α := α) (L := L) (S := (N, R, Fr, inc)) 0 0 (hLk.o 0 (by decide))
  refine k_cXVr (as := [.int p0]) (rest := []) (b := (α 0 0)) (ci := 6) (q0 := q_316) F G hW (met_X4_lotNumbered l D cA wr α L N R Fr inc p0 z0 hl0 hLk hC) rfl ML_X4_145 IM_X4_lotNumbered SE_X4_lotNumbered IN_X4 CO_X4_lotNumbered hdV_X4_lotNumbered rfl rfl ⟨(Nat.le_of_ble_eq_true rfl), (Nat.le_of_ble_eq_true rfl)⟩ rfl rfl (hq_316) rfl rfl dX4_fresh_2 hl.1 (Nat.le_of_ble_eq_true rfl) ⟨(Nat.le_of_ble_eq_true rfl), (Nat.le_of_ble_eq_true rfl)⟩ (fun E h => by
      obtain ⟨rfl, hix⟩ := h
      have hop : op_fresh (N, R, Fr, inc) p0 = (1, 0, (N, R, Fr, inc)) := by simp [op_fresh, hix, show FP.fconst0 = 0 from rfl]
      exact ⟨by rw [hop]; exact Nat.succ_ne_zero _, by rw [hop]; rfl⟩) ⟨(Nat.le_of_ble_eq_true rfl), (Nat.le_of_ble_eq_true rfl)⟩ (fun r_315 u H locs hw hW => ?_)
  obtain ⟨hix_314, rfl⟩ := hw
  obtain ⟨q_317, hq_317⟩ := xw_at (wr := wr) (cA := cA) (α := α) (L := L) (S := (N, R, Fr, inc)) 9 (ix p0) (hLk.l (ix p0) (hC.lt (by decide) (ix_lt hix_314 (by have := hC; unfold IC at this; omega)).1))
  refine k_get (v := .float (Fr (ix p0))) F hW inX2 rfl q_317 hq_317 rfl 7 (by decide) FL_X4_156 rfl rfl dX4_fresh_5 ?_
  have hop : op_fresh (N, R, Fr, inc) p0 = (0, (Fr (ix p0)), (N, R, Fr, inc)) := by simp [op_fresh, hix_314, show FP.fconst0 = 0 from rfl]
  refine vx_ret ?_
  exact k_fret () F (hW.eq (by rw [hop])) (⟨by rw [hop], by rw [hop]⟩) dX4_fresh_8 (Nat.le_of_ble_eq_true rfl) (Nat.le_of_ble_eq_true rfl)

set_option maxHeartbeats 4000000 in
set_option maxRecDepth 100000 in
theorem met_X4_stateOf (l : Launch) (D : va_G) (cA : Nat → ClassId) (wr : va_W) (α : Nat → Nat → Nat) (L : List (Nat × Nat)) (N : Nat → Nat → Nat) (R : Nat → Nat → Nat → Int32) (Fr : Nat → UInt32) (inc : Int64) (p0 : Int32) (z0 : Nat) (hl0 : l.stackTraces = false) (hLk : LOK N L) (hC : IC N) (hL : ∀ j, j < N 0 1 → lotOK R Fr j) : MetXI z0 l yX4_stateOf (.code yX4_stateOf cX4_stateOf 2 (some .char) :: LW) ({ frames := 7, cells := 1, slots := 6, locals := 111 }) D cA (xWd wr cA α L (N, R, Fr, inc)) [.ref (α 0 0), .int p0] (fun r (_ : Unit) => (op_lot 9 (N, R, Fr, inc) p0).1 = 0 ∧ r = (op_lot 9 (N, R, Fr, inc) p0).2.1) (fun _ => xWd wr cA α L (op_lot 9 (N, R, Fr, inc) p0).2.2) (fun E => ¬ (op_lot 9 (N, R, Fr, inc) p0).1 = 0 ∧ E = exOf [nE] (op_lot 9 (N, R, Fr, inc) p0).1) 1 6 := by
  refine k_bodyX hl0 (by decide) (Nat.le_of_ble_eq_true rfl) (fun p e s m args below meth c ls F G hW hl => ?_)
  obtain ⟨hx, hb, hr, hml, hown, hts, hlocks, hname⟩ := id F
  have hl : lv_has ls 2 [(0, .ref (α 0 0)), (1, .int p0)] := hl
  refine lv_aload_n hx hb dX4_stateOf_0 rfl (lv_at hl 0 rfl) ?_
  refine lv_iload_n hx hb dX4_stateOf_1 rfl (lv_at hl 1 rfl) ?_
  obtain ⟨q_320, hq_320⟩ := xw_at (wr := wr) (cA := cA) (α := α) (L := L) (S := (N, R, Fr, inc)) 0 0 (hLk.o 0 (by decide))
  refine k_cXVr (as := [.int p0]) (rest := []) (b := (α 0 0)) (ci := 6) (q0 := q_320) F G hW (met_X4_lotNumbered l D cA wr α L N R Fr inc p0 z0 hl0 hLk hC) rfl ML_X4_145 IM_X4_lotNumbered SE_X4_lotNumbered IN_X4 CO_X4_lotNumbered hdV_X4_lotNumbered rfl rfl ⟨(Nat.le_of_ble_eq_true rfl), (Nat.le_of_ble_eq_true rfl)⟩ rfl rfl (hq_320) rfl rfl dX4_stateOf_2 hl.1 (Nat.le_of_ble_eq_true rfl) ⟨(Nat.le_of_ble_eq_true rfl), (Nat.le_of_ble_eq_true rfl)⟩ (fun E h => by
      obtain ⟨rfl, hix⟩ := h
      have hop : op_lot 9 (N, R, Fr, inc) p0 = (1, 0, (N, R, Fr, inc)) := by simp [op_lot, hix]
      exact ⟨by rw [hop]; exact Nat.succ_ne_zero _, by rw [hop]; rfl⟩) ⟨(Nat.le_of_ble_eq_true rfl), (Nat.le_of_ble_eq_true rfl)⟩ (fun r_319 u H locs hw hW => ?_)
  obtain ⟨hix_318, rfl⟩ := hw
  have hnz := stN (hL _ (ix_lt hix_318 (by have := hC; unfold IC at this; omega)).1).2.2.2.1
  obtain ⟨q_321, hq_321⟩ := xw_at (wr := wr) (cA := cA) (α := α) (L := L) (S := (N, R, Fr, inc)) 9 (ix p0) (hLk.l (ix p0) (hC.lt (by decide) (ix_lt hix_318 (by have := hC; unfold IC at this; omega)).1))
  refine k_get (v := .int (R 9 (ix p0) 0)) F hW inX2 rfl q_321 hq_321 rfl 6 (by decide) FL_X4_152 rfl rfl dX4_stateOf_5 ?_
  have hop : op_lot 9 (N, R, Fr, inc) p0 = (0, (R 9 (ix p0) 0), (N, R, Fr, inc)) := by simp [op_lot, hix_318]
  refine vx_ret ?_
  exact k_zret () F (by first | rfl | exact hnz) (hW.eq (by rw [hop])) (⟨by rw [hop], by rw [hop]⟩) dX4_stateOf_8 (Nat.le_of_ble_eq_true rfl) (Nat.le_of_ble_eq_true rfl)

set_option maxHeartbeats 4000000 in
set_option maxRecDepth 100000 in
theorem met_X4_iceLasts (l : Launch) (D : va_G) (cA : Nat → ClassId) (wr : va_W) (α : Nat → Nat → Nat) (L : List (Nat × Nat)) (N : Nat → Nat → Nat) (R : Nat → Nat → Nat → Int32) (Fr : Nat → UInt32) (inc : Int64) (p0 : Int32) (z0 : Nat) (hl0 : l.stackTraces = false) (hLk : LOK N L) (hC : IC N) (hL : ∀ j, j < N 0 1 → lotOK R Fr j) : MetXI z0 l yX4_iceLasts (.code yX4_iceLasts cX4_iceLasts 2 (some .int) :: LW) ({ frames := 7, cells := 1, slots := 6, locals := 111 }) D cA (xWd wr cA α L (N, R, Fr, inc)) [.ref (α 0 0), .int p0] (fun r (_ : Unit) => (op_iceLasts (N, R, Fr, inc) p0).1 = 0 ∧ r = (op_iceLasts (N, R, Fr, inc) p0).2.1) (fun _ => xWd wr cA α L (op_iceLasts (N, R, Fr, inc) p0).2.2) (fun E => ¬ (op_iceLasts (N, R, Fr, inc) p0).1 = 0 ∧ E = exOf [nE] (op_iceLasts (N, R, Fr, inc) p0).1) 1 6 := by
  refine k_bodyX hl0 (by decide) (Nat.le_of_ble_eq_true rfl) (fun p e s m args below meth c ls F G hW hl => ?_)
  obtain ⟨hx, hb, hr, hml, hown, hts, hlocks, hname⟩ := id F
  have hl : lv_has ls 2 [(0, .ref (α 0 0)), (1, .int p0)] := hl
  refine lv_aload_n hx hb dX4_iceLasts_0 rfl (lv_at hl 0 rfl) ?_
  refine lv_iload_n hx hb dX4_iceLasts_1 rfl (lv_at hl 1 rfl) ?_
  obtain ⟨q_324, hq_324⟩ := xw_at (wr := wr) (cA := cA) (α := α) (L := L) (S := (N, R, Fr, inc)) 0 0 (hLk.o 0 (by decide))
  refine k_cXVr (as := [.int p0]) (rest := []) (b := (α 0 0)) (ci := 6) (q0 := q_324) F G hW (met_X4_lotNumbered l D cA wr α L N R Fr inc p0 z0 hl0 hLk hC) rfl ML_X4_145 IM_X4_lotNumbered SE_X4_lotNumbered IN_X4 CO_X4_lotNumbered hdV_X4_lotNumbered rfl rfl ⟨(Nat.le_of_ble_eq_true rfl), (Nat.le_of_ble_eq_true rfl)⟩ rfl rfl (hq_324) rfl rfl dX4_iceLasts_2 hl.1 (Nat.le_of_ble_eq_true rfl) ⟨(Nat.le_of_ble_eq_true rfl), (Nat.le_of_ble_eq_true rfl)⟩ (fun E h => by
      obtain ⟨rfl, hix⟩ := h
      have hop : op_iceLasts (N, R, Fr, inc) p0 = (1, 0, (N, R, Fr, inc)) := by simp [op_iceLasts, hix]
      exact ⟨by rw [hop]; exact Nat.succ_ne_zero _, by rw [hop]; rfl⟩) ⟨(Nat.le_of_ble_eq_true rfl), (Nat.le_of_ble_eq_true rfl)⟩ (fun r_323 u H locs hw hW => ?_)
  obtain ⟨hix_322, rfl⟩ := hw
  obtain ⟨q_325, hq_325⟩ := xw_at (wr := wr) (cA := cA) (α := α) (L := L) (S := (N, R, Fr, inc)) 9 (ix p0) (hLk.l (ix p0) (hC.lt (by decide) (ix_lt hix_322 (by have := hC; unfold IC at this; omega)).1))
  refine k_callVi (as := []) (rest := []) (b := (α 9 (ix p0))) (ci := 4) (q0 := q_325) F hW (met_X2_ticksOfIce l D cA wr α L N R Fr inc (ix p0) hLk (hC.lt (by decide) (ix_lt hix_322 (by have := hC; unfold IC at this; omega)).1) (hL _ (ix_lt hix_322 (by have := hC; unfold IC at this; omega)).1).2.2.1) rfl ML_X4_175 IM_X2_ticksOfIce SE_X2_ticksOfIce IN_X2 CO_X2_ticksOfIce hdV_X2_ticksOfIce rfl rfl ⟨(Nat.le_of_ble_eq_true rfl), (Nat.le_of_ble_eq_true rfl)⟩ rfl rfl (hq_325) rfl rfl hl.1 (Nat.le_of_ble_eq_true rfl) dX4_iceLasts_5 ⟨(Nat.le_of_ble_eq_true rfl), (Nat.le_of_ble_eq_true rfl)⟩ (fun r_326 u H locs hw hW => ?_)
  subst hw
  have hop : op_iceLasts (N, R, Fr, inc) p0 = (0, (R 10 (ix p0) 0 / iceFor (R 7 (ix p0) 0)), (N, R, Fr, inc)) := by simp [op_iceLasts, hix_322]
  refine vx_ret ?_
  exact k_iret () F (hW.eq (by rw [hop])) (⟨by rw [hop], by rw [hop]⟩) dX4_iceLasts_8 (Nat.le_of_ble_eq_true rfl) (Nat.le_of_ble_eq_true rfl)

set_option maxHeartbeats 4000000 in
set_option maxRecDepth 100000 in
theorem met_X4_budget (l : Launch) (D : va_G) (cA : Nat → ClassId) (wr : va_W) (α : Nat → Nat → Nat) (L : List (Nat × Nat)) (N : Nat → Nat → Nat) (R : Nat → Nat → Nat → Int32) (Fr : Nat → UInt32) (inc : Int64) (p0 : Int32) (z0 : Nat) (hl0 : l.stackTraces = false) (hLk : LOK N L) (hC : IC N) : MetXI z0 l yX4_budget (.code yX4_budget cX4_budget 2 (some .int) :: LW) ({ frames := 7, cells := 1, slots := 6, locals := 111 }) D cA (xWd wr cA α L (N, R, Fr, inc)) [.ref (α 0 0), .int p0] (fun r (_ : Unit) => (op_budget (N, R, Fr, inc) p0).1 = 0 ∧ r = (op_budget (N, R, Fr, inc) p0).2.1) (fun _ => xWd wr cA α L (op_budget (N, R, Fr, inc) p0).2.2) (fun E => ¬ (op_budget (N, R, Fr, inc) p0).1 = 0 ∧ E = exOf ["java/lang/IndexOutOfBoundsException"] (op_budget (N, R, Fr, inc) p0).1) 1 6 := by
  refine k_bodyX hl0 (by decide) (Nat.le_of_ble_eq_true rfl) (fun p e s m args below meth c ls F G hW hl => ?_)
  obtain ⟨hx, hb, hr, hml, hown, hts, hlocks, hname⟩ := id F
  have hl : lv_has ls 2 [(0, .ref (α 0 0)), (1, .int p0)] := hl
  refine lv_aload_n hx hb dX4_budget_0 rfl (lv_at hl 0 rfl) ?_
  refine lv_iload_n hx hb dX4_budget_1 rfl (lv_at hl 1 rfl) ?_
  obtain ⟨q_329, hq_329⟩ := xw_at (wr := wr) (cA := cA) (α := α) (L := L) (S := (N, R, Fr, inc)) 0 0 (hLk.o 0 (by decide))
  refine k_cXVr (as := [.int p0]) (rest := []) (b := (α 0 0)) (ci := 6) (q0 := q_329) F G hW (met_X4_buyerNumbered l D cA wr α L N R Fr inc p0 z0 hl0 hLk hC) rfl ML_X4_196 IM_X4_buyerNumbered SE_X4_buyerNumbered IN_X4 CO_X4_buyerNumbered hdV_X4_buyerNumbered rfl rfl ⟨(Nat.le_of_ble_eq_true rfl), (Nat.le_of_ble_eq_true rfl)⟩ rfl rfl (hq_329) rfl rfl dX4_budget_2 hl.1 (Nat.le_of_ble_eq_true rfl) ⟨(Nat.le_of_ble_eq_true rfl), (Nat.le_of_ble_eq_true rfl)⟩ (fun E h => by
      obtain ⟨rfl, hix⟩ := h
      have hop : op_budget (N, R, Fr, inc) p0 = (1, 0, (N, R, Fr, inc)) := by simp [op_budget, hix]
      exact ⟨by rw [hop]; exact Nat.succ_ne_zero _, by rw [hop]; rfl⟩) ⟨(Nat.le_of_ble_eq_true rfl), (Nat.le_of_ble_eq_true rfl)⟩ (fun r_328 u H locs hw hW => ?_)
  obtain ⟨hix_327, rfl⟩ := hw
  obtain ⟨q_330, hq_330⟩ := xw_at (wr := wr) (cA := cA) (α := α) (L := L) (S := (N, R, Fr, inc)) 10 (ix p0) (hLk.u 10 (ix p0) (by decide) (hC.lt (by decide) (ix_lt hix_327 (by have := hC; unfold IC at this; omega)).1))
  refine k_get (v := .int (R 13 (ix p0) 0)) F hW inX1 rfl q_330 hq_330 rfl 2 (by decide) FL_X4_205 rfl rfl dX4_budget_5 ?_
  have hop : op_budget (N, R, Fr, inc) p0 = (0, (R 13 (ix p0) 0), (N, R, Fr, inc)) := by simp [op_budget, hix_327]
  refine vx_ret ?_
  exact k_iret () F (hW.eq (by rw [hop])) (⟨by rw [hop], by rw [hop]⟩) dX4_budget_8 (Nat.le_of_ble_eq_true rfl) (Nat.le_of_ble_eq_true rfl)

set_option maxHeartbeats 4000000 in
set_option maxRecDepth 100000 in
theorem met_X4_checkSpecies (l : Launch) (D : va_G) (cA : Nat → ClassId) (wr : va_W) (α : Nat → Nat → Nat) (L : List (Nat × Nat)) (N : Nat → Nat → Nat) (R : Nat → Nat → Nat → Int32) (Fr : Nat → UInt32) (inc : Int64) (v : Int32) (z0 : Nat) (hl0 : l.stackTraces = false) : MetXV z0 l yX4_checkSpecies (.code yX4_checkSpecies cX4_checkSpecies 1 none :: LW) ({ frames := 6, cells := 1, slots := 6, locals := 90 }) D cA (xWd wr cA α L (N, R, Fr, inc)) [.int v] (fun (_ : Unit) => wi v 0 3 = true) (fun _ => xWd wr cA α L (N, R, Fr, inc)) (fun E => E = "java/lang/IllegalArgumentException" ∧ wi v 0 3 = false) 1 6 := by
  refine k_bodyX hl0 (by decide) (Nat.le_of_ble_eq_true rfl) (fun p e s m args below meth c ls F G hW hl => ?_)
  obtain ⟨hx, hb, hr, hml, hown, hts, hlocks, hname⟩ := id F
  have hl : lv_has ls 1 [(0, .int v)] := hl
  refine lv_iload_n hx hb dX4_checkSpecies_0 rfl (lv_at hl 0 rfl) ?_
  refine k_callSi (as := [.int v]) (rest := []) F hW (met_X4_isSpecies l D cA _ v) rfl ML_X4_91 ST_X4_isSpecies IN_X4 CO_X4_isSpecies hdS_X4_isSpecies rfl rfl ⟨(Nat.le_of_ble_eq_true rfl), (Nat.le_of_ble_eq_true rfl)⟩ rfl rfl hl.1 (Nat.le_of_ble_eq_true rfl) dX4_checkSpecies_1 ⟨(Nat.le_of_ble_eq_true rfl), (Nat.le_of_ble_eq_true rfl)⟩ (fun r_331 u H locs hw hW => ?_)
  subst hw
  cases hq_332 : wi v 0 3
  · refine lv_if_ne (tgt := 18) hx hb dX4_checkSpecies_4 (by decide) (fun h => absurd (by decide) h) (fun _ => ?_)
    exact k_throwSW F G hW rfl (by decide) CL_X4_72 IN_E_IllegalArgumentException (List.mem_of_getElem? (i := 29) rfl) hat_IllegalArgument good_IllegalArgument hl.1 (Nat.le_of_ble_eq_true rfl) dX4_checkSpecies_7 dX4_checkSpecies_10 dX4_checkSpecies_11 dX4_checkSpecies_14 dX4_checkSpecies_17 (⟨rfl, rfl⟩) ⟨(Nat.le_of_ble_eq_true rfl), (Nat.le_of_ble_eq_true rfl), (Nat.le_of_ble_eq_true rfl), (Nat.le_of_ble_eq_true rfl)⟩ ⟨(Nat.le_of_ble_eq_true rfl), (Nat.le_of_ble_eq_true rfl)⟩
  · refine lv_if_ne (tgt := 18) hx hb dX4_checkSpecies_4 (by decide) (fun _ => ?_) (fun h => absurd h (by decide))
    refine vx_ret ?_
    exact k_vret () F (hW) (rfl) dX4_checkSpecies_18 (Nat.le_of_ble_eq_true rfl) (Nat.le_of_ble_eq_true rfl)

set_option maxHeartbeats 4000000 in
set_option maxRecDepth 100000 in
theorem met_X4_quota (l : Launch) (D : va_G) (cA : Nat → ClassId) (wr : va_W) (α : Nat → Nat → Nat) (L : List (Nat × Nat)) (N : Nat → Nat → Nat) (R : Nat → Nat → Nat → Int32) (Fr : Nat → UInt32) (inc : Int64) (p0 p1 : Int32) (z0 : Nat) (hl0 : l.stackTraces = false) (hLk : LOK N L) (hC : IC N) : MetXI z0 l yX4_quota (.code yX4_quota cX4_quota 4 (some .int) :: LW) ({ frames := 7, cells := 2, slots := 12, locals := 111 }) D cA (xWd wr cA α L (N, R, Fr, inc)) [.ref (α 0 0), .int p0, .int p1] (fun r (_ : Unit) => (op_quota (N, R, Fr, inc) p0 p1).1 = 0 ∧ r = (op_quota (N, R, Fr, inc) p0 p1).2.1) (fun _ => xWd wr cA α L (op_quota (N, R, Fr, inc) p0 p1).2.2) (fun E => ¬ (op_quota (N, R, Fr, inc) p0 p1).1 = 0 ∧ E = exOf ["java/lang/IndexOutOfBoundsException", "java/lang/IllegalArgumentException"] (op_quota (N, R, Fr, inc) p0 p1).1) 2 12 := by
  refine k_bodyX hl0 (by decide) (Nat.le_of_ble_eq_true rfl) (fun p e s m args below meth c ls F G hW hl => ?_)
  obtain ⟨hx, hb, hr, hml, hown, hts, hlocks, hname⟩ := id F
  have hl : lv_has ls 4 [(0, .ref (α 0 0)), (1, .int p0), (2, .int p1)] := hl
  refine lv_aload_n hx hb dX4_quota_0 rfl (lv_at hl 0 rfl) ?_
  refine lv_iload_n hx hb dX4_quota_1 rfl (lv_at hl 1 rfl) ?_
  obtain ⟨q_335, hq_335⟩ := xw_at (wr := wr) (cA := cA) (α := α) (L := L) (S := (N, R, Fr, inc)) 0 0 (hLk.o 0 (by decide))
  refine k_cXVr (as := [.int p0]) (rest := []) (b := (α 0 0)) (ci := 6) (q0 := q_335) F G hW (met_X4_boatNumbered l D cA wr α L N R Fr inc p0 z0 hl0 hLk hC) rfl ML_X4_87 IM_X4_boatNumbered SE_X4_boatNumbered IN_X4 CO_X4_boatNumbered hdV_X4_boatNumbered rfl rfl ⟨(Nat.le_of_ble_eq_true rfl), (Nat.le_of_ble_eq_true rfl)⟩ rfl rfl (hq_335) rfl rfl dX4_quota_2 hl.1 (Nat.le_of_ble_eq_true rfl) ⟨(Nat.le_of_ble_eq_true rfl), (Nat.le_of_ble_eq_true rfl)⟩ (fun E h => by
      obtain ⟨rfl, hix⟩ := h
      have hop : op_quota (N, R, Fr, inc) p0 p1 = (1, 0, (N, R, Fr, inc)) := by simp [op_quota, hix]
      exact ⟨by rw [hop]; exact Nat.succ_ne_zero _, by rw [hop]; rfl⟩) ⟨(Nat.le_of_ble_eq_true rfl), (Nat.le_of_ble_eq_true rfl)⟩ (fun r_334 u H locs hw hW => ?_)
  obtain ⟨hix_333, rfl⟩ := hw
  refine lv_astore_n (lv' := [(3, .ref (α 5 (ix p0))), (0, .ref (α 0 0)), (1, .int p0), (2, .int p1)]) hx hb dX4_quota_5 rfl hl (by decide) rfl (fun ls hl => ?_)
  refine lv_iload_n hx hb dX4_quota_6 rfl (lv_at hl 3 rfl) ?_
  refine k_cXSv (as := [.int p1]) (rest := []) F G hW (met_X4_checkSpecies l D cA wr α L N R Fr inc p1 z0 hl0) rfl ML_X4_128 ST_X4_checkSpecies IN_X4 CO_X4_checkSpecies hdS_X4_checkSpecies rfl rfl ⟨(Nat.le_of_ble_eq_true rfl), (Nat.le_of_ble_eq_true rfl)⟩ rfl rfl dX4_quota_7 hl.1 (Nat.le_of_ble_eq_true rfl) ⟨(Nat.le_of_ble_eq_true rfl), (Nat.le_of_ble_eq_true rfl)⟩ (fun E h => by
      obtain ⟨rfl, hwi⟩ := h
      have hop : op_quota (N, R, Fr, inc) p0 p1 = (2, 0, (N, R, Fr, inc)) := by simp [op_quota, hix_333, hwi]
      exact ⟨by rw [hop]; exact Nat.succ_ne_zero _, by rw [hop]; rfl⟩) ⟨(Nat.le_of_ble_eq_true rfl), (Nat.le_of_ble_eq_true rfl)⟩ (fun u H locs hw hW => ?_)
  have hsp_336 := hw
  refine lv_aload_n hx hb dX4_quota_10 rfl (lv_at hl 0 rfl) ?_
  obtain ⟨q_338, hq_338⟩ := xw_at (wr := wr) (cA := cA) (α := α) (L := L) (S := (N, R, Fr, inc)) 5 (ix p0) (hLk.b 5 (ix p0) (by decide) (hC.lt (by decide) (ix_lt hix_333 (by have := hC; unfold IC at this; omega)).1))
  refine k_get (v := .ref (α 6 (ix p0))) F hW inX0 rfl q_338 hq_338 rfl 1 (by decide) FL_X4_102 rfl rfl dX4_quota_11 ?_
  refine lv_iload_n hx hb dX4_quota_14 rfl (lv_at hl 3 rfl) ?_
  obtain ⟨q_339, hq_339⟩ := xw_at (wr := wr) (cA := cA) (α := α) (L := L) (S := (N, R, Fr, inc)) 6 (ix p0) (hLk.b 6 (ix p0) (by decide) (hC.lt (by decide) (ix_lt hix_333 (by have := hC; unfold IC at this; omega)).1))
  refine k_iald (v := R 1 (ix p0) (ix p1)) F hW q_339 hq_339 (sp_in hsp_336) (rfl) dX4_quota_15 ?_
  have hop : op_quota (N, R, Fr, inc) p0 p1 = (0, (R 1 (ix p0) (ix p1)), (N, R, Fr, inc)) := by simp [op_quota, hix_333, hsp_336]
  refine vx_ret ?_
  exact k_iret () F (hW.eq (by rw [hop])) (⟨by rw [hop], by rw [hop]⟩) dX4_quota_16 (Nat.le_of_ble_eq_true rfl) (Nat.le_of_ble_eq_true rfl)

set_option maxHeartbeats 4000000 in
set_option maxRecDepth 100000 in
theorem met_X0_leftAtEnd (l : Launch) (D : va_G) (cA : Nat → ClassId) (wr : va_W) (α : Nat → Nat → Nat) (L : List (Nat × Nat)) (N : Nat → Nat → Nat) (R : Nat → Nat → Nat → Int32) (Fr : Nat → UInt32) (inc : Int64) (b : Nat) (d q : Int32) (hLk : LOK N L) (hb5 : b < N 2 0) (hd : isIx 19 d = true) (hs : wi q 0 3 = true) : MetI l yX0_leftAtEnd (.code yX0_leftAtEnd cX0_leftAtEnd 3 (some .int) :: LW) ({ frames := 0, cells := 0, slots := 0, locals := 0 }) D cA (xWd wr cA α L (N, R, Fr, inc)) [.ref (α 5 b), .int d, .int q] (fun r (_ : Unit) => r = R 2 (ix d) (4 * b + ix q)) (fun _ => xWd wr cA α L (N, R, Fr, inc)) 0 0 := by
  refine k_bodyI (plainFor_of_name (by decide)) (Nat.le_of_ble_eq_true rfl) (fun p e s m args below meth c ls F hW hl => ?_)
  obtain ⟨hx, hb, hr, hml, hown, hts, hlocks, hname⟩ := id F
  have hl : lv_has ls 3 [(0, .ref (α 5 b)), (1, .int d), (2, .int q)] := hl
  refine lv_aload_n hx hb dX0_leftAtEnd_0 rfl (lv_at hl 0 rfl) ?_
  obtain ⟨q_340, hq_340⟩ := xw_at (wr := wr) (cA := cA) (α := α) (L := L) (S := (N, R, Fr, inc)) 5 b (hLk.b 5 b (by decide) hb5)
  refine k_get (v := .ref (α 8 b)) F hW inX0 rfl q_340 hq_340 rfl 3 (by decide) FL_X0_18 rfl rfl dX0_leftAtEnd_1 ?_
  refine lv_iload_n hx hb dX0_leftAtEnd_4 rfl (lv_at hl 1 rfl) ?_
  refine lv_iconst (v := 4) hx hb dX0_leftAtEnd_5 (by decide) ?_
  refine lv_imul hx hb dX0_leftAtEnd_6 ?_
  refine lv_iload_n hx hb dX0_leftAtEnd_7 rfl (lv_at hl 2 rfl) ?_
  refine lv_iadd hx hb dX0_leftAtEnd_8 ?_
  have hix9 := cl4 (n := 19) hd (by decide) hs
  have h4c : d * 4 + q = 4 * d + q := by rw [Int32.mul_comm]
  obtain ⟨q_341, hq_341⟩ := xw_at (wr := wr) (cA := cA) (α := α) (L := L) (S := (N, R, Fr, inc)) 8 b (hLk.b 8 b (by decide) hb5)
  refine k_iald (v := R 2 (ix d) (4 * b + ix q)) F hW q_341 hq_341 (by rw [h4c]; exact in4 hd (by decide) hs (by decide) (by decide)) (by rw [h4c, hix9.2.1]; show R 2 ((4 * ix d + ix q) / 4) (4 * b + (4 * ix d + ix q) % 4) = _; rw [show (4 * ix d + ix q) / 4 = ix d by omega, show (4 * ix d + ix q) % 4 = ix q by omega]) dX0_leftAtEnd_9 ?_
  exact k_iret () F (hW) (rfl) dX0_leftAtEnd_10 (Nat.le_of_ble_eq_true rfl) (Nat.le_of_ble_eq_true rfl)

theorem isIx_of {n : Nat} {v : Int32} (h0 : 0 ≤ v) (h : v < nI n) (hn : n < 2 ^ 31) : isIx n v = true := by
  obtain ⟨j, hj, rfl⟩ := nI_of (x := v) (Int32.not_lt.mpr h0)
  exact isIx_t ((nI_ltI hj hn).mp h) hn
theorem isIx_ge {n : Nat} {v : Int32} (h : ¬ v < nI n) (hn : n < 2 ^ 31) : isIx n v = false := by
  rcases ixc n v hn with q | ⟨j, hj, rfl, -, -⟩
  · exact q
  · exact absurd (nI_lt hj hn) h
theorem isIx_mono {n k : Nat} {v : Int32} (h : isIx n v = true) (hnk : n ≤ k) (hk : k < 2 ^ 31) : isIx k v = true := by
  obtain ⟨h1, h2⟩ := ix_lt h (by omega)
  rw [h2]; exact isIx_t (by omega) hk
set_option maxHeartbeats 4000000 in
set_option maxRecDepth 100000 in
theorem met_X4_quotaAt (l : Launch) (D : va_G) (cA : Nat → ClassId) (wr : va_W) (α : Nat → Nat → Nat) (L : List (Nat × Nat)) (N : Nat → Nat → Nat) (R : Nat → Nat → Nat → Int32) (Fr : Nat → UInt32) (inc : Int64) (p0 p1 p2 : Int32) (z0 : Nat) (hl0 : l.stackTraces = false) (hLk : LOK N L) (hC : IC N) : MetXI z0 l yX4_quotaAt (.code yX4_quotaAt cX4_quotaAt 5 (some .int) :: LW) ({ frames := 7, cells := 3, slots := 18, locals := 111 }) D cA (xWd wr cA α L (N, R, Fr, inc)) [.ref (α 0 0), .int p0, .int p1, .int p2] (fun r (_ : Unit) => (op_quotaAt (N, R, Fr, inc) p0 p1 p2).1 = 0 ∧ r = (op_quotaAt (N, R, Fr, inc) p0 p1 p2).2.1) (fun _ => xWd wr cA α L (op_quotaAt (N, R, Fr, inc) p0 p1 p2).2.2) (fun E => ¬ (op_quotaAt (N, R, Fr, inc) p0 p1 p2).1 = 0 ∧ E = exOf ["java/lang/IndexOutOfBoundsException", "java/lang/IllegalArgumentException", nE] (op_quotaAt (N, R, Fr, inc) p0 p1 p2).1) 3 18 := by
  refine k_bodyX hl0 (by decide) (Nat.le_of_ble_eq_true rfl) (fun p e s m args below meth c ls F G hW hl => ?_)
  obtain ⟨hx, hb, hr, hml, hown, hts, hlocks, hname⟩ := id F
  have hl : lv_has ls 5 [(0, .ref (α 0 0)), (1, .int p0), (2, .int p1), (3, .int p2)] := hl
  refine lv_aload_n hx hb dX4_quotaAt_0 rfl (lv_at hl 0 rfl) ?_
  refine lv_iload_n hx hb dX4_quotaAt_1 rfl (lv_at hl 1 rfl) ?_
  obtain ⟨q_344, hq_344⟩ := xw_at (wr := wr) (cA := cA) (α := α) (L := L) (S := (N, R, Fr, inc)) 0 0 (hLk.o 0 (by decide))
  refine k_cXVr (as := [.int p0]) (rest := []) (b := (α 0 0)) (ci := 6) (q0 := q_344) F G hW (met_X4_boatNumbered l D cA wr α L N R Fr inc p0 z0 hl0 hLk hC) rfl ML_X4_87 IM_X4_boatNumbered SE_X4_boatNumbered IN_X4 CO_X4_boatNumbered hdV_X4_boatNumbered rfl rfl ⟨(Nat.le_of_ble_eq_true rfl), (Nat.le_of_ble_eq_true rfl)⟩ rfl rfl (hq_344) rfl rfl dX4_quotaAt_2 hl.1 (Nat.le_of_ble_eq_true rfl) ⟨(Nat.le_of_ble_eq_true rfl), (Nat.le_of_ble_eq_true rfl)⟩ (fun E h => by
      obtain ⟨rfl, hix⟩ := h
      have hop : op_quotaAt (N, R, Fr, inc) p0 p1 p2 = (1, 0, (N, R, Fr, inc)) := by simp [op_quotaAt, hix]
      exact ⟨by rw [hop]; exact Nat.succ_ne_zero _, by rw [hop]; rfl⟩) ⟨(Nat.le_of_ble_eq_true rfl), (Nat.le_of_ble_eq_true rfl)⟩ (fun r_343 u H locs hw hW => ?_)
  obtain ⟨hix_342, rfl⟩ := hw
  refine lv_astore (lv' := [(4, .ref (α 5 (ix p0))), (0, .ref (α 0 0)), (1, .int p0), (2, .int p1), (3, .int p2)]) hx hb dX4_quotaAt_5 hl (by decide) rfl (fun ls hl => ?_)
  refine lv_iload_n hx hb dX4_quotaAt_7 rfl (lv_at hl 3 rfl) ?_
  refine k_cXSv (as := [.int p1]) (rest := []) F G hW (met_X4_checkSpecies l D cA wr α L N R Fr inc p1 z0 hl0) rfl ML_X4_128 ST_X4_checkSpecies IN_X4 CO_X4_checkSpecies hdS_X4_checkSpecies rfl rfl ⟨(Nat.le_of_ble_eq_true rfl), (Nat.le_of_ble_eq_true rfl)⟩ rfl rfl dX4_quotaAt_8 hl.1 (Nat.le_of_ble_eq_true rfl) ⟨(Nat.le_of_ble_eq_true rfl), (Nat.le_of_ble_eq_true rfl)⟩ (fun E h => by
      obtain ⟨rfl, hwi⟩ := h
      have hop : op_quotaAt (N, R, Fr, inc) p0 p1 p2 = (2, 0, (N, R, Fr, inc)) := by simp [op_quotaAt, hix_342, hwi]
      exact ⟨by rw [hop]; exact Nat.succ_ne_zero _, by rw [hop]; rfl⟩) ⟨(Nat.le_of_ble_eq_true rfl), (Nat.le_of_ble_eq_true rfl)⟩ (fun u H locs hw hW => ?_)
  have hsp_345 := hw
  refine lv_iload_n hx hb dX4_quotaAt_11 rfl (lv_at hl 4 rfl) ?_
  refine lv_if_lt (tgt := 23) hx hb dX4_quotaAt_12 (by decide) (fun h_a => ?_) (fun h_a => ?_)
  · have hd : isIx (N 0 4) p2 = false := isIx_neg h_a
    have hop : op_quotaAt (N, R, Fr, inc) p0 p1 p2 = (3, 0, (N, R, Fr, inc)) := by simp [op_quotaAt, hix_342, hsp_345, hd]
    exact k_throwN F G hW rfl CL_X4_132 IN_E_NoSuchElementException (List.mem_of_getElem? (i := 7) rfl) hl.1 (Nat.le_of_ble_eq_true rfl) dX4_quotaAt_23 dX4_quotaAt_26 dX4_quotaAt_27 dX4_quotaAt_29 dX4_quotaAt_32 (⟨by rw [hop]; exact Nat.succ_ne_zero _, by rw [hop]; rfl⟩) ⟨(Nat.le_of_ble_eq_true rfl), (Nat.le_of_ble_eq_true rfl), (Nat.le_of_ble_eq_true rfl), (Nat.le_of_ble_eq_true rfl)⟩ ⟨(Nat.le_of_ble_eq_true rfl), (Nat.le_of_ble_eq_true rfl)⟩
  · have h_a : 0 ≤ p2 := Int32.not_lt.mp h_a
    refine lv_iload_n hx hb dX4_quotaAt_15 rfl (lv_at hl 4 rfl) ?_
    refine lv_aload_n hx hb dX4_quotaAt_16 rfl (lv_at hl 1 rfl) ?_
    obtain ⟨q_347, hq_347⟩ := xw_at (wr := wr) (cA := cA) (α := α) (L := L) (S := (N, R, Fr, inc)) 0 0 (hLk.o 0 (by decide))
    refine k_get (v := .int (nI (N 0 4))) F hW inX4 rfl q_347 hq_347 rfl 9 (by decide) FL_X4_49 rfl rfl dX4_quotaAt_17 ?_
    refine lv_icmp_lt (tgt := 33) hx hb dX4_quotaAt_20 (by decide) (fun h_b => ?_) (fun h_b => ?_)
    · have hd : isIx (N 0 4) p2 = true := isIx_of h_a h_b (by have := hC; unfold IC at this; omega)
      refine lv_aload hx hb dX4_quotaAt_33 (lv_at hl 0 rfl) ?_
      refine lv_iload_n hx hb dX4_quotaAt_35 rfl (lv_at hl 4 rfl) ?_
      refine lv_iload_n hx hb dX4_quotaAt_36 rfl (lv_at hl 3 rfl) ?_
      obtain ⟨q_348, hq_348⟩ := xw_at (wr := wr) (cA := cA) (α := α) (L := L) (S := (N, R, Fr, inc)) 5 (ix p0) (hLk.b 5 (ix p0) (by decide) (hC.lt (by decide) (ix_lt hix_342 (by have := hC; unfold IC at this; omega)).1))
      refine k_callVi (as := [.int p2, .int p1]) (rest := []) (b := (α 5 (ix p0))) (ci := 2) (q0 := q_348) F hW (met_X0_leftAtEnd l D cA wr α L N R Fr inc (ix p0) p2 p1 hLk (hC.lt (by decide) (ix_lt hix_342 (by have := hC; unfold IC at this; omega)).1) (isIx_mono hd hC.2.2.2.2.1 (by decide)) hsp_345) rfl ML_X4_137 IM_X0_leftAtEnd SE_X0_leftAtEnd IN_X0 CO_X0_leftAtEnd hdV_X0_leftAtEnd rfl rfl ⟨(Nat.le_of_ble_eq_true rfl), (Nat.le_of_ble_eq_true rfl)⟩ rfl rfl (hq_348) rfl rfl hl.1 (Nat.le_of_ble_eq_true rfl) dX4_quotaAt_37 ⟨(Nat.le_of_ble_eq_true rfl), (Nat.le_of_ble_eq_true rfl)⟩ (fun r_349 u H locs hw hW => ?_)
      subst hw
      have hop : op_quotaAt (N, R, Fr, inc) p0 p1 p2 = (0, (R 2 (ix p2) (4 * ix p0 + ix p1)), (N, R, Fr, inc)) := by simp [op_quotaAt, hix_342, hsp_345, hd]
      refine vx_ret ?_
      exact k_iret () F (hW.eq (by rw [hop])) (⟨by rw [hop], by rw [hop]⟩) dX4_quotaAt_40 (Nat.le_of_ble_eq_true rfl) (Nat.le_of_ble_eq_true rfl)
    · have hd : isIx (N 0 4) p2 = false := isIx_ge h_b (by have := hC; unfold IC at this; omega)
      have hop : op_quotaAt (N, R, Fr, inc) p0 p1 p2 = (3, 0, (N, R, Fr, inc)) := by simp [op_quotaAt, hix_342, hsp_345, hd]
      exact k_throwN F G hW rfl CL_X4_132 IN_E_NoSuchElementException (List.mem_of_getElem? (i := 7) rfl) hl.1 (Nat.le_of_ble_eq_true rfl) dX4_quotaAt_23 dX4_quotaAt_26 dX4_quotaAt_27 dX4_quotaAt_29 dX4_quotaAt_32 (⟨by rw [hop]; exact Nat.succ_ne_zero _, by rw [hop]; rfl⟩) ⟨(Nat.le_of_ble_eq_true rfl), (Nat.le_of_ble_eq_true rfl), (Nat.le_of_ble_eq_true rfl), (Nat.le_of_ble_eq_true rfl)⟩ ⟨(Nat.le_of_ble_eq_true rfl), (Nat.le_of_ble_eq_true rfl)⟩
