/-- the counts -/
def IC (N : Nat → Nat → Nat) : Prop := N 0 0 ≤ 6 ∧ N 0 1 ≤ 20 ∧ N 0 2 ≤ 5 ∧ N 0 3 ≤ 4 ∧ N 0 4 ≤ 19 ∧ (∀ c, c < 4 → N 2 c = N 0 c) ∧ (∀ t, N 1 t ≤ 5) ∧ ∀ t, N 3 t = N 1 t
theorem IC.lt {N : Nat → Nat → Nat} (h : IC N) {c n : Nat} (hc : c < 4) (hn : n < N 0 c) : n < N 2 c := by rw [h.2.2.2.2.2.1 c hc]; exact hn
def atPier (R : Nat → Nat → Nat → Int32) (j : Nat) : Bool := decide (R 9 j 0 = 102) || decide (R 9 j 0 = 115) || decide (R 9 j 0 = 108)
set_option maxHeartbeats 4000000 in
set_option maxRecDepth 100000 in
theorem met_X4_isSpecies (l : Launch) (D : va_G) (cA : Nat → ClassId) (ws : va_W) (v : Int32) : MetI l yX4_isSpecies (.code yX4_isSpecies cX4_isSpecies 1 (some .boolean) :: LW) ({ frames := 1, cells := 0, slots := 0, locals := 22 }) D cA (ws) [.int v] (fun r (_ : Unit) => r = b2i (wi v 0 3)) (fun _ => ws) 0 0 := by
  refine k_bodyI (plainFor_of_name (by decide)) (Nat.le_of_ble_eq_true rfl) (fun p e s m args below meth c ls F hW hl => ?_)
  obtain ⟨hx, hb, hr, hml, hown, hts, hlocks, hname⟩ := id F
  have hl : lv_has ls 1 [(0, .int v)] := hl
  refine lv_iload_n hx hb dX4_isSpecies_0 rfl (lv_at hl 0 rfl) ?_
  refine lv_iconst (v := 0) hx hb dX4_isSpecies_1 (by decide) ?_
  refine lv_iconst (v := 3) hx hb dX4_isSpecies_2 (by decide) ?_
  refine k_callSi (as := [.int v, .int 0, .int 3]) (rest := []) F hW (met_X4_isWithin l D cA _ v 0 3) rfl ML_X4_94 ST_X4_isWithin IN_X4 CO_X4_isWithin hdS_X4_isWithin rfl rfl ⟨(Nat.le_of_ble_eq_true rfl), (Nat.le_of_ble_eq_true rfl)⟩ rfl rfl hl.1 (Nat.le_of_ble_eq_true rfl) dX4_isSpecies_3 ⟨(Nat.le_of_ble_eq_true rfl), (Nat.le_of_ble_eq_true rfl)⟩ (fun r_254 u H locs hw hW => ?_)
  subst hw
  exact k_zret () F (b2i_z _) (hW) (rfl) dX4_isSpecies_6 (Nat.le_of_ble_eq_true rfl) (Nat.le_of_ble_eq_true rfl)

set_option maxHeartbeats 4000000 in
set_option maxRecDepth 100000 in
theorem met_X4_isQuota (l : Launch) (D : va_G) (cA : Nat → ClassId) (ws : va_W) (v : Int32) : MetI l yX4_isQuota (.code yX4_isQuota cX4_isQuota 1 (some .boolean) :: LW) ({ frames := 1, cells := 0, slots := 0, locals := 22 }) D cA (ws) [.int v] (fun r (_ : Unit) => r = b2i (wi v 0 9999)) (fun _ => ws) 0 0 := by
  refine k_bodyI (plainFor_of_name (by decide)) (Nat.le_of_ble_eq_true rfl) (fun p e s m args below meth c ls F hW hl => ?_)
  obtain ⟨hx, hb, hr, hml, hown, hts, hlocks, hname⟩ := id F
  have hl : lv_has ls 1 [(0, .int v)] := hl
  refine lv_iload_n hx hb dX4_isQuota_0 rfl (lv_at hl 0 rfl) ?_
  refine lv_iconst (v := 0) hx hb dX4_isQuota_1 (by decide) ?_
  refine lv_sipush (v := 9999) hx hb dX4_isQuota_2 (by decide) ?_
  refine k_callSi (as := [.int v, .int 0, .int 9999]) (rest := []) F hW (met_X4_isWithin l D cA _ v 0 9999) rfl ML_X4_94 ST_X4_isWithin IN_X4 CO_X4_isWithin hdS_X4_isWithin rfl rfl ⟨(Nat.le_of_ble_eq_true rfl), (Nat.le_of_ble_eq_true rfl)⟩ rfl rfl hl.1 (Nat.le_of_ble_eq_true rfl) dX4_isQuota_5 ⟨(Nat.le_of_ble_eq_true rfl), (Nat.le_of_ble_eq_true rfl)⟩ (fun r_255 u H locs hw hW => ?_)
  subst hw
  exact k_zret () F (b2i_z _) (hW) (rfl) dX4_isQuota_8 (Nat.le_of_ble_eq_true rfl) (Nat.le_of_ble_eq_true rfl)

set_option maxHeartbeats 4000000 in
set_option maxRecDepth 100000 in
theorem met_X2_iceForOneTick (l : Launch) (D : va_G) (cA : Nat → ClassId) (wr : va_W) (α : Nat → Nat → Nat) (L : List (Nat × Nat)) (N : Nat → Nat → Nat) (R : Nat → Nat → Nat → Int32) (Fr : Nat → UInt32) (inc : Int64) (j : Nat) (hLk : LOK N L) (hj : j < N 2 1) : MetI l yX2_iceForOneTick (.code yX2_iceForOneTick cX2_iceForOneTick 1 (some .int) :: LW) ({ frames := 0, cells := 0, slots := 0, locals := 0 }) D cA (xWd wr cA α L (N, R, Fr, inc)) [.ref (α 9 j)] (fun r (_ : Unit) => r = iceFor (R 7 j 0)) (fun _ => xWd wr cA α L (N, R, Fr, inc)) 0 0 := by
  refine k_bodyI (plainFor_of_name (by decide)) (Nat.le_of_ble_eq_true rfl) (fun p e s m args below meth c ls F hW hl => ?_)
  obtain ⟨hx, hb, hr, hml, hown, hts, hlocks, hname⟩ := id F
  have hl : lv_has ls 1 [(0, .ref (α 9 j))] := hl
  refine lv_aload_n hx hb dX2_iceForOneTick_0 rfl (lv_at hl 0 rfl) ?_
  obtain ⟨q_256, hq_256⟩ := xw_at (wr := wr) (cA := cA) (α := α) (L := L) (S := (N, R, Fr, inc)) 9 j (hLk.l j hj)
  refine k_get (v := .int (R 7 j 0)) F hW inX2 rfl q_256 hq_256 rfl 4 (by decide) FL_X2_43 rfl rfl dX2_iceForOneTick_1 ?_
  refine lv_bipush (v := 9) hx hb dX2_iceForOneTick_4 (by decide) ?_
  refine lv_iadd hx hb dX2_iceForOneTick_6 ?_
  refine lv_bipush (v := 10) hx hb dX2_iceForOneTick_7 (by decide) ?_
  refine lv_idiv hx hb dX2_iceForOneTick_9 (by decide) ?_
  exact k_iret () F (hW) (rfl) dX2_iceForOneTick_10 (Nat.le_of_ble_eq_true rfl) (Nat.le_of_ble_eq_true rfl)

theorem iceFor_ge {x : Int32} (h : wOK x) : iceFor x ≥ 1 := by
  obtain ⟨w, h1, h2, rfl⟩ := h
  rw [iceFor_nI w h2]
  exact nI_le (a := 1) (by omega) (by omega)
set_option maxHeartbeats 4000000 in
set_option maxRecDepth 100000 in
theorem met_X2_ticksOfIce (l : Launch) (D : va_G) (cA : Nat → ClassId) (wr : va_W) (α : Nat → Nat → Nat) (L : List (Nat × Nat)) (N : Nat → Nat → Nat) (R : Nat → Nat → Nat → Int32) (Fr : Nat → UInt32) (inc : Int64) (j : Nat) (hLk : LOK N L) (hj : j < N 2 1) (hwt : wOK (R 7 j 0)) : MetI l yX2_ticksOfIce (.code yX2_ticksOfIce cX2_ticksOfIce 2 (some .int) :: LW) ({ frames := 1, cells := 0, slots := 0, locals := 20 }) D cA (xWd wr cA α L (N, R, Fr, inc)) [.ref (α 9 j)] (fun r (_ : Unit) => r = R 10 j 0 / iceFor (R 7 j 0)) (fun _ => xWd wr cA α L (N, R, Fr, inc)) 0 0 := by
  refine k_bodyI (plainFor_of_name (by decide)) (Nat.le_of_ble_eq_true rfl) (fun p e s m args below meth c ls F hW hl => ?_)
  obtain ⟨hx, hb, hr, hml, hown, hts, hlocks, hname⟩ := id F
  have hl : lv_has ls 2 [(0, .ref (α 9 j))] := hl
  refine lv_aload_n hx hb dX2_ticksOfIce_0 rfl (lv_at hl 0 rfl) ?_
  obtain ⟨q_257, hq_257⟩ := xw_at (wr := wr) (cA := cA) (α := α) (L := L) (S := (N, R, Fr, inc)) 9 j (hLk.l j hj)
  refine k_callVi (as := []) (rest := []) (b := (α 9 j)) (ci := 4) (q0 := q_257) F hW (met_X2_iceForOneTick l D cA wr α L N R Fr inc j hLk hj) rfl ML_X2_50 IM_X2_iceForOneTick SE_X2_iceForOneTick IN_X2 CO_X2_iceForOneTick hdV_X2_iceForOneTick rfl rfl ⟨(Nat.le_of_ble_eq_true rfl), (Nat.le_of_ble_eq_true rfl)⟩ rfl rfl (hq_257) rfl rfl hl.1 (Nat.le_of_ble_eq_true rfl) dX2_ticksOfIce_1 ⟨(Nat.le_of_ble_eq_true rfl), (Nat.le_of_ble_eq_true rfl)⟩ (fun r_258 u H locs hw hW => ?_)
  subst hw
  refine lv_istore_n (lv' := [(1, .int (iceFor (R 7 j 0))), (0, .ref (α 9 j))]) hx hb dX2_ticksOfIce_4 rfl hl (by decide) rfl (fun ls hl => ?_)
  refine lv_iload_n hx hb dX2_ticksOfIce_5 rfl (lv_at hl 0 rfl) ?_
  refine lv_iconst (v := 1) hx hb dX2_ticksOfIce_6 (by decide) ?_
  have h1 : iceFor (R 7 j 0) ≥ 1 := iceFor_ge hwt
  refine lv_icmp_ge (tgt := 14) hx hb dX2_ticksOfIce_7 (by decide) (fun _ => ?_) (fun h => absurd (h1) h)
  refine lv_aload_n hx hb dX2_ticksOfIce_14 rfl (lv_at hl 1 rfl) ?_
  obtain ⟨q_259, hq_259⟩ := xw_at (wr := wr) (cA := cA) (α := α) (L := L) (S := (N, R, Fr, inc)) 9 j (hLk.l j hj)
  refine k_get (v := .int (R 10 j 0)) F hW inX2 rfl q_259 hq_259 rfl 8 (by decide) FL_X2_20 rfl rfl dX2_ticksOfIce_15 ?_
  refine lv_iload_n hx hb dX2_ticksOfIce_18 rfl (lv_at hl 0 rfl) ?_
  refine lv_idiv hx hb dX2_ticksOfIce_19 (iceFor_ne hwt) ?_
  exact k_iret () F (hW) (rfl) dX2_ticksOfIce_20 (Nat.le_of_ble_eq_true rfl) (Nat.le_of_ble_eq_true rfl)

set_option maxHeartbeats 4000000 in
set_option maxRecDepth 100000 in
theorem met_X2_isAtPier (l : Launch) (D : va_G) (cA : Nat → ClassId) (wr : va_W) (α : Nat → Nat → Nat) (L : List (Nat × Nat)) (N : Nat → Nat → Nat) (R : Nat → Nat → Nat → Int32) (Fr : Nat → UInt32) (inc : Int64) (j : Nat) (hLk : LOK N L) (hj : j < N 2 1) : MetI l yX2_isAtPier (.code yX2_isAtPier cX2_isAtPier 1 (some .boolean) :: LW) ({ frames := 0, cells := 0, slots := 0, locals := 0 }) D cA (xWd wr cA α L (N, R, Fr, inc)) [.ref (α 9 j)] (fun r (_ : Unit) => r = b2i (atPier R j)) (fun _ => xWd wr cA α L (N, R, Fr, inc)) 0 0 := by
  refine k_bodyI (plainFor_of_name (by decide)) (Nat.le_of_ble_eq_true rfl) (fun p e s m args below meth c ls F hW hl => ?_)
  obtain ⟨hx, hb, hr, hml, hown, hts, hlocks, hname⟩ := id F
  have hl : lv_has ls 1 [(0, .ref (α 9 j))] := hl
  refine lv_aload_n hx hb dX2_isAtPier_0 rfl (lv_at hl 0 rfl) ?_
  obtain ⟨q_260, hq_260⟩ := xw_at (wr := wr) (cA := cA) (α := α) (L := L) (S := (N, R, Fr, inc)) 9 j (hLk.l j hj)
  refine k_get (v := .int (R 9 j 0)) F hW inX2 rfl q_260 hq_260 rfl 6 (by decide) FL_X2_9 rfl rfl dX2_isAtPier_1 ?_
  refine lv_bipush (v := 102) hx hb dX2_isAtPier_4 (by decide) ?_
  refine lv_icmp_eq (tgt := 27) hx hb dX2_isAtPier_6 (by decide) (fun h_0 => ?_) (fun h_0 => ?_)
  · refine lv_iconst (v := 1) hx hb dX2_isAtPier_27 (by decide) ?_
    refine lv_goto (tgt := 32) hx hb dX2_isAtPier_28 (by decide) ?_
    exact k_zret () F (by rfl) (hW) (by simp [atPier, b2i, h_0]) dX2_isAtPier_32 (Nat.le_of_ble_eq_true rfl) (Nat.le_of_ble_eq_true rfl)
  · refine lv_aload_n hx hb dX2_isAtPier_9 rfl (lv_at hl 0 rfl) ?_
    obtain ⟨q_261, hq_261⟩ := xw_at (wr := wr) (cA := cA) (α := α) (L := L) (S := (N, R, Fr, inc)) 9 j (hLk.l j hj)
    refine k_get (v := .int (R 9 j 0)) F hW inX2 rfl q_261 hq_261 rfl 6 (by decide) FL_X2_9 rfl rfl dX2_isAtPier_10 ?_
    refine lv_bipush (v := 115) hx hb dX2_isAtPier_13 (by decide) ?_
    refine lv_icmp_eq (tgt := 27) hx hb dX2_isAtPier_15 (by decide) (fun h_1 => ?_) (fun h_1 => ?_)
    · refine lv_iconst (v := 1) hx hb dX2_isAtPier_27 (by decide) ?_
      refine lv_goto (tgt := 32) hx hb dX2_isAtPier_28 (by decide) ?_
      exact k_zret () F (by rfl) (hW) (by simp [atPier, b2i, h_0, h_1]) dX2_isAtPier_32 (Nat.le_of_ble_eq_true rfl) (Nat.le_of_ble_eq_true rfl)
    · refine lv_aload_n hx hb dX2_isAtPier_18 rfl (lv_at hl 0 rfl) ?_
      obtain ⟨q_262, hq_262⟩ := xw_at (wr := wr) (cA := cA) (α := α) (L := L) (S := (N, R, Fr, inc)) 9 j (hLk.l j hj)
      refine k_get (v := .int (R 9 j 0)) F hW inX2 rfl q_262 hq_262 rfl 6 (by decide) FL_X2_9 rfl rfl dX2_isAtPier_19 ?_
      refine lv_bipush (v := 108) hx hb dX2_isAtPier_22 (by decide) ?_
      refine lv_icmp_ne (tgt := 31) hx hb dX2_isAtPier_24 (by decide) (fun h_2 => ?_) (fun h_2 => ?_)
      · refine lv_iconst (v := 0) hx hb dX2_isAtPier_31 (by decide) ?_
        exact k_zret () F (by rfl) (hW) (by simp [atPier, b2i, h_0, h_1, h_2]) dX2_isAtPier_32 (Nat.le_of_ble_eq_true rfl) (Nat.le_of_ble_eq_true rfl)
      · refine lv_iconst (v := 1) hx hb dX2_isAtPier_27 (by decide) ?_
        refine lv_goto (tgt := 32) hx hb dX2_isAtPier_28 (by decide) ?_
        exact k_zret () F (by rfl) (hW) (by simp [atPier, b2i, h_0, h_1, h_2]) dX2_isAtPier_32 (Nat.le_of_ble_eq_true rfl) (Nat.le_of_ble_eq_true rfl)

set_option maxHeartbeats 4000000 in
set_option maxRecDepth 100000 in
theorem met_X2_wasSold (l : Launch) (D : va_G) (cA : Nat → ClassId) (wr : va_W) (α : Nat → Nat → Nat) (L : List (Nat × Nat)) (N : Nat → Nat → Nat) (R : Nat → Nat → Nat → Int32) (Fr : Nat → UInt32) (inc : Int64) (j : Nat) (hLk : LOK N L) (hj : j < N 2 1) : MetI l yX2_wasSold (.code yX2_wasSold cX2_wasSold 1 (some .boolean) :: LW) ({ frames := 0, cells := 0, slots := 0, locals := 0 }) D cA (xWd wr cA α L (N, R, Fr, inc)) [.ref (α 9 j)] (fun r (_ : Unit) => r = b2i (isSold R j)) (fun _ => xWd wr cA α L (N, R, Fr, inc)) 0 0 := by
  refine k_bodyI (plainFor_of_name (by decide)) (Nat.le_of_ble_eq_true rfl) (fun p e s m args below meth c ls F hW hl => ?_)
  obtain ⟨hx, hb, hr, hml, hown, hts, hlocks, hname⟩ := id F
  have hl : lv_has ls 1 [(0, .ref (α 9 j))] := hl
  refine lv_aload_n hx hb dX2_wasSold_0 rfl (lv_at hl 0 rfl) ?_
  obtain ⟨q_263, hq_263⟩ := xw_at (wr := wr) (cA := cA) (α := α) (L := L) (S := (N, R, Fr, inc)) 9 j (hLk.l j hj)
  refine k_get (v := .int (R 9 j 0)) F hW inX2 rfl q_263 hq_263 rfl 6 (by decide) FL_X2_9 rfl rfl dX2_wasSold_1 ?_
  refine lv_bipush (v := 115) hx hb dX2_wasSold_4 (by decide) ?_
  refine lv_icmp_eq (tgt := 27) hx hb dX2_wasSold_6 (by decide) (fun h_0 => ?_) (fun h_0 => ?_)
  · refine lv_iconst (v := 1) hx hb dX2_wasSold_27 (by decide) ?_
    refine lv_goto (tgt := 32) hx hb dX2_wasSold_28 (by decide) ?_
    exact k_zret () F (by rfl) (hW) (by simp [isSold, b2i, h_0]) dX2_wasSold_32 (Nat.le_of_ble_eq_true rfl) (Nat.le_of_ble_eq_true rfl)
  · refine lv_aload_n hx hb dX2_wasSold_9 rfl (lv_at hl 0 rfl) ?_
    obtain ⟨q_264, hq_264⟩ := xw_at (wr := wr) (cA := cA) (α := α) (L := L) (S := (N, R, Fr, inc)) 9 j (hLk.l j hj)
    refine k_get (v := .int (R 9 j 0)) F hW inX2 rfl q_264 hq_264 rfl 6 (by decide) FL_X2_9 rfl rfl dX2_wasSold_10 ?_
    refine lv_bipush (v := 108) hx hb dX2_wasSold_13 (by decide) ?_
    refine lv_icmp_eq (tgt := 27) hx hb dX2_wasSold_15 (by decide) (fun h_1 => ?_) (fun h_1 => ?_)
    · refine lv_iconst (v := 1) hx hb dX2_wasSold_27 (by decide) ?_
      refine lv_goto (tgt := 32) hx hb dX2_wasSold_28 (by decide) ?_
      exact k_zret () F (by rfl) (hW) (by simp [isSold, b2i, h_0, h_1]) dX2_wasSold_32 (Nat.le_of_ble_eq_true rfl) (Nat.le_of_ble_eq_true rfl)
    · refine lv_aload_n hx hb dX2_wasSold_18 rfl (lv_at hl 0 rfl) ?_
      obtain ⟨q_265, hq_265⟩ := xw_at (wr := wr) (cA := cA) (α := α) (L := L) (S := (N, R, Fr, inc)) 9 j (hLk.l j hj)
      refine k_get (v := .int (R 9 j 0)) F hW inX2 rfl q_265 hq_265 rfl 6 (by decide) FL_X2_9 rfl rfl dX2_wasSold_19 ?_
      refine lv_bipush (v := 100) hx hb dX2_wasSold_22 (by decide) ?_
      refine lv_icmp_ne (tgt := 31) hx hb dX2_wasSold_24 (by decide) (fun h_2 => ?_) (fun h_2 => ?_)
      · refine lv_iconst (v := 0) hx hb dX2_wasSold_31 (by decide) ?_
        exact k_zret () F (by rfl) (hW) (by simp [isSold, b2i, h_0, h_1, h_2]) dX2_wasSold_32 (Nat.le_of_ble_eq_true rfl) (Nat.le_of_ble_eq_true rfl)
      · refine lv_iconst (v := 1) hx hb dX2_wasSold_27 (by decide) ?_
        refine lv_goto (tgt := 32) hx hb dX2_wasSold_28 (by decide) ?_
        exact k_zret () F (by rfl) (hW) (by simp [isSold, b2i, h_0, h_1, h_2]) dX2_wasSold_32 (Nat.le_of_ble_eq_true rfl) (Nat.le_of_ble_eq_true rfl)

theorem sp_in {p : Int32} (h : wi p 0 3 = true) : vp_in p 4 := by
  obtain ⟨h1, h2⟩ := wi_lt (b := 3) (by decide) h
  rw [h2]; exact vp_in_nI (by omega) (by decide)
set_option maxHeartbeats 4000000 in
set_option maxRecDepth 100000 in
theorem met_X1_offerFor (l : Launch) (D : va_G) (cA : Nat → ClassId) (wr : va_W) (α : Nat → Nat → Nat) (L : List (Nat × Nat)) (N : Nat → Nat → Nat) (R : Nat → Nat → Nat → Int32) (Fr : Nat → UInt32) (inc : Int64) (b j : Nat) (hLk : LOK N L) (hu : b < N 2 2) (hj : j < N 2 1) (hLo : lotOK R Fr j) : MetI l yX1_offerFor (.code yX1_offerFor cX1_offerFor 3 (some .int) :: LW) ({ frames := 0, cells := 0, slots := 0, locals := 0 }) D cA (xWd wr cA α L (N, R, Fr, inc)) [.ref (α 10 b), .ref (α 9 j)] (fun r (_ : Unit) => r = offerOf R Fr b j) (fun _ => xWd wr cA α L (N, R, Fr, inc)) 0 0 := by
  refine k_bodyI (plainFor_of_name (by decide)) (Nat.le_of_ble_eq_true rfl) (fun p e s m args below meth c ls F hW hl => ?_)
  obtain ⟨hx, hb, hr, hml, hown, hts, hlocks, hname⟩ := id F
  have hl : lv_has ls 3 [(0, .ref (α 10 b)), (1, .ref (α 9 j))] := hl
  obtain ⟨hsp, -, -, -, hfo, -⟩ := id hLo
  refine lv_bipush (v := 100) hx hb dX1_offerFor_0 (by decide) ?_
  refine lv_bipush (v := 10) hx hb dX1_offerFor_2 (by decide) ?_
  refine lv_aload_n hx hb dX1_offerFor_4 rfl (lv_at hl 1 rfl) ?_
  obtain ⟨q_266, hq_266⟩ := xw_at (wr := wr) (cA := cA) (α := α) (L := L) (S := (N, R, Fr, inc)) 9 j (hLk.l j hj)
  refine k_get (v := .int (R 6 j 0)) F hW inX2 rfl q_266 hq_266 rfl 3 (by decide) FL_X1_22 rfl rfl dX1_offerFor_5 ?_
  refine lv_imul hx hb dX1_offerFor_8 ?_
  refine lv_iadd hx hb dX1_offerFor_9 ?_
  refine lv_istore_n (lv' := [(2, .int (100 + (10 * (R 6 j 0)))), (0, .ref (α 10 b)), (1, .ref (α 9 j))]) hx hb dX1_offerFor_10 rfl hl (by decide) rfl (fun ls hl => ?_)
  refine lv_aload_n hx hb dX1_offerFor_11 rfl (lv_at hl 1 rfl) ?_
  obtain ⟨q_267, hq_267⟩ := xw_at (wr := wr) (cA := cA) (α := α) (L := L) (S := (N, R, Fr, inc)) 10 b (hLk.u 10 b (by decide) hu)
  refine k_get (v := .ref (α 11 b)) F hW inX1 rfl q_267 hq_267 rfl 1 (by decide) FL_X1_9 rfl rfl dX1_offerFor_12 ?_
  refine lv_aload_n hx hb dX1_offerFor_15 rfl (lv_at hl 2 rfl) ?_
  obtain ⟨q_268, hq_268⟩ := xw_at (wr := wr) (cA := cA) (α := α) (L := L) (S := (N, R, Fr, inc)) 9 j (hLk.l j hj)
  refine k_get (v := .int (R 5 j 0)) F hW inX2 rfl q_268 hq_268 rfl 2 (by decide) FL_X1_27 rfl rfl dX1_offerFor_16 ?_
  obtain ⟨q_269, hq_269⟩ := xw_at (wr := wr) (cA := cA) (α := α) (L := L) (S := (N, R, Fr, inc)) 11 b (hLk.u 11 b (by decide) hu)
  refine k_iald (v := R 14 b (ix (R 5 j 0))) F hW q_269 hq_269 (sp_in hsp) (rfl) dX1_offerFor_19 ?_
  refine lv_iload_n hx hb dX1_offerFor_20 rfl (lv_at hl 0 rfl) ?_
  refine lv_imul hx hb dX1_offerFor_21 ?_
  refine lv_i2d hx hb dX1_offerFor_22 ?_
  refine lv_ldc2d (v := 4636737291354636288) hx hb hown (hts _ CK_X1_30) dX1_offerFor_23 ?_
  refine lv_ddiv hx hb dX1_offerFor_26 (nn_off1 _) ?_
  refine lv_aload_n hx hb dX1_offerFor_27 rfl (lv_at hl 2 rfl) ?_
  obtain ⟨q_270, hq_270⟩ := xw_at (wr := wr) (cA := cA) (α := α) (L := L) (S := (N, R, Fr, inc)) 9 j (hLk.l j hj)
  refine k_get (v := .float (Fr j)) F hW inX2 rfl q_270 hq_270 rfl 7 (by decide) FL_X1_32 rfl rfl dX1_offerFor_28 ?_
  refine lv_f2d hx hb dX1_offerFor_31 (nn_off2 hfo) ?_
  refine lv_dmul hx hb dX1_offerFor_32 (nn_off3 _ hfo) ?_
  refine lv_ldc2d (v := 4636737291354636288) hx hb hown (hts _ CK_X1_30) dX1_offerFor_33 ?_
  refine lv_ddiv hx hb dX1_offerFor_36 (nn_off4 _ hfo) ?_
  refine lv_d2i hx hb dX1_offerFor_37 ?_
  exact k_iret () F (hW) (rfl) dX1_offerFor_38 (Nat.le_of_ble_eq_true rfl) (Nat.le_of_ble_eq_true rfl)

theorem isIx_big {n k : Nat} {v : Int32} (h : v ≥ nI k) (hn : n ≤ k) (hk : k < 2 ^ 31) : isIx n v = false := by
  rcases ixc n v (by omega) with q | ⟨j, hj, rfl, -, -⟩
  · exact q
  · exact absurd ((nI_leI hk (by omega)).mp h) (by omega)
theorem vp_in_nn {n : Nat} {v : Int32} (h0 : 0 ≤ v) (h : ¬ v ≥ nI n) (hn : n < 2 ^ 31 := by decide) : vp_in v n := by
  obtain ⟨j, hj, rfl⟩ := nI_of (x := v) (Int32.not_lt.mpr h0)
  exact vp_in_nI (Nat.lt_of_not_le fun q => h (nI_le q hj)) hn
theorem ixc2 (n : Nat) (v : Int32) (h0 : 0 ≤ v) (hn : n < 2 ^ 31) : isIx n v = false ∨ (isIx n v = true ∧ ix v < n) := by
  rcases ixc n v hn with q | ⟨j, hj, -, e, q⟩
  · exact Or.inl q
  · exact Or.inr ⟨q, by rw [e]; exact hj⟩
theorem ixc3 {n : Nat} {v : Int32} (h : isIx n v = false) (h0 : 0 ≤ v) (hlt : ix v < n) (hn : n < 2 ^ 31) : False := by
  obtain ⟨j, hj, rfl⟩ := nI_of (x := v) (Int32.not_lt.mpr h0)
  rw [ix_nI hj] at hlt
  rw [isIx_t hlt hn] at h
  cases h
set_option maxHeartbeats 4000000 in
set_option maxRecDepth 100000 in
theorem met_X4_boatNumbered (l : Launch) (D : va_G) (cA : Nat → ClassId) (wr : va_W) (α : Nat → Nat → Nat) (L : List (Nat × Nat)) (N : Nat → Nat → Nat) (R : Nat → Nat → Nat → Int32) (Fr : Nat → UInt32) (inc : Int64) (v : Int32) (z0 : Nat) (hl0 : l.stackTraces = false) (hLk : LOK N L) (hC : IC N) : MetXR z0 l yX4_boatNumbered (.code yX4_boatNumbered cX4_boatNumbered 2 (some (.object "Fishpier$Boat")) :: LW) ({ frames := 6, cells := 1, slots := 6, locals := 90 }) D cA (xWd wr cA α L (N, R, Fr, inc)) [.ref (α 0 0), .int v] (fun r (_ : Unit) => isIx (N 0 0) v = true ∧ r = some (α 5 (ix v))) (fun _ => xWd wr cA α L (N, R, Fr, inc)) (fun E => E = "java/lang/IndexOutOfBoundsException" ∧ isIx (N 0 0) v = false) 1 6 := by
  refine k_bodyX hl0 (by decide) (Nat.le_of_ble_eq_true rfl) (fun p e s m args below meth c ls F G hW hl => ?_)
  obtain ⟨hx, hb, hr, hml, hown, hts, hlocks, hname⟩ := id F
  have hl : lv_has ls 2 [(0, .ref (α 0 0)), (1, .int v)] := hl
  refine lv_iload_n hx hb dX4_boatNumbered_0 rfl (lv_at hl 1 rfl) ?_
  refine lv_if_lt (tgt := 22) hx hb dX4_boatNumbered_1 (by decide) (fun h_a => ?_) (fun h_a => ?_)
  · have hix : isIx (N 0 0) v = false := isIx_neg h_a
    exact k_throwSW F G hW rfl (by decide) CL_X4_311 IN_E_IndexOutOfBoundsException (List.mem_of_getElem? (i := 24) rfl) hat_IndexOutOfBounds good_IndexOutOfBounds hl.1 (Nat.le_of_ble_eq_true rfl) dX4_boatNumbered_22 dX4_boatNumbered_25 dX4_boatNumbered_26 dX4_boatNumbered_29 dX4_boatNumbered_32 (⟨rfl, hix⟩) ⟨(Nat.le_of_ble_eq_true rfl), (Nat.le_of_ble_eq_true rfl), (Nat.le_of_ble_eq_true rfl), (Nat.le_of_ble_eq_true rfl)⟩ ⟨(Nat.le_of_ble_eq_true rfl), (Nat.le_of_ble_eq_true rfl)⟩
  · have h_a : 0 ≤ v := Int32.not_lt.mp h_a
    refine lv_iload_n hx hb dX4_boatNumbered_4 rfl (lv_at hl 1 rfl) ?_
    refine lv_aload_n hx hb dX4_boatNumbered_5 rfl (lv_at hl 0 rfl) ?_
    obtain ⟨q_271, hq_271⟩ := xw_at (wr := wr) (cA := cA) (α := α) (L := L) (S := (N, R, Fr, inc)) 0 0 (hLk.o 0 (by decide))
    refine k_get (v := .ref (α 1 0)) F hW inX4 rfl q_271 hq_271 rfl 0 (by decide) FL_X4_11 rfl rfl dX4_boatNumbered_6 ?_
    obtain ⟨q_272, hq_272⟩ := xw_at (wr := wr) (cA := cA) (α := α) (L := L) (S := (N, R, Fr, inc)) 1 0 (hLk.o 1 (by decide))
    refine k_alen (v := 6) F hW q_272 6 hq_272 rfl rfl dX4_boatNumbered_9 ?_
    refine lv_icmp_ge (tgt := 22) hx hb dX4_boatNumbered_10 (by decide) (fun h_b => ?_) (fun h_b => ?_)
    · have hix : isIx (N 0 0) v = false := isIx_big (k := 6) h_b (by have := hC; unfold IC at this; omega) (by decide)
      exact k_throwSW F G hW rfl (by decide) CL_X4_311 IN_E_IndexOutOfBoundsException (List.mem_of_getElem? (i := 24) rfl) hat_IndexOutOfBounds good_IndexOutOfBounds hl.1 (Nat.le_of_ble_eq_true rfl) dX4_boatNumbered_22 dX4_boatNumbered_25 dX4_boatNumbered_26 dX4_boatNumbered_29 dX4_boatNumbered_32 (⟨rfl, hix⟩) ⟨(Nat.le_of_ble_eq_true rfl), (Nat.le_of_ble_eq_true rfl), (Nat.le_of_ble_eq_true rfl), (Nat.le_of_ble_eq_true rfl)⟩ ⟨(Nat.le_of_ble_eq_true rfl), (Nat.le_of_ble_eq_true rfl)⟩
    · have hin : vp_in v 6 := vp_in_nn (n := 6) h_a h_b
      refine lv_aload_n hx hb dX4_boatNumbered_13 rfl (lv_at hl 0 rfl) ?_
      obtain ⟨q_273, hq_273⟩ := xw_at (wr := wr) (cA := cA) (α := α) (L := L) (S := (N, R, Fr, inc)) 0 0 (hLk.o 0 (by decide))
      refine k_get (v := .ref (α 1 0)) F hW inX4 rfl q_273 hq_273 rfl 0 (by decide) FL_X4_11 rfl rfl dX4_boatNumbered_14 ?_
      refine lv_iload_n hx hb dX4_boatNumbered_17 rfl (lv_at hl 1 rfl) ?_
      rcases ixc2 (N 0 0) v h_a (by have := hC; unfold IC at this; omega) with hix | ⟨hix, hlt⟩
      · obtain ⟨q_274, hq_274⟩ := xw_at (wr := wr) (cA := cA) (α := α) (L := L) (S := (N, R, Fr, inc)) 1 0 (hLk.o 1 (by decide))
        refine k_aaldN F hW q_274 hq_274 (tI := 6) rfl (hin) (if_neg (by rw [hC.2.2.2.2.2.1 0 (by decide)]; exact fun q => ixc3 hix h_a q (by have := hC; unfold IC at this; omega))) dX4_boatNumbered_18 ?_
        refine lv_ifnonnullN hx hb dX4_boatNumbered_19 ?_
        exact k_throwSW F G hW rfl (by decide) CL_X4_311 IN_E_IndexOutOfBoundsException (List.mem_of_getElem? (i := 24) rfl) hat_IndexOutOfBounds good_IndexOutOfBounds hl.1 (Nat.le_of_ble_eq_true rfl) dX4_boatNumbered_22 dX4_boatNumbered_25 dX4_boatNumbered_26 dX4_boatNumbered_29 dX4_boatNumbered_32 (⟨rfl, hix⟩) ⟨(Nat.le_of_ble_eq_true rfl), (Nat.le_of_ble_eq_true rfl), (Nat.le_of_ble_eq_true rfl), (Nat.le_of_ble_eq_true rfl)⟩ ⟨(Nat.le_of_ble_eq_true rfl), (Nat.le_of_ble_eq_true rfl)⟩
      · obtain ⟨q_275, hq_275⟩ := xw_at (wr := wr) (cA := cA) (α := α) (L := L) (S := (N, R, Fr, inc)) 1 0 (hLk.o 1 (by decide))
        refine k_aaldS (x := (α 5 (ix v))) F hW q_275 hq_275 (tI := 6) rfl (hin) (if_pos (hC.lt (by decide) hlt)) dX4_boatNumbered_18 ?_
        refine lv_ifnonnull (tgt := 33) hx hb dX4_boatNumbered_19 (by decide) ?_
        refine lv_aload_n hx hb dX4_boatNumbered_33 rfl (lv_at hl 0 rfl) ?_
        obtain ⟨q_276, hq_276⟩ := xw_at (wr := wr) (cA := cA) (α := α) (L := L) (S := (N, R, Fr, inc)) 0 0 (hLk.o 0 (by decide))
        refine k_get (v := .ref (α 1 0)) F hW inX4 rfl q_276 hq_276 rfl 0 (by decide) FL_X4_11 rfl rfl dX4_boatNumbered_34 ?_
        refine lv_iload_n hx hb dX4_boatNumbered_37 rfl (lv_at hl 1 rfl) ?_
        obtain ⟨q_277, hq_277⟩ := xw_at (wr := wr) (cA := cA) (α := α) (L := L) (S := (N, R, Fr, inc)) 1 0 (hLk.o 1 (by decide))
        refine k_aaldS (x := (α 5 (ix v))) F hW q_277 hq_277 (tI := 6) rfl (hin) (if_pos (hC.lt (by decide) hlt)) dX4_boatNumbered_38 ?_
        refine vx_ret ?_
        exact k_rret (some (α 5 (ix v))) () F rfl (hW) (⟨hix, rfl⟩) dX4_boatNumbered_39 (Nat.le_of_ble_eq_true rfl) (Nat.le_of_ble_eq_true rfl)

set_option maxHeartbeats 4000000 in
set_option maxRecDepth 100000 in
theorem met_X4_lotNumbered (l : Launch) (D : va_G) (cA : Nat → ClassId) (wr : va_W) (α : Nat → Nat → Nat) (L : List (Nat × Nat)) (N : Nat → Nat → Nat) (R : Nat → Nat → Nat → Int32) (Fr : Nat → UInt32) (inc : Int64) (v : Int32) (z0 : Nat) (hl0 : l.stackTraces = false) (hLk : LOK N L) (hC : IC N) : MetXR z0 l yX4_lotNumbered (.code yX4_lotNumbered cX4_lotNumbered 2 (some (.object "Fishpier$Lot")) :: LW) ({ frames := 6, cells := 1, slots := 6, locals := 90 }) D cA (xWd wr cA α L (N, R, Fr, inc)) [.ref (α 0 0), .int v] (fun r (_ : Unit) => isIx (N 0 1) v = true ∧ r = some (α 9 (ix v))) (fun _ => xWd wr cA α L (N, R, Fr, inc)) (fun E => E = nE ∧ isIx (N 0 1) v = false) 1 6 := by
  refine k_bodyX hl0 (by decide) (Nat.le_of_ble_eq_true rfl) (fun p e s m args below meth c ls F G hW hl => ?_)
  obtain ⟨hx, hb, hr, hml, hown, hts, hlocks, hname⟩ := id F
  have hl : lv_has ls 2 [(0, .ref (α 0 0)), (1, .int v)] := hl
  refine lv_iload_n hx hb dX4_lotNumbered_0 rfl (lv_at hl 1 rfl) ?_
  refine lv_if_lt (tgt := 22) hx hb dX4_lotNumbered_1 (by decide) (fun h_a => ?_) (fun h_a => ?_)
  · have hix : isIx (N 0 1) v = false := isIx_neg h_a
    exact k_throwNW F G hW rfl CL_X4_132 IN_E_NoSuchElementException (List.mem_of_getElem? (i := 25) rfl) hl.1 (Nat.le_of_ble_eq_true rfl) dX4_lotNumbered_22 dX4_lotNumbered_25 dX4_lotNumbered_26 dX4_lotNumbered_29 dX4_lotNumbered_32 (⟨rfl, hix⟩) ⟨(Nat.le_of_ble_eq_true rfl), (Nat.le_of_ble_eq_true rfl), (Nat.le_of_ble_eq_true rfl), (Nat.le_of_ble_eq_true rfl)⟩ ⟨(Nat.le_of_ble_eq_true rfl), (Nat.le_of_ble_eq_true rfl)⟩
  · have h_a : 0 ≤ v := Int32.not_lt.mp h_a
    refine lv_iload_n hx hb dX4_lotNumbered_4 rfl (lv_at hl 1 rfl) ?_
    refine lv_aload_n hx hb dX4_lotNumbered_5 rfl (lv_at hl 0 rfl) ?_
    obtain ⟨q_278, hq_278⟩ := xw_at (wr := wr) (cA := cA) (α := α) (L := L) (S := (N, R, Fr, inc)) 0 0 (hLk.o 0 (by decide))
    refine k_get (v := .ref (α 2 0)) F hW inX4 rfl q_278 hq_278 rfl 1 (by decide) FL_X4_17 rfl rfl dX4_lotNumbered_6 ?_
    obtain ⟨q_279, hq_279⟩ := xw_at (wr := wr) (cA := cA) (α := α) (L := L) (S := (N, R, Fr, inc)) 2 0 (hLk.o 2 (by decide))
    refine k_alen (v := 20) F hW q_279 7 hq_279 rfl rfl dX4_lotNumbered_9 ?_
    refine lv_icmp_ge (tgt := 22) hx hb dX4_lotNumbered_10 (by decide) (fun h_b => ?_) (fun h_b => ?_)
    · have hix : isIx (N 0 1) v = false := isIx_big (k := 20) h_b (by have := hC; unfold IC at this; omega) (by decide)
      exact k_throwNW F G hW rfl CL_X4_132 IN_E_NoSuchElementException (List.mem_of_getElem? (i := 25) rfl) hl.1 (Nat.le_of_ble_eq_true rfl) dX4_lotNumbered_22 dX4_lotNumbered_25 dX4_lotNumbered_26 dX4_lotNumbered_29 dX4_lotNumbered_32 (⟨rfl, hix⟩) ⟨(Nat.le_of_ble_eq_true rfl), (Nat.le_of_ble_eq_true rfl), (Nat.le_of_ble_eq_true rfl), (Nat.le_of_ble_eq_true rfl)⟩ ⟨(Nat.le_of_ble_eq_true rfl), (Nat.le_of_ble_eq_true rfl)⟩
    · have hin : vp_in v 20 := vp_in_nn (n := 20) h_a h_b
      refine lv_aload_n hx hb dX4_lotNumbered_13 rfl (lv_at hl 0 rfl) ?_
      obtain ⟨q_280, hq_280⟩ := xw_at (wr := wr) (cA := cA) (α := α) (L := L) (S := (N, R, Fr, inc)) 0 0 (hLk.o 0 (by decide))
      refine k_get (v := .ref (α 2 0)) F hW inX4 rfl q_280 hq_280 rfl 1 (by decide) FL_X4_17 rfl rfl dX4_lotNumbered_14 ?_
      refine lv_iload_n hx hb dX4_lotNumbered_17 rfl (lv_at hl 1 rfl) ?_
      rcases ixc2 (N 0 1) v h_a (by have := hC; unfold IC at this; omega) with hix | ⟨hix, hlt⟩
      · obtain ⟨q_281, hq_281⟩ := xw_at (wr := wr) (cA := cA) (α := α) (L := L) (S := (N, R, Fr, inc)) 2 0 (hLk.o 2 (by decide))
        refine k_aaldN F hW q_281 hq_281 (tI := 7) rfl (hin) (if_neg (by rw [hC.2.2.2.2.2.1 1 (by decide)]; exact fun q => ixc3 hix h_a q (by have := hC; unfold IC at this; omega))) dX4_lotNumbered_18 ?_
        refine lv_ifnonnullN hx hb dX4_lotNumbered_19 ?_
        exact k_throwNW F G hW rfl CL_X4_132 IN_E_NoSuchElementException (List.mem_of_getElem? (i := 25) rfl) hl.1 (Nat.le_of_ble_eq_true rfl) dX4_lotNumbered_22 dX4_lotNumbered_25 dX4_lotNumbered_26 dX4_lotNumbered_29 dX4_lotNumbered_32 (⟨rfl, hix⟩) ⟨(Nat.le_of_ble_eq_true rfl), (Nat.le_of_ble_eq_true rfl), (Nat.le_of_ble_eq_true rfl), (Nat.le_of_ble_eq_true rfl)⟩ ⟨(Nat.le_of_ble_eq_true rfl), (Nat.le_of_ble_eq_true rfl)⟩
      · obtain ⟨q_282, hq_282⟩ := xw_at (wr := wr) (cA := cA) (α := α) (L := L) (S := (N, R, Fr, inc)) 2 0 (hLk.o 2 (by decide))
        refine k_aaldS (x := (α 9 (ix v))) F hW q_282 hq_282 (tI := 7) rfl (hin) (if_pos (hC.lt (by decide) hlt)) dX4_lotNumbered_18 ?_
        refine lv_ifnonnull (tgt := 33) hx hb dX4_lotNumbered_19 (by decide) ?_
        refine lv_aload_n hx hb dX4_lotNumbered_33 rfl (lv_at hl 0 rfl) ?_
        obtain ⟨q_283, hq_283⟩ := xw_at (wr := wr) (cA := cA) (α := α) (L := L) (S := (N, R, Fr, inc)) 0 0 (hLk.o 0 (by decide))
        refine k_get (v := .ref (α 2 0)) F hW inX4 rfl q_283 hq_283 rfl 1 (by decide) FL_X4_17 rfl rfl dX4_lotNumbered_34 ?_
        refine lv_iload_n hx hb dX4_lotNumbered_37 rfl (lv_at hl 1 rfl) ?_
        obtain ⟨q_284, hq_284⟩ := xw_at (wr := wr) (cA := cA) (α := α) (L := L) (S := (N, R, Fr, inc)) 2 0 (hLk.o 2 (by decide))
        refine k_aaldS (x := (α 9 (ix v))) F hW q_284 hq_284 (tI := 7) rfl (hin) (if_pos (hC.lt (by decide) hlt)) dX4_lotNumbered_38 ?_
        refine vx_ret ?_
        exact k_rret (some (α 9 (ix v))) () F rfl (hW) (⟨hix, rfl⟩) dX4_lotNumbered_39 (Nat.le_of_ble_eq_true rfl) (Nat.le_of_ble_eq_true rfl)

set_option maxHeartbeats 4000000 in
set_option maxRecDepth 100000 in
theorem met_X4_buyerNumbered (l : Launch) (D : va_G) (cA : Nat → ClassId) (wr : va_W) (α : Nat → Nat → Nat) (L : List (Nat × Nat)) (N : Nat → Nat → Nat) (R : Nat → Nat → Nat → Int32) (Fr : Nat → UInt32) (inc : Int64) (v : Int32) (z0 : Nat) (hl0 : l.stackTraces = false) (hLk : LOK N L) (hC : IC N) : MetXR z0 l yX4_buyerNumbered (.code yX4_buyerNumbered cX4_buyerNumbered 2 (some (.object "Fishpier$Buyer")) :: LW) ({ frames := 6, cells := 1, slots := 6, locals := 90 }) D cA (xWd wr cA α L (N, R, Fr, inc)) [.ref (α 0 0), .int v] (fun r (_ : Unit) => isIx (N 0 2) v = true ∧ r = some (α 10 (ix v))) (fun _ => xWd wr cA α L (N, R, Fr, inc)) (fun E => E = "java/lang/IndexOutOfBoundsException" ∧ isIx (N 0 2) v = false) 1 6 := by
  refine k_bodyX hl0 (by decide) (Nat.le_of_ble_eq_true rfl) (fun p e s m args below meth c ls F G hW hl => ?_)
  obtain ⟨hx, hb, hr, hml, hown, hts, hlocks, hname⟩ := id F
  have hl : lv_has ls 2 [(0, .ref (α 0 0)), (1, .int v)] := hl
  refine lv_iload_n hx hb dX4_buyerNumbered_0 rfl (lv_at hl 1 rfl) ?_
  refine lv_if_lt (tgt := 22) hx hb dX4_buyerNumbered_1 (by decide) (fun h_a => ?_) (fun h_a => ?_)
  · have hix : isIx (N 0 2) v = false := isIx_neg h_a
    exact k_throwSW F G hW rfl (by decide) CL_X4_311 IN_E_IndexOutOfBoundsException (List.mem_of_getElem? (i := 27) rfl) hat_IndexOutOfBounds good_IndexOutOfBounds hl.1 (Nat.le_of_ble_eq_true rfl) dX4_buyerNumbered_22 dX4_buyerNumbered_25 dX4_buyerNumbered_26 dX4_buyerNumbered_29 dX4_buyerNumbered_32 (⟨rfl, hix⟩) ⟨(Nat.le_of_ble_eq_true rfl), (Nat.le_of_ble_eq_true rfl), (Nat.le_of_ble_eq_true rfl), (Nat.le_of_ble_eq_true rfl)⟩ ⟨(Nat.le_of_ble_eq_true rfl), (Nat.le_of_ble_eq_true rfl)⟩
  · have h_a : 0 ≤ v := Int32.not_lt.mp h_a
    refine lv_iload_n hx hb dX4_buyerNumbered_4 rfl (lv_at hl 1 rfl) ?_
    refine lv_aload_n hx hb dX4_buyerNumbered_5 rfl (lv_at hl 0 rfl) ?_
    obtain ⟨q_285, hq_285⟩ := xw_at (wr := wr) (cA := cA) (α := α) (L := L) (S := (N, R, Fr, inc)) 0 0 (hLk.o 0 (by decide))
    refine k_get (v := .ref (α 3 0)) F hW inX4 rfl q_285 hq_285 rfl 2 (by decide) FL_X4_23 rfl rfl dX4_buyerNumbered_6 ?_
    obtain ⟨q_286, hq_286⟩ := xw_at (wr := wr) (cA := cA) (α := α) (L := L) (S := (N, R, Fr, inc)) 3 0 (hLk.o 3 (by decide))
    refine k_alen (v := 5) F hW q_286 8 hq_286 rfl rfl dX4_buyerNumbered_9 ?_
    refine lv_icmp_ge (tgt := 22) hx hb dX4_buyerNumbered_10 (by decide) (fun h_b => ?_) (fun h_b => ?_)
    · have hix : isIx (N 0 2) v = false := isIx_big (k := 5) h_b (by have := hC; unfold IC at this; omega) (by decide)
      exact k_throwSW F G hW rfl (by decide) CL_X4_311 IN_E_IndexOutOfBoundsException (List.mem_of_getElem? (i := 27) rfl) hat_IndexOutOfBounds good_IndexOutOfBounds hl.1 (Nat.le_of_ble_eq_true rfl) dX4_buyerNumbered_22 dX4_buyerNumbered_25 dX4_buyerNumbered_26 dX4_buyerNumbered_29 dX4_buyerNumbered_32 (⟨rfl, hix⟩) ⟨(Nat.le_of_ble_eq_true rfl), (Nat.le_of_ble_eq_true rfl), (Nat.le_of_ble_eq_true rfl), (Nat.le_of_ble_eq_true rfl)⟩ ⟨(Nat.le_of_ble_eq_true rfl), (Nat.le_of_ble_eq_true rfl)⟩
    · have hin : vp_in v 5 := vp_in_nn (n := 5) h_a h_b
      refine lv_aload_n hx hb dX4_buyerNumbered_13 rfl (lv_at hl 0 rfl) ?_
      obtain ⟨q_287, hq_287⟩ := xw_at (wr := wr) (cA := cA) (α := α) (L := L) (S := (N, R, Fr, inc)) 0 0 (hLk.o 0 (by decide))
      refine k_get (v := .ref (α 3 0)) F hW inX4 rfl q_287 hq_287 rfl 2 (by decide) FL_X4_23 rfl rfl dX4_buyerNumbered_14 ?_
      refine lv_iload_n hx hb dX4_buyerNumbered_17 rfl (lv_at hl 1 rfl) ?_
      rcases ixc2 (N 0 2) v h_a (by have := hC; unfold IC at this; omega) with hix | ⟨hix, hlt⟩
      · obtain ⟨q_288, hq_288⟩ := xw_at (wr := wr) (cA := cA) (α := α) (L := L) (S := (N, R, Fr, inc)) 3 0 (hLk.o 3 (by decide))
        refine k_aaldN F hW q_288 hq_288 (tI := 8) rfl (hin) (if_neg (by rw [hC.2.2.2.2.2.1 2 (by decide)]; exact fun q => ixc3 hix h_a q (by have := hC; unfold IC at this; omega))) dX4_buyerNumbered_18 ?_
        refine lv_ifnonnullN hx hb dX4_buyerNumbered_19 ?_
        exact k_throwSW F G hW rfl (by decide) CL_X4_311 IN_E_IndexOutOfBoundsException (List.mem_of_getElem? (i := 27) rfl) hat_IndexOutOfBounds good_IndexOutOfBounds hl.1 (Nat.le_of_ble_eq_true rfl) dX4_buyerNumbered_22 dX4_buyerNumbered_25 dX4_buyerNumbered_26 dX4_buyerNumbered_29 dX4_buyerNumbered_32 (⟨rfl, hix⟩) ⟨(Nat.le_of_ble_eq_true rfl), (Nat.le_of_ble_eq_true rfl), (Nat.le_of_ble_eq_true rfl), (Nat.le_of_ble_eq_true rfl)⟩ ⟨(Nat.le_of_ble_eq_true rfl), (Nat.le_of_ble_eq_true rfl)⟩
      · obtain ⟨q_289, hq_289⟩ := xw_at (wr := wr) (cA := cA) (α := α) (L := L) (S := (N, R, Fr, inc)) 3 0 (hLk.o 3 (by decide))
        refine k_aaldS (x := (α 10 (ix v))) F hW q_289 hq_289 (tI := 8) rfl (hin) (if_pos (hC.lt (by decide) hlt)) dX4_buyerNumbered_18 ?_
        refine lv_ifnonnull (tgt := 33) hx hb dX4_buyerNumbered_19 (by decide) ?_
        refine lv_aload_n hx hb dX4_buyerNumbered_33 rfl (lv_at hl 0 rfl) ?_
        obtain ⟨q_290, hq_290⟩ := xw_at (wr := wr) (cA := cA) (α := α) (L := L) (S := (N, R, Fr, inc)) 0 0 (hLk.o 0 (by decide))
        refine k_get (v := .ref (α 3 0)) F hW inX4 rfl q_290 hq_290 rfl 2 (by decide) FL_X4_23 rfl rfl dX4_buyerNumbered_34 ?_
        refine lv_iload_n hx hb dX4_buyerNumbered_37 rfl (lv_at hl 1 rfl) ?_
        obtain ⟨q_291, hq_291⟩ := xw_at (wr := wr) (cA := cA) (α := α) (L := L) (S := (N, R, Fr, inc)) 3 0 (hLk.o 3 (by decide))
        refine k_aaldS (x := (α 10 (ix v))) F hW q_291 hq_291 (tI := 8) rfl (hin) (if_pos (hC.lt (by decide) hlt)) dX4_buyerNumbered_38 ?_
        refine vx_ret ?_
        exact k_rret (some (α 10 (ix v))) () F rfl (hW) (⟨hix, rfl⟩) dX4_buyerNumbered_39 (Nat.le_of_ble_eq_true rfl) (Nat.le_of_ble_eq_true rfl)

set_option maxHeartbeats 4000000 in
set_option maxRecDepth 100000 in
theorem met_X4_truckNumbered (l : Launch) (D : va_G) (cA : Nat → ClassId) (wr : va_W) (α : Nat → Nat → Nat) (L : List (Nat × Nat)) (N : Nat → Nat → Nat) (R : Nat → Nat → Nat → Int32) (Fr : Nat → UInt32) (inc : Int64) (v : Int32) (z0 : Nat) (hl0 : l.stackTraces = false) (hLk : LOK N L) (hC : IC N) : MetXR z0 l yX4_truckNumbered (.code yX4_truckNumbered cX4_truckNumbered 2 (some (.object "Fishpier$Truck")) :: LW) ({ frames := 6, cells := 1, slots := 6, locals := 90 }) D cA (xWd wr cA α L (N, R, Fr, inc)) [.ref (α 0 0), .int v] (fun r (_ : Unit) => isIx (N 0 3) v = true ∧ r = some (α 12 (ix v))) (fun _ => xWd wr cA α L (N, R, Fr, inc)) (fun E => E = "java/lang/IndexOutOfBoundsException" ∧ isIx (N 0 3) v = false) 1 6 := by
  refine k_bodyX hl0 (by decide) (Nat.le_of_ble_eq_true rfl) (fun p e s m args below meth c ls F G hW hl => ?_)
  obtain ⟨hx, hb, hr, hml, hown, hts, hlocks, hname⟩ := id F
  have hl : lv_has ls 2 [(0, .ref (α 0 0)), (1, .int v)] := hl
  refine lv_iload_n hx hb dX4_truckNumbered_0 rfl (lv_at hl 1 rfl) ?_
  refine lv_if_lt (tgt := 22) hx hb dX4_truckNumbered_1 (by decide) (fun h_a => ?_) (fun h_a => ?_)
  · have hix : isIx (N 0 3) v = false := isIx_neg h_a
    exact k_throwSW F G hW rfl (by decide) CL_X4_311 IN_E_IndexOutOfBoundsException (List.mem_of_getElem? (i := 28) rfl) hat_IndexOutOfBounds good_IndexOutOfBounds hl.1 (Nat.le_of_ble_eq_true rfl) dX4_truckNumbered_22 dX4_truckNumbered_25 dX4_truckNumbered_26 dX4_truckNumbered_29 dX4_truckNumbered_32 (⟨rfl, hix⟩) ⟨(Nat.le_of_ble_eq_true rfl), (Nat.le_of_ble_eq_true rfl), (Nat.le_of_ble_eq_true rfl), (Nat.le_of_ble_eq_true rfl)⟩ ⟨(Nat.le_of_ble_eq_true rfl), (Nat.le_of_ble_eq_true rfl)⟩
  · have h_a : 0 ≤ v := Int32.not_lt.mp h_a
    refine lv_iload_n hx hb dX4_truckNumbered_4 rfl (lv_at hl 1 rfl) ?_
    refine lv_aload_n hx hb dX4_truckNumbered_5 rfl (lv_at hl 0 rfl) ?_
    obtain ⟨q_292, hq_292⟩ := xw_at (wr := wr) (cA := cA) (α := α) (L := L) (S := (N, R, Fr, inc)) 0 0 (hLk.o 0 (by decide))
    refine k_get (v := .ref (α 4 0)) F hW inX4 rfl q_292 hq_292 rfl 3 (by decide) FL_X4_29 rfl rfl dX4_truckNumbered_6 ?_
    obtain ⟨q_293, hq_293⟩ := xw_at (wr := wr) (cA := cA) (α := α) (L := L) (S := (N, R, Fr, inc)) 4 0 (hLk.o 4 (by decide))
    refine k_alen (v := 4) F hW q_293 9 hq_293 rfl rfl dX4_truckNumbered_9 ?_
    refine lv_icmp_ge (tgt := 22) hx hb dX4_truckNumbered_10 (by decide) (fun h_b => ?_) (fun h_b => ?_)
    · have hix : isIx (N 0 3) v = false := isIx_big (k := 4) h_b (by have := hC; unfold IC at this; omega) (by decide)
      exact k_throwSW F G hW rfl (by decide) CL_X4_311 IN_E_IndexOutOfBoundsException (List.mem_of_getElem? (i := 28) rfl) hat_IndexOutOfBounds good_IndexOutOfBounds hl.1 (Nat.le_of_ble_eq_true rfl) dX4_truckNumbered_22 dX4_truckNumbered_25 dX4_truckNumbered_26 dX4_truckNumbered_29 dX4_truckNumbered_32 (⟨rfl, hix⟩) ⟨(Nat.le_of_ble_eq_true rfl), (Nat.le_of_ble_eq_true rfl), (Nat.le_of_ble_eq_true rfl), (Nat.le_of_ble_eq_true rfl)⟩ ⟨(Nat.le_of_ble_eq_true rfl), (Nat.le_of_ble_eq_true rfl)⟩
    · have hin : vp_in v 4 := vp_in_nn (n := 4) h_a h_b
      refine lv_aload_n hx hb dX4_truckNumbered_13 rfl (lv_at hl 0 rfl) ?_
      obtain ⟨q_294, hq_294⟩ := xw_at (wr := wr) (cA := cA) (α := α) (L := L) (S := (N, R, Fr, inc)) 0 0 (hLk.o 0 (by decide))
      refine k_get (v := .ref (α 4 0)) F hW inX4 rfl q_294 hq_294 rfl 3 (by decide) FL_X4_29 rfl rfl dX4_truckNumbered_14 ?_
      refine lv_iload_n hx hb dX4_truckNumbered_17 rfl (lv_at hl 1 rfl) ?_
      rcases ixc2 (N 0 3) v h_a (by have := hC; unfold IC at this; omega) with hix | ⟨hix, hlt⟩
      · obtain ⟨q_295, hq_295⟩ := xw_at (wr := wr) (cA := cA) (α := α) (L := L) (S := (N, R, Fr, inc)) 4 0 (hLk.o 4 (by decide))
        refine k_aaldN F hW q_295 hq_295 (tI := 9) rfl (hin) (if_neg (by rw [hC.2.2.2.2.2.1 3 (by decide)]; exact fun q => ixc3 hix h_a q (by have := hC; unfold IC at this; omega))) dX4_truckNumbered_18 ?_
        refine lv_ifnonnullN hx hb dX4_truckNumbered_19 ?_
        exact k_throwSW F G hW rfl (by decide) CL_X4_311 IN_E_IndexOutOfBoundsException (List.mem_of_getElem? (i := 28) rfl) hat_IndexOutOfBounds good_IndexOutOfBounds hl.1 (Nat.le_of_ble_eq_true rfl) dX4_truckNumbered_22 dX4_truckNumbered_25 dX4_truckNumbered_26 dX4_truckNumbered_29 dX4_truckNumbered_32 (⟨rfl, hix⟩) ⟨(Nat.le_of_ble_eq_true rfl), (Nat.le_of_ble_eq_true rfl), (Nat.le_of_ble_eq_true rfl), (Nat.le_of_ble_eq_true rfl)⟩ ⟨(Nat.le_of_ble_eq_true rfl), (Nat.le_of_ble_eq_true rfl)⟩
      · obtain ⟨q_296, hq_296⟩ := xw_at (wr := wr) (cA := cA) (α := α) (L := L) (S := (N, R, Fr, inc)) 4 0 (hLk.o 4 (by decide))
        refine k_aaldS (x := (α 12 (ix v))) F hW q_296 hq_296 (tI := 9) rfl (hin) (if_pos (hC.lt (by decide) hlt)) dX4_truckNumbered_18 ?_
        refine lv_ifnonnull (tgt := 33) hx hb dX4_truckNumbered_19 (by decide) ?_
        refine lv_aload_n hx hb dX4_truckNumbered_33 rfl (lv_at hl 0 rfl) ?_
        obtain ⟨q_297, hq_297⟩ := xw_at (wr := wr) (cA := cA) (α := α) (L := L) (S := (N, R, Fr, inc)) 0 0 (hLk.o 0 (by decide))
        refine k_get (v := .ref (α 4 0)) F hW inX4 rfl q_297 hq_297 rfl 3 (by decide) FL_X4_29 rfl rfl dX4_truckNumbered_34 ?_
        refine lv_iload_n hx hb dX4_truckNumbered_37 rfl (lv_at hl 1 rfl) ?_
        obtain ⟨q_298, hq_298⟩ := xw_at (wr := wr) (cA := cA) (α := α) (L := L) (S := (N, R, Fr, inc)) 4 0 (hLk.o 4 (by decide))
        refine k_aaldS (x := (α 12 (ix v))) F hW q_298 hq_298 (tI := 9) rfl (hin) (if_pos (hC.lt (by decide) hlt)) dX4_truckNumbered_38 ?_
        refine vx_ret ?_
        exact k_rret (some (α 12 (ix v))) () F rfl (hW) (⟨hix, rfl⟩) dX4_truckNumbered_39 (Nat.le_of_ble_eq_true rfl) (Nat.le_of_ble_eq_true rfl)
