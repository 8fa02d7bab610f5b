theorem atPier_f {R : Nat → Nat → Nat → Int32} {j : Nat} (h5 : st5 (R 9 j 0)) (h : atPier R j = false) : R 9 j 0 = 100 ∨ R 9 j 0 = 120 := by
  simp only [atPier, Bool.or_eq_false_iff, decide_eq_false_iff_not] at h
  rcases h5 with q | q | q | q | q
  · exact absurd q h.1.1
  · exact absurd q h.1.2
  · exact absurd q h.2
  · exact Or.inl q
  · exact Or.inr q
theorem atPier_t {R : Nat → Nat → Nat → Int32} {j : Nat} (h : atPier R j = true) : ¬ (R 9 j 0 = 100 ∨ R 9 j 0 = 120) := by
  intro q
  rcases q with q | q <;> simp [atPier, q] at h
/-- who bought -/
def ownOK (N : Nat → Nat → Nat) (R : Nat → Nat → Nat → Int32) (j : Nat) : Prop := R 11 j 0 = -1 ∨ isIx (N 0 2) (R 11 j 0) = true
theorem own_ix {N : Nat → Nat → Nat} {R : Nat → Nat → Nat → Int32} {j : Nat} (h : ownOK N R j) (hn : ¬ R 11 j 0 = -1) : isIx (N 0 2) (R 11 j 0) = true := h.resolve_left hn
set_option maxHeartbeats 4000000 in
set_option maxRecDepth 100000 in
theorem met_X4_offer (l : Launch) (D : va_G) (cA : Nat → ClassId) (wr : va_W) (α : Nat → Nat → Nat) (L : List (Nat × Nat)) (N : Nat → Nat → Nat) (R : Nat → Nat → Nat → Int32) (Fr : Nat → UInt32) (inc : Int64) (p0 p1 : Int32) (z0 : Nat) (hl0 : l.stackTraces = false) (hLk : LOK N L) (hC : IC N) (hL : ∀ j, j < N 0 1 → lotOK R Fr j) : MetXI z0 l yX4_offer (.code yX4_offer cX4_offer 4 (some .int) :: LW) ({ frames := 7, cells := 2, slots := 12, locals := 111 }) D cA (xWd wr cA α L (N, R, Fr, inc)) [.ref (α 0 0), .int p0, .int p1] (fun r (_ : Unit) => (op_offer (N, R, Fr, inc) p0 p1).1 = 0 ∧ r = (op_offer (N, R, Fr, inc) p0 p1).2.1) (fun _ => xWd wr cA α L (op_offer (N, R, Fr, inc) p0 p1).2.2) (fun E => ¬ (op_offer (N, R, Fr, inc) p0 p1).1 = 0 ∧ E = exOf ["java/lang/IndexOutOfBoundsException", nE] (op_offer (N, R, Fr, inc) p0 p1).1) 2 12 := by
  refine k_bodyX hl0 (by decide) (Nat.le_of_ble_eq_true rfl) (fun p e s m args below meth c ls F G hW hl => ?_)
  obtain ⟨hx, hb, hr, hml, hown, hts, hlocks, hname⟩ := id F
  have hl : lv_has ls 4 [(0, .ref (α 0 0)), (1, .int p0), (2, .int p1)] := hl
  refine lv_aload_n hx hb dX4_offer_0 rfl (lv_at hl 0 rfl) ?_
  refine lv_iload_n hx hb dX4_offer_1 rfl (lv_at hl 1 rfl) ?_
  obtain ⟨q_398, hq_398⟩ := xw_at (wr := wr) (cA := cA) (α := α) (L := L) (S := (N, R, Fr, inc)) 0 0 (hLk.o 0 (by decide))
  refine k_cXVr (as := [.int p0]) (rest := []) (b := (α 0 0)) (ci := 6) (q0 := q_398) F G hW (met_X4_buyerNumbered l D cA wr α L N R Fr inc p0 z0 hl0 hLk hC) rfl ML_X4_196 IM_X4_buyerNumbered SE_X4_buyerNumbered IN_X4 CO_X4_buyerNumbered hdV_X4_buyerNumbered rfl rfl ⟨(Nat.le_of_ble_eq_true rfl), (Nat.le_of_ble_eq_true rfl)⟩ rfl rfl (hq_398) rfl rfl dX4_offer_2 hl.1 (Nat.le_of_ble_eq_true rfl) ⟨(Nat.le_of_ble_eq_true rfl), (Nat.le_of_ble_eq_true rfl)⟩ (fun E h => by
      obtain ⟨rfl, hix⟩ := h
      have hop : op_offer (N, R, Fr, inc) p0 p1 = (1, 0, (N, R, Fr, inc)) := by simp [op_offer, hix]
      exact ⟨by rw [hop]; exact Nat.succ_ne_zero _, by rw [hop]; rfl⟩) ⟨(Nat.le_of_ble_eq_true rfl), (Nat.le_of_ble_eq_true rfl)⟩ (fun r_397 u H locs hw hW => ?_)
  obtain ⟨hix_396, rfl⟩ := hw
  refine lv_astore_n (lv' := [(3, .ref (α 10 (ix p0))), (0, .ref (α 0 0)), (1, .int p0), (2, .int p1)]) hx hb dX4_offer_5 rfl hl (by decide) rfl (fun ls hl => ?_)
  refine lv_aload_n hx hb dX4_offer_6 rfl (lv_at hl 0 rfl) ?_
  refine lv_aload_n hx hb dX4_offer_7 rfl (lv_at hl 1 rfl) ?_
  refine lv_iload_n hx hb dX4_offer_8 rfl (lv_at hl 3 rfl) ?_
  obtain ⟨q_401, hq_401⟩ := xw_at (wr := wr) (cA := cA) (α := α) (L := L) (S := (N, R, Fr, inc)) 0 0 (hLk.o 0 (by decide))
  refine k_cXVr (as := [.int p1]) (rest := [.ref (α 10 (ix p0))]) (b := (α 0 0)) (ci := 6) (q0 := q_401) F G hW (met_X4_lotNumbered l D cA wr α L N R Fr inc p1 z0 hl0 hLk hC) rfl ML_X4_145 IM_X4_lotNumbered SE_X4_lotNumbered IN_X4 CO_X4_lotNumbered hdV_X4_lotNumbered rfl rfl ⟨(Nat.le_of_ble_eq_true rfl), (Nat.le_of_ble_eq_true rfl)⟩ rfl rfl (hq_401) rfl rfl dX4_offer_9 hl.1 (Nat.le_of_ble_eq_true rfl) ⟨(Nat.le_of_ble_eq_true rfl), (Nat.le_of_ble_eq_true rfl)⟩ (fun E h => by
      obtain ⟨rfl, hix⟩ := h
      have hop : op_offer (N, R, Fr, inc) p0 p1 = (2, 0, (N, R, Fr, inc)) := by simp [op_offer, hix_396, hix]
      exact ⟨by rw [hop]; exact Nat.succ_ne_zero _, by rw [hop]; rfl⟩) ⟨(Nat.le_of_ble_eq_true rfl), (Nat.le_of_ble_eq_true rfl)⟩ (fun r_400 u H locs hw hW => ?_)
  obtain ⟨hix_399, rfl⟩ := hw
  obtain ⟨q_402, hq_402⟩ := xw_at (wr := wr) (cA := cA) (α := α) (L := L) (S := (N, R, Fr, inc)) 10 (ix p0) (hLk.u 10 (ix p0) (by decide) (hC.lt (by decide) (ix_lt hix_396 (by have := hC; unfold IC at this; omega)).1))
  refine k_callVi (as := [.ref (α 9 (ix p1))]) (rest := []) (b := (α 10 (ix p0))) (ci := 3) (q0 := q_402) F hW (met_X1_offerFor l D cA wr α L N R Fr inc (ix p0) (ix p1) hLk (hC.lt (by decide) (ix_lt hix_396 (by have := hC; unfold IC at this; omega)).1) (hC.lt (by decide) (ix_lt hix_399 (by have := hC; unfold IC at this; omega)).1) (hL _ (ix_lt hix_399 (by have := hC; unfold IC at this; omega)).1)) rfl ML_X4_210 IM_X1_offerFor SE_X1_offerFor IN_X1 CO_X1_offerFor hdV_X1_offerFor rfl rfl ⟨(Nat.le_of_ble_eq_true rfl), (Nat.le_of_ble_eq_true rfl)⟩ rfl rfl (hq_402) rfl rfl hl.1 (Nat.le_of_ble_eq_true rfl) dX4_offer_12 ⟨(Nat.le_of_ble_eq_true rfl), (Nat.le_of_ble_eq_true rfl)⟩ (fun r_403 u H locs hw hW => ?_)
  subst hw
  have hop : op_offer (N, R, Fr, inc) p0 p1 = (0, (offerOf R Fr (ix p0) (ix p1)), (N, R, Fr, inc)) := by simp [op_offer, hix_396, hix_399]
  refine vx_ret ?_
  exact k_iret () F (hW.eq (by rw [hop])) (⟨by rw [hop], by rw [hop]⟩) dX4_offer_15 (Nat.le_of_ble_eq_true rfl) (Nat.le_of_ble_eq_true rfl)

set_option maxHeartbeats 4000000 in
set_option maxRecDepth 100000 in
theorem met_X4_buyerOf (l : Launch) (D : va_G) (cA : Nat → ClassId) (wr : va_W) (α : Nat → Nat → Nat) (L : List (Nat × Nat)) (N : Nat → Nat → Nat) (R : Nat → Nat → Nat → Int32) (Fr : Nat → UInt32) (inc : Int64) (p0 : Int32) (z0 : Nat) (hl0 : l.stackTraces = false) (hLk : LOK N L) (hC : IC N) (hOw : ∀ j, j < N 0 1 → ownOK N R j) : MetXI z0 l yX4_buyerOf (.code yX4_buyerOf cX4_buyerOf 3 (some .int) :: LW) ({ frames := 7, cells := 2, slots := 12, locals := 111 }) D cA (xWd wr cA α L (N, R, Fr, inc)) [.ref (α 0 0), .int p0] (fun r (_ : Unit) => (op_buyerOf (N, R, Fr, inc) p0).1 = 0 ∧ r = (op_buyerOf (N, R, Fr, inc) p0).2.1) (fun _ => xWd wr cA α L (op_buyerOf (N, R, Fr, inc) p0).2.2) (fun E => ¬ (op_buyerOf (N, R, Fr, inc) p0).1 = 0 ∧ E = exOf [nE] (op_buyerOf (N, R, Fr, inc) p0).1) 2 12 := by
  refine k_bodyX hl0 (by decide) (Nat.le_of_ble_eq_true rfl) (fun p e s m args below meth c ls F G hW hl => ?_)
  obtain ⟨hx, hb, hr, hml, hown, hts, hlocks, hname⟩ := id F
  have hl : lv_has ls 3 [(0, .ref (α 0 0)), (1, .int p0)] := hl
  refine lv_aload_n hx hb dX4_buyerOf_0 rfl (lv_at hl 0 rfl) ?_
  refine lv_iload_n hx hb dX4_buyerOf_1 rfl (lv_at hl 1 rfl) ?_
  obtain ⟨q_406, hq_406⟩ := xw_at (wr := wr) (cA := cA) (α := α) (L := L) (S := (N, R, Fr, inc)) 0 0 (hLk.o 0 (by decide))
  refine k_cXVr (as := [.int p0]) (rest := []) (b := (α 0 0)) (ci := 6) (q0 := q_406) F G hW (met_X4_lotNumbered l D cA wr α L N R Fr inc p0 z0 hl0 hLk hC) rfl ML_X4_145 IM_X4_lotNumbered SE_X4_lotNumbered IN_X4 CO_X4_lotNumbered hdV_X4_lotNumbered rfl rfl ⟨(Nat.le_of_ble_eq_true rfl), (Nat.le_of_ble_eq_true rfl)⟩ rfl rfl (hq_406) rfl rfl dX4_buyerOf_2 hl.1 (Nat.le_of_ble_eq_true rfl) ⟨(Nat.le_of_ble_eq_true rfl), (Nat.le_of_ble_eq_true rfl)⟩ (fun E h => by
      obtain ⟨rfl, hix⟩ := h
      have hop : op_buyerOf (N, R, Fr, inc) p0 = (1, 0, (N, R, Fr, inc)) := by simp [op_buyerOf, hix]
      exact ⟨by rw [hop]; exact Nat.succ_ne_zero _, by rw [hop]; rfl⟩) ⟨(Nat.le_of_ble_eq_true rfl), (Nat.le_of_ble_eq_true rfl)⟩ (fun r_405 u H locs hw hW => ?_)
  obtain ⟨hix_404, rfl⟩ := hw
  obtain ⟨q_407, hq_407⟩ := xw_at (wr := wr) (cA := cA) (α := α) (L := L) (S := (N, R, Fr, inc)) 9 (ix p0) (hLk.l (ix p0) (hC.lt (by decide) (ix_lt hix_404 (by have := hC; unfold IC at this; omega)).1))
  refine k_get (v := va_rf (ownr α (R 11 (ix p0) 0))) F hW inX2 rfl q_407 hq_407 rfl 9 (by decide) FL_X4_231 rfl rfl dX4_buyerOf_5 ?_
  refine x_astore_nQ (r := (ownr α (R 11 (ix p0) 0))) (lv' := [(2, va_rf (ownr α (R 11 (ix p0) 0))), (0, .ref (α 0 0)), (1, .int p0)]) hx hb dX4_buyerOf_8 rfl hl (by decide) rfl (fun ls hl => ?_)
  refine x_aload_nQ (r := (ownr α (R 11 (ix p0) 0))) hx hb dX4_buyerOf_9 rfl (lv_at hl 0 rfl) ?_
  by_cases h_o : R 11 (ix p0) 0 = -1
  · rw [h_o, ownr_none]
    refine lv_ifnonnullN hx hb dX4_buyerOf_10 ?_
    have hop : op_buyerOf (N, R, Fr, inc) p0 = (1, 0, (N, R, Fr, inc)) := by simp [op_buyerOf, hix_404, h_o]
    exact k_throwN F G hW rfl CL_X4_132 IN_E_NoSuchElementException (List.mem_of_getElem? (i := 17) rfl) hl.1 (Nat.le_of_ble_eq_true rfl) dX4_buyerOf_13 dX4_buyerOf_16 dX4_buyerOf_17 dX4_buyerOf_19 dX4_buyerOf_22 (⟨by rw [hop]; exact Nat.succ_ne_zero _, by rw [hop]; rfl⟩) ⟨(Nat.le_of_ble_eq_true rfl), (Nat.le_of_ble_eq_true rfl), (Nat.le_of_ble_eq_true rfl), (Nat.le_of_ble_eq_true rfl)⟩ ⟨(Nat.le_of_ble_eq_true rfl), (Nat.le_of_ble_eq_true rfl)⟩
  · rw [ownr_some α h_o] at hl ⊢
    have hui := own_ix (hOw _ (ix_lt hix_404 (by have := hC; unfold IC at this; omega)).1) h_o
    have hl : lv_has ls 3 [(2, .ref (α 10 (ix (R 11 (ix p0) 0)))), (0, .ref (α 0 0)), (1, .int p0)] := hl
    refine lv_ifnonnull (tgt := 23) hx hb dX4_buyerOf_10 (by decide) ?_
    refine lv_aload_n hx hb dX4_buyerOf_23 rfl (lv_at hl 0 rfl) ?_
    obtain ⟨q_408, hq_408⟩ := xw_at (wr := wr) (cA := cA) (α := α) (L := L) (S := (N, R, Fr, inc)) 10 (ix (R 11 (ix p0) 0)) (hLk.u 10 (ix (R 11 (ix p0) 0)) (by decide) (hC.lt (by decide) (ix_lt hui (by have := hC; unfold IC at this; omega)).1))
    refine k_get (v := .int (nI (ix (R 11 (ix p0) 0)))) F hW inX1 rfl q_408 hq_408 rfl 0 (by decide) FL_X4_238 rfl rfl dX4_buyerOf_24 ?_
    refine lv_topi (fun x_409 ex_409 => ?_)
    obtain rfl : x_409 = R 11 (ix p0) 0 := ex_409.trans ((ix_lt hui (by have := hC; unfold IC at this; omega)).2.symm)
    have hop : op_buyerOf (N, R, Fr, inc) p0 = (0, (R 11 (ix p0) 0), (N, R, Fr, inc)) := by simp [op_buyerOf, hix_404, h_o]
    refine vx_ret ?_
    exact k_iret () F (hW.eq (by rw [hop])) (⟨by rw [hop], by rw [hop]⟩) dX4_buyerOf_27 (Nat.le_of_ble_eq_true rfl) (Nat.le_of_ble_eq_true rfl)

set_option maxHeartbeats 4000000 in
set_option maxRecDepth 100000 in
theorem met_X4_ice (l : Launch) (D : va_G) (cA : Nat → ClassId) (wr : va_W) (α : Nat → Nat → Nat) (L : List (Nat × Nat)) (N : Nat → Nat → Nat) (R : Nat → Nat → Nat → Int32) (Fr : Nat → UInt32) (inc : Int64) (p0 p1 : Int32) (z0 : Nat) (hl0 : l.stackTraces = false) (hLk : LOK N L) (hC : IC N) (hL : ∀ j, j < N 0 1 → lotOK R Fr j) : MetXI z0 l yX4_ice (.code yX4_ice cX4_ice 4 (some .int) :: LW) ({ frames := 7, cells := 2, slots := 12, locals := 111 }) D cA (xWd wr cA α L (N, R, Fr, inc)) [.ref (α 0 0), .int p0, .int p1] (fun r (_ : Unit) => (op_ice (N, R, Fr, inc) p0 p1).1 = 0 ∧ r = (op_ice (N, R, Fr, inc) p0 p1).2.1) (fun _ => xWd wr cA α L (op_ice (N, R, Fr, inc) p0 p1).2.2) (fun E => ¬ (op_ice (N, R, Fr, inc) p0 p1).1 = 0 ∧ E = exOf [nE, "java/lang/IllegalArgumentException", "java/lang/IllegalStateException"] (op_ice (N, R, Fr, inc) p0 p1).1) 2 12 := by
  refine k_bodyX hl0 (by decide) (Nat.le_of_ble_eq_true rfl) (fun p e s m args below meth c ls F G hW hl => ?_)
  obtain ⟨hx, hb, hr, hml, hown, hts, hlocks, hname⟩ := id F
  have hl : lv_has ls 4 [(0, .ref (α 0 0)), (1, .int p0), (2, .int p1)] := hl
  refine lv_aload_n hx hb dX4_ice_0 rfl (lv_at hl 0 rfl) ?_
  refine lv_iload_n hx hb dX4_ice_1 rfl (lv_at hl 1 rfl) ?_
  obtain ⟨q_412, hq_412⟩ := xw_at (wr := wr) (cA := cA) (α := α) (L := L) (S := (N, R, Fr, inc)) 0 0 (hLk.o 0 (by decide))
  refine k_cXVr (as := [.int p0]) (rest := []) (b := (α 0 0)) (ci := 6) (q0 := q_412) F G hW (met_X4_lotNumbered l D cA wr α L N R Fr inc p0 z0 hl0 hLk hC) rfl ML_X4_145 IM_X4_lotNumbered SE_X4_lotNumbered IN_X4 CO_X4_lotNumbered hdV_X4_lotNumbered rfl rfl ⟨(Nat.le_of_ble_eq_true rfl), (Nat.le_of_ble_eq_true rfl)⟩ rfl rfl (hq_412) rfl rfl dX4_ice_2 hl.1 (Nat.le_of_ble_eq_true rfl) ⟨(Nat.le_of_ble_eq_true rfl), (Nat.le_of_ble_eq_true rfl)⟩ (fun E h => by
      obtain ⟨rfl, hix⟩ := h
      have hop : op_ice (N, R, Fr, inc) p0 p1 = (1, 0, (N, R, Fr, inc)) := by simp [op_ice, hix]
      exact ⟨by rw [hop]; exact Nat.succ_ne_zero _, by rw [hop]; rfl⟩) ⟨(Nat.le_of_ble_eq_true rfl), (Nat.le_of_ble_eq_true rfl)⟩ (fun r_411 u H locs hw hW => ?_)
  obtain ⟨hix_410, rfl⟩ := hw
  refine lv_astore_n (lv' := [(3, .ref (α 9 (ix p0))), (0, .ref (α 0 0)), (1, .int p0), (2, .int p1)]) hx hb dX4_ice_5 rfl hl (by decide) rfl (fun ls hl => ?_)
  refine lv_iload_n hx hb dX4_ice_6 rfl (lv_at hl 3 rfl) ?_
  refine lv_iconst (v := 1) hx hb dX4_ice_7 (by decide) ?_
  refine lv_sipush (v := 999) hx hb dX4_ice_8 (by decide) ?_
  refine k_callSi (as := [.int p1, .int 1, .int 999]) (rest := []) F hW (met_X4_isWithin l D cA _ p1 1 999) rfl ML_X4_94 ST_X4_isWithin IN_X4 CO_X4_isWithin hdS_X4_isWithin rfl rfl ⟨(Nat.le_of_ble_eq_true rfl), (Nat.le_of_ble_eq_true rfl)⟩ rfl rfl hl.1 (Nat.le_of_ble_eq_true rfl) dX4_ice_11 ⟨(Nat.le_of_ble_eq_true rfl), (Nat.le_of_ble_eq_true rfl)⟩ (fun r_413 u H locs hw hW => ?_)
  subst hw
  cases hq_414 : wi p1 1 999
  · refine lv_if_ne (tgt := 27) hx hb dX4_ice_14 (by decide) (fun h => absurd (by decide) h) (fun _ => ?_)
    have hop : op_ice (N, R, Fr, inc) p0 p1 = (2, 0, (N, R, Fr, inc)) := by simp [op_ice, hix_410, hq_414]
    exact k_throwS F G hW rfl (by decide) CL_X4_72 IN_E_IllegalArgumentException (List.mem_of_getElem? (i := 9) rfl) hat_IllegalArgument good_IllegalArgument hl.1 (Nat.le_of_ble_eq_true rfl) dX4_ice_17 dX4_ice_20 dX4_ice_21 dX4_ice_23 dX4_ice_26 (⟨by rw [hop]; exact Nat.succ_ne_zero _, by rw [hop]; rfl⟩) ⟨(Nat.le_of_ble_eq_true rfl), (Nat.le_of_ble_eq_true rfl), (Nat.le_of_ble_eq_true rfl), (Nat.le_of_ble_eq_true rfl)⟩ ⟨(Nat.le_of_ble_eq_true rfl), (Nat.le_of_ble_eq_true rfl)⟩
  · refine lv_if_ne (tgt := 27) hx hb dX4_ice_14 (by decide) (fun _ => ?_) (fun h => absurd h (by decide))
    refine lv_aload_n hx hb dX4_ice_27 rfl (lv_at hl 0 rfl) ?_
    obtain ⟨q_415, hq_415⟩ := xw_at (wr := wr) (cA := cA) (α := α) (L := L) (S := (N, R, Fr, inc)) 9 (ix p0) (hLk.l (ix p0) (hC.lt (by decide) (ix_lt hix_410 (by have := hC; unfold IC at this; omega)).1))
    refine k_callVi (as := []) (rest := []) (b := (α 9 (ix p0))) (ci := 4) (q0 := q_415) F hW (met_X2_isAtPier l D cA wr α L N R Fr inc (ix p0) hLk (hC.lt (by decide) (ix_lt hix_410 (by have := hC; unfold IC at this; omega)).1)) rfl ML_X4_166 IM_X2_isAtPier SE_X2_isAtPier IN_X2 CO_X2_isAtPier hdV_X2_isAtPier rfl rfl ⟨(Nat.le_of_ble_eq_true rfl), (Nat.le_of_ble_eq_true rfl)⟩ rfl rfl (hq_415) rfl rfl hl.1 (Nat.le_of_ble_eq_true rfl) dX4_ice_28 ⟨(Nat.le_of_ble_eq_true rfl), (Nat.le_of_ble_eq_true rfl)⟩ (fun r_416 u H locs hw hW => ?_)
    subst hw
    cases hap : atPier R (ix p0)
    · have h_x := atPier_f (hL _ (ix_lt hix_410 (by have := hC; unfold IC at this; omega)).1).2.2.2.1 hap
      refine lv_if_ne (tgt := 44) hx hb dX4_ice_31 (by decide) (fun h => absurd (by decide) h) (fun _ => ?_)
      have hop : op_ice (N, R, Fr, inc) p0 p1 = (3, 0, (N, R, Fr, inc)) := by simp [op_ice, hix_410, hq_414, h_x]
      exact k_throwS F G hW rfl (by decide) CL_X4_79 IN_E_IllegalStateException (List.mem_of_getElem? (i := 10) rfl) hat_IllegalState good_IllegalState hl.1 (Nat.le_of_ble_eq_true rfl) dX4_ice_34 dX4_ice_37 dX4_ice_38 dX4_ice_40 dX4_ice_43 (⟨by rw [hop]; exact Nat.succ_ne_zero _, by rw [hop]; rfl⟩) ⟨(Nat.le_of_ble_eq_true rfl), (Nat.le_of_ble_eq_true rfl), (Nat.le_of_ble_eq_true rfl), (Nat.le_of_ble_eq_true rfl)⟩ ⟨(Nat.le_of_ble_eq_true rfl), (Nat.le_of_ble_eq_true rfl)⟩
    · have h_x := atPier_t hap
      have h_x1 : ¬ R 9 (ix p0) 0 = 100 := fun q => h_x (Or.inl q)
      have h_x2 : ¬ R 9 (ix p0) 0 = 120 := fun q => h_x (Or.inr q)
      refine lv_if_ne (tgt := 44) hx hb dX4_ice_31 (by decide) (fun _ => ?_) (fun h => absurd h (by decide))
      refine lv_aload_n hx hb dX4_ice_44 rfl (lv_at hl 0 rfl) ?_
      refine lv_dup hx hb dX4_ice_45 rfl ?_
      obtain ⟨q_417, hq_417⟩ := xw_at (wr := wr) (cA := cA) (α := α) (L := L) (S := (N, R, Fr, inc)) 9 (ix p0) (hLk.l (ix p0) (hC.lt (by decide) (ix_lt hix_410 (by have := hC; unfold IC at this; omega)).1))
      refine k_get (v := .int (R 10 (ix p0) 0)) F hW inX2 rfl q_417 hq_417 rfl 8 (by decide) FL_X4_172 rfl rfl dX4_ice_46 ?_
      refine lv_iload_n hx hb dX4_ice_49 rfl (lv_at hl 3 rfl) ?_
      refine lv_iadd hx hb dX4_ice_50 ?_
      obtain ⟨q_418, hq_418, gq_418⟩ := xput (wr := wr) (L := L) (S := (N, R, Fr, inc)) (S' := (N, up3 R 10 (ix p0) 0 (R 10 (ix p0) 0 + p1), Fr, inc)) 9 (ix p0) (hLk.l (ix p0) (hC.lt (by decide) (ix_lt hix_410 (by have := hC; unfold IC at this; omega)).1)) hLk.1 (fun p hp hne => xe_r10 cA α N R Fr inc (ix p0) (R 10 (ix p0) 0 + p1) p hne) (xs_r10 cA α N R Fr inc (ix p0) (R 10 (ix p0) 0 + p1))
      refine k_put F hW inX2 tyX2_ok nmX2 rfl q_418 hq_418 rfl 8 (by decide) FL_X4_172 rfl rfl rfl rfl rfl (Nat.le_of_ble_eq_true rfl) (xWd wr cA α L (N, up3 R 10 (ix p0) 0 (R 10 (ix p0) 0 + p1), Fr, inc)) gq_418 dX4_ice_51 (fun H locs hW => ?_)
      refine lv_aload_n hx hb dX4_ice_54 rfl (lv_at hl 0 rfl) ?_
      obtain ⟨q_419, hq_419⟩ := xw_at (wr := wr) (cA := cA) (α := α) (L := L) (S := (N, up3 R 10 (ix p0) 0 (R 10 (ix p0) 0 + p1), Fr, inc)) 9 (ix p0) (hLk.l (ix p0) (hC.lt (by decide) (ix_lt hix_410 (by have := hC; unfold IC at this; omega)).1))
      refine k_get (v := .int (up3 R 10 (ix p0) 0 (R 10 (ix p0) 0 + p1) 10 (ix p0) 0)) F hW inX2 rfl q_419 hq_419 rfl 8 (by decide) FL_X4_172 rfl rfl dX4_ice_55 ?_
      refine lv_topi (fun x_420 ex_420 => ?_)
      obtain rfl : x_420 = R 10 (ix p0) 0 + p1 := ex_420.trans (up3_self)
      have hop : op_ice (N, R, Fr, inc) p0 p1 = (0, (R 10 (ix p0) 0 + p1), (N, up3 R 10 (ix p0) 0 (R 10 (ix p0) 0 + p1), Fr, inc)) := by simp [op_ice, hix_410, hq_414, h_x1, h_x2]
      refine vx_ret ?_
      exact k_iret () F (hW.eq (by rw [hop])) (⟨by rw [hop], by rw [hop]⟩) dX4_ice_58 (Nat.le_of_ble_eq_true rfl) (Nat.le_of_ble_eq_true rfl)

set_option maxHeartbeats 4000000 in
set_option maxRecDepth 100000 in
theorem met_X4_setLimit (l : Launch) (D : va_G) (cA : Nat → ClassId) (wr : va_W) (α : Nat → Nat → Nat) (L : List (Nat × Nat)) (N : Nat → Nat → Nat) (R : Nat → Nat → Nat → Int32) (Fr : Nat → UInt32) (inc : Int64) (p0 p1 p2 : Int32) (z0 : Nat) (hl0 : l.stackTraces = false) (hLk : LOK N L) (hC : IC N) : MetXI z0 l yX4_setLimit (.code yX4_setLimit cX4_setLimit 6 (some .int) :: LW) ({ frames := 7, cells := 2, slots := 12, locals := 111 }) D cA (xWd wr cA α L (N, R, Fr, inc)) [.ref (α 0 0), .int p0, .int p1, .int p2] (fun r (_ : Unit) => (op_setLimit (N, R, Fr, inc) p0 p1 p2).1 = 0 ∧ r = (op_setLimit (N, R, Fr, inc) p0 p1 p2).2.1) (fun _ => xWd wr cA α L (op_setLimit (N, R, Fr, inc) p0 p1 p2).2.2) (fun E => ¬ (op_setLimit (N, R, Fr, inc) p0 p1 p2).1 = 0 ∧ E = exOf ["java/lang/IndexOutOfBoundsException", "java/lang/IllegalArgumentException"] (op_setLimit (N, R, Fr, inc) p0 p1 p2).1) 2 12 := by
  refine k_bodyX hl0 (by decide) (Nat.le_of_ble_eq_true rfl) (fun p e s m args below meth c ls F G hW hl => ?_)
  obtain ⟨hx, hb, hr, hml, hown, hts, hlocks, hname⟩ := id F
  have hl : lv_has ls 6 [(0, .ref (α 0 0)), (1, .int p0), (2, .int p1), (3, .int p2)] := hl
  refine lv_aload_n hx hb dX4_setLimit_0 rfl (lv_at hl 0 rfl) ?_
  refine lv_iload_n hx hb dX4_setLimit_1 rfl (lv_at hl 1 rfl) ?_
  obtain ⟨q_423, hq_423⟩ := xw_at (wr := wr) (cA := cA) (α := α) (L := L) (S := (N, R, Fr, inc)) 0 0 (hLk.o 0 (by decide))
  refine k_cXVr (as := [.int p0]) (rest := []) (b := (α 0 0)) (ci := 6) (q0 := q_423) F G hW (met_X4_buyerNumbered l D cA wr α L N R Fr inc p0 z0 hl0 hLk hC) rfl ML_X4_196 IM_X4_buyerNumbered SE_X4_buyerNumbered IN_X4 CO_X4_buyerNumbered hdV_X4_buyerNumbered rfl rfl ⟨(Nat.le_of_ble_eq_true rfl), (Nat.le_of_ble_eq_true rfl)⟩ rfl rfl (hq_423) rfl rfl dX4_setLimit_2 hl.1 (Nat.le_of_ble_eq_true rfl) ⟨(Nat.le_of_ble_eq_true rfl), (Nat.le_of_ble_eq_true rfl)⟩ (fun E h => by
      obtain ⟨rfl, hix⟩ := h
      have hop : op_setLimit (N, R, Fr, inc) p0 p1 p2 = (1, 0, (N, R, Fr, inc)) := by simp [op_setLimit, hix]
      exact ⟨by rw [hop]; exact Nat.succ_ne_zero _, by rw [hop]; rfl⟩) ⟨(Nat.le_of_ble_eq_true rfl), (Nat.le_of_ble_eq_true rfl)⟩ (fun r_422 u H locs hw hW => ?_)
  obtain ⟨hix_421, rfl⟩ := hw
  refine lv_astore (lv' := [(4, .ref (α 10 (ix p0))), (0, .ref (α 0 0)), (1, .int p0), (2, .int p1), (3, .int p2)]) hx hb dX4_setLimit_5 hl (by decide) rfl (fun ls hl => ?_)
  refine lv_iload_n hx hb dX4_setLimit_7 rfl (lv_at hl 3 rfl) ?_
  refine k_callSi (as := [.int p1]) (rest := []) F hW (met_X4_isSpecies l D cA _ p1) rfl ML_X4_91 ST_X4_isSpecies IN_X4 CO_X4_isSpecies hdS_X4_isSpecies rfl rfl ⟨(Nat.le_of_ble_eq_true rfl), (Nat.le_of_ble_eq_true rfl)⟩ rfl rfl hl.1 (Nat.le_of_ble_eq_true rfl) dX4_setLimit_8 ⟨(Nat.le_of_ble_eq_true rfl), (Nat.le_of_ble_eq_true rfl)⟩ (fun r_424 u H locs hw hW => ?_)
  subst hw
  cases hq_425 : wi p1 0 3
  · refine lv_if_eq (tgt := 25) hx hb dX4_setLimit_11 (by decide) (fun _ => ?_) (fun h => absurd (by decide) h)
    have hop : op_setLimit (N, R, Fr, inc) p0 p1 p2 = (2, 0, (N, R, Fr, inc)) := by simp [op_setLimit, hix_421, hq_425]
    exact k_throwS F G hW rfl (by decide) CL_X4_72 IN_E_IllegalArgumentException (List.mem_of_getElem? (i := 13) rfl) hat_IllegalArgument good_IllegalArgument hl.1 (Nat.le_of_ble_eq_true rfl) dX4_setLimit_25 dX4_setLimit_28 dX4_setLimit_29 dX4_setLimit_31 dX4_setLimit_34 (⟨by rw [hop]; exact Nat.succ_ne_zero _, by rw [hop]; rfl⟩) ⟨(Nat.le_of_ble_eq_true rfl), (Nat.le_of_ble_eq_true rfl), (Nat.le_of_ble_eq_true rfl), (Nat.le_of_ble_eq_true rfl)⟩ ⟨(Nat.le_of_ble_eq_true rfl), (Nat.le_of_ble_eq_true rfl)⟩
  · refine lv_if_eq (tgt := 25) hx hb dX4_setLimit_11 (by decide) (fun h => absurd h (by decide)) (fun _ => ?_)
    refine lv_iload_n hx hb dX4_setLimit_14 rfl (lv_at hl 4 rfl) ?_
    refine lv_iconst (v := 0) hx hb dX4_setLimit_15 (by decide) ?_
    refine lv_sipush (v := 9999) hx hb dX4_setLimit_16 (by decide) ?_
    refine k_callSi (as := [.int p2, .int 0, .int 9999]) (rest := []) F hW (met_X4_isWithin l D cA _ p2 0 9999) rfl ML_X4_94 ST_X4_isWithin IN_X4 CO_X4_isWithin hdS_X4_isWithin rfl rfl ⟨(Nat.le_of_ble_eq_true rfl), (Nat.le_of_ble_eq_true rfl)⟩ rfl rfl hl.1 (Nat.le_of_ble_eq_true rfl) dX4_setLimit_19 ⟨(Nat.le_of_ble_eq_true rfl), (Nat.le_of_ble_eq_true rfl)⟩ (fun r_426 u H locs hw hW => ?_)
    subst hw
    cases hq_427 : wi p2 0 9999
    · refine lv_if_ne (tgt := 35) hx hb dX4_setLimit_22 (by decide) (fun h => absurd (by decide) h) (fun _ => ?_)
      have hop : op_setLimit (N, R, Fr, inc) p0 p1 p2 = (2, 0, (N, R, Fr, inc)) := by simp [op_setLimit, hix_421, hq_425, hq_427]
      exact k_throwS F G hW rfl (by decide) CL_X4_72 IN_E_IllegalArgumentException (List.mem_of_getElem? (i := 13) rfl) hat_IllegalArgument good_IllegalArgument hl.1 (Nat.le_of_ble_eq_true rfl) dX4_setLimit_25 dX4_setLimit_28 dX4_setLimit_29 dX4_setLimit_31 dX4_setLimit_34 (⟨by rw [hop]; exact Nat.succ_ne_zero _, by rw [hop]; rfl⟩) ⟨(Nat.le_of_ble_eq_true rfl), (Nat.le_of_ble_eq_true rfl), (Nat.le_of_ble_eq_true rfl), (Nat.le_of_ble_eq_true rfl)⟩ ⟨(Nat.le_of_ble_eq_true rfl), (Nat.le_of_ble_eq_true rfl)⟩
    · refine lv_if_ne (tgt := 35) hx hb dX4_setLimit_22 (by decide) (fun _ => ?_) (fun h => absurd h (by decide))
      refine lv_aload hx hb dX4_setLimit_35 (lv_at hl 0 rfl) ?_
      obtain ⟨q_428, hq_428⟩ := xw_at (wr := wr) (cA := cA) (α := α) (L := L) (S := (N, R, Fr, inc)) 10 (ix p0) (hLk.u 10 (ix p0) (by decide) (hC.lt (by decide) (ix_lt hix_421 (by have := hC; unfold IC at this; omega)).1))
      refine k_get (v := .ref (α 11 (ix p0))) F hW inX1 rfl q_428 hq_428 rfl 1 (by decide) FL_X4_202 rfl rfl dX4_setLimit_37 ?_
      refine lv_iload_n hx hb dX4_setLimit_40 rfl (lv_at hl 3 rfl) ?_
      obtain ⟨q_429, hq_429⟩ := xw_at (wr := wr) (cA := cA) (α := α) (L := L) (S := (N, R, Fr, inc)) 11 (ix p0) (hLk.u 11 (ix p0) (by decide) (hC.lt (by decide) (ix_lt hix_421 (by have := hC; unfold IC at this; omega)).1))
      refine k_iald (v := R 14 (ix p0) (ix p1)) F hW q_429 hq_429 (sp_in hq_425) (rfl) dX4_setLimit_41 ?_
      refine lv_istore (lv' := [(5, .int (R 14 (ix p0) (ix p1))), (4, .ref (α 10 (ix p0))), (0, .ref (α 0 0)), (1, .int p0), (2, .int p1), (3, .int p2)]) hx hb dX4_setLimit_42 hl (by decide) rfl (fun ls hl => ?_)
      refine lv_aload hx hb dX4_setLimit_44 (lv_at hl 1 rfl) ?_
      obtain ⟨q_430, hq_430⟩ := xw_at (wr := wr) (cA := cA) (α := α) (L := L) (S := (N, R, Fr, inc)) 10 (ix p0) (hLk.u 10 (ix p0) (by decide) (hC.lt (by decide) (ix_lt hix_421 (by have := hC; unfold IC at this; omega)).1))
      refine k_get (v := .ref (α 11 (ix p0))) F hW inX1 rfl q_430 hq_430 rfl 1 (by decide) FL_X4_202 rfl rfl dX4_setLimit_46 ?_
      refine lv_iload_n hx hb dX4_setLimit_49 rfl (lv_at hl 4 rfl) ?_
      refine lv_iload_n hx hb dX4_setLimit_50 rfl (lv_at hl 5 rfl) ?_
      obtain ⟨q_431, hq_431, gq_431⟩ := xput (wr := wr) (L := L) (S := (N, R, Fr, inc)) (S' := (N, up3 R 14 (ix p0) (ix p1) p2, Fr, inc)) 11 (ix p0) (hLk.u 11 (ix p0) (by decide) (hC.lt (by decide) (ix_lt hix_421 (by have := hC; unfold IC at this; omega)).1)) hLk.1 (fun p hp hne => xe_r14 cA α N R Fr inc (ix p0) (ix p1) p2 p hne) (xs_r14 cA α N R Fr inc (ix p0) (ix p1) p2)
      refine k_iast F hW q_431 hq_431 (sp_in hq_425) (xWd wr cA α L (N, up3 R 14 (ix p0) (ix p1) p2, Fr, inc)) gq_431 dX4_setLimit_51 (fun H locs hW => ?_)
      refine lv_iload hx hb dX4_setLimit_52 (lv_at hl 0 rfl) ?_
      have hop : op_setLimit (N, R, Fr, inc) p0 p1 p2 = (0, (R 14 (ix p0) (ix p1)), (N, up3 R 14 (ix p0) (ix p1) p2, Fr, inc)) := by simp [op_setLimit, hix_421, hq_425, hq_427]
      refine vx_ret ?_
      exact k_iret () F (hW.eq (by rw [hop])) (⟨by rw [hop], by rw [hop]⟩) dX4_setLimit_54 (Nat.le_of_ble_eq_true rfl) (Nat.le_of_ble_eq_true rfl)

set_option maxHeartbeats 4000000 in
set_option maxRecDepth 100000 in
theorem met_X4_setClock (l : Launch) (D : va_G) (cA : Nat → ClassId) (wr : va_W) (α : Nat → Nat → Nat) (L : List (Nat × Nat)) (N : Nat → Nat → Nat) (R : Nat → Nat → Nat → Int32) (Fr : Nat → UInt32) (inc : Int64) (p0 p1 p2 : Int32) (z0 : Nat) (hl0 : l.stackTraces = false) (hLk : LOK N L) (hC : IC N) : MetXI z0 l yX4_setClock (.code yX4_setClock cX4_setClock 5 (some .int) :: LW) ({ frames := 6, cells := 1, slots := 6, locals := 90 }) D cA (xWd wr cA α L (N, R, Fr, inc)) [.ref (α 0 0), .int p0, .int p1, .int p2] (fun r (_ : Unit) => (op_setClock (N, R, Fr, inc) p0 p1 p2).1 = 0 ∧ r = (op_setClock (N, R, Fr, inc) p0 p1 p2).2.1) (fun _ => xWd wr cA α L (op_setClock (N, R, Fr, inc) p0 p1 p2).2.2) (fun E => ¬ (op_setClock (N, R, Fr, inc) p0 p1 p2).1 = 0 ∧ E = exOf ["java/lang/IllegalArgumentException"] (op_setClock (N, R, Fr, inc) p0 p1 p2).1) 1 6 := by
  refine k_bodyX hl0 (by decide) (Nat.le_of_ble_eq_true rfl) (fun p e s m args below meth c ls F G hW hl => ?_)
  obtain ⟨hx, hb, hr, hml, hown, hts, hlocks, hname⟩ := id F
  have hl : lv_has ls 5 [(0, .ref (α 0 0)), (1, .int p0), (2, .int p1), (3, .int p2)] := hl
  refine lv_iload_n hx hb dX4_setClock_0 rfl (lv_at hl 1 rfl) ?_
  refine lv_iconst (v := 1) hx hb dX4_setClock_1 (by decide) ?_
  refine lv_sipush (v := 9999) hx hb dX4_setClock_2 (by decide) ?_
  refine k_callSi (as := [.int p0, .int 1, .int 9999]) (rest := []) F hW (met_X4_isWithin l D cA _ p0 1 9999) rfl ML_X4_94 ST_X4_isWithin IN_X4 CO_X4_isWithin hdS_X4_isWithin rfl rfl ⟨(Nat.le_of_ble_eq_true rfl), (Nat.le_of_ble_eq_true rfl)⟩ rfl rfl hl.1 (Nat.le_of_ble_eq_true rfl) dX4_setClock_5 ⟨(Nat.le_of_ble_eq_true rfl), (Nat.le_of_ble_eq_true rfl)⟩ (fun r_432 u H locs hw hW => ?_)
  subst hw
  cases hq_433 : wi p0 1 9999
  · refine lv_if_eq (tgt := 31) hx hb dX4_setClock_8 (by decide) (fun _ => ?_) (fun h => absurd (by decide) h)
    have hop : op_setClock (N, R, Fr, inc) p0 p1 p2 = (1, 0, (N, R, Fr, inc)) := by simp [op_setClock, hq_433]
    exact k_throwS F G hW rfl (by decide) CL_X4_72 IN_E_IllegalArgumentException (List.mem_of_getElem? (i := 14) rfl) hat_IllegalArgument good_IllegalArgument hl.1 (Nat.le_of_ble_eq_true rfl) dX4_setClock_31 dX4_setClock_34 dX4_setClock_35 dX4_setClock_37 dX4_setClock_40 (⟨by rw [hop]; exact Nat.succ_ne_zero _, by rw [hop]; rfl⟩) ⟨(Nat.le_of_ble_eq_true rfl), (Nat.le_of_ble_eq_true rfl), (Nat.le_of_ble_eq_true rfl), (Nat.le_of_ble_eq_true rfl)⟩ ⟨(Nat.le_of_ble_eq_true rfl), (Nat.le_of_ble_eq_true rfl)⟩
  · refine lv_if_eq (tgt := 31) hx hb dX4_setClock_8 (by decide) (fun h => absurd h (by decide)) (fun _ => ?_)
    refine lv_iload_n hx hb dX4_setClock_11 rfl (lv_at hl 2 rfl) ?_
    refine lv_iconst (v := 1) hx hb dX4_setClock_12 (by decide) ?_
    refine lv_sipush (v := 500) hx hb dX4_setClock_13 (by decide) ?_
    refine k_callSi (as := [.int p1, .int 1, .int 500]) (rest := []) F hW (met_X4_isWithin l D cA _ p1 1 500) rfl ML_X4_94 ST_X4_isWithin IN_X4 CO_X4_isWithin hdS_X4_isWithin rfl rfl ⟨(Nat.le_of_ble_eq_true rfl), (Nat.le_of_ble_eq_true rfl)⟩ rfl rfl hl.1 (Nat.le_of_ble_eq_true rfl) dX4_setClock_16 ⟨(Nat.le_of_ble_eq_true rfl), (Nat.le_of_ble_eq_true rfl)⟩ (fun r_434 u H locs hw hW => ?_)
    subst hw
    cases hq_435 : wi p1 1 500
    · refine lv_if_eq (tgt := 31) hx hb dX4_setClock_19 (by decide) (fun _ => ?_) (fun h => absurd (by decide) h)
      have hop : op_setClock (N, R, Fr, inc) p0 p1 p2 = (1, 0, (N, R, Fr, inc)) := by simp [op_setClock, hq_433, hq_435]
      exact k_throwS F G hW rfl (by decide) CL_X4_72 IN_E_IllegalArgumentException (List.mem_of_getElem? (i := 14) rfl) hat_IllegalArgument good_IllegalArgument hl.1 (Nat.le_of_ble_eq_true rfl) dX4_setClock_31 dX4_setClock_34 dX4_setClock_35 dX4_setClock_37 dX4_setClock_40 (⟨by rw [hop]; exact Nat.succ_ne_zero _, by rw [hop]; rfl⟩) ⟨(Nat.le_of_ble_eq_true rfl), (Nat.le_of_ble_eq_true rfl), (Nat.le_of_ble_eq_true rfl), (Nat.le_of_ble_eq_true rfl)⟩ ⟨(Nat.le_of_ble_eq_true rfl), (Nat.le_of_ble_eq_true rfl)⟩
    · refine lv_if_eq (tgt := 31) hx hb dX4_setClock_19 (by decide) (fun h => absurd h (by decide)) (fun _ => ?_)
      refine lv_iload_n hx hb dX4_setClock_22 rfl (lv_at hl 3 rfl) ?_
      refine lv_iconst (v := 0) hx hb dX4_setClock_23 (by decide) ?_
      refine lv_iload_n hx hb dX4_setClock_24 rfl (lv_at hl 1 rfl) ?_
      refine k_callSi (as := [.int p2, .int 0, .int p0]) (rest := []) F hW (met_X4_isWithin l D cA _ p2 0 p0) rfl ML_X4_94 ST_X4_isWithin IN_X4 CO_X4_isWithin hdS_X4_isWithin rfl rfl ⟨(Nat.le_of_ble_eq_true rfl), (Nat.le_of_ble_eq_true rfl)⟩ rfl rfl hl.1 (Nat.le_of_ble_eq_true rfl) dX4_setClock_25 ⟨(Nat.le_of_ble_eq_true rfl), (Nat.le_of_ble_eq_true rfl)⟩ (fun r_436 u H locs hw hW => ?_)
      subst hw
      cases hq_437 : wi p2 0 p0
      · refine lv_if_ne (tgt := 41) hx hb dX4_setClock_28 (by decide) (fun h => absurd (by decide) h) (fun _ => ?_)
        have hop : op_setClock (N, R, Fr, inc) p0 p1 p2 = (1, 0, (N, R, Fr, inc)) := by simp [op_setClock, hq_433, hq_435, hq_437]
        exact k_throwS F G hW rfl (by decide) CL_X4_72 IN_E_IllegalArgumentException (List.mem_of_getElem? (i := 14) rfl) hat_IllegalArgument good_IllegalArgument hl.1 (Nat.le_of_ble_eq_true rfl) dX4_setClock_31 dX4_setClock_34 dX4_setClock_35 dX4_setClock_37 dX4_setClock_40 (⟨by rw [hop]; exact Nat.succ_ne_zero _, by rw [hop]; rfl⟩) ⟨(Nat.le_of_ble_eq_true rfl), (Nat.le_of_ble_eq_true rfl), (Nat.le_of_ble_eq_true rfl), (Nat.le_of_ble_eq_true rfl)⟩ ⟨(Nat.le_of_ble_eq_true rfl), (Nat.le_of_ble_eq_true rfl)⟩
      · refine lv_if_ne (tgt := 41) hx hb dX4_setClock_28 (by decide) (fun _ => ?_) (fun h => absurd h (by decide))
        refine lv_aload_n hx hb dX4_setClock_41 rfl (lv_at hl 0 rfl) ?_
        obtain ⟨q_438, hq_438⟩ := xw_at (wr := wr) (cA := cA) (α := α) (L := L) (S := (N, R, Fr, inc)) 0 0 (hLk.o 0 (by decide))
        refine k_get (v := .int (R 0 1 0)) F hW inX4 rfl q_438 hq_438 rfl 11 (by decide) FL_X4_55 rfl rfl dX4_setClock_42 ?_
        refine lv_istore (lv' := [(4, .int (R 0 1 0)), (0, .ref (α 0 0)), (1, .int p0), (2, .int p1), (3, .int p2)]) hx hb dX4_setClock_45 hl (by decide) rfl (fun ls hl => ?_)
        refine lv_aload_n hx hb dX4_setClock_47 rfl (lv_at hl 1 rfl) ?_
        refine lv_iload_n hx hb dX4_setClock_48 rfl (lv_at hl 2 rfl) ?_
        obtain ⟨q_439, hq_439, gq_439⟩ := xput (wr := wr) (L := L) (S := (N, R, Fr, inc)) (S' := (N, up3 R 0 1 0 p0, Fr, inc)) 0 0 (hLk.o 0 (by decide)) hLk.1 (fun p hp hne => xe_r0 cA α N R Fr inc 1 p0 p (xe_0 hLk hp hne)) (xs_r0_1 cA α N R Fr inc p0)
        refine k_put F hW inX4 tyX4_ok nmX4 rfl q_439 hq_439 rfl 11 (by decide) FL_X4_55 rfl rfl rfl rfl rfl (Nat.le_of_ble_eq_true rfl) (xWd wr cA α L (N, up3 R 0 1 0 p0, Fr, inc)) gq_439 dX4_setClock_49 (fun H locs hW => ?_)
        refine lv_aload_n hx hb dX4_setClock_52 rfl (lv_at hl 1 rfl) ?_
        refine lv_iload_n hx hb dX4_setClock_53 rfl (lv_at hl 3 rfl) ?_
        obtain ⟨q_440, hq_440, gq_440⟩ := xput (wr := wr) (L := L) (S := (N, up3 R 0 1 0 p0, Fr, inc)) (S' := (N, up3 (up3 R 0 1 0 p0) 0 2 0 p1, Fr, inc)) 0 0 (hLk.o 0 (by decide)) hLk.1 (fun p hp hne => xe_r0 cA α N (up3 R 0 1 0 p0) Fr inc 2 p1 p (xe_0 hLk hp hne)) (xs_r0_2 cA α N (up3 R 0 1 0 p0) Fr inc p1)
        refine k_put F hW inX4 tyX4_ok nmX4 rfl q_440 hq_440 rfl 12 (by decide) FL_X4_58 rfl rfl rfl rfl rfl (Nat.le_of_ble_eq_true rfl) (xWd wr cA α L (N, up3 (up3 R 0 1 0 p0) 0 2 0 p1, Fr, inc)) gq_440 dX4_setClock_54 (fun H locs hW => ?_)
        refine lv_aload_n hx hb dX4_setClock_57 rfl (lv_at hl 1 rfl) ?_
        refine lv_iload_n hx hb dX4_setClock_58 rfl (lv_at hl 4 rfl) ?_
        obtain ⟨q_441, hq_441, gq_441⟩ := xput (wr := wr) (L := L) (S := (N, up3 (up3 R 0 1 0 p0) 0 2 0 p1, Fr, inc)) (S' := (N, up3 (up3 (up3 R 0 1 0 p0) 0 2 0 p1) 0 3 0 p2, Fr, inc)) 0 0 (hLk.o 0 (by decide)) hLk.1 (fun p hp hne => xe_r0 cA α N (up3 (up3 R 0 1 0 p0) 0 2 0 p1) Fr inc 3 p2 p (xe_0 hLk hp hne)) (xs_r0_3 cA α N (up3 (up3 R 0 1 0 p0) 0 2 0 p1) Fr inc p2)
        refine k_put F hW inX4 tyX4_ok nmX4 rfl q_441 hq_441 rfl 13 (by decide) FL_X4_61 rfl rfl rfl rfl rfl (Nat.le_of_ble_eq_true rfl) (xWd wr cA α L (N, up3 (up3 (up3 R 0 1 0 p0) 0 2 0 p1) 0 3 0 p2, Fr, inc)) gq_441 dX4_setClock_59 (fun H locs hW => ?_)
        refine lv_iload hx hb dX4_setClock_62 (lv_at hl 0 rfl) ?_
        have hop : op_setClock (N, R, Fr, inc) p0 p1 p2 = (0, (R 0 1 0), (N, up3 (up3 (up3 R 0 1 0 p0) 0 2 0 p1) 0 3 0 p2, Fr, inc)) := by simp [op_setClock, hq_433, hq_435, hq_437]
        refine vx_ret ?_
        exact k_iret () F (hW.eq (by rw [hop])) (⟨by rw [hop], by rw [hop]⟩) dX4_setClock_64 (Nat.le_of_ble_eq_true rfl) (Nat.le_of_ble_eq_true rfl)

set_option maxHeartbeats 4000000 in
set_option maxRecDepth 100000 in
theorem met_X0_changeQuota (l : Launch) (D : va_G) (cA : Nat → ClassId) (wr : va_W) (α : Nat → Nat → Nat) (L : List (Nat × Nat)) (N : Nat → Nat → Nat) (R : Nat → Nat → Nat → Int32) (Fr : Nat → UInt32) (inc : Int64) (b : Nat) (q v : Int32) (hLk : LOK N L) (hb5 : b < N 2 0) (hs : wi q 0 3 = true) : MetV l yX0_changeQuota (.code yX0_changeQuota cX0_changeQuota 3 none :: LW) ({ frames := 0, cells := 0, slots := 0, locals := 0 }) D cA (xWd wr cA α L (N, R, Fr, inc)) [.ref (α 5 b), .int q, .int v] (fun (_ : Unit) => True) (fun _ => xWd wr cA α L (N, up3 (up3 R 1 b (ix q) (R 1 b (ix q) + v)) 3 b (ix q) (R 3 b (ix q) + v), Fr, inc)) 0 0 := by
  refine k_bodyV (plainFor_of_name (by decide)) (Nat.le_of_ble_eq_true rfl) (fun p e s m args below meth c ls F hW hl => ?_)
  obtain ⟨hx, hb, hr, hml, hown, hts, hlocks, hname⟩ := id F
  have hl : lv_has ls 3 [(0, .ref (α 5 b)), (1, .int q), (2, .int v)] := hl
  refine lv_aload_n hx hb dX0_changeQuota_0 rfl (lv_at hl 0 rfl) ?_
  obtain ⟨q_442, hq_442⟩ := xw_at (wr := wr) (cA := cA) (α := α) (L := L) (S := (N, R, Fr, inc)) 5 b (hLk.b 5 b (by decide) hb5)
  refine k_get (v := .ref (α 6 b)) F hW inX0 rfl q_442 hq_442 rfl 1 (by decide) FL_X0_9 rfl rfl dX0_changeQuota_1 ?_
  refine lv_iload_n hx hb dX0_changeQuota_4 rfl (lv_at hl 1 rfl) ?_
  refine lv_dup2_11 hx hb dX0_changeQuota_5 rfl rfl ?_
  obtain ⟨q_443, hq_443⟩ := xw_at (wr := wr) (cA := cA) (α := α) (L := L) (S := (N, R, Fr, inc)) 6 b (hLk.b 6 b (by decide) hb5)
  refine k_iald (v := R 1 b (ix q)) F hW q_443 hq_443 (sp_in hs) (rfl) dX0_changeQuota_6 ?_
  refine lv_iload_n hx hb dX0_changeQuota_7 rfl (lv_at hl 2 rfl) ?_
  refine lv_iadd hx hb dX0_changeQuota_8 ?_
  obtain ⟨q_444, hq_444, gq_444⟩ := xput (wr := wr) (L := L) (S := (N, R, Fr, inc)) (S' := (N, up3 R 1 b (ix q) (R 1 b (ix q) + v), Fr, inc)) 6 b (hLk.b 6 b (by decide) hb5) hLk.1 (fun p hp hne => xe_r1 cA α N R Fr inc b (ix q) (R 1 b (ix q) + v) p hne) (xs_r1 cA α N R Fr inc b (ix q) (R 1 b (ix q) + v))
  refine k_iast F hW q_444 hq_444 (sp_in hs) (xWd wr cA α L (N, up3 R 1 b (ix q) (R 1 b (ix q) + v), Fr, inc)) gq_444 dX0_changeQuota_9 (fun H locs hW => ?_)
  refine lv_aload_n hx hb dX0_changeQuota_10 rfl (lv_at hl 0 rfl) ?_
  obtain ⟨q_445, hq_445⟩ := xw_at (wr := wr) (cA := cA) (α := α) (L := L) (S := (N, up3 R 1 b (ix q) (R 1 b (ix q) + v), Fr, inc)) 5 b (hLk.b 5 b (by decide) hb5)
  refine k_get (v := .ref (α 7 b)) F hW inX0 rfl q_445 hq_445 rfl 2 (by decide) FL_X0_15 rfl rfl dX0_changeQuota_11 ?_
  refine lv_iload_n hx hb dX0_changeQuota_14 rfl (lv_at hl 1 rfl) ?_
  refine lv_dup2_11 hx hb dX0_changeQuota_15 rfl rfl ?_
  obtain ⟨q_446, hq_446⟩ := xw_at (wr := wr) (cA := cA) (α := α) (L := L) (S := (N, up3 R 1 b (ix q) (R 1 b (ix q) + v), Fr, inc)) 7 b (hLk.b 7 b (by decide) hb5)
  refine k_iald (v := R 3 b (ix q)) F hW q_446 hq_446 (sp_in hs) (rfl) dX0_changeQuota_16 ?_
  refine lv_iload_n hx hb dX0_changeQuota_17 rfl (lv_at hl 2 rfl) ?_
  refine lv_iadd hx hb dX0_changeQuota_18 ?_
  obtain ⟨q_447, hq_447, gq_447⟩ := xput (wr := wr) (L := L) (S := (N, up3 R 1 b (ix q) (R 1 b (ix q) + v), Fr, inc)) (S' := (N, up3 (up3 R 1 b (ix q) (R 1 b (ix q) + v)) 3 b (ix q) (R 3 b (ix q) + v), Fr, inc)) 7 b (hLk.b 7 b (by decide) hb5) hLk.1 (fun p hp hne => xe_r3 cA α N (up3 R 1 b (ix q) (R 1 b (ix q) + v)) Fr inc b (ix q) (R 3 b (ix q) + v) p hne) (xs_r3 cA α N (up3 R 1 b (ix q) (R 1 b (ix q) + v)) Fr inc b (ix q) (R 3 b (ix q) + v))
  refine k_iast F hW q_447 hq_447 (sp_in hs) (xWd wr cA α L (N, up3 (up3 R 1 b (ix q) (R 1 b (ix q) + v)) 3 b (ix q) (R 3 b (ix q) + v), Fr, inc)) gq_447 dX0_changeQuota_19 (fun H locs hW => ?_)
  exact k_vret () F (hW) (trivial) dX0_changeQuota_20 (Nat.le_of_ble_eq_true rfl) (Nat.le_of_ble_eq_true rfl)

theorem mq_read {R : Nat → Nat → Nat → Int32} {a b s : Nat} {v : Int32} (hab : ¬ b = a) : (up3 (up3 (up3 (up3 R 1 a s (R 1 a s + -v)) 3 a s (R 3 a s + -v)) 1 b s (up3 (up3 R 1 a s (R 1 a s + -v)) 3 a s (R 3 a s + -v) 1 b s + v)) 3 b s (up3 (up3 R 1 a s (R 1 a s + -v)) 3 a s (R 3 a s + -v) 3 b s + v)) 1 a s = R 1 a s + -v := by
  rw [up3_ne (by simp), up3_ne (fun q => hab q.2.1.symm), up3_ne (by simp), up3_self]
theorem mq_eq {R : Nat → Nat → Nat → Int32} {a b s : Nat} {v : Int32} (hab : ¬ b = a) : up3 (up3 (up3 (up3 R 1 a s (R 1 a s + -v)) 3 a s (R 3 a s + -v)) 1 b s (up3 (up3 R 1 a s (R 1 a s + -v)) 3 a s (R 3 a s + -v) 1 b s + v)) 3 b s (up3 (up3 R 1 a s (R 1 a s + -v)) 3 a s (R 3 a s + -v) 3 b s + v) = up3 (up3 (up3 (up3 R 1 a s (R 1 a s - v)) 1 b s (R 1 b s + v)) 3 a s (R 3 a s - v)) 3 b s (R 3 b s + v) := by
  have e1 : up3 (up3 R 1 a s (R 1 a s + -v)) 3 a s (R 3 a s + -v) 1 b s = R 1 b s := by rw [up3_ne (by simp), up3_ne (fun q => hab q.2.1)]
  have e2 : up3 (up3 R 1 a s (R 1 a s + -v)) 3 a s (R 3 a s + -v) 3 b s = R 3 b s := by rw [up3_ne (fun q => hab q.2.1), up3_ne (by simp)]
  rw [e1, e2, up3_row (k := 3) (k' := 1) (by decide), Int32.sub_eq_add_neg, Int32.sub_eq_add_neg]
set_option maxHeartbeats 4000000 in
set_option maxRecDepth 100000 in
theorem met_X4_moveQuota (l : Launch) (D : va_G) (cA : Nat → ClassId) (wr : va_W) (α : Nat → Nat → Nat) (L : List (Nat × Nat)) (N : Nat → Nat → Nat) (R : Nat → Nat → Nat → Int32) (Fr : Nat → UInt32) (inc : Int64) (p0 p1 p2 p3 : Int32) (z0 : Nat) (hl0 : l.stackTraces = false) (hLk : LOK N L) (hC : IC N) : MetXI z0 l yX4_moveQuota (.code yX4_moveQuota cX4_moveQuota 7 (some .int) :: LW) ({ frames := 7, cells := 3, slots := 18, locals := 111 }) D cA (xWd wr cA α L (N, R, Fr, inc)) [.ref (α 0 0), .int p0, .int p1, .int p2, .int p3] (fun r (_ : Unit) => (op_moveQuota (N, R, Fr, inc) p0 p1 p2 p3).1 = 0 ∧ r = (op_moveQuota (N, R, Fr, inc) p0 p1 p2 p3).2.1) (fun _ => xWd wr cA α L (op_moveQuota (N, R, Fr, inc) p0 p1 p2 p3).2.2) (fun E => ¬ (op_moveQuota (N, R, Fr, inc) p0 p1 p2 p3).1 = 0 ∧ E = exOf ["java/lang/IndexOutOfBoundsException", "java/lang/IllegalArgumentException", "java/lang/IllegalStateException"] (op_moveQuota (N, R, Fr, inc) p0 p1 p2 p3).1) 3 18 := by
  refine k_bodyX hl0 (by decide) (Nat.le_of_ble_eq_true rfl) (fun p e s m args below meth c ls F G hW hl => ?_)
  obtain ⟨hx, hb, hr, hml, hown, hts, hlocks, hname⟩ := id F
  have hl : lv_has ls 7 [(0, .ref (α 0 0)), (1, .int p0), (2, .int p1), (3, .int p2), (4, .int p3)] := hl
  refine lv_aload_n hx hb dX4_moveQuota_0 rfl (lv_at hl 0 rfl) ?_
  refine lv_iload_n hx hb dX4_moveQuota_1 rfl (lv_at hl 1 rfl) ?_
  obtain ⟨q_450, hq_450⟩ := xw_at (wr := wr) (cA := cA) (α := α) (L := L) (S := (N, R, Fr, inc)) 0 0 (hLk.o 0 (by decide))
  refine k_cXVr (as := [.int p0]) (rest := []) (b := (α 0 0)) (ci := 6) (q0 := q_450) F G hW (met_X4_boatNumbered l D cA wr α L N R Fr inc p0 z0 hl0 hLk hC) rfl ML_X4_87 IM_X4_boatNumbered SE_X4_boatNumbered IN_X4 CO_X4_boatNumbered hdV_X4_boatNumbered rfl rfl ⟨(Nat.le_of_ble_eq_true rfl), (Nat.le_of_ble_eq_true rfl)⟩ rfl rfl (hq_450) rfl rfl dX4_moveQuota_2 hl.1 (Nat.le_of_ble_eq_true rfl) ⟨(Nat.le_of_ble_eq_true rfl), (Nat.le_of_ble_eq_true rfl)⟩ (fun E h => by
      obtain ⟨rfl, hix⟩ := h
      have hop : op_moveQuota (N, R, Fr, inc) p0 p1 p2 p3 = (1, 0, (N, R, Fr, inc)) := by simp [op_moveQuota, hix]
      exact ⟨by rw [hop]; exact Nat.succ_ne_zero _, by rw [hop]; rfl⟩) ⟨(Nat.le_of_ble_eq_true rfl), (Nat.le_of_ble_eq_true rfl)⟩ (fun r_449 u H locs hw hW => ?_)
  obtain ⟨hix_448, rfl⟩ := hw
  refine lv_astore (lv' := [(5, .ref (α 5 (ix p0))), (0, .ref (α 0 0)), (1, .int p0), (2, .int p1), (3, .int p2), (4, .int p3)]) hx hb dX4_moveQuota_5 hl (by decide) rfl (fun ls hl => ?_)
  refine lv_aload_n hx hb dX4_moveQuota_7 rfl (lv_at hl 1 rfl) ?_
  refine lv_iload_n hx hb dX4_moveQuota_8 rfl (lv_at hl 3 rfl) ?_
  obtain ⟨q_453, hq_453⟩ := xw_at (wr := wr) (cA := cA) (α := α) (L := L) (S := (N, R, Fr, inc)) 0 0 (hLk.o 0 (by decide))
  refine k_cXVr (as := [.int p1]) (rest := []) (b := (α 0 0)) (ci := 6) (q0 := q_453) F G hW (met_X4_boatNumbered l D cA wr α L N R Fr inc p1 z0 hl0 hLk hC) rfl ML_X4_87 IM_X4_boatNumbered SE_X4_boatNumbered IN_X4 CO_X4_boatNumbered hdV_X4_boatNumbered rfl rfl ⟨(Nat.le_of_ble_eq_true rfl), (Nat.le_of_ble_eq_true rfl)⟩ rfl rfl (hq_453) rfl rfl dX4_moveQuota_9 hl.1 (Nat.le_of_ble_eq_true rfl) ⟨(Nat.le_of_ble_eq_true rfl), (Nat.le_of_ble_eq_true rfl)⟩ (fun E h => by
      obtain ⟨rfl, hix⟩ := h
      have hop : op_moveQuota (N, R, Fr, inc) p0 p1 p2 p3 = (1, 0, (N, R, Fr, inc)) := by simp [op_moveQuota, hix_448, hix]
      exact ⟨by rw [hop]; exact Nat.succ_ne_zero _, by rw [hop]; rfl⟩) ⟨(Nat.le_of_ble_eq_true rfl), (Nat.le_of_ble_eq_true rfl)⟩ (fun r_452 u H locs hw hW => ?_)
  obtain ⟨hix_451, rfl⟩ := hw
  refine lv_astore (lv' := [(6, .ref (α 5 (ix p1))), (5, .ref (α 5 (ix p0))), (0, .ref (α 0 0)), (1, .int p0), (2, .int p1), (3, .int p2), (4, .int p3)]) hx hb dX4_moveQuota_12 hl (by decide) rfl (fun ls hl => ?_)
  refine lv_iload_n hx hb dX4_moveQuota_14 rfl (lv_at hl 3 rfl) ?_
  refine lv_iload_n hx hb dX4_moveQuota_15 rfl (lv_at hl 4 rfl) ?_
  refine lv_icmp_eq (tgt := 38) hx hb dX4_moveQuota_16 (by decide) (fun h_e => ?_) (fun h_e => ?_)
  · have hop : op_moveQuota (N, R, Fr, inc) p0 p1 p2 p3 = (2, 0, (N, R, Fr, inc)) := by simp [op_moveQuota, hix_448, hix_451, h_e]
    exact k_throwS F G hW rfl (by decide) CL_X4_72 IN_E_IllegalArgumentException (List.mem_of_getElem? (i := 5) rfl) hat_IllegalArgument good_IllegalArgument hl.1 (Nat.le_of_ble_eq_true rfl) dX4_moveQuota_38 dX4_moveQuota_41 dX4_moveQuota_42 dX4_moveQuota_44 dX4_moveQuota_47 (⟨by rw [hop]; exact Nat.succ_ne_zero _, by rw [hop]; rfl⟩) ⟨(Nat.le_of_ble_eq_true rfl), (Nat.le_of_ble_eq_true rfl), (Nat.le_of_ble_eq_true rfl), (Nat.le_of_ble_eq_true rfl)⟩ ⟨(Nat.le_of_ble_eq_true rfl), (Nat.le_of_ble_eq_true rfl)⟩
  · refine lv_iload_n hx hb dX4_moveQuota_19 rfl (lv_at hl 5 rfl) ?_
    refine k_callSi (as := [.int p2]) (rest := []) F hW (met_X4_isSpecies l D cA _ p2) rfl ML_X4_91 ST_X4_isSpecies IN_X4 CO_X4_isSpecies hdS_X4_isSpecies rfl rfl ⟨(Nat.le_of_ble_eq_true rfl), (Nat.le_of_ble_eq_true rfl)⟩ rfl rfl hl.1 (Nat.le_of_ble_eq_true rfl) dX4_moveQuota_20 ⟨(Nat.le_of_ble_eq_true rfl), (Nat.le_of_ble_eq_true rfl)⟩ (fun r_454 u H locs hw hW => ?_)
    subst hw
    cases hq_455 : wi p2 0 3
    · refine lv_if_eq (tgt := 38) hx hb dX4_moveQuota_23 (by decide) (fun _ => ?_) (fun h => absurd (by decide) h)
      have hop : op_moveQuota (N, R, Fr, inc) p0 p1 p2 p3 = (2, 0, (N, R, Fr, inc)) := by simp [op_moveQuota, hix_448, hix_451, h_e, hq_455]
      exact k_throwS F G hW rfl (by decide) CL_X4_72 IN_E_IllegalArgumentException (List.mem_of_getElem? (i := 5) rfl) hat_IllegalArgument good_IllegalArgument hl.1 (Nat.le_of_ble_eq_true rfl) dX4_moveQuota_38 dX4_moveQuota_41 dX4_moveQuota_42 dX4_moveQuota_44 dX4_moveQuota_47 (⟨by rw [hop]; exact Nat.succ_ne_zero _, by rw [hop]; rfl⟩) ⟨(Nat.le_of_ble_eq_true rfl), (Nat.le_of_ble_eq_true rfl), (Nat.le_of_ble_eq_true rfl), (Nat.le_of_ble_eq_true rfl)⟩ ⟨(Nat.le_of_ble_eq_true rfl), (Nat.le_of_ble_eq_true rfl)⟩
    · refine lv_if_eq (tgt := 38) hx hb dX4_moveQuota_23 (by decide) (fun h => absurd h (by decide)) (fun _ => ?_)
      refine lv_iload hx hb dX4_moveQuota_26 (lv_at hl 6 rfl) ?_
      refine lv_iconst (v := 1) hx hb dX4_moveQuota_28 (by decide) ?_
      refine lv_sipush (v := 9999) hx hb dX4_moveQuota_29 (by decide) ?_
      refine k_callSi (as := [.int p3, .int 1, .int 9999]) (rest := []) F hW (met_X4_isWithin l D cA _ p3 1 9999) rfl ML_X4_94 ST_X4_isWithin IN_X4 CO_X4_isWithin hdS_X4_isWithin rfl rfl ⟨(Nat.le_of_ble_eq_true rfl), (Nat.le_of_ble_eq_true rfl)⟩ rfl rfl hl.1 (Nat.le_of_ble_eq_true rfl) dX4_moveQuota_32 ⟨(Nat.le_of_ble_eq_true rfl), (Nat.le_of_ble_eq_true rfl)⟩ (fun r_456 u H locs hw hW => ?_)
      subst hw
      cases hq_457 : wi p3 1 9999
      · refine lv_if_ne (tgt := 48) hx hb dX4_moveQuota_35 (by decide) (fun h => absurd (by decide) h) (fun _ => ?_)
        have hop : op_moveQuota (N, R, Fr, inc) p0 p1 p2 p3 = (2, 0, (N, R, Fr, inc)) := by simp [op_moveQuota, hix_448, hix_451, h_e, hq_455, hq_457]
        exact k_throwS F G hW rfl (by decide) CL_X4_72 IN_E_IllegalArgumentException (List.mem_of_getElem? (i := 5) rfl) hat_IllegalArgument good_IllegalArgument hl.1 (Nat.le_of_ble_eq_true rfl) dX4_moveQuota_38 dX4_moveQuota_41 dX4_moveQuota_42 dX4_moveQuota_44 dX4_moveQuota_47 (⟨by rw [hop]; exact Nat.succ_ne_zero _, by rw [hop]; rfl⟩) ⟨(Nat.le_of_ble_eq_true rfl), (Nat.le_of_ble_eq_true rfl), (Nat.le_of_ble_eq_true rfl), (Nat.le_of_ble_eq_true rfl)⟩ ⟨(Nat.le_of_ble_eq_true rfl), (Nat.le_of_ble_eq_true rfl)⟩
      · refine lv_if_ne (tgt := 48) hx hb dX4_moveQuota_35 (by decide) (fun _ => ?_) (fun h => absurd h (by decide))
        refine lv_aload hx hb dX4_moveQuota_48 (lv_at hl 1 rfl) ?_
        obtain ⟨q_458, hq_458⟩ := xw_at (wr := wr) (cA := cA) (α := α) (L := L) (S := (N, R, Fr, inc)) 5 (ix p0) (hLk.b 5 (ix p0) (by decide) (hC.lt (by decide) (ix_lt hix_448 (by have := hC; unfold IC at this; omega)).1))
        refine k_get (v := .ref (α 6 (ix p0))) F hW inX0 rfl q_458 hq_458 rfl 1 (by decide) FL_X4_102 rfl rfl dX4_moveQuota_50 ?_
        refine lv_iload_n hx hb dX4_moveQuota_53 rfl (lv_at hl 5 rfl) ?_
        obtain ⟨q_459, hq_459⟩ := xw_at (wr := wr) (cA := cA) (α := α) (L := L) (S := (N, R, Fr, inc)) 6 (ix p0) (hLk.b 6 (ix p0) (by decide) (hC.lt (by decide) (ix_lt hix_448 (by have := hC; unfold IC at this; omega)).1))
        refine k_iald (v := R 1 (ix p0) (ix p2)) F hW q_459 hq_459 (sp_in hq_455) (rfl) dX4_moveQuota_54 ?_
        refine lv_iload hx hb dX4_moveQuota_55 (lv_at hl 6 rfl) ?_
        refine lv_icmp_ge (tgt := 70) hx hb dX4_moveQuota_57 (by decide) (fun h_l => ?_) (fun h_l => ?_)
        · have h_l : ¬ R 1 (ix p0) (ix p2) < p3 := Int32.not_lt.mpr h_l
          refine lv_aload hx hb dX4_moveQuota_70 (lv_at hl 1 rfl) ?_
          refine lv_iload_n hx hb dX4_moveQuota_72 rfl (lv_at hl 5 rfl) ?_
          refine lv_iload hx hb dX4_moveQuota_73 (lv_at hl 6 rfl) ?_
          refine lv_ineg hx hb dX4_moveQuota_75 ?_
          obtain ⟨q_460, hq_460⟩ := xw_at (wr := wr) (cA := cA) (α := α) (L := L) (S := (N, R, Fr, inc)) 5 (ix p0) (hLk.b 5 (ix p0) (by decide) (hC.lt (by decide) (ix_lt hix_448 (by have := hC; unfold IC at this; omega)).1))
          refine k_callVv (as := [.int p2, .int (-p3)]) (rest := []) (b := (α 5 (ix p0))) (ci := 2) (q0 := q_460) F hW (met_X0_changeQuota l D cA wr α L N R Fr inc (ix p0) p2 (-p3) hLk (hC.lt (by decide) (ix_lt hix_448 (by have := hC; unfold IC at this; omega)).1) hq_455) rfl ML_X4_124 IM_X0_changeQuota SE_X0_changeQuota IN_X0 CO_X0_changeQuota hdV_X0_changeQuota rfl rfl ⟨(Nat.le_of_ble_eq_true rfl), (Nat.le_of_ble_eq_true rfl)⟩ rfl rfl (hq_460) rfl rfl hl.1 (Nat.le_of_ble_eq_true rfl) dX4_moveQuota_76 ⟨(Nat.le_of_ble_eq_true rfl), (Nat.le_of_ble_eq_true rfl)⟩ (fun u H locs hw hW => ?_)
          refine lv_aload hx hb dX4_moveQuota_79 (lv_at hl 0 rfl) ?_
          refine lv_iload_n hx hb dX4_moveQuota_81 rfl (lv_at hl 5 rfl) ?_
          refine lv_iload hx hb dX4_moveQuota_82 (lv_at hl 6 rfl) ?_
          obtain ⟨q_462, hq_462⟩ := xw_at (wr := wr) (cA := cA) (α := α) (L := L) (S := (N, up3 (up3 R 1 (ix p0) (ix p2) (R 1 (ix p0) (ix p2) + -p3)) 3 (ix p0) (ix p2) (R 3 (ix p0) (ix p2) + -p3), Fr, inc)) 5 (ix p1) (hLk.b 5 (ix p1) (by decide) (hC.lt (by decide) (ix_lt hix_451 (by have := hC; unfold IC at this; omega)).1))
          refine k_callVv (as := [.int p2, .int p3]) (rest := []) (b := (α 5 (ix p1))) (ci := 2) (q0 := q_462) F hW (met_X0_changeQuota l D cA wr α L N (up3 (up3 R 1 (ix p0) (ix p2) (R 1 (ix p0) (ix p2) + -p3)) 3 (ix p0) (ix p2) (R 3 (ix p0) (ix p2) + -p3)) Fr inc (ix p1) p2 p3 hLk (hC.lt (by decide) (ix_lt hix_451 (by have := hC; unfold IC at this; omega)).1) hq_455) rfl ML_X4_124 IM_X0_changeQuota SE_X0_changeQuota IN_X0 CO_X0_changeQuota hdV_X0_changeQuota rfl rfl ⟨(Nat.le_of_ble_eq_true rfl), (Nat.le_of_ble_eq_true rfl)⟩ rfl rfl (hq_462) rfl rfl hl.1 (Nat.le_of_ble_eq_true rfl) dX4_moveQuota_84 ⟨(Nat.le_of_ble_eq_true rfl), (Nat.le_of_ble_eq_true rfl)⟩ (fun u H locs hw hW => ?_)
          refine lv_aload hx hb dX4_moveQuota_87 (lv_at hl 1 rfl) ?_
          obtain ⟨q_464, hq_464⟩ := xw_at (wr := wr) (cA := cA) (α := α) (L := L) (S := (N, up3 (up3 (up3 (up3 R 1 (ix p0) (ix p2) (R 1 (ix p0) (ix p2) + -p3)) 3 (ix p0) (ix p2) (R 3 (ix p0) (ix p2) + -p3)) 1 (ix p1) (ix p2) ((up3 (up3 R 1 (ix p0) (ix p2) (R 1 (ix p0) (ix p2) + -p3)) 3 (ix p0) (ix p2) (R 3 (ix p0) (ix p2) + -p3)) 1 (ix p1) (ix p2) + p3)) 3 (ix p1) (ix p2) ((up3 (up3 R 1 (ix p0) (ix p2) (R 1 (ix p0) (ix p2) + -p3)) 3 (ix p0) (ix p2) (R 3 (ix p0) (ix p2) + -p3)) 3 (ix p1) (ix p2) + p3), Fr, inc)) 5 (ix p0) (hLk.b 5 (ix p0) (by decide) (hC.lt (by decide) (ix_lt hix_448 (by have := hC; unfold IC at this; omega)).1))
          refine k_get (v := .ref (α 6 (ix p0))) F hW inX0 rfl q_464 hq_464 rfl 1 (by decide) FL_X4_102 rfl rfl dX4_moveQuota_89 ?_
          refine lv_iload_n hx hb dX4_moveQuota_92 rfl (lv_at hl 5 rfl) ?_
          have hab := ix_ne hix_448 hix_451 (by have := hC; unfold IC at this; omega) h_e
          obtain ⟨q_465, hq_465⟩ := xw_at (wr := wr) (cA := cA) (α := α) (L := L) (S := (N, up3 (up3 (up3 (up3 R 1 (ix p0) (ix p2) (R 1 (ix p0) (ix p2) + -p3)) 3 (ix p0) (ix p2) (R 3 (ix p0) (ix p2) + -p3)) 1 (ix p1) (ix p2) ((up3 (up3 R 1 (ix p0) (ix p2) (R 1 (ix p0) (ix p2) + -p3)) 3 (ix p0) (ix p2) (R 3 (ix p0) (ix p2) + -p3)) 1 (ix p1) (ix p2) + p3)) 3 (ix p1) (ix p2) ((up3 (up3 R 1 (ix p0) (ix p2) (R 1 (ix p0) (ix p2) + -p3)) 3 (ix p0) (ix p2) (R 3 (ix p0) (ix p2) + -p3)) 3 (ix p1) (ix p2) + p3), Fr, inc)) 6 (ix p0) (hLk.b 6 (ix p0) (by decide) (hC.lt (by decide) (ix_lt hix_448 (by have := hC; unfold IC at this; omega)).1))
          refine k_iald (v := R 1 (ix p0) (ix p2) + -p3) F hW q_465 hq_465 (sp_in hq_455) (mq_read hab) dX4_moveQuota_93 ?_
          refine lv_topi (fun x_466 ex_466 => ?_)
          obtain rfl : x_466 = R 1 (ix p0) (ix p2) - p3 := ex_466.trans ((Int32.sub_eq_add_neg _ _).symm)
          have hRR : up3 (up3 (up3 (up3 R 1 (ix p0) (ix p2) (R 1 (ix p0) (ix p2) + -p3)) 3 (ix p0) (ix p2) (R 3 (ix p0) (ix p2) + -p3)) 1 (ix p1) (ix p2) ((up3 (up3 R 1 (ix p0) (ix p2) (R 1 (ix p0) (ix p2) + -p3)) 3 (ix p0) (ix p2) (R 3 (ix p0) (ix p2) + -p3)) 1 (ix p1) (ix p2) + p3)) 3 (ix p1) (ix p2) ((up3 (up3 R 1 (ix p0) (ix p2) (R 1 (ix p0) (ix p2) + -p3)) 3 (ix p0) (ix p2) (R 3 (ix p0) (ix p2) + -p3)) 3 (ix p1) (ix p2) + p3) = up3 (up3 (up3 (up3 R 1 (ix p0) (ix p2) (R 1 (ix p0) (ix p2) - p3)) 1 (ix p1) (ix p2) (R 1 (ix p1) (ix p2) + p3)) 3 (ix p0) (ix p2) (R 3 (ix p0) (ix p2) - p3)) 3 (ix p1) (ix p2) (R 3 (ix p1) (ix p2) + p3) := mq_eq hab
          have hop : op_moveQuota (N, R, Fr, inc) p0 p1 p2 p3 = (0, R 1 (ix p0) (ix p2) - p3, (N, up3 (up3 (up3 (up3 R 1 (ix p0) (ix p2) (R 1 (ix p0) (ix p2) - p3)) 1 (ix p1) (ix p2) (R 1 (ix p1) (ix p2) + p3)) 3 (ix p0) (ix p2) (R 3 (ix p0) (ix p2) - p3)) 3 (ix p1) (ix p2) (R 3 (ix p1) (ix p2) + p3), Fr, inc)) := by simp [op_moveQuota, hix_448, hix_451, h_e, hq_455, hq_457, h_l]
          refine vx_ret ?_
          exact k_iret () F (hW.eq (by rw [hop]; rw [hRR])) (⟨by rw [hop], by rw [hop]⟩) dX4_moveQuota_94 (Nat.le_of_ble_eq_true rfl) (Nat.le_of_ble_eq_true rfl)
        · have h_l : R 1 (ix p0) (ix p2) < p3 := Int32.not_le.mp h_l
          have hop : op_moveQuota (N, R, Fr, inc) p0 p1 p2 p3 = (3, 0, (N, R, Fr, inc)) := by simp [op_moveQuota, hix_448, hix_451, h_e, hq_455, hq_457, h_l]
          exact k_throwS F G hW rfl (by decide) CL_X4_79 IN_E_IllegalStateException (List.mem_of_getElem? (i := 6) rfl) hat_IllegalState good_IllegalState hl.1 (Nat.le_of_ble_eq_true rfl) dX4_moveQuota_60 dX4_moveQuota_63 dX4_moveQuota_64 dX4_moveQuota_66 dX4_moveQuota_69 (⟨by rw [hop]; exact Nat.succ_ne_zero _, by rw [hop]; rfl⟩) ⟨(Nat.le_of_ble_eq_true rfl), (Nat.le_of_ble_eq_true rfl), (Nat.le_of_ble_eq_true rfl), (Nat.le_of_ble_eq_true rfl)⟩ ⟨(Nat.le_of_ble_eq_true rfl), (Nat.le_of_ble_eq_true rfl)⟩
