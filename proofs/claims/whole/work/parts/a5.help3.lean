/-! The rest of the law's own methods -/
set_option maxHeartbeats 4000000 in
set_option maxRecDepth 100000 in
theorem met_L_priceByBuyers (l : Launch) (D : va_G) (cA : Nat → ClassId) (wr : va_W) (α : Nat → Nat → Nat) (L : List (Nat × Nat)) (N : Nat → Nat → Nat) (R : Nat → Nat → Nat → Int32) (Fr : Nat → UInt32) (inc : Int64) (o : Nat) (f : Nat → Int64) (c1 : Nat × va_E) (n : Nat) (p0 : Int32) (z0 : Nat) (hl0 : l.stackTraces = false) (hLk : LOK N L) (hI : IV n (N, R, Fr, inc)) (hn : n ≤ 1000) : MetHI z0 l yL_priceByBuyers (.codeWith yL_priceByBuyers cL_priceByBuyers 4 (some .int) [(0, 9, 12, 36), (0, 9, 15, 15), (0, 9, 18, 23)] :: LW) ({ frames := 9, cells := 3, slots := 18, locals := 155 }) D cA (xWd ((o, .inl (cA 4, 1, .inr (.inl f))) :: c1 :: wr) cA α L (N, R, Fr, inc)) [.ref (α 0 0), .int p0, .ref o] (fun r (u : (Nat → Int64) × (Nat → Nat → Nat) × List (Nat × Nat)) => r = nI (op_price (N, R, Fr, inc) p0).1 ∧ u.2.1 0 0 = α 0 0 ∧ LOK (op_price (N, R, Fr, inc) p0).2.2.1 u.2.2 ∧ ((op_price (N, R, Fr, inc) p0).1 = 0 → u.1 0 = ((op_price (N, R, Fr, inc) p0).2.1).toInt64)) (fun u => xWd ((o, .inl (cA 4, 1, .inr (.inl u.1))) :: c1 :: wr) cA u.2.1 u.2.2 (op_price (N, R, Fr, inc) p0).2.2) 3 18 := by
  refine k_bodyH hl0 (by decide) (Nat.le_of_ble_eq_true rfl) (fun p e s m args below meth c ls F G hW hl => ?_)
  obtain ⟨hx, hb, hr, hml, hown, hts, hlocks, hname⟩ := id F
  have hl : lv_has ls 4 [(0, .ref (α 0 0)), (1, .int p0), (2, .ref o)] := hl
  have h : INV n N R Fr inc := hI.1
  refine lv_aload_n hx hb dL_priceByBuyers_0 rfl (lv_at hl 2 rfl) ?_
  refine lv_iconst (v := 0) hx hb dL_priceByBuyers_1 (by decide) ?_
  refine lv_aload_n hx hb dL_priceByBuyers_2 rfl (lv_at hl 0 rfl) ?_
  refine lv_iload_n hx hb dL_priceByBuyers_3 rfl (lv_at hl 1 rfl) ?_
  obtain ⟨q, hq⟩ := xw_at (wr := (o, .inl (cA 4, 1, .inr (.inl f))) :: c1 :: wr) (cA := cA) (α := α) (L := L) (S := (N, R, Fr, inc)) 0 0 (hLk.o 0 (by decide))
  refine k_tryi (as := [.int p0]) (rest := [.int 0, .ref o]) (b := α 0 0) (ci := 6) (q0 := q) F G hW (met_X4_priceByBuyers l D cA ((o, .inl (cA 4, 1, .inr (.inl f))) :: c1 :: wr) α L N R Fr inc p0 z0 hl0 hLk (iv_ic h) (iv_lot h) (iv_ck h) (iv_pf h)) rfl ML_L_84 IM_X4_priceByBuyers SE_X4_priceByBuyers IN_X4 CO_X4_priceByBuyers hdV_X4_priceByBuyers rfl rfl ⟨(Nat.le_of_ble_eq_true rfl), (Nat.le_of_ble_eq_true rfl)⟩ rfl rfl hq rfl rfl dL_priceByBuyers_4 hl.1 (Nat.le_of_ble_eq_true rfl) ⟨(Nat.le_of_ble_eq_true rfl), (Nat.le_of_ble_eq_true rfl)⟩ (fun E ce q9 H locs hp hW h1 h2 h3 => ?_) (fun r u H locs hw hW => ?_)
  · obtain ⟨hp0, hpE⟩ := hp
    obtain ⟨hk1, hk2⟩ := ce_price N R Fr inc p0
    have hst := hk2 hp0
    rcases (show (op_price (N, R, Fr, inc) p0).1 = 1 ∨ (op_price (N, R, Fr, inc) p0).1 = 2 ∨ (op_price (N, R, Fr, inc) p0).1 = 3 by omega) with e | e | e
    · rw [e] at hpE
      obtain rfl : E = "java/util/NoSuchElementException" := hpE
      refine k_catch (own := RL) (E := "java/util/NoSuchElementException") F G rfl [] ⟨0, 9, 12, 36⟩ [⟨0, 9, 15, 15⟩, ⟨0, 9, 18, 23⟩] rfl (fun _ h => nomatch h) (by decide) (by decide) CL_L_36 (List.mem_of_getElem? (i := 6) rfl) h1 h2 h3 ?_
      refine lv_astore_n (lv' := [(3, .ref q9), (0, .ref (α 0 0)), (1, .int p0), (2, .ref o)]) hx hb dL_priceByBuyers_12 rfl hl (by decide) rfl (fun ls hl => ?_)
      refine lv_iconst (v := 1) hx hb dL_priceByBuyers_13 (by decide) ?_
      exact k_iret (f, α, L) F (hW.eq (congrArg (xWd ((o, .inl (cA 4, 1, .inr (.inl f))) :: c1 :: wr) cA α L) hst.symm)) ⟨by rw [e]; rfl, rfl, by rw [hst]; exact hLk, fun z => absurd z hp0⟩ dL_priceByBuyers_14 (Nat.le_of_ble_eq_true rfl) (Nat.le_of_ble_eq_true rfl)
    · rw [e] at hpE
      obtain rfl : E = "java/lang/IllegalStateException" := hpE
      refine k_catch (own := RL) (E := "java/lang/IllegalStateException") F G rfl [⟨0, 9, 12, 36⟩] ⟨0, 9, 15, 15⟩ [⟨0, 9, 18, 23⟩] rfl (List.forall_mem_cons.mpr ⟨⟨by decide, "java/util/NoSuchElementException", CL_L_36, List.mem_of_getElem? (i := 7) rfl⟩, fun _ h => nomatch h⟩) (by decide) (by decide) CL_L_15 (List.mem_of_getElem? (i := 4) rfl) h1 h2 h3 ?_
      refine lv_astore_n (lv' := [(3, .ref q9), (0, .ref (α 0 0)), (1, .int p0), (2, .ref o)]) hx hb dL_priceByBuyers_15 rfl hl (by decide) rfl (fun ls hl => ?_)
      refine lv_iconst (v := 2) hx hb dL_priceByBuyers_16 (by decide) ?_
      exact k_iret (f, α, L) F (hW.eq (congrArg (xWd ((o, .inl (cA 4, 1, .inr (.inl f))) :: c1 :: wr) cA α L) hst.symm)) ⟨by rw [e]; rfl, rfl, by rw [hst]; exact hLk, fun z => absurd z hp0⟩ dL_priceByBuyers_17 (Nat.le_of_ble_eq_true rfl) (Nat.le_of_ble_eq_true rfl)
    · rw [e] at hpE
      obtain rfl : E = "java/lang/UnsupportedOperationException" := hpE
      refine k_catch (own := RL) (E := "java/lang/UnsupportedOperationException") F G rfl [⟨0, 9, 12, 36⟩, ⟨0, 9, 15, 15⟩] ⟨0, 9, 18, 23⟩ [] rfl (List.forall_mem_cons.mpr ⟨⟨by decide, "java/util/NoSuchElementException", CL_L_36, List.mem_of_getElem? (i := 15) rfl⟩, List.forall_mem_cons.mpr ⟨⟨by decide, "java/lang/IllegalStateException", CL_L_15, List.mem_of_getElem? (i := 13) rfl⟩, fun _ h => nomatch h⟩⟩) (by decide) (by decide) CL_L_23 (List.mem_of_getElem? (i := 5) rfl) h1 h2 h3 ?_
      refine lv_astore_n (lv' := [(3, .ref q9), (0, .ref (α 0 0)), (1, .int p0), (2, .ref o)]) hx hb dL_priceByBuyers_18 rfl hl (by decide) rfl (fun ls hl => ?_)
      refine lv_iconst (v := 3) hx hb dL_priceByBuyers_19 (by decide) ?_
      exact k_iret (f, α, L) F (hW.eq (congrArg (xWd ((o, .inl (cA 4, 1, .inr (.inl f))) :: c1 :: wr) cA α L) hst.symm)) ⟨by rw [e]; rfl, rfl, by rw [hst]; exact hLk, fun z => absurd z hp0⟩ dL_priceByBuyers_20 (Nat.le_of_ble_eq_true rfl) (Nat.le_of_ble_eq_true rfl)
  · obtain ⟨hop, rfl⟩ := hw
    refine lv_i2l hx hb dL_priceByBuyers_7 rfl ?_
    refine k_last F hW 0 rfl z_in (xWd ((o, .inl (cA 4, 1, .inr (.inl (vp_updL f 0 (((op_price (N, R, Fr, inc) p0).2.1).toInt64))))) :: c1 :: wr) cA (α) (L) (op_price (N, R, Fr, inc) p0).2.2) (by rw [z_cl]; rfl) dL_priceByBuyers_8 (fun H locs hW => ?_)
    refine lv_goto (tgt := 21) hx hb dL_priceByBuyers_9 (by decide) ?_
    refine lv_iconst (v := 0) hx hb dL_priceByBuyers_21 (by decide) ?_
    exact k_iret (vp_updL f 0 (((op_price (N, R, Fr, inc) p0).2.1).toInt64), α, L) F hW ⟨by rw [hop]; rfl, rfl, hLk.same (n2_price N R Fr inc p0), fun _ => by show vp_updL f 0 _ 0 = _; exact pk_uLs⟩ dL_priceByBuyers_22 (Nat.le_of_ble_eq_true rfl) (Nat.le_of_ble_eq_true rfl)
set_option maxHeartbeats 4000000 in
set_option maxRecDepth 100000 in
theorem met_L_sell (l : Launch) (D : va_G) (cA : Nat → ClassId) (wr : va_W) (α : Nat → Nat → Nat) (L : List (Nat × Nat)) (N : Nat → Nat → Nat) (R : Nat → Nat → Nat → Int32) (Fr : Nat → UInt32) (inc : Int64) (o : Nat) (f : Nat → Int64) (c1 : Nat × va_E) (n : Nat) (p0 : Int32) (z0 : Nat) (hl0 : l.stackTraces = false) (hLk : LOK N L) (hI : IV n (N, R, Fr, inc)) (hn : n ≤ 1000) : MetHI z0 l yL_sell (.codeWith yL_sell cL_sell 4 (some .int) [(0, 9, 12, 36), (0, 9, 15, 15), (0, 9, 18, 23)] :: LW) ({ frames := 9, cells := 3, slots := 18, locals := 158 }) D cA (xWd ((o, .inl (cA 4, 1, .inr (.inl f))) :: c1 :: wr) cA α L (N, R, Fr, inc)) [.ref (α 0 0), .int p0, .ref o] (fun r (u : (Nat → Int64) × (Nat → Nat → Nat) × List (Nat × Nat)) => r = nI (op_sell (N, R, Fr, inc) p0).1 ∧ u.2.1 0 0 = α 0 0 ∧ LOK (op_sell (N, R, Fr, inc) p0).2.2.1 u.2.2 ∧ ((op_sell (N, R, Fr, inc) p0).1 = 0 → u.1 0 = ((op_sell (N, R, Fr, inc) p0).2.1).toInt64)) (fun u => xWd ((o, .inl (cA 4, 1, .inr (.inl u.1))) :: c1 :: wr) cA u.2.1 u.2.2 (op_sell (N, R, Fr, inc) p0).2.2) 3 18 := by
  refine k_bodyH hl0 (by decide) (Nat.le_of_ble_eq_true rfl) (fun p e s m args below meth c ls F G hW hl => ?_)
  obtain ⟨hx, hb, hr, hml, hown, hts, hlocks, hname⟩ := id F
  have hl : lv_has ls 4 [(0, .ref (α 0 0)), (1, .int p0), (2, .ref o)] := hl
  have h : INV n N R Fr inc := hI.1
  refine lv_aload_n hx hb dL_sell_0 rfl (lv_at hl 2 rfl) ?_
  refine lv_iconst (v := 0) hx hb dL_sell_1 (by decide) ?_
  refine lv_aload_n hx hb dL_sell_2 rfl (lv_at hl 0 rfl) ?_
  refine lv_iload_n hx hb dL_sell_3 rfl (lv_at hl 1 rfl) ?_
  obtain ⟨q, hq⟩ := xw_at (wr := (o, .inl (cA 4, 1, .inr (.inl f))) :: c1 :: wr) (cA := cA) (α := α) (L := L) (S := (N, R, Fr, inc)) 0 0 (hLk.o 0 (by decide))
  refine k_tryi (as := [.int p0]) (rest := [.int 0, .ref o]) (b := α 0 0) (ci := 6) (q0 := q) F G hW (met_X4_sell l D cA ((o, .inl (cA 4, 1, .inr (.inl f))) :: c1 :: wr) α L N R Fr inc p0 z0 hl0 hLk (iv_ic h) (iv_lot h) (iv_ck h)) rfl ML_L_87 IM_X4_sell SE_X4_sell IN_X4 CO_X4_sell hdV_X4_sell rfl rfl ⟨(Nat.le_of_ble_eq_true rfl), (Nat.le_of_ble_eq_true rfl)⟩ rfl rfl hq rfl rfl dL_sell_4 hl.1 (Nat.le_of_ble_eq_true rfl) ⟨(Nat.le_of_ble_eq_true rfl), (Nat.le_of_ble_eq_true rfl)⟩ (fun E ce q9 H locs hp hW h1 h2 h3 => ?_) (fun r u H locs hw hW => ?_)
  · obtain ⟨hp0, hpE⟩ := hp
    obtain ⟨hk1, hk2⟩ := ce_sell N R Fr inc p0
    have hst := hk2 hp0
    rcases (show (op_sell (N, R, Fr, inc) p0).1 = 1 ∨ (op_sell (N, R, Fr, inc) p0).1 = 2 ∨ (op_sell (N, R, Fr, inc) p0).1 = 3 by omega) with e | e | e
    · rw [e] at hpE
      obtain rfl : E = "java/util/NoSuchElementException" := hpE
      refine k_catch (own := RL) (E := "java/util/NoSuchElementException") F G rfl [] ⟨0, 9, 12, 36⟩ [⟨0, 9, 15, 15⟩, ⟨0, 9, 18, 23⟩] rfl (fun _ h => nomatch h) (by decide) (by decide) CL_L_36 (List.mem_of_getElem? (i := 6) rfl) h1 h2 h3 ?_
      refine lv_astore_n (lv' := [(3, .ref q9), (0, .ref (α 0 0)), (1, .int p0), (2, .ref o)]) hx hb dL_sell_12 rfl hl (by decide) rfl (fun ls hl => ?_)
      refine lv_iconst (v := 1) hx hb dL_sell_13 (by decide) ?_
      exact k_iret (f, α, L) F (hW.eq (congrArg (xWd ((o, .inl (cA 4, 1, .inr (.inl f))) :: c1 :: wr) cA α L) hst.symm)) ⟨by rw [e]; rfl, rfl, by rw [hst]; exact hLk, fun z => absurd z hp0⟩ dL_sell_14 (Nat.le_of_ble_eq_true rfl) (Nat.le_of_ble_eq_true rfl)
    · rw [e] at hpE
      obtain rfl : E = "java/lang/IllegalStateException" := hpE
      refine k_catch (own := RL) (E := "java/lang/IllegalStateException") F G rfl [⟨0, 9, 12, 36⟩] ⟨0, 9, 15, 15⟩ [⟨0, 9, 18, 23⟩] rfl (List.forall_mem_cons.mpr ⟨⟨by decide, "java/util/NoSuchElementException", CL_L_36, List.mem_of_getElem? (i := 7) rfl⟩, fun _ h => nomatch h⟩) (by decide) (by decide) CL_L_15 (List.mem_of_getElem? (i := 4) rfl) h1 h2 h3 ?_
      refine lv_astore_n (lv' := [(3, .ref q9), (0, .ref (α 0 0)), (1, .int p0), (2, .ref o)]) hx hb dL_sell_15 rfl hl (by decide) rfl (fun ls hl => ?_)
      refine lv_iconst (v := 2) hx hb dL_sell_16 (by decide) ?_
      exact k_iret (f, α, L) F (hW.eq (congrArg (xWd ((o, .inl (cA 4, 1, .inr (.inl f))) :: c1 :: wr) cA α L) hst.symm)) ⟨by rw [e]; rfl, rfl, by rw [hst]; exact hLk, fun z => absurd z hp0⟩ dL_sell_17 (Nat.le_of_ble_eq_true rfl) (Nat.le_of_ble_eq_true rfl)
    · rw [e] at hpE
      obtain rfl : E = "java/lang/UnsupportedOperationException" := hpE
      refine k_catch (own := RL) (E := "java/lang/UnsupportedOperationException") F G rfl [⟨0, 9, 12, 36⟩, ⟨0, 9, 15, 15⟩] ⟨0, 9, 18, 23⟩ [] rfl (List.forall_mem_cons.mpr ⟨⟨by decide, "java/util/NoSuchElementException", CL_L_36, List.mem_of_getElem? (i := 15) rfl⟩, List.forall_mem_cons.mpr ⟨⟨by decide, "java/lang/IllegalStateException", CL_L_15, List.mem_of_getElem? (i := 13) rfl⟩, fun _ h => nomatch h⟩⟩) (by decide) (by decide) CL_L_23 (List.mem_of_getElem? (i := 5) rfl) h1 h2 h3 ?_
      refine lv_astore_n (lv' := [(3, .ref q9), (0, .ref (α 0 0)), (1, .int p0), (2, .ref o)]) hx hb dL_sell_18 rfl hl (by decide) rfl (fun ls hl => ?_)
      refine lv_iconst (v := 3) hx hb dL_sell_19 (by decide) ?_
      exact k_iret (f, α, L) F (hW.eq (congrArg (xWd ((o, .inl (cA 4, 1, .inr (.inl f))) :: c1 :: wr) cA α L) hst.symm)) ⟨by rw [e]; rfl, rfl, by rw [hst]; exact hLk, fun z => absurd z hp0⟩ dL_sell_20 (Nat.le_of_ble_eq_true rfl) (Nat.le_of_ble_eq_true rfl)
  · obtain ⟨hop, rfl⟩ := hw
    refine lv_i2l hx hb dL_sell_7 rfl ?_
    refine k_last F hW 0 rfl z_in (xWd ((o, .inl (cA 4, 1, .inr (.inl (vp_updL f 0 (((op_sell (N, R, Fr, inc) p0).2.1).toInt64))))) :: c1 :: wr) cA (α) (L) (op_sell (N, R, Fr, inc) p0).2.2) (by rw [z_cl]; rfl) dL_sell_8 (fun H locs hW => ?_)
    refine lv_goto (tgt := 21) hx hb dL_sell_9 (by decide) ?_
    refine lv_iconst (v := 0) hx hb dL_sell_21 (by decide) ?_
    exact k_iret (vp_updL f 0 (((op_sell (N, R, Fr, inc) p0).2.1).toInt64), α, L) F hW ⟨by rw [hop]; rfl, rfl, hLk.same (n2_sell N R Fr inc p0), fun _ => by show vp_updL f 0 _ 0 = _; exact pk_uLs⟩ dL_sell_22 (Nat.le_of_ble_eq_true rfl) (Nat.le_of_ble_eq_true rfl)
set_option maxHeartbeats 4000000 in
set_option maxRecDepth 100000 in
theorem met_L_buyerOf (l : Launch) (D : va_G) (cA : Nat → ClassId) (wr : va_W) (α : Nat → Nat → Nat) (L : List (Nat × Nat)) (N : Nat → Nat → Nat) (R : Nat → Nat → Nat → Int32) (Fr : Nat → UInt32) (inc : Int64) (o : Nat) (f : Nat → Int64) (c1 : Nat × va_E) (n : Nat) (p0 : Int32) (z0 : Nat) (hl0 : l.stackTraces = false) (hLk : LOK N L) (hI : IV n (N, R, Fr, inc)) (hn : n ≤ 1000) : MetHI z0 l yL_buyerOf (.codeWith yL_buyerOf cL_buyerOf 4 (some .int) [(0, 9, 12, 36)] :: LW) ({ frames := 8, cells := 2, slots := 12, locals := 133 }) D cA (xWd ((o, .inl (cA 4, 1, .inr (.inl f))) :: c1 :: wr) cA α L (N, R, Fr, inc)) [.ref (α 0 0), .int p0, .ref o] (fun r (u : (Nat → Int64) × (Nat → Nat → Nat) × List (Nat × Nat)) => r = nI (op_buyerOf (N, R, Fr, inc) p0).1 ∧ u.2.1 0 0 = α 0 0 ∧ LOK (op_buyerOf (N, R, Fr, inc) p0).2.2.1 u.2.2 ∧ ((op_buyerOf (N, R, Fr, inc) p0).1 = 0 → u.1 0 = ((op_buyerOf (N, R, Fr, inc) p0).2.1).toInt64)) (fun u => xWd ((o, .inl (cA 4, 1, .inr (.inl u.1))) :: c1 :: wr) cA u.2.1 u.2.2 (op_buyerOf (N, R, Fr, inc) p0).2.2) 2 12 := by
  refine k_bodyH hl0 (by decide) (Nat.le_of_ble_eq_true rfl) (fun p e s m args below meth c ls F G hW hl => ?_)
  obtain ⟨hx, hb, hr, hml, hown, hts, hlocks, hname⟩ := id F
  have hl : lv_has ls 4 [(0, .ref (α 0 0)), (1, .int p0), (2, .ref o)] := hl
  have h : INV n N R Fr inc := hI.1
  refine lv_aload_n hx hb dL_buyerOf_0 rfl (lv_at hl 2 rfl) ?_
  refine lv_iconst (v := 0) hx hb dL_buyerOf_1 (by decide) ?_
  refine lv_aload_n hx hb dL_buyerOf_2 rfl (lv_at hl 0 rfl) ?_
  refine lv_iload_n hx hb dL_buyerOf_3 rfl (lv_at hl 1 rfl) ?_
  obtain ⟨q, hq⟩ := xw_at (wr := (o, .inl (cA 4, 1, .inr (.inl f))) :: c1 :: wr) (cA := cA) (α := α) (L := L) (S := (N, R, Fr, inc)) 0 0 (hLk.o 0 (by decide))
  refine k_tryi (as := [.int p0]) (rest := [.int 0, .ref o]) (b := α 0 0) (ci := 6) (q0 := q) F G hW (met_X4_buyerOf l D cA ((o, .inl (cA 4, 1, .inr (.inl f))) :: c1 :: wr) α L N R Fr inc p0 z0 hl0 hLk (iv_ic h) (iv_own h)) rfl ML_L_90 IM_X4_buyerOf SE_X4_buyerOf IN_X4 CO_X4_buyerOf hdV_X4_buyerOf rfl rfl ⟨(Nat.le_of_ble_eq_true rfl), (Nat.le_of_ble_eq_true rfl)⟩ rfl rfl hq rfl rfl dL_buyerOf_4 hl.1 (Nat.le_of_ble_eq_true rfl) ⟨(Nat.le_of_ble_eq_true rfl), (Nat.le_of_ble_eq_true rfl)⟩ (fun E ce q9 H locs hp hW h1 h2 h3 => ?_) (fun r u H locs hw hW => ?_)
  · obtain ⟨hp0, hpE⟩ := hp
    obtain ⟨hk1, hk2⟩ := ce_buyerOf N R Fr inc p0
    have hst := hk2 hp0
    have e : (op_buyerOf (N, R, Fr, inc) p0).1 = 1 := by omega
    rw [e] at hpE
    obtain rfl : E = "java/util/NoSuchElementException" := hpE
    refine k_catch (own := RL) (E := "java/util/NoSuchElementException") F G rfl [] ⟨0, 9, 12, 36⟩ [] rfl (fun _ h => nomatch h) (by decide) (by decide) CL_L_36 (List.mem_of_getElem? (i := 6) rfl) h1 h2 h3 ?_
    refine lv_astore_n (lv' := [(3, .ref q9), (0, .ref (α 0 0)), (1, .int p0), (2, .ref o)]) hx hb dL_buyerOf_12 rfl hl (by decide) rfl (fun ls hl => ?_)
    refine lv_iconst (v := 1) hx hb dL_buyerOf_13 (by decide) ?_
    exact k_iret (f, α, L) F (hW.eq (congrArg (xWd ((o, .inl (cA 4, 1, .inr (.inl f))) :: c1 :: wr) cA α L) hst.symm)) ⟨by rw [e]; rfl, rfl, by rw [hst]; exact hLk, fun z => absurd z hp0⟩ dL_buyerOf_14 (Nat.le_of_ble_eq_true rfl) (Nat.le_of_ble_eq_true rfl)
  · obtain ⟨hop, rfl⟩ := hw
    refine lv_i2l hx hb dL_buyerOf_7 rfl ?_
    refine k_last F hW 0 rfl z_in (xWd ((o, .inl (cA 4, 1, .inr (.inl (vp_updL f 0 (((op_buyerOf (N, R, Fr, inc) p0).2.1).toInt64))))) :: c1 :: wr) cA (α) (L) (op_buyerOf (N, R, Fr, inc) p0).2.2) (by rw [z_cl]; rfl) dL_buyerOf_8 (fun H locs hW => ?_)
    refine lv_goto (tgt := 15) hx hb dL_buyerOf_9 (by decide) ?_
    refine lv_iconst (v := 0) hx hb dL_buyerOf_15 (by decide) ?_
    exact k_iret (vp_updL f 0 (((op_buyerOf (N, R, Fr, inc) p0).2.1).toInt64), α, L) F hW ⟨by rw [hop]; rfl, rfl, hLk.same (n2_buyerOf N R Fr inc p0), fun _ => by show vp_updL f 0 _ 0 = _; exact pk_uLs⟩ dL_buyerOf_16 (Nat.le_of_ble_eq_true rfl) (Nat.le_of_ble_eq_true rfl)
set_option maxHeartbeats 4000000 in
set_option maxRecDepth 100000 in
theorem met_L_paidFor (l : Launch) (D : va_G) (cA : Nat → ClassId) (wr : va_W) (α : Nat → Nat → Nat) (L : List (Nat × Nat)) (N : Nat → Nat → Nat) (R : Nat → Nat → Nat → Int32) (Fr : Nat → UInt32) (inc : Int64) (o : Nat) (f : Nat → Int64) (c1 : Nat × va_E) (n : Nat) (p0 : Int32) (z0 : Nat) (hl0 : l.stackTraces = false) (hLk : LOK N L) (hI : IV n (N, R, Fr, inc)) (hn : n ≤ 1000) : MetHI z0 l yL_paidFor (.codeWith yL_paidFor cL_paidFor 4 (some .int) [(0, 9, 12, 36)] :: LW) ({ frames := 8, cells := 1, slots := 6, locals := 132 }) D cA (xWd ((o, .inl (cA 4, 1, .inr (.inl f))) :: c1 :: wr) cA α L (N, R, Fr, inc)) [.ref (α 0 0), .int p0, .ref o] (fun r (u : (Nat → Int64) × (Nat → Nat → Nat) × List (Nat × Nat)) => r = nI (op_lot 12 (N, R, Fr, inc) p0).1 ∧ u.2.1 0 0 = α 0 0 ∧ LOK (op_lot 12 (N, R, Fr, inc) p0).2.2.1 u.2.2 ∧ ((op_lot 12 (N, R, Fr, inc) p0).1 = 0 → u.1 0 = ((op_lot 12 (N, R, Fr, inc) p0).2.1).toInt64)) (fun u => xWd ((o, .inl (cA 4, 1, .inr (.inl u.1))) :: c1 :: wr) cA u.2.1 u.2.2 (op_lot 12 (N, R, Fr, inc) p0).2.2) 1 6 := by
  refine k_bodyH hl0 (by decide) (Nat.le_of_ble_eq_true rfl) (fun p e s m args below meth c ls F G hW hl => ?_)
  obtain ⟨hx, hb, hr, hml, hown, hts, hlocks, hname⟩ := id F
  have hl : lv_has ls 4 [(0, .ref (α 0 0)), (1, .int p0), (2, .ref o)] := hl
  have h : INV n N R Fr inc := hI.1
  refine lv_aload_n hx hb dL_paidFor_0 rfl (lv_at hl 2 rfl) ?_
  refine lv_iconst (v := 0) hx hb dL_paidFor_1 (by decide) ?_
  refine lv_aload_n hx hb dL_paidFor_2 rfl (lv_at hl 0 rfl) ?_
  refine lv_iload_n hx hb dL_paidFor_3 rfl (lv_at hl 1 rfl) ?_
  obtain ⟨q, hq⟩ := xw_at (wr := (o, .inl (cA 4, 1, .inr (.inl f))) :: c1 :: wr) (cA := cA) (α := α) (L := L) (S := (N, R, Fr, inc)) 0 0 (hLk.o 0 (by decide))
  refine k_tryi (as := [.int p0]) (rest := [.int 0, .ref o]) (b := α 0 0) (ci := 6) (q0 := q) F G hW (met_X4_paidFor l D cA ((o, .inl (cA 4, 1, .inr (.inl f))) :: c1 :: wr) α L N R Fr inc p0 z0 hl0 hLk (iv_ic h)) rfl ML_L_93 IM_X4_paidFor SE_X4_paidFor IN_X4 CO_X4_paidFor hdV_X4_paidFor rfl rfl ⟨(Nat.le_of_ble_eq_true rfl), (Nat.le_of_ble_eq_true rfl)⟩ rfl rfl hq rfl rfl dL_paidFor_4 hl.1 (Nat.le_of_ble_eq_true rfl) ⟨(Nat.le_of_ble_eq_true rfl), (Nat.le_of_ble_eq_true rfl)⟩ (fun E ce q9 H locs hp hW h1 h2 h3 => ?_) (fun r u H locs hw hW => ?_)
  · obtain ⟨hp0, hpE⟩ := hp
    obtain ⟨hk1, hk2⟩ := ce_lot 12 N R Fr inc p0
    have hst := hk2 hp0
    have e : (op_lot 12 (N, R, Fr, inc) p0).1 = 1 := by omega
    rw [e] at hpE
    obtain rfl : E = "java/util/NoSuchElementException" := hpE
    refine k_catch (own := RL) (E := "java/util/NoSuchElementException") F G rfl [] ⟨0, 9, 12, 36⟩ [] rfl (fun _ h => nomatch h) (by decide) (by decide) CL_L_36 (List.mem_of_getElem? (i := 6) rfl) h1 h2 h3 ?_
    refine lv_astore_n (lv' := [(3, .ref q9), (0, .ref (α 0 0)), (1, .int p0), (2, .ref o)]) hx hb dL_paidFor_12 rfl hl (by decide) rfl (fun ls hl => ?_)
    refine lv_iconst (v := 1) hx hb dL_paidFor_13 (by decide) ?_
    exact k_iret (f, α, L) F (hW.eq (congrArg (xWd ((o, .inl (cA 4, 1, .inr (.inl f))) :: c1 :: wr) cA α L) hst.symm)) ⟨by rw [e]; rfl, rfl, by rw [hst]; exact hLk, fun z => absurd z hp0⟩ dL_paidFor_14 (Nat.le_of_ble_eq_true rfl) (Nat.le_of_ble_eq_true rfl)
  · obtain ⟨hop, rfl⟩ := hw
    refine lv_i2l hx hb dL_paidFor_7 rfl ?_
    refine k_last F hW 0 rfl z_in (xWd ((o, .inl (cA 4, 1, .inr (.inl (vp_updL f 0 (((op_lot 12 (N, R, Fr, inc) p0).2.1).toInt64))))) :: c1 :: wr) cA (α) (L) (op_lot 12 (N, R, Fr, inc) p0).2.2) (by rw [z_cl]; rfl) dL_paidFor_8 (fun H locs hW => ?_)
    refine lv_goto (tgt := 15) hx hb dL_paidFor_9 (by decide) ?_
    refine lv_iconst (v := 0) hx hb dL_paidFor_15 (by decide) ?_
    exact k_iret (vp_updL f 0 (((op_lot 12 (N, R, Fr, inc) p0).2.1).toInt64), α, L) F hW ⟨by rw [hop]; rfl, rfl, hLk.same (n2_lot 12 N R Fr inc p0), fun _ => by show vp_updL f 0 _ 0 = _; exact pk_uLs⟩ dL_paidFor_16 (Nat.le_of_ble_eq_true rfl) (Nat.le_of_ble_eq_true rfl)
set_option maxHeartbeats 4000000 in
set_option maxRecDepth 100000 in
theorem met_L_addTruck (l : Launch) (D : va_G) (cA : Nat → ClassId) (wr : va_W) (α : Nat → Nat → Nat) (L : List (Nat × Nat)) (N : Nat → Nat → Nat) (R : Nat → Nat → Nat → Int32) (Fr : Nat → UInt32) (inc : Int64) (o : Nat) (f : Nat → Int64) (c1 : Nat × va_E) (n : Nat) (p0 p1 p2 : Int32) (z0 : Nat) (hl0 : l.stackTraces = false) (hLk : LOK N L) (hI : IV n (N, R, Fr, inc)) (hn : n ≤ 1000) (hz : p2 = 0 ∨ p2 = 1) : MetHI z0 l yL_addTruck (.codeWith yL_addTruck cL_addTruck 6 (some .int) [(0, 12, 15, 13), (0, 12, 19, 15)] :: LW) ({ frames := 7, cells := 2, slots := 10, locals := 114 }) D cA (xWd ((o, .inl (cA 4, 1, .inr (.inl f))) :: c1 :: wr) cA α L (N, R, Fr, inc)) [.ref (α 0 0), .int p0, .int p1, .int p2, .ref o] (fun r (u : (Nat → Int64) × (Nat → Nat → Nat) × List (Nat × Nat)) => r = nI (op_addTruck (N, R, Fr, inc) p0 p1 p2).1 ∧ u.2.1 0 0 = α 0 0 ∧ LOK (op_addTruck (N, R, Fr, inc) p0 p1 p2).2.2.1 u.2.2 ∧ ((op_addTruck (N, R, Fr, inc) p0 p1 p2).1 = 0 → u.1 0 = ((op_addTruck (N, R, Fr, inc) p0 p1 p2).2.1).toInt64)) (fun u => xWd ((o, .inl (cA 4, 1, .inr (.inl u.1))) :: c1 :: wr) cA u.2.1 u.2.2 (op_addTruck (N, R, Fr, inc) p0 p1 p2).2.2) 2 10 := by
  refine k_bodyH hl0 (by decide) (Nat.le_of_ble_eq_true rfl) (fun p e s m args below meth c ls F G hW hl => ?_)
  obtain ⟨hx, hb, hr, hml, hown, hts, hlocks, hname⟩ := id F
  have hl : lv_has ls 6 [(0, .ref (α 0 0)), (1, .int p0), (2, .int p1), (3, .int p2), (4, .ref o)] := hl
  have h : INV n N R Fr inc := hI.1
  refine lv_aload hx hb dL_addTruck_0 (lv_at hl 4 rfl) ?_
  refine lv_iconst (v := 0) hx hb dL_addTruck_2 (by decide) ?_
  refine lv_aload_n hx hb dL_addTruck_3 rfl (lv_at hl 0 rfl) ?_
  refine lv_iload_n hx hb dL_addTruck_4 rfl (lv_at hl 1 rfl) ?_
  refine lv_iload_n hx hb dL_addTruck_5 rfl (lv_at hl 2 rfl) ?_
  refine lv_iload_n hx hb dL_addTruck_6 rfl (lv_at hl 3 rfl) ?_
  obtain ⟨q, hq⟩ := xw_at (wr := (o, .inl (cA 4, 1, .inr (.inl f))) :: c1 :: wr) (cA := cA) (α := α) (L := L) (S := (N, R, Fr, inc)) 0 0 (hLk.o 0 (by decide))
  refine k_tryi (as := [.int p0, .int p1, .int p2]) (rest := [.int 0, .ref o]) (b := α 0 0) (ci := 6) (q0 := q) F G hW (met_X4_addTruck l D cA ((o, .inl (cA 4, 1, .inr (.inl f))) :: c1 :: wr) α L N R Fr inc p0 p1 p2 z0 hl0 hLk (iv_ic h) (iv_own h) (iv_tr h) (iv_t1 h _ (Nat.le_refl _)) (by have := iv_tm h; omega) hz) rfl ML_L_96 IM_X4_addTruck SE_X4_addTruck IN_X4 CO_X4_addTruck hdV_X4_addTruck rfl rfl ⟨(Nat.le_of_ble_eq_true rfl), (Nat.le_of_ble_eq_true rfl)⟩ rfl rfl hq rfl rfl dL_addTruck_7 hl.1 (Nat.le_of_ble_eq_true rfl) ⟨(Nat.le_of_ble_eq_true rfl), (Nat.le_of_ble_eq_true rfl)⟩ (fun E ce q9 H locs hp hW h1 h2 h3 => ?_) (fun r u H locs hw hW => ?_)
  · obtain ⟨hp0, hpE⟩ := hp
    obtain ⟨hk1, hk2⟩ := ce_addTruck N R Fr inc p0 p1 p2
    have hst := hk2 hp0
    rcases (show (op_addTruck (N, R, Fr, inc) p0 p1 p2).1 = 1 ∨ (op_addTruck (N, R, Fr, inc) p0 p1 p2).1 = 2 by omega) with e | e
    · rw [e] at hpE
      obtain rfl : E = "java/lang/IllegalArgumentException" := hpE
      refine k_catch (own := RL) (E := "java/lang/IllegalArgumentException") F G rfl [] ⟨0, 12, 15, 13⟩ [⟨0, 12, 19, 15⟩] rfl (fun _ h => nomatch h) (by decide) (by decide) CL_L_13 (List.mem_of_getElem? (i := 3) rfl) h1 h2 h3 ?_
      refine lv_astore (lv' := [(5, .ref q9), (0, .ref (α 0 0)), (1, .int p0), (2, .int p1), (3, .int p2), (4, .ref o)]) hx hb dL_addTruck_15 hl (by decide) rfl (fun ls hl => ?_)
      refine lv_iconst (v := 1) hx hb dL_addTruck_17 (by decide) ?_
      exact k_iret (f, α, L) F (hW.eq (congrArg (xWd ((o, .inl (cA 4, 1, .inr (.inl f))) :: c1 :: wr) cA α L) hst.symm)) ⟨by rw [e]; rfl, rfl, by rw [hst]; exact hLk, fun z => absurd z hp0⟩ dL_addTruck_18 (Nat.le_of_ble_eq_true rfl) (Nat.le_of_ble_eq_true rfl)
    · rw [e] at hpE
      obtain rfl : E = "java/lang/IllegalStateException" := hpE
      refine k_catch (own := RL) (E := "java/lang/IllegalStateException") F G rfl [⟨0, 12, 15, 13⟩] ⟨0, 12, 19, 15⟩ [] rfl (List.forall_mem_cons.mpr ⟨⟨by decide, "java/lang/IllegalArgumentException", CL_L_13, List.mem_of_getElem? (i := 4) rfl⟩, fun _ h => nomatch h⟩) (by decide) (by decide) CL_L_15 (List.mem_of_getElem? (i := 4) rfl) h1 h2 h3 ?_
      refine lv_astore (lv' := [(5, .ref q9), (0, .ref (α 0 0)), (1, .int p0), (2, .int p1), (3, .int p2), (4, .ref o)]) hx hb dL_addTruck_19 hl (by decide) rfl (fun ls hl => ?_)
      refine lv_iconst (v := 2) hx hb dL_addTruck_21 (by decide) ?_
      exact k_iret (f, α, L) F (hW.eq (congrArg (xWd ((o, .inl (cA 4, 1, .inr (.inl f))) :: c1 :: wr) cA α L) hst.symm)) ⟨by rw [e]; rfl, rfl, by rw [hst]; exact hLk, fun z => absurd z hp0⟩ dL_addTruck_22 (Nat.le_of_ble_eq_true rfl) (Nat.le_of_ble_eq_true rfl)
  · obtain ⟨hop, rfl⟩ := hw
    refine lv_i2l hx hb dL_addTruck_10 rfl ?_
    refine k_last F hW 0 rfl z_in (xWd ((o, .inl (cA 4, 1, .inr (.inl (vp_updL f 0 (((op_addTruck (N, R, Fr, inc) p0 p1 p2).2.1).toInt64))))) :: c1 :: wr) cA (alT α (N 0 3) u.1 u.2) (L ++ [(12, N 0 3), (13, N 0 3)]) (op_addTruck (N, R, Fr, inc) p0 p1 p2).2.2) (by rw [z_cl]; rfl) dL_addTruck_11 (fun H locs hW => ?_)
    refine lv_goto (tgt := 23) hx hb dL_addTruck_12 (by decide) ?_
    refine lv_iconst (v := 0) hx hb dL_addTruck_23 (by decide) ?_
    exact k_iret (vp_updL f 0 (((op_addTruck (N, R, Fr, inc) p0 p1 p2).2.1).toInt64), alT α (N 0 3) u.1 u.2, L ++ [(12, N 0 3), (13, N 0 3)]) F hW ⟨by rw [hop]; rfl, by simp [alT, upA], (lok_truck hLk (iv_ic h)).same (n2_addTruck N R Fr inc p0 p1 p2 hop), fun _ => by show vp_updL f 0 _ 0 = _; exact pk_uLs⟩ dL_addTruck_24 (Nat.le_of_ble_eq_true rfl) (Nat.le_of_ble_eq_true rfl)
set_option maxHeartbeats 4000000 in
set_option maxRecDepth 100000 in
theorem met_L_load (l : Launch) (D : va_G) (cA : Nat → ClassId) (wr : va_W) (α : Nat → Nat → Nat) (L : List (Nat × Nat)) (N : Nat → Nat → Nat) (R : Nat → Nat → Nat → Int32) (Fr : Nat → UInt32) (inc : Int64) (o : Nat) (f : Nat → Int64) (c1 : Nat × va_E) (n : Nat) (p0 p1 : Int32) (z0 : Nat) (hl0 : l.stackTraces = false) (hLk : LOK N L) (hI : IV n (N, R, Fr, inc)) (hn : n ≤ 1000) : MetHI z0 l yL_load (.codeWith yL_load cL_load 5 (some .int) [(0, 10, 13, 36), (0, 10, 17, 21), (0, 10, 21, 15), (0, 10, 25, 23)] :: LW) ({ frames := 8, cells := 3, slots := 18, locals := 135 }) D cA (xWd ((o, .inl (cA 4, 1, .inr (.inl f))) :: c1 :: wr) cA α L (N, R, Fr, inc)) [.ref (α 0 0), .int p0, .int p1, .ref o] (fun r (u : (Nat → Int64) × (Nat → Nat → Nat) × List (Nat × Nat)) => r = nI (op_load (N, R, Fr, inc) p0 p1).1 ∧ u.2.1 0 0 = α 0 0 ∧ LOK (op_load (N, R, Fr, inc) p0 p1).2.2.1 u.2.2 ∧ ((op_load (N, R, Fr, inc) p0 p1).1 = 0 → u.1 0 = ((op_load (N, R, Fr, inc) p0 p1).2.1).toInt64)) (fun u => xWd ((o, .inl (cA 4, 1, .inr (.inl u.1))) :: c1 :: wr) cA u.2.1 u.2.2 (op_load (N, R, Fr, inc) p0 p1).2.2) 3 18 := by
  refine k_bodyH hl0 (by decide) (Nat.le_of_ble_eq_true rfl) (fun p e s m args below meth c ls F G hW hl => ?_)
  obtain ⟨hx, hb, hr, hml, hown, hts, hlocks, hname⟩ := id F
  have hl : lv_has ls 5 [(0, .ref (α 0 0)), (1, .int p0), (2, .int p1), (3, .ref o)] := hl
  have h : INV n N R Fr inc := hI.1
  refine lv_aload_n hx hb dL_load_0 rfl (lv_at hl 3 rfl) ?_
  refine lv_iconst (v := 0) hx hb dL_load_1 (by decide) ?_
  refine lv_aload_n hx hb dL_load_2 rfl (lv_at hl 0 rfl) ?_
  refine lv_iload_n hx hb dL_load_3 rfl (lv_at hl 1 rfl) ?_
  refine lv_iload_n hx hb dL_load_4 rfl (lv_at hl 2 rfl) ?_
  obtain ⟨q, hq⟩ := xw_at (wr := (o, .inl (cA 4, 1, .inr (.inl f))) :: c1 :: wr) (cA := cA) (α := α) (L := L) (S := (N, R, Fr, inc)) 0 0 (hLk.o 0 (by decide))
  refine k_tryi (as := [.int p0, .int p1]) (rest := [.int 0, .ref o]) (b := α 0 0) (ci := 6) (q0 := q) F G hW (met_X4_load l D cA ((o, .inl (cA 4, 1, .inr (.inl f))) :: c1 :: wr) α L N R Fr inc p0 p1 z0 hl0 hLk (iv_ic h)) rfl ML_L_100 IM_X4_load SE_X4_load IN_X4 CO_X4_load hdV_X4_load rfl rfl ⟨(Nat.le_of_ble_eq_true rfl), (Nat.le_of_ble_eq_true rfl)⟩ rfl rfl hq rfl rfl dL_load_5 hl.1 (Nat.le_of_ble_eq_true rfl) ⟨(Nat.le_of_ble_eq_true rfl), (Nat.le_of_ble_eq_true rfl)⟩ (fun E ce q9 H locs hp hW h1 h2 h3 => ?_) (fun r u H locs hw hW => ?_)
  · obtain ⟨hp0, hpE⟩ := hp
    obtain ⟨hk1, hk2⟩ := ce_load N R Fr inc p0 p1
    have hst := hk2 hp0
    rcases (show (op_load (N, R, Fr, inc) p0 p1).1 = 1 ∨ (op_load (N, R, Fr, inc) p0 p1).1 = 2 ∨ (op_load (N, R, Fr, inc) p0 p1).1 = 3 ∨ (op_load (N, R, Fr, inc) p0 p1).1 = 4 by omega) with e | e | e | e
    · rw [e] at hpE
      obtain rfl : E = "java/util/NoSuchElementException" := hpE
      refine k_catch (own := RL) (E := "java/util/NoSuchElementException") F G rfl [] ⟨0, 10, 13, 36⟩ [⟨0, 10, 17, 21⟩, ⟨0, 10, 21, 15⟩, ⟨0, 10, 25, 23⟩] rfl (fun _ h => nomatch h) (by decide) (by decide) CL_L_36 (List.mem_of_getElem? (i := 6) rfl) h1 h2 h3 ?_
      refine lv_astore (lv' := [(4, .ref q9), (0, .ref (α 0 0)), (1, .int p0), (2, .int p1), (3, .ref o)]) hx hb dL_load_13 hl (by decide) rfl (fun ls hl => ?_)
      refine lv_iconst (v := 1) hx hb dL_load_15 (by decide) ?_
      exact k_iret (f, α, L) F (hW.eq (congrArg (xWd ((o, .inl (cA 4, 1, .inr (.inl f))) :: c1 :: wr) cA α L) hst.symm)) ⟨by rw [e]; rfl, rfl, by rw [hst]; exact hLk, fun z => absurd z hp0⟩ dL_load_16 (Nat.le_of_ble_eq_true rfl) (Nat.le_of_ble_eq_true rfl)
    · rw [e] at hpE
      obtain rfl : E = "java/lang/IndexOutOfBoundsException" := hpE
      refine k_catch (own := RL) (E := "java/lang/IndexOutOfBoundsException") F G rfl [⟨0, 10, 13, 36⟩] ⟨0, 10, 17, 21⟩ [⟨0, 10, 21, 15⟩, ⟨0, 10, 25, 23⟩] rfl (List.forall_mem_cons.mpr ⟨⟨by decide, "java/util/NoSuchElementException", CL_L_36, List.mem_of_getElem? (i := 11) rfl⟩, fun _ h => nomatch h⟩) (by decide) (by decide) CL_L_21 (List.mem_of_getElem? (i := 8) rfl) h1 h2 h3 ?_
      refine lv_astore (lv' := [(4, .ref q9), (0, .ref (α 0 0)), (1, .int p0), (2, .int p1), (3, .ref o)]) hx hb dL_load_17 hl (by decide) rfl (fun ls hl => ?_)
      refine lv_iconst (v := 2) hx hb dL_load_19 (by decide) ?_
      exact k_iret (f, α, L) F (hW.eq (congrArg (xWd ((o, .inl (cA 4, 1, .inr (.inl f))) :: c1 :: wr) cA α L) hst.symm)) ⟨by rw [e]; rfl, rfl, by rw [hst]; exact hLk, fun z => absurd z hp0⟩ dL_load_20 (Nat.le_of_ble_eq_true rfl) (Nat.le_of_ble_eq_true rfl)
    · rw [e] at hpE
      obtain rfl : E = "java/lang/IllegalStateException" := hpE
      refine k_catch (own := RL) (E := "java/lang/IllegalStateException") F G rfl [⟨0, 10, 13, 36⟩, ⟨0, 10, 17, 21⟩] ⟨0, 10, 21, 15⟩ [⟨0, 10, 25, 23⟩] rfl (List.forall_mem_cons.mpr ⟨⟨by decide, "java/util/NoSuchElementException", CL_L_36, List.mem_of_getElem? (i := 7) rfl⟩, List.forall_mem_cons.mpr ⟨⟨by decide, "java/lang/IndexOutOfBoundsException", CL_L_21, List.mem_of_getElem? (i := 5) rfl⟩, fun _ h => nomatch h⟩⟩) (by decide) (by decide) CL_L_15 (List.mem_of_getElem? (i := 4) rfl) h1 h2 h3 ?_
      refine lv_astore (lv' := [(4, .ref q9), (0, .ref (α 0 0)), (1, .int p0), (2, .int p1), (3, .ref o)]) hx hb dL_load_21 hl (by decide) rfl (fun ls hl => ?_)
      refine lv_iconst (v := 3) hx hb dL_load_23 (by decide) ?_
      exact k_iret (f, α, L) F (hW.eq (congrArg (xWd ((o, .inl (cA 4, 1, .inr (.inl f))) :: c1 :: wr) cA α L) hst.symm)) ⟨by rw [e]; rfl, rfl, by rw [hst]; exact hLk, fun z => absurd z hp0⟩ dL_load_24 (Nat.le_of_ble_eq_true rfl) (Nat.le_of_ble_eq_true rfl)
    · rw [e] at hpE
      obtain rfl : E = "java/lang/UnsupportedOperationException" := hpE
      refine k_catch (own := RL) (E := "java/lang/UnsupportedOperationException") F G rfl [⟨0, 10, 13, 36⟩, ⟨0, 10, 17, 21⟩, ⟨0, 10, 21, 15⟩] ⟨0, 10, 25, 23⟩ [] rfl (List.forall_mem_cons.mpr ⟨⟨by decide, "java/util/NoSuchElementException", CL_L_36, List.mem_of_getElem? (i := 15) rfl⟩, List.forall_mem_cons.mpr ⟨⟨by decide, "java/lang/IndexOutOfBoundsException", CL_L_21, List.mem_of_getElem? (i := 14) rfl⟩, List.forall_mem_cons.mpr ⟨⟨by decide, "java/lang/IllegalStateException", CL_L_15, List.mem_of_getElem? (i := 13) rfl⟩, fun _ h => nomatch h⟩⟩⟩) (by decide) (by decide) CL_L_23 (List.mem_of_getElem? (i := 5) rfl) h1 h2 h3 ?_
      refine lv_astore (lv' := [(4, .ref q9), (0, .ref (α 0 0)), (1, .int p0), (2, .int p1), (3, .ref o)]) hx hb dL_load_25 hl (by decide) rfl (fun ls hl => ?_)
      refine lv_iconst (v := 4) hx hb dL_load_27 (by decide) ?_
      exact k_iret (f, α, L) F (hW.eq (congrArg (xWd ((o, .inl (cA 4, 1, .inr (.inl f))) :: c1 :: wr) cA α L) hst.symm)) ⟨by rw [e]; rfl, rfl, by rw [hst]; exact hLk, fun z => absurd z hp0⟩ dL_load_28 (Nat.le_of_ble_eq_true rfl) (Nat.le_of_ble_eq_true rfl)
  · obtain ⟨hop, rfl⟩ := hw
    refine lv_i2l hx hb dL_load_8 rfl ?_
    refine k_last F hW 0 rfl z_in (xWd ((o, .inl (cA 4, 1, .inr (.inl (vp_updL f 0 (((op_load (N, R, Fr, inc) p0 p1).2.1).toInt64))))) :: c1 :: wr) cA (α) (L) (op_load (N, R, Fr, inc) p0 p1).2.2) (by rw [z_cl]; rfl) dL_load_9 (fun H locs hW => ?_)
    refine lv_goto (tgt := 29) hx hb dL_load_10 (by decide) ?_
    refine lv_iconst (v := 0) hx hb dL_load_29 (by decide) ?_
    exact k_iret (vp_updL f 0 (((op_load (N, R, Fr, inc) p0 p1).2.1).toInt64), α, L) F hW ⟨by rw [hop]; rfl, rfl, hLk.same (n2_load N R Fr inc p0 p1), fun _ => by show vp_updL f 0 _ 0 = _; exact pk_uLs⟩ dL_load_30 (Nat.le_of_ble_eq_true rfl) (Nat.le_of_ble_eq_true rfl)
set_option maxHeartbeats 4000000 in
set_option maxRecDepth 100000 in
theorem met_L_lotOn (l : Launch) (D : va_G) (cA : Nat → ClassId) (wr : va_W) (α : Nat → Nat → Nat) (L : List (Nat × Nat)) (N : Nat → Nat → Nat) (R : Nat → Nat → Nat → Int32) (Fr : Nat → UInt32) (inc : Int64) (o : Nat) (f : Nat → Int64) (c1 : Nat × va_E) (n : Nat) (p0 p1 : Int32) (z0 : Nat) (hl0 : l.stackTraces = false) (hLk : LOK N L) (hI : IV n (N, R, Fr, inc)) (hn : n ≤ 1000) : MetHI z0 l yL_lotOn (.codeWith yL_lotOn cL_lotOn 5 (some .int) [(0, 10, 13, 21), (0, 10, 17, 36)] :: LW) ({ frames := 8, cells := 2, slots := 12, locals := 134 }) D cA (xWd ((o, .inl (cA 4, 1, .inr (.inl f))) :: c1 :: wr) cA α L (N, R, Fr, inc)) [.ref (α 0 0), .int p0, .int p1, .ref o] (fun r (u : (Nat → Int64) × (Nat → Nat → Nat) × List (Nat × Nat)) => r = nI (op_lotOn (N, R, Fr, inc) p0 p1).1 ∧ u.2.1 0 0 = α 0 0 ∧ LOK (op_lotOn (N, R, Fr, inc) p0 p1).2.2.1 u.2.2 ∧ ((op_lotOn (N, R, Fr, inc) p0 p1).1 = 0 → u.1 0 = ((op_lotOn (N, R, Fr, inc) p0 p1).2.1).toInt64)) (fun u => xWd ((o, .inl (cA 4, 1, .inr (.inl u.1))) :: c1 :: wr) cA u.2.1 u.2.2 (op_lotOn (N, R, Fr, inc) p0 p1).2.2) 2 12 := by
  refine k_bodyH hl0 (by decide) (Nat.le_of_ble_eq_true rfl) (fun p e s m args below meth c ls F G hW hl => ?_)
  obtain ⟨hx, hb, hr, hml, hown, hts, hlocks, hname⟩ := id F
  have hl : lv_has ls 5 [(0, .ref (α 0 0)), (1, .int p0), (2, .int p1), (3, .ref o)] := hl
  have h : INV n N R Fr inc := hI.1
  refine lv_aload_n hx hb dL_lotOn_0 rfl (lv_at hl 3 rfl) ?_
  refine lv_iconst (v := 0) hx hb dL_lotOn_1 (by decide) ?_
  refine lv_aload_n hx hb dL_lotOn_2 rfl (lv_at hl 0 rfl) ?_
  refine lv_iload_n hx hb dL_lotOn_3 rfl (lv_at hl 1 rfl) ?_
  refine lv_iload_n hx hb dL_lotOn_4 rfl (lv_at hl 2 rfl) ?_
  obtain ⟨q, hq⟩ := xw_at (wr := (o, .inl (cA 4, 1, .inr (.inl f))) :: c1 :: wr) (cA := cA) (α := α) (L := L) (S := (N, R, Fr, inc)) 0 0 (hLk.o 0 (by decide))
  refine k_tryi (as := [.int p0, .int p1]) (rest := [.int 0, .ref o]) (b := α 0 0) (ci := 6) (q0 := q) F G hW (met_X4_lotOn l D cA ((o, .inl (cA 4, 1, .inr (.inl f))) :: c1 :: wr) α L N R Fr inc p0 p1 z0 hl0 hLk (iv_ic h) (iv_tr h)) rfl ML_L_103 IM_X4_lotOn SE_X4_lotOn IN_X4 CO_X4_lotOn hdV_X4_lotOn rfl rfl ⟨(Nat.le_of_ble_eq_true rfl), (Nat.le_of_ble_eq_true rfl)⟩ rfl rfl hq rfl rfl dL_lotOn_5 hl.1 (Nat.le_of_ble_eq_true rfl) ⟨(Nat.le_of_ble_eq_true rfl), (Nat.le_of_ble_eq_true rfl)⟩ (fun E ce q9 H locs hp hW h1 h2 h3 => ?_) (fun r u H locs hw hW => ?_)
  · obtain ⟨hp0, hpE⟩ := hp
    obtain ⟨hk1, hk2⟩ := ce_lotOn N R Fr inc p0 p1
    have hst := hk2 hp0
    rcases (show (op_lotOn (N, R, Fr, inc) p0 p1).1 = 1 ∨ (op_lotOn (N, R, Fr, inc) p0 p1).1 = 2 by omega) with e | e
    · rw [e] at hpE
      obtain rfl : E = "java/lang/IndexOutOfBoundsException" := hpE
      refine k_catch (own := RL) (E := "java/lang/IndexOutOfBoundsException") F G rfl [] ⟨0, 10, 13, 21⟩ [⟨0, 10, 17, 36⟩] rfl (fun _ h => nomatch h) (by decide) (by decide) CL_L_21 (List.mem_of_getElem? (i := 8) rfl) h1 h2 h3 ?_
      refine lv_astore (lv' := [(4, .ref q9), (0, .ref (α 0 0)), (1, .int p0), (2, .int p1), (3, .ref o)]) hx hb dL_lotOn_13 hl (by decide) rfl (fun ls hl => ?_)
      refine lv_iconst (v := 1) hx hb dL_lotOn_15 (by decide) ?_
      exact k_iret (f, α, L) F (hW.eq (congrArg (xWd ((o, .inl (cA 4, 1, .inr (.inl f))) :: c1 :: wr) cA α L) hst.symm)) ⟨by rw [e]; rfl, rfl, by rw [hst]; exact hLk, fun z => absurd z hp0⟩ dL_lotOn_16 (Nat.le_of_ble_eq_true rfl) (Nat.le_of_ble_eq_true rfl)
    · rw [e] at hpE
      obtain rfl : E = "java/util/NoSuchElementException" := hpE
      refine k_catch (own := RL) (E := "java/util/NoSuchElementException") F G rfl [⟨0, 10, 13, 21⟩] ⟨0, 10, 17, 36⟩ [] rfl (List.forall_mem_cons.mpr ⟨⟨by decide, "java/lang/IndexOutOfBoundsException", CL_L_21, List.mem_of_getElem? (i := 18) rfl⟩, fun _ h => nomatch h⟩) (by decide) (by decide) CL_L_36 (List.mem_of_getElem? (i := 6) rfl) h1 h2 h3 ?_
      refine lv_astore (lv' := [(4, .ref q9), (0, .ref (α 0 0)), (1, .int p0), (2, .int p1), (3, .ref o)]) hx hb dL_lotOn_17 hl (by decide) rfl (fun ls hl => ?_)
      refine lv_iconst (v := 2) hx hb dL_lotOn_19 (by decide) ?_
      exact k_iret (f, α, L) F (hW.eq (congrArg (xWd ((o, .inl (cA 4, 1, .inr (.inl f))) :: c1 :: wr) cA α L) hst.symm)) ⟨by rw [e]; rfl, rfl, by rw [hst]; exact hLk, fun z => absurd z hp0⟩ dL_lotOn_20 (Nat.le_of_ble_eq_true rfl) (Nat.le_of_ble_eq_true rfl)
  · obtain ⟨hop, rfl⟩ := hw
    refine lv_i2l hx hb dL_lotOn_8 rfl ?_
    refine k_last F hW 0 rfl z_in (xWd ((o, .inl (cA 4, 1, .inr (.inl (vp_updL f 0 (((op_lotOn (N, R, Fr, inc) p0 p1).2.1).toInt64))))) :: c1 :: wr) cA (α) (L) (op_lotOn (N, R, Fr, inc) p0 p1).2.2) (by rw [z_cl]; rfl) dL_lotOn_9 (fun H locs hW => ?_)
    refine lv_goto (tgt := 21) hx hb dL_lotOn_10 (by decide) ?_
    refine lv_iconst (v := 0) hx hb dL_lotOn_21 (by decide) ?_
    exact k_iret (vp_updL f 0 (((op_lotOn (N, R, Fr, inc) p0 p1).2.1).toInt64), α, L) F hW ⟨by rw [hop]; rfl, rfl, hLk.same (n2_lotOn N R Fr inc p0 p1), fun _ => by show vp_updL f 0 _ 0 = _; exact pk_uLs⟩ dL_lotOn_22 (Nat.le_of_ble_eq_true rfl) (Nat.le_of_ble_eq_true rfl)
set_option maxHeartbeats 4000000 in
set_option maxRecDepth 100000 in
theorem met_L_soldShare (l : Launch) (D : va_G) (cA : Nat → ClassId) (wr : va_W) (α : Nat → Nat → Nat) (L : List (Nat × Nat)) (N : Nat → Nat → Nat) (R : Nat → Nat → Nat → Int32) (Fr : Nat → UInt32) (inc : Int64) (o : Nat) (f : Nat → UInt64) (c1 : Nat × va_E) (n : Nat) (z0 : Nat) (hl0 : l.stackTraces = false) (hLk : LOK N L) (hI : IV n (N, R, Fr, inc)) (hn : n ≤ 1000) : MetHI z0 l yL_soldShare (.codeWith yL_soldShare cL_soldShare 3 (some .int) [(0, 8, 11, 110)] :: LW) ({ frames := 7, cells := 1, slots := 6, locals := 111 }) D cA (xWd (c1 :: (o, .inl (cA 5, 1, .inr (.inr (.inr (.inl f))))) :: wr) cA α L (N, R, Fr, inc)) [.ref (α 0 0), .ref o] (fun r (u : (Nat → UInt64) × (Nat → Nat → Nat) × List (Nat × Nat)) => r = nI (op_soldShare (N, R, Fr, inc)).1 ∧ u.2.1 0 0 = α 0 0 ∧ LOK (op_soldShare (N, R, Fr, inc)).2.2.1 u.2.2 ∧ ((op_soldShare (N, R, Fr, inc)).1 = 0 → u.1 0 = FP.f2d (op_soldShare (N, R, Fr, inc)).2.1)) (fun u => xWd (c1 :: (o, .inl (cA 5, 1, .inr (.inr (.inr (.inl u.1))))) :: wr) cA u.2.1 u.2.2 (op_soldShare (N, R, Fr, inc)).2.2) 1 6 := by
  refine k_bodyH hl0 (by decide) (Nat.le_of_ble_eq_true rfl) (fun p e s m args below meth c ls F G hW hl => ?_)
  obtain ⟨hx, hb, hr, hml, hown, hts, hlocks, hname⟩ := id F
  have hl : lv_has ls 3 [(0, .ref (α 0 0)), (1, .ref o)] := hl
  have h : INV n N R Fr inc := hI.1
  refine lv_aload_n hx hb dL_soldShare_0 rfl (lv_at hl 1 rfl) ?_
  refine lv_iconst (v := 0) hx hb dL_soldShare_1 (by decide) ?_
  refine lv_aload_n hx hb dL_soldShare_2 rfl (lv_at hl 0 rfl) ?_
  obtain ⟨q, hq⟩ := xw_at (wr := c1 :: (o, .inl (cA 5, 1, .inr (.inr (.inr (.inl f))))) :: wr) (cA := cA) (α := α) (L := L) (S := (N, R, Fr, inc)) 0 0 (hLk.o 0 (by decide))
  refine k_tryf (as := []) (rest := [.int 0, .ref o]) (b := α 0 0) (ci := 6) (q0 := q) F G hW (met_X4_soldShare l D cA (c1 :: (o, .inl (cA 5, 1, .inr (.inr (.inr (.inl f))))) :: wr) α L N R Fr inc z0 hl0 hLk (iv_ic h) (iv_lot h)) rfl ML_L_106 IM_X4_soldShare SE_X4_soldShare IN_X4 CO_X4_soldShare hdV_X4_soldShare rfl rfl ⟨(Nat.le_of_ble_eq_true rfl), (Nat.le_of_ble_eq_true rfl)⟩ rfl rfl hq rfl rfl dL_soldShare_3 hl.1 (Nat.le_of_ble_eq_true rfl) ⟨(Nat.le_of_ble_eq_true rfl), (Nat.le_of_ble_eq_true rfl)⟩ (fun E ce q9 H locs hp hW h1 h2 h3 => ?_) (fun r u H locs hw hW => ?_)
  · obtain ⟨hp0, hpE⟩ := hp
    obtain ⟨hk1, hk2⟩ := ce_soldShare N R Fr inc
    have hst := hk2 hp0
    have e : (op_soldShare (N, R, Fr, inc)).1 = 1 := by omega
    rw [e] at hpE
    obtain rfl : E = "java/lang/ArithmeticException" := hpE
    refine k_catch (own := RL) (E := "java/lang/ArithmeticException") F G rfl [] ⟨0, 8, 11, 110⟩ [] rfl (fun _ h => nomatch h) (by decide) (by decide) CL_L_110 (List.mem_of_getElem? (i := 7) rfl) h1 h2 h3 ?_
    refine lv_astore_n (lv' := [(2, .ref q9), (0, .ref (α 0 0)), (1, .ref o)]) hx hb dL_soldShare_11 rfl hl (by decide) rfl (fun ls hl => ?_)
    refine lv_iconst (v := 1) hx hb dL_soldShare_12 (by decide) ?_
    exact k_iret (f, α, L) F (hW.eq (congrArg (xWd (c1 :: (o, .inl (cA 5, 1, .inr (.inr (.inr (.inl f))))) :: wr) cA α L) hst.symm)) ⟨by rw [e]; rfl, rfl, by rw [hst]; exact hLk, fun z => absurd z hp0⟩ dL_soldShare_13 (Nat.le_of_ble_eq_true rfl) (Nat.le_of_ble_eq_true rfl)
  · obtain ⟨hop, rfl⟩ := hw
    have hno : FP.Core.fIsNaN (op_soldShare (N, R, Fr, inc)).2.1 = false := no_share h hop
    refine lv_f2d hx hb dL_soldShare_6 (nn_f2d hno) ?_
    refine k_dast F hW 1 rfl z_in (xWd (c1 :: (o, .inl (cA 5, 1, .inr (.inr (.inr (.inl (vf_upd f 0 (FP.f2d (op_soldShare (N, R, Fr, inc)).2.1))))))) :: wr) cA (α) (L) (op_soldShare (N, R, Fr, inc)).2.2) (by rw [z_cl]; rfl) dL_soldShare_7 (fun H locs hW => ?_)
    refine lv_goto (tgt := 14) hx hb dL_soldShare_8 (by decide) ?_
    refine lv_iconst (v := 0) hx hb dL_soldShare_14 (by decide) ?_
    exact k_iret (vf_upd f 0 (FP.f2d (op_soldShare (N, R, Fr, inc)).2.1), α, L) F hW ⟨by rw [hop]; rfl, rfl, hLk.same (n2_soldShare N R Fr inc), fun _ => by show vf_upd f 0 _ 0 = _; exact if_pos rfl⟩ dL_soldShare_15 (Nat.le_of_ble_eq_true rfl) (Nat.le_of_ble_eq_true rfl)
set_option maxHeartbeats 4000000 in
set_option maxRecDepth 100000 in
theorem met_L_meanPrice (l : Launch) (D : va_G) (cA : Nat → ClassId) (wr : va_W) (α : Nat → Nat → Nat) (L : List (Nat × Nat)) (N : Nat → Nat → Nat) (R : Nat → Nat → Nat → Int32) (Fr : Nat → UInt32) (inc : Int64) (o : Nat) (f : Nat → UInt64) (c1 : Nat × va_E) (n : Nat) (z0 : Nat) (hl0 : l.stackTraces = false) (hLk : LOK N L) (hI : IV n (N, R, Fr, inc)) (hn : n ≤ 1000) : MetHI z0 l yL_meanPrice (.codeWith yL_meanPrice cL_meanPrice 3 (some .int) [(0, 7, 10, 110)] :: LW) ({ frames := 8, cells := 1, slots := 6, locals := 131 }) D cA (xWd (c1 :: (o, .inl (cA 5, 1, .inr (.inr (.inr (.inl f))))) :: wr) cA α L (N, R, Fr, inc)) [.ref (α 0 0), .ref o] (fun r (u : (Nat → UInt64) × (Nat → Nat → Nat) × List (Nat × Nat)) => r = nI (op_meanPrice (N, R, Fr, inc)).1 ∧ u.2.1 0 0 = α 0 0 ∧ LOK (op_meanPrice (N, R, Fr, inc)).2.2.1 u.2.2 ∧ ((op_meanPrice (N, R, Fr, inc)).1 = 0 → u.1 0 = (op_meanPrice (N, R, Fr, inc)).2.1)) (fun u => xWd (c1 :: (o, .inl (cA 5, 1, .inr (.inr (.inr (.inl u.1))))) :: wr) cA u.2.1 u.2.2 (op_meanPrice (N, R, Fr, inc)).2.2) 1 6 := by
  refine k_bodyH hl0 (by decide) (Nat.le_of_ble_eq_true rfl) (fun p e s m args below meth c ls F G hW hl => ?_)
  obtain ⟨hx, hb, hr, hml, hown, hts, hlocks, hname⟩ := id F
  have hl : lv_has ls 3 [(0, .ref (α 0 0)), (1, .ref o)] := hl
  have h : INV n N R Fr inc := hI.1
  refine lv_aload_n hx hb dL_meanPrice_0 rfl (lv_at hl 1 rfl) ?_
  refine lv_iconst (v := 0) hx hb dL_meanPrice_1 (by decide) ?_
  refine lv_aload_n hx hb dL_meanPrice_2 rfl (lv_at hl 0 rfl) ?_
  obtain ⟨q, hq⟩ := xw_at (wr := c1 :: (o, .inl (cA 5, 1, .inr (.inr (.inr (.inl f))))) :: wr) (cA := cA) (α := α) (L := L) (S := (N, R, Fr, inc)) 0 0 (hLk.o 0 (by decide))
  refine k_tryd (as := []) (rest := [.int 0, .ref o]) (b := α 0 0) (ci := 6) (q0 := q) F G hW (met_X4_meanPrice l D cA (c1 :: (o, .inl (cA 5, 1, .inr (.inr (.inr (.inl f))))) :: wr) α L N R Fr inc z0 hl0 hLk (iv_ic h)) rfl ML_L_112 IM_X4_meanPrice SE_X4_meanPrice IN_X4 CO_X4_meanPrice hdV_X4_meanPrice rfl rfl ⟨(Nat.le_of_ble_eq_true rfl), (Nat.le_of_ble_eq_true rfl)⟩ rfl rfl hq rfl rfl dL_meanPrice_3 hl.1 (Nat.le_of_ble_eq_true rfl) ⟨(Nat.le_of_ble_eq_true rfl), (Nat.le_of_ble_eq_true rfl)⟩ (fun E ce q9 H locs hp hW h1 h2 h3 => ?_) (fun r u H locs hw hW => ?_)
  · obtain ⟨hp0, hpE⟩ := hp
    obtain ⟨hk1, hk2⟩ := ce_meanPrice N R Fr inc
    have hst := hk2 hp0
    have e : (op_meanPrice (N, R, Fr, inc)).1 = 1 := by omega
    rw [e] at hpE
    obtain rfl : E = "java/lang/ArithmeticException" := hpE
    refine k_catch (own := RL) (E := "java/lang/ArithmeticException") F G rfl [] ⟨0, 7, 10, 110⟩ [] rfl (fun _ h => nomatch h) (by decide) (by decide) CL_L_110 (List.mem_of_getElem? (i := 7) rfl) h1 h2 h3 ?_
    refine lv_astore_n (lv' := [(2, .ref q9), (0, .ref (α 0 0)), (1, .ref o)]) hx hb dL_meanPrice_10 rfl hl (by decide) rfl (fun ls hl => ?_)
    refine lv_iconst (v := 1) hx hb dL_meanPrice_11 (by decide) ?_
    exact k_iret (f, α, L) F (hW.eq (congrArg (xWd (c1 :: (o, .inl (cA 5, 1, .inr (.inr (.inr (.inl f))))) :: wr) cA α L) hst.symm)) ⟨by rw [e]; rfl, rfl, by rw [hst]; exact hLk, fun z => absurd z hp0⟩ dL_meanPrice_12 (Nat.le_of_ble_eq_true rfl) (Nat.le_of_ble_eq_true rfl)
  · obtain ⟨hop, rfl⟩ := hw
    refine k_dast F hW 1 rfl z_in (xWd (c1 :: (o, .inl (cA 5, 1, .inr (.inr (.inr (.inl (vf_upd f 0 ((op_meanPrice (N, R, Fr, inc)).2.1))))))) :: wr) cA (α) (L) (op_meanPrice (N, R, Fr, inc)).2.2) (by rw [z_cl]; rfl) dL_meanPrice_6 (fun H locs hW => ?_)
    refine lv_goto (tgt := 13) hx hb dL_meanPrice_7 (by decide) ?_
    refine lv_iconst (v := 0) hx hb dL_meanPrice_13 (by decide) ?_
    exact k_iret (vf_upd f 0 ((op_meanPrice (N, R, Fr, inc)).2.1), α, L) F hW ⟨by rw [hop]; rfl, rfl, hLk.same (n2_meanPrice N R Fr inc), fun _ => by show vf_upd f 0 _ 0 = _; exact if_pos rfl⟩ dL_meanPrice_14 (Nat.le_of_ble_eq_true rfl) (Nat.le_of_ble_eq_true rfl)
set_option maxHeartbeats 4000000 in
set_option maxRecDepth 100000 in
theorem met_L_meanBits (l : Launch) (D : va_G) (cA : Nat → ClassId) (wr : va_W) (α : Nat → Nat → Nat) (L : List (Nat × Nat)) (N : Nat → Nat → Nat) (R : Nat → Nat → Nat → Int32) (Fr : Nat → UInt32) (inc : Int64) (o : Nat) (f : Nat → Int64) (c1 : Nat × va_E) (n : Nat) (z0 : Nat) (hl0 : l.stackTraces = false) (hLk : LOK N L) (hI : IV n (N, R, Fr, inc)) (hn : n ≤ 1000) : MetHI z0 l yL_meanBits (.codeWith yL_meanBits cL_meanBits 3 (some .int) [(0, 7, 10, 110)] :: LW) ({ frames := 8, cells := 1, slots := 6, locals := 131 }) D cA (xWd ((o, .inl (cA 4, 1, .inr (.inl f))) :: c1 :: wr) cA α L (N, R, Fr, inc)) [.ref (α 0 0), .ref o] (fun r (u : (Nat → Int64) × (Nat → Nat → Nat) × List (Nat × Nat)) => r = nI (op_meanBits (N, R, Fr, inc)).1 ∧ u.2.1 0 0 = α 0 0 ∧ LOK (op_meanBits (N, R, Fr, inc)).2.2.1 u.2.2 ∧ ((op_meanBits (N, R, Fr, inc)).1 = 0 → u.1 0 = (op_meanBits (N, R, Fr, inc)).2.1)) (fun u => xWd ((o, .inl (cA 4, 1, .inr (.inl u.1))) :: c1 :: wr) cA u.2.1 u.2.2 (op_meanBits (N, R, Fr, inc)).2.2) 1 6 := by
  refine k_bodyH hl0 (by decide) (Nat.le_of_ble_eq_true rfl) (fun p e s m args below meth c ls F G hW hl => ?_)
  obtain ⟨hx, hb, hr, hml, hown, hts, hlocks, hname⟩ := id F
  have hl : lv_has ls 3 [(0, .ref (α 0 0)), (1, .ref o)] := hl
  have h : INV n N R Fr inc := hI.1
  refine lv_aload_n hx hb dL_meanBits_0 rfl (lv_at hl 1 rfl) ?_
  refine lv_iconst (v := 0) hx hb dL_meanBits_1 (by decide) ?_
  refine lv_aload_n hx hb dL_meanBits_2 rfl (lv_at hl 0 rfl) ?_
  obtain ⟨q, hq⟩ := xw_at (wr := (o, .inl (cA 4, 1, .inr (.inl f))) :: c1 :: wr) (cA := cA) (α := α) (L := L) (S := (N, R, Fr, inc)) 0 0 (hLk.o 0 (by decide))
  refine k_tryl (as := []) (rest := [.int 0, .ref o]) (b := α 0 0) (ci := 6) (q0 := q) F G hW (met_X4_meanBits l D cA ((o, .inl (cA 4, 1, .inr (.inl f))) :: c1 :: wr) α L N R Fr inc z0 hl0 hLk (iv_ic h) (iv_mb h)) rfl ML_L_116 IM_X4_meanBits SE_X4_meanBits IN_X4 CO_X4_meanBits hdV_X4_meanBits rfl rfl ⟨(Nat.le_of_ble_eq_true rfl), (Nat.le_of_ble_eq_true rfl)⟩ rfl rfl hq rfl rfl dL_meanBits_3 hl.1 (Nat.le_of_ble_eq_true rfl) ⟨(Nat.le_of_ble_eq_true rfl), (Nat.le_of_ble_eq_true rfl)⟩ (fun E ce q9 H locs hp hW h1 h2 h3 => ?_) (fun r u H locs hw hW => ?_)
  · obtain ⟨hp0, hpE⟩ := hp
    obtain ⟨hk1, hk2⟩ := ce_meanBits N R Fr inc
    have hst := hk2 hp0
    have e : (op_meanBits (N, R, Fr, inc)).1 = 1 := by omega
    rw [e] at hpE
    obtain rfl : E = "java/lang/ArithmeticException" := hpE
    refine k_catch (own := RL) (E := "java/lang/ArithmeticException") F G rfl [] ⟨0, 7, 10, 110⟩ [] rfl (fun _ h => nomatch h) (by decide) (by decide) CL_L_110 (List.mem_of_getElem? (i := 7) rfl) h1 h2 h3 ?_
    refine lv_astore_n (lv' := [(2, .ref q9), (0, .ref (α 0 0)), (1, .ref o)]) hx hb dL_meanBits_10 rfl hl (by decide) rfl (fun ls hl => ?_)
    refine lv_iconst (v := 1) hx hb dL_meanBits_11 (by decide) ?_
    exact k_iret (f, α, L) F (hW.eq (congrArg (xWd ((o, .inl (cA 4, 1, .inr (.inl f))) :: c1 :: wr) cA α L) hst.symm)) ⟨by rw [e]; rfl, rfl, by rw [hst]; exact hLk, fun z => absurd z hp0⟩ dL_meanBits_12 (Nat.le_of_ble_eq_true rfl) (Nat.le_of_ble_eq_true rfl)
  · obtain ⟨hop, rfl⟩ := hw
    refine k_last F hW 0 rfl z_in (xWd ((o, .inl (cA 4, 1, .inr (.inl (vp_updL f 0 ((op_meanBits (N, R, Fr, inc)).2.1))))) :: c1 :: wr) cA (α) (L) (op_meanBits (N, R, Fr, inc)).2.2) (by rw [z_cl]; rfl) dL_meanBits_6 (fun H locs hW => ?_)
    refine lv_goto (tgt := 13) hx hb dL_meanBits_7 (by decide) ?_
    refine lv_iconst (v := 0) hx hb dL_meanBits_13 (by decide) ?_
    exact k_iret (vp_updL f 0 ((op_meanBits (N, R, Fr, inc)).2.1), α, L) F hW ⟨by rw [hop]; rfl, rfl, hLk.same (n2_meanBits N R Fr inc), fun _ => by show vp_updL f 0 _ 0 = _; exact pk_uLs⟩ dL_meanBits_14 (Nat.le_of_ble_eq_true rfl) (Nat.le_of_ble_eq_true rfl)
