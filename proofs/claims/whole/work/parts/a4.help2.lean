/-! More of the law's own methods -/
set_option maxHeartbeats 4000000 in
set_option maxRecDepth 100000 in
theorem met_L_fresh (l : Launch) (D : va_G) (cA : Nat → ClassId) (wr : va_W) (α : Nat → Nat → Nat) (L : List (Nat × Nat)) (N : Nat → Nat → Nat) (R : Nat → Nat → Nat → Int32) (Fr : Nat → UInt32) (inc : Int64) (o : Nat) (f : Nat → UInt64) (c1 : Nat × va_E) (n : Nat) (p0 : Int32) (z0 : Nat) (hl0 : l.stackTraces = false) (hLk : LOK N L) (hI : IV n (N, R, Fr, inc)) (hn : n ≤ 1000) : MetHI z0 l yL_fresh (.codeWith yL_fresh cL_fresh 4 (some .int) [(0, 9, 12, 36)] :: LW) ({ frames := 8, cells := 1, slots := 6, locals := 132 }) D cA (xWd (c1 :: (o, .inl (cA 5, 1, .inr (.inr (.inr (.inl f))))) :: wr) cA α L (N, R, Fr, inc)) [.ref (α 0 0), .int p0, .ref o] (fun r (u : (Nat → UInt64) × (Nat → Nat → Nat) × List (Nat × Nat)) => r = nI (op_fresh (N, R, Fr, inc) p0).1 ∧ u.2.1 0 0 = α 0 0 ∧ LOK (op_fresh (N, R, Fr, inc) p0).2.2.1 u.2.2 ∧ ((op_fresh (N, R, Fr, inc) p0).1 = 0 → u.1 0 = FP.f2d (op_fresh (N, R, Fr, inc) p0).2.1)) (fun u => xWd (c1 :: (o, .inl (cA 5, 1, .inr (.inr (.inr (.inl u.1))))) :: wr) cA u.2.1 u.2.2 (op_fresh (N, R, Fr, inc) p0).2.2) 1 6 := by
  refine k_bodyH hl0 (by decide) (Nat.le_of_ble_eq_true rfl) (fun p e s m args below meth c ls F G hW hl => ?_)
  obtain ⟨hx, hb, hr, hml, hown, hts, hlocks, hname⟩ := id F
  have hl : lv_has ls 4 [(0, .ref (α 0 0)), (1, .int p0), (2, .ref o)] := hl
  have h : INV n N R Fr inc := hI.1
  refine lv_aload_n hx hb dL_fresh_0 rfl (lv_at hl 2 rfl) ?_
  refine lv_iconst (v := 0) hx hb dL_fresh_1 (by decide) ?_
  refine lv_aload_n hx hb dL_fresh_2 rfl (lv_at hl 0 rfl) ?_
  refine lv_iload_n hx hb dL_fresh_3 rfl (lv_at hl 1 rfl) ?_
  obtain ⟨q, hq⟩ := xw_at (wr := c1 :: (o, .inl (cA 5, 1, .inr (.inr (.inr (.inl f))))) :: wr) (cA := cA) (α := α) (L := L) (S := (N, R, Fr, inc)) 0 0 (hLk.o 0 (by decide))
  refine k_tryf (as := [.int p0]) (rest := [.int 0, .ref o]) (b := α 0 0) (ci := 6) (q0 := q) F G hW (met_X4_fresh l D cA (c1 :: (o, .inl (cA 5, 1, .inr (.inr (.inr (.inl f))))) :: wr) α L N R Fr inc p0 z0 hl0 hLk (iv_ic h)) rfl ML_L_50 IM_X4_fresh SE_X4_fresh IN_X4 CO_X4_fresh hdV_X4_fresh rfl rfl ⟨(Nat.le_of_ble_eq_true rfl), (Nat.le_of_ble_eq_true rfl)⟩ rfl rfl hq rfl rfl dL_fresh_4 hl.1 (Nat.le_of_ble_eq_true rfl) ⟨(Nat.le_of_ble_eq_true rfl), (Nat.le_of_ble_eq_true rfl)⟩ (fun E ce q9 H locs hp hW h1 h2 h3 => ?_) (fun r u H locs hw hW => ?_)
  · obtain ⟨hp0, hpE⟩ := hp
    obtain ⟨hk1, hk2⟩ := ce_fresh N R Fr inc p0
    have hst := hk2 hp0
    have e : (op_fresh (N, R, Fr, inc) p0).1 = 1 := by omega
    rw [e] at hpE
    obtain rfl : E = "java/util/NoSuchElementException" := hpE
    refine k_catch (own := RL) (E := "java/util/NoSuchElementException") F G rfl [] ⟨0, 9, 12, 36⟩ [] rfl (fun _ h => nomatch h) (by decide) (by decide) CL_L_36 (List.mem_of_getElem? (i := 6) rfl) h1 h2 h3 ?_
    refine lv_astore_n (lv' := [(3, .ref q9), (0, .ref (α 0 0)), (1, .int p0), (2, .ref o)]) hx hb dL_fresh_12 rfl hl (by decide) rfl (fun ls hl => ?_)
    refine lv_iconst (v := 1) hx hb dL_fresh_13 (by decide) ?_
    exact k_iret (f, α, L) F (hW.eq (congrArg (xWd (c1 :: (o, .inl (cA 5, 1, .inr (.inr (.inr (.inl f))))) :: wr) cA α L) hst.symm)) ⟨by rw [e]; rfl, rfl, by rw [hst]; exact hLk, fun z => absurd z hp0⟩ dL_fresh_14 (Nat.le_of_ble_eq_true rfl) (Nat.le_of_ble_eq_true rfl)
  · obtain ⟨hop, rfl⟩ := hw
    have hno : FP.Core.fIsNaN (op_fresh (N, R, Fr, inc) p0).2.1 = false := no_fresh h hop
    refine lv_f2d hx hb dL_fresh_7 (nn_f2d hno) ?_
    refine k_dast F hW 1 rfl z_in (xWd (c1 :: (o, .inl (cA 5, 1, .inr (.inr (.inr (.inl (vf_upd f 0 (FP.f2d (op_fresh (N, R, Fr, inc) p0).2.1))))))) :: wr) cA (α) (L) (op_fresh (N, R, Fr, inc) p0).2.2) (by rw [z_cl]; rfl) dL_fresh_8 (fun H locs hW => ?_)
    refine lv_goto (tgt := 15) hx hb dL_fresh_9 (by decide) ?_
    refine lv_iconst (v := 0) hx hb dL_fresh_15 (by decide) ?_
    exact k_iret (vf_upd f 0 (FP.f2d (op_fresh (N, R, Fr, inc) p0).2.1), α, L) F hW ⟨by rw [hop]; rfl, rfl, hLk.same (n2_fresh N R Fr inc p0), fun _ => by show vf_upd f 0 _ 0 = _; exact if_pos rfl⟩ dL_fresh_16 (Nat.le_of_ble_eq_true rfl) (Nat.le_of_ble_eq_true rfl)
set_option maxHeartbeats 4000000 in
set_option maxRecDepth 100000 in
theorem met_L_freshBits (l : Launch) (D : va_G) (cA : Nat → ClassId) (wr : va_W) (α : Nat → Nat → Nat) (L : List (Nat × Nat)) (N : Nat → Nat → Nat) (R : Nat → Nat → Nat → Int32) (Fr : Nat → UInt32) (inc : Int64) (o : Nat) (f : Nat → Int64) (c1 : Nat × va_E) (n : Nat) (p0 : Int32) (z0 : Nat) (hl0 : l.stackTraces = false) (hLk : LOK N L) (hI : IV n (N, R, Fr, inc)) (hn : n ≤ 1000) : MetHI z0 l yL_freshBits (.codeWith yL_freshBits cL_freshBits 4 (some .int) [(0, 9, 12, 36)] :: LW) ({ frames := 8, cells := 1, slots := 6, locals := 132 }) D cA (xWd ((o, .inl (cA 4, 1, .inr (.inl f))) :: c1 :: wr) cA α L (N, R, Fr, inc)) [.ref (α 0 0), .int p0, .ref o] (fun r (u : (Nat → Int64) × (Nat → Nat → Nat) × List (Nat × Nat)) => r = nI (op_freshBits (N, R, Fr, inc) p0).1 ∧ u.2.1 0 0 = α 0 0 ∧ LOK (op_freshBits (N, R, Fr, inc) p0).2.2.1 u.2.2 ∧ ((op_freshBits (N, R, Fr, inc) p0).1 = 0 → u.1 0 = ((op_freshBits (N, R, Fr, inc) p0).2.1).toInt64)) (fun u => xWd ((o, .inl (cA 4, 1, .inr (.inl u.1))) :: c1 :: wr) cA u.2.1 u.2.2 (op_freshBits (N, R, Fr, inc) p0).2.2) 1 6 := by
  refine k_bodyH hl0 (by decide) (Nat.le_of_ble_eq_true rfl) (fun p e s m args below meth c ls F G hW hl => ?_)
  obtain ⟨hx, hb, hr, hml, hown, hts, hlocks, hname⟩ := id F
  have hl : lv_has ls 4 [(0, .ref (α 0 0)), (1, .int p0), (2, .ref o)] := hl
  have h : INV n N R Fr inc := hI.1
  refine lv_aload_n hx hb dL_freshBits_0 rfl (lv_at hl 2 rfl) ?_
  refine lv_iconst (v := 0) hx hb dL_freshBits_1 (by decide) ?_
  refine lv_aload_n hx hb dL_freshBits_2 rfl (lv_at hl 0 rfl) ?_
  refine lv_iload_n hx hb dL_freshBits_3 rfl (lv_at hl 1 rfl) ?_
  obtain ⟨q, hq⟩ := xw_at (wr := (o, .inl (cA 4, 1, .inr (.inl f))) :: c1 :: wr) (cA := cA) (α := α) (L := L) (S := (N, R, Fr, inc)) 0 0 (hLk.o 0 (by decide))
  refine k_tryi (as := [.int p0]) (rest := [.int 0, .ref o]) (b := α 0 0) (ci := 6) (q0 := q) F G hW (met_X4_freshBits l D cA ((o, .inl (cA 4, 1, .inr (.inl f))) :: c1 :: wr) α L N R Fr inc p0 z0 hl0 hLk (iv_ic h) (iv_lot h)) rfl ML_L_54 IM_X4_freshBits SE_X4_freshBits IN_X4 CO_X4_freshBits hdV_X4_freshBits rfl rfl ⟨(Nat.le_of_ble_eq_true rfl), (Nat.le_of_ble_eq_true rfl)⟩ rfl rfl hq rfl rfl dL_freshBits_4 hl.1 (Nat.le_of_ble_eq_true rfl) ⟨(Nat.le_of_ble_eq_true rfl), (Nat.le_of_ble_eq_true rfl)⟩ (fun E ce q9 H locs hp hW h1 h2 h3 => ?_) (fun r u H locs hw hW => ?_)
  · obtain ⟨hp0, hpE⟩ := hp
    obtain ⟨hk1, hk2⟩ := ce_freshBits N R Fr inc p0
    have hst := hk2 hp0
    have e : (op_freshBits (N, R, Fr, inc) p0).1 = 1 := by omega
    rw [e] at hpE
    obtain rfl : E = "java/util/NoSuchElementException" := hpE
    refine k_catch (own := RL) (E := "java/util/NoSuchElementException") F G rfl [] ⟨0, 9, 12, 36⟩ [] rfl (fun _ h => nomatch h) (by decide) (by decide) CL_L_36 (List.mem_of_getElem? (i := 6) rfl) h1 h2 h3 ?_
    refine lv_astore_n (lv' := [(3, .ref q9), (0, .ref (α 0 0)), (1, .int p0), (2, .ref o)]) hx hb dL_freshBits_12 rfl hl (by decide) rfl (fun ls hl => ?_)
    refine lv_iconst (v := 1) hx hb dL_freshBits_13 (by decide) ?_
    exact k_iret (f, α, L) F (hW.eq (congrArg (xWd ((o, .inl (cA 4, 1, .inr (.inl f))) :: c1 :: wr) cA α L) hst.symm)) ⟨by rw [e]; rfl, rfl, by rw [hst]; exact hLk, fun z => absurd z hp0⟩ dL_freshBits_14 (Nat.le_of_ble_eq_true rfl) (Nat.le_of_ble_eq_true rfl)
  · obtain ⟨hop, rfl⟩ := hw
    refine lv_i2l hx hb dL_freshBits_7 rfl ?_
    refine k_last F hW 0 rfl z_in (xWd ((o, .inl (cA 4, 1, .inr (.inl (vp_updL f 0 (((op_freshBits (N, R, Fr, inc) p0).2.1).toInt64))))) :: c1 :: wr) cA (α) (L) (op_freshBits (N, R, Fr, inc) p0).2.2) (by rw [z_cl]; rfl) dL_freshBits_8 (fun H locs hW => ?_)
    refine lv_goto (tgt := 15) hx hb dL_freshBits_9 (by decide) ?_
    refine lv_iconst (v := 0) hx hb dL_freshBits_15 (by decide) ?_
    exact k_iret (vp_updL f 0 (((op_freshBits (N, R, Fr, inc) p0).2.1).toInt64), α, L) F hW ⟨by rw [hop]; rfl, rfl, hLk.same (n2_freshBits N R Fr inc p0), fun _ => by show vp_updL f 0 _ 0 = _; exact pk_uLs⟩ dL_freshBits_16 (Nat.le_of_ble_eq_true rfl) (Nat.le_of_ble_eq_true rfl)
set_option maxHeartbeats 4000000 in
set_option maxRecDepth 100000 in
theorem met_L_ice (l : Launch) (D : va_G) (cA : Nat → ClassId) (wr : va_W) (α : Nat → Nat → Nat) (L : List (Nat × Nat)) (N : Nat → Nat → Nat) (R : Nat → Nat → Nat → Int32) (Fr : Nat → UInt32) (inc : Int64) (o : Nat) (f : Nat → Int64) (c1 : Nat × va_E) (n : Nat) (p0 p1 : Int32) (z0 : Nat) (hl0 : l.stackTraces = false) (hLk : LOK N L) (hI : IV n (N, R, Fr, inc)) (hn : n ≤ 1000) : MetHI z0 l yL_ice (.codeWith yL_ice cL_ice 5 (some .int) [(0, 10, 13, 36), (0, 10, 17, 13), (0, 10, 21, 15)] :: LW) ({ frames := 8, cells := 2, slots := 12, locals := 134 }) D cA (xWd ((o, .inl (cA 4, 1, .inr (.inl f))) :: c1 :: wr) cA α L (N, R, Fr, inc)) [.ref (α 0 0), .int p0, .int p1, .ref o] (fun r (u : (Nat → Int64) × (Nat → Nat → Nat) × List (Nat × Nat)) => r = nI (op_ice (N, R, Fr, inc) p0 p1).1 ∧ u.2.1 0 0 = α 0 0 ∧ LOK (op_ice (N, R, Fr, inc) p0 p1).2.2.1 u.2.2 ∧ ((op_ice (N, R, Fr, inc) p0 p1).1 = 0 → u.1 0 = ((op_ice (N, R, Fr, inc) p0 p1).2.1).toInt64)) (fun u => xWd ((o, .inl (cA 4, 1, .inr (.inl u.1))) :: c1 :: wr) cA u.2.1 u.2.2 (op_ice (N, R, Fr, inc) p0 p1).2.2) 2 12 := by
  refine k_bodyH hl0 (by decide) (Nat.le_of_ble_eq_true rfl) (fun p e s m args below meth c ls F G hW hl => ?_)
  obtain ⟨hx, hb, hr, hml, hown, hts, hlocks, hname⟩ := id F
  have hl : lv_has ls 5 [(0, .ref (α 0 0)), (1, .int p0), (2, .int p1), (3, .ref o)] := hl
  have h : INV n N R Fr inc := hI.1
  refine lv_aload_n hx hb dL_ice_0 rfl (lv_at hl 3 rfl) ?_
  refine lv_iconst (v := 0) hx hb dL_ice_1 (by decide) ?_
  refine lv_aload_n hx hb dL_ice_2 rfl (lv_at hl 0 rfl) ?_
  refine lv_iload_n hx hb dL_ice_3 rfl (lv_at hl 1 rfl) ?_
  refine lv_iload_n hx hb dL_ice_4 rfl (lv_at hl 2 rfl) ?_
  obtain ⟨q, hq⟩ := xw_at (wr := (o, .inl (cA 4, 1, .inr (.inl f))) :: c1 :: wr) (cA := cA) (α := α) (L := L) (S := (N, R, Fr, inc)) 0 0 (hLk.o 0 (by decide))
  refine k_tryi (as := [.int p0, .int p1]) (rest := [.int 0, .ref o]) (b := α 0 0) (ci := 6) (q0 := q) F G hW (met_X4_ice l D cA ((o, .inl (cA 4, 1, .inr (.inl f))) :: c1 :: wr) α L N R Fr inc p0 p1 z0 hl0 hLk (iv_ic h) (iv_lot h)) rfl ML_L_57 IM_X4_ice SE_X4_ice IN_X4 CO_X4_ice hdV_X4_ice rfl rfl ⟨(Nat.le_of_ble_eq_true rfl), (Nat.le_of_ble_eq_true rfl)⟩ rfl rfl hq rfl rfl dL_ice_5 hl.1 (Nat.le_of_ble_eq_true rfl) ⟨(Nat.le_of_ble_eq_true rfl), (Nat.le_of_ble_eq_true rfl)⟩ (fun E ce q9 H locs hp hW h1 h2 h3 => ?_) (fun r u H locs hw hW => ?_)
  · obtain ⟨hp0, hpE⟩ := hp
    obtain ⟨hk1, hk2⟩ := ce_ice N R Fr inc p0 p1
    have hst := hk2 hp0
    rcases (show (op_ice (N, R, Fr, inc) p0 p1).1 = 1 ∨ (op_ice (N, R, Fr, inc) p0 p1).1 = 2 ∨ (op_ice (N, R, Fr, inc) p0 p1).1 = 3 by omega) with e | e | e
    · rw [e] at hpE
      obtain rfl : E = "java/util/NoSuchElementException" := hpE
      refine k_catch (own := RL) (E := "java/util/NoSuchElementException") F G rfl [] ⟨0, 10, 13, 36⟩ [⟨0, 10, 17, 13⟩, ⟨0, 10, 21, 15⟩] rfl (fun _ h => nomatch h) (by decide) (by decide) CL_L_36 (List.mem_of_getElem? (i := 6) rfl) h1 h2 h3 ?_
      refine lv_astore (lv' := [(4, .ref q9), (0, .ref (α 0 0)), (1, .int p0), (2, .int p1), (3, .ref o)]) hx hb dL_ice_13 hl (by decide) rfl (fun ls hl => ?_)
      refine lv_iconst (v := 1) hx hb dL_ice_15 (by decide) ?_
      exact k_iret (f, α, L) F (hW.eq (congrArg (xWd ((o, .inl (cA 4, 1, .inr (.inl f))) :: c1 :: wr) cA α L) hst.symm)) ⟨by rw [e]; rfl, rfl, by rw [hst]; exact hLk, fun z => absurd z hp0⟩ dL_ice_16 (Nat.le_of_ble_eq_true rfl) (Nat.le_of_ble_eq_true rfl)
    · rw [e] at hpE
      obtain rfl : E = "java/lang/IllegalArgumentException" := hpE
      refine k_catch (own := RL) (E := "java/lang/IllegalArgumentException") F G rfl [⟨0, 10, 13, 36⟩] ⟨0, 10, 17, 13⟩ [⟨0, 10, 21, 15⟩] rfl (List.forall_mem_cons.mpr ⟨⟨by decide, "java/util/NoSuchElementException", CL_L_36, List.mem_of_getElem? (i := 3) rfl⟩, fun _ h => nomatch h⟩) (by decide) (by decide) CL_L_13 (List.mem_of_getElem? (i := 3) rfl) h1 h2 h3 ?_
      refine lv_astore (lv' := [(4, .ref q9), (0, .ref (α 0 0)), (1, .int p0), (2, .int p1), (3, .ref o)]) hx hb dL_ice_17 hl (by decide) rfl (fun ls hl => ?_)
      refine lv_iconst (v := 2) hx hb dL_ice_19 (by decide) ?_
      exact k_iret (f, α, L) F (hW.eq (congrArg (xWd ((o, .inl (cA 4, 1, .inr (.inl f))) :: c1 :: wr) cA α L) hst.symm)) ⟨by rw [e]; rfl, rfl, by rw [hst]; exact hLk, fun z => absurd z hp0⟩ dL_ice_20 (Nat.le_of_ble_eq_true rfl) (Nat.le_of_ble_eq_true rfl)
    · rw [e] at hpE
      obtain rfl : E = "java/lang/IllegalStateException" := hpE
      refine k_catch (own := RL) (E := "java/lang/IllegalStateException") F G rfl [⟨0, 10, 13, 36⟩, ⟨0, 10, 17, 13⟩] ⟨0, 10, 21, 15⟩ [] rfl (List.forall_mem_cons.mpr ⟨⟨by decide, "java/util/NoSuchElementException", CL_L_36, List.mem_of_getElem? (i := 7) rfl⟩, List.forall_mem_cons.mpr ⟨⟨by decide, "java/lang/IllegalArgumentException", CL_L_13, List.mem_of_getElem? (i := 4) rfl⟩, fun _ h => nomatch h⟩⟩) (by decide) (by decide) CL_L_15 (List.mem_of_getElem? (i := 4) rfl) h1 h2 h3 ?_
      refine lv_astore (lv' := [(4, .ref q9), (0, .ref (α 0 0)), (1, .int p0), (2, .int p1), (3, .ref o)]) hx hb dL_ice_21 hl (by decide) rfl (fun ls hl => ?_)
      refine lv_iconst (v := 3) hx hb dL_ice_23 (by decide) ?_
      exact k_iret (f, α, L) F (hW.eq (congrArg (xWd ((o, .inl (cA 4, 1, .inr (.inl f))) :: c1 :: wr) cA α L) hst.symm)) ⟨by rw [e]; rfl, rfl, by rw [hst]; exact hLk, fun z => absurd z hp0⟩ dL_ice_24 (Nat.le_of_ble_eq_true rfl) (Nat.le_of_ble_eq_true rfl)
  · obtain ⟨hop, rfl⟩ := hw
    refine lv_i2l hx hb dL_ice_8 rfl ?_
    refine k_last F hW 0 rfl z_in (xWd ((o, .inl (cA 4, 1, .inr (.inl (vp_updL f 0 (((op_ice (N, R, Fr, inc) p0 p1).2.1).toInt64))))) :: c1 :: wr) cA (α) (L) (op_ice (N, R, Fr, inc) p0 p1).2.2) (by rw [z_cl]; rfl) dL_ice_9 (fun H locs hW => ?_)
    refine lv_goto (tgt := 25) hx hb dL_ice_10 (by decide) ?_
    refine lv_iconst (v := 0) hx hb dL_ice_25 (by decide) ?_
    exact k_iret (vp_updL f 0 (((op_ice (N, R, Fr, inc) p0 p1).2.1).toInt64), α, L) F hW ⟨by rw [hop]; rfl, rfl, hLk.same (n2_ice N R Fr inc p0 p1), fun _ => by show vp_updL f 0 _ 0 = _; exact pk_uLs⟩ dL_ice_26 (Nat.le_of_ble_eq_true rfl) (Nat.le_of_ble_eq_true rfl)
set_option maxHeartbeats 4000000 in
set_option maxRecDepth 100000 in
theorem met_L_iceOn (l : Launch) (D : va_G) (cA : Nat → ClassId) (wr : va_W) (α : Nat → Nat → Nat) (L : List (Nat × Nat)) (N : Nat → Nat → Nat) (R : Nat → Nat → Nat → Int32) (Fr : Nat → UInt32) (inc : Int64) (o : Nat) (f : Nat → Int64) (c1 : Nat × va_E) (n : Nat) (p0 : Int32) (z0 : Nat) (hl0 : l.stackTraces = false) (hLk : LOK N L) (hI : IV n (N, R, Fr, inc)) (hn : n ≤ 1000) : MetHI z0 l yL_iceOn (.codeWith yL_iceOn cL_iceOn 4 (some .int) [(0, 9, 12, 36)] :: LW) ({ frames := 8, cells := 1, slots := 6, locals := 132 }) D cA (xWd ((o, .inl (cA 4, 1, .inr (.inl f))) :: c1 :: wr) cA α L (N, R, Fr, inc)) [.ref (α 0 0), .int p0, .ref o] (fun r (u : (Nat → Int64) × (Nat → Nat → Nat) × List (Nat × Nat)) => r = nI (op_lot 10 (N, R, Fr, inc) p0).1 ∧ u.2.1 0 0 = α 0 0 ∧ LOK (op_lot 10 (N, R, Fr, inc) p0).2.2.1 u.2.2 ∧ ((op_lot 10 (N, R, Fr, inc) p0).1 = 0 → u.1 0 = ((op_lot 10 (N, R, Fr, inc) p0).2.1).toInt64)) (fun u => xWd ((o, .inl (cA 4, 1, .inr (.inl u.1))) :: c1 :: wr) cA u.2.1 u.2.2 (op_lot 10 (N, R, Fr, inc) p0).2.2) 1 6 := by
  refine k_bodyH hl0 (by decide) (Nat.le_of_ble_eq_true rfl) (fun p e s m args below meth c ls F G hW hl => ?_)
  obtain ⟨hx, hb, hr, hml, hown, hts, hlocks, hname⟩ := id F
  have hl : lv_has ls 4 [(0, .ref (α 0 0)), (1, .int p0), (2, .ref o)] := hl
  have h : INV n N R Fr inc := hI.1
  refine lv_aload_n hx hb dL_iceOn_0 rfl (lv_at hl 2 rfl) ?_
  refine lv_iconst (v := 0) hx hb dL_iceOn_1 (by decide) ?_
  refine lv_aload_n hx hb dL_iceOn_2 rfl (lv_at hl 0 rfl) ?_
  refine lv_iload_n hx hb dL_iceOn_3 rfl (lv_at hl 1 rfl) ?_
  obtain ⟨q, hq⟩ := xw_at (wr := (o, .inl (cA 4, 1, .inr (.inl f))) :: c1 :: wr) (cA := cA) (α := α) (L := L) (S := (N, R, Fr, inc)) 0 0 (hLk.o 0 (by decide))
  refine k_tryi (as := [.int p0]) (rest := [.int 0, .ref o]) (b := α 0 0) (ci := 6) (q0 := q) F G hW (met_X4_iceOn l D cA ((o, .inl (cA 4, 1, .inr (.inl f))) :: c1 :: wr) α L N R Fr inc p0 z0 hl0 hLk (iv_ic h)) rfl ML_L_60 IM_X4_iceOn SE_X4_iceOn IN_X4 CO_X4_iceOn hdV_X4_iceOn rfl rfl ⟨(Nat.le_of_ble_eq_true rfl), (Nat.le_of_ble_eq_true rfl)⟩ rfl rfl hq rfl rfl dL_iceOn_4 hl.1 (Nat.le_of_ble_eq_true rfl) ⟨(Nat.le_of_ble_eq_true rfl), (Nat.le_of_ble_eq_true rfl)⟩ (fun E ce q9 H locs hp hW h1 h2 h3 => ?_) (fun r u H locs hw hW => ?_)
  · obtain ⟨hp0, hpE⟩ := hp
    obtain ⟨hk1, hk2⟩ := ce_lot 10 N R Fr inc p0
    have hst := hk2 hp0
    have e : (op_lot 10 (N, R, Fr, inc) p0).1 = 1 := by omega
    rw [e] at hpE
    obtain rfl : E = "java/util/NoSuchElementException" := hpE
    refine k_catch (own := RL) (E := "java/util/NoSuchElementException") F G rfl [] ⟨0, 9, 12, 36⟩ [] rfl (fun _ h => nomatch h) (by decide) (by decide) CL_L_36 (List.mem_of_getElem? (i := 6) rfl) h1 h2 h3 ?_
    refine lv_astore_n (lv' := [(3, .ref q9), (0, .ref (α 0 0)), (1, .int p0), (2, .ref o)]) hx hb dL_iceOn_12 rfl hl (by decide) rfl (fun ls hl => ?_)
    refine lv_iconst (v := 1) hx hb dL_iceOn_13 (by decide) ?_
    exact k_iret (f, α, L) F (hW.eq (congrArg (xWd ((o, .inl (cA 4, 1, .inr (.inl f))) :: c1 :: wr) cA α L) hst.symm)) ⟨by rw [e]; rfl, rfl, by rw [hst]; exact hLk, fun z => absurd z hp0⟩ dL_iceOn_14 (Nat.le_of_ble_eq_true rfl) (Nat.le_of_ble_eq_true rfl)
  · obtain ⟨hop, rfl⟩ := hw
    refine lv_i2l hx hb dL_iceOn_7 rfl ?_
    refine k_last F hW 0 rfl z_in (xWd ((o, .inl (cA 4, 1, .inr (.inl (vp_updL f 0 (((op_lot 10 (N, R, Fr, inc) p0).2.1).toInt64))))) :: c1 :: wr) cA (α) (L) (op_lot 10 (N, R, Fr, inc) p0).2.2) (by rw [z_cl]; rfl) dL_iceOn_8 (fun H locs hW => ?_)
    refine lv_goto (tgt := 15) hx hb dL_iceOn_9 (by decide) ?_
    refine lv_iconst (v := 0) hx hb dL_iceOn_15 (by decide) ?_
    exact k_iret (vp_updL f 0 (((op_lot 10 (N, R, Fr, inc) p0).2.1).toInt64), α, L) F hW ⟨by rw [hop]; rfl, rfl, hLk.same (n2_lot 10 N R Fr inc p0), fun _ => by show vp_updL f 0 _ 0 = _; exact pk_uLs⟩ dL_iceOn_16 (Nat.le_of_ble_eq_true rfl) (Nat.le_of_ble_eq_true rfl)
set_option maxHeartbeats 4000000 in
set_option maxRecDepth 100000 in
theorem met_L_iceLasts (l : Launch) (D : va_G) (cA : Nat → ClassId) (wr : va_W) (α : Nat → Nat → Nat) (L : List (Nat × Nat)) (N : Nat → Nat → Nat) (R : Nat → Nat → Nat → Int32) (Fr : Nat → UInt32) (inc : Int64) (o : Nat) (f : Nat → Int64) (c1 : Nat × va_E) (n : Nat) (p0 : Int32) (z0 : Nat) (hl0 : l.stackTraces = false) (hLk : LOK N L) (hI : IV n (N, R, Fr, inc)) (hn : n ≤ 1000) : MetHI z0 l yL_iceLasts (.codeWith yL_iceLasts cL_iceLasts 4 (some .int) [(0, 9, 12, 36)] :: LW) ({ frames := 8, cells := 1, slots := 6, locals := 132 }) D cA (xWd ((o, .inl (cA 4, 1, .inr (.inl f))) :: c1 :: wr) cA α L (N, R, Fr, inc)) [.ref (α 0 0), .int p0, .ref o] (fun r (u : (Nat → Int64) × (Nat → Nat → Nat) × List (Nat × Nat)) => r = nI (op_iceLasts (N, R, Fr, inc) p0).1 ∧ u.2.1 0 0 = α 0 0 ∧ LOK (op_iceLasts (N, R, Fr, inc) p0).2.2.1 u.2.2 ∧ ((op_iceLasts (N, R, Fr, inc) p0).1 = 0 → u.1 0 = ((op_iceLasts (N, R, Fr, inc) p0).2.1).toInt64)) (fun u => xWd ((o, .inl (cA 4, 1, .inr (.inl u.1))) :: c1 :: wr) cA u.2.1 u.2.2 (op_iceLasts (N, R, Fr, inc) p0).2.2) 1 6 := by
  refine k_bodyH hl0 (by decide) (Nat.le_of_ble_eq_true rfl) (fun p e s m args below meth c ls F G hW hl => ?_)
  obtain ⟨hx, hb, hr, hml, hown, hts, hlocks, hname⟩ := id F
  have hl : lv_has ls 4 [(0, .ref (α 0 0)), (1, .int p0), (2, .ref o)] := hl
  have h : INV n N R Fr inc := hI.1
  refine lv_aload_n hx hb dL_iceLasts_0 rfl (lv_at hl 2 rfl) ?_
  refine lv_iconst (v := 0) hx hb dL_iceLasts_1 (by decide) ?_
  refine lv_aload_n hx hb dL_iceLasts_2 rfl (lv_at hl 0 rfl) ?_
  refine lv_iload_n hx hb dL_iceLasts_3 rfl (lv_at hl 1 rfl) ?_
  obtain ⟨q, hq⟩ := xw_at (wr := (o, .inl (cA 4, 1, .inr (.inl f))) :: c1 :: wr) (cA := cA) (α := α) (L := L) (S := (N, R, Fr, inc)) 0 0 (hLk.o 0 (by decide))
  refine k_tryi (as := [.int p0]) (rest := [.int 0, .ref o]) (b := α 0 0) (ci := 6) (q0 := q) F G hW (met_X4_iceLasts l D cA ((o, .inl (cA 4, 1, .inr (.inl f))) :: c1 :: wr) α L N R Fr inc p0 z0 hl0 hLk (iv_ic h) (iv_lot h)) rfl ML_L_63 IM_X4_iceLasts SE_X4_iceLasts IN_X4 CO_X4_iceLasts hdV_X4_iceLasts rfl rfl ⟨(Nat.le_of_ble_eq_true rfl), (Nat.le_of_ble_eq_true rfl)⟩ rfl rfl hq rfl rfl dL_iceLasts_4 hl.1 (Nat.le_of_ble_eq_true rfl) ⟨(Nat.le_of_ble_eq_true rfl), (Nat.le_of_ble_eq_true rfl)⟩ (fun E ce q9 H locs hp hW h1 h2 h3 => ?_) (fun r u H locs hw hW => ?_)
  · obtain ⟨hp0, hpE⟩ := hp
    obtain ⟨hk1, hk2⟩ := ce_iceLasts N R Fr inc p0
    have hst := hk2 hp0
    have e : (op_iceLasts (N, R, Fr, inc) p0).1 = 1 := by omega
    rw [e] at hpE
    obtain rfl : E = "java/util/NoSuchElementException" := hpE
    refine k_catch (own := RL) (E := "java/util/NoSuchElementException") F G rfl [] ⟨0, 9, 12, 36⟩ [] rfl (fun _ h => nomatch h) (by decide) (by decide) CL_L_36 (List.mem_of_getElem? (i := 6) rfl) h1 h2 h3 ?_
    refine lv_astore_n (lv' := [(3, .ref q9), (0, .ref (α 0 0)), (1, .int p0), (2, .ref o)]) hx hb dL_iceLasts_12 rfl hl (by decide) rfl (fun ls hl => ?_)
    refine lv_iconst (v := 1) hx hb dL_iceLasts_13 (by decide) ?_
    exact k_iret (f, α, L) F (hW.eq (congrArg (xWd ((o, .inl (cA 4, 1, .inr (.inl f))) :: c1 :: wr) cA α L) hst.symm)) ⟨by rw [e]; rfl, rfl, by rw [hst]; exact hLk, fun z => absurd z hp0⟩ dL_iceLasts_14 (Nat.le_of_ble_eq_true rfl) (Nat.le_of_ble_eq_true rfl)
  · obtain ⟨hop, rfl⟩ := hw
    refine lv_i2l hx hb dL_iceLasts_7 rfl ?_
    refine k_last F hW 0 rfl z_in (xWd ((o, .inl (cA 4, 1, .inr (.inl (vp_updL f 0 (((op_iceLasts (N, R, Fr, inc) p0).2.1).toInt64))))) :: c1 :: wr) cA (α) (L) (op_iceLasts (N, R, Fr, inc) p0).2.2) (by rw [z_cl]; rfl) dL_iceLasts_8 (fun H locs hW => ?_)
    refine lv_goto (tgt := 15) hx hb dL_iceLasts_9 (by decide) ?_
    refine lv_iconst (v := 0) hx hb dL_iceLasts_15 (by decide) ?_
    exact k_iret (vp_updL f 0 (((op_iceLasts (N, R, Fr, inc) p0).2.1).toInt64), α, L) F hW ⟨by rw [hop]; rfl, rfl, hLk.same (n2_iceLasts N R Fr inc p0), fun _ => by show vp_updL f 0 _ 0 = _; exact pk_uLs⟩ dL_iceLasts_16 (Nat.le_of_ble_eq_true rfl) (Nat.le_of_ble_eq_true rfl)
set_option maxHeartbeats 4000000 in
set_option maxRecDepth 100000 in
theorem met_L_addBuyer (l : Launch) (D : va_G) (cA : Nat → ClassId) (wr : va_W) (α : Nat → Nat → Nat) (L : List (Nat × Nat)) (N : Nat → Nat → Nat) (R : Nat → Nat → Nat → Int32) (Fr : Nat → UInt32) (inc : Int64) (o : Nat) (f : Nat → Int64) (c1 : Nat × va_E) (n : Nat) (p0 : Int32) (z0 : Nat) (hl0 : l.stackTraces = false) (hLk : LOK N L) (hI : IV n (N, R, Fr, inc)) (hn : n ≤ 1000) : MetHI z0 l yL_addBuyer (.codeWith yL_addBuyer cL_addBuyer 4 (some .int) [(0, 9, 12, 13), (0, 9, 15, 15)] :: LW) ({ frames := 7, cells := 2, slots := 7, locals := 112 }) D cA (xWd ((o, .inl (cA 4, 1, .inr (.inl f))) :: c1 :: wr) cA α L (N, R, Fr, inc)) [.ref (α 0 0), .int p0, .ref o] (fun r (u : (Nat → Int64) × (Nat → Nat → Nat) × List (Nat × Nat)) => r = nI (op_addBuyer (N, R, Fr, inc) p0).1 ∧ u.2.1 0 0 = α 0 0 ∧ LOK (op_addBuyer (N, R, Fr, inc) p0).2.2.1 u.2.2 ∧ ((op_addBuyer (N, R, Fr, inc) p0).1 = 0 → u.1 0 = ((op_addBuyer (N, R, Fr, inc) p0).2.1).toInt64)) (fun u => xWd ((o, .inl (cA 4, 1, .inr (.inl u.1))) :: c1 :: wr) cA u.2.1 u.2.2 (op_addBuyer (N, R, Fr, inc) p0).2.2) 2 7 := by
  refine k_bodyH hl0 (by decide) (Nat.le_of_ble_eq_true rfl) (fun p e s m args below meth c ls F G hW hl => ?_)
  obtain ⟨hx, hb, hr, hml, hown, hts, hlocks, hname⟩ := id F
  have hl : lv_has ls 4 [(0, .ref (α 0 0)), (1, .int p0), (2, .ref o)] := hl
  have h : INV n N R Fr inc := hI.1
  refine lv_aload_n hx hb dL_addBuyer_0 rfl (lv_at hl 2 rfl) ?_
  refine lv_iconst (v := 0) hx hb dL_addBuyer_1 (by decide) ?_
  refine lv_aload_n hx hb dL_addBuyer_2 rfl (lv_at hl 0 rfl) ?_
  refine lv_iload_n hx hb dL_addBuyer_3 rfl (lv_at hl 1 rfl) ?_
  obtain ⟨q, hq⟩ := xw_at (wr := (o, .inl (cA 4, 1, .inr (.inl f))) :: c1 :: wr) (cA := cA) (α := α) (L := L) (S := (N, R, Fr, inc)) 0 0 (hLk.o 0 (by decide))
  refine k_tryi (as := [.int p0]) (rest := [.int 0, .ref o]) (b := α 0 0) (ci := 6) (q0 := q) F G hW (met_X4_addBuyer l D cA ((o, .inl (cA 4, 1, .inr (.inl f))) :: c1 :: wr) α L N R Fr inc p0 z0 hl0 hLk (iv_ic h) (iv_own h) (iv_tr h) (fun s => iv_u1 h _ s (Nat.le_refl _))) rfl ML_L_66 IM_X4_addBuyer SE_X4_addBuyer IN_X4 CO_X4_addBuyer hdV_X4_addBuyer rfl rfl ⟨(Nat.le_of_ble_eq_true rfl), (Nat.le_of_ble_eq_true rfl)⟩ rfl rfl hq rfl rfl dL_addBuyer_4 hl.1 (Nat.le_of_ble_eq_true rfl) ⟨(Nat.le_of_ble_eq_true rfl), (Nat.le_of_ble_eq_true rfl)⟩ (fun E ce q9 H locs hp hW h1 h2 h3 => ?_) (fun r u H locs hw hW => ?_)
  · obtain ⟨hp0, hpE⟩ := hp
    obtain ⟨hk1, hk2⟩ := ce_addBuyer N R Fr inc p0
    have hst := hk2 hp0
    rcases (show (op_addBuyer (N, R, Fr, inc) p0).1 = 1 ∨ (op_addBuyer (N, R, Fr, inc) p0).1 = 2 by omega) with e | e
    · rw [e] at hpE
      obtain rfl : E = "java/lang/IllegalArgumentException" := hpE
      refine k_catch (own := RL) (E := "java/lang/IllegalArgumentException") F G rfl [] ⟨0, 9, 12, 13⟩ [⟨0, 9, 15, 15⟩] rfl (fun _ h => nomatch h) (by decide) (by decide) CL_L_13 (List.mem_of_getElem? (i := 3) rfl) h1 h2 h3 ?_
      refine lv_astore_n (lv' := [(3, .ref q9), (0, .ref (α 0 0)), (1, .int p0), (2, .ref o)]) hx hb dL_addBuyer_12 rfl hl (by decide) rfl (fun ls hl => ?_)
      refine lv_iconst (v := 1) hx hb dL_addBuyer_13 (by decide) ?_
      exact k_iret (f, α, L) F (hW.eq (congrArg (xWd ((o, .inl (cA 4, 1, .inr (.inl f))) :: c1 :: wr) cA α L) hst.symm)) ⟨by rw [e]; rfl, rfl, by rw [hst]; exact hLk, fun z => absurd z hp0⟩ dL_addBuyer_14 (Nat.le_of_ble_eq_true rfl) (Nat.le_of_ble_eq_true rfl)
    · rw [e] at hpE
      obtain rfl : E = "java/lang/IllegalStateException" := hpE
      refine k_catch (own := RL) (E := "java/lang/IllegalStateException") F G rfl [⟨0, 9, 12, 13⟩] ⟨0, 9, 15, 15⟩ [] rfl (List.forall_mem_cons.mpr ⟨⟨by decide, "java/lang/IllegalArgumentException", CL_L_13, List.mem_of_getElem? (i := 4) rfl⟩, fun _ h => nomatch h⟩) (by decide) (by decide) CL_L_15 (List.mem_of_getElem? (i := 4) rfl) h1 h2 h3 ?_
      refine lv_astore_n (lv' := [(3, .ref q9), (0, .ref (α 0 0)), (1, .int p0), (2, .ref o)]) hx hb dL_addBuyer_15 rfl hl (by decide) rfl (fun ls hl => ?_)
      refine lv_iconst (v := 2) hx hb dL_addBuyer_16 (by decide) ?_
      exact k_iret (f, α, L) F (hW.eq (congrArg (xWd ((o, .inl (cA 4, 1, .inr (.inl f))) :: c1 :: wr) cA α L) hst.symm)) ⟨by rw [e]; rfl, rfl, by rw [hst]; exact hLk, fun z => absurd z hp0⟩ dL_addBuyer_17 (Nat.le_of_ble_eq_true rfl) (Nat.le_of_ble_eq_true rfl)
  · obtain ⟨hop, rfl⟩ := hw
    refine lv_i2l hx hb dL_addBuyer_7 rfl ?_
    refine k_last F hW 0 rfl z_in (xWd ((o, .inl (cA 4, 1, .inr (.inl (vp_updL f 0 (((op_addBuyer (N, R, Fr, inc) p0).2.1).toInt64))))) :: c1 :: wr) cA (alB α (N 0 2) u.1 u.2) (L ++ [(10, N 0 2), (11, N 0 2)]) (op_addBuyer (N, R, Fr, inc) p0).2.2) (by rw [z_cl]; rfl) dL_addBuyer_8 (fun H locs hW => ?_)
    refine lv_goto (tgt := 18) hx hb dL_addBuyer_9 (by decide) ?_
    refine lv_iconst (v := 0) hx hb dL_addBuyer_18 (by decide) ?_
    exact k_iret (vp_updL f 0 (((op_addBuyer (N, R, Fr, inc) p0).2.1).toInt64), alB α (N 0 2) u.1 u.2, L ++ [(10, N 0 2), (11, N 0 2)]) F hW ⟨by rw [hop]; rfl, by simp [alB, upA], (lok_buyer hLk (iv_ic h)).same (n2_addBuyer N R Fr inc p0 hop), fun _ => by show vp_updL f 0 _ 0 = _; exact pk_uLs⟩ dL_addBuyer_19 (Nat.le_of_ble_eq_true rfl) (Nat.le_of_ble_eq_true rfl)
set_option maxHeartbeats 4000000 in
set_option maxRecDepth 100000 in
theorem met_L_setLimit (l : Launch) (D : va_G) (cA : Nat → ClassId) (wr : va_W) (α : Nat → Nat → Nat) (L : List (Nat × Nat)) (N : Nat → Nat → Nat) (R : Nat → Nat → Nat → Int32) (Fr : Nat → UInt32) (inc : Int64) (o : Nat) (f : Nat → Int64) (c1 : Nat × va_E) (n : Nat) (p0 p1 p2 : Int32) (z0 : Nat) (hl0 : l.stackTraces = false) (hLk : LOK N L) (hI : IV n (N, R, Fr, inc)) (hn : n ≤ 1000) : MetHI z0 l yL_setLimit (.codeWith yL_setLimit cL_setLimit 6 (some .int) [(0, 12, 15, 21), (0, 12, 19, 13)] :: LW) ({ frames := 8, cells := 2, slots := 12, locals := 136 }) D cA (xWd ((o, .inl (cA 4, 1, .inr (.inl f))) :: c1 :: wr) cA α L (N, R, Fr, inc)) [.ref (α 0 0), .int p0, .int p1, .int p2, .ref o] (fun r (u : (Nat → Int64) × (Nat → Nat → Nat) × List (Nat × Nat)) => r = nI (op_setLimit (N, R, Fr, inc) p0 p1 p2).1 ∧ u.2.1 0 0 = α 0 0 ∧ LOK (op_setLimit (N, R, Fr, inc) p0 p1 p2).2.2.1 u.2.2 ∧ ((op_setLimit (N, R, Fr, inc) p0 p1 p2).1 = 0 → u.1 0 = ((op_setLimit (N, R, Fr, inc) p0 p1 p2).2.1).toInt64)) (fun u => xWd ((o, .inl (cA 4, 1, .inr (.inl u.1))) :: c1 :: wr) cA u.2.1 u.2.2 (op_setLimit (N, R, Fr, inc) p0 p1 p2).2.2) 2 12 := by
  refine k_bodyH hl0 (by decide) (Nat.le_of_ble_eq_true rfl) (fun p e s m args below meth c ls F G hW hl => ?_)
  obtain ⟨hx, hb, hr, hml, hown, hts, hlocks, hname⟩ := id F
  have hl : lv_has ls 6 [(0, .ref (α 0 0)), (1, .int p0), (2, .int p1), (3, .int p2), (4, .ref o)] := hl
  have h : INV n N R Fr inc := hI.1
  refine lv_aload hx hb dL_setLimit_0 (lv_at hl 4 rfl) ?_
  refine lv_iconst (v := 0) hx hb dL_setLimit_2 (by decide) ?_
  refine lv_aload_n hx hb dL_setLimit_3 rfl (lv_at hl 0 rfl) ?_
  refine lv_iload_n hx hb dL_setLimit_4 rfl (lv_at hl 1 rfl) ?_
  refine lv_iload_n hx hb dL_setLimit_5 rfl (lv_at hl 2 rfl) ?_
  refine lv_iload_n hx hb dL_setLimit_6 rfl (lv_at hl 3 rfl) ?_
  obtain ⟨q, hq⟩ := xw_at (wr := (o, .inl (cA 4, 1, .inr (.inl f))) :: c1 :: wr) (cA := cA) (α := α) (L := L) (S := (N, R, Fr, inc)) 0 0 (hLk.o 0 (by decide))
  refine k_tryi (as := [.int p0, .int p1, .int p2]) (rest := [.int 0, .ref o]) (b := α 0 0) (ci := 6) (q0 := q) F G hW (met_X4_setLimit l D cA ((o, .inl (cA 4, 1, .inr (.inl f))) :: c1 :: wr) α L N R Fr inc p0 p1 p2 z0 hl0 hLk (iv_ic h)) rfl ML_L_69 IM_X4_setLimit SE_X4_setLimit IN_X4 CO_X4_setLimit hdV_X4_setLimit rfl rfl ⟨(Nat.le_of_ble_eq_true rfl), (Nat.le_of_ble_eq_true rfl)⟩ rfl rfl hq rfl rfl dL_setLimit_7 hl.1 (Nat.le_of_ble_eq_true rfl) ⟨(Nat.le_of_ble_eq_true rfl), (Nat.le_of_ble_eq_true rfl)⟩ (fun E ce q9 H locs hp hW h1 h2 h3 => ?_) (fun r u H locs hw hW => ?_)
  · obtain ⟨hp0, hpE⟩ := hp
    obtain ⟨hk1, hk2⟩ := ce_setLimit N R Fr inc p0 p1 p2
    have hst := hk2 hp0
    rcases (show (op_setLimit (N, R, Fr, inc) p0 p1 p2).1 = 1 ∨ (op_setLimit (N, R, Fr, inc) p0 p1 p2).1 = 2 by omega) with e | e
    · rw [e] at hpE
      obtain rfl : E = "java/lang/IndexOutOfBoundsException" := hpE
      refine k_catch (own := RL) (E := "java/lang/IndexOutOfBoundsException") F G rfl [] ⟨0, 12, 15, 21⟩ [⟨0, 12, 19, 13⟩] rfl (fun _ h => nomatch h) (by decide) (by decide) CL_L_21 (List.mem_of_getElem? (i := 8) rfl) h1 h2 h3 ?_
      refine lv_astore (lv' := [(5, .ref q9), (0, .ref (α 0 0)), (1, .int p0), (2, .int p1), (3, .int p2), (4, .ref o)]) hx hb dL_setLimit_15 hl (by decide) rfl (fun ls hl => ?_)
      refine lv_iconst (v := 1) hx hb dL_setLimit_17 (by decide) ?_
      exact k_iret (f, α, L) F (hW.eq (congrArg (xWd ((o, .inl (cA 4, 1, .inr (.inl f))) :: c1 :: wr) cA α L) hst.symm)) ⟨by rw [e]; rfl, rfl, by rw [hst]; exact hLk, fun z => absurd z hp0⟩ dL_setLimit_18 (Nat.le_of_ble_eq_true rfl) (Nat.le_of_ble_eq_true rfl)
    · rw [e] at hpE
      obtain rfl : E = "java/lang/IllegalArgumentException" := hpE
      refine k_catch (own := RL) (E := "java/lang/IllegalArgumentException") F G rfl [⟨0, 12, 15, 21⟩] ⟨0, 12, 19, 13⟩ [] rfl (List.forall_mem_cons.mpr ⟨⟨by decide, "java/lang/IndexOutOfBoundsException", CL_L_21, List.mem_of_getElem? (i := 1) rfl⟩, fun _ h => nomatch h⟩) (by decide) (by decide) CL_L_13 (List.mem_of_getElem? (i := 3) rfl) h1 h2 h3 ?_
      refine lv_astore (lv' := [(5, .ref q9), (0, .ref (α 0 0)), (1, .int p0), (2, .int p1), (3, .int p2), (4, .ref o)]) hx hb dL_setLimit_19 hl (by decide) rfl (fun ls hl => ?_)
      refine lv_iconst (v := 2) hx hb dL_setLimit_21 (by decide) ?_
      exact k_iret (f, α, L) F (hW.eq (congrArg (xWd ((o, .inl (cA 4, 1, .inr (.inl f))) :: c1 :: wr) cA α L) hst.symm)) ⟨by rw [e]; rfl, rfl, by rw [hst]; exact hLk, fun z => absurd z hp0⟩ dL_setLimit_22 (Nat.le_of_ble_eq_true rfl) (Nat.le_of_ble_eq_true rfl)
  · obtain ⟨hop, rfl⟩ := hw
    refine lv_i2l hx hb dL_setLimit_10 rfl ?_
    refine k_last F hW 0 rfl z_in (xWd ((o, .inl (cA 4, 1, .inr (.inl (vp_updL f 0 (((op_setLimit (N, R, Fr, inc) p0 p1 p2).2.1).toInt64))))) :: c1 :: wr) cA (α) (L) (op_setLimit (N, R, Fr, inc) p0 p1 p2).2.2) (by rw [z_cl]; rfl) dL_setLimit_11 (fun H locs hW => ?_)
    refine lv_goto (tgt := 23) hx hb dL_setLimit_12 (by decide) ?_
    refine lv_iconst (v := 0) hx hb dL_setLimit_23 (by decide) ?_
    exact k_iret (vp_updL f 0 (((op_setLimit (N, R, Fr, inc) p0 p1 p2).2.1).toInt64), α, L) F hW ⟨by rw [hop]; rfl, rfl, hLk.same (n2_setLimit N R Fr inc p0 p1 p2), fun _ => by show vp_updL f 0 _ 0 = _; exact pk_uLs⟩ dL_setLimit_24 (Nat.le_of_ble_eq_true rfl) (Nat.le_of_ble_eq_true rfl)
set_option maxHeartbeats 4000000 in
set_option maxRecDepth 100000 in
theorem met_L_budget (l : Launch) (D : va_G) (cA : Nat → ClassId) (wr : va_W) (α : Nat → Nat → Nat) (L : List (Nat × Nat)) (N : Nat → Nat → Nat) (R : Nat → Nat → Nat → Int32) (Fr : Nat → UInt32) (inc : Int64) (o : Nat) (f : Nat → Int64) (c1 : Nat × va_E) (n : Nat) (p0 : Int32) (z0 : Nat) (hl0 : l.stackTraces = false) (hLk : LOK N L) (hI : IV n (N, R, Fr, inc)) (hn : n ≤ 1000) : MetHI z0 l yL_budget (.codeWith yL_budget cL_budget 4 (some .int) [(0, 9, 12, 21)] :: LW) ({ frames := 8, cells := 1, slots := 6, locals := 132 }) D cA (xWd ((o, .inl (cA 4, 1, .inr (.inl f))) :: c1 :: wr) cA α L (N, R, Fr, inc)) [.ref (α 0 0), .int p0, .ref o] (fun r (u : (Nat → Int64) × (Nat → Nat → Nat) × List (Nat × Nat)) => r = nI (op_budget (N, R, Fr, inc) p0).1 ∧ u.2.1 0 0 = α 0 0 ∧ LOK (op_budget (N, R, Fr, inc) p0).2.2.1 u.2.2 ∧ ((op_budget (N, R, Fr, inc) p0).1 = 0 → u.1 0 = ((op_budget (N, R, Fr, inc) p0).2.1).toInt64)) (fun u => xWd ((o, .inl (cA 4, 1, .inr (.inl u.1))) :: c1 :: wr) cA u.2.1 u.2.2 (op_budget (N, R, Fr, inc) p0).2.2) 1 6 := by
  refine k_bodyH hl0 (by decide) (Nat.le_of_ble_eq_true rfl) (fun p e s m args below meth c ls F G hW hl => ?_)
  obtain ⟨hx, hb, hr, hml, hown, hts, hlocks, hname⟩ := id F
  have hl : lv_has ls 4 [(0, .ref (α 0 0)), (1, .int p0), (2, .ref o)] := hl
  have h : INV n N R Fr inc := hI.1
  refine lv_aload_n hx hb dL_budget_0 rfl (lv_at hl 2 rfl) ?_
  refine lv_iconst (v := 0) hx hb dL_budget_1 (by decide) ?_
  refine lv_aload_n hx hb dL_budget_2 rfl (lv_at hl 0 rfl) ?_
  refine lv_iload_n hx hb dL_budget_3 rfl (lv_at hl 1 rfl) ?_
  obtain ⟨q, hq⟩ := xw_at (wr := (o, .inl (cA 4, 1, .inr (.inl f))) :: c1 :: wr) (cA := cA) (α := α) (L := L) (S := (N, R, Fr, inc)) 0 0 (hLk.o 0 (by decide))
  refine k_tryi (as := [.int p0]) (rest := [.int 0, .ref o]) (b := α 0 0) (ci := 6) (q0 := q) F G hW (met_X4_budget l D cA ((o, .inl (cA 4, 1, .inr (.inl f))) :: c1 :: wr) α L N R Fr inc p0 z0 hl0 hLk (iv_ic h)) rfl ML_L_72 IM_X4_budget SE_X4_budget IN_X4 CO_X4_budget hdV_X4_budget rfl rfl ⟨(Nat.le_of_ble_eq_true rfl), (Nat.le_of_ble_eq_true rfl)⟩ rfl rfl hq rfl rfl dL_budget_4 hl.1 (Nat.le_of_ble_eq_true rfl) ⟨(Nat.le_of_ble_eq_true rfl), (Nat.le_of_ble_eq_true rfl)⟩ (fun E ce q9 H locs hp hW h1 h2 h3 => ?_) (fun r u H locs hw hW => ?_)
  · obtain ⟨hp0, hpE⟩ := hp
    obtain ⟨hk1, hk2⟩ := ce_budget N R Fr inc p0
    have hst := hk2 hp0
    have e : (op_budget (N, R, Fr, inc) p0).1 = 1 := by omega
    rw [e] at hpE
    obtain rfl : E = "java/lang/IndexOutOfBoundsException" := hpE
    refine k_catch (own := RL) (E := "java/lang/IndexOutOfBoundsException") F G rfl [] ⟨0, 9, 12, 21⟩ [] rfl (fun _ h => nomatch h) (by decide) (by decide) CL_L_21 (List.mem_of_getElem? (i := 8) rfl) h1 h2 h3 ?_
    refine lv_astore_n (lv' := [(3, .ref q9), (0, .ref (α 0 0)), (1, .int p0), (2, .ref o)]) hx hb dL_budget_12 rfl hl (by decide) rfl (fun ls hl => ?_)
    refine lv_iconst (v := 1) hx hb dL_budget_13 (by decide) ?_
    exact k_iret (f, α, L) F (hW.eq (congrArg (xWd ((o, .inl (cA 4, 1, .inr (.inl f))) :: c1 :: wr) cA α L) hst.symm)) ⟨by rw [e]; rfl, rfl, by rw [hst]; exact hLk, fun z => absurd z hp0⟩ dL_budget_14 (Nat.le_of_ble_eq_true rfl) (Nat.le_of_ble_eq_true rfl)
  · obtain ⟨hop, rfl⟩ := hw
    refine lv_i2l hx hb dL_budget_7 rfl ?_
    refine k_last F hW 0 rfl z_in (xWd ((o, .inl (cA 4, 1, .inr (.inl (vp_updL f 0 (((op_budget (N, R, Fr, inc) p0).2.1).toInt64))))) :: c1 :: wr) cA (α) (L) (op_budget (N, R, Fr, inc) p0).2.2) (by rw [z_cl]; rfl) dL_budget_8 (fun H locs hW => ?_)
    refine lv_goto (tgt := 15) hx hb dL_budget_9 (by decide) ?_
    refine lv_iconst (v := 0) hx hb dL_budget_15 (by decide) ?_
    exact k_iret (vp_updL f 0 (((op_budget (N, R, Fr, inc) p0).2.1).toInt64), α, L) F hW ⟨by rw [hop]; rfl, rfl, hLk.same (n2_budget N R Fr inc p0), fun _ => by show vp_updL f 0 _ 0 = _; exact pk_uLs⟩ dL_budget_16 (Nat.le_of_ble_eq_true rfl) (Nat.le_of_ble_eq_true rfl)
set_option maxHeartbeats 4000000 in
set_option maxRecDepth 100000 in
theorem met_L_setClock (l : Launch) (D : va_G) (cA : Nat → ClassId) (wr : va_W) (α : Nat → Nat → Nat) (L : List (Nat × Nat)) (N : Nat → Nat → Nat) (R : Nat → Nat → Nat → Int32) (Fr : Nat → UInt32) (inc : Int64) (o : Nat) (f : Nat → Int64) (c1 : Nat × va_E) (n : Nat) (p0 p1 p2 : Int32) (z0 : Nat) (hl0 : l.stackTraces = false) (hLk : LOK N L) (hI : IV n (N, R, Fr, inc)) (hn : n ≤ 1000) : MetHI z0 l yL_setClock (.codeWith yL_setClock cL_setClock 6 (some .int) [(0, 12, 15, 13)] :: LW) ({ frames := 7, cells := 1, slots := 6, locals := 114 }) D cA (xWd ((o, .inl (cA 4, 1, .inr (.inl f))) :: c1 :: wr) cA α L (N, R, Fr, inc)) [.ref (α 0 0), .int p0, .int p1, .int p2, .ref o] (fun r (u : (Nat → Int64) × (Nat → Nat → Nat) × List (Nat × Nat)) => r = nI (op_setClock (N, R, Fr, inc) p0 p1 p2).1 ∧ u.2.1 0 0 = α 0 0 ∧ LOK (op_setClock (N, R, Fr, inc) p0 p1 p2).2.2.1 u.2.2 ∧ ((op_setClock (N, R, Fr, inc) p0 p1 p2).1 = 0 → u.1 0 = ((op_setClock (N, R, Fr, inc) p0 p1 p2).2.1).toInt64)) (fun u => xWd ((o, .inl (cA 4, 1, .inr (.inl u.1))) :: c1 :: wr) cA u.2.1 u.2.2 (op_setClock (N, R, Fr, inc) p0 p1 p2).2.2) 1 6 := by
  refine k_bodyH hl0 (by decide) (Nat.le_of_ble_eq_true rfl) (fun p e s m args below meth c ls F G hW hl => ?_)
  obtain ⟨hx, hb, hr, hml, hown, hts, hlocks, hname⟩ := id F
  have hl : lv_has ls 6 [(0, .ref (α 0 0)), (1, .int p0), (2, .int p1), (3, .int p2), (4, .ref o)] := hl
  have h : INV n N R Fr inc := hI.1
  refine lv_aload hx hb dL_setClock_0 (lv_at hl 4 rfl) ?_
  refine lv_iconst (v := 0) hx hb dL_setClock_2 (by decide) ?_
  refine lv_aload_n hx hb dL_setClock_3 rfl (lv_at hl 0 rfl) ?_
  refine lv_iload_n hx hb dL_setClock_4 rfl (lv_at hl 1 rfl) ?_
  refine lv_iload_n hx hb dL_setClock_5 rfl (lv_at hl 2 rfl) ?_
  refine lv_iload_n hx hb dL_setClock_6 rfl (lv_at hl 3 rfl) ?_
  obtain ⟨q, hq⟩ := xw_at (wr := (o, .inl (cA 4, 1, .inr (.inl f))) :: c1 :: wr) (cA := cA) (α := α) (L := L) (S := (N, R, Fr, inc)) 0 0 (hLk.o 0 (by decide))
  refine k_tryi (as := [.int p0, .int p1, .int p2]) (rest := [.int 0, .ref o]) (b := α 0 0) (ci := 6) (q0 := q) F G hW (met_X4_setClock l D cA ((o, .inl (cA 4, 1, .inr (.inl f))) :: c1 :: wr) α L N R Fr inc p0 p1 p2 z0 hl0 hLk (iv_ic h)) rfl ML_L_75 IM_X4_setClock SE_X4_setClock IN_X4 CO_X4_setClock hdV_X4_setClock rfl rfl ⟨(Nat.le_of_ble_eq_true rfl), (Nat.le_of_ble_eq_true rfl)⟩ rfl rfl hq rfl rfl dL_setClock_7 hl.1 (Nat.le_of_ble_eq_true rfl) ⟨(Nat.le_of_ble_eq_true rfl), (Nat.le_of_ble_eq_true rfl)⟩ (fun E ce q9 H locs hp hW h1 h2 h3 => ?_) (fun r u H locs hw hW => ?_)
  · obtain ⟨hp0, hpE⟩ := hp
    obtain ⟨hk1, hk2⟩ := ce_setClock N R Fr inc p0 p1 p2
    have hst := hk2 hp0
    have e : (op_setClock (N, R, Fr, inc) p0 p1 p2).1 = 1 := by omega
    rw [e] at hpE
    obtain rfl : E = "java/lang/IllegalArgumentException" := hpE
    refine k_catch (own := RL) (E := "java/lang/IllegalArgumentException") F G rfl [] ⟨0, 12, 15, 13⟩ [] rfl (fun _ h => nomatch h) (by decide) (by decide) CL_L_13 (List.mem_of_getElem? (i := 3) rfl) h1 h2 h3 ?_
    refine lv_astore (lv' := [(5, .ref q9), (0, .ref (α 0 0)), (1, .int p0), (2, .int p1), (3, .int p2), (4, .ref o)]) hx hb dL_setClock_15 hl (by decide) rfl (fun ls hl => ?_)
    refine lv_iconst (v := 1) hx hb dL_setClock_17 (by decide) ?_
    exact k_iret (f, α, L) F (hW.eq (congrArg (xWd ((o, .inl (cA 4, 1, .inr (.inl f))) :: c1 :: wr) cA α L) hst.symm)) ⟨by rw [e]; rfl, rfl, by rw [hst]; exact hLk, fun z => absurd z hp0⟩ dL_setClock_18 (Nat.le_of_ble_eq_true rfl) (Nat.le_of_ble_eq_true rfl)
  · obtain ⟨hop, rfl⟩ := hw
    refine lv_i2l hx hb dL_setClock_10 rfl ?_
    refine k_last F hW 0 rfl z_in (xWd ((o, .inl (cA 4, 1, .inr (.inl (vp_updL f 0 (((op_setClock (N, R, Fr, inc) p0 p1 p2).2.1).toInt64))))) :: c1 :: wr) cA (α) (L) (op_setClock (N, R, Fr, inc) p0 p1 p2).2.2) (by rw [z_cl]; rfl) dL_setClock_11 (fun H locs hW => ?_)
    refine lv_goto (tgt := 19) hx hb dL_setClock_12 (by decide) ?_
    refine lv_iconst (v := 0) hx hb dL_setClock_19 (by decide) ?_
    exact k_iret (vp_updL f 0 (((op_setClock (N, R, Fr, inc) p0 p1 p2).2.1).toInt64), α, L) F hW ⟨by rw [hop]; rfl, rfl, hLk.same (n2_setClock N R Fr inc p0 p1 p2), fun _ => by show vp_updL f 0 _ 0 = _; exact pk_uLs⟩ dL_setClock_20 (Nat.le_of_ble_eq_true rfl) (Nat.le_of_ble_eq_true rfl)
set_option maxHeartbeats 4000000 in
set_option maxRecDepth 100000 in
theorem met_L_offer (l : Launch) (D : va_G) (cA : Nat → ClassId) (wr : va_W) (α : Nat → Nat → Nat) (L : List (Nat × Nat)) (N : Nat → Nat → Nat) (R : Nat → Nat → Nat → Int32) (Fr : Nat → UInt32) (inc : Int64) (o : Nat) (f : Nat → Int64) (c1 : Nat × va_E) (n : Nat) (p0 p1 : Int32) (z0 : Nat) (hl0 : l.stackTraces = false) (hLk : LOK N L) (hI : IV n (N, R, Fr, inc)) (hn : n ≤ 1000) : MetHI z0 l yL_offer (.codeWith yL_offer cL_offer 5 (some .int) [(0, 10, 13, 21), (0, 10, 17, 36)] :: LW) ({ frames := 8, cells := 2, slots := 12, locals := 134 }) D cA (xWd ((o, .inl (cA 4, 1, .inr (.inl f))) :: c1 :: wr) cA α L (N, R, Fr, inc)) [.ref (α 0 0), .int p0, .int p1, .ref o] (fun r (u : (Nat → Int64) × (Nat → Nat → Nat) × List (Nat × Nat)) => r = nI (op_offer (N, R, Fr, inc) p0 p1).1 ∧ u.2.1 0 0 = α 0 0 ∧ LOK (op_offer (N, R, Fr, inc) p0 p1).2.2.1 u.2.2 ∧ ((op_offer (N, R, Fr, inc) p0 p1).1 = 0 → u.1 0 = ((op_offer (N, R, Fr, inc) p0 p1).2.1).toInt64)) (fun u => xWd ((o, .inl (cA 4, 1, .inr (.inl u.1))) :: c1 :: wr) cA u.2.1 u.2.2 (op_offer (N, R, Fr, inc) p0 p1).2.2) 2 12 := by
  refine k_bodyH hl0 (by decide) (Nat.le_of_ble_eq_true rfl) (fun p e s m args below meth c ls F G hW hl => ?_)
  obtain ⟨hx, hb, hr, hml, hown, hts, hlocks, hname⟩ := id F
  have hl : lv_has ls 5 [(0, .ref (α 0 0)), (1, .int p0), (2, .int p1), (3, .ref o)] := hl
  have h : INV n N R Fr inc := hI.1
  refine lv_aload_n hx hb dL_offer_0 rfl (lv_at hl 3 rfl) ?_
  refine lv_iconst (v := 0) hx hb dL_offer_1 (by decide) ?_
  refine lv_aload_n hx hb dL_offer_2 rfl (lv_at hl 0 rfl) ?_
  refine lv_iload_n hx hb dL_offer_3 rfl (lv_at hl 1 rfl) ?_
  refine lv_iload_n hx hb dL_offer_4 rfl (lv_at hl 2 rfl) ?_
  obtain ⟨q, hq⟩ := xw_at (wr := (o, .inl (cA 4, 1, .inr (.inl f))) :: c1 :: wr) (cA := cA) (α := α) (L := L) (S := (N, R, Fr, inc)) 0 0 (hLk.o 0 (by decide))
  refine k_tryi (as := [.int p0, .int p1]) (rest := [.int 0, .ref o]) (b := α 0 0) (ci := 6) (q0 := q) F G hW (met_X4_offer l D cA ((o, .inl (cA 4, 1, .inr (.inl f))) :: c1 :: wr) α L N R Fr inc p0 p1 z0 hl0 hLk (iv_ic h) (iv_lot h)) rfl ML_L_78 IM_X4_offer SE_X4_offer IN_X4 CO_X4_offer hdV_X4_offer rfl rfl ⟨(Nat.le_of_ble_eq_true rfl), (Nat.le_of_ble_eq_true rfl)⟩ rfl rfl hq rfl rfl dL_offer_5 hl.1 (Nat.le_of_ble_eq_true rfl) ⟨(Nat.le_of_ble_eq_true rfl), (Nat.le_of_ble_eq_true rfl)⟩ (fun E ce q9 H locs hp hW h1 h2 h3 => ?_) (fun r u H locs hw hW => ?_)
  · obtain ⟨hp0, hpE⟩ := hp
    obtain ⟨hk1, hk2⟩ := ce_offer N R Fr inc p0 p1
    have hst := hk2 hp0
    rcases (show (op_offer (N, R, Fr, inc) p0 p1).1 = 1 ∨ (op_offer (N, R, Fr, inc) p0 p1).1 = 2 by omega) with e | e
    · rw [e] at hpE
      obtain rfl : E = "java/lang/IndexOutOfBoundsException" := hpE
      refine k_catch (own := RL) (E := "java/lang/IndexOutOfBoundsException") F G rfl [] ⟨0, 10, 13, 21⟩ [⟨0, 10, 17, 36⟩] rfl (fun _ h => nomatch h) (by decide) (by decide) CL_L_21 (List.mem_of_getElem? (i := 8) rfl) h1 h2 h3 ?_
      refine lv_astore (lv' := [(4, .ref q9), (0, .ref (α 0 0)), (1, .int p0), (2, .int p1), (3, .ref o)]) hx hb dL_offer_13 hl (by decide) rfl (fun ls hl => ?_)
      refine lv_iconst (v := 1) hx hb dL_offer_15 (by decide) ?_
      exact k_iret (f, α, L) F (hW.eq (congrArg (xWd ((o, .inl (cA 4, 1, .inr (.inl f))) :: c1 :: wr) cA α L) hst.symm)) ⟨by rw [e]; rfl, rfl, by rw [hst]; exact hLk, fun z => absurd z hp0⟩ dL_offer_16 (Nat.le_of_ble_eq_true rfl) (Nat.le_of_ble_eq_true rfl)
    · rw [e] at hpE
      obtain rfl : E = "java/util/NoSuchElementException" := hpE
      refine k_catch (own := RL) (E := "java/util/NoSuchElementException") F G rfl [⟨0, 10, 13, 21⟩] ⟨0, 10, 17, 36⟩ [] rfl (List.forall_mem_cons.mpr ⟨⟨by decide, "java/lang/IndexOutOfBoundsException", CL_L_21, List.mem_of_getElem? (i := 18) rfl⟩, fun _ h => nomatch h⟩) (by decide) (by decide) CL_L_36 (List.mem_of_getElem? (i := 6) rfl) h1 h2 h3 ?_
      refine lv_astore (lv' := [(4, .ref q9), (0, .ref (α 0 0)), (1, .int p0), (2, .int p1), (3, .ref o)]) hx hb dL_offer_17 hl (by decide) rfl (fun ls hl => ?_)
      refine lv_iconst (v := 2) hx hb dL_offer_19 (by decide) ?_
      exact k_iret (f, α, L) F (hW.eq (congrArg (xWd ((o, .inl (cA 4, 1, .inr (.inl f))) :: c1 :: wr) cA α L) hst.symm)) ⟨by rw [e]; rfl, rfl, by rw [hst]; exact hLk, fun z => absurd z hp0⟩ dL_offer_20 (Nat.le_of_ble_eq_true rfl) (Nat.le_of_ble_eq_true rfl)
  · obtain ⟨hop, rfl⟩ := hw
    refine lv_i2l hx hb dL_offer_8 rfl ?_
    refine k_last F hW 0 rfl z_in (xWd ((o, .inl (cA 4, 1, .inr (.inl (vp_updL f 0 (((op_offer (N, R, Fr, inc) p0 p1).2.1).toInt64))))) :: c1 :: wr) cA (α) (L) (op_offer (N, R, Fr, inc) p0 p1).2.2) (by rw [z_cl]; rfl) dL_offer_9 (fun H locs hW => ?_)
    refine lv_goto (tgt := 21) hx hb dL_offer_10 (by decide) ?_
    refine lv_iconst (v := 0) hx hb dL_offer_21 (by decide) ?_
    exact k_iret (vp_updL f 0 (((op_offer (N, R, Fr, inc) p0 p1).2.1).toInt64), α, L) F hW ⟨by rw [hop]; rfl, rfl, hLk.same (n2_offer N R Fr inc p0 p1), fun _ => by show vp_updL f 0 _ 0 = _; exact pk_uLs⟩ dL_offer_22 (Nat.le_of_ble_eq_true rfl) (Nat.le_of_ble_eq_true rfl)
set_option maxHeartbeats 4000000 in
set_option maxRecDepth 100000 in
theorem met_L_price (l : Launch) (D : va_G) (cA : Nat → ClassId) (wr : va_W) (α : Nat → Nat → Nat) (L : List (Nat × Nat)) (N : Nat → Nat → Nat) (R : Nat → Nat → Nat → Int32) (Fr : Nat → UInt32) (inc : Int64) (o : Nat) (f : Nat → Int64) (c1 : Nat × va_E) (n : Nat) (p0 : Int32) (z0 : Nat) (hl0 : l.stackTraces = false) (hLk : LOK N L) (hI : IV n (N, R, Fr, inc)) (hn : n ≤ 1000) : MetHI z0 l yL_price (.codeWith yL_price cL_price 4 (some .int) [(0, 9, 12, 36), (0, 9, 15, 15), (0, 9, 18, 23)] :: LW) ({ frames := 9, cells := 3, slots := 18, locals := 155 }) D cA (xWd ((o, .inl (cA 4, 1, .inr (.inl f))) :: c1 :: wr) cA α L (N, R, Fr, inc)) [.ref (α 0 0), .int p0, .ref o] (fun r (u : (Nat → Int64) × (Nat → Nat → Nat) × List (Nat × Nat)) => r = nI (op_price (N, R, Fr, inc) p0).1 ∧ u.2.1 0 0 = α 0 0 ∧ LOK (op_price (N, R, Fr, inc) p0).2.2.1 u.2.2 ∧ ((op_price (N, R, Fr, inc) p0).1 = 0 → u.1 0 = ((op_price (N, R, Fr, inc) p0).2.1).toInt64)) (fun u => xWd ((o, .inl (cA 4, 1, .inr (.inl u.1))) :: c1 :: wr) cA u.2.1 u.2.2 (op_price (N, R, Fr, inc) p0).2.2) 3 18 := by
  refine k_bodyH hl0 (by decide) (Nat.le_of_ble_eq_true rfl) (fun p e s m args below meth c ls F G hW hl => ?_)
  obtain ⟨hx, hb, hr, hml, hown, hts, hlocks, hname⟩ := id F
  have hl : lv_has ls 4 [(0, .ref (α 0 0)), (1, .int p0), (2, .ref o)] := hl
  have h : INV n N R Fr inc := hI.1
  refine lv_aload_n hx hb dL_price_0 rfl (lv_at hl 2 rfl) ?_
  refine lv_iconst (v := 0) hx hb dL_price_1 (by decide) ?_
  refine lv_aload_n hx hb dL_price_2 rfl (lv_at hl 0 rfl) ?_
  refine lv_iload_n hx hb dL_price_3 rfl (lv_at hl 1 rfl) ?_
  obtain ⟨q, hq⟩ := xw_at (wr := (o, .inl (cA 4, 1, .inr (.inl f))) :: c1 :: wr) (cA := cA) (α := α) (L := L) (S := (N, R, Fr, inc)) 0 0 (hLk.o 0 (by decide))
  refine k_tryi (as := [.int p0]) (rest := [.int 0, .ref o]) (b := α 0 0) (ci := 6) (q0 := q) F G hW (met_X4_price l D cA ((o, .inl (cA 4, 1, .inr (.inl f))) :: c1 :: wr) α L N R Fr inc p0 z0 hl0 hLk (iv_ic h) (iv_lot h) (iv_ck h)) rfl ML_L_81 IM_X4_price SE_X4_price IN_X4 CO_X4_price hdV_X4_price rfl rfl ⟨(Nat.le_of_ble_eq_true rfl), (Nat.le_of_ble_eq_true rfl)⟩ rfl rfl hq rfl rfl dL_price_4 hl.1 (Nat.le_of_ble_eq_true rfl) ⟨(Nat.le_of_ble_eq_true rfl), (Nat.le_of_ble_eq_true rfl)⟩ (fun E ce q9 H locs hp hW h1 h2 h3 => ?_) (fun r u H locs hw hW => ?_)
  · obtain ⟨hp0, hpE⟩ := hp
    obtain ⟨hk1, hk2⟩ := ce_price N R Fr inc p0
    have hst := hk2 hp0
    rcases (show (op_price (N, R, Fr, inc) p0).1 = 1 ∨ (op_price (N, R, Fr, inc) p0).1 = 2 ∨ (op_price (N, R, Fr, inc) p0).1 = 3 by omega) with e | e | e
    · rw [e] at hpE
      obtain rfl : E = "java/util/NoSuchElementException" := hpE
      refine k_catch (own := RL) (E := "java/util/NoSuchElementException") F G rfl [] ⟨0, 9, 12, 36⟩ [⟨0, 9, 15, 15⟩, ⟨0, 9, 18, 23⟩] rfl (fun _ h => nomatch h) (by decide) (by decide) CL_L_36 (List.mem_of_getElem? (i := 6) rfl) h1 h2 h3 ?_
      refine lv_astore_n (lv' := [(3, .ref q9), (0, .ref (α 0 0)), (1, .int p0), (2, .ref o)]) hx hb dL_price_12 rfl hl (by decide) rfl (fun ls hl => ?_)
      refine lv_iconst (v := 1) hx hb dL_price_13 (by decide) ?_
      exact k_iret (f, α, L) F (hW.eq (congrArg (xWd ((o, .inl (cA 4, 1, .inr (.inl f))) :: c1 :: wr) cA α L) hst.symm)) ⟨by rw [e]; rfl, rfl, by rw [hst]; exact hLk, fun z => absurd z hp0⟩ dL_price_14 (Nat.le_of_ble_eq_true rfl) (Nat.le_of_ble_eq_true rfl)
    · rw [e] at hpE
      obtain rfl : E = "java/lang/IllegalStateException" := hpE
      refine k_catch (own := RL) (E := "java/lang/IllegalStateException") F G rfl [⟨0, 9, 12, 36⟩] ⟨0, 9, 15, 15⟩ [⟨0, 9, 18, 23⟩] rfl (List.forall_mem_cons.mpr ⟨⟨by decide, "java/util/NoSuchElementException", CL_L_36, List.mem_of_getElem? (i := 7) rfl⟩, fun _ h => nomatch h⟩) (by decide) (by decide) CL_L_15 (List.mem_of_getElem? (i := 4) rfl) h1 h2 h3 ?_
      refine lv_astore_n (lv' := [(3, .ref q9), (0, .ref (α 0 0)), (1, .int p0), (2, .ref o)]) hx hb dL_price_15 rfl hl (by decide) rfl (fun ls hl => ?_)
      refine lv_iconst (v := 2) hx hb dL_price_16 (by decide) ?_
      exact k_iret (f, α, L) F (hW.eq (congrArg (xWd ((o, .inl (cA 4, 1, .inr (.inl f))) :: c1 :: wr) cA α L) hst.symm)) ⟨by rw [e]; rfl, rfl, by rw [hst]; exact hLk, fun z => absurd z hp0⟩ dL_price_17 (Nat.le_of_ble_eq_true rfl) (Nat.le_of_ble_eq_true rfl)
    · rw [e] at hpE
      obtain rfl : E = "java/lang/UnsupportedOperationException" := hpE
      refine k_catch (own := RL) (E := "java/lang/UnsupportedOperationException") F G rfl [⟨0, 9, 12, 36⟩, ⟨0, 9, 15, 15⟩] ⟨0, 9, 18, 23⟩ [] rfl (List.forall_mem_cons.mpr ⟨⟨by decide, "java/util/NoSuchElementException", CL_L_36, List.mem_of_getElem? (i := 15) rfl⟩, List.forall_mem_cons.mpr ⟨⟨by decide, "java/lang/IllegalStateException", CL_L_15, List.mem_of_getElem? (i := 13) rfl⟩, fun _ h => nomatch h⟩⟩) (by decide) (by decide) CL_L_23 (List.mem_of_getElem? (i := 5) rfl) h1 h2 h3 ?_
      refine lv_astore_n (lv' := [(3, .ref q9), (0, .ref (α 0 0)), (1, .int p0), (2, .ref o)]) hx hb dL_price_18 rfl hl (by decide) rfl (fun ls hl => ?_)
      refine lv_iconst (v := 3) hx hb dL_price_19 (by decide) ?_
      exact k_iret (f, α, L) F (hW.eq (congrArg (xWd ((o, .inl (cA 4, 1, .inr (.inl f))) :: c1 :: wr) cA α L) hst.symm)) ⟨by rw [e]; rfl, rfl, by rw [hst]; exact hLk, fun z => absurd z hp0⟩ dL_price_20 (Nat.le_of_ble_eq_true rfl) (Nat.le_of_ble_eq_true rfl)
  · obtain ⟨hop, rfl⟩ := hw
    refine lv_i2l hx hb dL_price_7 rfl ?_
    refine k_last F hW 0 rfl z_in (xWd ((o, .inl (cA 4, 1, .inr (.inl (vp_updL f 0 (((op_price (N, R, Fr, inc) p0).2.1).toInt64))))) :: c1 :: wr) cA (α) (L) (op_price (N, R, Fr, inc) p0).2.2) (by rw [z_cl]; rfl) dL_price_8 (fun H locs hW => ?_)
    refine lv_goto (tgt := 21) hx hb dL_price_9 (by decide) ?_
    refine lv_iconst (v := 0) hx hb dL_price_21 (by decide) ?_
    exact k_iret (vp_updL f 0 (((op_price (N, R, Fr, inc) p0).2.1).toInt64), α, L) F hW ⟨by rw [hop]; rfl, rfl, hLk.same (n2_price N R Fr inc p0), fun _ => by show vp_updL f 0 _ 0 = _; exact pk_uLs⟩ dL_price_22 (Nat.le_of_ble_eq_true rfl) (Nat.le_of_ble_eq_true rfl)
