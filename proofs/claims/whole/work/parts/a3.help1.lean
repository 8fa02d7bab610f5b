/-! Contracts of the law's own methods -/
theorem z_cl : (0 : Int32).toNatClampNeg = 0 := by decide
theorem z_in : vp_in (0 : Int32) 1 := vp_in_nI (show 0 < 1 by decide) (by decide)
theorem no_fresh {n : Nat} {N : Nat → Nat → Nat} {R : Nat → Nat → Nat → Int32} {Fr : Nat → UInt32} {inc : Int64} {p0 : Int32} (h : INV n N R Fr inc) (h0 : (op_fresh (N, R, Fr, inc) p0).1 = 0) : FP.Core.fIsNaN (op_fresh (N, R, Fr, inc) p0).2.1 = false := by
  simp only [op_fresh] at h0 ⊢
  split
  · rename_i q
    rw [if_pos q] at h0
    simp at h0
  · rename_i q
    have q : isIx (N 0 1) p0 = true := by simpa using q
    exact fo_no (iv_lot h _ (ix_lt2 q (by have := (iv_ic h).2.1; omega))).2.2.2.2.1
theorem no_share {n : Nat} {N : Nat → Nat → Nat} {R : Nat → Nat → Nat → Int32} {Fr : Nat → UInt32} {inc : Int64} (h : INV n N R Fr inc) (h0 : (op_soldShare (N, R, Fr, inc)).1 = 0) : FP.Core.fIsNaN (op_soldShare (N, R, Fr, inc)).2.1 = false := by
  simp only [op_soldShare] at h0 ⊢
  split
  · rename_i q
    rw [if_pos q] at h0
    simp at h0
  · rename_i q
    exact share_no _ (wsum_nz (fun j hj => (iv_lot h j hj).2.2.1) q (iv_ic h).2.1)
theorem no_mean {N : Nat → Nat → Nat} {R : Nat → Nat → Nat → Int32} {Fr : Nat → UInt32} {inc : Int64} (h0 : (op_meanPrice (N, R, Fr, inc)).1 = 0) : FP.Core.dIsNaN (op_meanPrice (N, R, Fr, inc)).2.1 = false := by
  simp only [op_meanPrice] at h0 ⊢
  split
  · rename_i q
    rw [if_pos q] at h0
    simp at h0
  · rename_i q
    exact mean_no _ q
set_option maxHeartbeats 4000000 in
set_option maxRecDepth 100000 in
theorem met_L_addBoat (l : Launch) (D : va_G) (cA : Nat → ClassId) (wr : va_W) (α : Nat → Nat → Nat) (L : List (Nat × Nat)) (N : Nat → Nat → Nat) (R : Nat → Nat → Nat → Int32) (Fr : Nat → UInt32) (inc : Int64) (o : Nat) (f : Nat → Int64) (c1 : Nat × va_E) (n : Nat) (p0 p1 p2 p3 : Int32) (z0 : Nat) (hl0 : l.stackTraces = false) (hLk : LOK N L) (hI : IV n (N, R, Fr, inc)) (hn : n ≤ 1000) : MetHI z0 l yL_addBoat (.codeWith yL_addBoat cL_addBoat 7 (some .int) [(0, 14, 17, 13), (0, 14, 21, 15)] :: LW) ({ frames := 7, cells := 4, slots := 88, locals := 115 }) D cA (xWd ((o, .inl (cA 4, 1, .inr (.inl f))) :: c1 :: wr) cA α L (N, R, Fr, inc)) [.ref (α 0 0), .int p0, .int p1, .int p2, .int p3, .ref o] (fun r (u : (Nat → Int64) × (Nat → Nat → Nat) × List (Nat × Nat)) => r = nI (op_addBoat (N, R, Fr, inc) p0 p1 p2 p3).1 ∧ u.2.1 0 0 = α 0 0 ∧ LOK (op_addBoat (N, R, Fr, inc) p0 p1 p2 p3).2.2.1 u.2.2 ∧ ((op_addBoat (N, R, Fr, inc) p0 p1 p2 p3).1 = 0 → u.1 0 = ((op_addBoat (N, R, Fr, inc) p0 p1 p2 p3).2.1).toInt64)) (fun u => xWd ((o, .inl (cA 4, 1, .inr (.inl u.1))) :: c1 :: wr) cA u.2.1 u.2.2 (op_addBoat (N, R, Fr, inc) p0 p1 p2 p3).2.2) 4 88 := by
  refine k_bodyH hl0 (by decide) (Nat.le_of_ble_eq_true rfl) (fun p e s m args below meth c ls F G hW hl => ?_)
  obtain ⟨hx, hb, hr, hml, hown, hts, hlocks, hname⟩ := id F
  have hl : lv_has ls 7 [(0, .ref (α 0 0)), (1, .int p0), (2, .int p1), (3, .int p2), (4, .int p3), (5, .ref o)] := hl
  have h : INV n N R Fr inc := hI.1
  refine lv_aload hx hb dL_addBoat_0 (lv_at hl 5 rfl) ?_
  refine lv_iconst (v := 0) hx hb dL_addBoat_2 (by decide) ?_
  refine lv_aload_n hx hb dL_addBoat_3 rfl (lv_at hl 0 rfl) ?_
  refine lv_iload_n hx hb dL_addBoat_4 rfl (lv_at hl 1 rfl) ?_
  refine lv_iload_n hx hb dL_addBoat_5 rfl (lv_at hl 2 rfl) ?_
  refine lv_iload_n hx hb dL_addBoat_6 rfl (lv_at hl 3 rfl) ?_
  refine lv_iload hx hb dL_addBoat_7 (lv_at hl 4 rfl) ?_
  obtain ⟨q, hq⟩ := xw_at (wr := (o, .inl (cA 4, 1, .inr (.inl f))) :: c1 :: wr) (cA := cA) (α := α) (L := L) (S := (N, R, Fr, inc)) 0 0 (hLk.o 0 (by decide))
  refine k_tryi (as := [.int p0, .int p1, .int p2, .int p3]) (rest := [.int 0, .ref o]) (b := α 0 0) (ci := 6) (q0 := q) F G hW (met_X4_addBoat l D cA ((o, .inl (cA 4, 1, .inr (.inl f))) :: c1 :: wr) α L N R Fr inc p0 p1 p2 p3 z0 hl0 hLk (iv_ic h) (iv_own h) (iv_tr h) (fun s => iv_q1 h _ s (Nat.le_refl _)) (fun s => iv_q3 h _ s (Nat.le_refl _)) (fun d s _ => iv_d2 h d _ (by omega))) rfl ML_L_7 IM_X4_addBoat SE_X4_addBoat IN_X4 CO_X4_addBoat hdV_X4_addBoat rfl rfl ⟨(Nat.le_of_ble_eq_true rfl), (Nat.le_of_ble_eq_true rfl)⟩ rfl rfl hq rfl rfl dL_addBoat_9 hl.1 (Nat.le_of_ble_eq_true rfl) ⟨(Nat.le_of_ble_eq_true rfl), (Nat.le_of_ble_eq_true rfl)⟩ (fun E ce q9 H locs hp hW h1 h2 h3 => ?_) (fun r u H locs hw hW => ?_)
  · obtain ⟨hp0, hpE⟩ := hp
    obtain ⟨hk1, hk2⟩ := ce_addBoat N R Fr inc p0 p1 p2 p3
    have hst := hk2 hp0
    rcases (show (op_addBoat (N, R, Fr, inc) p0 p1 p2 p3).1 = 1 ∨ (op_addBoat (N, R, Fr, inc) p0 p1 p2 p3).1 = 2 by omega) with e | e
    · rw [e] at hpE
      obtain rfl : E = "java/lang/IllegalArgumentException" := hpE
      refine k_catch (own := RL) (E := "java/lang/IllegalArgumentException") F G rfl [] ⟨0, 14, 17, 13⟩ [⟨0, 14, 21, 15⟩] rfl (fun _ h => nomatch h) (by decide) (by decide) CL_L_13 (List.mem_of_getElem? (i := 3) rfl) h1 h2 h3 ?_
      refine lv_astore (lv' := [(6, .ref q9), (0, .ref (α 0 0)), (1, .int p0), (2, .int p1), (3, .int p2), (4, .int p3), (5, .ref o)]) hx hb dL_addBoat_17 hl (by decide) rfl (fun ls hl => ?_)
      refine lv_iconst (v := 1) hx hb dL_addBoat_19 (by decide) ?_
      exact k_iret (f, α, L) F (hW.eq (congrArg (xWd ((o, .inl (cA 4, 1, .inr (.inl f))) :: c1 :: wr) cA α L) hst.symm)) ⟨by rw [e]; rfl, rfl, by rw [hst]; exact hLk, fun z => absurd z hp0⟩ dL_addBoat_20 (Nat.le_of_ble_eq_true rfl) (Nat.le_of_ble_eq_true rfl)
    · rw [e] at hpE
      obtain rfl : E = "java/lang/IllegalStateException" := hpE
      refine k_catch (own := RL) (E := "java/lang/IllegalStateException") F G rfl [⟨0, 14, 17, 13⟩] ⟨0, 14, 21, 15⟩ [] rfl (List.forall_mem_cons.mpr ⟨⟨by decide, "java/lang/IllegalArgumentException", CL_L_13, List.mem_of_getElem? (i := 4) rfl⟩, fun _ h => nomatch h⟩) (by decide) (by decide) CL_L_15 (List.mem_of_getElem? (i := 4) rfl) h1 h2 h3 ?_
      refine lv_astore (lv' := [(6, .ref q9), (0, .ref (α 0 0)), (1, .int p0), (2, .int p1), (3, .int p2), (4, .int p3), (5, .ref o)]) hx hb dL_addBoat_21 hl (by decide) rfl (fun ls hl => ?_)
      refine lv_iconst (v := 2) hx hb dL_addBoat_23 (by decide) ?_
      exact k_iret (f, α, L) F (hW.eq (congrArg (xWd ((o, .inl (cA 4, 1, .inr (.inl f))) :: c1 :: wr) cA α L) hst.symm)) ⟨by rw [e]; rfl, rfl, by rw [hst]; exact hLk, fun z => absurd z hp0⟩ dL_addBoat_24 (Nat.le_of_ble_eq_true rfl) (Nat.le_of_ble_eq_true rfl)
  · obtain ⟨hop, rfl⟩ := hw
    refine lv_i2l hx hb dL_addBoat_12 rfl ?_
    refine k_last F hW 0 rfl z_in (xWd ((o, .inl (cA 4, 1, .inr (.inl (vp_updL f 0 (((op_addBoat (N, R, Fr, inc) p0 p1 p2 p3).2.1).toInt64))))) :: c1 :: wr) cA (alW α (N 0 0) u.1 u.2.1 u.2.2.1 u.2.2.2) (L ++ [(5, N 0 0), (6, N 0 0), (7, N 0 0), (8, N 0 0)]) (op_addBoat (N, R, Fr, inc) p0 p1 p2 p3).2.2) (by rw [z_cl]; rfl) dL_addBoat_13 (fun H locs hW => ?_)
    refine lv_goto (tgt := 25) hx hb dL_addBoat_14 (by decide) ?_
    refine lv_iconst (v := 0) hx hb dL_addBoat_25 (by decide) ?_
    exact k_iret (vp_updL f 0 (((op_addBoat (N, R, Fr, inc) p0 p1 p2 p3).2.1).toInt64), alW α (N 0 0) u.1 u.2.1 u.2.2.1 u.2.2.2, L ++ [(5, N 0 0), (6, N 0 0), (7, N 0 0), (8, N 0 0)]) F hW ⟨by rw [hop]; rfl, by simp [alW, upA], (lok_boat hLk (iv_ic h)).same (n2_addBoat N R Fr inc p0 p1 p2 p3 hop), fun _ => by show vp_updL f 0 _ 0 = _; exact pk_uLs⟩ dL_addBoat_26 (Nat.le_of_ble_eq_true rfl) (Nat.le_of_ble_eq_true rfl)
set_option maxHeartbeats 4000000 in
set_option maxRecDepth 100000 in
theorem met_L_land (l : Launch) (D : va_G) (cA : Nat → ClassId) (wr : va_W) (α : Nat → Nat → Nat) (L : List (Nat × Nat)) (N : Nat → Nat → Nat) (R : Nat → Nat → Nat → Int32) (Fr : Nat → UInt32) (inc : Int64) (o : Nat) (f : Nat → Int64) (c1 : Nat × va_E) (n : Nat) (p0 p1 p2 p3 p4 : Int32) (z0 : Nat) (hl0 : l.stackTraces = false) (hLk : LOK N L) (hI : IV n (N, R, Fr, inc)) (hn : n ≤ 1000) (hz : p4 = 0 ∨ p4 = 1) : MetHI z0 l yL_land (.codeWith yL_land cL_land 8 (some .int) [(0, 16, 19, 21), (0, 16, 23, 13), (0, 16, 27, 15), (0, 16, 31, 23)] :: LW) ({ frames := 8, cells := 2, slots := 17, locals := 139 }) D cA (xWd ((o, .inl (cA 4, 1, .inr (.inl f))) :: c1 :: wr) cA α L (N, R, Fr, inc)) [.ref (α 0 0), .int p0, .int p1, .int p2, .int p3, .int p4, .ref o] (fun r (u : (Nat → Int64) × (Nat → Nat → Nat) × List (Nat × Nat)) => r = nI (op_land (N, R, Fr, inc) p0 p1 p2 p3 p4).1 ∧ u.2.1 0 0 = α 0 0 ∧ LOK (op_land (N, R, Fr, inc) p0 p1 p2 p3 p4).2.2.1 u.2.2 ∧ ((op_land (N, R, Fr, inc) p0 p1 p2 p3 p4).1 = 0 → u.1 0 = ((op_land (N, R, Fr, inc) p0 p1 p2 p3 p4).2.1).toInt64)) (fun u => xWd ((o, .inl (cA 4, 1, .inr (.inl u.1))) :: c1 :: wr) cA u.2.1 u.2.2 (op_land (N, R, Fr, inc) p0 p1 p2 p3 p4).2.2) 2 17 := by
  refine k_bodyH hl0 (by decide) (Nat.le_of_ble_eq_true rfl) (fun p e s m args below meth c ls F G hW hl => ?_)
  obtain ⟨hx, hb, hr, hml, hown, hts, hlocks, hname⟩ := id F
  have hl : lv_has ls 8 [(0, .ref (α 0 0)), (1, .int p0), (2, .int p1), (3, .int p2), (4, .int p3), (5, .int p4), (6, .ref o)] := hl
  have h : INV n N R Fr inc := hI.1
  refine lv_aload hx hb dL_land_0 (lv_at hl 6 rfl) ?_
  refine lv_iconst (v := 0) hx hb dL_land_2 (by decide) ?_
  refine lv_aload_n hx hb dL_land_3 rfl (lv_at hl 0 rfl) ?_
  refine lv_iload_n hx hb dL_land_4 rfl (lv_at hl 1 rfl) ?_
  refine lv_iload_n hx hb dL_land_5 rfl (lv_at hl 2 rfl) ?_
  refine lv_iload_n hx hb dL_land_6 rfl (lv_at hl 3 rfl) ?_
  refine lv_iload hx hb dL_land_7 (lv_at hl 4 rfl) ?_
  refine lv_iload hx hb dL_land_9 (lv_at hl 5 rfl) ?_
  obtain ⟨q, hq⟩ := xw_at (wr := (o, .inl (cA 4, 1, .inr (.inl f))) :: c1 :: wr) (cA := cA) (α := α) (L := L) (S := (N, R, Fr, inc)) 0 0 (hLk.o 0 (by decide))
  refine k_tryi (as := [.int p0, .int p1, .int p2, .int p3, .int p4]) (rest := [.int 0, .ref o]) (b := α 0 0) (ci := 6) (q0 := q) F G hW (met_X4_land l D cA ((o, .inl (cA 4, 1, .inr (.inl f))) :: c1 :: wr) α L N R Fr inc p0 p1 p2 p3 p4 z0 hl0 hLk (iv_ic h) (iv_own h) (iv_tr h) (iv_l1 h _ (Nat.le_refl _)).1 (iv_l1 h _ (Nat.le_refl _)).2 hz) rfl ML_L_17 IM_X4_land SE_X4_land IN_X4 CO_X4_land hdV_X4_land rfl rfl ⟨(Nat.le_of_ble_eq_true rfl), (Nat.le_of_ble_eq_true rfl)⟩ rfl rfl hq rfl rfl dL_land_11 hl.1 (Nat.le_of_ble_eq_true rfl) ⟨(Nat.le_of_ble_eq_true rfl), (Nat.le_of_ble_eq_true rfl)⟩ (fun E ce q9 H locs hp hW h1 h2 h3 => ?_) (fun r u H locs hw hW => ?_)
  · obtain ⟨hp0, hpE⟩ := hp
    obtain ⟨hk1, hk2⟩ := ce_land N R Fr inc p0 p1 p2 p3 p4
    have hst := hk2 hp0
    rcases (show (op_land (N, R, Fr, inc) p0 p1 p2 p3 p4).1 = 1 ∨ (op_land (N, R, Fr, inc) p0 p1 p2 p3 p4).1 = 2 ∨ (op_land (N, R, Fr, inc) p0 p1 p2 p3 p4).1 = 3 ∨ (op_land (N, R, Fr, inc) p0 p1 p2 p3 p4).1 = 4 by omega) with e | e | e | e
    · rw [e] at hpE
      obtain rfl : E = "java/lang/IndexOutOfBoundsException" := hpE
      refine k_catch (own := RL) (E := "java/lang/IndexOutOfBoundsException") F G rfl [] ⟨0, 16, 19, 21⟩ [⟨0, 16, 23, 13⟩, ⟨0, 16, 27, 15⟩, ⟨0, 16, 31, 23⟩] rfl (fun _ h => nomatch h) (by decide) (by decide) CL_L_21 (List.mem_of_getElem? (i := 8) rfl) h1 h2 h3 ?_
      refine lv_astore (lv' := [(7, .ref q9), (0, .ref (α 0 0)), (1, .int p0), (2, .int p1), (3, .int p2), (4, .int p3), (5, .int p4), (6, .ref o)]) hx hb dL_land_19 hl (by decide) rfl (fun ls hl => ?_)
      refine lv_iconst (v := 1) hx hb dL_land_21 (by decide) ?_
      exact k_iret (f, α, L) F (hW.eq (congrArg (xWd ((o, .inl (cA 4, 1, .inr (.inl f))) :: c1 :: wr) cA α L) hst.symm)) ⟨by rw [e]; rfl, rfl, by rw [hst]; exact hLk, fun z => absurd z hp0⟩ dL_land_22 (Nat.le_of_ble_eq_true rfl) (Nat.le_of_ble_eq_true rfl)
    · rw [e] at hpE
      obtain rfl : E = "java/lang/IllegalArgumentException" := hpE
      refine k_catch (own := RL) (E := "java/lang/IllegalArgumentException") F G rfl [⟨0, 16, 19, 21⟩] ⟨0, 16, 23, 13⟩ [⟨0, 16, 27, 15⟩, ⟨0, 16, 31, 23⟩] rfl (List.forall_mem_cons.mpr ⟨⟨by decide, "java/lang/IndexOutOfBoundsException", CL_L_21, List.mem_of_getElem? (i := 1) rfl⟩, fun _ h => nomatch h⟩) (by decide) (by decide) CL_L_13 (List.mem_of_getElem? (i := 3) rfl) h1 h2 h3 ?_
      refine lv_astore (lv' := [(7, .ref q9), (0, .ref (α 0 0)), (1, .int p0), (2, .int p1), (3, .int p2), (4, .int p3), (5, .int p4), (6, .ref o)]) hx hb dL_land_23 hl (by decide) rfl (fun ls hl => ?_)
      refine lv_iconst (v := 2) hx hb dL_land_25 (by decide) ?_
      exact k_iret (f, α, L) F (hW.eq (congrArg (xWd ((o, .inl (cA 4, 1, .inr (.inl f))) :: c1 :: wr) cA α L) hst.symm)) ⟨by rw [e]; rfl, rfl, by rw [hst]; exact hLk, fun z => absurd z hp0⟩ dL_land_26 (Nat.le_of_ble_eq_true rfl) (Nat.le_of_ble_eq_true rfl)
    · rw [e] at hpE
      obtain rfl : E = "java/lang/IllegalStateException" := hpE
      refine k_catch (own := RL) (E := "java/lang/IllegalStateException") F G rfl [⟨0, 16, 19, 21⟩, ⟨0, 16, 23, 13⟩] ⟨0, 16, 27, 15⟩ [⟨0, 16, 31, 23⟩] rfl (List.forall_mem_cons.mpr ⟨⟨by decide, "java/lang/IndexOutOfBoundsException", CL_L_21, List.mem_of_getElem? (i := 5) rfl⟩, List.forall_mem_cons.mpr ⟨⟨by decide, "java/lang/IllegalArgumentException", CL_L_13, List.mem_of_getElem? (i := 4) rfl⟩, fun _ h => nomatch h⟩⟩) (by decide) (by decide) CL_L_15 (List.mem_of_getElem? (i := 4) rfl) h1 h2 h3 ?_
      refine lv_astore (lv' := [(7, .ref q9), (0, .ref (α 0 0)), (1, .int p0), (2, .int p1), (3, .int p2), (4, .int p3), (5, .int p4), (6, .ref o)]) hx hb dL_land_27 hl (by decide) rfl (fun ls hl => ?_)
      refine lv_iconst (v := 3) hx hb dL_land_29 (by decide) ?_
      exact k_iret (f, α, L) F (hW.eq (congrArg (xWd ((o, .inl (cA 4, 1, .inr (.inl f))) :: c1 :: wr) cA α L) hst.symm)) ⟨by rw [e]; rfl, rfl, by rw [hst]; exact hLk, fun z => absurd z hp0⟩ dL_land_30 (Nat.le_of_ble_eq_true rfl) (Nat.le_of_ble_eq_true rfl)
    · rw [e] at hpE
      obtain rfl : E = "java/lang/UnsupportedOperationException" := hpE
      refine k_catch (own := RL) (E := "java/lang/UnsupportedOperationException") F G rfl [⟨0, 16, 19, 21⟩, ⟨0, 16, 23, 13⟩, ⟨0, 16, 27, 15⟩] ⟨0, 16, 31, 23⟩ [] rfl (List.forall_mem_cons.mpr ⟨⟨by decide, "java/lang/IndexOutOfBoundsException", CL_L_21, List.mem_of_getElem? (i := 14) rfl⟩, List.forall_mem_cons.mpr ⟨⟨by decide, "java/lang/IllegalArgumentException", CL_L_13, List.mem_of_getElem? (i := 12) rfl⟩, List.forall_mem_cons.mpr ⟨⟨by decide, "java/lang/IllegalStateException", CL_L_15, List.mem_of_getElem? (i := 13) rfl⟩, fun _ h => nomatch h⟩⟩⟩) (by decide) (by decide) CL_L_23 (List.mem_of_getElem? (i := 5) rfl) h1 h2 h3 ?_
      refine lv_astore (lv' := [(7, .ref q9), (0, .ref (α 0 0)), (1, .int p0), (2, .int p1), (3, .int p2), (4, .int p3), (5, .int p4), (6, .ref o)]) hx hb dL_land_31 hl (by decide) rfl (fun ls hl => ?_)
      refine lv_iconst (v := 4) hx hb dL_land_33 (by decide) ?_
      exact k_iret (f, α, L) F (hW.eq (congrArg (xWd ((o, .inl (cA 4, 1, .inr (.inl f))) :: c1 :: wr) cA α L) hst.symm)) ⟨by rw [e]; rfl, rfl, by rw [hst]; exact hLk, fun z => absurd z hp0⟩ dL_land_34 (Nat.le_of_ble_eq_true rfl) (Nat.le_of_ble_eq_true rfl)
  · obtain ⟨hop, rfl⟩ := hw
    refine lv_i2l hx hb dL_land_14 rfl ?_
    refine k_last F hW 0 rfl z_in (xWd ((o, .inl (cA 4, 1, .inr (.inl (vp_updL f 0 (((op_land (N, R, Fr, inc) p0 p1 p2 p3 p4).2.1).toInt64))))) :: c1 :: wr) cA (alL α (N 0 1) u) (L ++ [(9, N 0 1)]) (op_land (N, R, Fr, inc) p0 p1 p2 p3 p4).2.2) (by rw [z_cl]; rfl) dL_land_15 (fun H locs hW => ?_)
    refine lv_goto (tgt := 35) hx hb dL_land_16 (by decide) ?_
    refine lv_iconst (v := 0) hx hb dL_land_35 (by decide) ?_
    exact k_iret (vp_updL f 0 (((op_land (N, R, Fr, inc) p0 p1 p2 p3 p4).2.1).toInt64), alL α (N 0 1) u, L ++ [(9, N 0 1)]) F hW ⟨by rw [hop]; rfl, by simp [alL, upA], (lok_lot hLk (iv_ic h)).same (n2_land N R Fr inc p0 p1 p2 p3 p4 hop), fun _ => by show vp_updL f 0 _ 0 = _; exact pk_uLs⟩ dL_land_36 (Nat.le_of_ble_eq_true rfl) (Nat.le_of_ble_eq_true rfl)
set_option maxHeartbeats 4000000 in
set_option maxRecDepth 100000 in
theorem met_L_moveQuota (l : Launch) (D : va_G) (cA : Nat → ClassId) (wr : va_W) (α : Nat → Nat → Nat) (L : List (Nat × Nat)) (N : Nat → Nat → Nat) (R : Nat → Nat → Nat → Int32) (Fr : Nat → UInt32) (inc : Int64) (o : Nat) (f : Nat → Int64) (c1 : Nat × va_E) (n : Nat) (p0 p1 p2 p3 : Int32) (z0 : Nat) (hl0 : l.stackTraces = false) (hLk : LOK N L) (hI : IV n (N, R, Fr, inc)) (hn : n ≤ 1000) : MetHI z0 l yL_moveQuota (.codeWith yL_moveQuota cL_moveQuota 7 (some .int) [(0, 14, 17, 21), (0, 14, 21, 13), (0, 14, 25, 15)] :: LW) ({ frames := 8, cells := 3, slots := 18, locals := 137 }) D cA (xWd ((o, .inl (cA 4, 1, .inr (.inl f))) :: c1 :: wr) cA α L (N, R, Fr, inc)) [.ref (α 0 0), .int p0, .int p1, .int p2, .int p3, .ref o] (fun r (u : (Nat → Int64) × (Nat → Nat → Nat) × List (Nat × Nat)) => r = nI (op_moveQuota (N, R, Fr, inc) p0 p1 p2 p3).1 ∧ u.2.1 0 0 = α 0 0 ∧ LOK (op_moveQuota (N, R, Fr, inc) p0 p1 p2 p3).2.2.1 u.2.2 ∧ ((op_moveQuota (N, R, Fr, inc) p0 p1 p2 p3).1 = 0 → u.1 0 = ((op_moveQuota (N, R, Fr, inc) p0 p1 p2 p3).2.1).toInt64)) (fun u => xWd ((o, .inl (cA 4, 1, .inr (.inl u.1))) :: c1 :: wr) cA u.2.1 u.2.2 (op_moveQuota (N, R, Fr, inc) p0 p1 p2 p3).2.2) 3 18 := by
  refine k_bodyH hl0 (by decide) (Nat.le_of_ble_eq_true rfl) (fun p e s m args below meth c ls F G hW hl => ?_)
  obtain ⟨hx, hb, hr, hml, hown, hts, hlocks, hname⟩ := id F
  have hl : lv_has ls 7 [(0, .ref (α 0 0)), (1, .int p0), (2, .int p1), (3, .int p2), (4, .int p3), (5, .ref o)] := hl
  have h : INV n N R Fr inc := hI.1
  refine lv_aload hx hb dL_moveQuota_0 (lv_at hl 5 rfl) ?_
  refine lv_iconst (v := 0) hx hb dL_moveQuota_2 (by decide) ?_
  refine lv_aload_n hx hb dL_moveQuota_3 rfl (lv_at hl 0 rfl) ?_
  refine lv_iload_n hx hb dL_moveQuota_4 rfl (lv_at hl 1 rfl) ?_
  refine lv_iload_n hx hb dL_moveQuota_5 rfl (lv_at hl 2 rfl) ?_
  refine lv_iload_n hx hb dL_moveQuota_6 rfl (lv_at hl 3 rfl) ?_
  refine lv_iload hx hb dL_moveQuota_7 (lv_at hl 4 rfl) ?_
  obtain ⟨q, hq⟩ := xw_at (wr := (o, .inl (cA 4, 1, .inr (.inl f))) :: c1 :: wr) (cA := cA) (α := α) (L := L) (S := (N, R, Fr, inc)) 0 0 (hLk.o 0 (by decide))
  refine k_tryi (as := [.int p0, .int p1, .int p2, .int p3]) (rest := [.int 0, .ref o]) (b := α 0 0) (ci := 6) (q0 := q) F G hW (met_X4_moveQuota l D cA ((o, .inl (cA 4, 1, .inr (.inl f))) :: c1 :: wr) α L N R Fr inc p0 p1 p2 p3 z0 hl0 hLk (iv_ic h)) rfl ML_L_25 IM_X4_moveQuota SE_X4_moveQuota IN_X4 CO_X4_moveQuota hdV_X4_moveQuota rfl rfl ⟨(Nat.le_of_ble_eq_true rfl), (Nat.le_of_ble_eq_true rfl)⟩ rfl rfl hq rfl rfl dL_moveQuota_9 hl.1 (Nat.le_of_ble_eq_true rfl) ⟨(Nat.le_of_ble_eq_true rfl), (Nat.le_of_ble_eq_true rfl)⟩ (fun E ce q9 H locs hp hW h1 h2 h3 => ?_) (fun r u H locs hw hW => ?_)
  · obtain ⟨hp0, hpE⟩ := hp
    obtain ⟨hk1, hk2⟩ := ce_moveQuota N R Fr inc p0 p1 p2 p3
    have hst := hk2 hp0
    rcases (show (op_moveQuota (N, R, Fr, inc) p0 p1 p2 p3).1 = 1 ∨ (op_moveQuota (N, R, Fr, inc) p0 p1 p2 p3).1 = 2 ∨ (op_moveQuota (N, R, Fr, inc) p0 p1 p2 p3).1 = 3 by omega) with e | e | e
    · rw [e] at hpE
      obtain rfl : E = "java/lang/IndexOutOfBoundsException" := hpE
      refine k_catch (own := RL) (E := "java/lang/IndexOutOfBoundsException") F G rfl [] ⟨0, 14, 17, 21⟩ [⟨0, 14, 21, 13⟩, ⟨0, 14, 25, 15⟩] rfl (fun _ h => nomatch h) (by decide) (by decide) CL_L_21 (List.mem_of_getElem? (i := 8) rfl) h1 h2 h3 ?_
      refine lv_astore (lv' := [(6, .ref q9), (0, .ref (α 0 0)), (1, .int p0), (2, .int p1), (3, .int p2), (4, .int p3), (5, .ref o)]) hx hb dL_moveQuota_17 hl (by decide) rfl (fun ls hl => ?_)
      refine lv_iconst (v := 1) hx hb dL_moveQuota_19 (by decide) ?_
      exact k_iret (f, α, L) F (hW.eq (congrArg (xWd ((o, .inl (cA 4, 1, .inr (.inl f))) :: c1 :: wr) cA α L) hst.symm)) ⟨by rw [e]; rfl, rfl, by rw [hst]; exact hLk, fun z => absurd z hp0⟩ dL_moveQuota_20 (Nat.le_of_ble_eq_true rfl) (Nat.le_of_ble_eq_true rfl)
    · rw [e] at hpE
      obtain rfl : E = "java/lang/IllegalArgumentException" := hpE
      refine k_catch (own := RL) (E := "java/lang/IllegalArgumentException") F G rfl [⟨0, 14, 17, 21⟩] ⟨0, 14, 21, 13⟩ [⟨0, 14, 25, 15⟩] rfl (List.forall_mem_cons.mpr ⟨⟨by decide, "java/lang/IndexOutOfBoundsException", CL_L_21, List.mem_of_getElem? (i := 1) rfl⟩, fun _ h => nomatch h⟩) (by decide) (by decide) CL_L_13 (List.mem_of_getElem? (i := 3) rfl) h1 h2 h3 ?_
      refine lv_astore (lv' := [(6, .ref q9), (0, .ref (α 0 0)), (1, .int p0), (2, .int p1), (3, .int p2), (4, .int p3), (5, .ref o)]) hx hb dL_moveQuota_21 hl (by decide) rfl (fun ls hl => ?_)
      refine lv_iconst (v := 2) hx hb dL_moveQuota_23 (by decide) ?_
      exact k_iret (f, α, L) F (hW.eq (congrArg (xWd ((o, .inl (cA 4, 1, .inr (.inl f))) :: c1 :: wr) cA α L) hst.symm)) ⟨by rw [e]; rfl, rfl, by rw [hst]; exact hLk, fun z => absurd z hp0⟩ dL_moveQuota_24 (Nat.le_of_ble_eq_true rfl) (Nat.le_of_ble_eq_true rfl)
    · rw [e] at hpE
      obtain rfl : E = "java/lang/IllegalStateException" := hpE
      refine k_catch (own := RL) (E := "java/lang/IllegalStateException") F G rfl [⟨0, 14, 17, 21⟩, ⟨0, 14, 21, 13⟩] ⟨0, 14, 25, 15⟩ [] rfl (List.forall_mem_cons.mpr ⟨⟨by decide, "java/lang/IndexOutOfBoundsException", CL_L_21, List.mem_of_getElem? (i := 5) rfl⟩, List.forall_mem_cons.mpr ⟨⟨by decide, "java/lang/IllegalArgumentException", CL_L_13, List.mem_of_getElem? (i := 4) rfl⟩, fun _ h => nomatch h⟩⟩) (by decide) (by decide) CL_L_15 (List.mem_of_getElem? (i := 4) rfl) h1 h2 h3 ?_
      refine lv_astore (lv' := [(6, .ref q9), (0, .ref (α 0 0)), (1, .int p0), (2, .int p1), (3, .int p2), (4, .int p3), (5, .ref o)]) hx hb dL_moveQuota_25 hl (by decide) rfl (fun ls hl => ?_)
      refine lv_iconst (v := 3) hx hb dL_moveQuota_27 (by decide) ?_
      exact k_iret (f, α, L) F (hW.eq (congrArg (xWd ((o, .inl (cA 4, 1, .inr (.inl f))) :: c1 :: wr) cA α L) hst.symm)) ⟨by rw [e]; rfl, rfl, by rw [hst]; exact hLk, fun z => absurd z hp0⟩ dL_moveQuota_28 (Nat.le_of_ble_eq_true rfl) (Nat.le_of_ble_eq_true rfl)
  · obtain ⟨hop, rfl⟩ := hw
    refine lv_i2l hx hb dL_moveQuota_12 rfl ?_
    refine k_last F hW 0 rfl z_in (xWd ((o, .inl (cA 4, 1, .inr (.inl (vp_updL f 0 (((op_moveQuota (N, R, Fr, inc) p0 p1 p2 p3).2.1).toInt64))))) :: c1 :: wr) cA (α) (L) (op_moveQuota (N, R, Fr, inc) p0 p1 p2 p3).2.2) (by rw [z_cl]; rfl) dL_moveQuota_13 (fun H locs hW => ?_)
    refine lv_goto (tgt := 29) hx hb dL_moveQuota_14 (by decide) ?_
    refine lv_iconst (v := 0) hx hb dL_moveQuota_29 (by decide) ?_
    exact k_iret (vp_updL f 0 (((op_moveQuota (N, R, Fr, inc) p0 p1 p2 p3).2.1).toInt64), α, L) F hW ⟨by rw [hop]; rfl, rfl, hLk.same (n2_moveQuota N R Fr inc p0 p1 p2 p3), fun _ => by show vp_updL f 0 _ 0 = _; exact pk_uLs⟩ dL_moveQuota_30 (Nat.le_of_ble_eq_true rfl) (Nat.le_of_ble_eq_true rfl)
set_option maxHeartbeats 4000000 in
set_option maxRecDepth 100000 in
theorem met_L_quota (l : Launch) (D : va_G) (cA : Nat → ClassId) (wr : va_W) (α : Nat → Nat → Nat) (L : List (Nat × Nat)) (N : Nat → Nat → Nat) (R : Nat → Nat → Nat → Int32) (Fr : Nat → UInt32) (inc : Int64) (o : Nat) (f : Nat → Int64) (c1 : Nat × va_E) (n : Nat) (p0 p1 : Int32) (z0 : Nat) (hl0 : l.stackTraces = false) (hLk : LOK N L) (hI : IV n (N, R, Fr, inc)) (hn : n ≤ 1000) : MetHI z0 l yL_quota (.codeWith yL_quota cL_quota 5 (some .int) [(0, 10, 13, 21), (0, 10, 17, 13)] :: LW) ({ frames := 8, cells := 2, slots := 12, locals := 134 }) D cA (xWd ((o, .inl (cA 4, 1, .inr (.inl f))) :: c1 :: wr) cA α L (N, R, Fr, inc)) [.ref (α 0 0), .int p0, .int p1, .ref o] (fun r (u : (Nat → Int64) × (Nat → Nat → Nat) × List (Nat × Nat)) => r = nI (op_quota (N, R, Fr, inc) p0 p1).1 ∧ u.2.1 0 0 = α 0 0 ∧ LOK (op_quota (N, R, Fr, inc) p0 p1).2.2.1 u.2.2 ∧ ((op_quota (N, R, Fr, inc) p0 p1).1 = 0 → u.1 0 = ((op_quota (N, R, Fr, inc) p0 p1).2.1).toInt64)) (fun u => xWd ((o, .inl (cA 4, 1, .inr (.inl u.1))) :: c1 :: wr) cA u.2.1 u.2.2 (op_quota (N, R, Fr, inc) p0 p1).2.2) 2 12 := by
  refine k_bodyH hl0 (by decide) (Nat.le_of_ble_eq_true rfl) (fun p e s m args below meth c ls F G hW hl => ?_)
  obtain ⟨hx, hb, hr, hml, hown, hts, hlocks, hname⟩ := id F
  have hl : lv_has ls 5 [(0, .ref (α 0 0)), (1, .int p0), (2, .int p1), (3, .ref o)] := hl
  have h : INV n N R Fr inc := hI.1
  refine lv_aload_n hx hb dL_quota_0 rfl (lv_at hl 3 rfl) ?_
  refine lv_iconst (v := 0) hx hb dL_quota_1 (by decide) ?_
  refine lv_aload_n hx hb dL_quota_2 rfl (lv_at hl 0 rfl) ?_
  refine lv_iload_n hx hb dL_quota_3 rfl (lv_at hl 1 rfl) ?_
  refine lv_iload_n hx hb dL_quota_4 rfl (lv_at hl 2 rfl) ?_
  obtain ⟨q, hq⟩ := xw_at (wr := (o, .inl (cA 4, 1, .inr (.inl f))) :: c1 :: wr) (cA := cA) (α := α) (L := L) (S := (N, R, Fr, inc)) 0 0 (hLk.o 0 (by decide))
  refine k_tryi (as := [.int p0, .int p1]) (rest := [.int 0, .ref o]) (b := α 0 0) (ci := 6) (q0 := q) F G hW (met_X4_quota l D cA ((o, .inl (cA 4, 1, .inr (.inl f))) :: c1 :: wr) α L N R Fr inc p0 p1 z0 hl0 hLk (iv_ic h)) rfl ML_L_28 IM_X4_quota SE_X4_quota IN_X4 CO_X4_quota hdV_X4_quota rfl rfl ⟨(Nat.le_of_ble_eq_true rfl), (Nat.le_of_ble_eq_true rfl)⟩ rfl rfl hq rfl rfl dL_quota_5 hl.1 (Nat.le_of_ble_eq_true rfl) ⟨(Nat.le_of_ble_eq_true rfl), (Nat.le_of_ble_eq_true rfl)⟩ (fun E ce q9 H locs hp hW h1 h2 h3 => ?_) (fun r u H locs hw hW => ?_)
  · obtain ⟨hp0, hpE⟩ := hp
    obtain ⟨hk1, hk2⟩ := ce_quota N R Fr inc p0 p1
    have hst := hk2 hp0
    rcases (show (op_quota (N, R, Fr, inc) p0 p1).1 = 1 ∨ (op_quota (N, R, Fr, inc) p0 p1).1 = 2 by omega) with e | e
    · rw [e] at hpE
      obtain rfl : E = "java/lang/IndexOutOfBoundsException" := hpE
      refine k_catch (own := RL) (E := "java/lang/IndexOutOfBoundsException") F G rfl [] ⟨0, 10, 13, 21⟩ [⟨0, 10, 17, 13⟩] rfl (fun _ h => nomatch h) (by decide) (by decide) CL_L_21 (List.mem_of_getElem? (i := 8) rfl) h1 h2 h3 ?_
      refine lv_astore (lv' := [(4, .ref q9), (0, .ref (α 0 0)), (1, .int p0), (2, .int p1), (3, .ref o)]) hx hb dL_quota_13 hl (by decide) rfl (fun ls hl => ?_)
      refine lv_iconst (v := 1) hx hb dL_quota_15 (by decide) ?_
      exact k_iret (f, α, L) F (hW.eq (congrArg (xWd ((o, .inl (cA 4, 1, .inr (.inl f))) :: c1 :: wr) cA α L) hst.symm)) ⟨by rw [e]; rfl, rfl, by rw [hst]; exact hLk, fun z => absurd z hp0⟩ dL_quota_16 (Nat.le_of_ble_eq_true rfl) (Nat.le_of_ble_eq_true rfl)
    · rw [e] at hpE
      obtain rfl : E = "java/lang/IllegalArgumentException" := hpE
      refine k_catch (own := RL) (E := "java/lang/IllegalArgumentException") F G rfl [⟨0, 10, 13, 21⟩] ⟨0, 10, 17, 13⟩ [] rfl (List.forall_mem_cons.mpr ⟨⟨by decide, "java/lang/IndexOutOfBoundsException", CL_L_21, List.mem_of_getElem? (i := 1) rfl⟩, fun _ h => nomatch h⟩) (by decide) (by decide) CL_L_13 (List.mem_of_getElem? (i := 3) rfl) h1 h2 h3 ?_
      refine lv_astore (lv' := [(4, .ref q9), (0, .ref (α 0 0)), (1, .int p0), (2, .int p1), (3, .ref o)]) hx hb dL_quota_17 hl (by decide) rfl (fun ls hl => ?_)
      refine lv_iconst (v := 2) hx hb dL_quota_19 (by decide) ?_
      exact k_iret (f, α, L) F (hW.eq (congrArg (xWd ((o, .inl (cA 4, 1, .inr (.inl f))) :: c1 :: wr) cA α L) hst.symm)) ⟨by rw [e]; rfl, rfl, by rw [hst]; exact hLk, fun z => absurd z hp0⟩ dL_quota_20 (Nat.le_of_ble_eq_true rfl) (Nat.le_of_ble_eq_true rfl)
  · obtain ⟨hop, rfl⟩ := hw
    refine lv_i2l hx hb dL_quota_8 rfl ?_
    refine k_last F hW 0 rfl z_in (xWd ((o, .inl (cA 4, 1, .inr (.inl (vp_updL f 0 (((op_quota (N, R, Fr, inc) p0 p1).2.1).toInt64))))) :: c1 :: wr) cA (α) (L) (op_quota (N, R, Fr, inc) p0 p1).2.2) (by rw [z_cl]; rfl) dL_quota_9 (fun H locs hW => ?_)
    refine lv_goto (tgt := 21) hx hb dL_quota_10 (by decide) ?_
    refine lv_iconst (v := 0) hx hb dL_quota_21 (by decide) ?_
    exact k_iret (vp_updL f 0 (((op_quota (N, R, Fr, inc) p0 p1).2.1).toInt64), α, L) F hW ⟨by rw [hop]; rfl, rfl, hLk.same (n2_quota N R Fr inc p0 p1), fun _ => by show vp_updL f 0 _ 0 = _; exact pk_uLs⟩ dL_quota_22 (Nat.le_of_ble_eq_true rfl) (Nat.le_of_ble_eq_true rfl)
set_option maxHeartbeats 4000000 in
set_option maxRecDepth 100000 in
theorem met_L_quotaAt (l : Launch) (D : va_G) (cA : Nat → ClassId) (wr : va_W) (α : Nat → Nat → Nat) (L : List (Nat × Nat)) (N : Nat → Nat → Nat) (R : Nat → Nat → Nat → Int32) (Fr : Nat → UInt32) (inc : Int64) (o : Nat) (f : Nat → Int64) (c1 : Nat × va_E) (n : Nat) (p0 p1 p2 : Int32) (z0 : Nat) (hl0 : l.stackTraces = false) (hLk : LOK N L) (hI : IV n (N, R, Fr, inc)) (hn : n ≤ 1000) : MetHI z0 l yL_quotaAt (.codeWith yL_quotaAt cL_quotaAt 6 (some .int) [(0, 12, 15, 21), (0, 12, 19, 13), (0, 12, 23, 36)] :: LW) ({ frames := 8, cells := 3, slots := 18, locals := 135 }) D cA (xWd ((o, .inl (cA 4, 1, .inr (.inl f))) :: c1 :: wr) cA α L (N, R, Fr, inc)) [.ref (α 0 0), .int p0, .int p1, .int p2, .ref o] (fun r (u : (Nat → Int64) × (Nat → Nat → Nat) × List (Nat × Nat)) => r = nI (op_quotaAt (N, R, Fr, inc) p0 p1 p2).1 ∧ u.2.1 0 0 = α 0 0 ∧ LOK (op_quotaAt (N, R, Fr, inc) p0 p1 p2).2.2.1 u.2.2 ∧ ((op_quotaAt (N, R, Fr, inc) p0 p1 p2).1 = 0 → u.1 0 = ((op_quotaAt (N, R, Fr, inc) p0 p1 p2).2.1).toInt64)) (fun u => xWd ((o, .inl (cA 4, 1, .inr (.inl u.1))) :: c1 :: wr) cA u.2.1 u.2.2 (op_quotaAt (N, R, Fr, inc) p0 p1 p2).2.2) 3 18 := by
  refine k_bodyH hl0 (by decide) (Nat.le_of_ble_eq_true rfl) (fun p e s m args below meth c ls F G hW hl => ?_)
  obtain ⟨hx, hb, hr, hml, hown, hts, hlocks, hname⟩ := id F
  have hl : lv_has ls 6 [(0, .ref (α 0 0)), (1, .int p0), (2, .int p1), (3, .int p2), (4, .ref o)] := hl
  have h : INV n N R Fr inc := hI.1
  refine lv_aload hx hb dL_quotaAt_0 (lv_at hl 4 rfl) ?_
  refine lv_iconst (v := 0) hx hb dL_quotaAt_2 (by decide) ?_
  refine lv_aload_n hx hb dL_quotaAt_3 rfl (lv_at hl 0 rfl) ?_
  refine lv_iload_n hx hb dL_quotaAt_4 rfl (lv_at hl 1 rfl) ?_
  refine lv_iload_n hx hb dL_quotaAt_5 rfl (lv_at hl 2 rfl) ?_
  refine lv_iload_n hx hb dL_quotaAt_6 rfl (lv_at hl 3 rfl) ?_
  obtain ⟨q, hq⟩ := xw_at (wr := (o, .inl (cA 4, 1, .inr (.inl f))) :: c1 :: wr) (cA := cA) (α := α) (L := L) (S := (N, R, Fr, inc)) 0 0 (hLk.o 0 (by decide))
  refine k_tryi (as := [.int p0, .int p1, .int p2]) (rest := [.int 0, .ref o]) (b := α 0 0) (ci := 6) (q0 := q) F G hW (met_X4_quotaAt l D cA ((o, .inl (cA 4, 1, .inr (.inl f))) :: c1 :: wr) α L N R Fr inc p0 p1 p2 z0 hl0 hLk (iv_ic h)) rfl ML_L_32 IM_X4_quotaAt SE_X4_quotaAt IN_X4 CO_X4_quotaAt hdV_X4_quotaAt rfl rfl ⟨(Nat.le_of_ble_eq_true rfl), (Nat.le_of_ble_eq_true rfl)⟩ rfl rfl hq rfl rfl dL_quotaAt_7 hl.1 (Nat.le_of_ble_eq_true rfl) ⟨(Nat.le_of_ble_eq_true rfl), (Nat.le_of_ble_eq_true rfl)⟩ (fun E ce q9 H locs hp hW h1 h2 h3 => ?_) (fun r u H locs hw hW => ?_)
  · obtain ⟨hp0, hpE⟩ := hp
    obtain ⟨hk1, hk2⟩ := ce_quotaAt N R Fr inc p0 p1 p2
    have hst := hk2 hp0
    rcases (show (op_quotaAt (N, R, Fr, inc) p0 p1 p2).1 = 1 ∨ (op_quotaAt (N, R, Fr, inc) p0 p1 p2).1 = 2 ∨ (op_quotaAt (N, R, Fr, inc) p0 p1 p2).1 = 3 by omega) with e | e | e
    · rw [e] at hpE
      obtain rfl : E = "java/lang/IndexOutOfBoundsException" := hpE
      refine k_catch (own := RL) (E := "java/lang/IndexOutOfBoundsException") F G rfl [] ⟨0, 12, 15, 21⟩ [⟨0, 12, 19, 13⟩, ⟨0, 12, 23, 36⟩] rfl (fun _ h => nomatch h) (by decide) (by decide) CL_L_21 (List.mem_of_getElem? (i := 8) rfl) h1 h2 h3 ?_
      refine lv_astore (lv' := [(5, .ref q9), (0, .ref (α 0 0)), (1, .int p0), (2, .int p1), (3, .int p2), (4, .ref o)]) hx hb dL_quotaAt_15 hl (by decide) rfl (fun ls hl => ?_)
      refine lv_iconst (v := 1) hx hb dL_quotaAt_17 (by decide) ?_
      exact k_iret (f, α, L) F (hW.eq (congrArg (xWd ((o, .inl (cA 4, 1, .inr (.inl f))) :: c1 :: wr) cA α L) hst.symm)) ⟨by rw [e]; rfl, rfl, by rw [hst]; exact hLk, fun z => absurd z hp0⟩ dL_quotaAt_18 (Nat.le_of_ble_eq_true rfl) (Nat.le_of_ble_eq_true rfl)
    · rw [e] at hpE
      obtain rfl : E = "java/lang/IllegalArgumentException" := hpE
      refine k_catch (own := RL) (E := "java/lang/IllegalArgumentException") F G rfl [⟨0, 12, 15, 21⟩] ⟨0, 12, 19, 13⟩ [⟨0, 12, 23, 36⟩] rfl (List.forall_mem_cons.mpr ⟨⟨by decide, "java/lang/IndexOutOfBoundsException", CL_L_21, List.mem_of_getElem? (i := 1) rfl⟩, fun _ h => nomatch h⟩) (by decide) (by decide) CL_L_13 (List.mem_of_getElem? (i := 3) rfl) h1 h2 h3 ?_
      refine lv_astore (lv' := [(5, .ref q9), (0, .ref (α 0 0)), (1, .int p0), (2, .int p1), (3, .int p2), (4, .ref o)]) hx hb dL_quotaAt_19 hl (by decide) rfl (fun ls hl => ?_)
      refine lv_iconst (v := 2) hx hb dL_quotaAt_21 (by decide) ?_
      exact k_iret (f, α, L) F (hW.eq (congrArg (xWd ((o, .inl (cA 4, 1, .inr (.inl f))) :: c1 :: wr) cA α L) hst.symm)) ⟨by rw [e]; rfl, rfl, by rw [hst]; exact hLk, fun z => absurd z hp0⟩ dL_quotaAt_22 (Nat.le_of_ble_eq_true rfl) (Nat.le_of_ble_eq_true rfl)
    · rw [e] at hpE
      obtain rfl : E = "java/util/NoSuchElementException" := hpE
      refine k_catch (own := RL) (E := "java/util/NoSuchElementException") F G rfl [⟨0, 12, 15, 21⟩, ⟨0, 12, 19, 13⟩] ⟨0, 12, 23, 36⟩ [] rfl (List.forall_mem_cons.mpr ⟨⟨by decide, "java/lang/IndexOutOfBoundsException", CL_L_21, List.mem_of_getElem? (i := 18) rfl⟩, List.forall_mem_cons.mpr ⟨⟨by decide, "java/lang/IllegalArgumentException", CL_L_13, List.mem_of_getElem? (i := 16) rfl⟩, fun _ h => nomatch h⟩⟩) (by decide) (by decide) CL_L_36 (List.mem_of_getElem? (i := 6) rfl) h1 h2 h3 ?_
      refine lv_astore (lv' := [(5, .ref q9), (0, .ref (α 0 0)), (1, .int p0), (2, .int p1), (3, .int p2), (4, .ref o)]) hx hb dL_quotaAt_23 hl (by decide) rfl (fun ls hl => ?_)
      refine lv_iconst (v := 3) hx hb dL_quotaAt_25 (by decide) ?_
      exact k_iret (f, α, L) F (hW.eq (congrArg (xWd ((o, .inl (cA 4, 1, .inr (.inl f))) :: c1 :: wr) cA α L) hst.symm)) ⟨by rw [e]; rfl, rfl, by rw [hst]; exact hLk, fun z => absurd z hp0⟩ dL_quotaAt_26 (Nat.le_of_ble_eq_true rfl) (Nat.le_of_ble_eq_true rfl)
  · obtain ⟨hop, rfl⟩ := hw
    refine lv_i2l hx hb dL_quotaAt_10 rfl ?_
    refine k_last F hW 0 rfl z_in (xWd ((o, .inl (cA 4, 1, .inr (.inl (vp_updL f 0 (((op_quotaAt (N, R, Fr, inc) p0 p1 p2).2.1).toInt64))))) :: c1 :: wr) cA (α) (L) (op_quotaAt (N, R, Fr, inc) p0 p1 p2).2.2) (by rw [z_cl]; rfl) dL_quotaAt_11 (fun H locs hW => ?_)
    refine lv_goto (tgt := 27) hx hb dL_quotaAt_12 (by decide) ?_
    refine lv_iconst (v := 0) hx hb dL_quotaAt_27 (by decide) ?_
    exact k_iret (vp_updL f 0 (((op_quotaAt (N, R, Fr, inc) p0 p1 p2).2.1).toInt64), α, L) F hW ⟨by rw [hop]; rfl, rfl, hLk.same (n2_quotaAt N R Fr inc p0 p1 p2), fun _ => by show vp_updL f 0 _ 0 = _; exact pk_uLs⟩ dL_quotaAt_28 (Nat.le_of_ble_eq_true rfl) (Nat.le_of_ble_eq_true rfl)
set_option maxHeartbeats 4000000 in
set_option maxRecDepth 100000 in
theorem met_L_endDay (l : Launch) (D : va_G) (cA : Nat → ClassId) (wr : va_W) (α : Nat → Nat → Nat) (L : List (Nat × Nat)) (N : Nat → Nat → Nat) (R : Nat → Nat → Nat → Int32) (Fr : Nat → UInt32) (inc : Int64) (o : Nat) (f : Nat → Int64) (c1 : Nat × va_E) (n : Nat) (z0 : Nat) (hl0 : l.stackTraces = false) (hLk : LOK N L) (hI : IV n (N, R, Fr, inc)) (hn : n ≤ 1000) : MetHI z0 l yL_endDay (.codeWith yL_endDay cL_endDay 3 (some .int) [(0, 8, 11, 15)] :: LW) ({ frames := 7, cells := 1, slots := 6, locals := 124 }) D cA (xWd ((o, .inl (cA 4, 1, .inr (.inl f))) :: c1 :: wr) cA α L (N, R, Fr, inc)) [.ref (α 0 0), .ref o] (fun r (u : (Nat → Int64) × (Nat → Nat → Nat) × List (Nat × Nat)) => r = nI (op_endDay (N, R, Fr, inc)).1 ∧ u.2.1 0 0 = α 0 0 ∧ LOK (op_endDay (N, R, Fr, inc)).2.2.1 u.2.2 ∧ ((op_endDay (N, R, Fr, inc)).1 = 0 → u.1 0 = ((op_endDay (N, R, Fr, inc)).2.1).toInt64)) (fun u => xWd ((o, .inl (cA 4, 1, .inr (.inl u.1))) :: c1 :: wr) cA u.2.1 u.2.2 (op_endDay (N, R, Fr, inc)).2.2) 1 6 := by
  refine k_bodyH hl0 (by decide) (Nat.le_of_ble_eq_true rfl) (fun p e s m args below meth c ls F G hW hl => ?_)
  obtain ⟨hx, hb, hr, hml, hown, hts, hlocks, hname⟩ := id F
  have hl : lv_has ls 3 [(0, .ref (α 0 0)), (1, .ref o)] := hl
  have h : INV n N R Fr inc := hI.1
  refine lv_aload_n hx hb dL_endDay_0 rfl (lv_at hl 1 rfl) ?_
  refine lv_iconst (v := 0) hx hb dL_endDay_1 (by decide) ?_
  refine lv_aload_n hx hb dL_endDay_2 rfl (lv_at hl 0 rfl) ?_
  obtain ⟨q, hq⟩ := xw_at (wr := (o, .inl (cA 4, 1, .inr (.inl f))) :: c1 :: wr) (cA := cA) (α := α) (L := L) (S := (N, R, Fr, inc)) 0 0 (hLk.o 0 (by decide))
  refine k_tryi (as := []) (rest := [.int 0, .ref o]) (b := α 0 0) (ci := 6) (q0 := q) F G hW (met_X4_endDay l D cA ((o, .inl (cA 4, 1, .inr (.inl f))) :: c1 :: wr) α L N R Fr inc z0 hl0 hLk (iv_ic h) (iv_q1 h) (iv_d1 h)) rfl ML_L_38 IM_X4_endDay SE_X4_endDay IN_X4 CO_X4_endDay hdV_X4_endDay rfl rfl ⟨(Nat.le_of_ble_eq_true rfl), (Nat.le_of_ble_eq_true rfl)⟩ rfl rfl hq rfl rfl dL_endDay_3 hl.1 (Nat.le_of_ble_eq_true rfl) ⟨(Nat.le_of_ble_eq_true rfl), (Nat.le_of_ble_eq_true rfl)⟩ (fun E ce q9 H locs hp hW h1 h2 h3 => ?_) (fun r u H locs hw hW => ?_)
  · obtain ⟨hp0, hpE⟩ := hp
    obtain ⟨hk1, hk2⟩ := ce_endDay N R Fr inc
    have hst := hk2 hp0
    have e : (op_endDay (N, R, Fr, inc)).1 = 1 := by omega
    rw [e] at hpE
    obtain rfl : E = "java/lang/IllegalStateException" := hpE
    refine k_catch (own := RL) (E := "java/lang/IllegalStateException") F G rfl [] ⟨0, 8, 11, 15⟩ [] rfl (fun _ h => nomatch h) (by decide) (by decide) CL_L_15 (List.mem_of_getElem? (i := 4) rfl) h1 h2 h3 ?_
    refine lv_astore_n (lv' := [(2, .ref q9), (0, .ref (α 0 0)), (1, .ref o)]) hx hb dL_endDay_11 rfl hl (by decide) rfl (fun ls hl => ?_)
    refine lv_iconst (v := 1) hx hb dL_endDay_12 (by decide) ?_
    exact k_iret (f, α, L) F (hW.eq (congrArg (xWd ((o, .inl (cA 4, 1, .inr (.inl f))) :: c1 :: wr) cA α L) hst.symm)) ⟨by rw [e]; rfl, rfl, by rw [hst]; exact hLk, fun z => absurd z hp0⟩ dL_endDay_13 (Nat.le_of_ble_eq_true rfl) (Nat.le_of_ble_eq_true rfl)
  · obtain ⟨hop, rfl⟩ := hw
    refine lv_i2l hx hb dL_endDay_6 rfl ?_
    refine k_last F hW 0 rfl z_in (xWd ((o, .inl (cA 4, 1, .inr (.inl (vp_updL f 0 (((op_endDay (N, R, Fr, inc)).2.1).toInt64))))) :: c1 :: wr) cA (α) (L) (op_endDay (N, R, Fr, inc)).2.2) (by rw [z_cl]; rfl) dL_endDay_7 (fun H locs hW => ?_)
    refine lv_goto (tgt := 14) hx hb dL_endDay_8 (by decide) ?_
    refine lv_iconst (v := 0) hx hb dL_endDay_14 (by decide) ?_
    exact k_iret (vp_updL f 0 (((op_endDay (N, R, Fr, inc)).2.1).toInt64), α, L) F hW ⟨by rw [hop]; rfl, rfl, hLk.same (n2_endDay N R Fr inc), fun _ => by show vp_updL f 0 _ 0 = _; exact pk_uLs⟩ dL_endDay_15 (Nat.le_of_ble_eq_true rfl) (Nat.le_of_ble_eq_true rfl)
set_option maxHeartbeats 4000000 in
set_option maxRecDepth 100000 in
theorem met_L_weight (l : Launch) (D : va_G) (cA : Nat → ClassId) (wr : va_W) (α : Nat → Nat → Nat) (L : List (Nat × Nat)) (N : Nat → Nat → Nat) (R : Nat → Nat → Nat → Int32) (Fr : Nat → UInt32) (inc : Int64) (o : Nat) (f : Nat → Int64) (c1 : Nat × va_E) (n : Nat) (p0 : Int32) (z0 : Nat) (hl0 : l.stackTraces = false) (hLk : LOK N L) (hI : IV n (N, R, Fr, inc)) (hn : n ≤ 1000) : MetHI z0 l yL_weight (.codeWith yL_weight cL_weight 4 (some .int) [(0, 9, 12, 36)] :: LW) ({ frames := 8, cells := 1, slots := 6, locals := 132 }) D cA (xWd ((o, .inl (cA 4, 1, .inr (.inl f))) :: c1 :: wr) cA α L (N, R, Fr, inc)) [.ref (α 0 0), .int p0, .ref o] (fun r (u : (Nat → Int64) × (Nat → Nat → Nat) × List (Nat × Nat)) => r = nI (op_lot 7 (N, R, Fr, inc) p0).1 ∧ u.2.1 0 0 = α 0 0 ∧ LOK (op_lot 7 (N, R, Fr, inc) p0).2.2.1 u.2.2 ∧ ((op_lot 7 (N, R, Fr, inc) p0).1 = 0 → u.1 0 = ((op_lot 7 (N, R, Fr, inc) p0).2.1).toInt64)) (fun u => xWd ((o, .inl (cA 4, 1, .inr (.inl u.1))) :: c1 :: wr) cA u.2.1 u.2.2 (op_lot 7 (N, R, Fr, inc) p0).2.2) 1 6 := by
  refine k_bodyH hl0 (by decide) (Nat.le_of_ble_eq_true rfl) (fun p e s m args below meth c ls F G hW hl => ?_)
  obtain ⟨hx, hb, hr, hml, hown, hts, hlocks, hname⟩ := id F
  have hl : lv_has ls 4 [(0, .ref (α 0 0)), (1, .int p0), (2, .ref o)] := hl
  have h : INV n N R Fr inc := hI.1
  refine lv_aload_n hx hb dL_weight_0 rfl (lv_at hl 2 rfl) ?_
  refine lv_iconst (v := 0) hx hb dL_weight_1 (by decide) ?_
  refine lv_aload_n hx hb dL_weight_2 rfl (lv_at hl 0 rfl) ?_
  refine lv_iload_n hx hb dL_weight_3 rfl (lv_at hl 1 rfl) ?_
  obtain ⟨q, hq⟩ := xw_at (wr := (o, .inl (cA 4, 1, .inr (.inl f))) :: c1 :: wr) (cA := cA) (α := α) (L := L) (S := (N, R, Fr, inc)) 0 0 (hLk.o 0 (by decide))
  refine k_tryi (as := [.int p0]) (rest := [.int 0, .ref o]) (b := α 0 0) (ci := 6) (q0 := q) F G hW (met_X4_weight l D cA ((o, .inl (cA 4, 1, .inr (.inl f))) :: c1 :: wr) α L N R Fr inc p0 z0 hl0 hLk (iv_ic h)) rfl ML_L_42 IM_X4_weight SE_X4_weight IN_X4 CO_X4_weight hdV_X4_weight rfl rfl ⟨(Nat.le_of_ble_eq_true rfl), (Nat.le_of_ble_eq_true rfl)⟩ rfl rfl hq rfl rfl dL_weight_4 hl.1 (Nat.le_of_ble_eq_true rfl) ⟨(Nat.le_of_ble_eq_true rfl), (Nat.le_of_ble_eq_true rfl)⟩ (fun E ce q9 H locs hp hW h1 h2 h3 => ?_) (fun r u H locs hw hW => ?_)
  · obtain ⟨hp0, hpE⟩ := hp
    obtain ⟨hk1, hk2⟩ := ce_lot 7 N R Fr inc p0
    have hst := hk2 hp0
    have e : (op_lot 7 (N, R, Fr, inc) p0).1 = 1 := by omega
    rw [e] at hpE
    obtain rfl : E = "java/util/NoSuchElementException" := hpE
    refine k_catch (own := RL) (E := "java/util/NoSuchElementException") F G rfl [] ⟨0, 9, 12, 36⟩ [] rfl (fun _ h => nomatch h) (by decide) (by decide) CL_L_36 (List.mem_of_getElem? (i := 6) rfl) h1 h2 h3 ?_
    refine lv_astore_n (lv' := [(3, .ref q9), (0, .ref (α 0 0)), (1, .int p0), (2, .ref o)]) hx hb dL_weight_12 rfl hl (by decide) rfl (fun ls hl => ?_)
    refine lv_iconst (v := 1) hx hb dL_weight_13 (by decide) ?_
    exact k_iret (f, α, L) F (hW.eq (congrArg (xWd ((o, .inl (cA 4, 1, .inr (.inl f))) :: c1 :: wr) cA α L) hst.symm)) ⟨by rw [e]; rfl, rfl, by rw [hst]; exact hLk, fun z => absurd z hp0⟩ dL_weight_14 (Nat.le_of_ble_eq_true rfl) (Nat.le_of_ble_eq_true rfl)
  · obtain ⟨hop, rfl⟩ := hw
    refine lv_i2l hx hb dL_weight_7 rfl ?_
    refine k_last F hW 0 rfl z_in (xWd ((o, .inl (cA 4, 1, .inr (.inl (vp_updL f 0 (((op_lot 7 (N, R, Fr, inc) p0).2.1).toInt64))))) :: c1 :: wr) cA (α) (L) (op_lot 7 (N, R, Fr, inc) p0).2.2) (by rw [z_cl]; rfl) dL_weight_8 (fun H locs hW => ?_)
    refine lv_goto (tgt := 15) hx hb dL_weight_9 (by decide) ?_
    refine lv_iconst (v := 0) hx hb dL_weight_15 (by decide) ?_
    exact k_iret (vp_updL f 0 (((op_lot 7 (N, R, Fr, inc) p0).2.1).toInt64), α, L) F hW ⟨by rw [hop]; rfl, rfl, hLk.same (n2_lot 7 N R Fr inc p0), fun _ => by show vp_updL f 0 _ 0 = _; exact pk_uLs⟩ dL_weight_16 (Nat.le_of_ble_eq_true rfl) (Nat.le_of_ble_eq_true rfl)
set_option maxHeartbeats 4000000 in
set_option maxRecDepth 100000 in
theorem met_L_stateOf (l : Launch) (D : va_G) (cA : Nat → ClassId) (wr : va_W) (α : Nat → Nat → Nat) (L : List (Nat × Nat)) (N : Nat → Nat → Nat) (R : Nat → Nat → Nat → Int32) (Fr : Nat → UInt32) (inc : Int64) (o : Nat) (f : Nat → Int64) (c1 : Nat × va_E) (n : Nat) (p0 : Int32) (z0 : Nat) (hl0 : l.stackTraces = false) (hLk : LOK N L) (hI : IV n (N, R, Fr, inc)) (hn : n ≤ 1000) : MetHI z0 l yL_stateOf (.codeWith yL_stateOf cL_stateOf 4 (some .int) [(0, 9, 12, 36)] :: LW) ({ frames := 8, cells := 1, slots := 6, locals := 132 }) D cA (xWd ((o, .inl (cA 4, 1, .inr (.inl f))) :: c1 :: wr) cA α L (N, R, Fr, inc)) [.ref (α 0 0), .int p0, .ref o] (fun r (u : (Nat → Int64) × (Nat → Nat → Nat) × List (Nat × Nat)) => r = nI (op_lot 9 (N, R, Fr, inc) p0).1 ∧ u.2.1 0 0 = α 0 0 ∧ LOK (op_lot 9 (N, R, Fr, inc) p0).2.2.1 u.2.2 ∧ ((op_lot 9 (N, R, Fr, inc) p0).1 = 0 → u.1 0 = ((op_lot 9 (N, R, Fr, inc) p0).2.1).toInt64)) (fun u => xWd ((o, .inl (cA 4, 1, .inr (.inl u.1))) :: c1 :: wr) cA u.2.1 u.2.2 (op_lot 9 (N, R, Fr, inc) p0).2.2) 1 6 := by
  refine k_bodyH hl0 (by decide) (Nat.le_of_ble_eq_true rfl) (fun p e s m args below meth c ls F G hW hl => ?_)
  obtain ⟨hx, hb, hr, hml, hown, hts, hlocks, hname⟩ := id F
  have hl : lv_has ls 4 [(0, .ref (α 0 0)), (1, .int p0), (2, .ref o)] := hl
  have h : INV n N R Fr inc := hI.1
  refine lv_aload_n hx hb dL_stateOf_0 rfl (lv_at hl 2 rfl) ?_
  refine lv_iconst (v := 0) hx hb dL_stateOf_1 (by decide) ?_
  refine lv_aload_n hx hb dL_stateOf_2 rfl (lv_at hl 0 rfl) ?_
  refine lv_iload_n hx hb dL_stateOf_3 rfl (lv_at hl 1 rfl) ?_
  obtain ⟨q, hq⟩ := xw_at (wr := (o, .inl (cA 4, 1, .inr (.inl f))) :: c1 :: wr) (cA := cA) (α := α) (L := L) (S := (N, R, Fr, inc)) 0 0 (hLk.o 0 (by decide))
  refine k_tryi (as := [.int p0]) (rest := [.int 0, .ref o]) (b := α 0 0) (ci := 6) (q0 := q) F G hW (met_X4_stateOf l D cA ((o, .inl (cA 4, 1, .inr (.inl f))) :: c1 :: wr) α L N R Fr inc p0 z0 hl0 hLk (iv_ic h) (iv_lot h)) rfl ML_L_46 IM_X4_stateOf SE_X4_stateOf IN_X4 CO_X4_stateOf hdV_X4_stateOf rfl rfl ⟨(Nat.le_of_ble_eq_true rfl), (Nat.le_of_ble_eq_true rfl)⟩ rfl rfl hq rfl rfl dL_stateOf_4 hl.1 (Nat.le_of_ble_eq_true rfl) ⟨(Nat.le_of_ble_eq_true rfl), (Nat.le_of_ble_eq_true rfl)⟩ (fun E ce q9 H locs hp hW h1 h2 h3 => ?_) (fun r u H locs hw hW => ?_)
  · obtain ⟨hp0, hpE⟩ := hp
    obtain ⟨hk1, hk2⟩ := ce_lot 9 N R Fr inc p0
    have hst := hk2 hp0
    have e : (op_lot 9 (N, R, Fr, inc) p0).1 = 1 := by omega
    rw [e] at hpE
    obtain rfl : E = "java/util/NoSuchElementException" := hpE
    refine k_catch (own := RL) (E := "java/util/NoSuchElementException") F G rfl [] ⟨0, 9, 12, 36⟩ [] rfl (fun _ h => nomatch h) (by decide) (by decide) CL_L_36 (List.mem_of_getElem? (i := 6) rfl) h1 h2 h3 ?_
    refine lv_astore_n (lv' := [(3, .ref q9), (0, .ref (α 0 0)), (1, .int p0), (2, .ref o)]) hx hb dL_stateOf_12 rfl hl (by decide) rfl (fun ls hl => ?_)
    refine lv_iconst (v := 1) hx hb dL_stateOf_13 (by decide) ?_
    exact k_iret (f, α, L) F (hW.eq (congrArg (xWd ((o, .inl (cA 4, 1, .inr (.inl f))) :: c1 :: wr) cA α L) hst.symm)) ⟨by rw [e]; rfl, rfl, by rw [hst]; exact hLk, fun z => absurd z hp0⟩ dL_stateOf_14 (Nat.le_of_ble_eq_true rfl) (Nat.le_of_ble_eq_true rfl)
  · obtain ⟨hop, rfl⟩ := hw
    refine lv_i2l hx hb dL_stateOf_7 rfl ?_
    refine k_last F hW 0 rfl z_in (xWd ((o, .inl (cA 4, 1, .inr (.inl (vp_updL f 0 (((op_lot 9 (N, R, Fr, inc) p0).2.1).toInt64))))) :: c1 :: wr) cA (α) (L) (op_lot 9 (N, R, Fr, inc) p0).2.2) (by rw [z_cl]; rfl) dL_stateOf_8 (fun H locs hW => ?_)
    refine lv_goto (tgt := 15) hx hb dL_stateOf_9 (by decide) ?_
    refine lv_iconst (v := 0) hx hb dL_stateOf_15 (by decide) ?_
    exact k_iret (vp_updL f 0 (((op_lot 9 (N, R, Fr, inc) p0).2.1).toInt64), α, L) F hW ⟨by rw [hop]; rfl, rfl, hLk.same (n2_lot 9 N R Fr inc p0), fun _ => by show vp_updL f 0 _ 0 = _; exact pk_uLs⟩ dL_stateOf_16 (Nat.le_of_ble_eq_true rfl) (Nat.le_of_ble_eq_true rfl)
