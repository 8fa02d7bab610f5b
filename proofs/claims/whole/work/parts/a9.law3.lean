/-! The law, case by case (3) -/
set_option maxHeartbeats 4000000 in
set_option maxRecDepth 100000 in
theorem lc_18 {p : Program} {l : Launch} {e : Env} {s : State} {m : MethodId} {below : List Frame} {meth : Method} {c : Code} {b Ls : Nat} {xs : Nat → Int32} (C0 : lw_At p s m meth c b Ls xs) (hT : TH s.heap.size s) (hN : NC s) (hl0 : l.stackTraces = false) {D : va_G} {cA : Nat → ClassId} {β : Nat → Nat} {α : Nat → Nat → Nat} {L : List (Nat × Nat)} {N : Nat → Nat → Nat} {R : Nat → Nat → Nat → Int32} {Fr : Nat → UInt32} {inc : Int64} {th : Int32} {o oD : Nat} {f : Nat → Int64} {g : Nat → UInt64} {i n : Nat} {H : Heap} {locs : List Loc} {cells slots : Nat} {ls : Array Slot} (hLk : LOK N L) (hI : IV n (N, R, Fr, inc)) (hn : n ≤ 1000) (hi : i + 6 ≤ Ls) (hL : Ls ≤ 3072) (hc : cells + 4 ≤ 603072 ∧ slots + 88 ≤ 7231594) (hW : Cw D cA s (fun q => s.heap.size ≤ q) (mWd cA β (o, .inl (cA 4, 1, .inr (.inl f))) (oD, .inl (cA 5, 1, .inr (.inr (.inr (.inl g))))) (L.map (xf cA α (N, R, Fr, inc))) th (N, R, Fr, inc)) H locs) (hl : lv_has ls 9 [(0, .ref b), (1, .ref (α 0 0)), (2, .ref (β 0)), (3, .ref o), (4, .ref oD), (5, .int (nI i))]) (kk : LKK p l e s m below meth c D cA b (α 0 0) o oD β i n cells slots) : W p l e room_1 s m #[Value.ref b] below meth c H locs cells slots (lw_Z below #[Value.ref b] s) (F0 m 1301 ls []) := by
  obtain ⟨hx, hb, hr, hml, hown, hts, hX, hbl, hlocks, hgv⟩ := id C0
  have F := law_F C0
  have h : INV n N R Fr inc := hI.1
  obtain ⟨p1, hp1⟩ : ∃ v, xs (nI i + 1).toNatClampNeg = v := ⟨_, rfl⟩
  refine lv_aload_n hx hb dL_law_1301 rfl (lv_at hl 1 rfl) ?_
  refine lv_aload_n hx hb dL_law_1302 rfl (lv_at hl 0 rfl) ?_
  refine lv_iload hx hb dL_law_1303 (lv_at hl 5 rfl) ?_
  refine lv_iconst (v := 1) hx hb dL_law_1305 (by decide) ?_
  refine lv_iadd hx hb dL_law_1306 ?_
  refine k_sld C0 hW.2.2.2.1 (sc_1 hi hL) hp1 dL_law_1307 ?_
  refine lv_aload_n hx hb dL_law_1308 rfl (lv_at hl 3 rfl) ?_
  have hW := hW.eq xm
  refine k_callH (as := [.ref (α 0 0), .int p1, .ref o]) (rest := []) F hT hN (fun _ h => h) (Nat.le_refl _) hW (met_L_budget l D cA (mW cA β th (N, R, Fr, inc)) α L N R Fr inc o f (oD, .inl (cA 5, 1, .inr (.inr (.inr (.inl g))))) n p1 s.heap.size hl0 hLk hI hn) rfl ML_L_193 ST_L_budget IN_L CO_L_budget hdS_L_budget rfl rfl ⟨(Nat.le_of_ble_eq_true rfl), (Nat.le_of_ble_eq_true rfl)⟩ rfl rfl hl.1 (Nat.le_of_ble_eq_true rfl) dL_law_1309 ⟨by show _ ≤ 603072; omega, by show _ ≤ 7231594; omega⟩ (fun r u H locs hw hW => ?_)
  obtain ⟨f2, α2, L2⟩ := u
  obtain ⟨hr2, hα, hLk2, hf2⟩ := hw
  dsimp only at hα hLk2 hf2
  subst hr2
  have hW : Cw D cA s (fun q => s.heap.size ≤ q) (mWd cA β (o, .inl (cA 4, 1, .inr (.inl f2))) (oD, .inl (cA 5, 1, .inr (.inr (.inr (.inl g))))) (L2.map (xf cA α2 (op_budget (N, R, Fr, inc) p1).2.2)) th (N, R, Fr, inc)) H locs := hW
  refine lv_istore (lv' := [(6, .int (nI (op_budget (N, R, Fr, inc) p1).1)), (0, .ref b), (1, .ref (α 0 0)), (2, .ref (β 0)), (3, .ref o), (4, .ref oD), (5, .int (nI i))]) hx hb dL_law_1312 hl (by decide) rfl (fun ls hl => ?_)
  refine lv_aload_n hx hb dL_law_1314 rfl (lv_at hl 3 rfl) ?_
  refine lv_aload_n hx hb dL_law_1315 rfl (lv_at hl 1 rfl) ?_
  refine lv_iload hx hb dL_law_1316 (lv_at hl 6 rfl) ?_
  refine lv_iconst (v := 1) hx hb dL_law_1318 (by decide) ?_
  refine lv_iadd hx hb dL_law_1319 ?_
  refine k_sld C0 hW.2.2.2.1 (sc_1 hi hL) hp1 dL_law_1320 ?_
  refine k_callVi (as := [.int p1]) (rest := []) (b := β 0) (ci := 7) (q0 := 2) F hW (met_X5_budget l D cA β (o, .inl (cA 4, 1, .inr (.inl f2))) (oD, .inl (cA 5, 1, .inr (.inr (.inr (.inl g))))) (List.map (xf cA α2 (op_budget (N, R, Fr, inc) p1).2.2) L2) th N R Fr inc p1 (iv_ic h).2.2.1) rfl ML_L_195 IM_X5_budget SE_X5_budget IN_X5 CO_X5_budget hdV_X5_budget rfl rfl ⟨(Nat.le_of_ble_eq_true rfl), (Nat.le_of_ble_eq_true rfl)⟩ rfl rfl rfl rfl rfl hl.1 (Nat.le_of_ble_eq_true rfl) dL_law_1321 ⟨by show _ ≤ 603072; omega, by show _ ≤ 7231594; omega⟩ (fun r u H locs hw hW => ?_)
  subst hw
  refine lv_istore (lv' := [(7, .int (op_budget (N, R, Fr, inc) p1).2.1), (6, .int (nI (op_budget (N, R, Fr, inc) p1).1)), (0, .ref b), (1, .ref (α 0 0)), (2, .ref (β 0)), (3, .ref o), (4, .ref oD), (5, .int (nI i))]) hx hb dL_law_1324 hl (by decide) rfl (fun ls hl => ?_)
  refine lv_aload_n hx hb dL_law_1326 rfl (lv_at hl 4 rfl) ?_
  refine k_callVi (as := []) (rest := []) (b := β 0) (ci := 7) (q0 := 2) F hW (met_thr l D cA β (o, .inl (cA 4, 1, .inr (.inl f2))) (oD, .inl (cA 5, 1, .inr (.inr (.inr (.inl g))))) (List.map (xf cA α2 (op_budget (N, R, Fr, inc) p1).2.2) L2) (nI (op_budget (N, R, Fr, inc) p1).1) (op_budget (N, R, Fr, inc) p1).2.2) rfl ML_L_130 IM_X5_thrown SE_X5_thrown IN_X5 CO_X5_thrown hdV_X5_thrown rfl rfl ⟨(Nat.le_of_ble_eq_true rfl), (Nat.le_of_ble_eq_true rfl)⟩ rfl rfl rfl rfl rfl hl.1 (Nat.le_of_ble_eq_true rfl) dL_law_1327 ⟨by show _ ≤ 603072; omega, by show _ ≤ 7231594; omega⟩ (fun r u H locs hw hW => ?_)
  subst hw
  refine lv_iload hx hb dL_law_1330 (lv_at hl 1 rfl) ?_
  refine lv_icmp_eq (tgt := 1337) hx hb dL_law_1332 (by decide) (fun _ => ?_) (fun h => absurd (rfl) h)
  refine lv_iload hx hb dL_law_1337 (lv_at hl 1 rfl) ?_
  refine lv_if_ne (tgt := 1354) hx hb dL_law_1339 (by decide) (fun h0 => ?_) (fun h0 => ?_)
  · refine lv_goto (tgt := 2245) hx hb dL_law_1354 (by decide) ?_
    refine W.widen (k := cells + 4) (n := slots + 88) (by omega) (by omega) ?_
    exact kk ((op_budget (N, R, Fr, inc) p1).2.2) α2 L2 f2 g (nI (op_budget (N, R, Fr, inc) p1).1) H locs ls (by rw [st_budget N R Fr inc p1]; exact hI.mono (Nat.le_succ n)) hLk2 hα hW (lv_sub hl [2, 3, 4, 5, 6, 7] rfl)
  · have h1 : (op_budget (N, R, Fr, inc) p1).1 = 0 := nz_code (Nat.le_trans (ce_budget N R Fr inc p1).1 (Nat.le_of_ble_eq_true rfl)) h0
    refine lv_aload_n hx hb dL_law_1342 rfl (lv_at hl 5 rfl) ?_
    refine lv_iconst (v := 0) hx hb dL_law_1343 (by decide) ?_
    refine k_lald (v := ((op_budget (N, R, Fr, inc) p1).2.1).toInt64) F hW 0 rfl z_in (by rw [z_cl]; exact hf2 h1) dL_law_1344 ?_
    refine lv_iload hx hb dL_law_1345 (lv_at hl 0 rfl) ?_
    refine lv_i2l hx hb dL_law_1347 rfl ?_
    refine W.lcmp hx hb dL_law_1348 ?_
    rw [lg_self]
    refine lv_if_eq (tgt := 1354) hx hb dL_law_1349 (by decide) (fun _ => ?_) (fun h => absurd (rfl) h)
    refine lv_goto (tgt := 2245) hx hb dL_law_1354 (by decide) ?_
    refine W.widen (k := cells + 4) (n := slots + 88) (by omega) (by omega) ?_
    exact kk ((op_budget (N, R, Fr, inc) p1).2.2) α2 L2 f2 g (nI (op_budget (N, R, Fr, inc) p1).1) H locs ls (by rw [st_budget N R Fr inc p1]; exact hI.mono (Nat.le_succ n)) hLk2 hα hW (lv_sub hl [2, 3, 4, 5, 6, 7] rfl)
set_option maxHeartbeats 4000000 in
set_option maxRecDepth 100000 in
theorem lc_19 {p : Program} {l : Launch} {e : Env} {s : State} {m : MethodId} {below : List Frame} {meth : Method} {c : Code} {b Ls : Nat} {xs : Nat → Int32} (C0 : lw_At p s m meth c b Ls xs) (hT : TH s.heap.size s) (hN : NC s) (hl0 : l.stackTraces = false) {D : va_G} {cA : Nat → ClassId} {β : Nat → Nat} {α : Nat → Nat → Nat} {L : List (Nat × Nat)} {N : Nat → Nat → Nat} {R : Nat → Nat → Nat → Int32} {Fr : Nat → UInt32} {inc : Int64} {th : Int32} {o oD : Nat} {f : Nat → Int64} {g : Nat → UInt64} {i n : Nat} {H : Heap} {locs : List Loc} {cells slots : Nat} {ls : Array Slot} (hLk : LOK N L) (hI : IV n (N, R, Fr, inc)) (hn : n ≤ 1000) (hi : i + 6 ≤ Ls) (hL : Ls ≤ 3072) (hc : cells + 4 ≤ 603072 ∧ slots + 88 ≤ 7231594) (hW : Cw D cA s (fun q => s.heap.size ≤ q) (mWd cA β (o, .inl (cA 4, 1, .inr (.inl f))) (oD, .inl (cA 5, 1, .inr (.inr (.inr (.inl g))))) (L.map (xf cA α (N, R, Fr, inc))) th (N, R, Fr, inc)) H locs) (hl : lv_has ls 9 [(0, .ref b), (1, .ref (α 0 0)), (2, .ref (β 0)), (3, .ref o), (4, .ref oD), (5, .int (nI i))]) (kk : LKK p l e s m below meth c D cA b (α 0 0) o oD β i n cells slots) : W p l e room_1 s m #[Value.ref b] below meth c H locs cells slots (lw_Z below #[Value.ref b] s) (F0 m 1357 ls []) := by
  obtain ⟨hx, hb, hr, hml, hown, hts, hX, hbl, hlocks, hgv⟩ := id C0
  have F := law_F C0
  have h : INV n N R Fr inc := hI.1
  obtain ⟨p1, hp1⟩ : ∃ v, xs (nI i + 1).toNatClampNeg = v := ⟨_, rfl⟩
  obtain ⟨p2, hp2⟩ : ∃ v, xs (nI i + 2).toNatClampNeg = v := ⟨_, rfl⟩
  obtain ⟨p3, hp3⟩ : ∃ v, xs (nI i + 3).toNatClampNeg = v := ⟨_, rfl⟩
  refine lv_aload_n hx hb dL_law_1357 rfl (lv_at hl 1 rfl) ?_
  refine lv_aload_n hx hb dL_law_1358 rfl (lv_at hl 0 rfl) ?_
  refine lv_iload hx hb dL_law_1359 (lv_at hl 5 rfl) ?_
  refine lv_iconst (v := 1) hx hb dL_law_1361 (by decide) ?_
  refine lv_iadd hx hb dL_law_1362 ?_
  refine k_sld C0 hW.2.2.2.1 (sc_1 hi hL) hp1 dL_law_1363 ?_
  refine lv_aload_n hx hb dL_law_1364 rfl (lv_at hl 0 rfl) ?_
  refine lv_iload hx hb dL_law_1365 (lv_at hl 5 rfl) ?_
  refine lv_iconst (v := 2) hx hb dL_law_1367 (by decide) ?_
  refine lv_iadd hx hb dL_law_1368 ?_
  refine k_sld C0 hW.2.2.2.1 (sc_2 hi hL) hp2 dL_law_1369 ?_
  refine lv_aload_n hx hb dL_law_1370 rfl (lv_at hl 0 rfl) ?_
  refine lv_iload hx hb dL_law_1371 (lv_at hl 5 rfl) ?_
  refine lv_iconst (v := 3) hx hb dL_law_1373 (by decide) ?_
  refine lv_iadd hx hb dL_law_1374 ?_
  refine k_sld C0 hW.2.2.2.1 (sc_3 hi hL) hp3 dL_law_1375 ?_
  refine lv_aload_n hx hb dL_law_1376 rfl (lv_at hl 3 rfl) ?_
  have hW := hW.eq xm
  refine k_callH (as := [.ref (α 0 0), .int p1, .int p2, .int p3, .ref o]) (rest := []) F hT hN (fun _ h => h) (Nat.le_refl _) hW (met_L_setClock l D cA (mW cA β th (N, R, Fr, inc)) α L N R Fr inc o f (oD, .inl (cA 5, 1, .inr (.inr (.inr (.inl g))))) n p1 p2 p3 s.heap.size hl0 hLk hI hn) rfl ML_L_196 ST_L_setClock IN_L CO_L_setClock hdS_L_setClock rfl rfl ⟨(Nat.le_of_ble_eq_true rfl), (Nat.le_of_ble_eq_true rfl)⟩ rfl rfl hl.1 (Nat.le_of_ble_eq_true rfl) dL_law_1377 ⟨by show _ ≤ 603072; omega, by show _ ≤ 7231594; omega⟩ (fun r u H locs hw hW => ?_)
  obtain ⟨f2, α2, L2⟩ := u
  obtain ⟨hr2, hα, hLk2, hf2⟩ := hw
  dsimp only at hα hLk2 hf2
  subst hr2
  have hW : Cw D cA s (fun q => s.heap.size ≤ q) (mWd cA β (o, .inl (cA 4, 1, .inr (.inl f2))) (oD, .inl (cA 5, 1, .inr (.inr (.inr (.inl g))))) (L2.map (xf cA α2 (op_setClock (N, R, Fr, inc) p1 p2 p3).2.2)) th (N, R, Fr, inc)) H locs := hW
  refine lv_istore (lv' := [(6, .int (nI (op_setClock (N, R, Fr, inc) p1 p2 p3).1)), (0, .ref b), (1, .ref (α 0 0)), (2, .ref (β 0)), (3, .ref o), (4, .ref oD), (5, .int (nI i))]) hx hb dL_law_1380 hl (by decide) rfl (fun ls hl => ?_)
  refine lv_aload_n hx hb dL_law_1382 rfl (lv_at hl 3 rfl) ?_
  refine lv_aload_n hx hb dL_law_1383 rfl (lv_at hl 1 rfl) ?_
  refine lv_iload hx hb dL_law_1384 (lv_at hl 6 rfl) ?_
  refine lv_iconst (v := 1) hx hb dL_law_1386 (by decide) ?_
  refine lv_iadd hx hb dL_law_1387 ?_
  refine k_sld C0 hW.2.2.2.1 (sc_1 hi hL) hp1 dL_law_1388 ?_
  refine lv_aload_n hx hb dL_law_1389 rfl (lv_at hl 1 rfl) ?_
  refine lv_iload hx hb dL_law_1390 (lv_at hl 6 rfl) ?_
  refine lv_iconst (v := 2) hx hb dL_law_1392 (by decide) ?_
  refine lv_iadd hx hb dL_law_1393 ?_
  refine k_sld C0 hW.2.2.2.1 (sc_2 hi hL) hp2 dL_law_1394 ?_
  refine lv_aload_n hx hb dL_law_1395 rfl (lv_at hl 1 rfl) ?_
  refine lv_iload hx hb dL_law_1396 (lv_at hl 6 rfl) ?_
  refine lv_iconst (v := 3) hx hb dL_law_1398 (by decide) ?_
  refine lv_iadd hx hb dL_law_1399 ?_
  refine k_sld C0 hW.2.2.2.1 (sc_3 hi hL) hp3 dL_law_1400 ?_
  refine k_callVi (as := [.int p1, .int p2, .int p3]) (rest := []) (b := β 0) (ci := 7) (q0 := 2) F hW (met_X5_setClock l D cA β (o, .inl (cA 4, 1, .inr (.inl f2))) (oD, .inl (cA 5, 1, .inr (.inr (.inr (.inl g))))) (List.map (xf cA α2 (op_setClock (N, R, Fr, inc) p1 p2 p3).2.2) L2) th N R Fr inc p1 p2 p3) rfl ML_L_198 IM_X5_setClock SE_X5_setClock IN_X5 CO_X5_setClock hdV_X5_setClock rfl rfl ⟨(Nat.le_of_ble_eq_true rfl), (Nat.le_of_ble_eq_true rfl)⟩ rfl rfl rfl rfl rfl hl.1 (Nat.le_of_ble_eq_true rfl) dL_law_1401 ⟨by show _ ≤ 603072; omega, by show _ ≤ 7231594; omega⟩ (fun r u H locs hw hW => ?_)
  subst hw
  refine lv_istore (lv' := [(7, .int (op_setClock (N, R, Fr, inc) p1 p2 p3).2.1), (6, .int (nI (op_setClock (N, R, Fr, inc) p1 p2 p3).1)), (0, .ref b), (1, .ref (α 0 0)), (2, .ref (β 0)), (3, .ref o), (4, .ref oD), (5, .int (nI i))]) hx hb dL_law_1404 hl (by decide) rfl (fun ls hl => ?_)
  refine lv_aload_n hx hb dL_law_1406 rfl (lv_at hl 4 rfl) ?_
  refine k_callVi (as := []) (rest := []) (b := β 0) (ci := 7) (q0 := 2) F hW (met_thr l D cA β (o, .inl (cA 4, 1, .inr (.inl f2))) (oD, .inl (cA 5, 1, .inr (.inr (.inr (.inl g))))) (List.map (xf cA α2 (op_setClock (N, R, Fr, inc) p1 p2 p3).2.2) L2) (nI (op_setClock (N, R, Fr, inc) p1 p2 p3).1) (op_setClock (N, R, Fr, inc) p1 p2 p3).2.2) rfl ML_L_130 IM_X5_thrown SE_X5_thrown IN_X5 CO_X5_thrown hdV_X5_thrown rfl rfl ⟨(Nat.le_of_ble_eq_true rfl), (Nat.le_of_ble_eq_true rfl)⟩ rfl rfl rfl rfl rfl hl.1 (Nat.le_of_ble_eq_true rfl) dL_law_1407 ⟨by show _ ≤ 603072; omega, by show _ ≤ 7231594; omega⟩ (fun r u H locs hw hW => ?_)
  subst hw
  refine lv_iload hx hb dL_law_1410 (lv_at hl 1 rfl) ?_
  refine lv_icmp_eq (tgt := 1417) hx hb dL_law_1412 (by decide) (fun _ => ?_) (fun h => absurd (rfl) h)
  refine lv_iload hx hb dL_law_1417 (lv_at hl 1 rfl) ?_
  refine lv_if_ne (tgt := 1434) hx hb dL_law_1419 (by decide) (fun h0 => ?_) (fun h0 => ?_)
  · refine lv_goto (tgt := 2245) hx hb dL_law_1434 (by decide) ?_
    refine W.widen (k := cells + 4) (n := slots + 88) (by omega) (by omega) ?_
    exact kk ((op_setClock (N, R, Fr, inc) p1 p2 p3).2.2) α2 L2 f2 g (nI (op_setClock (N, R, Fr, inc) p1 p2 p3).1) H locs ls ((hI.setClock p1 p2 p3).mono (Nat.le_succ n)) hLk2 hα hW (lv_sub hl [2, 3, 4, 5, 6, 7] rfl)
  · have h1 : (op_setClock (N, R, Fr, inc) p1 p2 p3).1 = 0 := nz_code (Nat.le_trans (ce_setClock N R Fr inc p1 p2 p3).1 (Nat.le_of_ble_eq_true rfl)) h0
    refine lv_aload_n hx hb dL_law_1422 rfl (lv_at hl 5 rfl) ?_
    refine lv_iconst (v := 0) hx hb dL_law_1423 (by decide) ?_
    refine k_lald (v := ((op_setClock (N, R, Fr, inc) p1 p2 p3).2.1).toInt64) F hW 0 rfl z_in (by rw [z_cl]; exact hf2 h1) dL_law_1424 ?_
    refine lv_iload hx hb dL_law_1425 (lv_at hl 0 rfl) ?_
    refine lv_i2l hx hb dL_law_1427 rfl ?_
    refine W.lcmp hx hb dL_law_1428 ?_
    rw [lg_self]
    refine lv_if_eq (tgt := 1434) hx hb dL_law_1429 (by decide) (fun _ => ?_) (fun h => absurd (rfl) h)
    refine lv_goto (tgt := 2245) hx hb dL_law_1434 (by decide) ?_
    refine W.widen (k := cells + 4) (n := slots + 88) (by omega) (by omega) ?_
    exact kk ((op_setClock (N, R, Fr, inc) p1 p2 p3).2.2) α2 L2 f2 g (nI (op_setClock (N, R, Fr, inc) p1 p2 p3).1) H locs ls ((hI.setClock p1 p2 p3).mono (Nat.le_succ n)) hLk2 hα hW (lv_sub hl [2, 3, 4, 5, 6, 7] rfl)
set_option maxHeartbeats 4000000 in
set_option maxRecDepth 100000 in
theorem lc_20 {p : Program} {l : Launch} {e : Env} {s : State} {m : MethodId} {below : List Frame} {meth : Method} {c : Code} {b Ls : Nat} {xs : Nat → Int32} (C0 : lw_At p s m meth c b Ls xs) (hT : TH s.heap.size s) (hN : NC s) (hl0 : l.stackTraces = false) {D : va_G} {cA : Nat → ClassId} {β : Nat → Nat} {α : Nat → Nat → Nat} {L : List (Nat × Nat)} {N : Nat → Nat → Nat} {R : Nat → Nat → Nat → Int32} {Fr : Nat → UInt32} {inc : Int64} {th : Int32} {o oD : Nat} {f : Nat → Int64} {g : Nat → UInt64} {i n : Nat} {H : Heap} {locs : List Loc} {cells slots : Nat} {ls : Array Slot} (hLk : LOK N L) (hI : IV n (N, R, Fr, inc)) (hn : n ≤ 1000) (hi : i + 6 ≤ Ls) (hL : Ls ≤ 3072) (hc : cells + 4 ≤ 603072 ∧ slots + 88 ≤ 7231594) (hW : Cw D cA s (fun q => s.heap.size ≤ q) (mWd cA β (o, .inl (cA 4, 1, .inr (.inl f))) (oD, .inl (cA 5, 1, .inr (.inr (.inr (.inl g))))) (L.map (xf cA α (N, R, Fr, inc))) th (N, R, Fr, inc)) H locs) (hl : lv_has ls 9 [(0, .ref b), (1, .ref (α 0 0)), (2, .ref (β 0)), (3, .ref o), (4, .ref oD), (5, .int (nI i))]) (kk : LKK p l e s m below meth c D cA b (α 0 0) o oD β i n cells slots) : W p l e room_1 s m #[Value.ref b] below meth c H locs cells slots (lw_Z below #[Value.ref b] s) (F0 m 1437 ls []) := by
  obtain ⟨hx, hb, hr, hml, hown, hts, hX, hbl, hlocks, hgv⟩ := id C0
  have F := law_F C0
  have h : INV n N R Fr inc := hI.1
  obtain ⟨p1, hp1⟩ : ∃ v, xs (nI i + 1).toNatClampNeg = v := ⟨_, rfl⟩
  obtain ⟨p2, hp2⟩ : ∃ v, xs (nI i + 2).toNatClampNeg = v := ⟨_, rfl⟩
  refine lv_aload_n hx hb dL_law_1437 rfl (lv_at hl 1 rfl) ?_
  refine lv_aload_n hx hb dL_law_1438 rfl (lv_at hl 0 rfl) ?_
  refine lv_iload hx hb dL_law_1439 (lv_at hl 5 rfl) ?_
  refine lv_iconst (v := 1) hx hb dL_law_1441 (by decide) ?_
  refine lv_iadd hx hb dL_law_1442 ?_
  refine k_sld C0 hW.2.2.2.1 (sc_1 hi hL) hp1 dL_law_1443 ?_
  refine lv_aload_n hx hb dL_law_1444 rfl (lv_at hl 0 rfl) ?_
  refine lv_iload hx hb dL_law_1445 (lv_at hl 5 rfl) ?_
  refine lv_iconst (v := 2) hx hb dL_law_1447 (by decide) ?_
  refine lv_iadd hx hb dL_law_1448 ?_
  refine k_sld C0 hW.2.2.2.1 (sc_2 hi hL) hp2 dL_law_1449 ?_
  refine lv_aload_n hx hb dL_law_1450 rfl (lv_at hl 3 rfl) ?_
  have hW := hW.eq xm
  refine k_callH (as := [.ref (α 0 0), .int p1, .int p2, .ref o]) (rest := []) F hT hN (fun _ h => h) (Nat.le_refl _) hW (met_L_offer l D cA (mW cA β th (N, R, Fr, inc)) α L N R Fr inc o f (oD, .inl (cA 5, 1, .inr (.inr (.inr (.inl g))))) n p1 p2 s.heap.size hl0 hLk hI hn) rfl ML_L_199 ST_L_offer IN_L CO_L_offer hdS_L_offer rfl rfl ⟨(Nat.le_of_ble_eq_true rfl), (Nat.le_of_ble_eq_true rfl)⟩ rfl rfl hl.1 (Nat.le_of_ble_eq_true rfl) dL_law_1451 ⟨by show _ ≤ 603072; omega, by show _ ≤ 7231594; omega⟩ (fun r u H locs hw hW => ?_)
  obtain ⟨f2, α2, L2⟩ := u
  obtain ⟨hr2, hα, hLk2, hf2⟩ := hw
  dsimp only at hα hLk2 hf2
  subst hr2
  have hW : Cw D cA s (fun q => s.heap.size ≤ q) (mWd cA β (o, .inl (cA 4, 1, .inr (.inl f2))) (oD, .inl (cA 5, 1, .inr (.inr (.inr (.inl g))))) (L2.map (xf cA α2 (op_offer (N, R, Fr, inc) p1 p2).2.2)) th (N, R, Fr, inc)) H locs := hW
  refine lv_istore (lv' := [(6, .int (nI (op_offer (N, R, Fr, inc) p1 p2).1)), (0, .ref b), (1, .ref (α 0 0)), (2, .ref (β 0)), (3, .ref o), (4, .ref oD), (5, .int (nI i))]) hx hb dL_law_1454 hl (by decide) rfl (fun ls hl => ?_)
  refine lv_aload_n hx hb dL_law_1456 rfl (lv_at hl 3 rfl) ?_
  refine lv_aload_n hx hb dL_law_1457 rfl (lv_at hl 1 rfl) ?_
  refine lv_iload hx hb dL_law_1458 (lv_at hl 6 rfl) ?_
  refine lv_iconst (v := 1) hx hb dL_law_1460 (by decide) ?_
  refine lv_iadd hx hb dL_law_1461 ?_
  refine k_sld C0 hW.2.2.2.1 (sc_1 hi hL) hp1 dL_law_1462 ?_
  refine lv_aload_n hx hb dL_law_1463 rfl (lv_at hl 1 rfl) ?_
  refine lv_iload hx hb dL_law_1464 (lv_at hl 6 rfl) ?_
  refine lv_iconst (v := 2) hx hb dL_law_1466 (by decide) ?_
  refine lv_iadd hx hb dL_law_1467 ?_
  refine k_sld C0 hW.2.2.2.1 (sc_2 hi hL) hp2 dL_law_1468 ?_
  refine k_callVi (as := [.int p1, .int p2]) (rest := []) (b := β 0) (ci := 7) (q0 := 2) F hW (met_X5_offer l D cA β (o, .inl (cA 4, 1, .inr (.inl f2))) (oD, .inl (cA 5, 1, .inr (.inr (.inr (.inl g))))) (List.map (xf cA α2 (op_offer (N, R, Fr, inc) p1 p2).2.2) L2) th N R Fr inc p1 p2 (iv_ic h).2.1 (iv_lot h) (iv_ic h).2.2.1) rfl ML_L_201 IM_X5_offer SE_X5_offer IN_X5 CO_X5_offer hdV_X5_offer rfl rfl ⟨(Nat.le_of_ble_eq_true rfl), (Nat.le_of_ble_eq_true rfl)⟩ rfl rfl rfl rfl rfl hl.1 (Nat.le_of_ble_eq_true rfl) dL_law_1469 ⟨by show _ ≤ 603072; omega, by show _ ≤ 7231594; omega⟩ (fun r u H locs hw hW => ?_)
  subst hw
  refine lv_istore (lv' := [(7, .int (op_offer (N, R, Fr, inc) p1 p2).2.1), (6, .int (nI (op_offer (N, R, Fr, inc) p1 p2).1)), (0, .ref b), (1, .ref (α 0 0)), (2, .ref (β 0)), (3, .ref o), (4, .ref oD), (5, .int (nI i))]) hx hb dL_law_1472 hl (by decide) rfl (fun ls hl => ?_)
  refine lv_aload_n hx hb dL_law_1474 rfl (lv_at hl 4 rfl) ?_
  refine k_callVi (as := []) (rest := []) (b := β 0) (ci := 7) (q0 := 2) F hW (met_thr l D cA β (o, .inl (cA 4, 1, .inr (.inl f2))) (oD, .inl (cA 5, 1, .inr (.inr (.inr (.inl g))))) (List.map (xf cA α2 (op_offer (N, R, Fr, inc) p1 p2).2.2) L2) (nI (op_offer (N, R, Fr, inc) p1 p2).1) (op_offer (N, R, Fr, inc) p1 p2).2.2) rfl ML_L_130 IM_X5_thrown SE_X5_thrown IN_X5 CO_X5_thrown hdV_X5_thrown rfl rfl ⟨(Nat.le_of_ble_eq_true rfl), (Nat.le_of_ble_eq_true rfl)⟩ rfl rfl rfl rfl rfl hl.1 (Nat.le_of_ble_eq_true rfl) dL_law_1475 ⟨by show _ ≤ 603072; omega, by show _ ≤ 7231594; omega⟩ (fun r u H locs hw hW => ?_)
  subst hw
  refine lv_iload hx hb dL_law_1478 (lv_at hl 1 rfl) ?_
  refine lv_icmp_eq (tgt := 1485) hx hb dL_law_1480 (by decide) (fun _ => ?_) (fun h => absurd (rfl) h)
  refine lv_iload hx hb dL_law_1485 (lv_at hl 1 rfl) ?_
  refine lv_if_ne (tgt := 1502) hx hb dL_law_1487 (by decide) (fun h0 => ?_) (fun h0 => ?_)
  · refine lv_goto (tgt := 2245) hx hb dL_law_1502 (by decide) ?_
    refine W.widen (k := cells + 4) (n := slots + 88) (by omega) (by omega) ?_
    exact kk ((op_offer (N, R, Fr, inc) p1 p2).2.2) α2 L2 f2 g (nI (op_offer (N, R, Fr, inc) p1 p2).1) H locs ls (by rw [st_offer N R Fr inc p1 p2]; exact hI.mono (Nat.le_succ n)) hLk2 hα hW (lv_sub hl [2, 3, 4, 5, 6, 7] rfl)
  · have h1 : (op_offer (N, R, Fr, inc) p1 p2).1 = 0 := nz_code (Nat.le_trans (ce_offer N R Fr inc p1 p2).1 (Nat.le_of_ble_eq_true rfl)) h0
    refine lv_aload_n hx hb dL_law_1490 rfl (lv_at hl 5 rfl) ?_
    refine lv_iconst (v := 0) hx hb dL_law_1491 (by decide) ?_
    refine k_lald (v := ((op_offer (N, R, Fr, inc) p1 p2).2.1).toInt64) F hW 0 rfl z_in (by rw [z_cl]; exact hf2 h1) dL_law_1492 ?_
    refine lv_iload hx hb dL_law_1493 (lv_at hl 0 rfl) ?_
    refine lv_i2l hx hb dL_law_1495 rfl ?_
    refine W.lcmp hx hb dL_law_1496 ?_
    rw [lg_self]
    refine lv_if_eq (tgt := 1502) hx hb dL_law_1497 (by decide) (fun _ => ?_) (fun h => absurd (rfl) h)
    refine lv_goto (tgt := 2245) hx hb dL_law_1502 (by decide) ?_
    refine W.widen (k := cells + 4) (n := slots + 88) (by omega) (by omega) ?_
    exact kk ((op_offer (N, R, Fr, inc) p1 p2).2.2) α2 L2 f2 g (nI (op_offer (N, R, Fr, inc) p1 p2).1) H locs ls (by rw [st_offer N R Fr inc p1 p2]; exact hI.mono (Nat.le_succ n)) hLk2 hα hW (lv_sub hl [2, 3, 4, 5, 6, 7] rfl)
set_option maxHeartbeats 4000000 in
set_option maxRecDepth 100000 in
theorem lc_21 {p : Program} {l : Launch} {e : Env} {s : State} {m : MethodId} {below : List Frame} {meth : Method} {c : Code} {b Ls : Nat} {xs : Nat → Int32} (C0 : lw_At p s m meth c b Ls xs) (hT : TH s.heap.size s) (hN : NC s) (hl0 : l.stackTraces = false) {D : va_G} {cA : Nat → ClassId} {β : Nat → Nat} {α : Nat → Nat → Nat} {L : List (Nat × Nat)} {N : Nat → Nat → Nat} {R : Nat → Nat → Nat → Int32} {Fr : Nat → UInt32} {inc : Int64} {th : Int32} {o oD : Nat} {f : Nat → Int64} {g : Nat → UInt64} {i n : Nat} {H : Heap} {locs : List Loc} {cells slots : Nat} {ls : Array Slot} (hLk : LOK N L) (hI : IV n (N, R, Fr, inc)) (hn : n ≤ 1000) (hi : i + 6 ≤ Ls) (hL : Ls ≤ 3072) (hc : cells + 4 ≤ 603072 ∧ slots + 88 ≤ 7231594) (hW : Cw D cA s (fun q => s.heap.size ≤ q) (mWd cA β (o, .inl (cA 4, 1, .inr (.inl f))) (oD, .inl (cA 5, 1, .inr (.inr (.inr (.inl g))))) (L.map (xf cA α (N, R, Fr, inc))) th (N, R, Fr, inc)) H locs) (hl : lv_has ls 9 [(0, .ref b), (1, .ref (α 0 0)), (2, .ref (β 0)), (3, .ref o), (4, .ref oD), (5, .int (nI i))]) (kk : LKK p l e s m below meth c D cA b (α 0 0) o oD β i n cells slots) : W p l e room_1 s m #[Value.ref b] below meth c H locs cells slots (lw_Z below #[Value.ref b] s) (F0 m 1505 ls []) := by
  obtain ⟨hx, hb, hr, hml, hown, hts, hX, hbl, hlocks, hgv⟩ := id C0
  have F := law_F C0
  have h : INV n N R Fr inc := hI.1
  obtain ⟨p1, hp1⟩ : ∃ v, xs (nI i + 1).toNatClampNeg = v := ⟨_, rfl⟩
  refine lv_aload_n hx hb dL_law_1505 rfl (lv_at hl 1 rfl) ?_
  refine lv_aload_n hx hb dL_law_1506 rfl (lv_at hl 0 rfl) ?_
  refine lv_iload hx hb dL_law_1507 (lv_at hl 5 rfl) ?_
  refine lv_iconst (v := 1) hx hb dL_law_1509 (by decide) ?_
  refine lv_iadd hx hb dL_law_1510 ?_
  refine k_sld C0 hW.2.2.2.1 (sc_1 hi hL) hp1 dL_law_1511 ?_
  refine lv_aload_n hx hb dL_law_1512 rfl (lv_at hl 3 rfl) ?_
  have hW := hW.eq xm
  refine k_callH (as := [.ref (α 0 0), .int p1, .ref o]) (rest := []) F hT hN (fun _ h => h) (Nat.le_refl _) hW (met_L_price l D cA (mW cA β th (N, R, Fr, inc)) α L N R Fr inc o f (oD, .inl (cA 5, 1, .inr (.inr (.inr (.inl g))))) n p1 s.heap.size hl0 hLk hI hn) rfl ML_L_202 ST_L_price IN_L CO_L_price hdS_L_price rfl rfl ⟨(Nat.le_of_ble_eq_true rfl), (Nat.le_of_ble_eq_true rfl)⟩ rfl rfl hl.1 (Nat.le_of_ble_eq_true rfl) dL_law_1513 ⟨by show _ ≤ 603072; omega, by show _ ≤ 7231594; omega⟩ (fun r u H locs hw hW => ?_)
  obtain ⟨f2, α2, L2⟩ := u
  obtain ⟨hr2, hα, hLk2, hf2⟩ := hw
  dsimp only at hα hLk2 hf2
  subst hr2
  have hW : Cw D cA s (fun q => s.heap.size ≤ q) (mWd cA β (o, .inl (cA 4, 1, .inr (.inl f2))) (oD, .inl (cA 5, 1, .inr (.inr (.inr (.inl g))))) (L2.map (xf cA α2 (op_price (N, R, Fr, inc) p1).2.2)) th (N, R, Fr, inc)) H locs := hW
  refine lv_istore (lv' := [(6, .int (nI (op_price (N, R, Fr, inc) p1).1)), (0, .ref b), (1, .ref (α 0 0)), (2, .ref (β 0)), (3, .ref o), (4, .ref oD), (5, .int (nI i))]) hx hb dL_law_1516 hl (by decide) rfl (fun ls hl => ?_)
  refine lv_aload_n hx hb dL_law_1518 rfl (lv_at hl 3 rfl) ?_
  refine lv_aload_n hx hb dL_law_1519 rfl (lv_at hl 1 rfl) ?_
  refine lv_iload hx hb dL_law_1520 (lv_at hl 6 rfl) ?_
  refine lv_iconst (v := 1) hx hb dL_law_1522 (by decide) ?_
  refine lv_iadd hx hb dL_law_1523 ?_
  refine k_sld C0 hW.2.2.2.1 (sc_1 hi hL) hp1 dL_law_1524 ?_
  refine k_callVi (as := [.int p1]) (rest := []) (b := β 0) (ci := 7) (q0 := 2) F hW (met_X5_price l D cA β (o, .inl (cA 4, 1, .inr (.inl f2))) (oD, .inl (cA 5, 1, .inr (.inr (.inr (.inl g))))) (List.map (xf cA α2 (op_price (N, R, Fr, inc) p1).2.2) L2) th N R Fr inc p1 (iv_ic h).2.1 (iv_lot h) (iv_ic h).2.2.1 (iv_ck h)) rfl ML_L_204 IM_X5_price SE_X5_price IN_X5 CO_X5_price hdV_X5_price rfl rfl ⟨(Nat.le_of_ble_eq_true rfl), (Nat.le_of_ble_eq_true rfl)⟩ rfl rfl rfl rfl rfl hl.1 (Nat.le_of_ble_eq_true rfl) dL_law_1525 ⟨by show _ ≤ 603072; omega, by show _ ≤ 7231594; omega⟩ (fun r u H locs hw hW => ?_)
  subst hw
  refine lv_istore (lv' := [(7, .int (op_price (N, R, Fr, inc) p1).2.1), (6, .int (nI (op_price (N, R, Fr, inc) p1).1)), (0, .ref b), (1, .ref (α 0 0)), (2, .ref (β 0)), (3, .ref o), (4, .ref oD), (5, .int (nI i))]) hx hb dL_law_1528 hl (by decide) rfl (fun ls hl => ?_)
  refine lv_aload_n hx hb dL_law_1530 rfl (lv_at hl 4 rfl) ?_
  refine k_callVi (as := []) (rest := []) (b := β 0) (ci := 7) (q0 := 2) F hW (met_thr l D cA β (o, .inl (cA 4, 1, .inr (.inl f2))) (oD, .inl (cA 5, 1, .inr (.inr (.inr (.inl g))))) (List.map (xf cA α2 (op_price (N, R, Fr, inc) p1).2.2) L2) (nI (op_price (N, R, Fr, inc) p1).1) (op_price (N, R, Fr, inc) p1).2.2) rfl ML_L_130 IM_X5_thrown SE_X5_thrown IN_X5 CO_X5_thrown hdV_X5_thrown rfl rfl ⟨(Nat.le_of_ble_eq_true rfl), (Nat.le_of_ble_eq_true rfl)⟩ rfl rfl rfl rfl rfl hl.1 (Nat.le_of_ble_eq_true rfl) dL_law_1531 ⟨by show _ ≤ 603072; omega, by show _ ≤ 7231594; omega⟩ (fun r u H locs hw hW => ?_)
  subst hw
  refine lv_iload hx hb dL_law_1534 (lv_at hl 1 rfl) ?_
  refine lv_icmp_eq (tgt := 1541) hx hb dL_law_1536 (by decide) (fun _ => ?_) (fun h => absurd (rfl) h)
  refine lv_iload hx hb dL_law_1541 (lv_at hl 1 rfl) ?_
  refine lv_if_ne (tgt := 1558) hx hb dL_law_1543 (by decide) (fun h0 => ?_) (fun h0 => ?_)
  · refine lv_goto (tgt := 2245) hx hb dL_law_1558 (by decide) ?_
    refine W.widen (k := cells + 4) (n := slots + 88) (by omega) (by omega) ?_
    exact kk ((op_price (N, R, Fr, inc) p1).2.2) α2 L2 f2 g (nI (op_price (N, R, Fr, inc) p1).1) H locs ls (by rw [st_price N R Fr inc p1]; exact hI.mono (Nat.le_succ n)) hLk2 hα hW (lv_sub hl [2, 3, 4, 5, 6, 7] rfl)
  · have h1 : (op_price (N, R, Fr, inc) p1).1 = 0 := nz_code (Nat.le_trans (ce_price N R Fr inc p1).1 (Nat.le_of_ble_eq_true rfl)) h0
    refine lv_aload_n hx hb dL_law_1546 rfl (lv_at hl 5 rfl) ?_
    refine lv_iconst (v := 0) hx hb dL_law_1547 (by decide) ?_
    refine k_lald (v := ((op_price (N, R, Fr, inc) p1).2.1).toInt64) F hW 0 rfl z_in (by rw [z_cl]; exact hf2 h1) dL_law_1548 ?_
    refine lv_iload hx hb dL_law_1549 (lv_at hl 0 rfl) ?_
    refine lv_i2l hx hb dL_law_1551 rfl ?_
    refine W.lcmp hx hb dL_law_1552 ?_
    rw [lg_self]
    refine lv_if_eq (tgt := 1558) hx hb dL_law_1553 (by decide) (fun _ => ?_) (fun h => absurd (rfl) h)
    refine lv_goto (tgt := 2245) hx hb dL_law_1558 (by decide) ?_
    refine W.widen (k := cells + 4) (n := slots + 88) (by omega) (by omega) ?_
    exact kk ((op_price (N, R, Fr, inc) p1).2.2) α2 L2 f2 g (nI (op_price (N, R, Fr, inc) p1).1) H locs ls (by rw [st_price N R Fr inc p1]; exact hI.mono (Nat.le_succ n)) hLk2 hα hW (lv_sub hl [2, 3, 4, 5, 6, 7] rfl)
set_option maxHeartbeats 4000000 in
set_option maxRecDepth 100000 in
theorem lc_22 {p : Program} {l : Launch} {e : Env} {s : State} {m : MethodId} {below : List Frame} {meth : Method} {c : Code} {b Ls : Nat} {xs : Nat → Int32} (C0 : lw_At p s m meth c b Ls xs) (hT : TH s.heap.size s) (hN : NC s) (hl0 : l.stackTraces = false) {D : va_G} {cA : Nat → ClassId} {β : Nat → Nat} {α : Nat → Nat → Nat} {L : List (Nat × Nat)} {N : Nat → Nat → Nat} {R : Nat → Nat → Nat → Int32} {Fr : Nat → UInt32} {inc : Int64} {th : Int32} {o oD : Nat} {f : Nat → Int64} {g : Nat → UInt64} {i n : Nat} {H : Heap} {locs : List Loc} {cells slots : Nat} {ls : Array Slot} (hLk : LOK N L) (hI : IV n (N, R, Fr, inc)) (hn : n ≤ 1000) (hi : i + 6 ≤ Ls) (hL : Ls ≤ 3072) (hc : cells + 4 ≤ 603072 ∧ slots + 88 ≤ 7231594) (hW : Cw D cA s (fun q => s.heap.size ≤ q) (mWd cA β (o, .inl (cA 4, 1, .inr (.inl f))) (oD, .inl (cA 5, 1, .inr (.inr (.inr (.inl g))))) (L.map (xf cA α (N, R, Fr, inc))) th (N, R, Fr, inc)) H locs) (hl : lv_has ls 9 [(0, .ref b), (1, .ref (α 0 0)), (2, .ref (β 0)), (3, .ref o), (4, .ref oD), (5, .int (nI i))]) (kk : LKK p l e s m below meth c D cA b (α 0 0) o oD β i n cells slots) : W p l e room_1 s m #[Value.ref b] below meth c H locs cells slots (lw_Z below #[Value.ref b] s) (F0 m 1561 ls []) := by
  obtain ⟨hx, hb, hr, hml, hown, hts, hX, hbl, hlocks, hgv⟩ := id C0
  have F := law_F C0
  have h : INV n N R Fr inc := hI.1
  obtain ⟨p1, hp1⟩ : ∃ v, xs (nI i + 1).toNatClampNeg = v := ⟨_, rfl⟩
  refine lv_aload_n hx hb dL_law_1561 rfl (lv_at hl 1 rfl) ?_
  refine lv_aload_n hx hb dL_law_1562 rfl (lv_at hl 0 rfl) ?_
  refine lv_iload hx hb dL_law_1563 (lv_at hl 5 rfl) ?_
  refine lv_iconst (v := 1) hx hb dL_law_1565 (by decide) ?_
  refine lv_iadd hx hb dL_law_1566 ?_
  refine k_sld C0 hW.2.2.2.1 (sc_1 hi hL) hp1 dL_law_1567 ?_
  refine lv_aload_n hx hb dL_law_1568 rfl (lv_at hl 3 rfl) ?_
  have hW := hW.eq xm
  refine k_callH (as := [.ref (α 0 0), .int p1, .ref o]) (rest := []) F hT hN (fun _ h => h) (Nat.le_refl _) hW (met_L_priceByBuyers l D cA (mW cA β th (N, R, Fr, inc)) α L N R Fr inc o f (oD, .inl (cA 5, 1, .inr (.inr (.inr (.inl g))))) n p1 s.heap.size hl0 hLk hI hn) rfl ML_L_205 ST_L_priceByBuyers IN_L CO_L_priceByBuyers hdS_L_priceByBuyers rfl rfl ⟨(Nat.le_of_ble_eq_true rfl), (Nat.le_of_ble_eq_true rfl)⟩ rfl rfl hl.1 (Nat.le_of_ble_eq_true rfl) dL_law_1569 ⟨by show _ ≤ 603072; omega, by show _ ≤ 7231594; omega⟩ (fun r u H locs hw hW => ?_)
  obtain ⟨f2, α2, L2⟩ := u
  obtain ⟨hr2, hα, hLk2, hf2⟩ := hw
  dsimp only at hα hLk2 hf2
  subst hr2
  have hW : Cw D cA s (fun q => s.heap.size ≤ q) (mWd cA β (o, .inl (cA 4, 1, .inr (.inl f2))) (oD, .inl (cA 5, 1, .inr (.inr (.inr (.inl g))))) (L2.map (xf cA α2 (op_price (N, R, Fr, inc) p1).2.2)) th (N, R, Fr, inc)) H locs := hW
  refine lv_istore (lv' := [(6, .int (nI (op_price (N, R, Fr, inc) p1).1)), (0, .ref b), (1, .ref (α 0 0)), (2, .ref (β 0)), (3, .ref o), (4, .ref oD), (5, .int (nI i))]) hx hb dL_law_1572 hl (by decide) rfl (fun ls hl => ?_)
  refine lv_aload_n hx hb dL_law_1574 rfl (lv_at hl 3 rfl) ?_
  refine lv_aload_n hx hb dL_law_1575 rfl (lv_at hl 1 rfl) ?_
  refine lv_iload hx hb dL_law_1576 (lv_at hl 6 rfl) ?_
  refine lv_iconst (v := 1) hx hb dL_law_1578 (by decide) ?_
  refine lv_iadd hx hb dL_law_1579 ?_
  refine k_sld C0 hW.2.2.2.1 (sc_1 hi hL) hp1 dL_law_1580 ?_
  refine k_callVi (as := [.int p1]) (rest := []) (b := β 0) (ci := 7) (q0 := 2) F hW (met_X5_priceByBuyers l D cA β (o, .inl (cA 4, 1, .inr (.inl f2))) (oD, .inl (cA 5, 1, .inr (.inr (.inr (.inl g))))) (List.map (xf cA α2 (op_price (N, R, Fr, inc) p1).2.2) L2) th N R Fr inc p1 (iv_ic h).2.1 (iv_lot h) (iv_ic h).2.2.1 (iv_ck h)) rfl ML_L_207 IM_X5_priceByBuyers SE_X5_priceByBuyers IN_X5 CO_X5_priceByBuyers hdV_X5_priceByBuyers rfl rfl ⟨(Nat.le_of_ble_eq_true rfl), (Nat.le_of_ble_eq_true rfl)⟩ rfl rfl rfl rfl rfl hl.1 (Nat.le_of_ble_eq_true rfl) dL_law_1581 ⟨by show _ ≤ 603072; omega, by show _ ≤ 7231594; omega⟩ (fun r u H locs hw hW => ?_)
  subst hw
  refine lv_istore (lv' := [(7, .int (op_price (N, R, Fr, inc) p1).2.1), (6, .int (nI (op_price (N, R, Fr, inc) p1).1)), (0, .ref b), (1, .ref (α 0 0)), (2, .ref (β 0)), (3, .ref o), (4, .ref oD), (5, .int (nI i))]) hx hb dL_law_1584 hl (by decide) rfl (fun ls hl => ?_)
  refine lv_aload_n hx hb dL_law_1586 rfl (lv_at hl 4 rfl) ?_
  refine k_callVi (as := []) (rest := []) (b := β 0) (ci := 7) (q0 := 2) F hW (met_thr l D cA β (o, .inl (cA 4, 1, .inr (.inl f2))) (oD, .inl (cA 5, 1, .inr (.inr (.inr (.inl g))))) (List.map (xf cA α2 (op_price (N, R, Fr, inc) p1).2.2) L2) (nI (op_price (N, R, Fr, inc) p1).1) (op_price (N, R, Fr, inc) p1).2.2) rfl ML_L_130 IM_X5_thrown SE_X5_thrown IN_X5 CO_X5_thrown hdV_X5_thrown rfl rfl ⟨(Nat.le_of_ble_eq_true rfl), (Nat.le_of_ble_eq_true rfl)⟩ rfl rfl rfl rfl rfl hl.1 (Nat.le_of_ble_eq_true rfl) dL_law_1587 ⟨by show _ ≤ 603072; omega, by show _ ≤ 7231594; omega⟩ (fun r u H locs hw hW => ?_)
  subst hw
  refine lv_iload hx hb dL_law_1590 (lv_at hl 1 rfl) ?_
  refine lv_icmp_eq (tgt := 1597) hx hb dL_law_1592 (by decide) (fun _ => ?_) (fun h => absurd (rfl) h)
  refine lv_iload hx hb dL_law_1597 (lv_at hl 1 rfl) ?_
  refine lv_if_ne (tgt := 1614) hx hb dL_law_1599 (by decide) (fun h0 => ?_) (fun h0 => ?_)
  · refine lv_goto (tgt := 2245) hx hb dL_law_1614 (by decide) ?_
    refine W.widen (k := cells + 4) (n := slots + 88) (by omega) (by omega) ?_
    exact kk ((op_price (N, R, Fr, inc) p1).2.2) α2 L2 f2 g (nI (op_price (N, R, Fr, inc) p1).1) H locs ls (by rw [st_price N R Fr inc p1]; exact hI.mono (Nat.le_succ n)) hLk2 hα hW (lv_sub hl [2, 3, 4, 5, 6, 7] rfl)
  · have h1 : (op_price (N, R, Fr, inc) p1).1 = 0 := nz_code (Nat.le_trans (ce_price N R Fr inc p1).1 (Nat.le_of_ble_eq_true rfl)) h0
    refine lv_aload_n hx hb dL_law_1602 rfl (lv_at hl 5 rfl) ?_
    refine lv_iconst (v := 0) hx hb dL_law_1603 (by decide) ?_
    refine k_lald (v := ((op_price (N, R, Fr, inc) p1).2.1).toInt64) F hW 0 rfl z_in (by rw [z_cl]; exact hf2 h1) dL_law_1604 ?_
    refine lv_iload hx hb dL_law_1605 (lv_at hl 0 rfl) ?_
    refine lv_i2l hx hb dL_law_1607 rfl ?_
    refine W.lcmp hx hb dL_law_1608 ?_
    rw [lg_self]
    refine lv_if_eq (tgt := 1614) hx hb dL_law_1609 (by decide) (fun _ => ?_) (fun h => absurd (rfl) h)
    refine lv_goto (tgt := 2245) hx hb dL_law_1614 (by decide) ?_
    refine W.widen (k := cells + 4) (n := slots + 88) (by omega) (by omega) ?_
    exact kk ((op_price (N, R, Fr, inc) p1).2.2) α2 L2 f2 g (nI (op_price (N, R, Fr, inc) p1).1) H locs ls (by rw [st_price N R Fr inc p1]; exact hI.mono (Nat.le_succ n)) hLk2 hα hW (lv_sub hl [2, 3, 4, 5, 6, 7] rfl)
set_option maxHeartbeats 4000000 in
set_option maxRecDepth 100000 in
theorem lc_23 {p : Program} {l : Launch} {e : Env} {s : State} {m : MethodId} {below : List Frame} {meth : Method} {c : Code} {b Ls : Nat} {xs : Nat → Int32} (C0 : lw_At p s m meth c b Ls xs) (hT : TH s.heap.size s) (hN : NC s) (hl0 : l.stackTraces = false) {D : va_G} {cA : Nat → ClassId} {β : Nat → Nat} {α : Nat → Nat → Nat} {L : List (Nat × Nat)} {N : Nat → Nat → Nat} {R : Nat → Nat → Nat → Int32} {Fr : Nat → UInt32} {inc : Int64} {th : Int32} {o oD : Nat} {f : Nat → Int64} {g : Nat → UInt64} {i n : Nat} {H : Heap} {locs : List Loc} {cells slots : Nat} {ls : Array Slot} (hLk : LOK N L) (hI : IV n (N, R, Fr, inc)) (hn : n ≤ 1000) (hi : i + 6 ≤ Ls) (hL : Ls ≤ 3072) (hc : cells + 4 ≤ 603072 ∧ slots + 88 ≤ 7231594) (hW : Cw D cA s (fun q => s.heap.size ≤ q) (mWd cA β (o, .inl (cA 4, 1, .inr (.inl f))) (oD, .inl (cA 5, 1, .inr (.inr (.inr (.inl g))))) (L.map (xf cA α (N, R, Fr, inc))) th (N, R, Fr, inc)) H locs) (hl : lv_has ls 9 [(0, .ref b), (1, .ref (α 0 0)), (2, .ref (β 0)), (3, .ref o), (4, .ref oD), (5, .int (nI i))]) (kk : LKK p l e s m below meth c D cA b (α 0 0) o oD β i n cells slots) : W p l e room_1 s m #[Value.ref b] below meth c H locs cells slots (lw_Z below #[Value.ref b] s) (F0 m 1617 ls []) := by
  obtain ⟨hx, hb, hr, hml, hown, hts, hX, hbl, hlocks, hgv⟩ := id C0
  have F := law_F C0
  have h : INV n N R Fr inc := hI.1
  obtain ⟨p1, hp1⟩ : ∃ v, xs (nI i + 1).toNatClampNeg = v := ⟨_, rfl⟩
  refine lv_aload_n hx hb dL_law_1617 rfl (lv_at hl 1 rfl) ?_
  refine lv_aload_n hx hb dL_law_1618 rfl (lv_at hl 0 rfl) ?_
  refine lv_iload hx hb dL_law_1619 (lv_at hl 5 rfl) ?_
  refine lv_iconst (v := 1) hx hb dL_law_1621 (by decide) ?_
  refine lv_iadd hx hb dL_law_1622 ?_
  refine k_sld C0 hW.2.2.2.1 (sc_1 hi hL) hp1 dL_law_1623 ?_
  refine lv_aload_n hx hb dL_law_1624 rfl (lv_at hl 3 rfl) ?_
  have hW := hW.eq xm
  refine k_callH (as := [.ref (α 0 0), .int p1, .ref o]) (rest := []) F hT hN (fun _ h => h) (Nat.le_refl _) hW (met_L_sell l D cA (mW cA β th (N, R, Fr, inc)) α L N R Fr inc o f (oD, .inl (cA 5, 1, .inr (.inr (.inr (.inl g))))) n p1 s.heap.size hl0 hLk hI hn) rfl ML_L_208 ST_L_sell IN_L CO_L_sell hdS_L_sell rfl rfl ⟨(Nat.le_of_ble_eq_true rfl), (Nat.le_of_ble_eq_true rfl)⟩ rfl rfl hl.1 (Nat.le_of_ble_eq_true rfl) dL_law_1625 ⟨by show _ ≤ 603072; omega, by show _ ≤ 7231594; omega⟩ (fun r u H locs hw hW => ?_)
  obtain ⟨f2, α2, L2⟩ := u
  obtain ⟨hr2, hα, hLk2, hf2⟩ := hw
  dsimp only at hα hLk2 hf2
  subst hr2
  have hW : Cw D cA s (fun q => s.heap.size ≤ q) (mWd cA β (o, .inl (cA 4, 1, .inr (.inl f2))) (oD, .inl (cA 5, 1, .inr (.inr (.inr (.inl g))))) (L2.map (xf cA α2 (op_sell (N, R, Fr, inc) p1).2.2)) th (N, R, Fr, inc)) H locs := hW
  refine lv_istore (lv' := [(6, .int (nI (op_sell (N, R, Fr, inc) p1).1)), (0, .ref b), (1, .ref (α 0 0)), (2, .ref (β 0)), (3, .ref o), (4, .ref oD), (5, .int (nI i))]) hx hb dL_law_1628 hl (by decide) rfl (fun ls hl => ?_)
  refine lv_aload_n hx hb dL_law_1630 rfl (lv_at hl 3 rfl) ?_
  refine lv_aload_n hx hb dL_law_1631 rfl (lv_at hl 1 rfl) ?_
  refine lv_iload hx hb dL_law_1632 (lv_at hl 6 rfl) ?_
  refine lv_iconst (v := 1) hx hb dL_law_1634 (by decide) ?_
  refine lv_iadd hx hb dL_law_1635 ?_
  refine k_sld C0 hW.2.2.2.1 (sc_1 hi hL) hp1 dL_law_1636 ?_
  refine k_callVi (as := [.int p1]) (rest := []) (b := β 0) (ci := 7) (q0 := 2) F hW (met_X5_sell l D cA β (o, .inl (cA 4, 1, .inr (.inl f2))) (oD, .inl (cA 5, 1, .inr (.inr (.inr (.inl g))))) (List.map (xf cA α2 (op_sell (N, R, Fr, inc) p1).2.2) L2) th N R Fr inc p1 (iv_ic h).2.1 (iv_lot h) (iv_ic h).2.2.1 (iv_ck h)) rfl ML_L_210 IM_X5_sell SE_X5_sell IN_X5 CO_X5_sell hdV_X5_sell rfl rfl ⟨(Nat.le_of_ble_eq_true rfl), (Nat.le_of_ble_eq_true rfl)⟩ rfl rfl rfl rfl rfl hl.1 (Nat.le_of_ble_eq_true rfl) dL_law_1637 ⟨by show _ ≤ 603072; omega, by show _ ≤ 7231594; omega⟩ (fun r u H locs hw hW => ?_)
  subst hw
  refine lv_istore (lv' := [(7, .int (op_sell (N, R, Fr, inc) p1).2.1), (6, .int (nI (op_sell (N, R, Fr, inc) p1).1)), (0, .ref b), (1, .ref (α 0 0)), (2, .ref (β 0)), (3, .ref o), (4, .ref oD), (5, .int (nI i))]) hx hb dL_law_1640 hl (by decide) rfl (fun ls hl => ?_)
  refine lv_aload_n hx hb dL_law_1642 rfl (lv_at hl 4 rfl) ?_
  refine k_callVi (as := []) (rest := []) (b := β 0) (ci := 7) (q0 := 2) F hW (met_thr l D cA β (o, .inl (cA 4, 1, .inr (.inl f2))) (oD, .inl (cA 5, 1, .inr (.inr (.inr (.inl g))))) (List.map (xf cA α2 (op_sell (N, R, Fr, inc) p1).2.2) L2) (nI (op_sell (N, R, Fr, inc) p1).1) (op_sell (N, R, Fr, inc) p1).2.2) rfl ML_L_130 IM_X5_thrown SE_X5_thrown IN_X5 CO_X5_thrown hdV_X5_thrown rfl rfl ⟨(Nat.le_of_ble_eq_true rfl), (Nat.le_of_ble_eq_true rfl)⟩ rfl rfl rfl rfl rfl hl.1 (Nat.le_of_ble_eq_true rfl) dL_law_1643 ⟨by show _ ≤ 603072; omega, by show _ ≤ 7231594; omega⟩ (fun r u H locs hw hW => ?_)
  subst hw
  refine lv_iload hx hb dL_law_1646 (lv_at hl 1 rfl) ?_
  refine lv_icmp_eq (tgt := 1653) hx hb dL_law_1648 (by decide) (fun _ => ?_) (fun h => absurd (rfl) h)
  refine lv_iload hx hb dL_law_1653 (lv_at hl 1 rfl) ?_
  refine lv_if_ne (tgt := 1670) hx hb dL_law_1655 (by decide) (fun h0 => ?_) (fun h0 => ?_)
  · refine lv_goto (tgt := 2245) hx hb dL_law_1670 (by decide) ?_
    refine W.widen (k := cells + 4) (n := slots + 88) (by omega) (by omega) ?_
    exact kk ((op_sell (N, R, Fr, inc) p1).2.2) α2 L2 f2 g (nI (op_sell (N, R, Fr, inc) p1).1) H locs ls ((hI.sell p1).mono (Nat.le_succ n)) hLk2 hα hW (lv_sub hl [2, 3, 4, 5, 6, 7] rfl)
  · have h1 : (op_sell (N, R, Fr, inc) p1).1 = 0 := nz_code (Nat.le_trans (ce_sell N R Fr inc p1).1 (Nat.le_of_ble_eq_true rfl)) h0
    refine lv_aload_n hx hb dL_law_1658 rfl (lv_at hl 5 rfl) ?_
    refine lv_iconst (v := 0) hx hb dL_law_1659 (by decide) ?_
    refine k_lald (v := ((op_sell (N, R, Fr, inc) p1).2.1).toInt64) F hW 0 rfl z_in (by rw [z_cl]; exact hf2 h1) dL_law_1660 ?_
    refine lv_iload hx hb dL_law_1661 (lv_at hl 0 rfl) ?_
    refine lv_i2l hx hb dL_law_1663 rfl ?_
    refine W.lcmp hx hb dL_law_1664 ?_
    rw [lg_self]
    refine lv_if_eq (tgt := 1670) hx hb dL_law_1665 (by decide) (fun _ => ?_) (fun h => absurd (rfl) h)
    refine lv_goto (tgt := 2245) hx hb dL_law_1670 (by decide) ?_
    refine W.widen (k := cells + 4) (n := slots + 88) (by omega) (by omega) ?_
    exact kk ((op_sell (N, R, Fr, inc) p1).2.2) α2 L2 f2 g (nI (op_sell (N, R, Fr, inc) p1).1) H locs ls ((hI.sell p1).mono (Nat.le_succ n)) hLk2 hα hW (lv_sub hl [2, 3, 4, 5, 6, 7] rfl)
set_option maxHeartbeats 4000000 in
set_option maxRecDepth 100000 in
theorem lc_24 {p : Program} {l : Launch} {e : Env} {s : State} {m : MethodId} {below : List Frame} {meth : Method} {c : Code} {b Ls : Nat} {xs : Nat → Int32} (C0 : lw_At p s m meth c b Ls xs) (hT : TH s.heap.size s) (hN : NC s) (hl0 : l.stackTraces = false) {D : va_G} {cA : Nat → ClassId} {β : Nat → Nat} {α : Nat → Nat → Nat} {L : List (Nat × Nat)} {N : Nat → Nat → Nat} {R : Nat → Nat → Nat → Int32} {Fr : Nat → UInt32} {inc : Int64} {th : Int32} {o oD : Nat} {f : Nat → Int64} {g : Nat → UInt64} {i n : Nat} {H : Heap} {locs : List Loc} {cells slots : Nat} {ls : Array Slot} (hLk : LOK N L) (hI : IV n (N, R, Fr, inc)) (hn : n ≤ 1000) (hi : i + 6 ≤ Ls) (hL : Ls ≤ 3072) (hc : cells + 4 ≤ 603072 ∧ slots + 88 ≤ 7231594) (hW : Cw D cA s (fun q => s.heap.size ≤ q) (mWd cA β (o, .inl (cA 4, 1, .inr (.inl f))) (oD, .inl (cA 5, 1, .inr (.inr (.inr (.inl g))))) (L.map (xf cA α (N, R, Fr, inc))) th (N, R, Fr, inc)) H locs) (hl : lv_has ls 9 [(0, .ref b), (1, .ref (α 0 0)), (2, .ref (β 0)), (3, .ref o), (4, .ref oD), (5, .int (nI i))]) (kk : LKK p l e s m below meth c D cA b (α 0 0) o oD β i n cells slots) : W p l e room_1 s m #[Value.ref b] below meth c H locs cells slots (lw_Z below #[Value.ref b] s) (F0 m 1673 ls []) := by
  obtain ⟨hx, hb, hr, hml, hown, hts, hX, hbl, hlocks, hgv⟩ := id C0
  have F := law_F C0
  have h : INV n N R Fr inc := hI.1
  obtain ⟨p1, hp1⟩ : ∃ v, xs (nI i + 1).toNatClampNeg = v := ⟨_, rfl⟩
  refine lv_aload_n hx hb dL_law_1673 rfl (lv_at hl 1 rfl) ?_
  refine lv_aload_n hx hb dL_law_1674 rfl (lv_at hl 0 rfl) ?_
  refine lv_iload hx hb dL_law_1675 (lv_at hl 5 rfl) ?_
  refine lv_iconst (v := 1) hx hb dL_law_1677 (by decide) ?_
  refine lv_iadd hx hb dL_law_1678 ?_
  refine k_sld C0 hW.2.2.2.1 (sc_1 hi hL) hp1 dL_law_1679 ?_
  refine lv_aload_n hx hb dL_law_1680 rfl (lv_at hl 3 rfl) ?_
  have hW := hW.eq xm
  refine k_callH (as := [.ref (α 0 0), .int p1, .ref o]) (rest := []) F hT hN (fun _ h => h) (Nat.le_refl _) hW (met_L_buyerOf l D cA (mW cA β th (N, R, Fr, inc)) α L N R Fr inc o f (oD, .inl (cA 5, 1, .inr (.inr (.inr (.inl g))))) n p1 s.heap.size hl0 hLk hI hn) rfl ML_L_211 ST_L_buyerOf IN_L CO_L_buyerOf hdS_L_buyerOf rfl rfl ⟨(Nat.le_of_ble_eq_true rfl), (Nat.le_of_ble_eq_true rfl)⟩ rfl rfl hl.1 (Nat.le_of_ble_eq_true rfl) dL_law_1681 ⟨by show _ ≤ 603072; omega, by show _ ≤ 7231594; omega⟩ (fun r u H locs hw hW => ?_)
  obtain ⟨f2, α2, L2⟩ := u
  obtain ⟨hr2, hα, hLk2, hf2⟩ := hw
  dsimp only at hα hLk2 hf2
  subst hr2
  have hW : Cw D cA s (fun q => s.heap.size ≤ q) (mWd cA β (o, .inl (cA 4, 1, .inr (.inl f2))) (oD, .inl (cA 5, 1, .inr (.inr (.inr (.inl g))))) (L2.map (xf cA α2 (op_buyerOf (N, R, Fr, inc) p1).2.2)) th (N, R, Fr, inc)) H locs := hW
  refine lv_istore (lv' := [(6, .int (nI (op_buyerOf (N, R, Fr, inc) p1).1)), (0, .ref b), (1, .ref (α 0 0)), (2, .ref (β 0)), (3, .ref o), (4, .ref oD), (5, .int (nI i))]) hx hb dL_law_1684 hl (by decide) rfl (fun ls hl => ?_)
  refine lv_aload_n hx hb dL_law_1686 rfl (lv_at hl 3 rfl) ?_
  refine lv_aload_n hx hb dL_law_1687 rfl (lv_at hl 1 rfl) ?_
  refine lv_iload hx hb dL_law_1688 (lv_at hl 6 rfl) ?_
  refine lv_iconst (v := 1) hx hb dL_law_1690 (by decide) ?_
  refine lv_iadd hx hb dL_law_1691 ?_
  refine k_sld C0 hW.2.2.2.1 (sc_1 hi hL) hp1 dL_law_1692 ?_
  refine k_callVi (as := [.int p1]) (rest := []) (b := β 0) (ci := 7) (q0 := 2) F hW (met_X5_buyerOf l D cA β (o, .inl (cA 4, 1, .inr (.inl f2))) (oD, .inl (cA 5, 1, .inr (.inr (.inr (.inl g))))) (List.map (xf cA α2 (op_buyerOf (N, R, Fr, inc) p1).2.2) L2) th N R Fr inc p1 (iv_ic h).2.1) rfl ML_L_213 IM_X5_buyerOf SE_X5_buyerOf IN_X5 CO_X5_buyerOf hdV_X5_buyerOf rfl rfl ⟨(Nat.le_of_ble_eq_true rfl), (Nat.le_of_ble_eq_true rfl)⟩ rfl rfl rfl rfl rfl hl.1 (Nat.le_of_ble_eq_true rfl) dL_law_1693 ⟨by show _ ≤ 603072; omega, by show _ ≤ 7231594; omega⟩ (fun r u H locs hw hW => ?_)
  subst hw
  refine lv_istore (lv' := [(7, .int (op_buyerOf (N, R, Fr, inc) p1).2.1), (6, .int (nI (op_buyerOf (N, R, Fr, inc) p1).1)), (0, .ref b), (1, .ref (α 0 0)), (2, .ref (β 0)), (3, .ref o), (4, .ref oD), (5, .int (nI i))]) hx hb dL_law_1696 hl (by decide) rfl (fun ls hl => ?_)
  refine lv_aload_n hx hb dL_law_1698 rfl (lv_at hl 4 rfl) ?_
  refine k_callVi (as := []) (rest := []) (b := β 0) (ci := 7) (q0 := 2) F hW (met_thr l D cA β (o, .inl (cA 4, 1, .inr (.inl f2))) (oD, .inl (cA 5, 1, .inr (.inr (.inr (.inl g))))) (List.map (xf cA α2 (op_buyerOf (N, R, Fr, inc) p1).2.2) L2) (nI (op_buyerOf (N, R, Fr, inc) p1).1) (op_buyerOf (N, R, Fr, inc) p1).2.2) rfl ML_L_130 IM_X5_thrown SE_X5_thrown IN_X5 CO_X5_thrown hdV_X5_thrown rfl rfl ⟨(Nat.le_of_ble_eq_true rfl), (Nat.le_of_ble_eq_true rfl)⟩ rfl rfl rfl rfl rfl hl.1 (Nat.le_of_ble_eq_true rfl) dL_law_1699 ⟨by show _ ≤ 603072; omega, by show _ ≤ 7231594; omega⟩ (fun r u H locs hw hW => ?_)
  subst hw
  refine lv_iload hx hb dL_law_1702 (lv_at hl 1 rfl) ?_
  refine lv_icmp_eq (tgt := 1709) hx hb dL_law_1704 (by decide) (fun _ => ?_) (fun h => absurd (rfl) h)
  refine lv_iload hx hb dL_law_1709 (lv_at hl 1 rfl) ?_
  refine lv_if_ne (tgt := 1726) hx hb dL_law_1711 (by decide) (fun h0 => ?_) (fun h0 => ?_)
  · refine lv_goto (tgt := 2245) hx hb dL_law_1726 (by decide) ?_
    refine W.widen (k := cells + 4) (n := slots + 88) (by omega) (by omega) ?_
    exact kk ((op_buyerOf (N, R, Fr, inc) p1).2.2) α2 L2 f2 g (nI (op_buyerOf (N, R, Fr, inc) p1).1) H locs ls (by rw [st_buyerOf N R Fr inc p1]; exact hI.mono (Nat.le_succ n)) hLk2 hα hW (lv_sub hl [2, 3, 4, 5, 6, 7] rfl)
  · have h1 : (op_buyerOf (N, R, Fr, inc) p1).1 = 0 := nz_code (Nat.le_trans (ce_buyerOf N R Fr inc p1).1 (Nat.le_of_ble_eq_true rfl)) h0
    refine lv_aload_n hx hb dL_law_1714 rfl (lv_at hl 5 rfl) ?_
    refine lv_iconst (v := 0) hx hb dL_law_1715 (by decide) ?_
    refine k_lald (v := ((op_buyerOf (N, R, Fr, inc) p1).2.1).toInt64) F hW 0 rfl z_in (by rw [z_cl]; exact hf2 h1) dL_law_1716 ?_
    refine lv_iload hx hb dL_law_1717 (lv_at hl 0 rfl) ?_
    refine lv_i2l hx hb dL_law_1719 rfl ?_
    refine W.lcmp hx hb dL_law_1720 ?_
    rw [lg_self]
    refine lv_if_eq (tgt := 1726) hx hb dL_law_1721 (by decide) (fun _ => ?_) (fun h => absurd (rfl) h)
    refine lv_goto (tgt := 2245) hx hb dL_law_1726 (by decide) ?_
    refine W.widen (k := cells + 4) (n := slots + 88) (by omega) (by omega) ?_
    exact kk ((op_buyerOf (N, R, Fr, inc) p1).2.2) α2 L2 f2 g (nI (op_buyerOf (N, R, Fr, inc) p1).1) H locs ls (by rw [st_buyerOf N R Fr inc p1]; exact hI.mono (Nat.le_succ n)) hLk2 hα hW (lv_sub hl [2, 3, 4, 5, 6, 7] rfl)
set_option maxHeartbeats 4000000 in
set_option maxRecDepth 100000 in
theorem lc_25 {p : Program} {l : Launch} {e : Env} {s : State} {m : MethodId} {below : List Frame} {meth : Method} {c : Code} {b Ls : Nat} {xs : Nat → Int32} (C0 : lw_At p s m meth c b Ls xs) (hT : TH s.heap.size s) (hN : NC s) (hl0 : l.stackTraces = false) {D : va_G} {cA : Nat → ClassId} {β : Nat → Nat} {α : Nat → Nat → Nat} {L : List (Nat × Nat)} {N : Nat → Nat → Nat} {R : Nat → Nat → Nat → Int32} {Fr : Nat → UInt32} {inc : Int64} {th : Int32} {o oD : Nat} {f : Nat → Int64} {g : Nat → UInt64} {i n : Nat} {H : Heap} {locs : List Loc} {cells slots : Nat} {ls : Array Slot} (hLk : LOK N L) (hI : IV n (N, R, Fr, inc)) (hn : n ≤ 1000) (hi : i + 6 ≤ Ls) (hL : Ls ≤ 3072) (hc : cells + 4 ≤ 603072 ∧ slots + 88 ≤ 7231594) (hW : Cw D cA s (fun q => s.heap.size ≤ q) (mWd cA β (o, .inl (cA 4, 1, .inr (.inl f))) (oD, .inl (cA 5, 1, .inr (.inr (.inr (.inl g))))) (L.map (xf cA α (N, R, Fr, inc))) th (N, R, Fr, inc)) H locs) (hl : lv_has ls 9 [(0, .ref b), (1, .ref (α 0 0)), (2, .ref (β 0)), (3, .ref o), (4, .ref oD), (5, .int (nI i))]) (kk : LKK p l e s m below meth c D cA b (α 0 0) o oD β i n cells slots) : W p l e room_1 s m #[Value.ref b] below meth c H locs cells slots (lw_Z below #[Value.ref b] s) (F0 m 1729 ls []) := by
  obtain ⟨hx, hb, hr, hml, hown, hts, hX, hbl, hlocks, hgv⟩ := id C0
  have F := law_F C0
  have h : INV n N R Fr inc := hI.1
  obtain ⟨p1, hp1⟩ : ∃ v, xs (nI i + 1).toNatClampNeg = v := ⟨_, rfl⟩
  refine lv_aload_n hx hb dL_law_1729 rfl (lv_at hl 1 rfl) ?_
  refine lv_aload_n hx hb dL_law_1730 rfl (lv_at hl 0 rfl) ?_
  refine lv_iload hx hb dL_law_1731 (lv_at hl 5 rfl) ?_
  refine lv_iconst (v := 1) hx hb dL_law_1733 (by decide) ?_
  refine lv_iadd hx hb dL_law_1734 ?_
  refine k_sld C0 hW.2.2.2.1 (sc_1 hi hL) hp1 dL_law_1735 ?_
  refine lv_aload_n hx hb dL_law_1736 rfl (lv_at hl 3 rfl) ?_
  have hW := hW.eq xm
  refine k_callH (as := [.ref (α 0 0), .int p1, .ref o]) (rest := []) F hT hN (fun _ h => h) (Nat.le_refl _) hW (met_L_paidFor l D cA (mW cA β th (N, R, Fr, inc)) α L N R Fr inc o f (oD, .inl (cA 5, 1, .inr (.inr (.inr (.inl g))))) n p1 s.heap.size hl0 hLk hI hn) rfl ML_L_214 ST_L_paidFor IN_L CO_L_paidFor hdS_L_paidFor rfl rfl ⟨(Nat.le_of_ble_eq_true rfl), (Nat.le_of_ble_eq_true rfl)⟩ rfl rfl hl.1 (Nat.le_of_ble_eq_true rfl) dL_law_1737 ⟨by show _ ≤ 603072; omega, by show _ ≤ 7231594; omega⟩ (fun r u H locs hw hW => ?_)
  obtain ⟨f2, α2, L2⟩ := u
  obtain ⟨hr2, hα, hLk2, hf2⟩ := hw
  dsimp only at hα hLk2 hf2
  subst hr2
  have hW : Cw D cA s (fun q => s.heap.size ≤ q) (mWd cA β (o, .inl (cA 4, 1, .inr (.inl f2))) (oD, .inl (cA 5, 1, .inr (.inr (.inr (.inl g))))) (L2.map (xf cA α2 (op_lot 12 (N, R, Fr, inc) p1).2.2)) th (N, R, Fr, inc)) H locs := hW
  refine lv_istore (lv' := [(6, .int (nI (op_lot 12 (N, R, Fr, inc) p1).1)), (0, .ref b), (1, .ref (α 0 0)), (2, .ref (β 0)), (3, .ref o), (4, .ref oD), (5, .int (nI i))]) hx hb dL_law_1740 hl (by decide) rfl (fun ls hl => ?_)
  refine lv_aload_n hx hb dL_law_1742 rfl (lv_at hl 3 rfl) ?_
  refine lv_aload_n hx hb dL_law_1743 rfl (lv_at hl 1 rfl) ?_
  refine lv_iload hx hb dL_law_1744 (lv_at hl 6 rfl) ?_
  refine lv_iconst (v := 1) hx hb dL_law_1746 (by decide) ?_
  refine lv_iadd hx hb dL_law_1747 ?_
  refine k_sld C0 hW.2.2.2.1 (sc_1 hi hL) hp1 dL_law_1748 ?_
  refine k_callVi (as := [.int p1]) (rest := []) (b := β 0) (ci := 7) (q0 := 2) F hW (met_X5_paidFor l D cA β (o, .inl (cA 4, 1, .inr (.inl f2))) (oD, .inl (cA 5, 1, .inr (.inr (.inr (.inl g))))) (List.map (xf cA α2 (op_lot 12 (N, R, Fr, inc) p1).2.2) L2) th N R Fr inc p1 (iv_ic h).2.1) rfl ML_L_216 IM_X5_paidFor SE_X5_paidFor IN_X5 CO_X5_paidFor hdV_X5_paidFor rfl rfl ⟨(Nat.le_of_ble_eq_true rfl), (Nat.le_of_ble_eq_true rfl)⟩ rfl rfl rfl rfl rfl hl.1 (Nat.le_of_ble_eq_true rfl) dL_law_1749 ⟨by show _ ≤ 603072; omega, by show _ ≤ 7231594; omega⟩ (fun r u H locs hw hW => ?_)
  subst hw
  refine lv_istore (lv' := [(7, .int (op_lot 12 (N, R, Fr, inc) p1).2.1), (6, .int (nI (op_lot 12 (N, R, Fr, inc) p1).1)), (0, .ref b), (1, .ref (α 0 0)), (2, .ref (β 0)), (3, .ref o), (4, .ref oD), (5, .int (nI i))]) hx hb dL_law_1752 hl (by decide) rfl (fun ls hl => ?_)
  refine lv_aload_n hx hb dL_law_1754 rfl (lv_at hl 4 rfl) ?_
  refine k_callVi (as := []) (rest := []) (b := β 0) (ci := 7) (q0 := 2) F hW (met_thr l D cA β (o, .inl (cA 4, 1, .inr (.inl f2))) (oD, .inl (cA 5, 1, .inr (.inr (.inr (.inl g))))) (List.map (xf cA α2 (op_lot 12 (N, R, Fr, inc) p1).2.2) L2) (nI (op_lot 12 (N, R, Fr, inc) p1).1) (op_lot 12 (N, R, Fr, inc) p1).2.2) rfl ML_L_130 IM_X5_thrown SE_X5_thrown IN_X5 CO_X5_thrown hdV_X5_thrown rfl rfl ⟨(Nat.le_of_ble_eq_true rfl), (Nat.le_of_ble_eq_true rfl)⟩ rfl rfl rfl rfl rfl hl.1 (Nat.le_of_ble_eq_true rfl) dL_law_1755 ⟨by show _ ≤ 603072; omega, by show _ ≤ 7231594; omega⟩ (fun r u H locs hw hW => ?_)
  subst hw
  refine lv_iload hx hb dL_law_1758 (lv_at hl 1 rfl) ?_
  refine lv_icmp_eq (tgt := 1765) hx hb dL_law_1760 (by decide) (fun _ => ?_) (fun h => absurd (rfl) h)
  refine lv_iload hx hb dL_law_1765 (lv_at hl 1 rfl) ?_
  refine lv_if_ne (tgt := 1782) hx hb dL_law_1767 (by decide) (fun h0 => ?_) (fun h0 => ?_)
  · refine lv_goto (tgt := 2245) hx hb dL_law_1782 (by decide) ?_
    refine W.widen (k := cells + 4) (n := slots + 88) (by omega) (by omega) ?_
    exact kk ((op_lot 12 (N, R, Fr, inc) p1).2.2) α2 L2 f2 g (nI (op_lot 12 (N, R, Fr, inc) p1).1) H locs ls (by rw [st_lot 12 N R Fr inc p1]; exact hI.mono (Nat.le_succ n)) hLk2 hα hW (lv_sub hl [2, 3, 4, 5, 6, 7] rfl)
  · have h1 : (op_lot 12 (N, R, Fr, inc) p1).1 = 0 := nz_code (Nat.le_trans (ce_lot 12 N R Fr inc p1).1 (Nat.le_of_ble_eq_true rfl)) h0
    refine lv_aload_n hx hb dL_law_1770 rfl (lv_at hl 5 rfl) ?_
    refine lv_iconst (v := 0) hx hb dL_law_1771 (by decide) ?_
    refine k_lald (v := ((op_lot 12 (N, R, Fr, inc) p1).2.1).toInt64) F hW 0 rfl z_in (by rw [z_cl]; exact hf2 h1) dL_law_1772 ?_
    refine lv_iload hx hb dL_law_1773 (lv_at hl 0 rfl) ?_
    refine lv_i2l hx hb dL_law_1775 rfl ?_
    refine W.lcmp hx hb dL_law_1776 ?_
    rw [lg_self]
    refine lv_if_eq (tgt := 1782) hx hb dL_law_1777 (by decide) (fun _ => ?_) (fun h => absurd (rfl) h)
    refine lv_goto (tgt := 2245) hx hb dL_law_1782 (by decide) ?_
    refine W.widen (k := cells + 4) (n := slots + 88) (by omega) (by omega) ?_
    exact kk ((op_lot 12 (N, R, Fr, inc) p1).2.2) α2 L2 f2 g (nI (op_lot 12 (N, R, Fr, inc) p1).1) H locs ls (by rw [st_lot 12 N R Fr inc p1]; exact hI.mono (Nat.le_succ n)) hLk2 hα hW (lv_sub hl [2, 3, 4, 5, 6, 7] rfl)
set_option maxHeartbeats 4000000 in
set_option maxRecDepth 100000 in
theorem lc_26 {p : Program} {l : Launch} {e : Env} {s : State} {m : MethodId} {below : List Frame} {meth : Method} {c : Code} {b Ls : Nat} {xs : Nat → Int32} (C0 : lw_At p s m meth c b Ls xs) (hT : TH s.heap.size s) (hN : NC s) (hl0 : l.stackTraces = false) {D : va_G} {cA : Nat → ClassId} {β : Nat → Nat} {α : Nat → Nat → Nat} {L : List (Nat × Nat)} {N : Nat → Nat → Nat} {R : Nat → Nat → Nat → Int32} {Fr : Nat → UInt32} {inc : Int64} {th : Int32} {o oD : Nat} {f : Nat → Int64} {g : Nat → UInt64} {i n : Nat} {H : Heap} {locs : List Loc} {cells slots : Nat} {ls : Array Slot} (hLk : LOK N L) (hI : IV n (N, R, Fr, inc)) (hn : n ≤ 1000) (hi : i + 6 ≤ Ls) (hL : Ls ≤ 3072) (hc : cells + 4 ≤ 603072 ∧ slots + 88 ≤ 7231594) (hW : Cw D cA s (fun q => s.heap.size ≤ q) (mWd cA β (o, .inl (cA 4, 1, .inr (.inl f))) (oD, .inl (cA 5, 1, .inr (.inr (.inr (.inl g))))) (L.map (xf cA α (N, R, Fr, inc))) th (N, R, Fr, inc)) H locs) (hl : lv_has ls 9 [(0, .ref b), (1, .ref (α 0 0)), (2, .ref (β 0)), (3, .ref o), (4, .ref oD), (5, .int (nI i))]) (kk : LKK p l e s m below meth c D cA b (α 0 0) o oD β i n cells slots) : W p l e room_1 s m #[Value.ref b] below meth c H locs cells slots (lw_Z below #[Value.ref b] s) (F0 m 1785 ls []) := by
  obtain ⟨hx, hb, hr, hml, hown, hts, hX, hbl, hlocks, hgv⟩ := id C0
  have F := law_F C0
  have h : INV n N R Fr inc := hI.1
  obtain ⟨p1, hp1⟩ : ∃ v, xs (nI i + 1).toNatClampNeg = v := ⟨_, rfl⟩
  obtain ⟨p2, hp2⟩ : ∃ v, xs (nI i + 2).toNatClampNeg = v := ⟨_, rfl⟩
  obtain ⟨p3, hp3⟩ : ∃ v, xs (nI i + 3).toNatClampNeg = v := ⟨_, rfl⟩
  refine lv_aload_n hx hb dL_law_1785 rfl (lv_at hl 1 rfl) ?_
  refine lv_aload_n hx hb dL_law_1786 rfl (lv_at hl 0 rfl) ?_
  refine lv_iload hx hb dL_law_1787 (lv_at hl 5 rfl) ?_
  refine lv_iconst (v := 1) hx hb dL_law_1789 (by decide) ?_
  refine lv_iadd hx hb dL_law_1790 ?_
  refine k_sld C0 hW.2.2.2.1 (sc_1 hi hL) hp1 dL_law_1791 ?_
  refine lv_aload_n hx hb dL_law_1792 rfl (lv_at hl 0 rfl) ?_
  refine lv_iload hx hb dL_law_1793 (lv_at hl 5 rfl) ?_
  refine lv_iconst (v := 2) hx hb dL_law_1795 (by decide) ?_
  refine lv_iadd hx hb dL_law_1796 ?_
  refine k_sld C0 hW.2.2.2.1 (sc_2 hi hL) hp2 dL_law_1797 ?_
  refine lv_aload_n hx hb dL_law_1798 rfl (lv_at hl 0 rfl) ?_
  refine lv_iload hx hb dL_law_1799 (lv_at hl 5 rfl) ?_
  refine lv_iconst (v := 3) hx hb dL_law_1801 (by decide) ?_
  refine lv_iadd hx hb dL_law_1802 ?_
  refine k_sld C0 hW.2.2.2.1 (sc_3 hi hL) hp3 dL_law_1803 ?_
  by_cases h5 : p3 = 0
  · obtain ⟨z, hz, ez⟩ : ∃ z : Int32, (z = 0 ∨ z = 1) ∧ z = 0 := ⟨0, by decide, rfl⟩
    refine lv_if_eq (tgt := 1811) hx hb dL_law_1804 (by decide) (fun _ => ?_) (fun h => absurd (h5) h)
    refine lv_iconst (v := 0) hx hb dL_law_1811 (by decide) ?_
    refine lv_aload_n hx hb dL_law_1812 rfl (lv_at hl 3 rfl) ?_
    rw [← ez]
    have hW := hW.eq xm
    refine k_callH (as := [.ref (α 0 0), .int p1, .int p2, .int z, .ref o]) (rest := []) F hT hN (fun _ h => h) (Nat.le_refl _) hW (met_L_addTruck l D cA (mW cA β th (N, R, Fr, inc)) α L N R Fr inc o f (oD, .inl (cA 5, 1, .inr (.inr (.inr (.inl g))))) n p1 p2 z s.heap.size hl0 hLk hI hn hz) rfl ML_L_217 ST_L_addTruck IN_L CO_L_addTruck hdS_L_addTruck rfl rfl ⟨(Nat.le_of_ble_eq_true rfl), (Nat.le_of_ble_eq_true rfl)⟩ rfl rfl hl.1 (Nat.le_of_ble_eq_true rfl) dL_law_1813 ⟨by show _ ≤ 603072; omega, by show _ ≤ 7231594; omega⟩ (fun r u H locs hw hW => ?_)
    obtain ⟨f2, α2, L2⟩ := u
    obtain ⟨hr2, hα, hLk2, hf2⟩ := hw
    dsimp only at hα hLk2 hf2
    subst hr2
    have hW : Cw D cA s (fun q => s.heap.size ≤ q) (mWd cA β (o, .inl (cA 4, 1, .inr (.inl f2))) (oD, .inl (cA 5, 1, .inr (.inr (.inr (.inl g))))) (L2.map (xf cA α2 (op_addTruck (N, R, Fr, inc) p1 p2 z).2.2)) th (N, R, Fr, inc)) H locs := hW
    refine lv_istore (lv' := [(6, .int (nI (op_addTruck (N, R, Fr, inc) p1 p2 z).1)), (0, .ref b), (1, .ref (α 0 0)), (2, .ref (β 0)), (3, .ref o), (4, .ref oD), (5, .int (nI i))]) hx hb dL_law_1816 hl (by decide) rfl (fun ls hl => ?_)
    refine lv_aload_n hx hb dL_law_1818 rfl (lv_at hl 3 rfl) ?_
    refine lv_aload_n hx hb dL_law_1819 rfl (lv_at hl 1 rfl) ?_
    refine lv_iload hx hb dL_law_1820 (lv_at hl 6 rfl) ?_
    refine lv_iconst (v := 1) hx hb dL_law_1822 (by decide) ?_
    refine lv_iadd hx hb dL_law_1823 ?_
    refine k_sld C0 hW.2.2.2.1 (sc_1 hi hL) hp1 dL_law_1824 ?_
    refine lv_aload_n hx hb dL_law_1825 rfl (lv_at hl 1 rfl) ?_
    refine lv_iload hx hb dL_law_1826 (lv_at hl 6 rfl) ?_
    refine lv_iconst (v := 2) hx hb dL_law_1828 (by decide) ?_
    refine lv_iadd hx hb dL_law_1829 ?_
    refine k_sld C0 hW.2.2.2.1 (sc_2 hi hL) hp2 dL_law_1830 ?_
    refine lv_aload_n hx hb dL_law_1831 rfl (lv_at hl 1 rfl) ?_
    refine lv_iload hx hb dL_law_1832 (lv_at hl 6 rfl) ?_
    refine lv_iconst (v := 3) hx hb dL_law_1834 (by decide) ?_
    refine lv_iadd hx hb dL_law_1835 ?_
    refine k_sld C0 hW.2.2.2.1 (sc_3 hi hL) hp3 dL_law_1836 ?_
    refine lv_if_eq (tgt := 1844) hx hb dL_law_1837 (by decide) (fun _ => ?_) (fun h => absurd (h5) h)
    refine lv_iconst (v := 0) hx hb dL_law_1844 (by decide) ?_
    rw [← ez]
    refine k_callVi (as := [.int p1, .int p2, .int z]) (rest := []) (b := β 0) (ci := 7) (q0 := 2) F hW (met_X5_addTruck l D cA β (o, .inl (cA 4, 1, .inr (.inl f2))) (oD, .inl (cA 5, 1, .inr (.inr (.inr (.inl g))))) (List.map (xf cA α2 (op_addTruck (N, R, Fr, inc) p1 p2 z).2.2) L2) th N R Fr inc p1 p2 z (iv_ic h).2.2.2.1 hz) rfl ML_L_220 IM_X5_addTruck SE_X5_addTruck IN_X5 CO_X5_addTruck hdV_X5_addTruck rfl rfl ⟨(Nat.le_of_ble_eq_true rfl), (Nat.le_of_ble_eq_true rfl)⟩ rfl rfl rfl rfl rfl hl.1 (Nat.le_of_ble_eq_true rfl) dL_law_1845 ⟨by show _ ≤ 603072; omega, by show _ ≤ 7231594; omega⟩ (fun r u H locs hw hW => ?_)
    subst hw
    refine lv_istore (lv' := [(7, .int (op_addTruck (N, R, Fr, inc) p1 p2 z).2.1), (6, .int (nI (op_addTruck (N, R, Fr, inc) p1 p2 z).1)), (0, .ref b), (1, .ref (α 0 0)), (2, .ref (β 0)), (3, .ref o), (4, .ref oD), (5, .int (nI i))]) hx hb dL_law_1848 hl (by decide) rfl (fun ls hl => ?_)
    refine lv_aload_n hx hb dL_law_1850 rfl (lv_at hl 4 rfl) ?_
    refine k_callVi (as := []) (rest := []) (b := β 0) (ci := 7) (q0 := 2) F hW (met_thr l D cA β (o, .inl (cA 4, 1, .inr (.inl f2))) (oD, .inl (cA 5, 1, .inr (.inr (.inr (.inl g))))) (List.map (xf cA α2 (op_addTruck (N, R, Fr, inc) p1 p2 z).2.2) L2) (nI (op_addTruck (N, R, Fr, inc) p1 p2 z).1) (op_addTruck (N, R, Fr, inc) p1 p2 z).2.2) rfl ML_L_130 IM_X5_thrown SE_X5_thrown IN_X5 CO_X5_thrown hdV_X5_thrown rfl rfl ⟨(Nat.le_of_ble_eq_true rfl), (Nat.le_of_ble_eq_true rfl)⟩ rfl rfl rfl rfl rfl hl.1 (Nat.le_of_ble_eq_true rfl) dL_law_1851 ⟨by show _ ≤ 603072; omega, by show _ ≤ 7231594; omega⟩ (fun r u H locs hw hW => ?_)
    subst hw
    refine lv_iload hx hb dL_law_1854 (lv_at hl 1 rfl) ?_
    refine lv_icmp_eq (tgt := 1861) hx hb dL_law_1856 (by decide) (fun _ => ?_) (fun h => absurd (rfl) h)
    refine lv_iload hx hb dL_law_1861 (lv_at hl 1 rfl) ?_
    refine lv_if_ne (tgt := 1878) hx hb dL_law_1863 (by decide) (fun h0 => ?_) (fun h0 => ?_)
    · refine lv_goto (tgt := 2245) hx hb dL_law_1878 (by decide) ?_
      refine W.widen (k := cells + 4) (n := slots + 88) (by omega) (by omega) ?_
      exact kk ((op_addTruck (N, R, Fr, inc) p1 p2 z).2.2) α2 L2 f2 g (nI (op_addTruck (N, R, Fr, inc) p1 p2 z).1) H locs ls ((hI.addTruck p1 p2 z).mono (Nat.le_succ n)) hLk2 hα hW (lv_sub hl [2, 3, 4, 5, 6, 7] rfl)
    · have h1 : (op_addTruck (N, R, Fr, inc) p1 p2 z).1 = 0 := nz_code (Nat.le_trans (ce_addTruck N R Fr inc p1 p2 z).1 (Nat.le_of_ble_eq_true rfl)) h0
      refine lv_aload_n hx hb dL_law_1866 rfl (lv_at hl 5 rfl) ?_
      refine lv_iconst (v := 0) hx hb dL_law_1867 (by decide) ?_
      refine k_lald (v := ((op_addTruck (N, R, Fr, inc) p1 p2 z).2.1).toInt64) F hW 0 rfl z_in (by rw [z_cl]; exact hf2 h1) dL_law_1868 ?_
      refine lv_iload hx hb dL_law_1869 (lv_at hl 0 rfl) ?_
      refine lv_i2l hx hb dL_law_1871 rfl ?_
      refine W.lcmp hx hb dL_law_1872 ?_
      rw [lg_self]
      refine lv_if_eq (tgt := 1878) hx hb dL_law_1873 (by decide) (fun _ => ?_) (fun h => absurd (rfl) h)
      refine lv_goto (tgt := 2245) hx hb dL_law_1878 (by decide) ?_
      refine W.widen (k := cells + 4) (n := slots + 88) (by omega) (by omega) ?_
      exact kk ((op_addTruck (N, R, Fr, inc) p1 p2 z).2.2) α2 L2 f2 g (nI (op_addTruck (N, R, Fr, inc) p1 p2 z).1) H locs ls ((hI.addTruck p1 p2 z).mono (Nat.le_succ n)) hLk2 hα hW (lv_sub hl [2, 3, 4, 5, 6, 7] rfl)
  · obtain ⟨z, hz, ez⟩ : ∃ z : Int32, (z = 0 ∨ z = 1) ∧ z = 1 := ⟨1, by decide, rfl⟩
    refine lv_if_eq (tgt := 1811) hx hb dL_law_1804 (by decide) (fun h => absurd h (h5)) (fun _ => ?_)
    refine lv_iconst (v := 1) hx hb dL_law_1807 (by decide) ?_
    refine lv_goto (tgt := 1812) hx hb dL_law_1808 (by decide) ?_
    refine lv_aload_n hx hb dL_law_1812 rfl (lv_at hl 3 rfl) ?_
    rw [← ez]
    have hW := hW.eq xm
    refine k_callH (as := [.ref (α 0 0), .int p1, .int p2, .int z, .ref o]) (rest := []) F hT hN (fun _ h => h) (Nat.le_refl _) hW (met_L_addTruck l D cA (mW cA β th (N, R, Fr, inc)) α L N R Fr inc o f (oD, .inl (cA 5, 1, .inr (.inr (.inr (.inl g))))) n p1 p2 z s.heap.size hl0 hLk hI hn hz) rfl ML_L_217 ST_L_addTruck IN_L CO_L_addTruck hdS_L_addTruck rfl rfl ⟨(Nat.le_of_ble_eq_true rfl), (Nat.le_of_ble_eq_true rfl)⟩ rfl rfl hl.1 (Nat.le_of_ble_eq_true rfl) dL_law_1813 ⟨by show _ ≤ 603072; omega, by show _ ≤ 7231594; omega⟩ (fun r u H locs hw hW => ?_)
    obtain ⟨f2, α2, L2⟩ := u
    obtain ⟨hr2, hα, hLk2, hf2⟩ := hw
    dsimp only at hα hLk2 hf2
    subst hr2
    have hW : Cw D cA s (fun q => s.heap.size ≤ q) (mWd cA β (o, .inl (cA 4, 1, .inr (.inl f2))) (oD, .inl (cA 5, 1, .inr (.inr (.inr (.inl g))))) (L2.map (xf cA α2 (op_addTruck (N, R, Fr, inc) p1 p2 z).2.2)) th (N, R, Fr, inc)) H locs := hW
    refine lv_istore (lv' := [(6, .int (nI (op_addTruck (N, R, Fr, inc) p1 p2 z).1)), (0, .ref b), (1, .ref (α 0 0)), (2, .ref (β 0)), (3, .ref o), (4, .ref oD), (5, .int (nI i))]) hx hb dL_law_1816 hl (by decide) rfl (fun ls hl => ?_)
    refine lv_aload_n hx hb dL_law_1818 rfl (lv_at hl 3 rfl) ?_
    refine lv_aload_n hx hb dL_law_1819 rfl (lv_at hl 1 rfl) ?_
    refine lv_iload hx hb dL_law_1820 (lv_at hl 6 rfl) ?_
    refine lv_iconst (v := 1) hx hb dL_law_1822 (by decide) ?_
    refine lv_iadd hx hb dL_law_1823 ?_
    refine k_sld C0 hW.2.2.2.1 (sc_1 hi hL) hp1 dL_law_1824 ?_
    refine lv_aload_n hx hb dL_law_1825 rfl (lv_at hl 1 rfl) ?_
    refine lv_iload hx hb dL_law_1826 (lv_at hl 6 rfl) ?_
    refine lv_iconst (v := 2) hx hb dL_law_1828 (by decide) ?_
    refine lv_iadd hx hb dL_law_1829 ?_
    refine k_sld C0 hW.2.2.2.1 (sc_2 hi hL) hp2 dL_law_1830 ?_
    refine lv_aload_n hx hb dL_law_1831 rfl (lv_at hl 1 rfl) ?_
    refine lv_iload hx hb dL_law_1832 (lv_at hl 6 rfl) ?_
    refine lv_iconst (v := 3) hx hb dL_law_1834 (by decide) ?_
    refine lv_iadd hx hb dL_law_1835 ?_
    refine k_sld C0 hW.2.2.2.1 (sc_3 hi hL) hp3 dL_law_1836 ?_
    refine lv_if_eq (tgt := 1844) hx hb dL_law_1837 (by decide) (fun h => absurd h (h5)) (fun _ => ?_)
    refine lv_iconst (v := 1) hx hb dL_law_1840 (by decide) ?_
    refine lv_goto (tgt := 1845) hx hb dL_law_1841 (by decide) ?_
    rw [← ez]
    refine k_callVi (as := [.int p1, .int p2, .int z]) (rest := []) (b := β 0) (ci := 7) (q0 := 2) F hW (met_X5_addTruck l D cA β (o, .inl (cA 4, 1, .inr (.inl f2))) (oD, .inl (cA 5, 1, .inr (.inr (.inr (.inl g))))) (List.map (xf cA α2 (op_addTruck (N, R, Fr, inc) p1 p2 z).2.2) L2) th N R Fr inc p1 p2 z (iv_ic h).2.2.2.1 hz) rfl ML_L_220 IM_X5_addTruck SE_X5_addTruck IN_X5 CO_X5_addTruck hdV_X5_addTruck rfl rfl ⟨(Nat.le_of_ble_eq_true rfl), (Nat.le_of_ble_eq_true rfl)⟩ rfl rfl rfl rfl rfl hl.1 (Nat.le_of_ble_eq_true rfl) dL_law_1845 ⟨by show _ ≤ 603072; omega, by show _ ≤ 7231594; omega⟩ (fun r u H locs hw hW => ?_)
    subst hw
    refine lv_istore (lv' := [(7, .int (op_addTruck (N, R, Fr, inc) p1 p2 z).2.1), (6, .int (nI (op_addTruck (N, R, Fr, inc) p1 p2 z).1)), (0, .ref b), (1, .ref (α 0 0)), (2, .ref (β 0)), (3, .ref o), (4, .ref oD), (5, .int (nI i))]) hx hb dL_law_1848 hl (by decide) rfl (fun ls hl => ?_)
    refine lv_aload_n hx hb dL_law_1850 rfl (lv_at hl 4 rfl) ?_
    refine k_callVi (as := []) (rest := []) (b := β 0) (ci := 7) (q0 := 2) F hW (met_thr l D cA β (o, .inl (cA 4, 1, .inr (.inl f2))) (oD, .inl (cA 5, 1, .inr (.inr (.inr (.inl g))))) (List.map (xf cA α2 (op_addTruck (N, R, Fr, inc) p1 p2 z).2.2) L2) (nI (op_addTruck (N, R, Fr, inc) p1 p2 z).1) (op_addTruck (N, R, Fr, inc) p1 p2 z).2.2) rfl ML_L_130 IM_X5_thrown SE_X5_thrown IN_X5 CO_X5_thrown hdV_X5_thrown rfl rfl ⟨(Nat.le_of_ble_eq_true rfl), (Nat.le_of_ble_eq_true rfl)⟩ rfl rfl rfl rfl rfl hl.1 (Nat.le_of_ble_eq_true rfl) dL_law_1851 ⟨by show _ ≤ 603072; omega, by show _ ≤ 7231594; omega⟩ (fun r u H locs hw hW => ?_)
    subst hw
    refine lv_iload hx hb dL_law_1854 (lv_at hl 1 rfl) ?_
    refine lv_icmp_eq (tgt := 1861) hx hb dL_law_1856 (by decide) (fun _ => ?_) (fun h => absurd (rfl) h)
    refine lv_iload hx hb dL_law_1861 (lv_at hl 1 rfl) ?_
    refine lv_if_ne (tgt := 1878) hx hb dL_law_1863 (by decide) (fun h0 => ?_) (fun h0 => ?_)
    · refine lv_goto (tgt := 2245) hx hb dL_law_1878 (by decide) ?_
      refine W.widen (k := cells + 4) (n := slots + 88) (by omega) (by omega) ?_
      exact kk ((op_addTruck (N, R, Fr, inc) p1 p2 z).2.2) α2 L2 f2 g (nI (op_addTruck (N, R, Fr, inc) p1 p2 z).1) H locs ls ((hI.addTruck p1 p2 z).mono (Nat.le_succ n)) hLk2 hα hW (lv_sub hl [2, 3, 4, 5, 6, 7] rfl)
    · have h1 : (op_addTruck (N, R, Fr, inc) p1 p2 z).1 = 0 := nz_code (Nat.le_trans (ce_addTruck N R Fr inc p1 p2 z).1 (Nat.le_of_ble_eq_true rfl)) h0
      refine lv_aload_n hx hb dL_law_1866 rfl (lv_at hl 5 rfl) ?_
      refine lv_iconst (v := 0) hx hb dL_law_1867 (by decide) ?_
      refine k_lald (v := ((op_addTruck (N, R, Fr, inc) p1 p2 z).2.1).toInt64) F hW 0 rfl z_in (by rw [z_cl]; exact hf2 h1) dL_law_1868 ?_
      refine lv_iload hx hb dL_law_1869 (lv_at hl 0 rfl) ?_
      refine lv_i2l hx hb dL_law_1871 rfl ?_
      refine W.lcmp hx hb dL_law_1872 ?_
      rw [lg_self]
      refine lv_if_eq (tgt := 1878) hx hb dL_law_1873 (by decide) (fun _ => ?_) (fun h => absurd (rfl) h)
      refine lv_goto (tgt := 2245) hx hb dL_law_1878 (by decide) ?_
      refine W.widen (k := cells + 4) (n := slots + 88) (by omega) (by omega) ?_
      exact kk ((op_addTruck (N, R, Fr, inc) p1 p2 z).2.2) α2 L2 f2 g (nI (op_addTruck (N, R, Fr, inc) p1 p2 z).1) H locs ls ((hI.addTruck p1 p2 z).mono (Nat.le_succ n)) hLk2 hα hW (lv_sub hl [2, 3, 4, 5, 6, 7] rfl)
