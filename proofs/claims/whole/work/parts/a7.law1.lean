/-! The law, case by case (1) -/
set_option maxHeartbeats 4000000 in
set_option maxRecDepth 100000 in
theorem lc_0 {p : Program} {l : Launch} {e : Env} {s : State} {m : MethodId} {below : List Frame} {meth : Method} {c : Code} {b Ls : Nat} {xs : Nat → Int32} (C0 : lw_At p s m meth c b Ls xs) (hT : TH s.heap.size s) (hN : NC s) (hl0 : l.stackTraces = false) {D : va_G} {cA : Nat → ClassId} {β : Nat → Nat} {α : Nat → Nat → Nat} {L : List (Nat × Nat)} {N : Nat → Nat → Nat} {R : Nat → Nat → Nat → Int32} {Fr : Nat → UInt32} {inc : Int64} {th : Int32} {o oD : Nat} {f : Nat → Int64} {g : Nat → UInt64} {i n : Nat} {H : Heap} {locs : List Loc} {cells slots : Nat} {ls : Array Slot} (hLk : LOK N L) (hI : IV n (N, R, Fr, inc)) (hn : n ≤ 1000) (hi : i + 6 ≤ Ls) (hL : Ls ≤ 3072) (hc : cells + 4 ≤ 603072 ∧ slots + 88 ≤ 7231594) (hW : Cw D cA s (fun q => s.heap.size ≤ q) (mWd cA β (o, .inl (cA 4, 1, .inr (.inl f))) (oD, .inl (cA 5, 1, .inr (.inr (.inr (.inl g))))) (L.map (xf cA α (N, R, Fr, inc))) th (N, R, Fr, inc)) H locs) (hl : lv_has ls 9 [(0, .ref b), (1, .ref (α 0 0)), (2, .ref (β 0)), (3, .ref o), (4, .ref oD), (5, .int (nI i))]) (kk : LKK p l e s m below meth c D cA b (α 0 0) o oD β i n cells slots) : W p l e room_1 s m #[Value.ref b] below meth c H locs cells slots (lw_Z below #[Value.ref b] s) (F0 m 204 ls []) := by
  obtain ⟨hx, hb, hr, hml, hown, hts, hX, hbl, hlocks, hgv⟩ := id C0
  have F := law_F C0
  have h : INV n N R Fr inc := hI.1
  obtain ⟨p1, hp1⟩ : ∃ v, xs (nI i + 1).toNatClampNeg = v := ⟨_, rfl⟩
  obtain ⟨p2, hp2⟩ : ∃ v, xs (nI i + 2).toNatClampNeg = v := ⟨_, rfl⟩
  obtain ⟨p3, hp3⟩ : ∃ v, xs (nI i + 3).toNatClampNeg = v := ⟨_, rfl⟩
  obtain ⟨p4, hp4⟩ : ∃ v, xs (nI i + 4).toNatClampNeg = v := ⟨_, rfl⟩
  refine lv_aload_n hx hb dL_law_204 rfl (lv_at hl 1 rfl) ?_
  refine lv_aload_n hx hb dL_law_205 rfl (lv_at hl 0 rfl) ?_
  refine lv_iload hx hb dL_law_206 (lv_at hl 5 rfl) ?_
  refine lv_iconst (v := 1) hx hb dL_law_208 (by decide) ?_
  refine lv_iadd hx hb dL_law_209 ?_
  refine k_sld C0 hW.2.2.2.1 (sc_1 hi hL) hp1 dL_law_210 ?_
  refine lv_aload_n hx hb dL_law_211 rfl (lv_at hl 0 rfl) ?_
  refine lv_iload hx hb dL_law_212 (lv_at hl 5 rfl) ?_
  refine lv_iconst (v := 2) hx hb dL_law_214 (by decide) ?_
  refine lv_iadd hx hb dL_law_215 ?_
  refine k_sld C0 hW.2.2.2.1 (sc_2 hi hL) hp2 dL_law_216 ?_
  refine lv_aload_n hx hb dL_law_217 rfl (lv_at hl 0 rfl) ?_
  refine lv_iload hx hb dL_law_218 (lv_at hl 5 rfl) ?_
  refine lv_iconst (v := 3) hx hb dL_law_220 (by decide) ?_
  refine lv_iadd hx hb dL_law_221 ?_
  refine k_sld C0 hW.2.2.2.1 (sc_3 hi hL) hp3 dL_law_222 ?_
  refine lv_aload_n hx hb dL_law_223 rfl (lv_at hl 0 rfl) ?_
  refine lv_iload hx hb dL_law_224 (lv_at hl 5 rfl) ?_
  refine lv_iconst (v := 4) hx hb dL_law_226 (by decide) ?_
  refine lv_iadd hx hb dL_law_227 ?_
  refine k_sld C0 hW.2.2.2.1 (sc_4 hi hL) hp4 dL_law_228 ?_
  refine lv_aload_n hx hb dL_law_229 rfl (lv_at hl 3 rfl) ?_
  have hW := hW.eq xm
  refine k_callH (as := [.ref (α 0 0), .int p1, .int p2, .int p3, .int p4, .ref o]) (rest := []) F hT hN (fun _ h => h) (Nat.le_refl _) hW (met_L_addBoat l D cA (mW cA β th (N, R, Fr, inc)) α L N R Fr inc o f (oD, .inl (cA 5, 1, .inr (.inr (.inr (.inl g))))) n p1 p2 p3 p4 s.heap.size hl0 hLk hI hn) rfl ML_L_124 ST_L_addBoat IN_L CO_L_addBoat hdS_L_addBoat rfl rfl ⟨(Nat.le_of_ble_eq_true rfl), (Nat.le_of_ble_eq_true rfl)⟩ rfl rfl hl.1 (Nat.le_of_ble_eq_true rfl) dL_law_230 ⟨by show _ ≤ 603072; omega, by show _ ≤ 7231594; omega⟩ (fun r u H locs hw hW => ?_)
  obtain ⟨f2, α2, L2⟩ := u
  obtain ⟨hr2, hα, hLk2, hf2⟩ := hw
  dsimp only at hα hLk2 hf2
  subst hr2
  have hW : Cw D cA s (fun q => s.heap.size ≤ q) (mWd cA β (o, .inl (cA 4, 1, .inr (.inl f2))) (oD, .inl (cA 5, 1, .inr (.inr (.inr (.inl g))))) (L2.map (xf cA α2 (op_addBoat (N, R, Fr, inc) p1 p2 p3 p4).2.2)) th (N, R, Fr, inc)) H locs := hW
  refine lv_istore (lv' := [(6, .int (nI (op_addBoat (N, R, Fr, inc) p1 p2 p3 p4).1)), (0, .ref b), (1, .ref (α 0 0)), (2, .ref (β 0)), (3, .ref o), (4, .ref oD), (5, .int (nI i))]) hx hb dL_law_233 hl (by decide) rfl (fun ls hl => ?_)
  refine lv_aload_n hx hb dL_law_235 rfl (lv_at hl 3 rfl) ?_
  refine lv_aload_n hx hb dL_law_236 rfl (lv_at hl 1 rfl) ?_
  refine lv_iload hx hb dL_law_237 (lv_at hl 6 rfl) ?_
  refine lv_iconst (v := 1) hx hb dL_law_239 (by decide) ?_
  refine lv_iadd hx hb dL_law_240 ?_
  refine k_sld C0 hW.2.2.2.1 (sc_1 hi hL) hp1 dL_law_241 ?_
  refine lv_aload_n hx hb dL_law_242 rfl (lv_at hl 1 rfl) ?_
  refine lv_iload hx hb dL_law_243 (lv_at hl 6 rfl) ?_
  refine lv_iconst (v := 2) hx hb dL_law_245 (by decide) ?_
  refine lv_iadd hx hb dL_law_246 ?_
  refine k_sld C0 hW.2.2.2.1 (sc_2 hi hL) hp2 dL_law_247 ?_
  refine lv_aload_n hx hb dL_law_248 rfl (lv_at hl 1 rfl) ?_
  refine lv_iload hx hb dL_law_249 (lv_at hl 6 rfl) ?_
  refine lv_iconst (v := 3) hx hb dL_law_251 (by decide) ?_
  refine lv_iadd hx hb dL_law_252 ?_
  refine k_sld C0 hW.2.2.2.1 (sc_3 hi hL) hp3 dL_law_253 ?_
  refine lv_aload_n hx hb dL_law_254 rfl (lv_at hl 1 rfl) ?_
  refine lv_iload hx hb dL_law_255 (lv_at hl 6 rfl) ?_
  refine lv_iconst (v := 4) hx hb dL_law_257 (by decide) ?_
  refine lv_iadd hx hb dL_law_258 ?_
  refine k_sld C0 hW.2.2.2.1 (sc_4 hi hL) hp4 dL_law_259 ?_
  refine k_callVi (as := [.int p1, .int p2, .int p3, .int p4]) (rest := []) (b := β 0) (ci := 7) (q0 := 2) F hW (met_X5_addBoat l D cA β (o, .inl (cA 4, 1, .inr (.inl f2))) (oD, .inl (cA 5, 1, .inr (.inr (.inr (.inl g))))) (List.map (xf cA α2 (op_addBoat (N, R, Fr, inc) p1 p2 p3 p4).2.2) L2) th N R Fr inc p1 p2 p3 p4 (iv_ic h).1) rfl ML_L_129 IM_X5_addBoat SE_X5_addBoat IN_X5 CO_X5_addBoat hdV_X5_addBoat rfl rfl ⟨(Nat.le_of_ble_eq_true rfl), (Nat.le_of_ble_eq_true rfl)⟩ rfl rfl rfl rfl rfl hl.1 (Nat.le_of_ble_eq_true rfl) dL_law_260 ⟨by show _ ≤ 603072; omega, by show _ ≤ 7231594; omega⟩ (fun r u H locs hw hW => ?_)
  subst hw
  refine lv_istore (lv' := [(7, .int (op_addBoat (N, R, Fr, inc) p1 p2 p3 p4).2.1), (6, .int (nI (op_addBoat (N, R, Fr, inc) p1 p2 p3 p4).1)), (0, .ref b), (1, .ref (α 0 0)), (2, .ref (β 0)), (3, .ref o), (4, .ref oD), (5, .int (nI i))]) hx hb dL_law_263 hl (by decide) rfl (fun ls hl => ?_)
  refine lv_aload_n hx hb dL_law_265 rfl (lv_at hl 4 rfl) ?_
  refine k_callVi (as := []) (rest := []) (b := β 0) (ci := 7) (q0 := 2) F hW (met_thr l D cA β (o, .inl (cA 4, 1, .inr (.inl f2))) (oD, .inl (cA 5, 1, .inr (.inr (.inr (.inl g))))) (List.map (xf cA α2 (op_addBoat (N, R, Fr, inc) p1 p2 p3 p4).2.2) L2) (nI (op_addBoat (N, R, Fr, inc) p1 p2 p3 p4).1) (op_addBoat (N, R, Fr, inc) p1 p2 p3 p4).2.2) rfl ML_L_130 IM_X5_thrown SE_X5_thrown IN_X5 CO_X5_thrown hdV_X5_thrown rfl rfl ⟨(Nat.le_of_ble_eq_true rfl), (Nat.le_of_ble_eq_true rfl)⟩ rfl rfl rfl rfl rfl hl.1 (Nat.le_of_ble_eq_true rfl) dL_law_266 ⟨by show _ ≤ 603072; omega, by show _ ≤ 7231594; omega⟩ (fun r u H locs hw hW => ?_)
  subst hw
  refine lv_iload hx hb dL_law_269 (lv_at hl 1 rfl) ?_
  refine lv_icmp_eq (tgt := 276) hx hb dL_law_271 (by decide) (fun _ => ?_) (fun h => absurd (rfl) h)
  refine lv_iload hx hb dL_law_276 (lv_at hl 1 rfl) ?_
  refine lv_if_ne (tgt := 293) hx hb dL_law_278 (by decide) (fun h0 => ?_) (fun h0 => ?_)
  · refine lv_goto (tgt := 2245) hx hb dL_law_293 (by decide) ?_
    refine W.widen (k := cells + 4) (n := slots + 88) (by omega) (by omega) ?_
    exact kk ((op_addBoat (N, R, Fr, inc) p1 p2 p3 p4).2.2) α2 L2 f2 g (nI (op_addBoat (N, R, Fr, inc) p1 p2 p3 p4).1) H locs ls ((hI.addBoat p1 p2 p3 p4).mono (Nat.le_succ n)) hLk2 hα hW (lv_sub hl [2, 3, 4, 5, 6, 7] rfl)
  · have h1 : (op_addBoat (N, R, Fr, inc) p1 p2 p3 p4).1 = 0 := nz_code (Nat.le_trans (ce_addBoat N R Fr inc p1 p2 p3 p4).1 (Nat.le_of_ble_eq_true rfl)) h0
    refine lv_aload_n hx hb dL_law_281 rfl (lv_at hl 5 rfl) ?_
    refine lv_iconst (v := 0) hx hb dL_law_282 (by decide) ?_
    refine k_lald (v := ((op_addBoat (N, R, Fr, inc) p1 p2 p3 p4).2.1).toInt64) F hW 0 rfl z_in (by rw [z_cl]; exact hf2 h1) dL_law_283 ?_
    refine lv_iload hx hb dL_law_284 (lv_at hl 0 rfl) ?_
    refine lv_i2l hx hb dL_law_286 rfl ?_
    refine W.lcmp hx hb dL_law_287 ?_
    rw [lg_self]
    refine lv_if_eq (tgt := 293) hx hb dL_law_288 (by decide) (fun _ => ?_) (fun h => absurd (rfl) h)
    refine lv_goto (tgt := 2245) hx hb dL_law_293 (by decide) ?_
    refine W.widen (k := cells + 4) (n := slots + 88) (by omega) (by omega) ?_
    exact kk ((op_addBoat (N, R, Fr, inc) p1 p2 p3 p4).2.2) α2 L2 f2 g (nI (op_addBoat (N, R, Fr, inc) p1 p2 p3 p4).1) H locs ls ((hI.addBoat p1 p2 p3 p4).mono (Nat.le_succ n)) hLk2 hα hW (lv_sub hl [2, 3, 4, 5, 6, 7] rfl)
set_option maxHeartbeats 4000000 in
set_option maxRecDepth 100000 in
theorem lc_1 {p : Program} {l : Launch} {e : Env} {s : State} {m : MethodId} {below : List Frame} {meth : Method} {c : Code} {b Ls : Nat} {xs : Nat → Int32} (C0 : lw_At p s m meth c b Ls xs) (hT : TH s.heap.size s) (hN : NC s) (hl0 : l.stackTraces = false) {D : va_G} {cA : Nat → ClassId} {β : Nat → Nat} {α : Nat → Nat → Nat} {L : List (Nat × Nat)} {N : Nat → Nat → Nat} {R : Nat → Nat → Nat → Int32} {Fr : Nat → UInt32} {inc : Int64} {th : Int32} {o oD : Nat} {f : Nat → Int64} {g : Nat → UInt64} {i n : Nat} {H : Heap} {locs : List Loc} {cells slots : Nat} {ls : Array Slot} (hLk : LOK N L) (hI : IV n (N, R, Fr, inc)) (hn : n ≤ 1000) (hi : i + 6 ≤ Ls) (hL : Ls ≤ 3072) (hc : cells + 4 ≤ 603072 ∧ slots + 88 ≤ 7231594) (hW : Cw D cA s (fun q => s.heap.size ≤ q) (mWd cA β (o, .inl (cA 4, 1, .inr (.inl f))) (oD, .inl (cA 5, 1, .inr (.inr (.inr (.inl g))))) (L.map (xf cA α (N, R, Fr, inc))) th (N, R, Fr, inc)) H locs) (hl : lv_has ls 9 [(0, .ref b), (1, .ref (α 0 0)), (2, .ref (β 0)), (3, .ref o), (4, .ref oD), (5, .int (nI i))]) (kk : LKK p l e s m below meth c D cA b (α 0 0) o oD β i n cells slots) : W p l e room_1 s m #[Value.ref b] below meth c H locs cells slots (lw_Z below #[Value.ref b] s) (F0 m 296 ls []) := by
  obtain ⟨hx, hb, hr, hml, hown, hts, hX, hbl, hlocks, hgv⟩ := id C0
  have F := law_F C0
  have h : INV n N R Fr inc := hI.1
  obtain ⟨p1, hp1⟩ : ∃ v, xs (nI i + 1).toNatClampNeg = v := ⟨_, rfl⟩
  obtain ⟨p2, hp2⟩ : ∃ v, xs (nI i + 2).toNatClampNeg = v := ⟨_, rfl⟩
  obtain ⟨p3, hp3⟩ : ∃ v, xs (nI i + 3).toNatClampNeg = v := ⟨_, rfl⟩
  obtain ⟨p4, hp4⟩ : ∃ v, xs (nI i + 4).toNatClampNeg = v := ⟨_, rfl⟩
  obtain ⟨p5, hp5⟩ : ∃ v, xs (nI i + 5).toNatClampNeg = v := ⟨_, rfl⟩
  refine lv_aload_n hx hb dL_law_296 rfl (lv_at hl 1 rfl) ?_
  refine lv_aload_n hx hb dL_law_297 rfl (lv_at hl 0 rfl) ?_
  refine lv_iload hx hb dL_law_298 (lv_at hl 5 rfl) ?_
  refine lv_iconst (v := 1) hx hb dL_law_300 (by decide) ?_
  refine lv_iadd hx hb dL_law_301 ?_
  refine k_sld C0 hW.2.2.2.1 (sc_1 hi hL) hp1 dL_law_302 ?_
  refine lv_aload_n hx hb dL_law_303 rfl (lv_at hl 0 rfl) ?_
  refine lv_iload hx hb dL_law_304 (lv_at hl 5 rfl) ?_
  refine lv_iconst (v := 2) hx hb dL_law_306 (by decide) ?_
  refine lv_iadd hx hb dL_law_307 ?_
  refine k_sld C0 hW.2.2.2.1 (sc_2 hi hL) hp2 dL_law_308 ?_
  refine lv_aload_n hx hb dL_law_309 rfl (lv_at hl 0 rfl) ?_
  refine lv_iload hx hb dL_law_310 (lv_at hl 5 rfl) ?_
  refine lv_iconst (v := 3) hx hb dL_law_312 (by decide) ?_
  refine lv_iadd hx hb dL_law_313 ?_
  refine k_sld C0 hW.2.2.2.1 (sc_3 hi hL) hp3 dL_law_314 ?_
  refine lv_aload_n hx hb dL_law_315 rfl (lv_at hl 0 rfl) ?_
  refine lv_iload hx hb dL_law_316 (lv_at hl 5 rfl) ?_
  refine lv_iconst (v := 4) hx hb dL_law_318 (by decide) ?_
  refine lv_iadd hx hb dL_law_319 ?_
  refine k_sld C0 hW.2.2.2.1 (sc_4 hi hL) hp4 dL_law_320 ?_
  refine lv_aload_n hx hb dL_law_321 rfl (lv_at hl 0 rfl) ?_
  refine lv_iload hx hb dL_law_322 (lv_at hl 5 rfl) ?_
  refine lv_iconst (v := 5) hx hb dL_law_324 (by decide) ?_
  refine lv_iadd hx hb dL_law_325 ?_
  refine k_sld C0 hW.2.2.2.1 (sc_5 hi hL) hp5 dL_law_326 ?_
  by_cases h5 : p5 = 0
  · obtain ⟨z, hz, ez⟩ : ∃ z : Int32, (z = 0 ∨ z = 1) ∧ z = 0 := ⟨0, by decide, rfl⟩
    refine lv_if_eq (tgt := 334) hx hb dL_law_327 (by decide) (fun _ => ?_) (fun h => absurd (h5) h)
    refine lv_iconst (v := 0) hx hb dL_law_334 (by decide) ?_
    refine lv_aload_n hx hb dL_law_335 rfl (lv_at hl 3 rfl) ?_
    rw [← ez]
    have hW := hW.eq xm
    refine k_callH (as := [.ref (α 0 0), .int p1, .int p2, .int p3, .int p4, .int z, .ref o]) (rest := []) F hT hN (fun _ h => h) (Nat.le_refl _) hW (met_L_land l D cA (mW cA β th (N, R, Fr, inc)) α L N R Fr inc o f (oD, .inl (cA 5, 1, .inr (.inr (.inr (.inl g))))) n p1 p2 p3 p4 z s.heap.size hl0 hLk hI hn hz) rfl ML_L_133 ST_L_land IN_L CO_L_land hdS_L_land rfl rfl ⟨(Nat.le_of_ble_eq_true rfl), (Nat.le_of_ble_eq_true rfl)⟩ rfl rfl hl.1 (Nat.le_of_ble_eq_true rfl) dL_law_336 ⟨by show _ ≤ 603072; omega, by show _ ≤ 7231594; omega⟩ (fun r u H locs hw hW => ?_)
    obtain ⟨f2, α2, L2⟩ := u
    obtain ⟨hr2, hα, hLk2, hf2⟩ := hw
    dsimp only at hα hLk2 hf2
    subst hr2
    have hW : Cw D cA s (fun q => s.heap.size ≤ q) (mWd cA β (o, .inl (cA 4, 1, .inr (.inl f2))) (oD, .inl (cA 5, 1, .inr (.inr (.inr (.inl g))))) (L2.map (xf cA α2 (op_land (N, R, Fr, inc) p1 p2 p3 p4 z).2.2)) th (N, R, Fr, inc)) H locs := hW
    refine lv_istore (lv' := [(6, .int (nI (op_land (N, R, Fr, inc) p1 p2 p3 p4 z).1)), (0, .ref b), (1, .ref (α 0 0)), (2, .ref (β 0)), (3, .ref o), (4, .ref oD), (5, .int (nI i))]) hx hb dL_law_339 hl (by decide) rfl (fun ls hl => ?_)
    refine lv_aload_n hx hb dL_law_341 rfl (lv_at hl 3 rfl) ?_
    refine lv_aload_n hx hb dL_law_342 rfl (lv_at hl 1 rfl) ?_
    refine lv_iload hx hb dL_law_343 (lv_at hl 6 rfl) ?_
    refine lv_iconst (v := 1) hx hb dL_law_345 (by decide) ?_
    refine lv_iadd hx hb dL_law_346 ?_
    refine k_sld C0 hW.2.2.2.1 (sc_1 hi hL) hp1 dL_law_347 ?_
    refine lv_aload_n hx hb dL_law_348 rfl (lv_at hl 1 rfl) ?_
    refine lv_iload hx hb dL_law_349 (lv_at hl 6 rfl) ?_
    refine lv_iconst (v := 2) hx hb dL_law_351 (by decide) ?_
    refine lv_iadd hx hb dL_law_352 ?_
    refine k_sld C0 hW.2.2.2.1 (sc_2 hi hL) hp2 dL_law_353 ?_
    refine lv_aload_n hx hb dL_law_354 rfl (lv_at hl 1 rfl) ?_
    refine lv_iload hx hb dL_law_355 (lv_at hl 6 rfl) ?_
    refine lv_iconst (v := 3) hx hb dL_law_357 (by decide) ?_
    refine lv_iadd hx hb dL_law_358 ?_
    refine k_sld C0 hW.2.2.2.1 (sc_3 hi hL) hp3 dL_law_359 ?_
    refine lv_aload_n hx hb dL_law_360 rfl (lv_at hl 1 rfl) ?_
    refine lv_iload hx hb dL_law_361 (lv_at hl 6 rfl) ?_
    refine lv_iconst (v := 4) hx hb dL_law_363 (by decide) ?_
    refine lv_iadd hx hb dL_law_364 ?_
    refine k_sld C0 hW.2.2.2.1 (sc_4 hi hL) hp4 dL_law_365 ?_
    refine lv_aload_n hx hb dL_law_366 rfl (lv_at hl 1 rfl) ?_
    refine lv_iload hx hb dL_law_367 (lv_at hl 6 rfl) ?_
    refine lv_iconst (v := 5) hx hb dL_law_369 (by decide) ?_
    refine lv_iadd hx hb dL_law_370 ?_
    refine k_sld C0 hW.2.2.2.1 (sc_5 hi hL) hp5 dL_law_371 ?_
    refine lv_if_eq (tgt := 379) hx hb dL_law_372 (by decide) (fun _ => ?_) (fun h => absurd (h5) h)
    refine lv_iconst (v := 0) hx hb dL_law_379 (by decide) ?_
    rw [← ez]
    refine k_callVi (as := [.int p1, .int p2, .int p3, .int p4, .int z]) (rest := []) (b := β 0) (ci := 7) (q0 := 2) F hW (met_X5_land l D cA β (o, .inl (cA 4, 1, .inr (.inl f2))) (oD, .inl (cA 5, 1, .inr (.inr (.inr (.inl g))))) (List.map (xf cA α2 (op_land (N, R, Fr, inc) p1 p2 p3 p4 z).2.2) L2) th N R Fr inc p1 p2 p3 p4 z (iv_ic h).1 (iv_ic h).2.1 hz) rfl ML_L_136 IM_X5_land SE_X5_land IN_X5 CO_X5_land hdV_X5_land rfl rfl ⟨(Nat.le_of_ble_eq_true rfl), (Nat.le_of_ble_eq_true rfl)⟩ rfl rfl rfl rfl rfl hl.1 (Nat.le_of_ble_eq_true rfl) dL_law_380 ⟨by show _ ≤ 603072; omega, by show _ ≤ 7231594; omega⟩ (fun r u H locs hw hW => ?_)
    subst hw
    refine lv_istore (lv' := [(7, .int (op_land (N, R, Fr, inc) p1 p2 p3 p4 z).2.1), (6, .int (nI (op_land (N, R, Fr, inc) p1 p2 p3 p4 z).1)), (0, .ref b), (1, .ref (α 0 0)), (2, .ref (β 0)), (3, .ref o), (4, .ref oD), (5, .int (nI i))]) hx hb dL_law_383 hl (by decide) rfl (fun ls hl => ?_)
    refine lv_aload_n hx hb dL_law_385 rfl (lv_at hl 4 rfl) ?_
    refine k_callVi (as := []) (rest := []) (b := β 0) (ci := 7) (q0 := 2) F hW (met_thr l D cA β (o, .inl (cA 4, 1, .inr (.inl f2))) (oD, .inl (cA 5, 1, .inr (.inr (.inr (.inl g))))) (List.map (xf cA α2 (op_land (N, R, Fr, inc) p1 p2 p3 p4 z).2.2) L2) (nI (op_land (N, R, Fr, inc) p1 p2 p3 p4 z).1) (op_land (N, R, Fr, inc) p1 p2 p3 p4 z).2.2) rfl ML_L_130 IM_X5_thrown SE_X5_thrown IN_X5 CO_X5_thrown hdV_X5_thrown rfl rfl ⟨(Nat.le_of_ble_eq_true rfl), (Nat.le_of_ble_eq_true rfl)⟩ rfl rfl rfl rfl rfl hl.1 (Nat.le_of_ble_eq_true rfl) dL_law_386 ⟨by show _ ≤ 603072; omega, by show _ ≤ 7231594; omega⟩ (fun r u H locs hw hW => ?_)
    subst hw
    refine lv_iload hx hb dL_law_389 (lv_at hl 1 rfl) ?_
    refine lv_icmp_eq (tgt := 396) hx hb dL_law_391 (by decide) (fun _ => ?_) (fun h => absurd (rfl) h)
    refine lv_iload hx hb dL_law_396 (lv_at hl 1 rfl) ?_
    refine lv_if_ne (tgt := 413) hx hb dL_law_398 (by decide) (fun h0 => ?_) (fun h0 => ?_)
    · refine lv_goto (tgt := 2245) hx hb dL_law_413 (by decide) ?_
      refine W.widen (k := cells + 4) (n := slots + 88) (by omega) (by omega) ?_
      exact kk ((op_land (N, R, Fr, inc) p1 p2 p3 p4 z).2.2) α2 L2 f2 g (nI (op_land (N, R, Fr, inc) p1 p2 p3 p4 z).1) H locs ls ((hI.land p1 p2 p3 p4 z hz).mono (Nat.le_succ n)) hLk2 hα hW (lv_sub hl [2, 3, 4, 5, 6, 7] rfl)
    · have h1 : (op_land (N, R, Fr, inc) p1 p2 p3 p4 z).1 = 0 := nz_code (Nat.le_trans (ce_land N R Fr inc p1 p2 p3 p4 z).1 (Nat.le_of_ble_eq_true rfl)) h0
      refine lv_aload_n hx hb dL_law_401 rfl (lv_at hl 5 rfl) ?_
      refine lv_iconst (v := 0) hx hb dL_law_402 (by decide) ?_
      refine k_lald (v := ((op_land (N, R, Fr, inc) p1 p2 p3 p4 z).2.1).toInt64) F hW 0 rfl z_in (by rw [z_cl]; exact hf2 h1) dL_law_403 ?_
      refine lv_iload hx hb dL_law_404 (lv_at hl 0 rfl) ?_
      refine lv_i2l hx hb dL_law_406 rfl ?_
      refine W.lcmp hx hb dL_law_407 ?_
      rw [lg_self]
      refine lv_if_eq (tgt := 413) hx hb dL_law_408 (by decide) (fun _ => ?_) (fun h => absurd (rfl) h)
      refine lv_goto (tgt := 2245) hx hb dL_law_413 (by decide) ?_
      refine W.widen (k := cells + 4) (n := slots + 88) (by omega) (by omega) ?_
      exact kk ((op_land (N, R, Fr, inc) p1 p2 p3 p4 z).2.2) α2 L2 f2 g (nI (op_land (N, R, Fr, inc) p1 p2 p3 p4 z).1) H locs ls ((hI.land p1 p2 p3 p4 z hz).mono (Nat.le_succ n)) hLk2 hα hW (lv_sub hl [2, 3, 4, 5, 6, 7] rfl)
  · obtain ⟨z, hz, ez⟩ : ∃ z : Int32, (z = 0 ∨ z = 1) ∧ z = 1 := ⟨1, by decide, rfl⟩
    refine lv_if_eq (tgt := 334) hx hb dL_law_327 (by decide) (fun h => absurd h (h5)) (fun _ => ?_)
    refine lv_iconst (v := 1) hx hb dL_law_330 (by decide) ?_
    refine lv_goto (tgt := 335) hx hb dL_law_331 (by decide) ?_
    refine lv_aload_n hx hb dL_law_335 rfl (lv_at hl 3 rfl) ?_
    rw [← ez]
    have hW := hW.eq xm
    refine k_callH (as := [.ref (α 0 0), .int p1, .int p2, .int p3, .int p4, .int z, .ref o]) (rest := []) F hT hN (fun _ h => h) (Nat.le_refl _) hW (met_L_land l D cA (mW cA β th (N, R, Fr, inc)) α L N R Fr inc o f (oD, .inl (cA 5, 1, .inr (.inr (.inr (.inl g))))) n p1 p2 p3 p4 z s.heap.size hl0 hLk hI hn hz) rfl ML_L_133 ST_L_land IN_L CO_L_land hdS_L_land rfl rfl ⟨(Nat.le_of_ble_eq_true rfl), (Nat.le_of_ble_eq_true rfl)⟩ rfl rfl hl.1 (Nat.le_of_ble_eq_true rfl) dL_law_336 ⟨by show _ ≤ 603072; omega, by show _ ≤ 7231594; omega⟩ (fun r u H locs hw hW => ?_)
    obtain ⟨f2, α2, L2⟩ := u
    obtain ⟨hr2, hα, hLk2, hf2⟩ := hw
    dsimp only at hα hLk2 hf2
    subst hr2
    have hW : Cw D cA s (fun q => s.heap.size ≤ q) (mWd cA β (o, .inl (cA 4, 1, .inr (.inl f2))) (oD, .inl (cA 5, 1, .inr (.inr (.inr (.inl g))))) (L2.map (xf cA α2 (op_land (N, R, Fr, inc) p1 p2 p3 p4 z).2.2)) th (N, R, Fr, inc)) H locs := hW
    refine lv_istore (lv' := [(6, .int (nI (op_land (N, R, Fr, inc) p1 p2 p3 p4 z).1)), (0, .ref b), (1, .ref (α 0 0)), (2, .ref (β 0)), (3, .ref o), (4, .ref oD), (5, .int (nI i))]) hx hb dL_law_339 hl (by decide) rfl (fun ls hl => ?_)
    refine lv_aload_n hx hb dL_law_341 rfl (lv_at hl 3 rfl) ?_
    refine lv_aload_n hx hb dL_law_342 rfl (lv_at hl 1 rfl) ?_
    refine lv_iload hx hb dL_law_343 (lv_at hl 6 rfl) ?_
    refine lv_iconst (v := 1) hx hb dL_law_345 (by decide) ?_
    refine lv_iadd hx hb dL_law_346 ?_
    refine k_sld C0 hW.2.2.2.1 (sc_1 hi hL) hp1 dL_law_347 ?_
    refine lv_aload_n hx hb dL_law_348 rfl (lv_at hl 1 rfl) ?_
    refine lv_iload hx hb dL_law_349 (lv_at hl 6 rfl) ?_
    refine lv_iconst (v := 2) hx hb dL_law_351 (by decide) ?_
    refine lv_iadd hx hb dL_law_352 ?_
    refine k_sld C0 hW.2.2.2.1 (sc_2 hi hL) hp2 dL_law_353 ?_
    refine lv_aload_n hx hb dL_law_354 rfl (lv_at hl 1 rfl) ?_
    refine lv_iload hx hb dL_law_355 (lv_at hl 6 rfl) ?_
    refine lv_iconst (v := 3) hx hb dL_law_357 (by decide) ?_
    refine lv_iadd hx hb dL_law_358 ?_
    refine k_sld C0 hW.2.2.2.1 (sc_3 hi hL) hp3 dL_law_359 ?_
    refine lv_aload_n hx hb dL_law_360 rfl (lv_at hl 1 rfl) ?_
    refine lv_iload hx hb dL_law_361 (lv_at hl 6 rfl) ?_
    refine lv_iconst (v := 4) hx hb dL_law_363 (by decide) ?_
    refine lv_iadd hx hb dL_law_364 ?_
    refine k_sld C0 hW.2.2.2.1 (sc_4 hi hL) hp4 dL_law_365 ?_
    refine lv_aload_n hx hb dL_law_366 rfl (lv_at hl 1 rfl) ?_
    refine lv_iload hx hb dL_law_367 (lv_at hl 6 rfl) ?_
    refine lv_iconst (v := 5) hx hb dL_law_369 (by decide) ?_
    refine lv_iadd hx hb dL_law_370 ?_
    refine k_sld C0 hW.2.2.2.1 (sc_5 hi hL) hp5 dL_law_371 ?_
    refine lv_if_eq (tgt := 379) hx hb dL_law_372 (by decide) (fun h => absurd h (h5)) (fun _ => ?_)
    refine lv_iconst (v := 1) hx hb dL_law_375 (by decide) ?_
    refine lv_goto (tgt := 380) hx hb dL_law_376 (by decide) ?_
    rw [← ez]
    refine k_callVi (as := [.int p1, .int p2, .int p3, .int p4, .int z]) (rest := []) (b := β 0) (ci := 7) (q0 := 2) F hW (met_X5_land l D cA β (o, .inl (cA 4, 1, .inr (.inl f2))) (oD, .inl (cA 5, 1, .inr (.inr (.inr (.inl g))))) (List.map (xf cA α2 (op_land (N, R, Fr, inc) p1 p2 p3 p4 z).2.2) L2) th N R Fr inc p1 p2 p3 p4 z (iv_ic h).1 (iv_ic h).2.1 hz) rfl ML_L_136 IM_X5_land SE_X5_land IN_X5 CO_X5_land hdV_X5_land rfl rfl ⟨(Nat.le_of_ble_eq_true rfl), (Nat.le_of_ble_eq_true rfl)⟩ rfl rfl rfl rfl rfl hl.1 (Nat.le_of_ble_eq_true rfl) dL_law_380 ⟨by show _ ≤ 603072; omega, by show _ ≤ 7231594; omega⟩ (fun r u H locs hw hW => ?_)
    subst hw
    refine lv_istore (lv' := [(7, .int (op_land (N, R, Fr, inc) p1 p2 p3 p4 z).2.1), (6, .int (nI (op_land (N, R, Fr, inc) p1 p2 p3 p4 z).1)), (0, .ref b), (1, .ref (α 0 0)), (2, .ref (β 0)), (3, .ref o), (4, .ref oD), (5, .int (nI i))]) hx hb dL_law_383 hl (by decide) rfl (fun ls hl => ?_)
    refine lv_aload_n hx hb dL_law_385 rfl (lv_at hl 4 rfl) ?_
    refine k_callVi (as := []) (rest := []) (b := β 0) (ci := 7) (q0 := 2) F hW (met_thr l D cA β (o, .inl (cA 4, 1, .inr (.inl f2))) (oD, .inl (cA 5, 1, .inr (.inr (.inr (.inl g))))) (List.map (xf cA α2 (op_land (N, R, Fr, inc) p1 p2 p3 p4 z).2.2) L2) (nI (op_land (N, R, Fr, inc) p1 p2 p3 p4 z).1) (op_land (N, R, Fr, inc) p1 p2 p3 p4 z).2.2) rfl ML_L_130 IM_X5_thrown SE_X5_thrown IN_X5 CO_X5_thrown hdV_X5_thrown rfl rfl ⟨(Nat.le_of_ble_eq_true rfl), (Nat.le_of_ble_eq_true rfl)⟩ rfl rfl rfl rfl rfl hl.1 (Nat.le_of_ble_eq_true rfl) dL_law_386 ⟨by show _ ≤ 603072; omega, by show _ ≤ 7231594; omega⟩ (fun r u H locs hw hW => ?_)
    subst hw
    refine lv_iload hx hb dL_law_389 (lv_at hl 1 rfl) ?_
    refine lv_icmp_eq (tgt := 396) hx hb dL_law_391 (by decide) (fun _ => ?_) (fun h => absurd (rfl) h)
    refine lv_iload hx hb dL_law_396 (lv_at hl 1 rfl) ?_
    refine lv_if_ne (tgt := 413) hx hb dL_law_398 (by decide) (fun h0 => ?_) (fun h0 => ?_)
    · refine lv_goto (tgt := 2245) hx hb dL_law_413 (by decide) ?_
      refine W.widen (k := cells + 4) (n := slots + 88) (by omega) (by omega) ?_
      exact kk ((op_land (N, R, Fr, inc) p1 p2 p3 p4 z).2.2) α2 L2 f2 g (nI (op_land (N, R, Fr, inc) p1 p2 p3 p4 z).1) H locs ls ((hI.land p1 p2 p3 p4 z hz).mono (Nat.le_succ n)) hLk2 hα hW (lv_sub hl [2, 3, 4, 5, 6, 7] rfl)
    · have h1 : (op_land (N, R, Fr, inc) p1 p2 p3 p4 z).1 = 0 := nz_code (Nat.le_trans (ce_land N R Fr inc p1 p2 p3 p4 z).1 (Nat.le_of_ble_eq_true rfl)) h0
      refine lv_aload_n hx hb dL_law_401 rfl (lv_at hl 5 rfl) ?_
      refine lv_iconst (v := 0) hx hb dL_law_402 (by decide) ?_
      refine k_lald (v := ((op_land (N, R, Fr, inc) p1 p2 p3 p4 z).2.1).toInt64) F hW 0 rfl z_in (by rw [z_cl]; exact hf2 h1) dL_law_403 ?_
      refine lv_iload hx hb dL_law_404 (lv_at hl 0 rfl) ?_
      refine lv_i2l hx hb dL_law_406 rfl ?_
      refine W.lcmp hx hb dL_law_407 ?_
      rw [lg_self]
      refine lv_if_eq (tgt := 413) hx hb dL_law_408 (by decide) (fun _ => ?_) (fun h => absurd (rfl) h)
      refine lv_goto (tgt := 2245) hx hb dL_law_413 (by decide) ?_
      refine W.widen (k := cells + 4) (n := slots + 88) (by omega) (by omega) ?_
      exact kk ((op_land (N, R, Fr, inc) p1 p2 p3 p4 z).2.2) α2 L2 f2 g (nI (op_land (N, R, Fr, inc) p1 p2 p3 p4 z).1) H locs ls ((hI.land p1 p2 p3 p4 z hz).mono (Nat.le_succ n)) hLk2 hα hW (lv_sub hl [2, 3, 4, 5, 6, 7] rfl)
set_option maxHeartbeats 4000000 in
set_option maxRecDepth 100000 in
theorem lc_2 {p : Program} {l : Launch} {e : Env} {s : State} {m : MethodId} {below : List Frame} {meth : Method} {c : Code} {b Ls : Nat} {xs : Nat → Int32} (C0 : lw_At p s m meth c b Ls xs) (hT : TH s.heap.size s) (hN : NC s) (hl0 : l.stackTraces = false) {D : va_G} {cA : Nat → ClassId} {β : Nat → Nat} {α : Nat → Nat → Nat} {L : List (Nat × Nat)} {N : Nat → Nat → Nat} {R : Nat → Nat → Nat → Int32} {Fr : Nat → UInt32} {inc : Int64} {th : Int32} {o oD : Nat} {f : Nat → Int64} {g : Nat → UInt64} {i n : Nat} {H : Heap} {locs : List Loc} {cells slots : Nat} {ls : Array Slot} (hLk : LOK N L) (hI : IV n (N, R, Fr, inc)) (hn : n ≤ 1000) (hi : i + 6 ≤ Ls) (hL : Ls ≤ 3072) (hc : cells + 4 ≤ 603072 ∧ slots + 88 ≤ 7231594) (hW : Cw D cA s (fun q => s.heap.size ≤ q) (mWd cA β (o, .inl (cA 4, 1, .inr (.inl f))) (oD, .inl (cA 5, 1, .inr (.inr (.inr (.inl g))))) (L.map (xf cA α (N, R, Fr, inc))) th (N, R, Fr, inc)) H locs) (hl : lv_has ls 9 [(0, .ref b), (1, .ref (α 0 0)), (2, .ref (β 0)), (3, .ref o), (4, .ref oD), (5, .int (nI i))]) (kk : LKK p l e s m below meth c D cA b (α 0 0) o oD β i n cells slots) : W p l e room_1 s m #[Value.ref b] below meth c H locs cells slots (lw_Z below #[Value.ref b] s) (F0 m 416 ls []) := by
  obtain ⟨hx, hb, hr, hml, hown, hts, hX, hbl, hlocks, hgv⟩ := id C0
  have F := law_F C0
  have h : INV n N R Fr inc := hI.1
  obtain ⟨p1, hp1⟩ : ∃ v, xs (nI i + 1).toNatClampNeg = v := ⟨_, rfl⟩
  obtain ⟨p2, hp2⟩ : ∃ v, xs (nI i + 2).toNatClampNeg = v := ⟨_, rfl⟩
  obtain ⟨p3, hp3⟩ : ∃ v, xs (nI i + 3).toNatClampNeg = v := ⟨_, rfl⟩
  obtain ⟨p4, hp4⟩ : ∃ v, xs (nI i + 4).toNatClampNeg = v := ⟨_, rfl⟩
  refine lv_aload_n hx hb dL_law_416 rfl (lv_at hl 1 rfl) ?_
  refine lv_aload_n hx hb dL_law_417 rfl (lv_at hl 0 rfl) ?_
  refine lv_iload hx hb dL_law_418 (lv_at hl 5 rfl) ?_
  refine lv_iconst (v := 1) hx hb dL_law_420 (by decide) ?_
  refine lv_iadd hx hb dL_law_421 ?_
  refine k_sld C0 hW.2.2.2.1 (sc_1 hi hL) hp1 dL_law_422 ?_
  refine lv_aload_n hx hb dL_law_423 rfl (lv_at hl 0 rfl) ?_
  refine lv_iload hx hb dL_law_424 (lv_at hl 5 rfl) ?_
  refine lv_iconst (v := 2) hx hb dL_law_426 (by decide) ?_
  refine lv_iadd hx hb dL_law_427 ?_
  refine k_sld C0 hW.2.2.2.1 (sc_2 hi hL) hp2 dL_law_428 ?_
  refine lv_aload_n hx hb dL_law_429 rfl (lv_at hl 0 rfl) ?_
  refine lv_iload hx hb dL_law_430 (lv_at hl 5 rfl) ?_
  refine lv_iconst (v := 3) hx hb dL_law_432 (by decide) ?_
  refine lv_iadd hx hb dL_law_433 ?_
  refine k_sld C0 hW.2.2.2.1 (sc_3 hi hL) hp3 dL_law_434 ?_
  refine lv_aload_n hx hb dL_law_435 rfl (lv_at hl 0 rfl) ?_
  refine lv_iload hx hb dL_law_436 (lv_at hl 5 rfl) ?_
  refine lv_iconst (v := 4) hx hb dL_law_438 (by decide) ?_
  refine lv_iadd hx hb dL_law_439 ?_
  refine k_sld C0 hW.2.2.2.1 (sc_4 hi hL) hp4 dL_law_440 ?_
  refine lv_aload_n hx hb dL_law_441 rfl (lv_at hl 3 rfl) ?_
  have hW := hW.eq xm
  refine k_callH (as := [.ref (α 0 0), .int p1, .int p2, .int p3, .int p4, .ref o]) (rest := []) F hT hN (fun _ h => h) (Nat.le_refl _) hW (met_L_moveQuota l D cA (mW cA β th (N, R, Fr, inc)) α L N R Fr inc o f (oD, .inl (cA 5, 1, .inr (.inr (.inr (.inl g))))) n p1 p2 p3 p4 s.heap.size hl0 hLk hI hn) rfl ML_L_137 ST_L_moveQuota IN_L CO_L_moveQuota hdS_L_moveQuota rfl rfl ⟨(Nat.le_of_ble_eq_true rfl), (Nat.le_of_ble_eq_true rfl)⟩ rfl rfl hl.1 (Nat.le_of_ble_eq_true rfl) dL_law_442 ⟨by show _ ≤ 603072; omega, by show _ ≤ 7231594; omega⟩ (fun r u H locs hw hW => ?_)
  obtain ⟨f2, α2, L2⟩ := u
  obtain ⟨hr2, hα, hLk2, hf2⟩ := hw
  dsimp only at hα hLk2 hf2
  subst hr2
  have hW : Cw D cA s (fun q => s.heap.size ≤ q) (mWd cA β (o, .inl (cA 4, 1, .inr (.inl f2))) (oD, .inl (cA 5, 1, .inr (.inr (.inr (.inl g))))) (L2.map (xf cA α2 (op_moveQuota (N, R, Fr, inc) p1 p2 p3 p4).2.2)) th (N, R, Fr, inc)) H locs := hW
  refine lv_istore (lv' := [(6, .int (nI (op_moveQuota (N, R, Fr, inc) p1 p2 p3 p4).1)), (0, .ref b), (1, .ref (α 0 0)), (2, .ref (β 0)), (3, .ref o), (4, .ref oD), (5, .int (nI i))]) hx hb dL_law_445 hl (by decide) rfl (fun ls hl => ?_)
  refine lv_aload_n hx hb dL_law_447 rfl (lv_at hl 3 rfl) ?_
  refine lv_aload_n hx hb dL_law_448 rfl (lv_at hl 1 rfl) ?_
  refine lv_iload hx hb dL_law_449 (lv_at hl 6 rfl) ?_
  refine lv_iconst (v := 1) hx hb dL_law_451 (by decide) ?_
  refine lv_iadd hx hb dL_law_452 ?_
  refine k_sld C0 hW.2.2.2.1 (sc_1 hi hL) hp1 dL_law_453 ?_
  refine lv_aload_n hx hb dL_law_454 rfl (lv_at hl 1 rfl) ?_
  refine lv_iload hx hb dL_law_455 (lv_at hl 6 rfl) ?_
  refine lv_iconst (v := 2) hx hb dL_law_457 (by decide) ?_
  refine lv_iadd hx hb dL_law_458 ?_
  refine k_sld C0 hW.2.2.2.1 (sc_2 hi hL) hp2 dL_law_459 ?_
  refine lv_aload_n hx hb dL_law_460 rfl (lv_at hl 1 rfl) ?_
  refine lv_iload hx hb dL_law_461 (lv_at hl 6 rfl) ?_
  refine lv_iconst (v := 3) hx hb dL_law_463 (by decide) ?_
  refine lv_iadd hx hb dL_law_464 ?_
  refine k_sld C0 hW.2.2.2.1 (sc_3 hi hL) hp3 dL_law_465 ?_
  refine lv_aload_n hx hb dL_law_466 rfl (lv_at hl 1 rfl) ?_
  refine lv_iload hx hb dL_law_467 (lv_at hl 6 rfl) ?_
  refine lv_iconst (v := 4) hx hb dL_law_469 (by decide) ?_
  refine lv_iadd hx hb dL_law_470 ?_
  refine k_sld C0 hW.2.2.2.1 (sc_4 hi hL) hp4 dL_law_471 ?_
  refine k_callVi (as := [.int p1, .int p2, .int p3, .int p4]) (rest := []) (b := β 0) (ci := 7) (q0 := 2) F hW (met_X5_moveQuota l D cA β (o, .inl (cA 4, 1, .inr (.inl f2))) (oD, .inl (cA 5, 1, .inr (.inr (.inr (.inl g))))) (List.map (xf cA α2 (op_moveQuota (N, R, Fr, inc) p1 p2 p3 p4).2.2) L2) th N R Fr inc p1 p2 p3 p4 (iv_ic h).1) rfl ML_L_139 IM_X5_moveQuota SE_X5_moveQuota IN_X5 CO_X5_moveQuota hdV_X5_moveQuota rfl rfl ⟨(Nat.le_of_ble_eq_true rfl), (Nat.le_of_ble_eq_true rfl)⟩ rfl rfl rfl rfl rfl hl.1 (Nat.le_of_ble_eq_true rfl) dL_law_472 ⟨by show _ ≤ 603072; omega, by show _ ≤ 7231594; omega⟩ (fun r u H locs hw hW => ?_)
  subst hw
  refine lv_istore (lv' := [(7, .int (op_moveQuota (N, R, Fr, inc) p1 p2 p3 p4).2.1), (6, .int (nI (op_moveQuota (N, R, Fr, inc) p1 p2 p3 p4).1)), (0, .ref b), (1, .ref (α 0 0)), (2, .ref (β 0)), (3, .ref o), (4, .ref oD), (5, .int (nI i))]) hx hb dL_law_475 hl (by decide) rfl (fun ls hl => ?_)
  refine lv_aload_n hx hb dL_law_477 rfl (lv_at hl 4 rfl) ?_
  refine k_callVi (as := []) (rest := []) (b := β 0) (ci := 7) (q0 := 2) F hW (met_thr l D cA β (o, .inl (cA 4, 1, .inr (.inl f2))) (oD, .inl (cA 5, 1, .inr (.inr (.inr (.inl g))))) (List.map (xf cA α2 (op_moveQuota (N, R, Fr, inc) p1 p2 p3 p4).2.2) L2) (nI (op_moveQuota (N, R, Fr, inc) p1 p2 p3 p4).1) (op_moveQuota (N, R, Fr, inc) p1 p2 p3 p4).2.2) rfl ML_L_130 IM_X5_thrown SE_X5_thrown IN_X5 CO_X5_thrown hdV_X5_thrown rfl rfl ⟨(Nat.le_of_ble_eq_true rfl), (Nat.le_of_ble_eq_true rfl)⟩ rfl rfl rfl rfl rfl hl.1 (Nat.le_of_ble_eq_true rfl) dL_law_478 ⟨by show _ ≤ 603072; omega, by show _ ≤ 7231594; omega⟩ (fun r u H locs hw hW => ?_)
  subst hw
  refine lv_iload hx hb dL_law_481 (lv_at hl 1 rfl) ?_
  refine lv_icmp_eq (tgt := 488) hx hb dL_law_483 (by decide) (fun _ => ?_) (fun h => absurd (rfl) h)
  refine lv_iload hx hb dL_law_488 (lv_at hl 1 rfl) ?_
  refine lv_if_ne (tgt := 505) hx hb dL_law_490 (by decide) (fun h0 => ?_) (fun h0 => ?_)
  · refine lv_goto (tgt := 2245) hx hb dL_law_505 (by decide) ?_
    refine W.widen (k := cells + 4) (n := slots + 88) (by omega) (by omega) ?_
    exact kk ((op_moveQuota (N, R, Fr, inc) p1 p2 p3 p4).2.2) α2 L2 f2 g (nI (op_moveQuota (N, R, Fr, inc) p1 p2 p3 p4).1) H locs ls ((hI.moveQuota p1 p2 p3 p4).mono (Nat.le_succ n)) hLk2 hα hW (lv_sub hl [2, 3, 4, 5, 6, 7] rfl)
  · have h1 : (op_moveQuota (N, R, Fr, inc) p1 p2 p3 p4).1 = 0 := nz_code (Nat.le_trans (ce_moveQuota N R Fr inc p1 p2 p3 p4).1 (Nat.le_of_ble_eq_true rfl)) h0
    refine lv_aload_n hx hb dL_law_493 rfl (lv_at hl 5 rfl) ?_
    refine lv_iconst (v := 0) hx hb dL_law_494 (by decide) ?_
    refine k_lald (v := ((op_moveQuota (N, R, Fr, inc) p1 p2 p3 p4).2.1).toInt64) F hW 0 rfl z_in (by rw [z_cl]; exact hf2 h1) dL_law_495 ?_
    refine lv_iload hx hb dL_law_496 (lv_at hl 0 rfl) ?_
    refine lv_i2l hx hb dL_law_498 rfl ?_
    refine W.lcmp hx hb dL_law_499 ?_
    rw [lg_self]
    refine lv_if_eq (tgt := 505) hx hb dL_law_500 (by decide) (fun _ => ?_) (fun h => absurd (rfl) h)
    refine lv_goto (tgt := 2245) hx hb dL_law_505 (by decide) ?_
    refine W.widen (k := cells + 4) (n := slots + 88) (by omega) (by omega) ?_
    exact kk ((op_moveQuota (N, R, Fr, inc) p1 p2 p3 p4).2.2) α2 L2 f2 g (nI (op_moveQuota (N, R, Fr, inc) p1 p2 p3 p4).1) H locs ls ((hI.moveQuota p1 p2 p3 p4).mono (Nat.le_succ n)) hLk2 hα hW (lv_sub hl [2, 3, 4, 5, 6, 7] rfl)
set_option maxHeartbeats 4000000 in
set_option maxRecDepth 100000 in
theorem lc_3 {p : Program} {l : Launch} {e : Env} {s : State} {m : MethodId} {below : List Frame} {meth : Method} {c : Code} {b Ls : Nat} {xs : Nat → Int32} (C0 : lw_At p s m meth c b Ls xs) (hT : TH s.heap.size s) (hN : NC s) (hl0 : l.stackTraces = false) {D : va_G} {cA : Nat → ClassId} {β : Nat → Nat} {α : Nat → Nat → Nat} {L : List (Nat × Nat)} {N : Nat → Nat → Nat} {R : Nat → Nat → Nat → Int32} {Fr : Nat → UInt32} {inc : Int64} {th : Int32} {o oD : Nat} {f : Nat → Int64} {g : Nat → UInt64} {i n : Nat} {H : Heap} {locs : List Loc} {cells slots : Nat} {ls : Array Slot} (hLk : LOK N L) (hI : IV n (N, R, Fr, inc)) (hn : n ≤ 1000) (hi : i + 6 ≤ Ls) (hL : Ls ≤ 3072) (hc : cells + 4 ≤ 603072 ∧ slots + 88 ≤ 7231594) (hW : Cw D cA s (fun q => s.heap.size ≤ q) (mWd cA β (o, .inl (cA 4, 1, .inr (.inl f))) (oD, .inl (cA 5, 1, .inr (.inr (.inr (.inl g))))) (L.map (xf cA α (N, R, Fr, inc))) th (N, R, Fr, inc)) H locs) (hl : lv_has ls 9 [(0, .ref b), (1, .ref (α 0 0)), (2, .ref (β 0)), (3, .ref o), (4, .ref oD), (5, .int (nI i))]) (kk : LKK p l e s m below meth c D cA b (α 0 0) o oD β i n cells slots) : W p l e room_1 s m #[Value.ref b] below meth c H locs cells slots (lw_Z below #[Value.ref b] s) (F0 m 508 ls []) := by
  obtain ⟨hx, hb, hr, hml, hown, hts, hX, hbl, hlocks, hgv⟩ := id C0
  have F := law_F C0
  have h : INV n N R Fr inc := hI.1
  obtain ⟨p1, hp1⟩ : ∃ v, xs (nI i + 1).toNatClampNeg = v := ⟨_, rfl⟩
  obtain ⟨p2, hp2⟩ : ∃ v, xs (nI i + 2).toNatClampNeg = v := ⟨_, rfl⟩
  refine lv_aload_n hx hb dL_law_508 rfl (lv_at hl 1 rfl) ?_
  refine lv_aload_n hx hb dL_law_509 rfl (lv_at hl 0 rfl) ?_
  refine lv_iload hx hb dL_law_510 (lv_at hl 5 rfl) ?_
  refine lv_iconst (v := 1) hx hb dL_law_512 (by decide) ?_
  refine lv_iadd hx hb dL_law_513 ?_
  refine k_sld C0 hW.2.2.2.1 (sc_1 hi hL) hp1 dL_law_514 ?_
  refine lv_aload_n hx hb dL_law_515 rfl (lv_at hl 0 rfl) ?_
  refine lv_iload hx hb dL_law_516 (lv_at hl 5 rfl) ?_
  refine lv_iconst (v := 2) hx hb dL_law_518 (by decide) ?_
  refine lv_iadd hx hb dL_law_519 ?_
  refine k_sld C0 hW.2.2.2.1 (sc_2 hi hL) hp2 dL_law_520 ?_
  refine lv_aload_n hx hb dL_law_521 rfl (lv_at hl 3 rfl) ?_
  have hW := hW.eq xm
  refine k_callH (as := [.ref (α 0 0), .int p1, .int p2, .ref o]) (rest := []) F hT hN (fun _ h => h) (Nat.le_refl _) hW (met_L_quota l D cA (mW cA β th (N, R, Fr, inc)) α L N R Fr inc o f (oD, .inl (cA 5, 1, .inr (.inr (.inr (.inl g))))) n p1 p2 s.heap.size hl0 hLk hI hn) rfl ML_L_140 ST_L_quota IN_L CO_L_quota hdS_L_quota rfl rfl ⟨(Nat.le_of_ble_eq_true rfl), (Nat.le_of_ble_eq_true rfl)⟩ rfl rfl hl.1 (Nat.le_of_ble_eq_true rfl) dL_law_522 ⟨by show _ ≤ 603072; omega, by show _ ≤ 7231594; omega⟩ (fun r u H locs hw hW => ?_)
  obtain ⟨f2, α2, L2⟩ := u
  obtain ⟨hr2, hα, hLk2, hf2⟩ := hw
  dsimp only at hα hLk2 hf2
  subst hr2
  have hW : Cw D cA s (fun q => s.heap.size ≤ q) (mWd cA β (o, .inl (cA 4, 1, .inr (.inl f2))) (oD, .inl (cA 5, 1, .inr (.inr (.inr (.inl g))))) (L2.map (xf cA α2 (op_quota (N, R, Fr, inc) p1 p2).2.2)) th (N, R, Fr, inc)) H locs := hW
  refine lv_istore (lv' := [(6, .int (nI (op_quota (N, R, Fr, inc) p1 p2).1)), (0, .ref b), (1, .ref (α 0 0)), (2, .ref (β 0)), (3, .ref o), (4, .ref oD), (5, .int (nI i))]) hx hb dL_law_525 hl (by decide) rfl (fun ls hl => ?_)
  refine lv_aload_n hx hb dL_law_527 rfl (lv_at hl 3 rfl) ?_
  refine lv_aload_n hx hb dL_law_528 rfl (lv_at hl 1 rfl) ?_
  refine lv_iload hx hb dL_law_529 (lv_at hl 6 rfl) ?_
  refine lv_iconst (v := 1) hx hb dL_law_531 (by decide) ?_
  refine lv_iadd hx hb dL_law_532 ?_
  refine k_sld C0 hW.2.2.2.1 (sc_1 hi hL) hp1 dL_law_533 ?_
  refine lv_aload_n hx hb dL_law_534 rfl (lv_at hl 1 rfl) ?_
  refine lv_iload hx hb dL_law_535 (lv_at hl 6 rfl) ?_
  refine lv_iconst (v := 2) hx hb dL_law_537 (by decide) ?_
  refine lv_iadd hx hb dL_law_538 ?_
  refine k_sld C0 hW.2.2.2.1 (sc_2 hi hL) hp2 dL_law_539 ?_
  refine k_callVi (as := [.int p1, .int p2]) (rest := []) (b := β 0) (ci := 7) (q0 := 2) F hW (met_X5_quota l D cA β (o, .inl (cA 4, 1, .inr (.inl f2))) (oD, .inl (cA 5, 1, .inr (.inr (.inr (.inl g))))) (List.map (xf cA α2 (op_quota (N, R, Fr, inc) p1 p2).2.2) L2) th N R Fr inc p1 p2 (iv_ic h).1) rfl ML_L_143 IM_X5_quota SE_X5_quota IN_X5 CO_X5_quota hdV_X5_quota rfl rfl ⟨(Nat.le_of_ble_eq_true rfl), (Nat.le_of_ble_eq_true rfl)⟩ rfl rfl rfl rfl rfl hl.1 (Nat.le_of_ble_eq_true rfl) dL_law_540 ⟨by show _ ≤ 603072; omega, by show _ ≤ 7231594; omega⟩ (fun r u H locs hw hW => ?_)
  subst hw
  refine lv_istore (lv' := [(7, .int (op_quota (N, R, Fr, inc) p1 p2).2.1), (6, .int (nI (op_quota (N, R, Fr, inc) p1 p2).1)), (0, .ref b), (1, .ref (α 0 0)), (2, .ref (β 0)), (3, .ref o), (4, .ref oD), (5, .int (nI i))]) hx hb dL_law_543 hl (by decide) rfl (fun ls hl => ?_)
  refine lv_aload_n hx hb dL_law_545 rfl (lv_at hl 4 rfl) ?_
  refine k_callVi (as := []) (rest := []) (b := β 0) (ci := 7) (q0 := 2) F hW (met_thr l D cA β (o, .inl (cA 4, 1, .inr (.inl f2))) (oD, .inl (cA 5, 1, .inr (.inr (.inr (.inl g))))) (List.map (xf cA α2 (op_quota (N, R, Fr, inc) p1 p2).2.2) L2) (nI (op_quota (N, R, Fr, inc) p1 p2).1) (op_quota (N, R, Fr, inc) p1 p2).2.2) rfl ML_L_130 IM_X5_thrown SE_X5_thrown IN_X5 CO_X5_thrown hdV_X5_thrown rfl rfl ⟨(Nat.le_of_ble_eq_true rfl), (Nat.le_of_ble_eq_true rfl)⟩ rfl rfl rfl rfl rfl hl.1 (Nat.le_of_ble_eq_true rfl) dL_law_546 ⟨by show _ ≤ 603072; omega, by show _ ≤ 7231594; omega⟩ (fun r u H locs hw hW => ?_)
  subst hw
  refine lv_iload hx hb dL_law_549 (lv_at hl 1 rfl) ?_
  refine lv_icmp_eq (tgt := 556) hx hb dL_law_551 (by decide) (fun _ => ?_) (fun h => absurd (rfl) h)
  refine lv_iload hx hb dL_law_556 (lv_at hl 1 rfl) ?_
  refine lv_if_ne (tgt := 573) hx hb dL_law_558 (by decide) (fun h0 => ?_) (fun h0 => ?_)
  · refine lv_goto (tgt := 2245) hx hb dL_law_573 (by decide) ?_
    refine W.widen (k := cells + 4) (n := slots + 88) (by omega) (by omega) ?_
    exact kk ((op_quota (N, R, Fr, inc) p1 p2).2.2) α2 L2 f2 g (nI (op_quota (N, R, Fr, inc) p1 p2).1) H locs ls (by rw [st_quota N R Fr inc p1 p2]; exact hI.mono (Nat.le_succ n)) hLk2 hα hW (lv_sub hl [2, 3, 4, 5, 6, 7] rfl)
  · have h1 : (op_quota (N, R, Fr, inc) p1 p2).1 = 0 := nz_code (Nat.le_trans (ce_quota N R Fr inc p1 p2).1 (Nat.le_of_ble_eq_true rfl)) h0
    refine lv_aload_n hx hb dL_law_561 rfl (lv_at hl 5 rfl) ?_
    refine lv_iconst (v := 0) hx hb dL_law_562 (by decide) ?_
    refine k_lald (v := ((op_quota (N, R, Fr, inc) p1 p2).2.1).toInt64) F hW 0 rfl z_in (by rw [z_cl]; exact hf2 h1) dL_law_563 ?_
    refine lv_iload hx hb dL_law_564 (lv_at hl 0 rfl) ?_
    refine lv_i2l hx hb dL_law_566 rfl ?_
    refine W.lcmp hx hb dL_law_567 ?_
    rw [lg_self]
    refine lv_if_eq (tgt := 573) hx hb dL_law_568 (by decide) (fun _ => ?_) (fun h => absurd (rfl) h)
    refine lv_goto (tgt := 2245) hx hb dL_law_573 (by decide) ?_
    refine W.widen (k := cells + 4) (n := slots + 88) (by omega) (by omega) ?_
    exact kk ((op_quota (N, R, Fr, inc) p1 p2).2.2) α2 L2 f2 g (nI (op_quota (N, R, Fr, inc) p1 p2).1) H locs ls (by rw [st_quota N R Fr inc p1 p2]; exact hI.mono (Nat.le_succ n)) hLk2 hα hW (lv_sub hl [2, 3, 4, 5, 6, 7] rfl)
set_option maxHeartbeats 4000000 in
set_option maxRecDepth 100000 in
theorem lc_4 {p : Program} {l : Launch} {e : Env} {s : State} {m : MethodId} {below : List Frame} {meth : Method} {c : Code} {b Ls : Nat} {xs : Nat → Int32} (C0 : lw_At p s m meth c b Ls xs) (hT : TH s.heap.size s) (hN : NC s) (hl0 : l.stackTraces = false) {D : va_G} {cA : Nat → ClassId} {β : Nat → Nat} {α : Nat → Nat → Nat} {L : List (Nat × Nat)} {N : Nat → Nat → Nat} {R : Nat → Nat → Nat → Int32} {Fr : Nat → UInt32} {inc : Int64} {th : Int32} {o oD : Nat} {f : Nat → Int64} {g : Nat → UInt64} {i n : Nat} {H : Heap} {locs : List Loc} {cells slots : Nat} {ls : Array Slot} (hLk : LOK N L) (hI : IV n (N, R, Fr, inc)) (hn : n ≤ 1000) (hi : i + 6 ≤ Ls) (hL : Ls ≤ 3072) (hc : cells + 4 ≤ 603072 ∧ slots + 88 ≤ 7231594) (hW : Cw D cA s (fun q => s.heap.size ≤ q) (mWd cA β (o, .inl (cA 4, 1, .inr (.inl f))) (oD, .inl (cA 5, 1, .inr (.inr (.inr (.inl g))))) (L.map (xf cA α (N, R, Fr, inc))) th (N, R, Fr, inc)) H locs) (hl : lv_has ls 9 [(0, .ref b), (1, .ref (α 0 0)), (2, .ref (β 0)), (3, .ref o), (4, .ref oD), (5, .int (nI i))]) (kk : LKK p l e s m below meth c D cA b (α 0 0) o oD β i n cells slots) : W p l e room_1 s m #[Value.ref b] below meth c H locs cells slots (lw_Z below #[Value.ref b] s) (F0 m 576 ls []) := by
  obtain ⟨hx, hb, hr, hml, hown, hts, hX, hbl, hlocks, hgv⟩ := id C0
  have F := law_F C0
  have h : INV n N R Fr inc := hI.1
  obtain ⟨p1, hp1⟩ : ∃ v, xs (nI i + 1).toNatClampNeg = v := ⟨_, rfl⟩
  obtain ⟨p2, hp2⟩ : ∃ v, xs (nI i + 2).toNatClampNeg = v := ⟨_, rfl⟩
  obtain ⟨p3, hp3⟩ : ∃ v, xs (nI i + 3).toNatClampNeg = v := ⟨_, rfl⟩
  refine lv_aload_n hx hb dL_law_576 rfl (lv_at hl 1 rfl) ?_
  refine lv_aload_n hx hb dL_law_577 rfl (lv_at hl 0 rfl) ?_
  refine lv_iload hx hb dL_law_578 (lv_at hl 5 rfl) ?_
  refine lv_iconst (v := 1) hx hb dL_law_580 (by decide) ?_
  refine lv_iadd hx hb dL_law_581 ?_
  refine k_sld C0 hW.2.2.2.1 (sc_1 hi hL) hp1 dL_law_582 ?_
  refine lv_aload_n hx hb dL_law_583 rfl (lv_at hl 0 rfl) ?_
  refine lv_iload hx hb dL_law_584 (lv_at hl 5 rfl) ?_
  refine lv_iconst (v := 2) hx hb dL_law_586 (by decide) ?_
  refine lv_iadd hx hb dL_law_587 ?_
  refine k_sld C0 hW.2.2.2.1 (sc_2 hi hL) hp2 dL_law_588 ?_
  refine lv_aload_n hx hb dL_law_589 rfl (lv_at hl 0 rfl) ?_
  refine lv_iload hx hb dL_law_590 (lv_at hl 5 rfl) ?_
  refine lv_iconst (v := 3) hx hb dL_law_592 (by decide) ?_
  refine lv_iadd hx hb dL_law_593 ?_
  refine k_sld C0 hW.2.2.2.1 (sc_3 hi hL) hp3 dL_law_594 ?_
  refine lv_aload_n hx hb dL_law_595 rfl (lv_at hl 3 rfl) ?_
  have hW := hW.eq xm
  refine k_callH (as := [.ref (α 0 0), .int p1, .int p2, .int p3, .ref o]) (rest := []) F hT hN (fun _ h => h) (Nat.le_refl _) hW (met_L_quotaAt l D cA (mW cA β th (N, R, Fr, inc)) α L N R Fr inc o f (oD, .inl (cA 5, 1, .inr (.inr (.inr (.inl g))))) n p1 p2 p3 s.heap.size hl0 hLk hI hn) rfl ML_L_144 ST_L_quotaAt IN_L CO_L_quotaAt hdS_L_quotaAt rfl rfl ⟨(Nat.le_of_ble_eq_true rfl), (Nat.le_of_ble_eq_true rfl)⟩ rfl rfl hl.1 (Nat.le_of_ble_eq_true rfl) dL_law_596 ⟨by show _ ≤ 603072; omega, by show _ ≤ 7231594; omega⟩ (fun r u H locs hw hW => ?_)
  obtain ⟨f2, α2, L2⟩ := u
  obtain ⟨hr2, hα, hLk2, hf2⟩ := hw
  dsimp only at hα hLk2 hf2
  subst hr2
  have hW : Cw D cA s (fun q => s.heap.size ≤ q) (mWd cA β (o, .inl (cA 4, 1, .inr (.inl f2))) (oD, .inl (cA 5, 1, .inr (.inr (.inr (.inl g))))) (L2.map (xf cA α2 (op_quotaAt (N, R, Fr, inc) p1 p2 p3).2.2)) th (N, R, Fr, inc)) H locs := hW
  refine lv_istore (lv' := [(6, .int (nI (op_quotaAt (N, R, Fr, inc) p1 p2 p3).1)), (0, .ref b), (1, .ref (α 0 0)), (2, .ref (β 0)), (3, .ref o), (4, .ref oD), (5, .int (nI i))]) hx hb dL_law_599 hl (by decide) rfl (fun ls hl => ?_)
  refine lv_aload_n hx hb dL_law_601 rfl (lv_at hl 3 rfl) ?_
  refine lv_aload_n hx hb dL_law_602 rfl (lv_at hl 1 rfl) ?_
  refine lv_iload hx hb dL_law_603 (lv_at hl 6 rfl) ?_
  refine lv_iconst (v := 1) hx hb dL_law_605 (by decide) ?_
  refine lv_iadd hx hb dL_law_606 ?_
  refine k_sld C0 hW.2.2.2.1 (sc_1 hi hL) hp1 dL_law_607 ?_
  refine lv_aload_n hx hb dL_law_608 rfl (lv_at hl 1 rfl) ?_
  refine lv_iload hx hb dL_law_609 (lv_at hl 6 rfl) ?_
  refine lv_iconst (v := 2) hx hb dL_law_611 (by decide) ?_
  refine lv_iadd hx hb dL_law_612 ?_
  refine k_sld C0 hW.2.2.2.1 (sc_2 hi hL) hp2 dL_law_613 ?_
  refine lv_aload_n hx hb dL_law_614 rfl (lv_at hl 1 rfl) ?_
  refine lv_iload hx hb dL_law_615 (lv_at hl 6 rfl) ?_
  refine lv_iconst (v := 3) hx hb dL_law_617 (by decide) ?_
  refine lv_iadd hx hb dL_law_618 ?_
  refine k_sld C0 hW.2.2.2.1 (sc_3 hi hL) hp3 dL_law_619 ?_
  refine k_callVi (as := [.int p1, .int p2, .int p3]) (rest := []) (b := β 0) (ci := 7) (q0 := 2) F hW (met_X5_quotaAt l D cA β (o, .inl (cA 4, 1, .inr (.inl f2))) (oD, .inl (cA 5, 1, .inr (.inr (.inr (.inl g))))) (List.map (xf cA α2 (op_quotaAt (N, R, Fr, inc) p1 p2 p3).2.2) L2) th N R Fr inc p1 p2 p3 (iv_ic h).1 (iv_ic h).2.2.2.2.1) rfl ML_L_147 IM_X5_quotaAt SE_X5_quotaAt IN_X5 CO_X5_quotaAt hdV_X5_quotaAt rfl rfl ⟨(Nat.le_of_ble_eq_true rfl), (Nat.le_of_ble_eq_true rfl)⟩ rfl rfl rfl rfl rfl hl.1 (Nat.le_of_ble_eq_true rfl) dL_law_620 ⟨by show _ ≤ 603072; omega, by show _ ≤ 7231594; omega⟩ (fun r u H locs hw hW => ?_)
  subst hw
  refine lv_istore (lv' := [(7, .int (op_quotaAt (N, R, Fr, inc) p1 p2 p3).2.1), (6, .int (nI (op_quotaAt (N, R, Fr, inc) p1 p2 p3).1)), (0, .ref b), (1, .ref (α 0 0)), (2, .ref (β 0)), (3, .ref o), (4, .ref oD), (5, .int (nI i))]) hx hb dL_law_623 hl (by decide) rfl (fun ls hl => ?_)
  refine lv_aload_n hx hb dL_law_625 rfl (lv_at hl 4 rfl) ?_
  refine k_callVi (as := []) (rest := []) (b := β 0) (ci := 7) (q0 := 2) F hW (met_thr l D cA β (o, .inl (cA 4, 1, .inr (.inl f2))) (oD, .inl (cA 5, 1, .inr (.inr (.inr (.inl g))))) (List.map (xf cA α2 (op_quotaAt (N, R, Fr, inc) p1 p2 p3).2.2) L2) (nI (op_quotaAt (N, R, Fr, inc) p1 p2 p3).1) (op_quotaAt (N, R, Fr, inc) p1 p2 p3).2.2) rfl ML_L_130 IM_X5_thrown SE_X5_thrown IN_X5 CO_X5_thrown hdV_X5_thrown rfl rfl ⟨(Nat.le_of_ble_eq_true rfl), (Nat.le_of_ble_eq_true rfl)⟩ rfl rfl rfl rfl rfl hl.1 (Nat.le_of_ble_eq_true rfl) dL_law_626 ⟨by show _ ≤ 603072; omega, by show _ ≤ 7231594; omega⟩ (fun r u H locs hw hW => ?_)
  subst hw
  refine lv_iload hx hb dL_law_629 (lv_at hl 1 rfl) ?_
  refine lv_icmp_eq (tgt := 636) hx hb dL_law_631 (by decide) (fun _ => ?_) (fun h => absurd (rfl) h)
  refine lv_iload hx hb dL_law_636 (lv_at hl 1 rfl) ?_
  refine lv_if_ne (tgt := 653) hx hb dL_law_638 (by decide) (fun h0 => ?_) (fun h0 => ?_)
  · refine lv_goto (tgt := 2245) hx hb dL_law_653 (by decide) ?_
    refine W.widen (k := cells + 4) (n := slots + 88) (by omega) (by omega) ?_
    exact kk ((op_quotaAt (N, R, Fr, inc) p1 p2 p3).2.2) α2 L2 f2 g (nI (op_quotaAt (N, R, Fr, inc) p1 p2 p3).1) H locs ls (by rw [st_quotaAt N R Fr inc p1 p2 p3]; exact hI.mono (Nat.le_succ n)) hLk2 hα hW (lv_sub hl [2, 3, 4, 5, 6, 7] rfl)
  · have h1 : (op_quotaAt (N, R, Fr, inc) p1 p2 p3).1 = 0 := nz_code (Nat.le_trans (ce_quotaAt N R Fr inc p1 p2 p3).1 (Nat.le_of_ble_eq_true rfl)) h0
    refine lv_aload_n hx hb dL_law_641 rfl (lv_at hl 5 rfl) ?_
    refine lv_iconst (v := 0) hx hb dL_law_642 (by decide) ?_
    refine k_lald (v := ((op_quotaAt (N, R, Fr, inc) p1 p2 p3).2.1).toInt64) F hW 0 rfl z_in (by rw [z_cl]; exact hf2 h1) dL_law_643 ?_
    refine lv_iload hx hb dL_law_644 (lv_at hl 0 rfl) ?_
    refine lv_i2l hx hb dL_law_646 rfl ?_
    refine W.lcmp hx hb dL_law_647 ?_
    rw [lg_self]
    refine lv_if_eq (tgt := 653) hx hb dL_law_648 (by decide) (fun _ => ?_) (fun h => absurd (rfl) h)
    refine lv_goto (tgt := 2245) hx hb dL_law_653 (by decide) ?_
    refine W.widen (k := cells + 4) (n := slots + 88) (by omega) (by omega) ?_
    exact kk ((op_quotaAt (N, R, Fr, inc) p1 p2 p3).2.2) α2 L2 f2 g (nI (op_quotaAt (N, R, Fr, inc) p1 p2 p3).1) H locs ls (by rw [st_quotaAt N R Fr inc p1 p2 p3]; exact hI.mono (Nat.le_succ n)) hLk2 hα hW (lv_sub hl [2, 3, 4, 5, 6, 7] rfl)
set_option maxHeartbeats 4000000 in
set_option maxRecDepth 100000 in
theorem lc_5 {p : Program} {l : Launch} {e : Env} {s : State} {m : MethodId} {below : List Frame} {meth : Method} {c : Code} {b Ls : Nat} {xs : Nat → Int32} (C0 : lw_At p s m meth c b Ls xs) (hT : TH s.heap.size s) (hN : NC s) (hl0 : l.stackTraces = false) {D : va_G} {cA : Nat → ClassId} {β : Nat → Nat} {α : Nat → Nat → Nat} {L : List (Nat × Nat)} {N : Nat → Nat → Nat} {R : Nat → Nat → Nat → Int32} {Fr : Nat → UInt32} {inc : Int64} {th : Int32} {o oD : Nat} {f : Nat → Int64} {g : Nat → UInt64} {i n : Nat} {H : Heap} {locs : List Loc} {cells slots : Nat} {ls : Array Slot} (hLk : LOK N L) (hI : IV n (N, R, Fr, inc)) (hn : n ≤ 1000) (hi : i + 6 ≤ Ls) (hL : Ls ≤ 3072) (hc : cells + 4 ≤ 603072 ∧ slots + 88 ≤ 7231594) (hW : Cw D cA s (fun q => s.heap.size ≤ q) (mWd cA β (o, .inl (cA 4, 1, .inr (.inl f))) (oD, .inl (cA 5, 1, .inr (.inr (.inr (.inl g))))) (L.map (xf cA α (N, R, Fr, inc))) th (N, R, Fr, inc)) H locs) (hl : lv_has ls 9 [(0, .ref b), (1, .ref (α 0 0)), (2, .ref (β 0)), (3, .ref o), (4, .ref oD), (5, .int (nI i))]) (kk : LKK p l e s m below meth c D cA b (α 0 0) o oD β i n cells slots) : W p l e room_1 s m #[Value.ref b] below meth c H locs cells slots (lw_Z below #[Value.ref b] s) (F0 m 656 ls []) := by
  obtain ⟨hx, hb, hr, hml, hown, hts, hX, hbl, hlocks, hgv⟩ := id C0
  have F := law_F C0
  have h : INV n N R Fr inc := hI.1
  refine lv_aload_n hx hb dL_law_656 rfl (lv_at hl 1 rfl) ?_
  refine lv_aload_n hx hb dL_law_657 rfl (lv_at hl 3 rfl) ?_
  have hW := hW.eq xm
  refine k_callH (as := [.ref (α 0 0), .ref o]) (rest := []) F hT hN (fun _ h => h) (Nat.le_refl _) hW (met_L_endDay l D cA (mW cA β th (N, R, Fr, inc)) α L N R Fr inc o f (oD, .inl (cA 5, 1, .inr (.inr (.inr (.inl g))))) n s.heap.size hl0 hLk hI hn) rfl ML_L_148 ST_L_endDay IN_L CO_L_endDay hdS_L_endDay rfl rfl ⟨(Nat.le_of_ble_eq_true rfl), (Nat.le_of_ble_eq_true rfl)⟩ rfl rfl hl.1 (Nat.le_of_ble_eq_true rfl) dL_law_658 ⟨by show _ ≤ 603072; omega, by show _ ≤ 7231594; omega⟩ (fun r u H locs hw hW => ?_)
  obtain ⟨f2, α2, L2⟩ := u
  obtain ⟨hr2, hα, hLk2, hf2⟩ := hw
  dsimp only at hα hLk2 hf2
  subst hr2
  have hW : Cw D cA s (fun q => s.heap.size ≤ q) (mWd cA β (o, .inl (cA 4, 1, .inr (.inl f2))) (oD, .inl (cA 5, 1, .inr (.inr (.inr (.inl g))))) (L2.map (xf cA α2 (op_endDay (N, R, Fr, inc)).2.2)) th (N, R, Fr, inc)) H locs := hW
  refine lv_istore (lv' := [(6, .int (nI (op_endDay (N, R, Fr, inc)).1)), (0, .ref b), (1, .ref (α 0 0)), (2, .ref (β 0)), (3, .ref o), (4, .ref oD), (5, .int (nI i))]) hx hb dL_law_661 hl (by decide) rfl (fun ls hl => ?_)
  refine lv_aload_n hx hb dL_law_663 rfl (lv_at hl 3 rfl) ?_
  refine k_callVi (as := []) (rest := []) (b := β 0) (ci := 7) (q0 := 2) F hW (met_X5_endDay l D cA β (o, .inl (cA 4, 1, .inr (.inl f2))) (oD, .inl (cA 5, 1, .inr (.inr (.inr (.inl g))))) (List.map (xf cA α2 (op_endDay (N, R, Fr, inc)).2.2) L2) th N R Fr inc (iv_ic h).2.2.2.2.1) rfl ML_L_151 IM_X5_endDay SE_X5_endDay IN_X5 CO_X5_endDay hdV_X5_endDay rfl rfl ⟨(Nat.le_of_ble_eq_true rfl), (Nat.le_of_ble_eq_true rfl)⟩ rfl rfl rfl rfl rfl hl.1 (Nat.le_of_ble_eq_true rfl) dL_law_664 ⟨by show _ ≤ 603072; omega, by show _ ≤ 7231594; omega⟩ (fun r u H locs hw hW => ?_)
  subst hw
  refine lv_istore (lv' := [(7, .int (op_endDay (N, R, Fr, inc)).2.1), (6, .int (nI (op_endDay (N, R, Fr, inc)).1)), (0, .ref b), (1, .ref (α 0 0)), (2, .ref (β 0)), (3, .ref o), (4, .ref oD), (5, .int (nI i))]) hx hb dL_law_667 hl (by decide) rfl (fun ls hl => ?_)
  refine lv_aload_n hx hb dL_law_669 rfl (lv_at hl 4 rfl) ?_
  refine k_callVi (as := []) (rest := []) (b := β 0) (ci := 7) (q0 := 2) F hW (met_thr l D cA β (o, .inl (cA 4, 1, .inr (.inl f2))) (oD, .inl (cA 5, 1, .inr (.inr (.inr (.inl g))))) (List.map (xf cA α2 (op_endDay (N, R, Fr, inc)).2.2) L2) (nI (op_endDay (N, R, Fr, inc)).1) (op_endDay (N, R, Fr, inc)).2.2) rfl ML_L_130 IM_X5_thrown SE_X5_thrown IN_X5 CO_X5_thrown hdV_X5_thrown rfl rfl ⟨(Nat.le_of_ble_eq_true rfl), (Nat.le_of_ble_eq_true rfl)⟩ rfl rfl rfl rfl rfl hl.1 (Nat.le_of_ble_eq_true rfl) dL_law_670 ⟨by show _ ≤ 603072; omega, by show _ ≤ 7231594; omega⟩ (fun r u H locs hw hW => ?_)
  subst hw
  refine lv_iload hx hb dL_law_673 (lv_at hl 1 rfl) ?_
  refine lv_icmp_eq (tgt := 680) hx hb dL_law_675 (by decide) (fun _ => ?_) (fun h => absurd (rfl) h)
  refine lv_iload hx hb dL_law_680 (lv_at hl 1 rfl) ?_
  refine lv_if_ne (tgt := 697) hx hb dL_law_682 (by decide) (fun h0 => ?_) (fun h0 => ?_)
  · refine lv_goto (tgt := 2245) hx hb dL_law_697 (by decide) ?_
    refine W.widen (k := cells + 4) (n := slots + 88) (by omega) (by omega) ?_
    exact kk ((op_endDay (N, R, Fr, inc)).2.2) α2 L2 f2 g (nI (op_endDay (N, R, Fr, inc)).1) H locs ls ((hI.endDay).mono (Nat.le_succ n)) hLk2 hα hW (lv_sub hl [2, 3, 4, 5, 6, 7] rfl)
  · have h1 : (op_endDay (N, R, Fr, inc)).1 = 0 := nz_code (Nat.le_trans (ce_endDay N R Fr inc).1 (Nat.le_of_ble_eq_true rfl)) h0
    refine lv_aload_n hx hb dL_law_685 rfl (lv_at hl 5 rfl) ?_
    refine lv_iconst (v := 0) hx hb dL_law_686 (by decide) ?_
    refine k_lald (v := ((op_endDay (N, R, Fr, inc)).2.1).toInt64) F hW 0 rfl z_in (by rw [z_cl]; exact hf2 h1) dL_law_687 ?_
    refine lv_iload hx hb dL_law_688 (lv_at hl 0 rfl) ?_
    refine lv_i2l hx hb dL_law_690 rfl ?_
    refine W.lcmp hx hb dL_law_691 ?_
    rw [lg_self]
    refine lv_if_eq (tgt := 697) hx hb dL_law_692 (by decide) (fun _ => ?_) (fun h => absurd (rfl) h)
    refine lv_goto (tgt := 2245) hx hb dL_law_697 (by decide) ?_
    refine W.widen (k := cells + 4) (n := slots + 88) (by omega) (by omega) ?_
    exact kk ((op_endDay (N, R, Fr, inc)).2.2) α2 L2 f2 g (nI (op_endDay (N, R, Fr, inc)).1) H locs ls ((hI.endDay).mono (Nat.le_succ n)) hLk2 hα hW (lv_sub hl [2, 3, 4, 5, 6, 7] rfl)
set_option maxHeartbeats 4000000 in
set_option maxRecDepth 100000 in
theorem lc_6 {p : Program} {l : Launch} {e : Env} {s : State} {m : MethodId} {below : List Frame} {meth : Method} {c : Code} {b Ls : Nat} {xs : Nat → Int32} (C0 : lw_At p s m meth c b Ls xs) (hT : TH s.heap.size s) (hN : NC s) (hl0 : l.stackTraces = false) {D : va_G} {cA : Nat → ClassId} {β : Nat → Nat} {α : Nat → Nat → Nat} {L : List (Nat × Nat)} {N : Nat → Nat → Nat} {R : Nat → Nat → Nat → Int32} {Fr : Nat → UInt32} {inc : Int64} {th : Int32} {o oD : Nat} {f : Nat → Int64} {g : Nat → UInt64} {i n : Nat} {H : Heap} {locs : List Loc} {cells slots : Nat} {ls : Array Slot} (hLk : LOK N L) (hI : IV n (N, R, Fr, inc)) (hn : n ≤ 1000) (hi : i + 6 ≤ Ls) (hL : Ls ≤ 3072) (hc : cells + 4 ≤ 603072 ∧ slots + 88 ≤ 7231594) (hW : Cw D cA s (fun q => s.heap.size ≤ q) (mWd cA β (o, .inl (cA 4, 1, .inr (.inl f))) (oD, .inl (cA 5, 1, .inr (.inr (.inr (.inl g))))) (L.map (xf cA α (N, R, Fr, inc))) th (N, R, Fr, inc)) H locs) (hl : lv_has ls 9 [(0, .ref b), (1, .ref (α 0 0)), (2, .ref (β 0)), (3, .ref o), (4, .ref oD), (5, .int (nI i))]) (kk : LKK p l e s m below meth c D cA b (α 0 0) o oD β i n cells slots) : W p l e room_1 s m #[Value.ref b] below meth c H locs cells slots (lw_Z below #[Value.ref b] s) (F0 m 700 ls []) := by
  obtain ⟨hx, hb, hr, hml, hown, hts, hX, hbl, hlocks, hgv⟩ := id C0
  have F := law_F C0
  have h : INV n N R Fr inc := hI.1
  refine lv_aload_n hx hb dL_law_700 rfl (lv_at hl 1 rfl) ?_
  have hW := hW.eq xm
  obtain ⟨q, hq⟩ := xw_at (wr := (o, .inl (cA 4, 1, .inr (.inl f))) :: (oD, .inl (cA 5, 1, .inr (.inr (.inr (.inl g))))) :: mW cA β th (N, R, Fr, inc)) (cA := cA) (α := α) (L := L) (S := (N, R, Fr, inc)) 0 0 (hLk.o 0 (by decide))
  refine k_callVi (as := []) (rest := []) (b := α 0 0) (ci := 6) (q0 := q) F hW (met_X4_beyond l D cA ((o, .inl (cA 4, 1, .inr (.inl f))) :: (oD, .inl (cA 5, 1, .inr (.inr (.inr (.inl g))))) :: mW cA β th (N, R, Fr, inc)) α L N R Fr inc hLk) rfl ML_L_152 IM_X4_beyond SE_X4_beyond IN_X4 CO_X4_beyond hdV_X4_beyond rfl rfl ⟨(Nat.le_of_ble_eq_true rfl), (Nat.le_of_ble_eq_true rfl)⟩ rfl rfl hq rfl rfl hl.1 (Nat.le_of_ble_eq_true rfl) dL_law_701 ⟨by show _ ≤ 603072; omega, by show _ ≤ 7231594; omega⟩ (fun r u H locs hw hW => ?_)
  rw [hw]
  have hW : Cw D cA s (fun q => s.heap.size ≤ q) (mWd cA β (o, .inl (cA 4, 1, .inr (.inl f))) (oD, .inl (cA 5, 1, .inr (.inr (.inr (.inl g))))) (L.map (xf cA α (N, R, Fr, inc))) th (N, R, Fr, inc)) H locs := hW
  refine lv_aload_n hx hb dL_law_704 rfl (lv_at hl 2 rfl) ?_
  refine k_callVi (as := []) (rest := [.int (R 0 0 0)]) (b := β 0) (ci := 7) (q0 := 2) F hW (met_X5_beyond l D cA β (o, .inl (cA 4, 1, .inr (.inl f))) (oD, .inl (cA 5, 1, .inr (.inr (.inr (.inl g))))) (List.map (xf cA α (N, R, Fr, inc)) L) th N R Fr inc) rfl ML_L_155 IM_X5_beyond SE_X5_beyond IN_X5 CO_X5_beyond hdV_X5_beyond rfl rfl ⟨(Nat.le_of_ble_eq_true rfl), (Nat.le_of_ble_eq_true rfl)⟩ rfl rfl rfl rfl rfl hl.1 (Nat.le_of_ble_eq_true rfl) dL_law_705 ⟨by show _ ≤ 603072; omega, by show _ ≤ 7231594; omega⟩ (fun r u H locs hw hW => ?_)
  rw [hw]
  refine lv_icmp_eq (tgt := 2245) hx hb dL_law_708 (by decide) (fun _ => ?_) (fun h => absurd (rfl) h)
  refine W.widen (k := cells + 4) (n := slots + 88) (by omega) (by omega) ?_
  exact kk (N, R, Fr, inc) α L f g 0 H locs ls (hI.mono (Nat.le_succ n)) hLk rfl hW (lv_sub hl [0, 1, 2, 3, 4, 5] rfl)
set_option maxHeartbeats 4000000 in
set_option maxRecDepth 100000 in
theorem lc_7 {p : Program} {l : Launch} {e : Env} {s : State} {m : MethodId} {below : List Frame} {meth : Method} {c : Code} {b Ls : Nat} {xs : Nat → Int32} (C0 : lw_At p s m meth c b Ls xs) (hT : TH s.heap.size s) (hN : NC s) (hl0 : l.stackTraces = false) {D : va_G} {cA : Nat → ClassId} {β : Nat → Nat} {α : Nat → Nat → Nat} {L : List (Nat × Nat)} {N : Nat → Nat → Nat} {R : Nat → Nat → Nat → Int32} {Fr : Nat → UInt32} {inc : Int64} {th : Int32} {o oD : Nat} {f : Nat → Int64} {g : Nat → UInt64} {i n : Nat} {H : Heap} {locs : List Loc} {cells slots : Nat} {ls : Array Slot} (hLk : LOK N L) (hI : IV n (N, R, Fr, inc)) (hn : n ≤ 1000) (hi : i + 6 ≤ Ls) (hL : Ls ≤ 3072) (hc : cells + 4 ≤ 603072 ∧ slots + 88 ≤ 7231594) (hW : Cw D cA s (fun q => s.heap.size ≤ q) (mWd cA β (o, .inl (cA 4, 1, .inr (.inl f))) (oD, .inl (cA 5, 1, .inr (.inr (.inr (.inl g))))) (L.map (xf cA α (N, R, Fr, inc))) th (N, R, Fr, inc)) H locs) (hl : lv_has ls 9 [(0, .ref b), (1, .ref (α 0 0)), (2, .ref (β 0)), (3, .ref o), (4, .ref oD), (5, .int (nI i))]) (kk : LKK p l e s m below meth c D cA b (α 0 0) o oD β i n cells slots) : W p l e room_1 s m #[Value.ref b] below meth c H locs cells slots (lw_Z below #[Value.ref b] s) (F0 m 713 ls []) := by
  obtain ⟨hx, hb, hr, hml, hown, hts, hX, hbl, hlocks, hgv⟩ := id C0
  have F := law_F C0
  have h : INV n N R Fr inc := hI.1
  obtain ⟨p1, hp1⟩ : ∃ v, xs (nI i + 1).toNatClampNeg = v := ⟨_, rfl⟩
  refine lv_aload_n hx hb dL_law_713 rfl (lv_at hl 1 rfl) ?_
  refine lv_aload_n hx hb dL_law_714 rfl (lv_at hl 0 rfl) ?_
  refine lv_iload hx hb dL_law_715 (lv_at hl 5 rfl) ?_
  refine lv_iconst (v := 1) hx hb dL_law_717 (by decide) ?_
  refine lv_iadd hx hb dL_law_718 ?_
  refine k_sld C0 hW.2.2.2.1 (sc_1 hi hL) hp1 dL_law_719 ?_
  refine lv_aload_n hx hb dL_law_720 rfl (lv_at hl 3 rfl) ?_
  have hW := hW.eq xm
  refine k_callH (as := [.ref (α 0 0), .int p1, .ref o]) (rest := []) F hT hN (fun _ h => h) (Nat.le_refl _) hW (met_L_weight l D cA (mW cA β th (N, R, Fr, inc)) α L N R Fr inc o f (oD, .inl (cA 5, 1, .inr (.inr (.inr (.inl g))))) n p1 s.heap.size hl0 hLk hI hn) rfl ML_L_156 ST_L_weight IN_L CO_L_weight hdS_L_weight rfl rfl ⟨(Nat.le_of_ble_eq_true rfl), (Nat.le_of_ble_eq_true rfl)⟩ rfl rfl hl.1 (Nat.le_of_ble_eq_true rfl) dL_law_721 ⟨by show _ ≤ 603072; omega, by show _ ≤ 7231594; omega⟩ (fun r u H locs hw hW => ?_)
  obtain ⟨f2, α2, L2⟩ := u
  obtain ⟨hr2, hα, hLk2, hf2⟩ := hw
  dsimp only at hα hLk2 hf2
  subst hr2
  have hW : Cw D cA s (fun q => s.heap.size ≤ q) (mWd cA β (o, .inl (cA 4, 1, .inr (.inl f2))) (oD, .inl (cA 5, 1, .inr (.inr (.inr (.inl g))))) (L2.map (xf cA α2 (op_lot 7 (N, R, Fr, inc) p1).2.2)) th (N, R, Fr, inc)) H locs := hW
  refine lv_istore (lv' := [(6, .int (nI (op_lot 7 (N, R, Fr, inc) p1).1)), (0, .ref b), (1, .ref (α 0 0)), (2, .ref (β 0)), (3, .ref o), (4, .ref oD), (5, .int (nI i))]) hx hb dL_law_724 hl (by decide) rfl (fun ls hl => ?_)
  refine lv_aload_n hx hb dL_law_726 rfl (lv_at hl 3 rfl) ?_
  refine lv_aload_n hx hb dL_law_727 rfl (lv_at hl 1 rfl) ?_
  refine lv_iload hx hb dL_law_728 (lv_at hl 6 rfl) ?_
  refine lv_iconst (v := 1) hx hb dL_law_730 (by decide) ?_
  refine lv_iadd hx hb dL_law_731 ?_
  refine k_sld C0 hW.2.2.2.1 (sc_1 hi hL) hp1 dL_law_732 ?_
  refine k_callVi (as := [.int p1]) (rest := []) (b := β 0) (ci := 7) (q0 := 2) F hW (met_X5_weight l D cA β (o, .inl (cA 4, 1, .inr (.inl f2))) (oD, .inl (cA 5, 1, .inr (.inr (.inr (.inl g))))) (List.map (xf cA α2 (op_lot 7 (N, R, Fr, inc) p1).2.2) L2) th N R Fr inc p1 (iv_ic h).2.1) rfl ML_L_159 IM_X5_weight SE_X5_weight IN_X5 CO_X5_weight hdV_X5_weight rfl rfl ⟨(Nat.le_of_ble_eq_true rfl), (Nat.le_of_ble_eq_true rfl)⟩ rfl rfl rfl rfl rfl hl.1 (Nat.le_of_ble_eq_true rfl) dL_law_733 ⟨by show _ ≤ 603072; omega, by show _ ≤ 7231594; omega⟩ (fun r u H locs hw hW => ?_)
  subst hw
  refine lv_istore (lv' := [(7, .int (op_lot 7 (N, R, Fr, inc) p1).2.1), (6, .int (nI (op_lot 7 (N, R, Fr, inc) p1).1)), (0, .ref b), (1, .ref (α 0 0)), (2, .ref (β 0)), (3, .ref o), (4, .ref oD), (5, .int (nI i))]) hx hb dL_law_736 hl (by decide) rfl (fun ls hl => ?_)
  refine lv_aload_n hx hb dL_law_738 rfl (lv_at hl 4 rfl) ?_
  refine k_callVi (as := []) (rest := []) (b := β 0) (ci := 7) (q0 := 2) F hW (met_thr l D cA β (o, .inl (cA 4, 1, .inr (.inl f2))) (oD, .inl (cA 5, 1, .inr (.inr (.inr (.inl g))))) (List.map (xf cA α2 (op_lot 7 (N, R, Fr, inc) p1).2.2) L2) (nI (op_lot 7 (N, R, Fr, inc) p1).1) (op_lot 7 (N, R, Fr, inc) p1).2.2) rfl ML_L_130 IM_X5_thrown SE_X5_thrown IN_X5 CO_X5_thrown hdV_X5_thrown rfl rfl ⟨(Nat.le_of_ble_eq_true rfl), (Nat.le_of_ble_eq_true rfl)⟩ rfl rfl rfl rfl rfl hl.1 (Nat.le_of_ble_eq_true rfl) dL_law_739 ⟨by show _ ≤ 603072; omega, by show _ ≤ 7231594; omega⟩ (fun r u H locs hw hW => ?_)
  subst hw
  refine lv_iload hx hb dL_law_742 (lv_at hl 1 rfl) ?_
  refine lv_icmp_eq (tgt := 749) hx hb dL_law_744 (by decide) (fun _ => ?_) (fun h => absurd (rfl) h)
  refine lv_iload hx hb dL_law_749 (lv_at hl 1 rfl) ?_
  refine lv_if_ne (tgt := 766) hx hb dL_law_751 (by decide) (fun h0 => ?_) (fun h0 => ?_)
  · refine lv_goto (tgt := 2245) hx hb dL_law_766 (by decide) ?_
    refine W.widen (k := cells + 4) (n := slots + 88) (by omega) (by omega) ?_
    exact kk ((op_lot 7 (N, R, Fr, inc) p1).2.2) α2 L2 f2 g (nI (op_lot 7 (N, R, Fr, inc) p1).1) H locs ls (by rw [st_lot 7 N R Fr inc p1]; exact hI.mono (Nat.le_succ n)) hLk2 hα hW (lv_sub hl [2, 3, 4, 5, 6, 7] rfl)
  · have h1 : (op_lot 7 (N, R, Fr, inc) p1).1 = 0 := nz_code (Nat.le_trans (ce_lot 7 N R Fr inc p1).1 (Nat.le_of_ble_eq_true rfl)) h0
    refine lv_aload_n hx hb dL_law_754 rfl (lv_at hl 5 rfl) ?_
    refine lv_iconst (v := 0) hx hb dL_law_755 (by decide) ?_
    refine k_lald (v := ((op_lot 7 (N, R, Fr, inc) p1).2.1).toInt64) F hW 0 rfl z_in (by rw [z_cl]; exact hf2 h1) dL_law_756 ?_
    refine lv_iload hx hb dL_law_757 (lv_at hl 0 rfl) ?_
    refine lv_i2l hx hb dL_law_759 rfl ?_
    refine W.lcmp hx hb dL_law_760 ?_
    rw [lg_self]
    refine lv_if_eq (tgt := 766) hx hb dL_law_761 (by decide) (fun _ => ?_) (fun h => absurd (rfl) h)
    refine lv_goto (tgt := 2245) hx hb dL_law_766 (by decide) ?_
    refine W.widen (k := cells + 4) (n := slots + 88) (by omega) (by omega) ?_
    exact kk ((op_lot 7 (N, R, Fr, inc) p1).2.2) α2 L2 f2 g (nI (op_lot 7 (N, R, Fr, inc) p1).1) H locs ls (by rw [st_lot 7 N R Fr inc p1]; exact hI.mono (Nat.le_succ n)) hLk2 hα hW (lv_sub hl [2, 3, 4, 5, 6, 7] rfl)
set_option maxHeartbeats 4000000 in
set_option maxRecDepth 100000 in
theorem lc_8 {p : Program} {l : Launch} {e : Env} {s : State} {m : MethodId} {below : List Frame} {meth : Method} {c : Code} {b Ls : Nat} {xs : Nat → Int32} (C0 : lw_At p s m meth c b Ls xs) (hT : TH s.heap.size s) (hN : NC s) (hl0 : l.stackTraces = false) {D : va_G} {cA : Nat → ClassId} {β : Nat → Nat} {α : Nat → Nat → Nat} {L : List (Nat × Nat)} {N : Nat → Nat → Nat} {R : Nat → Nat → Nat → Int32} {Fr : Nat → UInt32} {inc : Int64} {th : Int32} {o oD : Nat} {f : Nat → Int64} {g : Nat → UInt64} {i n : Nat} {H : Heap} {locs : List Loc} {cells slots : Nat} {ls : Array Slot} (hLk : LOK N L) (hI : IV n (N, R, Fr, inc)) (hn : n ≤ 1000) (hi : i + 6 ≤ Ls) (hL : Ls ≤ 3072) (hc : cells + 4 ≤ 603072 ∧ slots + 88 ≤ 7231594) (hW : Cw D cA s (fun q => s.heap.size ≤ q) (mWd cA β (o, .inl (cA 4, 1, .inr (.inl f))) (oD, .inl (cA 5, 1, .inr (.inr (.inr (.inl g))))) (L.map (xf cA α (N, R, Fr, inc))) th (N, R, Fr, inc)) H locs) (hl : lv_has ls 9 [(0, .ref b), (1, .ref (α 0 0)), (2, .ref (β 0)), (3, .ref o), (4, .ref oD), (5, .int (nI i))]) (kk : LKK p l e s m below meth c D cA b (α 0 0) o oD β i n cells slots) : W p l e room_1 s m #[Value.ref b] below meth c H locs cells slots (lw_Z below #[Value.ref b] s) (F0 m 769 ls []) := by
  obtain ⟨hx, hb, hr, hml, hown, hts, hX, hbl, hlocks, hgv⟩ := id C0
  have F := law_F C0
  have h : INV n N R Fr inc := hI.1
  obtain ⟨p1, hp1⟩ : ∃ v, xs (nI i + 1).toNatClampNeg = v := ⟨_, rfl⟩
  refine lv_aload_n hx hb dL_law_769 rfl (lv_at hl 1 rfl) ?_
  refine lv_aload_n hx hb dL_law_770 rfl (lv_at hl 0 rfl) ?_
  refine lv_iload hx hb dL_law_771 (lv_at hl 5 rfl) ?_
  refine lv_iconst (v := 1) hx hb dL_law_773 (by decide) ?_
  refine lv_iadd hx hb dL_law_774 ?_
  refine k_sld C0 hW.2.2.2.1 (sc_1 hi hL) hp1 dL_law_775 ?_
  refine lv_aload_n hx hb dL_law_776 rfl (lv_at hl 3 rfl) ?_
  have hW := hW.eq xm
  refine k_callH (as := [.ref (α 0 0), .int p1, .ref o]) (rest := []) F hT hN (fun _ h => h) (Nat.le_refl _) hW (met_L_stateOf l D cA (mW cA β th (N, R, Fr, inc)) α L N R Fr inc o f (oD, .inl (cA 5, 1, .inr (.inr (.inr (.inl g))))) n p1 s.heap.size hl0 hLk hI hn) rfl ML_L_160 ST_L_stateOf IN_L CO_L_stateOf hdS_L_stateOf rfl rfl ⟨(Nat.le_of_ble_eq_true rfl), (Nat.le_of_ble_eq_true rfl)⟩ rfl rfl hl.1 (Nat.le_of_ble_eq_true rfl) dL_law_777 ⟨by show _ ≤ 603072; omega, by show _ ≤ 7231594; omega⟩ (fun r u H locs hw hW => ?_)
  obtain ⟨f2, α2, L2⟩ := u
  obtain ⟨hr2, hα, hLk2, hf2⟩ := hw
  dsimp only at hα hLk2 hf2
  subst hr2
  have hW : Cw D cA s (fun q => s.heap.size ≤ q) (mWd cA β (o, .inl (cA 4, 1, .inr (.inl f2))) (oD, .inl (cA 5, 1, .inr (.inr (.inr (.inl g))))) (L2.map (xf cA α2 (op_lot 9 (N, R, Fr, inc) p1).2.2)) th (N, R, Fr, inc)) H locs := hW
  refine lv_istore (lv' := [(6, .int (nI (op_lot 9 (N, R, Fr, inc) p1).1)), (0, .ref b), (1, .ref (α 0 0)), (2, .ref (β 0)), (3, .ref o), (4, .ref oD), (5, .int (nI i))]) hx hb dL_law_780 hl (by decide) rfl (fun ls hl => ?_)
  refine lv_aload_n hx hb dL_law_782 rfl (lv_at hl 3 rfl) ?_
  refine lv_aload_n hx hb dL_law_783 rfl (lv_at hl 1 rfl) ?_
  refine lv_iload hx hb dL_law_784 (lv_at hl 6 rfl) ?_
  refine lv_iconst (v := 1) hx hb dL_law_786 (by decide) ?_
  refine lv_iadd hx hb dL_law_787 ?_
  refine k_sld C0 hW.2.2.2.1 (sc_1 hi hL) hp1 dL_law_788 ?_
  refine k_callVi (as := [.int p1]) (rest := []) (b := β 0) (ci := 7) (q0 := 2) F hW (met_X5_stateOf l D cA β (o, .inl (cA 4, 1, .inr (.inl f2))) (oD, .inl (cA 5, 1, .inr (.inr (.inr (.inl g))))) (List.map (xf cA α2 (op_lot 9 (N, R, Fr, inc) p1).2.2) L2) th N R Fr inc p1 (iv_ic h).2.1 (fun j hj => (iv_lot h j hj).2.2.2.1)) rfl ML_L_162 IM_X5_stateOf SE_X5_stateOf IN_X5 CO_X5_stateOf hdV_X5_stateOf rfl rfl ⟨(Nat.le_of_ble_eq_true rfl), (Nat.le_of_ble_eq_true rfl)⟩ rfl rfl rfl rfl rfl hl.1 (Nat.le_of_ble_eq_true rfl) dL_law_789 ⟨by show _ ≤ 603072; omega, by show _ ≤ 7231594; omega⟩ (fun r u H locs hw hW => ?_)
  subst hw
  refine lv_istore (lv' := [(7, .int (op_lot 9 (N, R, Fr, inc) p1).2.1), (6, .int (nI (op_lot 9 (N, R, Fr, inc) p1).1)), (0, .ref b), (1, .ref (α 0 0)), (2, .ref (β 0)), (3, .ref o), (4, .ref oD), (5, .int (nI i))]) hx hb dL_law_792 hl (by decide) rfl (fun ls hl => ?_)
  refine lv_aload_n hx hb dL_law_794 rfl (lv_at hl 4 rfl) ?_
  refine k_callVi (as := []) (rest := []) (b := β 0) (ci := 7) (q0 := 2) F hW (met_thr l D cA β (o, .inl (cA 4, 1, .inr (.inl f2))) (oD, .inl (cA 5, 1, .inr (.inr (.inr (.inl g))))) (List.map (xf cA α2 (op_lot 9 (N, R, Fr, inc) p1).2.2) L2) (nI (op_lot 9 (N, R, Fr, inc) p1).1) (op_lot 9 (N, R, Fr, inc) p1).2.2) rfl ML_L_130 IM_X5_thrown SE_X5_thrown IN_X5 CO_X5_thrown hdV_X5_thrown rfl rfl ⟨(Nat.le_of_ble_eq_true rfl), (Nat.le_of_ble_eq_true rfl)⟩ rfl rfl rfl rfl rfl hl.1 (Nat.le_of_ble_eq_true rfl) dL_law_795 ⟨by show _ ≤ 603072; omega, by show _ ≤ 7231594; omega⟩ (fun r u H locs hw hW => ?_)
  subst hw
  refine lv_iload hx hb dL_law_798 (lv_at hl 1 rfl) ?_
  refine lv_icmp_eq (tgt := 805) hx hb dL_law_800 (by decide) (fun _ => ?_) (fun h => absurd (rfl) h)
  refine lv_iload hx hb dL_law_805 (lv_at hl 1 rfl) ?_
  refine lv_if_ne (tgt := 822) hx hb dL_law_807 (by decide) (fun h0 => ?_) (fun h0 => ?_)
  · refine lv_goto (tgt := 2245) hx hb dL_law_822 (by decide) ?_
    refine W.widen (k := cells + 4) (n := slots + 88) (by omega) (by omega) ?_
    exact kk ((op_lot 9 (N, R, Fr, inc) p1).2.2) α2 L2 f2 g (nI (op_lot 9 (N, R, Fr, inc) p1).1) H locs ls (by rw [st_lot 9 N R Fr inc p1]; exact hI.mono (Nat.le_succ n)) hLk2 hα hW (lv_sub hl [2, 3, 4, 5, 6, 7] rfl)
  · have h1 : (op_lot 9 (N, R, Fr, inc) p1).1 = 0 := nz_code (Nat.le_trans (ce_lot 9 N R Fr inc p1).1 (Nat.le_of_ble_eq_true rfl)) h0
    refine lv_aload_n hx hb dL_law_810 rfl (lv_at hl 5 rfl) ?_
    refine lv_iconst (v := 0) hx hb dL_law_811 (by decide) ?_
    refine k_lald (v := ((op_lot 9 (N, R, Fr, inc) p1).2.1).toInt64) F hW 0 rfl z_in (by rw [z_cl]; exact hf2 h1) dL_law_812 ?_
    refine lv_iload hx hb dL_law_813 (lv_at hl 0 rfl) ?_
    refine lv_i2l hx hb dL_law_815 rfl ?_
    refine W.lcmp hx hb dL_law_816 ?_
    rw [lg_self]
    refine lv_if_eq (tgt := 822) hx hb dL_law_817 (by decide) (fun _ => ?_) (fun h => absurd (rfl) h)
    refine lv_goto (tgt := 2245) hx hb dL_law_822 (by decide) ?_
    refine W.widen (k := cells + 4) (n := slots + 88) (by omega) (by omega) ?_
    exact kk ((op_lot 9 (N, R, Fr, inc) p1).2.2) α2 L2 f2 g (nI (op_lot 9 (N, R, Fr, inc) p1).1) H locs ls (by rw [st_lot 9 N R Fr inc p1]; exact hI.mono (Nat.le_succ n)) hLk2 hα hW (lv_sub hl [2, 3, 4, 5, 6, 7] rfl)
