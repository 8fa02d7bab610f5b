theorem app_at {A : Type} (ws : List A) {es : List A} (i : Nat) {e : A} (h : es[i]? = some e) : (ws ++ es)[ws.length + i]? = some e := by
  rw [List.getElem?_append_right (by omega), Nat.add_sub_cancel_left]
  exact h
theorem app_set {A : Type} (ws : List A) (es : List A) (i : Nat) (y : A) : (ws ++ es).set (ws.length + i) y = ws ++ es.set i y := by
  rw [List.set_append_right _ _ (by omega), Nat.add_sub_cancel_left]
theorem z01f {x : Int32} (h : x = 0 ∨ x = 1) : fits .boolean (.int x) = true := by rcases h with rfl | rfl <;> rfl
theorem z01n {x : Int32} (h : x = 0 ∨ x = 1) : narrow .boolean (.int x) = .int x := by rcases h with rfl | rfl <;> rfl
set_option maxHeartbeats 4000000 in
set_option maxRecDepth 100000 in
theorem met_X2_init (l : Launch) (D : va_G) (cA : Nat → ClassId) (ws : va_W) (a : Nat) (v0 v1 v2 v3 v4 v5 : Int32) (hz : v5 = 0 ∨ v5 = 1) : MetV l yX2_init (.code yX2_init cX2_init 7 none :: LW) ({ frames := 1, cells := 0, slots := 0, locals := 60 }) D cA (ws ++ [(a, .inr (4, [.int 0, .int 0, .int 0, .int 0, .int 0, .int 0, .int 0, .float 0, .int 0, .null, .int 0]))]) [.ref a, .int v0, .int v1, .int v2, .int v3, .int v4, .int v5] (fun (_ : Unit) => True) (fun (u : Unit) => ws ++ [(a, .inr (4, [.int v0, .int v1, .int v2, .int v3, .int v4, .int v5, .int 102, .float 1120403456, .int 0, .null, .int 0]))]) 0 0 := by
  refine k_bodyV (plainFor_of_name (by decide)) (Nat.le_of_ble_eq_true rfl) (fun p e s m args below meth c ls F hW hl => ?_)
  obtain ⟨hx, hb, hr, hml, hown, hts, hlocks, hname⟩ := id F
  have hl : lv_has ls 7 [(0, .ref a), (1, .int v0), (2, .int v1), (3, .int v2), (4, .int v3), (5, .int v4), (6, .int v5)] := hl
  refine lv_aload_n hx hb dX2_init_0 rfl (lv_at hl 0 rfl) ?_
  refine k_obj F rfl ML_X2_3 hl.1 (Nat.le_of_ble_eq_true rfl) ⟨(Nat.le_of_ble_eq_true rfl), (Nat.le_of_ble_eq_true rfl)⟩ dX2_init_1 ?_
  refine lv_aload_n hx hb dX2_init_4 rfl (lv_at hl 0 rfl) ?_
  refine lv_bipush (v := 102) hx hb dX2_init_5 (by decide) ?_
  refine k_put F hW inX2 tyX2_ok nmX2 rfl (ws.length + 0) (app_at ws 0 rfl) rfl 6 (by decide) FL_X2_9 rfl rfl rfl rfl rfl (Nat.le_of_ble_eq_true rfl) (ws ++ [(a, .inr (4, [.int 0, .int 0, .int 0, .int 0, .int 0, .int 0, .int 102, .float 0, .int 0, .null, .int 0]))]) (by rw [app_set]; rfl) dX2_init_7 (fun H locs hW => ?_)
  refine lv_aload_n hx hb dX2_init_10 rfl (lv_at hl 0 rfl) ?_
  refine lv_ldcf (v := 1120403456) hx hb hown (hts _ CK_X2_15) dX2_init_11 ?_
  refine k_put F hW inX2 tyX2_ok nmX2 rfl (ws.length + 0) (app_at ws 0 rfl) rfl 7 (by decide) FL_X2_16 rfl rfl rfl rfl rfl (Nat.le_of_ble_eq_true rfl) (ws ++ [(a, .inr (4, [.int 0, .int 0, .int 0, .int 0, .int 0, .int 0, .int 102, .float 1120403456, .int 0, .null, .int 0]))]) (by rw [app_set]; rfl) dX2_init_13 (fun H locs hW => ?_)
  refine lv_aload_n hx hb dX2_init_16 rfl (lv_at hl 0 rfl) ?_
  refine lv_iconst (v := 0) hx hb dX2_init_17 (by decide) ?_
  refine k_put F hW inX2 tyX2_ok nmX2 rfl (ws.length + 0) (app_at ws 0 rfl) rfl 8 (by decide) FL_X2_20 rfl rfl rfl rfl rfl (Nat.le_of_ble_eq_true rfl) (ws ++ [(a, .inr (4, [.int 0, .int 0, .int 0, .int 0, .int 0, .int 0, .int 102, .float 1120403456, .int 0, .null, .int 0]))]) (by rw [app_set]; rfl) dX2_init_18 (fun H locs hW => ?_)
  refine lv_aload_n hx hb dX2_init_21 rfl (lv_at hl 0 rfl) ?_
  refine x_null hx hb dX2_init_22 ?_
  refine k_put F hW inX2 tyX2_ok nmX2 rfl (ws.length + 0) (app_at ws 0 rfl) rfl 9 (by decide) FL_X2_24 rfl rfl rfl rfl rfl (Nat.le_of_ble_eq_true rfl) (ws ++ [(a, .inr (4, [.int 0, .int 0, .int 0, .int 0, .int 0, .int 0, .int 102, .float 1120403456, .int 0, .null, .int 0]))]) (by rw [app_set]; rfl) dX2_init_23 (fun H locs hW => ?_)
  refine lv_aload_n hx hb dX2_init_26 rfl (lv_at hl 0 rfl) ?_
  refine lv_iconst (v := 0) hx hb dX2_init_27 (by decide) ?_
  refine k_put F hW inX2 tyX2_ok nmX2 rfl (ws.length + 0) (app_at ws 0 rfl) rfl 10 (by decide) FL_X2_28 rfl rfl rfl rfl rfl (Nat.le_of_ble_eq_true rfl) (ws ++ [(a, .inr (4, [.int 0, .int 0, .int 0, .int 0, .int 0, .int 0, .int 102, .float 1120403456, .int 0, .null, .int 0]))]) (by rw [app_set]; rfl) dX2_init_28 (fun H locs hW => ?_)
  refine lv_aload_n hx hb dX2_init_31 rfl (lv_at hl 0 rfl) ?_
  refine lv_iload_n hx hb dX2_init_32 rfl (lv_at hl 1 rfl) ?_
  refine k_putF F hW inX2 tyX2_ok nmX2 rfl rfl (ws.length + 0) (app_at ws 0 rfl) rfl 0 (by decide) FL_X2_31 rfl rfl rfl rfl rfl rfl (Nat.le_of_ble_eq_true rfl) (ws ++ [(a, .inr (4, [.int v0, .int 0, .int 0, .int 0, .int 0, .int 0, .int 102, .float 1120403456, .int 0, .null, .int 0]))]) (by rw [app_set]; rfl) dX2_init_33 (fun H locs hW => ?_)
  refine lv_aload_n hx hb dX2_init_36 rfl (lv_at hl 0 rfl) ?_
  refine lv_iload_n hx hb dX2_init_37 rfl (lv_at hl 2 rfl) ?_
  refine k_putF F hW inX2 tyX2_ok nmX2 rfl rfl (ws.length + 0) (app_at ws 0 rfl) rfl 1 (by decide) FL_X2_34 rfl rfl rfl rfl rfl rfl (Nat.le_of_ble_eq_true rfl) (ws ++ [(a, .inr (4, [.int v0, .int v1, .int 0, .int 0, .int 0, .int 0, .int 102, .float 1120403456, .int 0, .null, .int 0]))]) (by rw [app_set]; rfl) dX2_init_38 (fun H locs hW => ?_)
  refine lv_aload_n hx hb dX2_init_41 rfl (lv_at hl 0 rfl) ?_
  refine lv_iload_n hx hb dX2_init_42 rfl (lv_at hl 3 rfl) ?_
  refine k_putF F hW inX2 tyX2_ok nmX2 rfl rfl (ws.length + 0) (app_at ws 0 rfl) rfl 2 (by decide) FL_X2_37 rfl rfl rfl rfl rfl rfl (Nat.le_of_ble_eq_true rfl) (ws ++ [(a, .inr (4, [.int v0, .int v1, .int v2, .int 0, .int 0, .int 0, .int 102, .float 1120403456, .int 0, .null, .int 0]))]) (by rw [app_set]; rfl) dX2_init_43 (fun H locs hW => ?_)
  refine lv_aload_n hx hb dX2_init_46 rfl (lv_at hl 0 rfl) ?_
  refine lv_iload hx hb dX2_init_47 (lv_at hl 4 rfl) ?_
  refine k_putF F hW inX2 tyX2_ok nmX2 rfl rfl (ws.length + 0) (app_at ws 0 rfl) rfl 3 (by decide) FL_X2_40 rfl rfl rfl rfl rfl rfl (Nat.le_of_ble_eq_true rfl) (ws ++ [(a, .inr (4, [.int v0, .int v1, .int v2, .int v3, .int 0, .int 0, .int 102, .float 1120403456, .int 0, .null, .int 0]))]) (by rw [app_set]; rfl) dX2_init_49 (fun H locs hW => ?_)
  refine lv_aload_n hx hb dX2_init_52 rfl (lv_at hl 0 rfl) ?_
  refine lv_iload hx hb dX2_init_53 (lv_at hl 5 rfl) ?_
  refine k_putF F hW inX2 tyX2_ok nmX2 rfl rfl (ws.length + 0) (app_at ws 0 rfl) rfl 4 (by decide) FL_X2_43 rfl rfl rfl rfl rfl rfl (Nat.le_of_ble_eq_true rfl) (ws ++ [(a, .inr (4, [.int v0, .int v1, .int v2, .int v3, .int v4, .int 0, .int 102, .float 1120403456, .int 0, .null, .int 0]))]) (by rw [app_set]; rfl) dX2_init_55 (fun H locs hW => ?_)
  refine lv_aload_n hx hb dX2_init_58 rfl (lv_at hl 0 rfl) ?_
  refine lv_iload hx hb dX2_init_59 (lv_at hl 6 rfl) ?_
  refine k_putF F hW inX2 tyX2_ok nmX2 rfl rfl (ws.length + 0) (app_at ws 0 rfl) rfl 5 (by decide) FL_X2_46 rfl rfl rfl rfl (z01n hz) (z01f hz) (Nat.le_of_ble_eq_true rfl) (ws ++ [(a, .inr (4, [.int v0, .int v1, .int v2, .int v3, .int v4, .int v5, .int 102, .float 1120403456, .int 0, .null, .int 0]))]) (by rw [app_set]; rfl) dX2_init_61 (fun H locs hW => ?_)
  exact k_vret () F hW trivial dX2_init_64 (Nat.le_of_ble_eq_true rfl) (Nat.le_of_ble_eq_true rfl)

set_option maxHeartbeats 4000000 in
set_option maxRecDepth 100000 in
theorem met_X1_init (l : Launch) (D : va_G) (cA : Nat → ClassId) (ws : va_W) (a : Nat) (v0 v1 : Int32) : MetV l yX1_init (.code yX1_init cX1_init 3 none :: LW) ({ frames := 1, cells := 1, slots := 4, locals := 60 }) D cA (ws ++ [(a, .inr (3, [.int 0, .null, .int 0]))]) [.ref a, .int v0, .int v1] (fun (_ : Nat) => True) (fun (u : Nat) => ws ++ [(a, .inr (3, [.int v0, .ref u, .int v1])), (u, .inl (cA 0, 4, .inl (fun _ => 0)))]) 1 4 := by
  refine k_bodyV (plainFor_of_name (by decide)) (Nat.le_of_ble_eq_true rfl) (fun p e s m args below meth c ls F hW hl => ?_)
  obtain ⟨hx, hb, hr, hml, hown, hts, hlocks, hname⟩ := id F
  have hl : lv_has ls 3 [(0, .ref a), (1, .int v0), (2, .int v1)] := hl
  refine lv_aload_n hx hb dX1_init_0 rfl (lv_at hl 0 rfl) ?_
  refine k_obj F rfl ML_X1_3 hl.1 (Nat.le_of_ble_eq_true rfl) ⟨(Nat.le_of_ble_eq_true rfl), (Nat.le_of_ble_eq_true rfl)⟩ dX1_init_1 ?_
  refine lv_aload_n hx hb dX1_init_4 rfl (lv_at hl 0 rfl) ?_
  refine lv_iconst (v := 4) hx hb dX1_init_5 (by decide) ?_
  refine k_newi (N' := 4) F hW (by decide) rfl (by decide) (Nat.le_of_ble_eq_true rfl) (Nat.le_of_ble_eq_true rfl) dX1_init_6 (fun a1 H hW => ?_)
  have hW := hW.eq (show _ = ws ++ [(a, .inr (3, [.int 0, .null, .int 0])), (a1, .inl (cA 0, 4, .inl (fun _ => 0)))] by rw [List.append_assoc]; rfl)
  refine k_putF F hW inX1 tyX1_ok nmX1 rfl rfl (ws.length + 0) (app_at ws 0 rfl) rfl 1 (by decide) FL_X1_9 rfl rfl rfl rfl rfl rfl (Nat.le_of_ble_eq_true rfl) (ws ++ [(a, .inr (3, [.int 0, .ref a1, .int 0])), (a1, .inl (cA 0, 4, .inl (fun _ => 0)))]) (by rw [app_set]; rfl) dX1_init_8 (fun H locs hW => ?_)
  refine lv_aload_n hx hb dX1_init_11 rfl (lv_at hl 0 rfl) ?_
  refine lv_iload_n hx hb dX1_init_12 rfl (lv_at hl 1 rfl) ?_
  refine k_putF F hW inX1 tyX1_ok nmX1 rfl rfl (ws.length + 0) (app_at ws 0 rfl) rfl 0 (by decide) FL_X1_15 rfl rfl rfl rfl rfl rfl (Nat.le_of_ble_eq_true rfl) (ws ++ [(a, .inr (3, [.int v0, .ref a1, .int 0])), (a1, .inl (cA 0, 4, .inl (fun _ => 0)))]) (by rw [app_set]; rfl) dX1_init_13 (fun H locs hW => ?_)
  refine lv_aload_n hx hb dX1_init_16 rfl (lv_at hl 0 rfl) ?_
  refine lv_iload_n hx hb dX1_init_17 rfl (lv_at hl 2 rfl) ?_
  refine k_put F hW inX1 tyX1_ok nmX1 rfl (ws.length + 0) (app_at ws 0 rfl) rfl 2 (by decide) FL_X1_19 rfl rfl rfl rfl rfl (Nat.le_of_ble_eq_true rfl) (ws ++ [(a, .inr (3, [.int v0, .ref a1, .int v1])), (a1, .inl (cA 0, 4, .inl (fun _ => 0)))]) (by rw [app_set]; rfl) dX1_init_18 (fun H locs hW => ?_)
  exact k_vret a1 F hW trivial dX1_init_21 (Nat.le_of_ble_eq_true rfl) (Nat.le_of_ble_eq_true rfl)

set_option maxHeartbeats 4000000 in
set_option maxRecDepth 100000 in
theorem met_X0_init (l : Launch) (D : va_G) (cA : Nat → ClassId) (ws : va_W) (a : Nat) (v0 v1 v2 v3 v4 : Int32) : MetV l yX0_init (.code yX0_init cX0_init 6 none :: LW) ({ frames := 1, cells := 3, slots := 84, locals := 60 }) D cA (ws ++ [(a, .inr (2, [.int 0, .null, .null, .null]))]) [.ref a, .int v0, .int v1, .int v2, .int v3, .int v4] (fun (_ : (Nat × Nat × Nat)) => True) (fun (u : (Nat × Nat × Nat)) => ws ++ [(a, .inr (2, [.int v0, .ref u.1, .ref u.2.1, .ref u.2.2])), (u.1, .inl (cA 0, 4, .inl (upd (upd (upd (upd (fun _ => 0) 0 v1) 1 v2) 2 v3) 3 v4))), (u.2.1, .inl (cA 0, 4, .inl (va_cpy (upd (upd (upd (upd (fun _ => 0) 0 v1) 1 v2) 2 v3) 3 v4) (fun _ => 0) 0 0 4))), (u.2.2, .inl (cA 0, 76, .inl (fun _ => 0)))]) 3 84 := by
  refine k_bodyV (plainFor_of_name (by decide)) (Nat.le_of_ble_eq_true rfl) (fun p e s m args below meth c ls F hW hl => ?_)
  obtain ⟨hx, hb, hr, hml, hown, hts, hlocks, hname⟩ := id F
  have hl : lv_has ls 6 [(0, .ref a), (1, .int v0), (2, .int v1), (3, .int v2), (4, .int v3), (5, .int v4)] := hl
  refine lv_aload_n hx hb dX0_init_0 rfl (lv_at hl 0 rfl) ?_
  refine k_obj F rfl ML_X0_3 hl.1 (Nat.le_of_ble_eq_true rfl) ⟨(Nat.le_of_ble_eq_true rfl), (Nat.le_of_ble_eq_true rfl)⟩ dX0_init_1 ?_
  refine lv_aload_n hx hb dX0_init_4 rfl (lv_at hl 0 rfl) ?_
  refine lv_iconst (v := 4) hx hb dX0_init_5 (by decide) ?_
  refine k_newi (N' := 4) F hW (by decide) rfl (by decide) (Nat.le_of_ble_eq_true rfl) (Nat.le_of_ble_eq_true rfl) dX0_init_6 (fun a1 H hW => ?_)
  have hW := hW.eq (show _ = ws ++ [(a, .inr (2, [.int 0, .null, .null, .null])), (a1, .inl (cA 0, 4, .inl (fun _ => 0)))] by rw [List.append_assoc]; rfl)
  refine k_putF F hW inX0 tyX0_ok nmX0 rfl rfl (ws.length + 0) (app_at ws 0 rfl) rfl 1 (by decide) FL_X0_9 rfl rfl rfl rfl rfl rfl (Nat.le_of_ble_eq_true rfl) (ws ++ [(a, .inr (2, [.int 0, .ref a1, .null, .null])), (a1, .inl (cA 0, 4, .inl (fun _ => 0)))]) (by rw [app_set]; rfl) dX0_init_8 (fun H locs hW => ?_)
  refine lv_aload_n hx hb dX0_init_11 rfl (lv_at hl 0 rfl) ?_
  refine lv_iconst (v := 4) hx hb dX0_init_12 (by decide) ?_
  refine k_newi (N' := 4) F hW (by decide) rfl (by decide) (Nat.le_of_ble_eq_true rfl) (Nat.le_of_ble_eq_true rfl) dX0_init_13 (fun a2 H hW => ?_)
  have hW := hW.eq (show _ = ws ++ [(a, .inr (2, [.int 0, .ref a1, .null, .null])), (a1, .inl (cA 0, 4, .inl (fun _ => 0))), (a2, .inl (cA 0, 4, .inl (fun _ => 0)))] by rw [List.append_assoc]; rfl)
  refine k_putF F hW inX0 tyX0_ok nmX0 rfl rfl (ws.length + 0) (app_at ws 0 rfl) rfl 2 (by decide) FL_X0_15 rfl rfl rfl rfl rfl rfl (Nat.le_of_ble_eq_true rfl) (ws ++ [(a, .inr (2, [.int 0, .ref a1, .ref a2, .null])), (a1, .inl (cA 0, 4, .inl (fun _ => 0))), (a2, .inl (cA 0, 4, .inl (fun _ => 0)))]) (by rw [app_set]; rfl) dX0_init_15 (fun H locs hW => ?_)
  refine lv_aload_n hx hb dX0_init_18 rfl (lv_at hl 0 rfl) ?_
  refine lv_bipush (v := 76) hx hb dX0_init_19 (by decide) ?_
  refine k_newi (N' := 76) F hW (by decide) rfl (by decide) (Nat.le_of_ble_eq_true rfl) (Nat.le_of_ble_eq_true rfl) dX0_init_21 (fun a3 H hW => ?_)
  have hW := hW.eq (show _ = ws ++ [(a, .inr (2, [.int 0, .ref a1, .ref a2, .null])), (a1, .inl (cA 0, 4, .inl (fun _ => 0))), (a2, .inl (cA 0, 4, .inl (fun _ => 0))), (a3, .inl (cA 0, 76, .inl (fun _ => 0)))] by rw [List.append_assoc]; rfl)
  refine k_putF F hW inX0 tyX0_ok nmX0 rfl rfl (ws.length + 0) (app_at ws 0 rfl) rfl 3 (by decide) FL_X0_18 rfl rfl rfl rfl rfl rfl (Nat.le_of_ble_eq_true rfl) (ws ++ [(a, .inr (2, [.int 0, .ref a1, .ref a2, .ref a3])), (a1, .inl (cA 0, 4, .inl (fun _ => 0))), (a2, .inl (cA 0, 4, .inl (fun _ => 0))), (a3, .inl (cA 0, 76, .inl (fun _ => 0)))]) (by rw [app_set]; rfl) dX0_init_23 (fun H locs hW => ?_)
  refine lv_aload_n hx hb dX0_init_26 rfl (lv_at hl 0 rfl) ?_
  refine lv_iload_n hx hb dX0_init_27 rfl (lv_at hl 1 rfl) ?_
  refine k_putF F hW inX0 tyX0_ok nmX0 rfl rfl (ws.length + 0) (app_at ws 0 rfl) rfl 0 (by decide) FL_X0_21 rfl rfl rfl rfl rfl rfl (Nat.le_of_ble_eq_true rfl) (ws ++ [(a, .inr (2, [.int v0, .ref a1, .ref a2, .ref a3])), (a1, .inl (cA 0, 4, .inl (fun _ => 0))), (a2, .inl (cA 0, 4, .inl (fun _ => 0))), (a3, .inl (cA 0, 76, .inl (fun _ => 0)))]) (by rw [app_set]; rfl) dX0_init_28 (fun H locs hW => ?_)
  refine lv_aload_n hx hb dX0_init_31 rfl (lv_at hl 0 rfl) ?_
  refine k_get (v := .ref a1) F hW inX0 rfl (ws.length + 0) (app_at ws 0 rfl) rfl 1 (by decide) FL_X0_9 rfl rfl dX0_init_32 ?_
  refine lv_iconst (v := 0) hx hb dX0_init_35 (by decide) ?_
  refine lv_iload_n hx hb dX0_init_36 rfl (lv_at hl 2 rfl) ?_
  refine k_iast F hW (ws.length + 1) (app_at ws 1 rfl) (show vp_in (nI 0) 4 from vp_in_nI (by decide) (by decide)) (ws ++ [(a, .inr (2, [.int v0, .ref a1, .ref a2, .ref a3])), (a1, .inl (cA 0, 4, .inl (upd (fun _ => 0) 0 v1))), (a2, .inl (cA 0, 4, .inl (fun _ => 0))), (a3, .inl (cA 0, 76, .inl (fun _ => 0)))]) (by rw [app_set]; rfl) dX0_init_37 (fun H locs hW => ?_)
  refine lv_aload_n hx hb dX0_init_38 rfl (lv_at hl 0 rfl) ?_
  refine k_get (v := .ref a1) F hW inX0 rfl (ws.length + 0) (app_at ws 0 rfl) rfl 1 (by decide) FL_X0_9 rfl rfl dX0_init_39 ?_
  refine lv_iconst (v := 1) hx hb dX0_init_42 (by decide) ?_
  refine lv_iload_n hx hb dX0_init_43 rfl (lv_at hl 3 rfl) ?_
  refine k_iast F hW (ws.length + 1) (app_at ws 1 rfl) (show vp_in (nI 1) 4 from vp_in_nI (by decide) (by decide)) (ws ++ [(a, .inr (2, [.int v0, .ref a1, .ref a2, .ref a3])), (a1, .inl (cA 0, 4, .inl (upd (upd (fun _ => 0) 0 v1) 1 v2))), (a2, .inl (cA 0, 4, .inl (fun _ => 0))), (a3, .inl (cA 0, 76, .inl (fun _ => 0)))]) (by rw [app_set]; rfl) dX0_init_44 (fun H locs hW => ?_)
  refine lv_aload_n hx hb dX0_init_45 rfl (lv_at hl 0 rfl) ?_
  refine k_get (v := .ref a1) F hW inX0 rfl (ws.length + 0) (app_at ws 0 rfl) rfl 1 (by decide) FL_X0_9 rfl rfl dX0_init_46 ?_
  refine lv_iconst (v := 2) hx hb dX0_init_49 (by decide) ?_
  refine lv_iload hx hb dX0_init_50 (lv_at hl 4 rfl) ?_
  refine k_iast F hW (ws.length + 1) (app_at ws 1 rfl) (show vp_in (nI 2) 4 from vp_in_nI (by decide) (by decide)) (ws ++ [(a, .inr (2, [.int v0, .ref a1, .ref a2, .ref a3])), (a1, .inl (cA 0, 4, .inl (upd (upd (upd (fun _ => 0) 0 v1) 1 v2) 2 v3))), (a2, .inl (cA 0, 4, .inl (fun _ => 0))), (a3, .inl (cA 0, 76, .inl (fun _ => 0)))]) (by rw [app_set]; rfl) dX0_init_52 (fun H locs hW => ?_)
  refine lv_aload_n hx hb dX0_init_53 rfl (lv_at hl 0 rfl) ?_
  refine k_get (v := .ref a1) F hW inX0 rfl (ws.length + 0) (app_at ws 0 rfl) rfl 1 (by decide) FL_X0_9 rfl rfl dX0_init_54 ?_
  refine lv_iconst (v := 3) hx hb dX0_init_57 (by decide) ?_
  refine lv_iload hx hb dX0_init_58 (lv_at hl 5 rfl) ?_
  refine k_iast F hW (ws.length + 1) (app_at ws 1 rfl) (show vp_in (nI 3) 4 from vp_in_nI (by decide) (by decide)) (ws ++ [(a, .inr (2, [.int v0, .ref a1, .ref a2, .ref a3])), (a1, .inl (cA 0, 4, .inl (upd (upd (upd (upd (fun _ => 0) 0 v1) 1 v2) 2 v3) 3 v4))), (a2, .inl (cA 0, 4, .inl (fun _ => 0))), (a3, .inl (cA 0, 76, .inl (fun _ => 0)))]) (by rw [app_set]; rfl) dX0_init_60 (fun H locs hW => ?_)
  refine lv_aload_n hx hb dX0_init_61 rfl (lv_at hl 0 rfl) ?_
  refine k_get (v := .ref a1) F hW inX0 rfl (ws.length + 0) (app_at ws 0 rfl) rfl 1 (by decide) FL_X0_9 rfl rfl dX0_init_62 ?_
  refine lv_iconst (v := 0) hx hb dX0_init_65 (by decide) ?_
  refine lv_aload_n hx hb dX0_init_66 rfl (lv_at hl 0 rfl) ?_
  refine k_get (v := .ref a2) F hW inX0 rfl (ws.length + 0) (app_at ws 0 rfl) rfl 2 (by decide) FL_X0_15 rfl rfl dX0_init_67 ?_
  refine lv_iconst (v := 0) hx hb dX0_init_70 (by decide) ?_
  refine lv_iconst (v := 4) hx hb dX0_init_71 (by decide) ?_
  refine k_copy F hW rfl ML_X0_25 (ws.length + 1) (ws.length + 2) (app_at ws 1 rfl) (app_at ws 2 rfl) (by decide) (by decide) (by decide) (by decide) (by decide) hl.1 (Nat.le_of_ble_eq_true rfl) ⟨(Nat.le_of_ble_eq_true rfl), (Nat.le_of_ble_eq_true rfl)⟩ (ws ++ [(a, .inr (2, [.int v0, .ref a1, .ref a2, .ref a3])), (a1, .inl (cA 0, 4, .inl (upd (upd (upd (upd (fun _ => 0) 0 v1) 1 v2) 2 v3) 3 v4))), (a2, .inl (cA 0, 4, .inl (va_cpy (upd (upd (upd (upd (fun _ => 0) 0 v1) 1 v2) 2 v3) 3 v4) (fun _ => 0) 0 0 4))), (a3, .inl (cA 0, 76, .inl (fun _ => 0)))]) (by rw [app_set]; rfl) dX0_init_72 (fun H locs hW => ?_)
  exact k_vret (a1, a2, a3) F hW trivial dX0_init_75 (Nat.le_of_ble_eq_true rfl) (Nat.le_of_ble_eq_true rfl)

set_option maxHeartbeats 4000000 in
set_option maxRecDepth 100000 in
theorem met_X3_init (l : Launch) (D : va_G) (cA : Nat → ClassId) (ws : va_W) (a : Nat) (v0 v1 v2 : Int32) (z0 : Nat) (hz : v2 = 0 ∨ v2 = 1) : MetZ z0 l yX3_init (.code yX3_init cX3_init 4 none :: LW) ({ frames := 1, cells := 1, slots := 5, locals := 60 }) D cA (ws ++ [(a, .inr (5, [.int 0, .int 0, .null, .int 0, .int 0]))]) [.ref a, .int v0, .int v1, .int v2] (fun (_ : Nat) => True) (fun (u : Nat) => ws ++ [(a, .inr (5, [.int v0, .int v2, .ref u, .int 0, .int v1])), (u, .inl (cA 7, rfA 5 (fun _ => none)))]) 1 5 := by
  refine k_bodyZ (plainFor_of_name (by decide)) (Nat.le_of_ble_eq_true rfl) (fun p e s m args below meth c ls F hth hW hl => ?_)
  obtain ⟨hx, hb, hr, hml, hown, hts, hlocks, hname⟩ := id F
  have hl : lv_has ls 4 [(0, .ref a), (1, .int v0), (2, .int v1), (3, .int v2)] := hl
  refine lv_aload_n hx hb dX3_init_0 rfl (lv_at hl 0 rfl) ?_
  refine k_obj F rfl ML_X3_3 hl.1 (Nat.le_of_ble_eq_true rfl) ⟨(Nat.le_of_ble_eq_true rfl), (Nat.le_of_ble_eq_true rfl)⟩ dX3_init_1 ?_
  refine lv_aload_n hx hb dX3_init_4 rfl (lv_at hl 0 rfl) ?_
  refine lv_iconst (v := 5) hx hb dX3_init_5 (by decide) ?_
  refine k_newq (N' := 5) (tI := 7) F hW rfl CL_X3_9 (hth.2.2.2.2 _ (by simp)) rfl (by decide) rfl (by decide) (Nat.le_of_ble_eq_true rfl) (Nat.le_of_ble_eq_true rfl) dX3_init_6 (fun a1 H hW => ?_)
  have hW := hW.eq (show _ = ws ++ [(a, .inr (5, [.int 0, .int 0, .null, .int 0, .int 0])), (a1, .inl (cA 7, rfA 5 (fun _ => none)))] by rw [List.append_assoc]; rfl)
  refine k_putF F hW inX3 tyX3_ok nmX3 rfl rfl (ws.length + 0) (app_at ws 0 rfl) rfl 2 (by decide) FL_X3_11 rfl rfl rfl rfl rfl rfl (Nat.le_of_ble_eq_true rfl) (ws ++ [(a, .inr (5, [.int 0, .int 0, .ref a1, .int 0, .int 0])), (a1, .inl (cA 7, rfA 5 (fun _ => none)))]) (by rw [app_set]; rfl) dX3_init_9 (fun H locs hW => ?_)
  refine lv_aload_n hx hb dX3_init_12 rfl (lv_at hl 0 rfl) ?_
  refine lv_iconst (v := 0) hx hb dX3_init_13 (by decide) ?_
  refine k_put F hW inX3 tyX3_ok nmX3 rfl (ws.length + 0) (app_at ws 0 rfl) rfl 3 (by decide) FL_X3_17 rfl rfl rfl rfl rfl (Nat.le_of_ble_eq_true rfl) (ws ++ [(a, .inr (5, [.int 0, .int 0, .ref a1, .int 0, .int 0])), (a1, .inl (cA 7, rfA 5 (fun _ => none)))]) (by rw [app_set]; rfl) dX3_init_14 (fun H locs hW => ?_)
  refine lv_aload_n hx hb dX3_init_17 rfl (lv_at hl 0 rfl) ?_
  refine lv_iload_n hx hb dX3_init_18 rfl (lv_at hl 1 rfl) ?_
  refine k_putF F hW inX3 tyX3_ok nmX3 rfl rfl (ws.length + 0) (app_at ws 0 rfl) rfl 0 (by decide) FL_X3_21 rfl rfl rfl rfl rfl rfl (Nat.le_of_ble_eq_true rfl) (ws ++ [(a, .inr (5, [.int v0, .int 0, .ref a1, .int 0, .int 0])), (a1, .inl (cA 7, rfA 5 (fun _ => none)))]) (by rw [app_set]; rfl) dX3_init_19 (fun H locs hW => ?_)
  refine lv_aload_n hx hb dX3_init_22 rfl (lv_at hl 0 rfl) ?_
  refine lv_iload_n hx hb dX3_init_23 rfl (lv_at hl 2 rfl) ?_
  refine k_put F hW inX3 tyX3_ok nmX3 rfl (ws.length + 0) (app_at ws 0 rfl) rfl 4 (by decide) FL_X3_24 rfl rfl rfl rfl rfl (Nat.le_of_ble_eq_true rfl) (ws ++ [(a, .inr (5, [.int v0, .int 0, .ref a1, .int 0, .int v1])), (a1, .inl (cA 7, rfA 5 (fun _ => none)))]) (by rw [app_set]; rfl) dX3_init_24 (fun H locs hW => ?_)
  refine lv_aload_n hx hb dX3_init_27 rfl (lv_at hl 0 rfl) ?_
  refine lv_iload_n hx hb dX3_init_28 rfl (lv_at hl 3 rfl) ?_
  refine k_putF F hW inX3 tyX3_ok nmX3 rfl rfl (ws.length + 0) (app_at ws 0 rfl) rfl 1 (by decide) FL_X3_27 rfl rfl rfl rfl (z01n hz) (z01f hz) (Nat.le_of_ble_eq_true rfl) (ws ++ [(a, .inr (5, [.int v0, .int v2, .ref a1, .int 0, .int v1])), (a1, .inl (cA 7, rfA 5 (fun _ => none)))]) (by rw [app_set]; rfl) dX3_init_29 (fun H locs hW => ?_)
  exact k_vret a1 F hW trivial dX3_init_32 (Nat.le_of_ble_eq_true rfl) (Nat.le_of_ble_eq_true rfl)

set_option maxHeartbeats 4000000 in
set_option maxRecDepth 100000 in
theorem met_X4_init (l : Launch) (D : va_G) (cA : Nat → ClassId) (ws : va_W) (a : Nat) (z0 : Nat) : MetZ z0 l yX4_init (.code yX4_init cX4_init 1 none :: LW) ({ frames := 1, cells := 4, slots := 35, locals := 60 }) D cA (ws ++ [(a, .inr (6, [.null, .null, .null, .null, .int 0, .int 0, .int 0, .int 0, .int 0, .int 0, .int 0, .int 0, .int 0, .int 0, .long 0]))]) [.ref a] (fun (_ : (Nat × Nat × Nat × Nat)) => True) (fun (u : (Nat × Nat × Nat × Nat)) => ws ++ [(a, .inr (6, [.ref u.1, .ref u.2.1, .ref u.2.2.1, .ref u.2.2.2, .int 0, .int 0, .int 0, .int 0, .int 0, .int 0, .int 0, .int 1000, .int 10, .int 0, .long 0])), (u.1, .inl (cA 6, rfA 6 (fun _ => none))), (u.2.1, .inl (cA 7, rfA 20 (fun _ => none))), (u.2.2.1, .inl (cA 8, rfA 5 (fun _ => none))), (u.2.2.2, .inl (cA 9, rfA 4 (fun _ => none)))]) 4 35 := by
  refine k_bodyZ (plainFor_of_name (by decide)) (Nat.le_of_ble_eq_true rfl) (fun p e s m args below meth c ls F hth hW hl => ?_)
  obtain ⟨hx, hb, hr, hml, hown, hts, hlocks, hname⟩ := id F
  have hl : lv_has ls 1 [(0, .ref a)] := hl
  refine lv_aload_n hx hb dX4_init_0 rfl (lv_at hl 0 rfl) ?_
  refine k_obj F rfl ML_X4_1 hl.1 (Nat.le_of_ble_eq_true rfl) ⟨(Nat.le_of_ble_eq_true rfl), (Nat.le_of_ble_eq_true rfl)⟩ dX4_init_1 ?_
  refine lv_aload_n hx hb dX4_init_4 rfl (lv_at hl 0 rfl) ?_
  refine lv_bipush (v := 6) hx hb dX4_init_5 (by decide) ?_
  refine k_newq (N' := 6) (tI := 6) F hW rfl CL_X4_9 (hth.2.2.2.2 _ (by simp)) rfl (by decide) rfl (by decide) (Nat.le_of_ble_eq_true rfl) (Nat.le_of_ble_eq_true rfl) dX4_init_7 (fun a1 H hW => ?_)
  have hW := hW.eq (show _ = ws ++ [(a, .inr (6, [.null, .null, .null, .null, .int 0, .int 0, .int 0, .int 0, .int 0, .int 0, .int 0, .int 0, .int 0, .int 0, .long 0])), (a1, .inl (cA 6, rfA 6 (fun _ => none)))] by rw [List.append_assoc]; rfl)
  refine k_putF F hW inX4 tyX4_ok nmX4 rfl rfl (ws.length + 0) (app_at ws 0 rfl) rfl 0 (by decide) FL_X4_11 rfl rfl rfl rfl rfl rfl (Nat.le_of_ble_eq_true rfl) (ws ++ [(a, .inr (6, [.ref a1, .null, .null, .null, .int 0, .int 0, .int 0, .int 0, .int 0, .int 0, .int 0, .int 0, .int 0, .int 0, .long 0])), (a1, .inl (cA 6, rfA 6 (fun _ => none)))]) (by rw [app_set]; rfl) dX4_init_10 (fun H locs hW => ?_)
  refine lv_aload_n hx hb dX4_init_13 rfl (lv_at hl 0 rfl) ?_
  refine lv_bipush (v := 20) hx hb dX4_init_14 (by decide) ?_
  refine k_newq (N' := 20) (tI := 7) F hW rfl CL_X4_15 (hth.2.2.2.2 _ (by simp)) rfl (by decide) rfl (by decide) (Nat.le_of_ble_eq_true rfl) (Nat.le_of_ble_eq_true rfl) dX4_init_16 (fun a2 H hW => ?_)
  have hW := hW.eq (show _ = ws ++ [(a, .inr (6, [.ref a1, .null, .null, .null, .int 0, .int 0, .int 0, .int 0, .int 0, .int 0, .int 0, .int 0, .int 0, .int 0, .long 0])), (a1, .inl (cA 6, rfA 6 (fun _ => none))), (a2, .inl (cA 7, rfA 20 (fun _ => none)))] by rw [List.append_assoc]; rfl)
  refine k_putF F hW inX4 tyX4_ok nmX4 rfl rfl (ws.length + 0) (app_at ws 0 rfl) rfl 1 (by decide) FL_X4_17 rfl rfl rfl rfl rfl rfl (Nat.le_of_ble_eq_true rfl) (ws ++ [(a, .inr (6, [.ref a1, .ref a2, .null, .null, .int 0, .int 0, .int 0, .int 0, .int 0, .int 0, .int 0, .int 0, .int 0, .int 0, .long 0])), (a1, .inl (cA 6, rfA 6 (fun _ => none))), (a2, .inl (cA 7, rfA 20 (fun _ => none)))]) (by rw [app_set]; rfl) dX4_init_19 (fun H locs hW => ?_)
  refine lv_aload_n hx hb dX4_init_22 rfl (lv_at hl 0 rfl) ?_
  refine lv_iconst (v := 5) hx hb dX4_init_23 (by decide) ?_
  refine k_newq (N' := 5) (tI := 8) F hW rfl CL_X4_21 (hth.2.2.2.2 _ (by simp)) rfl (by decide) rfl (by decide) (Nat.le_of_ble_eq_true rfl) (Nat.le_of_ble_eq_true rfl) dX4_init_24 (fun a3 H hW => ?_)
  have hW := hW.eq (show _ = ws ++ [(a, .inr (6, [.ref a1, .ref a2, .null, .null, .int 0, .int 0, .int 0, .int 0, .int 0, .int 0, .int 0, .int 0, .int 0, .int 0, .long 0])), (a1, .inl (cA 6, rfA 6 (fun _ => none))), (a2, .inl (cA 7, rfA 20 (fun _ => none))), (a3, .inl (cA 8, rfA 5 (fun _ => none)))] by rw [List.append_assoc]; rfl)
  refine k_putF F hW inX4 tyX4_ok nmX4 rfl rfl (ws.length + 0) (app_at ws 0 rfl) rfl 2 (by decide) FL_X4_23 rfl rfl rfl rfl rfl rfl (Nat.le_of_ble_eq_true rfl) (ws ++ [(a, .inr (6, [.ref a1, .ref a2, .ref a3, .null, .int 0, .int 0, .int 0, .int 0, .int 0, .int 0, .int 0, .int 0, .int 0, .int 0, .long 0])), (a1, .inl (cA 6, rfA 6 (fun _ => none))), (a2, .inl (cA 7, rfA 20 (fun _ => none))), (a3, .inl (cA 8, rfA 5 (fun _ => none)))]) (by rw [app_set]; rfl) dX4_init_27 (fun H locs hW => ?_)
  refine lv_aload_n hx hb dX4_init_30 rfl (lv_at hl 0 rfl) ?_
  refine lv_iconst (v := 4) hx hb dX4_init_31 (by decide) ?_
  refine k_newq (N' := 4) (tI := 9) F hW rfl CL_X4_27 (hth.2.2.2.2 _ (by simp)) rfl (by decide) rfl (by decide) (Nat.le_of_ble_eq_true rfl) (Nat.le_of_ble_eq_true rfl) dX4_init_32 (fun a4 H hW => ?_)
  have hW := hW.eq (show _ = ws ++ [(a, .inr (6, [.ref a1, .ref a2, .ref a3, .null, .int 0, .int 0, .int 0, .int 0, .int 0, .int 0, .int 0, .int 0, .int 0, .int 0, .long 0])), (a1, .inl (cA 6, rfA 6 (fun _ => none))), (a2, .inl (cA 7, rfA 20 (fun _ => none))), (a3, .inl (cA 8, rfA 5 (fun _ => none))), (a4, .inl (cA 9, rfA 4 (fun _ => none)))] by rw [List.append_assoc]; rfl)
  refine k_putF F hW inX4 tyX4_ok nmX4 rfl rfl (ws.length + 0) (app_at ws 0 rfl) rfl 3 (by decide) FL_X4_29 rfl rfl rfl rfl rfl rfl (Nat.le_of_ble_eq_true rfl) (ws ++ [(a, .inr (6, [.ref a1, .ref a2, .ref a3, .ref a4, .int 0, .int 0, .int 0, .int 0, .int 0, .int 0, .int 0, .int 0, .int 0, .int 0, .long 0])), (a1, .inl (cA 6, rfA 6 (fun _ => none))), (a2, .inl (cA 7, rfA 20 (fun _ => none))), (a3, .inl (cA 8, rfA 5 (fun _ => none))), (a4, .inl (cA 9, rfA 4 (fun _ => none)))]) (by rw [app_set]; rfl) dX4_init_35 (fun H locs hW => ?_)
  refine lv_aload_n hx hb dX4_init_38 rfl (lv_at hl 0 rfl) ?_
  refine lv_iconst (v := 0) hx hb dX4_init_39 (by decide) ?_
  refine k_put F hW inX4 tyX4_ok nmX4 rfl (ws.length + 0) (app_at ws 0 rfl) rfl 4 (by decide) FL_X4_33 rfl rfl rfl rfl rfl (Nat.le_of_ble_eq_true rfl) (ws ++ [(a, .inr (6, [.ref a1, .ref a2, .ref a3, .ref a4, .int 0, .int 0, .int 0, .int 0, .int 0, .int 0, .int 0, .int 0, .int 0, .int 0, .long 0])), (a1, .inl (cA 6, rfA 6 (fun _ => none))), (a2, .inl (cA 7, rfA 20 (fun _ => none))), (a3, .inl (cA 8, rfA 5 (fun _ => none))), (a4, .inl (cA 9, rfA 4 (fun _ => none)))]) (by rw [app_set]; rfl) dX4_init_40 (fun H locs hW => ?_)
  refine lv_aload_n hx hb dX4_init_43 rfl (lv_at hl 0 rfl) ?_
  refine lv_iconst (v := 0) hx hb dX4_init_44 (by decide) ?_
  refine k_put F hW inX4 tyX4_ok nmX4 rfl (ws.length + 0) (app_at ws 0 rfl) rfl 5 (by decide) FL_X4_37 rfl rfl rfl rfl rfl (Nat.le_of_ble_eq_true rfl) (ws ++ [(a, .inr (6, [.ref a1, .ref a2, .ref a3, .ref a4, .int 0, .int 0, .int 0, .int 0, .int 0, .int 0, .int 0, .int 0, .int 0, .int 0, .long 0])), (a1, .inl (cA 6, rfA 6 (fun _ => none))), (a2, .inl (cA 7, rfA 20 (fun _ => none))), (a3, .inl (cA 8, rfA 5 (fun _ => none))), (a4, .inl (cA 9, rfA 4 (fun _ => none)))]) (by rw [app_set]; rfl) dX4_init_45 (fun H locs hW => ?_)
  refine lv_aload_n hx hb dX4_init_48 rfl (lv_at hl 0 rfl) ?_
  refine lv_iconst (v := 0) hx hb dX4_init_49 (by decide) ?_
  refine k_put F hW inX4 tyX4_ok nmX4 rfl (ws.length + 0) (app_at ws 0 rfl) rfl 6 (by decide) FL_X4_40 rfl rfl rfl rfl rfl (Nat.le_of_ble_eq_true rfl) (ws ++ [(a, .inr (6, [.ref a1, .ref a2, .ref a3, .ref a4, .int 0, .int 0, .int 0, .int 0, .int 0, .int 0, .int 0, .int 0, .int 0, .int 0, .long 0])), (a1, .inl (cA 6, rfA 6 (fun _ => none))), (a2, .inl (cA 7, rfA 20 (fun _ => none))), (a3, .inl (cA 8, rfA 5 (fun _ => none))), (a4, .inl (cA 9, rfA 4 (fun _ => none)))]) (by rw [app_set]; rfl) dX4_init_50 (fun H locs hW => ?_)
  refine lv_aload_n hx hb dX4_init_53 rfl (lv_at hl 0 rfl) ?_
  refine lv_iconst (v := 0) hx hb dX4_init_54 (by decide) ?_
  refine k_put F hW inX4 tyX4_ok nmX4 rfl (ws.length + 0) (app_at ws 0 rfl) rfl 7 (by decide) FL_X4_43 rfl rfl rfl rfl rfl (Nat.le_of_ble_eq_true rfl) (ws ++ [(a, .inr (6, [.ref a1, .ref a2, .ref a3, .ref a4, .int 0, .int 0, .int 0, .int 0, .int 0, .int 0, .int 0, .int 0, .int 0, .int 0, .long 0])), (a1, .inl (cA 6, rfA 6 (fun _ => none))), (a2, .inl (cA 7, rfA 20 (fun _ => none))), (a3, .inl (cA 8, rfA 5 (fun _ => none))), (a4, .inl (cA 9, rfA 4 (fun _ => none)))]) (by rw [app_set]; rfl) dX4_init_55 (fun H locs hW => ?_)
  refine lv_aload_n hx hb dX4_init_58 rfl (lv_at hl 0 rfl) ?_
  refine lv_iconst (v := 0) hx hb dX4_init_59 (by decide) ?_
  refine k_put F hW inX4 tyX4_ok nmX4 rfl (ws.length + 0) (app_at ws 0 rfl) rfl 8 (by decide) FL_X4_46 rfl rfl rfl rfl rfl (Nat.le_of_ble_eq_true rfl) (ws ++ [(a, .inr (6, [.ref a1, .ref a2, .ref a3, .ref a4, .int 0, .int 0, .int 0, .int 0, .int 0, .int 0, .int 0, .int 0, .int 0, .int 0, .long 0])), (a1, .inl (cA 6, rfA 6 (fun _ => none))), (a2, .inl (cA 7, rfA 20 (fun _ => none))), (a3, .inl (cA 8, rfA 5 (fun _ => none))), (a4, .inl (cA 9, rfA 4 (fun _ => none)))]) (by rw [app_set]; rfl) dX4_init_60 (fun H locs hW => ?_)
  refine lv_aload_n hx hb dX4_init_63 rfl (lv_at hl 0 rfl) ?_
  refine lv_iconst (v := 0) hx hb dX4_init_64 (by decide) ?_
  refine k_put F hW inX4 tyX4_ok nmX4 rfl (ws.length + 0) (app_at ws 0 rfl) rfl 9 (by decide) FL_X4_49 rfl rfl rfl rfl rfl (Nat.le_of_ble_eq_true rfl) (ws ++ [(a, .inr (6, [.ref a1, .ref a2, .ref a3, .ref a4, .int 0, .int 0, .int 0, .int 0, .int 0, .int 0, .int 0, .int 0, .int 0, .int 0, .long 0])), (a1, .inl (cA 6, rfA 6 (fun _ => none))), (a2, .inl (cA 7, rfA 20 (fun _ => none))), (a3, .inl (cA 8, rfA 5 (fun _ => none))), (a4, .inl (cA 9, rfA 4 (fun _ => none)))]) (by rw [app_set]; rfl) dX4_init_65 (fun H locs hW => ?_)
  refine lv_aload_n hx hb dX4_init_68 rfl (lv_at hl 0 rfl) ?_
  refine lv_iconst (v := 0) hx hb dX4_init_69 (by decide) ?_
  refine k_put F hW inX4 tyX4_ok nmX4 rfl (ws.length + 0) (app_at ws 0 rfl) rfl 10 (by decide) FL_X4_52 rfl rfl rfl rfl rfl (Nat.le_of_ble_eq_true rfl) (ws ++ [(a, .inr (6, [.ref a1, .ref a2, .ref a3, .ref a4, .int 0, .int 0, .int 0, .int 0, .int 0, .int 0, .int 0, .int 0, .int 0, .int 0, .long 0])), (a1, .inl (cA 6, rfA 6 (fun _ => none))), (a2, .inl (cA 7, rfA 20 (fun _ => none))), (a3, .inl (cA 8, rfA 5 (fun _ => none))), (a4, .inl (cA 9, rfA 4 (fun _ => none)))]) (by rw [app_set]; rfl) dX4_init_70 (fun H locs hW => ?_)
  refine lv_aload_n hx hb dX4_init_73 rfl (lv_at hl 0 rfl) ?_
  refine lv_sipush (v := 1000) hx hb dX4_init_74 (by decide) ?_
  refine k_put F hW inX4 tyX4_ok nmX4 rfl (ws.length + 0) (app_at ws 0 rfl) rfl 11 (by decide) FL_X4_55 rfl rfl rfl rfl rfl (Nat.le_of_ble_eq_true rfl) (ws ++ [(a, .inr (6, [.ref a1, .ref a2, .ref a3, .ref a4, .int 0, .int 0, .int 0, .int 0, .int 0, .int 0, .int 0, .int 1000, .int 0, .int 0, .long 0])), (a1, .inl (cA 6, rfA 6 (fun _ => none))), (a2, .inl (cA 7, rfA 20 (fun _ => none))), (a3, .inl (cA 8, rfA 5 (fun _ => none))), (a4, .inl (cA 9, rfA 4 (fun _ => none)))]) (by rw [app_set]; rfl) dX4_init_77 (fun H locs hW => ?_)
  refine lv_aload_n hx hb dX4_init_80 rfl (lv_at hl 0 rfl) ?_
  refine lv_bipush (v := 10) hx hb dX4_init_81 (by decide) ?_
  refine k_put F hW inX4 tyX4_ok nmX4 rfl (ws.length + 0) (app_at ws 0 rfl) rfl 12 (by decide) FL_X4_58 rfl rfl rfl rfl rfl (Nat.le_of_ble_eq_true rfl) (ws ++ [(a, .inr (6, [.ref a1, .ref a2, .ref a3, .ref a4, .int 0, .int 0, .int 0, .int 0, .int 0, .int 0, .int 0, .int 1000, .int 10, .int 0, .long 0])), (a1, .inl (cA 6, rfA 6 (fun _ => none))), (a2, .inl (cA 7, rfA 20 (fun _ => none))), (a3, .inl (cA 8, rfA 5 (fun _ => none))), (a4, .inl (cA 9, rfA 4 (fun _ => none)))]) (by rw [app_set]; rfl) dX4_init_83 (fun H locs hW => ?_)
  refine lv_aload_n hx hb dX4_init_86 rfl (lv_at hl 0 rfl) ?_
  refine lv_iconst (v := 0) hx hb dX4_init_87 (by decide) ?_
  refine k_put F hW inX4 tyX4_ok nmX4 rfl (ws.length + 0) (app_at ws 0 rfl) rfl 13 (by decide) FL_X4_61 rfl rfl rfl rfl rfl (Nat.le_of_ble_eq_true rfl) (ws ++ [(a, .inr (6, [.ref a1, .ref a2, .ref a3, .ref a4, .int 0, .int 0, .int 0, .int 0, .int 0, .int 0, .int 0, .int 1000, .int 10, .int 0, .long 0])), (a1, .inl (cA 6, rfA 6 (fun _ => none))), (a2, .inl (cA 7, rfA 20 (fun _ => none))), (a3, .inl (cA 8, rfA 5 (fun _ => none))), (a4, .inl (cA 9, rfA 4 (fun _ => none)))]) (by rw [app_set]; rfl) dX4_init_88 (fun H locs hW => ?_)
  refine lv_aload_n hx hb dX4_init_91 rfl (lv_at hl 0 rfl) ?_
  refine lv_lconst (v := 0) hx hb dX4_init_92 (by decide) ?_
  refine k_put F hW inX4 tyX4_ok nmX4 rfl (ws.length + 0) (app_at ws 0 rfl) rfl 14 (by decide) FL_X4_64 rfl rfl rfl rfl rfl (Nat.le_of_ble_eq_true rfl) (ws ++ [(a, .inr (6, [.ref a1, .ref a2, .ref a3, .ref a4, .int 0, .int 0, .int 0, .int 0, .int 0, .int 0, .int 0, .int 1000, .int 10, .int 0, .long 0])), (a1, .inl (cA 6, rfA 6 (fun _ => none))), (a2, .inl (cA 7, rfA 20 (fun _ => none))), (a3, .inl (cA 8, rfA 5 (fun _ => none))), (a4, .inl (cA 9, rfA 4 (fun _ => none)))]) (by rw [app_set]; rfl) dX4_init_93 (fun H locs hW => ?_)
  exact k_vret (a1, a2, a3, a4) F hW trivial dX4_init_96 (Nat.le_of_ble_eq_true rfl) (Nat.le_of_ble_eq_true rfl)
