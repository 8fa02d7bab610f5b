/-! The law, from its entry -/
set_option maxHeartbeats 4000000 in
set_option maxRecDepth 100000 in
theorem whole_start {p : Program} {e : Env} {s : State} {m : MethodId} {below : List Frame} {meth : Method} {c : Code} (l : Launch) (hflags : l.flags = flags0) {b L : Nat} {xs : Nat → Int32} (hL : L ≤ 3072) (C0 : lw_At p s m meth c b L xs) : W p l e room_1 s m #[Value.ref b] below meth c s.heap [] 0 0 (lw_Z below #[Value.ref b] s) (entryFrame m ([Value.ref b] : List Value).toArray 9) := by
  have hF := law_F C0
  obtain ⟨hx, hb, hr, hml, hown, hts0, hX, hbl, hlocks, hgv⟩ := id C0
  have hl0 : l.stackTraces = false := by
    unfold Launch.stackTraces
    rw [hflags]
    decide +kernel
  have hTH := law_TH C0
  have hNC := law_NC C0
  obtain ⟨D, cA, hK⟩ := law_K C0
  have hW : Cw D cA s (fun q => s.heap.size ≤ q) [] s.heap [] := ⟨hK, fun k q h => by simp at h, ⟨fun i j p q h => by simp at h, fun k q h => by simp at h⟩, va_S.rf, fun _ h => h⟩
  have hl := lv_entry ([.ref b]) (n := 9) (Nat.le_of_ble_eq_true rfl)
  rw [lg_entry_eq]
  generalize (lg_sl ([.ref b]) ++ List.replicate (9 - (lg_sl ([.ref b])).length) Slot.unset).toArray = ls at hl ⊢
  have hl : lv_has ls 9 [(0, .ref b)] := hl
  refine k_new (fs := [.null, .null, .null, .null, .int 0, .int 0, .int 0, .int 0, .int 0, .int 0, .int 0, .int 0, .int 0, .int 0, .long 0]) (ci := 6) hF hW inX4 tyX4_ok rfl CL_L_8 NE_X4 IN_X4 rfl (by intro j hj; have hc : j = 0 ∨ j = 1 ∨ j = 2 ∨ j = 3 ∨ j = 4 ∨ j = 5 ∨ j = 6 ∨ j = 7 ∨ j = 8 ∨ j = 9 ∨ j = 10 ∨ j = 11 ∨ j = 12 ∨ j = 13 ∨ j = 14 := (by omega); rcases hc with rfl | rfl | rfl | rfl | rfl | rfl | rfl | rfl | rfl | rfl | rfl | rfl | rfl | rfl | rfl <;> rfl) (Nat.le_of_ble_eq_true rfl) (Nat.le_of_ble_eq_true rfl) dL_law_0 (fun qx H hW => ?_)
  refine lv_dup hx hb dL_law_3 rfl ?_
  refine k_callZL (as := []) (rest := [.ref qx]) (b := qx) hF hTH (fun _ h => h) (Nat.le_refl _) hW (met_X4_init l D cA [] qx s.heap.size) rfl rfl ML_L_120 IM_X4_init IN_X4 CO_X4_init hdS_X4_init rfl rfl ⟨(Nat.le_of_ble_eq_true rfl), (Nat.le_of_ble_eq_true rfl)⟩ rfl rfl hl.1 (Nat.le_of_ble_eq_true rfl) dL_law_4 ⟨(Nat.le_of_ble_eq_true rfl), (Nat.le_of_ble_eq_true rfl)⟩ (fun u H locs _ hW => ?_)
  have hW : Cw D cA s (fun q => s.heap.size ≤ q) [(qx, .inr (6, [.ref u.1, .ref u.2.1, .ref u.2.2.1, .ref u.2.2.2, .int 0, .int 0, .int 0, .int 0, .int 0, .int 0, .int 0, .int 1000, .int 10, .int 0, .long 0])), (u.1, .inl (cA 6, rfA 6 (fun _ => none))), (u.2.1, .inl (cA 7, rfA 20 (fun _ => none))), (u.2.2.1, .inl (cA 8, rfA 5 (fun _ => none))), (u.2.2.2, .inl (cA 9, rfA 4 (fun _ => none)))] H locs := hW
  refine lv_astore_n (lv' := [(1, .ref qx), (0, .ref b)]) hx hb dL_law_7 rfl hl (by decide) rfl (fun ls hl => ?_)
  refine k_new (fs := [.int 0, .int 0, .null, .null, .int 0, .int 0, .int 0, .null, .null, .null, .null, .null, .null, .null, .null, .null, .int 0, .int 0, .null, .null, .int 0, .int 0, .int 0, .int 0, .null, .null, .null, .null, .null, .long 0]) (ci := 7) hF hW inX5 tyX5_ok rfl CL_L_121 NE_X5 IN_X5 rfl (by intro j hj; have hc : j = 0 ∨ j = 1 ∨ j = 2 ∨ j = 3 ∨ j = 4 ∨ j = 5 ∨ j = 6 ∨ j = 7 ∨ j = 8 ∨ j = 9 ∨ j = 10 ∨ j = 11 ∨ j = 12 ∨ j = 13 ∨ j = 14 ∨ j = 15 ∨ j = 16 ∨ j = 17 ∨ j = 18 ∨ j = 19 ∨ j = 20 ∨ j = 21 ∨ j = 22 ∨ j = 23 ∨ j = 24 ∨ j = 25 ∨ j = 26 ∨ j = 27 ∨ j = 28 ∨ j = 29 := (by omega); rcases hc with rfl | rfl | rfl | rfl | rfl | rfl | rfl | rfl | rfl | rfl | rfl | rfl | rfl | rfl | rfl | rfl | rfl | rfl | rfl | rfl | rfl | rfl | rfl | rfl | rfl | rfl | rfl | rfl | rfl | rfl <;> rfl) (Nat.le_of_ble_eq_true rfl) (Nat.le_of_ble_eq_true rfl) dL_law_8 (fun qm H hW => ?_)
  refine lv_dup hx hb dL_law_11 rfl ?_
  refine k_callI (as := []) (rest := [.ref qm]) (b := qm) hF hW (met_X5_init l D cA [(qx, .inr (6, [.ref u.1, .ref u.2.1, .ref u.2.2.1, .ref u.2.2.2, .int 0, .int 0, .int 0, .int 0, .int 0, .int 0, .int 0, .int 1000, .int 10, .int 0, .long 0])), (u.1, .inl (cA 6, rfA 6 (fun _ => none))), (u.2.1, .inl (cA 7, rfA 20 (fun _ => none))), (u.2.2.1, .inl (cA 8, rfA 5 (fun _ => none))), (u.2.2.2, .inl (cA 9, rfA 4 (fun _ => none)))] qm) rfl rfl ML_L_123 IM_X5_init IN_X5 CO_X5_init hdS_X5_init rfl rfl ⟨(Nat.le_of_ble_eq_true rfl), (Nat.le_of_ble_eq_true rfl)⟩ rfl rfl hl.1 (Nat.le_of_ble_eq_true rfl) dL_law_12 ⟨(Nat.le_of_ble_eq_true rfl), (Nat.le_of_ble_eq_true rfl)⟩ (fun v H locs hv hV => ?_)
  clear hW
  obtain rfl : v 0 = qm := hv
  have hW := hV
  refine lv_astore_n (lv' := [(2, .ref (v 0)), (1, .ref qx), (0, .ref b)]) hx hb dL_law_15 rfl hl (by decide) rfl (fun ls hl => ?_)
  refine lv_iconst (v := 1) hx hb dL_law_16 (by decide) ?_
  refine k_new_long (N' := 1) hF hW (by decide) (by decide) (Nat.le_of_ble_eq_true rfl) (Nat.le_of_ble_eq_true rfl) (Nat.le_of_ble_eq_true rfl) dL_law_17 (fun o H hW => ?_)
  refine lv_astore_n (lv' := [(3, .ref o), (2, .ref (v 0)), (1, .ref qx), (0, .ref b)]) hx hb dL_law_19 rfl hl (by decide) rfl (fun ls hl => ?_)
  refine lv_iconst (v := 1) hx hb dL_law_20 (by decide) ?_
  refine k_new_double (N' := 1) hF hW (by decide) (by decide) (Nat.le_of_ble_eq_true rfl) (Nat.le_of_ble_eq_true rfl) (Nat.le_of_ble_eq_true rfl) dL_law_21 (fun oD H hW => ?_)
  refine lv_astore (lv' := [(4, .ref oD), (3, .ref o), (2, .ref (v 0)), (1, .ref qx), (0, .ref b)]) hx hb dL_law_23 hl (by decide) rfl (fun ls hl => ?_)
  refine lv_iconst (v := 0) hx hb dL_law_25 (by decide) ?_
  refine lv_istore (lv' := [(5, .int 0), (4, .ref oD), (3, .ref o), (2, .ref (v 0)), (1, .ref qx), (0, .ref b)]) hx hb dL_law_26 hl (by decide) rfl (fun ls hl => ?_)
  have hW2 : Cw D cA s (fun q => s.heap.size ≤ q) (mWd cA v (o, .inl (cA 4, 1, .inr (.inl (fun _ => 0)))) (oD, .inl (cA 5, 1, .inr (.inr (.inr (.inl (fun _ => 0)))))) (L5.map (xf cA (al5 qx u.1 u.2.1 u.2.2.1 u.2.2.2) S00)) 0 S00) H locs := by
    rw [x5]
    exact hW.perm [24, 25, 5, 6, 7, 8, 9, 10, 11, 12, 13, 14, 15, 16, 17, 18, 19, 20, 21, 22, 23, 0, 1, 2, 3, 4] (by decide) rfl rfl
  have hl : lv_has ls 9 [(0, .ref b), (1, .ref qx), (2, .ref (v 0)), (3, .ref o), (4, .ref oD), (5, .int (nI 0))] := lv_sub hl [5, 4, 3, 2, 1, 0] rfl
  exact law_loop C0 hTH hNC hl0 (x0 := qx) hL 513 0 0 (α := al5 qx u.1 u.2.1 u.2.2.1 u.2.2.2) (L := L5) (N := fun _ _ => 0) (R := R00) (Fr := fun _ => 0) (inc := 0) (Nat.zero_le _) (by omega) (by omega) iv_start lok_0 rfl (by omega) (by omega) hW2 hl
