theorem lg_self (x : Int64) : lg_cmp x x = 0 := by simp [lg_cmp]
set_option maxHeartbeats 4000000 in
set_option maxRecDepth 100000 in
theorem met_X4_isSound (l : Launch) (D : va_G) (cA : Nat → ClassId) (wr : va_W) (α : Nat → Nat → Nat) (L : List (Nat × Nat)) (N : Nat → Nat → Nat) (R : Nat → Nat → Nat → Int32) (Fr : Nat → UInt32) (inc : Int64) (hLk : LOK N L) (hC : IC N) (hL : ∀ i, i < N 0 1 → lotOK R Fr i) (hck : ckOK R) (hpf : ∀ j, j < N 0 1 → pfb R Fr j (N 0 2) = falls N R Fr j) (hQ : ∀ b, b < N 0 0 → ∀ q, q < 4 → R 1 b q + wsum R (byB R b (nI q)) (N 0 1) = R 3 b q) (hin : inc = psum R (N 0 1)) : MetI l yX4_isSound (.code yX4_isSound cX4_isSound 1 (some .boolean) :: LW) ({ frames := 4, cells := 0, slots := 0, locals := 99 }) D cA (xWd wr cA α L (N, R, Fr, inc)) [.ref (α 0 0)] (fun r (_ : Unit) => r = 1) (fun _ => xWd wr cA α L (N, R, Fr, inc)) 0 0 := by
  refine k_bodyI (plainFor_of_name (by decide)) (Nat.le_of_ble_eq_true rfl) (fun p e s m args below meth c ls F hW hl => ?_)
  obtain ⟨hx, hb, hr, hml, hown, hts, hlocks, hname⟩ := id F
  have hl : lv_has ls 1 [(0, .ref (α 0 0))] := hl
  refine lv_aload_n hx hb dX4_isSound_0 rfl (lv_at hl 0 rfl) ?_
  obtain ⟨q_688, hq_688⟩ := xw_at (wr := wr) (cA := cA) (α := α) (L := L) (S := (N, R, Fr, inc)) 0 0 (hLk.o 0 (by decide))
  refine k_get (v := .long inc) F hW inX4 rfl q_688 hq_688 rfl 14 (by decide) FL_X4_64 rfl rfl dX4_isSound_1 ?_
  refine lv_aload_n hx hb dX4_isSound_4 rfl (lv_at hl 0 rfl) ?_
  obtain ⟨q_689, hq_689⟩ := xw_at (wr := wr) (cA := cA) (α := α) (L := L) (S := (N, R, Fr, inc)) 0 0 (hLk.o 0 (by decide))
  refine k_callVl (as := []) (rest := [.long inc]) (b := (α 0 0)) (ci := 6) (q0 := q_689) F hW (met_X4_incomeByLots l D cA wr α L N R Fr inc hLk hC) rfl ML_X4_301 IM_X4_incomeByLots SE_X4_incomeByLots IN_X4 CO_X4_incomeByLots hdV_X4_incomeByLots rfl rfl ⟨(Nat.le_of_ble_eq_true rfl), (Nat.le_of_ble_eq_true rfl)⟩ rfl rfl (hq_689) rfl rfl hl.1 (Nat.le_of_ble_eq_true rfl) dX4_isSound_5 ⟨(Nat.le_of_ble_eq_true rfl), (Nat.le_of_ble_eq_true rfl)⟩ (fun r_690 u H locs hw hW => ?_)
  rw [← hin] at hw
  rw [hw]
  refine W.lcmp hx hb dX4_isSound_8 ?_
  refine lv_topi (fun x_691 ex_691 => ?_)
  obtain rfl : x_691 = 0 := ex_691.trans (lg_self inc)
  refine lv_if_ne (tgt := 30) hx hb dX4_isSound_9 (by decide) (fun h => absurd (by decide) h) (fun _ => ?_)
  refine lv_aload_n hx hb dX4_isSound_12 rfl (lv_at hl 0 rfl) ?_
  obtain ⟨q_692, hq_692⟩ := xw_at (wr := wr) (cA := cA) (α := α) (L := L) (S := (N, R, Fr, inc)) 0 0 (hLk.o 0 (by decide))
  refine k_callVi (as := []) (rest := []) (b := (α 0 0)) (ci := 6) (q0 := q_692) F hW (met_X4_arePricesSound l D cA wr α L N R Fr inc hLk hC hL hck hpf) rfl ML_X4_305 IM_X4_arePricesSound SE_X4_arePricesSound IN_X4 CO_X4_arePricesSound hdV_X4_arePricesSound rfl rfl ⟨(Nat.le_of_ble_eq_true rfl), (Nat.le_of_ble_eq_true rfl)⟩ rfl rfl (hq_692) rfl rfl hl.1 (Nat.le_of_ble_eq_true rfl) dX4_isSound_13 ⟨(Nat.le_of_ble_eq_true rfl), (Nat.le_of_ble_eq_true rfl)⟩ (fun r_693 u H locs hw hW => ?_)
  subst hw
  refine lv_if_eq (tgt := 30) hx hb dX4_isSound_16 (by decide) (fun h => absurd h (by decide)) (fun _ => ?_)
  refine lv_aload_n hx hb dX4_isSound_19 rfl (lv_at hl 0 rfl) ?_
  obtain ⟨q_694, hq_694⟩ := xw_at (wr := wr) (cA := cA) (α := α) (L := L) (S := (N, R, Fr, inc)) 0 0 (hLk.o 0 (by decide))
  refine k_callVi (as := []) (rest := []) (b := (α 0 0)) (ci := 6) (q0 := q_694) F hW (met_X4_areQuotasSound l D cA wr α L N R Fr inc hLk hC hQ) rfl ML_X4_308 IM_X4_areQuotasSound SE_X4_areQuotasSound IN_X4 CO_X4_areQuotasSound hdV_X4_areQuotasSound rfl rfl ⟨(Nat.le_of_ble_eq_true rfl), (Nat.le_of_ble_eq_true rfl)⟩ rfl rfl (hq_694) rfl rfl hl.1 (Nat.le_of_ble_eq_true rfl) dX4_isSound_20 ⟨(Nat.le_of_ble_eq_true rfl), (Nat.le_of_ble_eq_true rfl)⟩ (fun r_695 u H locs hw hW => ?_)
  subst hw
  refine lv_if_eq (tgt := 30) hx hb dX4_isSound_23 (by decide) (fun h => absurd h (by decide)) (fun _ => ?_)
  refine lv_iconst (v := 1) hx hb dX4_isSound_26 (by decide) ?_
  refine lv_goto (tgt := 31) hx hb dX4_isSound_27 (by decide) ?_
  exact k_zret () F (by rfl) (hW) (rfl) dX4_isSound_31 (Nat.le_of_ble_eq_true rfl) (Nat.le_of_ble_eq_true rfl)
