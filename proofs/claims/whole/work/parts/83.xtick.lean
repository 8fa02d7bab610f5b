section XLW
variable {p : Program} {l : Launch} {e : Env} {R : Room} {s : State} {m : MethodId} {args : Array Value} {below : List Frame} {meth : Method} {c : Code} {H : Heap} {locs : List Loc} {cells slots : Nat} {Q : State → Prop} {cc : ByteArray} {pc : Nat} {ls : Array Slot} {rest : List Value}
theorem x_ldcfw (hexec : p.tables.exec = Jvm.exec) (hb : c.code = cc) {own : String} {index : Nat} {v : UInt32} (hown : s.vm.findClass own = some m.cls) (hconst : (Jvm.Cond.constantFloat own index v).before args s = true) (hdg : decode cc pc = .ok (.ldc_w index, 3))
    (k : W p l e R s m args below meth c H locs cells slots Q (F0 m (pc + 3) ls (.float v :: rest))) : W p l e R s m args below meth c H locs cells slots Q (F0 m pc ls rest) := by
  intro T hT X
  obtain ⟨t, a, b⟩ := k T hT X
  obtain ⟨k0, cf, hk, hcf, hcp⟩ := Cond.constantFloat_spec hown hconst
  obtain ⟨k', hk', he⟩ := X.warmed.alike.2.2 _ _ hk
  refine ⟨t, ?_, b⟩
  have hd : decode c.code (F0 m pc ls rest).pc = .ok (.ldc_w index, 3) := by rw [hb]; exact hdg
  have hg : (F0 m pc ls rest).method = m := rfl
  jvm_step X.here [hexec, hd, ldc_w.wp_float (s := T) (f := F0 m pc ls rest) X.here.top hk' (by rw [he]; exact hcf) hcp]
  exact a
end XLW
theorem up3_id {R : Nat → Nat → Nat → Int32} {k i j : Nat} {v : Int32} (h : R k i j = v) : up3 R k i j v = R := by
  funext a b c
  simp only [up3]
  by_cases h1 : a = k ∧ b = i ∧ c = j
  · rw [if_pos h1, h1.1, h1.2.1, h1.2.2]; exact h.symm
  · rw [if_neg h1]
theorem atPier_or {R : Nat → Nat → Nat → Int32} {j : Nat} (h : atPier R j = true) : R 9 j 0 = 102 ∨ R 9 j 0 = 115 ∨ R 9 j 0 = 108 := by
  simp only [atPier, Bool.or_eq_true, decide_eq_true_eq] at h
  rcases h with (h | h) | h
  · exact Or.inl h
  · exact Or.inr (Or.inl h)
  · exact Or.inr (Or.inr h)
theorem ageR_off {R : Nat → Nat → Nat → Int32} {Fr : Nat → UInt32} {j : Nat} (h : atPier R j = false) : ageR R Fr j = (R, Fr) := by
  unfold ageR
  rw [if_pos]
  intro q
  simp only [atPier, Bool.or_eq_false_iff, decide_eq_false_iff_not] at h
  rcases q with q | q | q
  · exact h.1.1 q
  · exact h.1.2 q
  · exact h.2 q
/-- money back for a lot that was delivered -/
def gmb (R : Nat → Nat → Nat → Int32) (Fr : Nat → UInt32) (inc : Int64) (j : Nat) : (Nat → Nat → Nat → Int32) × Int64 :=
  if FP.fcmp (Fr j) 1116471296 = some .lt then (up3 (up3 R 13 (ix (R 11 j 0)) 0 (R 13 (ix (R 11 j 0)) 0 + backV (R 12 j 0) (Fr j))) 12 j 0 (R 12 j 0 - backV (R 12 j 0) (Fr j)), inc - (backV (R 12 j 0) (Fr j)).toInt64) else (R, inc)
theorem gmb_del (R : Nat → Nat → Nat → Int32) (Fr : Nat → UInt32) (inc : Int64) (j : Nat) : gmb (up3 R 9 j 0 100) Fr inc j = delR Fr j (R, inc) := by
  simp only [gmb, delR]
  split
  · rw [up3_row (k := 13) (k' := 12) (by decide)]
    rfl
  · rfl
theorem cmpl_lt {o : Option Ordering} (h : o = some .lt) : Op.cmpValue o .l < 0 := by subst h; decide
theorem cmpl_ge {o : Option Ordering} (h : ¬ o = some .lt) (hn : o ≠ none) : ¬ Op.cmpValue o .l < 0 := by
  cases o with
  | none => exact absurd rfl hn
  | some o => cases o with
    | lt => exact absurd rfl h
    | eq => decide
    | gt => decide
theorem fo_cmp {x : UInt32} (h : fo x) : FP.fcmp x 1116471296 ≠ none := by
  intro q
  rcases (FP.Core.fcmp_none _ _).mp q with q | q
  · exact (fo_fin h).ne_nan q
  · rw [v70] at q; cases q
set_option maxHeartbeats 4000000 in
set_option maxRecDepth 100000 in
theorem met_X2_age (l : Launch) (D : va_G) (cA : Nat → ClassId) (wr : va_W) (α : Nat → Nat → Nat) (L : List (Nat × Nat)) (N : Nat → Nat → Nat) (R : Nat → Nat → Nat → Int32) (Fr : Nat → UInt32) (inc : Int64) (j : Nat) (hLk : LOK N L) (hj : j < N 2 1) (hfo : fo (Fr j)) (hap : atPier R j = true) : MetV l yX2_age (.code yX2_age cX2_age 2 none :: LW) ({ frames := 1, cells := 0, slots := 0, locals := 20 }) D cA (xWd wr cA α L (N, R, Fr, inc)) [.ref (α 9 j)] (fun (_ : Unit) => True) (fun _ => xWd wr cA α L (N, (ageR R Fr j).1, (ageR R Fr j).2, inc)) 0 0 := by
  refine k_bodyV (plainFor_of_name (by decide)) (Nat.le_of_ble_eq_true rfl) (fun p e s m args below meth c ls F hW hl => ?_)
  obtain ⟨hx, hb, hr, hml, hown, hts, hlocks, hname⟩ := id F
  have hl : lv_has ls 2 [(0, .ref (α 9 j))] := hl
  have hp := atPier_or hap
  refine lv_aload_n hx hb dX2_age_0 rfl (lv_at hl 0 rfl) ?_
  obtain ⟨q_502, hq_502⟩ := xw_at (wr := wr) (cA := cA) (α := α) (L := L) (S := (N, R, Fr, inc)) 9 j (hLk.l j hj)
  refine k_callVi (as := []) (rest := []) (b := (α 9 j)) (ci := 4) (q0 := q_502) F hW (met_X2_iceForOneTick l D cA wr α L N R Fr inc j hLk hj) rfl ML_X2_50 IM_X2_iceForOneTick SE_X2_iceForOneTick IN_X2 CO_X2_iceForOneTick hdV_X2_iceForOneTick rfl rfl ⟨(Nat.le_of_ble_eq_true rfl), (Nat.le_of_ble_eq_true rfl)⟩ rfl rfl (hq_502) rfl rfl hl.1 (Nat.le_of_ble_eq_true rfl) dX2_age_1 ⟨(Nat.le_of_ble_eq_true rfl), (Nat.le_of_ble_eq_true rfl)⟩ (fun r_503 u H locs hw hW => ?_)
  subst hw
  refine lv_istore_n (lv' := [(1, .int (iceFor (R 7 j 0))), (0, .ref (α 9 j))]) hx hb dX2_age_4 rfl hl (by decide) rfl (fun ls hl => ?_)
  refine lv_aload_n hx hb dX2_age_5 rfl (lv_at hl 1 rfl) ?_
  obtain ⟨q_504, hq_504⟩ := xw_at (wr := wr) (cA := cA) (α := α) (L := L) (S := (N, R, Fr, inc)) 9 j (hLk.l j hj)
  refine k_get (v := .int (R 10 j 0)) F hW inX2 rfl q_504 hq_504 rfl 8 (by decide) FL_X2_20 rfl rfl dX2_age_6 ?_
  refine lv_iload_n hx hb dX2_age_9 rfl (lv_at hl 0 rfl) ?_
  refine lv_icmp_lt (tgt := 37) hx hb dX2_age_10 (by decide) (fun h_i => ?_) (fun h_i => ?_)
  · have h_i := Int32.not_le.mpr h_i
    refine lv_aload_n hx hb dX2_age_37 rfl (lv_at hl 1 rfl) ?_
    refine lv_aload_n hx hb dX2_age_38 rfl (lv_at hl 1 rfl) ?_
    obtain ⟨q_505, hq_505⟩ := xw_at (wr := wr) (cA := cA) (α := α) (L := L) (S := (N, R, Fr, inc)) 9 j (hLk.l j hj)
    refine k_get (v := .float (Fr j)) F hW inX2 rfl q_505 hq_505 rfl 7 (by decide) FL_X2_16 rfl rfl dX2_age_39 ?_
    refine lv_ldcf (v := 1065017672) hx hb hown (hts _ CK_X2_55) dX2_age_42 ?_
    refine lv_fmul hx hb dX2_age_44 (fo_nn (fo_bare hfo)) ?_
    obtain ⟨q_506, hq_506, gq_506⟩ := xput (wr := wr) (L := L) (S := (N, R, Fr, inc)) (S' := (N, R, vf_upd Fr j (FP.fmul (Fr j) 1065017672), inc)) 9 j (hLk.l j hj) hLk.1 (fun p hp hne => xe_fr cA α N R Fr inc j (FP.fmul (Fr j) 1065017672) p hne) (xs_fr cA α N R Fr inc j (FP.fmul (Fr j) 1065017672))
    refine k_put F hW inX2 tyX2_ok nmX2 rfl q_506 hq_506 rfl 7 (by decide) FL_X2_16 rfl rfl rfl rfl rfl (Nat.le_of_ble_eq_true rfl) (xWd wr cA α L (N, R, vf_upd Fr j (FP.fmul (Fr j) 1065017672), inc)) gq_506 dX2_age_45 (fun H locs hW => ?_)
    refine lv_aload_n hx hb dX2_age_48 rfl (lv_at hl 1 rfl) ?_
    obtain ⟨q_507, hq_507⟩ := xw_at (wr := wr) (cA := cA) (α := α) (L := L) (S := (N, R, vf_upd Fr j (FP.fmul (Fr j) 1065017672), inc)) 9 j (hLk.l j hj)
    refine k_get (v := .float (vf_upd Fr j (FP.fmul (Fr j) 1065017672) j)) F hW inX2 rfl q_507 hq_507 rfl 7 (by decide) FL_X2_16 rfl rfl dX2_age_49 ?_
    refine lv_topf (fun x_508 ex_508 => ?_)
    obtain rfl : x_508 = (FP.fmul (Fr j) 1065017672) := ex_508.trans (if_pos rfl)
    refine lv_ldcf (v := 1106247680) hx hb hown (hts _ CK_X2_56) dX2_age_52 ?_
    refine lv_fcmp hx hb dX2_age_54 ?_
    by_cases h_f : FP.fcmp (FP.fmul (Fr j) 1065017672) 1106247680 = some .lt
    · refine lv_if_ge (tgt := 73) hx hb dX2_age_55 (by decide) (fun h => absurd h (cmpg_lt h_f)) (fun _ => ?_)
      refine lv_aload_n hx hb dX2_age_58 rfl (lv_at hl 1 rfl) ?_
      obtain ⟨q_509, hq_509⟩ := xw_at (wr := wr) (cA := cA) (α := α) (L := L) (S := (N, R, vf_upd Fr j (FP.fmul (Fr j) 1065017672), inc)) 9 j (hLk.l j hj)
      refine k_get (v := .int (R 9 j 0)) F hW inX2 rfl q_509 hq_509 rfl 6 (by decide) FL_X2_9 rfl rfl dX2_age_59 ?_
      refine lv_bipush (v := 102) hx hb dX2_age_62 (by decide) ?_
      refine lv_icmp_ne (tgt := 73) hx hb dX2_age_64 (by decide) (fun h_s => ?_) (fun h_s => ?_)
      · have hid : up3 R 9 j 0 (R 9 j 0) = R := up3_id rfl
        have hop : ageR R Fr j = (R, vf_upd Fr j (FP.fmul (Fr j) 1065017672)) := by unfold ageR; rw [if_neg (fun q => q hp)]; simp [h_i, h_f, h_s, hid]
        exact k_vret () F (hW.eq (by rw [hop])) (trivial) dX2_age_73 (Nat.le_of_ble_eq_true rfl) (Nat.le_of_ble_eq_true rfl)
      · refine lv_aload_n hx hb dX2_age_67 rfl (lv_at hl 1 rfl) ?_
        refine lv_bipush (v := 120) hx hb dX2_age_68 (by decide) ?_
        obtain ⟨q_510, hq_510, gq_510⟩ := xput (wr := wr) (L := L) (S := (N, R, vf_upd Fr j (FP.fmul (Fr j) 1065017672), inc)) (S' := (N, up3 R 9 j 0 120, vf_upd Fr j (FP.fmul (Fr j) 1065017672), inc)) 9 j (hLk.l j hj) hLk.1 (fun p hp hne => xe_r9 cA α N R (vf_upd Fr j (FP.fmul (Fr j) 1065017672)) inc j 120 p hne) (xs_r9 cA α N R (vf_upd Fr j (FP.fmul (Fr j) 1065017672)) inc j 120)
        refine k_put F hW inX2 tyX2_ok nmX2 rfl q_510 hq_510 rfl 6 (by decide) FL_X2_9 rfl rfl rfl rfl rfl (Nat.le_of_ble_eq_true rfl) (xWd wr cA α L (N, up3 R 9 j 0 120, vf_upd Fr j (FP.fmul (Fr j) 1065017672), inc)) gq_510 dX2_age_70 (fun H locs hW => ?_)
        have hop : ageR R Fr j = (up3 R 9 j 0 120, vf_upd Fr j (FP.fmul (Fr j) 1065017672)) := by unfold ageR; rw [if_neg (fun q => q hp)]; simp [h_i, h_f, h_s]
        exact k_vret () F (hW.eq (by rw [hop])) (trivial) dX2_age_73 (Nat.le_of_ble_eq_true rfl) (Nat.le_of_ble_eq_true rfl)
    · refine lv_if_ge (tgt := 73) hx hb dX2_age_55 (by decide) (fun _ => ?_) (fun h => absurd (cmpg_ge h_f) h)
      have hid : up3 R 9 j 0 (R 9 j 0) = R := up3_id rfl
      have hop : ageR R Fr j = (R, vf_upd Fr j (FP.fmul (Fr j) 1065017672)) := by unfold ageR; rw [if_neg (fun q => q hp)]; simp [h_i, h_f, hid]
      exact k_vret () F (hW.eq (by rw [hop])) (trivial) dX2_age_73 (Nat.le_of_ble_eq_true rfl) (Nat.le_of_ble_eq_true rfl)
  · have h_i := Int32.not_lt.mp h_i
    refine lv_aload_n hx hb dX2_age_13 rfl (lv_at hl 1 rfl) ?_
    refine lv_dup hx hb dX2_age_14 rfl ?_
    obtain ⟨q_511, hq_511⟩ := xw_at (wr := wr) (cA := cA) (α := α) (L := L) (S := (N, R, Fr, inc)) 9 j (hLk.l j hj)
    refine k_get (v := .int (R 10 j 0)) F hW inX2 rfl q_511 hq_511 rfl 8 (by decide) FL_X2_20 rfl rfl dX2_age_15 ?_
    refine lv_iload_n hx hb dX2_age_18 rfl (lv_at hl 0 rfl) ?_
    refine lv_isub hx hb dX2_age_19 ?_
    obtain ⟨q_512, hq_512, gq_512⟩ := xput (wr := wr) (L := L) (S := (N, R, Fr, inc)) (S' := (N, up3 R 10 j 0 (R 10 j 0 - iceFor (R 7 j 0)), Fr, inc)) 9 j (hLk.l j hj) hLk.1 (fun p hp hne => xe_r10 cA α N R Fr inc j (R 10 j 0 - iceFor (R 7 j 0)) p hne) (xs_r10 cA α N R Fr inc j (R 10 j 0 - iceFor (R 7 j 0)))
    refine k_put F hW inX2 tyX2_ok nmX2 rfl q_512 hq_512 rfl 8 (by decide) FL_X2_20 rfl rfl rfl rfl rfl (Nat.le_of_ble_eq_true rfl) (xWd wr cA α L (N, up3 R 10 j 0 (R 10 j 0 - iceFor (R 7 j 0)), Fr, inc)) gq_512 dX2_age_20 (fun H locs hW => ?_)
    refine lv_aload_n hx hb dX2_age_23 rfl (lv_at hl 1 rfl) ?_
    refine lv_aload_n hx hb dX2_age_24 rfl (lv_at hl 1 rfl) ?_
    obtain ⟨q_513, hq_513⟩ := xw_at (wr := wr) (cA := cA) (α := α) (L := L) (S := (N, up3 R 10 j 0 (R 10 j 0 - iceFor (R 7 j 0)), Fr, inc)) 9 j (hLk.l j hj)
    refine k_get (v := .float (Fr j)) F hW inX2 rfl q_513 hq_513 rfl 7 (by decide) FL_X2_16 rfl rfl dX2_age_25 ?_
    refine lv_ldcf (v := 1065269330) hx hb hown (hts _ CK_X2_54) dX2_age_28 ?_
    refine lv_fmul hx hb dX2_age_30 (fo_nn (fo_ice hfo)) ?_
    obtain ⟨q_514, hq_514, gq_514⟩ := xput (wr := wr) (L := L) (S := (N, up3 R 10 j 0 (R 10 j 0 - iceFor (R 7 j 0)), Fr, inc)) (S' := (N, up3 R 10 j 0 (R 10 j 0 - iceFor (R 7 j 0)), vf_upd Fr j (FP.fmul (Fr j) 1065269330), inc)) 9 j (hLk.l j hj) hLk.1 (fun p hp hne => xe_fr cA α N (up3 R 10 j 0 (R 10 j 0 - iceFor (R 7 j 0))) Fr inc j (FP.fmul (Fr j) 1065269330) p hne) (xs_fr cA α N (up3 R 10 j 0 (R 10 j 0 - iceFor (R 7 j 0))) Fr inc j (FP.fmul (Fr j) 1065269330))
    refine k_put F hW inX2 tyX2_ok nmX2 rfl q_514 hq_514 rfl 7 (by decide) FL_X2_16 rfl rfl rfl rfl rfl (Nat.le_of_ble_eq_true rfl) (xWd wr cA α L (N, up3 R 10 j 0 (R 10 j 0 - iceFor (R 7 j 0)), vf_upd Fr j (FP.fmul (Fr j) 1065269330), inc)) gq_514 dX2_age_31 (fun H locs hW => ?_)
    refine lv_goto (tgt := 48) hx hb dX2_age_34 (by decide) ?_
    refine lv_aload_n hx hb dX2_age_48 rfl (lv_at hl 1 rfl) ?_
    obtain ⟨q_515, hq_515⟩ := xw_at (wr := wr) (cA := cA) (α := α) (L := L) (S := (N, up3 R 10 j 0 (R 10 j 0 - iceFor (R 7 j 0)), vf_upd Fr j (FP.fmul (Fr j) 1065269330), inc)) 9 j (hLk.l j hj)
    refine k_get (v := .float (vf_upd Fr j (FP.fmul (Fr j) 1065269330) j)) F hW inX2 rfl q_515 hq_515 rfl 7 (by decide) FL_X2_16 rfl rfl dX2_age_49 ?_
    refine lv_topf (fun x_516 ex_516 => ?_)
    obtain rfl : x_516 = (FP.fmul (Fr j) 1065269330) := ex_516.trans (if_pos rfl)
    refine lv_ldcf (v := 1106247680) hx hb hown (hts _ CK_X2_56) dX2_age_52 ?_
    refine lv_fcmp hx hb dX2_age_54 ?_
    by_cases h_f : FP.fcmp (FP.fmul (Fr j) 1065269330) 1106247680 = some .lt
    · refine lv_if_ge (tgt := 73) hx hb dX2_age_55 (by decide) (fun h => absurd h (cmpg_lt h_f)) (fun _ => ?_)
      refine lv_aload_n hx hb dX2_age_58 rfl (lv_at hl 1 rfl) ?_
      obtain ⟨q_517, hq_517⟩ := xw_at (wr := wr) (cA := cA) (α := α) (L := L) (S := (N, up3 R 10 j 0 (R 10 j 0 - iceFor (R 7 j 0)), vf_upd Fr j (FP.fmul (Fr j) 1065269330), inc)) 9 j (hLk.l j hj)
      refine k_get (v := .int (R 9 j 0)) F hW inX2 rfl q_517 hq_517 rfl 6 (by decide) FL_X2_9 rfl rfl dX2_age_59 ?_
      refine lv_bipush (v := 102) hx hb dX2_age_62 (by decide) ?_
      refine lv_icmp_ne (tgt := 73) hx hb dX2_age_64 (by decide) (fun h_s => ?_) (fun h_s => ?_)
      · have hid : up3 (up3 R 10 j 0 (R 10 j 0 - iceFor (R 7 j 0))) 9 j 0 (R 9 j 0) = up3 R 10 j 0 (R 10 j 0 - iceFor (R 7 j 0)) := up3_id rfl
        have hop : ageR R Fr j = (up3 R 10 j 0 (R 10 j 0 - iceFor (R 7 j 0)), vf_upd Fr j (FP.fmul (Fr j) 1065269330)) := by unfold ageR; rw [if_neg (fun q => q hp)]; simp [h_i, h_f, h_s, hid]
        exact k_vret () F (hW.eq (by rw [hop])) (trivial) dX2_age_73 (Nat.le_of_ble_eq_true rfl) (Nat.le_of_ble_eq_true rfl)
      · refine lv_aload_n hx hb dX2_age_67 rfl (lv_at hl 1 rfl) ?_
        refine lv_bipush (v := 120) hx hb dX2_age_68 (by decide) ?_
        obtain ⟨q_518, hq_518, gq_518⟩ := xput (wr := wr) (L := L) (S := (N, up3 R 10 j 0 (R 10 j 0 - iceFor (R 7 j 0)), vf_upd Fr j (FP.fmul (Fr j) 1065269330), inc)) (S' := (N, up3 (up3 R 10 j 0 (R 10 j 0 - iceFor (R 7 j 0))) 9 j 0 120, vf_upd Fr j (FP.fmul (Fr j) 1065269330), inc)) 9 j (hLk.l j hj) hLk.1 (fun p hp hne => xe_r9 cA α N (up3 R 10 j 0 (R 10 j 0 - iceFor (R 7 j 0))) (vf_upd Fr j (FP.fmul (Fr j) 1065269330)) inc j 120 p hne) (xs_r9 cA α N (up3 R 10 j 0 (R 10 j 0 - iceFor (R 7 j 0))) (vf_upd Fr j (FP.fmul (Fr j) 1065269330)) inc j 120)
        refine k_put F hW inX2 tyX2_ok nmX2 rfl q_518 hq_518 rfl 6 (by decide) FL_X2_9 rfl rfl rfl rfl rfl (Nat.le_of_ble_eq_true rfl) (xWd wr cA α L (N, up3 (up3 R 10 j 0 (R 10 j 0 - iceFor (R 7 j 0))) 9 j 0 120, vf_upd Fr j (FP.fmul (Fr j) 1065269330), inc)) gq_518 dX2_age_70 (fun H locs hW => ?_)
        have hop : ageR R Fr j = (up3 (up3 R 10 j 0 (R 10 j 0 - iceFor (R 7 j 0))) 9 j 0 120, vf_upd Fr j (FP.fmul (Fr j) 1065269330)) := by unfold ageR; rw [if_neg (fun q => q hp)]; simp [h_i, h_f, h_s]
        exact k_vret () F (hW.eq (by rw [hop])) (trivial) dX2_age_73 (Nat.le_of_ble_eq_true rfl) (Nat.le_of_ble_eq_true rfl)
    · refine lv_if_ge (tgt := 73) hx hb dX2_age_55 (by decide) (fun _ => ?_) (fun h => absurd (cmpg_ge h_f) h)
      have hid : up3 (up3 R 10 j 0 (R 10 j 0 - iceFor (R 7 j 0))) 9 j 0 (R 9 j 0) = up3 R 10 j 0 (R 10 j 0 - iceFor (R 7 j 0)) := up3_id rfl
      have hop : ageR R Fr j = (up3 R 10 j 0 (R 10 j 0 - iceFor (R 7 j 0)), vf_upd Fr j (FP.fmul (Fr j) 1065269330)) := by unfold ageR; rw [if_neg (fun q => q hp)]; simp [h_i, h_f, hid]
      exact k_vret () F (hW.eq (by rw [hop])) (trivial) dX2_age_73 (Nat.le_of_ble_eq_true rfl) (Nat.le_of_ble_eq_true rfl)

set_option maxHeartbeats 4000000 in
set_option maxRecDepth 100000 in
theorem met_X4_giveMoneyBack (l : Launch) (D : va_G) (cA : Nat → ClassId) (wr : va_W) (α : Nat → Nat → Nat) (L : List (Nat × Nat)) (N : Nat → Nat → Nat) (R : Nat → Nat → Nat → Int32) (Fr : Nat → UInt32) (inc : Int64) (j : Nat) (hLk : LOK N L) (hC : IC N) (hj : j < N 2 1) (hfo : fo (Fr j)) (hpd : paidOK (R 12 j 0)) (hu : isIx (N 0 2) (R 11 j 0) = true) : MetV l yX4_giveMoneyBack (.code yX4_giveMoneyBack cX4_giveMoneyBack 4 none :: LW) ({ frames := 0, cells := 0, slots := 0, locals := 0 }) D cA (xWd wr cA α L (N, R, Fr, inc)) [.ref (α 0 0), .ref (α 9 j)] (fun (_ : Unit) => True) (fun _ => xWd wr cA α L (N, (gmb R Fr inc j).1, Fr, (gmb R Fr inc j).2)) 0 0 := by
  refine k_bodyV (plainFor_of_name (by decide)) (Nat.le_of_ble_eq_true rfl) (fun p e s m args below meth c ls F hW hl => ?_)
  obtain ⟨hx, hb, hr, hml, hown, hts, hlocks, hname⟩ := id F
  have hl : lv_has ls 4 [(0, .ref (α 0 0)), (1, .ref (α 9 j))] := hl
  have hne1 : ¬ R 11 j 0 = -1 := by
    rw [(ix_lt hu (by have := hC; unfold IC at this; omega)).2]
    exact nI_neg1 (by have := (ix_lt hu (by have := hC; unfold IC at this; omega)).1; have := hC; unfold IC at this; omega)
  refine lv_aload_n hx hb dX4_giveMoneyBack_0 rfl (lv_at hl 1 rfl) ?_
  obtain ⟨q_519, hq_519⟩ := xw_at (wr := wr) (cA := cA) (α := α) (L := L) (S := (N, R, Fr, inc)) 9 j (hLk.l j hj)
  refine k_get (v := va_rf (ownr α (R 11 j 0))) F hW inX2 rfl q_519 hq_519 rfl 9 (by decide) FL_X4_231 rfl rfl dX4_giveMoneyBack_1 ?_
  refine x_astore_nQ (r := (ownr α (R 11 j 0))) (lv' := [(2, va_rf (ownr α (R 11 j 0))), (0, .ref (α 0 0)), (1, .ref (α 9 j))]) hx hb dX4_giveMoneyBack_4 rfl hl (by decide) rfl (fun ls hl => ?_)
  refine x_aload_nQ (r := (ownr α (R 11 j 0))) hx hb dX4_giveMoneyBack_5 rfl (lv_at hl 0 rfl) ?_
  rw [ownr_some α hne1] at hl ⊢
  have hl : lv_has ls 4 [(2, .ref (α 10 (ix (R 11 j 0)))), (0, .ref (α 0 0)), (1, .ref (α 9 j))] := hl
  refine lv_ifnull hx hb dX4_giveMoneyBack_6 ?_
  refine lv_aload_n hx hb dX4_giveMoneyBack_9 rfl (lv_at hl 2 rfl) ?_
  obtain ⟨q_520, hq_520⟩ := xw_at (wr := wr) (cA := cA) (α := α) (L := L) (S := (N, R, Fr, inc)) 9 j (hLk.l j hj)
  refine k_get (v := .float (Fr j)) F hW inX2 rfl q_520 hq_520 rfl 7 (by decide) FL_X4_156 rfl rfl dX4_giveMoneyBack_10 ?_
  refine x_ldcfw (v := 1116471296) hx hb hown (hts _ CK_X4_342) dX4_giveMoneyBack_13 ?_
  refine lv_fcmp hx hb dX4_giveMoneyBack_16 ?_
  by_cases h_f : FP.fcmp (Fr j) 1116471296 = some .lt
  · refine lv_if_lt (tgt := 21) hx hb dX4_giveMoneyBack_17 (by decide) (fun _ => ?_) (fun h => absurd (cmpl_lt h_f) h)
    obtain ⟨P, hP, ePd⟩ := id hpd
    obtain ⟨k1, k2, k3, -⟩ := back_ok hP hfo h_f
    rw [← ePd] at k2 k3
    refine lv_aload_n hx hb dX4_giveMoneyBack_21 rfl (lv_at hl 2 rfl) ?_
    obtain ⟨q_521, hq_521⟩ := xw_at (wr := wr) (cA := cA) (α := α) (L := L) (S := (N, R, Fr, inc)) 9 j (hLk.l j hj)
    refine k_get (v := .int (R 12 j 0)) F hW inX2 rfl q_521 hq_521 rfl 10 (by decide) FL_X4_235 rfl rfl dX4_giveMoneyBack_22 ?_
    refine lv_i2f hx hb dX4_giveMoneyBack_25 ?_
    refine x_ldcfw (v := 1116471296) hx hb hown (hts _ CK_X4_342) dX4_giveMoneyBack_26 ?_
    refine lv_aload_n hx hb dX4_giveMoneyBack_29 rfl (lv_at hl 2 rfl) ?_
    obtain ⟨q_522, hq_522⟩ := xw_at (wr := wr) (cA := cA) (α := α) (L := L) (S := (N, R, Fr, inc)) 9 j (hLk.l j hj)
    refine k_get (v := .float (Fr j)) F hW inX2 rfl q_522 hq_522 rfl 7 (by decide) FL_X4_156 rfl rfl dX4_giveMoneyBack_30 ?_
    refine lv_fsub hx hb dX4_giveMoneyBack_33 (k1) ?_
    refine lv_fmul hx hb dX4_giveMoneyBack_34 (k2) ?_
    refine x_ldcfw (v := 1120403456) hx hb hown (hts _ CK_X4_343) dX4_giveMoneyBack_35 ?_
    refine lv_fdiv hx hb dX4_giveMoneyBack_38 (k3) ?_
    refine lv_f2i hx hb dX4_giveMoneyBack_39 ?_
    refine lv_topi (fun x_523 ex_523 => ?_)
    obtain rfl : x_523 = backV (R 12 j 0) (Fr j) := ex_523.trans (rfl)
    refine lv_istore_n (lv' := [(3, .int (backV (R 12 j 0) (Fr j))), (2, .ref (α 10 (ix (R 11 j 0)))), (0, .ref (α 0 0)), (1, .ref (α 9 j))]) hx hb dX4_giveMoneyBack_40 rfl hl (by decide) rfl (fun ls hl => ?_)
    refine lv_aload_n hx hb dX4_giveMoneyBack_41 rfl (lv_at hl 1 rfl) ?_
    refine lv_dup hx hb dX4_giveMoneyBack_42 rfl ?_
    obtain ⟨q_524, hq_524⟩ := xw_at (wr := wr) (cA := cA) (α := α) (L := L) (S := (N, R, Fr, inc)) 10 (ix (R 11 j 0)) (hLk.u 10 (ix (R 11 j 0)) (by decide) (hC.lt (by decide) (ix_lt hu (by have := hC; unfold IC at this; omega)).1))
    refine k_get (v := .int (R 13 (ix (R 11 j 0)) 0)) F hW inX1 rfl q_524 hq_524 rfl 2 (by decide) FL_X4_205 rfl rfl dX4_giveMoneyBack_43 ?_
    refine lv_iload_n hx hb dX4_giveMoneyBack_46 rfl (lv_at hl 0 rfl) ?_
    refine lv_iadd hx hb dX4_giveMoneyBack_47 ?_
    obtain ⟨q_525, hq_525, gq_525⟩ := xput (wr := wr) (L := L) (S := (N, R, Fr, inc)) (S' := (N, up3 R 13 (ix (R 11 j 0)) 0 (R 13 (ix (R 11 j 0)) 0 + backV (R 12 j 0) (Fr j)), Fr, inc)) 10 (ix (R 11 j 0)) (hLk.u 10 (ix (R 11 j 0)) (by decide) (hC.lt (by decide) (ix_lt hu (by have := hC; unfold IC at this; omega)).1)) hLk.1 (fun p hp hne => xe_r13 cA α N R Fr inc (ix (R 11 j 0)) (R 13 (ix (R 11 j 0)) 0 + backV (R 12 j 0) (Fr j)) p hne) (xs_r13 cA α N R Fr inc (ix (R 11 j 0)) (R 13 (ix (R 11 j 0)) 0 + backV (R 12 j 0) (Fr j)))
    refine k_put F hW inX1 tyX1_ok nmX1 rfl q_525 hq_525 rfl 2 (by decide) FL_X4_205 rfl rfl rfl rfl rfl (Nat.le_of_ble_eq_true rfl) (xWd wr cA α L (N, up3 R 13 (ix (R 11 j 0)) 0 (R 13 (ix (R 11 j 0)) 0 + backV (R 12 j 0) (Fr j)), Fr, inc)) gq_525 dX4_giveMoneyBack_48 (fun H locs hW => ?_)
    refine lv_aload_n hx hb dX4_giveMoneyBack_51 rfl (lv_at hl 3 rfl) ?_
    refine lv_dup hx hb dX4_giveMoneyBack_52 rfl ?_
    obtain ⟨q_526, hq_526⟩ := xw_at (wr := wr) (cA := cA) (α := α) (L := L) (S := (N, up3 R 13 (ix (R 11 j 0)) 0 (R 13 (ix (R 11 j 0)) 0 + backV (R 12 j 0) (Fr j)), Fr, inc)) 9 j (hLk.l j hj)
    refine k_get (v := .int (R 12 j 0)) F hW inX2 rfl q_526 hq_526 rfl 10 (by decide) FL_X4_235 rfl rfl dX4_giveMoneyBack_53 ?_
    refine lv_iload_n hx hb dX4_giveMoneyBack_56 rfl (lv_at hl 0 rfl) ?_
    refine lv_isub hx hb dX4_giveMoneyBack_57 ?_
    obtain ⟨q_527, hq_527, gq_527⟩ := xput (wr := wr) (L := L) (S := (N, up3 R 13 (ix (R 11 j 0)) 0 (R 13 (ix (R 11 j 0)) 0 + backV (R 12 j 0) (Fr j)), Fr, inc)) (S' := (N, up3 (up3 R 13 (ix (R 11 j 0)) 0 (R 13 (ix (R 11 j 0)) 0 + backV (R 12 j 0) (Fr j))) 12 j 0 (R 12 j 0 - backV (R 12 j 0) (Fr j)), Fr, inc)) 9 j (hLk.l j hj) hLk.1 (fun p hp hne => xe_r12 cA α N (up3 R 13 (ix (R 11 j 0)) 0 (R 13 (ix (R 11 j 0)) 0 + backV (R 12 j 0) (Fr j))) Fr inc j (R 12 j 0 - backV (R 12 j 0) (Fr j)) p hne) (xs_r12 cA α N (up3 R 13 (ix (R 11 j 0)) 0 (R 13 (ix (R 11 j 0)) 0 + backV (R 12 j 0) (Fr j))) Fr inc j (R 12 j 0 - backV (R 12 j 0) (Fr j)))
    refine k_put F hW inX2 tyX2_ok nmX2 rfl q_527 hq_527 rfl 10 (by decide) FL_X4_235 rfl rfl rfl rfl rfl (Nat.le_of_ble_eq_true rfl) (xWd wr cA α L (N, up3 (up3 R 13 (ix (R 11 j 0)) 0 (R 13 (ix (R 11 j 0)) 0 + backV (R 12 j 0) (Fr j))) 12 j 0 (R 12 j 0 - backV (R 12 j 0) (Fr j)), Fr, inc)) gq_527 dX4_giveMoneyBack_58 (fun H locs hW => ?_)
    refine lv_aload_n hx hb dX4_giveMoneyBack_61 rfl (lv_at hl 2 rfl) ?_
    refine lv_dup hx hb dX4_giveMoneyBack_62 rfl ?_
    obtain ⟨q_528, hq_528⟩ := xw_at (wr := wr) (cA := cA) (α := α) (L := L) (S := (N, up3 (up3 R 13 (ix (R 11 j 0)) 0 (R 13 (ix (R 11 j 0)) 0 + backV (R 12 j 0) (Fr j))) 12 j 0 (R 12 j 0 - backV (R 12 j 0) (Fr j)), Fr, inc)) 0 0 (hLk.o 0 (by decide))
    refine k_get (v := .long inc) F hW inX4 rfl q_528 hq_528 rfl 14 (by decide) FL_X4_64 rfl rfl dX4_giveMoneyBack_63 ?_
    refine lv_iload_n hx hb dX4_giveMoneyBack_66 rfl (lv_at hl 0 rfl) ?_
    refine lv_i2l hx hb dX4_giveMoneyBack_67 rfl ?_
    refine lv_lsub hx hb dX4_giveMoneyBack_68 ?_
    obtain ⟨q_529, hq_529, gq_529⟩ := xput (wr := wr) (L := L) (S := (N, up3 (up3 R 13 (ix (R 11 j 0)) 0 (R 13 (ix (R 11 j 0)) 0 + backV (R 12 j 0) (Fr j))) 12 j 0 (R 12 j 0 - backV (R 12 j 0) (Fr j)), Fr, inc)) (S' := (N, up3 (up3 R 13 (ix (R 11 j 0)) 0 (R 13 (ix (R 11 j 0)) 0 + backV (R 12 j 0) (Fr j))) 12 j 0 (R 12 j 0 - backV (R 12 j 0) (Fr j)), Fr, inc - (backV (R 12 j 0) (Fr j)).toInt64)) 0 0 (hLk.o 0 (by decide)) hLk.1 (fun p hp hne => xe_inc cA α N (up3 (up3 R 13 (ix (R 11 j 0)) 0 (R 13 (ix (R 11 j 0)) 0 + backV (R 12 j 0) (Fr j))) 12 j 0 (R 12 j 0 - backV (R 12 j 0) (Fr j))) Fr inc (inc - (backV (R 12 j 0) (Fr j)).toInt64) p (xe_0 hLk hp hne)) (xs_inc cA α N (up3 (up3 R 13 (ix (R 11 j 0)) 0 (R 13 (ix (R 11 j 0)) 0 + backV (R 12 j 0) (Fr j))) 12 j 0 (R 12 j 0 - backV (R 12 j 0) (Fr j))) Fr inc (inc - (backV (R 12 j 0) (Fr j)).toInt64))
    refine k_put F hW inX4 tyX4_ok nmX4 rfl q_529 hq_529 rfl 14 (by decide) FL_X4_64 rfl rfl rfl rfl rfl (Nat.le_of_ble_eq_true rfl) (xWd wr cA α L (N, up3 (up3 R 13 (ix (R 11 j 0)) 0 (R 13 (ix (R 11 j 0)) 0 + backV (R 12 j 0) (Fr j))) 12 j 0 (R 12 j 0 - backV (R 12 j 0) (Fr j)), Fr, inc - (backV (R 12 j 0) (Fr j)).toInt64)) gq_529 dX4_giveMoneyBack_69 (fun H locs hW => ?_)
    have hop : gmb R Fr inc j = (up3 (up3 R 13 (ix (R 11 j 0)) 0 (R 13 (ix (R 11 j 0)) 0 + backV (R 12 j 0) (Fr j))) 12 j 0 (R 12 j 0 - backV (R 12 j 0) (Fr j)), inc - (backV (R 12 j 0) (Fr j)).toInt64) := if_pos h_f
    exact k_vret () F (hW.eq (by rw [hop])) (trivial) dX4_giveMoneyBack_72 (Nat.le_of_ble_eq_true rfl) (Nat.le_of_ble_eq_true rfl)
  · refine lv_if_lt (tgt := 21) hx hb dX4_giveMoneyBack_17 (by decide) (fun h => absurd h (cmpl_ge h_f (fo_cmp hfo))) (fun _ => ?_)
    have hop : gmb R Fr inc j = (R, inc) := if_neg h_f
    exact k_vret () F (hW.eq (by rw [hop])) (trivial) dX4_giveMoneyBack_20 (Nat.le_of_ble_eq_true rfl) (Nat.le_of_ble_eq_true rfl)

set_option maxHeartbeats 4000000 in
set_option maxRecDepth 100000 in
theorem met_X4_deliverAll (l : Launch) (D : va_G) (cA : Nat → ClassId) (wr : va_W) (α : Nat → Nat → Nat) (L : List (Nat × Nat)) (N : Nat → Nat → Nat) (R : Nat → Nat → Nat → Int32) (Fr : Nat → UInt32) (inc : Int64) (t : Nat) (hLk : LOK N L) (hC : IC N) (ht : t < N 0 3) (hT : truckOK N R) (hF : ∀ j, j < N 0 1 → fo (Fr j)) (hPd : ∀ i, paidOK (R 12 i 0)) : MetV l yX4_deliverAll (.code yX4_deliverAll cX4_deliverAll 6 none :: LW) ({ frames := 1, cells := 0, slots := 0, locals := 23 }) D cA (xWd wr cA α L (N, R, Fr, inc)) [.ref (α 0 0), .ref (α 12 t)] (fun (_ : Unit) => True) (fun _ => xWd wr cA α L (N, (delsR Fr t (N 1 t) (R, inc)).1, Fr, (delsR Fr t (N 1 t) (R, inc)).2)) 0 0 := by
  refine k_bodyV (plainFor_of_name (by decide)) (Nat.le_of_ble_eq_true rfl) (fun p e s m args below meth c ls F hW hl => ?_)
  obtain ⟨hx, hb, hr, hml, hown, hts, hlocks, hname⟩ := id F
  have hl : lv_has ls 6 [(0, .ref (α 0 0)), (1, .ref (α 12 t))] := hl
  have hk0 : dkeep R (R, inc) := ⟨fun _ _ _ _ => rfl, hPd⟩
  refine lv_aload_n hx hb dX4_deliverAll_0 rfl (lv_at hl 1 rfl) ?_
  obtain ⟨q_530, hq_530⟩ := xw_at (wr := wr) (cA := cA) (α := α) (L := L) (S := (N, R, Fr, inc)) 12 t (hLk.t 12 t (by decide) (hC.lt (by decide) ht))
  refine k_get (v := .ref (α 13 t)) F hW inX3 rfl q_530 hq_530 rfl 2 (by decide) FL_X4_276 rfl rfl dX4_deliverAll_1 ?_
  refine lv_astore_n (lv' := [(2, .ref (α 13 t)), (0, .ref (α 0 0)), (1, .ref (α 12 t))]) hx hb dX4_deliverAll_4 rfl hl (by decide) rfl (fun ls hl => ?_)
  refine lv_aload_n hx hb dX4_deliverAll_5 rfl (lv_at hl 0 rfl) ?_
  obtain ⟨q_531, hq_531⟩ := xw_at (wr := wr) (cA := cA) (α := α) (L := L) (S := (N, R, Fr, inc)) 13 t (hLk.t 13 t (by decide) (hC.lt (by decide) ht))
  refine k_alen (v := 5) F hW q_531 7 hq_531 rfl rfl dX4_deliverAll_6 ?_
  refine lv_istore_n (lv' := [(3, .int 5), (2, .ref (α 13 t)), (0, .ref (α 0 0)), (1, .ref (α 12 t))]) hx hb dX4_deliverAll_7 rfl hl (by decide) rfl (fun ls hl => ?_)
  refine lv_iconst (v := 0) hx hb dX4_deliverAll_8 (by decide) ?_
  refine lv_istore (lv' := [(4, .int 0), (3, .int 5), (2, .ref (α 13 t)), (0, .ref (α 0 0)), (1, .ref (α 12 t))]) hx hb dX4_deliverAll_9 hl (by decide) rfl (fun ls hl => ?_)
  have hW := hW.eq (show _ = xWd wr cA α L (N, (delsR Fr t (min 0 (N 1 t)) (R, inc)).1, Fr, (delsR Fr t (min 0 (N 1 t)) (R, inc)).2) by rw [Nat.zero_min]; rfl)
  refine k_ind (P := fun k H locs ls => ∃ q, q + k = 5 ∧ Cw D cA s (va_A (xWd wr cA α L (N, R, Fr, inc)) s.heap.size) (xWd wr cA α L (N, (delsR Fr t (min q (N 1 t)) (R, inc)).1, Fr, (delsR Fr t (min q (N 1 t)) (R, inc)).2)) H locs ∧ lv_has ls 6 [(0, .ref (α 0 0)), (1, .ref (α 12 t)), (2, .ref (α 13 t)), (3, .int 5), (4, .int (nI q))]) (fun k ih H locs ls hP => ?_) (5) ⟨0, by omega, hW, lv_sub hl [3, 4, 2, 1, 0] rfl⟩
  obtain ⟨q, hi_q, hW, hl⟩ := hP
  refine lv_iload hx hb dX4_deliverAll_11 (lv_at hl 4 rfl) ?_
  refine lv_iload_n hx hb dX4_deliverAll_13 rfl (lv_at hl 3 rfl) ?_
  refine lv_icmp_ge (tgt := 47) hx hb dX4_deliverAll_14 (by decide) (fun h_c => ?_) (fun h_c => ?_)
  · obtain rfl : q = 5 := by have := (nI_leI (b := q) (a := 5) (by omega) (by omega)).mp h_c; omega
    exact k_vret () F (hW.eq (by rw [Nat.min_eq_right (hC.2.2.2.2.2.2.1 t)])) (trivial) dX4_deliverAll_47 (Nat.le_of_ble_eq_true rfl) (Nat.le_of_ble_eq_true rfl)
  · have hlt : q < 5 := Nat.lt_of_not_le fun q => h_c (nI_le (a := 5) q (by omega))
    refine lv_aload_n hx hb dX4_deliverAll_17 rfl (lv_at hl 2 rfl) ?_
    refine lv_iload hx hb dX4_deliverAll_18 (lv_at hl 4 rfl) ?_
    have hkd := hk0.dels (t := t) (by have := hC; unfold IC at this; omega) hT hF ht (min q (N 1 t)) (Nat.min_le_right _ _)
    by_cases hiv : q < N 1 t
    · have h18 : (delsR Fr t (min q (N 1 t)) (R, inc)).1 18 t q = R 18 t q := by rw [hkd.1 18 (by decide) (by decide) (by decide)]
      have hlo := hT t ht q hiv
      obtain ⟨q_532, hq_532⟩ := xw_at (wr := wr) (cA := cA) (α := α) (L := L) (S := (N, (delsR Fr t (min q (N 1 t)) (R, inc)).1, Fr, (delsR Fr t (min q (N 1 t)) (R, inc)).2)) 13 t (hLk.t 13 t (by decide) (hC.lt (by decide) ht))
      refine k_aaldS (x := (α 9 (ix ((delsR Fr t (min q (N 1 t)) (R, inc)).1 18 t q)))) F hW q_532 hq_532 (tI := 7) rfl (vp_in_nI hlt (by decide)) (by rw [nI_clamp (by omega)]; exact if_pos (by rw [hC.2.2.2.2.2.2.2 t]; exact hiv)) dX4_deliverAll_20 ?_
      have hjl : ix ((delsR Fr t (min q (N 1 t)) (R, inc)).1 18 t q) < N 0 1 := by rw [h18]; exact (ix_lt hlo.1 (by have := hC; unfold IC at this; omega)).1
      refine lv_astore (lv' := [(5, .ref (α 9 (ix ((delsR Fr t (min q (N 1 t)) (R, inc)).1 18 t q)))), (0, .ref (α 0 0)), (1, .ref (α 12 t)), (2, .ref (α 13 t)), (3, .int 5), (4, .int (nI q))]) hx hb dX4_deliverAll_21 hl (by decide) rfl (fun ls hl => ?_)
      refine lv_aload hx hb dX4_deliverAll_23 (lv_at hl 0 rfl) ?_
      refine lv_ifnull hx hb dX4_deliverAll_25 ?_
      refine lv_aload hx hb dX4_deliverAll_28 (lv_at hl 0 rfl) ?_
      refine lv_bipush (v := 100) hx hb dX4_deliverAll_30 (by decide) ?_
      obtain ⟨q_533, hq_533, gq_533⟩ := xput (wr := wr) (L := L) (S := (N, (delsR Fr t (min q (N 1 t)) (R, inc)).1, Fr, (delsR Fr t (min q (N 1 t)) (R, inc)).2)) (S' := (N, up3 (delsR Fr t (min q (N 1 t)) (R, inc)).1 9 (ix ((delsR Fr t (min q (N 1 t)) (R, inc)).1 18 t q)) 0 100, Fr, (delsR Fr t (min q (N 1 t)) (R, inc)).2)) 9 (ix ((delsR Fr t (min q (N 1 t)) (R, inc)).1 18 t q)) (hLk.l (ix ((delsR Fr t (min q (N 1 t)) (R, inc)).1 18 t q)) (hC.lt (by decide) hjl)) hLk.1 (fun p hp hne => xe_r9 cA α N (delsR Fr t (min q (N 1 t)) (R, inc)).1 Fr (delsR Fr t (min q (N 1 t)) (R, inc)).2 (ix ((delsR Fr t (min q (N 1 t)) (R, inc)).1 18 t q)) 100 p hne) (xs_r9 cA α N (delsR Fr t (min q (N 1 t)) (R, inc)).1 Fr (delsR Fr t (min q (N 1 t)) (R, inc)).2 (ix ((delsR Fr t (min q (N 1 t)) (R, inc)).1 18 t q)) 100)
      refine k_put F hW inX2 tyX2_ok nmX2 rfl q_533 hq_533 rfl 6 (by decide) FL_X4_152 rfl rfl rfl rfl rfl (Nat.le_of_ble_eq_true rfl) (xWd wr cA α L (N, up3 (delsR Fr t (min q (N 1 t)) (R, inc)).1 9 (ix ((delsR Fr t (min q (N 1 t)) (R, inc)).1 18 t q)) 0 100, Fr, (delsR Fr t (min q (N 1 t)) (R, inc)).2)) gq_533 dX4_deliverAll_32 (fun H locs hW => ?_)
      refine lv_aload_n hx hb dX4_deliverAll_35 rfl (lv_at hl 1 rfl) ?_
      refine lv_aload hx hb dX4_deliverAll_36 (lv_at hl 0 rfl) ?_
      obtain ⟨q_534, hq_534⟩ := xw_at (wr := wr) (cA := cA) (α := α) (L := L) (S := (N, up3 (delsR Fr t (min q (N 1 t)) (R, inc)).1 9 (ix ((delsR Fr t (min q (N 1 t)) (R, inc)).1 18 t q)) 0 100, Fr, (delsR Fr t (min q (N 1 t)) (R, inc)).2)) 0 0 (hLk.o 0 (by decide))
      refine k_callVv (as := [.ref (α 9 (ix ((delsR Fr t (min q (N 1 t)) (R, inc)).1 18 t q)))]) (rest := []) (b := (α 0 0)) (ci := 6) (q0 := q_534) F hW (met_X4_giveMoneyBack l D cA wr α L N (up3 (delsR Fr t (min q (N 1 t)) (R, inc)).1 9 (ix ((delsR Fr t (min q (N 1 t)) (R, inc)).1 18 t q)) 0 100) Fr ((delsR Fr t (min q (N 1 t)) (R, inc)).2) (ix ((delsR Fr t (min q (N 1 t)) (R, inc)).1 18 t q)) hLk hC (hC.lt (by decide) hjl) (hF _ hjl) (hkd.2 _) (by show isIx (N 0 2) ((delsR Fr t (min q (N 1 t)) (R, inc)).1 11 (ix ((delsR Fr t (min q (N 1 t)) (R, inc)).1 18 t q)) 0) = true; rw [hkd.1 11 (by decide) (by decide) (by decide), h18]; exact hlo.2)) rfl ML_X4_339 IM_X4_giveMoneyBack SE_X4_giveMoneyBack IN_X4 CO_X4_giveMoneyBack hdV_X4_giveMoneyBack rfl rfl ⟨(Nat.le_of_ble_eq_true rfl), (Nat.le_of_ble_eq_true rfl)⟩ rfl rfl (hq_534) rfl rfl hl.1 (Nat.le_of_ble_eq_true rfl) dX4_deliverAll_38 ⟨(Nat.le_of_ble_eq_true rfl), (Nat.le_of_ble_eq_true rfl)⟩ (fun u H locs hw hW => ?_)
      rw [gmb_del] at hW
      have hms : min (q + 1) (N 1 t) = min q (N 1 t) + 1 := by rw [Nat.min_eq_left (by omega), Nat.min_eq_left (by omega)]
      have hmq : min q (N 1 t) = q := Nat.min_eq_left (by omega)
      have hds : delsR Fr t (min (q + 1) (N 1 t)) (R, inc) = delR Fr (ix ((delsR Fr t (min q (N 1 t)) (R, inc)).1 18 t q)) (delsR Fr t (min q (N 1 t)) (R, inc)) := by rw [hms]; simp only [delsR, hmq]
      have hW := hW.eq (show _ = xWd wr cA α L (N, (delsR Fr t (min (q + 1) (N 1 t)) (R, inc)).1, Fr, (delsR Fr t (min (q + 1) (N 1 t)) (R, inc)).2) by rw [hds])
      refine lv_iinc (k := 5) (lv' := [(4, .int (nI (q + 1))), (5, .ref (α 9 (ix ((delsR Fr t (min q (N 1 t)) (R, inc)).1 18 t q)))), (0, .ref (α 0 0)), (1, .ref (α 12 t)), (2, .ref (α 13 t)), (3, .int 5)]) hx hb dX4_deliverAll_41 hl rfl (nI_1 q) (by decide) rfl (fun ls hl => ?_)
      refine lv_goto (tgt := 11) hx hb dX4_deliverAll_44 (by decide) ?_
      exact ih (k - 1) (by omega) ⟨q + 1, by omega, hW, lv_sub hl [2, 3, 4, 5, 0] rfl⟩
    · obtain ⟨q_536, hq_536⟩ := xw_at (wr := wr) (cA := cA) (α := α) (L := L) (S := (N, (delsR Fr t (min q (N 1 t)) (R, inc)).1, Fr, (delsR Fr t (min q (N 1 t)) (R, inc)).2)) 13 t (hLk.t 13 t (by decide) (hC.lt (by decide) ht))
      refine k_aaldN F hW q_536 hq_536 (tI := 7) rfl (vp_in_nI hlt (by decide)) (by rw [nI_clamp (by omega)]; exact if_neg (by rw [hC.2.2.2.2.2.2.2 t]; exact hiv)) dX4_deliverAll_20 ?_
      refine x_astoreQ (r := none) (lv' := [(5, va_rf none), (0, .ref (α 0 0)), (1, .ref (α 12 t)), (2, .ref (α 13 t)), (3, .int 5), (4, .int (nI q))]) hx hb dX4_deliverAll_21 hl (by decide) rfl (fun ls hl => ?_)
      refine x_aloadQ (r := none) hx hb dX4_deliverAll_23 (lv_at hl 0 rfl) ?_
      refine lv_ifnullN (tgt := 41) hx hb dX4_deliverAll_25 (by decide) ?_
      have hW := hW.eq (show _ = xWd wr cA α L (N, (delsR Fr t (min (q + 1) (N 1 t)) (R, inc)).1, Fr, (delsR Fr t (min (q + 1) (N 1 t)) (R, inc)).2) by rw [show min (q + 1) (N 1 t) = min q (N 1 t) from by rw [Nat.min_eq_right (by omega), Nat.min_eq_right (by omega)]])
      refine lv_iinc (k := 5) (lv' := [(4, .int (nI (q + 1))), (5, va_rf none), (0, .ref (α 0 0)), (1, .ref (α 12 t)), (2, .ref (α 13 t)), (3, .int 5)]) hx hb dX4_deliverAll_41 hl rfl (nI_1 q) (by decide) rfl (fun ls hl => ?_)
      refine lv_goto (tgt := 11) hx hb dX4_deliverAll_44 (by decide) ?_
      exact ih (k - 1) (by omega) ⟨q + 1, by omega, hW, lv_sub hl [2, 3, 4, 5, 0] rfl⟩
