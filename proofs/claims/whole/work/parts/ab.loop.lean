/-! The law's loop -/
theorem end_at {i Ls : Nat} (hi : i ≤ 4000) (hL : Ls ≤ 3072) : (nI Ls - 6).toInt = (Ls : Int) - 6 ∧ (nI i).toInt = (i : Int) := by
  have h6 : (6 : Int32).toInt = 6 := rfl
  have h1 : (nI Ls).toInt = (Ls : Int) := nI_toInt (by omega)
  refine ⟨?_, nI_toInt (by omega)⟩
  rw [sub_toInt (by rw [h1, h6]; omega) (by rw [h1, h6]; omega), h1, h6]
set_option maxHeartbeats 4000000 in
set_option maxRecDepth 100000 in
theorem law_loop {p : Program} {l : Launch} {e : Env} {s : State} {m : MethodId} {below : List Frame} {meth : Method} {c : Code} {b Ls : Nat} {xs : Nat → Int32} (C0 : lw_At p s m meth c b Ls xs) (hT : TH s.heap.size s) (hN : NC s) (hl0 : l.stackTraces = false) {D : va_G} {cA : Nat → ClassId} {β : Nat → Nat} {x0 o oD : Nat} (hL : Ls ≤ 3072) : ∀ (fuel i n : Nat) {α : Nat → Nat → Nat} {L : List (Nat × Nat)} {N : Nat → Nat → Nat} {R : Nat → Nat → Nat → Int32} {Fr : Nat → UInt32} {inc : Int64} {th : Int32} {f : Nat → Int64} {g : Nat → UInt64} {H : Heap} {locs : List Loc} {cells slots : Nat} {ls : Array Slot}, i ≤ Ls → Ls + 1 ≤ i + 6 * fuel → n + fuel ≤ 1000 → IV n (N, R, Fr, inc) → LOK N L → α 0 0 = x0 → cells + 4 * fuel ≤ 603072 → slots + 88 * fuel ≤ 7231594 → Cw D cA s (fun q => s.heap.size ≤ q) (mWd cA β (o, .inl (cA 4, 1, .inr (.inl f))) (oD, .inl (cA 5, 1, .inr (.inr (.inr (.inl g))))) (L.map (xf cA α (N, R, Fr, inc))) th (N, R, Fr, inc)) H locs → lv_has ls 9 [(0, .ref b), (1, .ref x0), (2, .ref (β 0)), (3, .ref o), (4, .ref oD), (5, .int (nI i))] → W p l e room_1 s m #[Value.ref b] below meth c H locs cells slots (lw_Z below #[Value.ref b] s) (F0 m 28 ls []) := by
  obtain ⟨hx, hb, hr, hml, hown, hts, hX, hbl, hlocks, hgv⟩ := id C0
  intro fuel
  induction fuel with
  | zero =>
    intro i n α L N R Fr inc th f g H locs cells slots ls h1 h2
    exact absurd h2 (by omega)
  | succ fuel ih =>
    intro i n α L N R Fr inc th f g H locs cells slots ls h1 h2 hn hI hLk hα hc hs hW hl
    obtain ⟨t1, t2⟩ := end_at (i := i) (Ls := Ls) (by omega) hL
    refine lv_iload hx hb dL_law_28 (lv_at hl 5 rfl) ?_
    refine lv_aload_n hx hb dL_law_30 rfl (lv_at hl 0 rfl) ?_
    refine va_slen hx hb hX hbl (Nat.not_le.mpr hbl) hW.2.2.2.1 dL_law_31 ?_
    refine lv_bipush (v := 6) hx hb dL_law_32 (by decide) ?_
    refine lv_isub hx hb dL_law_34 ?_
    refine lv_icmp_gt (tgt := 2251) hx hb dL_law_35 (by decide) (fun h0 => ?_) (fun h0 => ?_)
    · refine lv_iconst (v := 1) hx hb dL_law_2251 (by decide) ?_
      refine va_forget (fun q hq => hW.2.2.2.1.2.2 q hq) ?_
      refine W.widen (k := 603072) (n := 7231594) (by omega) (by omega) ?_
      exact lw_ret (d0 := s.drawn) (Drawn.sameBut.refl s.drawn lw_cs) hx hb hr hlocks dL_law_2252
    · have hi6 : i + 6 ≤ Ls := by
        have h3 : ¬ (nI Ls - 6) < nI i := h0
        rw [Int32.lt_iff_toInt_lt, t1, t2] at h3
        omega
      refine lv_aload_n hx hb dL_law_38 rfl (lv_at hl 0 rfl) ?_
      refine lv_iload hx hb dL_law_39 (lv_at hl 5 rfl) ?_
      refine k_sld C0 hW.2.2.2.1 (sc_0 hi6 hL) rfl dL_law_41 ?_
      refine lv_bipush (v := 63) hx hb dL_law_42 (by decide) ?_
      refine lv_iand hx hb dL_law_44 ?_
      obtain ⟨j, hj, ej⟩ := pk_andE (xs (nI i).toNatClampNeg) (m := 63) 6 rfl
      rw [ej]
      have hj : j < 64 := hj
      have kk : LKK p l e s m below meth c D cA b (α 0 0) o oD β i n cells slots := by
        intro S' α' L' f' g' th' H' locs' ls' hI' hLk' hα' hW' hl'
        obtain ⟨N', R', Fr', inc'⟩ := S'
        refine lv_iinc (v := nI (i + 6)) (lv' := [(5, .int (nI (i + 6))), (0, .ref b), (1, .ref (α 0 0)), (2, .ref (β 0)), (3, .ref o), (4, .ref oD)]) hx hb dL_law_2245 hl' (k := 5) rfl (by rw [show Int32.ofInt 6 = nI 6 from rfl, nI_add]) (by decide) rfl (fun ls hl => ?_)
        refine lv_goto (tgt := 28) hx hb dL_law_2248 (by decide) ?_
        exact ih (i + 6) (n + 1) hi6 (by omega) (by omega) hI' hLk' (hα'.trans hα) (by omega) (by omega) hW' (by rw [← hα]; exact lv_sub hl [1, 2, 3, 4, 5, 0] rfl)
      rw [← hα] at hl
      by_cases h36 : j < 36
      · rcases (show j = 0 ∨ j = 1 ∨ j = 2 ∨ j = 3 ∨ j = 4 ∨ j = 5 ∨ j = 6 ∨ j = 7 ∨ j = 8 ∨ j = 9 ∨ j = 10 ∨ j = 11 ∨ j = 12 ∨ j = 13 ∨ j = 14 ∨ j = 15 ∨ j = 16 ∨ j = 17 ∨ j = 18 ∨ j = 19 ∨ j = 20 ∨ j = 21 ∨ j = 22 ∨ j = 23 ∨ j = 24 ∨ j = 25 ∨ j = 26 ∨ j = 27 ∨ j = 28 ∨ j = 29 ∨ j = 30 ∨ j = 31 ∨ j = 32 ∨ j = 33 ∨ j = 34 ∨ j = 35 by omega) with rfl | rfl | rfl | rfl | rfl | rfl | rfl | rfl | rfl | rfl | rfl | rfl | rfl | rfl | rfl | rfl | rfl | rfl | rfl | rfl | rfl | rfl | rfl | rfl | rfl | rfl | rfl | rfl | rfl | rfl | rfl | rfl | rfl | rfl | rfl | rfl
        · refine lv_tableIn (off := 159) (tgt := 204) hx hb dL_law_45 (by decide) (by decide) rfl rfl ?_
          exact lc_0 C0 hT hN hl0 hLk hI (by omega) hi6 hL ⟨by omega, by omega⟩ hW hl kk
        · refine lv_tableIn (off := 251) (tgt := 296) hx hb dL_law_45 (by decide) (by decide) rfl rfl ?_
          exact lc_1 C0 hT hN hl0 hLk hI (by omega) hi6 hL ⟨by omega, by omega⟩ hW hl kk
        · refine lv_tableIn (off := 371) (tgt := 416) hx hb dL_law_45 (by decide) (by decide) rfl rfl ?_
          exact lc_2 C0 hT hN hl0 hLk hI (by omega) hi6 hL ⟨by omega, by omega⟩ hW hl kk
        · refine lv_tableIn (off := 463) (tgt := 508) hx hb dL_law_45 (by decide) (by decide) rfl rfl ?_
          exact lc_3 C0 hT hN hl0 hLk hI (by omega) hi6 hL ⟨by omega, by omega⟩ hW hl kk
        · refine lv_tableIn (off := 531) (tgt := 576) hx hb dL_law_45 (by decide) (by decide) rfl rfl ?_
          exact lc_4 C0 hT hN hl0 hLk hI (by omega) hi6 hL ⟨by omega, by omega⟩ hW hl kk
        · refine lv_tableIn (off := 611) (tgt := 656) hx hb dL_law_45 (by decide) (by decide) rfl rfl ?_
          exact lc_5 C0 hT hN hl0 hLk hI (by omega) hi6 hL ⟨by omega, by omega⟩ hW hl kk
        · refine lv_tableIn (off := 655) (tgt := 700) hx hb dL_law_45 (by decide) (by decide) rfl rfl ?_
          exact lc_6 C0 hT hN hl0 hLk hI (by omega) hi6 hL ⟨by omega, by omega⟩ hW hl kk
        · refine lv_tableIn (off := 668) (tgt := 713) hx hb dL_law_45 (by decide) (by decide) rfl rfl ?_
          exact lc_7 C0 hT hN hl0 hLk hI (by omega) hi6 hL ⟨by omega, by omega⟩ hW hl kk
        · refine lv_tableIn (off := 724) (tgt := 769) hx hb dL_law_45 (by decide) (by decide) rfl rfl ?_
          exact lc_8 C0 hT hN hl0 hLk hI (by omega) hi6 hL ⟨by omega, by omega⟩ hW hl kk
        · refine lv_tableIn (off := 780) (tgt := 825) hx hb dL_law_45 (by decide) (by decide) rfl rfl ?_
          exact lc_9 C0 hT hN hl0 hLk hI (by omega) hi6 hL ⟨by omega, by omega⟩ hW hl kk
        · refine lv_tableIn (off := 858) (tgt := 903) hx hb dL_law_45 (by decide) (by decide) rfl rfl ?_
          exact lc_10 C0 hT hN hl0 hLk hI (by omega) hi6 hL ⟨by omega, by omega⟩ hW hl kk
        · refine lv_tableIn (off := 914) (tgt := 959) hx hb dL_law_45 (by decide) (by decide) rfl rfl ?_
          exact lc_11 C0 hT hN hl0 hLk hI (by omega) hi6 hL ⟨by omega, by omega⟩ hW hl kk
        · refine lv_tableIn (off := 982) (tgt := 1027) hx hb dL_law_45 (by decide) (by decide) rfl rfl ?_
          exact lc_12 C0 hT hN hl0 hLk hI (by omega) hi6 hL ⟨by omega, by omega⟩ hW hl kk
        · refine lv_tableIn (off := 1038) (tgt := 1083) hx hb dL_law_45 (by decide) (by decide) rfl rfl ?_
          exact lc_13 C0 hT hN hl0 hLk hI (by omega) hi6 hL ⟨by omega, by omega⟩ hW hl kk
        · refine lv_tableIn (off := 1094) (tgt := 1139) hx hb dL_law_45 (by decide) (by decide) rfl rfl ?_
          exact lc_14 C0 hT hN hl0 hLk hI (by omega) hi6 hL ⟨by omega, by omega⟩ hW hl kk
        · refine lv_tableIn (off := 1107) (tgt := 1152) hx hb dL_law_45 (by decide) (by decide) rfl rfl ?_
          exact lc_15 C0 hT hN hl0 hLk hI (by omega) hi6 hL ⟨by omega, by omega⟩ hW hl kk
        · refine lv_tableIn (off := 1120) (tgt := 1165) hx hb dL_law_45 (by decide) (by decide) rfl rfl ?_
          exact lc_16 C0 hT hN hl0 hLk hI (by omega) hi6 hL ⟨by omega, by omega⟩ hW hl kk
        · refine lv_tableIn (off := 1176) (tgt := 1221) hx hb dL_law_45 (by decide) (by decide) rfl rfl ?_
          exact lc_17 C0 hT hN hl0 hLk hI (by omega) hi6 hL ⟨by omega, by omega⟩ hW hl kk
        · refine lv_tableIn (off := 1256) (tgt := 1301) hx hb dL_law_45 (by decide) (by decide) rfl rfl ?_
          exact lc_18 C0 hT hN hl0 hLk hI (by omega) hi6 hL ⟨by omega, by omega⟩ hW hl kk
        · refine lv_tableIn (off := 1312) (tgt := 1357) hx hb dL_law_45 (by decide) (by decide) rfl rfl ?_
          exact lc_19 C0 hT hN hl0 hLk hI (by omega) hi6 hL ⟨by omega, by omega⟩ hW hl kk
        · refine lv_tableIn (off := 1392) (tgt := 1437) hx hb dL_law_45 (by decide) (by decide) rfl rfl ?_
          exact lc_20 C0 hT hN hl0 hLk hI (by omega) hi6 hL ⟨by omega, by omega⟩ hW hl kk
        · refine lv_tableIn (off := 1460) (tgt := 1505) hx hb dL_law_45 (by decide) (by decide) rfl rfl ?_
          exact lc_21 C0 hT hN hl0 hLk hI (by omega) hi6 hL ⟨by omega, by omega⟩ hW hl kk
        · refine lv_tableIn (off := 1516) (tgt := 1561) hx hb dL_law_45 (by decide) (by decide) rfl rfl ?_
          exact lc_22 C0 hT hN hl0 hLk hI (by omega) hi6 hL ⟨by omega, by omega⟩ hW hl kk
        · refine lv_tableIn (off := 1572) (tgt := 1617) hx hb dL_law_45 (by decide) (by decide) rfl rfl ?_
          exact lc_23 C0 hT hN hl0 hLk hI (by omega) hi6 hL ⟨by omega, by omega⟩ hW hl kk
        · refine lv_tableIn (off := 1628) (tgt := 1673) hx hb dL_law_45 (by decide) (by decide) rfl rfl ?_
          exact lc_24 C0 hT hN hl0 hLk hI (by omega) hi6 hL ⟨by omega, by omega⟩ hW hl kk
        · refine lv_tableIn (off := 1684) (tgt := 1729) hx hb dL_law_45 (by decide) (by decide) rfl rfl ?_
          exact lc_25 C0 hT hN hl0 hLk hI (by omega) hi6 hL ⟨by omega, by omega⟩ hW hl kk
        · refine lv_tableIn (off := 1740) (tgt := 1785) hx hb dL_law_45 (by decide) (by decide) rfl rfl ?_
          exact lc_26 C0 hT hN hl0 hLk hI (by omega) hi6 hL ⟨by omega, by omega⟩ hW hl kk
        · refine lv_tableIn (off := 1836) (tgt := 1881) hx hb dL_law_45 (by decide) (by decide) rfl rfl ?_
          exact lc_27 C0 hT hN hl0 hLk hI (by omega) hi6 hL ⟨by omega, by omega⟩ hW hl kk
        · refine lv_tableIn (off := 1904) (tgt := 1949) hx hb dL_law_45 (by decide) (by decide) rfl rfl ?_
          exact lc_28 C0 hT hN hl0 hLk hI (by omega) hi6 hL ⟨by omega, by omega⟩ hW hl kk
        · refine lv_tableIn (off := 1972) (tgt := 2017) hx hb dL_law_45 (by decide) (by decide) rfl rfl ?_
          exact lc_29 C0 hT hN hl0 hLk hI (by omega) hi6 hL ⟨by omega, by omega⟩ hW hl kk
        · refine lv_tableIn (off := 1986) (tgt := 2031) hx hb dL_law_45 (by decide) (by decide) rfl rfl ?_
          exact lc_30 C0 hT hN hl0 hLk hI (by omega) hi6 hL ⟨by omega, by omega⟩ hW hl kk
        · refine lv_tableIn (off := 2000) (tgt := 2045) hx hb dL_law_45 (by decide) (by decide) rfl rfl ?_
          exact lc_31 C0 hT hN hl0 hLk hI (by omega) hi6 hL ⟨by omega, by omega⟩ hW hl kk
        · refine lv_tableIn (off := 2013) (tgt := 2058) hx hb dL_law_45 (by decide) (by decide) rfl rfl ?_
          exact lc_32 C0 hT hN hl0 hLk hI (by omega) hi6 hL ⟨by omega, by omega⟩ hW hl kk
        · refine lv_tableIn (off := 2079) (tgt := 2124) hx hb dL_law_45 (by decide) (by decide) rfl rfl ?_
          exact lc_33 C0 hT hN hl0 hLk hI (by omega) hi6 hL ⟨by omega, by omega⟩ hW hl kk
        · refine lv_tableIn (off := 2144) (tgt := 2189) hx hb dL_law_45 (by decide) (by decide) rfl rfl ?_
          exact lc_34 C0 hT hN hl0 hLk hI (by omega) hi6 hL ⟨by omega, by omega⟩ hW hl kk
        · refine lv_tableIn (off := 2187) (tgt := 2232) hx hb dL_law_45 (by decide) (by decide) rfl rfl ?_
          exact lc_35 C0 hT hN hl0 hLk hI (by omega) hi6 hL ⟨by omega, by omega⟩ hW hl kk
      · refine lv_tableOut (tgt := 2245) hx hb dL_law_45 (Or.inr (by rw [nI_toInt (by omega)]; omega)) rfl ?_
        refine W.widen (k := cells + 4) (n := slots + 88) (by omega) (by omega) ?_
        exact kk (N, R, Fr, inc) α L f g th H locs ls (hI.mono (Nat.le_succ n)) hLk rfl hW hl
