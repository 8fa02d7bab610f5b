/-! The law, case by case (2) -/
set_option maxHeartbeats 4000000 in
set_option maxRecDepth 100000 in
theorem lc_9 {p : Program} {l : Launch} {e : Env} {s : State} {m : MethodId} {below : List Frame} {meth : Method} {c : Code} {b Ls : Nat} {xs : Nat → Int32} (C0 : lw_At p s m meth c b Ls xs) (hT : TH s.heap.size s) (hN : NC s) (hl0 : l.stackTraces = false) {D : va_G} {cA : Nat → ClassId} {β : Nat → Nat} {α : Nat → Nat → Nat} {L : List (Nat × Nat)} {N : Nat → Nat → Nat} {R : Nat → Nat → Nat → Int32} {Fr : Nat → UInt32} {inc : Int64} {th : Int32} {o oD : Nat} {f : Nat → Int64} {g : Nat → UInt64} {i n : Nat} {H : Heap} {locs : List Loc} {cells slots : Nat} {ls : Array Slot} (hLk : LOK N L) (hI : IV n (N, R, Fr, inc)) (hn : n ≤ 1000) (hi : i + 6 ≤ Ls) (hL : Ls ≤ 3072) (hc : cells + 4 ≤ 603072 ∧ slots + 88 ≤ 7231594) (hW : Cw D cA s (fun q => s.heap.size ≤ q) (mWd cA β (o, .inl (cA 4, 1, .inr (.inl f))) (oD, .inl (cA 5, 1, .inr (.inr (.inr (.inl g))))) (L.map (xf cA α (N, R, Fr, inc))) th (N, R, Fr, inc)) H locs) (hl : lv_has ls 9 [(0, .ref b), (1, .ref (α 0 0)), (2, .ref (β 0)), (3, .ref o), (4, .ref oD), (5, .int (nI i))]) (kk : LKK p l e s m below meth c D cA b (α 0 0) o oD β i n cells slots) : W p l e room_1 s m #[Value.ref b] below meth c H locs cells slots (lw_Z below #[Value.ref b] s) (F0 m 825 ls []) := by
  obtain ⟨hx, hb, hr, hml, hown, hts, hX, hbl, hlocks, hgv⟩ := id C0
  have F := law_F C0
  have h : INV n N R Fr inc := hI.1
  obtain ⟨p1, hp1⟩ : ∃ v, xs (nI i + 1).toNatClampNeg = v := ⟨_, rfl⟩
  refine lv_aload_n hx hb dL_law_825 rfl (lv_at hl 1 rfl) ?_
  refine lv_aload_n hx hb dL_law_826 rfl (lv_at hl 0 rfl) ?_
  refine lv_iload hx hb dL_law_827 (lv_at hl 5 rfl) ?_
  refine lv_iconst (v := 1) hx hb dL_law_829 (by decide) ?_
  refine lv_iadd hx hb dL_law_830 ?_
  refine k_sld C0 hW.2.2.2.1 (sc_1 hi hL) hp1 dL_law_831 ?_
  refine lv_aload hx hb dL_law_832 (lv_at hl 4 rfl) ?_
  have hW := hW.eq xm
  refine k_callH (as := [.ref (α 0 0), .int p1, .ref oD]) (rest := []) F hT hN (fun _ h => h) (Nat.le_refl _) hW (met_L_fresh l D cA (mW cA β th (N, R, Fr, inc)) α L N R Fr inc oD g (o, .inl (cA 4, 1, .inr (.inl f))) n p1 s.heap.size hl0 hLk hI hn) rfl ML_L_163 ST_L_fresh IN_L CO_L_fresh hdS_L_fresh rfl rfl ⟨(Nat.le_of_ble_eq_true rfl), (Nat.le_of_ble_eq_true rfl)⟩ rfl rfl hl.1 (Nat.le_of_ble_eq_true rfl) dL_law_834 ⟨by show _ ≤ 603072; omega, by show _ ≤ 7231594; omega⟩ (fun r u H locs hw hW => ?_)
  obtain ⟨f2, α2, L2⟩ := u
  obtain ⟨hr2, hα, hLk2, hf2⟩ := hw
  dsimp only at hα hLk2 hf2
  subst hr2
  have hW : Cw D cA s (fun q => s.heap.size ≤ q) (mWd cA β (o, .inl (cA 4, 1, .inr (.inl f))) (oD, .inl (cA 5, 1, .inr (.inr (.inr (.inl f2))))) (L2.map (xf cA α2 (op_fresh (N, R, Fr, inc) p1).2.2)) th (N, R, Fr, inc)) H locs := hW
  refine lv_istore (lv' := [(6, .int (nI (op_fresh (N, R, Fr, inc) p1).1)), (0, .ref b), (1, .ref (α 0 0)), (2, .ref (β 0)), (3, .ref o), (4, .ref oD), (5, .int (nI i))]) hx hb dL_law_837 hl (by decide) rfl (fun ls hl => ?_)
  refine lv_aload_n hx hb dL_law_839 rfl (lv_at hl 3 rfl) ?_
  refine lv_aload_n hx hb dL_law_840 rfl (lv_at hl 1 rfl) ?_
  refine lv_iload hx hb dL_law_841 (lv_at hl 6 rfl) ?_
  refine lv_iconst (v := 1) hx hb dL_law_843 (by decide) ?_
  refine lv_iadd hx hb dL_law_844 ?_
  refine k_sld C0 hW.2.2.2.1 (sc_1 hi hL) hp1 dL_law_845 ?_
  refine k_callVf (as := [.int p1]) (rest := []) (b := β 0) (ci := 7) (q0 := 2) F hW (met_X5_fresh l D cA β (o, .inl (cA 4, 1, .inr (.inl f))) (oD, .inl (cA 5, 1, .inr (.inr (.inr (.inl f2))))) (List.map (xf cA α2 (op_fresh (N, R, Fr, inc) p1).2.2) L2) th N R Fr inc p1 (iv_ic h).2.1) rfl ML_L_166 IM_X5_fresh SE_X5_fresh IN_X5 CO_X5_fresh hdV_X5_fresh rfl rfl ⟨(Nat.le_of_ble_eq_true rfl), (Nat.le_of_ble_eq_true rfl)⟩ rfl rfl rfl rfl rfl hl.1 (Nat.le_of_ble_eq_true rfl) dL_law_846 ⟨by show _ ≤ 603072; omega, by show _ ≤ 7231594; omega⟩ (fun r u H locs hw hW => ?_)
  subst hw
  refine lv_fstore (lv' := [(7, .float (op_fresh (N, R, Fr, inc) p1).2.1), (6, .int (nI (op_fresh (N, R, Fr, inc) p1).1)), (0, .ref b), (1, .ref (α 0 0)), (2, .ref (β 0)), (3, .ref o), (4, .ref oD), (5, .int (nI i))]) hx hb dL_law_849 hl (by decide) rfl (fun ls hl => ?_)
  refine lv_aload_n hx hb dL_law_851 rfl (lv_at hl 4 rfl) ?_
  refine k_callVi (as := []) (rest := []) (b := β 0) (ci := 7) (q0 := 2) F hW (met_thr l D cA β (o, .inl (cA 4, 1, .inr (.inl f))) (oD, .inl (cA 5, 1, .inr (.inr (.inr (.inl f2))))) (List.map (xf cA α2 (op_fresh (N, R, Fr, inc) p1).2.2) L2) (nI (op_fresh (N, R, Fr, inc) p1).1) (op_fresh (N, R, Fr, inc) p1).2.2) rfl ML_L_130 IM_X5_thrown SE_X5_thrown IN_X5 CO_X5_thrown hdV_X5_thrown rfl rfl ⟨(Nat.le_of_ble_eq_true rfl), (Nat.le_of_ble_eq_true rfl)⟩ rfl rfl rfl rfl rfl hl.1 (Nat.le_of_ble_eq_true rfl) dL_law_852 ⟨by show _ ≤ 603072; omega, by show _ ≤ 7231594; omega⟩ (fun r u H locs hw hW => ?_)
  subst hw
  refine lv_iload hx hb dL_law_855 (lv_at hl 1 rfl) ?_
  refine lv_icmp_eq (tgt := 862) hx hb dL_law_857 (by decide) (fun _ => ?_) (fun h => absurd (rfl) h)
  refine lv_iload hx hb dL_law_862 (lv_at hl 1 rfl) ?_
  refine lv_if_ne (tgt := 900) hx hb dL_law_864 (by decide) (fun h0 => ?_) (fun h0 => ?_)
  · refine lv_goto (tgt := 2245) hx hb dL_law_900 (by decide) ?_
    refine W.widen (k := cells + 4) (n := slots + 88) (by omega) (by omega) ?_
    exact kk ((op_fresh (N, R, Fr, inc) p1).2.2) α2 L2 f f2 (nI (op_fresh (N, R, Fr, inc) p1).1) H locs ls (by rw [st_fresh N R Fr inc p1]; exact hI.mono (Nat.le_succ n)) hLk2 hα hW (lv_sub hl [2, 3, 4, 5, 6, 7] rfl)
  · have h1 : (op_fresh (N, R, Fr, inc) p1).1 = 0 := nz_code (Nat.le_trans (ce_fresh N R Fr inc p1).1 (Nat.le_of_ble_eq_true rfl)) h0
    refine lv_aload hx hb dL_law_867 (lv_at hl 6 rfl) ?_
    refine lv_iconst (v := 0) hx hb dL_law_869 (by decide) ?_
    have hno := no_fresh h h1
    refine k_dald (v := FP.f2d (op_fresh (N, R, Fr, inc) p1).2.1) F hW 1 rfl z_in (by rw [z_cl]; exact hf2 h1) dL_law_870 ?_
    refine lv_fload hx hb dL_law_871 (lv_at hl 0 rfl) ?_
    refine lv_f2d hx hb dL_law_873 (nn_f2d hno) ?_
    refine lv_dcmp hx hb dL_law_874 ?_
    rw [dself (f2d_no hno)]
    refine lv_if_eq (tgt := 900) hx hb dL_law_875 (by decide) (fun _ => ?_) (fun h => absurd (rfl) h)
    refine lv_goto (tgt := 2245) hx hb dL_law_900 (by decide) ?_
    refine W.widen (k := cells + 4) (n := slots + 88) (by omega) (by omega) ?_
    exact kk ((op_fresh (N, R, Fr, inc) p1).2.2) α2 L2 f f2 (nI (op_fresh (N, R, Fr, inc) p1).1) H locs ls (by rw [st_fresh N R Fr inc p1]; exact hI.mono (Nat.le_succ n)) hLk2 hα hW (lv_sub hl [2, 3, 4, 5, 6, 7] rfl)
set_option maxHeartbeats 4000000 in
set_option maxRecDepth 100000 in
theorem lc_10 {p : Program} {l : Launch} {e : Env} {s : State} {m : MethodId} {below : List Frame} {meth : Method} {c : Code} {b Ls : Nat} {xs : Nat → Int32} (C0 : lw_At p s m meth c b Ls xs) (hT : TH s.heap.size s) (hN : NC s) (hl0 : l.stackTraces = false) {D : va_G} {cA : Nat → ClassId} {β : Nat → Nat} {α : Nat → Nat → Nat} {L : List (Nat × Nat)} {N : Nat → Nat → Nat} {R : Nat → Nat → Nat → Int32} {Fr : Nat → UInt32} {inc : Int64} {th : Int32} {o oD : Nat} {f : Nat → Int64} {g : Nat → UInt64} {i n : Nat} {H : Heap} {locs : List Loc} {cells slots : Nat} {ls : Array Slot} (hLk : LOK N L) (hI : IV n (N, R, Fr, inc)) (hn : n ≤ 1000) (hi : i + 6 ≤ Ls) (hL : Ls ≤ 3072) (hc : cells + 4 ≤ 603072 ∧ slots + 88 ≤ 7231594) (hW : Cw D cA s (fun q => s.heap.size ≤ q) (mWd cA β (o, .inl (cA 4, 1, .inr (.inl f))) (oD, .inl (cA 5, 1, .inr (.inr (.inr (.inl g))))) (L.map (xf cA α (N, R, Fr, inc))) th (N, R, Fr, inc)) H locs) (hl : lv_has ls 9 [(0, .ref b), (1, .ref (α 0 0)), (2, .ref (β 0)), (3, .ref o), (4, .ref oD), (5, .int (nI i))]) (kk : LKK p l e s m below meth c D cA b (α 0 0) o oD β i n cells slots) : W p l e room_1 s m #[Value.ref b] below meth c H locs cells slots (lw_Z below #[Value.ref b] s) (F0 m 903 ls []) := by
  obtain ⟨hx, hb, hr, hml, hown, hts, hX, hbl, hlocks, hgv⟩ := id C0
  have F := law_F C0
  have h : INV n N R Fr inc := hI.1
  obtain ⟨p1, hp1⟩ : ∃ v, xs (nI i + 1).toNatClampNeg = v := ⟨_, rfl⟩
  refine lv_aload_n hx hb dL_law_903 rfl (lv_at hl 1 rfl) ?_
  refine lv_aload_n hx hb dL_law_904 rfl (lv_at hl 0 rfl) ?_
  refine lv_iload hx hb dL_law_905 (lv_at hl 5 rfl) ?_
  refine lv_iconst (v := 1) hx hb dL_law_907 (by decide) ?_
  refine lv_iadd hx hb dL_law_908 ?_
  refine k_sld C0 hW.2.2.2.1 (sc_1 hi hL) hp1 dL_law_909 ?_
  refine lv_aload_n hx hb dL_law_910 rfl (lv_at hl 3 rfl) ?_
  have hW := hW.eq xm
  refine k_callH (as := [.ref (α 0 0), .int p1, .ref o]) (rest := []) F hT hN (fun _ h => h) (Nat.le_refl _) hW (met_L_freshBits l D cA (mW cA β th (N, R, Fr, inc)) α L N R Fr inc o f (oD, .inl (cA 5, 1, .inr (.inr (.inr (.inl g))))) n p1 s.heap.size hl0 hLk hI hn) rfl ML_L_167 ST_L_freshBits IN_L CO_L_freshBits hdS_L_freshBits rfl rfl ⟨(Nat.le_of_ble_eq_true rfl), (Nat.le_of_ble_eq_true rfl)⟩ rfl rfl hl.1 (Nat.le_of_ble_eq_true rfl) dL_law_911 ⟨by show _ ≤ 603072; omega, by show _ ≤ 7231594; omega⟩ (fun r u H locs hw hW => ?_)
  obtain ⟨f2, α2, L2⟩ := u
  obtain ⟨hr2, hα, hLk2, hf2⟩ := hw
  dsimp only at hα hLk2 hf2
  subst hr2
  have hW : Cw D cA s (fun q => s.heap.size ≤ q) (mWd cA β (o, .inl (cA 4, 1, .inr (.inl f2))) (oD, .inl (cA 5, 1, .inr (.inr (.inr (.inl g))))) (L2.map (xf cA α2 (op_freshBits (N, R, Fr, inc) p1).2.2)) th (N, R, Fr, inc)) H locs := hW
  refine lv_istore (lv' := [(6, .int (nI (op_freshBits (N, R, Fr, inc) p1).1)), (0, .ref b), (1, .ref (α 0 0)), (2, .ref (β 0)), (3, .ref o), (4, .ref oD), (5, .int (nI i))]) hx hb dL_law_914 hl (by decide) rfl (fun ls hl => ?_)
  refine lv_aload_n hx hb dL_law_916 rfl (lv_at hl 3 rfl) ?_
  refine lv_aload_n hx hb dL_law_917 rfl (lv_at hl 1 rfl) ?_
  refine lv_iload hx hb dL_law_918 (lv_at hl 6 rfl) ?_
  refine lv_iconst (v := 1) hx hb dL_law_920 (by decide) ?_
  refine lv_iadd hx hb dL_law_921 ?_
  refine k_sld C0 hW.2.2.2.1 (sc_1 hi hL) hp1 dL_law_922 ?_
  refine k_callVi (as := [.int p1]) (rest := []) (b := β 0) (ci := 7) (q0 := 2) F hW (met_X5_freshBits l D cA β (o, .inl (cA 4, 1, .inr (.inl f2))) (oD, .inl (cA 5, 1, .inr (.inr (.inr (.inl g))))) (List.map (xf cA α2 (op_freshBits (N, R, Fr, inc) p1).2.2) L2) th N R Fr inc p1 (iv_ic h).2.1 (iv_lot h)) rfl ML_L_169 IM_X5_freshBits SE_X5_freshBits IN_X5 CO_X5_freshBits hdV_X5_freshBits rfl rfl ⟨(Nat.le_of_ble_eq_true rfl), (Nat.le_of_ble_eq_true rfl)⟩ rfl rfl rfl rfl rfl hl.1 (Nat.le_of_ble_eq_true rfl) dL_law_923 ⟨by show _ ≤ 603072; omega, by show _ ≤ 7231594; omega⟩ (fun r u H locs hw hW => ?_)
  subst hw
  refine lv_istore (lv' := [(7, .int (op_freshBits (N, R, Fr, inc) p1).2.1), (6, .int (nI (op_freshBits (N, R, Fr, inc) p1).1)), (0, .ref b), (1, .ref (α 0 0)), (2, .ref (β 0)), (3, .ref o), (4, .ref oD), (5, .int (nI i))]) hx hb dL_law_926 hl (by decide) rfl (fun ls hl => ?_)
  refine lv_aload_n hx hb dL_law_928 rfl (lv_at hl 4 rfl) ?_
  refine k_callVi (as := []) (rest := []) (b := β 0) (ci := 7) (q0 := 2) F hW (met_thr l D cA β (o, .inl (cA 4, 1, .inr (.inl f2))) (oD, .inl (cA 5, 1, .inr (.inr (.inr (.inl g))))) (List.map (xf cA α2 (op_freshBits (N, R, Fr, inc) p1).2.2) L2) (nI (op_freshBits (N, R, Fr, inc) p1).1) (op_freshBits (N, R, Fr, inc) p1).2.2) rfl ML_L_130 IM_X5_thrown SE_X5_thrown IN_X5 CO_X5_thrown hdV_X5_thrown rfl rfl ⟨(Nat.le_of_ble_eq_true rfl), (Nat.le_of_ble_eq_true rfl)⟩ rfl rfl rfl rfl rfl hl.1 (Nat.le_of_ble_eq_true rfl) dL_law_929 ⟨by show _ ≤ 603072; omega, by show _ ≤ 7231594; omega⟩ (fun r u H locs hw hW => ?_)
  subst hw
  refine lv_iload hx hb dL_law_932 (lv_at hl 1 rfl) ?_
  refine lv_icmp_eq (tgt := 939) hx hb dL_law_934 (by decide) (fun _ => ?_) (fun h => absurd (rfl) h)
  refine lv_iload hx hb dL_law_939 (lv_at hl 1 rfl) ?_
  refine lv_if_ne (tgt := 956) hx hb dL_law_941 (by decide) (fun h0 => ?_) (fun h0 => ?_)
  · refine lv_goto (tgt := 2245) hx hb dL_law_956 (by decide) ?_
    refine W.widen (k := cells + 4) (n := slots + 88) (by omega) (by omega) ?_
    exact kk ((op_freshBits (N, R, Fr, inc) p1).2.2) α2 L2 f2 g (nI (op_freshBits (N, R, Fr, inc) p1).1) H locs ls (by rw [st_freshBits N R Fr inc p1]; exact hI.mono (Nat.le_succ n)) hLk2 hα hW (lv_sub hl [2, 3, 4, 5, 6, 7] rfl)
  · have h1 : (op_freshBits (N, R, Fr, inc) p1).1 = 0 := nz_code (Nat.le_trans (ce_freshBits N R Fr inc p1).1 (Nat.le_of_ble_eq_true rfl)) h0
    refine lv_aload_n hx hb dL_law_944 rfl (lv_at hl 5 rfl) ?_
    refine lv_iconst (v := 0) hx hb dL_law_945 (by decide) ?_
    refine k_lald (v := ((op_freshBits (N, R, Fr, inc) p1).2.1).toInt64) F hW 0 rfl z_in (by rw [z_cl]; exact hf2 h1) dL_law_946 ?_
    refine lv_iload hx hb dL_law_947 (lv_at hl 0 rfl) ?_
    refine lv_i2l hx hb dL_law_949 rfl ?_
    refine W.lcmp hx hb dL_law_950 ?_
    rw [lg_self]
    refine lv_if_eq (tgt := 956) hx hb dL_law_951 (by decide) (fun _ => ?_) (fun h => absurd (rfl) h)
    refine lv_goto (tgt := 2245) hx hb dL_law_956 (by decide) ?_
    refine W.widen (k := cells + 4) (n := slots + 88) (by omega) (by omega) ?_
    exact kk ((op_freshBits (N, R, Fr, inc) p1).2.2) α2 L2 f2 g (nI (op_freshBits (N, R, Fr, inc) p1).1) H locs ls (by rw [st_freshBits N R Fr inc p1]; exact hI.mono (Nat.le_succ n)) hLk2 hα hW (lv_sub hl [2, 3, 4, 5, 6, 7] rfl)
set_option maxHeartbeats 4000000 in
set_option maxRecDepth 100000 in
theorem lc_11 {p : Program} {l : Launch} {e : Env} {s : State} {m : MethodId} {below : List Frame} {meth : Method} {c : Code} {b Ls : Nat} {xs : Nat → Int32} (C0 : lw_At p s m meth c b Ls xs) (hT : TH s.heap.size s) (hN : NC s) (hl0 : l.stackTraces = false) {D : va_G} {cA : Nat → ClassId} {β : Nat → Nat} {α : Nat → Nat → Nat} {L : List (Nat × Nat)} {N : Nat → Nat → Nat} {R : Nat → Nat → Nat → Int32} {Fr : Nat → UInt32} {inc : Int64} {th : Int32} {o oD : Nat} {f : Nat → Int64} {g : Nat → UInt64} {i n : Nat} {H : Heap} {locs : List Loc} {cells slots : Nat} {ls : Array Slot} (hLk : LOK N L) (hI : IV n (N, R, Fr, inc)) (hn : n ≤ 1000) (hi : i + 6 ≤ Ls) (hL : Ls ≤ 3072) (hc : cells + 4 ≤ 603072 ∧ slots + 88 ≤ 7231594) (hW : Cw D cA s (fun q => s.heap.size ≤ q) (mWd cA β (o, .inl (cA 4, 1, .inr (.inl f))) (oD, .inl (cA 5, 1, .inr (.inr (.inr (.inl g))))) (L.map (xf cA α (N, R, Fr, inc))) th (N, R, Fr, inc)) H locs) (hl : lv_has ls 9 [(0, .ref b), (1, .ref (α 0 0)), (2, .ref (β 0)), (3, .ref o), (4, .ref oD), (5, .int (nI i))]) (kk : LKK p l e s m below meth c D cA b (α 0 0) o oD β i n cells slots) : W p l e room_1 s m #[Value.ref b] below meth c H locs cells slots (lw_Z below #[Value.ref b] s) (F0 m 959 ls []) := by
  obtain ⟨hx, hb, hr, hml, hown, hts, hX, hbl, hlocks, hgv⟩ := id C0
  have F := law_F C0
  have h : INV n N R Fr inc := hI.1
  obtain ⟨p1, hp1⟩ : ∃ v, xs (nI i + 1).toNatClampNeg = v := ⟨_, rfl⟩
  obtain ⟨p2, hp2⟩ : ∃ v, xs (nI i + 2).toNatClampNeg = v := ⟨_, rfl⟩
  refine lv_aload_n hx hb dL_law_959 rfl (lv_at hl 1 rfl) ?_
  refine lv_aload_n hx hb dL_law_960 rfl (lv_at hl 0 rfl) ?_
  refine lv_iload hx hb dL_law_961 (lv_at hl 5 rfl) ?_
  refine lv_iconst (v := 1) hx hb dL_law_963 (by decide) ?_
  refine lv_iadd hx hb dL_law_964 ?_
  refine k_sld C0 hW.2.2.2.1 (sc_1 hi hL) hp1 dL_law_965 ?_
  refine lv_aload_n hx hb dL_law_966 rfl (lv_at hl 0 rfl) ?_
  refine lv_iload hx hb dL_law_967 (lv_at hl 5 rfl) ?_
  refine lv_iconst (v := 2) hx hb dL_law_969 (by decide) ?_
  refine lv_iadd hx hb dL_law_970 ?_
  refine k_sld C0 hW.2.2.2.1 (sc_2 hi hL) hp2 dL_law_971 ?_
  refine lv_aload_n hx hb dL_law_972 rfl (lv_at hl 3 rfl) ?_
  have hW := hW.eq xm
  refine k_callH (as := [.ref (α 0 0), .int p1, .int p2, .ref o]) (rest := []) F hT hN (fun _ h => h) (Nat.le_refl _) hW (met_L_ice l D cA (mW cA β th (N, R, Fr, inc)) α L N R Fr inc o f (oD, .inl (cA 5, 1, .inr (.inr (.inr (.inl g))))) n p1 p2 s.heap.size hl0 hLk hI hn) rfl ML_L_170 ST_L_ice IN_L CO_L_ice hdS_L_ice rfl rfl ⟨(Nat.le_of_ble_eq_true rfl), (Nat.le_of_ble_eq_true rfl)⟩ rfl rfl hl.1 (Nat.le_of_ble_eq_true rfl) dL_law_973 ⟨by show _ ≤ 603072; omega, by show _ ≤ 7231594; omega⟩ (fun r u H locs hw hW => ?_)
  obtain ⟨f2, α2, L2⟩ := u
  obtain ⟨hr2, hα, hLk2, hf2⟩ := hw
  dsimp only at hα hLk2 hf2
  subst hr2
  have hW : Cw D cA s (fun q => s.heap.size ≤ q) (mWd cA β (o, .inl (cA 4, 1, .inr (.inl f2))) (oD, .inl (cA 5, 1, .inr (.inr (.inr (.inl g))))) (L2.map (xf cA α2 (op_ice (N, R, Fr, inc) p1 p2).2.2)) th (N, R, Fr, inc)) H locs := hW
  refine lv_istore (lv' := [(6, .int (nI (op_ice (N, R, Fr, inc) p1 p2).1)), (0, .ref b), (1, .ref (α 0 0)), (2, .ref (β 0)), (3, .ref o), (4, .ref oD), (5, .int (nI i))]) hx hb dL_law_976 hl (by decide) rfl (fun ls hl => ?_)
  refine lv_aload_n hx hb dL_law_978 rfl (lv_at hl 3 rfl) ?_
  refine lv_aload_n hx hb dL_law_979 rfl (lv_at hl 1 rfl) ?_
  refine lv_iload hx hb dL_law_980 (lv_at hl 6 rfl) ?_
  refine lv_iconst (v := 1) hx hb dL_law_982 (by decide) ?_
  refine lv_iadd hx hb dL_law_983 ?_
  refine k_sld C0 hW.2.2.2.1 (sc_1 hi hL) hp1 dL_law_984 ?_
  refine lv_aload_n hx hb dL_law_985 rfl (lv_at hl 1 rfl) ?_
  refine lv_iload hx hb dL_law_986 (lv_at hl 6 rfl) ?_
  refine lv_iconst (v := 2) hx hb dL_law_988 (by decide) ?_
  refine lv_iadd hx hb dL_law_989 ?_
  refine k_sld C0 hW.2.2.2.1 (sc_2 hi hL) hp2 dL_law_990 ?_
  refine k_callVi (as := [.int p1, .int p2]) (rest := []) (b := β 0) (ci := 7) (q0 := 2) F hW (met_X5_ice l D cA β (o, .inl (cA 4, 1, .inr (.inl f2))) (oD, .inl (cA 5, 1, .inr (.inr (.inr (.inl g))))) (List.map (xf cA α2 (op_ice (N, R, Fr, inc) p1 p2).2.2) L2) th N R Fr inc p1 p2 (iv_ic h).2.1) rfl ML_L_172 IM_X5_ice SE_X5_ice IN_X5 CO_X5_ice hdV_X5_ice rfl rfl ⟨(Nat.le_of_ble_eq_true rfl), (Nat.le_of_ble_eq_true rfl)⟩ rfl rfl rfl rfl rfl hl.1 (Nat.le_of_ble_eq_true rfl) dL_law_991 ⟨by show _ ≤ 603072; omega, by show _ ≤ 7231594; omega⟩ (fun r u H locs hw hW => ?_)
  subst hw
  refine lv_istore (lv' := [(7, .int (op_ice (N, R, Fr, inc) p1 p2).2.1), (6, .int (nI (op_ice (N, R, Fr, inc) p1 p2).1)), (0, .ref b), (1, .ref (α 0 0)), (2, .ref (β 0)), (3, .ref o), (4, .ref oD), (5, .int (nI i))]) hx hb dL_law_994 hl (by decide) rfl (fun ls hl => ?_)
  refine lv_aload_n hx hb dL_law_996 rfl (lv_at hl 4 rfl) ?_
  refine k_callVi (as := []) (rest := []) (b := β 0) (ci := 7) (q0 := 2) F hW (met_thr l D cA β (o, .inl (cA 4, 1, .inr (.inl f2))) (oD, .inl (cA 5, 1, .inr (.inr (.inr (.inl g))))) (List.map (xf cA α2 (op_ice (N, R, Fr, inc) p1 p2).2.2) L2) (nI (op_ice (N, R, Fr, inc) p1 p2).1) (op_ice (N, R, Fr, inc) p1 p2).2.2) rfl ML_L_130 IM_X5_thrown SE_X5_thrown IN_X5 CO_X5_thrown hdV_X5_thrown rfl rfl ⟨(Nat.le_of_ble_eq_true rfl), (Nat.le_of_ble_eq_true rfl)⟩ rfl rfl rfl rfl rfl hl.1 (Nat.le_of_ble_eq_true rfl) dL_law_997 ⟨by show _ ≤ 603072; omega, by show _ ≤ 7231594; omega⟩ (fun r u H locs hw hW => ?_)
  subst hw
  refine lv_iload hx hb dL_law_1000 (lv_at hl 1 rfl) ?_
  refine lv_icmp_eq (tgt := 1007) hx hb dL_law_1002 (by decide) (fun _ => ?_) (fun h => absurd (rfl) h)
  refine lv_iload hx hb dL_law_1007 (lv_at hl 1 rfl) ?_
  refine lv_if_ne (tgt := 1024) hx hb dL_law_1009 (by decide) (fun h0 => ?_) (fun h0 => ?_)
  · refine lv_goto (tgt := 2245) hx hb dL_law_1024 (by decide) ?_
    refine W.widen (k := cells + 4) (n := slots + 88) (by omega) (by omega) ?_
    exact kk ((op_ice (N, R, Fr, inc) p1 p2).2.2) α2 L2 f2 g (nI (op_ice (N, R, Fr, inc) p1 p2).1) H locs ls ((hI.ice p1 p2).mono (Nat.le_succ n)) hLk2 hα hW (lv_sub hl [2, 3, 4, 5, 6, 7] rfl)
  · have h1 : (op_ice (N, R, Fr, inc) p1 p2).1 = 0 := nz_code (Nat.le_trans (ce_ice N R Fr inc p1 p2).1 (Nat.le_of_ble_eq_true rfl)) h0
    refine lv_aload_n hx hb dL_law_1012 rfl (lv_at hl 5 rfl) ?_
    refine lv_iconst (v := 0) hx hb dL_law_1013 (by decide) ?_
    refine k_lald (v := ((op_ice (N, R, Fr, inc) p1 p2).2.1).toInt64) F hW 0 rfl z_in (by rw [z_cl]; exact hf2 h1) dL_law_1014 ?_
    refine lv_iload hx hb dL_law_1015 (lv_at hl 0 rfl) ?_
    refine lv_i2l hx hb dL_law_1017 rfl ?_
    refine W.lcmp hx hb dL_law_1018 ?_
    rw [lg_self]
    refine lv_if_eq (tgt := 1024) hx hb dL_law_1019 (by decide) (fun _ => ?_) (fun h => absurd (rfl) h)
    refine lv_goto (tgt := 2245) hx hb dL_law_1024 (by decide) ?_
    refine W.widen (k := cells + 4) (n := slots + 88) (by omega) (by omega) ?_
    exact kk ((op_ice (N, R, Fr, inc) p1 p2).2.2) α2 L2 f2 g (nI (op_ice (N, R, Fr, inc) p1 p2).1) H locs ls ((hI.ice p1 p2).mono (Nat.le_succ n)) hLk2 hα hW (lv_sub hl [2, 3, 4, 5, 6, 7] rfl)
set_option maxHeartbeats 4000000 in
set_option maxRecDepth 100000 in
theorem lc_12 {p : Program} {l : Launch} {e : Env} {s : State} {m : MethodId} {below : List Frame} {meth : Method} {c : Code} {b Ls : Nat} {xs : Nat → Int32} (C0 : lw_At p s m meth c b Ls xs) (hT : TH s.heap.size s) (hN : NC s) (hl0 : l.stackTraces = false) {D : va_G} {cA : Nat → ClassId} {β : Nat → Nat} {α : Nat → Nat → Nat} {L : List (Nat × Nat)} {N : Nat → Nat → Nat} {R : Nat → Nat → Nat → Int32} {Fr : Nat → UInt32} {inc : Int64} {th : Int32} {o oD : Nat} {f : Nat → Int64} {g : Nat → UInt64} {i n : Nat} {H : Heap} {locs : List Loc} {cells slots : Nat} {ls : Array Slot} (hLk : LOK N L) (hI : IV n (N, R, Fr, inc)) (hn : n ≤ 1000) (hi : i + 6 ≤ Ls) (hL : Ls ≤ 3072) (hc : cells + 4 ≤ 603072 ∧ slots + 88 ≤ 7231594) (hW : Cw D cA s (fun q => s.heap.size ≤ q) (mWd cA β (o, .inl (cA 4, 1, .inr (.inl f))) (oD, .inl (cA 5, 1, .inr (.inr (.inr (.inl g))))) (L.map (xf cA α (N, R, Fr, inc))) th (N, R, Fr, inc)) H locs) (hl : lv_has ls 9 [(0, .ref b), (1, .ref (α 0 0)), (2, .ref (β 0)), (3, .ref o), (4, .ref oD), (5, .int (nI i))]) (kk : LKK p l e s m below meth c D cA b (α 0 0) o oD β i n cells slots) : W p l e room_1 s m #[Value.ref b] below meth c H locs cells slots (lw_Z below #[Value.ref b] s) (F0 m 1027 ls []) := by
  obtain ⟨hx, hb, hr, hml, hown, hts, hX, hbl, hlocks, hgv⟩ := id C0
  have F := law_F C0
  have h : INV n N R Fr inc := hI.1
  obtain ⟨p1, hp1⟩ : ∃ v, xs (nI i + 1).toNatClampNeg = v := ⟨_, rfl⟩
  refine lv_aload_n hx hb dL_law_1027 rfl (lv_at hl 1 rfl) ?_
  refine lv_aload_n hx hb dL_law_1028 rfl (lv_at hl 0 rfl) ?_
  refine lv_iload hx hb dL_law_1029 (lv_at hl 5 rfl) ?_
  refine lv_iconst (v := 1) hx hb dL_law_1031 (by decide) ?_
  refine lv_iadd hx hb dL_law_1032 ?_
  refine k_sld C0 hW.2.2.2.1 (sc_1 hi hL) hp1 dL_law_1033 ?_
  refine lv_aload_n hx hb dL_law_1034 rfl (lv_at hl 3 rfl) ?_
  have hW := hW.eq xm
  refine k_callH (as := [.ref (α 0 0), .int p1, .ref o]) (rest := []) F hT hN (fun _ h => h) (Nat.le_refl _) hW (met_L_iceOn l D cA (mW cA β th (N, R, Fr, inc)) α L N R Fr inc o f (oD, .inl (cA 5, 1, .inr (.inr (.inr (.inl g))))) n p1 s.heap.size hl0 hLk hI hn) rfl ML_L_173 ST_L_iceOn IN_L CO_L_iceOn hdS_L_iceOn rfl rfl ⟨(Nat.le_of_ble_eq_true rfl), (Nat.le_of_ble_eq_true rfl)⟩ rfl rfl hl.1 (Nat.le_of_ble_eq_true rfl) dL_law_1035 ⟨by show _ ≤ 603072; omega, by show _ ≤ 7231594; omega⟩ (fun r u H locs hw hW => ?_)
  obtain ⟨f2, α2, L2⟩ := u
  obtain ⟨hr2, hα, hLk2, hf2⟩ := hw
  dsimp only at hα hLk2 hf2
  subst hr2
  have hW : Cw D cA s (fun q => s.heap.size ≤ q) (mWd cA β (o, .inl (cA 4, 1, .inr (.inl f2))) (oD, .inl (cA 5, 1, .inr (.inr (.inr (.inl g))))) (L2.map (xf cA α2 (op_lot 10 (N, R, Fr, inc) p1).2.2)) th (N, R, Fr, inc)) H locs := hW
  refine lv_istore (lv' := [(6, .int (nI (op_lot 10 (N, R, Fr, inc) p1).1)), (0, .ref b), (1, .ref (α 0 0)), (2, .ref (β 0)), (3, .ref o), (4, .ref oD), (5, .int (nI i))]) hx hb dL_law_1038 hl (by decide) rfl (fun ls hl => ?_)
  refine lv_aload_n hx hb dL_law_1040 rfl (lv_at hl 3 rfl) ?_
  refine lv_aload_n hx hb dL_law_1041 rfl (lv_at hl 1 rfl) ?_
  refine lv_iload hx hb dL_law_1042 (lv_at hl 6 rfl) ?_
  refine lv_iconst (v := 1) hx hb dL_law_1044 (by decide) ?_
  refine lv_iadd hx hb dL_law_1045 ?_
  refine k_sld C0 hW.2.2.2.1 (sc_1 hi hL) hp1 dL_law_1046 ?_
  refine k_callVi (as := [.int p1]) (rest := []) (b := β 0) (ci := 7) (q0 := 2) F hW (met_X5_iceOn l D cA β (o, .inl (cA 4, 1, .inr (.inl f2))) (oD, .inl (cA 5, 1, .inr (.inr (.inr (.inl g))))) (List.map (xf cA α2 (op_lot 10 (N, R, Fr, inc) p1).2.2) L2) th N R Fr inc p1 (iv_ic h).2.1) rfl ML_L_175 IM_X5_iceOn SE_X5_iceOn IN_X5 CO_X5_iceOn hdV_X5_iceOn rfl rfl ⟨(Nat.le_of_ble_eq_true rfl), (Nat.le_of_ble_eq_true rfl)⟩ rfl rfl rfl rfl rfl hl.1 (Nat.le_of_ble_eq_true rfl) dL_law_1047 ⟨by show _ ≤ 603072; omega, by show _ ≤ 7231594; omega⟩ (fun r u H locs hw hW => ?_)
  subst hw
  refine lv_istore (lv' := [(7, .int (op_lot 10 (N, R, Fr, inc) p1).2.1), (6, .int (nI (op_lot 10 (N, R, Fr, inc) p1).1)), (0, .ref b), (1, .ref (α 0 0)), (2, .ref (β 0)), (3, .ref o), (4, .ref oD), (5, .int (nI i))]) hx hb dL_law_1050 hl (by decide) rfl (fun ls hl => ?_)
  refine lv_aload_n hx hb dL_law_1052 rfl (lv_at hl 4 rfl) ?_
  refine k_callVi (as := []) (rest := []) (b := β 0) (ci := 7) (q0 := 2) F hW (met_thr l D cA β (o, .inl (cA 4, 1, .inr (.inl f2))) (oD, .inl (cA 5, 1, .inr (.inr (.inr (.inl g))))) (List.map (xf cA α2 (op_lot 10 (N, R, Fr, inc) p1).2.2) L2) (nI (op_lot 10 (N, R, Fr, inc) p1).1) (op_lot 10 (N, R, Fr, inc) p1).2.2) rfl ML_L_130 IM_X5_thrown SE_X5_thrown IN_X5 CO_X5_thrown hdV_X5_thrown rfl rfl ⟨(Nat.le_of_ble_eq_true rfl), (Nat.le_of_ble_eq_true rfl)⟩ rfl rfl rfl rfl rfl hl.1 (Nat.le_of_ble_eq_true rfl) dL_law_1053 ⟨by show _ ≤ 603072; omega, by show _ ≤ 7231594; omega⟩ (fun r u H locs hw hW => ?_)
  subst hw
  refine lv_iload hx hb dL_law_1056 (lv_at hl 1 rfl) ?_
  refine lv_icmp_eq (tgt := 1063) hx hb dL_law_1058 (by decide) (fun _ => ?_) (fun h => absurd (rfl) h)
  refine lv_iload hx hb dL_law_1063 (lv_at hl 1 rfl) ?_
  refine lv_if_ne (tgt := 1080) hx hb dL_law_1065 (by decide) (fun h0 => ?_) (fun h0 => ?_)
  · refine lv_goto (tgt := 2245) hx hb dL_law_1080 (by decide) ?_
    refine W.widen (k := cells + 4) (n := slots + 88) (by omega) (by omega) ?_
    exact kk ((op_lot 10 (N, R, Fr, inc) p1).2.2) α2 L2 f2 g (nI (op_lot 10 (N, R, Fr, inc) p1).1) H locs ls (by rw [st_lot 10 N R Fr inc p1]; exact hI.mono (Nat.le_succ n)) hLk2 hα hW (lv_sub hl [2, 3, 4, 5, 6, 7] rfl)
  · have h1 : (op_lot 10 (N, R, Fr, inc) p1).1 = 0 := nz_code (Nat.le_trans (ce_lot 10 N R Fr inc p1).1 (Nat.le_of_ble_eq_true rfl)) h0
    refine lv_aload_n hx hb dL_law_1068 rfl (lv_at hl 5 rfl) ?_
    refine lv_iconst (v := 0) hx hb dL_law_1069 (by decide) ?_
    refine k_lald (v := ((op_lot 10 (N, R, Fr, inc) p1).2.1).toInt64) F hW 0 rfl z_in (by rw [z_cl]; exact hf2 h1) dL_law_1070 ?_
    refine lv_iload hx hb dL_law_1071 (lv_at hl 0 rfl) ?_
    refine lv_i2l hx hb dL_law_1073 rfl ?_
    refine W.lcmp hx hb dL_law_1074 ?_
    rw [lg_self]
    refine lv_if_eq (tgt := 1080) hx hb dL_law_1075 (by decide) (fun _ => ?_) (fun h => absurd (rfl) h)
    refine lv_goto (tgt := 2245) hx hb dL_law_1080 (by decide) ?_
    refine W.widen (k := cells + 4) (n := slots + 88) (by omega) (by omega) ?_
    exact kk ((op_lot 10 (N, R, Fr, inc) p1).2.2) α2 L2 f2 g (nI (op_lot 10 (N, R, Fr, inc) p1).1) H locs ls (by rw [st_lot 10 N R Fr inc p1]; exact hI.mono (Nat.le_succ n)) hLk2 hα hW (lv_sub hl [2, 3, 4, 5, 6, 7] rfl)
set_option maxHeartbeats 4000000 in
set_option maxRecDepth 100000 in
theorem lc_13 {p : Program} {l : Launch} {e : Env} {s : State} {m : MethodId} {below : List Frame} {meth : Method} {c : Code} {b Ls : Nat} {xs : Nat → Int32} (C0 : lw_At p s m meth c b Ls xs) (hT : TH s.heap.size s) (hN : NC s) (hl0 : l.stackTraces = false) {D : va_G} {cA : Nat → ClassId} {β : Nat → Nat} {α : Nat → Nat → Nat} {L : List (Nat × Nat)} {N : Nat → Nat → Nat} {R : Nat → Nat → Nat → Int32} {Fr : Nat → UInt32} {inc : Int64} {th : Int32} {o oD : Nat} {f : Nat → Int64} {g : Nat → UInt64} {i n : Nat} {H : Heap} {locs : List Loc} {cells slots : Nat} {ls : Array Slot} (hLk : LOK N L) (hI : IV n (N, R, Fr, inc)) (hn : n ≤ 1000) (hi : i + 6 ≤ Ls) (hL : Ls ≤ 3072) (hc : cells + 4 ≤ 603072 ∧ slots + 88 ≤ 7231594) (hW : Cw D cA s (fun q => s.heap.size ≤ q) (mWd cA β (o, .inl (cA 4, 1, .inr (.inl f))) (oD, .inl (cA 5, 1, .inr (.inr (.inr (.inl g))))) (L.map (xf cA α (N, R, Fr, inc))) th (N, R, Fr, inc)) H locs) (hl : lv_has ls 9 [(0, .ref b), (1, .ref (α 0 0)), (2, .ref (β 0)), (3, .ref o), (4, .ref oD), (5, .int (nI i))]) (kk : LKK p l e s m below meth c D cA b (α 0 0) o oD β i n cells slots) : W p l e room_1 s m #[Value.ref b] below meth c H locs cells slots (lw_Z below #[Value.ref b] s) (F0 m 1083 ls []) := by
  obtain ⟨hx, hb, hr, hml, hown, hts, hX, hbl, hlocks, hgv⟩ := id C0
  have F := law_F C0
  have h : INV n N R Fr inc := hI.1
  obtain ⟨p1, hp1⟩ : ∃ v, xs (nI i + 1).toNatClampNeg = v := ⟨_, rfl⟩
  refine lv_aload_n hx hb dL_law_1083 rfl (lv_at hl 1 rfl) ?_
  refine lv_aload_n hx hb dL_law_1084 rfl (lv_at hl 0 rfl) ?_
  refine lv_iload hx hb dL_law_1085 (lv_at hl 5 rfl) ?_
  refine lv_iconst (v := 1) hx hb dL_law_1087 (by decide) ?_
  refine lv_iadd hx hb dL_law_1088 ?_
  refine k_sld C0 hW.2.2.2.1 (sc_1 hi hL) hp1 dL_law_1089 ?_
  refine lv_aload_n hx hb dL_law_1090 rfl (lv_at hl 3 rfl) ?_
  have hW := hW.eq xm
  refine k_callH (as := [.ref (α 0 0), .int p1, .ref o]) (rest := []) F hT hN (fun _ h => h) (Nat.le_refl _) hW (met_L_iceLasts l D cA (mW cA β th (N, R, Fr, inc)) α L N R Fr inc o f (oD, .inl (cA 5, 1, .inr (.inr (.inr (.inl g))))) n p1 s.heap.size hl0 hLk hI hn) rfl ML_L_176 ST_L_iceLasts IN_L CO_L_iceLasts hdS_L_iceLasts rfl rfl ⟨(Nat.le_of_ble_eq_true rfl), (Nat.le_of_ble_eq_true rfl)⟩ rfl rfl hl.1 (Nat.le_of_ble_eq_true rfl) dL_law_1091 ⟨by show _ ≤ 603072; omega, by show _ ≤ 7231594; omega⟩ (fun r u H locs hw hW => ?_)
  obtain ⟨f2, α2, L2⟩ := u
  obtain ⟨hr2, hα, hLk2, hf2⟩ := hw
  dsimp only at hα hLk2 hf2
  subst hr2
  have hW : Cw D cA s (fun q => s.heap.size ≤ q) (mWd cA β (o, .inl (cA 4, 1, .inr (.inl f2))) (oD, .inl (cA 5, 1, .inr (.inr (.inr (.inl g))))) (L2.map (xf cA α2 (op_iceLasts (N, R, Fr, inc) p1).2.2)) th (N, R, Fr, inc)) H locs := hW
  refine lv_istore (lv' := [(6, .int (nI (op_iceLasts (N, R, Fr, inc) p1).1)), (0, .ref b), (1, .ref (α 0 0)), (2, .ref (β 0)), (3, .ref o), (4, .ref oD), (5, .int (nI i))]) hx hb dL_law_1094 hl (by decide) rfl (fun ls hl => ?_)
  refine lv_aload_n hx hb dL_law_1096 rfl (lv_at hl 3 rfl) ?_
  refine lv_aload_n hx hb dL_law_1097 rfl (lv_at hl 1 rfl) ?_
  refine lv_iload hx hb dL_law_1098 (lv_at hl 6 rfl) ?_
  refine lv_iconst (v := 1) hx hb dL_law_1100 (by decide) ?_
  refine lv_iadd hx hb dL_law_1101 ?_
  refine k_sld C0 hW.2.2.2.1 (sc_1 hi hL) hp1 dL_law_1102 ?_
  refine k_callVi (as := [.int p1]) (rest := []) (b := β 0) (ci := 7) (q0 := 2) F hW (met_X5_iceLasts l D cA β (o, .inl (cA 4, 1, .inr (.inl f2))) (oD, .inl (cA 5, 1, .inr (.inr (.inr (.inl g))))) (List.map (xf cA α2 (op_iceLasts (N, R, Fr, inc) p1).2.2) L2) th N R Fr inc p1 (iv_ic h).2.1 (fun j hj => (iv_lot h j hj).2.2.1)) rfl ML_L_178 IM_X5_iceLasts SE_X5_iceLasts IN_X5 CO_X5_iceLasts hdV_X5_iceLasts rfl rfl ⟨(Nat.le_of_ble_eq_true rfl), (Nat.le_of_ble_eq_true rfl)⟩ rfl rfl rfl rfl rfl hl.1 (Nat.le_of_ble_eq_true rfl) dL_law_1103 ⟨by show _ ≤ 603072; omega, by show _ ≤ 7231594; omega⟩ (fun r u H locs hw hW => ?_)
  subst hw
  refine lv_istore (lv' := [(7, .int (op_iceLasts (N, R, Fr, inc) p1).2.1), (6, .int (nI (op_iceLasts (N, R, Fr, inc) p1).1)), (0, .ref b), (1, .ref (α 0 0)), (2, .ref (β 0)), (3, .ref o), (4, .ref oD), (5, .int (nI i))]) hx hb dL_law_1106 hl (by decide) rfl (fun ls hl => ?_)
  refine lv_aload_n hx hb dL_law_1108 rfl (lv_at hl 4 rfl) ?_
  refine k_callVi (as := []) (rest := []) (b := β 0) (ci := 7) (q0 := 2) F hW (met_thr l D cA β (o, .inl (cA 4, 1, .inr (.inl f2))) (oD, .inl (cA 5, 1, .inr (.inr (.inr (.inl g))))) (List.map (xf cA α2 (op_iceLasts (N, R, Fr, inc) p1).2.2) L2) (nI (op_iceLasts (N, R, Fr, inc) p1).1) (op_iceLasts (N, R, Fr, inc) p1).2.2) rfl ML_L_130 IM_X5_thrown SE_X5_thrown IN_X5 CO_X5_thrown hdV_X5_thrown rfl rfl ⟨(Nat.le_of_ble_eq_true rfl), (Nat.le_of_ble_eq_true rfl)⟩ rfl rfl rfl rfl rfl hl.1 (Nat.le_of_ble_eq_true rfl) dL_law_1109 ⟨by show _ ≤ 603072; omega, by show _ ≤ 7231594; omega⟩ (fun r u H locs hw hW => ?_)
  subst hw
  refine lv_iload hx hb dL_law_1112 (lv_at hl 1 rfl) ?_
  refine lv_icmp_eq (tgt := 1119) hx hb dL_law_1114 (by decide) (fun _ => ?_) (fun h => absurd (rfl) h)
  refine lv_iload hx hb dL_law_1119 (lv_at hl 1 rfl) ?_
  refine lv_if_ne (tgt := 1136) hx hb dL_law_1121 (by decide) (fun h0 => ?_) (fun h0 => ?_)
  · refine lv_goto (tgt := 2245) hx hb dL_law_1136 (by decide) ?_
    refine W.widen (k := cells + 4) (n := slots + 88) (by omega) (by omega) ?_
    exact kk ((op_iceLasts (N, R, Fr, inc) p1).2.2) α2 L2 f2 g (nI (op_iceLasts (N, R, Fr, inc) p1).1) H locs ls (by rw [st_iceLasts N R Fr inc p1]; exact hI.mono (Nat.le_succ n)) hLk2 hα hW (lv_sub hl [2, 3, 4, 5, 6, 7] rfl)
  · have h1 : (op_iceLasts (N, R, Fr, inc) p1).1 = 0 := nz_code (Nat.le_trans (ce_iceLasts N R Fr inc p1).1 (Nat.le_of_ble_eq_true rfl)) h0
    refine lv_aload_n hx hb dL_law_1124 rfl (lv_at hl 5 rfl) ?_
    refine lv_iconst (v := 0) hx hb dL_law_1125 (by decide) ?_
    refine k_lald (v := ((op_iceLasts (N, R, Fr, inc) p1).2.1).toInt64) F hW 0 rfl z_in (by rw [z_cl]; exact hf2 h1) dL_law_1126 ?_
    refine lv_iload hx hb dL_law_1127 (lv_at hl 0 rfl) ?_
    refine lv_i2l hx hb dL_law_1129 rfl ?_
    refine W.lcmp hx hb dL_law_1130 ?_
    rw [lg_self]
    refine lv_if_eq (tgt := 1136) hx hb dL_law_1131 (by decide) (fun _ => ?_) (fun h => absurd (rfl) h)
    refine lv_goto (tgt := 2245) hx hb dL_law_1136 (by decide) ?_
    refine W.widen (k := cells + 4) (n := slots + 88) (by omega) (by omega) ?_
    exact kk ((op_iceLasts (N, R, Fr, inc) p1).2.2) α2 L2 f2 g (nI (op_iceLasts (N, R, Fr, inc) p1).1) H locs ls (by rw [st_iceLasts N R Fr inc p1]; exact hI.mono (Nat.le_succ n)) hLk2 hα hW (lv_sub hl [2, 3, 4, 5, 6, 7] rfl)
set_option maxHeartbeats 4000000 in
set_option maxRecDepth 100000 in
theorem lc_14 {p : Program} {l : Launch} {e : Env} {s : State} {m : MethodId} {below : List Frame} {meth : Method} {c : Code} {b Ls : Nat} {xs : Nat → Int32} (C0 : lw_At p s m meth c b Ls xs) (hT : TH s.heap.size s) (hN : NC s) (hl0 : l.stackTraces = false) {D : va_G} {cA : Nat → ClassId} {β : Nat → Nat} {α : Nat → Nat → Nat} {L : List (Nat × Nat)} {N : Nat → Nat → Nat} {R : Nat → Nat → Nat → Int32} {Fr : Nat → UInt32} {inc : Int64} {th : Int32} {o oD : Nat} {f : Nat → Int64} {g : Nat → UInt64} {i n : Nat} {H : Heap} {locs : List Loc} {cells slots : Nat} {ls : Array Slot} (hLk : LOK N L) (hI : IV n (N, R, Fr, inc)) (hn : n ≤ 1000) (hi : i + 6 ≤ Ls) (hL : Ls ≤ 3072) (hc : cells + 4 ≤ 603072 ∧ slots + 88 ≤ 7231594) (hW : Cw D cA s (fun q => s.heap.size ≤ q) (mWd cA β (o, .inl (cA 4, 1, .inr (.inl f))) (oD, .inl (cA 5, 1, .inr (.inr (.inr (.inl g))))) (L.map (xf cA α (N, R, Fr, inc))) th (N, R, Fr, inc)) H locs) (hl : lv_has ls 9 [(0, .ref b), (1, .ref (α 0 0)), (2, .ref (β 0)), (3, .ref o), (4, .ref oD), (5, .int (nI i))]) (kk : LKK p l e s m below meth c D cA b (α 0 0) o oD β i n cells slots) : W p l e room_1 s m #[Value.ref b] below meth c H locs cells slots (lw_Z below #[Value.ref b] s) (F0 m 1139 ls []) := by
  obtain ⟨hx, hb, hr, hml, hown, hts, hX, hbl, hlocks, hgv⟩ := id C0
  have F := law_F C0
  have h : INV n N R Fr inc := hI.1
  refine lv_aload_n hx hb dL_law_1139 rfl (lv_at hl 1 rfl) ?_
  have hW := hW.eq xm
  obtain ⟨q, hq⟩ := xw_at (wr := (o, .inl (cA 4, 1, .inr (.inl f))) :: (oD, .inl (cA 5, 1, .inr (.inr (.inr (.inl g))))) :: mW cA β th (N, R, Fr, inc)) (cA := cA) (α := α) (L := L) (S := (N, R, Fr, inc)) 0 0 (hLk.o 0 (by decide))
  refine k_callVi (as := []) (rest := []) (b := α 0 0) (ci := 6) (q0 := q) F hW (met_X4_tick l D cA ((o, .inl (cA 4, 1, .inr (.inl f))) :: (oD, .inl (cA 5, 1, .inr (.inr (.inr (.inl g))))) :: mW cA β th (N, R, Fr, inc)) α L N R Fr inc hLk (iv_ic h) (iv_lot h) (iv_paid h) (iv_tr h)) rfl ML_L_179 IM_X4_tick SE_X4_tick IN_X4 CO_X4_tick hdV_X4_tick rfl rfl ⟨(Nat.le_of_ble_eq_true rfl), (Nat.le_of_ble_eq_true rfl)⟩ rfl rfl hq rfl rfl hl.1 (Nat.le_of_ble_eq_true rfl) dL_law_1140 ⟨by show _ ≤ 603072; omega, by show _ ≤ 7231594; omega⟩ (fun r u H locs hw hW => ?_)
  rw [hw]
  have hW : Cw D cA s (fun q => s.heap.size ≤ q) (mWd cA β (o, .inl (cA 4, 1, .inr (.inl f))) (oD, .inl (cA 5, 1, .inr (.inr (.inr (.inl g))))) (L.map (xf cA α (op_tick (N, R, Fr, inc)).2.2)) th (N, R, Fr, inc)) H locs := hW
  refine lv_aload_n hx hb dL_law_1143 rfl (lv_at hl 2 rfl) ?_
  refine k_callVi (as := []) (rest := [.int ((op_tick (N, R, Fr, inc)).2.1)]) (b := β 0) (ci := 7) (q0 := 2) F hW (met_X5_tick l D cA β (o, .inl (cA 4, 1, .inr (.inl f))) (oD, .inl (cA 5, 1, .inr (.inr (.inr (.inl g))))) (List.map (xf cA α (op_tick (N, R, Fr, inc)).2.2) L) th N R Fr inc (iv_ic h).2.1 (iv_lot h) (iv_ic h).2.2.1 (iv_ic h).2.2.2.1 (iv_ic h).2.2.2.2.2.2.1 (iv_paid h) (iv_tr h)) rfl ML_L_182 IM_X5_tick SE_X5_tick IN_X5 CO_X5_tick hdV_X5_tick rfl rfl ⟨(Nat.le_of_ble_eq_true rfl), (Nat.le_of_ble_eq_true rfl)⟩ rfl rfl rfl rfl rfl hl.1 (Nat.le_of_ble_eq_true rfl) dL_law_1144 ⟨by show _ ≤ 603072; omega, by show _ ≤ 7231594; omega⟩ (fun r u H locs hw hW => ?_)
  rw [hw]
  refine lv_icmp_eq (tgt := 2245) hx hb dL_law_1147 (by decide) (fun _ => ?_) (fun h => absurd (rfl) h)
  refine W.widen (k := cells + 4) (n := slots + 88) (by omega) (by omega) ?_
  exact kk ((op_tick (N, R, Fr, inc)).2.2) α L f g (nI (op_tick (N, R, Fr, inc)).1) H locs ls hI.tick (hLk.same (by funext i; simp [op_tick, up2])) rfl hW (lv_sub hl [0, 1, 2, 3, 4, 5] rfl)
set_option maxHeartbeats 4000000 in
set_option maxRecDepth 100000 in
theorem lc_15 {p : Program} {l : Launch} {e : Env} {s : State} {m : MethodId} {below : List Frame} {meth : Method} {c : Code} {b Ls : Nat} {xs : Nat → Int32} (C0 : lw_At p s m meth c b Ls xs) (hT : TH s.heap.size s) (hN : NC s) (hl0 : l.stackTraces = false) {D : va_G} {cA : Nat → ClassId} {β : Nat → Nat} {α : Nat → Nat → Nat} {L : List (Nat × Nat)} {N : Nat → Nat → Nat} {R : Nat → Nat → Nat → Int32} {Fr : Nat → UInt32} {inc : Int64} {th : Int32} {o oD : Nat} {f : Nat → Int64} {g : Nat → UInt64} {i n : Nat} {H : Heap} {locs : List Loc} {cells slots : Nat} {ls : Array Slot} (hLk : LOK N L) (hI : IV n (N, R, Fr, inc)) (hn : n ≤ 1000) (hi : i + 6 ≤ Ls) (hL : Ls ≤ 3072) (hc : cells + 4 ≤ 603072 ∧ slots + 88 ≤ 7231594) (hW : Cw D cA s (fun q => s.heap.size ≤ q) (mWd cA β (o, .inl (cA 4, 1, .inr (.inl f))) (oD, .inl (cA 5, 1, .inr (.inr (.inr (.inl g))))) (L.map (xf cA α (N, R, Fr, inc))) th (N, R, Fr, inc)) H locs) (hl : lv_has ls 9 [(0, .ref b), (1, .ref (α 0 0)), (2, .ref (β 0)), (3, .ref o), (4, .ref oD), (5, .int (nI i))]) (kk : LKK p l e s m below meth c D cA b (α 0 0) o oD β i n cells slots) : W p l e room_1 s m #[Value.ref b] below meth c H locs cells slots (lw_Z below #[Value.ref b] s) (F0 m 1152 ls []) := by
  obtain ⟨hx, hb, hr, hml, hown, hts, hX, hbl, hlocks, hgv⟩ := id C0
  have F := law_F C0
  have h : INV n N R Fr inc := hI.1
  refine lv_aload_n hx hb dL_law_1152 rfl (lv_at hl 1 rfl) ?_
  have hW := hW.eq xm
  obtain ⟨q, hq⟩ := xw_at (wr := (o, .inl (cA 4, 1, .inr (.inl f))) :: (oD, .inl (cA 5, 1, .inr (.inr (.inr (.inl g))))) :: mW cA β th (N, R, Fr, inc)) (cA := cA) (α := α) (L := L) (S := (N, R, Fr, inc)) 0 0 (hLk.o 0 (by decide))
  refine k_callVi (as := []) (rest := []) (b := α 0 0) (ci := 6) (q0 := q) F hW (met_X4_time l D cA ((o, .inl (cA 4, 1, .inr (.inl f))) :: (oD, .inl (cA 5, 1, .inr (.inr (.inr (.inl g))))) :: mW cA β th (N, R, Fr, inc)) α L N R Fr inc hLk) rfl ML_L_183 IM_X4_time SE_X4_time IN_X4 CO_X4_time hdV_X4_time rfl rfl ⟨(Nat.le_of_ble_eq_true rfl), (Nat.le_of_ble_eq_true rfl)⟩ rfl rfl hq rfl rfl hl.1 (Nat.le_of_ble_eq_true rfl) dL_law_1153 ⟨by show _ ≤ 603072; omega, by show _ ≤ 7231594; omega⟩ (fun r u H locs hw hW => ?_)
  rw [hw]
  have hW : Cw D cA s (fun q => s.heap.size ≤ q) (mWd cA β (o, .inl (cA 4, 1, .inr (.inl f))) (oD, .inl (cA 5, 1, .inr (.inr (.inr (.inl g))))) (L.map (xf cA α (N, R, Fr, inc))) th (N, R, Fr, inc)) H locs := hW
  refine lv_aload_n hx hb dL_law_1156 rfl (lv_at hl 2 rfl) ?_
  refine k_callVi (as := []) (rest := [.int (nI (N 0 5))]) (b := β 0) (ci := 7) (q0 := 2) F hW (met_X5_time l D cA β (o, .inl (cA 4, 1, .inr (.inl f))) (oD, .inl (cA 5, 1, .inr (.inr (.inr (.inl g))))) (List.map (xf cA α (N, R, Fr, inc)) L) th N R Fr inc) rfl ML_L_186 IM_X5_time SE_X5_time IN_X5 CO_X5_time hdV_X5_time rfl rfl ⟨(Nat.le_of_ble_eq_true rfl), (Nat.le_of_ble_eq_true rfl)⟩ rfl rfl rfl rfl rfl hl.1 (Nat.le_of_ble_eq_true rfl) dL_law_1157 ⟨by show _ ≤ 603072; omega, by show _ ≤ 7231594; omega⟩ (fun r u H locs hw hW => ?_)
  rw [hw]
  refine lv_icmp_eq (tgt := 2245) hx hb dL_law_1160 (by decide) (fun _ => ?_) (fun h => absurd (rfl) h)
  refine W.widen (k := cells + 4) (n := slots + 88) (by omega) (by omega) ?_
  exact kk (N, R, Fr, inc) α L f g 0 H locs ls (hI.mono (Nat.le_succ n)) hLk rfl hW (lv_sub hl [0, 1, 2, 3, 4, 5] rfl)
set_option maxHeartbeats 4000000 in
set_option maxRecDepth 100000 in
theorem lc_16 {p : Program} {l : Launch} {e : Env} {s : State} {m : MethodId} {below : List Frame} {meth : Method} {c : Code} {b Ls : Nat} {xs : Nat → Int32} (C0 : lw_At p s m meth c b Ls xs) (hT : TH s.heap.size s) (hN : NC s) (hl0 : l.stackTraces = false) {D : va_G} {cA : Nat → ClassId} {β : Nat → Nat} {α : Nat → Nat → Nat} {L : List (Nat × Nat)} {N : Nat → Nat → Nat} {R : Nat → Nat → Nat → Int32} {Fr : Nat → UInt32} {inc : Int64} {th : Int32} {o oD : Nat} {f : Nat → Int64} {g : Nat → UInt64} {i n : Nat} {H : Heap} {locs : List Loc} {cells slots : Nat} {ls : Array Slot} (hLk : LOK N L) (hI : IV n (N, R, Fr, inc)) (hn : n ≤ 1000) (hi : i + 6 ≤ Ls) (hL : Ls ≤ 3072) (hc : cells + 4 ≤ 603072 ∧ slots + 88 ≤ 7231594) (hW : Cw D cA s (fun q => s.heap.size ≤ q) (mWd cA β (o, .inl (cA 4, 1, .inr (.inl f))) (oD, .inl (cA 5, 1, .inr (.inr (.inr (.inl g))))) (L.map (xf cA α (N, R, Fr, inc))) th (N, R, Fr, inc)) H locs) (hl : lv_has ls 9 [(0, .ref b), (1, .ref (α 0 0)), (2, .ref (β 0)), (3, .ref o), (4, .ref oD), (5, .int (nI i))]) (kk : LKK p l e s m below meth c D cA b (α 0 0) o oD β i n cells slots) : W p l e room_1 s m #[Value.ref b] below meth c H locs cells slots (lw_Z below #[Value.ref b] s) (F0 m 1165 ls []) := by
  obtain ⟨hx, hb, hr, hml, hown, hts, hX, hbl, hlocks, hgv⟩ := id C0
  have F := law_F C0
  have h : INV n N R Fr inc := hI.1
  obtain ⟨p1, hp1⟩ : ∃ v, xs (nI i + 1).toNatClampNeg = v := ⟨_, rfl⟩
  refine lv_aload_n hx hb dL_law_1165 rfl (lv_at hl 1 rfl) ?_
  refine lv_aload_n hx hb dL_law_1166 rfl (lv_at hl 0 rfl) ?_
  refine lv_iload hx hb dL_law_1167 (lv_at hl 5 rfl) ?_
  refine lv_iconst (v := 1) hx hb dL_law_1169 (by decide) ?_
  refine lv_iadd hx hb dL_law_1170 ?_
  refine k_sld C0 hW.2.2.2.1 (sc_1 hi hL) hp1 dL_law_1171 ?_
  refine lv_aload_n hx hb dL_law_1172 rfl (lv_at hl 3 rfl) ?_
  have hW := hW.eq xm
  refine k_callH (as := [.ref (α 0 0), .int p1, .ref o]) (rest := []) F hT hN (fun _ h => h) (Nat.le_refl _) hW (met_L_addBuyer l D cA (mW cA β th (N, R, Fr, inc)) α L N R Fr inc o f (oD, .inl (cA 5, 1, .inr (.inr (.inr (.inl g))))) n p1 s.heap.size hl0 hLk hI hn) rfl ML_L_187 ST_L_addBuyer IN_L CO_L_addBuyer hdS_L_addBuyer rfl rfl ⟨(Nat.le_of_ble_eq_true rfl), (Nat.le_of_ble_eq_true rfl)⟩ rfl rfl hl.1 (Nat.le_of_ble_eq_true rfl) dL_law_1173 ⟨by show _ ≤ 603072; omega, by show _ ≤ 7231594; omega⟩ (fun r u H locs hw hW => ?_)
  obtain ⟨f2, α2, L2⟩ := u
  obtain ⟨hr2, hα, hLk2, hf2⟩ := hw
  dsimp only at hα hLk2 hf2
  subst hr2
  have hW : Cw D cA s (fun q => s.heap.size ≤ q) (mWd cA β (o, .inl (cA 4, 1, .inr (.inl f2))) (oD, .inl (cA 5, 1, .inr (.inr (.inr (.inl g))))) (L2.map (xf cA α2 (op_addBuyer (N, R, Fr, inc) p1).2.2)) th (N, R, Fr, inc)) H locs := hW
  refine lv_istore (lv' := [(6, .int (nI (op_addBuyer (N, R, Fr, inc) p1).1)), (0, .ref b), (1, .ref (α 0 0)), (2, .ref (β 0)), (3, .ref o), (4, .ref oD), (5, .int (nI i))]) hx hb dL_law_1176 hl (by decide) rfl (fun ls hl => ?_)
  refine lv_aload_n hx hb dL_law_1178 rfl (lv_at hl 3 rfl) ?_
  refine lv_aload_n hx hb dL_law_1179 rfl (lv_at hl 1 rfl) ?_
  refine lv_iload hx hb dL_law_1180 (lv_at hl 6 rfl) ?_
  refine lv_iconst (v := 1) hx hb dL_law_1182 (by decide) ?_
  refine lv_iadd hx hb dL_law_1183 ?_
  refine k_sld C0 hW.2.2.2.1 (sc_1 hi hL) hp1 dL_law_1184 ?_
  refine k_callVi (as := [.int p1]) (rest := []) (b := β 0) (ci := 7) (q0 := 2) F hW (met_X5_addBuyer l D cA β (o, .inl (cA 4, 1, .inr (.inl f2))) (oD, .inl (cA 5, 1, .inr (.inr (.inr (.inl g))))) (List.map (xf cA α2 (op_addBuyer (N, R, Fr, inc) p1).2.2) L2) th N R Fr inc p1 (iv_ic h).2.2.1) rfl ML_L_189 IM_X5_addBuyer SE_X5_addBuyer IN_X5 CO_X5_addBuyer hdV_X5_addBuyer rfl rfl ⟨(Nat.le_of_ble_eq_true rfl), (Nat.le_of_ble_eq_true rfl)⟩ rfl rfl rfl rfl rfl hl.1 (Nat.le_of_ble_eq_true rfl) dL_law_1185 ⟨by show _ ≤ 603072; omega, by show _ ≤ 7231594; omega⟩ (fun r u H locs hw hW => ?_)
  subst hw
  refine lv_istore (lv' := [(7, .int (op_addBuyer (N, R, Fr, inc) p1).2.1), (6, .int (nI (op_addBuyer (N, R, Fr, inc) p1).1)), (0, .ref b), (1, .ref (α 0 0)), (2, .ref (β 0)), (3, .ref o), (4, .ref oD), (5, .int (nI i))]) hx hb dL_law_1188 hl (by decide) rfl (fun ls hl => ?_)
  refine lv_aload_n hx hb dL_law_1190 rfl (lv_at hl 4 rfl) ?_
  refine k_callVi (as := []) (rest := []) (b := β 0) (ci := 7) (q0 := 2) F hW (met_thr l D cA β (o, .inl (cA 4, 1, .inr (.inl f2))) (oD, .inl (cA 5, 1, .inr (.inr (.inr (.inl g))))) (List.map (xf cA α2 (op_addBuyer (N, R, Fr, inc) p1).2.2) L2) (nI (op_addBuyer (N, R, Fr, inc) p1).1) (op_addBuyer (N, R, Fr, inc) p1).2.2) rfl ML_L_130 IM_X5_thrown SE_X5_thrown IN_X5 CO_X5_thrown hdV_X5_thrown rfl rfl ⟨(Nat.le_of_ble_eq_true rfl), (Nat.le_of_ble_eq_true rfl)⟩ rfl rfl rfl rfl rfl hl.1 (Nat.le_of_ble_eq_true rfl) dL_law_1191 ⟨by show _ ≤ 603072; omega, by show _ ≤ 7231594; omega⟩ (fun r u H locs hw hW => ?_)
  subst hw
  refine lv_iload hx hb dL_law_1194 (lv_at hl 1 rfl) ?_
  refine lv_icmp_eq (tgt := 1201) hx hb dL_law_1196 (by decide) (fun _ => ?_) (fun h => absurd (rfl) h)
  refine lv_iload hx hb dL_law_1201 (lv_at hl 1 rfl) ?_
  refine lv_if_ne (tgt := 1218) hx hb dL_law_1203 (by decide) (fun h0 => ?_) (fun h0 => ?_)
  · refine lv_goto (tgt := 2245) hx hb dL_law_1218 (by decide) ?_
    refine W.widen (k := cells + 4) (n := slots + 88) (by omega) (by omega) ?_
    exact kk ((op_addBuyer (N, R, Fr, inc) p1).2.2) α2 L2 f2 g (nI (op_addBuyer (N, R, Fr, inc) p1).1) H locs ls ((hI.addBuyer p1).mono (Nat.le_succ n)) hLk2 hα hW (lv_sub hl [2, 3, 4, 5, 6, 7] rfl)
  · have h1 : (op_addBuyer (N, R, Fr, inc) p1).1 = 0 := nz_code (Nat.le_trans (ce_addBuyer N R Fr inc p1).1 (Nat.le_of_ble_eq_true rfl)) h0
    refine lv_aload_n hx hb dL_law_1206 rfl (lv_at hl 5 rfl) ?_
    refine lv_iconst (v := 0) hx hb dL_law_1207 (by decide) ?_
    refine k_lald (v := ((op_addBuyer (N, R, Fr, inc) p1).2.1).toInt64) F hW 0 rfl z_in (by rw [z_cl]; exact hf2 h1) dL_law_1208 ?_
    refine lv_iload hx hb dL_law_1209 (lv_at hl 0 rfl) ?_
    refine lv_i2l hx hb dL_law_1211 rfl ?_
    refine W.lcmp hx hb dL_law_1212 ?_
    rw [lg_self]
    refine lv_if_eq (tgt := 1218) hx hb dL_law_1213 (by decide) (fun _ => ?_) (fun h => absurd (rfl) h)
    refine lv_goto (tgt := 2245) hx hb dL_law_1218 (by decide) ?_
    refine W.widen (k := cells + 4) (n := slots + 88) (by omega) (by omega) ?_
    exact kk ((op_addBuyer (N, R, Fr, inc) p1).2.2) α2 L2 f2 g (nI (op_addBuyer (N, R, Fr, inc) p1).1) H locs ls ((hI.addBuyer p1).mono (Nat.le_succ n)) hLk2 hα hW (lv_sub hl [2, 3, 4, 5, 6, 7] rfl)
set_option maxHeartbeats 4000000 in
set_option maxRecDepth 100000 in
theorem lc_17 {p : Program} {l : Launch} {e : Env} {s : State} {m : MethodId} {below : List Frame} {meth : Method} {c : Code} {b Ls : Nat} {xs : Nat → Int32} (C0 : lw_At p s m meth c b Ls xs) (hT : TH s.heap.size s) (hN : NC s) (hl0 : l.stackTraces = false) {D : va_G} {cA : Nat → ClassId} {β : Nat → Nat} {α : Nat → Nat → Nat} {L : List (Nat × Nat)} {N : Nat → Nat → Nat} {R : Nat → Nat → Nat → Int32} {Fr : Nat → UInt32} {inc : Int64} {th : Int32} {o oD : Nat} {f : Nat → Int64} {g : Nat → UInt64} {i n : Nat} {H : Heap} {locs : List Loc} {cells slots : Nat} {ls : Array Slot} (hLk : LOK N L) (hI : IV n (N, R, Fr, inc)) (hn : n ≤ 1000) (hi : i + 6 ≤ Ls) (hL : Ls ≤ 3072) (hc : cells + 4 ≤ 603072 ∧ slots + 88 ≤ 7231594) (hW : Cw D cA s (fun q => s.heap.size ≤ q) (mWd cA β (o, .inl (cA 4, 1, .inr (.inl f))) (oD, .inl (cA 5, 1, .inr (.inr (.inr (.inl g))))) (L.map (xf cA α (N, R, Fr, inc))) th (N, R, Fr, inc)) H locs) (hl : lv_has ls 9 [(0, .ref b), (1, .ref (α 0 0)), (2, .ref (β 0)), (3, .ref o), (4, .ref oD), (5, .int (nI i))]) (kk : LKK p l e s m below meth c D cA b (α 0 0) o oD β i n cells slots) : W p l e room_1 s m #[Value.ref b] below meth c H locs cells slots (lw_Z below #[Value.ref b] s) (F0 m 1221 ls []) := by
  obtain ⟨hx, hb, hr, hml, hown, hts, hX, hbl, hlocks, hgv⟩ := id C0
  have F := law_F C0
  have h : INV n N R Fr inc := hI.1
  obtain ⟨p1, hp1⟩ : ∃ v, xs (nI i + 1).toNatClampNeg = v := ⟨_, rfl⟩
  obtain ⟨p2, hp2⟩ : ∃ v, xs (nI i + 2).toNatClampNeg = v := ⟨_, rfl⟩
  obtain ⟨p3, hp3⟩ : ∃ v, xs (nI i + 3).toNatClampNeg = v := ⟨_, rfl⟩
  refine lv_aload_n hx hb dL_law_1221 rfl (lv_at hl 1 rfl) ?_
  refine lv_aload_n hx hb dL_law_1222 rfl (lv_at hl 0 rfl) ?_
  refine lv_iload hx hb dL_law_1223 (lv_at hl 5 rfl) ?_
  refine lv_iconst (v := 1) hx hb dL_law_1225 (by decide) ?_
  refine lv_iadd hx hb dL_law_1226 ?_
  refine k_sld C0 hW.2.2.2.1 (sc_1 hi hL) hp1 dL_law_1227 ?_
  refine lv_aload_n hx hb dL_law_1228 rfl (lv_at hl 0 rfl) ?_
  refine lv_iload hx hb dL_law_1229 (lv_at hl 5 rfl) ?_
  refine lv_iconst (v := 2) hx hb dL_law_1231 (by decide) ?_
  refine lv_iadd hx hb dL_law_1232 ?_
  refine k_sld C0 hW.2.2.2.1 (sc_2 hi hL) hp2 dL_law_1233 ?_
  refine lv_aload_n hx hb dL_law_1234 rfl (lv_at hl 0 rfl) ?_
  refine lv_iload hx hb dL_law_1235 (lv_at hl 5 rfl) ?_
  refine lv_iconst (v := 3) hx hb dL_law_1237 (by decide) ?_
  refine lv_iadd hx hb dL_law_1238 ?_
  refine k_sld C0 hW.2.2.2.1 (sc_3 hi hL) hp3 dL_law_1239 ?_
  refine lv_aload_n hx hb dL_law_1240 rfl (lv_at hl 3 rfl) ?_
  have hW := hW.eq xm
  refine k_callH (as := [.ref (α 0 0), .int p1, .int p2, .int p3, .ref o]) (rest := []) F hT hN (fun _ h => h) (Nat.le_refl _) hW (met_L_setLimit l D cA (mW cA β th (N, R, Fr, inc)) α L N R Fr inc o f (oD, .inl (cA 5, 1, .inr (.inr (.inr (.inl g))))) n p1 p2 p3 s.heap.size hl0 hLk hI hn) rfl ML_L_190 ST_L_setLimit IN_L CO_L_setLimit hdS_L_setLimit rfl rfl ⟨(Nat.le_of_ble_eq_true rfl), (Nat.le_of_ble_eq_true rfl)⟩ rfl rfl hl.1 (Nat.le_of_ble_eq_true rfl) dL_law_1241 ⟨by show _ ≤ 603072; omega, by show _ ≤ 7231594; omega⟩ (fun r u H locs hw hW => ?_)
  obtain ⟨f2, α2, L2⟩ := u
  obtain ⟨hr2, hα, hLk2, hf2⟩ := hw
  dsimp only at hα hLk2 hf2
  subst hr2
  have hW : Cw D cA s (fun q => s.heap.size ≤ q) (mWd cA β (o, .inl (cA 4, 1, .inr (.inl f2))) (oD, .inl (cA 5, 1, .inr (.inr (.inr (.inl g))))) (L2.map (xf cA α2 (op_setLimit (N, R, Fr, inc) p1 p2 p3).2.2)) th (N, R, Fr, inc)) H locs := hW
  refine lv_istore (lv' := [(6, .int (nI (op_setLimit (N, R, Fr, inc) p1 p2 p3).1)), (0, .ref b), (1, .ref (α 0 0)), (2, .ref (β 0)), (3, .ref o), (4, .ref oD), (5, .int (nI i))]) hx hb dL_law_1244 hl (by decide) rfl (fun ls hl => ?_)
  refine lv_aload_n hx hb dL_law_1246 rfl (lv_at hl 3 rfl) ?_
  refine lv_aload_n hx hb dL_law_1247 rfl (lv_at hl 1 rfl) ?_
  refine lv_iload hx hb dL_law_1248 (lv_at hl 6 rfl) ?_
  refine lv_iconst (v := 1) hx hb dL_law_1250 (by decide) ?_
  refine lv_iadd hx hb dL_law_1251 ?_
  refine k_sld C0 hW.2.2.2.1 (sc_1 hi hL) hp1 dL_law_1252 ?_
  refine lv_aload_n hx hb dL_law_1253 rfl (lv_at hl 1 rfl) ?_
  refine lv_iload hx hb dL_law_1254 (lv_at hl 6 rfl) ?_
  refine lv_iconst (v := 2) hx hb dL_law_1256 (by decide) ?_
  refine lv_iadd hx hb dL_law_1257 ?_
  refine k_sld C0 hW.2.2.2.1 (sc_2 hi hL) hp2 dL_law_1258 ?_
  refine lv_aload_n hx hb dL_law_1259 rfl (lv_at hl 1 rfl) ?_
  refine lv_iload hx hb dL_law_1260 (lv_at hl 6 rfl) ?_
  refine lv_iconst (v := 3) hx hb dL_law_1262 (by decide) ?_
  refine lv_iadd hx hb dL_law_1263 ?_
  refine k_sld C0 hW.2.2.2.1 (sc_3 hi hL) hp3 dL_law_1264 ?_
  refine k_callVi (as := [.int p1, .int p2, .int p3]) (rest := []) (b := β 0) (ci := 7) (q0 := 2) F hW (met_X5_setLimit l D cA β (o, .inl (cA 4, 1, .inr (.inl f2))) (oD, .inl (cA 5, 1, .inr (.inr (.inr (.inl g))))) (List.map (xf cA α2 (op_setLimit (N, R, Fr, inc) p1 p2 p3).2.2) L2) th N R Fr inc p1 p2 p3 (iv_ic h).2.2.1) rfl ML_L_192 IM_X5_setLimit SE_X5_setLimit IN_X5 CO_X5_setLimit hdV_X5_setLimit rfl rfl ⟨(Nat.le_of_ble_eq_true rfl), (Nat.le_of_ble_eq_true rfl)⟩ rfl rfl rfl rfl rfl hl.1 (Nat.le_of_ble_eq_true rfl) dL_law_1265 ⟨by show _ ≤ 603072; omega, by show _ ≤ 7231594; omega⟩ (fun r u H locs hw hW => ?_)
  subst hw
  refine lv_istore (lv' := [(7, .int (op_setLimit (N, R, Fr, inc) p1 p2 p3).2.1), (6, .int (nI (op_setLimit (N, R, Fr, inc) p1 p2 p3).1)), (0, .ref b), (1, .ref (α 0 0)), (2, .ref (β 0)), (3, .ref o), (4, .ref oD), (5, .int (nI i))]) hx hb dL_law_1268 hl (by decide) rfl (fun ls hl => ?_)
  refine lv_aload_n hx hb dL_law_1270 rfl (lv_at hl 4 rfl) ?_
  refine k_callVi (as := []) (rest := []) (b := β 0) (ci := 7) (q0 := 2) F hW (met_thr l D cA β (o, .inl (cA 4, 1, .inr (.inl f2))) (oD, .inl (cA 5, 1, .inr (.inr (.inr (.inl g))))) (List.map (xf cA α2 (op_setLimit (N, R, Fr, inc) p1 p2 p3).2.2) L2) (nI (op_setLimit (N, R, Fr, inc) p1 p2 p3).1) (op_setLimit (N, R, Fr, inc) p1 p2 p3).2.2) rfl ML_L_130 IM_X5_thrown SE_X5_thrown IN_X5 CO_X5_thrown hdV_X5_thrown rfl rfl ⟨(Nat.le_of_ble_eq_true rfl), (Nat.le_of_ble_eq_true rfl)⟩ rfl rfl rfl rfl rfl hl.1 (Nat.le_of_ble_eq_true rfl) dL_law_1271 ⟨by show _ ≤ 603072; omega, by show _ ≤ 7231594; omega⟩ (fun r u H locs hw hW => ?_)
  subst hw
  refine lv_iload hx hb dL_law_1274 (lv_at hl 1 rfl) ?_
  refine lv_icmp_eq (tgt := 1281) hx hb dL_law_1276 (by decide) (fun _ => ?_) (fun h => absurd (rfl) h)
  refine lv_iload hx hb dL_law_1281 (lv_at hl 1 rfl) ?_
  refine lv_if_ne (tgt := 1298) hx hb dL_law_1283 (by decide) (fun h0 => ?_) (fun h0 => ?_)
  · refine lv_goto (tgt := 2245) hx hb dL_law_1298 (by decide) ?_
    refine W.widen (k := cells + 4) (n := slots + 88) (by omega) (by omega) ?_
    exact kk ((op_setLimit (N, R, Fr, inc) p1 p2 p3).2.2) α2 L2 f2 g (nI (op_setLimit (N, R, Fr, inc) p1 p2 p3).1) H locs ls ((hI.setLimit p1 p2 p3).mono (Nat.le_succ n)) hLk2 hα hW (lv_sub hl [2, 3, 4, 5, 6, 7] rfl)
  · have h1 : (op_setLimit (N, R, Fr, inc) p1 p2 p3).1 = 0 := nz_code (Nat.le_trans (ce_setLimit N R Fr inc p1 p2 p3).1 (Nat.le_of_ble_eq_true rfl)) h0
    refine lv_aload_n hx hb dL_law_1286 rfl (lv_at hl 5 rfl) ?_
    refine lv_iconst (v := 0) hx hb dL_law_1287 (by decide) ?_
    refine k_lald (v := ((op_setLimit (N, R, Fr, inc) p1 p2 p3).2.1).toInt64) F hW 0 rfl z_in (by rw [z_cl]; exact hf2 h1) dL_law_1288 ?_
    refine lv_iload hx hb dL_law_1289 (lv_at hl 0 rfl) ?_
    refine lv_i2l hx hb dL_law_1291 rfl ?_
    refine W.lcmp hx hb dL_law_1292 ?_
    rw [lg_self]
    refine lv_if_eq (tgt := 1298) hx hb dL_law_1293 (by decide) (fun _ => ?_) (fun h => absurd (rfl) h)
    refine lv_goto (tgt := 2245) hx hb dL_law_1298 (by decide) ?_
    refine W.widen (k := cells + 4) (n := slots + 88) (by omega) (by omega) ?_
    exact kk ((op_setLimit (N, R, Fr, inc) p1 p2 p3).2.2) α2 L2 f2 g (nI (op_setLimit (N, R, Fr, inc) p1 p2 p3).1) H locs ls ((hI.setLimit p1 p2 p3).mono (Nat.le_succ n)) hLk2 hα hW (lv_sub hl [2, 3, 4, 5, 6, 7] rfl)
