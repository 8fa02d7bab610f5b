/-! The law, case by case (4) -/
set_option maxHeartbeats 4000000 in
set_option maxRecDepth 100000 in
theorem lc_27 {p : Program} {l : Launch} {e : Env} {s : State} {m : MethodId} {below : List Frame} {meth : Method} {c : Code} {b Ls : Nat} {xs : Nat → Int32} (C0 : lw_At p s m meth c b Ls xs) (hT : TH s.heap.size s) (hN : NC s) (hl0 : l.stackTraces = false) {D : va_G} {cA : Nat → ClassId} {β : Nat → Nat} {α : Nat → Nat → Nat} {L : List (Nat × Nat)} {N : Nat → Nat → Nat} {R : Nat → Nat → Nat → Int32} {Fr : Nat → UInt32} {inc : Int64} {th : Int32} {o oD : Nat} {f : Nat → Int64} {g : Nat → UInt64} {i n : Nat} {H : Heap} {locs : List Loc} {cells slots : Nat} {ls : Array Slot} (hLk : LOK N L) (hI : IV n (N, R, Fr, inc)) (hn : n ≤ 1000) (hi : i + 6 ≤ Ls) (hL : Ls ≤ 3072) (hc : cells + 4 ≤ 603072 ∧ slots + 88 ≤ 7231594) (hW : Cw D cA s (fun q => s.heap.size ≤ q) (mWd cA β (o, .inl (cA 4, 1, .inr (.inl f))) (oD, .inl (cA 5, 1, .inr (.inr (.inr (.inl g))))) (L.map (xf cA α (N, R, Fr, inc))) th (N, R, Fr, inc)) H locs) (hl : lv_has ls 9 [(0, .ref b), (1, .ref (α 0 0)), (2, .ref (β 0)), (3, .ref o), (4, .ref oD), (5, .int (nI i))]) (kk : LKK p l e s m below meth c D cA b (α 0 0) o oD β i n cells slots) : W p l e room_1 s m #[Value.ref b] below meth c H locs cells slots (lw_Z below #[Value.ref b] s) (F0 m 1881 ls []) := by
  obtain ⟨hx, hb, hr, hml, hown, hts, hX, hbl, hlocks, hgv⟩ := id C0
  have F := law_F C0
  have h : INV n N R Fr inc := hI.1
  obtain ⟨p1, hp1⟩ : ∃ v, xs (nI i + 1).toNatClampNeg = v := ⟨_, rfl⟩
  obtain ⟨p2, hp2⟩ : ∃ v, xs (nI i + 2).toNatClampNeg = v := ⟨_, rfl⟩
  refine lv_aload_n hx hb dL_law_1881 rfl (lv_at hl 1 rfl) ?_
  refine lv_aload_n hx hb dL_law_1882 rfl (lv_at hl 0 rfl) ?_
  refine lv_iload hx hb dL_law_1883 (lv_at hl 5 rfl) ?_
  refine lv_iconst (v := 1) hx hb dL_law_1885 (by decide) ?_
  refine lv_iadd hx hb dL_law_1886 ?_
  refine k_sld C0 hW.2.2.2.1 (sc_1 hi hL) hp1 dL_law_1887 ?_
  refine lv_aload_n hx hb dL_law_1888 rfl (lv_at hl 0 rfl) ?_
  refine lv_iload hx hb dL_law_1889 (lv_at hl 5 rfl) ?_
  refine lv_iconst (v := 2) hx hb dL_law_1891 (by decide) ?_
  refine lv_iadd hx hb dL_law_1892 ?_
  refine k_sld C0 hW.2.2.2.1 (sc_2 hi hL) hp2 dL_law_1893 ?_
  refine lv_aload_n hx hb dL_law_1894 rfl (lv_at hl 3 rfl) ?_
  have hW := hW.eq xm
  refine k_callH (as := [.ref (α 0 0), .int p1, .int p2, .ref o]) (rest := []) F hT hN (fun _ h => h) (Nat.le_refl _) hW (met_L_load l D cA (mW cA β th (N, R, Fr, inc)) α L N R Fr inc o f (oD, .inl (cA 5, 1, .inr (.inr (.inr (.inl g))))) n p1 p2 s.heap.size hl0 hLk hI hn) rfl ML_L_221 ST_L_load IN_L CO_L_load hdS_L_load rfl rfl ⟨(Nat.le_of_ble_eq_true rfl), (Nat.le_of_ble_eq_true rfl)⟩ rfl rfl hl.1 (Nat.le_of_ble_eq_true rfl) dL_law_1895 ⟨by show _ ≤ 603072; omega, by show _ ≤ 7231594; omega⟩ (fun r u H locs hw hW => ?_)
  obtain ⟨f2, α2, L2⟩ := u
  obtain ⟨hr2, hα, hLk2, hf2⟩ := hw
  dsimp only at hα hLk2 hf2
  subst hr2
  have hW : Cw D cA s (fun q => s.heap.size ≤ q) (mWd cA β (o, .inl (cA 4, 1, .inr (.inl f2))) (oD, .inl (cA 5, 1, .inr (.inr (.inr (.inl g))))) (L2.map (xf cA α2 (op_load (N, R, Fr, inc) p1 p2).2.2)) th (N, R, Fr, inc)) H locs := hW
  refine lv_istore (lv' := [(6, .int (nI (op_load (N, R, Fr, inc) p1 p2).1)), (0, .ref b), (1, .ref (α 0 0)), (2, .ref (β 0)), (3, .ref o), (4, .ref oD), (5, .int (nI i))]) hx hb dL_law_1898 hl (by decide) rfl (fun ls hl => ?_)
  refine lv_aload_n hx hb dL_law_1900 rfl (lv_at hl 3 rfl) ?_
  refine lv_aload_n hx hb dL_law_1901 rfl (lv_at hl 1 rfl) ?_
  refine lv_iload hx hb dL_law_1902 (lv_at hl 6 rfl) ?_
  refine lv_iconst (v := 1) hx hb dL_law_1904 (by decide) ?_
  refine lv_iadd hx hb dL_law_1905 ?_
  refine k_sld C0 hW.2.2.2.1 (sc_1 hi hL) hp1 dL_law_1906 ?_
  refine lv_aload_n hx hb dL_law_1907 rfl (lv_at hl 1 rfl) ?_
  refine lv_iload hx hb dL_law_1908 (lv_at hl 6 rfl) ?_
  refine lv_iconst (v := 2) hx hb dL_law_1910 (by decide) ?_
  refine lv_iadd hx hb dL_law_1911 ?_
  refine k_sld C0 hW.2.2.2.1 (sc_2 hi hL) hp2 dL_law_1912 ?_
  refine k_callVi (as := [.int p1, .int p2]) (rest := []) (b := β 0) (ci := 7) (q0 := 2) F hW (met_X5_load l D cA β (o, .inl (cA 4, 1, .inr (.inl f2))) (oD, .inl (cA 5, 1, .inr (.inr (.inr (.inl g))))) (List.map (xf cA α2 (op_load (N, R, Fr, inc) p1 p2).2.2) L2) th N R Fr inc p1 p2 (iv_ic h).2.1 (iv_ic h).2.2.2.1 (iv_ic h).2.2.2.2.2.2.1) rfl ML_L_223 IM_X5_load SE_X5_load IN_X5 CO_X5_load hdV_X5_load rfl rfl ⟨(Nat.le_of_ble_eq_true rfl), (Nat.le_of_ble_eq_true rfl)⟩ rfl rfl rfl rfl rfl hl.1 (Nat.le_of_ble_eq_true rfl) dL_law_1913 ⟨by show _ ≤ 603072; omega, by show _ ≤ 7231594; omega⟩ (fun r u H locs hw hW => ?_)
  subst hw
  refine lv_istore (lv' := [(7, .int (op_load (N, R, Fr, inc) p1 p2).2.1), (6, .int (nI (op_load (N, R, Fr, inc) p1 p2).1)), (0, .ref b), (1, .ref (α 0 0)), (2, .ref (β 0)), (3, .ref o), (4, .ref oD), (5, .int (nI i))]) hx hb dL_law_1916 hl (by decide) rfl (fun ls hl => ?_)
  refine lv_aload_n hx hb dL_law_1918 rfl (lv_at hl 4 rfl) ?_
  refine k_callVi (as := []) (rest := []) (b := β 0) (ci := 7) (q0 := 2) F hW (met_thr l D cA β (o, .inl (cA 4, 1, .inr (.inl f2))) (oD, .inl (cA 5, 1, .inr (.inr (.inr (.inl g))))) (List.map (xf cA α2 (op_load (N, R, Fr, inc) p1 p2).2.2) L2) (nI (op_load (N, R, Fr, inc) p1 p2).1) (op_load (N, R, Fr, inc) p1 p2).2.2) rfl ML_L_130 IM_X5_thrown SE_X5_thrown IN_X5 CO_X5_thrown hdV_X5_thrown rfl rfl ⟨(Nat.le_of_ble_eq_true rfl), (Nat.le_of_ble_eq_true rfl)⟩ rfl rfl rfl rfl rfl hl.1 (Nat.le_of_ble_eq_true rfl) dL_law_1919 ⟨by show _ ≤ 603072; omega, by show _ ≤ 7231594; omega⟩ (fun r u H locs hw hW => ?_)
  subst hw
  refine lv_iload hx hb dL_law_1922 (lv_at hl 1 rfl) ?_
  refine lv_icmp_eq (tgt := 1929) hx hb dL_law_1924 (by decide) (fun _ => ?_) (fun h => absurd (rfl) h)
  refine lv_iload hx hb dL_law_1929 (lv_at hl 1 rfl) ?_
  refine lv_if_ne (tgt := 1946) hx hb dL_law_1931 (by decide) (fun h0 => ?_) (fun h0 => ?_)
  · refine lv_goto (tgt := 2245) hx hb dL_law_1946 (by decide) ?_
    refine W.widen (k := cells + 4) (n := slots + 88) (by omega) (by omega) ?_
    exact kk ((op_load (N, R, Fr, inc) p1 p2).2.2) α2 L2 f2 g (nI (op_load (N, R, Fr, inc) p1 p2).1) H locs ls ((hI.load p1 p2).mono (Nat.le_succ n)) hLk2 hα hW (lv_sub hl [2, 3, 4, 5, 6, 7] rfl)
  · have h1 : (op_load (N, R, Fr, inc) p1 p2).1 = 0 := nz_code (Nat.le_trans (ce_load N R Fr inc p1 p2).1 (Nat.le_of_ble_eq_true rfl)) h0
    refine lv_aload_n hx hb dL_law_1934 rfl (lv_at hl 5 rfl) ?_
    refine lv_iconst (v := 0) hx hb dL_law_1935 (by decide) ?_
    refine k_lald (v := ((op_load (N, R, Fr, inc) p1 p2).2.1).toInt64) F hW 0 rfl z_in (by rw [z_cl]; exact hf2 h1) dL_law_1936 ?_
    refine lv_iload hx hb dL_law_1937 (lv_at hl 0 rfl) ?_
    refine lv_i2l hx hb dL_law_1939 rfl ?_
    refine W.lcmp hx hb dL_law_1940 ?_
    rw [lg_self]
    refine lv_if_eq (tgt := 1946) hx hb dL_law_1941 (by decide) (fun _ => ?_) (fun h => absurd (rfl) h)
    refine lv_goto (tgt := 2245) hx hb dL_law_1946 (by decide) ?_
    refine W.widen (k := cells + 4) (n := slots + 88) (by omega) (by omega) ?_
    exact kk ((op_load (N, R, Fr, inc) p1 p2).2.2) α2 L2 f2 g (nI (op_load (N, R, Fr, inc) p1 p2).1) H locs ls ((hI.load p1 p2).mono (Nat.le_succ n)) hLk2 hα hW (lv_sub hl [2, 3, 4, 5, 6, 7] rfl)
set_option maxHeartbeats 4000000 in
set_option maxRecDepth 100000 in
theorem lc_28 {p : Program} {l : Launch} {e : Env} {s : State} {m : MethodId} {below : List Frame} {meth : Method} {c : Code} {b Ls : Nat} {xs : Nat → Int32} (C0 : lw_At p s m meth c b Ls xs) (hT : TH s.heap.size s) (hN : NC s) (hl0 : l.stackTraces = false) {D : va_G} {cA : Nat → ClassId} {β : Nat → Nat} {α : Nat → Nat → Nat} {L : List (Nat × Nat)} {N : Nat → Nat → Nat} {R : Nat → Nat → Nat → Int32} {Fr : Nat → UInt32} {inc : Int64} {th : Int32} {o oD : Nat} {f : Nat → Int64} {g : Nat → UInt64} {i n : Nat} {H : Heap} {locs : List Loc} {cells slots : Nat} {ls : Array Slot} (hLk : LOK N L) (hI : IV n (N, R, Fr, inc)) (hn : n ≤ 1000) (hi : i + 6 ≤ Ls) (hL : Ls ≤ 3072) (hc : cells + 4 ≤ 603072 ∧ slots + 88 ≤ 7231594) (hW : Cw D cA s (fun q => s.heap.size ≤ q) (mWd cA β (o, .inl (cA 4, 1, .inr (.inl f))) (oD, .inl (cA 5, 1, .inr (.inr (.inr (.inl g))))) (L.map (xf cA α (N, R, Fr, inc))) th (N, R, Fr, inc)) H locs) (hl : lv_has ls 9 [(0, .ref b), (1, .ref (α 0 0)), (2, .ref (β 0)), (3, .ref o), (4, .ref oD), (5, .int (nI i))]) (kk : LKK p l e s m below meth c D cA b (α 0 0) o oD β i n cells slots) : W p l e room_1 s m #[Value.ref b] below meth c H locs cells slots (lw_Z below #[Value.ref b] s) (F0 m 1949 ls []) := by
  obtain ⟨hx, hb, hr, hml, hown, hts, hX, hbl, hlocks, hgv⟩ := id C0
  have F := law_F C0
  have h : INV n N R Fr inc := hI.1
  obtain ⟨p1, hp1⟩ : ∃ v, xs (nI i + 1).toNatClampNeg = v := ⟨_, rfl⟩
  obtain ⟨p2, hp2⟩ : ∃ v, xs (nI i + 2).toNatClampNeg = v := ⟨_, rfl⟩
  refine lv_aload_n hx hb dL_law_1949 rfl (lv_at hl 1 rfl) ?_
  refine lv_aload_n hx hb dL_law_1950 rfl (lv_at hl 0 rfl) ?_
  refine lv_iload hx hb dL_law_1951 (lv_at hl 5 rfl) ?_
  refine lv_iconst (v := 1) hx hb dL_law_1953 (by decide) ?_
  refine lv_iadd hx hb dL_law_1954 ?_
  refine k_sld C0 hW.2.2.2.1 (sc_1 hi hL) hp1 dL_law_1955 ?_
  refine lv_aload_n hx hb dL_law_1956 rfl (lv_at hl 0 rfl) ?_
  refine lv_iload hx hb dL_law_1957 (lv_at hl 5 rfl) ?_
  refine lv_iconst (v := 2) hx hb dL_law_1959 (by decide) ?_
  refine lv_iadd hx hb dL_law_1960 ?_
  refine k_sld C0 hW.2.2.2.1 (sc_2 hi hL) hp2 dL_law_1961 ?_
  refine lv_aload_n hx hb dL_law_1962 rfl (lv_at hl 3 rfl) ?_
  have hW := hW.eq xm
  refine k_callH (as := [.ref (α 0 0), .int p1, .int p2, .ref o]) (rest := []) F hT hN (fun _ h => h) (Nat.le_refl _) hW (met_L_lotOn l D cA (mW cA β th (N, R, Fr, inc)) α L N R Fr inc o f (oD, .inl (cA 5, 1, .inr (.inr (.inr (.inl g))))) n p1 p2 s.heap.size hl0 hLk hI hn) rfl ML_L_224 ST_L_lotOn IN_L CO_L_lotOn hdS_L_lotOn rfl rfl ⟨(Nat.le_of_ble_eq_true rfl), (Nat.le_of_ble_eq_true rfl)⟩ rfl rfl hl.1 (Nat.le_of_ble_eq_true rfl) dL_law_1963 ⟨by show _ ≤ 603072; omega, by show _ ≤ 7231594; omega⟩ (fun r u H locs hw hW => ?_)
  obtain ⟨f2, α2, L2⟩ := u
  obtain ⟨hr2, hα, hLk2, hf2⟩ := hw
  dsimp only at hα hLk2 hf2
  subst hr2
  have hW : Cw D cA s (fun q => s.heap.size ≤ q) (mWd cA β (o, .inl (cA 4, 1, .inr (.inl f2))) (oD, .inl (cA 5, 1, .inr (.inr (.inr (.inl g))))) (L2.map (xf cA α2 (op_lotOn (N, R, Fr, inc) p1 p2).2.2)) th (N, R, Fr, inc)) H locs := hW
  refine lv_istore (lv' := [(6, .int (nI (op_lotOn (N, R, Fr, inc) p1 p2).1)), (0, .ref b), (1, .ref (α 0 0)), (2, .ref (β 0)), (3, .ref o), (4, .ref oD), (5, .int (nI i))]) hx hb dL_law_1966 hl (by decide) rfl (fun ls hl => ?_)
  refine lv_aload_n hx hb dL_law_1968 rfl (lv_at hl 3 rfl) ?_
  refine lv_aload_n hx hb dL_law_1969 rfl (lv_at hl 1 rfl) ?_
  refine lv_iload hx hb dL_law_1970 (lv_at hl 6 rfl) ?_
  refine lv_iconst (v := 1) hx hb dL_law_1972 (by decide) ?_
  refine lv_iadd hx hb dL_law_1973 ?_
  refine k_sld C0 hW.2.2.2.1 (sc_1 hi hL) hp1 dL_law_1974 ?_
  refine lv_aload_n hx hb dL_law_1975 rfl (lv_at hl 1 rfl) ?_
  refine lv_iload hx hb dL_law_1976 (lv_at hl 6 rfl) ?_
  refine lv_iconst (v := 2) hx hb dL_law_1978 (by decide) ?_
  refine lv_iadd hx hb dL_law_1979 ?_
  refine k_sld C0 hW.2.2.2.1 (sc_2 hi hL) hp2 dL_law_1980 ?_
  refine k_callVi (as := [.int p1, .int p2]) (rest := []) (b := β 0) (ci := 7) (q0 := 2) F hW (met_X5_lotOn l D cA β (o, .inl (cA 4, 1, .inr (.inl f2))) (oD, .inl (cA 5, 1, .inr (.inr (.inr (.inl g))))) (List.map (xf cA α2 (op_lotOn (N, R, Fr, inc) p1 p2).2.2) L2) th N R Fr inc p1 p2 (iv_ic h).2.2.2.1 (iv_ic h).2.2.2.2.2.2.1) rfl ML_L_226 IM_X5_lotOn SE_X5_lotOn IN_X5 CO_X5_lotOn hdV_X5_lotOn rfl rfl ⟨(Nat.le_of_ble_eq_true rfl), (Nat.le_of_ble_eq_true rfl)⟩ rfl rfl rfl rfl rfl hl.1 (Nat.le_of_ble_eq_true rfl) dL_law_1981 ⟨by show _ ≤ 603072; omega, by show _ ≤ 7231594; omega⟩ (fun r u H locs hw hW => ?_)
  subst hw
  refine lv_istore (lv' := [(7, .int (op_lotOn (N, R, Fr, inc) p1 p2).2.1), (6, .int (nI (op_lotOn (N, R, Fr, inc) p1 p2).1)), (0, .ref b), (1, .ref (α 0 0)), (2, .ref (β 0)), (3, .ref o), (4, .ref oD), (5, .int (nI i))]) hx hb dL_law_1984 hl (by decide) rfl (fun ls hl => ?_)
  refine lv_aload_n hx hb dL_law_1986 rfl (lv_at hl 4 rfl) ?_
  refine k_callVi (as := []) (rest := []) (b := β 0) (ci := 7) (q0 := 2) F hW (met_thr l D cA β (o, .inl (cA 4, 1, .inr (.inl f2))) (oD, .inl (cA 5, 1, .inr (.inr (.inr (.inl g))))) (List.map (xf cA α2 (op_lotOn (N, R, Fr, inc) p1 p2).2.2) L2) (nI (op_lotOn (N, R, Fr, inc) p1 p2).1) (op_lotOn (N, R, Fr, inc) p1 p2).2.2) rfl ML_L_130 IM_X5_thrown SE_X5_thrown IN_X5 CO_X5_thrown hdV_X5_thrown rfl rfl ⟨(Nat.le_of_ble_eq_true rfl), (Nat.le_of_ble_eq_true rfl)⟩ rfl rfl rfl rfl rfl hl.1 (Nat.le_of_ble_eq_true rfl) dL_law_1987 ⟨by show _ ≤ 603072; omega, by show _ ≤ 7231594; omega⟩ (fun r u H locs hw hW => ?_)
  subst hw
  refine lv_iload hx hb dL_law_1990 (lv_at hl 1 rfl) ?_
  refine lv_icmp_eq (tgt := 1997) hx hb dL_law_1992 (by decide) (fun _ => ?_) (fun h => absurd (rfl) h)
  refine lv_iload hx hb dL_law_1997 (lv_at hl 1 rfl) ?_
  refine lv_if_ne (tgt := 2014) hx hb dL_law_1999 (by decide) (fun h0 => ?_) (fun h0 => ?_)
  · refine lv_goto (tgt := 2245) hx hb dL_law_2014 (by decide) ?_
    refine W.widen (k := cells + 4) (n := slots + 88) (by omega) (by omega) ?_
    exact kk ((op_lotOn (N, R, Fr, inc) p1 p2).2.2) α2 L2 f2 g (nI (op_lotOn (N, R, Fr, inc) p1 p2).1) H locs ls (by rw [st_lotOn N R Fr inc p1 p2]; exact hI.mono (Nat.le_succ n)) hLk2 hα hW (lv_sub hl [2, 3, 4, 5, 6, 7] rfl)
  · have h1 : (op_lotOn (N, R, Fr, inc) p1 p2).1 = 0 := nz_code (Nat.le_trans (ce_lotOn N R Fr inc p1 p2).1 (Nat.le_of_ble_eq_true rfl)) h0
    refine lv_aload_n hx hb dL_law_2002 rfl (lv_at hl 5 rfl) ?_
    refine lv_iconst (v := 0) hx hb dL_law_2003 (by decide) ?_
    refine k_lald (v := ((op_lotOn (N, R, Fr, inc) p1 p2).2.1).toInt64) F hW 0 rfl z_in (by rw [z_cl]; exact hf2 h1) dL_law_2004 ?_
    refine lv_iload hx hb dL_law_2005 (lv_at hl 0 rfl) ?_
    refine lv_i2l hx hb dL_law_2007 rfl ?_
    refine W.lcmp hx hb dL_law_2008 ?_
    rw [lg_self]
    refine lv_if_eq (tgt := 2014) hx hb dL_law_2009 (by decide) (fun _ => ?_) (fun h => absurd (rfl) h)
    refine lv_goto (tgt := 2245) hx hb dL_law_2014 (by decide) ?_
    refine W.widen (k := cells + 4) (n := slots + 88) (by omega) (by omega) ?_
    exact kk ((op_lotOn (N, R, Fr, inc) p1 p2).2.2) α2 L2 f2 g (nI (op_lotOn (N, R, Fr, inc) p1 p2).1) H locs ls (by rw [st_lotOn N R Fr inc p1 p2]; exact hI.mono (Nat.le_succ n)) hLk2 hα hW (lv_sub hl [2, 3, 4, 5, 6, 7] rfl)
set_option maxHeartbeats 4000000 in
set_option maxRecDepth 100000 in
theorem lc_29 {p : Program} {l : Launch} {e : Env} {s : State} {m : MethodId} {below : List Frame} {meth : Method} {c : Code} {b Ls : Nat} {xs : Nat → Int32} (C0 : lw_At p s m meth c b Ls xs) (hT : TH s.heap.size s) (hN : NC s) (hl0 : l.stackTraces = false) {D : va_G} {cA : Nat → ClassId} {β : Nat → Nat} {α : Nat → Nat → Nat} {L : List (Nat × Nat)} {N : Nat → Nat → Nat} {R : Nat → Nat → Nat → Int32} {Fr : Nat → UInt32} {inc : Int64} {th : Int32} {o oD : Nat} {f : Nat → Int64} {g : Nat → UInt64} {i n : Nat} {H : Heap} {locs : List Loc} {cells slots : Nat} {ls : Array Slot} (hLk : LOK N L) (hI : IV n (N, R, Fr, inc)) (hn : n ≤ 1000) (hi : i + 6 ≤ Ls) (hL : Ls ≤ 3072) (hc : cells + 4 ≤ 603072 ∧ slots + 88 ≤ 7231594) (hW : Cw D cA s (fun q => s.heap.size ≤ q) (mWd cA β (o, .inl (cA 4, 1, .inr (.inl f))) (oD, .inl (cA 5, 1, .inr (.inr (.inr (.inl g))))) (L.map (xf cA α (N, R, Fr, inc))) th (N, R, Fr, inc)) H locs) (hl : lv_has ls 9 [(0, .ref b), (1, .ref (α 0 0)), (2, .ref (β 0)), (3, .ref o), (4, .ref oD), (5, .int (nI i))]) (kk : LKK p l e s m below meth c D cA b (α 0 0) o oD β i n cells slots) : W p l e room_1 s m #[Value.ref b] below meth c H locs cells slots (lw_Z below #[Value.ref b] s) (F0 m 2017 ls []) := by
  obtain ⟨hx, hb, hr, hml, hown, hts, hX, hbl, hlocks, hgv⟩ := id C0
  have F := law_F C0
  have h : INV n N R Fr inc := hI.1
  refine lv_aload_n hx hb dL_law_2017 rfl (lv_at hl 1 rfl) ?_
  have hW := hW.eq xm
  obtain ⟨q, hq⟩ := xw_at (wr := (o, .inl (cA 4, 1, .inr (.inl f))) :: (oD, .inl (cA 5, 1, .inr (.inr (.inr (.inl g))))) :: mW cA β th (N, R, Fr, inc)) (cA := cA) (α := α) (L := L) (S := (N, R, Fr, inc)) 0 0 (hLk.o 0 (by decide))
  refine k_callVl (as := []) (rest := []) (b := α 0 0) (ci := 6) (q0 := q) F hW (met_X4_income l D cA ((o, .inl (cA 4, 1, .inr (.inl f))) :: (oD, .inl (cA 5, 1, .inr (.inr (.inr (.inl g))))) :: mW cA β th (N, R, Fr, inc)) α L N R Fr inc hLk) rfl ML_L_227 IM_X4_income SE_X4_income IN_X4 CO_X4_income hdV_X4_income rfl rfl ⟨(Nat.le_of_ble_eq_true rfl), (Nat.le_of_ble_eq_true rfl)⟩ rfl rfl hq rfl rfl hl.1 (Nat.le_of_ble_eq_true rfl) dL_law_2018 ⟨by show _ ≤ 603072; omega, by show _ ≤ 7231594; omega⟩ (fun r u H locs hw hW => ?_)
  rw [hw]
  have hW : Cw D cA s (fun q => s.heap.size ≤ q) (mWd cA β (o, .inl (cA 4, 1, .inr (.inl f))) (oD, .inl (cA 5, 1, .inr (.inr (.inr (.inl g))))) (L.map (xf cA α (N, R, Fr, inc))) th (N, R, Fr, inc)) H locs := hW
  refine lv_aload_n hx hb dL_law_2021 rfl (lv_at hl 2 rfl) ?_
  refine k_callVl (as := []) (rest := [.long inc]) (b := β 0) (ci := 7) (q0 := 2) F hW (met_X5_income l D cA β (o, .inl (cA 4, 1, .inr (.inl f))) (oD, .inl (cA 5, 1, .inr (.inr (.inr (.inl g))))) (List.map (xf cA α (N, R, Fr, inc)) L) th N R Fr inc) rfl ML_L_230 IM_X5_income SE_X5_income IN_X5 CO_X5_income hdV_X5_income rfl rfl ⟨(Nat.le_of_ble_eq_true rfl), (Nat.le_of_ble_eq_true rfl)⟩ rfl rfl rfl rfl rfl hl.1 (Nat.le_of_ble_eq_true rfl) dL_law_2022 ⟨by show _ ≤ 603072; omega, by show _ ≤ 7231594; omega⟩ (fun r u H locs hw hW => ?_)
  rw [hw]
  refine W.lcmp hx hb dL_law_2025 ?_
  rw [lg_self]
  refine lv_if_eq (tgt := 2245) hx hb dL_law_2026 (by decide) (fun _ => ?_) (fun h => absurd (rfl) h)
  refine W.widen (k := cells + 4) (n := slots + 88) (by omega) (by omega) ?_
  exact kk (N, R, Fr, inc) α L f g 0 H locs ls (hI.mono (Nat.le_succ n)) hLk rfl hW (lv_sub hl [0, 1, 2, 3, 4, 5] rfl)
set_option maxHeartbeats 4000000 in
set_option maxRecDepth 100000 in
theorem lc_30 {p : Program} {l : Launch} {e : Env} {s : State} {m : MethodId} {below : List Frame} {meth : Method} {c : Code} {b Ls : Nat} {xs : Nat → Int32} (C0 : lw_At p s m meth c b Ls xs) (hT : TH s.heap.size s) (hN : NC s) (hl0 : l.stackTraces = false) {D : va_G} {cA : Nat → ClassId} {β : Nat → Nat} {α : Nat → Nat → Nat} {L : List (Nat × Nat)} {N : Nat → Nat → Nat} {R : Nat → Nat → Nat → Int32} {Fr : Nat → UInt32} {inc : Int64} {th : Int32} {o oD : Nat} {f : Nat → Int64} {g : Nat → UInt64} {i n : Nat} {H : Heap} {locs : List Loc} {cells slots : Nat} {ls : Array Slot} (hLk : LOK N L) (hI : IV n (N, R, Fr, inc)) (hn : n ≤ 1000) (hi : i + 6 ≤ Ls) (hL : Ls ≤ 3072) (hc : cells + 4 ≤ 603072 ∧ slots + 88 ≤ 7231594) (hW : Cw D cA s (fun q => s.heap.size ≤ q) (mWd cA β (o, .inl (cA 4, 1, .inr (.inl f))) (oD, .inl (cA 5, 1, .inr (.inr (.inr (.inl g))))) (L.map (xf cA α (N, R, Fr, inc))) th (N, R, Fr, inc)) H locs) (hl : lv_has ls 9 [(0, .ref b), (1, .ref (α 0 0)), (2, .ref (β 0)), (3, .ref o), (4, .ref oD), (5, .int (nI i))]) (kk : LKK p l e s m below meth c D cA b (α 0 0) o oD β i n cells slots) : W p l e room_1 s m #[Value.ref b] below meth c H locs cells slots (lw_Z below #[Value.ref b] s) (F0 m 2031 ls []) := by
  obtain ⟨hx, hb, hr, hml, hown, hts, hX, hbl, hlocks, hgv⟩ := id C0
  have F := law_F C0
  have h : INV n N R Fr inc := hI.1
  refine lv_aload_n hx hb dL_law_2031 rfl (lv_at hl 1 rfl) ?_
  have hW := hW.eq xm
  obtain ⟨q, hq⟩ := xw_at (wr := (o, .inl (cA 4, 1, .inr (.inl f))) :: (oD, .inl (cA 5, 1, .inr (.inr (.inr (.inl g))))) :: mW cA β th (N, R, Fr, inc)) (cA := cA) (α := α) (L := L) (S := (N, R, Fr, inc)) 0 0 (hLk.o 0 (by decide))
  refine k_callVl (as := []) (rest := []) (b := α 0 0) (ci := 6) (q0 := q) F hW (met_X4_incomeByLots l D cA ((o, .inl (cA 4, 1, .inr (.inl f))) :: (oD, .inl (cA 5, 1, .inr (.inr (.inr (.inl g))))) :: mW cA β th (N, R, Fr, inc)) α L N R Fr inc hLk (iv_ic h)) rfl ML_L_231 IM_X4_incomeByLots SE_X4_incomeByLots IN_X4 CO_X4_incomeByLots hdV_X4_incomeByLots rfl rfl ⟨(Nat.le_of_ble_eq_true rfl), (Nat.le_of_ble_eq_true rfl)⟩ rfl rfl hq rfl rfl hl.1 (Nat.le_of_ble_eq_true rfl) dL_law_2032 ⟨by show _ ≤ 603072; omega, by show _ ≤ 7231594; omega⟩ (fun r u H locs hw hW => ?_)
  rw [hw]
  have hW : Cw D cA s (fun q => s.heap.size ≤ q) (mWd cA β (o, .inl (cA 4, 1, .inr (.inl f))) (oD, .inl (cA 5, 1, .inr (.inr (.inr (.inl g))))) (L.map (xf cA α (N, R, Fr, inc))) th (N, R, Fr, inc)) H locs := hW
  rw [← iv_inc h]
  refine lv_aload_n hx hb dL_law_2035 rfl (lv_at hl 2 rfl) ?_
  refine k_callVl (as := []) (rest := [.long inc]) (b := β 0) (ci := 7) (q0 := 2) F hW (met_X5_incomeByLots l D cA β (o, .inl (cA 4, 1, .inr (.inl f))) (oD, .inl (cA 5, 1, .inr (.inr (.inr (.inl g))))) (List.map (xf cA α (N, R, Fr, inc)) L) th N R Fr inc) rfl ML_L_234 IM_X5_incomeByLots SE_X5_incomeByLots IN_X5 CO_X5_incomeByLots hdV_X5_incomeByLots rfl rfl ⟨(Nat.le_of_ble_eq_true rfl), (Nat.le_of_ble_eq_true rfl)⟩ rfl rfl rfl rfl rfl hl.1 (Nat.le_of_ble_eq_true rfl) dL_law_2036 ⟨by show _ ≤ 603072; omega, by show _ ≤ 7231594; omega⟩ (fun r u H locs hw hW => ?_)
  rw [hw]
  refine W.lcmp hx hb dL_law_2039 ?_
  rw [lg_self]
  refine lv_if_eq (tgt := 2245) hx hb dL_law_2040 (by decide) (fun _ => ?_) (fun h => absurd (rfl) h)
  refine W.widen (k := cells + 4) (n := slots + 88) (by omega) (by omega) ?_
  exact kk (N, R, Fr, inc) α L f g 0 H locs ls (hI.mono (Nat.le_succ n)) hLk rfl hW (lv_sub hl [0, 1, 2, 3, 4, 5] rfl)
set_option maxHeartbeats 4000000 in
set_option maxRecDepth 100000 in
theorem lc_31 {p : Program} {l : Launch} {e : Env} {s : State} {m : MethodId} {below : List Frame} {meth : Method} {c : Code} {b Ls : Nat} {xs : Nat → Int32} (C0 : lw_At p s m meth c b Ls xs) (hT : TH s.heap.size s) (hN : NC s) (hl0 : l.stackTraces = false) {D : va_G} {cA : Nat → ClassId} {β : Nat → Nat} {α : Nat → Nat → Nat} {L : List (Nat × Nat)} {N : Nat → Nat → Nat} {R : Nat → Nat → Nat → Int32} {Fr : Nat → UInt32} {inc : Int64} {th : Int32} {o oD : Nat} {f : Nat → Int64} {g : Nat → UInt64} {i n : Nat} {H : Heap} {locs : List Loc} {cells slots : Nat} {ls : Array Slot} (hLk : LOK N L) (hI : IV n (N, R, Fr, inc)) (hn : n ≤ 1000) (hi : i + 6 ≤ Ls) (hL : Ls ≤ 3072) (hc : cells + 4 ≤ 603072 ∧ slots + 88 ≤ 7231594) (hW : Cw D cA s (fun q => s.heap.size ≤ q) (mWd cA β (o, .inl (cA 4, 1, .inr (.inl f))) (oD, .inl (cA 5, 1, .inr (.inr (.inr (.inl g))))) (L.map (xf cA α (N, R, Fr, inc))) th (N, R, Fr, inc)) H locs) (hl : lv_has ls 9 [(0, .ref b), (1, .ref (α 0 0)), (2, .ref (β 0)), (3, .ref o), (4, .ref oD), (5, .int (nI i))]) (kk : LKK p l e s m below meth c D cA b (α 0 0) o oD β i n cells slots) : W p l e room_1 s m #[Value.ref b] below meth c H locs cells slots (lw_Z below #[Value.ref b] s) (F0 m 2045 ls []) := by
  obtain ⟨hx, hb, hr, hml, hown, hts, hX, hbl, hlocks, hgv⟩ := id C0
  have F := law_F C0
  have h : INV n N R Fr inc := hI.1
  refine lv_aload_n hx hb dL_law_2045 rfl (lv_at hl 1 rfl) ?_
  have hW := hW.eq xm
  obtain ⟨q, hq⟩ := xw_at (wr := (o, .inl (cA 4, 1, .inr (.inl f))) :: (oD, .inl (cA 5, 1, .inr (.inr (.inr (.inl g))))) :: mW cA β th (N, R, Fr, inc)) (cA := cA) (α := α) (L := L) (S := (N, R, Fr, inc)) 0 0 (hLk.o 0 (by decide))
  refine k_callVi (as := []) (rest := []) (b := α 0 0) (ci := 6) (q0 := q) F hW (met_X4_spoiled l D cA ((o, .inl (cA 4, 1, .inr (.inl f))) :: (oD, .inl (cA 5, 1, .inr (.inr (.inr (.inl g))))) :: mW cA β th (N, R, Fr, inc)) α L N R Fr inc hLk (iv_ic h)) rfl ML_L_235 IM_X4_spoiled SE_X4_spoiled IN_X4 CO_X4_spoiled hdV_X4_spoiled rfl rfl ⟨(Nat.le_of_ble_eq_true rfl), (Nat.le_of_ble_eq_true rfl)⟩ rfl rfl hq rfl rfl hl.1 (Nat.le_of_ble_eq_true rfl) dL_law_2046 ⟨by show _ ≤ 603072; omega, by show _ ≤ 7231594; omega⟩ (fun r u H locs hw hW => ?_)
  rw [hw]
  have hW : Cw D cA s (fun q => s.heap.size ≤ q) (mWd cA β (o, .inl (cA 4, 1, .inr (.inl f))) (oD, .inl (cA 5, 1, .inr (.inr (.inr (.inl g))))) (L.map (xf cA α (N, R, Fr, inc))) th (N, R, Fr, inc)) H locs := hW
  refine lv_aload_n hx hb dL_law_2049 rfl (lv_at hl 2 rfl) ?_
  refine k_callVi (as := []) (rest := [.int (wsum R (isBad R) (N 0 1))]) (b := β 0) (ci := 7) (q0 := 2) F hW (met_X5_spoiled l D cA β (o, .inl (cA 4, 1, .inr (.inl f))) (oD, .inl (cA 5, 1, .inr (.inr (.inr (.inl g))))) (List.map (xf cA α (N, R, Fr, inc)) L) th N R Fr inc (iv_ic h).2.1 (iv_lot h)) rfl ML_L_238 IM_X5_spoiled SE_X5_spoiled IN_X5 CO_X5_spoiled hdV_X5_spoiled rfl rfl ⟨(Nat.le_of_ble_eq_true rfl), (Nat.le_of_ble_eq_true rfl)⟩ rfl rfl rfl rfl rfl hl.1 (Nat.le_of_ble_eq_true rfl) dL_law_2050 ⟨by show _ ≤ 603072; omega, by show _ ≤ 7231594; omega⟩ (fun r u H locs hw hW => ?_)
  rw [hw]
  refine lv_icmp_eq (tgt := 2245) hx hb dL_law_2053 (by decide) (fun _ => ?_) (fun h => absurd (rfl) h)
  refine W.widen (k := cells + 4) (n := slots + 88) (by omega) (by omega) ?_
  exact kk (N, R, Fr, inc) α L f g 0 H locs ls (hI.mono (Nat.le_succ n)) hLk rfl hW (lv_sub hl [0, 1, 2, 3, 4, 5] rfl)
set_option maxHeartbeats 4000000 in
set_option maxRecDepth 100000 in
theorem lc_32 {p : Program} {l : Launch} {e : Env} {s : State} {m : MethodId} {below : List Frame} {meth : Method} {c : Code} {b Ls : Nat} {xs : Nat → Int32} (C0 : lw_At p s m meth c b Ls xs) (hT : TH s.heap.size s) (hN : NC s) (hl0 : l.stackTraces = false) {D : va_G} {cA : Nat → ClassId} {β : Nat → Nat} {α : Nat → Nat → Nat} {L : List (Nat × Nat)} {N : Nat → Nat → Nat} {R : Nat → Nat → Nat → Int32} {Fr : Nat → UInt32} {inc : Int64} {th : Int32} {o oD : Nat} {f : Nat → Int64} {g : Nat → UInt64} {i n : Nat} {H : Heap} {locs : List Loc} {cells slots : Nat} {ls : Array Slot} (hLk : LOK N L) (hI : IV n (N, R, Fr, inc)) (hn : n ≤ 1000) (hi : i + 6 ≤ Ls) (hL : Ls ≤ 3072) (hc : cells + 4 ≤ 603072 ∧ slots + 88 ≤ 7231594) (hW : Cw D cA s (fun q => s.heap.size ≤ q) (mWd cA β (o, .inl (cA 4, 1, .inr (.inl f))) (oD, .inl (cA 5, 1, .inr (.inr (.inr (.inl g))))) (L.map (xf cA α (N, R, Fr, inc))) th (N, R, Fr, inc)) H locs) (hl : lv_has ls 9 [(0, .ref b), (1, .ref (α 0 0)), (2, .ref (β 0)), (3, .ref o), (4, .ref oD), (5, .int (nI i))]) (kk : LKK p l e s m below meth c D cA b (α 0 0) o oD β i n cells slots) : W p l e room_1 s m #[Value.ref b] below meth c H locs cells slots (lw_Z below #[Value.ref b] s) (F0 m 2058 ls []) := by
  obtain ⟨hx, hb, hr, hml, hown, hts, hX, hbl, hlocks, hgv⟩ := id C0
  have F := law_F C0
  have h : INV n N R Fr inc := hI.1
  refine lv_aload_n hx hb dL_law_2058 rfl (lv_at hl 1 rfl) ?_
  refine lv_aload hx hb dL_law_2059 (lv_at hl 4 rfl) ?_
  have hW := hW.eq xm
  refine k_callH (as := [.ref (α 0 0), .ref oD]) (rest := []) F hT hN (fun _ h => h) (Nat.le_refl _) hW (met_L_soldShare l D cA (mW cA β th (N, R, Fr, inc)) α L N R Fr inc oD g (o, .inl (cA 4, 1, .inr (.inl f))) n s.heap.size hl0 hLk hI hn) rfl ML_L_239 ST_L_soldShare IN_L CO_L_soldShare hdS_L_soldShare rfl rfl ⟨(Nat.le_of_ble_eq_true rfl), (Nat.le_of_ble_eq_true rfl)⟩ rfl rfl hl.1 (Nat.le_of_ble_eq_true rfl) dL_law_2061 ⟨by show _ ≤ 603072; omega, by show _ ≤ 7231594; omega⟩ (fun r u H locs hw hW => ?_)
  obtain ⟨f2, α2, L2⟩ := u
  obtain ⟨hr2, hα, hLk2, hf2⟩ := hw
  dsimp only at hα hLk2 hf2
  subst hr2
  have hW : Cw D cA s (fun q => s.heap.size ≤ q) (mWd cA β (o, .inl (cA 4, 1, .inr (.inl f))) (oD, .inl (cA 5, 1, .inr (.inr (.inr (.inl f2))))) (L2.map (xf cA α2 (op_soldShare (N, R, Fr, inc)).2.2)) th (N, R, Fr, inc)) H locs := hW
  refine lv_istore (lv' := [(6, .int (nI (op_soldShare (N, R, Fr, inc)).1)), (0, .ref b), (1, .ref (α 0 0)), (2, .ref (β 0)), (3, .ref o), (4, .ref oD), (5, .int (nI i))]) hx hb dL_law_2064 hl (by decide) rfl (fun ls hl => ?_)
  refine lv_aload_n hx hb dL_law_2066 rfl (lv_at hl 3 rfl) ?_
  refine k_callVf (as := []) (rest := []) (b := β 0) (ci := 7) (q0 := 2) F hW (met_X5_soldShare l D cA β (o, .inl (cA 4, 1, .inr (.inl f))) (oD, .inl (cA 5, 1, .inr (.inr (.inr (.inl f2))))) (List.map (xf cA α2 (op_soldShare (N, R, Fr, inc)).2.2) L2) th N R Fr inc (iv_ic h).2.1 (iv_lot h)) rfl ML_L_242 IM_X5_soldShare SE_X5_soldShare IN_X5 CO_X5_soldShare hdV_X5_soldShare rfl rfl ⟨(Nat.le_of_ble_eq_true rfl), (Nat.le_of_ble_eq_true rfl)⟩ rfl rfl rfl rfl rfl hl.1 (Nat.le_of_ble_eq_true rfl) dL_law_2067 ⟨by show _ ≤ 603072; omega, by show _ ≤ 7231594; omega⟩ (fun r u H locs hw hW => ?_)
  subst hw
  refine lv_fstore (lv' := [(7, .float (op_soldShare (N, R, Fr, inc)).2.1), (6, .int (nI (op_soldShare (N, R, Fr, inc)).1)), (0, .ref b), (1, .ref (α 0 0)), (2, .ref (β 0)), (3, .ref o), (4, .ref oD), (5, .int (nI i))]) hx hb dL_law_2070 hl (by decide) rfl (fun ls hl => ?_)
  refine lv_aload_n hx hb dL_law_2072 rfl (lv_at hl 4 rfl) ?_
  refine k_callVi (as := []) (rest := []) (b := β 0) (ci := 7) (q0 := 2) F hW (met_thr l D cA β (o, .inl (cA 4, 1, .inr (.inl f))) (oD, .inl (cA 5, 1, .inr (.inr (.inr (.inl f2))))) (List.map (xf cA α2 (op_soldShare (N, R, Fr, inc)).2.2) L2) (nI (op_soldShare (N, R, Fr, inc)).1) (op_soldShare (N, R, Fr, inc)).2.2) rfl ML_L_130 IM_X5_thrown SE_X5_thrown IN_X5 CO_X5_thrown hdV_X5_thrown rfl rfl ⟨(Nat.le_of_ble_eq_true rfl), (Nat.le_of_ble_eq_true rfl)⟩ rfl rfl rfl rfl rfl hl.1 (Nat.le_of_ble_eq_true rfl) dL_law_2073 ⟨by show _ ≤ 603072; omega, by show _ ≤ 7231594; omega⟩ (fun r u H locs hw hW => ?_)
  subst hw
  refine lv_iload hx hb dL_law_2076 (lv_at hl 1 rfl) ?_
  refine lv_icmp_eq (tgt := 2083) hx hb dL_law_2078 (by decide) (fun _ => ?_) (fun h => absurd (rfl) h)
  refine lv_iload hx hb dL_law_2083 (lv_at hl 1 rfl) ?_
  refine lv_if_ne (tgt := 2121) hx hb dL_law_2085 (by decide) (fun h0 => ?_) (fun h0 => ?_)
  · refine lv_goto (tgt := 2245) hx hb dL_law_2121 (by decide) ?_
    refine W.widen (k := cells + 4) (n := slots + 88) (by omega) (by omega) ?_
    exact kk ((op_soldShare (N, R, Fr, inc)).2.2) α2 L2 f f2 (nI (op_soldShare (N, R, Fr, inc)).1) H locs ls (by rw [st_soldShare N R Fr inc]; exact hI.mono (Nat.le_succ n)) hLk2 hα hW (lv_sub hl [2, 3, 4, 5, 6, 7] rfl)
  · have h1 : (op_soldShare (N, R, Fr, inc)).1 = 0 := nz_code (Nat.le_trans (ce_soldShare N R Fr inc).1 (Nat.le_of_ble_eq_true rfl)) h0
    refine lv_aload hx hb dL_law_2088 (lv_at hl 6 rfl) ?_
    refine lv_iconst (v := 0) hx hb dL_law_2090 (by decide) ?_
    have hno := no_share h h1
    refine k_dald (v := FP.f2d (op_soldShare (N, R, Fr, inc)).2.1) F hW 1 rfl z_in (by rw [z_cl]; exact hf2 h1) dL_law_2091 ?_
    refine lv_fload hx hb dL_law_2092 (lv_at hl 0 rfl) ?_
    refine lv_f2d hx hb dL_law_2094 (nn_f2d hno) ?_
    refine lv_dcmp hx hb dL_law_2095 ?_
    rw [dself (f2d_no hno)]
    refine lv_if_eq (tgt := 2121) hx hb dL_law_2096 (by decide) (fun _ => ?_) (fun h => absurd (rfl) h)
    refine lv_goto (tgt := 2245) hx hb dL_law_2121 (by decide) ?_
    refine W.widen (k := cells + 4) (n := slots + 88) (by omega) (by omega) ?_
    exact kk ((op_soldShare (N, R, Fr, inc)).2.2) α2 L2 f f2 (nI (op_soldShare (N, R, Fr, inc)).1) H locs ls (by rw [st_soldShare N R Fr inc]; exact hI.mono (Nat.le_succ n)) hLk2 hα hW (lv_sub hl [2, 3, 4, 5, 6, 7] rfl)
set_option maxHeartbeats 4000000 in
set_option maxRecDepth 100000 in
theorem lc_33 {p : Program} {l : Launch} {e : Env} {s : State} {m : MethodId} {below : List Frame} {meth : Method} {c : Code} {b Ls : Nat} {xs : Nat → Int32} (C0 : lw_At p s m meth c b Ls xs) (hT : TH s.heap.size s) (hN : NC s) (hl0 : l.stackTraces = false) {D : va_G} {cA : Nat → ClassId} {β : Nat → Nat} {α : Nat → Nat → Nat} {L : List (Nat × Nat)} {N : Nat → Nat → Nat} {R : Nat → Nat → Nat → Int32} {Fr : Nat → UInt32} {inc : Int64} {th : Int32} {o oD : Nat} {f : Nat → Int64} {g : Nat → UInt64} {i n : Nat} {H : Heap} {locs : List Loc} {cells slots : Nat} {ls : Array Slot} (hLk : LOK N L) (hI : IV n (N, R, Fr, inc)) (hn : n ≤ 1000) (hi : i + 6 ≤ Ls) (hL : Ls ≤ 3072) (hc : cells + 4 ≤ 603072 ∧ slots + 88 ≤ 7231594) (hW : Cw D cA s (fun q => s.heap.size ≤ q) (mWd cA β (o, .inl (cA 4, 1, .inr (.inl f))) (oD, .inl (cA 5, 1, .inr (.inr (.inr (.inl g))))) (L.map (xf cA α (N, R, Fr, inc))) th (N, R, Fr, inc)) H locs) (hl : lv_has ls 9 [(0, .ref b), (1, .ref (α 0 0)), (2, .ref (β 0)), (3, .ref o), (4, .ref oD), (5, .int (nI i))]) (kk : LKK p l e s m below meth c D cA b (α 0 0) o oD β i n cells slots) : W p l e room_1 s m #[Value.ref b] below meth c H locs cells slots (lw_Z below #[Value.ref b] s) (F0 m 2124 ls []) := by
  obtain ⟨hx, hb, hr, hml, hown, hts, hX, hbl, hlocks, hgv⟩ := id C0
  have F := law_F C0
  have h : INV n N R Fr inc := hI.1
  refine lv_aload_n hx hb dL_law_2124 rfl (lv_at hl 1 rfl) ?_
  refine lv_aload hx hb dL_law_2125 (lv_at hl 4 rfl) ?_
  have hW := hW.eq xm
  refine k_callH (as := [.ref (α 0 0), .ref oD]) (rest := []) F hT hN (fun _ h => h) (Nat.le_refl _) hW (met_L_meanPrice l D cA (mW cA β th (N, R, Fr, inc)) α L N R Fr inc oD g (o, .inl (cA 4, 1, .inr (.inl f))) n s.heap.size hl0 hLk hI hn) rfl ML_L_243 ST_L_meanPrice IN_L CO_L_meanPrice hdS_L_meanPrice rfl rfl ⟨(Nat.le_of_ble_eq_true rfl), (Nat.le_of_ble_eq_true rfl)⟩ rfl rfl hl.1 (Nat.le_of_ble_eq_true rfl) dL_law_2127 ⟨by show _ ≤ 603072; omega, by show _ ≤ 7231594; omega⟩ (fun r u H locs hw hW => ?_)
  obtain ⟨f2, α2, L2⟩ := u
  obtain ⟨hr2, hα, hLk2, hf2⟩ := hw
  dsimp only at hα hLk2 hf2
  subst hr2
  have hW : Cw D cA s (fun q => s.heap.size ≤ q) (mWd cA β (o, .inl (cA 4, 1, .inr (.inl f))) (oD, .inl (cA 5, 1, .inr (.inr (.inr (.inl f2))))) (L2.map (xf cA α2 (op_meanPrice (N, R, Fr, inc)).2.2)) th (N, R, Fr, inc)) H locs := hW
  refine lv_istore (lv' := [(6, .int (nI (op_meanPrice (N, R, Fr, inc)).1)), (0, .ref b), (1, .ref (α 0 0)), (2, .ref (β 0)), (3, .ref o), (4, .ref oD), (5, .int (nI i))]) hx hb dL_law_2130 hl (by decide) rfl (fun ls hl => ?_)
  refine lv_aload_n hx hb dL_law_2132 rfl (lv_at hl 3 rfl) ?_
  refine k_callVb (as := []) (rest := []) (b := β 0) (ci := 7) (q0 := 2) F hW (met_X5_meanPrice l D cA β (o, .inl (cA 4, 1, .inr (.inl f))) (oD, .inl (cA 5, 1, .inr (.inr (.inr (.inl f2))))) (List.map (xf cA α2 (op_meanPrice (N, R, Fr, inc)).2.2) L2) th N R Fr inc (iv_ic h).2.1 (iv_lot h)) rfl ML_L_245 IM_X5_meanPrice SE_X5_meanPrice IN_X5 CO_X5_meanPrice hdV_X5_meanPrice rfl rfl ⟨(Nat.le_of_ble_eq_true rfl), (Nat.le_of_ble_eq_true rfl)⟩ rfl rfl rfl rfl rfl hl.1 (Nat.le_of_ble_eq_true rfl) dL_law_2133 ⟨by show _ ≤ 603072; omega, by show _ ≤ 7231594; omega⟩ (fun r u H locs hw hW => ?_)
  subst hw
  refine lv_dstore (lv' := [(7, .double (op_meanPrice (N, R, Fr, inc)).2.1), (6, .int (nI (op_meanPrice (N, R, Fr, inc)).1)), (0, .ref b), (1, .ref (α 0 0)), (2, .ref (β 0)), (3, .ref o), (4, .ref oD), (5, .int (nI i))]) hx hb dL_law_2136 hl (by decide) rfl (fun ls hl => ?_)
  refine lv_aload_n hx hb dL_law_2138 rfl (lv_at hl 4 rfl) ?_
  refine k_callVi (as := []) (rest := []) (b := β 0) (ci := 7) (q0 := 2) F hW (met_thr l D cA β (o, .inl (cA 4, 1, .inr (.inl f))) (oD, .inl (cA 5, 1, .inr (.inr (.inr (.inl f2))))) (List.map (xf cA α2 (op_meanPrice (N, R, Fr, inc)).2.2) L2) (nI (op_meanPrice (N, R, Fr, inc)).1) (op_meanPrice (N, R, Fr, inc)).2.2) rfl ML_L_130 IM_X5_thrown SE_X5_thrown IN_X5 CO_X5_thrown hdV_X5_thrown rfl rfl ⟨(Nat.le_of_ble_eq_true rfl), (Nat.le_of_ble_eq_true rfl)⟩ rfl rfl rfl rfl rfl hl.1 (Nat.le_of_ble_eq_true rfl) dL_law_2139 ⟨by show _ ≤ 603072; omega, by show _ ≤ 7231594; omega⟩ (fun r u H locs hw hW => ?_)
  subst hw
  refine lv_iload hx hb dL_law_2142 (lv_at hl 1 rfl) ?_
  refine lv_icmp_eq (tgt := 2149) hx hb dL_law_2144 (by decide) (fun _ => ?_) (fun h => absurd (rfl) h)
  refine lv_iload hx hb dL_law_2149 (lv_at hl 1 rfl) ?_
  refine lv_if_ne (tgt := 2186) hx hb dL_law_2151 (by decide) (fun h0 => ?_) (fun h0 => ?_)
  · refine lv_goto (tgt := 2245) hx hb dL_law_2186 (by decide) ?_
    refine W.widen (k := cells + 4) (n := slots + 88) (by omega) (by omega) ?_
    exact kk ((op_meanPrice (N, R, Fr, inc)).2.2) α2 L2 f f2 (nI (op_meanPrice (N, R, Fr, inc)).1) H locs ls (by rw [st_meanPrice N R Fr inc]; exact hI.mono (Nat.le_succ n)) hLk2 hα hW (lv_sub hl [2, 3, 4, 5, 6, 7] rfl)
  · have h1 : (op_meanPrice (N, R, Fr, inc)).1 = 0 := nz_code (Nat.le_trans (ce_meanPrice N R Fr inc).1 (Nat.le_of_ble_eq_true rfl)) h0
    refine lv_aload hx hb dL_law_2154 (lv_at hl 6 rfl) ?_
    refine lv_iconst (v := 0) hx hb dL_law_2156 (by decide) ?_
    have hno := no_mean h1
    refine k_dald (v := (op_meanPrice (N, R, Fr, inc)).2.1) F hW 1 rfl z_in (by rw [z_cl]; exact hf2 h1) dL_law_2157 ?_
    refine lv_dload hx hb dL_law_2158 (lv_at hl 0 rfl) ?_
    refine lv_dcmp hx hb dL_law_2160 ?_
    rw [dself hno]
    refine lv_if_eq (tgt := 2186) hx hb dL_law_2161 (by decide) (fun _ => ?_) (fun h => absurd (rfl) h)
    refine lv_goto (tgt := 2245) hx hb dL_law_2186 (by decide) ?_
    refine W.widen (k := cells + 4) (n := slots + 88) (by omega) (by omega) ?_
    exact kk ((op_meanPrice (N, R, Fr, inc)).2.2) α2 L2 f f2 (nI (op_meanPrice (N, R, Fr, inc)).1) H locs ls (by rw [st_meanPrice N R Fr inc]; exact hI.mono (Nat.le_succ n)) hLk2 hα hW (lv_sub hl [2, 3, 4, 5, 6, 7] rfl)
set_option maxHeartbeats 4000000 in
set_option maxRecDepth 100000 in
theorem lc_34 {p : Program} {l : Launch} {e : Env} {s : State} {m : MethodId} {below : List Frame} {meth : Method} {c : Code} {b Ls : Nat} {xs : Nat → Int32} (C0 : lw_At p s m meth c b Ls xs) (hT : TH s.heap.size s) (hN : NC s) (hl0 : l.stackTraces = false) {D : va_G} {cA : Nat → ClassId} {β : Nat → Nat} {α : Nat → Nat → Nat} {L : List (Nat × Nat)} {N : Nat → Nat → Nat} {R : Nat → Nat → Nat → Int32} {Fr : Nat → UInt32} {inc : Int64} {th : Int32} {o oD : Nat} {f : Nat → Int64} {g : Nat → UInt64} {i n : Nat} {H : Heap} {locs : List Loc} {cells slots : Nat} {ls : Array Slot} (hLk : LOK N L) (hI : IV n (N, R, Fr, inc)) (hn : n ≤ 1000) (hi : i + 6 ≤ Ls) (hL : Ls ≤ 3072) (hc : cells + 4 ≤ 603072 ∧ slots + 88 ≤ 7231594) (hW : Cw D cA s (fun q => s.heap.size ≤ q) (mWd cA β (o, .inl (cA 4, 1, .inr (.inl f))) (oD, .inl (cA 5, 1, .inr (.inr (.inr (.inl g))))) (L.map (xf cA α (N, R, Fr, inc))) th (N, R, Fr, inc)) H locs) (hl : lv_has ls 9 [(0, .ref b), (1, .ref (α 0 0)), (2, .ref (β 0)), (3, .ref o), (4, .ref oD), (5, .int (nI i))]) (kk : LKK p l e s m below meth c D cA b (α 0 0) o oD β i n cells slots) : W p l e room_1 s m #[Value.ref b] below meth c H locs cells slots (lw_Z below #[Value.ref b] s) (F0 m 2189 ls []) := by
  obtain ⟨hx, hb, hr, hml, hown, hts, hX, hbl, hlocks, hgv⟩ := id C0
  have F := law_F C0
  have h : INV n N R Fr inc := hI.1
  refine lv_aload_n hx hb dL_law_2189 rfl (lv_at hl 1 rfl) ?_
  refine lv_aload_n hx hb dL_law_2190 rfl (lv_at hl 3 rfl) ?_
  have hW := hW.eq xm
  refine k_callH (as := [.ref (α 0 0), .ref o]) (rest := []) F hT hN (fun _ h => h) (Nat.le_refl _) hW (met_L_meanBits l D cA (mW cA β th (N, R, Fr, inc)) α L N R Fr inc o f (oD, .inl (cA 5, 1, .inr (.inr (.inr (.inl g))))) n s.heap.size hl0 hLk hI hn) rfl ML_L_246 ST_L_meanBits IN_L CO_L_meanBits hdS_L_meanBits rfl rfl ⟨(Nat.le_of_ble_eq_true rfl), (Nat.le_of_ble_eq_true rfl)⟩ rfl rfl hl.1 (Nat.le_of_ble_eq_true rfl) dL_law_2191 ⟨by show _ ≤ 603072; omega, by show _ ≤ 7231594; omega⟩ (fun r u H locs hw hW => ?_)
  obtain ⟨f2, α2, L2⟩ := u
  obtain ⟨hr2, hα, hLk2, hf2⟩ := hw
  dsimp only at hα hLk2 hf2
  subst hr2
  have hW : Cw D cA s (fun q => s.heap.size ≤ q) (mWd cA β (o, .inl (cA 4, 1, .inr (.inl f2))) (oD, .inl (cA 5, 1, .inr (.inr (.inr (.inl g))))) (L2.map (xf cA α2 (op_meanBits (N, R, Fr, inc)).2.2)) th (N, R, Fr, inc)) H locs := hW
  refine lv_istore (lv' := [(6, .int (nI (op_meanBits (N, R, Fr, inc)).1)), (0, .ref b), (1, .ref (α 0 0)), (2, .ref (β 0)), (3, .ref o), (4, .ref oD), (5, .int (nI i))]) hx hb dL_law_2194 hl (by decide) rfl (fun ls hl => ?_)
  refine lv_aload_n hx hb dL_law_2196 rfl (lv_at hl 3 rfl) ?_
  refine k_callVl (as := []) (rest := []) (b := β 0) (ci := 7) (q0 := 2) F hW (met_X5_meanBits l D cA β (o, .inl (cA 4, 1, .inr (.inl f2))) (oD, .inl (cA 5, 1, .inr (.inr (.inr (.inl g))))) (List.map (xf cA α2 (op_meanBits (N, R, Fr, inc)).2.2) L2) th N R Fr inc (iv_ic h).2.1 (iv_lot h)) rfl ML_L_248 IM_X5_meanBits SE_X5_meanBits IN_X5 CO_X5_meanBits hdV_X5_meanBits rfl rfl ⟨(Nat.le_of_ble_eq_true rfl), (Nat.le_of_ble_eq_true rfl)⟩ rfl rfl rfl rfl rfl hl.1 (Nat.le_of_ble_eq_true rfl) dL_law_2197 ⟨by show _ ≤ 603072; omega, by show _ ≤ 7231594; omega⟩ (fun r u H locs hw hW => ?_)
  subst hw
  refine lv_lstore (lv' := [(7, .long (op_meanBits (N, R, Fr, inc)).2.1), (6, .int (nI (op_meanBits (N, R, Fr, inc)).1)), (0, .ref b), (1, .ref (α 0 0)), (2, .ref (β 0)), (3, .ref o), (4, .ref oD), (5, .int (nI i))]) hx hb dL_law_2200 hl (by decide) rfl (fun ls hl => ?_)
  refine lv_aload_n hx hb dL_law_2202 rfl (lv_at hl 4 rfl) ?_
  refine k_callVi (as := []) (rest := []) (b := β 0) (ci := 7) (q0 := 2) F hW (met_thr l D cA β (o, .inl (cA 4, 1, .inr (.inl f2))) (oD, .inl (cA 5, 1, .inr (.inr (.inr (.inl g))))) (List.map (xf cA α2 (op_meanBits (N, R, Fr, inc)).2.2) L2) (nI (op_meanBits (N, R, Fr, inc)).1) (op_meanBits (N, R, Fr, inc)).2.2) rfl ML_L_130 IM_X5_thrown SE_X5_thrown IN_X5 CO_X5_thrown hdV_X5_thrown rfl rfl ⟨(Nat.le_of_ble_eq_true rfl), (Nat.le_of_ble_eq_true rfl)⟩ rfl rfl rfl rfl rfl hl.1 (Nat.le_of_ble_eq_true rfl) dL_law_2203 ⟨by show _ ≤ 603072; omega, by show _ ≤ 7231594; omega⟩ (fun r u H locs hw hW => ?_)
  subst hw
  refine lv_iload hx hb dL_law_2206 (lv_at hl 1 rfl) ?_
  refine lv_icmp_eq (tgt := 2213) hx hb dL_law_2208 (by decide) (fun _ => ?_) (fun h => absurd (rfl) h)
  refine lv_iload hx hb dL_law_2213 (lv_at hl 1 rfl) ?_
  refine lv_if_ne (tgt := 2229) hx hb dL_law_2215 (by decide) (fun h0 => ?_) (fun h0 => ?_)
  · refine lv_goto (tgt := 2245) hx hb dL_law_2229 (by decide) ?_
    refine W.widen (k := cells + 4) (n := slots + 88) (by omega) (by omega) ?_
    exact kk ((op_meanBits (N, R, Fr, inc)).2.2) α2 L2 f2 g (nI (op_meanBits (N, R, Fr, inc)).1) H locs ls (by rw [st_meanBits N R Fr inc]; exact hI.mono (Nat.le_succ n)) hLk2 hα hW (lv_sub hl [2, 3, 4, 5, 6, 7] rfl)
  · have h1 : (op_meanBits (N, R, Fr, inc)).1 = 0 := nz_code (Nat.le_trans (ce_meanBits N R Fr inc).1 (Nat.le_of_ble_eq_true rfl)) h0
    refine lv_aload_n hx hb dL_law_2218 rfl (lv_at hl 5 rfl) ?_
    refine lv_iconst (v := 0) hx hb dL_law_2219 (by decide) ?_
    refine k_lald (v := (op_meanBits (N, R, Fr, inc)).2.1) F hW 0 rfl z_in (by rw [z_cl]; exact hf2 h1) dL_law_2220 ?_
    refine lv_lload hx hb dL_law_2221 (lv_at hl 0 rfl) ?_
    refine W.lcmp hx hb dL_law_2223 ?_
    rw [lg_self]
    refine lv_if_eq (tgt := 2229) hx hb dL_law_2224 (by decide) (fun _ => ?_) (fun h => absurd (rfl) h)
    refine lv_goto (tgt := 2245) hx hb dL_law_2229 (by decide) ?_
    refine W.widen (k := cells + 4) (n := slots + 88) (by omega) (by omega) ?_
    exact kk ((op_meanBits (N, R, Fr, inc)).2.2) α2 L2 f2 g (nI (op_meanBits (N, R, Fr, inc)).1) H locs ls (by rw [st_meanBits N R Fr inc]; exact hI.mono (Nat.le_succ n)) hLk2 hα hW (lv_sub hl [2, 3, 4, 5, 6, 7] rfl)
set_option maxHeartbeats 4000000 in
set_option maxRecDepth 100000 in
theorem lc_35 {p : Program} {l : Launch} {e : Env} {s : State} {m : MethodId} {below : List Frame} {meth : Method} {c : Code} {b Ls : Nat} {xs : Nat → Int32} (C0 : lw_At p s m meth c b Ls xs) (hT : TH s.heap.size s) (hN : NC s) (hl0 : l.stackTraces = false) {D : va_G} {cA : Nat → ClassId} {β : Nat → Nat} {α : Nat → Nat → Nat} {L : List (Nat × Nat)} {N : Nat → Nat → Nat} {R : Nat → Nat → Nat → Int32} {Fr : Nat → UInt32} {inc : Int64} {th : Int32} {o oD : Nat} {f : Nat → Int64} {g : Nat → UInt64} {i n : Nat} {H : Heap} {locs : List Loc} {cells slots : Nat} {ls : Array Slot} (hLk : LOK N L) (hI : IV n (N, R, Fr, inc)) (hn : n ≤ 1000) (hi : i + 6 ≤ Ls) (hL : Ls ≤ 3072) (hc : cells + 4 ≤ 603072 ∧ slots + 88 ≤ 7231594) (hW : Cw D cA s (fun q => s.heap.size ≤ q) (mWd cA β (o, .inl (cA 4, 1, .inr (.inl f))) (oD, .inl (cA 5, 1, .inr (.inr (.inr (.inl g))))) (L.map (xf cA α (N, R, Fr, inc))) th (N, R, Fr, inc)) H locs) (hl : lv_has ls 9 [(0, .ref b), (1, .ref (α 0 0)), (2, .ref (β 0)), (3, .ref o), (4, .ref oD), (5, .int (nI i))]) (kk : LKK p l e s m below meth c D cA b (α 0 0) o oD β i n cells slots) : W p l e room_1 s m #[Value.ref b] below meth c H locs cells slots (lw_Z below #[Value.ref b] s) (F0 m 2232 ls []) := by
  obtain ⟨hx, hb, hr, hml, hown, hts, hX, hbl, hlocks, hgv⟩ := id C0
  have F := law_F C0
  have h : INV n N R Fr inc := hI.1
  refine lv_aload_n hx hb dL_law_2232 rfl (lv_at hl 1 rfl) ?_
  have hW := hW.eq xm
  obtain ⟨q, hq⟩ := xw_at (wr := (o, .inl (cA 4, 1, .inr (.inl f))) :: (oD, .inl (cA 5, 1, .inr (.inr (.inr (.inl g))))) :: mW cA β th (N, R, Fr, inc)) (cA := cA) (α := α) (L := L) (S := (N, R, Fr, inc)) 0 0 (hLk.o 0 (by decide))
  refine k_callVi (as := []) (rest := []) (b := α 0 0) (ci := 6) (q0 := q) F hW (met_X4_isSound l D cA ((o, .inl (cA 4, 1, .inr (.inl f))) :: (oD, .inl (cA 5, 1, .inr (.inr (.inr (.inl g))))) :: mW cA β th (N, R, Fr, inc)) α L N R Fr inc hLk (iv_ic h) (iv_lot h) (iv_ck h) (iv_pf h) (iv_q h) (iv_inc h)) rfl ML_L_249 IM_X4_isSound SE_X4_isSound IN_X4 CO_X4_isSound hdV_X4_isSound rfl rfl ⟨(Nat.le_of_ble_eq_true rfl), (Nat.le_of_ble_eq_true rfl)⟩ rfl rfl hq rfl rfl hl.1 (Nat.le_of_ble_eq_true rfl) dL_law_2233 ⟨by show _ ≤ 603072; omega, by show _ ≤ 7231594; omega⟩ (fun r u H locs hw hW => ?_)
  rw [hw]
  have hW : Cw D cA s (fun q => s.heap.size ≤ q) (mWd cA β (o, .inl (cA 4, 1, .inr (.inl f))) (oD, .inl (cA 5, 1, .inr (.inr (.inr (.inl g))))) (L.map (xf cA α (N, R, Fr, inc))) th (N, R, Fr, inc)) H locs := hW
  refine lv_aload_n hx hb dL_law_2236 rfl (lv_at hl 2 rfl) ?_
  refine k_callVi (as := []) (rest := [.int 1]) (b := β 0) (ci := 7) (q0 := 2) F hW (met_X5_isSound l D cA β (o, .inl (cA 4, 1, .inr (.inl f))) (oD, .inl (cA 5, 1, .inr (.inr (.inr (.inl g))))) (List.map (xf cA α (N, R, Fr, inc)) L) th N R Fr inc) rfl ML_L_253 IM_X5_isSound SE_X5_isSound IN_X5 CO_X5_isSound hdV_X5_isSound rfl rfl ⟨(Nat.le_of_ble_eq_true rfl), (Nat.le_of_ble_eq_true rfl)⟩ rfl rfl rfl rfl rfl hl.1 (Nat.le_of_ble_eq_true rfl) dL_law_2237 ⟨by show _ ≤ 603072; omega, by show _ ≤ 7231594; omega⟩ (fun r u H locs hw hW => ?_)
  rw [hw]
  refine lv_icmp_eq (tgt := 2245) hx hb dL_law_2240 (by decide) (fun _ => ?_) (fun h => absurd (rfl) h)
  refine W.widen (k := cells + 4) (n := slots + 88) (by omega) (by omega) ?_
  exact kk (N, R, Fr, inc) α L f g 0 H locs ls (hI.mono (Nat.le_succ n)) hLk rfl hW (lv_sub hl [0, 1, 2, 3, 4, 5] rfl)
