section
-- ===== PART A: goes FIRST, ahead of the names: the tables' words, and 'selects' of the private methods out of them =====
/-- a private method of a class that the tables say can be made, by its rows of tables_1 -/
def lw_okq (q : MethodName × Nat) : Prop := (q.1.cls ≠ "java/lang/invoke/MethodHandle" ∧ q.1.cls ≠ "java/lang/invoke/VarHandle") ∧ Cond.instantiable q.1.cls q.2 ∈ tables_1 ∧ Cond.privateMethod q.1 ∈ tables_1 ∧ Cond.instanceMethod q.1 ∈ tables_1
theorem lw_p0 : lw_okq (⟨"Fishpier", "deliverAll", "(LFishpier$Truck;)V"⟩, 15) := ⟨⟨by decide +kernel, by decide +kernel⟩, List.mem_of_getElem? (i := 24) (by decide +kernel), List.mem_of_getElem? (i := 109) (by decide +kernel), List.mem_of_getElem? (i := 110) (by decide +kernel)⟩
theorem lw_p1 : lw_okq (⟨"Fishpier", "giveMoneyBack", "(LFishpier$Lot;)V"⟩, 15) := ⟨⟨by decide +kernel, by decide +kernel⟩, List.mem_of_getElem? (i := 24) (by decide +kernel), List.mem_of_getElem? (i := 113) (by decide +kernel), List.mem_of_getElem? (i := 114) (by decide +kernel)⟩
theorem lw_p2 : lw_okq (⟨"Fishpier", "arePricesSound", "()Z"⟩, 15) := ⟨⟨by decide +kernel, by decide +kernel⟩, List.mem_of_getElem? (i := 24) (by decide +kernel), List.mem_of_getElem? (i := 140) (by decide +kernel), List.mem_of_getElem? (i := 141) (by decide +kernel)⟩
theorem lw_p3 : lw_okq (⟨"Fishpier", "priceOnClock", "(LFishpier$Lot;)I"⟩, 15) := ⟨⟨by decide +kernel, by decide +kernel⟩, List.mem_of_getElem? (i := 24) (by decide +kernel), List.mem_of_getElem? (i := 144) (by decide +kernel), List.mem_of_getElem? (i := 145) (by decide +kernel)⟩
theorem lw_p4 : lw_okq (⟨"Fishpier", "greatestOfferFor", "(LFishpier$Lot;)I"⟩, 15) := ⟨⟨by decide +kernel, by decide +kernel⟩, List.mem_of_getElem? (i := 24) (by decide +kernel), List.mem_of_getElem? (i := 148) (by decide +kernel), List.mem_of_getElem? (i := 149) (by decide +kernel)⟩
theorem lw_p5 : lw_okq (⟨"Fishpier", "bestTaker", "(LFishpier$Lot;I)LFishpier$Buyer;"⟩, 15) := ⟨⟨by decide +kernel, by decide +kernel⟩, List.mem_of_getElem? (i := 24) (by decide +kernel), List.mem_of_getElem? (i := 160) (by decide +kernel), List.mem_of_getElem? (i := 161) (by decide +kernel)⟩
theorem lw_p6 : lw_okq (⟨"Fishpier", "priceFromBuyers", "(LFishpier$Lot;)I"⟩, 15) := ⟨⟨by decide +kernel, by decide +kernel⟩, List.mem_of_getElem? (i := 24) (by decide +kernel), List.mem_of_getElem? (i := 164) (by decide +kernel), List.mem_of_getElem? (i := 165) (by decide +kernel)⟩
theorem lw_p7 : lw_okq (⟨"Fishpier", "greatestShownUpTo", "(I)I"⟩, 15) := ⟨⟨by decide +kernel, by decide +kernel⟩, List.mem_of_getElem? (i := 24) (by decide +kernel), List.mem_of_getElem? (i := 176) (by decide +kernel), List.mem_of_getElem? (i := 177) (by decide +kernel)⟩
theorem lw_p8 : lw_okq (⟨"Fishpier", "areQuotasSound", "()Z"⟩, 15) := ⟨⟨by decide +kernel, by decide +kernel⟩, List.mem_of_getElem? (i := 24) (by decide +kernel), List.mem_of_getElem? (i := 180) (by decide +kernel), List.mem_of_getElem? (i := 181) (by decide +kernel)⟩
theorem lw_p9 : lw_okq (⟨"Fishpier", "isQuotaSound", "(LFishpier$Boat;)Z"⟩, 15) := ⟨⟨by decide +kernel, by decide +kernel⟩, List.mem_of_getElem? (i := 24) (by decide +kernel), List.mem_of_getElem? (i := 184) (by decide +kernel), List.mem_of_getElem? (i := 185) (by decide +kernel)⟩
theorem lw_p10 : lw_okq (⟨"Fishpier", "landedBy", "(LFishpier$Boat;I)I"⟩, 15) := ⟨⟨by decide +kernel, by decide +kernel⟩, List.mem_of_getElem? (i := 24) (by decide +kernel), List.mem_of_getElem? (i := 188) (by decide +kernel), List.mem_of_getElem? (i := 189) (by decide +kernel)⟩
theorem lw_p11 : lw_okq (⟨"java/lang/Throwable", "fillInStackTrace", "(I)Ljava/lang/Throwable;"⟩, 6) := ⟨⟨by decide +kernel, by decide +kernel⟩, List.mem_of_getElem? (i := 249) (by decide +kernel), List.mem_of_getElem? (i := 247) (by decide +kernel), List.mem_of_getElem? (i := 248) (by decide +kernel)⟩
theorem lw_p12 : lw_okq (⟨"Fishpier", "boatNumbered", "(I)LFishpier$Boat;"⟩, 15) := ⟨⟨by decide +kernel, by decide +kernel⟩, List.mem_of_getElem? (i := 24) (by decide +kernel), List.mem_of_getElem? (i := 352) (by decide +kernel), List.mem_of_getElem? (i := 353) (by decide +kernel)⟩
theorem lw_p13 : lw_okq (⟨"Fishpier", "lotNumbered", "(I)LFishpier$Lot;"⟩, 15) := ⟨⟨by decide +kernel, by decide +kernel⟩, List.mem_of_getElem? (i := 24) (by decide +kernel), List.mem_of_getElem? (i := 518) (by decide +kernel), List.mem_of_getElem? (i := 519) (by decide +kernel)⟩
theorem lw_p14 : lw_okq (⟨"Fishpier", "buyerNumbered", "(I)LFishpier$Buyer;"⟩, 15) := ⟨⟨by decide +kernel, by decide +kernel⟩, List.mem_of_getElem? (i := 24) (by decide +kernel), List.mem_of_getElem? (i := 610) (by decide +kernel), List.mem_of_getElem? (i := 611) (by decide +kernel)⟩
theorem lw_p15 : lw_okq (⟨"Fishpier", "lotForSale", "(I)LFishpier$Lot;"⟩, 15) := ⟨⟨by decide +kernel, by decide +kernel⟩, List.mem_of_getElem? (i := 24) (by decide +kernel), List.mem_of_getElem? (i := 645) (by decide +kernel), List.mem_of_getElem? (i := 646) (by decide +kernel)⟩
def lw_privs_1 : List (MethodName × Nat) := [(⟨"Fishpier", "deliverAll", "(LFishpier$Truck;)V"⟩, 15), (⟨"Fishpier", "giveMoneyBack", "(LFishpier$Lot;)V"⟩, 15), (⟨"Fishpier", "arePricesSound", "()Z"⟩, 15), (⟨"Fishpier", "priceOnClock", "(LFishpier$Lot;)I"⟩, 15), (⟨"Fishpier", "greatestOfferFor", "(LFishpier$Lot;)I"⟩, 15), (⟨"Fishpier", "bestTaker", "(LFishpier$Lot;I)LFishpier$Buyer;"⟩, 15), (⟨"Fishpier", "priceFromBuyers", "(LFishpier$Lot;)I"⟩, 15), (⟨"Fishpier", "greatestShownUpTo", "(I)I"⟩, 15), (⟨"Fishpier", "areQuotasSound", "()Z"⟩, 15), (⟨"Fishpier", "isQuotaSound", "(LFishpier$Boat;)Z"⟩, 15), (⟨"Fishpier", "landedBy", "(LFishpier$Boat;I)I"⟩, 15), (⟨"java/lang/Throwable", "fillInStackTrace", "(I)Ljava/lang/Throwable;"⟩, 6), (⟨"Fishpier", "boatNumbered", "(I)LFishpier$Boat;"⟩, 15), (⟨"Fishpier", "lotNumbered", "(I)LFishpier$Lot;"⟩, 15), (⟨"Fishpier", "buyerNumbered", "(I)LFishpier$Buyer;"⟩, 15), (⟨"Fishpier", "lotForSale", "(I)LFishpier$Lot;"⟩, 15)]
theorem lw_r1 : ∀ q ∈ lw_privs_1, lw_okq q := List.forall_mem_cons.mpr ⟨lw_p0, List.forall_mem_cons.mpr ⟨lw_p1, List.forall_mem_cons.mpr ⟨lw_p2, List.forall_mem_cons.mpr ⟨lw_p3, List.forall_mem_cons.mpr ⟨lw_p4, List.forall_mem_cons.mpr ⟨lw_p5, List.forall_mem_cons.mpr ⟨lw_p6, List.forall_mem_cons.mpr ⟨lw_p7, List.forall_mem_cons.mpr ⟨lw_p8, List.forall_mem_cons.mpr ⟨lw_p9, List.forall_mem_cons.mpr ⟨lw_p10, List.forall_mem_cons.mpr ⟨lw_p11, List.forall_mem_cons.mpr ⟨lw_p12, List.forall_mem_cons.mpr ⟨lw_p13, List.forall_mem_cons.mpr ⟨lw_p14, List.forall_mem_cons.mpr ⟨lw_p15, fun _ h => absurd h List.not_mem_nil⟩⟩⟩⟩⟩⟩⟩⟩⟩⟩⟩⟩⟩⟩⟩⟩
theorem lw_p16 : lw_okq (⟨"Fishpier", "truckNumbered", "(I)LFishpier$Truck;"⟩, 15) := ⟨⟨by decide +kernel, by decide +kernel⟩, List.mem_of_getElem? (i := 24) (by decide +kernel), List.mem_of_getElem? (i := 723) (by decide +kernel), List.mem_of_getElem? (i := 724) (by decide +kernel)⟩
theorem lw_p17 : lw_okq (⟨"Fishpier", "weightOfAllLots", "()I"⟩, 15) := ⟨⟨by decide +kernel, by decide +kernel⟩, List.mem_of_getElem? (i := 24) (by decide +kernel), List.mem_of_getElem? (i := 767) (by decide +kernel), List.mem_of_getElem? (i := 768) (by decide +kernel)⟩
theorem lw_p18 : lw_okq (⟨"Fishpier", "weightOfSoldLots", "()I"⟩, 15) := ⟨⟨by decide +kernel, by decide +kernel⟩, List.mem_of_getElem? (i := 24) (by decide +kernel), List.mem_of_getElem? (i := 774) (by decide +kernel), List.mem_of_getElem? (i := 775) (by decide +kernel)⟩
theorem lw_p19 : lw_okq (⟨"Fishpier", "meanOfSoldKilograms", "()D"⟩, 15) := ⟨⟨by decide +kernel, by decide +kernel⟩, List.mem_of_getElem? (i := 24) (by decide +kernel), List.mem_of_getElem? (i := 789) (by decide +kernel), List.mem_of_getElem? (i := 790) (by decide +kernel)⟩
theorem lw_p20 : lw_okq (⟨"FishpierModel", "goesOn", "(I)Z"⟩, 30) := ⟨⟨by decide +kernel, by decide +kernel⟩, List.mem_of_getElem? (i := 806) (by decide +kernel), List.mem_of_getElem? (i := 917) (by decide +kernel), List.mem_of_getElem? (i := 918) (by decide +kernel)⟩
theorem lw_p21 : lw_okq (⟨"FishpierModel", "isBoat", "(I)Z"⟩, 30) := ⟨⟨by decide +kernel, by decide +kernel⟩, List.mem_of_getElem? (i := 806) (by decide +kernel), List.mem_of_getElem? (i := 928) (by decide +kernel), List.mem_of_getElem? (i := 929) (by decide +kernel)⟩
theorem lw_p22 : lw_okq (⟨"FishpierModel", "isLot", "(I)Z"⟩, 30) := ⟨⟨by decide +kernel, by decide +kernel⟩, List.mem_of_getElem? (i := 806) (by decide +kernel), List.mem_of_getElem? (i := 957) (by decide +kernel), List.mem_of_getElem? (i := 958) (by decide +kernel)⟩
theorem lw_p23 : lw_okq (⟨"FishpierModel", "iceFor", "(I)I"⟩, 30) := ⟨⟨by decide +kernel, by decide +kernel⟩, List.mem_of_getElem? (i := 806) (by decide +kernel), List.mem_of_getElem? (i := 995) (by decide +kernel), List.mem_of_getElem? (i := 996) (by decide +kernel)⟩
theorem lw_p24 : lw_okq (⟨"FishpierModel", "ages", "(I)V"⟩, 30) := ⟨⟨by decide +kernel, by decide +kernel⟩, List.mem_of_getElem? (i := 806) (by decide +kernel), List.mem_of_getElem? (i := 1003) (by decide +kernel), List.mem_of_getElem? (i := 1004) (by decide +kernel)⟩
theorem lw_p25 : lw_okq (⟨"FishpierModel", "delivers", "(I)V"⟩, 30) := ⟨⟨by decide +kernel, by decide +kernel⟩, List.mem_of_getElem? (i := 806) (by decide +kernel), List.mem_of_getElem? (i := 1010) (by decide +kernel), List.mem_of_getElem? (i := 1011) (by decide +kernel)⟩
theorem lw_p26 : lw_okq (⟨"FishpierModel", "isBuyer", "(I)Z"⟩, 30) := ⟨⟨by decide +kernel, by decide +kernel⟩, List.mem_of_getElem? (i := 806) (by decide +kernel), List.mem_of_getElem? (i := 1028) (by decide +kernel), List.mem_of_getElem? (i := 1029) (by decide +kernel)⟩
theorem lw_p27 : lw_okq (⟨"FishpierModel", "offerOf", "(II)I"⟩, 30) := ⟨⟨by decide +kernel, by decide +kernel⟩, List.mem_of_getElem? (i := 806) (by decide +kernel), List.mem_of_getElem? (i := 1044) (by decide +kernel), List.mem_of_getElem? (i := 1045) (by decide +kernel)⟩
theorem lw_p28 : lw_okq (⟨"FishpierModel", "saleFault", "(I)I"⟩, 30) := ⟨⟨by decide +kernel, by decide +kernel⟩, List.mem_of_getElem? (i := 806) (by decide +kernel), List.mem_of_getElem? (i := 1053) (by decide +kernel), List.mem_of_getElem? (i := 1054) (by decide +kernel)⟩
theorem lw_p29 : lw_okq (⟨"FishpierModel", "falls", "(I)I"⟩, 30) := ⟨⟨by decide +kernel, by decide +kernel⟩, List.mem_of_getElem? (i := 806) (by decide +kernel), List.mem_of_getElem? (i := 1057) (by decide +kernel), List.mem_of_getElem? (i := 1058) (by decide +kernel)⟩
theorem lw_p30 : lw_okq (⟨"FishpierModel", "takes", "(II)I"⟩, 30) := ⟨⟨by decide +kernel, by decide +kernel⟩, List.mem_of_getElem? (i := 806) (by decide +kernel), List.mem_of_getElem? (i := 1061) (by decide +kernel), List.mem_of_getElem? (i := 1062) (by decide +kernel)⟩
theorem lw_p31 : lw_okq (⟨"FishpierModel", "isTruck", "(I)Z"⟩, 30) := ⟨⟨by decide +kernel, by decide +kernel⟩, List.mem_of_getElem? (i := 806) (by decide +kernel), List.mem_of_getElem? (i := 1090) (by decide +kernel), List.mem_of_getElem? (i := 1091) (by decide +kernel)⟩
def lw_privs_2 : List (MethodName × Nat) := [(⟨"Fishpier", "truckNumbered", "(I)LFishpier$Truck;"⟩, 15), (⟨"Fishpier", "weightOfAllLots", "()I"⟩, 15), (⟨"Fishpier", "weightOfSoldLots", "()I"⟩, 15), (⟨"Fishpier", "meanOfSoldKilograms", "()D"⟩, 15), (⟨"FishpierModel", "goesOn", "(I)Z"⟩, 30), (⟨"FishpierModel", "isBoat", "(I)Z"⟩, 30), (⟨"FishpierModel", "isLot", "(I)Z"⟩, 30), (⟨"FishpierModel", "iceFor", "(I)I"⟩, 30), (⟨"FishpierModel", "ages", "(I)V"⟩, 30), (⟨"FishpierModel", "delivers", "(I)V"⟩, 30), (⟨"FishpierModel", "isBuyer", "(I)Z"⟩, 30), (⟨"FishpierModel", "offerOf", "(II)I"⟩, 30), (⟨"FishpierModel", "saleFault", "(I)I"⟩, 30), (⟨"FishpierModel", "falls", "(I)I"⟩, 30), (⟨"FishpierModel", "takes", "(II)I"⟩, 30), (⟨"FishpierModel", "isTruck", "(I)Z"⟩, 30)]
theorem lw_r2 : ∀ q ∈ lw_privs_2, lw_okq q := List.forall_mem_cons.mpr ⟨lw_p16, List.forall_mem_cons.mpr ⟨lw_p17, List.forall_mem_cons.mpr ⟨lw_p18, List.forall_mem_cons.mpr ⟨lw_p19, List.forall_mem_cons.mpr ⟨lw_p20, List.forall_mem_cons.mpr ⟨lw_p21, List.forall_mem_cons.mpr ⟨lw_p22, List.forall_mem_cons.mpr ⟨lw_p23, List.forall_mem_cons.mpr ⟨lw_p24, List.forall_mem_cons.mpr ⟨lw_p25, List.forall_mem_cons.mpr ⟨lw_p26, List.forall_mem_cons.mpr ⟨lw_p27, List.forall_mem_cons.mpr ⟨lw_p28, List.forall_mem_cons.mpr ⟨lw_p29, List.forall_mem_cons.mpr ⟨lw_p30, List.forall_mem_cons.mpr ⟨lw_p31, fun _ h => absurd h List.not_mem_nil⟩⟩⟩⟩⟩⟩⟩⟩⟩⟩⟩⟩⟩⟩⟩⟩
theorem lw_p32 : lw_okq (⟨"FishpierModel", "weights", "(Z)I"⟩, 30) := ⟨⟨by decide +kernel, by decide +kernel⟩, List.mem_of_getElem? (i := 806) (by decide +kernel), List.mem_of_getElem? (i := 1114) (by decide +kernel), List.mem_of_getElem? (i := 1115) (by decide +kernel)⟩
theorem lw_p33 : lw_okq (⟨"FishpierModel", "isSold", "(I)Z"⟩, 30) := ⟨⟨by decide +kernel, by decide +kernel⟩, List.mem_of_getElem? (i := 806) (by decide +kernel), List.mem_of_getElem? (i := 1118) (by decide +kernel), List.mem_of_getElem? (i := 1119) (by decide +kernel)⟩
def lw_privs_3 : List (MethodName × Nat) := [(⟨"FishpierModel", "weights", "(Z)I"⟩, 30), (⟨"FishpierModel", "isSold", "(I)Z"⟩, 30)]
theorem lw_r3 : ∀ q ∈ lw_privs_3, lw_okq q := List.forall_mem_cons.mpr ⟨lw_p32, List.forall_mem_cons.mpr ⟨lw_p33, fun _ h => absurd h List.not_mem_nil⟩⟩
def lw_privs : List (MethodName × Nat) := lw_privs_1 ++ (lw_privs_2 ++ (lw_privs_3))
def lw_tbl : List Cond := k2_sels lw_privs ++ tables_1
theorem lw_privs_ok : ∀ q ∈ lw_privs, lw_okq q := by
  show ∀ q ∈ lw_privs_1 ++ (lw_privs_2 ++ (lw_privs_3)), lw_okq q
  exact List.forall_mem_append.mpr ⟨lw_r1, List.forall_mem_append.mpr ⟨lw_r2, lw_r3⟩⟩
/-- the streams that the claim lets the run draw from -/
abbrev lw_cs : List Choice := [Jvm.Choice.named "NaN.bits"]
theorem lw_bits : nanBits ∈ lw_cs := by first | decide | exact List.mem_cons_self | simp [lw_cs, nanBits]
/-! ===== BEGIN words of one list among another's, by their places ===== -/
theorem goodIn_r {big : List Cond} (ws : List Cond) (ps : List Nat) (hp : ws = ps.filterMap (fun i => big[i]?)) (h : ws.all goodWord = true) : GoodIn big ws := by
  intro w hw
  have h1 := List.all_eq_true.mp h w hw
  rw [hp] at hw
  obtain ⟨i, -, hi⟩ := List.mem_filterMap.mp hw
  have hm : w ∈ big := by first | exact List.mem_of_getElem? hi | exact List.getElem?_mem hi
  exact ⟨hm, good_of_word h1⟩
theorem goodIn_app {big a b : List Cond} (ha : GoodIn big a) (hb : GoodIn big b) : GoodIn big (a ++ b) := fun w h => (List.mem_append.mp h).elim (ha w) (hb w)
theorem goodIn_ca {big a b : List Cond} {c : Cond} (ha : GoodIn big (c :: a)) (hb : GoodIn big b) : GoodIn big (c :: (a ++ b)) := fun w h => (List.mem_cons.mp h).elim (fun e => ha w (List.mem_cons.mpr (Or.inl e))) (fun h => (List.mem_append.mp h).elim (fun h => ha w (List.mem_cons.mpr (Or.inr h))) (hb w))
theorem goodIn_sub {big ws : List Cond} (hm : ∀ w ∈ ws, w ∈ big) (h : ws.all goodWord = true) : GoodIn big ws := fun w hw => ⟨hm w hw, good_of_word (List.all_eq_true.mp h w hw)⟩
/-! ===== END ===== -/

/-! ===== BEGIN exceptions that leave a method, and their catching by the caller (launches without stack traces) ===== -/
section VXA
/-! The laws vx_back, vx_callV, vx_callS, vx_callSW, vx_throw0, vx_throwS follow proofs of the library, with one case more: JvmDerived/Free/Laws.lean (Back.of_free), Shelf42/LK1.lean (callV, callS), Shelf/KitTraced.lean (throwNew0V, throwNewS). -/
/-- where a method has thrown q: the class by its name, the cell, what was written, the world -/
def vx_T (XC : String → State → State → Prop) (st : State) (q : Addr) (t : State) (mc ms : Nat) (free : Addr → Prop) : Prop :=
  ∃ (E : String) (ce : Cell) (L : List Loc), XC E st t ∧ t.heap[q]? = some ce ∧ ce.vm = .none ∧ st.vm.findClass E = some ce.cls ∧ st.WarmedH t.vm ∧ st.sameButNew ({ t with vm := st.vm } : State) L mc ms ∧ ∀ z ∈ L, free z.base
def vx_Q (Qc : Array Value → State → Outcome → State → Prop) (XC : String → State → State → Prop) (mc ms : Nat) (free : Addr → Prop) : Array Value → State → Outcome → State → Prop := fun a st o t =>
  (Qc a st o t ∧ ∃ L, FrameEnd st o t L mc ms ∧ ∀ q ∈ L, free q.base) ∨ ∃ q, o = .threw q ∧ vx_T XC st q t mc ms free
/-- a callee that returns or throws -/
def vx_Met (l : Launch) (y : MethodName) (ws : List Cond) (rm : Room) (Pc : Array Value → State → Prop) (Qc : Array Value → State → Outcome → State → Prop) (XC : String → State → State → Prop) (mc ms : Nat) (free : Addr → Prop) : Prop :=
  MetFree l y (headSpec ws rm) Pc (fun _ _ _ _ _ => True) (vx_Q Qc XC mc ms free)
def vx_Post (XC : String → State → State → Prop) (mc ms : Nat) (free : Addr → Prop) : Pt → Array Value → Addr → Pt → Prop := fun A a q B =>
  ∃ (g : JFrame) (mk : MethodId) (t : State) (L : List Loc) (E : String) (ce : Cell), B.U.heap = t.heap ∧ B.U.vm = t.vm ∧ XC E (A.U.calling g mk a) t ∧ t.heap[q]? = some ce ∧ ce.vm = .none ∧ A.U.vm.findClass E = some ce.cls ∧ B.locs = A.locs ++ L ∧ (∀ z ∈ L, free z.base) ∧ B.cells = A.cells + mc ∧ B.slots = A.slots + ms
def vx_Back (l : Launch) (R : Room) (p : Program) (e : Env) (below : List Frame) (s : State) (sargs : Array Value) (y : MethodName) (len W9 : Nat)
    (Pre : Pt → Array Value → Prop) (Post : Pt → Array Value → Option Value → Pt → Prop) (PostX : Pt → Array Value → Addr → Pt → Prop) : Prop :=
  ∀ (m : MethodId) (meth : Method) (c : Code) (A : Pt) (g : JFrame) (ig : Instr) (mk : MethodId) (a : Array Value),
    Stand p l e R s m sargs below meth c A.U A.locs A.cells A.slots → g.method = m → g.locals.size = c.maxLocals → decode c.code g.pc = .ok (ig, len) →
    2 * g.monitorRoom + (g.stack.map fun v => v.category).sum ≤ W9 → A.U.methodNamed? y = some mk → Pre A a →
    (∃ (v : Option Value) (B : Pt), Stand p l e R s m sargs below meth c B.U B.locs B.cells B.slots ∧ Post A a v B ∧
      Steps p.tables e below (doInvoke e (A.U.setTop g) [] mk a).1 (B.U.setTop { g with pc := g.pc + len, stack := v.toList ++ g.stack })) ∨
    (∃ (q : Addr) (B : Pt), Stand p l e R s m sargs below meth c B.U B.locs B.cells B.slots ∧ PostX A a q B ∧
      Steps p.tables e below (doInvoke e (A.U.setTop g) [] mk a).1 ((B.U.setTop g).pushFrame (.throwing q)))
section Payer
variable {l : Launch} {R : Room} {p : Program} {e : Env} {below : List Frame} {s : State} {sargs : Array Value} {y : MethodName} {len W9 : Nat}
theorem vx_back {ws : List Cond} {rm : Room} {Pc : Array Value → State → Prop} {Qc : Array Value → State → Outcome → State → Prop} {XC : String → State → State → Prop} {mc ms : Nat} {free : Addr → Prop} {bytes : ByteArray} {maxL : Nat} {ret : Option FieldType}
    (hM : vx_Met l y ws rm Pc Qc XC mc ms free) (hblind : FrameBlind Pc) (hrc : rm.cells = mc) (hrs : rm.slots = ms)
    (hframes : rm.frames + 1 ≤ R.frames) (hlocals : W9 + (maxL + 11) + rm.locals ≤ R.locals)
    (hws : ∀ w ∈ ws, ∀ a' U, s.WarmedH U.vm → w.before a' U = true) (hcode : Cond.code y bytes maxL ret ∈ ws) (hinit : ∀ a' U, s.WarmedH U.vm → (Cond.initialized y.cls).before a' U = true) :
    vx_Back l R p e below s sargs y len W9 (PreOf R mc ms Pc) (PostOf Qc mc ms free) (vx_Post XC mc ms free) := by
  intro m meth c A g ig mk a X hg hsize hdg hW hn hp
  have h1 : (headSpec ws rm).pre.before a A.U = true := atoms_intro fun w hw => hws w hw _ _ X.warmed
  have h2 : (Cond.code y bytes maxL ret).before a A.U = true := hws _ hcode _ _ X.warmed
  have h3 : (Cond.initialized y.cls).before a A.U = true := hinit _ _ X.warmed
  have h4 : A.cells + (headSpec ws rm).room.cells ≤ R.cells := by rw [show (headSpec ws rm).room.cells = mc from hrc]; exact hp.1
  have h5 : A.slots + (headSpec ws rm).room.slots ≤ R.slots := by rw [show (headSpec ws rm).room.slots = ms from hrs]; exact hp.2.1
  have hPc : Pc a (A.U.calling g mk a) := hblind _ _ _ _ hp.2.2
  obtain ⟨U, Ls, c0, s0⟩ := A
  dsimp only [Pt.U, Pt.locs, Pt.cells, Pt.slots] at h1 h2 h3 h4 h5 X hn hPc ⊢
  obtain ⟨methY, cY, hmY, hcY, -, hlY, -, -, -, -⟩ := Cond.code_spec hn h2
  obtain ⟨kY, hkY, -⟩ := className_of_methodNamed hn
  have hinitY : kY.init = .initialized := Cond.initialized_spec (findClass_of_methodNamed hn) hkY h3
  have h : At U g.method c below := by rw [hg]; exact X.here
  have hlocals9 : W9 + (maxL + 11) + (headSpec ws rm).room.locals ≤ R.locals := hlocals
  have happ : (headSpec ws rm).appliesLoose y e.platform (U.calling g mk a) = true :=
    Spec.appliesLoose_calling (g := g) h hdg hn hkY hinitY
      (X.room_calling (g := g) (R' := (headSpec ws rm).room) hsize hmY hcY hframes (by rw [hlY]; omega) h4 h5) h1
  obtain ⟨mid, hmid⟩ := h.above
  have hfr : (U.setTop g).frames = (.java g :: mid) ++ below := by rw [State.frames_setTop' g h.top, hmid]; rfl
  obtain ⟨o, s₂, hsteps, -, hend, hq⟩ := Steps.callFree hM p X.admits X.cas X.clock (acts := []) hfr happ hPc trivial
  have hq' : vx_Q Qc XC mc ms free a (U.calling g mk a) o s₂ := hq
  rw [State.frames_setTop' g h.top] at hend
  obtain ⟨g₀, hg0⟩ := Option.isSome_iff_exists.mp h.top
  obtain ⟨r, hr⟩ := State.topJava?_eq_some.mp hg0
  have hr' : (({ U with heap := s₂.heap, slotsUsed := s₂.slotsUsed } : State).setVm s₂.vm).frames = .java g₀ :: r := hr
  rcases hq' with ⟨hqc, L, hfe, hL⟩ | ⟨q, rfl, E, ce, L, hx, hce, hcv, hcl, hW₂, hsm, hL⟩
  · obtain ⟨⟨v, rfl⟩, hW₂, e2, q2, q3, q4, q5, q6⟩ := id hfe
    have e3 : s₂ = ({ (U.calling g mk a).setFrames s₂.frames with heap := s₂.heap, slotsUsed := s₂.slotsUsed } : State).setVm s₂.vm := by
      have : s₂ = ({ s₂ with vm := (U.calling g mk a).vm } : State).setVm s₂.vm := rfl
      rw [e2] at this
      exact this
    obtain ⟨c₂, i₂, len₂, hc₂, hd₂, hf₂⟩ := hend
    have hW' : U.WarmedH s₂.vm := hW₂
    have hcc : c₂ = c := by
      have h1 : s₂.code? g.method = U.code? g.method := by
        rw [State.code?_eq, State.code?_eq, hW'.alike.method?]
      exact Option.some.inj (hc₂.symm.trans (h1.trans h.code))
    subst hcc
    have hlen : len₂ = len := by rw [hdg] at hd₂; cases hd₂; rfl
    subst hlen
    have hs₂ : s₂ = (({ U with heap := s₂.heap, slotsUsed := s₂.slotsUsed } : State).setVm s₂.vm).setTop { g with pc := g.pc + len₂, stack := v.toList ++ g.stack } := by
      refine e3.trans ?_
      rw [hf₂, State.calling_eq h.top, State.setFrames_setFrames, State.setTop_of_frames _ hr', hr]
      rfl
    have hsame : U.sameButNew ({ U with heap := s₂.heap, slotsUsed := s₂.slotsUsed } : State) L mc ms := by
      refine ⟨?_, q2, q3, q4, q5, q6⟩
      obtain ⟨t, ht, -⟩ := State.frames_cons hr
      show ({ U with heap := s₂.heap, slotsUsed := s₂.slotsUsed } : State) = { U.setFrames U.frames with heap := s₂.heap, slotsUsed := s₂.slotsUsed }
      rw [State.setFrames_self ht]
    subst hg
    refine Or.inl ⟨v, ⟨(({ U with heap := s₂.heap, slotsUsed := s₂.slotsUsed } : State).setVm s₂.vm), Ls ++ L, c0 + mc, s0 + ms⟩,
      ⟨X.admits, X.cas, X.clock, X.frames, X.room, X.hears, X.method, X.code, (X.here.setHeapUsed s₂.heap s₂.slotsUsed).setVm hW'.alike, X.tail, State.WarmedH.trans X.warmed hW', X.limits, X.bytes, X.same.trans (hsame.setVm s.vm)⟩,
      ⟨g, mk, s₂, L, rfl, rfl, hqc, rfl, hL, rfl, rfl⟩, ?_⟩
    show Steps p.tables e below _ ((({ U with heap := s₂.heap, slotsUsed := s₂.slotsUsed } : State).setVm s₂.vm).setTop { g with pc := g.pc + len₂, stack := v.toList ++ g.stack })
    rw [← hs₂]
    exact hsteps
  · obtain ⟨e2, q2, q3, q4, q5, q6⟩ := id hsm
    have e3 : s₂ = ({ (U.calling g mk a).setFrames s₂.frames with heap := s₂.heap, slotsUsed := s₂.slotsUsed } : State).setVm s₂.vm := by
      have : s₂ = ({ s₂ with vm := (U.calling g mk a).vm } : State).setVm s₂.vm := rfl
      rw [e2] at this
      exact this
    have hf₂ : s₂.frames = .throwing q :: .java g :: U.frames.tail := hend
    have hW' : U.WarmedH s₂.vm := hW₂
    have hs₂ : s₂ = ((({ U with heap := s₂.heap, slotsUsed := s₂.slotsUsed } : State).setVm s₂.vm).setTop g).pushFrame (.throwing q) := by
      refine e3.trans ?_
      rw [hf₂, State.calling_eq h.top, State.setFrames_setFrames, State.pushFrame, State.frames_setTop _ hr', State.setTop_of_frames _ hr', State.setFrames_setFrames, hr]
      rfl
    have hsame : U.sameButNew ({ U with heap := s₂.heap, slotsUsed := s₂.slotsUsed } : State) L mc ms := by
      refine ⟨?_, q2, q3, q4, q5, q6⟩
      obtain ⟨t, ht, -⟩ := State.frames_cons hr
      show ({ U with heap := s₂.heap, slotsUsed := s₂.slotsUsed } : State) = { U.setFrames U.frames with heap := s₂.heap, slotsUsed := s₂.slotsUsed }
      rw [State.setFrames_self ht]
    subst hg
    refine Or.inr ⟨q, ⟨(({ U with heap := s₂.heap, slotsUsed := s₂.slotsUsed } : State).setVm s₂.vm), Ls ++ L, c0 + mc, s0 + ms⟩,
      ⟨X.admits, X.cas, X.clock, X.frames, X.room, X.hears, X.method, X.code, (X.here.setHeapUsed s₂.heap s₂.slotsUsed).setVm hW'.alike, X.tail, State.WarmedH.trans X.warmed hW', X.limits, X.bytes, X.same.trans (hsame.setVm s.vm)⟩,
      ⟨g, mk, s₂, L, E, ce, rfl, rfl, hx, hce, hcv, hcl, rfl, hL, rfl, rfl⟩, ?_⟩
    show Steps p.tables e below _ (((({ U with heap := s₂.heap, slotsUsed := s₂.slotsUsed } : State).setVm s₂.vm).setTop g).pushFrame (.throwing q))
    rw [← hs₂]
    exact hsteps
end Payer
section Calls
variable {p : Program} {l : Launch} {e : Env} {R : Room} {s : State} {m : MethodId} {args : Array Value} {below : List Frame} {meth : Method} {c : Code} {T : State} {locs : List Loc} {cells slots : Nat}
theorem vx_callV (X : Stand p l e R s m args below meth c T locs cells slots) (hexec : p.tables.exec = Jvm.exec) {own C : String} {index : Nat} {y : MethodName} {bytes : ByteArray} {maxL : Nat} {ret : Option FieldType}
    (hown : s.vm.findClass own = some m.cls) (hlink : (Cond.methodLink own index y).before args s = true) (hinst : (Cond.instanceMethod y).before args s = true) (hsel : (Cond.selects C y y).before args s = true)
    (hcode : (Cond.code y bytes maxL ret).before args s = true) (hy : y.cls ≠ "java/lang/invoke/MethodHandle" ∧ y.cls ≠ "java/lang/invoke/VarHandle")
    {W9 : Nat} {Pre : Pt → Array Value → Prop} {Post : Pt → Array Value → Option Value → Pt → Prop} {PostX : Pt → Array Value → Addr → Pt → Prop} (hK : vx_Back l R p e below s args y 3 W9 Pre Post PostX)
    {b : Addr} {cellB : Cell} (hcell : T.heap[b]? = some cellB) (hobj : cellB.vm.isStatics = false) (hcls : s.vm.findClass C = some cellB.cls)
    {g : JFrame} (hg : g.method = m) (hsize : g.locals.size = c.maxLocals) {argsL rest : List Value} (hlen : ∀ sig, parseMethodDescriptor y.desc = some sig → argsL.length = sig.parameters.length)
    (hstack : g.stack = argsL.reverse ++ .ref b :: rest) (hW : 2 * g.monitorRoom + (rest.map fun v => v.category).sum ≤ W9) (hdg : decode c.code g.pc = .ok (.invokevirtual index, 3))
    (hpre : ∀ vm₁, s.WarmedH vm₁ → Pre ⟨T.setVm vm₁, locs, cells, slots⟩ (Value.ref b :: argsL).toArray) :
    (∃ (v : Option Value) (vm₁ : Vm) (B : Pt), s.WarmedH vm₁ ∧ Stand p l e R s m args below meth c B.U B.locs B.cells B.slots ∧ Post ⟨T.setVm vm₁, locs, cells, slots⟩ (Value.ref b :: argsL).toArray v B ∧
      ∀ target, Steps p.tables e below (B.U.setTop { g with pc := g.pc + 3, stack := v.toList ++ rest }) target → Steps p.tables e below (T.setTop g) target) ∨
    (∃ (q : Addr) (vm₁ : Vm) (B : Pt), s.WarmedH vm₁ ∧ Stand p l e R s m args below meth c B.U B.locs B.cells B.slots ∧ PostX ⟨T.setVm vm₁, locs, cells, slots⟩ (Value.ref b :: argsL).toArray q B ∧
      Steps p.tables e below (T.setTop g) ((B.U.setTop { g with stack := rest }).pushFrame (.throwing q))) := by
  obtain ⟨mk, methM, hnamed, hmethM, hstM, habM⟩ := Cond.instanceMethod_spec hinst
  obtain ⟨methM', cM, hmethM', -, -, -, -, -, -, hsigM⟩ := Cond.code_spec hnamed hcode
  cases hmethM.symm.trans hmethM'
  obtain ⟨c2, r2, m2, q1, q2, q3, q4, kP, hkP, hkPi⟩ := Cond.selects_spec hsel
  cases hcls.symm.trans q1
  cases (State.methodFound?_of_named hnamed hy).symm.trans q2
  cases hnamed.symm.trans q3
  have hselP : selectMethod e.platform s.vm cellB.cls mk = .method mk := by rw [Launch.admits_selectMethod X.admits]; exact q4
  obtain ⟨vm₁, X₁, hstep₁⟩ := X.invokevirtual hexec hown hlink hnamed hmethM hstM hkP hkPi hy (a := b) (cell := cellB) hcell
    (fun z h => by rw [h] at hobj; cases hobj) hselP hmethM habM hkP hkPi (g := g) hg (argsL := argsL) (rest := rest) (hlen _ hsigM) hstack hdg
  rcases hK m meth c ⟨T.setVm vm₁, locs, cells, slots⟩ { g with stack := rest } (.invokevirtual index) mk (Value.ref b :: argsL).toArray X₁ hg hsize hdg hW (X₁.named hnamed) (hpre vm₁ X₁.warmed) with ⟨v, B, X', hpost, hsteps⟩ | ⟨q, B, X', hpost, hsteps⟩
  · exact Or.inl ⟨v, vm₁, B, X₁.warmed, X', hpost, fun target h => hstep₁ _ fun acts => by rw [doInvoke_state]; exact hsteps.trans h⟩
  · exact Or.inr ⟨q, vm₁, B, X₁.warmed, X', hpost, hstep₁ _ fun acts => by rw [doInvoke_state]; exact hsteps⟩
theorem vx_callS (X : Stand p l e R s m args below meth c T locs cells slots) (hexec : p.tables.exec = Jvm.exec) {own : String} {index : Nat} {y : MethodName} {bytes : ByteArray} {maxL : Nat} {ret : Option FieldType}
    (hown : s.vm.findClass own = some m.cls) (hlink : (Cond.methodLink own index y).before args s = true) (hstat : (Cond.static y).before args s = true) (hinit : (Cond.initialized y.cls).before args s = true)
    (hcode : (Cond.code y bytes maxL ret).before args s = true) (hy : y.cls ≠ "java/lang/invoke/MethodHandle" ∧ y.cls ≠ "java/lang/invoke/VarHandle")
    {W9 : Nat} {Pre : Pt → Array Value → Prop} {Post : Pt → Array Value → Option Value → Pt → Prop} {PostX : Pt → Array Value → Addr → Pt → Prop} (hK : vx_Back l R p e below s args y 3 W9 Pre Post PostX)
    {g : JFrame} (hg : g.method = m) (hsize : g.locals.size = c.maxLocals) {argsL rest : List Value} (hlen : ∀ sig, parseMethodDescriptor y.desc = some sig → argsL.length = sig.parameters.length)
    (hstack : g.stack = argsL.reverse ++ rest) (hW : 2 * g.monitorRoom + (rest.map fun v => v.category).sum ≤ W9) (hdg : decode c.code g.pc = .ok (.invokestatic index, 3))
    (hpre : ∀ vm₁, s.WarmedH vm₁ → Pre ⟨T.setVm vm₁, locs, cells, slots⟩ argsL.toArray) :
    (∃ (v : Option Value) (vm₁ : Vm) (B : Pt), s.WarmedH vm₁ ∧ Stand p l e R s m args below meth c B.U B.locs B.cells B.slots ∧ Post ⟨T.setVm vm₁, locs, cells, slots⟩ argsL.toArray v B ∧
      ∀ target, Steps p.tables e below (B.U.setTop { g with pc := g.pc + 3, stack := v.toList ++ rest }) target → Steps p.tables e below (T.setTop g) target) ∨
    (∃ (q : Addr) (vm₁ : Vm) (B : Pt), s.WarmedH vm₁ ∧ Stand p l e R s m args below meth c B.U B.locs B.cells B.slots ∧ PostX ⟨T.setVm vm₁, locs, cells, slots⟩ argsL.toArray q B ∧
      Steps p.tables e below (T.setTop g) ((B.U.setTop { g with stack := rest }).pushFrame (.throwing q))) := by
  obtain ⟨mk, hnamed⟩ := Cond.code_named hcode
  obtain ⟨methM, cM, hmethM, -, -, -, -, -, -, hsigM⟩ := Cond.code_spec hnamed hcode
  have hstatic : methM.isStatic = true := Cond.static_spec hnamed hmethM hstat
  obtain ⟨kP, hkP, -⟩ := className_of_methodNamed hnamed
  have hinitP : kP.init = .initialized := Cond.initialized_spec (findClass_of_methodNamed hnamed) hkP hinit
  obtain ⟨vm₁, X₁, hstep₁⟩ := X.invokestatic hexec hown hlink hnamed hmethM hstatic hkP hinitP hy (g := g) hg (argsL := argsL) (rest := rest) (hlen _ hsigM) hstack hdg
  rcases hK m meth c ⟨T.setVm vm₁, locs, cells, slots⟩ { g with stack := rest } (.invokestatic index) mk argsL.toArray X₁ hg hsize hdg hW (X₁.named hnamed) (hpre vm₁ X₁.warmed) with ⟨v, B, X', hpost, hsteps⟩ | ⟨q, B, X', hpost, hsteps⟩
  · exact Or.inl ⟨v, vm₁, B, X₁.warmed, X', hpost, fun target h => hstep₁ _ fun acts => by rw [doInvoke_state]; exact hsteps.trans h⟩
  · exact Or.inr ⟨q, vm₁, B, X₁.warmed, X', hpost, hstep₁ _ fun acts => by rw [doInvoke_state]; exact hsteps⟩
end Calls
theorem vx_cls {s : State} {T : State} {vm₁ : Vm} {E : String} {k : ClassId} (hW : s.WarmedH vm₁) (h : (T.setVm vm₁).vm.findClass E = some k) : s.vm.findClass E = some k := by
  have h1 : vm₁.findClass E = some k := h
  rw [hW.alike.findClass] at h1
  exact h1
/-- the method's frame g, with q thrown over it -/
def vx_W (p : Program) (l : Launch) (e : Env) (R : Room) (s : State) (m : MethodId) (args : Array Value) (below : List Frame) (meth : Method) (c : Code) (H : Heap) (locs : List Loc) (cells slots : Nat) (Q : State → Prop) (g : JFrame) (q : Addr) : Prop :=
  ∀ T : State, T.heap = H → Stand p l e R s m args below meth c T locs cells slots → ∃ t, Steps p.tables e below ((T.setTop g).pushFrame (.throwing q)) t ∧ Q t
def vx_Run (p : Program) (l : Launch) (e : Env) (R : Room) (s : State) (m : MethodId) (args : Array Value) (below : List Frame) (meth : Method) (c : Code) (H : Heap) (locs : List Loc) (cells slots mc ms : Nat) (g : JFrame) (rest : List Value) (Qa : State → Outcome → State → Prop) (XC : String → State → State → Prop) (free : Addr → Prop) : Prop :=
  ∀ T : State, T.heap = H → Stand p l e R s m args below meth c T locs cells slots →
    (∃ (v : Option Value) (st₀ t T' : State) (L : List Loc), st₀.heap = H ∧ Stand p l e R s m args below meth c T' (locs ++ L) (cells + mc) (slots + ms) ∧ (∀ q ∈ L, free q.base) ∧ T'.heap = t.heap ∧ T'.vm = t.vm ∧ Qa st₀ (.returned v) t ∧
      Goes p e below T g T' { g with pc := g.pc + 3, stack := v.toList ++ rest }) ∨
    (∃ (q : Addr) (st₀ t T' : State) (L : List Loc) (E : String) (ce : Cell), st₀.heap = H ∧ Stand p l e R s m args below meth c T' (locs ++ L) (cells + mc) (slots + ms) ∧ (∀ z ∈ L, free z.base) ∧ T'.heap = t.heap ∧ T'.vm = t.vm ∧ XC E st₀ t ∧ t.heap[q]? = some ce ∧ ce.vm = .none ∧ s.vm.findClass E = some ce.cls ∧
      Steps p.tables e below (T.setTop g) ((T'.setTop { g with stack := rest }).pushFrame (.throwing q)))
def vx_X {S : Type} (px : S → Prop) (B : String → S → State → Prop) (A : Nat → Prop) : String → State → State → Prop := fun E st t => ∃ u : S, px u ∧ B E u t ∧ va_F A st t
section Runs
variable {p : Program} {l : Launch} {e : Env} {R : Room} {s : State} {m : MethodId} {args : Array Value} {below : List Frame} {meth : Method} {c : Code} {H : Heap} {locs : List Loc} {cells slots : Nat}
variable {y : MethodName} {bytes cc : ByteArray} {maxL nL mc ms n index : Nat} {ret : Option FieldType} {ws : List Cond} {rm : Room} {Pc : Array Value → State → Prop} {Qc : Array Value → State → Outcome → State → Prop} {XC : String → State → State → Prop} {free : Addr → Prop} {Ts : List Cond} {own C : String} {b : Addr} {As rest : List Value} {g : JFrame}
theorem vx_callBack (cb : CallB R s args own index y bytes maxL ret ws rm mc ms n) (hM : vx_Met l y ws rm Pc Qc XC mc ms free) (hbl : FrameBlind Pc) : vx_Back l R p e below s args y 3 8 (PreOf R mc ms Pc) (PostOf Qc mc ms free) (vx_Post XC mc ms free) := by
  obtain ⟨hrc, hrs, hfr, hlo, hws, hcw, -, hini, -⟩ := cb
  exact vx_back (bytes := bytes) (maxL := maxL) (ret := ret) hM hbl hrc hrs hfr hlo hws hcw (fun a' U hW => word_at hW (Or.inl (by first | rfl | simp [Cond.onTables, Cond.keeps, Cond.steady])) hini)
theorem vx_runV (S : CallFix p m c cc nL s args Ts own) (hM : vx_Met l y ws rm Pc Qc XC mc ms free) (cw : CallW R s args own C index y bytes maxL ret ws rm mc ms n) (hp : PreV s H C b Pc As)
    (hg : g.method = m) (hn : As.length = n) (hsize : g.locals.size = nL) (hstack : g.stack = As.reverse ++ .ref b :: rest) (hW : 2 * g.monitorRoom + (rest.map fun v => v.category).sum ≤ 8) (hdg : decode cc g.pc = .ok (.invokevirtual index, 3)) (hf : cells + mc ≤ R.cells ∧ slots + ms ≤ R.slots) :
    vx_Run p l e R s m args below meth c H locs cells slots mc ms g rest (Qc (Value.ref b :: As).toArray) XC free := by
  have hK : vx_Back l R p e below s args y 3 8 (PreOf R mc ms Pc) (PostOf Qc mc ms free) (vx_Post XC mc ms free) := vx_callBack cw.1 hM hp.1
  obtain ⟨⟨-, -, -, -, -, -, hcode, -, hy, hlen, hl⟩, hin, hse⟩ := cw
  obtain ⟨hx, hb, hml, ho, -⟩ := S
  obtain ⟨-, ⟨cellB, hcB, hoB, hclB⟩, hPc⟩ := hp
  intro T hT X
  rcases vx_callV X hx (C := C) (bytes := bytes) (maxL := maxL) (ret := ret) ho hl hin hse hcode hy hK (by rw [hT]; exact hcB) hoB hclB hg (hsize.trans hml.symm) (argsL := As) (rest := rest) (fun sig h => hn.trans (hlen sig h)) hstack hW (by rw [hb]; exact hdg)
    (fun vm₁ hW₁ => ⟨hf.1, hf.2, hPc (T.setVm vm₁) hT hW₁⟩) with ⟨v, vm₁, ⟨U', l2, c2, s2⟩, hW₁, X', ⟨g', mk, t, L, e1, e2, hq, h1, hL, h2, h3⟩, st⟩ | ⟨q, vm₁, ⟨U', l2, c2, s2⟩, hW₁, X', ⟨g', mk, t, L, E, ce, e1, e2, hq, hce, hcv, hcl, h1, hL, h2, h3⟩, st⟩
  · dsimp only [Pt.U, Pt.locs, Pt.cells, Pt.slots] at X' e1 e2 h1 h2 h3 st
    subst h1; subst h2; subst h3
    exact Or.inl ⟨v, (T.setVm vm₁).calling g' mk (Value.ref b :: As).toArray, t, U', L, hT, X', hL, e1, e2, hq, st⟩
  · dsimp only [Pt.U, Pt.locs, Pt.cells, Pt.slots] at X' e1 e2 h1 h2 h3 st hcl
    subst h1; subst h2; subst h3
    exact Or.inr ⟨q, (T.setVm vm₁).calling g' mk (Value.ref b :: As).toArray, t, U', L, E, ce, hT, X', hL, e1, e2, hq, hce, hcv, vx_cls hW₁ hcl, st⟩
theorem vx_runS (S : CallFix p m c cc nL s args Ts own) (hM : vx_Met l y ws rm Pc Qc XC mc ms free) (cw : CallB R s args own index y bytes maxL ret ws rm mc ms n ∧ (Cond.static y).before args s = true) (hp : PreS s H Pc As)
    (hg : g.method = m) (hn : As.length = n) (hsize : g.locals.size = nL) (hstack : g.stack = As.reverse ++ rest) (hW : 2 * g.monitorRoom + (rest.map fun v => v.category).sum ≤ 8) (hdg : decode cc g.pc = .ok (.invokestatic index, 3)) (hf : cells + mc ≤ R.cells ∧ slots + ms ≤ R.slots) :
    vx_Run p l e R s m args below meth c H locs cells slots mc ms g rest (Qc As.toArray) XC free := by
  have hK : vx_Back l R p e below s args y 3 8 (PreOf R mc ms Pc) (PostOf Qc mc ms free) (vx_Post XC mc ms free) := vx_callBack cw.1 hM hp.1
  obtain ⟨⟨-, -, -, -, -, -, hcode, hini, hy, hlen, hl⟩, hstt⟩ := cw
  obtain ⟨hx, hb, hml, ho, -⟩ := S
  intro T hT X
  rcases vx_callS X hx (bytes := bytes) (maxL := maxL) (ret := ret) ho hl hstt hini hcode hy hK hg (hsize.trans hml.symm) (argsL := As) (rest := rest) (fun sig h => hn.trans (hlen sig h)) hstack hW (by rw [hb]; exact hdg)
    (fun vm₁ hW₁ => ⟨hf.1, hf.2, hp.2 (T.setVm vm₁) hT hW₁⟩) with ⟨v, vm₁, ⟨U', l2, c2, s2⟩, hW₁, X', ⟨g', mk, t, L, e1, e2, hq, h1, hL, h2, h3⟩, st⟩ | ⟨q, vm₁, ⟨U', l2, c2, s2⟩, hW₁, X', ⟨g', mk, t, L, E, ce, e1, e2, hq, hce, hcv, hcl, h1, hL, h2, h3⟩, st⟩
  · dsimp only [Pt.U, Pt.locs, Pt.cells, Pt.slots] at X' e1 e2 h1 h2 h3 st
    subst h1; subst h2; subst h3
    exact Or.inl ⟨v, (T.setVm vm₁).calling g' mk As.toArray, t, U', L, hT, X', hL, e1, e2, hq, st⟩
  · dsimp only [Pt.U, Pt.locs, Pt.cells, Pt.slots] at X' e1 e2 h1 h2 h3 st hcl
    subst h1; subst h2; subst h3
    exact Or.inr ⟨q, (T.setVm vm₁).calling g' mk As.toArray, t, U', L, E, ce, hT, X', hL, e1, e2, hq, hce, hcv, vx_cls hW₁ hcl, st⟩
end Runs
section Rows
variable {p : Program} {l : Launch} {e : Env} {R : Room} {s : State} {m : MethodId} {args : Array Value} {below : List Frame} {meth : Method} {c : Code} {H : Heap} {locs : List Loc} {cells slots : Nat} {Q : State → Prop}
variable {mc ms : Nat} {free : Addr → Prop} {A0 A1 : Nat → Prop} {H0 : Heap} {a : Array Value} {pc : Nat} {ls : Array Slot} {st0 rest : List Value}
theorem vx_keep {st₀ t T' : State} {L : List Loc} (h0 : st₀.heap = H) (e1 : T'.heap = t.heap) (hS : va_S A0 H0 H locs) (hA : ∀ q, q < H.size → A1 q → A0 q) (hf : ∀ q, free q → A0 q) (hL : ∀ q ∈ L, free q.base) (hF : va_F A1 st₀ t) :
    H.size ≤ T'.heap.size ∧ (∀ q : Nat, q < H.size → ¬ A1 q → T'.heap[q]? = H[q]?) ∧ va_S A0 H0 T'.heap (locs ++ L) := by
  obtain ⟨hz, hk⟩ := hF
  rw [h0] at hz hk
  exact ⟨by rw [e1]; exact hz, fun q h1 h2 => by rw [e1]; exact hk q h1 h2,
    ⟨Nat.le_trans hS.1 (by rw [e1]; exact hz), fun q h1 h2 => by rw [e1, hk q (Nat.lt_of_lt_of_le h1 hS.1) (fun z => h2 (hA q (Nat.lt_of_lt_of_le h1 hS.1) z))]; exact hS.2.1 q h1 h2, fun q hq => by
      rcases List.mem_append.mp hq with h | h
      · exact hS.2.2 q h
      · exact hf _ (hL q h)⟩⟩
theorem vx_calli {S SX : Type} {post : Int32 → S → Prop} {px : SX → Prop} {B : S → State → Prop} {BX : String → SX → State → Prop} {AX : Nat → Prop} (hr : vx_Run p l e R s m args below meth c H locs cells slots mc ms (F0 m pc ls st0) rest (va_Qi post B A1 a) (vx_X px BX AX) free) (hS : va_S A0 H0 H locs) (hA : ∀ q, q < H.size → A1 q → A0 q) (hf : ∀ q, free q → A0 q) (hAX : ∀ q, q < H.size → AX q → A0 q)
    (kx : ∀ (E : String) (ce : Cell) (q9 : Addr) (u : SX) (t : State) (H1 : Heap) (locs1 : List Loc), t.heap = H1 → s.vm.Alike t.vm → px u → BX E u t → H.size ≤ H1.size → (∀ q : Nat, q < H.size → ¬ AX q → H1[q]? = H[q]?) → va_S A0 H0 H1 locs1 → H1[q9]? = some ce → ce.vm = .none → s.vm.findClass E = some ce.cls → vx_W p l e R s m args below meth c H1 locs1 (cells + mc) (slots + ms) Q (F0 m pc ls rest) q9)
    (kk : ∀ (r : Int32) (u : S) (t : State) (H1 : Heap) (locs1 : List Loc), t.heap = H1 → s.vm.Alike t.vm → post r u → B u t → H.size ≤ H1.size → (∀ q : Nat, q < H.size → ¬ A1 q → H1[q]? = H[q]?) → va_S A0 H0 H1 locs1 → W p l e R s m args below meth c H1 locs1 (cells + mc) (slots + ms) Q (F0 m (pc + 3) ls (.int r :: rest))) : W p l e R s m args below meth c H locs cells slots Q (F0 m pc ls st0) := by
  intro T hT X
  rcases hr T hT X with ⟨v, st₀, t, T', L, h0, X', hL, e1, e2, ⟨⟨r, u, hv, hp, hb⟩, hF⟩, st⟩ | ⟨q, st₀, t, T', L, E, ce, h0, X', hL, e1, e2, ⟨u, hp, hb, hF⟩, hce, hcv, hcl, st⟩
  · cases hv
    obtain ⟨k1, k2, k3⟩ := vx_keep h0 e1 hS hA hf hL hF
    obtain ⟨t2, a1, b1⟩ := kk r u t T'.heap (locs ++ L) e1.symm (by rw [← e2]; exact X'.warmed.alike) hp hb k1 k2 k3 T' rfl X'
    exact ⟨t2, st t2 a1, b1⟩
  · obtain ⟨k1, k2, k3⟩ := vx_keep h0 e1 hS hAX hf hL hF
    obtain ⟨t2, a1, b1⟩ := kx E ce q u t T'.heap (locs ++ L) e1.symm (by rw [← e2]; exact X'.warmed.alike) hp hb k1 k2 k3 (by rw [e1]; exact hce) hcv hcl T' rfl X'
    exact ⟨t2, st.trans a1, b1⟩
theorem vx_calll {S SX : Type} {post : Int64 → S → Prop} {px : SX → Prop} {B : S → State → Prop} {BX : String → SX → State → Prop} {AX : Nat → Prop} (hr : vx_Run p l e R s m args below meth c H locs cells slots mc ms (F0 m pc ls st0) rest (va_Ql post B A1 a) (vx_X px BX AX) free) (hS : va_S A0 H0 H locs) (hA : ∀ q, q < H.size → A1 q → A0 q) (hf : ∀ q, free q → A0 q) (hAX : ∀ q, q < H.size → AX q → A0 q)
    (kx : ∀ (E : String) (ce : Cell) (q9 : Addr) (u : SX) (t : State) (H1 : Heap) (locs1 : List Loc), t.heap = H1 → s.vm.Alike t.vm → px u → BX E u t → H.size ≤ H1.size → (∀ q : Nat, q < H.size → ¬ AX q → H1[q]? = H[q]?) → va_S A0 H0 H1 locs1 → H1[q9]? = some ce → ce.vm = .none → s.vm.findClass E = some ce.cls → vx_W p l e R s m args below meth c H1 locs1 (cells + mc) (slots + ms) Q (F0 m pc ls rest) q9)
    (kk : ∀ (r : Int64) (u : S) (t : State) (H1 : Heap) (locs1 : List Loc), t.heap = H1 → s.vm.Alike t.vm → post r u → B u t → H.size ≤ H1.size → (∀ q : Nat, q < H.size → ¬ A1 q → H1[q]? = H[q]?) → va_S A0 H0 H1 locs1 → W p l e R s m args below meth c H1 locs1 (cells + mc) (slots + ms) Q (F0 m (pc + 3) ls (.long r :: rest))) : W p l e R s m args below meth c H locs cells slots Q (F0 m pc ls st0) := by
  intro T hT X
  rcases hr T hT X with ⟨v, st₀, t, T', L, h0, X', hL, e1, e2, ⟨⟨r, u, hv, hp, hb⟩, hF⟩, st⟩ | ⟨q, st₀, t, T', L, E, ce, h0, X', hL, e1, e2, ⟨u, hp, hb, hF⟩, hce, hcv, hcl, st⟩
  · cases hv
    obtain ⟨k1, k2, k3⟩ := vx_keep h0 e1 hS hA hf hL hF
    obtain ⟨t2, a1, b1⟩ := kk r u t T'.heap (locs ++ L) e1.symm (by rw [← e2]; exact X'.warmed.alike) hp hb k1 k2 k3 T' rfl X'
    exact ⟨t2, st t2 a1, b1⟩
  · obtain ⟨k1, k2, k3⟩ := vx_keep h0 e1 hS hAX hf hL hF
    obtain ⟨t2, a1, b1⟩ := kx E ce q u t T'.heap (locs ++ L) e1.symm (by rw [← e2]; exact X'.warmed.alike) hp hb k1 k2 k3 (by rw [e1]; exact hce) hcv hcl T' rfl X'
    exact ⟨t2, st.trans a1, b1⟩
theorem vx_callf {S SX : Type} {post : UInt32 → S → Prop} {px : SX → Prop} {B : S → State → Prop} {BX : String → SX → State → Prop} {AX : Nat → Prop} (hr : vx_Run p l e R s m args below meth c H locs cells slots mc ms (F0 m pc ls st0) rest (va_Qf post B A1 a) (vx_X px BX AX) free) (hS : va_S A0 H0 H locs) (hA : ∀ q, q < H.size → A1 q → A0 q) (hf : ∀ q, free q → A0 q) (hAX : ∀ q, q < H.size → AX q → A0 q)
    (kx : ∀ (E : String) (ce : Cell) (q9 : Addr) (u : SX) (t : State) (H1 : Heap) (locs1 : List Loc), t.heap = H1 → s.vm.Alike t.vm → px u → BX E u t → H.size ≤ H1.size → (∀ q : Nat, q < H.size → ¬ AX q → H1[q]? = H[q]?) → va_S A0 H0 H1 locs1 → H1[q9]? = some ce → ce.vm = .none → s.vm.findClass E = some ce.cls → vx_W p l e R s m args below meth c H1 locs1 (cells + mc) (slots + ms) Q (F0 m pc ls rest) q9)
    (kk : ∀ (r : UInt32) (u : S) (t : State) (H1 : Heap) (locs1 : List Loc), t.heap = H1 → s.vm.Alike t.vm → post r u → B u t → H.size ≤ H1.size → (∀ q : Nat, q < H.size → ¬ A1 q → H1[q]? = H[q]?) → va_S A0 H0 H1 locs1 → W p l e R s m args below meth c H1 locs1 (cells + mc) (slots + ms) Q (F0 m (pc + 3) ls (.float r :: rest))) : W p l e R s m args below meth c H locs cells slots Q (F0 m pc ls st0) := by
  intro T hT X
  rcases hr T hT X with ⟨v, st₀, t, T', L, h0, X', hL, e1, e2, ⟨⟨r, u, hv, hp, hb⟩, hF⟩, st⟩ | ⟨q, st₀, t, T', L, E, ce, h0, X', hL, e1, e2, ⟨u, hp, hb, hF⟩, hce, hcv, hcl, st⟩
  · cases hv
    obtain ⟨k1, k2, k3⟩ := vx_keep h0 e1 hS hA hf hL hF
    obtain ⟨t2, a1, b1⟩ := kk r u t T'.heap (locs ++ L) e1.symm (by rw [← e2]; exact X'.warmed.alike) hp hb k1 k2 k3 T' rfl X'
    exact ⟨t2, st t2 a1, b1⟩
  · obtain ⟨k1, k2, k3⟩ := vx_keep h0 e1 hS hAX hf hL hF
    obtain ⟨t2, a1, b1⟩ := kx E ce q u t T'.heap (locs ++ L) e1.symm (by rw [← e2]; exact X'.warmed.alike) hp hb k1 k2 k3 (by rw [e1]; exact hce) hcv hcl T' rfl X'
    exact ⟨t2, st.trans a1, b1⟩
theorem vx_calld {S SX : Type} {post : UInt64 → S → Prop} {px : SX → Prop} {B : S → State → Prop} {BX : String → SX → State → Prop} {AX : Nat → Prop} (hr : vx_Run p l e R s m args below meth c H locs cells slots mc ms (F0 m pc ls st0) rest (va_Qd post B A1 a) (vx_X px BX AX) free) (hS : va_S A0 H0 H locs) (hA : ∀ q, q < H.size → A1 q → A0 q) (hf : ∀ q, free q → A0 q) (hAX : ∀ q, q < H.size → AX q → A0 q)
    (kx : ∀ (E : String) (ce : Cell) (q9 : Addr) (u : SX) (t : State) (H1 : Heap) (locs1 : List Loc), t.heap = H1 → s.vm.Alike t.vm → px u → BX E u t → H.size ≤ H1.size → (∀ q : Nat, q < H.size → ¬ AX q → H1[q]? = H[q]?) → va_S A0 H0 H1 locs1 → H1[q9]? = some ce → ce.vm = .none → s.vm.findClass E = some ce.cls → vx_W p l e R s m args below meth c H1 locs1 (cells + mc) (slots + ms) Q (F0 m pc ls rest) q9)
    (kk : ∀ (r : UInt64) (u : S) (t : State) (H1 : Heap) (locs1 : List Loc), t.heap = H1 → s.vm.Alike t.vm → post r u → B u t → H.size ≤ H1.size → (∀ q : Nat, q < H.size → ¬ A1 q → H1[q]? = H[q]?) → va_S A0 H0 H1 locs1 → W p l e R s m args below meth c H1 locs1 (cells + mc) (slots + ms) Q (F0 m (pc + 3) ls (.double r :: rest))) : W p l e R s m args below meth c H locs cells slots Q (F0 m pc ls st0) := by
  intro T hT X
  rcases hr T hT X with ⟨v, st₀, t, T', L, h0, X', hL, e1, e2, ⟨⟨r, u, hv, hp, hb⟩, hF⟩, st⟩ | ⟨q, st₀, t, T', L, E, ce, h0, X', hL, e1, e2, ⟨u, hp, hb, hF⟩, hce, hcv, hcl, st⟩
  · cases hv
    obtain ⟨k1, k2, k3⟩ := vx_keep h0 e1 hS hA hf hL hF
    obtain ⟨t2, a1, b1⟩ := kk r u t T'.heap (locs ++ L) e1.symm (by rw [← e2]; exact X'.warmed.alike) hp hb k1 k2 k3 T' rfl X'
    exact ⟨t2, st t2 a1, b1⟩
  · obtain ⟨k1, k2, k3⟩ := vx_keep h0 e1 hS hAX hf hL hF
    obtain ⟨t2, a1, b1⟩ := kx E ce q u t T'.heap (locs ++ L) e1.symm (by rw [← e2]; exact X'.warmed.alike) hp hb k1 k2 k3 (by rw [e1]; exact hce) hcv hcl T' rfl X'
    exact ⟨t2, st.trans a1, b1⟩
theorem vx_callv {S SX : Type} {post : S → Prop} {px : SX → Prop} {B : S → State → Prop} {BX : String → SX → State → Prop} {AX : Nat → Prop} (hr : vx_Run p l e R s m args below meth c H locs cells slots mc ms (F0 m pc ls st0) rest (va_Qv post B A1 a) (vx_X px BX AX) free) (hS : va_S A0 H0 H locs) (hA : ∀ q, q < H.size → A1 q → A0 q) (hf : ∀ q, free q → A0 q) (hAX : ∀ q, q < H.size → AX q → A0 q)
    (kx : ∀ (E : String) (ce : Cell) (q9 : Addr) (u : SX) (t : State) (H1 : Heap) (locs1 : List Loc), t.heap = H1 → s.vm.Alike t.vm → px u → BX E u t → H.size ≤ H1.size → (∀ q : Nat, q < H.size → ¬ AX q → H1[q]? = H[q]?) → va_S A0 H0 H1 locs1 → H1[q9]? = some ce → ce.vm = .none → s.vm.findClass E = some ce.cls → vx_W p l e R s m args below meth c H1 locs1 (cells + mc) (slots + ms) Q (F0 m pc ls rest) q9)
    (kk : ∀ (u : S) (t : State) (H1 : Heap) (locs1 : List Loc), t.heap = H1 → s.vm.Alike t.vm → post u → B u t → H.size ≤ H1.size → (∀ q : Nat, q < H.size → ¬ A1 q → H1[q]? = H[q]?) → va_S A0 H0 H1 locs1 → W p l e R s m args below meth c H1 locs1 (cells + mc) (slots + ms) Q (F0 m (pc + 3) ls (rest))) : W p l e R s m args below meth c H locs cells slots Q (F0 m pc ls st0) := by
  intro T hT X
  rcases hr T hT X with ⟨v, st₀, t, T', L, h0, X', hL, e1, e2, ⟨⟨u, hv, hp, hb⟩, hF⟩, st⟩ | ⟨q, st₀, t, T', L, E, ce, h0, X', hL, e1, e2, ⟨u, hp, hb, hF⟩, hce, hcv, hcl, st⟩
  · cases hv
    obtain ⟨k1, k2, k3⟩ := vx_keep h0 e1 hS hA hf hL hF
    obtain ⟨t2, a1, b1⟩ := kk u t T'.heap (locs ++ L) e1.symm (by rw [← e2]; exact X'.warmed.alike) hp hb k1 k2 k3 T' rfl X'
    exact ⟨t2, st t2 a1, b1⟩
  · obtain ⟨k1, k2, k3⟩ := vx_keep h0 e1 hS hAX hf hL hF
    obtain ⟨t2, a1, b1⟩ := kx E ce q u t T'.heap (locs ++ L) e1.symm (by rw [← e2]; exact X'.warmed.alike) hp hb k1 k2 k3 (by rw [e1]; exact hce) hcv hcl T' rfl X'
    exact ⟨t2, st.trans a1, b1⟩
/-- caught by the row x of this method's table; the rows ahead don't take it -/
theorem vx_catch {own name : String} {E : String} {ce : Cell} {q : Addr} (hown : s.vm.findClass own = some m.cls) (pre : List ExceptionTableEntry) (x : ExceptionTableEntry) (suf : List ExceptionTableEntry) (hsplit : c.exceptionTable.toList = pre ++ x :: suf)
    (hpass : ∀ z ∈ pre, covers z pc = false ∨ (z.catchType ≠ 0 ∧ ∃ nm : String, (Cond.classLink own z.catchType nm).before args s = true ∧ va_Nc E nm s)) (hx : covers x pc = true) (h0 : x.catchType ≠ 0)
    (hlink : (Cond.classLink own x.catchType name).before args s = true) (hcast : (Cond.castable E name).before args s = true) (hcell : H[q]? = some ce) (hv : ce.vm = .none) (hcl : s.vm.findClass E = some ce.cls)
    (kk : W p l e R s m args below meth c H locs cells slots Q (F0 m x.handlerPc ls [.ref q])) : vx_W p l e R s m args below meth c H locs cells slots Q (F0 m pc ls rest) q := by
  intro T hT X
  have hpl : e.platform.magicAccessors = ({} : Platform).magicAccessors := by rw [X.admits.platform]
  obtain ⟨c3, c4, hc3, hc4, hasg⟩ := Cond.castable_spec hcast
  cases Option.some.inj (hc3.symm.trans hcl)
  obtain ⟨c5, hc5, hcl5⟩ := Cond.classLink_spec hown hlink e.platform hpl
  cases Option.some.inj (hc4.symm.trans hc5)
  obtain ⟨vm', X', st⟩ := X.thenCaughtThrough q (g := F0 m pc ls rest) rfl (Steps.refl _) (by rw [hT]; exact hcell) (by rw [hv]; rfl) (by obtain ⟨k9, h9, -⟩ := Vm.findClass_spec hcl; exact ⟨k9, h9⟩) pre x suf hsplit
    (fun z hz => by
      rcases hpass z hz with h | ⟨hz0, nm, hl1, hn1⟩
      · exact Or.inl h
      · obtain ⟨c6, hc6, hcl6⟩ := Cond.classLink_spec hown hl1 e.platform hpl
        obtain ⟨a8, b8, h1, h2, h3⟩ := hn1
        cases Option.some.inj (h1.symm.trans hcl)
        cases Option.some.inj (h2.symm.trans hc6)
        exact Or.inr ⟨hz0, _, hcl6, h3⟩) hx (Or.inr ⟨h0, c4, hcl5, hasg⟩)
  obtain ⟨t, a1, b1⟩ := kk (T.setVm vm') hT X'
  exact ⟨t, st.trans a1, b1⟩
end Rows
section Ends
variable {p : Program} {l : Launch} {e : Env} {R : Room} {s : State} {m : MethodId} {args : Array Value} {below : List Frame} {meth : Method} {c : Code} {H : Heap} {locs : List Loc} {cells slots : Nat} {Q : State → Prop}
variable {mc ms : Nat} {free : Addr → Prop} {A0 A1 : Nat → Prop} {H0 : Heap} {a : Array Value} {ls : Array Slot} {st0 rest : List Value}
variable {Qc : Array Value → State → Outcome → State → Prop} {XC : String → State → State → Prop}
/-- what a body that may throw owes at its end -/
def vx_MQ (below : List Frame) (Qc : Array Value → State → Outcome → State → Prop) (XC : String → State → State → Prop) (a : Array Value) (s : State) (mc ms : Nat) (free : Addr → Prop) : State → Prop := fun t =>
  ∃ o, t.status = .running ∧ Ended t below o ∧ vx_Q Qc XC mc ms free a s o t
theorem vx_ret {g : JFrame} {mc ms : Nat} (k : W p l e R s m args below meth c H locs cells slots (MQ below Qc args s mc ms free) g) : W p l e R s m args below meth c H locs cells slots (vx_MQ below Qc XC args s mc ms free) g := by
  intro T hT X
  obtain ⟨t, a1, o, b1, b2, b3, b4⟩ := k T hT X
  exact ⟨t, a1, o, b1, b2, Or.inl ⟨b3, b4⟩⟩
/-- not caught here: it goes on to the caller -/
theorem vx_widen {g : JFrame} {q : Addr} {k n : Nat} (h1 : cells ≤ k) (h2 : slots ≤ n) (kk : vx_W p l e R s m args below meth c H locs k n Q g q) : vx_W p l e R s m args below meth c H locs cells slots Q g q := fun T hT X => kk T hT (stand_widen X h1 h2)
theorem vx_out {pc : Nat} {E : String} {ce : Cell} {q : Addr} {mc ms : Nat} (hout : ∀ x ∈ c.exceptionTable.toList, covers x pc = false) (hlocks : meth.locks = false) (hcell : H[q]? = some ce) (hv : ce.vm = .none) (hcl : s.vm.findClass E = some ce.cls)
    (hx : ∀ t : State, t.heap = H → s.vm.Alike t.vm → XC E s t) (hf : ∀ z ∈ locs, free z.base) (hc : cells ≤ mc) (hs : slots ≤ ms) :
    vx_W p l e R s m args below meth c H locs cells slots (vx_MQ below Qc XC args s mc ms free) (F0 m pc ls rest) q := by
  intro T hT X
  obtain ⟨st1, hrun, hend, hW, hsm⟩ := X.leaveThrown q (g := F0 m pc ls rest) rfl rfl rfl hout hlocks
  have hcell9 : (T.setFrames (.throwing q :: below)).heap[q]? = some ce := by
    show T.heap[q]? = some ce
    rw [hT]; exact hcell
  exact ⟨_, st1, .threw q, hrun, hend, Or.inr ⟨q, rfl, E, ce, locs, hx _ hT hW.alike, hcell9, hv, hcl, hW, hsm.mono hc hs, hf⟩⟩
theorem vx_frame {U : State} {k n : Nat} (h : s.sameButNew ({ U with vm := s.vm } : State) locs k n) : s.heap.size ≤ U.heap.size ∧ ∀ q : Nat, q < s.heap.size → (∀ z ∈ locs, z.base ≠ q) → U.heap[q]? = s.heap[q]? := by
  obtain ⟨-, h2, -, -, -, h6⟩ := h
  refine ⟨h2, fun q hq hz => ?_⟩
  obtain ⟨c9, e1, e2, e3, e4⟩ := h6 q _ (Array.getElem?_eq_getElem hq)
  have hs : c9.slots = (s.heap[q]).slots := Array.ext_getElem? fun i => e4 i fun hm => hz _ hm rfl
  have h9 : c9 = s.heap[q] := by
    rw [hs] at e2
    exact e2
  have e5 : U.heap[q]? = some c9 := e1
  rw [e5, h9, Array.getElem?_eq_getElem hq]
/-- the words of a throw but the four that speak of the heap -/
def vx_no (w : Cond) : Bool := decide (w ≠ .isRef (.static Bundle.tN "UNASSIGNED_STACK" Bundle.steD)) && decide (w ≠ .isRef (.static Bundle.tN "SUPPRESSED_SENTINEL" Bundle.listD)) && decide (w ≠ .laysStatic Bundle.tN "UNASSIGNED_STACK" Bundle.steD) && decide (w ≠ .laysStatic Bundle.tN "SUPPRESSED_SENTINEL" Bundle.listD)
def vx_at0 (own : String) (ic : Nat) (X : String) (names : List String) : List Cond := (Bundle.ownAtoms0 own ic X names).filter vx_no
def vx_atS (own : String) (ic : Nat) (X : String) (names : List String) : List Cond := (Bundle.ownAtoms own ic X names).filter vx_no
/-- a word that the tables alone decide, or a good one -/
def vx_ot (w : Cond) : Bool := w.onTables || goodWord w
theorem vx_ot_at {args a' : Array Value} {s U : State} {w : Cond} (hW : s.WarmedH U.vm) (hvm : s.vm = U.vm) (hg : vx_ot w = true) (h : w.before args s = true) : w.before a' U = true := by
  simp only [vx_ot, Bool.or_eq_true] at hg
  rcases hg with hg | hg
  · exact va_tabs hg hvm h
  · exact word_at hW (good_of_word hg) h
/-- a list's words: the good ones out of the method's own list, the others by premises of their own -/
theorem vx_hat {args : Array Value} {s : State} {L B : List Cond} (h1 : ∀ w ∈ L.filter goodWord, w.before args s = true) (h2 : ∀ w ∈ L.filter (fun w => !goodWord w), w ∈ B) (h3 : ∀ w ∈ B, w.before args s = true) : ∀ w ∈ L, w.before args s = true := by
  intro w hw
  by_cases g : goodWord w = true
  · exact h1 w (List.mem_filter.mpr ⟨hw, g⟩)
  · refine h3 w (h2 w (List.mem_filter.mpr ⟨hw, ?_⟩))
    show (!goodWord w) = true
    cases hgw : goodWord w
    · rfl
    · exact absurd hgw g
theorem vx_c {args : Array Value} {s : State} {w : Cond} {B : List Cond} (h : w.before args s = true) (t : ∀ w ∈ B, w.before args s = true) : ∀ w' ∈ w :: B, w'.before args s = true := fun w' h' => (List.mem_cons.mp h').elim (fun e => by rw [e]; exact h) (t w')
theorem vx_n {args : Array Value} {s : State} : ∀ w ∈ ([] : List Cond), w.before args s = true := fun _ h => nomatch h
theorem vx_own {args : Array Value} {s : State} {L : List Cond} (h1 : ∀ w ∈ L.filter vx_no, w.before args s = true)
    (hU : (Cond.isRef (.static Bundle.tN "UNASSIGNED_STACK" Bundle.steD)).before args s = true) (hN : (Cond.isRef (.static Bundle.tN "SUPPRESSED_SENTINEL" Bundle.listD)).before args s = true)
    (lU : (Cond.laysStatic Bundle.tN "UNASSIGNED_STACK" Bundle.steD).before args s = true) (lN : (Cond.laysStatic Bundle.tN "SUPPRESSED_SENTINEL" Bundle.listD).before args s = true) : ∀ w ∈ L, w.before args s = true := by
  intro w hw
  by_cases e1 : w = .isRef (.static Bundle.tN "UNASSIGNED_STACK" Bundle.steD)
  · rw [e1]; exact hU
  · by_cases e2 : w = .isRef (.static Bundle.tN "SUPPRESSED_SENTINEL" Bundle.listD)
    · rw [e2]; exact hN
    · by_cases e3 : w = .laysStatic Bundle.tN "UNASSIGNED_STACK" Bundle.steD
      · rw [e3]; exact lU
      · by_cases e4 : w = .laysStatic Bundle.tN "SUPPRESSED_SENTINEL" Bundle.listD
        · rw [e4]; exact lN
        · exact h1 w (List.mem_filter.mpr ⟨hw, by unfold vx_no; rw [decide_eq_true e1, decide_eq_true e2, decide_eq_true e3, decide_eq_true e4]; rfl⟩)
/-- where a static field lies, its class's statics cell in H -/
def vx_L (C n d : String) (A : Nat → Prop) (U : State) (H : Heap) : Prop := ∃ (c : ClassId) (k : Class) (i : Nat) (f : Field) (a : Nat) (cell : Cell), U.vm.findClass C = some c ∧ U.fieldFound? C n d = some (c, k, i, f) ∧ f.isStatic = true ∧ k.statics = some a ∧ H[a]? = some cell ∧ cell.vm.isStatics = true ∧ cell.cls = c ∧ f.slot < cell.slots.size ∧ k.staticTypes[f.slot]? = some f.type ∧ ¬ A a
theorem vx_L.moved {C n d : String} {A : Nat → Prop} {u U : State} {H : Heap} (hvm : u.vm.Alike U.vm) (h : vx_L C n d A u H) : vx_L C n d A U H := by
  obtain ⟨c, k, i, f, a, cell, h1, h2, h3, h4, h5, h6, h7, h8, h9, h10⟩ := h
  obtain ⟨k', hi', he⟩ := State.fieldFound?_setVm hvm h2
  exact ⟨c, k', i, f, a, cell, by rw [hvm.findClass]; exact h1, hi', h3, by rw [he]; exact h4, h5, h6, h7, h8, by rw [he]; exact h9, h10⟩
theorem vx_L.kept {C n d : String} {A : Nat → Prop} {U : State} {H H1 : Heap} (h : vx_L C n d A U H) (hq : ∀ a : Nat, a < H.size → ¬ A a → H1[a]? = H[a]?) : vx_L C n d A U H1 := by
  obtain ⟨c, k, i, f, a, cell, h1, h2, h3, h4, h5, h6, h7, h8, h9, h10⟩ := h
  exact ⟨c, k, i, f, a, cell, h1, h2, h3, h4, by rw [hq a (Array.getElem?_eq_some_iff.mp h5).1 h10]; exact h5, h6, h7, h8, h9, h10⟩
theorem vx_L.narrow {C n d : String} {A B : Nat → Prop} {U : State} {H : Heap} (h : vx_L C n d A U H) (hAB : ∀ q, B q → A q) : vx_L C n d B U H := by
  obtain ⟨c, k, i, f, a, cell, h1, h2, h3, h4, h5, h6, h7, h8, h9, h10⟩ := h
  exact ⟨c, k, i, f, a, cell, h1, h2, h3, h4, h5, h6, h7, h8, h9, fun z => h10 (hAB _ z)⟩
theorem vx_L.word {C n d : String} {A : Nat → Prop} {s : State} {args : Array Value} (h : vx_L C n d A s s.heap) : (Cond.laysStatic C n d).before args s = true := by
  obtain ⟨c, k, i, f, a, cell, h1, h2, h3, h4, h5, h6, h7, h8, h9, -⟩ := h
  show (Cond.laysStatic C n d).holds args s none s [] = true
  exact Cond.laysStatic_of h1 h2 h3 h4 h5 h6 h7 h8 h9
/-- .. and what it holds: null or some reference -/
def vx_Zq (C n d : String) (A : Nat → Prop) (U : State) (H : Heap) : Prop := va_Zq C n d A U H ∧ vx_L C n d A U H
theorem vx_Zq.moved {C n d : String} {A : Nat → Prop} {u U : State} {H : Heap} (hvm : u.vm.Alike U.vm) (h : vx_Zq C n d A u H) : vx_Zq C n d A U H := ⟨va_Zq.moved hvm h.1, vx_L.moved hvm h.2⟩
theorem vx_Zq.kept {C n d : String} {A : Nat → Prop} {U : State} {H H1 : Heap} (h : vx_Zq C n d A U H) (hq : ∀ a : Nat, a < H.size → ¬ A a → H1[a]? = H[a]?) : vx_Zq C n d A U H1 := ⟨va_Zq.kept h.1 hq, vx_L.kept h.2 hq⟩
theorem vx_Zq.narrow {C n d : String} {A B : Nat → Prop} {U : State} {H : Heap} (h : vx_Zq C n d A U H) (hAB : ∀ q, B q → A q) : vx_Zq C n d B U H := ⟨va_Zq.narrow h.1 hAB, vx_L.narrow h.2 hAB⟩
theorem vx_Zqof {args : Array Value} {s : State} {C n d : String} {A : Nat → Prop} (hl : (Cond.laysStatic C n d).before args s = true) (hini : (Cond.initialized C).before args s = true) (h : (Cond.isRef (.static C n d)).before args s = true) (hA : ∀ a : Nat, a < s.heap.size → ¬ A a) : vx_Zq C n d A s s.heap := by
  refine ⟨va_Zqof hl hini h hA, ?_⟩
  obtain ⟨c, k, i, f, a, cell, h1, h2, h3, h4, h5, h6, h7, h8, h9⟩ := Cond.laysStatic_spec hl
  exact ⟨c, k, i, f, a, cell, h1, h2, h3, h4, h5, h6, h7, h8, h9, hA a (Array.getElem?_eq_some_iff.mp h5).1⟩
theorem vx_isRef {C n d : String} {v : Value} {A : Nat → Prop} {s : State} {args : Array Value} (h : va_Z C n d v A s s.heap) (hv : v.isRef = true) : (Cond.isRef (.static C n d)).before args s = true := by
  obtain ⟨cf, kf, fi, f, a, cell, h1, h2, h3, h4, h5, h6, h7, -⟩ := h
  have he : (Term.static C n d).eval args s none [] s = some v := by
    simp [Term.eval, State.fieldNamed?, h1, h2, h4, h5, h6, h7]
  simp only [Cond.before, Cond.holds, Cond.value, he]
  cases v <;> simp_all [Value.isRef]
theorem vx_isRefq {C n d : String} {A : Nat → Prop} {s : State} {args : Array Value} (h : va_Zq C n d A s s.heap) : (Cond.isRef (.static C n d)).before args s = true := by
  rcases h with h | ⟨t, h⟩
  · exact vx_isRef h rfl
  · exact vx_isRef h rfl
/-- the same frame, seen from here: as if the method were called anew in this heap -/
theorem vx_rebase {T : State} (X : Stand p l e R s m args below meth c T locs cells slots) {R' : Room} (hf : R'.frames ≤ R.frames) (hl : R'.locals ≤ R.locals) (hc : cells + R'.cells ≤ R.cells) (hs : slots + R'.slots ≤ R.slots) :
    Stand p l e R' ((T.setVm s.vm).setFrames (.invoking m args :: below)) m args below meth c T [] 0 0 := by
  have htop : (T.setVm s.vm).topJava?.isSome := X.here.top
  have hF : ((T.setVm s.vm).setFrames (.invoking m args :: below)).frames = .invoking m args :: below := State.frames_setFrames _ (State.cur_lt_of_top htop)
  obtain ⟨g₀, hg0⟩ := Option.isSome_iff_exists.mp htop
  obtain ⟨r, hr⟩ := State.topJava?_eq_some.mp hg0
  have hl9 : e.platform.stackLimits (T.setVm s.vm).me = e.platform.stackLimits s.me := X.limits
  have hb9 : (T.setVm s.vm).me.stackBytes = s.me.stackBytes := X.bytes
  refine ⟨X.admits, X.cas, X.clock, hF, ?_, X.hears, X.method, X.code, X.here, X.tail, X.warmed, ?_, ?_, ?_⟩
  · have h := X.room
    have hU : ((T.setVm s.vm).setFrames (.invoking m args :: below)).localsInUse = s.localsInUse := by
      rw [State.localsInUse_invoking hF (meth := meth) (c := c) X.method X.code, State.localsInUse_invoking X.frames X.method X.code]
    simp only [State.hasRoom, Bool.and_eq_true, decide_eq_true_eq] at h ⊢
    obtain ⟨⟨⟨⟨h1, h2, h3, h4, h5, h6⟩, h7⟩, h8⟩, h9⟩ := h
    rw [X.frames, List.length_cons] at h2 h3
    have q1 := X.heapSize
    have q2 := X.used
    simp only [hF, hU, List.length_cons, State.stackLimits_setFrames, State.stackBytes_setFrames, hl9, hb9]
    refine ⟨⟨⟨⟨by omega, by omega, by omega, by omega, by omega, h6⟩, ?_⟩, ?_⟩, X.book⟩
    · show T.heap.size + R'.cells ≤ e.platform.maxCells
      omega
    · show T.slotsUsed + R'.slots ≤ e.platform.maxSlots
      omega
  · rw [State.stackLimits_setFrames]; rfl
  · rw [State.stackBytes_setFrames]; rfl
  · refine ⟨?_, Nat.le_refl _, Nat.le_refl _, ?_, ?_, fun a c9 h9 => ⟨c9, h9, rfl, rfl, fun _ _ => rfl⟩⟩
    · obtain ⟨t, ht, -⟩ := State.frames_cons hr
      show T.setVm s.vm = { ((T.setVm s.vm).setFrames (.invoking m args :: below)).setFrames (T.setVm s.vm).frames with heap := T.heap, slotsUsed := T.slotsUsed }
      rw [State.setFrames_setFrames, State.setFrames_self ht]
      rfl
    · show T.slotsUsed = T.slotsUsed + ((T.heap.toList.drop T.heap.size).map (·.slots.size)).sum
      rw [List.drop_eq_nil_of_le (Nat.le_of_eq Array.length_toList)]
      rfl
    · show ((T.heap.toList.drop T.heap.size).map (·.slots.size)).sum ≤ 0
      rw [List.drop_eq_nil_of_le (Nat.le_of_eq Array.length_toList)]
      exact Nat.le_refl _
/-- 'throw new E()': new; dup; invokespecial; athrow -/
theorem vx_throw0 {cc : ByteArray} {pc : Nat} (hexec : p.tables.exec = Jvm.exec) (hb : c.code = cc) (hl : l.stackTraces = false) {own cls : String} {names : List String} {ik ic mc ms : Nat} {A : Nat → Prop}
    (hown : s.vm.findClass own = some m.cls) (hcls : Bundle.fit cls = true) (hnames : ∀ n ∈ names, Bundle.fit n = true)
    (hk : (Cond.classLink own ik cls).before args s = true) (hini : (Cond.initialized cls).before args s = true) (hat : ∀ w ∈ vx_at0 own ic cls names, w.before args s = true)
    (hgood : ∀ w ∈ Cond.classLink own ik cls :: Cond.initialized cls :: vx_at0 own ic cls names, vx_ot w = true)
    (hU : vx_Zq Bundle.tN "UNASSIGNED_STACK" Bundle.steD A s s.heap) (hN : vx_Zq Bundle.tN "SUPPRESSED_SENTINEL" Bundle.listD A s s.heap) (hS : va_S A s.heap H locs) (hsize : ls.size = c.maxLocals)
    (d0 : decode cc pc = .ok (.new ik, 3)) (d3 : decode cc (pc + 3) = .ok (.dup, 1)) (d4 : decode cc (pc + 4) = .ok (.invokespecial ic, 3)) (d7 : decode cc (pc + 7) = .ok (.athrow, 1))
    (hout : ∀ x ∈ c.exceptionTable.toList, covers x (pc + 7) = false)
    (hRframes : names.length + 3 < R.frames) (hRlocals : (rest.map fun v => v.category).sum + (13 * (names.length + 1) + 42) ≤ R.locals) (hRcells : cells + 1 ≤ R.cells) (hRslots : slots + 6 ≤ R.slots) (hlocks : meth.locks = false)
    (hx : ∀ t : State, s.vm.Alike t.vm → H.size ≤ t.heap.size → (∀ q : Nat, q < H.size → t.heap[q]? = H[q]?) → XC cls s t)
    (hf : ∀ z ∈ locs, free z.base) (hc : cells + 1 ≤ mc) (hs : slots + 6 ≤ ms) :
    W p l e R s m args below meth c H locs cells slots (vx_MQ below Qc XC args s mc ms free) (F0 m pc ls rest) := by
  intro T hT X
  have htr : e.platform.stackTraces = false := (show e.platform.stackTraces = l.stackTraces by rw [X.admits.platform]).trans hl
  have Y := vx_rebase X (R' := { frames := R.frames, locals := R.locals, cells := 1, slots := 6 }) (Nat.le_refl _) (Nat.le_refl _) hRcells hRslots
  obtain ⟨s', hA⟩ : ∃ z, z = (T.setVm s.vm).setFrames (.invoking m args :: below) := ⟨_, rfl⟩
  rw [← hA] at Y
  have hvm : s'.vm = s.vm := by rw [hA]; rfl
  have hhp : s'.heap = H := by rw [hA]; exact hT
  have hW0 : s.WarmedH s'.vm := by rw [hvm]; exact State.WarmedH.refl s
  have hat' : ∀ w ∈ vx_at0 own ic cls names, w.before args s' = true := fun w hw => vx_ot_at hW0 hvm.symm (hgood w (List.mem_cons_of_mem _ (List.mem_cons_of_mem _ hw))) (hat w hw)
  have hk' : (Cond.classLink own ik cls).before args s' = true := vx_ot_at hW0 hvm.symm (hgood _ List.mem_cons_self) hk
  have hini' : (Cond.initialized cls).before args s' = true := vx_ot_at hW0 hvm.symm (hgood _ (List.mem_cons_of_mem _ List.mem_cons_self)) hini
  have hU' : vx_Zq Bundle.tN "UNASSIGNED_STACK" Bundle.steD A s' s'.heap := by rw [hhp]; exact vx_Zq.moved hW0.alike (hU.kept hS.2.1)
  have hN' : vx_Zq Bundle.tN "SUPPRESSED_SENTINEL" Bundle.listD A s' s'.heap := by rw [hhp]; exact vx_Zq.moved hW0.alike (hN.kept hS.2.1)
  have h : ∀ w ∈ Bundle.ownAtoms0 own ic cls names, w.before args s' = true := vx_own hat' (vx_isRefq hU'.1) (vx_isRefq hN'.1) hU'.2.word hN'.2.word
  have hown' : s'.vm.findClass own = some m.cls := by rw [hvm]; exact hown
  have hins : (Cond.instantiable cls 6).before args s' = true := h _ (by simp [Bundle.ownAtoms0])
  obtain ⟨vm₁, cX, kX, hfX, hkX, -, -, X₁, st1⟩ := Y.newCold hexec (own := own) (C := cls) (index := ik) (n := 6) hown' hk' hins hini'
    (g := F0 m pc ls rest) rfl (by rw [hb]; exact d0) (Nat.le_refl _) (Nat.le_refl _)
  generalize hT1 : (T.setVm vm₁).pushCell { cls := cX, slots := kX.instanceTypes.map defaultValue, vm := .none } = T1 at X₁ st1
  have hcat : (Value.ref T.heap.size).category = 1 := rfl
  have hcellA : T1.heap[T.heap.size]? = some (freshCell cX kX) := by rw [← hT1]; exact State.heap_pushCell_size _ _
  have d3' : decode c.code (pc + 3) = .ok (.dup, 1) := by rw [hb]; exact d3
  obtain ⟨U, hsteps, hrun, hend, hW, hsame, ce, hce, hO⟩ := X₁.ctorThrow0 hexec htr (own := own) (cls := cls) (names := names) (ic := ic) hown' hcls hnames h (fun x hx => nomatch hx) hfX hkX hcellA (by rw [hhp, hT]; exact Nat.le_refl _)
    (g := { method := m, pc := pc + 4, locals := ls, stack := .ref T.heap.size :: .ref T.heap.size :: rest, locked := none }) rfl hsize rfl rfl (rest := rest) rfl
    (by rw [hb]; exact d4) (by rw [hb]; exact d7) hout hRframes (by simp only [List.map_cons, List.sum_cons, hcat]; omega) hlocks
  obtain ⟨f1, f2⟩ := vx_frame hsame
  rw [hhp] at f1 f2
  have hWs : s.WarmedH U.vm := State.WarmedH.trans hW0 hW
  have hcl : s.vm.findClass cls = some ce.cls := by
    have h9 := hO.cls
    rw [hvm] at h9
    exact h9
  have hall : s.sameButNew ({ U with vm := s.vm } : State) locs mc ms := by
    subst hA
    obtain ⟨e1, e2⟩ := hsame
    rw [State.setFrames_setFrames] at e1
    have h2 : (T.setVm s.vm).sameButNew ({ U with vm := s.vm } : State) [] (0 + 1) (0 + 6) := ⟨e1, e2⟩
    have h3 := X.same.trans h2
    rw [List.append_nil] at h3
    exact h3.mono hc hs
  refine ⟨U, ?_, .threw T.heap.size, hrun, hend, Or.inr ⟨T.heap.size, rfl, cls, ce, locs, hx U hWs.alike f1 (fun q hq => f2 q hq (fun z hz => nomatch hz)), hce, hO.vm, hcl, hWs, hall, hf⟩⟩
  refine st1 _ ?_
  show Steps p.tables e below (T1.setTop { method := m, pc := pc + 3, locals := ls, stack := .ref T.heap.size :: rest, locked := none }) _
  jvm_step X₁.here [X₁.here.top, hexec, d3', Value.category]
  exact hsteps
/-- 'throw new E("text")': new; dup; ldc; invokespecial; athrow -/
theorem vx_throwS {cc : ByteArray} {pc : Nat} (hexec : p.tables.exec = Jvm.exec) (hb : c.code = cc) (hl : l.stackTraces = false) {own cls text : String} {names : List String} {ik is ic mc ms sa : Nat} {A : Nat → Prop}
    (hown : s.vm.findClass own = some m.cls) (hcls : Bundle.fit cls = true) (hnames : ∀ n ∈ names, Bundle.fit n = true)
    (hk : (Cond.classLink own ik cls).before args s = true) (hini : (Cond.initialized cls).before args s = true) (hstr : vk_R own is text sa s) (hat : ∀ w ∈ vx_atS own ic cls names, w.before args s = true)
    (hgood : ∀ w ∈ Cond.classLink own ik cls :: Cond.initialized cls :: vx_atS own ic cls names, vx_ot w = true)
    (hU : vx_Zq Bundle.tN "UNASSIGNED_STACK" Bundle.steD A s s.heap) (hN : vx_Zq Bundle.tN "SUPPRESSED_SENTINEL" Bundle.listD A s s.heap) (hS : va_S A s.heap H locs) (hsize : ls.size = c.maxLocals)
    (d0 : decode cc pc = .ok (.new ik, 3)) (d3 : decode cc (pc + 3) = .ok (.dup, 1)) (d4 : decode cc (pc + 4) = .ok (.ldc is, 2)) (d6 : decode cc (pc + 6) = .ok (.invokespecial ic, 3)) (d9 : decode cc (pc + 9) = .ok (.athrow, 1))
    (hout : ∀ x ∈ c.exceptionTable.toList, covers x (pc + 9) = false)
    (hRframes : names.length + 3 < R.frames) (hRlocals : (rest.map fun v => v.category).sum + (13 * (names.length + 1) + 43) ≤ R.locals) (hRcells : cells + 1 ≤ R.cells) (hRslots : slots + 6 ≤ R.slots) (hlocks : meth.locks = false)
    (hx : ∀ t : State, s.vm.Alike t.vm → H.size ≤ t.heap.size → (∀ q : Nat, q < H.size → t.heap[q]? = H[q]?) → XC cls s t)
    (hf : ∀ z ∈ locs, free z.base) (hc : cells + 1 ≤ mc) (hs : slots + 6 ≤ ms) :
    W p l e R s m args below meth c H locs cells slots (vx_MQ below Qc XC args s mc ms free) (F0 m pc ls rest) := by
  intro T hT X
  have htr : e.platform.stackTraces = false := (show e.platform.stackTraces = l.stackTraces by rw [X.admits.platform]).trans hl
  have Y := vx_rebase X (R' := { frames := R.frames, locals := R.locals, cells := 1, slots := 6 }) (Nat.le_refl _) (Nat.le_refl _) hRcells hRslots
  obtain ⟨s', hA⟩ : ∃ z, z = (T.setVm s.vm).setFrames (.invoking m args :: below) := ⟨_, rfl⟩
  rw [← hA] at Y
  have hvm : s'.vm = s.vm := by rw [hA]; rfl
  have hhp : s'.heap = H := by rw [hA]; exact hT
  have hW0 : s.WarmedH s'.vm := by rw [hvm]; exact State.WarmedH.refl s
  have hat' : ∀ w ∈ vx_atS own ic cls names, w.before args s' = true := fun w hw => vx_ot_at hW0 hvm.symm (hgood w (List.mem_cons_of_mem _ (List.mem_cons_of_mem _ hw))) (hat w hw)
  have hk' : (Cond.classLink own ik cls).before args s' = true := vx_ot_at hW0 hvm.symm (hgood _ List.mem_cons_self) hk
  have hini' : (Cond.initialized cls).before args s' = true := vx_ot_at hW0 hvm.symm (hgood _ (List.mem_cons_of_mem _ List.mem_cons_self)) hini
  have hU' : vx_Zq Bundle.tN "UNASSIGNED_STACK" Bundle.steD A s' s'.heap := by rw [hhp]; exact vx_Zq.moved hW0.alike (hU.kept hS.2.1)
  have hN' : vx_Zq Bundle.tN "SUPPRESSED_SENTINEL" Bundle.listD A s' s'.heap := by rw [hhp]; exact vx_Zq.moved hW0.alike (hN.kept hS.2.1)
  have h : ∀ w ∈ Bundle.ownAtoms own ic cls names, w.before args s' = true := vx_own hat' (vx_isRefq hU'.1) (vx_isRefq hN'.1) hU'.2.word hN'.2.word
  have hown' : s'.vm.findClass own = some m.cls := by rw [hvm]; exact hown
  have hins : (Cond.instantiable cls 6).before args s' = true := h _ (by simp [Bundle.ownAtoms])
  obtain ⟨vm₁, cX, kX, hfX, hkX, -, -, X₁, st1⟩ := Y.newCold hexec (own := own) (C := cls) (index := ik) (n := 6) hown' hk' hins hini'
    (g := F0 m pc ls rest) rfl (by rw [hb]; exact d0) (Nat.le_refl _) (Nat.le_refl _)
  generalize hT1 : (T.setVm vm₁).pushCell { cls := cX, slots := kX.instanceTypes.map defaultValue, vm := .none } = T1 at X₁ st1
  have hcat : (Value.ref T.heap.size).category = 1 := rfl
  have hcellA : T1.heap[T.heap.size]? = some (freshCell cX kX) := by rw [← hT1]; exact State.heap_pushCell_size _ _
  have d3' : decode c.code (pc + 3) = .ok (.dup, 1) := by rw [hb]; exact d3
  have d4' : decode c.code (pc + 4) = .ok (.ldc is, 2) := by rw [hb]; exact d4
  have hstr' : vk_R own is text sa s' := vk_R.warm hW0 hstr
  obtain ⟨U, hsteps, hrun, hend, hW, hsame, ce, hce, hO⟩ := X₁.ctorThrowS hexec htr (own := own) (cls := cls) (names := names) (ic := ic) hown' hcls hnames h (fun x hx => nomatch hx) hfX hkX hcellA (by rw [hhp, hT]; exact Nat.le_refl _) (msg := .ref sa) rfl
    (g := { method := m, pc := pc + 6, locals := ls, stack := .ref sa :: .ref T.heap.size :: .ref T.heap.size :: rest, locked := none }) rfl hsize rfl rfl (rest := rest) rfl
    (by rw [hb]; exact d6) (by rw [hb]; exact d9) hout hRframes (by simp only [List.map_cons, List.sum_cons, hcat]; omega) hlocks
  obtain ⟨f1, f2⟩ := vx_frame hsame
  rw [hhp] at f1 f2
  have hWs : s.WarmedH U.vm := State.WarmedH.trans hW0 hW
  have hcl : s.vm.findClass cls = some ce.cls := by
    have h9 := hO.cls
    rw [hvm] at h9
    exact h9
  have hall : s.sameButNew ({ U with vm := s.vm } : State) locs mc ms := by
    subst hA
    obtain ⟨e1, e2⟩ := hsame
    rw [State.setFrames_setFrames] at e1
    have h2 : (T.setVm s.vm).sameButNew ({ U with vm := s.vm } : State) [] (0 + 1) (0 + 6) := ⟨e1, e2⟩
    have h3 := X.same.trans h2
    rw [List.append_nil] at h3
    exact h3.mono hc hs
  refine ⟨U, ?_, .threw T.heap.size, hrun, hend, Or.inr ⟨T.heap.size, rfl, cls, ce, locs, hx U hWs.alike f1 (fun q hq => f2 q hq (fun z hz => nomatch hz)), hce, hO.vm, hcl, hWs, hall, hf⟩⟩
  refine st1 _ ?_
  show Steps p.tables e below (T1.setTop { method := m, pc := pc + 3, locals := ls, stack := .ref T.heap.size :: rest, locked := none }) _
  jvm_step X₁.here [X₁.here.top, hexec, d3', Value.category]
  exact X₁.ldcString hexec (own := own) (text := text) (index := is) (a := sa) hown' hstr'.1 hstr'.2
    (g := { method := m, pc := pc + 4, locals := ls, stack := .ref T.heap.size :: .ref T.heap.size :: rest, locked := none }) rfl d4' _ hsteps
/-- 'throw new E("text")', the text by a wide index -/
theorem vx_throwSW {cc : ByteArray} {pc : Nat} (hexec : p.tables.exec = Jvm.exec) (hb : c.code = cc) (hl : l.stackTraces = false) {own cls text : String} {names : List String} {ik is ic mc ms sa : Nat} {A : Nat → Prop}
    (hown : s.vm.findClass own = some m.cls) (hcls : Bundle.fit cls = true) (hnames : ∀ n ∈ names, Bundle.fit n = true)
    (hk : (Cond.classLink own ik cls).before args s = true) (hini : (Cond.initialized cls).before args s = true) (hstr : vk_R own is text sa s) (hat : ∀ w ∈ vx_atS own ic cls names, w.before args s = true)
    (hgood : ∀ w ∈ Cond.classLink own ik cls :: Cond.initialized cls :: vx_atS own ic cls names, vx_ot w = true)
    (hU : vx_Zq Bundle.tN "UNASSIGNED_STACK" Bundle.steD A s s.heap) (hN : vx_Zq Bundle.tN "SUPPRESSED_SENTINEL" Bundle.listD A s s.heap) (hS : va_S A s.heap H locs) (hsize : ls.size = c.maxLocals)
    (d0 : decode cc pc = .ok (.new ik, 3)) (d3 : decode cc (pc + 3) = .ok (.dup, 1)) (d4 : decode cc (pc + 4) = .ok (.ldc_w is, 3)) (d7 : decode cc (pc + 7) = .ok (.invokespecial ic, 3)) (d10 : decode cc (pc + 10) = .ok (.athrow, 1))
    (hout : ∀ x ∈ c.exceptionTable.toList, covers x (pc + 10) = false)
    (hRframes : names.length + 3 < R.frames) (hRlocals : (rest.map fun v => v.category).sum + (13 * (names.length + 1) + 43) ≤ R.locals) (hRcells : cells + 1 ≤ R.cells) (hRslots : slots + 6 ≤ R.slots) (hlocks : meth.locks = false)
    (hx : ∀ t : State, s.vm.Alike t.vm → H.size ≤ t.heap.size → (∀ q : Nat, q < H.size → t.heap[q]? = H[q]?) → XC cls s t)
    (hf : ∀ z ∈ locs, free z.base) (hc : cells + 1 ≤ mc) (hs : slots + 6 ≤ ms) :
    W p l e R s m args below meth c H locs cells slots (vx_MQ below Qc XC args s mc ms free) (F0 m pc ls rest) := by
  intro T hT X
  have htr : e.platform.stackTraces = false := (show e.platform.stackTraces = l.stackTraces by rw [X.admits.platform]).trans hl
  have Y := vx_rebase X (R' := { frames := R.frames, locals := R.locals, cells := 1, slots := 6 }) (Nat.le_refl _) (Nat.le_refl _) hRcells hRslots
  obtain ⟨s', hA⟩ : ∃ z, z = (T.setVm s.vm).setFrames (.invoking m args :: below) := ⟨_, rfl⟩
  rw [← hA] at Y
  have hvm : s'.vm = s.vm := by rw [hA]; rfl
  have hhp : s'.heap = H := by rw [hA]; exact hT
  have hW0 : s.WarmedH s'.vm := by rw [hvm]; exact State.WarmedH.refl s
  have hat' : ∀ w ∈ vx_atS own ic cls names, w.before args s' = true := fun w hw => vx_ot_at hW0 hvm.symm (hgood w (List.mem_cons_of_mem _ (List.mem_cons_of_mem _ hw))) (hat w hw)
  have hk' : (Cond.classLink own ik cls).before args s' = true := vx_ot_at hW0 hvm.symm (hgood _ List.mem_cons_self) hk
  have hini' : (Cond.initialized cls).before args s' = true := vx_ot_at hW0 hvm.symm (hgood _ (List.mem_cons_of_mem _ List.mem_cons_self)) hini
  have hU' : vx_Zq Bundle.tN "UNASSIGNED_STACK" Bundle.steD A s' s'.heap := by rw [hhp]; exact vx_Zq.moved hW0.alike (hU.kept hS.2.1)
  have hN' : vx_Zq Bundle.tN "SUPPRESSED_SENTINEL" Bundle.listD A s' s'.heap := by rw [hhp]; exact vx_Zq.moved hW0.alike (hN.kept hS.2.1)
  have h : ∀ w ∈ Bundle.ownAtoms own ic cls names, w.before args s' = true := vx_own hat' (vx_isRefq hU'.1) (vx_isRefq hN'.1) hU'.2.word hN'.2.word
  have hown' : s'.vm.findClass own = some m.cls := by rw [hvm]; exact hown
  have hins : (Cond.instantiable cls 6).before args s' = true := h _ (by simp [Bundle.ownAtoms])
  obtain ⟨vm₁, cX, kX, hfX, hkX, -, -, X₁, st1⟩ := Y.newCold hexec (own := own) (C := cls) (index := ik) (n := 6) hown' hk' hins hini'
    (g := F0 m pc ls rest) rfl (by rw [hb]; exact d0) (Nat.le_refl _) (Nat.le_refl _)
  generalize hT1 : (T.setVm vm₁).pushCell { cls := cX, slots := kX.instanceTypes.map defaultValue, vm := .none } = T1 at X₁ st1
  have hcat : (Value.ref T.heap.size).category = 1 := rfl
  have hcellA : T1.heap[T.heap.size]? = some (freshCell cX kX) := by rw [← hT1]; exact State.heap_pushCell_size _ _
  have d3' : decode c.code (pc + 3) = .ok (.dup, 1) := by rw [hb]; exact d3
  have d4' : decode c.code (pc + 4) = .ok (.ldc_w is, 3) := by rw [hb]; exact d4
  have hstr' : vk_R own is text sa s' := vk_R.warm hW0 hstr
  obtain ⟨U, hsteps, hrun, hend, hW, hsame, ce, hce, hO⟩ := X₁.ctorThrowS hexec htr (own := own) (cls := cls) (names := names) (ic := ic) hown' hcls hnames h (fun x hx => nomatch hx) hfX hkX hcellA (by rw [hhp, hT]; exact Nat.le_refl _) (msg := .ref sa) rfl
    (g := { method := m, pc := pc + 7, locals := ls, stack := .ref sa :: .ref T.heap.size :: .ref T.heap.size :: rest, locked := none }) rfl hsize rfl rfl (rest := rest) rfl
    (by rw [hb]; exact d7) (by rw [hb]; exact d10) hout hRframes (by simp only [List.map_cons, List.sum_cons, hcat]; omega) hlocks
  obtain ⟨f1, f2⟩ := vx_frame hsame
  rw [hhp] at f1 f2
  have hWs : s.WarmedH U.vm := State.WarmedH.trans hW0 hW
  have hcl : s.vm.findClass cls = some ce.cls := by
    have h9 := hO.cls
    rw [hvm] at h9
    exact h9
  have hall : s.sameButNew ({ U with vm := s.vm } : State) locs mc ms := by
    subst hA
    obtain ⟨e1, e2⟩ := hsame
    rw [State.setFrames_setFrames] at e1
    have h2 : (T.setVm s.vm).sameButNew ({ U with vm := s.vm } : State) [] (0 + 1) (0 + 6) := ⟨e1, e2⟩
    have h3 := X.same.trans h2
    rw [List.append_nil] at h3
    exact h3.mono hc hs
  refine ⟨U, ?_, .threw T.heap.size, hrun, hend, Or.inr ⟨T.heap.size, rfl, cls, ce, locs, hx U hWs.alike f1 (fun q hq => f2 q hq (fun z hz => nomatch hz)), hce, hO.vm, hcl, hWs, hall, hf⟩⟩
  refine st1 _ ?_
  show Steps p.tables e below (T1.setTop { method := m, pc := pc + 3, locals := ls, stack := .ref T.heap.size :: rest, locked := none }) _
  jvm_step X₁.here [X₁.here.top, hexec, d3', Value.category]
  exact X₁.ldcStringW hexec (own := own) (text := text) (index := is) (a := sa) hown' hstr'.1 hstr'.2
    (g := { method := m, pc := pc + 4, locals := ls, stack := .ref T.heap.size :: .ref T.heap.size :: rest, locked := none }) rfl d4' _ hsteps
end Ends
section Bodies
variable {l : Launch}
theorem vx_ofW {y : MethodName} {ws ws' : List Cond} {rm : Room} {Pc : Array Value → State → Prop} {Qc : Array Value → State → Outcome → State → Prop} {XC : String → State → State → Prop} {mc ms : Nat} {free : Addr → Prop} {cc : ByteArray} {maxL : Nat} {ret : Option FieldType}
    (hy : plainName y.cls = true) (hw : ws = Cond.code y cc maxL ret :: ws')
    (body : ∀ p e s m args below meth c s₁, BodyLoose p l y (headSpec ws rm) cc maxL ret e s m args below meth c s₁ → c.maxLocals = maxL → (∀ x ∈ c.exceptionTable.toList, False) → Pc args s →
      W p l e (headSpec ws rm).room s m args below meth c s.heap [] 0 0 (vx_MQ below Qc XC args s mc ms free) (entryFrame m args maxL)) : vx_Met l y ws rm Pc Qc XC mc ms free := by
  refine MetFree.of_bodyS (code := cc) (maxLocals := maxL) (ret := ret) hy ?_ ?_
  · intro args s m h hn
    obtain ⟨meth, c, h1, h2, h3, h4, h5, h6, -, -⟩ := Cond.code_spec hn (atoms_spec (ws := ws) h _ (by rw [hw]; exact List.mem_cons_self))
    exact ⟨meth, c, h1, h2, h3, h4, h5, h6⟩
  · intro p e s m args below meth c s₁ B hml hP _
    have hh0 : s₁.heap = s.heap := by rw [B.state]; rfl
    have ht : ∀ x ∈ c.exceptionTable.toList, False := by
      obtain ⟨meth9, c9, h1, h2, -, -, -, -, h7, -⟩ := Cond.code_spec B.named (atoms_spec (ws := ws) B.pre _ (by rw [hw]; exact List.mem_cons_self))
      cases Option.some.inj (h1.symm.trans B.method)
      cases Option.some.inj (h2.symm.trans (Stand.of_body B).code)
      intro x hx
      rw [Array.isEmpty_iff.mp h7] at hx
      cases hx
    obtain ⟨t, a1, o, b1, b2, b3⟩ := body p e s m args below meth c s₁ B hml ht hP s₁ hh0 (Stand.of_body B)
    exact ⟨t, o, a1, b1, b2, b3⟩
/-- the table of a body with handlers -/
theorem vx_table {p : Program} {x y : MethodName} {S : Spec} {cc bytes : ByteArray} {maxL maxL' : Nat} {ret ret' : Option FieldType} {e : Env} {s s₁ : State} {m : MethodId} {args : Array Value} {below : List Frame} {meth : Method} {c : Code} {hh : List (Nat × Nat × Nat × Nat)}
    (B : BodyLoose p l y S cc maxL ret e s m args below meth c s₁) (h : (Cond.codeWith y bytes maxL' ret' hh).before args s = true) : c.exceptionTable.toList = tableOf hh := by
  obtain ⟨m9, meth9, c9, hn9, h1, h2, -, -, h6, -⟩ := Cond.codeWith_spec h
  cases Option.some.inj (hn9.symm.trans B.named)
  cases Option.some.inj (h1.symm.trans B.method)
  cases Option.some.inj (h2.symm.trans (Stand.of_body B).code)
  rw [← h6, table_eq]
end Bodies
end VXA
/-! ===== END ===== -/
/-! ===== BEGIN a static call of a method with an exception table ===== -/
section VXS
variable {p : Program} {l : Launch} {e : Env} {R : Room} {s : State} {m : MethodId} {args : Array Value} {below : List Frame} {meth : Method} {c : Code} {T : State} {H : Heap} {locs : List Loc} {cells slots : Nat}
abbrev vx_CSW (R : Room) (s : State) (args : Array Value) (own : String) (index : Nat) (y : MethodName) (bytes : ByteArray) (maxL : Nat) (ret : Option FieldType) (hh : List (Nat × Nat × Nat × Nat)) (ws : List Cond) (rm : Room) (mc ms n : Nat) : Prop :=
  (rm.cells = mc ∧ rm.slots = ms ∧ rm.frames + 1 ≤ R.frames ∧ 8 + (maxL + 11) + rm.locals ≤ R.locals ∧ (∀ w ∈ ws, ∀ (a' : Array Value) (U : State), s.WarmedH U.vm → w.before a' U = true) ∧ Cond.codeWith y bytes maxL ret hh ∈ ws) ∧
  (Cond.codeWith y bytes maxL ret hh).before args s = true ∧ (Cond.initialized y.cls).before args s = true ∧ (y.cls ≠ "java/lang/invoke/MethodHandle" ∧ y.cls ≠ "java/lang/invoke/VarHandle") ∧
  (∀ sig, parseMethodDescriptor y.desc = some sig → n = sig.parameters.length) ∧ (Cond.methodLink own index y).before args s = true ∧ (Cond.static y).before args s = true
theorem vx_cwSW {own : String} {index maxL mc ms : Nat} {y : MethodName} {bytes : ByteArray} {ret : Option FieldType} {hh : List (Nat × Nat × Nat × Nat)} {Ts ws ws' : List Cond} {rm : Room} (n : Nat) (ht : ∀ w ∈ Ts, w.before args s = true) (hT : GoodIn Ts (va_wsS own index y ws)) (hw : ws = Cond.codeWith y bytes maxL ret hh :: ws') (hrc : rm.cells = mc) (hrs : rm.slots = ms)
    (hd : y.cls ≠ "java/lang/invoke/MethodHandle" ∧ y.cls ≠ "java/lang/invoke/VarHandle" ∧ (parseMethodDescriptor y.desc).map (fun d => d.parameters.length) = some n) (hR : rm.frames + 1 ≤ R.frames ∧ 8 + (maxL + 11) + rm.locals ≤ R.locals) :
    vx_CSW R s args own index y bytes maxL ret hh ws rm mc ms n := by
  have ok : ∀ w ∈ va_wsS own index y ws, w.before args s = true := fun w h => ht w (hT w h).1
  have hG : GoodIn Ts ws := fun w h => hT w (by unfold va_wsS; exact List.mem_append_right _ h)
  have hc : Cond.codeWith y bytes maxL ret hh ∈ ws := by rw [hw]; exact List.mem_cons_self
  refine ⟨⟨hrc, hrs, hR.1, hR.2, pay_in ht hG, hc⟩, ht _ (hG _ hc).1, ok _ (by simp [va_wsS]), ⟨hd.1, hd.2.1⟩, fun sig h => ?_, ok _ (by simp [va_wsS]), ok _ (by simp [va_wsS])⟩
  have h2 := hd.2.2
  rw [h] at h2
  exact (Option.some.inj h2).symm
theorem vx_callSW (X : Stand p l e R s m args below meth c T locs cells slots) (hexec : p.tables.exec = Jvm.exec) {own : String} {index : Nat} {y : MethodName} {bytes : ByteArray} {maxL : Nat} {ret : Option FieldType} {hh : List (Nat × Nat × Nat × Nat)}
    (hown : s.vm.findClass own = some m.cls) (hlink : (Cond.methodLink own index y).before args s = true) (hstat : (Cond.static y).before args s = true) (hinit : (Cond.initialized y.cls).before args s = true)
    (hcode : (Cond.codeWith y bytes maxL ret hh).before args s = true) (hy : y.cls ≠ "java/lang/invoke/MethodHandle" ∧ y.cls ≠ "java/lang/invoke/VarHandle")
    {W9 : Nat} {Pre : Pt → Array Value → Prop} {Post : Pt → Array Value → Option Value → Pt → Prop} (hK : Back l R p e below s args y 3 W9 Pre Post)
    {g : JFrame} (hg : g.method = m) (hsize : g.locals.size = c.maxLocals) {argsL rest : List Value} (hlen : ∀ sig, parseMethodDescriptor y.desc = some sig → argsL.length = sig.parameters.length)
    (hstack : g.stack = argsL.reverse ++ rest) (hW : 2 * g.monitorRoom + (rest.map fun v => v.category).sum ≤ W9) (hdg : decode c.code g.pc = .ok (.invokestatic index, 3))
    (hpre : ∀ vm₁, s.WarmedH vm₁ → Pre ⟨T.setVm vm₁, locs, cells, slots⟩ argsL.toArray) :
    ∃ (v : Option Value) (vm₁ : Vm) (B : Pt), s.WarmedH vm₁ ∧ Stand p l e R s m args below meth c B.U B.locs B.cells B.slots ∧ Post ⟨T.setVm vm₁, locs, cells, slots⟩ argsL.toArray v B ∧
      ∀ target, Steps p.tables e below (B.U.setTop { g with pc := g.pc + 3, stack := v.toList ++ rest }) target → Steps p.tables e below (T.setTop g) target := by
  obtain ⟨mk, methM, cM, hnamed, hmethM, -, -, -, -, -, -, hsigM⟩ := Cond.codeWith_spec hcode
  have hstatic : methM.isStatic = true := Cond.static_spec hnamed hmethM hstat
  obtain ⟨kP, hkP, -⟩ := className_of_methodNamed hnamed
  have hinitP : kP.init = .initialized := Cond.initialized_spec (findClass_of_methodNamed hnamed) hkP hinit
  obtain ⟨vm₁, X₁, hstep₁⟩ := X.invokestatic hexec hown hlink hnamed hmethM hstatic hkP hinitP hy (g := g) hg (argsL := argsL) (rest := rest) (hlen _ hsigM) hstack hdg
  obtain ⟨v, B, X', hpost, hsteps⟩ := hK m meth c ⟨T.setVm vm₁, locs, cells, slots⟩ { g with stack := rest } (.invokestatic index) mk argsL.toArray X₁ hg hsize hdg hW (X₁.named hnamed) (hpre vm₁ X₁.warmed)
  exact ⟨v, vm₁, B, X₁.warmed, X', hpost, fun target h => hstep₁ _ fun acts => by rw [doInvoke_state]; exact hsteps.trans h⟩
theorem vx_runSW {y : MethodName} {bytes cc : ByteArray} {maxL nL mc ms n index : Nat} {ret : Option FieldType} {hh : List (Nat × Nat × Nat × Nat)} {ws : List Cond} {rm : Room} {Pc : Array Value → State → Prop} {Qc : Array Value → State → Outcome → State → Prop} {free : Addr → Prop} {Ts : List Cond} {own : String} {As rest : List Value} {g : JFrame}
    (S : CallFix p m c cc nL s args Ts own) (hM : Met l y ws rm Pc Qc mc ms free) (cw : vx_CSW R s args own index y bytes maxL ret hh ws rm mc ms n) (hp : PreS s H Pc As)
    (hg : g.method = m) (hn : As.length = n) (hsize : g.locals.size = nL) (hstack : g.stack = As.reverse ++ rest) (hW : 2 * g.monitorRoom + (rest.map fun v => v.category).sum ≤ 8) (hdg : decode cc g.pc = .ok (.invokestatic index, 3)) (hf : cells + mc ≤ R.cells ∧ slots + ms ≤ R.slots) :
    va_Run p l e R s m args below meth c H locs cells slots mc ms g rest (Qc As.toArray) (free) := by
  obtain ⟨⟨hrc, hrs, hfr, hlo, hws, hcw⟩, hcode, hini, hy, hlen, hl, hstt⟩ := cw
  have hK : Back l R p e below s args y 3 8 (PreOf R mc ms Pc) (PostOf Qc mc ms free) := va_backW (hh := hh) (bytes := bytes) (maxL := maxL) (ret := ret) hM hp.1 hrc hrs hfr hlo hws hcw (fun a' U hW => word_at hW (Or.inl (by first | rfl | simp [Cond.onTables, Cond.keeps, Cond.steady])) hini)
  obtain ⟨hx, hb, hml, ho, -⟩ := S
  intro T hT X
  obtain ⟨v, vm₁, ⟨U', l2, c2, s2⟩, hW₁, X', ⟨g', mk, t, L, e1, e2, hq, h1, hL, h2, h3⟩, st⟩ := vx_callSW X hx (hh := hh) (bytes := bytes) (maxL := maxL) (ret := ret) ho hl hstt hini hcode hy hK hg (hsize.trans hml.symm) (argsL := As) (rest := rest) (fun sig h => hn.trans (hlen sig h)) hstack hW (by rw [hb]; exact hdg)
    (fun vm₁ hW₁ => ⟨hf.1, hf.2, hp.2 (T.setVm vm₁) hT hW₁⟩)
  dsimp only [Pt.U, Pt.locs, Pt.cells, Pt.slots] at X' e1 e2 h1 h2 h3 st
  subst h1; subst h2; subst h3
  exact ⟨v, (T.setVm vm₁).calling g' mk As.toArray, t, U', L, hT, X', hL, e1, e2, hq, st⟩
/-- not caught here, past rows that name other classes: it goes on to the caller -/
theorem vx_outP {p : Program} {l : Launch} {e : Env} {R : Room} {s : State} {m : MethodId} {args : Array Value} {below : List Frame} {meth : Method} {c : Code} {H : Heap} {locs : List Loc} {cells slots : Nat} {free : Addr → Prop} {ls : Array Slot} {rest : List Value} {Qc : Array Value → State → Outcome → State → Prop} {XC : String → State → State → Prop}
    {pc : Nat} {own E : String} {ce : Cell} {q : Addr} {mc ms : Nat} (hown : s.vm.findClass own = some m.cls) (hlocks : meth.locks = false)
    (hpass : ∀ z ∈ c.exceptionTable.toList, covers z pc = false ∨ (z.catchType ≠ 0 ∧ ∃ nm : String, (Cond.classLink own z.catchType nm).before args s = true ∧ va_Nc E nm s)) (hcell : H[q]? = some ce) (hv : ce.vm = .none) (hcl : s.vm.findClass E = some ce.cls)
    (hx : ∀ t : State, t.heap = H → s.vm.Alike t.vm → XC E s t) (hf : ∀ z ∈ locs, free z.base) (hc : cells ≤ mc) (hs : slots ≤ ms) :
    vx_W p l e R s m args below meth c H locs cells slots (vx_MQ below Qc XC args s mc ms free) (F0 m pc ls rest) q := by
  intro T hT X
  have hpl : e.platform.magicAccessors = ({} : Platform).magicAccessors := by rw [X.admits.platform]
  obtain ⟨vm', hW', X', st⟩ := X.outThrough hlocks q (g := F0 m pc ls rest) rfl rfl rfl (cell := ce) (by rw [hT]; exact hcell) (by rw [hv]; rfl)
    (by obtain ⟨k9, h9, -⟩ := Vm.findClass_spec hcl; exact ⟨k9, h9⟩) (fun z hz => by
      rcases hpass z hz with h | ⟨hz0, nm, hl1, hn1⟩
      · exact Or.inl h
      · obtain ⟨c6, hc6, hcl6⟩ := Cond.classLink_spec hown hl1 e.platform hpl
        obtain ⟨a8, b8, h1, h2, h3⟩ := hn1
        cases Option.some.inj (h1.symm.trans hcl)
        cases Option.some.inj (h2.symm.trans hc6)
        exact Or.inr ⟨hz0, _, hcl6, h3⟩)
  obtain ⟨g₀, hfr⟩ := X'.frames_eq
  have hcell9 : ((T.setVm vm').setFrames (.throwing q :: below)).heap[q]? = some ce := by
    show T.heap[q]? = some ce
    rw [hT]; exact hcell
  have hend : Ended ((T.setVm vm').setFrames (.throwing q :: below)) below (.threw q) := State.frames_setFrames _ (State.cur_lt_of_frames hfr)
  refine ⟨(T.setVm vm').setFrames (.throwing q :: below), ?_, .threw q, X'.here.running, hend, Or.inr ⟨q, rfl, E, ce, locs, hx _ hT (X'.ends _).1.alike, hcell9, hv, hcl, (X'.ends _).1, (X'.ends _).2.mono hc hs, hf⟩⟩
  rw [X.pushThrowing_eq]
  exact st
/-- a thing of a world lies in the heap -/
theorem vx_lt {D : va_G} {cl : List vw_C} {ws : va_W} {H1 : Heap} (h : va_P D cl ws H1) {k : Nat} {q : Nat × va_E} (hk : ws[k]? = some q) : q.1 < H1.size := (h k q hk).lt
end VXS
/-! ===== END ===== -/
/-! ===== BEGIN methods with a table of their own: called by a name, returning or throwing ===== -/
section VXH
/-! vx_backW, vx_callVX, vx_callSX, vx_callVW, vx_runVW, vx_runVX, vx_runSX, vx_ofWH follow the same proofs as their sisters above (Free/Laws.lean, Shelf42/LK1.lean); vx_outP calls Shelf42/NT130.lean (outThrough). -/
section
variable {l : Launch} {R : Room} {p : Program} {e : Env} {below : List Frame} {s : State} {sargs : Array Value} {y : MethodName} {len W9 : Nat}
theorem vx_backW {ws : List Cond} {rm : Room} {Pc : Array Value → State → Prop} {Qc : Array Value → State → Outcome → State → Prop} {XC : String → State → State → Prop} {mc ms : Nat} {free : Addr → Prop} {bytes : ByteArray} {maxL : Nat} {ret : Option FieldType} {hh : List (Nat × Nat × Nat × Nat)}
    (hM : vx_Met l y ws rm Pc Qc XC mc ms free) (hblind : FrameBlind Pc) (hrc : rm.cells = mc) (hrs : rm.slots = ms)
    (hframes : rm.frames + 1 ≤ R.frames) (hlocals : W9 + (maxL + 11) + rm.locals ≤ R.locals)
    (hws : ∀ w ∈ ws, ∀ a' U, s.WarmedH U.vm → w.before a' U = true) (hcode : Cond.codeWith y bytes maxL ret hh ∈ ws) (hinit : ∀ a' U, s.WarmedH U.vm → (Cond.initialized y.cls).before a' U = true) :
    vx_Back l R p e below s sargs y len W9 (PreOf R mc ms Pc) (PostOf Qc mc ms free) (vx_Post XC mc ms free) := by
  intro m meth c A g ig mk a X hg hsize hdg hW hn hp
  have h1 : (headSpec ws rm).pre.before a A.U = true := atoms_intro fun w hw => hws w hw _ _ X.warmed
  have h2 : (Cond.codeWith y bytes maxL ret hh).before a A.U = true := hws _ hcode _ _ X.warmed
  have h3 : (Cond.initialized y.cls).before a A.U = true := hinit _ _ X.warmed
  have h4 : A.cells + (headSpec ws rm).room.cells ≤ R.cells := by rw [show (headSpec ws rm).room.cells = mc from hrc]; exact hp.1
  have h5 : A.slots + (headSpec ws rm).room.slots ≤ R.slots := by rw [show (headSpec ws rm).room.slots = ms from hrs]; exact hp.2.1
  have hPc : Pc a (A.U.calling g mk a) := hblind _ _ _ _ hp.2.2
  obtain ⟨U, Ls, c0, s0⟩ := A
  dsimp only [Pt.U, Pt.locs, Pt.cells, Pt.slots] at h1 h2 h3 h4 h5 X hn hPc ⊢
  obtain ⟨m9, methY, cY, hn9, hmY, hcY, -, hlY, -⟩ := Cond.codeWith_spec h2
  cases Option.some.inj (hn9.symm.trans hn)
  obtain ⟨kY, hkY, -⟩ := className_of_methodNamed hn
  have hinitY : kY.init = .initialized := Cond.initialized_spec (findClass_of_methodNamed hn) hkY h3
  have h : At U g.method c below := by rw [hg]; exact X.here
  have hlocals9 : W9 + (maxL + 11) + (headSpec ws rm).room.locals ≤ R.locals := hlocals
  have happ : (headSpec ws rm).appliesLoose y e.platform (U.calling g mk a) = true :=
    Spec.appliesLoose_calling (g := g) h hdg hn hkY hinitY
      (X.room_calling (g := g) (R' := (headSpec ws rm).room) hsize hmY hcY hframes (by rw [hlY]; omega) h4 h5) h1
  obtain ⟨mid, hmid⟩ := h.above
  have hfr : (U.setTop g).frames = (.java g :: mid) ++ below := by rw [State.frames_setTop' g h.top, hmid]; rfl
  obtain ⟨o, s₂, hsteps, -, hend, hq⟩ := Steps.callFree hM p X.admits X.cas X.clock (acts := []) hfr happ hPc trivial
  have hq' : vx_Q Qc XC mc ms free a (U.calling g mk a) o s₂ := hq
  rw [State.frames_setTop' g h.top] at hend
  obtain ⟨g₀, hg0⟩ := Option.isSome_iff_exists.mp h.top
  obtain ⟨r, hr⟩ := State.topJava?_eq_some.mp hg0
  have hr' : (({ U with heap := s₂.heap, slotsUsed := s₂.slotsUsed } : State).setVm s₂.vm).frames = .java g₀ :: r := hr
  rcases hq' with ⟨hqc, L, hfe, hL⟩ | ⟨q, rfl, E, ce, L, hx, hce, hcv, hcl, hW₂, hsm, hL⟩
  · obtain ⟨⟨v, rfl⟩, hW₂, e2, q2, q3, q4, q5, q6⟩ := id hfe
    have e3 : s₂ = ({ (U.calling g mk a).setFrames s₂.frames with heap := s₂.heap, slotsUsed := s₂.slotsUsed } : State).setVm s₂.vm := by
      have : s₂ = ({ s₂ with vm := (U.calling g mk a).vm } : State).setVm s₂.vm := rfl
      rw [e2] at this
      exact this
    obtain ⟨c₂, i₂, len₂, hc₂, hd₂, hf₂⟩ := hend
    have hW' : U.WarmedH s₂.vm := hW₂
    have hcc : c₂ = c := by
      have h1 : s₂.code? g.method = U.code? g.method := by
        rw [State.code?_eq, State.code?_eq, hW'.alike.method?]
      exact Option.some.inj (hc₂.symm.trans (h1.trans h.code))
    subst hcc
    have hlen : len₂ = len := by rw [hdg] at hd₂; cases hd₂; rfl
    subst hlen
    have hs₂ : s₂ = (({ U with heap := s₂.heap, slotsUsed := s₂.slotsUsed } : State).setVm s₂.vm).setTop { g with pc := g.pc + len₂, stack := v.toList ++ g.stack } := by
      refine e3.trans ?_
      rw [hf₂, State.calling_eq h.top, State.setFrames_setFrames, State.setTop_of_frames _ hr', hr]
      rfl
    have hsame : U.sameButNew ({ U with heap := s₂.heap, slotsUsed := s₂.slotsUsed } : State) L mc ms := by
      refine ⟨?_, q2, q3, q4, q5, q6⟩
      obtain ⟨t, ht, -⟩ := State.frames_cons hr
      show ({ U with heap := s₂.heap, slotsUsed := s₂.slotsUsed } : State) = { U.setFrames U.frames with heap := s₂.heap, slotsUsed := s₂.slotsUsed }
      rw [State.setFrames_self ht]
    subst hg
    refine Or.inl ⟨v, ⟨(({ U with heap := s₂.heap, slotsUsed := s₂.slotsUsed } : State).setVm s₂.vm), Ls ++ L, c0 + mc, s0 + ms⟩,
      ⟨X.admits, X.cas, X.clock, X.frames, X.room, X.hears, X.method, X.code, (X.here.setHeapUsed s₂.heap s₂.slotsUsed).setVm hW'.alike, X.tail, State.WarmedH.trans X.warmed hW', X.limits, X.bytes, X.same.trans (hsame.setVm s.vm)⟩,
      ⟨g, mk, s₂, L, rfl, rfl, hqc, rfl, hL, rfl, rfl⟩, ?_⟩
    show Steps p.tables e below _ ((({ U with heap := s₂.heap, slotsUsed := s₂.slotsUsed } : State).setVm s₂.vm).setTop { g with pc := g.pc + len₂, stack := v.toList ++ g.stack })
    rw [← hs₂]
    exact hsteps
  · obtain ⟨e2, q2, q3, q4, q5, q6⟩ := id hsm
    have e3 : s₂ = ({ (U.calling g mk a).setFrames s₂.frames with heap := s₂.heap, slotsUsed := s₂.slotsUsed } : State).setVm s₂.vm := by
      have : s₂ = ({ s₂ with vm := (U.calling g mk a).vm } : State).setVm s₂.vm := rfl
      rw [e2] at this
      exact this
    have hf₂ : s₂.frames = .throwing q :: .java g :: U.frames.tail := hend
    have hW' : U.WarmedH s₂.vm := hW₂
    have hs₂ : s₂ = ((({ U with heap := s₂.heap, slotsUsed := s₂.slotsUsed } : State).setVm s₂.vm).setTop g).pushFrame (.throwing q) := by
      refine e3.trans ?_
      rw [hf₂, State.calling_eq h.top, State.setFrames_setFrames, State.pushFrame, State.frames_setTop _ hr', State.setTop_of_frames _ hr', State.setFrames_setFrames, hr]
      rfl
    have hsame : U.sameButNew ({ U with heap := s₂.heap, slotsUsed := s₂.slotsUsed } : State) L mc ms := by
      refine ⟨?_, q2, q3, q4, q5, q6⟩
      obtain ⟨t, ht, -⟩ := State.frames_cons hr
      show ({ U with heap := s₂.heap, slotsUsed := s₂.slotsUsed } : State) = { U.setFrames U.frames with heap := s₂.heap, slotsUsed := s₂.slotsUsed }
      rw [State.setFrames_self ht]
    subst hg
    refine Or.inr ⟨q, ⟨(({ U with heap := s₂.heap, slotsUsed := s₂.slotsUsed } : State).setVm s₂.vm), Ls ++ L, c0 + mc, s0 + ms⟩,
      ⟨X.admits, X.cas, X.clock, X.frames, X.room, X.hears, X.method, X.code, (X.here.setHeapUsed s₂.heap s₂.slotsUsed).setVm hW'.alike, X.tail, State.WarmedH.trans X.warmed hW', X.limits, X.bytes, X.same.trans (hsame.setVm s.vm)⟩,
      ⟨g, mk, s₂, L, E, ce, rfl, rfl, hx, hce, hcv, hcl, rfl, hL, rfl, rfl⟩, ?_⟩
    show Steps p.tables e below _ (((({ U with heap := s₂.heap, slotsUsed := s₂.slotsUsed } : State).setVm s₂.vm).setTop g).pushFrame (.throwing q))
    rw [← hs₂]
    exact hsteps
end
variable {p : Program} {l : Launch} {e : Env} {R : Room} {s : State} {m : MethodId} {args : Array Value} {below : List Frame} {meth : Method} {c : Code} {T : State} {H : Heap} {locs : List Loc} {cells slots : Nat}
theorem vx_callVX (X : Stand p l e R s m args below meth c T locs cells slots) (hexec : p.tables.exec = Jvm.exec) {own C : String} {index : Nat} {y : MethodName} {bytes : ByteArray} {maxL : Nat} {ret : Option FieldType} {hh : List (Nat × Nat × Nat × Nat)}
    (hown : s.vm.findClass own = some m.cls) (hlink : (Cond.methodLink own index y).before args s = true) (hinst : (Cond.instanceMethod y).before args s = true) (hsel : (Cond.selects C y y).before args s = true)
    (hcode : (Cond.codeWith y bytes maxL ret hh).before args s = true) (hy : y.cls ≠ "java/lang/invoke/MethodHandle" ∧ y.cls ≠ "java/lang/invoke/VarHandle")
    {W9 : Nat} {Pre : Pt → Array Value → Prop} {Post : Pt → Array Value → Option Value → Pt → Prop} {PostX : Pt → Array Value → Addr → Pt → Prop} (hK : vx_Back l R p e below s args y 3 W9 Pre Post PostX)
    {b : Addr} {cellB : Cell} (hcell : T.heap[b]? = some cellB) (hobj : cellB.vm.isStatics = false) (hcls : s.vm.findClass C = some cellB.cls)
    {g : JFrame} (hg : g.method = m) (hsize : g.locals.size = c.maxLocals) {argsL rest : List Value} (hlen : ∀ sig, parseMethodDescriptor y.desc = some sig → argsL.length = sig.parameters.length)
    (hstack : g.stack = argsL.reverse ++ .ref b :: rest) (hW : 2 * g.monitorRoom + (rest.map fun v => v.category).sum ≤ W9) (hdg : decode c.code g.pc = .ok (.invokevirtual index, 3))
    (hpre : ∀ vm₁, s.WarmedH vm₁ → Pre ⟨T.setVm vm₁, locs, cells, slots⟩ (Value.ref b :: argsL).toArray) :
    (∃ (v : Option Value) (vm₁ : Vm) (B : Pt), s.WarmedH vm₁ ∧ Stand p l e R s m args below meth c B.U B.locs B.cells B.slots ∧ Post ⟨T.setVm vm₁, locs, cells, slots⟩ (Value.ref b :: argsL).toArray v B ∧
      ∀ target, Steps p.tables e below (B.U.setTop { g with pc := g.pc + 3, stack := v.toList ++ rest }) target → Steps p.tables e below (T.setTop g) target) ∨
    (∃ (q : Addr) (vm₁ : Vm) (B : Pt), s.WarmedH vm₁ ∧ Stand p l e R s m args below meth c B.U B.locs B.cells B.slots ∧ PostX ⟨T.setVm vm₁, locs, cells, slots⟩ (Value.ref b :: argsL).toArray q B ∧
      Steps p.tables e below (T.setTop g) ((B.U.setTop { g with stack := rest }).pushFrame (.throwing q))) := by
  obtain ⟨mk, methM, hnamed, hmethM, hstM, habM⟩ := Cond.instanceMethod_spec hinst
  obtain ⟨m8, methM', cM, hn8, hmethM', -, -, -, -, -, -, hsigM⟩ := Cond.codeWith_spec hcode
  cases Option.some.inj (hn8.symm.trans hnamed)
  cases hmethM.symm.trans hmethM'
  obtain ⟨c2, r2, m2, q1, q2, q3, q4, kP, hkP, hkPi⟩ := Cond.selects_spec hsel
  cases hcls.symm.trans q1
  cases (State.methodFound?_of_named hnamed hy).symm.trans q2
  cases hnamed.symm.trans q3
  have hselP : selectMethod e.platform s.vm cellB.cls mk = .method mk := by rw [Launch.admits_selectMethod X.admits]; exact q4
  obtain ⟨vm₁, X₁, hstep₁⟩ := X.invokevirtual hexec hown hlink hnamed hmethM hstM hkP hkPi hy (a := b) (cell := cellB) hcell
    (fun z h => by rw [h] at hobj; cases hobj) hselP hmethM habM hkP hkPi (g := g) hg (argsL := argsL) (rest := rest) (hlen _ hsigM) hstack hdg
  rcases hK m meth c ⟨T.setVm vm₁, locs, cells, slots⟩ { g with stack := rest } (.invokevirtual index) mk (Value.ref b :: argsL).toArray X₁ hg hsize hdg hW (X₁.named hnamed) (hpre vm₁ X₁.warmed) with ⟨v, B, X', hpost, hsteps⟩ | ⟨q, B, X', hpost, hsteps⟩
  · exact Or.inl ⟨v, vm₁, B, X₁.warmed, X', hpost, fun target h => hstep₁ _ fun acts => by rw [doInvoke_state]; exact hsteps.trans h⟩
  · exact Or.inr ⟨q, vm₁, B, X₁.warmed, X', hpost, hstep₁ _ fun acts => by rw [doInvoke_state]; exact hsteps⟩
theorem vx_callSX (X : Stand p l e R s m args below meth c T locs cells slots) (hexec : p.tables.exec = Jvm.exec) {own : String} {index : Nat} {y : MethodName} {bytes : ByteArray} {maxL : Nat} {ret : Option FieldType} {hh : List (Nat × Nat × Nat × Nat)}
    (hown : s.vm.findClass own = some m.cls) (hlink : (Cond.methodLink own index y).before args s = true) (hstat : (Cond.static y).before args s = true) (hinit : (Cond.initialized y.cls).before args s = true)
    (hcode : (Cond.codeWith y bytes maxL ret hh).before args s = true) (hy : y.cls ≠ "java/lang/invoke/MethodHandle" ∧ y.cls ≠ "java/lang/invoke/VarHandle")
    {W9 : Nat} {Pre : Pt → Array Value → Prop} {Post : Pt → Array Value → Option Value → Pt → Prop} {PostX : Pt → Array Value → Addr → Pt → Prop} (hK : vx_Back l R p e below s args y 3 W9 Pre Post PostX)
    {g : JFrame} (hg : g.method = m) (hsize : g.locals.size = c.maxLocals) {argsL rest : List Value} (hlen : ∀ sig, parseMethodDescriptor y.desc = some sig → argsL.length = sig.parameters.length)
    (hstack : g.stack = argsL.reverse ++ rest) (hW : 2 * g.monitorRoom + (rest.map fun v => v.category).sum ≤ W9) (hdg : decode c.code g.pc = .ok (.invokestatic index, 3))
    (hpre : ∀ vm₁, s.WarmedH vm₁ → Pre ⟨T.setVm vm₁, locs, cells, slots⟩ argsL.toArray) :
    (∃ (v : Option Value) (vm₁ : Vm) (B : Pt), s.WarmedH vm₁ ∧ Stand p l e R s m args below meth c B.U B.locs B.cells B.slots ∧ Post ⟨T.setVm vm₁, locs, cells, slots⟩ argsL.toArray v B ∧
      ∀ target, Steps p.tables e below (B.U.setTop { g with pc := g.pc + 3, stack := v.toList ++ rest }) target → Steps p.tables e below (T.setTop g) target) ∨
    (∃ (q : Addr) (vm₁ : Vm) (B : Pt), s.WarmedH vm₁ ∧ Stand p l e R s m args below meth c B.U B.locs B.cells B.slots ∧ PostX ⟨T.setVm vm₁, locs, cells, slots⟩ argsL.toArray q B ∧
      Steps p.tables e below (T.setTop g) ((B.U.setTop { g with stack := rest }).pushFrame (.throwing q))) := by
  obtain ⟨mk, methM, cM, hnamed, hmethM, -, -, -, -, -, -, hsigM⟩ := Cond.codeWith_spec hcode
  have hstatic : methM.isStatic = true := Cond.static_spec hnamed hmethM hstat
  obtain ⟨kP, hkP, -⟩ := className_of_methodNamed hnamed
  have hinitP : kP.init = .initialized := Cond.initialized_spec (findClass_of_methodNamed hnamed) hkP hinit
  obtain ⟨vm₁, X₁, hstep₁⟩ := X.invokestatic hexec hown hlink hnamed hmethM hstatic hkP hinitP hy (g := g) hg (argsL := argsL) (rest := rest) (hlen _ hsigM) hstack hdg
  rcases hK m meth c ⟨T.setVm vm₁, locs, cells, slots⟩ { g with stack := rest } (.invokestatic index) mk argsL.toArray X₁ hg hsize hdg hW (X₁.named hnamed) (hpre vm₁ X₁.warmed) with ⟨v, B, X', hpost, hsteps⟩ | ⟨q, B, X', hpost, hsteps⟩
  · exact Or.inl ⟨v, vm₁, B, X₁.warmed, X', hpost, fun target h => hstep₁ _ fun acts => by rw [doInvoke_state]; exact hsteps.trans h⟩
  · exact Or.inr ⟨q, vm₁, B, X₁.warmed, X', hpost, hstep₁ _ fun acts => by rw [doInvoke_state]; exact hsteps⟩
theorem vx_callVW (X : Stand p l e R s m args below meth c T locs cells slots) (hexec : p.tables.exec = Jvm.exec) {own C : String} {index : Nat} {y : MethodName} {bytes : ByteArray} {maxL : Nat} {ret : Option FieldType} {hh : List (Nat × Nat × Nat × Nat)}
    (hown : s.vm.findClass own = some m.cls) (hlink : (Cond.methodLink own index y).before args s = true) (hinst : (Cond.instanceMethod y).before args s = true) (hsel : (Cond.selects C y y).before args s = true)
    (hcode : (Cond.codeWith y bytes maxL ret hh).before args s = true) (hy : y.cls ≠ "java/lang/invoke/MethodHandle" ∧ y.cls ≠ "java/lang/invoke/VarHandle")
    {W9 : Nat} {Pre : Pt → Array Value → Prop} {Post : Pt → Array Value → Option Value → Pt → Prop} (hK : Back l R p e below s args y 3 W9 Pre Post)
    {b : Addr} {cellB : Cell} (hcell : T.heap[b]? = some cellB) (hobj : cellB.vm.isStatics = false) (hcls : s.vm.findClass C = some cellB.cls)
    {g : JFrame} (hg : g.method = m) (hsize : g.locals.size = c.maxLocals) {argsL rest : List Value} (hlen : ∀ sig, parseMethodDescriptor y.desc = some sig → argsL.length = sig.parameters.length)
    (hstack : g.stack = argsL.reverse ++ .ref b :: rest) (hW : 2 * g.monitorRoom + (rest.map fun v => v.category).sum ≤ W9) (hdg : decode c.code g.pc = .ok (.invokevirtual index, 3))
    (hpre : ∀ vm₁, s.WarmedH vm₁ → Pre ⟨T.setVm vm₁, locs, cells, slots⟩ (Value.ref b :: argsL).toArray) :
    ∃ (v : Option Value) (vm₁ : Vm) (B : Pt), s.WarmedH vm₁ ∧ Stand p l e R s m args below meth c B.U B.locs B.cells B.slots ∧ Post ⟨T.setVm vm₁, locs, cells, slots⟩ (Value.ref b :: argsL).toArray v B ∧
      ∀ target, Steps p.tables e below (B.U.setTop { g with pc := g.pc + 3, stack := v.toList ++ rest }) target → Steps p.tables e below (T.setTop g) target := by
  obtain ⟨mk, methM, hnamed, hmethM, hstM, habM⟩ := Cond.instanceMethod_spec hinst
  obtain ⟨m8, methM', cM, hn8, hmethM', -, -, -, -, -, -, hsigM⟩ := Cond.codeWith_spec hcode
  cases Option.some.inj (hn8.symm.trans hnamed)
  cases hmethM.symm.trans hmethM'
  obtain ⟨c2, r2, m2, q1, q2, q3, q4, kP, hkP, hkPi⟩ := Cond.selects_spec hsel
  cases hcls.symm.trans q1
  cases (State.methodFound?_of_named hnamed hy).symm.trans q2
  cases hnamed.symm.trans q3
  have hselP : selectMethod e.platform s.vm cellB.cls mk = .method mk := by rw [Launch.admits_selectMethod X.admits]; exact q4
  obtain ⟨vm₁, X₁, hstep₁⟩ := X.invokevirtual hexec hown hlink hnamed hmethM hstM hkP hkPi hy (a := b) (cell := cellB) hcell
    (fun z h => by rw [h] at hobj; cases hobj) hselP hmethM habM hkP hkPi (g := g) hg (argsL := argsL) (rest := rest) (hlen _ hsigM) hstack hdg
  obtain ⟨v, B, X', hpost, hsteps⟩ := hK m meth c ⟨T.setVm vm₁, locs, cells, slots⟩ { g with stack := rest } (.invokevirtual index) mk (Value.ref b :: argsL).toArray X₁ hg hsize hdg hW (X₁.named hnamed) (hpre vm₁ X₁.warmed)
  exact ⟨v, vm₁, B, X₁.warmed, X', hpost, fun target h => hstep₁ _ fun acts => by rw [doInvoke_state]; exact hsteps.trans h⟩
abbrev vx_CVW (R : Room) (s : State) (args : Array Value) (own C : String) (index : Nat) (y : MethodName) (bytes : ByteArray) (maxL : Nat) (ret : Option FieldType) (hh : List (Nat × Nat × Nat × Nat)) (ws : List Cond) (rm : Room) (mc ms n : Nat) : Prop :=
  (rm.cells = mc ∧ rm.slots = ms ∧ rm.frames + 1 ≤ R.frames ∧ 8 + (maxL + 11) + rm.locals ≤ R.locals ∧ (∀ w ∈ ws, ∀ (a' : Array Value) (U : State), s.WarmedH U.vm → w.before a' U = true) ∧ Cond.codeWith y bytes maxL ret hh ∈ ws) ∧
  (Cond.codeWith y bytes maxL ret hh).before args s = true ∧ (Cond.initialized y.cls).before args s = true ∧ (y.cls ≠ "java/lang/invoke/MethodHandle" ∧ y.cls ≠ "java/lang/invoke/VarHandle") ∧
  (∀ sig, parseMethodDescriptor y.desc = some sig → n = sig.parameters.length) ∧ (Cond.methodLink own index y).before args s = true ∧ (Cond.instanceMethod y).before args s = true ∧ (Cond.selects C y y).before args s = true
theorem vx_cwVW {own C : String} {index maxL mc ms : Nat} {y : MethodName} {bytes : ByteArray} {ret : Option FieldType} {hh : List (Nat × Nat × Nat × Nat)} {Ts ws ws' : List Cond} {rm : Room} (n : Nat) (ht : ∀ w ∈ Ts, w.before args s = true) (hT : GoodIn Ts (wsV own index C y ws)) (hw : ws = Cond.codeWith y bytes maxL ret hh :: ws') (hrc : rm.cells = mc) (hrs : rm.slots = ms)
    (hd : y.cls = C ∧ y.cls ≠ "java/lang/invoke/MethodHandle" ∧ y.cls ≠ "java/lang/invoke/VarHandle" ∧ (parseMethodDescriptor y.desc).map (fun d => d.parameters.length) = some n) (hR : rm.frames + 1 ≤ R.frames ∧ 8 + (maxL + 11) + rm.locals ≤ R.locals) :
    vx_CVW R s args own C index y bytes maxL ret hh ws rm mc ms n := by
  obtain ⟨hC, hd⟩ := hd
  subst hC
  have ok : ∀ w ∈ wsV own index y.cls y ws, w.before args s = true := fun w h => ht w (hT w h).1
  have hG : GoodIn Ts ws := fun w h => hT w (by unfold wsV; exact List.mem_append_right _ h)
  have hc : Cond.codeWith y bytes maxL ret hh ∈ ws := by rw [hw]; exact List.mem_cons_self
  refine ⟨⟨hrc, hrs, hR.1, hR.2, pay_in ht hG, hc⟩, ht _ (hG _ hc).1, ok _ (by simp [wsV]), ⟨hd.1, hd.2.1⟩, fun sig h => ?_, ok _ (by simp [wsV]), ok _ (by simp [wsV]), ok _ (by simp [wsV])⟩
  have h2 := hd.2.2
  rw [h] at h2
  exact (Option.some.inj h2).symm
theorem vx_runVW {y : MethodName} {bytes cc : ByteArray} {maxL nL mc ms n index : Nat} {ret : Option FieldType} {hh : List (Nat × Nat × Nat × Nat)} {ws : List Cond} {rm : Room} {Pc : Array Value → State → Prop} {Qc : Array Value → State → Outcome → State → Prop} {free : Addr → Prop} {Ts : List Cond} {own C : String} {b : Addr} {As rest : List Value} {g : JFrame}
    (S : CallFix p m c cc nL s args Ts own) (hM : Met l y ws rm Pc Qc mc ms free) (cw : vx_CVW R s args own C index y bytes maxL ret hh ws rm mc ms n) (hp : PreV s H C b Pc As)
    (hg : g.method = m) (hn : As.length = n) (hsize : g.locals.size = nL) (hstack : g.stack = As.reverse ++ .ref b :: rest) (hW : 2 * g.monitorRoom + (rest.map fun v => v.category).sum ≤ 8) (hdg : decode cc g.pc = .ok (.invokevirtual index, 3)) (hf : cells + mc ≤ R.cells ∧ slots + ms ≤ R.slots) :
    va_Run p l e R s m args below meth c H locs cells slots mc ms g rest (Qc (Value.ref b :: As).toArray) free := by
  obtain ⟨⟨hrc, hrs, hfr, hlo, hws, hcw⟩, hcode, hini, hy, hlen, hl, hin, hse⟩ := cw
  have hK : Back l R p e below s args y 3 8 (PreOf R mc ms Pc) (PostOf Qc mc ms free) := va_backW (hh := hh) (bytes := bytes) (maxL := maxL) (ret := ret) hM hp.1 hrc hrs hfr hlo hws hcw (fun a' U hW => word_at hW (Or.inl (by first | rfl | simp [Cond.onTables, Cond.keeps, Cond.steady])) hini)
  obtain ⟨hx, hb, hml, ho, -⟩ := S
  obtain ⟨-, ⟨cellB, hcB, hoB, hclB⟩, hPc⟩ := hp
  intro T hT X
  obtain ⟨v, vm₁, ⟨U', l2, c2, s2⟩, hW₁, X', ⟨g', mk, t, L, e1, e2, hq, h1, hL, h2, h3⟩, st⟩ := vx_callVW X hx (C := C) (hh := hh) (bytes := bytes) (maxL := maxL) (ret := ret) ho hl hin hse hcode hy hK (by rw [hT]; exact hcB) hoB hclB hg (hsize.trans hml.symm) (argsL := As) (rest := rest) (fun sig h => hn.trans (hlen sig h)) hstack hW (by rw [hb]; exact hdg)
    (fun vm₁ hW₁ => ⟨hf.1, hf.2, hPc (T.setVm vm₁) hT hW₁⟩)
  dsimp only [Pt.U, Pt.locs, Pt.cells, Pt.slots] at X' e1 e2 h1 h2 h3 st
  subst h1; subst h2; subst h3
  exact ⟨v, (T.setVm vm₁).calling g' mk (Value.ref b :: As).toArray, t, U', L, hT, X', hL, e1, e2, hq, st⟩
section
variable {y : MethodName} {bytes cc : ByteArray} {maxL nL mc ms n index : Nat} {ret : Option FieldType} {ws : List Cond} {rm : Room} {Pc : Array Value → State → Prop} {Qc : Array Value → State → Outcome → State → Prop} {XC : String → State → State → Prop} {free : Addr → Prop} {Ts : List Cond} {own C : String} {b : Addr} {As rest : List Value} {g : JFrame}
theorem vx_runVX {hh : List (Nat × Nat × Nat × Nat)} (S : CallFix p m c cc nL s args Ts own) (hM : vx_Met l y ws rm Pc Qc XC mc ms free) (cw : vx_CVW R s args own C index y bytes maxL ret hh ws rm mc ms n) (hp : PreV s H C b Pc As)
    (hg : g.method = m) (hn : As.length = n) (hsize : g.locals.size = nL) (hstack : g.stack = As.reverse ++ .ref b :: rest) (hW : 2 * g.monitorRoom + (rest.map fun v => v.category).sum ≤ 8) (hdg : decode cc g.pc = .ok (.invokevirtual index, 3)) (hf : cells + mc ≤ R.cells ∧ slots + ms ≤ R.slots) :
    vx_Run p l e R s m args below meth c H locs cells slots mc ms g rest (Qc (Value.ref b :: As).toArray) XC free := by
  obtain ⟨⟨hrc, hrs, hfr, hlo, hws, hcw⟩, hcode, hini, hy, hlen, hl, hin, hse⟩ := cw
  have hK : vx_Back l R p e below s args y 3 8 (PreOf R mc ms Pc) (PostOf Qc mc ms free) (vx_Post XC mc ms free) := vx_backW (hh := hh) (bytes := bytes) (maxL := maxL) (ret := ret) hM hp.1 hrc hrs hfr hlo hws hcw (fun a' U hW => word_at hW (Or.inl (by first | rfl | simp [Cond.onTables, Cond.keeps, Cond.steady])) hini)
  obtain ⟨hx, hb, hml, ho, -⟩ := S
  obtain ⟨-, ⟨cellB, hcB, hoB, hclB⟩, hPc⟩ := hp
  intro T hT X
  rcases vx_callVX X hx (C := C) (hh := hh) (bytes := bytes) (maxL := maxL) (ret := ret) ho hl hin hse hcode hy hK (by rw [hT]; exact hcB) hoB hclB hg (hsize.trans hml.symm) (argsL := As) (rest := rest) (fun sig h => hn.trans (hlen sig h)) hstack hW (by rw [hb]; exact hdg)
    (fun vm₁ hW₁ => ⟨hf.1, hf.2, hPc (T.setVm vm₁) hT hW₁⟩) with ⟨v, vm₁, ⟨U', l2, c2, s2⟩, hW₁, X', ⟨g', mk, t, L, e1, e2, hq, h1, hL, h2, h3⟩, st⟩ | ⟨q, vm₁, ⟨U', l2, c2, s2⟩, hW₁, X', ⟨g', mk, t, L, E, ce, e1, e2, hq, hce, hcv, hcl, h1, hL, h2, h3⟩, st⟩
  · dsimp only [Pt.U, Pt.locs, Pt.cells, Pt.slots] at X' e1 e2 h1 h2 h3 st
    subst h1; subst h2; subst h3
    exact Or.inl ⟨v, (T.setVm vm₁).calling g' mk (Value.ref b :: As).toArray, t, U', L, hT, X', hL, e1, e2, hq, st⟩
  · dsimp only [Pt.U, Pt.locs, Pt.cells, Pt.slots] at X' e1 e2 h1 h2 h3 st hcl
    subst h1; subst h2; subst h3
    exact Or.inr ⟨q, (T.setVm vm₁).calling g' mk (Value.ref b :: As).toArray, t, U', L, E, ce, hT, X', hL, e1, e2, hq, hce, hcv, vx_cls hW₁ hcl, st⟩
theorem vx_runSX {hh : List (Nat × Nat × Nat × Nat)} (S : CallFix p m c cc nL s args Ts own) (hM : vx_Met l y ws rm Pc Qc XC mc ms free) (cw : vx_CSW R s args own index y bytes maxL ret hh ws rm mc ms n) (hp : PreS s H Pc As)
    (hg : g.method = m) (hn : As.length = n) (hsize : g.locals.size = nL) (hstack : g.stack = As.reverse ++ rest) (hW : 2 * g.monitorRoom + (rest.map fun v => v.category).sum ≤ 8) (hdg : decode cc g.pc = .ok (.invokestatic index, 3)) (hf : cells + mc ≤ R.cells ∧ slots + ms ≤ R.slots) :
    vx_Run p l e R s m args below meth c H locs cells slots mc ms g rest (Qc As.toArray) XC free := by
  obtain ⟨⟨hrc, hrs, hfr, hlo, hws, hcw⟩, hcode, hini, hy, hlen, hl, hstt⟩ := cw
  have hK : vx_Back l R p e below s args y 3 8 (PreOf R mc ms Pc) (PostOf Qc mc ms free) (vx_Post XC mc ms free) := vx_backW (hh := hh) (bytes := bytes) (maxL := maxL) (ret := ret) hM hp.1 hrc hrs hfr hlo hws hcw (fun a' U hW => word_at hW (Or.inl (by first | rfl | simp [Cond.onTables, Cond.keeps, Cond.steady])) hini)
  obtain ⟨hx, hb, hml, ho, -⟩ := S
  intro T hT X
  rcases vx_callSX X hx (hh := hh) (bytes := bytes) (maxL := maxL) (ret := ret) ho hl hstt hini hcode hy hK hg (hsize.trans hml.symm) (argsL := As) (rest := rest) (fun sig h => hn.trans (hlen sig h)) hstack hW (by rw [hb]; exact hdg)
    (fun vm₁ hW₁ => ⟨hf.1, hf.2, hp.2 (T.setVm vm₁) hT hW₁⟩) with ⟨v, vm₁, ⟨U', l2, c2, s2⟩, hW₁, X', ⟨g', mk, t, L, e1, e2, hq, h1, hL, h2, h3⟩, st⟩ | ⟨q, vm₁, ⟨U', l2, c2, s2⟩, hW₁, X', ⟨g', mk, t, L, E, ce, e1, e2, hq, hce, hcv, hcl, h1, hL, h2, h3⟩, st⟩
  · dsimp only [Pt.U, Pt.locs, Pt.cells, Pt.slots] at X' e1 e2 h1 h2 h3 st
    subst h1; subst h2; subst h3
    exact Or.inl ⟨v, (T.setVm vm₁).calling g' mk As.toArray, t, U', L, hT, X', hL, e1, e2, hq, st⟩
  · dsimp only [Pt.U, Pt.locs, Pt.cells, Pt.slots] at X' e1 e2 h1 h2 h3 st hcl
    subst h1; subst h2; subst h3
    exact Or.inr ⟨q, (T.setVm vm₁).calling g' mk As.toArray, t, U', L, E, ce, hT, X', hL, e1, e2, hq, hce, hcv, vx_cls hW₁ hcl, st⟩
end
end VXH
theorem vx_ofWH {l : Launch} {y : MethodName} {ws ws' : List Cond} {rm : Room} {Pc : Array Value → State → Prop} {Qc : Array Value → State → Outcome → State → Prop} {XC : String → State → State → Prop} {mc ms : Nat} {free : Addr → Prop} {cc : ByteArray} {maxL : Nat} {ret : Option FieldType} {hh : List (Nat × Nat × Nat × Nat)}
    (hy : plainName y.cls = true) (hw : ws = Cond.codeWith y cc maxL ret hh :: ws')
    (body : ∀ p e s m args below meth c s₁, BodyLoose p l y (headSpec ws rm) cc maxL ret e s m args below meth c s₁ → c.maxLocals = maxL → Pc args s →
      W p l e (headSpec ws rm).room s m args below meth c s.heap [] 0 0 (vx_MQ below Qc XC args s mc ms free) (entryFrame m args maxL)) : vx_Met l y ws rm Pc Qc XC mc ms free := by
  refine MetFree.of_bodyS (code := cc) (maxLocals := maxL) (ret := ret) hy ?_ ?_
  · intro args s m h hn
    obtain ⟨m9, meth, c, hn9, h1, h2, h3, h4, -, h5, h6, -⟩ := Cond.codeWith_spec (atoms_spec (ws := ws) h _ (by rw [hw]; exact List.mem_cons_self))
    cases hn.symm.trans hn9
    exact ⟨meth, c, h1, h2, h3, h4, h5, h6⟩
  · intro p e s m args below meth c s₁ B hml hP _
    have hh0 : s₁.heap = s.heap := by rw [B.state]; rfl
    obtain ⟨t, a1, o, b1, b2, b3⟩ := body p e s m args below meth c s₁ B hml hP s₁ hh0 (Stand.of_body B)
    exact ⟨t, o, a1, b1, b2, b3⟩
/-! ===== END ===== -/

/-! ===== BEGIN what the machine throws by itself, no traces kept ===== -/
section VXM
set_option maxHeartbeats 1000000 in
/-- the machine throws cls with the message text, no traces kept: from its note over the frame g to 'throwing' over the same frame (follows the proofs of Stand.vmThrowsMessage, Shelf/KitTracedVmS.lean, and Stand.throwsMessageColdBareV, StandMessageColdV.lean, without the step out of the frame) -/
theorem vx_vmAt {p : Program} {l : Launch} {e : Env} {R : Room} {s : State} {m₀ : MethodId} {args : Array Value} {below : List Frame} {meth : Method} {c : Code} {W : State} {locs : List Loc} {cells slots : Nat}
    (X : Stand p l e R s m₀ args below meth c W locs cells slots) (hexec : p.tables.exec = Jvm.exec) (htr : e.platform.stackTraces = false) {cls : String} {names : List String} {text : String}
    (hcls : Bundle.fit cls = true) (hnames : ∀ n ∈ names, Bundle.fit n = true) (hsoe : (cls == "java/lang/StackOverflowError") = false) (hoom : (cls == "java/lang/OutOfMemoryError") = false)
    (h : ∀ a ∈ Bundle.messageArmAtoms cls names, a.before args s = true)
    (hlocs : ∀ x ∈ locs, ∀ cell, s.heap[x.base]? = some cell → cell.vm.isStatics = false)
    (htext : (text == notModelled) = false) (hlimit : ¬ (stringBytes (stringToUtf16 text)).size > e.platform.arrayLengthLimit) (hheap : ¬ (stringBytes (stringToUtf16 text)).size * componentBytes .byte > e.platform.maxHeapBytes)
    {g : JFrame} (hg : g.method = m₀) (hsize : g.locals.size = c.maxLocals)
    (hRframes : names.length + 4 < R.frames) (hRlocals : 2 * g.monitorRoom + (g.stack.map fun v => v.category).sum + 10240 ≤ R.locals) (hshort : 13 * names.length + 55 ≤ 10240)
    (hRcells : cells + 3 ≤ R.cells) (hRslots : slots + ((stringBytes (stringToUtf16 text)).size + 4 + 6) ≤ R.slots) (hlocks : meth.locks = false) :
    ∃ (S : State) (q : Addr) (ce : Cell), (∀ target, Steps p.tables e below ((S.setTop g).pushFrame (.throwing q)) target → Steps p.tables e below ((W.setTop g).pushFrame (.throwNew cls (some text) none)) target) ∧
      Stand p l e R s m₀ args below meth c S locs (cells + 3) (slots + ((stringBytes (stringToUtf16 text)).size + 4 + 6)) ∧ S.heap[q]? = some ce ∧ s.vm.findClass cls = some ce.cls ∧ ce.vm = .none := by
  have howns : e.platform.frameOwnsMonitors = true := by rw [X.admits.platform]
  have hfin : e.platform.finalization = false := by rw [X.admits.platform]
  have hpl : e.platform.magicAccessors = ({} : Platform).magicAccessors := by rw [X.admits.platform]
  have a : ∀ x, x ∈ Bundle.messageArmAtoms cls names → x.holds args s none s [] = true := fun x hx => h x hx
  obtain ⟨T, Z0, L, -, Y⟩ := ThrowableC.of_atoms (args := args) howns hfin hpl (fun x hx => h x (by simp [Bundle.messageArmAtoms, hx]))
  obtain ⟨Z, M, LZ, LM, hnZ⟩ := Init0T.ofS_atoms (args := args) hpl L Y (fun x hx => h x (by simp [Bundle.messageArmAtoms, hx]))
  obtain ⟨P1, Ps, hlen, L1, hL, hP1m, hlink1, hlink⟩ := Bundle.chainS (args := args) hpl hnZ names cls hcls hnames (fun x hx => h x (by simp [Bundle.messageArmAtoms, hx]))
  obtain ⟨Zs, LZs, hn4, hfitv, hfitc⟩ := StringT.of_atoms (args := args) (fun x hx => h x (by simp [Bundle.messageArmAtoms, hx]))
  have hfound : s.vm.findClass cls = some P1.m.cls := findClass_of_methodNamed hP1m
  obtain ⟨c1, kX, hc1, hk, hord, -, -, hn6⟩ := Cond.instantiable_spec (a (.instantiable cls 6) (by simp [Bundle.messageArmAtoms]))
  cases Option.some.inj (hc1.symm.trans hfound)
  have hinit := Cond.initialized_spec hfound hk (a (.initialized cls) (by simp [Bundle.messageArmAtoms]))
  have hctor : kX.findMethod "<init>" "(Ljava/lang/String;)V" = some P1.m.idx := findMethod_of_methodNamed hP1m hk
  have hsel0 : selectMethod e.platform s.vm P1.m.cls T.fill0 = .method T.fill0 := by
    obtain ⟨c2, r2, m2, q1, q2, q3, q4, -⟩ := Cond.selects_spec (a (.selects cls Bundle.tFill0 Bundle.tFill0) (by simp [Bundle.messageArmAtoms]))
    cases Option.some.inj (q1.symm.trans hfound)
    cases Option.some.inj (q2.symm.trans (State.methodFound?_of_named Y.fill0 (by decide)))
    cases Option.some.inj (q3.symm.trans Y.fill0)
    rw [Launch.admits_selectMethod X.admits]; exact q4
  have hselF : selectMethod e.platform s.vm P1.m.cls T.fill = .method T.fill := by
    obtain ⟨c2, r2, m2, q1, q2, q3, q4, -⟩ := Cond.selects_spec (a (.selects cls Bundle.tFill Bundle.tFill) (by simp [Bundle.messageArmAtoms]))
    cases Option.some.inj (q1.symm.trans hfound)
    cases Option.some.inj (q2.symm.trans (State.methodFound?_of_named Y.fill (by decide)))
    cases Option.some.inj (q3.symm.trans Y.fill)
    rw [Launch.admits_selectMethod X.admits]; exact q4
  obtain ⟨cellS0, hcS0, hiss⟩ := Y.statics
  obtain ⟨u0, hu0⟩ := Cond.staticRefV Y.unassigned L.unassignedStatic L.statics hcS0 hiss (a (.isRef (.static Bundle.tN "UNASSIGNED_STACK" Bundle.steD)) (by simp [Bundle.messageArmAtoms]))
  obtain ⟨sen, hsen⟩ := Cond.staticRefV Y.sentinel L.sentinelStatic L.statics hcS0 hiss (a (.isRef (.static Bundle.tN "SUPPRESSED_SENTINEL" Bundle.listD)) (by simp [Bundle.messageArmAtoms]))
  obtain ⟨ci198, i198, fB, hk198, hg198, ha198, hsB, -, hnB, htB, hffB⟩ := Cond.ownField (t := .object "java/lang/Object") Y.found L.cls (by decide +kernel) (a (.fieldLink Bundle.tN 198 Bundle.tN "backtrace" "Ljava/lang/Object;") (by simp [Bundle.messageArmAtoms])) (a (.lays Bundle.tN Bundle.tN "backtrace" "Ljava/lang/Object;") (by simp [Bundle.messageArmAtoms])) e.platform hpl
  obtain ⟨cellS, hcS', heS, -, hkeep⟩ := X.same.2.2.2.2.2 T.aS cellS0 hcS0
  have hcellS : W.heap[T.aS]? = some cellS := hcS'
  have hout' : ∀ i, (⟨T.aS, i⟩ : Loc) ∉ locs := fun i hmem => by
    have := hlocs _ hmem cellS0 hcS0
    rw [hiss] at this; cases this
  have hknownS : cellS.vm ≠ .unknown := by
    rw [heS]; intro hu
    rw [show cellS0.vm = .unknown from hu] at hiss
    cases hiss
  have hvU : cellS.slots[T.fUnassigned.slot]? = some u0.v := by rw [hkeep _ (hout' _)]; exact hu0
  have hvSen : cellS.slots[T.fSentinel.slot]? = some sen.v := by rw [hkeep _ (hout' _)]; exact hsen
  obtain ⟨iM, hffM⟩ := Y.msg
  obtain ⟨tyC, dC, hdC, hdnC⟩ := Cond.laysAt hfound hk Y.cause (a (.lays cls Bundle.tN "cause" "Ljava/lang/Throwable;") (by simp [Bundle.messageArmAtoms]))
  obtain ⟨tyS, dS, hdS, hdnS⟩ := Cond.laysAt hfound hk Y.stack (a (.lays cls Bundle.tN "stackTrace" Bundle.steD) (by simp [Bundle.messageArmAtoms]))
  obtain ⟨tyP, dP, hdP, hdnP⟩ := Cond.laysAt hfound hk Y.supp (a (.lays cls Bundle.tN "suppressedExceptions" Bundle.listD) (by simp [Bundle.messageArmAtoms]))
  obtain ⟨tyM, dM, hdM, hdnM⟩ := Cond.laysAt hfound hk hffM (a (.lays cls Bundle.tN "detailMessage" "Ljava/lang/String;") (by simp [Bundle.messageArmAtoms]))
  obtain ⟨tyB, dB, hdB, hdnB⟩ := Cond.laysAt hfound hk hffB (a (.lays cls Bundle.tN "backtrace" "Ljava/lang/Object;") (by simp [Bundle.messageArmAtoms]))
  have bC := Cond.laysApart hdB hdC hdnB hdnC (by rw [hnB, Y.causeName]; decide)
  have bS := Cond.laysApart hdB hdS hdnB hdnS (by rw [hnB, Y.stackName]; decide)
  have bP := Cond.laysApart hdB hdP hdnB hdnP (by rw [hnB, Y.suppName]; decide)
  have hbk : ((preparedCellV T.toThrowableT (freshCell P1.m.cls kX) (W.heap.size + 2) u0 sen).withEntry W.cur).slots[fB.slot]? = some .null := by
    have := fresh_default (c := P1.m.cls) tyB
    rw [htB] at this
    simpa [preparedCellV, Cell.setSlot, Cell.withEntry, Array.getElem?_setIfInBounds, bC, bS, bP, bC.symm, bS.symm, bP.symm, defaultValue] using this
  have tkC := Takes.of_laid (v := .ref (W.heap.size + 2)) hk hord tyC (by rw [Y.causeType]; rfl)
  have tkS := Takes.of_laid (v := u0.v) hk hord tyS (by rw [Y.stackType]; exact fits_refV_array _ u0)
  have tkP := Takes.of_laid (v := sen.v) hk hord tyP (by rw [Y.suppType]; exact fits_refV_object _ sen)
  have tkM := Takes.of_laid (v := .ref (W.heap.size + 1)) hk hord tyM (by rw [Y.msgType]; rfl)
  have hskip : SkipFacts T e.platform s (fun u => u) u0 ((preparedCellV T.toThrowableT (freshCell P1.m.cls kX) (W.heap.size + 2) u0 sen).withEntry W.cur) := ⟨{ ci198 := ci198, i198 := i198, fBack := fB }, ⟨hk198, hg198, ha198, hsB⟩, hbk, fun _ _ => rfl⟩
  have h0 : At W g.method c below := by rw [hg]; exact X.here
  obtain ⟨hbeyond, hfreeW⟩ := X.vmMayThrow hsize (.throwNew cls (some text) none) (fun f hf => by cases hf) rfl hRlocals
  have hfr' : W.frames.length + Ps.length + 4 < (e.platform.stackLimits W.me).1 := by have := X.framesAbove hRframes; omega
  have hwd' : (stackUse (.java g :: W.frames.tail)).2 + 13 * Ps.length + 55 ≤ (e.platform.stackLimits W.me).2 := by have := X.stackAbove hsize (K := 13 * Ps.length + 55) (by omega); omega
  have hslots : W.slotsUsed + (stringBytes (stringToUtf16 text)).size + Zs.kS.instanceTypes.size + kX.instanceTypes.size ≤ e.platform.maxSlots := by
    have := X.slotsAbove hRslots
    rw [hn4, hn6]
    omega
  obtain ⟨vm', hW', st⟩ := Steps.vmThrowsMessageColdByV p (s₀ := s) (S := W) (g := g) h0 hexec T L Z LZ M LM X.warmed (t := W.cur) rfl Zs LZs P1 L1 Ps hL hlink1 hlink hsoe hoom hfound hk hinit hord hctor
    (Launch.admits_hotImplicitExceptions X.admits) hbeyond hfreeW htext hlimit hheap (X.cellsAbove hRcells) hslots (hfitv _) (hfitc _)
    (Nn := fun u => u) heapOnly_id (fun _ _ => rfl) (fun _ => rfl) (fun u x y => setCell_twice _ _ _ _) (fun _ => Nat.le_refl _) (cN := ((preparedCellV T.toThrowableT (freshCell P1.m.cls kX) (W.heap.size + 2) u0 sen).withEntry W.cur))
    hsel0 hcellS hknownS hvU tkS (fun _ hu => hu) (fun _ hu => hu) rfl rfl rfl (by simp [preparedCellV, Cell.setSlot, Cell.withEntry]) hskip (fun _ _ hA hW _ hroom _ hrest => L.nativeOff p htr hA hW hroom hrest) hselF hvSen tkC tkP tkM Y.objLocals rfl hfr' hwd'
  rw [plainBareV_eq T.toThrowableT (W.heap.size + 2) u0 sen (.ref (W.heap.size + 1)) W.cur rfl rfl] at st
  obtain ⟨-, -, w3, w4, -, -, -⟩ := withThrown_facts e.platform W Zs text P1.m.cls kX
  have X3 := ((X.pushed (bytesOf Zs.cB (stringToUtf16 text))).pushed (stringAt Zs.cS Zs.kS Zs.fv Zs.fc (stringToUtf16 text) W.heap.size)).pushed (freshCell P1.m.cls kX)
  rw [← withString_eq] at X3
  have X4 := X3.noted hW'
  have ha : (W.heap.size + 2) < ((withThrown W Zs text P1.m.cls kX).setVm vm').heap.size := by show _ < (withThrown W Zs text P1.m.cls kX).heap.size; rw [w3]; omega
  have hcell : ((withThrown W Zs text P1.m.cls kX).setVm vm').heap[(W.heap.size + 2)]? = some (freshCell P1.m.cls kX) := w4
  have X5 := ((((X4.stored hcell T.fCause.slot (.ref (W.heap.size + 2))).storedAgain ha T.fStack.slot u0.v).storedAgain ha T.fSupp.slot sen.v).storedAgain ha T.fStack.slot u0.v).storedAgain ha T.fMsg.slot (.ref (W.heap.size + 1))
  obtain ⟨g₁, hfrM⟩ := X5.frames_eq
  have hU : ((((withThrown W Zs text P1.m.cls kX).setVm vm').setCell (W.heap.size + 2) (plainBareV T.toThrowableT (freshCell P1.m.cls kX) (W.heap.size + 2) u0 sen (.ref (W.heap.size + 1)))).setTop g).pushFrame (.throwing (W.heap.size + 2)) = (((withThrown W Zs text P1.m.cls kX).setVm vm').setCell (W.heap.size + 2) (plainBareV T.toThrowableT (freshCell P1.m.cls kX) (W.heap.size + 2) u0 sen (.ref (W.heap.size + 1)))).setFrames (.throwing (W.heap.size + 2) :: .java g :: below) := by
    rw [State.pushFrame, State.frames_setTop _ hfrM, State.setTop_of_frames _ hfrM, State.setFrames_setFrames]
  have b1 : (bytesOf Zs.cB (stringToUtf16 text)).slots.size = (stringBytes (stringToUtf16 text)).size := by
    rw [(Cell.writeAll_facts _ _).2.2]; simp [bytes0]
  have b2 : (stringAt Zs.cS Zs.kS Zs.fv Zs.fc (stringToUtf16 text) W.heap.size).slots.size = 4 := by simp [string0, Cell.setSlot, hn4]
  have b3 : (freshCell P1.m.cls kX).slots.size = 6 := by simp [hn6]
  rw [b1, b2, b3] at X5
  have e9 : slots + (stringBytes (stringToUtf16 text)).size + 4 + 6 = slots + ((stringBytes (stringToUtf16 text)).size + 4 + 6) := by omega
  rw [e9] at X5
  simp only [List.append_assoc, List.cons_append, List.nil_append] at X5
  refine ⟨((withThrown W Zs text P1.m.cls kX).setVm vm').setCell (W.heap.size + 2) (plainBareV T.toThrowableT (freshCell P1.m.cls kX) (W.heap.size + 2) u0 sen (.ref (W.heap.size + 1))), W.heap.size + 2, _, fun target ht => st _ (by rw [X.tail, ← hU]; exact ht),
    X5.forget (fun y hy => ?_), heapAt_setCell_self _ ha, hfound, rfl⟩
  simp only [List.mem_cons, List.not_mem_nil, or_false] at hy
  have hge : s.heap.size ≤ W.heap.size := X.same.2.1
  rcases hy with rfl | rfl | rfl | rfl | rfl <;> exact Nat.le_trans hge (Nat.le_add_right _ 2)
set_option maxHeartbeats 1000000 in
/-- the machine throws NullPointerException, no traces kept: from its note over the frame g to 'throwing' over the same frame (follows the proof of Stand.vmThrowsNpe, Shelf42/KT2.lean; throwsNpeColdBareVAt, Shelf42/NT91.lean, called) -/
theorem vx_npeAt {p : Program} {l : Launch} {e : Env} {R : Room} {s : State} {m₀ : MethodId} {args : Array Value} {below : List Frame} {meth : Method} {c : Code} {W : State} {locs : List Loc} {cells slots : Nat}
    (X : Stand p l e R s m₀ args below meth c W locs cells slots) (hexec : p.tables.exec = Jvm.exec) (htr : e.platform.stackTraces = false) {n : Nat}
    (h : ∀ a ∈ Bundle.npeArmAtoms n, a.before args s = true)
    (hlocs : ∀ x ∈ locs, ∀ cell, s.heap[x.base]? = some cell → cell.vm.isStatics = false)
    {g : JFrame} (hg : g.method = m₀) (hsize : g.locals.size = c.maxLocals)
    (hRframes : 7 < R.frames) (hRlocals : 2 * g.monitorRoom + (g.stack.map fun v => v.category).sum + 10240 ≤ R.locals)
    (hRcells : cells + 1 ≤ R.cells) (hRslots : slots + n ≤ R.slots) (hlocks : meth.locks = false) :
    ∃ (S : State) (q : Addr) (ce : Cell), (∀ target, Steps p.tables e below ((S.setTop g).pushFrame (.throwing q)) target → Steps p.tables e below ((W.setTop g).pushFrame (.throwNew "java/lang/NullPointerException" none none)) target) ∧
      Stand p l e R s m₀ args below meth c S locs (cells + 1) (slots + n) ∧ S.heap[q]? = some ce ∧ s.vm.findClass "java/lang/NullPointerException" = some ce.cls ∧ ce.vm = .none := by
  have howns : e.platform.frameOwnsMonitors = true := by rw [X.admits.platform]
  have hfin : e.platform.finalization = false := by rw [X.admits.platform]
  have hpl : e.platform.magicAccessors = ({} : Platform).magicAccessors := by rw [X.admits.platform]
  have hpl2 : e.platform.arrayCloneIsPublic = true := by rw [X.admits.platform]
  have a' : ∀ x, x ∈ Bundle.npeArmAtoms n → x.holds args s none s [] = true := fun x hx => h x hx
  obtain ⟨T, Z, L, LZ, Y⟩ := ThrowableC.of_atoms (args := args) howns hfin hpl (fun x hx => h x (by simp [Bundle.npeArmAtoms, hx]))
  obtain ⟨N, LN, hcN, hnNF, hordN, hffS⟩ := NpeC.of_atoms (args := args) hpl hpl2 L Y (fun x hx => h x (by simp [Bundle.npeArmAtoms, hx]))
  obtain ⟨P1, L1, hP1m, hP1s⟩ := PassC.of_atoms (args := args) (s := s) hpl (X := Bundle.nN) (Y := Bundle.rN) (by decide) (by decide) LibCode.NullPointerException.Init0.at_0 LibCode.NullPointerException.Init0.at_1 LibCode.NullPointerException.Init0.at_4 (fun x hx => h x (by simp [Bundle.npeArmAtoms, hx]))
  obtain ⟨PR, LR, hPRm, hPRs⟩ := PassC.of_atoms (args := args) (s := s) hpl (X := Bundle.rN) (Y := Bundle.eN) (by decide) (by decide) LibCode.RuntimeException.Init0.at_0 LibCode.RuntimeException.Init0.at_1 LibCode.RuntimeException.Init0.at_4 (fun x hx => h x (by simp [Bundle.npeArmAtoms, hx]))
  obtain ⟨PE, LEx, hPEm, hPEs⟩ := PassC.of_atoms (args := args) (s := s) hpl (X := Bundle.eN) (Y := Bundle.tN) (by decide) (by decide) LibCode.Exception.Init0.at_0 LibCode.Exception.Init0.at_1 LibCode.Exception.Init0.at_4 (fun x hx => h x (by simp [Bundle.npeArmAtoms, hx]))
  have hfound : s.vm.findClass Bundle.nN = some P1.m.cls := findClass_of_methodNamed hP1m
  have ecls : N.cN = P1.m.cls := Option.some.inj (hcN.symm.trans hfound)
  have hk : s.vm.classes[P1.m.cls]? = some N.kN := by rw [← ecls]; exact LN.cls
  have hinit := Cond.initialized_spec hfound hk (a' (.initialized Bundle.nN) (by simp [Bundle.npeArmAtoms]))
  have hctor : N.kN.findMethod "<init>" "()V" = some P1.m.idx := findMethod_of_methodNamed hP1m hk
  obtain ⟨c1, k1, hc1, hk1, -, -, -, hn⟩ := Cond.instantiable_spec (a' (.instantiable Bundle.nN n) (by simp [Bundle.npeArmAtoms]))
  cases Option.some.inj (hc1.symm.trans hfound)
  cases Option.some.inj (hk1.symm.trans hk)
  have hfsz : (freshCell P1.m.cls N.kN).slots.size = n := by simp [hn]
  have hlink1 : P1.sup = PR.m := Option.some.inj (hP1s.symm.trans hPRm)
  have hlinkR : PR.sup = PE.m := Option.some.inj (hPRs.symm.trans hPEm)
  have hlinkE : PE.sup = Z.m T.toThrowableT := Option.some.inj (hPEs.symm.trans Y.init0)
  have hLs : ∀ P, P ∈ [PR, PE] → P.Links0 e.platform s := fun P hP => by
    simp only [List.mem_cons, List.not_mem_nil, or_false] at hP
    rcases hP with rfl | rfl
    · exact LR
    · exact LEx
  have hsel0 : selectMethod e.platform s.vm P1.m.cls T.fill0 = .method T.fill0 := by
    obtain ⟨c2, r2, m2, q1, q2, q3, q4, -⟩ := Cond.selects_spec (a' (.selects Bundle.nN Bundle.tFill0 Bundle.tFill0) (by simp [Bundle.npeArmAtoms]))
    cases Option.some.inj (q1.symm.trans hfound)
    cases Option.some.inj (q2.symm.trans (State.methodFound?_of_named Y.fill0 (by decide)))
    cases Option.some.inj (q3.symm.trans Y.fill0)
    rw [Launch.admits_selectMethod X.admits]; exact q4
  have hselF : selectMethod e.platform s.vm P1.m.cls T.fill = .method N.fill := by
    obtain ⟨c2, r2, m2, q1, q2, q3, q4, -⟩ := Cond.selects_spec (a' (.selects Bundle.nN Bundle.tFill Bundle.nFill) (by simp [Bundle.npeArmAtoms]))
    cases Option.some.inj (q1.symm.trans hfound)
    cases Option.some.inj (q2.symm.trans (State.methodFound?_of_named Y.fill (by decide)))
    cases Option.some.inj (q3.symm.trans hnNF)
    rw [Launch.admits_selectMethod X.admits]; exact q4
  obtain ⟨cellS0, hcS0, hiss⟩ := Y.statics
  obtain ⟨u0, hu0⟩ := Cond.staticRefV Y.unassigned L.unassignedStatic L.statics hcS0 hiss (a' (.isRef (.static Bundle.tN "UNASSIGNED_STACK" Bundle.steD)) (by simp [Bundle.npeArmAtoms]))
  obtain ⟨sen, hsen⟩ := Cond.staticRefV Y.sentinel L.sentinelStatic L.statics hcS0 hiss (a' (.isRef (.static Bundle.tN "SUPPRESSED_SENTINEL" Bundle.listD)) (by simp [Bundle.npeArmAtoms]))
  obtain ⟨ci198, i198, fB, hk198, hg198, ha198, hsB, -, hnB, htB, hffB⟩ := Cond.ownField (t := .object "java/lang/Object") Y.found L.cls (by decide +kernel) (a' (.fieldLink Bundle.tN 198 Bundle.tN "backtrace" Bundle.objD) (by simp [Bundle.npeArmAtoms])) (a' (.lays Bundle.tN Bundle.tN "backtrace" Bundle.objD) (by simp [Bundle.npeArmAtoms])) e.platform hpl
  obtain ⟨cellS, hcS', heS, -, hkeep⟩ := X.same.2.2.2.2.2 T.aS cellS0 hcS0
  have hcellS : W.heap[T.aS]? = some cellS := hcS'
  have hout' : ∀ i, (⟨T.aS, i⟩ : Loc) ∉ locs := fun i hmem => by
    have := hlocs _ hmem cellS0 hcS0
    rw [hiss] at this; cases this
  have hknownS : cellS.vm ≠ .unknown := by
    rw [heS]; intro hu
    rw [show cellS0.vm = .unknown from hu] at hiss
    cases hiss
  have hvU : cellS.slots[T.fUnassigned.slot]? = some u0.v := by rw [hkeep _ (hout' _)]; exact hu0
  have hvSen : cellS.slots[T.fSentinel.slot]? = some sen.v := by rw [hkeep _ (hout' _)]; exact hsen
  obtain ⟨tyC, dC, hdC, hdnC⟩ := Cond.laysAt hfound hk Y.cause (a' (.lays Bundle.nN Bundle.tN "cause" "Ljava/lang/Throwable;") (by simp [Bundle.npeArmAtoms]))
  obtain ⟨tyS, dS, hdS, hdnS⟩ := Cond.laysAt hfound hk Y.stack (a' (.lays Bundle.nN Bundle.tN "stackTrace" Bundle.steD) (by simp [Bundle.npeArmAtoms]))
  obtain ⟨tyP, dP, hdP, hdnP⟩ := Cond.laysAt hfound hk Y.supp (a' (.lays Bundle.nN Bundle.tN "suppressedExceptions" Bundle.listD) (by simp [Bundle.npeArmAtoms]))
  obtain ⟨tyX, dX, hdX, hdnX⟩ := Cond.laysAt hfound hk hffS (a' (.lays Bundle.nN Bundle.nN "extendedMessageState" "I") (by simp [Bundle.npeArmAtoms, Bundle.npeAtoms]))
  obtain ⟨hnX, htX⟩ := State.fieldFound?_type hffS (t := .int) (by decide +kernel)
  have xC := Cond.laysApart hdC hdX hdnC hdnX (by rw [hnX, Y.causeName]; decide)
  have xS := Cond.laysApart hdS hdX hdnS hdnX (by rw [hnX, Y.stackName]; decide)
  have xP := Cond.laysApart hdP hdX hdnP hdnX (by rw [hnX, Y.suppName]; decide)
  have hv0 : (freshCell P1.m.cls N.kN).slots[N.fState.slot]? = some (.int 0) := by
    have := fresh_default (c := P1.m.cls) tyX
    rw [htX] at this; exact this
  obtain ⟨tyB, dB, hdB, hdnB⟩ := Cond.laysAt hfound hk hffB (a' (.lays Bundle.nN Bundle.tN "backtrace" Bundle.objD) (by simp [Bundle.npeArmAtoms]))
  have bC := Cond.laysApart hdB hdC hdnB hdnC (by rw [hnB, Y.causeName]; decide)
  have bS := Cond.laysApart hdB hdS hdnB hdnS (by rw [hnB, Y.stackName]; decide)
  have bP := Cond.laysApart hdB hdP hdnB hdnP (by rw [hnB, Y.suppName]; decide)
  have bX := Cond.laysApart hdB hdX hdnB hdnX (by rw [hnB, hnX]; decide)
  have hbk : ((npeCell N.toNpeT (preparedCellV T.toThrowableT (freshCell P1.m.cls N.kN) W.heap.size u0 sen) W.cur).withEntry W.cur).slots[fB.slot]? = some .null := by
    have := fresh_default (c := P1.m.cls) tyB
    rw [htB] at this
    simpa [npeCell, preparedCellV, Cell.setSlot, Cell.withEntry, Array.getElem?_setIfInBounds, bC, bS, bP, bX, bC.symm, bS.symm, bP.symm, bX.symm, defaultValue] using this
  have tkC := Takes.of_laid (v := .ref W.heap.size) hk hordN tyC (by rw [Y.causeType]; rfl)
  have tkS := Takes.of_laid (v := u0.v) hk hordN tyS (by rw [Y.stackType]; exact fits_refV_array _ u0)
  have tkP := Takes.of_laid (v := sen.v) hk hordN tyP (by rw [Y.suppType]; exact fits_refV_object _ sen)
  have tkX := Takes.of_laid (v := .int 1) hk hordN tyX (by rw [htX]; rfl)
  have hskip : SkipFacts T e.platform s (fun u => u) u0 ((npeCell N.toNpeT (preparedCellV T.toThrowableT (freshCell P1.m.cls N.kN) W.heap.size u0 sen) W.cur).withEntry W.cur) := ⟨{ ci198 := ci198, i198 := i198, fBack := fB }, ⟨hk198, hg198, ha198, hsB⟩, hbk, fun _ _ => rfl⟩
  obtain ⟨vm', X3, st, -⟩ := X.throwsNpeColdBareVAt hexec hg hsize T L Z LZ N LN P1 L1 [PR, PE] hLs hlink1 ⟨hlinkR, hlinkE, trivial⟩ hfound hk hinit hordN hctor hsel0 hselF hcellS hknownS hvU hvSen
    hv0 xC xS xP tkC tkS tkP tkX Y.objLocals hskip (fun _ _ hA hW _ hroom _ hrest => L.nativeOff p htr hA hW hroom hrest) (by simpa using hRframes) hRlocals (by simp) hRcells (by rw [hn]; exact hRslots)
  have hlt : W.heap.size < ((W.pushCell (freshCell P1.m.cls N.kN)).setVm vm').heap.size := by
    show W.heap.size < (W.pushCell (freshCell P1.m.cls N.kN)).heap.size
    rw [State.heap_size_pushCell]; omega
  rw [hfsz] at X3
  obtain ⟨g₁, hfrM⟩ := X3.frames_eq
  have hU : ((((W.pushCell (freshCell P1.m.cls N.kN)).setVm vm').setCell W.heap.size (npeBareV T.toThrowableT N.toNpeT (freshCell P1.m.cls N.kN) W.heap.size u0 sen)).setTop g).pushFrame (.throwing W.heap.size) = (((W.pushCell (freshCell P1.m.cls N.kN)).setVm vm').setCell W.heap.size (npeBareV T.toThrowableT N.toNpeT (freshCell P1.m.cls N.kN) W.heap.size u0 sen)).setFrames (.throwing W.heap.size :: .java g :: below) := by
    rw [State.pushFrame, State.frames_setTop _ hfrM, State.setTop_of_frames _ hfrM, State.setFrames_setFrames]
  refine ⟨_, W.heap.size, _, fun target ht => st.trans (by rw [← hU]; exact ht), X3.forget (fun y hy => ?_), heapAt_setCell_self _ hlt, hfound, rfl⟩
  simp only [List.mem_cons, List.not_mem_nil, or_false] at hy
  have hge : s.heap.size ≤ W.heap.size := X.same.2.1
  rcases hy with rfl | rfl | rfl | rfl | rfl <;> exact hge
/-- the words of a machine's NullPointerException, but the four that speak of the heap -/
def vx_atN (n : Nat) : List Cond := (Bundle.npeArmAtoms n).filter vx_no
/-- the words of a machine's throw with a message, but the four that speak of the heap -/
def vx_atM (X : String) (names : List String) : List Cond := (Bundle.messageArmAtoms X names).filter vx_no
section
variable {p : Program} {l : Launch} {e : Env} {R : Room} {s : State} {m : MethodId} {args : Array Value} {below : List Frame} {meth : Method} {c : Code} {H : Heap} {locs : List Loc} {cells slots : Nat}
/-- a frame seen from a rebased start, seen from the first start again -/
theorem vx_back9 {T S : State} {R' : Room} {k n : Nat} (X : Stand p l e R s m args below meth c T locs cells slots) (Y : Stand p l e R' ((T.setVm s.vm).setFrames (.invoking m args :: below)) m args below meth c T [] 0 0) (Z : Stand p l e R' ((T.setVm s.vm).setFrames (.invoking m args :: below)) m args below meth c S [] k n) :
    Stand p l e R s m args below meth c S locs (cells + k) (slots + n) := by
  have hW0 : s.WarmedH ((T.setVm s.vm).setFrames (.invoking m args :: below)).vm := State.WarmedH.refl s
  refine { admits := X.admits, cas := X.cas, clock := X.clock, frames := X.frames, room := X.room, hears := X.hears, method := X.method, code := X.code, here := Z.here, tail := Z.tail, warmed := State.WarmedH.trans hW0 Z.warmed, limits := Z.limits.trans (Y.limits.symm.trans X.limits), bytes := Z.bytes.trans (Y.bytes.symm.trans X.bytes), same := ?_ }
  obtain ⟨e1, e2⟩ := Z.same
  rw [State.setFrames_setFrames] at e1
  have h2 : (T.setVm s.vm).sameButNew (S.setVm s.vm) [] k n := ⟨e1, e2⟩
  have h3 := X.same.trans h2
  rw [List.append_nil] at h3
  exact h3
/-- from the machine's note that E is thrown here with this text -/
def vx_Note (p : Program) (l : Launch) (e : Env) (R : Room) (s : State) (m : MethodId) (args : Array Value) (below : List Frame) (meth : Method) (c : Code) (H : Heap) (locs : List Loc) (cells slots : Nat) (Q : State → Prop) (g : JFrame) (E text : String) : Prop :=
  ∀ T : State, T.heap = H → Stand p l e R s m args below meth c T locs cells slots → ∃ t, Steps p.tables e below ((T.setTop g).pushFrame (.throwNew E (some text) none)) t ∧ Q t
theorem vx_vm {pc : Nat} {ls : Array Slot} {rest : List Value} {Q : State → Prop} (hexec : p.tables.exec = Jvm.exec) (hl : l.stackTraces = false) {cls text : String} {names : List String} {nb : Nat} {A : Nat → Prop}
    (hcls : Bundle.fit cls = true) (hnames : ∀ n ∈ names, Bundle.fit n = true) (hsoe : (cls == "java/lang/StackOverflowError") = false) (hoom : (cls == "java/lang/OutOfMemoryError") = false)
    (hat : ∀ w ∈ vx_atM cls names, w.before args s = true) (hgood : ∀ w ∈ vx_atM cls names, vx_ot w = true)
    (hU : vx_Zq Bundle.tN "UNASSIGNED_STACK" Bundle.steD A s s.heap) (hN : vx_Zq Bundle.tN "SUPPRESSED_SENTINEL" Bundle.listD A s s.heap) (hS : va_S A s.heap H locs) (hsize : ls.size = c.maxLocals)
    (htext : (text == notModelled) = false) (hnb : (stringBytes (stringToUtf16 text)).size ≤ nb) (hnb1 : nb ≤ 1000)
    (hRframes : names.length + 4 < R.frames) (hRlocals : (rest.map fun v => v.category).sum + 10240 ≤ R.locals) (hshort : 13 * names.length + 55 ≤ 10240) (hRcells : cells + 3 ≤ R.cells) (hRslots : slots + (nb + 10) ≤ R.slots) (hlocks : meth.locks = false)
    (k : ∀ (H1 : Heap) (q9 : Addr) (ce : Cell), H.size ≤ H1.size → (∀ q : Nat, q < H.size → H1[q]? = H[q]?) → va_S A s.heap H1 locs → H1[q9]? = some ce → ce.vm = .none → s.vm.findClass cls = some ce.cls → vx_W p l e R s m args below meth c H1 locs (cells + 3) (slots + (nb + 10)) Q (F0 m pc ls rest) q9) :
    vx_Note p l e R s m args below meth c H locs cells slots Q (F0 m pc ls rest) cls text := by
  intro T hT X
  have htr : e.platform.stackTraces = false := (show e.platform.stackTraces = l.stackTraces by rw [X.admits.platform]).trans hl
  have Y := vx_rebase X (R' := { frames := R.frames, locals := R.locals, cells := 3, slots := nb + 10 }) (Nat.le_refl _) (Nat.le_refl _) hRcells hRslots
  have hhp : ((T.setVm s.vm).setFrames (.invoking m args :: below)).heap = H := hT
  have hW0 : s.WarmedH ((T.setVm s.vm).setFrames (.invoking m args :: below)).vm := State.WarmedH.refl s
  have hat' : ∀ w ∈ vx_atM cls names, w.before args ((T.setVm s.vm).setFrames (.invoking m args :: below)) = true := fun w hw => vx_ot_at hW0 rfl (hgood w hw) (hat w hw)
  have hU' : vx_Zq Bundle.tN "UNASSIGNED_STACK" Bundle.steD A ((T.setVm s.vm).setFrames (.invoking m args :: below)) ((T.setVm s.vm).setFrames (.invoking m args :: below)).heap := by rw [hhp]; exact vx_Zq.moved hW0.alike (hU.kept hS.2.1)
  have hN' : vx_Zq Bundle.tN "SUPPRESSED_SENTINEL" Bundle.listD A ((T.setVm s.vm).setFrames (.invoking m args :: below)) ((T.setVm s.vm).setFrames (.invoking m args :: below)).heap := by rw [hhp]; exact vx_Zq.moved hW0.alike (hN.kept hS.2.1)
  obtain ⟨S, q, ce, st, Z, hce, hcl', hv⟩ := vx_vmAt Y hexec htr (cls := cls) (names := names) (text := text) hcls hnames hsoe hoom (vx_own hat' (vx_isRefq hU'.1) (vx_isRefq hN'.1) hU'.2.word hN'.2.word) (fun x hx => nomatch hx) htext
    (by rw [Launch.admits_arrayLengthLimit X.admits]; omega) (by rw [Launch.admits_maxHeapBytes X.admits]; simp only [componentBytes]; omega)
    (g := F0 m pc ls rest) rfl hsize hRframes (by show 2 * 0 + (rest.map fun v => v.category).sum + 10240 ≤ R.locals; omega) hshort (by show 0 + 3 ≤ 3; omega) (by show 0 + (_ + 4 + 6) ≤ nb + 10; omega) hlocks
  obtain ⟨f1, f2⟩ := vx_frame Z.same
  have f1' : H.size ≤ S.heap.size := by rw [← hT]; exact f1
  have f2' : ∀ q : Nat, q < H.size → S.heap[q]? = H[q]? := fun q hq => by
    rw [← hT]
    exact f2 q (by rw [← hT] at hq; exact hq) (fun z hz => nomatch hz)
  have X5 := vx_back9 X Y Z
  have X6 : Stand p l e R s m args below meth c S locs (cells + 3) (slots + (nb + 10)) := { X5 with same := X5.same.mono (by omega) (by omega) }
  obtain ⟨t, a1, b1⟩ := k S.heap q ce f1' f2' ⟨Nat.le_trans hS.1 f1', fun q h1 h2 => (f2' q (Nat.lt_of_lt_of_le h1 hS.1)).trans (hS.2.1 q h1 h2), hS.2.2⟩ hce hv hcl' S rfl X6
  exact ⟨t, st t a1, b1⟩
/-- from the machine's note that NullPointerException is thrown here -/
def vx_NoteN (p : Program) (l : Launch) (e : Env) (R : Room) (s : State) (m : MethodId) (args : Array Value) (below : List Frame) (meth : Method) (c : Code) (H : Heap) (locs : List Loc) (cells slots : Nat) (Q : State → Prop) (g : JFrame) : Prop :=
  ∀ T : State, T.heap = H → Stand p l e R s m args below meth c T locs cells slots → ∃ t, Steps p.tables e below ((T.setTop g).pushFrame (.throwNew "java/lang/NullPointerException" none none)) t ∧ Q t
theorem vx_npe {pc : Nat} {ls : Array Slot} {rest : List Value} {Q : State → Prop} (hexec : p.tables.exec = Jvm.exec) (hl : l.stackTraces = false) {nb : Nat} {A : Nat → Prop}
    (hat : ∀ w ∈ vx_atN nb, w.before args s = true) (hgood : ∀ w ∈ vx_atN nb, vx_ot w = true)
    (hU : vx_Zq Bundle.tN "UNASSIGNED_STACK" Bundle.steD A s s.heap) (hN : vx_Zq Bundle.tN "SUPPRESSED_SENTINEL" Bundle.listD A s s.heap) (hS : va_S A s.heap H locs) (hsize : ls.size = c.maxLocals)
    (hRframes : 7 < R.frames) (hRlocals : (rest.map fun v => v.category).sum + 10240 ≤ R.locals) (hRcells : cells + 1 ≤ R.cells) (hRslots : slots + nb ≤ R.slots) (hlocks : meth.locks = false)
    (k : ∀ (H1 : Heap) (q9 : Addr) (ce : Cell), H.size ≤ H1.size → (∀ q : Nat, q < H.size → H1[q]? = H[q]?) → va_S A s.heap H1 locs → H1[q9]? = some ce → ce.vm = .none → s.vm.findClass "java/lang/NullPointerException" = some ce.cls → vx_W p l e R s m args below meth c H1 locs (cells + 1) (slots + nb) Q (F0 m pc ls rest) q9) :
    vx_NoteN p l e R s m args below meth c H locs cells slots Q (F0 m pc ls rest) := by
  intro T hT X
  have htr : e.platform.stackTraces = false := (show e.platform.stackTraces = l.stackTraces by rw [X.admits.platform]).trans hl
  have Y := vx_rebase X (R' := { frames := R.frames, locals := R.locals, cells := 1, slots := nb }) (Nat.le_refl _) (Nat.le_refl _) hRcells hRslots
  have hhp : ((T.setVm s.vm).setFrames (.invoking m args :: below)).heap = H := hT
  have hW0 : s.WarmedH ((T.setVm s.vm).setFrames (.invoking m args :: below)).vm := State.WarmedH.refl s
  have hat' : ∀ w ∈ vx_atN nb, w.before args ((T.setVm s.vm).setFrames (.invoking m args :: below)) = true := fun w hw => vx_ot_at hW0 rfl (hgood w hw) (hat w hw)
  have hU' : vx_Zq Bundle.tN "UNASSIGNED_STACK" Bundle.steD A ((T.setVm s.vm).setFrames (.invoking m args :: below)) ((T.setVm s.vm).setFrames (.invoking m args :: below)).heap := by rw [hhp]; exact vx_Zq.moved hW0.alike (hU.kept hS.2.1)
  have hN' : vx_Zq Bundle.tN "SUPPRESSED_SENTINEL" Bundle.listD A ((T.setVm s.vm).setFrames (.invoking m args :: below)) ((T.setVm s.vm).setFrames (.invoking m args :: below)).heap := by rw [hhp]; exact vx_Zq.moved hW0.alike (hN.kept hS.2.1)
  obtain ⟨S, q, ce, st, Z, hce, hcl', hv⟩ := vx_npeAt Y hexec htr (n := nb) (vx_own hat' (vx_isRefq hU'.1) (vx_isRefq hN'.1) hU'.2.word hN'.2.word) (fun x hx => nomatch hx)
    (g := F0 m pc ls rest) rfl hsize hRframes (by show 2 * 0 + (rest.map fun v => v.category).sum + 10240 ≤ R.locals; omega) (by show 0 + 1 ≤ 1; omega) (by show 0 + nb ≤ nb; omega) hlocks
  obtain ⟨f1, f2⟩ := vx_frame Z.same
  have f1' : H.size ≤ S.heap.size := by rw [← hT]; exact f1
  have f2' : ∀ q : Nat, q < H.size → S.heap[q]? = H[q]? := fun q hq => by
    rw [← hT]
    exact f2 q (by rw [← hT] at hq; exact hq) (fun z hz => nomatch hz)
  have X5 := vx_back9 X Y Z
  have X6 : Stand p l e R s m args below meth c S locs (cells + 1) (slots + nb) := { X5 with same := X5.same.mono (by omega) (by omega) }
  obtain ⟨t, a1, b1⟩ := k S.heap q ce f1' f2' ⟨Nat.le_trans hS.1 f1', fun q h1 h2 => (f2' q (Nat.lt_of_lt_of_le h1 hS.1)).trans (hS.2.1 q h1 h2), hS.2.2⟩ hce hv hcl' S rfl X6
  exact ⟨t, st t a1, b1⟩
variable {Q : State → Prop} {cc : ByteArray} {pc : Nat} {ls : Array Slot} {rest : List Value}
theorem vx_idivZ (hexec : p.tables.exec = Jvm.exec) (hb : c.code = cc) {a b : Int32} (h0 : b = 0) (d : decode cc pc = .ok (.idiv, 1)) (k : vx_Note p l e R s m args below meth c H locs cells slots Q (F0 m pc ls rest) "java/lang/ArithmeticException" "/ by zero") :
    W p l e R s m args below meth c H locs cells slots Q (F0 m pc ls (.int b :: .int a :: rest)) := by
  intro T hT X
  obtain ⟨t, st, q⟩ := k T hT X
  exact ⟨t, X.idivZero hexec (g := F0 m pc ls (.int b :: .int a :: rest)) rfl (a := a) (rest := rest) (by rw [h0]) (by rw [hb]; exact d) t st, q⟩
theorem vx_iremZ (hexec : p.tables.exec = Jvm.exec) (hb : c.code = cc) {a b : Int32} (h0 : b = 0) (d : decode cc pc = .ok (.irem, 1)) (k : vx_Note p l e R s m args below meth c H locs cells slots Q (F0 m pc ls rest) "java/lang/ArithmeticException" "/ by zero") :
    W p l e R s m args below meth c H locs cells slots Q (F0 m pc ls (.int b :: .int a :: rest)) := by
  intro T hT X
  obtain ⟨t, st, q⟩ := k T hT X
  exact ⟨t, X.iremZero hexec (g := F0 m pc ls (.int b :: .int a :: rest)) rfl (a := a) (rest := rest) (by rw [h0]) (by rw [hb]; exact d) t st, q⟩
theorem vx_ldivZ (hexec : p.tables.exec = Jvm.exec) (hb : c.code = cc) {a b : Int64} (h0 : b = 0) (d : decode cc pc = .ok (.ldiv, 1)) (k : vx_Note p l e R s m args below meth c H locs cells slots Q (F0 m pc ls rest) "java/lang/ArithmeticException" "/ by zero") :
    W p l e R s m args below meth c H locs cells slots Q (F0 m pc ls (.long b :: .long a :: rest)) := by
  intro T hT X
  obtain ⟨t, st, q⟩ := k T hT X
  exact ⟨t, X.ldivZero hexec (g := F0 m pc ls (.long b :: .long a :: rest)) rfl (a := a) (rest := rest) (by rw [h0]) (by rw [hb]; exact d) t st, q⟩
theorem vx_lremZ (hexec : p.tables.exec = Jvm.exec) (hb : c.code = cc) {a b : Int64} (h0 : b = 0) (d : decode cc pc = .ok (.lrem, 1)) (k : vx_Note p l e R s m args below meth c H locs cells slots Q (F0 m pc ls rest) "java/lang/ArithmeticException" "/ by zero") :
    W p l e R s m args below meth c H locs cells slots Q (F0 m pc ls (.long b :: .long a :: rest)) := by
  intro T hT X
  obtain ⟨t, st, q⟩ := k T hT X
  exact ⟨t, X.lremZero hexec (g := F0 m pc ls (.long b :: .long a :: rest)) rfl (a := a) (rest := rest) (by rw [h0]) (by rw [hb]; exact d) t st, q⟩
theorem vx_ialdZ {D : va_G} {cl : List vw_C} {ws : va_W} {tys : List (ClassId × FieldType)} {a : Nat} (hexec : p.tables.exec = Jvm.exec) (hb : c.code = cc) (hK : va_K D cl tys s) (hP : va_P D cl ws H) (q0 t0 : Nat) {cA : ClassId} {n : Nat} {f : Nat → Int32} (ha : ws[q0]? = some (a, .inl (cA, n, .inl f))) (ht : tys[t0]? = some (cA, .int)) {i : Int32} (hout : ¬ vp_in i n) (hdg : decode cc pc = .ok (.iaload, 1))
    (k : ∀ tx : String, tx = (toString "Index " ++ toString i ++ toString " out of bounds for length " ++ toString n : String) → vx_Note p l e R s m args below meth c H locs cells slots Q (F0 m pc ls rest) "java/lang/ArrayIndexOutOfBoundsException" tx) : W p l e R s m args below meth c H locs cells slots Q (F0 m pc ls (.int i :: .ref a :: rest)) := by
  intro T hT X
  obtain ⟨t, st, q⟩ := k _ rfl T hT X
  refine ⟨t, ?_, q⟩
  have h1 := X.ialoadOut hexec (by rw [hT]; exact hP q0 _ ha) ((hK.2 t0 _ ht).1 n (fun j => .int (f j))) (j := i) (by show (i < 0 ∨ (arrV _ _ _).slots.size ≤ _); rw [arrV_size]; exact Classical.byContradiction hout) (g := F0 m pc ls (.int i :: .ref a :: rest)) rfl (rest := rest) rfl (by rw [hb]; exact hdg) t
  simp only [arrV_size] at h1
  exact h1 st
theorem vx_iastZ {D : va_G} {cl : List vw_C} {ws : va_W} {tys : List (ClassId × FieldType)} {a : Nat} (hexec : p.tables.exec = Jvm.exec) (hb : c.code = cc) (hK : va_K D cl tys s) (hP : va_P D cl ws H) (q0 t0 : Nat) {cA : ClassId} {n : Nat} {f : Nat → Int32} (ha : ws[q0]? = some (a, .inl (cA, n, .inl f))) (ht : tys[t0]? = some (cA, .int)) {i : Int32} {x : Int32} (hout : ¬ vp_in i n) (hdg : decode cc pc = .ok (.iastore, 1))
    (k : ∀ tx : String, tx = (toString "Index " ++ toString i ++ toString " out of bounds for length " ++ toString n : String) → vx_Note p l e R s m args below meth c H locs cells slots Q (F0 m pc ls rest) "java/lang/ArrayIndexOutOfBoundsException" tx) : W p l e R s m args below meth c H locs cells slots Q (F0 m pc ls (.int x :: .int i :: .ref a :: rest)) := by
  intro T hT X
  obtain ⟨t, st, q⟩ := k _ rfl T hT X
  refine ⟨t, ?_, q⟩
  have h1 := X.iastoreOut hexec (by rw [hT]; exact hP q0 _ ha) ((hK.2 t0 _ ht).1 n (fun j => .int (f j))) (j := i) (by show (i < 0 ∨ (arrV _ _ _).slots.size ≤ _); rw [arrV_size]; exact Classical.byContradiction hout) (g := F0 m pc ls (.int x :: .int i :: .ref a :: rest)) rfl (rest := rest) rfl (by rw [hb]; exact hdg) t
  simp only [arrV_size] at h1
  exact h1 st
theorem vx_baldZ {D : va_G} {cl : List vw_C} {ws : va_W} {tys : List (ClassId × FieldType)} {a : Nat} (hexec : p.tables.exec = Jvm.exec) (hb : c.code = cc) (hK : va_K D cl tys s) (hP : va_P D cl ws H) (q0 t0 : Nat) {cA : ClassId} {n : Nat} {f : Nat → Int32} (ha : ws[q0]? = some (a, .inl (cA, n, .inl f))) (ht : tys[t0]? = some (cA, .byte)) {i : Int32} (hout : ¬ vp_in i n) (hdg : decode cc pc = .ok (.baload, 1))
    (k : ∀ tx : String, tx = (toString "Index " ++ toString i ++ toString " out of bounds for length " ++ toString n : String) → vx_Note p l e R s m args below meth c H locs cells slots Q (F0 m pc ls rest) "java/lang/ArrayIndexOutOfBoundsException" tx) : W p l e R s m args below meth c H locs cells slots Q (F0 m pc ls (.int i :: .ref a :: rest)) := by
  intro T hT X
  obtain ⟨t, st, q⟩ := k _ rfl T hT X
  refine ⟨t, ?_, q⟩
  have h1 := X.baloadOut hexec (by rw [hT]; exact hP q0 _ ha) ((hK.2 t0 _ ht).1 n (fun j => .int (f j))) (j := i) (by show (i < 0 ∨ (arrV _ _ _).slots.size ≤ _); rw [arrV_size]; exact Classical.byContradiction hout) (g := F0 m pc ls (.int i :: .ref a :: rest)) rfl (rest := rest) rfl (by rw [hb]; exact hdg) t
  simp only [arrV_size] at h1
  exact h1 st
theorem vx_bastZ {D : va_G} {cl : List vw_C} {ws : va_W} {tys : List (ClassId × FieldType)} {a : Nat} (hexec : p.tables.exec = Jvm.exec) (hb : c.code = cc) (hK : va_K D cl tys s) (hP : va_P D cl ws H) (q0 t0 : Nat) {cA : ClassId} {n : Nat} {f : Nat → Int32} (ha : ws[q0]? = some (a, .inl (cA, n, .inl f))) (ht : tys[t0]? = some (cA, .byte)) {i : Int32} {x : Int32} (hout : ¬ vp_in i n) (hdg : decode cc pc = .ok (.bastore, 1))
    (k : ∀ tx : String, tx = (toString "Index " ++ toString i ++ toString " out of bounds for length " ++ toString n : String) → vx_Note p l e R s m args below meth c H locs cells slots Q (F0 m pc ls rest) "java/lang/ArrayIndexOutOfBoundsException" tx) : W p l e R s m args below meth c H locs cells slots Q (F0 m pc ls (.int x :: .int i :: .ref a :: rest)) := by
  intro T hT X
  obtain ⟨t, st, q⟩ := k _ rfl T hT X
  refine ⟨t, ?_, q⟩
  have h1 := X.bastoreOut hexec (by rw [hT]; exact hP q0 _ ha) ((hK.2 t0 _ ht).1 n (fun j => .int (f j))) (j := i) (by show (i < 0 ∨ (arrV _ _ _).slots.size ≤ _); rw [arrV_size]; exact Classical.byContradiction hout) (g := F0 m pc ls (.int x :: .int i :: .ref a :: rest)) rfl (rest := rest) rfl (by rw [hb]; exact hdg) t
  simp only [arrV_size] at h1
  exact h1 st
theorem vx_zaldZ {D : va_G} {cl : List vw_C} {ws : va_W} {tys : List (ClassId × FieldType)} {a : Nat} (hexec : p.tables.exec = Jvm.exec) (hb : c.code = cc) (hK : va_K D cl tys s) (hP : va_P D cl ws H) (q0 t0 : Nat) {cA : ClassId} {n : Nat} {f : Nat → Int32} (ha : ws[q0]? = some (a, .inl (cA, n, .inl f))) (ht : tys[t0]? = some (cA, .boolean)) {i : Int32} (hout : ¬ vp_in i n) (hdg : decode cc pc = .ok (.baload, 1))
    (k : ∀ tx : String, tx = (toString "Index " ++ toString i ++ toString " out of bounds for length " ++ toString n : String) → vx_Note p l e R s m args below meth c H locs cells slots Q (F0 m pc ls rest) "java/lang/ArrayIndexOutOfBoundsException" tx) : W p l e R s m args below meth c H locs cells slots Q (F0 m pc ls (.int i :: .ref a :: rest)) := by
  intro T hT X
  obtain ⟨t, st, q⟩ := k _ rfl T hT X
  refine ⟨t, ?_, q⟩
  have h1 := X.baloadOut hexec (by rw [hT]; exact hP q0 _ ha) ((hK.2 t0 _ ht).1 n (fun j => .int (f j))) (j := i) (by show (i < 0 ∨ (arrV _ _ _).slots.size ≤ _); rw [arrV_size]; exact Classical.byContradiction hout) (g := F0 m pc ls (.int i :: .ref a :: rest)) rfl (rest := rest) rfl (by rw [hb]; exact hdg) t
  simp only [arrV_size] at h1
  exact h1 st
theorem vx_zastZ {D : va_G} {cl : List vw_C} {ws : va_W} {tys : List (ClassId × FieldType)} {a : Nat} (hexec : p.tables.exec = Jvm.exec) (hb : c.code = cc) (hK : va_K D cl tys s) (hP : va_P D cl ws H) (q0 t0 : Nat) {cA : ClassId} {n : Nat} {f : Nat → Int32} (ha : ws[q0]? = some (a, .inl (cA, n, .inl f))) (ht : tys[t0]? = some (cA, .boolean)) {i : Int32} {x : Int32} (hout : ¬ vp_in i n) (hdg : decode cc pc = .ok (.bastore, 1))
    (k : ∀ tx : String, tx = (toString "Index " ++ toString i ++ toString " out of bounds for length " ++ toString n : String) → vx_Note p l e R s m args below meth c H locs cells slots Q (F0 m pc ls rest) "java/lang/ArrayIndexOutOfBoundsException" tx) : W p l e R s m args below meth c H locs cells slots Q (F0 m pc ls (.int x :: .int i :: .ref a :: rest)) := by
  intro T hT X
  obtain ⟨t, st, q⟩ := k _ rfl T hT X
  refine ⟨t, ?_, q⟩
  have h1 := X.bastoreOut hexec (by rw [hT]; exact hP q0 _ ha) ((hK.2 t0 _ ht).1 n (fun j => .int (f j))) (j := i) (by show (i < 0 ∨ (arrV _ _ _).slots.size ≤ _); rw [arrV_size]; exact Classical.byContradiction hout) (g := F0 m pc ls (.int x :: .int i :: .ref a :: rest)) rfl (rest := rest) rfl (by rw [hb]; exact hdg) t
  simp only [arrV_size] at h1
  exact h1 st
theorem vx_caldZ {D : va_G} {cl : List vw_C} {ws : va_W} {tys : List (ClassId × FieldType)} {a : Nat} (hexec : p.tables.exec = Jvm.exec) (hb : c.code = cc) (hK : va_K D cl tys s) (hP : va_P D cl ws H) (q0 t0 : Nat) {cA : ClassId} {n : Nat} {f : Nat → Int32} (ha : ws[q0]? = some (a, .inl (cA, n, .inl f))) (ht : tys[t0]? = some (cA, .char)) {i : Int32} (hout : ¬ vp_in i n) (hdg : decode cc pc = .ok (.caload, 1))
    (k : ∀ tx : String, tx = (toString "Index " ++ toString i ++ toString " out of bounds for length " ++ toString n : String) → vx_Note p l e R s m args below meth c H locs cells slots Q (F0 m pc ls rest) "java/lang/ArrayIndexOutOfBoundsException" tx) : W p l e R s m args below meth c H locs cells slots Q (F0 m pc ls (.int i :: .ref a :: rest)) := by
  intro T hT X
  obtain ⟨t, st, q⟩ := k _ rfl T hT X
  refine ⟨t, ?_, q⟩
  have h1 := X.caloadOut hexec (by rw [hT]; exact hP q0 _ ha) ((hK.2 t0 _ ht).1 n (fun j => .int (f j))) (j := i) (by show (i < 0 ∨ (arrV _ _ _).slots.size ≤ _); rw [arrV_size]; exact Classical.byContradiction hout) (g := F0 m pc ls (.int i :: .ref a :: rest)) rfl (rest := rest) rfl (by rw [hb]; exact hdg) t
  simp only [arrV_size] at h1
  exact h1 st
theorem vx_castZ {D : va_G} {cl : List vw_C} {ws : va_W} {tys : List (ClassId × FieldType)} {a : Nat} (hexec : p.tables.exec = Jvm.exec) (hb : c.code = cc) (hK : va_K D cl tys s) (hP : va_P D cl ws H) (q0 t0 : Nat) {cA : ClassId} {n : Nat} {f : Nat → Int32} (ha : ws[q0]? = some (a, .inl (cA, n, .inl f))) (ht : tys[t0]? = some (cA, .char)) {i : Int32} {x : Int32} (hout : ¬ vp_in i n) (hdg : decode cc pc = .ok (.castore, 1))
    (k : ∀ tx : String, tx = (toString "Index " ++ toString i ++ toString " out of bounds for length " ++ toString n : String) → vx_Note p l e R s m args below meth c H locs cells slots Q (F0 m pc ls rest) "java/lang/ArrayIndexOutOfBoundsException" tx) : W p l e R s m args below meth c H locs cells slots Q (F0 m pc ls (.int x :: .int i :: .ref a :: rest)) := by
  intro T hT X
  obtain ⟨t, st, q⟩ := k _ rfl T hT X
  refine ⟨t, ?_, q⟩
  have h1 := X.castoreOut hexec (by rw [hT]; exact hP q0 _ ha) ((hK.2 t0 _ ht).1 n (fun j => .int (f j))) (j := i) (by show (i < 0 ∨ (arrV _ _ _).slots.size ≤ _); rw [arrV_size]; exact Classical.byContradiction hout) (g := F0 m pc ls (.int x :: .int i :: .ref a :: rest)) rfl (rest := rest) rfl (by rw [hb]; exact hdg) t
  simp only [arrV_size] at h1
  exact h1 st
theorem vx_saldZ {D : va_G} {cl : List vw_C} {ws : va_W} {tys : List (ClassId × FieldType)} {a : Nat} (hexec : p.tables.exec = Jvm.exec) (hb : c.code = cc) (hK : va_K D cl tys s) (hP : va_P D cl ws H) (q0 t0 : Nat) {cA : ClassId} {n : Nat} {f : Nat → Int32} (ha : ws[q0]? = some (a, .inl (cA, n, .inl f))) (ht : tys[t0]? = some (cA, .short)) {i : Int32} (hout : ¬ vp_in i n) (hdg : decode cc pc = .ok (.saload, 1))
    (k : ∀ tx : String, tx = (toString "Index " ++ toString i ++ toString " out of bounds for length " ++ toString n : String) → vx_Note p l e R s m args below meth c H locs cells slots Q (F0 m pc ls rest) "java/lang/ArrayIndexOutOfBoundsException" tx) : W p l e R s m args below meth c H locs cells slots Q (F0 m pc ls (.int i :: .ref a :: rest)) := by
  intro T hT X
  obtain ⟨t, st, q⟩ := k _ rfl T hT X
  refine ⟨t, ?_, q⟩
  have h1 := X.saloadOut hexec (by rw [hT]; exact hP q0 _ ha) ((hK.2 t0 _ ht).1 n (fun j => .int (f j))) (j := i) (by show (i < 0 ∨ (arrV _ _ _).slots.size ≤ _); rw [arrV_size]; exact Classical.byContradiction hout) (g := F0 m pc ls (.int i :: .ref a :: rest)) rfl (rest := rest) rfl (by rw [hb]; exact hdg) t
  simp only [arrV_size] at h1
  exact h1 st
theorem vx_sastZ {D : va_G} {cl : List vw_C} {ws : va_W} {tys : List (ClassId × FieldType)} {a : Nat} (hexec : p.tables.exec = Jvm.exec) (hb : c.code = cc) (hK : va_K D cl tys s) (hP : va_P D cl ws H) (q0 t0 : Nat) {cA : ClassId} {n : Nat} {f : Nat → Int32} (ha : ws[q0]? = some (a, .inl (cA, n, .inl f))) (ht : tys[t0]? = some (cA, .short)) {i : Int32} {x : Int32} (hout : ¬ vp_in i n) (hdg : decode cc pc = .ok (.sastore, 1))
    (k : ∀ tx : String, tx = (toString "Index " ++ toString i ++ toString " out of bounds for length " ++ toString n : String) → vx_Note p l e R s m args below meth c H locs cells slots Q (F0 m pc ls rest) "java/lang/ArrayIndexOutOfBoundsException" tx) : W p l e R s m args below meth c H locs cells slots Q (F0 m pc ls (.int x :: .int i :: .ref a :: rest)) := by
  intro T hT X
  obtain ⟨t, st, q⟩ := k _ rfl T hT X
  refine ⟨t, ?_, q⟩
  have h1 := X.sastoreOut hexec (by rw [hT]; exact hP q0 _ ha) ((hK.2 t0 _ ht).1 n (fun j => .int (f j))) (j := i) (by show (i < 0 ∨ (arrV _ _ _).slots.size ≤ _); rw [arrV_size]; exact Classical.byContradiction hout) (g := F0 m pc ls (.int x :: .int i :: .ref a :: rest)) rfl (rest := rest) rfl (by rw [hb]; exact hdg) t
  simp only [arrV_size] at h1
  exact h1 st
theorem vx_laldZ {D : va_G} {cl : List vw_C} {ws : va_W} {tys : List (ClassId × FieldType)} {a : Nat} (hexec : p.tables.exec = Jvm.exec) (hb : c.code = cc) (hK : va_K D cl tys s) (hP : va_P D cl ws H) (q0 t0 : Nat) {cA : ClassId} {n : Nat} {f : Nat → Int64} (ha : ws[q0]? = some (a, .inl (cA, n, .inr (.inl f)))) (ht : tys[t0]? = some (cA, .long)) {i : Int32} (hout : ¬ vp_in i n) (hdg : decode cc pc = .ok (.laload, 1))
    (k : ∀ tx : String, tx = (toString "Index " ++ toString i ++ toString " out of bounds for length " ++ toString n : String) → vx_Note p l e R s m args below meth c H locs cells slots Q (F0 m pc ls rest) "java/lang/ArrayIndexOutOfBoundsException" tx) : W p l e R s m args below meth c H locs cells slots Q (F0 m pc ls (.int i :: .ref a :: rest)) := by
  intro T hT X
  obtain ⟨t, st, q⟩ := k _ rfl T hT X
  refine ⟨t, ?_, q⟩
  have h1 := X.laloadOut hexec (by rw [hT]; exact hP q0 _ ha) ((hK.2 t0 _ ht).1 n (fun j => .long (f j))) (j := i) (by show (i < 0 ∨ (arrV _ _ _).slots.size ≤ _); rw [arrV_size]; exact Classical.byContradiction hout) (g := F0 m pc ls (.int i :: .ref a :: rest)) rfl (rest := rest) rfl (by rw [hb]; exact hdg) t
  simp only [arrV_size] at h1
  exact h1 st
theorem vx_lastZ {D : va_G} {cl : List vw_C} {ws : va_W} {tys : List (ClassId × FieldType)} {a : Nat} (hexec : p.tables.exec = Jvm.exec) (hb : c.code = cc) (hK : va_K D cl tys s) (hP : va_P D cl ws H) (q0 t0 : Nat) {cA : ClassId} {n : Nat} {f : Nat → Int64} (ha : ws[q0]? = some (a, .inl (cA, n, .inr (.inl f)))) (ht : tys[t0]? = some (cA, .long)) {i : Int32} {x : Int64} (hout : ¬ vp_in i n) (hdg : decode cc pc = .ok (.lastore, 1))
    (k : ∀ tx : String, tx = (toString "Index " ++ toString i ++ toString " out of bounds for length " ++ toString n : String) → vx_Note p l e R s m args below meth c H locs cells slots Q (F0 m pc ls rest) "java/lang/ArrayIndexOutOfBoundsException" tx) : W p l e R s m args below meth c H locs cells slots Q (F0 m pc ls (.long x :: .int i :: .ref a :: rest)) := by
  intro T hT X
  obtain ⟨t, st, q⟩ := k _ rfl T hT X
  refine ⟨t, ?_, q⟩
  have h1 := X.lastoreOut hexec (by rw [hT]; exact hP q0 _ ha) ((hK.2 t0 _ ht).1 n (fun j => .long (f j))) (j := i) (by show (i < 0 ∨ (arrV _ _ _).slots.size ≤ _); rw [arrV_size]; exact Classical.byContradiction hout) (g := F0 m pc ls (.long x :: .int i :: .ref a :: rest)) rfl (rest := rest) rfl (by rw [hb]; exact hdg) t
  simp only [arrV_size] at h1
  exact h1 st
theorem vx_faldZ {D : va_G} {cl : List vw_C} {ws : va_W} {tys : List (ClassId × FieldType)} {a : Nat} (hexec : p.tables.exec = Jvm.exec) (hb : c.code = cc) (hK : va_K D cl tys s) (hP : va_P D cl ws H) (q0 t0 : Nat) {cA : ClassId} {n : Nat} {f : Nat → UInt32} (ha : ws[q0]? = some (a, .inl (cA, n, .inr (.inr (.inl f))))) (ht : tys[t0]? = some (cA, .float)) {i : Int32} (hout : ¬ vp_in i n) (hdg : decode cc pc = .ok (.faload, 1))
    (k : ∀ tx : String, tx = (toString "Index " ++ toString i ++ toString " out of bounds for length " ++ toString n : String) → vx_Note p l e R s m args below meth c H locs cells slots Q (F0 m pc ls rest) "java/lang/ArrayIndexOutOfBoundsException" tx) : W p l e R s m args below meth c H locs cells slots Q (F0 m pc ls (.int i :: .ref a :: rest)) := by
  intro T hT X
  obtain ⟨t, st, q⟩ := k _ rfl T hT X
  refine ⟨t, ?_, q⟩
  have h1 := X.faloadOut hexec (by rw [hT]; exact hP q0 _ ha) ((hK.2 t0 _ ht).1 n (fun j => .float (f j))) (j := i) (by show (i < 0 ∨ (arrV _ _ _).slots.size ≤ _); rw [arrV_size]; exact Classical.byContradiction hout) (g := F0 m pc ls (.int i :: .ref a :: rest)) rfl (rest := rest) rfl (by rw [hb]; exact hdg) t
  simp only [arrV_size] at h1
  exact h1 st
theorem vx_fastZ {D : va_G} {cl : List vw_C} {ws : va_W} {tys : List (ClassId × FieldType)} {a : Nat} (hexec : p.tables.exec = Jvm.exec) (hb : c.code = cc) (hK : va_K D cl tys s) (hP : va_P D cl ws H) (q0 t0 : Nat) {cA : ClassId} {n : Nat} {f : Nat → UInt32} (ha : ws[q0]? = some (a, .inl (cA, n, .inr (.inr (.inl f))))) (ht : tys[t0]? = some (cA, .float)) {i : Int32} {x : UInt32} (hout : ¬ vp_in i n) (hdg : decode cc pc = .ok (.fastore, 1))
    (k : ∀ tx : String, tx = (toString "Index " ++ toString i ++ toString " out of bounds for length " ++ toString n : String) → vx_Note p l e R s m args below meth c H locs cells slots Q (F0 m pc ls rest) "java/lang/ArrayIndexOutOfBoundsException" tx) : W p l e R s m args below meth c H locs cells slots Q (F0 m pc ls (.float x :: .int i :: .ref a :: rest)) := by
  intro T hT X
  obtain ⟨t, st, q⟩ := k _ rfl T hT X
  refine ⟨t, ?_, q⟩
  have h1 := X.fastoreOut hexec (by rw [hT]; exact hP q0 _ ha) ((hK.2 t0 _ ht).1 n (fun j => .float (f j))) (j := i) (by show (i < 0 ∨ (arrV _ _ _).slots.size ≤ _); rw [arrV_size]; exact Classical.byContradiction hout) (g := F0 m pc ls (.float x :: .int i :: .ref a :: rest)) rfl (rest := rest) rfl (by rw [hb]; exact hdg) t
  simp only [arrV_size] at h1
  exact h1 st
theorem vx_daldZ {D : va_G} {cl : List vw_C} {ws : va_W} {tys : List (ClassId × FieldType)} {a : Nat} (hexec : p.tables.exec = Jvm.exec) (hb : c.code = cc) (hK : va_K D cl tys s) (hP : va_P D cl ws H) (q0 t0 : Nat) {cA : ClassId} {n : Nat} {f : Nat → UInt64} (ha : ws[q0]? = some (a, .inl (cA, n, .inr (.inr (.inr (.inl f)))))) (ht : tys[t0]? = some (cA, .double)) {i : Int32} (hout : ¬ vp_in i n) (hdg : decode cc pc = .ok (.daload, 1))
    (k : ∀ tx : String, tx = (toString "Index " ++ toString i ++ toString " out of bounds for length " ++ toString n : String) → vx_Note p l e R s m args below meth c H locs cells slots Q (F0 m pc ls rest) "java/lang/ArrayIndexOutOfBoundsException" tx) : W p l e R s m args below meth c H locs cells slots Q (F0 m pc ls (.int i :: .ref a :: rest)) := by
  intro T hT X
  obtain ⟨t, st, q⟩ := k _ rfl T hT X
  refine ⟨t, ?_, q⟩
  have h1 := X.daloadOut hexec (by rw [hT]; exact hP q0 _ ha) ((hK.2 t0 _ ht).1 n (fun j => .double (f j))) (j := i) (by show (i < 0 ∨ (arrV _ _ _).slots.size ≤ _); rw [arrV_size]; exact Classical.byContradiction hout) (g := F0 m pc ls (.int i :: .ref a :: rest)) rfl (rest := rest) rfl (by rw [hb]; exact hdg) t
  simp only [arrV_size] at h1
  exact h1 st
theorem vx_dastZ {D : va_G} {cl : List vw_C} {ws : va_W} {tys : List (ClassId × FieldType)} {a : Nat} (hexec : p.tables.exec = Jvm.exec) (hb : c.code = cc) (hK : va_K D cl tys s) (hP : va_P D cl ws H) (q0 t0 : Nat) {cA : ClassId} {n : Nat} {f : Nat → UInt64} (ha : ws[q0]? = some (a, .inl (cA, n, .inr (.inr (.inr (.inl f)))))) (ht : tys[t0]? = some (cA, .double)) {i : Int32} {x : UInt64} (hout : ¬ vp_in i n) (hdg : decode cc pc = .ok (.dastore, 1))
    (k : ∀ tx : String, tx = (toString "Index " ++ toString i ++ toString " out of bounds for length " ++ toString n : String) → vx_Note p l e R s m args below meth c H locs cells slots Q (F0 m pc ls rest) "java/lang/ArrayIndexOutOfBoundsException" tx) : W p l e R s m args below meth c H locs cells slots Q (F0 m pc ls (.double x :: .int i :: .ref a :: rest)) := by
  intro T hT X
  obtain ⟨t, st, q⟩ := k _ rfl T hT X
  refine ⟨t, ?_, q⟩
  have h1 := X.dastoreOut hexec (by rw [hT]; exact hP q0 _ ha) ((hK.2 t0 _ ht).1 n (fun j => .double (f j))) (j := i) (by show (i < 0 ∨ (arrV _ _ _).slots.size ≤ _); rw [arrV_size]; exact Classical.byContradiction hout) (g := F0 m pc ls (.double x :: .int i :: .ref a :: rest)) rfl (rest := rest) rfl (by rw [hb]; exact hdg) t
  simp only [arrV_size] at h1
  exact h1 st
theorem vx_arraylengthN (hexec : p.tables.exec = Jvm.exec) (hb : c.code = cc) (hdg : decode cc pc = .ok (.arraylength, 1)) (k : vx_NoteN p l e R s m args below meth c H locs cells slots Q (F0 m pc ls rest)) : W p l e R s m args below meth c H locs cells slots Q (F0 m pc ls (.null :: rest)) := by
  intro T hT X
  obtain ⟨t, st, q⟩ := k T hT X
  exact ⟨t, X.arraylengthNull hexec (g := F0 m pc ls (.null :: rest)) rfl (rest := rest) rfl (by rw [hb]; exact hdg) t st, q⟩
theorem vx_ialoadN (hexec : p.tables.exec = Jvm.exec) (hb : c.code = cc) {i : Int32} (hdg : decode cc pc = .ok (.iaload, 1)) (k : vx_NoteN p l e R s m args below meth c H locs cells slots Q (F0 m pc ls rest)) : W p l e R s m args below meth c H locs cells slots Q (F0 m pc ls (.int i :: .null :: rest)) := by
  intro T hT X
  obtain ⟨t, st, q⟩ := k T hT X
  exact ⟨t, X.ialoadNull hexec (g := F0 m pc ls (.int i :: .null :: rest)) rfl (rest := rest) rfl (by rw [hb]; exact hdg) t st, q⟩
theorem vx_laloadN (hexec : p.tables.exec = Jvm.exec) (hb : c.code = cc) {i : Int32} (hdg : decode cc pc = .ok (.laload, 1)) (k : vx_NoteN p l e R s m args below meth c H locs cells slots Q (F0 m pc ls rest)) : W p l e R s m args below meth c H locs cells slots Q (F0 m pc ls (.int i :: .null :: rest)) := by
  intro T hT X
  obtain ⟨t, st, q⟩ := k T hT X
  exact ⟨t, X.laloadNull hexec (g := F0 m pc ls (.int i :: .null :: rest)) rfl (rest := rest) rfl (by rw [hb]; exact hdg) t st, q⟩
theorem vx_faloadN (hexec : p.tables.exec = Jvm.exec) (hb : c.code = cc) {i : Int32} (hdg : decode cc pc = .ok (.faload, 1)) (k : vx_NoteN p l e R s m args below meth c H locs cells slots Q (F0 m pc ls rest)) : W p l e R s m args below meth c H locs cells slots Q (F0 m pc ls (.int i :: .null :: rest)) := by
  intro T hT X
  obtain ⟨t, st, q⟩ := k T hT X
  exact ⟨t, X.faloadNull hexec (g := F0 m pc ls (.int i :: .null :: rest)) rfl (rest := rest) rfl (by rw [hb]; exact hdg) t st, q⟩
theorem vx_daloadN (hexec : p.tables.exec = Jvm.exec) (hb : c.code = cc) {i : Int32} (hdg : decode cc pc = .ok (.daload, 1)) (k : vx_NoteN p l e R s m args below meth c H locs cells slots Q (F0 m pc ls rest)) : W p l e R s m args below meth c H locs cells slots Q (F0 m pc ls (.int i :: .null :: rest)) := by
  intro T hT X
  obtain ⟨t, st, q⟩ := k T hT X
  exact ⟨t, X.daloadNull hexec (g := F0 m pc ls (.int i :: .null :: rest)) rfl (rest := rest) rfl (by rw [hb]; exact hdg) t st, q⟩
theorem vx_aaloadN (hexec : p.tables.exec = Jvm.exec) (hb : c.code = cc) {i : Int32} (hdg : decode cc pc = .ok (.aaload, 1)) (k : vx_NoteN p l e R s m args below meth c H locs cells slots Q (F0 m pc ls rest)) : W p l e R s m args below meth c H locs cells slots Q (F0 m pc ls (.int i :: .null :: rest)) := by
  intro T hT X
  obtain ⟨t, st, q⟩ := k T hT X
  exact ⟨t, X.aaloadNull hexec (g := F0 m pc ls (.int i :: .null :: rest)) rfl (rest := rest) rfl (by rw [hb]; exact hdg) t st, q⟩
theorem vx_baloadN (hexec : p.tables.exec = Jvm.exec) (hb : c.code = cc) {i : Int32} (hdg : decode cc pc = .ok (.baload, 1)) (k : vx_NoteN p l e R s m args below meth c H locs cells slots Q (F0 m pc ls rest)) : W p l e R s m args below meth c H locs cells slots Q (F0 m pc ls (.int i :: .null :: rest)) := by
  intro T hT X
  obtain ⟨t, st, q⟩ := k T hT X
  exact ⟨t, X.baloadNull hexec (g := F0 m pc ls (.int i :: .null :: rest)) rfl (rest := rest) rfl (by rw [hb]; exact hdg) t st, q⟩
theorem vx_caloadN (hexec : p.tables.exec = Jvm.exec) (hb : c.code = cc) {i : Int32} (hdg : decode cc pc = .ok (.caload, 1)) (k : vx_NoteN p l e R s m args below meth c H locs cells slots Q (F0 m pc ls rest)) : W p l e R s m args below meth c H locs cells slots Q (F0 m pc ls (.int i :: .null :: rest)) := by
  intro T hT X
  obtain ⟨t, st, q⟩ := k T hT X
  exact ⟨t, X.caloadNull hexec (g := F0 m pc ls (.int i :: .null :: rest)) rfl (rest := rest) rfl (by rw [hb]; exact hdg) t st, q⟩
theorem vx_saloadN (hexec : p.tables.exec = Jvm.exec) (hb : c.code = cc) {i : Int32} (hdg : decode cc pc = .ok (.saload, 1)) (k : vx_NoteN p l e R s m args below meth c H locs cells slots Q (F0 m pc ls rest)) : W p l e R s m args below meth c H locs cells slots Q (F0 m pc ls (.int i :: .null :: rest)) := by
  intro T hT X
  obtain ⟨t, st, q⟩ := k T hT X
  exact ⟨t, X.saloadNull hexec (g := F0 m pc ls (.int i :: .null :: rest)) rfl (rest := rest) rfl (by rw [hb]; exact hdg) t st, q⟩
theorem vx_iastoreN (hexec : p.tables.exec = Jvm.exec) (hb : c.code = cc) {x : Int32} {i : Int32} (hdg : decode cc pc = .ok (.iastore, 1)) (k : vx_NoteN p l e R s m args below meth c H locs cells slots Q (F0 m pc ls rest)) : W p l e R s m args below meth c H locs cells slots Q (F0 m pc ls (.int x :: .int i :: .null :: rest)) := by
  intro T hT X
  obtain ⟨t, st, q⟩ := k T hT X
  exact ⟨t, X.iastoreNull hexec (g := F0 m pc ls (.int x :: .int i :: .null :: rest)) rfl (rest := rest) rfl (by rw [hb]; exact hdg) t st, q⟩
theorem vx_lastoreN (hexec : p.tables.exec = Jvm.exec) (hb : c.code = cc) {x : Int64} {i : Int32} (hdg : decode cc pc = .ok (.lastore, 1)) (k : vx_NoteN p l e R s m args below meth c H locs cells slots Q (F0 m pc ls rest)) : W p l e R s m args below meth c H locs cells slots Q (F0 m pc ls (.long x :: .int i :: .null :: rest)) := by
  intro T hT X
  obtain ⟨t, st, q⟩ := k T hT X
  exact ⟨t, X.lastoreNull hexec (g := F0 m pc ls (.long x :: .int i :: .null :: rest)) rfl (rest := rest) rfl (by rw [hb]; exact hdg) t st, q⟩
theorem vx_fastoreN (hexec : p.tables.exec = Jvm.exec) (hb : c.code = cc) {x : UInt32} {i : Int32} (hdg : decode cc pc = .ok (.fastore, 1)) (k : vx_NoteN p l e R s m args below meth c H locs cells slots Q (F0 m pc ls rest)) : W p l e R s m args below meth c H locs cells slots Q (F0 m pc ls (.float x :: .int i :: .null :: rest)) := by
  intro T hT X
  obtain ⟨t, st, q⟩ := k T hT X
  exact ⟨t, X.fastoreNull hexec (g := F0 m pc ls (.float x :: .int i :: .null :: rest)) rfl (rest := rest) rfl (by rw [hb]; exact hdg) t st, q⟩
theorem vx_dastoreN (hexec : p.tables.exec = Jvm.exec) (hb : c.code = cc) {x : UInt64} {i : Int32} (hdg : decode cc pc = .ok (.dastore, 1)) (k : vx_NoteN p l e R s m args below meth c H locs cells slots Q (F0 m pc ls rest)) : W p l e R s m args below meth c H locs cells slots Q (F0 m pc ls (.double x :: .int i :: .null :: rest)) := by
  intro T hT X
  obtain ⟨t, st, q⟩ := k T hT X
  exact ⟨t, X.dastoreNull hexec (g := F0 m pc ls (.double x :: .int i :: .null :: rest)) rfl (rest := rest) rfl (by rw [hb]; exact hdg) t st, q⟩
theorem vx_bastoreN (hexec : p.tables.exec = Jvm.exec) (hb : c.code = cc) {x : Int32} {i : Int32} (hdg : decode cc pc = .ok (.bastore, 1)) (k : vx_NoteN p l e R s m args below meth c H locs cells slots Q (F0 m pc ls rest)) : W p l e R s m args below meth c H locs cells slots Q (F0 m pc ls (.int x :: .int i :: .null :: rest)) := by
  intro T hT X
  obtain ⟨t, st, q⟩ := k T hT X
  exact ⟨t, X.bastoreNull hexec (g := F0 m pc ls (.int x :: .int i :: .null :: rest)) rfl (rest := rest) rfl (by rw [hb]; exact hdg) t st, q⟩
theorem vx_castoreN (hexec : p.tables.exec = Jvm.exec) (hb : c.code = cc) {x : Int32} {i : Int32} (hdg : decode cc pc = .ok (.castore, 1)) (k : vx_NoteN p l e R s m args below meth c H locs cells slots Q (F0 m pc ls rest)) : W p l e R s m args below meth c H locs cells slots Q (F0 m pc ls (.int x :: .int i :: .null :: rest)) := by
  intro T hT X
  obtain ⟨t, st, q⟩ := k T hT X
  exact ⟨t, X.castoreNull hexec (g := F0 m pc ls (.int x :: .int i :: .null :: rest)) rfl (rest := rest) rfl (by rw [hb]; exact hdg) t st, q⟩
theorem vx_sastoreN (hexec : p.tables.exec = Jvm.exec) (hb : c.code = cc) {x : Int32} {i : Int32} (hdg : decode cc pc = .ok (.sastore, 1)) (k : vx_NoteN p l e R s m args below meth c H locs cells slots Q (F0 m pc ls rest)) : W p l e R s m args below meth c H locs cells slots Q (F0 m pc ls (.int x :: .int i :: .null :: rest)) := by
  intro T hT X
  obtain ⟨t, st, q⟩ := k T hT X
  exact ⟨t, X.sastoreNull hexec (g := F0 m pc ls (.int x :: .int i :: .null :: rest)) rfl (rest := rest) rfl (by rw [hb]; exact hdg) t st, q⟩
theorem vx_invokeN {own C : String} {index maxL : Nat} {y : MethodName} {bytes : ByteArray} {ret : Option FieldType} (hexec : p.tables.exec = Jvm.exec) (hb : c.code = cc) (hown : s.vm.findClass own = some m.cls) (hlink : (Cond.methodLink own index y).before args s = true) (hinst : (Cond.instanceMethod y).before args s = true) (hcode : (Cond.code y bytes maxL ret).before args s = true) (hsel : (Cond.selects C y y).before args s = true)
    (hx : y.cls ≠ "java/lang/invoke/MethodHandle" ∧ y.cls ≠ "java/lang/invoke/VarHandle") {As : List Value} (hlen : (parseMethodDescriptor y.desc).map (fun d => d.parameters.length) = some As.length) (hdg : decode cc pc = .ok (.invokevirtual index, 3))
    (k : vx_NoteN p l e R s m args below meth c H locs cells slots Q (F0 m pc ls rest)) {st0 : List Value} (hst : st0 = As.reverse ++ .null :: rest) : W p l e R s m args below meth c H locs cells slots Q (F0 m pc ls st0) := by
  intro T hT X
  obtain ⟨r0, r, hn, hrm, hstR, hsigR⟩ := va_Decl.of hinst hcode
  obtain ⟨c2, r2, m2, q1, q2, q3, q4, kP, hkP, hkPi⟩ := Cond.selects_spec hsel
  cases hn.symm.trans q3
  have hl9 : As.length = r.sig.parameters.length := by
    rw [hsigR] at hlen
    exact (Option.some.inj hlen).symm
  obtain ⟨vm', X1, st1⟩ := X.invokevirtualNull hexec hown hlink hn hrm hstR hkP hkPi hx (g := F0 m pc ls st0) rfl (argsL := As) (rest := rest) hl9 hst (by rw [hb]; exact hdg)
  obtain ⟨t, st, q⟩ := k (T.setVm vm') hT X1
  exact ⟨t, st1 t st, q⟩
theorem vx_newarrayZ {atype : ArrayType} (hexec : p.tables.exec = Jvm.exec) (hb : c.code = cc) {n : Int32} (h0 : n < 0) (hdg : decode cc pc = .ok (.newarray atype, 2)) (k : ∀ tx : String, tx = toString n → vx_Note p l e R s m args below meth c H locs cells slots Q (F0 m pc ls rest) "java/lang/NegativeArraySizeException" tx) : W p l e R s m args below meth c H locs cells slots Q (F0 m pc ls (.int n :: rest)) := by
  intro T hT X
  obtain ⟨t, st, q⟩ := k _ rfl T hT X
  exact ⟨t, X.newarrayNegative hexec (g := F0 m pc ls (.int n :: rest)) rfl h0 (rest := rest) rfl (by rw [hb]; exact hdg) t st, q⟩
end
end VXM
/-! ===== END ===== -/
end
section
/-! ===== BEGIN printed: names, fields, word lists, decode rows ===== -/
def RX0 : String := "Fishpier$Boat"
def TX0 : u_T := fun k => match k with
  | 0 => ("Fishpier$Boat", "number", "I", true)
  | 1 => ("Fishpier$Boat", "left", "[I", true)
  | 2 => ("Fishpier$Boat", "given", "[I", true)
  | _ => ("Fishpier$Boat", "written", "[I", true)
def tyX0 : Nat → FieldType := fun k => match k with
  | 0 => .int
  | 1 => .array .int
  | 2 => .array .int
  | _ => .array .int
abbrev wsX00 : List Cond := u_ws RX0 TX0 4
theorem nmX0 : ∀ a, a < 4 → ∀ b, b < 4 → a ≠ b → (TX0 a).2.1 ≠ (TX0 b).2.1 := by decide +kernel
theorem tyX0_ok : ∀ k, k < 4 → parseFieldDescriptor (TX0 k).2.2.1 = some (tyX0 k) := by decide +kernel
abbrev cX0_init : ByteArray := prog_2_method_1_code
def yX0_init : MethodName := ⟨RX0, "<init>", "(IIIII)V"⟩
abbrev cX0_changeQuota : ByteArray := prog_2_method_2_code
def yX0_changeQuota : MethodName := ⟨RX0, "changeQuota", "(II)V"⟩
abbrev cX0_writeDown : ByteArray := prog_2_method_3_code
def yX0_writeDown : MethodName := ⟨RX0, "writeDown", "(I)V"⟩
abbrev cX0_leftAtEnd : ByteArray := prog_2_method_4_code
def yX0_leftAtEnd : MethodName := ⟨RX0, "leftAtEnd", "(II)I"⟩
def RX1 : String := "Fishpier$Buyer"
def TX1 : u_T := fun k => match k with
  | 0 => ("Fishpier$Buyer", "number", "I", true)
  | 1 => ("Fishpier$Buyer", "limits", "[I", true)
  | _ => ("Fishpier$Buyer", "money", "I", false)
def tyX1 : Nat → FieldType := fun k => match k with
  | 0 => .int
  | 1 => .array .int
  | _ => .int
abbrev wsX10 : List Cond := u_ws RX1 TX1 3
theorem nmX1 : ∀ a, a < 3 → ∀ b, b < 3 → a ≠ b → (TX1 a).2.1 ≠ (TX1 b).2.1 := by decide +kernel
theorem tyX1_ok : ∀ k, k < 3 → parseFieldDescriptor (TX1 k).2.2.1 = some (tyX1 k) := by decide +kernel
abbrev cX1_init : ByteArray := prog_3_method_1_code
def yX1_init : MethodName := ⟨RX1, "<init>", "(II)V"⟩
abbrev cX1_offerFor : ByteArray := prog_3_method_2_code
def yX1_offerFor : MethodName := ⟨RX1, "offerFor", "(LFishpier$Lot;)I"⟩
abbrev cX1_mostFor : ByteArray := prog_3_method_3_code
def yX1_mostFor : MethodName := ⟨RX1, "mostFor", "(LFishpier$Lot;)I"⟩
def RX2 : String := "Fishpier$Lot"
def TX2 : u_T := fun k => match k with
  | 0 => ("Fishpier$Lot", "number", "I", true)
  | 1 => ("Fishpier$Lot", "boatNumber", "I", true)
  | 2 => ("Fishpier$Lot", "species", "I", true)
  | 3 => ("Fishpier$Lot", "size", "I", true)
  | 4 => ("Fishpier$Lot", "kilograms", "I", true)
  | 5 => ("Fishpier$Lot", "isBoxed", "Z", true)
  | 6 => ("Fishpier$Lot", "state", "C", false)
  | 7 => ("Fishpier$Lot", "freshness", "F", false)
  | 8 => ("Fishpier$Lot", "iceKilograms", "I", false)
  | 9 => ("Fishpier$Lot", "owner", "LFishpier$Buyer;", false)
  | _ => ("Fishpier$Lot", "paid", "I", false)
def tyX2 : Nat → FieldType := fun k => match k with
  | 0 => .int
  | 1 => .int
  | 2 => .int
  | 3 => .int
  | 4 => .int
  | 5 => .boolean
  | 6 => .char
  | 7 => .float
  | 8 => .int
  | 9 => .object "Fishpier$Buyer"
  | _ => .int
abbrev wsX20 : List Cond := u_ws RX2 TX2 11
theorem nmX2 : ∀ a, a < 11 → ∀ b, b < 11 → a ≠ b → (TX2 a).2.1 ≠ (TX2 b).2.1 := by decide +kernel
theorem tyX2_ok : ∀ k, k < 11 → parseFieldDescriptor (TX2 k).2.2.1 = some (tyX2 k) := by decide +kernel
abbrev cX2_init : ByteArray := prog_4_method_1_code
def yX2_init : MethodName := ⟨RX2, "<init>", "(IIIIIZ)V"⟩
abbrev cX2_isAtPier : ByteArray := prog_4_method_2_code
def yX2_isAtPier : MethodName := ⟨RX2, "isAtPier", "()Z"⟩
abbrev cX2_wasSold : ByteArray := prog_4_method_3_code
def yX2_wasSold : MethodName := ⟨RX2, "wasSold", "()Z"⟩
abbrev cX2_iceForOneTick : ByteArray := prog_4_method_4_code
def yX2_iceForOneTick : MethodName := ⟨RX2, "iceForOneTick", "()I"⟩
abbrev cX2_ticksOfIce : ByteArray := prog_4_method_5_code
def yX2_ticksOfIce : MethodName := ⟨RX2, "ticksOfIce", "()I"⟩
abbrev cX2_age : ByteArray := prog_4_method_6_code
def yX2_age : MethodName := ⟨RX2, "age", "()V"⟩
def RX3 : String := "Fishpier$Truck"
def TX3 : u_T := fun k => match k with
  | 0 => ("Fishpier$Truck", "hour", "I", true)
  | 1 => ("Fishpier$Truck", "isClosed", "Z", true)
  | 2 => ("Fishpier$Truck", "freight", "[LFishpier$Lot;", true)
  | 3 => ("Fishpier$Truck", "loadedLots", "I", false)
  | _ => ("Fishpier$Truck", "roomLeft", "I", false)
def tyX3 : Nat → FieldType := fun k => match k with
  | 0 => .int
  | 1 => .boolean
  | 2 => .array (.object "Fishpier$Lot")
  | 3 => .int
  | _ => .int
abbrev wsX30 : List Cond := u_ws RX3 TX3 5
theorem nmX3 : ∀ a, a < 5 → ∀ b, b < 5 → a ≠ b → (TX3 a).2.1 ≠ (TX3 b).2.1 := by decide +kernel
theorem tyX3_ok : ∀ k, k < 5 → parseFieldDescriptor (TX3 k).2.2.1 = some (tyX3 k) := by decide +kernel
abbrev cX3_init : ByteArray := prog_5_method_1_code
def yX3_init : MethodName := ⟨RX3, "<init>", "(IIZ)V"⟩
abbrev cX3_hasPlaceFor : ByteArray := prog_5_method_2_code
def yX3_hasPlaceFor : MethodName := ⟨RX3, "hasPlaceFor", "(LFishpier$Lot;)Z"⟩
abbrev cX3_take : ByteArray := prog_5_method_3_code
def yX3_take : MethodName := ⟨RX3, "take", "(LFishpier$Lot;)V"⟩
def RX4 : String := "Fishpier"
def TX4 : u_T := fun k => match k with
  | 0 => ("Fishpier", "boats", "[LFishpier$Boat;", true)
  | 1 => ("Fishpier", "lots", "[LFishpier$Lot;", true)
  | 2 => ("Fishpier", "buyers", "[LFishpier$Buyer;", true)
  | 3 => ("Fishpier", "trucks", "[LFishpier$Truck;", true)
  | 4 => ("Fishpier", "boatCount", "I", false)
  | 5 => ("Fishpier", "lotCount", "I", false)
  | 6 => ("Fishpier", "buyerCount", "I", false)
  | 7 => ("Fishpier", "truckCount", "I", false)
  | 8 => ("Fishpier", "now", "I", false)
  | 9 => ("Fishpier", "today", "I", false)
  | 10 => ("Fishpier", "beyondQuotas", "I", false)
  | 11 => ("Fishpier", "clockStart", "I", false)
  | 12 => ("Fishpier", "clockStep", "I", false)
  | 13 => ("Fishpier", "clockReserve", "I", false)
  | _ => ("Fishpier", "takings", "J", false)
def tyX4 : Nat → FieldType := fun k => match k with
  | 0 => .array (.object "Fishpier$Boat")
  | 1 => .array (.object "Fishpier$Lot")
  | 2 => .array (.object "Fishpier$Buyer")
  | 3 => .array (.object "Fishpier$Truck")
  | 4 => .int
  | 5 => .int
  | 6 => .int
  | 7 => .int
  | 8 => .int
  | 9 => .int
  | 10 => .int
  | 11 => .int
  | 12 => .int
  | 13 => .int
  | _ => .long
abbrev wsX40 : List Cond := u_ws RX4 TX4 15
theorem nmX4 : ∀ a, a < 15 → ∀ b, b < 15 → a ≠ b → (TX4 a).2.1 ≠ (TX4 b).2.1 := by decide +kernel
theorem tyX4_ok : ∀ k, k < 15 → parseFieldDescriptor (TX4 k).2.2.1 = some (tyX4 k) := by decide +kernel
abbrev cX4_init : ByteArray := prog_1_method_1_code
def yX4_init : MethodName := ⟨RX4, "<init>", "()V"⟩
abbrev cX4_addBoat : ByteArray := prog_1_method_2_code
def yX4_addBoat : MethodName := ⟨RX4, "addBoat", "(IIII)I"⟩
abbrev cX4_land : ByteArray := prog_1_method_3_code
def yX4_land : MethodName := ⟨RX4, "land", "(IIIIZ)I"⟩
abbrev cX4_moveQuota : ByteArray := prog_1_method_4_code
def yX4_moveQuota : MethodName := ⟨RX4, "moveQuota", "(IIII)I"⟩
abbrev cX4_quota : ByteArray := prog_1_method_5_code
def yX4_quota : MethodName := ⟨RX4, "quota", "(II)I"⟩
abbrev cX4_quotaAt : ByteArray := prog_1_method_6_code
def yX4_quotaAt : MethodName := ⟨RX4, "quotaAt", "(III)I"⟩
abbrev cX4_endDay : ByteArray := prog_1_method_7_code
def yX4_endDay : MethodName := ⟨RX4, "endDay", "()I"⟩
abbrev cX4_beyond : ByteArray := prog_1_method_8_code
def yX4_beyond : MethodName := ⟨RX4, "beyond", "()I"⟩
abbrev cX4_weight : ByteArray := prog_1_method_9_code
def yX4_weight : MethodName := ⟨RX4, "weight", "(I)I"⟩
abbrev cX4_stateOf : ByteArray := prog_1_method_10_code
def yX4_stateOf : MethodName := ⟨RX4, "stateOf", "(I)C"⟩
abbrev cX4_fresh : ByteArray := prog_1_method_11_code
def yX4_fresh : MethodName := ⟨RX4, "fresh", "(I)F"⟩
abbrev cX4_freshBits : ByteArray := prog_1_method_12_code
def yX4_freshBits : MethodName := ⟨RX4, "freshBits", "(I)I"⟩
abbrev cX4_ice : ByteArray := prog_1_method_13_code
def yX4_ice : MethodName := ⟨RX4, "ice", "(II)I"⟩
abbrev cX4_iceOn : ByteArray := prog_1_method_14_code
def yX4_iceOn : MethodName := ⟨RX4, "iceOn", "(I)I"⟩
abbrev cX4_iceLasts : ByteArray := prog_1_method_15_code
def yX4_iceLasts : MethodName := ⟨RX4, "iceLasts", "(I)I"⟩
abbrev cX4_tick : ByteArray := prog_1_method_16_code
def yX4_tick : MethodName := ⟨RX4, "tick", "()I"⟩
abbrev cX4_time : ByteArray := prog_1_method_17_code
def yX4_time : MethodName := ⟨RX4, "time", "()I"⟩
abbrev cX4_addBuyer : ByteArray := prog_1_method_18_code
def yX4_addBuyer : MethodName := ⟨RX4, "addBuyer", "(I)I"⟩
abbrev cX4_setLimit : ByteArray := prog_1_method_19_code
def yX4_setLimit : MethodName := ⟨RX4, "setLimit", "(III)I"⟩
abbrev cX4_budget : ByteArray := prog_1_method_20_code
def yX4_budget : MethodName := ⟨RX4, "budget", "(I)I"⟩
abbrev cX4_setClock : ByteArray := prog_1_method_21_code
def yX4_setClock : MethodName := ⟨RX4, "setClock", "(III)I"⟩
abbrev cX4_offer : ByteArray := prog_1_method_22_code
def yX4_offer : MethodName := ⟨RX4, "offer", "(II)I"⟩
abbrev cX4_price : ByteArray := prog_1_method_23_code
def yX4_price : MethodName := ⟨RX4, "price", "(I)I"⟩
abbrev cX4_priceByBuyers : ByteArray := prog_1_method_24_code
def yX4_priceByBuyers : MethodName := ⟨RX4, "priceByBuyers", "(I)I"⟩
abbrev cX4_sell : ByteArray := prog_1_method_25_code
def yX4_sell : MethodName := ⟨RX4, "sell", "(I)I"⟩
abbrev cX4_buyerOf : ByteArray := prog_1_method_26_code
def yX4_buyerOf : MethodName := ⟨RX4, "buyerOf", "(I)I"⟩
abbrev cX4_paidFor : ByteArray := prog_1_method_27_code
def yX4_paidFor : MethodName := ⟨RX4, "paidFor", "(I)I"⟩
abbrev cX4_addTruck : ByteArray := prog_1_method_28_code
def yX4_addTruck : MethodName := ⟨RX4, "addTruck", "(IIZ)I"⟩
abbrev cX4_load : ByteArray := prog_1_method_29_code
def yX4_load : MethodName := ⟨RX4, "load", "(II)I"⟩
abbrev cX4_lotOn : ByteArray := prog_1_method_30_code
def yX4_lotOn : MethodName := ⟨RX4, "lotOn", "(II)I"⟩
abbrev cX4_income : ByteArray := prog_1_method_31_code
def yX4_income : MethodName := ⟨RX4, "income", "()J"⟩
abbrev cX4_incomeByLots : ByteArray := prog_1_method_32_code
def yX4_incomeByLots : MethodName := ⟨RX4, "incomeByLots", "()J"⟩
abbrev cX4_spoiled : ByteArray := prog_1_method_33_code
def yX4_spoiled : MethodName := ⟨RX4, "spoiled", "()I"⟩
abbrev cX4_soldShare : ByteArray := prog_1_method_34_code
def yX4_soldShare : MethodName := ⟨RX4, "soldShare", "()F"⟩
abbrev cX4_meanPrice : ByteArray := prog_1_method_35_code
def yX4_meanPrice : MethodName := ⟨RX4, "meanPrice", "()D"⟩
abbrev cX4_meanBits : ByteArray := prog_1_method_36_code
def yX4_meanBits : MethodName := ⟨RX4, "meanBits", "()J"⟩
abbrev cX4_isSound : ByteArray := prog_1_method_37_code
def yX4_isSound : MethodName := ⟨RX4, "isSound", "()Z"⟩
abbrev cX4_boatNumbered : ByteArray := prog_1_method_38_code
def yX4_boatNumbered : MethodName := ⟨RX4, "boatNumbered", "(I)LFishpier$Boat;"⟩
abbrev cX4_lotNumbered : ByteArray := prog_1_method_39_code
def yX4_lotNumbered : MethodName := ⟨RX4, "lotNumbered", "(I)LFishpier$Lot;"⟩
abbrev cX4_lotForSale : ByteArray := prog_1_method_40_code
def yX4_lotForSale : MethodName := ⟨RX4, "lotForSale", "(I)LFishpier$Lot;"⟩
abbrev cX4_buyerNumbered : ByteArray := prog_1_method_41_code
def yX4_buyerNumbered : MethodName := ⟨RX4, "buyerNumbered", "(I)LFishpier$Buyer;"⟩
abbrev cX4_truckNumbered : ByteArray := prog_1_method_42_code
def yX4_truckNumbered : MethodName := ⟨RX4, "truckNumbered", "(I)LFishpier$Truck;"⟩
abbrev cX4_checkSpecies : ByteArray := prog_1_method_43_code
def yX4_checkSpecies : MethodName := ⟨RX4, "checkSpecies", "(I)V"⟩
abbrev cX4_isSpecies : ByteArray := prog_1_method_44_code
def yX4_isSpecies : MethodName := ⟨RX4, "isSpecies", "(I)Z"⟩
abbrev cX4_isQuota : ByteArray := prog_1_method_45_code
def yX4_isQuota : MethodName := ⟨RX4, "isQuota", "(I)Z"⟩
abbrev cX4_isWithin : ByteArray := prog_1_method_46_code
def yX4_isWithin : MethodName := ⟨RX4, "isWithin", "(III)Z"⟩
abbrev cX4_priceOnClock : ByteArray := prog_1_method_47_code
def yX4_priceOnClock : MethodName := ⟨RX4, "priceOnClock", "(LFishpier$Lot;)I"⟩
abbrev cX4_greatestOfferFor : ByteArray := prog_1_method_48_code
def yX4_greatestOfferFor : MethodName := ⟨RX4, "greatestOfferFor", "(LFishpier$Lot;)I"⟩
abbrev cX4_bestTaker : ByteArray := prog_1_method_49_code
def yX4_bestTaker : MethodName := ⟨RX4, "bestTaker", "(LFishpier$Lot;I)LFishpier$Buyer;"⟩
abbrev cX4_priceFromBuyers : ByteArray := prog_1_method_50_code
def yX4_priceFromBuyers : MethodName := ⟨RX4, "priceFromBuyers", "(LFishpier$Lot;)I"⟩
abbrev cX4_greatestShownUpTo : ByteArray := prog_1_method_51_code
def yX4_greatestShownUpTo : MethodName := ⟨RX4, "greatestShownUpTo", "(I)I"⟩
abbrev cX4_deliverAll : ByteArray := prog_1_method_52_code
def yX4_deliverAll : MethodName := ⟨RX4, "deliverAll", "(LFishpier$Truck;)V"⟩
abbrev cX4_giveMoneyBack : ByteArray := prog_1_method_53_code
def yX4_giveMoneyBack : MethodName := ⟨RX4, "giveMoneyBack", "(LFishpier$Lot;)V"⟩
abbrev cX4_weightOfAllLots : ByteArray := prog_1_method_54_code
def yX4_weightOfAllLots : MethodName := ⟨RX4, "weightOfAllLots", "()I"⟩
abbrev cX4_weightOfSoldLots : ByteArray := prog_1_method_55_code
def yX4_weightOfSoldLots : MethodName := ⟨RX4, "weightOfSoldLots", "()I"⟩
abbrev cX4_meanOfSoldKilograms : ByteArray := prog_1_method_56_code
def yX4_meanOfSoldKilograms : MethodName := ⟨RX4, "meanOfSoldKilograms", "()D"⟩
abbrev cX4_arePricesSound : ByteArray := prog_1_method_57_code
def yX4_arePricesSound : MethodName := ⟨RX4, "arePricesSound", "()Z"⟩
abbrev cX4_areQuotasSound : ByteArray := prog_1_method_58_code
def yX4_areQuotasSound : MethodName := ⟨RX4, "areQuotasSound", "()Z"⟩
abbrev cX4_isQuotaSound : ByteArray := prog_1_method_59_code
def yX4_isQuotaSound : MethodName := ⟨RX4, "isQuotaSound", "(LFishpier$Boat;)Z"⟩
abbrev cX4_landedBy : ByteArray := prog_1_method_60_code
def yX4_landedBy : MethodName := ⟨RX4, "landedBy", "(LFishpier$Boat;I)I"⟩
abbrev cX4_bitsOfFreshness : ByteArray := prog_1_method_61_code
def yX4_bitsOfFreshness : MethodName := ⟨RX4, "bitsOfFreshness", "(F)I"⟩
abbrev cX4_bitsOfMean : ByteArray := prog_1_method_62_code
def yX4_bitsOfMean : MethodName := ⟨RX4, "bitsOfMean", "(D)J"⟩
def RX5 : String := "FishpierModel"
def TX5 : u_T := fun k => match k with
  | 0 => ("FishpierModel", "thrown", "I", false)
  | 1 => ("FishpierModel", "boats", "I", false)
  | 2 => ("FishpierModel", "quota", "[I", true)
  | 3 => ("FishpierModel", "written", "[I", true)
  | 4 => ("FishpierModel", "day", "I", false)
  | 5 => ("FishpierModel", "beyond", "I", false)
  | 6 => ("FishpierModel", "lots", "I", false)
  | 7 => ("FishpierModel", "species", "[I", true)
  | 8 => ("FishpierModel", "size", "[I", true)
  | 9 => ("FishpierModel", "weight", "[I", true)
  | 10 => ("FishpierModel", "boxed", "[Z", true)
  | 11 => ("FishpierModel", "state", "[C", true)
  | 12 => ("FishpierModel", "fresh", "[F", true)
  | 13 => ("FishpierModel", "ice", "[I", true)
  | 14 => ("FishpierModel", "buyer", "[I", true)
  | 15 => ("FishpierModel", "paid", "[I", true)
  | 16 => ("FishpierModel", "time", "I", false)
  | 17 => ("FishpierModel", "buyers", "I", false)
  | 18 => ("FishpierModel", "budget", "[I", true)
  | 19 => ("FishpierModel", "limit", "[I", true)
  | 20 => ("FishpierModel", "start", "I", false)
  | 21 => ("FishpierModel", "step", "I", false)
  | 22 => ("FishpierModel", "reserve", "I", false)
  | 23 => ("FishpierModel", "trucks", "I", false)
  | 24 => ("FishpierModel", "hour", "[I", true)
  | 25 => ("FishpierModel", "room", "[I", true)
  | 26 => ("FishpierModel", "closed", "[Z", true)
  | 27 => ("FishpierModel", "loaded", "[I", true)
  | 28 => ("FishpierModel", "lotOn", "[I", true)
  | _ => ("FishpierModel", "income", "J", false)
def tyX5 : Nat → FieldType := fun k => match k with
  | 0 => .int
  | 1 => .int
  | 2 => .array .int
  | 3 => .array .int
  | 4 => .int
  | 5 => .int
  | 6 => .int
  | 7 => .array .int
  | 8 => .array .int
  | 9 => .array .int
  | 10 => .array .boolean
  | 11 => .array .char
  | 12 => .array .float
  | 13 => .array .int
  | 14 => .array .int
  | 15 => .array .int
  | 16 => .int
  | 17 => .int
  | 18 => .array .int
  | 19 => .array .int
  | 20 => .int
  | 21 => .int
  | 22 => .int
  | 23 => .int
  | 24 => .array .int
  | 25 => .array .int
  | 26 => .array .boolean
  | 27 => .array .int
  | 28 => .array .int
  | _ => .long
abbrev wsX50 : List Cond := u_ws RX5 TX5 30
theorem nmX5 : ∀ a, a < 30 → ∀ b, b < 30 → a ≠ b → (TX5 a).2.1 ≠ (TX5 b).2.1 := by decide +kernel
theorem tyX5_ok : ∀ k, k < 30 → parseFieldDescriptor (TX5 k).2.2.1 = some (tyX5 k) := by decide +kernel
abbrev cX5_init : ByteArray := prog_7_method_1_code
def yX5_init : MethodName := ⟨RX5, "<init>", "()V"⟩
abbrev cX5_thrown : ByteArray := prog_7_method_2_code
def yX5_thrown : MethodName := ⟨RX5, "thrown", "()I"⟩
abbrev cX5_in : ByteArray := prog_7_method_3_code
def yX5_in : MethodName := ⟨RX5, "in", "(III)Z"⟩
abbrev cX5_goesOn : ByteArray := prog_7_method_4_code
def yX5_goesOn : MethodName := ⟨RX5, "goesOn", "(I)Z"⟩
abbrev cX5_isBoat : ByteArray := prog_7_method_5_code
def yX5_isBoat : MethodName := ⟨RX5, "isBoat", "(I)Z"⟩
abbrev cX5_isLot : ByteArray := prog_7_method_6_code
def yX5_isLot : MethodName := ⟨RX5, "isLot", "(I)Z"⟩
abbrev cX5_isBuyer : ByteArray := prog_7_method_7_code
def yX5_isBuyer : MethodName := ⟨RX5, "isBuyer", "(I)Z"⟩
abbrev cX5_isTruck : ByteArray := prog_7_method_8_code
def yX5_isTruck : MethodName := ⟨RX5, "isTruck", "(I)Z"⟩
abbrev cX5_isSpecies : ByteArray := prog_7_method_9_code
def yX5_isSpecies : MethodName := ⟨RX5, "isSpecies", "(I)Z"⟩
abbrev cX5_addBoat : ByteArray := prog_7_method_10_code
def yX5_addBoat : MethodName := ⟨RX5, "addBoat", "(IIII)I"⟩
abbrev cX5_land : ByteArray := prog_7_method_11_code
def yX5_land : MethodName := ⟨RX5, "land", "(IIIIZ)I"⟩
abbrev cX5_moveQuota : ByteArray := prog_7_method_12_code
def yX5_moveQuota : MethodName := ⟨RX5, "moveQuota", "(IIII)I"⟩
abbrev cX5_quota : ByteArray := prog_7_method_13_code
def yX5_quota : MethodName := ⟨RX5, "quota", "(II)I"⟩
abbrev cX5_quotaAt : ByteArray := prog_7_method_14_code
def yX5_quotaAt : MethodName := ⟨RX5, "quotaAt", "(III)I"⟩
abbrev cX5_endDay : ByteArray := prog_7_method_15_code
def yX5_endDay : MethodName := ⟨RX5, "endDay", "()I"⟩
abbrev cX5_beyond : ByteArray := prog_7_method_16_code
def yX5_beyond : MethodName := ⟨RX5, "beyond", "()I"⟩
abbrev cX5_weight : ByteArray := prog_7_method_17_code
def yX5_weight : MethodName := ⟨RX5, "weight", "(I)I"⟩
abbrev cX5_stateOf : ByteArray := prog_7_method_18_code
def yX5_stateOf : MethodName := ⟨RX5, "stateOf", "(I)C"⟩
abbrev cX5_fresh : ByteArray := prog_7_method_19_code
def yX5_fresh : MethodName := ⟨RX5, "fresh", "(I)F"⟩
abbrev cX5_freshBits : ByteArray := prog_7_method_20_code
def yX5_freshBits : MethodName := ⟨RX5, "freshBits", "(I)I"⟩
abbrev cX5_ice : ByteArray := prog_7_method_21_code
def yX5_ice : MethodName := ⟨RX5, "ice", "(II)I"⟩
abbrev cX5_iceOn : ByteArray := prog_7_method_22_code
def yX5_iceOn : MethodName := ⟨RX5, "iceOn", "(I)I"⟩
abbrev cX5_iceFor : ByteArray := prog_7_method_23_code
def yX5_iceFor : MethodName := ⟨RX5, "iceFor", "(I)I"⟩
abbrev cX5_iceLasts : ByteArray := prog_7_method_24_code
def yX5_iceLasts : MethodName := ⟨RX5, "iceLasts", "(I)I"⟩
abbrev cX5_ages : ByteArray := prog_7_method_25_code
def yX5_ages : MethodName := ⟨RX5, "ages", "(I)V"⟩
abbrev cX5_delivers : ByteArray := prog_7_method_26_code
def yX5_delivers : MethodName := ⟨RX5, "delivers", "(I)V"⟩
abbrev cX5_tick : ByteArray := prog_7_method_27_code
def yX5_tick : MethodName := ⟨RX5, "tick", "()I"⟩
abbrev cX5_time : ByteArray := prog_7_method_28_code
def yX5_time : MethodName := ⟨RX5, "time", "()I"⟩
abbrev cX5_addBuyer : ByteArray := prog_7_method_29_code
def yX5_addBuyer : MethodName := ⟨RX5, "addBuyer", "(I)I"⟩
abbrev cX5_setLimit : ByteArray := prog_7_method_30_code
def yX5_setLimit : MethodName := ⟨RX5, "setLimit", "(III)I"⟩
abbrev cX5_budget : ByteArray := prog_7_method_31_code
def yX5_budget : MethodName := ⟨RX5, "budget", "(I)I"⟩
abbrev cX5_setClock : ByteArray := prog_7_method_32_code
def yX5_setClock : MethodName := ⟨RX5, "setClock", "(III)I"⟩
abbrev cX5_offerOf : ByteArray := prog_7_method_33_code
def yX5_offerOf : MethodName := ⟨RX5, "offerOf", "(II)I"⟩
abbrev cX5_offer : ByteArray := prog_7_method_34_code
def yX5_offer : MethodName := ⟨RX5, "offer", "(II)I"⟩
abbrev cX5_takes : ByteArray := prog_7_method_35_code
def yX5_takes : MethodName := ⟨RX5, "takes", "(II)I"⟩
abbrev cX5_falls : ByteArray := prog_7_method_36_code
def yX5_falls : MethodName := ⟨RX5, "falls", "(I)I"⟩
abbrev cX5_saleFault : ByteArray := prog_7_method_37_code
def yX5_saleFault : MethodName := ⟨RX5, "saleFault", "(I)I"⟩
abbrev cX5_price : ByteArray := prog_7_method_38_code
def yX5_price : MethodName := ⟨RX5, "price", "(I)I"⟩
abbrev cX5_priceByBuyers : ByteArray := prog_7_method_39_code
def yX5_priceByBuyers : MethodName := ⟨RX5, "priceByBuyers", "(I)I"⟩
abbrev cX5_sell : ByteArray := prog_7_method_40_code
def yX5_sell : MethodName := ⟨RX5, "sell", "(I)I"⟩
abbrev cX5_isSold : ByteArray := prog_7_method_41_code
def yX5_isSold : MethodName := ⟨RX5, "isSold", "(I)Z"⟩
abbrev cX5_buyerOf : ByteArray := prog_7_method_42_code
def yX5_buyerOf : MethodName := ⟨RX5, "buyerOf", "(I)I"⟩
abbrev cX5_paidFor : ByteArray := prog_7_method_43_code
def yX5_paidFor : MethodName := ⟨RX5, "paidFor", "(I)I"⟩
abbrev cX5_addTruck : ByteArray := prog_7_method_44_code
def yX5_addTruck : MethodName := ⟨RX5, "addTruck", "(IIZ)I"⟩
abbrev cX5_load : ByteArray := prog_7_method_45_code
def yX5_load : MethodName := ⟨RX5, "load", "(II)I"⟩
abbrev cX5_lotOn : ByteArray := prog_7_method_46_code
def yX5_lotOn : MethodName := ⟨RX5, "lotOn", "(II)I"⟩
abbrev cX5_income : ByteArray := prog_7_method_47_code
def yX5_income : MethodName := ⟨RX5, "income", "()J"⟩
abbrev cX5_incomeByLots : ByteArray := prog_7_method_48_code
def yX5_incomeByLots : MethodName := ⟨RX5, "incomeByLots", "()J"⟩
abbrev cX5_spoiled : ByteArray := prog_7_method_49_code
def yX5_spoiled : MethodName := ⟨RX5, "spoiled", "()I"⟩
abbrev cX5_weights : ByteArray := prog_7_method_50_code
def yX5_weights : MethodName := ⟨RX5, "weights", "(Z)I"⟩
abbrev cX5_soldShare : ByteArray := prog_7_method_51_code
def yX5_soldShare : MethodName := ⟨RX5, "soldShare", "()F"⟩
abbrev cX5_meanPrice : ByteArray := prog_7_method_52_code
def yX5_meanPrice : MethodName := ⟨RX5, "meanPrice", "()D"⟩
abbrev cX5_meanBits : ByteArray := prog_7_method_53_code
def yX5_meanBits : MethodName := ⟨RX5, "meanBits", "()J"⟩
abbrev cX5_isSound : ByteArray := prog_7_method_54_code
def yX5_isSound : MethodName := ⟨RX5, "isSound", "()Z"⟩
def RJx145de : String := "java/io/Serializable"
def TJx145de : u_T := fun k => match k with
  | _ => ("", "", "", false)
def tyJx145de : Nat → FieldType := fun k => match k with
  | _ => .int
abbrev wsJx145de0 : List Cond := u_ws RJx145de TJx145de 0
theorem nmJx145de : ∀ a, a < 0 → ∀ b, b < 0 → a ≠ b → (TJx145de a).2.1 ≠ (TJx145de b).2.1 := by decide +kernel
theorem tyJx145de_ok : ∀ k, k < 0 → parseFieldDescriptor (TJx145de k).2.2.1 = some (tyJx145de k) := by decide +kernel
def RJx00060 : String := "java/lang/ArrayIndexOutOfBoundsException"
def TJx00060 : u_T := fun k => match k with
  | 0 => ("java/lang/Throwable", "backtrace", "Ljava/lang/Object;", false)
  | 1 => ("java/lang/Throwable", "detailMessage", "Ljava/lang/String;", false)
  | 2 => ("java/lang/Throwable", "cause", "Ljava/lang/Throwable;", false)
  | 3 => ("java/lang/Throwable", "stackTrace", "[Ljava/lang/StackTraceElement;", false)
  | 4 => ("java/lang/Throwable", "depth", "I", false)
  | _ => ("java/lang/Throwable", "suppressedExceptions", "Ljava/util/List;", false)
def tyJx00060 : Nat → FieldType := fun k => match k with
  | 0 => .object "java/lang/Object"
  | 1 => .object "java/lang/String"
  | 2 => .object "java/lang/Throwable"
  | 3 => .array (.object "java/lang/StackTraceElement")
  | 4 => .int
  | _ => .object "java/util/List"
abbrev wsJx000600 : List Cond := u_ws RJx00060 TJx00060 6
theorem nmJx00060 : ∀ a, a < 6 → ∀ b, b < 6 → a ≠ b → (TJx00060 a).2.1 ≠ (TJx00060 b).2.1 := by decide +kernel
theorem tyJx00060_ok : ∀ k, k < 6 → parseFieldDescriptor (TJx00060 k).2.2.1 = some (tyJx00060 k) := by decide +kernel
abbrev cJx00060_init_a7421 : ByteArray := prog_10_method_2_code
def yJx00060_init_a7421 : MethodName := ⟨RJx00060, "<init>", "(Ljava/lang/String;)V"⟩
def RJxb160c : String := "java/lang/Comparable"
def TJxb160c : u_T := fun k => match k with
  | _ => ("", "", "", false)
def tyJxb160c : Nat → FieldType := fun k => match k with
  | _ => .int
abbrev wsJxb160c0 : List Cond := u_ws RJxb160c TJxb160c 0
theorem nmJxb160c : ∀ a, a < 0 → ∀ b, b < 0 → a ≠ b → (TJxb160c a).2.1 ≠ (TJxb160c b).2.1 := by decide +kernel
theorem tyJxb160c_ok : ∀ k, k < 0 → parseFieldDescriptor (TJxb160c k).2.2.1 = some (tyJxb160c k) := by decide +kernel
def RJxe99ae : String := "java/lang/Double"
def TJxe99ae : u_T := fun k => match k with
  | _ => ("", "", "", false)
def tyJxe99ae : Nat → FieldType := fun k => match k with
  | _ => .int
abbrev wsJxe99ae0 : List Cond := u_ws RJxe99ae TJxe99ae 0
theorem nmJxe99ae : ∀ a, a < 0 → ∀ b, b < 0 → a ≠ b → (TJxe99ae a).2.1 ≠ (TJxe99ae b).2.1 := by decide +kernel
theorem tyJxe99ae_ok : ∀ k, k < 0 → parseFieldDescriptor (TJxe99ae k).2.2.1 = some (tyJxe99ae k) := by decide +kernel
abbrev cJxe99ae_isNaN_b9ae7 : ByteArray := prog_12_method_6_code
def yJxe99ae_isNaN_b9ae7 : MethodName := ⟨RJxe99ae, "isNaN", "(D)Z"⟩
abbrev cJxe99ae_doubleToLongBits_ccdee : ByteArray := prog_12_method_23_code
def yJxe99ae_doubleToLongBits_ccdee : MethodName := ⟨RJxe99ae, "doubleToLongBits", "(D)J"⟩
def RJxf58ca : String := "java/lang/Float"
def TJxf58ca : u_T := fun k => match k with
  | _ => ("", "", "", false)
def tyJxf58ca : Nat → FieldType := fun k => match k with
  | _ => .int
abbrev wsJxf58ca0 : List Cond := u_ws RJxf58ca TJxf58ca 0
theorem nmJxf58ca : ∀ a, a < 0 → ∀ b, b < 0 → a ≠ b → (TJxf58ca a).2.1 ≠ (TJxf58ca b).2.1 := by decide +kernel
theorem tyJxf58ca_ok : ∀ k, k < 0 → parseFieldDescriptor (TJxf58ca k).2.2.1 = some (tyJxf58ca k) := by decide +kernel
abbrev cJxf58ca_isNaN_12338 : ByteArray := prog_14_method_6_code
def yJxf58ca_isNaN_12338 : MethodName := ⟨RJxf58ca, "isNaN", "(F)Z"⟩
abbrev cJxf58ca_floatToIntBits_5c35a : ByteArray := prog_14_method_24_code
def yJxf58ca_floatToIntBits_5c35a : MethodName := ⟨RJxf58ca, "floatToIntBits", "(F)I"⟩
def RJ9 : String := "java/lang/Math"
def TJ9 : u_T := fun k => match k with
  | _ => ("", "", "", false)
def tyJ9 : Nat → FieldType := fun k => match k with
  | _ => .int
abbrev wsJ90 : List Cond := u_ws RJ9 TJ9 0
theorem nmJ9 : ∀ a, a < 0 → ∀ b, b < 0 → a ≠ b → (TJ9 a).2.1 ≠ (TJ9 b).2.1 := by decide +kernel
theorem tyJ9_ok : ∀ k, k < 0 → parseFieldDescriptor (TJ9 k).2.2.1 = some (tyJ9 k) := by decide +kernel
abbrev cJ9_max_7cf53 : ByteArray := prog_18_method_65_code
def yJ9_max_7cf53 : MethodName := ⟨RJ9, "max", "(II)I"⟩
abbrev cJ9_min_7cf53 : ByteArray := prog_18_method_69_code
def yJ9_min_7cf53 : MethodName := ⟨RJ9, "min", "(II)I"⟩
def RJxd2413 : String := "java/lang/Number"
def TJxd2413 : u_T := fun k => match k with
  | _ => ("", "", "", false)
def tyJxd2413 : Nat → FieldType := fun k => match k with
  | _ => .int
abbrev wsJxd24130 : List Cond := u_ws RJxd2413 TJxd2413 0
theorem nmJxd2413 : ∀ a, a < 0 → ∀ b, b < 0 → a ≠ b → (TJxd2413 a).2.1 ≠ (TJxd2413 b).2.1 := by decide +kernel
theorem tyJxd2413_ok : ∀ k, k < 0 → parseFieldDescriptor (TJxd2413 k).2.2.1 = some (tyJxd2413 k) := by decide +kernel
def RJ0 : String := "java/lang/String"
def TJ0 : u_T := fun k => match k with
  | 0 => ("java/lang/String", "value", "[B", true)
  | _ => ("java/lang/String", "coder", "B", true)
def tyJ0 : Nat → FieldType := fun k => match k with
  | 0 => .array .byte
  | _ => .byte
abbrev wsJ00 : List Cond := u_ws RJ0 TJ0 2
theorem nmJ0 : ∀ a, a < 2 → ∀ b, b < 2 → a ≠ b → (TJ0 a).2.1 ≠ (TJ0 b).2.1 := by decide +kernel
theorem tyJ0_ok : ∀ k, k < 2 → parseFieldDescriptor (TJ0 k).2.2.1 = some (tyJ0 k) := by decide +kernel
def RJ10 : String := "java/lang/System"
def TJ10 : u_T := fun k => match k with
  | _ => ("", "", "", false)
def tyJ10 : Nat → FieldType := fun k => match k with
  | _ => .int
abbrev wsJ100 : List Cond := u_ws RJ10 TJ10 0
theorem nmJ10 : ∀ a, a < 0 → ∀ b, b < 0 → a ≠ b → (TJ10 a).2.1 ≠ (TJ10 b).2.1 := by decide +kernel
theorem tyJ10_ok : ∀ k, k < 0 → parseFieldDescriptor (TJ10 k).2.2.1 = some (tyJ10 k) := by decide +kernel
def RJxfd54e : String := "java/lang/constant/Constable"
def TJxfd54e : u_T := fun k => match k with
  | _ => ("", "", "", false)
def tyJxfd54e : Nat → FieldType := fun k => match k with
  | _ => .int
abbrev wsJxfd54e0 : List Cond := u_ws RJxfd54e TJxfd54e 0
theorem nmJxfd54e : ∀ a, a < 0 → ∀ b, b < 0 → a ≠ b → (TJxfd54e a).2.1 ≠ (TJxfd54e b).2.1 := by decide +kernel
theorem tyJxfd54e_ok : ∀ k, k < 0 → parseFieldDescriptor (TJxfd54e k).2.2.1 = some (tyJxfd54e k) := by decide +kernel
def RJx3cf43 : String := "java/lang/constant/ConstantDesc"
def TJx3cf43 : u_T := fun k => match k with
  | _ => ("", "", "", false)
def tyJx3cf43 : Nat → FieldType := fun k => match k with
  | _ => .int
abbrev wsJx3cf430 : List Cond := u_ws RJx3cf43 TJx3cf43 0
theorem nmJx3cf43 : ∀ a, a < 0 → ∀ b, b < 0 → a ≠ b → (TJx3cf43 a).2.1 ≠ (TJx3cf43 b).2.1 := by decide +kernel
theorem tyJx3cf43_ok : ∀ k, k < 0 → parseFieldDescriptor (TJx3cf43 k).2.2.1 = some (tyJx3cf43 k) := by decide +kernel
def RL : String := "FishpierLaw"
abbrev cL_addBoat : ByteArray := method_3_code
def yL_addBoat : MethodName := ⟨RL, "addBoat", "(LFishpier;IIII[J)I"⟩
abbrev cL_land : ByteArray := method_4_code
def yL_land : MethodName := ⟨RL, "land", "(LFishpier;IIIIZ[J)I"⟩
abbrev cL_moveQuota : ByteArray := method_5_code
def yL_moveQuota : MethodName := ⟨RL, "moveQuota", "(LFishpier;IIII[J)I"⟩
abbrev cL_quota : ByteArray := method_6_code
def yL_quota : MethodName := ⟨RL, "quota", "(LFishpier;II[J)I"⟩
abbrev cL_quotaAt : ByteArray := method_7_code
def yL_quotaAt : MethodName := ⟨RL, "quotaAt", "(LFishpier;III[J)I"⟩
abbrev cL_endDay : ByteArray := method_8_code
def yL_endDay : MethodName := ⟨RL, "endDay", "(LFishpier;[J)I"⟩
abbrev cL_weight : ByteArray := method_9_code
def yL_weight : MethodName := ⟨RL, "weight", "(LFishpier;I[J)I"⟩
abbrev cL_stateOf : ByteArray := method_10_code
def yL_stateOf : MethodName := ⟨RL, "stateOf", "(LFishpier;I[J)I"⟩
abbrev cL_fresh : ByteArray := method_11_code
def yL_fresh : MethodName := ⟨RL, "fresh", "(LFishpier;I[D)I"⟩
abbrev cL_freshBits : ByteArray := method_12_code
def yL_freshBits : MethodName := ⟨RL, "freshBits", "(LFishpier;I[J)I"⟩
abbrev cL_ice : ByteArray := method_13_code
def yL_ice : MethodName := ⟨RL, "ice", "(LFishpier;II[J)I"⟩
abbrev cL_iceOn : ByteArray := method_14_code
def yL_iceOn : MethodName := ⟨RL, "iceOn", "(LFishpier;I[J)I"⟩
abbrev cL_iceLasts : ByteArray := method_15_code
def yL_iceLasts : MethodName := ⟨RL, "iceLasts", "(LFishpier;I[J)I"⟩
abbrev cL_addBuyer : ByteArray := method_16_code
def yL_addBuyer : MethodName := ⟨RL, "addBuyer", "(LFishpier;I[J)I"⟩
abbrev cL_setLimit : ByteArray := method_17_code
def yL_setLimit : MethodName := ⟨RL, "setLimit", "(LFishpier;III[J)I"⟩
abbrev cL_budget : ByteArray := method_18_code
def yL_budget : MethodName := ⟨RL, "budget", "(LFishpier;I[J)I"⟩
abbrev cL_setClock : ByteArray := method_19_code
def yL_setClock : MethodName := ⟨RL, "setClock", "(LFishpier;III[J)I"⟩
abbrev cL_offer : ByteArray := method_20_code
def yL_offer : MethodName := ⟨RL, "offer", "(LFishpier;II[J)I"⟩
abbrev cL_price : ByteArray := method_21_code
def yL_price : MethodName := ⟨RL, "price", "(LFishpier;I[J)I"⟩
abbrev cL_priceByBuyers : ByteArray := method_22_code
def yL_priceByBuyers : MethodName := ⟨RL, "priceByBuyers", "(LFishpier;I[J)I"⟩
abbrev cL_sell : ByteArray := method_23_code
def yL_sell : MethodName := ⟨RL, "sell", "(LFishpier;I[J)I"⟩
abbrev cL_buyerOf : ByteArray := method_24_code
def yL_buyerOf : MethodName := ⟨RL, "buyerOf", "(LFishpier;I[J)I"⟩
abbrev cL_paidFor : ByteArray := method_25_code
def yL_paidFor : MethodName := ⟨RL, "paidFor", "(LFishpier;I[J)I"⟩
abbrev cL_addTruck : ByteArray := method_26_code
def yL_addTruck : MethodName := ⟨RL, "addTruck", "(LFishpier;IIZ[J)I"⟩
abbrev cL_load : ByteArray := method_27_code
def yL_load : MethodName := ⟨RL, "load", "(LFishpier;II[J)I"⟩
abbrev cL_lotOn : ByteArray := method_28_code
def yL_lotOn : MethodName := ⟨RL, "lotOn", "(LFishpier;II[J)I"⟩
abbrev cL_soldShare : ByteArray := method_29_code
def yL_soldShare : MethodName := ⟨RL, "soldShare", "(LFishpier;[D)I"⟩
abbrev cL_meanPrice : ByteArray := method_30_code
def yL_meanPrice : MethodName := ⟨RL, "meanPrice", "(LFishpier;[D)I"⟩
abbrev cL_meanBits : ByteArray := method_31_code
def yL_meanBits : MethodName := ⟨RL, "meanBits", "(LFishpier;[J)I"⟩
abbrev cL_law : ByteArray := code
def yL_law : MethodName := ⟨RL, "law", "([I)Z"⟩
abbrev vwCl : List vw_C := [(RJ0, TJ0, 2), (RJx00060, TJx00060, 6), (RX0, TX0, 4), (RX1, TX1, 3), (RX2, TX2, 11), (RX3, TX3, 5), (RX4, TX4, 15), (RX5, TX5, 30)]
/-- the good words of the tables, one list for every method -/
def LW : List Cond := lw_tbl.filter goodWord
theorem lw_at {w : Cond} (i : Nat) (h : lw_tbl[i]? = some w) (g : goodWord w = true) : w ∈ LW := List.mem_filter.mpr ⟨List.mem_of_getElem? h, g⟩
theorem lw_good : ∀ w ∈ LW, (w.onTables && w.keeps) = true ∨ ∃ ty, w = .arrayClass ty := fun _ h => good_of_word (List.mem_filter.mp h).2
theorem lw_sub : ∀ w ∈ LW, w ∈ lw_tbl := fun _ h => (List.mem_filter.mp h).1
end
section
theorem SE_X4_deliverAll : Cond.selects RX4 yX4_deliverAll yX4_deliverAll ∈ LW := lw_at 0 (by decide +kernel) (by decide +kernel)
theorem SE_X4_giveMoneyBack : Cond.selects RX4 yX4_giveMoneyBack yX4_giveMoneyBack ∈ LW := lw_at 1 (by decide +kernel) (by decide +kernel)
theorem SE_X4_arePricesSound : Cond.selects RX4 yX4_arePricesSound yX4_arePricesSound ∈ LW := lw_at 2 (by decide +kernel) (by decide +kernel)
theorem SE_X4_priceOnClock : Cond.selects RX4 yX4_priceOnClock yX4_priceOnClock ∈ LW := lw_at 3 (by decide +kernel) (by decide +kernel)
theorem SE_X4_greatestOfferFor : Cond.selects RX4 yX4_greatestOfferFor yX4_greatestOfferFor ∈ LW := lw_at 4 (by decide +kernel) (by decide +kernel)
theorem SE_X4_bestTaker : Cond.selects RX4 yX4_bestTaker yX4_bestTaker ∈ LW := lw_at 5 (by decide +kernel) (by decide +kernel)
theorem SE_X4_priceFromBuyers : Cond.selects RX4 yX4_priceFromBuyers yX4_priceFromBuyers ∈ LW := lw_at 6 (by decide +kernel) (by decide +kernel)
theorem SE_X4_greatestShownUpTo : Cond.selects RX4 yX4_greatestShownUpTo yX4_greatestShownUpTo ∈ LW := lw_at 7 (by decide +kernel) (by decide +kernel)
theorem SE_X4_areQuotasSound : Cond.selects RX4 yX4_areQuotasSound yX4_areQuotasSound ∈ LW := lw_at 8 (by decide +kernel) (by decide +kernel)
theorem SE_X4_isQuotaSound : Cond.selects RX4 yX4_isQuotaSound yX4_isQuotaSound ∈ LW := lw_at 9 (by decide +kernel) (by decide +kernel)
theorem SE_X4_landedBy : Cond.selects RX4 yX4_landedBy yX4_landedBy ∈ LW := lw_at 10 (by decide +kernel) (by decide +kernel)
theorem SE_X4_boatNumbered : Cond.selects RX4 yX4_boatNumbered yX4_boatNumbered ∈ LW := lw_at 12 (by decide +kernel) (by decide +kernel)
theorem SE_X4_lotNumbered : Cond.selects RX4 yX4_lotNumbered yX4_lotNumbered ∈ LW := lw_at 13 (by decide +kernel) (by decide +kernel)
theorem SE_X4_buyerNumbered : Cond.selects RX4 yX4_buyerNumbered yX4_buyerNumbered ∈ LW := lw_at 14 (by decide +kernel) (by decide +kernel)
theorem SE_X4_lotForSale : Cond.selects RX4 yX4_lotForSale yX4_lotForSale ∈ LW := lw_at 15 (by decide +kernel) (by decide +kernel)
theorem SE_X4_truckNumbered : Cond.selects RX4 yX4_truckNumbered yX4_truckNumbered ∈ LW := lw_at 16 (by decide +kernel) (by decide +kernel)
theorem SE_X4_weightOfAllLots : Cond.selects RX4 yX4_weightOfAllLots yX4_weightOfAllLots ∈ LW := lw_at 17 (by decide +kernel) (by decide +kernel)
theorem SE_X4_weightOfSoldLots : Cond.selects RX4 yX4_weightOfSoldLots yX4_weightOfSoldLots ∈ LW := lw_at 18 (by decide +kernel) (by decide +kernel)
theorem SE_X4_meanOfSoldKilograms : Cond.selects RX4 yX4_meanOfSoldKilograms yX4_meanOfSoldKilograms ∈ LW := lw_at 19 (by decide +kernel) (by decide +kernel)
theorem SE_X5_goesOn : Cond.selects RX5 yX5_goesOn yX5_goesOn ∈ LW := lw_at 20 (by decide +kernel) (by decide +kernel)
theorem SE_X5_isBoat : Cond.selects RX5 yX5_isBoat yX5_isBoat ∈ LW := lw_at 21 (by decide +kernel) (by decide +kernel)
theorem SE_X5_isLot : Cond.selects RX5 yX5_isLot yX5_isLot ∈ LW := lw_at 22 (by decide +kernel) (by decide +kernel)
theorem SE_X5_iceFor : Cond.selects RX5 yX5_iceFor yX5_iceFor ∈ LW := lw_at 23 (by decide +kernel) (by decide +kernel)
theorem SE_X5_ages : Cond.selects RX5 yX5_ages yX5_ages ∈ LW := lw_at 24 (by decide +kernel) (by decide +kernel)
theorem SE_X5_delivers : Cond.selects RX5 yX5_delivers yX5_delivers ∈ LW := lw_at 25 (by decide +kernel) (by decide +kernel)
theorem SE_X5_isBuyer : Cond.selects RX5 yX5_isBuyer yX5_isBuyer ∈ LW := lw_at 26 (by decide +kernel) (by decide +kernel)
theorem SE_X5_offerOf : Cond.selects RX5 yX5_offerOf yX5_offerOf ∈ LW := lw_at 27 (by decide +kernel) (by decide +kernel)
theorem SE_X5_saleFault : Cond.selects RX5 yX5_saleFault yX5_saleFault ∈ LW := lw_at 28 (by decide +kernel) (by decide +kernel)
theorem SE_X5_falls : Cond.selects RX5 yX5_falls yX5_falls ∈ LW := lw_at 29 (by decide +kernel) (by decide +kernel)
theorem SE_X5_takes : Cond.selects RX5 yX5_takes yX5_takes ∈ LW := lw_at 30 (by decide +kernel) (by decide +kernel)
theorem SE_X5_isTruck : Cond.selects RX5 yX5_isTruck yX5_isTruck ∈ LW := lw_at 31 (by decide +kernel) (by decide +kernel)
theorem SE_X5_weights : Cond.selects RX5 yX5_weights yX5_weights ∈ LW := lw_at 32 (by decide +kernel) (by decide +kernel)
theorem SE_X5_isSold : Cond.selects RX5 yX5_isSold yX5_isSold ∈ LW := lw_at 33 (by decide +kernel) (by decide +kernel)
theorem IN_L : Cond.initialized RL ∈ LW := lw_at 34 (by decide +kernel) (by decide +kernel)
theorem IN_X4 : Cond.initialized RX4 ∈ LW := lw_at 35 (by decide +kernel) (by decide +kernel)
theorem IN_X5 : Cond.initialized RX5 ∈ LW := lw_at 36 (by decide +kernel) (by decide +kernel)
theorem IN_E_Throwable : Cond.initialized "java/lang/Throwable" ∈ LW := lw_at 37 (by decide +kernel) (by decide +kernel)
theorem IN_E_Exception : Cond.initialized "java/lang/Exception" ∈ LW := lw_at 38 (by decide +kernel) (by decide +kernel)
theorem IN_E_RuntimeException : Cond.initialized "java/lang/RuntimeException" ∈ LW := lw_at 39 (by decide +kernel) (by decide +kernel)
theorem IN_E_IllegalArgumentException : Cond.initialized "java/lang/IllegalArgumentException" ∈ LW := lw_at 40 (by decide +kernel) (by decide +kernel)
theorem IN_E_IllegalStateException : Cond.initialized "java/lang/IllegalStateException" ∈ LW := lw_at 41 (by decide +kernel) (by decide +kernel)
theorem IN_X0 : Cond.initialized RX0 ∈ LW := lw_at 42 (by decide +kernel) (by decide +kernel)
theorem IN_JS : Cond.initialized RJ10 ∈ LW := lw_at 43 (by decide +kernel) (by decide +kernel)
theorem IN_E_IndexOutOfBoundsException : Cond.initialized "java/lang/IndexOutOfBoundsException" ∈ LW := lw_at 44 (by decide +kernel) (by decide +kernel)
theorem IN_E_ArrayIndexOutOfBoundsException : Cond.initialized RJx00060 ∈ LW := lw_at 45 (by decide +kernel) (by decide +kernel)
theorem IN_E_String : Cond.initialized RJ0 ∈ LW := lw_at 46 (by decide +kernel) (by decide +kernel)
theorem IN_E_UnsupportedOperationException : Cond.initialized "java/lang/UnsupportedOperationException" ∈ LW := lw_at 47 (by decide +kernel) (by decide +kernel)
theorem IN_JM : Cond.initialized RJ9 ∈ LW := lw_at 48 (by decide +kernel) (by decide +kernel)
theorem IN_X2 : Cond.initialized RX2 ∈ LW := lw_at 49 (by decide +kernel) (by decide +kernel)
theorem IN_E_NoSuchElementException : Cond.initialized "java/util/NoSuchElementException" ∈ LW := lw_at 50 (by decide +kernel) (by decide +kernel)
theorem IN_E_Number : Cond.initialized RJxd2413 ∈ LW := lw_at 51 (by decide +kernel) (by decide +kernel)
theorem IN_JF : Cond.initialized RJxf58ca ∈ LW := lw_at 52 (by decide +kernel) (by decide +kernel)
theorem IN_X1 : Cond.initialized RX1 ∈ LW := lw_at 53 (by decide +kernel) (by decide +kernel)
theorem IN_X3 : Cond.initialized RX3 ∈ LW := lw_at 54 (by decide +kernel) (by decide +kernel)
theorem IN_E_ArithmeticException : Cond.initialized "java/lang/ArithmeticException" ∈ LW := lw_at 55 (by decide +kernel) (by decide +kernel)
theorem IN_JD : Cond.initialized RJxe99ae ∈ LW := lw_at 56 (by decide +kernel) (by decide +kernel)
theorem CL_L_8 : Cond.classLink RL 8 RX4 ∈ LW := lw_at 57 (by decide +kernel) (by decide +kernel)
theorem NE_X4 : Cond.instantiable RX4 15 ∈ LW := lw_at 58 (by decide +kernel) (by decide +kernel)
theorem ML_L_120 : Cond.methodLink RL 120 yX4_init ∈ LW := lw_at 59 (by decide +kernel) (by decide +kernel)
theorem IM_X4_init : Cond.instanceMethod yX4_init ∈ LW := lw_at 60 (by decide +kernel) (by decide +kernel)
theorem CO_X4_init : Cond.code yX4_init cX4_init 1 none ∈ LW := lw_at 61 (by decide +kernel) (by decide +kernel)
theorem ML_X4_1 : Cond.methodLink RX4 1 ⟨"java/lang/Object", "<init>", "()V"⟩ ∈ LW := lw_at 62 (by decide +kernel) (by decide +kernel)
theorem IM_JO_init : Cond.instanceMethod ⟨"java/lang/Object", "<init>", "()V"⟩ ∈ LW := lw_at 63 (by decide +kernel) (by decide +kernel)
theorem CO_JO_init : Cond.code ⟨"java/lang/Object", "<init>", "()V"⟩ object_method_1_code 1 none ∈ LW := lw_at 64 (by decide +kernel) (by decide +kernel)
theorem CL_X4_9 : Cond.classLink RX4 9 RX0 ∈ LW := lw_at 65 (by decide +kernel) (by decide +kernel)
theorem CL_X4_15 : Cond.classLink RX4 15 RX2 ∈ LW := lw_at 67 (by decide +kernel) (by decide +kernel)
theorem CL_X4_21 : Cond.classLink RX4 21 RX1 ∈ LW := lw_at 69 (by decide +kernel) (by decide +kernel)
theorem CL_X4_27 : Cond.classLink RX4 27 RX3 ∈ LW := lw_at 71 (by decide +kernel) (by decide +kernel)
theorem FL_X4_11 : Cond.fieldLink RX4 11 RX4 "boats" "[LFishpier$Boat;" ∈ LW := lw_at 73 (by decide +kernel) (by decide +kernel)
theorem FL_X4_17 : Cond.fieldLink RX4 17 RX4 "lots" "[LFishpier$Lot;" ∈ LW := lw_at 74 (by decide +kernel) (by decide +kernel)
theorem FL_X4_23 : Cond.fieldLink RX4 23 RX4 "buyers" "[LFishpier$Buyer;" ∈ LW := lw_at 75 (by decide +kernel) (by decide +kernel)
theorem FL_X4_29 : Cond.fieldLink RX4 29 RX4 "trucks" "[LFishpier$Truck;" ∈ LW := lw_at 76 (by decide +kernel) (by decide +kernel)
theorem FL_X4_33 : Cond.fieldLink RX4 33 RX4 "boatCount" "I" ∈ LW := lw_at 77 (by decide +kernel) (by decide +kernel)
theorem FL_X4_37 : Cond.fieldLink RX4 37 RX4 "lotCount" "I" ∈ LW := lw_at 78 (by decide +kernel) (by decide +kernel)
theorem FL_X4_40 : Cond.fieldLink RX4 40 RX4 "buyerCount" "I" ∈ LW := lw_at 79 (by decide +kernel) (by decide +kernel)
theorem FL_X4_43 : Cond.fieldLink RX4 43 RX4 "truckCount" "I" ∈ LW := lw_at 80 (by decide +kernel) (by decide +kernel)
theorem FL_X4_46 : Cond.fieldLink RX4 46 RX4 "now" "I" ∈ LW := lw_at 81 (by decide +kernel) (by decide +kernel)
theorem FL_X4_49 : Cond.fieldLink RX4 49 RX4 "today" "I" ∈ LW := lw_at 82 (by decide +kernel) (by decide +kernel)
theorem FL_X4_52 : Cond.fieldLink RX4 52 RX4 "beyondQuotas" "I" ∈ LW := lw_at 83 (by decide +kernel) (by decide +kernel)
theorem FL_X4_55 : Cond.fieldLink RX4 55 RX4 "clockStart" "I" ∈ LW := lw_at 84 (by decide +kernel) (by decide +kernel)
theorem FL_X4_58 : Cond.fieldLink RX4 58 RX4 "clockStep" "I" ∈ LW := lw_at 85 (by decide +kernel) (by decide +kernel)
theorem FL_X4_61 : Cond.fieldLink RX4 61 RX4 "clockReserve" "I" ∈ LW := lw_at 86 (by decide +kernel) (by decide +kernel)
theorem FL_X4_64 : Cond.fieldLink RX4 64 RX4 "takings" "J" ∈ LW := lw_at 87 (by decide +kernel) (by decide +kernel)
theorem LA_X4_boats : Cond.laysFinal RX4 RX4 "boats" "[LFishpier$Boat;" ∈ LW := lw_at 88 (by decide +kernel) (by decide +kernel)
theorem LA_X4_lots : Cond.laysFinal RX4 RX4 "lots" "[LFishpier$Lot;" ∈ LW := lw_at 90 (by decide +kernel) (by decide +kernel)
theorem LA_X4_buyers : Cond.laysFinal RX4 RX4 "buyers" "[LFishpier$Buyer;" ∈ LW := lw_at 92 (by decide +kernel) (by decide +kernel)
theorem LA_X4_trucks : Cond.laysFinal RX4 RX4 "trucks" "[LFishpier$Truck;" ∈ LW := lw_at 94 (by decide +kernel) (by decide +kernel)
theorem LA_X4_boatCount : Cond.lays RX4 RX4 "boatCount" "I" ∈ LW := lw_at 96 (by decide +kernel) (by decide +kernel)
theorem LA_X4_lotCount : Cond.lays RX4 RX4 "lotCount" "I" ∈ LW := lw_at 98 (by decide +kernel) (by decide +kernel)
theorem LA_X4_buyerCount : Cond.lays RX4 RX4 "buyerCount" "I" ∈ LW := lw_at 100 (by decide +kernel) (by decide +kernel)
theorem LA_X4_truckCount : Cond.lays RX4 RX4 "truckCount" "I" ∈ LW := lw_at 102 (by decide +kernel) (by decide +kernel)
theorem LA_X4_now : Cond.lays RX4 RX4 "now" "I" ∈ LW := lw_at 104 (by decide +kernel) (by decide +kernel)
theorem LA_X4_today : Cond.lays RX4 RX4 "today" "I" ∈ LW := lw_at 106 (by decide +kernel) (by decide +kernel)
theorem LA_X4_beyondQuotas : Cond.lays RX4 RX4 "beyondQuotas" "I" ∈ LW := lw_at 108 (by decide +kernel) (by decide +kernel)
theorem LA_X4_clockStart : Cond.lays RX4 RX4 "clockStart" "I" ∈ LW := lw_at 110 (by decide +kernel) (by decide +kernel)
theorem LA_X4_clockStep : Cond.lays RX4 RX4 "clockStep" "I" ∈ LW := lw_at 112 (by decide +kernel) (by decide +kernel)
theorem LA_X4_clockReserve : Cond.lays RX4 RX4 "clockReserve" "I" ∈ LW := lw_at 114 (by decide +kernel) (by decide +kernel)
theorem LA_X4_takings : Cond.lays RX4 RX4 "takings" "J" ∈ LW := lw_at 116 (by decide +kernel) (by decide +kernel)
theorem ML_L_152 : Cond.methodLink RL 152 yX4_beyond ∈ LW := lw_at 119 (by decide +kernel) (by decide +kernel)
theorem IM_X4_beyond : Cond.instanceMethod yX4_beyond ∈ LW := lw_at 120 (by decide +kernel) (by decide +kernel)
theorem SE_X4_beyond : Cond.selects RX4 yX4_beyond yX4_beyond ∈ LW := lw_at 121 (by decide +kernel) (by decide +kernel)
theorem CO_X4_beyond : Cond.code yX4_beyond cX4_beyond 1 (some .int) ∈ LW := lw_at 122 (by decide +kernel) (by decide +kernel)
theorem ML_L_179 : Cond.methodLink RL 179 yX4_tick ∈ LW := lw_at 123 (by decide +kernel) (by decide +kernel)
theorem IM_X4_tick : Cond.instanceMethod yX4_tick ∈ LW := lw_at 124 (by decide +kernel) (by decide +kernel)
theorem SE_X4_tick : Cond.selects RX4 yX4_tick yX4_tick ∈ LW := lw_at 125 (by decide +kernel) (by decide +kernel)
theorem CO_X4_tick : Cond.code yX4_tick cX4_tick 6 (some .int) ∈ LW := lw_at 126 (by decide +kernel) (by decide +kernel)
theorem ML_X4_166 : Cond.methodLink RX4 166 yX2_isAtPier ∈ LW := lw_at 127 (by decide +kernel) (by decide +kernel)
theorem IM_X2_isAtPier : Cond.instanceMethod yX2_isAtPier ∈ LW := lw_at 128 (by decide +kernel) (by decide +kernel)
theorem SE_X2_isAtPier : Cond.selects RX2 yX2_isAtPier yX2_isAtPier ∈ LW := lw_at 129 (by decide +kernel) (by decide +kernel)
theorem CO_X2_isAtPier : Cond.code yX2_isAtPier cX2_isAtPier 1 (some .boolean) ∈ LW := lw_at 130 (by decide +kernel) (by decide +kernel)
theorem ML_X4_179 : Cond.methodLink RX4 179 yX2_age ∈ LW := lw_at 131 (by decide +kernel) (by decide +kernel)
theorem IM_X2_age : Cond.instanceMethod yX2_age ∈ LW := lw_at 132 (by decide +kernel) (by decide +kernel)
theorem SE_X2_age : Cond.selects RX2 yX2_age yX2_age ∈ LW := lw_at 133 (by decide +kernel) (by decide +kernel)
theorem CO_X2_age : Cond.code yX2_age cX2_age 2 none ∈ LW := lw_at 134 (by decide +kernel) (by decide +kernel)
theorem ML_X2_50 : Cond.methodLink RX2 50 yX2_iceForOneTick ∈ LW := lw_at 135 (by decide +kernel) (by decide +kernel)
theorem IM_X2_iceForOneTick : Cond.instanceMethod yX2_iceForOneTick ∈ LW := lw_at 136 (by decide +kernel) (by decide +kernel)
theorem SE_X2_iceForOneTick : Cond.selects RX2 yX2_iceForOneTick yX2_iceForOneTick ∈ LW := lw_at 137 (by decide +kernel) (by decide +kernel)
theorem CO_X2_iceForOneTick : Cond.code yX2_iceForOneTick cX2_iceForOneTick 1 (some .int) ∈ LW := lw_at 138 (by decide +kernel) (by decide +kernel)
theorem CK_X2_54 : Cond.constantFloat RX2 54 (1065269330) ∈ LW := lw_at 139 (by decide +kernel) (by decide +kernel)
theorem CK_X2_55 : Cond.constantFloat RX2 55 (1065017672) ∈ LW := lw_at 140 (by decide +kernel) (by decide +kernel)
theorem CK_X2_56 : Cond.constantFloat RX2 56 (1106247680) ∈ LW := lw_at 141 (by decide +kernel) (by decide +kernel)
theorem ML_X4_185 : Cond.methodLink RX4 185 yX4_deliverAll ∈ LW := lw_at 142 (by decide +kernel) (by decide +kernel)
theorem IM_X4_deliverAll : Cond.instanceMethod yX4_deliverAll ∈ LW := lw_at 144 (by decide +kernel) (by decide +kernel)
theorem CO_X4_deliverAll : Cond.code yX4_deliverAll cX4_deliverAll 6 none ∈ LW := lw_at 145 (by decide +kernel) (by decide +kernel)
theorem ML_X4_339 : Cond.methodLink RX4 339 yX4_giveMoneyBack ∈ LW := lw_at 146 (by decide +kernel) (by decide +kernel)
theorem IM_X4_giveMoneyBack : Cond.instanceMethod yX4_giveMoneyBack ∈ LW := lw_at 148 (by decide +kernel) (by decide +kernel)
theorem CO_X4_giveMoneyBack : Cond.code yX4_giveMoneyBack cX4_giveMoneyBack 4 none ∈ LW := lw_at 149 (by decide +kernel) (by decide +kernel)
theorem CK_X4_342 : Cond.constantFloat RX4 342 (1116471296) ∈ LW := lw_at 150 (by decide +kernel) (by decide +kernel)
theorem CK_X4_343 : Cond.constantFloat RX4 343 (1120403456) ∈ LW := lw_at 151 (by decide +kernel) (by decide +kernel)
theorem ML_L_183 : Cond.methodLink RL 183 yX4_time ∈ LW := lw_at 152 (by decide +kernel) (by decide +kernel)
theorem IM_X4_time : Cond.instanceMethod yX4_time ∈ LW := lw_at 153 (by decide +kernel) (by decide +kernel)
theorem SE_X4_time : Cond.selects RX4 yX4_time yX4_time ∈ LW := lw_at 154 (by decide +kernel) (by decide +kernel)
theorem CO_X4_time : Cond.code yX4_time cX4_time 1 (some .int) ∈ LW := lw_at 155 (by decide +kernel) (by decide +kernel)
theorem ML_L_227 : Cond.methodLink RL 227 yX4_income ∈ LW := lw_at 156 (by decide +kernel) (by decide +kernel)
theorem IM_X4_income : Cond.instanceMethod yX4_income ∈ LW := lw_at 157 (by decide +kernel) (by decide +kernel)
theorem SE_X4_income : Cond.selects RX4 yX4_income yX4_income ∈ LW := lw_at 158 (by decide +kernel) (by decide +kernel)
theorem CO_X4_income : Cond.code yX4_income cX4_income 1 (some .long) ∈ LW := lw_at 159 (by decide +kernel) (by decide +kernel)
theorem ML_L_231 : Cond.methodLink RL 231 yX4_incomeByLots ∈ LW := lw_at 160 (by decide +kernel) (by decide +kernel)
theorem IM_X4_incomeByLots : Cond.instanceMethod yX4_incomeByLots ∈ LW := lw_at 161 (by decide +kernel) (by decide +kernel)
theorem SE_X4_incomeByLots : Cond.selects RX4 yX4_incomeByLots yX4_incomeByLots ∈ LW := lw_at 162 (by decide +kernel) (by decide +kernel)
theorem CO_X4_incomeByLots : Cond.code yX4_incomeByLots cX4_incomeByLots 7 (some .long) ∈ LW := lw_at 163 (by decide +kernel) (by decide +kernel)
theorem ML_L_235 : Cond.methodLink RL 235 yX4_spoiled ∈ LW := lw_at 164 (by decide +kernel) (by decide +kernel)
theorem IM_X4_spoiled : Cond.instanceMethod yX4_spoiled ∈ LW := lw_at 165 (by decide +kernel) (by decide +kernel)
theorem SE_X4_spoiled : Cond.selects RX4 yX4_spoiled yX4_spoiled ∈ LW := lw_at 166 (by decide +kernel) (by decide +kernel)
theorem CO_X4_spoiled : Cond.code yX4_spoiled cX4_spoiled 6 (some .int) ∈ LW := lw_at 167 (by decide +kernel) (by decide +kernel)
theorem ML_L_249 : Cond.methodLink RL 249 yX4_isSound ∈ LW := lw_at 168 (by decide +kernel) (by decide +kernel)
theorem IM_X4_isSound : Cond.instanceMethod yX4_isSound ∈ LW := lw_at 169 (by decide +kernel) (by decide +kernel)
theorem SE_X4_isSound : Cond.selects RX4 yX4_isSound yX4_isSound ∈ LW := lw_at 170 (by decide +kernel) (by decide +kernel)
theorem CO_X4_isSound : Cond.code yX4_isSound cX4_isSound 1 (some .boolean) ∈ LW := lw_at 171 (by decide +kernel) (by decide +kernel)
theorem ML_X4_301 : Cond.methodLink RX4 301 yX4_incomeByLots ∈ LW := lw_at 172 (by decide +kernel) (by decide +kernel)
theorem ML_X4_305 : Cond.methodLink RX4 305 yX4_arePricesSound ∈ LW := lw_at 173 (by decide +kernel) (by decide +kernel)
theorem IM_X4_arePricesSound : Cond.instanceMethod yX4_arePricesSound ∈ LW := lw_at 175 (by decide +kernel) (by decide +kernel)
theorem CO_X4_arePricesSound : Cond.code yX4_arePricesSound cX4_arePricesSound 5 (some .boolean) ∈ LW := lw_at 176 (by decide +kernel) (by decide +kernel)
theorem ML_X4_217 : Cond.methodLink RX4 217 yX4_priceOnClock ∈ LW := lw_at 177 (by decide +kernel) (by decide +kernel)
theorem IM_X4_priceOnClock : Cond.instanceMethod yX4_priceOnClock ∈ LW := lw_at 179 (by decide +kernel) (by decide +kernel)
theorem CO_X4_priceOnClock : Cond.code yX4_priceOnClock cX4_priceOnClock 5 (some .int) ∈ LW := lw_at 180 (by decide +kernel) (by decide +kernel)
theorem ML_X4_326 : Cond.methodLink RX4 326 yX4_greatestOfferFor ∈ LW := lw_at 181 (by decide +kernel) (by decide +kernel)
theorem IM_X4_greatestOfferFor : Cond.instanceMethod yX4_greatestOfferFor ∈ LW := lw_at 183 (by decide +kernel) (by decide +kernel)
theorem CO_X4_greatestOfferFor : Cond.code yX4_greatestOfferFor cX4_greatestOfferFor 7 (some .int) ∈ LW := lw_at 184 (by decide +kernel) (by decide +kernel)
theorem ML_X4_210 : Cond.methodLink RX4 210 yX1_offerFor ∈ LW := lw_at 185 (by decide +kernel) (by decide +kernel)
theorem IM_X1_offerFor : Cond.instanceMethod yX1_offerFor ∈ LW := lw_at 186 (by decide +kernel) (by decide +kernel)
theorem SE_X1_offerFor : Cond.selects RX1 yX1_offerFor yX1_offerFor ∈ LW := lw_at 187 (by decide +kernel) (by decide +kernel)
theorem CO_X1_offerFor : Cond.code yX1_offerFor cX1_offerFor 3 (some .int) ∈ LW := lw_at 188 (by decide +kernel) (by decide +kernel)
theorem CK_X1_30 : Cond.constantDouble RX1 30 (4636737291354636288) ∈ LW := lw_at 189 (by decide +kernel) (by decide +kernel)
theorem ML_X4_329 : Cond.methodLink RX4 329 yJ9_max_7cf53 ∈ LW := lw_at 190 (by decide +kernel) (by decide +kernel)
theorem ST_JM_max : Cond.static yJ9_max_7cf53 ∈ LW := lw_at 191 (by decide +kernel) (by decide +kernel)
theorem CO_JM_max : Cond.code yJ9_max_7cf53 cJ9_max_7cf53 2 (some .int) ∈ LW := lw_at 192 (by decide +kernel) (by decide +kernel)
theorem ML_X4_225 : Cond.methodLink RX4 225 yX4_bestTaker ∈ LW := lw_at 193 (by decide +kernel) (by decide +kernel)
theorem IM_X4_bestTaker : Cond.instanceMethod yX4_bestTaker ∈ LW := lw_at 195 (by decide +kernel) (by decide +kernel)
theorem CO_X4_bestTaker : Cond.code yX4_bestTaker cX4_bestTaker 10 (some (.object "Fishpier$Buyer")) ∈ LW := lw_at 196 (by decide +kernel) (by decide +kernel)
theorem ML_X4_222 : Cond.methodLink RX4 222 yX4_priceFromBuyers ∈ LW := lw_at 197 (by decide +kernel) (by decide +kernel)
theorem IM_X4_priceFromBuyers : Cond.instanceMethod yX4_priceFromBuyers ∈ LW := lw_at 199 (by decide +kernel) (by decide +kernel)
theorem CO_X4_priceFromBuyers : Cond.code yX4_priceFromBuyers cX4_priceFromBuyers 7 (some .int) ∈ LW := lw_at 200 (by decide +kernel) (by decide +kernel)
theorem ML_X4_332 : Cond.methodLink RX4 332 yX1_mostFor ∈ LW := lw_at 201 (by decide +kernel) (by decide +kernel)
theorem IM_X1_mostFor : Cond.instanceMethod yX1_mostFor ∈ LW := lw_at 202 (by decide +kernel) (by decide +kernel)
theorem SE_X1_mostFor : Cond.selects RX1 yX1_mostFor yX1_mostFor ∈ LW := lw_at 203 (by decide +kernel) (by decide +kernel)
theorem CO_X1_mostFor : Cond.code yX1_mostFor cX1_mostFor 2 (some .int) ∈ LW := lw_at 204 (by decide +kernel) (by decide +kernel)
theorem ML_X1_39 : Cond.methodLink RX1 39 yX1_offerFor ∈ LW := lw_at 205 (by decide +kernel) (by decide +kernel)
theorem ML_X1_43 : Cond.methodLink RX1 43 yJ9_min_7cf53 ∈ LW := lw_at 206 (by decide +kernel) (by decide +kernel)
theorem ST_JM_min : Cond.static yJ9_min_7cf53 ∈ LW := lw_at 207 (by decide +kernel) (by decide +kernel)
theorem CO_JM_min : Cond.code yJ9_min_7cf53 cJ9_min_7cf53 2 (some .int) ∈ LW := lw_at 208 (by decide +kernel) (by decide +kernel)
theorem ML_X4_335 : Cond.methodLink RX4 335 yX4_greatestShownUpTo ∈ LW := lw_at 209 (by decide +kernel) (by decide +kernel)
theorem IM_X4_greatestShownUpTo : Cond.instanceMethod yX4_greatestShownUpTo ∈ LW := lw_at 211 (by decide +kernel) (by decide +kernel)
theorem CO_X4_greatestShownUpTo : Cond.code yX4_greatestShownUpTo cX4_greatestShownUpTo 4 (some .int) ∈ LW := lw_at 212 (by decide +kernel) (by decide +kernel)
theorem ML_X4_308 : Cond.methodLink RX4 308 yX4_areQuotasSound ∈ LW := lw_at 213 (by decide +kernel) (by decide +kernel)
theorem IM_X4_areQuotasSound : Cond.instanceMethod yX4_areQuotasSound ∈ LW := lw_at 215 (by decide +kernel) (by decide +kernel)
theorem CO_X4_areQuotasSound : Cond.code yX4_areQuotasSound cX4_areQuotasSound 5 (some .boolean) ∈ LW := lw_at 216 (by decide +kernel) (by decide +kernel)
theorem ML_X4_349 : Cond.methodLink RX4 349 yX4_isQuotaSound ∈ LW := lw_at 217 (by decide +kernel) (by decide +kernel)
theorem IM_X4_isQuotaSound : Cond.instanceMethod yX4_isQuotaSound ∈ LW := lw_at 219 (by decide +kernel) (by decide +kernel)
theorem CO_X4_isQuotaSound : Cond.code yX4_isQuotaSound cX4_isQuotaSound 3 (some .boolean) ∈ LW := lw_at 220 (by decide +kernel) (by decide +kernel)
theorem ML_X4_353 : Cond.methodLink RX4 353 yX4_landedBy ∈ LW := lw_at 221 (by decide +kernel) (by decide +kernel)
theorem IM_X4_landedBy : Cond.instanceMethod yX4_landedBy ∈ LW := lw_at 223 (by decide +kernel) (by decide +kernel)
theorem CO_X4_landedBy : Cond.code yX4_landedBy cX4_landedBy 8 (some .int) ∈ LW := lw_at 224 (by decide +kernel) (by decide +kernel)
theorem ML_L_124 : Cond.methodLink RL 124 yL_addBoat ∈ LW := lw_at 225 (by decide +kernel) (by decide +kernel)
theorem ST_L_addBoat : Cond.static yL_addBoat ∈ LW := lw_at 226 (by decide +kernel) (by decide +kernel)
theorem CO_L_addBoat : Cond.codeWith yL_addBoat cL_addBoat 7 (some .int) [(0, 14, 17, 13), (0, 14, 21, 15)] ∈ LW := lw_at 227 (by decide +kernel) (by decide +kernel)
theorem CL_L_13 : Cond.classLink RL 13 "java/lang/IllegalArgumentException" ∈ LW := lw_at 228 (by decide +kernel) (by decide +kernel)
theorem CL_L_15 : Cond.classLink RL 15 "java/lang/IllegalStateException" ∈ LW := lw_at 229 (by decide +kernel) (by decide +kernel)
theorem ML_L_7 : Cond.methodLink RL 7 yX4_addBoat ∈ LW := lw_at 230 (by decide +kernel) (by decide +kernel)
theorem IM_X4_addBoat : Cond.instanceMethod yX4_addBoat ∈ LW := lw_at 231 (by decide +kernel) (by decide +kernel)
theorem SE_X4_addBoat : Cond.selects RX4 yX4_addBoat yX4_addBoat ∈ LW := lw_at 232 (by decide +kernel) (by decide +kernel)
theorem CO_X4_addBoat : Cond.code yX4_addBoat cX4_addBoat 6 (some .int) ∈ LW := lw_at 233 (by decide +kernel) (by decide +kernel)
theorem ML_X4_68 : Cond.methodLink RX4 68 yX4_isQuota ∈ LW := lw_at 234 (by decide +kernel) (by decide +kernel)
theorem ST_X4_isQuota : Cond.static yX4_isQuota ∈ LW := lw_at 235 (by decide +kernel) (by decide +kernel)
theorem CO_X4_isQuota : Cond.code yX4_isQuota cX4_isQuota 1 (some .boolean) ∈ LW := lw_at 236 (by decide +kernel) (by decide +kernel)
theorem ML_X4_94 : Cond.methodLink RX4 94 yX4_isWithin ∈ LW := lw_at 237 (by decide +kernel) (by decide +kernel)
theorem ST_X4_isWithin : Cond.static yX4_isWithin ∈ LW := lw_at 238 (by decide +kernel) (by decide +kernel)
theorem CO_X4_isWithin : Cond.code yX4_isWithin cX4_isWithin 3 (some .boolean) ∈ LW := lw_at 239 (by decide +kernel) (by decide +kernel)
theorem CL_X4_72 : Cond.classLink RX4 72 "java/lang/IllegalArgumentException" ∈ LW := lw_at 240 (by decide +kernel) (by decide +kernel)
theorem ML_X4_76 : Cond.methodLink RX4 76 ⟨"java/lang/IllegalArgumentException", "<init>", "(Ljava/lang/String;)V"⟩ ∈ LW := lw_at 286 (by decide +kernel) (by decide +kernel)
theorem AC_byte : Cond.arrayClass .byte ∈ LW := lw_at 311 (by decide +kernel) (by decide +kernel)
theorem CL_X4_79 : Cond.classLink RX4 79 "java/lang/IllegalStateException" ∈ LW := lw_at 312 (by decide +kernel) (by decide +kernel)
theorem ML_X4_83 : Cond.methodLink RX4 83 ⟨"java/lang/IllegalStateException", "<init>", "(Ljava/lang/String;)V"⟩ ∈ LW := lw_at 322 (by decide +kernel) (by decide +kernel)
theorem NE_X0 : Cond.instantiable RX0 4 ∈ LW := lw_at 328 (by decide +kernel) (by decide +kernel)
theorem ML_X4_84 : Cond.methodLink RX4 84 yX0_init ∈ LW := lw_at 329 (by decide +kernel) (by decide +kernel)
theorem IM_X0_init : Cond.instanceMethod yX0_init ∈ LW := lw_at 330 (by decide +kernel) (by decide +kernel)
theorem CO_X0_init : Cond.code yX0_init cX0_init 6 none ∈ LW := lw_at 331 (by decide +kernel) (by decide +kernel)
theorem ML_X0_3 : Cond.methodLink RX0 3 ⟨"java/lang/Object", "<init>", "()V"⟩ ∈ LW := lw_at 332 (by decide +kernel) (by decide +kernel)
theorem ML_X0_25 : Cond.methodLink RX0 25 ⟨"java/lang/System", "arraycopy", "(Ljava/lang/Object;ILjava/lang/Object;II)V"⟩ ∈ LW := lw_at 333 (by decide +kernel) (by decide +kernel)
theorem ST_JS_arraycopy : Cond.static ⟨"java/lang/System", "arraycopy", "(Ljava/lang/Object;ILjava/lang/Object;II)V"⟩ ∈ LW := lw_at 334 (by decide +kernel) (by decide +kernel)
theorem NA_JS_arraycopy : Cond.native ⟨"java/lang/System", "arraycopy", "(Ljava/lang/Object;ILjava/lang/Object;II)V"⟩ ∈ LW := lw_at 335 (by decide +kernel) (by decide +kernel)
theorem FL_X0_21 : Cond.fieldLink RX0 21 RX0 "number" "I" ∈ LW := lw_at 336 (by decide +kernel) (by decide +kernel)
theorem FL_X4_363 : Cond.fieldLink RX4 363 RX0 "number" "I" ∈ LW := lw_at 337 (by decide +kernel) (by decide +kernel)
theorem FL_X0_9 : Cond.fieldLink RX0 9 RX0 "left" "[I" ∈ LW := lw_at 338 (by decide +kernel) (by decide +kernel)
theorem FL_X4_102 : Cond.fieldLink RX4 102 RX0 "left" "[I" ∈ LW := lw_at 339 (by decide +kernel) (by decide +kernel)
theorem FL_X0_15 : Cond.fieldLink RX0 15 RX0 "given" "[I" ∈ LW := lw_at 340 (by decide +kernel) (by decide +kernel)
theorem FL_X4_357 : Cond.fieldLink RX4 357 RX0 "given" "[I" ∈ LW := lw_at 341 (by decide +kernel) (by decide +kernel)
theorem FL_X0_18 : Cond.fieldLink RX0 18 RX0 "written" "[I" ∈ LW := lw_at 342 (by decide +kernel) (by decide +kernel)
theorem LA_X0_number : Cond.laysFinal RX0 RX0 "number" "I" ∈ LW := lw_at 343 (by decide +kernel) (by decide +kernel)
theorem LA_X0_left : Cond.laysFinal RX0 RX0 "left" "[I" ∈ LW := lw_at 345 (by decide +kernel) (by decide +kernel)
theorem LA_X0_given : Cond.laysFinal RX0 RX0 "given" "[I" ∈ LW := lw_at 347 (by decide +kernel) (by decide +kernel)
theorem LA_X0_written : Cond.laysFinal RX0 RX0 "written" "[I" ∈ LW := lw_at 349 (by decide +kernel) (by decide +kernel)
theorem AC_int : Cond.arrayClass .int ∈ LW := lw_at 352 (by decide +kernel) (by decide +kernel)
theorem ML_L_133 : Cond.methodLink RL 133 yL_land ∈ LW := lw_at 353 (by decide +kernel) (by decide +kernel)
theorem ST_L_land : Cond.static yL_land ∈ LW := lw_at 354 (by decide +kernel) (by decide +kernel)
theorem CO_L_land : Cond.codeWith yL_land cL_land 8 (some .int) [(0, 16, 19, 21), (0, 16, 23, 13), (0, 16, 27, 15), (0, 16, 31, 23)] ∈ LW := lw_at 355 (by decide +kernel) (by decide +kernel)
theorem CL_L_21 : Cond.classLink RL 21 "java/lang/IndexOutOfBoundsException" ∈ LW := lw_at 356 (by decide +kernel) (by decide +kernel)
theorem CL_L_23 : Cond.classLink RL 23 "java/lang/UnsupportedOperationException" ∈ LW := lw_at 380 (by decide +kernel) (by decide +kernel)
theorem ML_L_17 : Cond.methodLink RL 17 yX4_land ∈ LW := lw_at 381 (by decide +kernel) (by decide +kernel)
theorem IM_X4_land : Cond.instanceMethod yX4_land ∈ LW := lw_at 382 (by decide +kernel) (by decide +kernel)
theorem SE_X4_land : Cond.selects RX4 yX4_land yX4_land ∈ LW := lw_at 383 (by decide +kernel) (by decide +kernel)
theorem CO_X4_land : Cond.code yX4_land cX4_land 9 (some .int) ∈ LW := lw_at 384 (by decide +kernel) (by decide +kernel)
theorem ML_X4_87 : Cond.methodLink RX4 87 yX4_boatNumbered ∈ LW := lw_at 385 (by decide +kernel) (by decide +kernel)
theorem IM_X4_boatNumbered : Cond.instanceMethod yX4_boatNumbered ∈ LW := lw_at 387 (by decide +kernel) (by decide +kernel)
theorem CO_X4_boatNumbered : Cond.code yX4_boatNumbered cX4_boatNumbered 2 (some (.object "Fishpier$Boat")) ∈ LW := lw_at 388 (by decide +kernel) (by decide +kernel)
theorem CL_X4_311 : Cond.classLink RX4 311 "java/lang/IndexOutOfBoundsException" ∈ LW := lw_at 389 (by decide +kernel) (by decide +kernel)
theorem ML_X4_315 : Cond.methodLink RX4 315 ⟨"java/lang/IndexOutOfBoundsException", "<init>", "(Ljava/lang/String;)V"⟩ ∈ LW := lw_at 399 (by decide +kernel) (by decide +kernel)
theorem ML_X4_91 : Cond.methodLink RX4 91 yX4_isSpecies ∈ LW := lw_at 402 (by decide +kernel) (by decide +kernel)
theorem ST_X4_isSpecies : Cond.static yX4_isSpecies ∈ LW := lw_at 403 (by decide +kernel) (by decide +kernel)
theorem CO_X4_isSpecies : Cond.code yX4_isSpecies cX4_isSpecies 1 (some .boolean) ∈ LW := lw_at 404 (by decide +kernel) (by decide +kernel)
theorem CL_X4_106 : Cond.classLink RX4 106 "java/lang/UnsupportedOperationException" ∈ LW := lw_at 407 (by decide +kernel) (by decide +kernel)
theorem ML_X4_110 : Cond.methodLink RX4 110 ⟨"java/lang/UnsupportedOperationException", "<init>", "(Ljava/lang/String;)V"⟩ ∈ LW := lw_at 417 (by decide +kernel) (by decide +kernel)
theorem ML_X4_111 : Cond.methodLink RX4 111 yJ9_min_7cf53 ∈ LW := lw_at 423 (by decide +kernel) (by decide +kernel)
theorem NE_X2 : Cond.instantiable RX2 11 ∈ LW := lw_at 424 (by decide +kernel) (by decide +kernel)
theorem ML_X4_117 : Cond.methodLink RX4 117 yX2_init ∈ LW := lw_at 425 (by decide +kernel) (by decide +kernel)
theorem IM_X2_init : Cond.instanceMethod yX2_init ∈ LW := lw_at 426 (by decide +kernel) (by decide +kernel)
theorem CO_X2_init : Cond.code yX2_init cX2_init 7 none ∈ LW := lw_at 427 (by decide +kernel) (by decide +kernel)
theorem ML_X2_3 : Cond.methodLink RX2 3 ⟨"java/lang/Object", "<init>", "()V"⟩ ∈ LW := lw_at 428 (by decide +kernel) (by decide +kernel)
theorem CK_X2_15 : Cond.constantFloat RX2 15 (1120403456) ∈ LW := lw_at 429 (by decide +kernel) (by decide +kernel)
theorem FL_X2_31 : Cond.fieldLink RX2 31 RX2 "number" "I" ∈ LW := lw_at 430 (by decide +kernel) (by decide +kernel)
theorem FL_X4_281 : Cond.fieldLink RX4 281 RX2 "number" "I" ∈ LW := lw_at 431 (by decide +kernel) (by decide +kernel)
theorem FL_X2_34 : Cond.fieldLink RX2 34 RX2 "boatNumber" "I" ∈ LW := lw_at 432 (by decide +kernel) (by decide +kernel)
theorem FL_X4_360 : Cond.fieldLink RX4 360 RX2 "boatNumber" "I" ∈ LW := lw_at 433 (by decide +kernel) (by decide +kernel)
theorem FL_X2_37 : Cond.fieldLink RX2 37 RX2 "species" "I" ∈ LW := lw_at 434 (by decide +kernel) (by decide +kernel)
theorem FL_X1_27 : Cond.fieldLink RX1 27 RX2 "species" "I" ∈ LW := lw_at 435 (by decide +kernel) (by decide +kernel)
theorem FL_X4_364 : Cond.fieldLink RX4 364 RX2 "species" "I" ∈ LW := lw_at 436 (by decide +kernel) (by decide +kernel)
theorem FL_X2_40 : Cond.fieldLink RX2 40 RX2 "size" "I" ∈ LW := lw_at 437 (by decide +kernel) (by decide +kernel)
theorem FL_X1_22 : Cond.fieldLink RX1 22 RX2 "size" "I" ∈ LW := lw_at 438 (by decide +kernel) (by decide +kernel)
theorem FL_X2_43 : Cond.fieldLink RX2 43 RX2 "kilograms" "I" ∈ LW := lw_at 439 (by decide +kernel) (by decide +kernel)
theorem FL_X3_31 : Cond.fieldLink RX3 31 RX2 "kilograms" "I" ∈ LW := lw_at 440 (by decide +kernel) (by decide +kernel)
theorem FL_X1_36 : Cond.fieldLink RX1 36 RX2 "kilograms" "I" ∈ LW := lw_at 441 (by decide +kernel) (by decide +kernel)
theorem FL_X4_149 : Cond.fieldLink RX4 149 RX2 "kilograms" "I" ∈ LW := lw_at 442 (by decide +kernel) (by decide +kernel)
theorem FL_X2_46 : Cond.fieldLink RX2 46 RX2 "isBoxed" "Z" ∈ LW := lw_at 443 (by decide +kernel) (by decide +kernel)
theorem FL_X4_264 : Cond.fieldLink RX4 264 RX2 "isBoxed" "Z" ∈ LW := lw_at 444 (by decide +kernel) (by decide +kernel)
theorem FL_X2_9 : Cond.fieldLink RX2 9 RX2 "state" "C" ∈ LW := lw_at 445 (by decide +kernel) (by decide +kernel)
theorem FL_X3_34 : Cond.fieldLink RX3 34 RX2 "state" "C" ∈ LW := lw_at 446 (by decide +kernel) (by decide +kernel)
theorem FL_X4_152 : Cond.fieldLink RX4 152 RX2 "state" "C" ∈ LW := lw_at 447 (by decide +kernel) (by decide +kernel)
theorem FL_X2_16 : Cond.fieldLink RX2 16 RX2 "freshness" "F" ∈ LW := lw_at 448 (by decide +kernel) (by decide +kernel)
theorem FL_X1_32 : Cond.fieldLink RX1 32 RX2 "freshness" "F" ∈ LW := lw_at 449 (by decide +kernel) (by decide +kernel)
theorem FL_X4_156 : Cond.fieldLink RX4 156 RX2 "freshness" "F" ∈ LW := lw_at 450 (by decide +kernel) (by decide +kernel)
theorem FL_X2_20 : Cond.fieldLink RX2 20 RX2 "iceKilograms" "I" ∈ LW := lw_at 451 (by decide +kernel) (by decide +kernel)
theorem FL_X4_172 : Cond.fieldLink RX4 172 RX2 "iceKilograms" "I" ∈ LW := lw_at 452 (by decide +kernel) (by decide +kernel)
theorem FL_X2_24 : Cond.fieldLink RX2 24 RX2 "owner" "LFishpier$Buyer;" ∈ LW := lw_at 453 (by decide +kernel) (by decide +kernel)
theorem FL_X4_231 : Cond.fieldLink RX4 231 RX2 "owner" "LFishpier$Buyer;" ∈ LW := lw_at 454 (by decide +kernel) (by decide +kernel)
theorem FL_X2_28 : Cond.fieldLink RX2 28 RX2 "paid" "I" ∈ LW := lw_at 455 (by decide +kernel) (by decide +kernel)
theorem FL_X4_235 : Cond.fieldLink RX4 235 RX2 "paid" "I" ∈ LW := lw_at 456 (by decide +kernel) (by decide +kernel)
theorem LA_X2_number : Cond.laysFinal RX2 RX2 "number" "I" ∈ LW := lw_at 457 (by decide +kernel) (by decide +kernel)
theorem LA_X2_boatNumber : Cond.laysFinal RX2 RX2 "boatNumber" "I" ∈ LW := lw_at 459 (by decide +kernel) (by decide +kernel)
theorem LA_X2_species : Cond.laysFinal RX2 RX2 "species" "I" ∈ LW := lw_at 461 (by decide +kernel) (by decide +kernel)
theorem LA_X2_size : Cond.laysFinal RX2 RX2 "size" "I" ∈ LW := lw_at 463 (by decide +kernel) (by decide +kernel)
theorem LA_X2_kilograms : Cond.laysFinal RX2 RX2 "kilograms" "I" ∈ LW := lw_at 465 (by decide +kernel) (by decide +kernel)
theorem LA_X2_isBoxed : Cond.laysFinal RX2 RX2 "isBoxed" "Z" ∈ LW := lw_at 467 (by decide +kernel) (by decide +kernel)
theorem LA_X2_state : Cond.lays RX2 RX2 "state" "C" ∈ LW := lw_at 469 (by decide +kernel) (by decide +kernel)
theorem LA_X2_freshness : Cond.lays RX2 RX2 "freshness" "F" ∈ LW := lw_at 471 (by decide +kernel) (by decide +kernel)
theorem LA_X2_iceKilograms : Cond.lays RX2 RX2 "iceKilograms" "I" ∈ LW := lw_at 473 (by decide +kernel) (by decide +kernel)
theorem LA_X2_owner : Cond.lays RX2 RX2 "owner" "LFishpier$Buyer;" ∈ LW := lw_at 475 (by decide +kernel) (by decide +kernel)
theorem LA_X2_paid : Cond.lays RX2 RX2 "paid" "I" ∈ LW := lw_at 477 (by decide +kernel) (by decide +kernel)
theorem ML_L_137 : Cond.methodLink RL 137 yL_moveQuota ∈ LW := lw_at 480 (by decide +kernel) (by decide +kernel)
theorem ST_L_moveQuota : Cond.static yL_moveQuota ∈ LW := lw_at 481 (by decide +kernel) (by decide +kernel)
theorem CO_L_moveQuota : Cond.codeWith yL_moveQuota cL_moveQuota 7 (some .int) [(0, 14, 17, 21), (0, 14, 21, 13), (0, 14, 25, 15)] ∈ LW := lw_at 482 (by decide +kernel) (by decide +kernel)
theorem ML_L_25 : Cond.methodLink RL 25 yX4_moveQuota ∈ LW := lw_at 483 (by decide +kernel) (by decide +kernel)
theorem IM_X4_moveQuota : Cond.instanceMethod yX4_moveQuota ∈ LW := lw_at 484 (by decide +kernel) (by decide +kernel)
theorem SE_X4_moveQuota : Cond.selects RX4 yX4_moveQuota yX4_moveQuota ∈ LW := lw_at 485 (by decide +kernel) (by decide +kernel)
theorem CO_X4_moveQuota : Cond.code yX4_moveQuota cX4_moveQuota 7 (some .int) ∈ LW := lw_at 486 (by decide +kernel) (by decide +kernel)
theorem ML_X4_124 : Cond.methodLink RX4 124 yX0_changeQuota ∈ LW := lw_at 489 (by decide +kernel) (by decide +kernel)
theorem IM_X0_changeQuota : Cond.instanceMethod yX0_changeQuota ∈ LW := lw_at 490 (by decide +kernel) (by decide +kernel)
theorem SE_X0_changeQuota : Cond.selects RX0 yX0_changeQuota yX0_changeQuota ∈ LW := lw_at 491 (by decide +kernel) (by decide +kernel)
theorem CO_X0_changeQuota : Cond.code yX0_changeQuota cX0_changeQuota 3 none ∈ LW := lw_at 492 (by decide +kernel) (by decide +kernel)
theorem ML_L_140 : Cond.methodLink RL 140 yL_quota ∈ LW := lw_at 493 (by decide +kernel) (by decide +kernel)
theorem ST_L_quota : Cond.static yL_quota ∈ LW := lw_at 494 (by decide +kernel) (by decide +kernel)
theorem CO_L_quota : Cond.codeWith yL_quota cL_quota 5 (some .int) [(0, 10, 13, 21), (0, 10, 17, 13)] ∈ LW := lw_at 495 (by decide +kernel) (by decide +kernel)
theorem ML_L_28 : Cond.methodLink RL 28 yX4_quota ∈ LW := lw_at 496 (by decide +kernel) (by decide +kernel)
theorem IM_X4_quota : Cond.instanceMethod yX4_quota ∈ LW := lw_at 497 (by decide +kernel) (by decide +kernel)
theorem SE_X4_quota : Cond.selects RX4 yX4_quota yX4_quota ∈ LW := lw_at 498 (by decide +kernel) (by decide +kernel)
theorem CO_X4_quota : Cond.code yX4_quota cX4_quota 4 (some .int) ∈ LW := lw_at 499 (by decide +kernel) (by decide +kernel)
theorem ML_X4_128 : Cond.methodLink RX4 128 yX4_checkSpecies ∈ LW := lw_at 500 (by decide +kernel) (by decide +kernel)
theorem ST_X4_checkSpecies : Cond.static yX4_checkSpecies ∈ LW := lw_at 501 (by decide +kernel) (by decide +kernel)
theorem CO_X4_checkSpecies : Cond.code yX4_checkSpecies cX4_checkSpecies 1 none ∈ LW := lw_at 502 (by decide +kernel) (by decide +kernel)
theorem ML_L_144 : Cond.methodLink RL 144 yL_quotaAt ∈ LW := lw_at 504 (by decide +kernel) (by decide +kernel)
theorem ST_L_quotaAt : Cond.static yL_quotaAt ∈ LW := lw_at 505 (by decide +kernel) (by decide +kernel)
theorem CO_L_quotaAt : Cond.codeWith yL_quotaAt cL_quotaAt 6 (some .int) [(0, 12, 15, 21), (0, 12, 19, 13), (0, 12, 23, 36)] ∈ LW := lw_at 506 (by decide +kernel) (by decide +kernel)
theorem CL_L_36 : Cond.classLink RL 36 "java/util/NoSuchElementException" ∈ LW := lw_at 507 (by decide +kernel) (by decide +kernel)
theorem ML_L_32 : Cond.methodLink RL 32 yX4_quotaAt ∈ LW := lw_at 508 (by decide +kernel) (by decide +kernel)
theorem IM_X4_quotaAt : Cond.instanceMethod yX4_quotaAt ∈ LW := lw_at 509 (by decide +kernel) (by decide +kernel)
theorem SE_X4_quotaAt : Cond.selects RX4 yX4_quotaAt yX4_quotaAt ∈ LW := lw_at 510 (by decide +kernel) (by decide +kernel)
theorem CO_X4_quotaAt : Cond.code yX4_quotaAt cX4_quotaAt 5 (some .int) ∈ LW := lw_at 511 (by decide +kernel) (by decide +kernel)
theorem CL_X4_132 : Cond.classLink RX4 132 "java/util/NoSuchElementException" ∈ LW := lw_at 512 (by decide +kernel) (by decide +kernel)
theorem ML_X4_136 : Cond.methodLink RX4 136 ⟨"java/util/NoSuchElementException", "<init>", "(Ljava/lang/String;)V"⟩ ∈ LW := lw_at 522 (by decide +kernel) (by decide +kernel)
theorem ML_X4_137 : Cond.methodLink RX4 137 yX0_leftAtEnd ∈ LW := lw_at 528 (by decide +kernel) (by decide +kernel)
theorem IM_X0_leftAtEnd : Cond.instanceMethod yX0_leftAtEnd ∈ LW := lw_at 529 (by decide +kernel) (by decide +kernel)
theorem SE_X0_leftAtEnd : Cond.selects RX0 yX0_leftAtEnd yX0_leftAtEnd ∈ LW := lw_at 530 (by decide +kernel) (by decide +kernel)
theorem CO_X0_leftAtEnd : Cond.code yX0_leftAtEnd cX0_leftAtEnd 3 (some .int) ∈ LW := lw_at 531 (by decide +kernel) (by decide +kernel)
theorem ML_L_148 : Cond.methodLink RL 148 yL_endDay ∈ LW := lw_at 532 (by decide +kernel) (by decide +kernel)
theorem ST_L_endDay : Cond.static yL_endDay ∈ LW := lw_at 533 (by decide +kernel) (by decide +kernel)
theorem CO_L_endDay : Cond.codeWith yL_endDay cL_endDay 3 (some .int) [(0, 8, 11, 15)] ∈ LW := lw_at 534 (by decide +kernel) (by decide +kernel)
theorem ML_L_38 : Cond.methodLink RL 38 yX4_endDay ∈ LW := lw_at 535 (by decide +kernel) (by decide +kernel)
theorem IM_X4_endDay : Cond.instanceMethod yX4_endDay ∈ LW := lw_at 536 (by decide +kernel) (by decide +kernel)
theorem SE_X4_endDay : Cond.selects RX4 yX4_endDay yX4_endDay ∈ LW := lw_at 537 (by decide +kernel) (by decide +kernel)
theorem CO_X4_endDay : Cond.code yX4_endDay cX4_endDay 5 (some .int) ∈ LW := lw_at 538 (by decide +kernel) (by decide +kernel)
theorem ML_X4_142 : Cond.methodLink RX4 142 yX0_writeDown ∈ LW := lw_at 540 (by decide +kernel) (by decide +kernel)
theorem IM_X0_writeDown : Cond.instanceMethod yX0_writeDown ∈ LW := lw_at 541 (by decide +kernel) (by decide +kernel)
theorem SE_X0_writeDown : Cond.selects RX0 yX0_writeDown yX0_writeDown ∈ LW := lw_at 542 (by decide +kernel) (by decide +kernel)
theorem CO_X0_writeDown : Cond.code yX0_writeDown cX0_writeDown 2 none ∈ LW := lw_at 543 (by decide +kernel) (by decide +kernel)
theorem ML_L_156 : Cond.methodLink RL 156 yL_weight ∈ LW := lw_at 544 (by decide +kernel) (by decide +kernel)
theorem ST_L_weight : Cond.static yL_weight ∈ LW := lw_at 545 (by decide +kernel) (by decide +kernel)
theorem CO_L_weight : Cond.codeWith yL_weight cL_weight 4 (some .int) [(0, 9, 12, 36)] ∈ LW := lw_at 546 (by decide +kernel) (by decide +kernel)
theorem ML_L_42 : Cond.methodLink RL 42 yX4_weight ∈ LW := lw_at 547 (by decide +kernel) (by decide +kernel)
theorem IM_X4_weight : Cond.instanceMethod yX4_weight ∈ LW := lw_at 548 (by decide +kernel) (by decide +kernel)
theorem SE_X4_weight : Cond.selects RX4 yX4_weight yX4_weight ∈ LW := lw_at 549 (by decide +kernel) (by decide +kernel)
theorem CO_X4_weight : Cond.code yX4_weight cX4_weight 2 (some .int) ∈ LW := lw_at 550 (by decide +kernel) (by decide +kernel)
theorem ML_X4_145 : Cond.methodLink RX4 145 yX4_lotNumbered ∈ LW := lw_at 551 (by decide +kernel) (by decide +kernel)
theorem IM_X4_lotNumbered : Cond.instanceMethod yX4_lotNumbered ∈ LW := lw_at 553 (by decide +kernel) (by decide +kernel)
theorem CO_X4_lotNumbered : Cond.code yX4_lotNumbered cX4_lotNumbered 2 (some (.object "Fishpier$Lot")) ∈ LW := lw_at 554 (by decide +kernel) (by decide +kernel)
theorem ML_L_160 : Cond.methodLink RL 160 yL_stateOf ∈ LW := lw_at 556 (by decide +kernel) (by decide +kernel)
theorem ST_L_stateOf : Cond.static yL_stateOf ∈ LW := lw_at 557 (by decide +kernel) (by decide +kernel)
theorem CO_L_stateOf : Cond.codeWith yL_stateOf cL_stateOf 4 (some .int) [(0, 9, 12, 36)] ∈ LW := lw_at 558 (by decide +kernel) (by decide +kernel)
theorem ML_L_46 : Cond.methodLink RL 46 yX4_stateOf ∈ LW := lw_at 559 (by decide +kernel) (by decide +kernel)
theorem IM_X4_stateOf : Cond.instanceMethod yX4_stateOf ∈ LW := lw_at 560 (by decide +kernel) (by decide +kernel)
theorem SE_X4_stateOf : Cond.selects RX4 yX4_stateOf yX4_stateOf ∈ LW := lw_at 561 (by decide +kernel) (by decide +kernel)
theorem CO_X4_stateOf : Cond.code yX4_stateOf cX4_stateOf 2 (some .char) ∈ LW := lw_at 562 (by decide +kernel) (by decide +kernel)
theorem ML_L_163 : Cond.methodLink RL 163 yL_fresh ∈ LW := lw_at 563 (by decide +kernel) (by decide +kernel)
theorem ST_L_fresh : Cond.static yL_fresh ∈ LW := lw_at 564 (by decide +kernel) (by decide +kernel)
theorem CO_L_fresh : Cond.codeWith yL_fresh cL_fresh 4 (some .int) [(0, 9, 12, 36)] ∈ LW := lw_at 565 (by decide +kernel) (by decide +kernel)
theorem ML_L_50 : Cond.methodLink RL 50 yX4_fresh ∈ LW := lw_at 566 (by decide +kernel) (by decide +kernel)
theorem IM_X4_fresh : Cond.instanceMethod yX4_fresh ∈ LW := lw_at 567 (by decide +kernel) (by decide +kernel)
theorem SE_X4_fresh : Cond.selects RX4 yX4_fresh yX4_fresh ∈ LW := lw_at 568 (by decide +kernel) (by decide +kernel)
theorem CO_X4_fresh : Cond.code yX4_fresh cX4_fresh 2 (some .float) ∈ LW := lw_at 569 (by decide +kernel) (by decide +kernel)
theorem ML_L_167 : Cond.methodLink RL 167 yL_freshBits ∈ LW := lw_at 570 (by decide +kernel) (by decide +kernel)
theorem ST_L_freshBits : Cond.static yL_freshBits ∈ LW := lw_at 571 (by decide +kernel) (by decide +kernel)
theorem CO_L_freshBits : Cond.codeWith yL_freshBits cL_freshBits 4 (some .int) [(0, 9, 12, 36)] ∈ LW := lw_at 572 (by decide +kernel) (by decide +kernel)
theorem ML_L_54 : Cond.methodLink RL 54 yX4_freshBits ∈ LW := lw_at 573 (by decide +kernel) (by decide +kernel)
theorem IM_X4_freshBits : Cond.instanceMethod yX4_freshBits ∈ LW := lw_at 574 (by decide +kernel) (by decide +kernel)
theorem SE_X4_freshBits : Cond.selects RX4 yX4_freshBits yX4_freshBits ∈ LW := lw_at 575 (by decide +kernel) (by decide +kernel)
theorem CO_X4_freshBits : Cond.code yX4_freshBits cX4_freshBits 2 (some .int) ∈ LW := lw_at 576 (by decide +kernel) (by decide +kernel)
theorem ML_X4_160 : Cond.methodLink RX4 160 yX4_bitsOfFreshness ∈ LW := lw_at 577 (by decide +kernel) (by decide +kernel)
theorem ST_X4_bitsOfFreshness : Cond.static yX4_bitsOfFreshness ∈ LW := lw_at 578 (by decide +kernel) (by decide +kernel)
theorem CO_X4_bitsOfFreshness : Cond.code yX4_bitsOfFreshness cX4_bitsOfFreshness 3 (some .int) ∈ LW := lw_at 579 (by decide +kernel) (by decide +kernel)
theorem CK_X4_367 : Cond.constantFloat RX4 367 (1258291200) ∈ LW := lw_at 580 (by decide +kernel) (by decide +kernel)
theorem ML_L_170 : Cond.methodLink RL 170 yL_ice ∈ LW := lw_at 581 (by decide +kernel) (by decide +kernel)
theorem ST_L_ice : Cond.static yL_ice ∈ LW := lw_at 582 (by decide +kernel) (by decide +kernel)
theorem CO_L_ice : Cond.codeWith yL_ice cL_ice 5 (some .int) [(0, 10, 13, 36), (0, 10, 17, 13), (0, 10, 21, 15)] ∈ LW := lw_at 583 (by decide +kernel) (by decide +kernel)
theorem ML_L_57 : Cond.methodLink RL 57 yX4_ice ∈ LW := lw_at 584 (by decide +kernel) (by decide +kernel)
theorem IM_X4_ice : Cond.instanceMethod yX4_ice ∈ LW := lw_at 585 (by decide +kernel) (by decide +kernel)
theorem SE_X4_ice : Cond.selects RX4 yX4_ice yX4_ice ∈ LW := lw_at 586 (by decide +kernel) (by decide +kernel)
theorem CO_X4_ice : Cond.code yX4_ice cX4_ice 4 (some .int) ∈ LW := lw_at 587 (by decide +kernel) (by decide +kernel)
theorem ML_L_173 : Cond.methodLink RL 173 yL_iceOn ∈ LW := lw_at 590 (by decide +kernel) (by decide +kernel)
theorem ST_L_iceOn : Cond.static yL_iceOn ∈ LW := lw_at 591 (by decide +kernel) (by decide +kernel)
theorem CO_L_iceOn : Cond.codeWith yL_iceOn cL_iceOn 4 (some .int) [(0, 9, 12, 36)] ∈ LW := lw_at 592 (by decide +kernel) (by decide +kernel)
theorem ML_L_60 : Cond.methodLink RL 60 yX4_iceOn ∈ LW := lw_at 593 (by decide +kernel) (by decide +kernel)
theorem IM_X4_iceOn : Cond.instanceMethod yX4_iceOn ∈ LW := lw_at 594 (by decide +kernel) (by decide +kernel)
theorem SE_X4_iceOn : Cond.selects RX4 yX4_iceOn yX4_iceOn ∈ LW := lw_at 595 (by decide +kernel) (by decide +kernel)
theorem CO_X4_iceOn : Cond.code yX4_iceOn cX4_iceOn 2 (some .int) ∈ LW := lw_at 596 (by decide +kernel) (by decide +kernel)
theorem ML_L_176 : Cond.methodLink RL 176 yL_iceLasts ∈ LW := lw_at 597 (by decide +kernel) (by decide +kernel)
theorem ST_L_iceLasts : Cond.static yL_iceLasts ∈ LW := lw_at 598 (by decide +kernel) (by decide +kernel)
theorem CO_L_iceLasts : Cond.codeWith yL_iceLasts cL_iceLasts 4 (some .int) [(0, 9, 12, 36)] ∈ LW := lw_at 599 (by decide +kernel) (by decide +kernel)
theorem ML_L_63 : Cond.methodLink RL 63 yX4_iceLasts ∈ LW := lw_at 600 (by decide +kernel) (by decide +kernel)
theorem IM_X4_iceLasts : Cond.instanceMethod yX4_iceLasts ∈ LW := lw_at 601 (by decide +kernel) (by decide +kernel)
theorem SE_X4_iceLasts : Cond.selects RX4 yX4_iceLasts yX4_iceLasts ∈ LW := lw_at 602 (by decide +kernel) (by decide +kernel)
theorem CO_X4_iceLasts : Cond.code yX4_iceLasts cX4_iceLasts 2 (some .int) ∈ LW := lw_at 603 (by decide +kernel) (by decide +kernel)
theorem ML_X4_175 : Cond.methodLink RX4 175 yX2_ticksOfIce ∈ LW := lw_at 604 (by decide +kernel) (by decide +kernel)
theorem IM_X2_ticksOfIce : Cond.instanceMethod yX2_ticksOfIce ∈ LW := lw_at 605 (by decide +kernel) (by decide +kernel)
theorem SE_X2_ticksOfIce : Cond.selects RX2 yX2_ticksOfIce yX2_ticksOfIce ∈ LW := lw_at 606 (by decide +kernel) (by decide +kernel)
theorem CO_X2_ticksOfIce : Cond.code yX2_ticksOfIce cX2_ticksOfIce 2 (some .int) ∈ LW := lw_at 607 (by decide +kernel) (by decide +kernel)
theorem ML_L_187 : Cond.methodLink RL 187 yL_addBuyer ∈ LW := lw_at 608 (by decide +kernel) (by decide +kernel)
theorem ST_L_addBuyer : Cond.static yL_addBuyer ∈ LW := lw_at 609 (by decide +kernel) (by decide +kernel)
theorem CO_L_addBuyer : Cond.codeWith yL_addBuyer cL_addBuyer 4 (some .int) [(0, 9, 12, 13), (0, 9, 15, 15)] ∈ LW := lw_at 610 (by decide +kernel) (by decide +kernel)
theorem ML_L_66 : Cond.methodLink RL 66 yX4_addBuyer ∈ LW := lw_at 611 (by decide +kernel) (by decide +kernel)
theorem IM_X4_addBuyer : Cond.instanceMethod yX4_addBuyer ∈ LW := lw_at 612 (by decide +kernel) (by decide +kernel)
theorem SE_X4_addBuyer : Cond.selects RX4 yX4_addBuyer yX4_addBuyer ∈ LW := lw_at 613 (by decide +kernel) (by decide +kernel)
theorem CO_X4_addBuyer : Cond.code yX4_addBuyer cX4_addBuyer 3 (some .int) ∈ LW := lw_at 614 (by decide +kernel) (by decide +kernel)
theorem CK_X4_189 : Cond.constant RX4 189 (1000000) ∈ LW := lw_at 615 (by decide +kernel) (by decide +kernel)
theorem NE_X1 : Cond.instantiable RX1 3 ∈ LW := lw_at 618 (by decide +kernel) (by decide +kernel)
theorem ML_X4_194 : Cond.methodLink RX4 194 yX1_init ∈ LW := lw_at 619 (by decide +kernel) (by decide +kernel)
theorem IM_X1_init : Cond.instanceMethod yX1_init ∈ LW := lw_at 620 (by decide +kernel) (by decide +kernel)
theorem CO_X1_init : Cond.code yX1_init cX1_init 3 none ∈ LW := lw_at 621 (by decide +kernel) (by decide +kernel)
theorem ML_X1_3 : Cond.methodLink RX1 3 ⟨"java/lang/Object", "<init>", "()V"⟩ ∈ LW := lw_at 622 (by decide +kernel) (by decide +kernel)
theorem FL_X1_15 : Cond.fieldLink RX1 15 RX1 "number" "I" ∈ LW := lw_at 623 (by decide +kernel) (by decide +kernel)
theorem FL_X4_238 : Cond.fieldLink RX4 238 RX1 "number" "I" ∈ LW := lw_at 624 (by decide +kernel) (by decide +kernel)
theorem FL_X1_9 : Cond.fieldLink RX1 9 RX1 "limits" "[I" ∈ LW := lw_at 625 (by decide +kernel) (by decide +kernel)
theorem FL_X4_202 : Cond.fieldLink RX4 202 RX1 "limits" "[I" ∈ LW := lw_at 626 (by decide +kernel) (by decide +kernel)
theorem FL_X1_19 : Cond.fieldLink RX1 19 RX1 "money" "I" ∈ LW := lw_at 627 (by decide +kernel) (by decide +kernel)
theorem FL_X4_205 : Cond.fieldLink RX4 205 RX1 "money" "I" ∈ LW := lw_at 628 (by decide +kernel) (by decide +kernel)
theorem LA_X1_number : Cond.laysFinal RX1 RX1 "number" "I" ∈ LW := lw_at 629 (by decide +kernel) (by decide +kernel)
theorem LA_X1_limits : Cond.laysFinal RX1 RX1 "limits" "[I" ∈ LW := lw_at 631 (by decide +kernel) (by decide +kernel)
theorem LA_X1_money : Cond.lays RX1 RX1 "money" "I" ∈ LW := lw_at 633 (by decide +kernel) (by decide +kernel)
theorem ML_L_190 : Cond.methodLink RL 190 yL_setLimit ∈ LW := lw_at 636 (by decide +kernel) (by decide +kernel)
theorem ST_L_setLimit : Cond.static yL_setLimit ∈ LW := lw_at 637 (by decide +kernel) (by decide +kernel)
theorem CO_L_setLimit : Cond.codeWith yL_setLimit cL_setLimit 6 (some .int) [(0, 12, 15, 21), (0, 12, 19, 13)] ∈ LW := lw_at 638 (by decide +kernel) (by decide +kernel)
theorem ML_L_69 : Cond.methodLink RL 69 yX4_setLimit ∈ LW := lw_at 639 (by decide +kernel) (by decide +kernel)
theorem IM_X4_setLimit : Cond.instanceMethod yX4_setLimit ∈ LW := lw_at 640 (by decide +kernel) (by decide +kernel)
theorem SE_X4_setLimit : Cond.selects RX4 yX4_setLimit yX4_setLimit ∈ LW := lw_at 641 (by decide +kernel) (by decide +kernel)
theorem CO_X4_setLimit : Cond.code yX4_setLimit cX4_setLimit 6 (some .int) ∈ LW := lw_at 642 (by decide +kernel) (by decide +kernel)
theorem ML_X4_196 : Cond.methodLink RX4 196 yX4_buyerNumbered ∈ LW := lw_at 643 (by decide +kernel) (by decide +kernel)
theorem IM_X4_buyerNumbered : Cond.instanceMethod yX4_buyerNumbered ∈ LW := lw_at 645 (by decide +kernel) (by decide +kernel)
theorem CO_X4_buyerNumbered : Cond.code yX4_buyerNumbered cX4_buyerNumbered 2 (some (.object "Fishpier$Buyer")) ∈ LW := lw_at 646 (by decide +kernel) (by decide +kernel)
theorem ML_L_193 : Cond.methodLink RL 193 yL_budget ∈ LW := lw_at 649 (by decide +kernel) (by decide +kernel)
theorem ST_L_budget : Cond.static yL_budget ∈ LW := lw_at 650 (by decide +kernel) (by decide +kernel)
theorem CO_L_budget : Cond.codeWith yL_budget cL_budget 4 (some .int) [(0, 9, 12, 21)] ∈ LW := lw_at 651 (by decide +kernel) (by decide +kernel)
theorem ML_L_72 : Cond.methodLink RL 72 yX4_budget ∈ LW := lw_at 652 (by decide +kernel) (by decide +kernel)
theorem IM_X4_budget : Cond.instanceMethod yX4_budget ∈ LW := lw_at 653 (by decide +kernel) (by decide +kernel)
theorem SE_X4_budget : Cond.selects RX4 yX4_budget yX4_budget ∈ LW := lw_at 654 (by decide +kernel) (by decide +kernel)
theorem CO_X4_budget : Cond.code yX4_budget cX4_budget 2 (some .int) ∈ LW := lw_at 655 (by decide +kernel) (by decide +kernel)
theorem ML_L_196 : Cond.methodLink RL 196 yL_setClock ∈ LW := lw_at 656 (by decide +kernel) (by decide +kernel)
theorem ST_L_setClock : Cond.static yL_setClock ∈ LW := lw_at 657 (by decide +kernel) (by decide +kernel)
theorem CO_L_setClock : Cond.codeWith yL_setClock cL_setClock 6 (some .int) [(0, 12, 15, 13)] ∈ LW := lw_at 658 (by decide +kernel) (by decide +kernel)
theorem ML_L_75 : Cond.methodLink RL 75 yX4_setClock ∈ LW := lw_at 659 (by decide +kernel) (by decide +kernel)
theorem IM_X4_setClock : Cond.instanceMethod yX4_setClock ∈ LW := lw_at 660 (by decide +kernel) (by decide +kernel)
theorem SE_X4_setClock : Cond.selects RX4 yX4_setClock yX4_setClock ∈ LW := lw_at 661 (by decide +kernel) (by decide +kernel)
theorem CO_X4_setClock : Cond.code yX4_setClock cX4_setClock 5 (some .int) ∈ LW := lw_at 662 (by decide +kernel) (by decide +kernel)
theorem ML_L_199 : Cond.methodLink RL 199 yL_offer ∈ LW := lw_at 664 (by decide +kernel) (by decide +kernel)
theorem ST_L_offer : Cond.static yL_offer ∈ LW := lw_at 665 (by decide +kernel) (by decide +kernel)
theorem CO_L_offer : Cond.codeWith yL_offer cL_offer 5 (some .int) [(0, 10, 13, 21), (0, 10, 17, 36)] ∈ LW := lw_at 666 (by decide +kernel) (by decide +kernel)
theorem ML_L_78 : Cond.methodLink RL 78 yX4_offer ∈ LW := lw_at 667 (by decide +kernel) (by decide +kernel)
theorem IM_X4_offer : Cond.instanceMethod yX4_offer ∈ LW := lw_at 668 (by decide +kernel) (by decide +kernel)
theorem SE_X4_offer : Cond.selects RX4 yX4_offer yX4_offer ∈ LW := lw_at 669 (by decide +kernel) (by decide +kernel)
theorem CO_X4_offer : Cond.code yX4_offer cX4_offer 4 (some .int) ∈ LW := lw_at 670 (by decide +kernel) (by decide +kernel)
theorem ML_L_202 : Cond.methodLink RL 202 yL_price ∈ LW := lw_at 671 (by decide +kernel) (by decide +kernel)
theorem ST_L_price : Cond.static yL_price ∈ LW := lw_at 672 (by decide +kernel) (by decide +kernel)
theorem CO_L_price : Cond.codeWith yL_price cL_price 4 (some .int) [(0, 9, 12, 36), (0, 9, 15, 15), (0, 9, 18, 23)] ∈ LW := lw_at 673 (by decide +kernel) (by decide +kernel)
theorem ML_L_81 : Cond.methodLink RL 81 yX4_price ∈ LW := lw_at 674 (by decide +kernel) (by decide +kernel)
theorem IM_X4_price : Cond.instanceMethod yX4_price ∈ LW := lw_at 675 (by decide +kernel) (by decide +kernel)
theorem SE_X4_price : Cond.selects RX4 yX4_price yX4_price ∈ LW := lw_at 676 (by decide +kernel) (by decide +kernel)
theorem CO_X4_price : Cond.code yX4_price cX4_price 3 (some .int) ∈ LW := lw_at 677 (by decide +kernel) (by decide +kernel)
theorem ML_X4_214 : Cond.methodLink RX4 214 yX4_lotForSale ∈ LW := lw_at 678 (by decide +kernel) (by decide +kernel)
theorem IM_X4_lotForSale : Cond.instanceMethod yX4_lotForSale ∈ LW := lw_at 680 (by decide +kernel) (by decide +kernel)
theorem CO_X4_lotForSale : Cond.code yX4_lotForSale cX4_lotForSale 3 (some (.object "Fishpier$Lot")) ∈ LW := lw_at 681 (by decide +kernel) (by decide +kernel)
theorem ML_L_205 : Cond.methodLink RL 205 yL_priceByBuyers ∈ LW := lw_at 684 (by decide +kernel) (by decide +kernel)
theorem ST_L_priceByBuyers : Cond.static yL_priceByBuyers ∈ LW := lw_at 685 (by decide +kernel) (by decide +kernel)
theorem CO_L_priceByBuyers : Cond.codeWith yL_priceByBuyers cL_priceByBuyers 4 (some .int) [(0, 9, 12, 36), (0, 9, 15, 15), (0, 9, 18, 23)] ∈ LW := lw_at 686 (by decide +kernel) (by decide +kernel)
theorem ML_L_84 : Cond.methodLink RL 84 yX4_priceByBuyers ∈ LW := lw_at 687 (by decide +kernel) (by decide +kernel)
theorem IM_X4_priceByBuyers : Cond.instanceMethod yX4_priceByBuyers ∈ LW := lw_at 688 (by decide +kernel) (by decide +kernel)
theorem SE_X4_priceByBuyers : Cond.selects RX4 yX4_priceByBuyers yX4_priceByBuyers ∈ LW := lw_at 689 (by decide +kernel) (by decide +kernel)
theorem CO_X4_priceByBuyers : Cond.code yX4_priceByBuyers cX4_priceByBuyers 3 (some .int) ∈ LW := lw_at 690 (by decide +kernel) (by decide +kernel)
theorem ML_L_208 : Cond.methodLink RL 208 yL_sell ∈ LW := lw_at 691 (by decide +kernel) (by decide +kernel)
theorem ST_L_sell : Cond.static yL_sell ∈ LW := lw_at 692 (by decide +kernel) (by decide +kernel)
theorem CO_L_sell : Cond.codeWith yL_sell cL_sell 4 (some .int) [(0, 9, 12, 36), (0, 9, 15, 15), (0, 9, 18, 23)] ∈ LW := lw_at 693 (by decide +kernel) (by decide +kernel)
theorem ML_L_87 : Cond.methodLink RL 87 yX4_sell ∈ LW := lw_at 694 (by decide +kernel) (by decide +kernel)
theorem IM_X4_sell : Cond.instanceMethod yX4_sell ∈ LW := lw_at 695 (by decide +kernel) (by decide +kernel)
theorem SE_X4_sell : Cond.selects RX4 yX4_sell yX4_sell ∈ LW := lw_at 696 (by decide +kernel) (by decide +kernel)
theorem CO_X4_sell : Cond.code yX4_sell cX4_sell 6 (some .int) ∈ LW := lw_at 697 (by decide +kernel) (by decide +kernel)
theorem ML_L_211 : Cond.methodLink RL 211 yL_buyerOf ∈ LW := lw_at 699 (by decide +kernel) (by decide +kernel)
theorem ST_L_buyerOf : Cond.static yL_buyerOf ∈ LW := lw_at 700 (by decide +kernel) (by decide +kernel)
theorem CO_L_buyerOf : Cond.codeWith yL_buyerOf cL_buyerOf 4 (some .int) [(0, 9, 12, 36)] ∈ LW := lw_at 701 (by decide +kernel) (by decide +kernel)
theorem ML_L_90 : Cond.methodLink RL 90 yX4_buyerOf ∈ LW := lw_at 702 (by decide +kernel) (by decide +kernel)
theorem IM_X4_buyerOf : Cond.instanceMethod yX4_buyerOf ∈ LW := lw_at 703 (by decide +kernel) (by decide +kernel)
theorem SE_X4_buyerOf : Cond.selects RX4 yX4_buyerOf yX4_buyerOf ∈ LW := lw_at 704 (by decide +kernel) (by decide +kernel)
theorem CO_X4_buyerOf : Cond.code yX4_buyerOf cX4_buyerOf 3 (some .int) ∈ LW := lw_at 705 (by decide +kernel) (by decide +kernel)
theorem ML_L_214 : Cond.methodLink RL 214 yL_paidFor ∈ LW := lw_at 707 (by decide +kernel) (by decide +kernel)
theorem ST_L_paidFor : Cond.static yL_paidFor ∈ LW := lw_at 708 (by decide +kernel) (by decide +kernel)
theorem CO_L_paidFor : Cond.codeWith yL_paidFor cL_paidFor 4 (some .int) [(0, 9, 12, 36)] ∈ LW := lw_at 709 (by decide +kernel) (by decide +kernel)
theorem ML_L_93 : Cond.methodLink RL 93 yX4_paidFor ∈ LW := lw_at 710 (by decide +kernel) (by decide +kernel)
theorem IM_X4_paidFor : Cond.instanceMethod yX4_paidFor ∈ LW := lw_at 711 (by decide +kernel) (by decide +kernel)
theorem SE_X4_paidFor : Cond.selects RX4 yX4_paidFor yX4_paidFor ∈ LW := lw_at 712 (by decide +kernel) (by decide +kernel)
theorem CO_X4_paidFor : Cond.code yX4_paidFor cX4_paidFor 2 (some .int) ∈ LW := lw_at 713 (by decide +kernel) (by decide +kernel)
theorem ML_L_217 : Cond.methodLink RL 217 yL_addTruck ∈ LW := lw_at 714 (by decide +kernel) (by decide +kernel)
theorem ST_L_addTruck : Cond.static yL_addTruck ∈ LW := lw_at 715 (by decide +kernel) (by decide +kernel)
theorem CO_L_addTruck : Cond.codeWith yL_addTruck cL_addTruck 6 (some .int) [(0, 12, 15, 13), (0, 12, 19, 15)] ∈ LW := lw_at 716 (by decide +kernel) (by decide +kernel)
theorem ML_L_96 : Cond.methodLink RL 96 yX4_addTruck ∈ LW := lw_at 717 (by decide +kernel) (by decide +kernel)
theorem IM_X4_addTruck : Cond.instanceMethod yX4_addTruck ∈ LW := lw_at 718 (by decide +kernel) (by decide +kernel)
theorem SE_X4_addTruck : Cond.selects RX4 yX4_addTruck yX4_addTruck ∈ LW := lw_at 719 (by decide +kernel) (by decide +kernel)
theorem CO_X4_addTruck : Cond.code yX4_addTruck cX4_addTruck 5 (some .int) ∈ LW := lw_at 720 (by decide +kernel) (by decide +kernel)
theorem NE_X3 : Cond.instantiable RX3 5 ∈ LW := lw_at 723 (by decide +kernel) (by decide +kernel)
theorem ML_X4_247 : Cond.methodLink RX4 247 yX3_init ∈ LW := lw_at 724 (by decide +kernel) (by decide +kernel)
theorem IM_X3_init : Cond.instanceMethod yX3_init ∈ LW := lw_at 725 (by decide +kernel) (by decide +kernel)
theorem CO_X3_init : Cond.code yX3_init cX3_init 4 none ∈ LW := lw_at 726 (by decide +kernel) (by decide +kernel)
theorem ML_X3_3 : Cond.methodLink RX3 3 ⟨"java/lang/Object", "<init>", "()V"⟩ ∈ LW := lw_at 727 (by decide +kernel) (by decide +kernel)
theorem CL_X3_9 : Cond.classLink RX3 9 RX2 ∈ LW := lw_at 728 (by decide +kernel) (by decide +kernel)
theorem FL_X3_21 : Cond.fieldLink RX3 21 RX3 "hour" "I" ∈ LW := lw_at 729 (by decide +kernel) (by decide +kernel)
theorem FL_X4_182 : Cond.fieldLink RX4 182 RX3 "hour" "I" ∈ LW := lw_at 730 (by decide +kernel) (by decide +kernel)
theorem FL_X3_27 : Cond.fieldLink RX3 27 RX3 "isClosed" "Z" ∈ LW := lw_at 731 (by decide +kernel) (by decide +kernel)
theorem FL_X4_260 : Cond.fieldLink RX4 260 RX3 "isClosed" "Z" ∈ LW := lw_at 732 (by decide +kernel) (by decide +kernel)
theorem FL_X3_11 : Cond.fieldLink RX3 11 RX3 "freight" "[LFishpier$Lot;" ∈ LW := lw_at 733 (by decide +kernel) (by decide +kernel)
theorem FL_X4_276 : Cond.fieldLink RX4 276 RX3 "freight" "[LFishpier$Lot;" ∈ LW := lw_at 734 (by decide +kernel) (by decide +kernel)
theorem FL_X3_17 : Cond.fieldLink RX3 17 RX3 "loadedLots" "I" ∈ LW := lw_at 735 (by decide +kernel) (by decide +kernel)
theorem FL_X3_24 : Cond.fieldLink RX3 24 RX3 "roomLeft" "I" ∈ LW := lw_at 736 (by decide +kernel) (by decide +kernel)
theorem FL_X4_273 : Cond.fieldLink RX4 273 RX3 "roomLeft" "I" ∈ LW := lw_at 737 (by decide +kernel) (by decide +kernel)
theorem LA_X3_hour : Cond.laysFinal RX3 RX3 "hour" "I" ∈ LW := lw_at 738 (by decide +kernel) (by decide +kernel)
theorem LA_X3_isClosed : Cond.laysFinal RX3 RX3 "isClosed" "Z" ∈ LW := lw_at 740 (by decide +kernel) (by decide +kernel)
theorem LA_X3_freight : Cond.laysFinal RX3 RX3 "freight" "[LFishpier$Lot;" ∈ LW := lw_at 742 (by decide +kernel) (by decide +kernel)
theorem LA_X3_loadedLots : Cond.lays RX3 RX3 "loadedLots" "I" ∈ LW := lw_at 744 (by decide +kernel) (by decide +kernel)
theorem LA_X3_roomLeft : Cond.lays RX3 RX3 "roomLeft" "I" ∈ LW := lw_at 746 (by decide +kernel) (by decide +kernel)
theorem ML_L_221 : Cond.methodLink RL 221 yL_load ∈ LW := lw_at 749 (by decide +kernel) (by decide +kernel)
theorem ST_L_load : Cond.static yL_load ∈ LW := lw_at 750 (by decide +kernel) (by decide +kernel)
theorem CO_L_load : Cond.codeWith yL_load cL_load 5 (some .int) [(0, 10, 13, 36), (0, 10, 17, 21), (0, 10, 21, 15), (0, 10, 25, 23)] ∈ LW := lw_at 751 (by decide +kernel) (by decide +kernel)
theorem ML_L_100 : Cond.methodLink RL 100 yX4_load ∈ LW := lw_at 752 (by decide +kernel) (by decide +kernel)
theorem IM_X4_load : Cond.instanceMethod yX4_load ∈ LW := lw_at 753 (by decide +kernel) (by decide +kernel)
theorem SE_X4_load : Cond.selects RX4 yX4_load yX4_load ∈ LW := lw_at 754 (by decide +kernel) (by decide +kernel)
theorem CO_X4_load : Cond.code yX4_load cX4_load 5 (some .int) ∈ LW := lw_at 755 (by decide +kernel) (by decide +kernel)
theorem ML_X4_250 : Cond.methodLink RX4 250 yX4_truckNumbered ∈ LW := lw_at 756 (by decide +kernel) (by decide +kernel)
theorem IM_X4_truckNumbered : Cond.instanceMethod yX4_truckNumbered ∈ LW := lw_at 758 (by decide +kernel) (by decide +kernel)
theorem CO_X4_truckNumbered : Cond.code yX4_truckNumbered cX4_truckNumbered 2 (some (.object "Fishpier$Truck")) ∈ LW := lw_at 759 (by decide +kernel) (by decide +kernel)
theorem ML_X4_254 : Cond.methodLink RX4 254 yX3_hasPlaceFor ∈ LW := lw_at 761 (by decide +kernel) (by decide +kernel)
theorem IM_X3_hasPlaceFor : Cond.instanceMethod yX3_hasPlaceFor ∈ LW := lw_at 762 (by decide +kernel) (by decide +kernel)
theorem SE_X3_hasPlaceFor : Cond.selects RX3 yX3_hasPlaceFor yX3_hasPlaceFor ∈ LW := lw_at 763 (by decide +kernel) (by decide +kernel)
theorem CO_X3_hasPlaceFor : Cond.code yX3_hasPlaceFor cX3_hasPlaceFor 2 (some .boolean) ∈ LW := lw_at 764 (by decide +kernel) (by decide +kernel)
theorem ML_X4_269 : Cond.methodLink RX4 269 yX3_take ∈ LW := lw_at 767 (by decide +kernel) (by decide +kernel)
theorem IM_X3_take : Cond.instanceMethod yX3_take ∈ LW := lw_at 768 (by decide +kernel) (by decide +kernel)
theorem SE_X3_take : Cond.selects RX3 yX3_take yX3_take ∈ LW := lw_at 769 (by decide +kernel) (by decide +kernel)
theorem CO_X3_take : Cond.code yX3_take cX3_take 2 none ∈ LW := lw_at 770 (by decide +kernel) (by decide +kernel)
theorem ML_L_224 : Cond.methodLink RL 224 yL_lotOn ∈ LW := lw_at 771 (by decide +kernel) (by decide +kernel)
theorem ST_L_lotOn : Cond.static yL_lotOn ∈ LW := lw_at 772 (by decide +kernel) (by decide +kernel)
theorem CO_L_lotOn : Cond.codeWith yL_lotOn cL_lotOn 5 (some .int) [(0, 10, 13, 21), (0, 10, 17, 36)] ∈ LW := lw_at 773 (by decide +kernel) (by decide +kernel)
theorem ML_L_103 : Cond.methodLink RL 103 yX4_lotOn ∈ LW := lw_at 774 (by decide +kernel) (by decide +kernel)
theorem IM_X4_lotOn : Cond.instanceMethod yX4_lotOn ∈ LW := lw_at 775 (by decide +kernel) (by decide +kernel)
theorem SE_X4_lotOn : Cond.selects RX4 yX4_lotOn yX4_lotOn ∈ LW := lw_at 776 (by decide +kernel) (by decide +kernel)
theorem CO_X4_lotOn : Cond.code yX4_lotOn cX4_lotOn 4 (some .int) ∈ LW := lw_at 777 (by decide +kernel) (by decide +kernel)
theorem ML_L_239 : Cond.methodLink RL 239 yL_soldShare ∈ LW := lw_at 779 (by decide +kernel) (by decide +kernel)
theorem ST_L_soldShare : Cond.static yL_soldShare ∈ LW := lw_at 780 (by decide +kernel) (by decide +kernel)
theorem CO_L_soldShare : Cond.codeWith yL_soldShare cL_soldShare 3 (some .int) [(0, 8, 11, 110)] ∈ LW := lw_at 781 (by decide +kernel) (by decide +kernel)
theorem CL_L_110 : Cond.classLink RL 110 "java/lang/ArithmeticException" ∈ LW := lw_at 782 (by decide +kernel) (by decide +kernel)
theorem ML_L_106 : Cond.methodLink RL 106 yX4_soldShare ∈ LW := lw_at 796 (by decide +kernel) (by decide +kernel)
theorem IM_X4_soldShare : Cond.instanceMethod yX4_soldShare ∈ LW := lw_at 797 (by decide +kernel) (by decide +kernel)
theorem SE_X4_soldShare : Cond.selects RX4 yX4_soldShare yX4_soldShare ∈ LW := lw_at 798 (by decide +kernel) (by decide +kernel)
theorem CO_X4_soldShare : Cond.code yX4_soldShare cX4_soldShare 2 (some .float) ∈ LW := lw_at 799 (by decide +kernel) (by decide +kernel)
theorem ML_X4_282 : Cond.methodLink RX4 282 yX4_weightOfAllLots ∈ LW := lw_at 800 (by decide +kernel) (by decide +kernel)
theorem IM_X4_weightOfAllLots : Cond.instanceMethod yX4_weightOfAllLots ∈ LW := lw_at 802 (by decide +kernel) (by decide +kernel)
theorem CO_X4_weightOfAllLots : Cond.code yX4_weightOfAllLots cX4_weightOfAllLots 6 (some .int) ∈ LW := lw_at 803 (by decide +kernel) (by decide +kernel)
theorem CL_X4_285 : Cond.classLink RX4 285 "java/lang/ArithmeticException" ∈ LW := lw_at 804 (by decide +kernel) (by decide +kernel)
theorem ML_X4_289 : Cond.methodLink RX4 289 ⟨"java/lang/ArithmeticException", "<init>", "(Ljava/lang/String;)V"⟩ ∈ LW := lw_at 806 (by decide +kernel) (by decide +kernel)
theorem ML_X4_290 : Cond.methodLink RX4 290 yX4_weightOfSoldLots ∈ LW := lw_at 807 (by decide +kernel) (by decide +kernel)
theorem IM_X4_weightOfSoldLots : Cond.instanceMethod yX4_weightOfSoldLots ∈ LW := lw_at 809 (by decide +kernel) (by decide +kernel)
theorem CO_X4_weightOfSoldLots : Cond.code yX4_weightOfSoldLots cX4_weightOfSoldLots 6 (some .int) ∈ LW := lw_at 810 (by decide +kernel) (by decide +kernel)
theorem ML_X4_344 : Cond.methodLink RX4 344 yX2_wasSold ∈ LW := lw_at 811 (by decide +kernel) (by decide +kernel)
theorem IM_X2_wasSold : Cond.instanceMethod yX2_wasSold ∈ LW := lw_at 812 (by decide +kernel) (by decide +kernel)
theorem SE_X2_wasSold : Cond.selects RX2 yX2_wasSold yX2_wasSold ∈ LW := lw_at 813 (by decide +kernel) (by decide +kernel)
theorem CO_X2_wasSold : Cond.code yX2_wasSold cX2_wasSold 1 (some .boolean) ∈ LW := lw_at 814 (by decide +kernel) (by decide +kernel)
theorem ML_L_243 : Cond.methodLink RL 243 yL_meanPrice ∈ LW := lw_at 815 (by decide +kernel) (by decide +kernel)
theorem ST_L_meanPrice : Cond.static yL_meanPrice ∈ LW := lw_at 816 (by decide +kernel) (by decide +kernel)
theorem CO_L_meanPrice : Cond.codeWith yL_meanPrice cL_meanPrice 3 (some .int) [(0, 7, 10, 110)] ∈ LW := lw_at 817 (by decide +kernel) (by decide +kernel)
theorem ML_L_112 : Cond.methodLink RL 112 yX4_meanPrice ∈ LW := lw_at 818 (by decide +kernel) (by decide +kernel)
theorem IM_X4_meanPrice : Cond.instanceMethod yX4_meanPrice ∈ LW := lw_at 819 (by decide +kernel) (by decide +kernel)
theorem SE_X4_meanPrice : Cond.selects RX4 yX4_meanPrice yX4_meanPrice ∈ LW := lw_at 820 (by decide +kernel) (by decide +kernel)
theorem CO_X4_meanPrice : Cond.code yX4_meanPrice cX4_meanPrice 1 (some .double) ∈ LW := lw_at 821 (by decide +kernel) (by decide +kernel)
theorem ML_X4_293 : Cond.methodLink RX4 293 yX4_meanOfSoldKilograms ∈ LW := lw_at 822 (by decide +kernel) (by decide +kernel)
theorem IM_X4_meanOfSoldKilograms : Cond.instanceMethod yX4_meanOfSoldKilograms ∈ LW := lw_at 824 (by decide +kernel) (by decide +kernel)
theorem CO_X4_meanOfSoldKilograms : Cond.code yX4_meanOfSoldKilograms cX4_meanOfSoldKilograms 2 (some .double) ∈ LW := lw_at 825 (by decide +kernel) (by decide +kernel)
theorem ML_L_246 : Cond.methodLink RL 246 yL_meanBits ∈ LW := lw_at 827 (by decide +kernel) (by decide +kernel)
theorem ST_L_meanBits : Cond.static yL_meanBits ∈ LW := lw_at 828 (by decide +kernel) (by decide +kernel)
theorem CO_L_meanBits : Cond.codeWith yL_meanBits cL_meanBits 3 (some .int) [(0, 7, 10, 110)] ∈ LW := lw_at 829 (by decide +kernel) (by decide +kernel)
theorem ML_L_116 : Cond.methodLink RL 116 yX4_meanBits ∈ LW := lw_at 830 (by decide +kernel) (by decide +kernel)
theorem IM_X4_meanBits : Cond.instanceMethod yX4_meanBits ∈ LW := lw_at 831 (by decide +kernel) (by decide +kernel)
theorem SE_X4_meanBits : Cond.selects RX4 yX4_meanBits yX4_meanBits ∈ LW := lw_at 832 (by decide +kernel) (by decide +kernel)
theorem CO_X4_meanBits : Cond.code yX4_meanBits cX4_meanBits 1 (some .long) ∈ LW := lw_at 833 (by decide +kernel) (by decide +kernel)
theorem ML_X4_297 : Cond.methodLink RX4 297 yX4_bitsOfMean ∈ LW := lw_at 834 (by decide +kernel) (by decide +kernel)
theorem ST_X4_bitsOfMean : Cond.static yX4_bitsOfMean ∈ LW := lw_at 835 (by decide +kernel) (by decide +kernel)
theorem CO_X4_bitsOfMean : Cond.code yX4_bitsOfMean cX4_bitsOfMean 5 (some .long) ∈ LW := lw_at 836 (by decide +kernel) (by decide +kernel)
theorem CK_X4_368 : Cond.constantDouble RX4 368 (4611686018427387904) ∈ LW := lw_at 837 (by decide +kernel) (by decide +kernel)
theorem CK_X4_370 : Cond.constantDouble RX4 370 (4841369599423283200) ∈ LW := lw_at 838 (by decide +kernel) (by decide +kernel)
theorem CL_L_121 : Cond.classLink RL 121 RX5 ∈ LW := lw_at 839 (by decide +kernel) (by decide +kernel)
theorem NE_X5 : Cond.instantiable RX5 30 ∈ LW := lw_at 840 (by decide +kernel) (by decide +kernel)
theorem ML_L_123 : Cond.methodLink RL 123 yX5_init ∈ LW := lw_at 841 (by decide +kernel) (by decide +kernel)
theorem IM_X5_init : Cond.instanceMethod yX5_init ∈ LW := lw_at 842 (by decide +kernel) (by decide +kernel)
theorem CO_X5_init : Cond.code yX5_init cX5_init 1 none ∈ LW := lw_at 843 (by decide +kernel) (by decide +kernel)
theorem ML_X5_1 : Cond.methodLink RX5 1 ⟨"java/lang/Object", "<init>", "()V"⟩ ∈ LW := lw_at 844 (by decide +kernel) (by decide +kernel)
theorem FL_X5_74 : Cond.fieldLink RX5 74 RX5 "thrown" "I" ∈ LW := lw_at 845 (by decide +kernel) (by decide +kernel)
theorem FL_X5_77 : Cond.fieldLink RX5 77 RX5 "boats" "I" ∈ LW := lw_at 846 (by decide +kernel) (by decide +kernel)
theorem FL_X5_9 : Cond.fieldLink RX5 9 RX5 "quota" "[I" ∈ LW := lw_at 847 (by decide +kernel) (by decide +kernel)
theorem FL_X5_13 : Cond.fieldLink RX5 13 RX5 "written" "[I" ∈ LW := lw_at 848 (by decide +kernel) (by decide +kernel)
theorem FL_X5_107 : Cond.fieldLink RX5 107 RX5 "day" "I" ∈ LW := lw_at 849 (by decide +kernel) (by decide +kernel)
theorem FL_X5_103 : Cond.fieldLink RX5 103 RX5 "beyond" "I" ∈ LW := lw_at 850 (by decide +kernel) (by decide +kernel)
theorem FL_X5_84 : Cond.fieldLink RX5 84 RX5 "lots" "I" ∈ LW := lw_at 851 (by decide +kernel) (by decide +kernel)
theorem FL_X5_16 : Cond.fieldLink RX5 16 RX5 "species" "[I" ∈ LW := lw_at 852 (by decide +kernel) (by decide +kernel)
theorem FL_X5_19 : Cond.fieldLink RX5 19 RX5 "size" "[I" ∈ LW := lw_at 853 (by decide +kernel) (by decide +kernel)
theorem FL_X5_22 : Cond.fieldLink RX5 22 RX5 "weight" "[I" ∈ LW := lw_at 854 (by decide +kernel) (by decide +kernel)
theorem FL_X5_25 : Cond.fieldLink RX5 25 RX5 "boxed" "[Z" ∈ LW := lw_at 855 (by decide +kernel) (by decide +kernel)
theorem FL_X5_29 : Cond.fieldLink RX5 29 RX5 "state" "[C" ∈ LW := lw_at 856 (by decide +kernel) (by decide +kernel)
theorem FL_X5_33 : Cond.fieldLink RX5 33 RX5 "fresh" "[F" ∈ LW := lw_at 857 (by decide +kernel) (by decide +kernel)
theorem FL_X5_37 : Cond.fieldLink RX5 37 RX5 "ice" "[I" ∈ LW := lw_at 858 (by decide +kernel) (by decide +kernel)
theorem FL_X5_40 : Cond.fieldLink RX5 40 RX5 "buyer" "[I" ∈ LW := lw_at 859 (by decide +kernel) (by decide +kernel)
theorem FL_X5_43 : Cond.fieldLink RX5 43 RX5 "paid" "[I" ∈ LW := lw_at 860 (by decide +kernel) (by decide +kernel)
theorem FL_X5_135 : Cond.fieldLink RX5 135 RX5 "time" "I" ∈ LW := lw_at 861 (by decide +kernel) (by decide +kernel)
theorem FL_X5_87 : Cond.fieldLink RX5 87 RX5 "buyers" "I" ∈ LW := lw_at 862 (by decide +kernel) (by decide +kernel)
theorem FL_X5_46 : Cond.fieldLink RX5 46 RX5 "budget" "[I" ∈ LW := lw_at 863 (by decide +kernel) (by decide +kernel)
theorem FL_X5_49 : Cond.fieldLink RX5 49 RX5 "limit" "[I" ∈ LW := lw_at 864 (by decide +kernel) (by decide +kernel)
theorem FL_X5_52 : Cond.fieldLink RX5 52 RX5 "start" "I" ∈ LW := lw_at 865 (by decide +kernel) (by decide +kernel)
theorem FL_X5_56 : Cond.fieldLink RX5 56 RX5 "step" "I" ∈ LW := lw_at 866 (by decide +kernel) (by decide +kernel)
theorem FL_X5_145 : Cond.fieldLink RX5 145 RX5 "reserve" "I" ∈ LW := lw_at 867 (by decide +kernel) (by decide +kernel)
theorem FL_X5_90 : Cond.fieldLink RX5 90 RX5 "trucks" "I" ∈ LW := lw_at 868 (by decide +kernel) (by decide +kernel)
theorem FL_X5_59 : Cond.fieldLink RX5 59 RX5 "hour" "[I" ∈ LW := lw_at 869 (by decide +kernel) (by decide +kernel)
theorem FL_X5_62 : Cond.fieldLink RX5 62 RX5 "room" "[I" ∈ LW := lw_at 870 (by decide +kernel) (by decide +kernel)
theorem FL_X5_65 : Cond.fieldLink RX5 65 RX5 "closed" "[Z" ∈ LW := lw_at 871 (by decide +kernel) (by decide +kernel)
theorem FL_X5_68 : Cond.fieldLink RX5 68 RX5 "loaded" "[I" ∈ LW := lw_at 872 (by decide +kernel) (by decide +kernel)
theorem FL_X5_71 : Cond.fieldLink RX5 71 RX5 "lotOn" "[I" ∈ LW := lw_at 873 (by decide +kernel) (by decide +kernel)
theorem FL_X5_127 : Cond.fieldLink RX5 127 RX5 "income" "J" ∈ LW := lw_at 874 (by decide +kernel) (by decide +kernel)
theorem LA_X5_thrown : Cond.lays RX5 RX5 "thrown" "I" ∈ LW := lw_at 875 (by decide +kernel) (by decide +kernel)
theorem LA_X5_boats : Cond.lays RX5 RX5 "boats" "I" ∈ LW := lw_at 877 (by decide +kernel) (by decide +kernel)
theorem LA_X5_quota : Cond.laysFinal RX5 RX5 "quota" "[I" ∈ LW := lw_at 879 (by decide +kernel) (by decide +kernel)
theorem LA_X5_written : Cond.laysFinal RX5 RX5 "written" "[I" ∈ LW := lw_at 881 (by decide +kernel) (by decide +kernel)
theorem LA_X5_day : Cond.lays RX5 RX5 "day" "I" ∈ LW := lw_at 883 (by decide +kernel) (by decide +kernel)
theorem LA_X5_beyond : Cond.lays RX5 RX5 "beyond" "I" ∈ LW := lw_at 885 (by decide +kernel) (by decide +kernel)
theorem LA_X5_lots : Cond.lays RX5 RX5 "lots" "I" ∈ LW := lw_at 887 (by decide +kernel) (by decide +kernel)
theorem LA_X5_species : Cond.laysFinal RX5 RX5 "species" "[I" ∈ LW := lw_at 889 (by decide +kernel) (by decide +kernel)
theorem LA_X5_size : Cond.laysFinal RX5 RX5 "size" "[I" ∈ LW := lw_at 891 (by decide +kernel) (by decide +kernel)
theorem LA_X5_weight : Cond.laysFinal RX5 RX5 "weight" "[I" ∈ LW := lw_at 893 (by decide +kernel) (by decide +kernel)
theorem LA_X5_boxed : Cond.laysFinal RX5 RX5 "boxed" "[Z" ∈ LW := lw_at 895 (by decide +kernel) (by decide +kernel)
theorem LA_X5_state : Cond.laysFinal RX5 RX5 "state" "[C" ∈ LW := lw_at 897 (by decide +kernel) (by decide +kernel)
theorem LA_X5_fresh : Cond.laysFinal RX5 RX5 "fresh" "[F" ∈ LW := lw_at 899 (by decide +kernel) (by decide +kernel)
theorem LA_X5_ice : Cond.laysFinal RX5 RX5 "ice" "[I" ∈ LW := lw_at 901 (by decide +kernel) (by decide +kernel)
theorem LA_X5_buyer : Cond.laysFinal RX5 RX5 "buyer" "[I" ∈ LW := lw_at 903 (by decide +kernel) (by decide +kernel)
theorem LA_X5_paid : Cond.laysFinal RX5 RX5 "paid" "[I" ∈ LW := lw_at 905 (by decide +kernel) (by decide +kernel)
theorem LA_X5_time : Cond.lays RX5 RX5 "time" "I" ∈ LW := lw_at 907 (by decide +kernel) (by decide +kernel)
theorem LA_X5_buyers : Cond.lays RX5 RX5 "buyers" "I" ∈ LW := lw_at 909 (by decide +kernel) (by decide +kernel)
theorem LA_X5_budget : Cond.laysFinal RX5 RX5 "budget" "[I" ∈ LW := lw_at 911 (by decide +kernel) (by decide +kernel)
theorem LA_X5_limit : Cond.laysFinal RX5 RX5 "limit" "[I" ∈ LW := lw_at 913 (by decide +kernel) (by decide +kernel)
theorem LA_X5_start : Cond.lays RX5 RX5 "start" "I" ∈ LW := lw_at 915 (by decide +kernel) (by decide +kernel)
theorem LA_X5_step : Cond.lays RX5 RX5 "step" "I" ∈ LW := lw_at 917 (by decide +kernel) (by decide +kernel)
theorem LA_X5_reserve : Cond.lays RX5 RX5 "reserve" "I" ∈ LW := lw_at 919 (by decide +kernel) (by decide +kernel)
theorem LA_X5_trucks : Cond.lays RX5 RX5 "trucks" "I" ∈ LW := lw_at 921 (by decide +kernel) (by decide +kernel)
theorem LA_X5_hour : Cond.laysFinal RX5 RX5 "hour" "[I" ∈ LW := lw_at 923 (by decide +kernel) (by decide +kernel)
theorem LA_X5_room : Cond.laysFinal RX5 RX5 "room" "[I" ∈ LW := lw_at 925 (by decide +kernel) (by decide +kernel)
theorem LA_X5_closed : Cond.laysFinal RX5 RX5 "closed" "[Z" ∈ LW := lw_at 927 (by decide +kernel) (by decide +kernel)
theorem LA_X5_loaded : Cond.laysFinal RX5 RX5 "loaded" "[I" ∈ LW := lw_at 929 (by decide +kernel) (by decide +kernel)
theorem LA_X5_lotOn : Cond.laysFinal RX5 RX5 "lotOn" "[I" ∈ LW := lw_at 931 (by decide +kernel) (by decide +kernel)
theorem LA_X5_income : Cond.lays RX5 RX5 "income" "J" ∈ LW := lw_at 933 (by decide +kernel) (by decide +kernel)
theorem AC_boolean : Cond.arrayClass .boolean ∈ LW := lw_at 936 (by decide +kernel) (by decide +kernel)
theorem AC_char : Cond.arrayClass .char ∈ LW := lw_at 937 (by decide +kernel) (by decide +kernel)
theorem AC_float : Cond.arrayClass .float ∈ LW := lw_at 938 (by decide +kernel) (by decide +kernel)
theorem ML_L_130 : Cond.methodLink RL 130 yX5_thrown ∈ LW := lw_at 939 (by decide +kernel) (by decide +kernel)
theorem IM_X5_thrown : Cond.instanceMethod yX5_thrown ∈ LW := lw_at 940 (by decide +kernel) (by decide +kernel)
theorem SE_X5_thrown : Cond.selects RX5 yX5_thrown yX5_thrown ∈ LW := lw_at 941 (by decide +kernel) (by decide +kernel)
theorem CO_X5_thrown : Cond.code yX5_thrown cX5_thrown 1 (some .int) ∈ LW := lw_at 942 (by decide +kernel) (by decide +kernel)
theorem ML_L_129 : Cond.methodLink RL 129 yX5_addBoat ∈ LW := lw_at 943 (by decide +kernel) (by decide +kernel)
theorem IM_X5_addBoat : Cond.instanceMethod yX5_addBoat ∈ LW := lw_at 944 (by decide +kernel) (by decide +kernel)
theorem SE_X5_addBoat : Cond.selects RX5 yX5_addBoat yX5_addBoat ∈ LW := lw_at 945 (by decide +kernel) (by decide +kernel)
theorem CO_X5_addBoat : Cond.code yX5_addBoat cX5_addBoat 6 (some .int) ∈ LW := lw_at 946 (by decide +kernel) (by decide +kernel)
theorem ML_X5_80 : Cond.methodLink RX5 80 yX5_in ∈ LW := lw_at 947 (by decide +kernel) (by decide +kernel)
theorem ST_X5_in : Cond.static yX5_in ∈ LW := lw_at 948 (by decide +kernel) (by decide +kernel)
theorem CO_X5_in : Cond.code yX5_in cX5_in 3 (some .boolean) ∈ LW := lw_at 949 (by decide +kernel) (by decide +kernel)
theorem ML_X5_93 : Cond.methodLink RX5 93 yX5_goesOn ∈ LW := lw_at 950 (by decide +kernel) (by decide +kernel)
theorem IM_X5_goesOn : Cond.instanceMethod yX5_goesOn ∈ LW := lw_at 952 (by decide +kernel) (by decide +kernel)
theorem CO_X5_goesOn : Cond.code yX5_goesOn cX5_goesOn 2 (some .boolean) ∈ LW := lw_at 953 (by decide +kernel) (by decide +kernel)
theorem ML_L_136 : Cond.methodLink RL 136 yX5_land ∈ LW := lw_at 954 (by decide +kernel) (by decide +kernel)
theorem IM_X5_land : Cond.instanceMethod yX5_land ∈ LW := lw_at 955 (by decide +kernel) (by decide +kernel)
theorem SE_X5_land : Cond.selects RX5 yX5_land yX5_land ∈ LW := lw_at 956 (by decide +kernel) (by decide +kernel)
theorem CO_X5_land : Cond.code yX5_land cX5_land 10 (some .int) ∈ LW := lw_at 957 (by decide +kernel) (by decide +kernel)
theorem ML_X5_97 : Cond.methodLink RX5 97 yX5_isSpecies ∈ LW := lw_at 958 (by decide +kernel) (by decide +kernel)
theorem ST_X5_isSpecies : Cond.static yX5_isSpecies ∈ LW := lw_at 959 (by decide +kernel) (by decide +kernel)
theorem CO_X5_isSpecies : Cond.code yX5_isSpecies cX5_isSpecies 1 (some .boolean) ∈ LW := lw_at 960 (by decide +kernel) (by decide +kernel)
theorem ML_X5_100 : Cond.methodLink RX5 100 yX5_isBoat ∈ LW := lw_at 961 (by decide +kernel) (by decide +kernel)
theorem IM_X5_isBoat : Cond.instanceMethod yX5_isBoat ∈ LW := lw_at 963 (by decide +kernel) (by decide +kernel)
theorem CO_X5_isBoat : Cond.code yX5_isBoat cX5_isBoat 2 (some .boolean) ∈ LW := lw_at 964 (by decide +kernel) (by decide +kernel)
theorem CK_X5_106 : Cond.constantFloat RX5 106 (1120403456) ∈ LW := lw_at 965 (by decide +kernel) (by decide +kernel)
theorem ML_L_139 : Cond.methodLink RL 139 yX5_moveQuota ∈ LW := lw_at 966 (by decide +kernel) (by decide +kernel)
theorem IM_X5_moveQuota : Cond.instanceMethod yX5_moveQuota ∈ LW := lw_at 967 (by decide +kernel) (by decide +kernel)
theorem SE_X5_moveQuota : Cond.selects RX5 yX5_moveQuota yX5_moveQuota ∈ LW := lw_at 968 (by decide +kernel) (by decide +kernel)
theorem CO_X5_moveQuota : Cond.code yX5_moveQuota cX5_moveQuota 6 (some .int) ∈ LW := lw_at 969 (by decide +kernel) (by decide +kernel)
theorem ML_L_143 : Cond.methodLink RL 143 yX5_quota ∈ LW := lw_at 970 (by decide +kernel) (by decide +kernel)
theorem IM_X5_quota : Cond.instanceMethod yX5_quota ∈ LW := lw_at 971 (by decide +kernel) (by decide +kernel)
theorem SE_X5_quota : Cond.selects RX5 yX5_quota yX5_quota ∈ LW := lw_at 972 (by decide +kernel) (by decide +kernel)
theorem CO_X5_quota : Cond.code yX5_quota cX5_quota 3 (some .int) ∈ LW := lw_at 973 (by decide +kernel) (by decide +kernel)
theorem ML_L_147 : Cond.methodLink RL 147 yX5_quotaAt ∈ LW := lw_at 974 (by decide +kernel) (by decide +kernel)
theorem IM_X5_quotaAt : Cond.instanceMethod yX5_quotaAt ∈ LW := lw_at 975 (by decide +kernel) (by decide +kernel)
theorem SE_X5_quotaAt : Cond.selects RX5 yX5_quotaAt yX5_quotaAt ∈ LW := lw_at 976 (by decide +kernel) (by decide +kernel)
theorem CO_X5_quotaAt : Cond.code yX5_quotaAt cX5_quotaAt 5 (some .int) ∈ LW := lw_at 977 (by decide +kernel) (by decide +kernel)
theorem ML_L_151 : Cond.methodLink RL 151 yX5_endDay ∈ LW := lw_at 978 (by decide +kernel) (by decide +kernel)
theorem IM_X5_endDay : Cond.instanceMethod yX5_endDay ∈ LW := lw_at 979 (by decide +kernel) (by decide +kernel)
theorem SE_X5_endDay : Cond.selects RX5 yX5_endDay yX5_endDay ∈ LW := lw_at 980 (by decide +kernel) (by decide +kernel)
theorem CO_X5_endDay : Cond.code yX5_endDay cX5_endDay 2 (some .int) ∈ LW := lw_at 981 (by decide +kernel) (by decide +kernel)
theorem ML_L_155 : Cond.methodLink RL 155 yX5_beyond ∈ LW := lw_at 982 (by decide +kernel) (by decide +kernel)
theorem IM_X5_beyond : Cond.instanceMethod yX5_beyond ∈ LW := lw_at 983 (by decide +kernel) (by decide +kernel)
theorem SE_X5_beyond : Cond.selects RX5 yX5_beyond yX5_beyond ∈ LW := lw_at 984 (by decide +kernel) (by decide +kernel)
theorem CO_X5_beyond : Cond.code yX5_beyond cX5_beyond 1 (some .int) ∈ LW := lw_at 985 (by decide +kernel) (by decide +kernel)
theorem ML_L_159 : Cond.methodLink RL 159 yX5_weight ∈ LW := lw_at 986 (by decide +kernel) (by decide +kernel)
theorem IM_X5_weight : Cond.instanceMethod yX5_weight ∈ LW := lw_at 987 (by decide +kernel) (by decide +kernel)
theorem SE_X5_weight : Cond.selects RX5 yX5_weight yX5_weight ∈ LW := lw_at 988 (by decide +kernel) (by decide +kernel)
theorem CO_X5_weight : Cond.code yX5_weight cX5_weight 2 (some .int) ∈ LW := lw_at 989 (by decide +kernel) (by decide +kernel)
theorem ML_X5_110 : Cond.methodLink RX5 110 yX5_isLot ∈ LW := lw_at 990 (by decide +kernel) (by decide +kernel)
theorem IM_X5_isLot : Cond.instanceMethod yX5_isLot ∈ LW := lw_at 992 (by decide +kernel) (by decide +kernel)
theorem CO_X5_isLot : Cond.code yX5_isLot cX5_isLot 2 (some .boolean) ∈ LW := lw_at 993 (by decide +kernel) (by decide +kernel)
theorem ML_L_162 : Cond.methodLink RL 162 yX5_stateOf ∈ LW := lw_at 994 (by decide +kernel) (by decide +kernel)
theorem IM_X5_stateOf : Cond.instanceMethod yX5_stateOf ∈ LW := lw_at 995 (by decide +kernel) (by decide +kernel)
theorem SE_X5_stateOf : Cond.selects RX5 yX5_stateOf yX5_stateOf ∈ LW := lw_at 996 (by decide +kernel) (by decide +kernel)
theorem CO_X5_stateOf : Cond.code yX5_stateOf cX5_stateOf 2 (some .char) ∈ LW := lw_at 997 (by decide +kernel) (by decide +kernel)
theorem ML_L_166 : Cond.methodLink RL 166 yX5_fresh ∈ LW := lw_at 998 (by decide +kernel) (by decide +kernel)
theorem IM_X5_fresh : Cond.instanceMethod yX5_fresh ∈ LW := lw_at 999 (by decide +kernel) (by decide +kernel)
theorem SE_X5_fresh : Cond.selects RX5 yX5_fresh yX5_fresh ∈ LW := lw_at 1000 (by decide +kernel) (by decide +kernel)
theorem CO_X5_fresh : Cond.code yX5_fresh cX5_fresh 2 (some .float) ∈ LW := lw_at 1001 (by decide +kernel) (by decide +kernel)
theorem ML_L_169 : Cond.methodLink RL 169 yX5_freshBits ∈ LW := lw_at 1002 (by decide +kernel) (by decide +kernel)
theorem IM_X5_freshBits : Cond.instanceMethod yX5_freshBits ∈ LW := lw_at 1003 (by decide +kernel) (by decide +kernel)
theorem SE_X5_freshBits : Cond.selects RX5 yX5_freshBits yX5_freshBits ∈ LW := lw_at 1004 (by decide +kernel) (by decide +kernel)
theorem CO_X5_freshBits : Cond.code yX5_freshBits cX5_freshBits 2 (some .int) ∈ LW := lw_at 1005 (by decide +kernel) (by decide +kernel)
theorem ML_X5_113 : Cond.methodLink RX5 113 yJxf58ca_floatToIntBits_5c35a ∈ LW := lw_at 1006 (by decide +kernel) (by decide +kernel)
theorem ST_JF_floatToIntBits : Cond.static yJxf58ca_floatToIntBits_5c35a ∈ LW := lw_at 1007 (by decide +kernel) (by decide +kernel)
theorem CO_JF_floatToIntBits : Cond.code yJxf58ca_floatToIntBits_5c35a cJxf58ca_floatToIntBits_5c35a 1 (some .int) ∈ LW := lw_at 1008 (by decide +kernel) (by decide +kernel)
theorem ML_JF_59 : Cond.methodLink RJxf58ca 59 yJxf58ca_isNaN_12338 ∈ LW := lw_at 1009 (by decide +kernel) (by decide +kernel)
theorem ST_JF_isNaN : Cond.static yJxf58ca_isNaN_12338 ∈ LW := lw_at 1010 (by decide +kernel) (by decide +kernel)
theorem CO_JF_isNaN : Cond.code yJxf58ca_isNaN_12338 cJxf58ca_isNaN_12338 1 (some .boolean) ∈ LW := lw_at 1011 (by decide +kernel) (by decide +kernel)
theorem ML_JF_74 : Cond.methodLink RJxf58ca 74 ⟨"java/lang/Float", "floatToRawIntBits", "(F)I"⟩ ∈ LW := lw_at 1012 (by decide +kernel) (by decide +kernel)
theorem ST_JF_floatToRawIntBits : Cond.static ⟨"java/lang/Float", "floatToRawIntBits", "(F)I"⟩ ∈ LW := lw_at 1013 (by decide +kernel) (by decide +kernel)
theorem NA_JF_floatToRawIntBits : Cond.native ⟨"java/lang/Float", "floatToRawIntBits", "(F)I"⟩ ∈ LW := lw_at 1014 (by decide +kernel) (by decide +kernel)
theorem CK_JF_77 : Cond.constant RJxf58ca 77 (2143289344) ∈ LW := lw_at 1015 (by decide +kernel) (by decide +kernel)
theorem ML_L_172 : Cond.methodLink RL 172 yX5_ice ∈ LW := lw_at 1016 (by decide +kernel) (by decide +kernel)
theorem IM_X5_ice : Cond.instanceMethod yX5_ice ∈ LW := lw_at 1017 (by decide +kernel) (by decide +kernel)
theorem SE_X5_ice : Cond.selects RX5 yX5_ice yX5_ice ∈ LW := lw_at 1018 (by decide +kernel) (by decide +kernel)
theorem CO_X5_ice : Cond.code yX5_ice cX5_ice 4 (some .int) ∈ LW := lw_at 1019 (by decide +kernel) (by decide +kernel)
theorem ML_L_175 : Cond.methodLink RL 175 yX5_iceOn ∈ LW := lw_at 1020 (by decide +kernel) (by decide +kernel)
theorem IM_X5_iceOn : Cond.instanceMethod yX5_iceOn ∈ LW := lw_at 1021 (by decide +kernel) (by decide +kernel)
theorem SE_X5_iceOn : Cond.selects RX5 yX5_iceOn yX5_iceOn ∈ LW := lw_at 1022 (by decide +kernel) (by decide +kernel)
theorem CO_X5_iceOn : Cond.code yX5_iceOn cX5_iceOn 2 (some .int) ∈ LW := lw_at 1023 (by decide +kernel) (by decide +kernel)
theorem ML_L_178 : Cond.methodLink RL 178 yX5_iceLasts ∈ LW := lw_at 1024 (by decide +kernel) (by decide +kernel)
theorem IM_X5_iceLasts : Cond.instanceMethod yX5_iceLasts ∈ LW := lw_at 1025 (by decide +kernel) (by decide +kernel)
theorem SE_X5_iceLasts : Cond.selects RX5 yX5_iceLasts yX5_iceLasts ∈ LW := lw_at 1026 (by decide +kernel) (by decide +kernel)
theorem CO_X5_iceLasts : Cond.code yX5_iceLasts cX5_iceLasts 2 (some .int) ∈ LW := lw_at 1027 (by decide +kernel) (by decide +kernel)
theorem ML_X5_119 : Cond.methodLink RX5 119 yX5_iceFor ∈ LW := lw_at 1028 (by decide +kernel) (by decide +kernel)
theorem IM_X5_iceFor : Cond.instanceMethod yX5_iceFor ∈ LW := lw_at 1030 (by decide +kernel) (by decide +kernel)
theorem CO_X5_iceFor : Cond.code yX5_iceFor cX5_iceFor 2 (some .int) ∈ LW := lw_at 1031 (by decide +kernel) (by decide +kernel)
theorem ML_L_182 : Cond.methodLink RL 182 yX5_tick ∈ LW := lw_at 1032 (by decide +kernel) (by decide +kernel)
theorem IM_X5_tick : Cond.instanceMethod yX5_tick ∈ LW := lw_at 1033 (by decide +kernel) (by decide +kernel)
theorem SE_X5_tick : Cond.selects RX5 yX5_tick yX5_tick ∈ LW := lw_at 1034 (by decide +kernel) (by decide +kernel)
theorem CO_X5_tick : Cond.code yX5_tick cX5_tick 4 (some .int) ∈ LW := lw_at 1035 (by decide +kernel) (by decide +kernel)
theorem ML_X5_131 : Cond.methodLink RX5 131 yX5_ages ∈ LW := lw_at 1036 (by decide +kernel) (by decide +kernel)
theorem IM_X5_ages : Cond.instanceMethod yX5_ages ∈ LW := lw_at 1038 (by decide +kernel) (by decide +kernel)
theorem CO_X5_ages : Cond.code yX5_ages cX5_ages 2 none ∈ LW := lw_at 1039 (by decide +kernel) (by decide +kernel)
theorem CK_X5_123 : Cond.constantFloat RX5 123 (1065269330) ∈ LW := lw_at 1040 (by decide +kernel) (by decide +kernel)
theorem CK_X5_124 : Cond.constantFloat RX5 124 (1065017672) ∈ LW := lw_at 1041 (by decide +kernel) (by decide +kernel)
theorem CK_X5_125 : Cond.constantFloat RX5 125 (1106247680) ∈ LW := lw_at 1042 (by decide +kernel) (by decide +kernel)
theorem ML_X5_138 : Cond.methodLink RX5 138 yX5_delivers ∈ LW := lw_at 1043 (by decide +kernel) (by decide +kernel)
theorem IM_X5_delivers : Cond.instanceMethod yX5_delivers ∈ LW := lw_at 1045 (by decide +kernel) (by decide +kernel)
theorem CO_X5_delivers : Cond.code yX5_delivers cX5_delivers 4 none ∈ LW := lw_at 1046 (by decide +kernel) (by decide +kernel)
theorem CK_X5_126 : Cond.constantFloat RX5 126 (1116471296) ∈ LW := lw_at 1047 (by decide +kernel) (by decide +kernel)
theorem ML_L_186 : Cond.methodLink RL 186 yX5_time ∈ LW := lw_at 1048 (by decide +kernel) (by decide +kernel)
theorem IM_X5_time : Cond.instanceMethod yX5_time ∈ LW := lw_at 1049 (by decide +kernel) (by decide +kernel)
theorem SE_X5_time : Cond.selects RX5 yX5_time yX5_time ∈ LW := lw_at 1050 (by decide +kernel) (by decide +kernel)
theorem CO_X5_time : Cond.code yX5_time cX5_time 1 (some .int) ∈ LW := lw_at 1051 (by decide +kernel) (by decide +kernel)
theorem ML_L_189 : Cond.methodLink RL 189 yX5_addBuyer ∈ LW := lw_at 1052 (by decide +kernel) (by decide +kernel)
theorem IM_X5_addBuyer : Cond.instanceMethod yX5_addBuyer ∈ LW := lw_at 1053 (by decide +kernel) (by decide +kernel)
theorem SE_X5_addBuyer : Cond.selects RX5 yX5_addBuyer yX5_addBuyer ∈ LW := lw_at 1054 (by decide +kernel) (by decide +kernel)
theorem CO_X5_addBuyer : Cond.code yX5_addBuyer cX5_addBuyer 2 (some .int) ∈ LW := lw_at 1055 (by decide +kernel) (by decide +kernel)
theorem CK_X5_141 : Cond.constant RX5 141 (1000000) ∈ LW := lw_at 1056 (by decide +kernel) (by decide +kernel)
theorem ML_L_192 : Cond.methodLink RL 192 yX5_setLimit ∈ LW := lw_at 1057 (by decide +kernel) (by decide +kernel)
theorem IM_X5_setLimit : Cond.instanceMethod yX5_setLimit ∈ LW := lw_at 1058 (by decide +kernel) (by decide +kernel)
theorem SE_X5_setLimit : Cond.selects RX5 yX5_setLimit yX5_setLimit ∈ LW := lw_at 1059 (by decide +kernel) (by decide +kernel)
theorem CO_X5_setLimit : Cond.code yX5_setLimit cX5_setLimit 5 (some .int) ∈ LW := lw_at 1060 (by decide +kernel) (by decide +kernel)
theorem ML_X5_142 : Cond.methodLink RX5 142 yX5_isBuyer ∈ LW := lw_at 1061 (by decide +kernel) (by decide +kernel)
theorem IM_X5_isBuyer : Cond.instanceMethod yX5_isBuyer ∈ LW := lw_at 1063 (by decide +kernel) (by decide +kernel)
theorem CO_X5_isBuyer : Cond.code yX5_isBuyer cX5_isBuyer 2 (some .boolean) ∈ LW := lw_at 1064 (by decide +kernel) (by decide +kernel)
theorem ML_L_195 : Cond.methodLink RL 195 yX5_budget ∈ LW := lw_at 1065 (by decide +kernel) (by decide +kernel)
theorem IM_X5_budget : Cond.instanceMethod yX5_budget ∈ LW := lw_at 1066 (by decide +kernel) (by decide +kernel)
theorem SE_X5_budget : Cond.selects RX5 yX5_budget yX5_budget ∈ LW := lw_at 1067 (by decide +kernel) (by decide +kernel)
theorem CO_X5_budget : Cond.code yX5_budget cX5_budget 2 (some .int) ∈ LW := lw_at 1068 (by decide +kernel) (by decide +kernel)
theorem ML_L_198 : Cond.methodLink RL 198 yX5_setClock ∈ LW := lw_at 1069 (by decide +kernel) (by decide +kernel)
theorem IM_X5_setClock : Cond.instanceMethod yX5_setClock ∈ LW := lw_at 1070 (by decide +kernel) (by decide +kernel)
theorem SE_X5_setClock : Cond.selects RX5 yX5_setClock yX5_setClock ∈ LW := lw_at 1071 (by decide +kernel) (by decide +kernel)
theorem CO_X5_setClock : Cond.code yX5_setClock cX5_setClock 5 (some .int) ∈ LW := lw_at 1072 (by decide +kernel) (by decide +kernel)
theorem ML_L_201 : Cond.methodLink RL 201 yX5_offer ∈ LW := lw_at 1073 (by decide +kernel) (by decide +kernel)
theorem IM_X5_offer : Cond.instanceMethod yX5_offer ∈ LW := lw_at 1074 (by decide +kernel) (by decide +kernel)
theorem SE_X5_offer : Cond.selects RX5 yX5_offer yX5_offer ∈ LW := lw_at 1075 (by decide +kernel) (by decide +kernel)
theorem CO_X5_offer : Cond.code yX5_offer cX5_offer 3 (some .int) ∈ LW := lw_at 1076 (by decide +kernel) (by decide +kernel)
theorem ML_X5_150 : Cond.methodLink RX5 150 yX5_offerOf ∈ LW := lw_at 1077 (by decide +kernel) (by decide +kernel)
theorem IM_X5_offerOf : Cond.instanceMethod yX5_offerOf ∈ LW := lw_at 1079 (by decide +kernel) (by decide +kernel)
theorem CO_X5_offerOf : Cond.code yX5_offerOf cX5_offerOf 6 (some .int) ∈ LW := lw_at 1080 (by decide +kernel) (by decide +kernel)
theorem CK_X5_148 : Cond.constantDouble RX5 148 (4636737291354636288) ∈ LW := lw_at 1081 (by decide +kernel) (by decide +kernel)
theorem ML_L_204 : Cond.methodLink RL 204 yX5_price ∈ LW := lw_at 1082 (by decide +kernel) (by decide +kernel)
theorem IM_X5_price : Cond.instanceMethod yX5_price ∈ LW := lw_at 1083 (by decide +kernel) (by decide +kernel)
theorem SE_X5_price : Cond.selects RX5 yX5_price yX5_price ∈ LW := lw_at 1084 (by decide +kernel) (by decide +kernel)
theorem CO_X5_price : Cond.code yX5_price cX5_price 2 (some .int) ∈ LW := lw_at 1085 (by decide +kernel) (by decide +kernel)
theorem ML_X5_160 : Cond.methodLink RX5 160 yX5_saleFault ∈ LW := lw_at 1086 (by decide +kernel) (by decide +kernel)
theorem IM_X5_saleFault : Cond.instanceMethod yX5_saleFault ∈ LW := lw_at 1088 (by decide +kernel) (by decide +kernel)
theorem CO_X5_saleFault : Cond.code yX5_saleFault cX5_saleFault 3 (some .int) ∈ LW := lw_at 1089 (by decide +kernel) (by decide +kernel)
theorem ML_X5_157 : Cond.methodLink RX5 157 yX5_falls ∈ LW := lw_at 1090 (by decide +kernel) (by decide +kernel)
theorem IM_X5_falls : Cond.instanceMethod yX5_falls ∈ LW := lw_at 1092 (by decide +kernel) (by decide +kernel)
theorem CO_X5_falls : Cond.code yX5_falls cX5_falls 3 (some .int) ∈ LW := lw_at 1093 (by decide +kernel) (by decide +kernel)
theorem ML_X5_154 : Cond.methodLink RX5 154 yX5_takes ∈ LW := lw_at 1094 (by decide +kernel) (by decide +kernel)
theorem IM_X5_takes : Cond.instanceMethod yX5_takes ∈ LW := lw_at 1096 (by decide +kernel) (by decide +kernel)
theorem CO_X5_takes : Cond.code yX5_takes cX5_takes 6 (some .int) ∈ LW := lw_at 1097 (by decide +kernel) (by decide +kernel)
theorem ML_L_207 : Cond.methodLink RL 207 yX5_priceByBuyers ∈ LW := lw_at 1098 (by decide +kernel) (by decide +kernel)
theorem IM_X5_priceByBuyers : Cond.instanceMethod yX5_priceByBuyers ∈ LW := lw_at 1099 (by decide +kernel) (by decide +kernel)
theorem SE_X5_priceByBuyers : Cond.selects RX5 yX5_priceByBuyers yX5_priceByBuyers ∈ LW := lw_at 1100 (by decide +kernel) (by decide +kernel)
theorem CO_X5_priceByBuyers : Cond.code yX5_priceByBuyers cX5_priceByBuyers 2 (some .int) ∈ LW := lw_at 1101 (by decide +kernel) (by decide +kernel)
theorem ML_X5_163 : Cond.methodLink RX5 163 yX5_price ∈ LW := lw_at 1102 (by decide +kernel) (by decide +kernel)
theorem ML_L_210 : Cond.methodLink RL 210 yX5_sell ∈ LW := lw_at 1103 (by decide +kernel) (by decide +kernel)
theorem IM_X5_sell : Cond.instanceMethod yX5_sell ∈ LW := lw_at 1104 (by decide +kernel) (by decide +kernel)
theorem SE_X5_sell : Cond.selects RX5 yX5_sell yX5_sell ∈ LW := lw_at 1105 (by decide +kernel) (by decide +kernel)
theorem CO_X5_sell : Cond.code yX5_sell cX5_sell 3 (some .int) ∈ LW := lw_at 1106 (by decide +kernel) (by decide +kernel)
theorem ML_L_213 : Cond.methodLink RL 213 yX5_buyerOf ∈ LW := lw_at 1107 (by decide +kernel) (by decide +kernel)
theorem IM_X5_buyerOf : Cond.instanceMethod yX5_buyerOf ∈ LW := lw_at 1108 (by decide +kernel) (by decide +kernel)
theorem SE_X5_buyerOf : Cond.selects RX5 yX5_buyerOf yX5_buyerOf ∈ LW := lw_at 1109 (by decide +kernel) (by decide +kernel)
theorem CO_X5_buyerOf : Cond.code yX5_buyerOf cX5_buyerOf 2 (some .int) ∈ LW := lw_at 1110 (by decide +kernel) (by decide +kernel)
theorem ML_L_216 : Cond.methodLink RL 216 yX5_paidFor ∈ LW := lw_at 1111 (by decide +kernel) (by decide +kernel)
theorem IM_X5_paidFor : Cond.instanceMethod yX5_paidFor ∈ LW := lw_at 1112 (by decide +kernel) (by decide +kernel)
theorem SE_X5_paidFor : Cond.selects RX5 yX5_paidFor yX5_paidFor ∈ LW := lw_at 1113 (by decide +kernel) (by decide +kernel)
theorem CO_X5_paidFor : Cond.code yX5_paidFor cX5_paidFor 2 (some .int) ∈ LW := lw_at 1114 (by decide +kernel) (by decide +kernel)
theorem ML_L_220 : Cond.methodLink RL 220 yX5_addTruck ∈ LW := lw_at 1115 (by decide +kernel) (by decide +kernel)
theorem IM_X5_addTruck : Cond.instanceMethod yX5_addTruck ∈ LW := lw_at 1116 (by decide +kernel) (by decide +kernel)
theorem SE_X5_addTruck : Cond.selects RX5 yX5_addTruck yX5_addTruck ∈ LW := lw_at 1117 (by decide +kernel) (by decide +kernel)
theorem CO_X5_addTruck : Cond.code yX5_addTruck cX5_addTruck 5 (some .int) ∈ LW := lw_at 1118 (by decide +kernel) (by decide +kernel)
theorem ML_L_223 : Cond.methodLink RL 223 yX5_load ∈ LW := lw_at 1119 (by decide +kernel) (by decide +kernel)
theorem IM_X5_load : Cond.instanceMethod yX5_load ∈ LW := lw_at 1120 (by decide +kernel) (by decide +kernel)
theorem SE_X5_load : Cond.selects RX5 yX5_load yX5_load ∈ LW := lw_at 1121 (by decide +kernel) (by decide +kernel)
theorem CO_X5_load : Cond.code yX5_load cX5_load 5 (some .int) ∈ LW := lw_at 1122 (by decide +kernel) (by decide +kernel)
theorem ML_X5_166 : Cond.methodLink RX5 166 yX5_isTruck ∈ LW := lw_at 1123 (by decide +kernel) (by decide +kernel)
theorem IM_X5_isTruck : Cond.instanceMethod yX5_isTruck ∈ LW := lw_at 1125 (by decide +kernel) (by decide +kernel)
theorem CO_X5_isTruck : Cond.code yX5_isTruck cX5_isTruck 2 (some .boolean) ∈ LW := lw_at 1126 (by decide +kernel) (by decide +kernel)
theorem ML_L_226 : Cond.methodLink RL 226 yX5_lotOn ∈ LW := lw_at 1127 (by decide +kernel) (by decide +kernel)
theorem IM_X5_lotOn : Cond.instanceMethod yX5_lotOn ∈ LW := lw_at 1128 (by decide +kernel) (by decide +kernel)
theorem SE_X5_lotOn : Cond.selects RX5 yX5_lotOn yX5_lotOn ∈ LW := lw_at 1129 (by decide +kernel) (by decide +kernel)
theorem CO_X5_lotOn : Cond.code yX5_lotOn cX5_lotOn 4 (some .int) ∈ LW := lw_at 1130 (by decide +kernel) (by decide +kernel)
theorem ML_L_230 : Cond.methodLink RL 230 yX5_income ∈ LW := lw_at 1131 (by decide +kernel) (by decide +kernel)
theorem IM_X5_income : Cond.instanceMethod yX5_income ∈ LW := lw_at 1132 (by decide +kernel) (by decide +kernel)
theorem SE_X5_income : Cond.selects RX5 yX5_income yX5_income ∈ LW := lw_at 1133 (by decide +kernel) (by decide +kernel)
theorem CO_X5_income : Cond.code yX5_income cX5_income 1 (some .long) ∈ LW := lw_at 1134 (by decide +kernel) (by decide +kernel)
theorem ML_L_234 : Cond.methodLink RL 234 yX5_incomeByLots ∈ LW := lw_at 1135 (by decide +kernel) (by decide +kernel)
theorem IM_X5_incomeByLots : Cond.instanceMethod yX5_incomeByLots ∈ LW := lw_at 1136 (by decide +kernel) (by decide +kernel)
theorem SE_X5_incomeByLots : Cond.selects RX5 yX5_incomeByLots yX5_incomeByLots ∈ LW := lw_at 1137 (by decide +kernel) (by decide +kernel)
theorem CO_X5_incomeByLots : Cond.code yX5_incomeByLots cX5_incomeByLots 1 (some .long) ∈ LW := lw_at 1138 (by decide +kernel) (by decide +kernel)
theorem ML_L_238 : Cond.methodLink RL 238 yX5_spoiled ∈ LW := lw_at 1139 (by decide +kernel) (by decide +kernel)
theorem IM_X5_spoiled : Cond.instanceMethod yX5_spoiled ∈ LW := lw_at 1140 (by decide +kernel) (by decide +kernel)
theorem SE_X5_spoiled : Cond.selects RX5 yX5_spoiled yX5_spoiled ∈ LW := lw_at 1141 (by decide +kernel) (by decide +kernel)
theorem CO_X5_spoiled : Cond.code yX5_spoiled cX5_spoiled 3 (some .int) ∈ LW := lw_at 1142 (by decide +kernel) (by decide +kernel)
theorem ML_L_242 : Cond.methodLink RL 242 yX5_soldShare ∈ LW := lw_at 1143 (by decide +kernel) (by decide +kernel)
theorem IM_X5_soldShare : Cond.instanceMethod yX5_soldShare ∈ LW := lw_at 1144 (by decide +kernel) (by decide +kernel)
theorem SE_X5_soldShare : Cond.selects RX5 yX5_soldShare yX5_soldShare ∈ LW := lw_at 1145 (by decide +kernel) (by decide +kernel)
theorem CO_X5_soldShare : Cond.code yX5_soldShare cX5_soldShare 1 (some .float) ∈ LW := lw_at 1146 (by decide +kernel) (by decide +kernel)
theorem ML_X5_172 : Cond.methodLink RX5 172 yX5_weights ∈ LW := lw_at 1147 (by decide +kernel) (by decide +kernel)
theorem IM_X5_weights : Cond.instanceMethod yX5_weights ∈ LW := lw_at 1149 (by decide +kernel) (by decide +kernel)
theorem CO_X5_weights : Cond.code yX5_weights cX5_weights 4 (some .int) ∈ LW := lw_at 1150 (by decide +kernel) (by decide +kernel)
theorem ML_X5_169 : Cond.methodLink RX5 169 yX5_isSold ∈ LW := lw_at 1151 (by decide +kernel) (by decide +kernel)
theorem IM_X5_isSold : Cond.instanceMethod yX5_isSold ∈ LW := lw_at 1153 (by decide +kernel) (by decide +kernel)
theorem CO_X5_isSold : Cond.code yX5_isSold cX5_isSold 2 (some .boolean) ∈ LW := lw_at 1154 (by decide +kernel) (by decide +kernel)
theorem ML_L_245 : Cond.methodLink RL 245 yX5_meanPrice ∈ LW := lw_at 1155 (by decide +kernel) (by decide +kernel)
theorem IM_X5_meanPrice : Cond.instanceMethod yX5_meanPrice ∈ LW := lw_at 1156 (by decide +kernel) (by decide +kernel)
theorem SE_X5_meanPrice : Cond.selects RX5 yX5_meanPrice yX5_meanPrice ∈ LW := lw_at 1157 (by decide +kernel) (by decide +kernel)
theorem CO_X5_meanPrice : Cond.code yX5_meanPrice cX5_meanPrice 1 (some .double) ∈ LW := lw_at 1158 (by decide +kernel) (by decide +kernel)
theorem ML_L_248 : Cond.methodLink RL 248 yX5_meanBits ∈ LW := lw_at 1159 (by decide +kernel) (by decide +kernel)
theorem IM_X5_meanBits : Cond.instanceMethod yX5_meanBits ∈ LW := lw_at 1160 (by decide +kernel) (by decide +kernel)
theorem SE_X5_meanBits : Cond.selects RX5 yX5_meanBits yX5_meanBits ∈ LW := lw_at 1161 (by decide +kernel) (by decide +kernel)
theorem CO_X5_meanBits : Cond.code yX5_meanBits cX5_meanBits 1 (some .long) ∈ LW := lw_at 1162 (by decide +kernel) (by decide +kernel)
theorem ML_X5_176 : Cond.methodLink RX5 176 yJxe99ae_doubleToLongBits_ccdee ∈ LW := lw_at 1163 (by decide +kernel) (by decide +kernel)
theorem ST_JD_doubleToLongBits : Cond.static yJxe99ae_doubleToLongBits_ccdee ∈ LW := lw_at 1164 (by decide +kernel) (by decide +kernel)
theorem CO_JD_doubleToLongBits : Cond.code yJxe99ae_doubleToLongBits_ccdee cJxe99ae_doubleToLongBits_ccdee 2 (some .long) ∈ LW := lw_at 1165 (by decide +kernel) (by decide +kernel)
theorem ML_JD_122 : Cond.methodLink RJxe99ae 122 yJxe99ae_isNaN_b9ae7 ∈ LW := lw_at 1166 (by decide +kernel) (by decide +kernel)
theorem ST_JD_isNaN : Cond.static yJxe99ae_isNaN_b9ae7 ∈ LW := lw_at 1167 (by decide +kernel) (by decide +kernel)
theorem CO_JD_isNaN : Cond.code yJxe99ae_isNaN_b9ae7 cJxe99ae_isNaN_b9ae7 2 (some .boolean) ∈ LW := lw_at 1168 (by decide +kernel) (by decide +kernel)
theorem ML_JD_134 : Cond.methodLink RJxe99ae 134 ⟨"java/lang/Double", "doubleToRawLongBits", "(D)J"⟩ ∈ LW := lw_at 1169 (by decide +kernel) (by decide +kernel)
theorem ST_JD_doubleToRawLongBits : Cond.static ⟨"java/lang/Double", "doubleToRawLongBits", "(D)J"⟩ ∈ LW := lw_at 1170 (by decide +kernel) (by decide +kernel)
theorem NA_JD_doubleToRawLongBits : Cond.native ⟨"java/lang/Double", "doubleToRawLongBits", "(D)J"⟩ ∈ LW := lw_at 1171 (by decide +kernel) (by decide +kernel)
theorem CK_JD_137 : Cond.constantLong RJxe99ae 137 (9221120237041090560) ∈ LW := lw_at 1172 (by decide +kernel) (by decide +kernel)
theorem ML_L_253 : Cond.methodLink RL 253 yX5_isSound ∈ LW := lw_at 1173 (by decide +kernel) (by decide +kernel)
theorem IM_X5_isSound : Cond.instanceMethod yX5_isSound ∈ LW := lw_at 1174 (by decide +kernel) (by decide +kernel)
theorem SE_X5_isSound : Cond.selects RX5 yX5_isSound yX5_isSound ∈ LW := lw_at 1175 (by decide +kernel) (by decide +kernel)
theorem CO_X5_isSound : Cond.code yX5_isSound cX5_isSound 1 (some .boolean) ∈ LW := lw_at 1176 (by decide +kernel) (by decide +kernel)
theorem AC_long : Cond.arrayClass .long ∈ LW := lw_at 1177 (by decide +kernel) (by decide +kernel)
theorem AC_double : Cond.arrayClass .double ∈ LW := lw_at 1178 (by decide +kernel) (by decide +kernel)
theorem inX0 : ∀ w ∈ u_ws RX0 TX0 4, w ∈ LW := by
  intro w hw
  obtain ⟨k, hk, rfl⟩ := List.mem_map.mp hw
  have hk := List.mem_range.mp hk
  match k, hk with
  | 0, _ => exact LA_X0_number
  | 1, _ => exact LA_X0_left
  | 2, _ => exact LA_X0_given
  | 3, _ => exact LA_X0_written
  | k + 4, hk => exact absurd hk (by omega)
theorem inX1 : ∀ w ∈ u_ws RX1 TX1 3, w ∈ LW := by
  intro w hw
  obtain ⟨k, hk, rfl⟩ := List.mem_map.mp hw
  have hk := List.mem_range.mp hk
  match k, hk with
  | 0, _ => exact LA_X1_number
  | 1, _ => exact LA_X1_limits
  | 2, _ => exact LA_X1_money
  | k + 3, hk => exact absurd hk (by omega)
theorem inX2 : ∀ w ∈ u_ws RX2 TX2 11, w ∈ LW := by
  intro w hw
  obtain ⟨k, hk, rfl⟩ := List.mem_map.mp hw
  have hk := List.mem_range.mp hk
  match k, hk with
  | 0, _ => exact LA_X2_number
  | 1, _ => exact LA_X2_boatNumber
  | 2, _ => exact LA_X2_species
  | 3, _ => exact LA_X2_size
  | 4, _ => exact LA_X2_kilograms
  | 5, _ => exact LA_X2_isBoxed
  | 6, _ => exact LA_X2_state
  | 7, _ => exact LA_X2_freshness
  | 8, _ => exact LA_X2_iceKilograms
  | 9, _ => exact LA_X2_owner
  | 10, _ => exact LA_X2_paid
  | k + 11, hk => exact absurd hk (by omega)
theorem inX3 : ∀ w ∈ u_ws RX3 TX3 5, w ∈ LW := by
  intro w hw
  obtain ⟨k, hk, rfl⟩ := List.mem_map.mp hw
  have hk := List.mem_range.mp hk
  match k, hk with
  | 0, _ => exact LA_X3_hour
  | 1, _ => exact LA_X3_isClosed
  | 2, _ => exact LA_X3_freight
  | 3, _ => exact LA_X3_loadedLots
  | 4, _ => exact LA_X3_roomLeft
  | k + 5, hk => exact absurd hk (by omega)
theorem inX4 : ∀ w ∈ u_ws RX4 TX4 15, w ∈ LW := by
  intro w hw
  obtain ⟨k, hk, rfl⟩ := List.mem_map.mp hw
  have hk := List.mem_range.mp hk
  match k, hk with
  | 0, _ => exact LA_X4_boats
  | 1, _ => exact LA_X4_lots
  | 2, _ => exact LA_X4_buyers
  | 3, _ => exact LA_X4_trucks
  | 4, _ => exact LA_X4_boatCount
  | 5, _ => exact LA_X4_lotCount
  | 6, _ => exact LA_X4_buyerCount
  | 7, _ => exact LA_X4_truckCount
  | 8, _ => exact LA_X4_now
  | 9, _ => exact LA_X4_today
  | 10, _ => exact LA_X4_beyondQuotas
  | 11, _ => exact LA_X4_clockStart
  | 12, _ => exact LA_X4_clockStep
  | 13, _ => exact LA_X4_clockReserve
  | 14, _ => exact LA_X4_takings
  | k + 15, hk => exact absurd hk (by omega)
theorem inX5 : ∀ w ∈ u_ws RX5 TX5 30, w ∈ LW := by
  intro w hw
  obtain ⟨k, hk, rfl⟩ := List.mem_map.mp hw
  have hk := List.mem_range.mp hk
  match k, hk with
  | 0, _ => exact LA_X5_thrown
  | 1, _ => exact LA_X5_boats
  | 2, _ => exact LA_X5_quota
  | 3, _ => exact LA_X5_written
  | 4, _ => exact LA_X5_day
  | 5, _ => exact LA_X5_beyond
  | 6, _ => exact LA_X5_lots
  | 7, _ => exact LA_X5_species
  | 8, _ => exact LA_X5_size
  | 9, _ => exact LA_X5_weight
  | 10, _ => exact LA_X5_boxed
  | 11, _ => exact LA_X5_state
  | 12, _ => exact LA_X5_fresh
  | 13, _ => exact LA_X5_ice
  | 14, _ => exact LA_X5_buyer
  | 15, _ => exact LA_X5_paid
  | 16, _ => exact LA_X5_time
  | 17, _ => exact LA_X5_buyers
  | 18, _ => exact LA_X5_budget
  | 19, _ => exact LA_X5_limit
  | 20, _ => exact LA_X5_start
  | 21, _ => exact LA_X5_step
  | 22, _ => exact LA_X5_reserve
  | 23, _ => exact LA_X5_trucks
  | 24, _ => exact LA_X5_hour
  | 25, _ => exact LA_X5_room
  | 26, _ => exact LA_X5_closed
  | 27, _ => exact LA_X5_loaded
  | 28, _ => exact LA_X5_lotOn
  | 29, _ => exact LA_X5_income
  | k + 30, hk => exact absurd hk (by omega)
end
section
theorem dX0_init_0 : decode cX0_init 0 = .ok (.aload_n 0, 1) := by decide +kernel
theorem dX0_init_1 : decode cX0_init 1 = .ok (.invokespecial 3, 3) := by decide +kernel
theorem dX0_init_4 : decode cX0_init 4 = .ok (.aload_n 0, 1) := by decide +kernel
theorem dX0_init_5 : decode cX0_init 5 = .ok (.iconst 4, 1) := by decide +kernel
theorem dX0_init_6 : decode cX0_init 6 = .ok (.newarray .int, 2) := by decide +kernel
theorem dX0_init_8 : decode cX0_init 8 = .ok (.putfield 9, 3) := by decide +kernel
theorem dX0_init_11 : decode cX0_init 11 = .ok (.aload_n 0, 1) := by decide +kernel
theorem dX0_init_12 : decode cX0_init 12 = .ok (.iconst 4, 1) := by decide +kernel
theorem dX0_init_13 : decode cX0_init 13 = .ok (.newarray .int, 2) := by decide +kernel
theorem dX0_init_15 : decode cX0_init 15 = .ok (.putfield 15, 3) := by decide +kernel
theorem dX0_init_18 : decode cX0_init 18 = .ok (.aload_n 0, 1) := by decide +kernel
theorem dX0_init_19 : decode cX0_init 19 = .ok (.bipush 76, 2) := by decide +kernel
theorem dX0_init_21 : decode cX0_init 21 = .ok (.newarray .int, 2) := by decide +kernel
theorem dX0_init_23 : decode cX0_init 23 = .ok (.putfield 18, 3) := by decide +kernel
theorem dX0_init_26 : decode cX0_init 26 = .ok (.aload_n 0, 1) := by decide +kernel
theorem dX0_init_27 : decode cX0_init 27 = .ok (.iload_n 1, 1) := by decide +kernel
theorem dX0_init_28 : decode cX0_init 28 = .ok (.putfield 21, 3) := by decide +kernel
theorem dX0_init_31 : decode cX0_init 31 = .ok (.aload_n 0, 1) := by decide +kernel
theorem dX0_init_32 : decode cX0_init 32 = .ok (.getfield 9, 3) := by decide +kernel
theorem dX0_init_35 : decode cX0_init 35 = .ok (.iconst 0, 1) := by decide +kernel
theorem dX0_init_36 : decode cX0_init 36 = .ok (.iload_n 2, 1) := by decide +kernel
theorem dX0_init_37 : decode cX0_init 37 = .ok (.iastore, 1) := by decide +kernel
theorem dX0_init_38 : decode cX0_init 38 = .ok (.aload_n 0, 1) := by decide +kernel
theorem dX0_init_39 : decode cX0_init 39 = .ok (.getfield 9, 3) := by decide +kernel
theorem dX0_init_42 : decode cX0_init 42 = .ok (.iconst 1, 1) := by decide +kernel
theorem dX0_init_43 : decode cX0_init 43 = .ok (.iload_n 3, 1) := by decide +kernel
theorem dX0_init_44 : decode cX0_init 44 = .ok (.iastore, 1) := by decide +kernel
theorem dX0_init_45 : decode cX0_init 45 = .ok (.aload_n 0, 1) := by decide +kernel
theorem dX0_init_46 : decode cX0_init 46 = .ok (.getfield 9, 3) := by decide +kernel
theorem dX0_init_49 : decode cX0_init 49 = .ok (.iconst 2, 1) := by decide +kernel
theorem dX0_init_50 : decode cX0_init 50 = .ok (.iload 4, 2) := by decide +kernel
theorem dX0_init_52 : decode cX0_init 52 = .ok (.iastore, 1) := by decide +kernel
theorem dX0_init_53 : decode cX0_init 53 = .ok (.aload_n 0, 1) := by decide +kernel
theorem dX0_init_54 : decode cX0_init 54 = .ok (.getfield 9, 3) := by decide +kernel
theorem dX0_init_57 : decode cX0_init 57 = .ok (.iconst 3, 1) := by decide +kernel
theorem dX0_init_58 : decode cX0_init 58 = .ok (.iload 5, 2) := by decide +kernel
theorem dX0_init_60 : decode cX0_init 60 = .ok (.iastore, 1) := by decide +kernel
theorem dX0_init_61 : decode cX0_init 61 = .ok (.aload_n 0, 1) := by decide +kernel
theorem dX0_init_62 : decode cX0_init 62 = .ok (.getfield 9, 3) := by decide +kernel
theorem dX0_init_65 : decode cX0_init 65 = .ok (.iconst 0, 1) := by decide +kernel
theorem dX0_init_66 : decode cX0_init 66 = .ok (.aload_n 0, 1) := by decide +kernel
theorem dX0_init_67 : decode cX0_init 67 = .ok (.getfield 15, 3) := by decide +kernel
theorem dX0_init_70 : decode cX0_init 70 = .ok (.iconst 0, 1) := by decide +kernel
theorem dX0_init_71 : decode cX0_init 71 = .ok (.iconst 4, 1) := by decide +kernel
theorem dX0_init_72 : decode cX0_init 72 = .ok (.invokestatic 25, 3) := by decide +kernel
theorem dX0_init_75 : decode cX0_init 75 = .ok (.return_, 1) := by decide +kernel
theorem dX0_changeQuota_0 : decode cX0_changeQuota 0 = .ok (.aload_n 0, 1) := by decide +kernel
theorem dX0_changeQuota_1 : decode cX0_changeQuota 1 = .ok (.getfield 9, 3) := by decide +kernel
theorem dX0_changeQuota_4 : decode cX0_changeQuota 4 = .ok (.iload_n 1, 1) := by decide +kernel
theorem dX0_changeQuota_5 : decode cX0_changeQuota 5 = .ok (.dup2, 1) := by decide +kernel
theorem dX0_changeQuota_6 : decode cX0_changeQuota 6 = .ok (.iaload, 1) := by decide +kernel
theorem dX0_changeQuota_7 : decode cX0_changeQuota 7 = .ok (.iload_n 2, 1) := by decide +kernel
theorem dX0_changeQuota_8 : decode cX0_changeQuota 8 = .ok (.iadd, 1) := by decide +kernel
theorem dX0_changeQuota_9 : decode cX0_changeQuota 9 = .ok (.iastore, 1) := by decide +kernel
theorem dX0_changeQuota_10 : decode cX0_changeQuota 10 = .ok (.aload_n 0, 1) := by decide +kernel
theorem dX0_changeQuota_11 : decode cX0_changeQuota 11 = .ok (.getfield 15, 3) := by decide +kernel
theorem dX0_changeQuota_14 : decode cX0_changeQuota 14 = .ok (.iload_n 1, 1) := by decide +kernel
theorem dX0_changeQuota_15 : decode cX0_changeQuota 15 = .ok (.dup2, 1) := by decide +kernel
theorem dX0_changeQuota_16 : decode cX0_changeQuota 16 = .ok (.iaload, 1) := by decide +kernel
theorem dX0_changeQuota_17 : decode cX0_changeQuota 17 = .ok (.iload_n 2, 1) := by decide +kernel
theorem dX0_changeQuota_18 : decode cX0_changeQuota 18 = .ok (.iadd, 1) := by decide +kernel
theorem dX0_changeQuota_19 : decode cX0_changeQuota 19 = .ok (.iastore, 1) := by decide +kernel
theorem dX0_changeQuota_20 : decode cX0_changeQuota 20 = .ok (.return_, 1) := by decide +kernel
theorem dX0_writeDown_0 : decode cX0_writeDown 0 = .ok (.aload_n 0, 1) := by decide +kernel
theorem dX0_writeDown_1 : decode cX0_writeDown 1 = .ok (.getfield 9, 3) := by decide +kernel
theorem dX0_writeDown_4 : decode cX0_writeDown 4 = .ok (.iconst 0, 1) := by decide +kernel
theorem dX0_writeDown_5 : decode cX0_writeDown 5 = .ok (.aload_n 0, 1) := by decide +kernel
theorem dX0_writeDown_6 : decode cX0_writeDown 6 = .ok (.getfield 18, 3) := by decide +kernel
theorem dX0_writeDown_9 : decode cX0_writeDown 9 = .ok (.iload_n 1, 1) := by decide +kernel
theorem dX0_writeDown_10 : decode cX0_writeDown 10 = .ok (.iconst 4, 1) := by decide +kernel
theorem dX0_writeDown_11 : decode cX0_writeDown 11 = .ok (.imul, 1) := by decide +kernel
theorem dX0_writeDown_12 : decode cX0_writeDown 12 = .ok (.iconst 4, 1) := by decide +kernel
theorem dX0_writeDown_13 : decode cX0_writeDown 13 = .ok (.invokestatic 25, 3) := by decide +kernel
theorem dX0_writeDown_16 : decode cX0_writeDown 16 = .ok (.return_, 1) := by decide +kernel
theorem dX0_leftAtEnd_0 : decode cX0_leftAtEnd 0 = .ok (.aload_n 0, 1) := by decide +kernel
theorem dX0_leftAtEnd_1 : decode cX0_leftAtEnd 1 = .ok (.getfield 18, 3) := by decide +kernel
theorem dX0_leftAtEnd_4 : decode cX0_leftAtEnd 4 = .ok (.iload_n 1, 1) := by decide +kernel
theorem dX0_leftAtEnd_5 : decode cX0_leftAtEnd 5 = .ok (.iconst 4, 1) := by decide +kernel
theorem dX0_leftAtEnd_6 : decode cX0_leftAtEnd 6 = .ok (.imul, 1) := by decide +kernel
theorem dX0_leftAtEnd_7 : decode cX0_leftAtEnd 7 = .ok (.iload_n 2, 1) := by decide +kernel
theorem dX0_leftAtEnd_8 : decode cX0_leftAtEnd 8 = .ok (.iadd, 1) := by decide +kernel
theorem dX0_leftAtEnd_9 : decode cX0_leftAtEnd 9 = .ok (.iaload, 1) := by decide +kernel
theorem dX0_leftAtEnd_10 : decode cX0_leftAtEnd 10 = .ok (.ireturn, 1) := by decide +kernel
theorem dX1_init_0 : decode cX1_init 0 = .ok (.aload_n 0, 1) := by decide +kernel
theorem dX1_init_1 : decode cX1_init 1 = .ok (.invokespecial 3, 3) := by decide +kernel
theorem dX1_init_4 : decode cX1_init 4 = .ok (.aload_n 0, 1) := by decide +kernel
theorem dX1_init_5 : decode cX1_init 5 = .ok (.iconst 4, 1) := by decide +kernel
theorem dX1_init_6 : decode cX1_init 6 = .ok (.newarray .int, 2) := by decide +kernel
theorem dX1_init_8 : decode cX1_init 8 = .ok (.putfield 9, 3) := by decide +kernel
theorem dX1_init_11 : decode cX1_init 11 = .ok (.aload_n 0, 1) := by decide +kernel
theorem dX1_init_12 : decode cX1_init 12 = .ok (.iload_n 1, 1) := by decide +kernel
theorem dX1_init_13 : decode cX1_init 13 = .ok (.putfield 15, 3) := by decide +kernel
theorem dX1_init_16 : decode cX1_init 16 = .ok (.aload_n 0, 1) := by decide +kernel
theorem dX1_init_17 : decode cX1_init 17 = .ok (.iload_n 2, 1) := by decide +kernel
theorem dX1_init_18 : decode cX1_init 18 = .ok (.putfield 19, 3) := by decide +kernel
theorem dX1_init_21 : decode cX1_init 21 = .ok (.return_, 1) := by decide +kernel
theorem dX1_offerFor_0 : decode cX1_offerFor 0 = .ok (.bipush 100, 2) := by decide +kernel
theorem dX1_offerFor_2 : decode cX1_offerFor 2 = .ok (.bipush 10, 2) := by decide +kernel
theorem dX1_offerFor_4 : decode cX1_offerFor 4 = .ok (.aload_n 1, 1) := by decide +kernel
theorem dX1_offerFor_5 : decode cX1_offerFor 5 = .ok (.getfield 22, 3) := by decide +kernel
theorem dX1_offerFor_8 : decode cX1_offerFor 8 = .ok (.imul, 1) := by decide +kernel
theorem dX1_offerFor_9 : decode cX1_offerFor 9 = .ok (.iadd, 1) := by decide +kernel
theorem dX1_offerFor_10 : decode cX1_offerFor 10 = .ok (.istore_n 2, 1) := by decide +kernel
theorem dX1_offerFor_11 : decode cX1_offerFor 11 = .ok (.aload_n 0, 1) := by decide +kernel
theorem dX1_offerFor_12 : decode cX1_offerFor 12 = .ok (.getfield 9, 3) := by decide +kernel
theorem dX1_offerFor_15 : decode cX1_offerFor 15 = .ok (.aload_n 1, 1) := by decide +kernel
theorem dX1_offerFor_16 : decode cX1_offerFor 16 = .ok (.getfield 27, 3) := by decide +kernel
theorem dX1_offerFor_19 : decode cX1_offerFor 19 = .ok (.iaload, 1) := by decide +kernel
theorem dX1_offerFor_20 : decode cX1_offerFor 20 = .ok (.iload_n 2, 1) := by decide +kernel
theorem dX1_offerFor_21 : decode cX1_offerFor 21 = .ok (.imul, 1) := by decide +kernel
theorem dX1_offerFor_22 : decode cX1_offerFor 22 = .ok (.i2d, 1) := by decide +kernel
theorem dX1_offerFor_23 : decode cX1_offerFor 23 = .ok (.ldc2_w 30, 3) := by decide +kernel
theorem dX1_offerFor_26 : decode cX1_offerFor 26 = .ok (.ddiv, 1) := by decide +kernel
theorem dX1_offerFor_27 : decode cX1_offerFor 27 = .ok (.aload_n 1, 1) := by decide +kernel
theorem dX1_offerFor_28 : decode cX1_offerFor 28 = .ok (.getfield 32, 3) := by decide +kernel
theorem dX1_offerFor_31 : decode cX1_offerFor 31 = .ok (.f2d, 1) := by decide +kernel
theorem dX1_offerFor_32 : decode cX1_offerFor 32 = .ok (.dmul, 1) := by decide +kernel
theorem dX1_offerFor_33 : decode cX1_offerFor 33 = .ok (.ldc2_w 30, 3) := by decide +kernel
theorem dX1_offerFor_36 : decode cX1_offerFor 36 = .ok (.ddiv, 1) := by decide +kernel
theorem dX1_offerFor_37 : decode cX1_offerFor 37 = .ok (.d2i, 1) := by decide +kernel
theorem dX1_offerFor_38 : decode cX1_offerFor 38 = .ok (.ireturn, 1) := by decide +kernel
theorem dX1_mostFor_0 : decode cX1_mostFor 0 = .ok (.aload_n 1, 1) := by decide +kernel
theorem dX1_mostFor_1 : decode cX1_mostFor 1 = .ok (.getfield 36, 3) := by decide +kernel
theorem dX1_mostFor_4 : decode cX1_mostFor 4 = .ok (.iconst 1, 1) := by decide +kernel
theorem dX1_mostFor_5 : decode cX1_mostFor 5 = .ok (.if_icmp .ge 5, 3) := by decide +kernel
theorem dX1_mostFor_8 : decode cX1_mostFor 8 = .ok (.iconst (-1), 1) := by decide +kernel
theorem dX1_mostFor_9 : decode cX1_mostFor 9 = .ok (.ireturn, 1) := by decide +kernel
theorem dX1_mostFor_10 : decode cX1_mostFor 10 = .ok (.aload_n 0, 1) := by decide +kernel
theorem dX1_mostFor_11 : decode cX1_mostFor 11 = .ok (.aload_n 1, 1) := by decide +kernel
theorem dX1_mostFor_12 : decode cX1_mostFor 12 = .ok (.invokevirtual 39, 3) := by decide +kernel
theorem dX1_mostFor_15 : decode cX1_mostFor 15 = .ok (.aload_n 0, 1) := by decide +kernel
theorem dX1_mostFor_16 : decode cX1_mostFor 16 = .ok (.getfield 19, 3) := by decide +kernel
theorem dX1_mostFor_19 : decode cX1_mostFor 19 = .ok (.aload_n 1, 1) := by decide +kernel
theorem dX1_mostFor_20 : decode cX1_mostFor 20 = .ok (.getfield 36, 3) := by decide +kernel
theorem dX1_mostFor_23 : decode cX1_mostFor 23 = .ok (.idiv, 1) := by decide +kernel
theorem dX1_mostFor_24 : decode cX1_mostFor 24 = .ok (.invokestatic 43, 3) := by decide +kernel
theorem dX1_mostFor_27 : decode cX1_mostFor 27 = .ok (.ireturn, 1) := by decide +kernel
theorem dX2_init_0 : decode cX2_init 0 = .ok (.aload_n 0, 1) := by decide +kernel
theorem dX2_init_1 : decode cX2_init 1 = .ok (.invokespecial 3, 3) := by decide +kernel
theorem dX2_init_4 : decode cX2_init 4 = .ok (.aload_n 0, 1) := by decide +kernel
theorem dX2_init_5 : decode cX2_init 5 = .ok (.bipush 102, 2) := by decide +kernel
theorem dX2_init_7 : decode cX2_init 7 = .ok (.putfield 9, 3) := by decide +kernel
theorem dX2_init_10 : decode cX2_init 10 = .ok (.aload_n 0, 1) := by decide +kernel
theorem dX2_init_11 : decode cX2_init 11 = .ok (.ldc 15, 2) := by decide +kernel
theorem dX2_init_13 : decode cX2_init 13 = .ok (.putfield 16, 3) := by decide +kernel
theorem dX2_init_16 : decode cX2_init 16 = .ok (.aload_n 0, 1) := by decide +kernel
theorem dX2_init_17 : decode cX2_init 17 = .ok (.iconst 0, 1) := by decide +kernel
theorem dX2_init_18 : decode cX2_init 18 = .ok (.putfield 20, 3) := by decide +kernel
theorem dX2_init_21 : decode cX2_init 21 = .ok (.aload_n 0, 1) := by decide +kernel
theorem dX2_init_22 : decode cX2_init 22 = .ok (.aconst_null, 1) := by decide +kernel
theorem dX2_init_23 : decode cX2_init 23 = .ok (.putfield 24, 3) := by decide +kernel
theorem dX2_init_26 : decode cX2_init 26 = .ok (.aload_n 0, 1) := by decide +kernel
theorem dX2_init_27 : decode cX2_init 27 = .ok (.iconst 0, 1) := by decide +kernel
theorem dX2_init_28 : decode cX2_init 28 = .ok (.putfield 28, 3) := by decide +kernel
theorem dX2_init_31 : decode cX2_init 31 = .ok (.aload_n 0, 1) := by decide +kernel
theorem dX2_init_32 : decode cX2_init 32 = .ok (.iload_n 1, 1) := by decide +kernel
theorem dX2_init_33 : decode cX2_init 33 = .ok (.putfield 31, 3) := by decide +kernel
theorem dX2_init_36 : decode cX2_init 36 = .ok (.aload_n 0, 1) := by decide +kernel
theorem dX2_init_37 : decode cX2_init 37 = .ok (.iload_n 2, 1) := by decide +kernel
theorem dX2_init_38 : decode cX2_init 38 = .ok (.putfield 34, 3) := by decide +kernel
theorem dX2_init_41 : decode cX2_init 41 = .ok (.aload_n 0, 1) := by decide +kernel
theorem dX2_init_42 : decode cX2_init 42 = .ok (.iload_n 3, 1) := by decide +kernel
theorem dX2_init_43 : decode cX2_init 43 = .ok (.putfield 37, 3) := by decide +kernel
theorem dX2_init_46 : decode cX2_init 46 = .ok (.aload_n 0, 1) := by decide +kernel
theorem dX2_init_47 : decode cX2_init 47 = .ok (.iload 4, 2) := by decide +kernel
theorem dX2_init_49 : decode cX2_init 49 = .ok (.putfield 40, 3) := by decide +kernel
theorem dX2_init_52 : decode cX2_init 52 = .ok (.aload_n 0, 1) := by decide +kernel
theorem dX2_init_53 : decode cX2_init 53 = .ok (.iload 5, 2) := by decide +kernel
theorem dX2_init_55 : decode cX2_init 55 = .ok (.putfield 43, 3) := by decide +kernel
theorem dX2_init_58 : decode cX2_init 58 = .ok (.aload_n 0, 1) := by decide +kernel
theorem dX2_init_59 : decode cX2_init 59 = .ok (.iload 6, 2) := by decide +kernel
theorem dX2_init_61 : decode cX2_init 61 = .ok (.putfield 46, 3) := by decide +kernel
theorem dX2_init_64 : decode cX2_init 64 = .ok (.return_, 1) := by decide +kernel
theorem dX2_isAtPier_0 : decode cX2_isAtPier 0 = .ok (.aload_n 0, 1) := by decide +kernel
theorem dX2_isAtPier_1 : decode cX2_isAtPier 1 = .ok (.getfield 9, 3) := by decide +kernel
theorem dX2_isAtPier_4 : decode cX2_isAtPier 4 = .ok (.bipush 102, 2) := by decide +kernel
theorem dX2_isAtPier_6 : decode cX2_isAtPier 6 = .ok (.if_icmp .eq 21, 3) := by decide +kernel
theorem dX2_isAtPier_9 : decode cX2_isAtPier 9 = .ok (.aload_n 0, 1) := by decide +kernel
theorem dX2_isAtPier_10 : decode cX2_isAtPier 10 = .ok (.getfield 9, 3) := by decide +kernel
theorem dX2_isAtPier_13 : decode cX2_isAtPier 13 = .ok (.bipush 115, 2) := by decide +kernel
theorem dX2_isAtPier_15 : decode cX2_isAtPier 15 = .ok (.if_icmp .eq 12, 3) := by decide +kernel
theorem dX2_isAtPier_18 : decode cX2_isAtPier 18 = .ok (.aload_n 0, 1) := by decide +kernel
theorem dX2_isAtPier_19 : decode cX2_isAtPier 19 = .ok (.getfield 9, 3) := by decide +kernel
theorem dX2_isAtPier_22 : decode cX2_isAtPier 22 = .ok (.bipush 108, 2) := by decide +kernel
theorem dX2_isAtPier_24 : decode cX2_isAtPier 24 = .ok (.if_icmp .ne 7, 3) := by decide +kernel
theorem dX2_isAtPier_27 : decode cX2_isAtPier 27 = .ok (.iconst 1, 1) := by decide +kernel
theorem dX2_isAtPier_28 : decode cX2_isAtPier 28 = .ok (.goto 4, 3) := by decide +kernel
theorem dX2_isAtPier_31 : decode cX2_isAtPier 31 = .ok (.iconst 0, 1) := by decide +kernel
theorem dX2_isAtPier_32 : decode cX2_isAtPier 32 = .ok (.ireturn, 1) := by decide +kernel
theorem dX2_wasSold_0 : decode cX2_wasSold 0 = .ok (.aload_n 0, 1) := by decide +kernel
theorem dX2_wasSold_1 : decode cX2_wasSold 1 = .ok (.getfield 9, 3) := by decide +kernel
theorem dX2_wasSold_4 : decode cX2_wasSold 4 = .ok (.bipush 115, 2) := by decide +kernel
theorem dX2_wasSold_6 : decode cX2_wasSold 6 = .ok (.if_icmp .eq 21, 3) := by decide +kernel
theorem dX2_wasSold_9 : decode cX2_wasSold 9 = .ok (.aload_n 0, 1) := by decide +kernel
theorem dX2_wasSold_10 : decode cX2_wasSold 10 = .ok (.getfield 9, 3) := by decide +kernel
theorem dX2_wasSold_13 : decode cX2_wasSold 13 = .ok (.bipush 108, 2) := by decide +kernel
theorem dX2_wasSold_15 : decode cX2_wasSold 15 = .ok (.if_icmp .eq 12, 3) := by decide +kernel
theorem dX2_wasSold_18 : decode cX2_wasSold 18 = .ok (.aload_n 0, 1) := by decide +kernel
theorem dX2_wasSold_19 : decode cX2_wasSold 19 = .ok (.getfield 9, 3) := by decide +kernel
theorem dX2_wasSold_22 : decode cX2_wasSold 22 = .ok (.bipush 100, 2) := by decide +kernel
theorem dX2_wasSold_24 : decode cX2_wasSold 24 = .ok (.if_icmp .ne 7, 3) := by decide +kernel
theorem dX2_wasSold_27 : decode cX2_wasSold 27 = .ok (.iconst 1, 1) := by decide +kernel
theorem dX2_wasSold_28 : decode cX2_wasSold 28 = .ok (.goto 4, 3) := by decide +kernel
theorem dX2_wasSold_31 : decode cX2_wasSold 31 = .ok (.iconst 0, 1) := by decide +kernel
theorem dX2_wasSold_32 : decode cX2_wasSold 32 = .ok (.ireturn, 1) := by decide +kernel
theorem dX2_iceForOneTick_0 : decode cX2_iceForOneTick 0 = .ok (.aload_n 0, 1) := by decide +kernel
theorem dX2_iceForOneTick_1 : decode cX2_iceForOneTick 1 = .ok (.getfield 43, 3) := by decide +kernel
theorem dX2_iceForOneTick_4 : decode cX2_iceForOneTick 4 = .ok (.bipush 9, 2) := by decide +kernel
theorem dX2_iceForOneTick_6 : decode cX2_iceForOneTick 6 = .ok (.iadd, 1) := by decide +kernel
theorem dX2_iceForOneTick_7 : decode cX2_iceForOneTick 7 = .ok (.bipush 10, 2) := by decide +kernel
theorem dX2_iceForOneTick_9 : decode cX2_iceForOneTick 9 = .ok (.idiv, 1) := by decide +kernel
theorem dX2_iceForOneTick_10 : decode cX2_iceForOneTick 10 = .ok (.ireturn, 1) := by decide +kernel
theorem dX2_ticksOfIce_0 : decode cX2_ticksOfIce 0 = .ok (.aload_n 0, 1) := by decide +kernel
theorem dX2_ticksOfIce_1 : decode cX2_ticksOfIce 1 = .ok (.invokevirtual 50, 3) := by decide +kernel
theorem dX2_ticksOfIce_4 : decode cX2_ticksOfIce 4 = .ok (.istore_n 1, 1) := by decide +kernel
theorem dX2_ticksOfIce_5 : decode cX2_ticksOfIce 5 = .ok (.iload_n 1, 1) := by decide +kernel
theorem dX2_ticksOfIce_6 : decode cX2_ticksOfIce 6 = .ok (.iconst 1, 1) := by decide +kernel
theorem dX2_ticksOfIce_7 : decode cX2_ticksOfIce 7 = .ok (.if_icmp .ge 7, 3) := by decide +kernel
theorem dX2_ticksOfIce_10 : decode cX2_ticksOfIce 10 = .ok (.iconst 0, 1) := by decide +kernel
theorem dX2_ticksOfIce_11 : decode cX2_ticksOfIce 11 = .ok (.goto 9, 3) := by decide +kernel
theorem dX2_ticksOfIce_14 : decode cX2_ticksOfIce 14 = .ok (.aload_n 0, 1) := by decide +kernel
theorem dX2_ticksOfIce_15 : decode cX2_ticksOfIce 15 = .ok (.getfield 20, 3) := by decide +kernel
theorem dX2_ticksOfIce_18 : decode cX2_ticksOfIce 18 = .ok (.iload_n 1, 1) := by decide +kernel
theorem dX2_ticksOfIce_19 : decode cX2_ticksOfIce 19 = .ok (.idiv, 1) := by decide +kernel
theorem dX2_ticksOfIce_20 : decode cX2_ticksOfIce 20 = .ok (.ireturn, 1) := by decide +kernel
theorem dX2_age_0 : decode cX2_age 0 = .ok (.aload_n 0, 1) := by decide +kernel
theorem dX2_age_1 : decode cX2_age 1 = .ok (.invokevirtual 50, 3) := by decide +kernel
theorem dX2_age_4 : decode cX2_age 4 = .ok (.istore_n 1, 1) := by decide +kernel
theorem dX2_age_5 : decode cX2_age 5 = .ok (.aload_n 0, 1) := by decide +kernel
theorem dX2_age_6 : decode cX2_age 6 = .ok (.getfield 20, 3) := by decide +kernel
theorem dX2_age_9 : decode cX2_age 9 = .ok (.iload_n 1, 1) := by decide +kernel
theorem dX2_age_10 : decode cX2_age 10 = .ok (.if_icmp .lt 27, 3) := by decide +kernel
theorem dX2_age_13 : decode cX2_age 13 = .ok (.aload_n 0, 1) := by decide +kernel
theorem dX2_age_14 : decode cX2_age 14 = .ok (.dup, 1) := by decide +kernel
theorem dX2_age_15 : decode cX2_age 15 = .ok (.getfield 20, 3) := by decide +kernel
theorem dX2_age_18 : decode cX2_age 18 = .ok (.iload_n 1, 1) := by decide +kernel
theorem dX2_age_19 : decode cX2_age 19 = .ok (.isub, 1) := by decide +kernel
theorem dX2_age_20 : decode cX2_age 20 = .ok (.putfield 20, 3) := by decide +kernel
theorem dX2_age_23 : decode cX2_age 23 = .ok (.aload_n 0, 1) := by decide +kernel
theorem dX2_age_24 : decode cX2_age 24 = .ok (.aload_n 0, 1) := by decide +kernel
theorem dX2_age_25 : decode cX2_age 25 = .ok (.getfield 16, 3) := by decide +kernel
theorem dX2_age_28 : decode cX2_age 28 = .ok (.ldc 54, 2) := by decide +kernel
theorem dX2_age_30 : decode cX2_age 30 = .ok (.fmul, 1) := by decide +kernel
theorem dX2_age_31 : decode cX2_age 31 = .ok (.putfield 16, 3) := by decide +kernel
theorem dX2_age_34 : decode cX2_age 34 = .ok (.goto 14, 3) := by decide +kernel
theorem dX2_age_37 : decode cX2_age 37 = .ok (.aload_n 0, 1) := by decide +kernel
theorem dX2_age_38 : decode cX2_age 38 = .ok (.aload_n 0, 1) := by decide +kernel
theorem dX2_age_39 : decode cX2_age 39 = .ok (.getfield 16, 3) := by decide +kernel
theorem dX2_age_42 : decode cX2_age 42 = .ok (.ldc 55, 2) := by decide +kernel
theorem dX2_age_44 : decode cX2_age 44 = .ok (.fmul, 1) := by decide +kernel
theorem dX2_age_45 : decode cX2_age 45 = .ok (.putfield 16, 3) := by decide +kernel
theorem dX2_age_48 : decode cX2_age 48 = .ok (.aload_n 0, 1) := by decide +kernel
theorem dX2_age_49 : decode cX2_age 49 = .ok (.getfield 16, 3) := by decide +kernel
theorem dX2_age_52 : decode cX2_age 52 = .ok (.ldc 56, 2) := by decide +kernel
theorem dX2_age_54 : decode cX2_age 54 = .ok (.fcmp .g, 1) := by decide +kernel
theorem dX2_age_55 : decode cX2_age 55 = .ok (.ifCond .ge 18, 3) := by decide +kernel
theorem dX2_age_58 : decode cX2_age 58 = .ok (.aload_n 0, 1) := by decide +kernel
theorem dX2_age_59 : decode cX2_age 59 = .ok (.getfield 9, 3) := by decide +kernel
theorem dX2_age_62 : decode cX2_age 62 = .ok (.bipush 102, 2) := by decide +kernel
theorem dX2_age_64 : decode cX2_age 64 = .ok (.if_icmp .ne 9, 3) := by decide +kernel
theorem dX2_age_67 : decode cX2_age 67 = .ok (.aload_n 0, 1) := by decide +kernel
theorem dX2_age_68 : decode cX2_age 68 = .ok (.bipush 120, 2) := by decide +kernel
theorem dX2_age_70 : decode cX2_age 70 = .ok (.putfield 9, 3) := by decide +kernel
theorem dX2_age_73 : decode cX2_age 73 = .ok (.return_, 1) := by decide +kernel
theorem dX3_init_0 : decode cX3_init 0 = .ok (.aload_n 0, 1) := by decide +kernel
theorem dX3_init_1 : decode cX3_init 1 = .ok (.invokespecial 3, 3) := by decide +kernel
theorem dX3_init_4 : decode cX3_init 4 = .ok (.aload_n 0, 1) := by decide +kernel
theorem dX3_init_5 : decode cX3_init 5 = .ok (.iconst 5, 1) := by decide +kernel
theorem dX3_init_6 : decode cX3_init 6 = .ok (.anewarray 9, 3) := by decide +kernel
theorem dX3_init_9 : decode cX3_init 9 = .ok (.putfield 11, 3) := by decide +kernel
theorem dX3_init_12 : decode cX3_init 12 = .ok (.aload_n 0, 1) := by decide +kernel
theorem dX3_init_13 : decode cX3_init 13 = .ok (.iconst 0, 1) := by decide +kernel
theorem dX3_init_14 : decode cX3_init 14 = .ok (.putfield 17, 3) := by decide +kernel
theorem dX3_init_17 : decode cX3_init 17 = .ok (.aload_n 0, 1) := by decide +kernel
theorem dX3_init_18 : decode cX3_init 18 = .ok (.iload_n 1, 1) := by decide +kernel
theorem dX3_init_19 : decode cX3_init 19 = .ok (.putfield 21, 3) := by decide +kernel
theorem dX3_init_22 : decode cX3_init 22 = .ok (.aload_n 0, 1) := by decide +kernel
theorem dX3_init_23 : decode cX3_init 23 = .ok (.iload_n 2, 1) := by decide +kernel
theorem dX3_init_24 : decode cX3_init 24 = .ok (.putfield 24, 3) := by decide +kernel
theorem dX3_init_27 : decode cX3_init 27 = .ok (.aload_n 0, 1) := by decide +kernel
theorem dX3_init_28 : decode cX3_init 28 = .ok (.iload_n 3, 1) := by decide +kernel
theorem dX3_init_29 : decode cX3_init 29 = .ok (.putfield 27, 3) := by decide +kernel
theorem dX3_init_32 : decode cX3_init 32 = .ok (.return_, 1) := by decide +kernel
theorem dX3_hasPlaceFor_0 : decode cX3_hasPlaceFor 0 = .ok (.aload_n 0, 1) := by decide +kernel
theorem dX3_hasPlaceFor_1 : decode cX3_hasPlaceFor 1 = .ok (.getfield 17, 3) := by decide +kernel
theorem dX3_hasPlaceFor_4 : decode cX3_hasPlaceFor 4 = .ok (.aload_n 0, 1) := by decide +kernel
theorem dX3_hasPlaceFor_5 : decode cX3_hasPlaceFor 5 = .ok (.getfield 11, 3) := by decide +kernel
theorem dX3_hasPlaceFor_8 : decode cX3_hasPlaceFor 8 = .ok (.arraylength, 1) := by decide +kernel
theorem dX3_hasPlaceFor_9 : decode cX3_hasPlaceFor 9 = .ok (.if_icmp .ge 18, 3) := by decide +kernel
theorem dX3_hasPlaceFor_12 : decode cX3_hasPlaceFor 12 = .ok (.aload_n 1, 1) := by decide +kernel
theorem dX3_hasPlaceFor_13 : decode cX3_hasPlaceFor 13 = .ok (.getfield 31, 3) := by decide +kernel
theorem dX3_hasPlaceFor_16 : decode cX3_hasPlaceFor 16 = .ok (.aload_n 0, 1) := by decide +kernel
theorem dX3_hasPlaceFor_17 : decode cX3_hasPlaceFor 17 = .ok (.getfield 24, 3) := by decide +kernel
theorem dX3_hasPlaceFor_20 : decode cX3_hasPlaceFor 20 = .ok (.if_icmp .gt 7, 3) := by decide +kernel
theorem dX3_hasPlaceFor_23 : decode cX3_hasPlaceFor 23 = .ok (.iconst 1, 1) := by decide +kernel
theorem dX3_hasPlaceFor_24 : decode cX3_hasPlaceFor 24 = .ok (.goto 4, 3) := by decide +kernel
theorem dX3_hasPlaceFor_27 : decode cX3_hasPlaceFor 27 = .ok (.iconst 0, 1) := by decide +kernel
theorem dX3_hasPlaceFor_28 : decode cX3_hasPlaceFor 28 = .ok (.ireturn, 1) := by decide +kernel
theorem dX3_take_0 : decode cX3_take 0 = .ok (.aload_n 0, 1) := by decide +kernel
theorem dX3_take_1 : decode cX3_take 1 = .ok (.getfield 11, 3) := by decide +kernel
theorem dX3_take_4 : decode cX3_take 4 = .ok (.aload_n 0, 1) := by decide +kernel
theorem dX3_take_5 : decode cX3_take 5 = .ok (.getfield 17, 3) := by decide +kernel
theorem dX3_take_8 : decode cX3_take 8 = .ok (.aload_n 1, 1) := by decide +kernel
theorem dX3_take_9 : decode cX3_take 9 = .ok (.aastore, 1) := by decide +kernel
theorem dX3_take_10 : decode cX3_take 10 = .ok (.aload_n 0, 1) := by decide +kernel
theorem dX3_take_11 : decode cX3_take 11 = .ok (.dup, 1) := by decide +kernel
theorem dX3_take_12 : decode cX3_take 12 = .ok (.getfield 17, 3) := by decide +kernel
theorem dX3_take_15 : decode cX3_take 15 = .ok (.iconst 1, 1) := by decide +kernel
theorem dX3_take_16 : decode cX3_take 16 = .ok (.iadd, 1) := by decide +kernel
theorem dX3_take_17 : decode cX3_take 17 = .ok (.putfield 17, 3) := by decide +kernel
theorem dX3_take_20 : decode cX3_take 20 = .ok (.aload_n 0, 1) := by decide +kernel
theorem dX3_take_21 : decode cX3_take 21 = .ok (.dup, 1) := by decide +kernel
theorem dX3_take_22 : decode cX3_take 22 = .ok (.getfield 24, 3) := by decide +kernel
theorem dX3_take_25 : decode cX3_take 25 = .ok (.aload_n 1, 1) := by decide +kernel
theorem dX3_take_26 : decode cX3_take 26 = .ok (.getfield 31, 3) := by decide +kernel
theorem dX3_take_29 : decode cX3_take 29 = .ok (.isub, 1) := by decide +kernel
theorem dX3_take_30 : decode cX3_take 30 = .ok (.putfield 24, 3) := by decide +kernel
theorem dX3_take_33 : decode cX3_take 33 = .ok (.aload_n 1, 1) := by decide +kernel
theorem dX3_take_34 : decode cX3_take 34 = .ok (.bipush 108, 2) := by decide +kernel
theorem dX3_take_36 : decode cX3_take 36 = .ok (.putfield 34, 3) := by decide +kernel
theorem dX3_take_39 : decode cX3_take 39 = .ok (.return_, 1) := by decide +kernel
theorem dX4_init_0 : decode cX4_init 0 = .ok (.aload_n 0, 1) := by decide +kernel
theorem dX4_init_1 : decode cX4_init 1 = .ok (.invokespecial 1, 3) := by decide +kernel
theorem dX4_init_4 : decode cX4_init 4 = .ok (.aload_n 0, 1) := by decide +kernel
theorem dX4_init_5 : decode cX4_init 5 = .ok (.bipush 6, 2) := by decide +kernel
theorem dX4_init_7 : decode cX4_init 7 = .ok (.anewarray 9, 3) := by decide +kernel
theorem dX4_init_10 : decode cX4_init 10 = .ok (.putfield 11, 3) := by decide +kernel
theorem dX4_init_13 : decode cX4_init 13 = .ok (.aload_n 0, 1) := by decide +kernel
theorem dX4_init_14 : decode cX4_init 14 = .ok (.bipush 20, 2) := by decide +kernel
theorem dX4_init_16 : decode cX4_init 16 = .ok (.anewarray 15, 3) := by decide +kernel
theorem dX4_init_19 : decode cX4_init 19 = .ok (.putfield 17, 3) := by decide +kernel
theorem dX4_init_22 : decode cX4_init 22 = .ok (.aload_n 0, 1) := by decide +kernel
theorem dX4_init_23 : decode cX4_init 23 = .ok (.iconst 5, 1) := by decide +kernel
theorem dX4_init_24 : decode cX4_init 24 = .ok (.anewarray 21, 3) := by decide +kernel
theorem dX4_init_27 : decode cX4_init 27 = .ok (.putfield 23, 3) := by decide +kernel
theorem dX4_init_30 : decode cX4_init 30 = .ok (.aload_n 0, 1) := by decide +kernel
theorem dX4_init_31 : decode cX4_init 31 = .ok (.iconst 4, 1) := by decide +kernel
theorem dX4_init_32 : decode cX4_init 32 = .ok (.anewarray 27, 3) := by decide +kernel
theorem dX4_init_35 : decode cX4_init 35 = .ok (.putfield 29, 3) := by decide +kernel
theorem dX4_init_38 : decode cX4_init 38 = .ok (.aload_n 0, 1) := by decide +kernel
theorem dX4_init_39 : decode cX4_init 39 = .ok (.iconst 0, 1) := by decide +kernel
theorem dX4_init_40 : decode cX4_init 40 = .ok (.putfield 33, 3) := by decide +kernel
theorem dX4_init_43 : decode cX4_init 43 = .ok (.aload_n 0, 1) := by decide +kernel
theorem dX4_init_44 : decode cX4_init 44 = .ok (.iconst 0, 1) := by decide +kernel
theorem dX4_init_45 : decode cX4_init 45 = .ok (.putfield 37, 3) := by decide +kernel
theorem dX4_init_48 : decode cX4_init 48 = .ok (.aload_n 0, 1) := by decide +kernel
theorem dX4_init_49 : decode cX4_init 49 = .ok (.iconst 0, 1) := by decide +kernel
theorem dX4_init_50 : decode cX4_init 50 = .ok (.putfield 40, 3) := by decide +kernel
theorem dX4_init_53 : decode cX4_init 53 = .ok (.aload_n 0, 1) := by decide +kernel
theorem dX4_init_54 : decode cX4_init 54 = .ok (.iconst 0, 1) := by decide +kernel
theorem dX4_init_55 : decode cX4_init 55 = .ok (.putfield 43, 3) := by decide +kernel
theorem dX4_init_58 : decode cX4_init 58 = .ok (.aload_n 0, 1) := by decide +kernel
theorem dX4_init_59 : decode cX4_init 59 = .ok (.iconst 0, 1) := by decide +kernel
theorem dX4_init_60 : decode cX4_init 60 = .ok (.putfield 46, 3) := by decide +kernel
theorem dX4_init_63 : decode cX4_init 63 = .ok (.aload_n 0, 1) := by decide +kernel
theorem dX4_init_64 : decode cX4_init 64 = .ok (.iconst 0, 1) := by decide +kernel
theorem dX4_init_65 : decode cX4_init 65 = .ok (.putfield 49, 3) := by decide +kernel
theorem dX4_init_68 : decode cX4_init 68 = .ok (.aload_n 0, 1) := by decide +kernel
theorem dX4_init_69 : decode cX4_init 69 = .ok (.iconst 0, 1) := by decide +kernel
theorem dX4_init_70 : decode cX4_init 70 = .ok (.putfield 52, 3) := by decide +kernel
theorem dX4_init_73 : decode cX4_init 73 = .ok (.aload_n 0, 1) := by decide +kernel
theorem dX4_init_74 : decode cX4_init 74 = .ok (.sipush 1000, 3) := by decide +kernel
theorem dX4_init_77 : decode cX4_init 77 = .ok (.putfield 55, 3) := by decide +kernel
theorem dX4_init_80 : decode cX4_init 80 = .ok (.aload_n 0, 1) := by decide +kernel
theorem dX4_init_81 : decode cX4_init 81 = .ok (.bipush 10, 2) := by decide +kernel
theorem dX4_init_83 : decode cX4_init 83 = .ok (.putfield 58, 3) := by decide +kernel
theorem dX4_init_86 : decode cX4_init 86 = .ok (.aload_n 0, 1) := by decide +kernel
theorem dX4_init_87 : decode cX4_init 87 = .ok (.iconst 0, 1) := by decide +kernel
theorem dX4_init_88 : decode cX4_init 88 = .ok (.putfield 61, 3) := by decide +kernel
theorem dX4_init_91 : decode cX4_init 91 = .ok (.aload_n 0, 1) := by decide +kernel
theorem dX4_init_92 : decode cX4_init 92 = .ok (.lconst 0, 1) := by decide +kernel
theorem dX4_init_93 : decode cX4_init 93 = .ok (.putfield 64, 3) := by decide +kernel
theorem dX4_init_96 : decode cX4_init 96 = .ok (.return_, 1) := by decide +kernel
theorem dX4_addBoat_0 : decode cX4_addBoat 0 = .ok (.iload_n 1, 1) := by decide +kernel
theorem dX4_addBoat_1 : decode cX4_addBoat 1 = .ok (.invokestatic 68, 3) := by decide +kernel
theorem dX4_addBoat_4 : decode cX4_addBoat 4 = .ok (.ifCond .eq 25, 3) := by decide +kernel
theorem dX4_addBoat_7 : decode cX4_addBoat 7 = .ok (.iload_n 2, 1) := by decide +kernel
theorem dX4_addBoat_8 : decode cX4_addBoat 8 = .ok (.invokestatic 68, 3) := by decide +kernel
theorem dX4_addBoat_11 : decode cX4_addBoat 11 = .ok (.ifCond .eq 18, 3) := by decide +kernel
theorem dX4_addBoat_14 : decode cX4_addBoat 14 = .ok (.iload_n 3, 1) := by decide +kernel
theorem dX4_addBoat_15 : decode cX4_addBoat 15 = .ok (.invokestatic 68, 3) := by decide +kernel
theorem dX4_addBoat_18 : decode cX4_addBoat 18 = .ok (.ifCond .eq 11, 3) := by decide +kernel
theorem dX4_addBoat_21 : decode cX4_addBoat 21 = .ok (.iload 4, 2) := by decide +kernel
theorem dX4_addBoat_23 : decode cX4_addBoat 23 = .ok (.invokestatic 68, 3) := by decide +kernel
theorem dX4_addBoat_26 : decode cX4_addBoat 26 = .ok (.ifCond .ne 13, 3) := by decide +kernel
theorem dX4_addBoat_29 : decode cX4_addBoat 29 = .ok (.new 72, 3) := by decide +kernel
theorem dX4_addBoat_32 : decode cX4_addBoat 32 = .ok (.dup, 1) := by decide +kernel
theorem dX4_addBoat_33 : decode cX4_addBoat 33 = .ok (.ldc 74, 2) := by decide +kernel
theorem dX4_addBoat_35 : decode cX4_addBoat 35 = .ok (.invokespecial 76, 3) := by decide +kernel
theorem dX4_addBoat_38 : decode cX4_addBoat 38 = .ok (.athrow, 1) := by decide +kernel
theorem dX4_addBoat_39 : decode cX4_addBoat 39 = .ok (.aload_n 0, 1) := by decide +kernel
theorem dX4_addBoat_40 : decode cX4_addBoat 40 = .ok (.getfield 33, 3) := by decide +kernel
theorem dX4_addBoat_43 : decode cX4_addBoat 43 = .ok (.aload_n 0, 1) := by decide +kernel
theorem dX4_addBoat_44 : decode cX4_addBoat 44 = .ok (.getfield 11, 3) := by decide +kernel
theorem dX4_addBoat_47 : decode cX4_addBoat 47 = .ok (.arraylength, 1) := by decide +kernel
theorem dX4_addBoat_48 : decode cX4_addBoat 48 = .ok (.if_icmp .lt 13, 3) := by decide +kernel
theorem dX4_addBoat_51 : decode cX4_addBoat 51 = .ok (.new 79, 3) := by decide +kernel
theorem dX4_addBoat_54 : decode cX4_addBoat 54 = .ok (.dup, 1) := by decide +kernel
theorem dX4_addBoat_55 : decode cX4_addBoat 55 = .ok (.ldc 81, 2) := by decide +kernel
theorem dX4_addBoat_57 : decode cX4_addBoat 57 = .ok (.invokespecial 83, 3) := by decide +kernel
theorem dX4_addBoat_60 : decode cX4_addBoat 60 = .ok (.athrow, 1) := by decide +kernel
theorem dX4_addBoat_61 : decode cX4_addBoat 61 = .ok (.aload_n 0, 1) := by decide +kernel
theorem dX4_addBoat_62 : decode cX4_addBoat 62 = .ok (.getfield 33, 3) := by decide +kernel
theorem dX4_addBoat_65 : decode cX4_addBoat 65 = .ok (.istore 5, 2) := by decide +kernel
theorem dX4_addBoat_67 : decode cX4_addBoat 67 = .ok (.aload_n 0, 1) := by decide +kernel
theorem dX4_addBoat_68 : decode cX4_addBoat 68 = .ok (.getfield 11, 3) := by decide +kernel
theorem dX4_addBoat_71 : decode cX4_addBoat 71 = .ok (.iload 5, 2) := by decide +kernel
theorem dX4_addBoat_73 : decode cX4_addBoat 73 = .ok (.new 9, 3) := by decide +kernel
theorem dX4_addBoat_76 : decode cX4_addBoat 76 = .ok (.dup, 1) := by decide +kernel
theorem dX4_addBoat_77 : decode cX4_addBoat 77 = .ok (.iload 5, 2) := by decide +kernel
theorem dX4_addBoat_79 : decode cX4_addBoat 79 = .ok (.iload_n 1, 1) := by decide +kernel
theorem dX4_addBoat_80 : decode cX4_addBoat 80 = .ok (.iload_n 2, 1) := by decide +kernel
theorem dX4_addBoat_81 : decode cX4_addBoat 81 = .ok (.iload_n 3, 1) := by decide +kernel
theorem dX4_addBoat_82 : decode cX4_addBoat 82 = .ok (.iload 4, 2) := by decide +kernel
theorem dX4_addBoat_84 : decode cX4_addBoat 84 = .ok (.invokespecial 84, 3) := by decide +kernel
theorem dX4_addBoat_87 : decode cX4_addBoat 87 = .ok (.aastore, 1) := by decide +kernel
theorem dX4_addBoat_88 : decode cX4_addBoat 88 = .ok (.aload_n 0, 1) := by decide +kernel
theorem dX4_addBoat_89 : decode cX4_addBoat 89 = .ok (.iload 5, 2) := by decide +kernel
theorem dX4_addBoat_91 : decode cX4_addBoat 91 = .ok (.iconst 1, 1) := by decide +kernel
theorem dX4_addBoat_92 : decode cX4_addBoat 92 = .ok (.iadd, 1) := by decide +kernel
theorem dX4_addBoat_93 : decode cX4_addBoat 93 = .ok (.putfield 33, 3) := by decide +kernel
theorem dX4_addBoat_96 : decode cX4_addBoat 96 = .ok (.iload 5, 2) := by decide +kernel
theorem dX4_addBoat_98 : decode cX4_addBoat 98 = .ok (.ireturn, 1) := by decide +kernel
theorem dX4_land_0 : decode cX4_land 0 = .ok (.aload_n 0, 1) := by decide +kernel
theorem dX4_land_1 : decode cX4_land 1 = .ok (.iload_n 1, 1) := by decide +kernel
theorem dX4_land_2 : decode cX4_land 2 = .ok (.invokevirtual 87, 3) := by decide +kernel
theorem dX4_land_5 : decode cX4_land 5 = .ok (.astore 6, 2) := by decide +kernel
theorem dX4_land_7 : decode cX4_land 7 = .ok (.iload_n 2, 1) := by decide +kernel
theorem dX4_land_8 : decode cX4_land 8 = .ok (.invokestatic 91, 3) := by decide +kernel
theorem dX4_land_11 : decode cX4_land 11 = .ok (.ifCond .eq 24, 3) := by decide +kernel
theorem dX4_land_14 : decode cX4_land 14 = .ok (.iload_n 3, 1) := by decide +kernel
theorem dX4_land_15 : decode cX4_land 15 = .ok (.iconst 0, 1) := by decide +kernel
theorem dX4_land_16 : decode cX4_land 16 = .ok (.iconst 2, 1) := by decide +kernel
theorem dX4_land_17 : decode cX4_land 17 = .ok (.invokestatic 94, 3) := by decide +kernel
theorem dX4_land_20 : decode cX4_land 20 = .ok (.ifCond .eq 15, 3) := by decide +kernel
theorem dX4_land_23 : decode cX4_land 23 = .ok (.iload 4, 2) := by decide +kernel
theorem dX4_land_25 : decode cX4_land 25 = .ok (.iconst 1, 1) := by decide +kernel
theorem dX4_land_26 : decode cX4_land 26 = .ok (.sipush 2000, 3) := by decide +kernel
theorem dX4_land_29 : decode cX4_land 29 = .ok (.invokestatic 94, 3) := by decide +kernel
theorem dX4_land_32 : decode cX4_land 32 = .ok (.ifCond .ne 13, 3) := by decide +kernel
theorem dX4_land_35 : decode cX4_land 35 = .ok (.new 72, 3) := by decide +kernel
theorem dX4_land_38 : decode cX4_land 38 = .ok (.dup, 1) := by decide +kernel
theorem dX4_land_39 : decode cX4_land 39 = .ok (.ldc 98, 2) := by decide +kernel
theorem dX4_land_41 : decode cX4_land 41 = .ok (.invokespecial 76, 3) := by decide +kernel
theorem dX4_land_44 : decode cX4_land 44 = .ok (.athrow, 1) := by decide +kernel
theorem dX4_land_45 : decode cX4_land 45 = .ok (.aload_n 0, 1) := by decide +kernel
theorem dX4_land_46 : decode cX4_land 46 = .ok (.getfield 37, 3) := by decide +kernel
theorem dX4_land_49 : decode cX4_land 49 = .ok (.aload_n 0, 1) := by decide +kernel
theorem dX4_land_50 : decode cX4_land 50 = .ok (.getfield 17, 3) := by decide +kernel
theorem dX4_land_53 : decode cX4_land 53 = .ok (.arraylength, 1) := by decide +kernel
theorem dX4_land_54 : decode cX4_land 54 = .ok (.if_icmp .lt 13, 3) := by decide +kernel
theorem dX4_land_57 : decode cX4_land 57 = .ok (.new 79, 3) := by decide +kernel
theorem dX4_land_60 : decode cX4_land 60 = .ok (.dup, 1) := by decide +kernel
theorem dX4_land_61 : decode cX4_land 61 = .ok (.ldc 100, 2) := by decide +kernel
theorem dX4_land_63 : decode cX4_land 63 = .ok (.invokespecial 83, 3) := by decide +kernel
theorem dX4_land_66 : decode cX4_land 66 = .ok (.athrow, 1) := by decide +kernel
theorem dX4_land_67 : decode cX4_land 67 = .ok (.aload 6, 2) := by decide +kernel
theorem dX4_land_69 : decode cX4_land 69 = .ok (.getfield 102, 3) := by decide +kernel
theorem dX4_land_72 : decode cX4_land 72 = .ok (.iload_n 2, 1) := by decide +kernel
theorem dX4_land_73 : decode cX4_land 73 = .ok (.iaload, 1) := by decide +kernel
theorem dX4_land_74 : decode cX4_land 74 = .ok (.ifCond .ne 13, 3) := by decide +kernel
theorem dX4_land_77 : decode cX4_land 77 = .ok (.new 106, 3) := by decide +kernel
theorem dX4_land_80 : decode cX4_land 80 = .ok (.dup, 1) := by decide +kernel
theorem dX4_land_81 : decode cX4_land 81 = .ok (.ldc 108, 2) := by decide +kernel
theorem dX4_land_83 : decode cX4_land 83 = .ok (.invokespecial 110, 3) := by decide +kernel
theorem dX4_land_86 : decode cX4_land 86 = .ok (.athrow, 1) := by decide +kernel
theorem dX4_land_87 : decode cX4_land 87 = .ok (.iload 4, 2) := by decide +kernel
theorem dX4_land_89 : decode cX4_land 89 = .ok (.aload 6, 2) := by decide +kernel
theorem dX4_land_91 : decode cX4_land 91 = .ok (.getfield 102, 3) := by decide +kernel
theorem dX4_land_94 : decode cX4_land 94 = .ok (.iload_n 2, 1) := by decide +kernel
theorem dX4_land_95 : decode cX4_land 95 = .ok (.iaload, 1) := by decide +kernel
theorem dX4_land_96 : decode cX4_land 96 = .ok (.invokestatic 111, 3) := by decide +kernel
theorem dX4_land_99 : decode cX4_land 99 = .ok (.istore 7, 2) := by decide +kernel
theorem dX4_land_101 : decode cX4_land 101 = .ok (.aload_n 0, 1) := by decide +kernel
theorem dX4_land_102 : decode cX4_land 102 = .ok (.getfield 37, 3) := by decide +kernel
theorem dX4_land_105 : decode cX4_land 105 = .ok (.istore 8, 2) := by decide +kernel
theorem dX4_land_107 : decode cX4_land 107 = .ok (.aload_n 0, 1) := by decide +kernel
theorem dX4_land_108 : decode cX4_land 108 = .ok (.getfield 17, 3) := by decide +kernel
theorem dX4_land_111 : decode cX4_land 111 = .ok (.iload 8, 2) := by decide +kernel
theorem dX4_land_113 : decode cX4_land 113 = .ok (.new 15, 3) := by decide +kernel
theorem dX4_land_116 : decode cX4_land 116 = .ok (.dup, 1) := by decide +kernel
theorem dX4_land_117 : decode cX4_land 117 = .ok (.iload 8, 2) := by decide +kernel
theorem dX4_land_119 : decode cX4_land 119 = .ok (.iload_n 1, 1) := by decide +kernel
theorem dX4_land_120 : decode cX4_land 120 = .ok (.iload_n 2, 1) := by decide +kernel
theorem dX4_land_121 : decode cX4_land 121 = .ok (.iload_n 3, 1) := by decide +kernel
theorem dX4_land_122 : decode cX4_land 122 = .ok (.iload 7, 2) := by decide +kernel
theorem dX4_land_124 : decode cX4_land 124 = .ok (.iload 5, 2) := by decide +kernel
theorem dX4_land_126 : decode cX4_land 126 = .ok (.invokespecial 117, 3) := by decide +kernel
theorem dX4_land_129 : decode cX4_land 129 = .ok (.aastore, 1) := by decide +kernel
theorem dX4_land_130 : decode cX4_land 130 = .ok (.aload_n 0, 1) := by decide +kernel
theorem dX4_land_131 : decode cX4_land 131 = .ok (.iload 8, 2) := by decide +kernel
theorem dX4_land_133 : decode cX4_land 133 = .ok (.iconst 1, 1) := by decide +kernel
theorem dX4_land_134 : decode cX4_land 134 = .ok (.iadd, 1) := by decide +kernel
theorem dX4_land_135 : decode cX4_land 135 = .ok (.putfield 37, 3) := by decide +kernel
theorem dX4_land_138 : decode cX4_land 138 = .ok (.aload 6, 2) := by decide +kernel
theorem dX4_land_140 : decode cX4_land 140 = .ok (.getfield 102, 3) := by decide +kernel
theorem dX4_land_143 : decode cX4_land 143 = .ok (.iload_n 2, 1) := by decide +kernel
theorem dX4_land_144 : decode cX4_land 144 = .ok (.dup2, 1) := by decide +kernel
theorem dX4_land_145 : decode cX4_land 145 = .ok (.iaload, 1) := by decide +kernel
theorem dX4_land_146 : decode cX4_land 146 = .ok (.iload 7, 2) := by decide +kernel
theorem dX4_land_148 : decode cX4_land 148 = .ok (.isub, 1) := by decide +kernel
theorem dX4_land_149 : decode cX4_land 149 = .ok (.iastore, 1) := by decide +kernel
theorem dX4_land_150 : decode cX4_land 150 = .ok (.aload_n 0, 1) := by decide +kernel
theorem dX4_land_151 : decode cX4_land 151 = .ok (.dup, 1) := by decide +kernel
theorem dX4_land_152 : decode cX4_land 152 = .ok (.getfield 52, 3) := by decide +kernel
theorem dX4_land_155 : decode cX4_land 155 = .ok (.iload 4, 2) := by decide +kernel
theorem dX4_land_157 : decode cX4_land 157 = .ok (.iload 7, 2) := by decide +kernel
theorem dX4_land_159 : decode cX4_land 159 = .ok (.isub, 1) := by decide +kernel
theorem dX4_land_160 : decode cX4_land 160 = .ok (.iadd, 1) := by decide +kernel
theorem dX4_land_161 : decode cX4_land 161 = .ok (.putfield 52, 3) := by decide +kernel
theorem dX4_land_164 : decode cX4_land 164 = .ok (.iload 8, 2) := by decide +kernel
theorem dX4_land_166 : decode cX4_land 166 = .ok (.ireturn, 1) := by decide +kernel
theorem dX4_moveQuota_0 : decode cX4_moveQuota 0 = .ok (.aload_n 0, 1) := by decide +kernel
theorem dX4_moveQuota_1 : decode cX4_moveQuota 1 = .ok (.iload_n 1, 1) := by decide +kernel
theorem dX4_moveQuota_2 : decode cX4_moveQuota 2 = .ok (.invokevirtual 87, 3) := by decide +kernel
theorem dX4_moveQuota_5 : decode cX4_moveQuota 5 = .ok (.astore 5, 2) := by decide +kernel
theorem dX4_moveQuota_7 : decode cX4_moveQuota 7 = .ok (.aload_n 0, 1) := by decide +kernel
theorem dX4_moveQuota_8 : decode cX4_moveQuota 8 = .ok (.iload_n 2, 1) := by decide +kernel
theorem dX4_moveQuota_9 : decode cX4_moveQuota 9 = .ok (.invokevirtual 87, 3) := by decide +kernel
theorem dX4_moveQuota_12 : decode cX4_moveQuota 12 = .ok (.astore 6, 2) := by decide +kernel
theorem dX4_moveQuota_14 : decode cX4_moveQuota 14 = .ok (.iload_n 1, 1) := by decide +kernel
theorem dX4_moveQuota_15 : decode cX4_moveQuota 15 = .ok (.iload_n 2, 1) := by decide +kernel
theorem dX4_moveQuota_16 : decode cX4_moveQuota 16 = .ok (.if_icmp .eq 22, 3) := by decide +kernel
theorem dX4_moveQuota_19 : decode cX4_moveQuota 19 = .ok (.iload_n 3, 1) := by decide +kernel
theorem dX4_moveQuota_20 : decode cX4_moveQuota 20 = .ok (.invokestatic 91, 3) := by decide +kernel
theorem dX4_moveQuota_23 : decode cX4_moveQuota 23 = .ok (.ifCond .eq 15, 3) := by decide +kernel
theorem dX4_moveQuota_26 : decode cX4_moveQuota 26 = .ok (.iload 4, 2) := by decide +kernel
theorem dX4_moveQuota_28 : decode cX4_moveQuota 28 = .ok (.iconst 1, 1) := by decide +kernel
theorem dX4_moveQuota_29 : decode cX4_moveQuota 29 = .ok (.sipush 9999, 3) := by decide +kernel
theorem dX4_moveQuota_32 : decode cX4_moveQuota 32 = .ok (.invokestatic 94, 3) := by decide +kernel
theorem dX4_moveQuota_35 : decode cX4_moveQuota 35 = .ok (.ifCond .ne 13, 3) := by decide +kernel
theorem dX4_moveQuota_38 : decode cX4_moveQuota 38 = .ok (.new 72, 3) := by decide +kernel
theorem dX4_moveQuota_41 : decode cX4_moveQuota 41 = .ok (.dup, 1) := by decide +kernel
theorem dX4_moveQuota_42 : decode cX4_moveQuota 42 = .ok (.ldc 120, 2) := by decide +kernel
theorem dX4_moveQuota_44 : decode cX4_moveQuota 44 = .ok (.invokespecial 76, 3) := by decide +kernel
theorem dX4_moveQuota_47 : decode cX4_moveQuota 47 = .ok (.athrow, 1) := by decide +kernel
theorem dX4_moveQuota_48 : decode cX4_moveQuota 48 = .ok (.aload 5, 2) := by decide +kernel
theorem dX4_moveQuota_50 : decode cX4_moveQuota 50 = .ok (.getfield 102, 3) := by decide +kernel
theorem dX4_moveQuota_53 : decode cX4_moveQuota 53 = .ok (.iload_n 3, 1) := by decide +kernel
theorem dX4_moveQuota_54 : decode cX4_moveQuota 54 = .ok (.iaload, 1) := by decide +kernel
theorem dX4_moveQuota_55 : decode cX4_moveQuota 55 = .ok (.iload 4, 2) := by decide +kernel
theorem dX4_moveQuota_57 : decode cX4_moveQuota 57 = .ok (.if_icmp .ge 13, 3) := by decide +kernel
theorem dX4_moveQuota_60 : decode cX4_moveQuota 60 = .ok (.new 79, 3) := by decide +kernel
theorem dX4_moveQuota_63 : decode cX4_moveQuota 63 = .ok (.dup, 1) := by decide +kernel
theorem dX4_moveQuota_64 : decode cX4_moveQuota 64 = .ok (.ldc 122, 2) := by decide +kernel
theorem dX4_moveQuota_66 : decode cX4_moveQuota 66 = .ok (.invokespecial 83, 3) := by decide +kernel
theorem dX4_moveQuota_69 : decode cX4_moveQuota 69 = .ok (.athrow, 1) := by decide +kernel
theorem dX4_moveQuota_70 : decode cX4_moveQuota 70 = .ok (.aload 5, 2) := by decide +kernel
theorem dX4_moveQuota_72 : decode cX4_moveQuota 72 = .ok (.iload_n 3, 1) := by decide +kernel
theorem dX4_moveQuota_73 : decode cX4_moveQuota 73 = .ok (.iload 4, 2) := by decide +kernel
theorem dX4_moveQuota_75 : decode cX4_moveQuota 75 = .ok (.ineg, 1) := by decide +kernel
theorem dX4_moveQuota_76 : decode cX4_moveQuota 76 = .ok (.invokevirtual 124, 3) := by decide +kernel
theorem dX4_moveQuota_79 : decode cX4_moveQuota 79 = .ok (.aload 6, 2) := by decide +kernel
theorem dX4_moveQuota_81 : decode cX4_moveQuota 81 = .ok (.iload_n 3, 1) := by decide +kernel
theorem dX4_moveQuota_82 : decode cX4_moveQuota 82 = .ok (.iload 4, 2) := by decide +kernel
theorem dX4_moveQuota_84 : decode cX4_moveQuota 84 = .ok (.invokevirtual 124, 3) := by decide +kernel
theorem dX4_moveQuota_87 : decode cX4_moveQuota 87 = .ok (.aload 5, 2) := by decide +kernel
theorem dX4_moveQuota_89 : decode cX4_moveQuota 89 = .ok (.getfield 102, 3) := by decide +kernel
theorem dX4_moveQuota_92 : decode cX4_moveQuota 92 = .ok (.iload_n 3, 1) := by decide +kernel
theorem dX4_moveQuota_93 : decode cX4_moveQuota 93 = .ok (.iaload, 1) := by decide +kernel
theorem dX4_moveQuota_94 : decode cX4_moveQuota 94 = .ok (.ireturn, 1) := by decide +kernel
theorem dX4_quota_0 : decode cX4_quota 0 = .ok (.aload_n 0, 1) := by decide +kernel
theorem dX4_quota_1 : decode cX4_quota 1 = .ok (.iload_n 1, 1) := by decide +kernel
theorem dX4_quota_2 : decode cX4_quota 2 = .ok (.invokevirtual 87, 3) := by decide +kernel
theorem dX4_quota_5 : decode cX4_quota 5 = .ok (.astore_n 3, 1) := by decide +kernel
theorem dX4_quota_6 : decode cX4_quota 6 = .ok (.iload_n 2, 1) := by decide +kernel
theorem dX4_quota_7 : decode cX4_quota 7 = .ok (.invokestatic 128, 3) := by decide +kernel
theorem dX4_quota_10 : decode cX4_quota 10 = .ok (.aload_n 3, 1) := by decide +kernel
theorem dX4_quota_11 : decode cX4_quota 11 = .ok (.getfield 102, 3) := by decide +kernel
theorem dX4_quota_14 : decode cX4_quota 14 = .ok (.iload_n 2, 1) := by decide +kernel
theorem dX4_quota_15 : decode cX4_quota 15 = .ok (.iaload, 1) := by decide +kernel
theorem dX4_quota_16 : decode cX4_quota 16 = .ok (.ireturn, 1) := by decide +kernel
theorem dX4_quotaAt_0 : decode cX4_quotaAt 0 = .ok (.aload_n 0, 1) := by decide +kernel
theorem dX4_quotaAt_1 : decode cX4_quotaAt 1 = .ok (.iload_n 1, 1) := by decide +kernel
theorem dX4_quotaAt_2 : decode cX4_quotaAt 2 = .ok (.invokevirtual 87, 3) := by decide +kernel
theorem dX4_quotaAt_5 : decode cX4_quotaAt 5 = .ok (.astore 4, 2) := by decide +kernel
theorem dX4_quotaAt_7 : decode cX4_quotaAt 7 = .ok (.iload_n 2, 1) := by decide +kernel
theorem dX4_quotaAt_8 : decode cX4_quotaAt 8 = .ok (.invokestatic 128, 3) := by decide +kernel
theorem dX4_quotaAt_11 : decode cX4_quotaAt 11 = .ok (.iload_n 3, 1) := by decide +kernel
theorem dX4_quotaAt_12 : decode cX4_quotaAt 12 = .ok (.ifCond .lt 11, 3) := by decide +kernel
theorem dX4_quotaAt_15 : decode cX4_quotaAt 15 = .ok (.iload_n 3, 1) := by decide +kernel
theorem dX4_quotaAt_16 : decode cX4_quotaAt 16 = .ok (.aload_n 0, 1) := by decide +kernel
theorem dX4_quotaAt_17 : decode cX4_quotaAt 17 = .ok (.getfield 49, 3) := by decide +kernel
theorem dX4_quotaAt_20 : decode cX4_quotaAt 20 = .ok (.if_icmp .lt 13, 3) := by decide +kernel
theorem dX4_quotaAt_23 : decode cX4_quotaAt 23 = .ok (.new 132, 3) := by decide +kernel
theorem dX4_quotaAt_26 : decode cX4_quotaAt 26 = .ok (.dup, 1) := by decide +kernel
theorem dX4_quotaAt_27 : decode cX4_quotaAt 27 = .ok (.ldc 134, 2) := by decide +kernel
theorem dX4_quotaAt_29 : decode cX4_quotaAt 29 = .ok (.invokespecial 136, 3) := by decide +kernel
theorem dX4_quotaAt_32 : decode cX4_quotaAt 32 = .ok (.athrow, 1) := by decide +kernel
theorem dX4_quotaAt_33 : decode cX4_quotaAt 33 = .ok (.aload 4, 2) := by decide +kernel
theorem dX4_quotaAt_35 : decode cX4_quotaAt 35 = .ok (.iload_n 3, 1) := by decide +kernel
theorem dX4_quotaAt_36 : decode cX4_quotaAt 36 = .ok (.iload_n 2, 1) := by decide +kernel
theorem dX4_quotaAt_37 : decode cX4_quotaAt 37 = .ok (.invokevirtual 137, 3) := by decide +kernel
theorem dX4_quotaAt_40 : decode cX4_quotaAt 40 = .ok (.ireturn, 1) := by decide +kernel
theorem dX4_endDay_0 : decode cX4_endDay 0 = .ok (.aload_n 0, 1) := by decide +kernel
theorem dX4_endDay_1 : decode cX4_endDay 1 = .ok (.getfield 49, 3) := by decide +kernel
theorem dX4_endDay_4 : decode cX4_endDay 4 = .ok (.bipush 19, 2) := by decide +kernel
theorem dX4_endDay_6 : decode cX4_endDay 6 = .ok (.if_icmp .lt 13, 3) := by decide +kernel
theorem dX4_endDay_9 : decode cX4_endDay 9 = .ok (.new 79, 3) := by decide +kernel
theorem dX4_endDay_12 : decode cX4_endDay 12 = .ok (.dup, 1) := by decide +kernel
theorem dX4_endDay_13 : decode cX4_endDay 13 = .ok (.ldc 140, 2) := by decide +kernel
theorem dX4_endDay_15 : decode cX4_endDay 15 = .ok (.invokespecial 83, 3) := by decide +kernel
theorem dX4_endDay_18 : decode cX4_endDay 18 = .ok (.athrow, 1) := by decide +kernel
theorem dX4_endDay_19 : decode cX4_endDay 19 = .ok (.aload_n 0, 1) := by decide +kernel
theorem dX4_endDay_20 : decode cX4_endDay 20 = .ok (.getfield 11, 3) := by decide +kernel
theorem dX4_endDay_23 : decode cX4_endDay 23 = .ok (.astore_n 1, 1) := by decide +kernel
theorem dX4_endDay_24 : decode cX4_endDay 24 = .ok (.aload_n 1, 1) := by decide +kernel
theorem dX4_endDay_25 : decode cX4_endDay 25 = .ok (.arraylength, 1) := by decide +kernel
theorem dX4_endDay_26 : decode cX4_endDay 26 = .ok (.istore_n 2, 1) := by decide +kernel
theorem dX4_endDay_27 : decode cX4_endDay 27 = .ok (.iconst 0, 1) := by decide +kernel
theorem dX4_endDay_28 : decode cX4_endDay 28 = .ok (.istore_n 3, 1) := by decide +kernel
theorem dX4_endDay_29 : decode cX4_endDay 29 = .ok (.iload_n 3, 1) := by decide +kernel
theorem dX4_endDay_30 : decode cX4_endDay 30 = .ok (.iload_n 2, 1) := by decide +kernel
theorem dX4_endDay_31 : decode cX4_endDay 31 = .ok (.if_icmp .ge 28, 3) := by decide +kernel
theorem dX4_endDay_34 : decode cX4_endDay 34 = .ok (.aload_n 1, 1) := by decide +kernel
theorem dX4_endDay_35 : decode cX4_endDay 35 = .ok (.iload_n 3, 1) := by decide +kernel
theorem dX4_endDay_36 : decode cX4_endDay 36 = .ok (.aaload, 1) := by decide +kernel
theorem dX4_endDay_37 : decode cX4_endDay 37 = .ok (.astore 4, 2) := by decide +kernel
theorem dX4_endDay_39 : decode cX4_endDay 39 = .ok (.aload 4, 2) := by decide +kernel
theorem dX4_endDay_41 : decode cX4_endDay 41 = .ok (.ifnull 12, 3) := by decide +kernel
theorem dX4_endDay_44 : decode cX4_endDay 44 = .ok (.aload 4, 2) := by decide +kernel
theorem dX4_endDay_46 : decode cX4_endDay 46 = .ok (.aload_n 0, 1) := by decide +kernel
theorem dX4_endDay_47 : decode cX4_endDay 47 = .ok (.getfield 49, 3) := by decide +kernel
theorem dX4_endDay_50 : decode cX4_endDay 50 = .ok (.invokevirtual 142, 3) := by decide +kernel
theorem dX4_endDay_53 : decode cX4_endDay 53 = .ok (.iinc 3 1, 3) := by decide +kernel
theorem dX4_endDay_56 : decode cX4_endDay 56 = .ok (.goto (-27), 3) := by decide +kernel
theorem dX4_endDay_59 : decode cX4_endDay 59 = .ok (.aload_n 0, 1) := by decide +kernel
theorem dX4_endDay_60 : decode cX4_endDay 60 = .ok (.dup, 1) := by decide +kernel
theorem dX4_endDay_61 : decode cX4_endDay 61 = .ok (.getfield 49, 3) := by decide +kernel
theorem dX4_endDay_64 : decode cX4_endDay 64 = .ok (.iconst 1, 1) := by decide +kernel
theorem dX4_endDay_65 : decode cX4_endDay 65 = .ok (.iadd, 1) := by decide +kernel
theorem dX4_endDay_66 : decode cX4_endDay 66 = .ok (.putfield 49, 3) := by decide +kernel
theorem dX4_endDay_69 : decode cX4_endDay 69 = .ok (.aload_n 0, 1) := by decide +kernel
theorem dX4_endDay_70 : decode cX4_endDay 70 = .ok (.getfield 49, 3) := by decide +kernel
theorem dX4_endDay_73 : decode cX4_endDay 73 = .ok (.ireturn, 1) := by decide +kernel
theorem dX4_beyond_0 : decode cX4_beyond 0 = .ok (.aload_n 0, 1) := by decide +kernel
theorem dX4_beyond_1 : decode cX4_beyond 1 = .ok (.getfield 52, 3) := by decide +kernel
theorem dX4_beyond_4 : decode cX4_beyond 4 = .ok (.ireturn, 1) := by decide +kernel
theorem dX4_weight_0 : decode cX4_weight 0 = .ok (.aload_n 0, 1) := by decide +kernel
theorem dX4_weight_1 : decode cX4_weight 1 = .ok (.iload_n 1, 1) := by decide +kernel
theorem dX4_weight_2 : decode cX4_weight 2 = .ok (.invokevirtual 145, 3) := by decide +kernel
theorem dX4_weight_5 : decode cX4_weight 5 = .ok (.getfield 149, 3) := by decide +kernel
theorem dX4_weight_8 : decode cX4_weight 8 = .ok (.ireturn, 1) := by decide +kernel
theorem dX4_stateOf_0 : decode cX4_stateOf 0 = .ok (.aload_n 0, 1) := by decide +kernel
theorem dX4_stateOf_1 : decode cX4_stateOf 1 = .ok (.iload_n 1, 1) := by decide +kernel
theorem dX4_stateOf_2 : decode cX4_stateOf 2 = .ok (.invokevirtual 145, 3) := by decide +kernel
theorem dX4_stateOf_5 : decode cX4_stateOf 5 = .ok (.getfield 152, 3) := by decide +kernel
theorem dX4_stateOf_8 : decode cX4_stateOf 8 = .ok (.ireturn, 1) := by decide +kernel
theorem dX4_fresh_0 : decode cX4_fresh 0 = .ok (.aload_n 0, 1) := by decide +kernel
theorem dX4_fresh_1 : decode cX4_fresh 1 = .ok (.iload_n 1, 1) := by decide +kernel
theorem dX4_fresh_2 : decode cX4_fresh 2 = .ok (.invokevirtual 145, 3) := by decide +kernel
theorem dX4_fresh_5 : decode cX4_fresh 5 = .ok (.getfield 156, 3) := by decide +kernel
theorem dX4_fresh_8 : decode cX4_fresh 8 = .ok (.freturn, 1) := by decide +kernel
theorem dX4_freshBits_0 : decode cX4_freshBits 0 = .ok (.aload_n 0, 1) := by decide +kernel
theorem dX4_freshBits_1 : decode cX4_freshBits 1 = .ok (.iload_n 1, 1) := by decide +kernel
theorem dX4_freshBits_2 : decode cX4_freshBits 2 = .ok (.invokevirtual 145, 3) := by decide +kernel
theorem dX4_freshBits_5 : decode cX4_freshBits 5 = .ok (.getfield 156, 3) := by decide +kernel
theorem dX4_freshBits_8 : decode cX4_freshBits 8 = .ok (.invokestatic 160, 3) := by decide +kernel
theorem dX4_freshBits_11 : decode cX4_freshBits 11 = .ok (.ireturn, 1) := by decide +kernel
theorem dX4_ice_0 : decode cX4_ice 0 = .ok (.aload_n 0, 1) := by decide +kernel
theorem dX4_ice_1 : decode cX4_ice 1 = .ok (.iload_n 1, 1) := by decide +kernel
theorem dX4_ice_2 : decode cX4_ice 2 = .ok (.invokevirtual 145, 3) := by decide +kernel
theorem dX4_ice_5 : decode cX4_ice 5 = .ok (.astore_n 3, 1) := by decide +kernel
theorem dX4_ice_6 : decode cX4_ice 6 = .ok (.iload_n 2, 1) := by decide +kernel
theorem dX4_ice_7 : decode cX4_ice 7 = .ok (.iconst 1, 1) := by decide +kernel
theorem dX4_ice_8 : decode cX4_ice 8 = .ok (.sipush 999, 3) := by decide +kernel
theorem dX4_ice_11 : decode cX4_ice 11 = .ok (.invokestatic 94, 3) := by decide +kernel
theorem dX4_ice_14 : decode cX4_ice 14 = .ok (.ifCond .ne 13, 3) := by decide +kernel
theorem dX4_ice_17 : decode cX4_ice 17 = .ok (.new 72, 3) := by decide +kernel
theorem dX4_ice_20 : decode cX4_ice 20 = .ok (.dup, 1) := by decide +kernel
theorem dX4_ice_21 : decode cX4_ice 21 = .ok (.ldc 164, 2) := by decide +kernel
theorem dX4_ice_23 : decode cX4_ice 23 = .ok (.invokespecial 76, 3) := by decide +kernel
theorem dX4_ice_26 : decode cX4_ice 26 = .ok (.athrow, 1) := by decide +kernel
theorem dX4_ice_27 : decode cX4_ice 27 = .ok (.aload_n 3, 1) := by decide +kernel
theorem dX4_ice_28 : decode cX4_ice 28 = .ok (.invokevirtual 166, 3) := by decide +kernel
theorem dX4_ice_31 : decode cX4_ice 31 = .ok (.ifCond .ne 13, 3) := by decide +kernel
theorem dX4_ice_34 : decode cX4_ice 34 = .ok (.new 79, 3) := by decide +kernel
theorem dX4_ice_37 : decode cX4_ice 37 = .ok (.dup, 1) := by decide +kernel
theorem dX4_ice_38 : decode cX4_ice 38 = .ok (.ldc 170, 2) := by decide +kernel
theorem dX4_ice_40 : decode cX4_ice 40 = .ok (.invokespecial 83, 3) := by decide +kernel
theorem dX4_ice_43 : decode cX4_ice 43 = .ok (.athrow, 1) := by decide +kernel
theorem dX4_ice_44 : decode cX4_ice 44 = .ok (.aload_n 3, 1) := by decide +kernel
theorem dX4_ice_45 : decode cX4_ice 45 = .ok (.dup, 1) := by decide +kernel
theorem dX4_ice_46 : decode cX4_ice 46 = .ok (.getfield 172, 3) := by decide +kernel
theorem dX4_ice_49 : decode cX4_ice 49 = .ok (.iload_n 2, 1) := by decide +kernel
theorem dX4_ice_50 : decode cX4_ice 50 = .ok (.iadd, 1) := by decide +kernel
theorem dX4_ice_51 : decode cX4_ice 51 = .ok (.putfield 172, 3) := by decide +kernel
theorem dX4_ice_54 : decode cX4_ice 54 = .ok (.aload_n 3, 1) := by decide +kernel
theorem dX4_ice_55 : decode cX4_ice 55 = .ok (.getfield 172, 3) := by decide +kernel
theorem dX4_ice_58 : decode cX4_ice 58 = .ok (.ireturn, 1) := by decide +kernel
theorem dX4_iceOn_0 : decode cX4_iceOn 0 = .ok (.aload_n 0, 1) := by decide +kernel
theorem dX4_iceOn_1 : decode cX4_iceOn 1 = .ok (.iload_n 1, 1) := by decide +kernel
theorem dX4_iceOn_2 : decode cX4_iceOn 2 = .ok (.invokevirtual 145, 3) := by decide +kernel
theorem dX4_iceOn_5 : decode cX4_iceOn 5 = .ok (.getfield 172, 3) := by decide +kernel
theorem dX4_iceOn_8 : decode cX4_iceOn 8 = .ok (.ireturn, 1) := by decide +kernel
theorem dX4_iceLasts_0 : decode cX4_iceLasts 0 = .ok (.aload_n 0, 1) := by decide +kernel
theorem dX4_iceLasts_1 : decode cX4_iceLasts 1 = .ok (.iload_n 1, 1) := by decide +kernel
theorem dX4_iceLasts_2 : decode cX4_iceLasts 2 = .ok (.invokevirtual 145, 3) := by decide +kernel
theorem dX4_iceLasts_5 : decode cX4_iceLasts 5 = .ok (.invokevirtual 175, 3) := by decide +kernel
theorem dX4_iceLasts_8 : decode cX4_iceLasts 8 = .ok (.ireturn, 1) := by decide +kernel
theorem dX4_tick_0 : decode cX4_tick 0 = .ok (.aload_n 0, 1) := by decide +kernel
theorem dX4_tick_1 : decode cX4_tick 1 = .ok (.getfield 17, 3) := by decide +kernel
theorem dX4_tick_4 : decode cX4_tick 4 = .ok (.astore_n 1, 1) := by decide +kernel
theorem dX4_tick_5 : decode cX4_tick 5 = .ok (.aload_n 1, 1) := by decide +kernel
theorem dX4_tick_6 : decode cX4_tick 6 = .ok (.arraylength, 1) := by decide +kernel
theorem dX4_tick_7 : decode cX4_tick 7 = .ok (.istore_n 2, 1) := by decide +kernel
theorem dX4_tick_8 : decode cX4_tick 8 = .ok (.iconst 0, 1) := by decide +kernel
theorem dX4_tick_9 : decode cX4_tick 9 = .ok (.istore_n 3, 1) := by decide +kernel
theorem dX4_tick_10 : decode cX4_tick 10 = .ok (.iload_n 3, 1) := by decide +kernel
theorem dX4_tick_11 : decode cX4_tick 11 = .ok (.iload_n 2, 1) := by decide +kernel
theorem dX4_tick_12 : decode cX4_tick 12 = .ok (.if_icmp .ge 32, 3) := by decide +kernel
theorem dX4_tick_15 : decode cX4_tick 15 = .ok (.aload_n 1, 1) := by decide +kernel
theorem dX4_tick_16 : decode cX4_tick 16 = .ok (.iload_n 3, 1) := by decide +kernel
theorem dX4_tick_17 : decode cX4_tick 17 = .ok (.aaload, 1) := by decide +kernel
theorem dX4_tick_18 : decode cX4_tick 18 = .ok (.astore 4, 2) := by decide +kernel
theorem dX4_tick_20 : decode cX4_tick 20 = .ok (.aload 4, 2) := by decide +kernel
theorem dX4_tick_22 : decode cX4_tick 22 = .ok (.ifnull 16, 3) := by decide +kernel
theorem dX4_tick_25 : decode cX4_tick 25 = .ok (.aload 4, 2) := by decide +kernel
theorem dX4_tick_27 : decode cX4_tick 27 = .ok (.invokevirtual 166, 3) := by decide +kernel
theorem dX4_tick_30 : decode cX4_tick 30 = .ok (.ifCond .eq 8, 3) := by decide +kernel
theorem dX4_tick_33 : decode cX4_tick 33 = .ok (.aload 4, 2) := by decide +kernel
theorem dX4_tick_35 : decode cX4_tick 35 = .ok (.invokevirtual 179, 3) := by decide +kernel
theorem dX4_tick_38 : decode cX4_tick 38 = .ok (.iinc 3 1, 3) := by decide +kernel
theorem dX4_tick_41 : decode cX4_tick 41 = .ok (.goto (-31), 3) := by decide +kernel
theorem dX4_tick_44 : decode cX4_tick 44 = .ok (.aload_n 0, 1) := by decide +kernel
theorem dX4_tick_45 : decode cX4_tick 45 = .ok (.dup, 1) := by decide +kernel
theorem dX4_tick_46 : decode cX4_tick 46 = .ok (.getfield 46, 3) := by decide +kernel
theorem dX4_tick_49 : decode cX4_tick 49 = .ok (.iconst 1, 1) := by decide +kernel
theorem dX4_tick_50 : decode cX4_tick 50 = .ok (.iadd, 1) := by decide +kernel
theorem dX4_tick_51 : decode cX4_tick 51 = .ok (.putfield 46, 3) := by decide +kernel
theorem dX4_tick_54 : decode cX4_tick 54 = .ok (.iconst 0, 1) := by decide +kernel
theorem dX4_tick_55 : decode cX4_tick 55 = .ok (.istore_n 1, 1) := by decide +kernel
theorem dX4_tick_56 : decode cX4_tick 56 = .ok (.aload_n 0, 1) := by decide +kernel
theorem dX4_tick_57 : decode cX4_tick 57 = .ok (.getfield 29, 3) := by decide +kernel
theorem dX4_tick_60 : decode cX4_tick 60 = .ok (.astore_n 2, 1) := by decide +kernel
theorem dX4_tick_61 : decode cX4_tick 61 = .ok (.aload_n 2, 1) := by decide +kernel
theorem dX4_tick_62 : decode cX4_tick 62 = .ok (.arraylength, 1) := by decide +kernel
theorem dX4_tick_63 : decode cX4_tick 63 = .ok (.istore_n 3, 1) := by decide +kernel
theorem dX4_tick_64 : decode cX4_tick 64 = .ok (.iconst 0, 1) := by decide +kernel
theorem dX4_tick_65 : decode cX4_tick 65 = .ok (.istore 4, 2) := by decide +kernel
theorem dX4_tick_67 : decode cX4_tick 67 = .ok (.iload 4, 2) := by decide +kernel
theorem dX4_tick_69 : decode cX4_tick 69 = .ok (.iload_n 3, 1) := by decide +kernel
theorem dX4_tick_70 : decode cX4_tick 70 = .ok (.if_icmp .ge 41, 3) := by decide +kernel
theorem dX4_tick_73 : decode cX4_tick 73 = .ok (.aload_n 2, 1) := by decide +kernel
theorem dX4_tick_74 : decode cX4_tick 74 = .ok (.iload 4, 2) := by decide +kernel
theorem dX4_tick_76 : decode cX4_tick 76 = .ok (.aaload, 1) := by decide +kernel
theorem dX4_tick_77 : decode cX4_tick 77 = .ok (.astore 5, 2) := by decide +kernel
theorem dX4_tick_79 : decode cX4_tick 79 = .ok (.aload 5, 2) := by decide +kernel
theorem dX4_tick_81 : decode cX4_tick 81 = .ok (.ifnull 24, 3) := by decide +kernel
theorem dX4_tick_84 : decode cX4_tick 84 = .ok (.aload 5, 2) := by decide +kernel
theorem dX4_tick_86 : decode cX4_tick 86 = .ok (.getfield 182, 3) := by decide +kernel
theorem dX4_tick_89 : decode cX4_tick 89 = .ok (.aload_n 0, 1) := by decide +kernel
theorem dX4_tick_90 : decode cX4_tick 90 = .ok (.getfield 46, 3) := by decide +kernel
theorem dX4_tick_93 : decode cX4_tick 93 = .ok (.if_icmp .ne 12, 3) := by decide +kernel
theorem dX4_tick_96 : decode cX4_tick 96 = .ok (.aload_n 0, 1) := by decide +kernel
theorem dX4_tick_97 : decode cX4_tick 97 = .ok (.aload 5, 2) := by decide +kernel
theorem dX4_tick_99 : decode cX4_tick 99 = .ok (.invokevirtual 185, 3) := by decide +kernel
theorem dX4_tick_102 : decode cX4_tick 102 = .ok (.iinc 1 1, 3) := by decide +kernel
theorem dX4_tick_105 : decode cX4_tick 105 = .ok (.iinc 4 1, 3) := by decide +kernel
theorem dX4_tick_108 : decode cX4_tick 108 = .ok (.goto (-41), 3) := by decide +kernel
theorem dX4_tick_111 : decode cX4_tick 111 = .ok (.iload_n 1, 1) := by decide +kernel
theorem dX4_tick_112 : decode cX4_tick 112 = .ok (.ireturn, 1) := by decide +kernel
theorem dX4_time_0 : decode cX4_time 0 = .ok (.aload_n 0, 1) := by decide +kernel
theorem dX4_time_1 : decode cX4_time 1 = .ok (.getfield 46, 3) := by decide +kernel
theorem dX4_time_4 : decode cX4_time 4 = .ok (.ireturn, 1) := by decide +kernel
theorem dX4_addBuyer_0 : decode cX4_addBuyer 0 = .ok (.iload_n 1, 1) := by decide +kernel
theorem dX4_addBuyer_1 : decode cX4_addBuyer 1 = .ok (.iconst 0, 1) := by decide +kernel
theorem dX4_addBuyer_2 : decode cX4_addBuyer 2 = .ok (.ldc 189, 2) := by decide +kernel
theorem dX4_addBuyer_4 : decode cX4_addBuyer 4 = .ok (.invokestatic 94, 3) := by decide +kernel
theorem dX4_addBuyer_7 : decode cX4_addBuyer 7 = .ok (.ifCond .ne 13, 3) := by decide +kernel
theorem dX4_addBuyer_10 : decode cX4_addBuyer 10 = .ok (.new 72, 3) := by decide +kernel
theorem dX4_addBuyer_13 : decode cX4_addBuyer 13 = .ok (.dup, 1) := by decide +kernel
theorem dX4_addBuyer_14 : decode cX4_addBuyer 14 = .ok (.ldc 190, 2) := by decide +kernel
theorem dX4_addBuyer_16 : decode cX4_addBuyer 16 = .ok (.invokespecial 76, 3) := by decide +kernel
theorem dX4_addBuyer_19 : decode cX4_addBuyer 19 = .ok (.athrow, 1) := by decide +kernel
theorem dX4_addBuyer_20 : decode cX4_addBuyer 20 = .ok (.aload_n 0, 1) := by decide +kernel
theorem dX4_addBuyer_21 : decode cX4_addBuyer 21 = .ok (.getfield 40, 3) := by decide +kernel
theorem dX4_addBuyer_24 : decode cX4_addBuyer 24 = .ok (.aload_n 0, 1) := by decide +kernel
theorem dX4_addBuyer_25 : decode cX4_addBuyer 25 = .ok (.getfield 23, 3) := by decide +kernel
theorem dX4_addBuyer_28 : decode cX4_addBuyer 28 = .ok (.arraylength, 1) := by decide +kernel
theorem dX4_addBuyer_29 : decode cX4_addBuyer 29 = .ok (.if_icmp .lt 13, 3) := by decide +kernel
theorem dX4_addBuyer_32 : decode cX4_addBuyer 32 = .ok (.new 79, 3) := by decide +kernel
theorem dX4_addBuyer_35 : decode cX4_addBuyer 35 = .ok (.dup, 1) := by decide +kernel
theorem dX4_addBuyer_36 : decode cX4_addBuyer 36 = .ok (.ldc 192, 2) := by decide +kernel
theorem dX4_addBuyer_38 : decode cX4_addBuyer 38 = .ok (.invokespecial 83, 3) := by decide +kernel
theorem dX4_addBuyer_41 : decode cX4_addBuyer 41 = .ok (.athrow, 1) := by decide +kernel
theorem dX4_addBuyer_42 : decode cX4_addBuyer 42 = .ok (.aload_n 0, 1) := by decide +kernel
theorem dX4_addBuyer_43 : decode cX4_addBuyer 43 = .ok (.getfield 40, 3) := by decide +kernel
theorem dX4_addBuyer_46 : decode cX4_addBuyer 46 = .ok (.istore_n 2, 1) := by decide +kernel
theorem dX4_addBuyer_47 : decode cX4_addBuyer 47 = .ok (.aload_n 0, 1) := by decide +kernel
theorem dX4_addBuyer_48 : decode cX4_addBuyer 48 = .ok (.getfield 23, 3) := by decide +kernel
theorem dX4_addBuyer_51 : decode cX4_addBuyer 51 = .ok (.iload_n 2, 1) := by decide +kernel
theorem dX4_addBuyer_52 : decode cX4_addBuyer 52 = .ok (.new 21, 3) := by decide +kernel
theorem dX4_addBuyer_55 : decode cX4_addBuyer 55 = .ok (.dup, 1) := by decide +kernel
theorem dX4_addBuyer_56 : decode cX4_addBuyer 56 = .ok (.iload_n 2, 1) := by decide +kernel
theorem dX4_addBuyer_57 : decode cX4_addBuyer 57 = .ok (.iload_n 1, 1) := by decide +kernel
theorem dX4_addBuyer_58 : decode cX4_addBuyer 58 = .ok (.invokespecial 194, 3) := by decide +kernel
theorem dX4_addBuyer_61 : decode cX4_addBuyer 61 = .ok (.aastore, 1) := by decide +kernel
theorem dX4_addBuyer_62 : decode cX4_addBuyer 62 = .ok (.aload_n 0, 1) := by decide +kernel
theorem dX4_addBuyer_63 : decode cX4_addBuyer 63 = .ok (.iload_n 2, 1) := by decide +kernel
theorem dX4_addBuyer_64 : decode cX4_addBuyer 64 = .ok (.iconst 1, 1) := by decide +kernel
theorem dX4_addBuyer_65 : decode cX4_addBuyer 65 = .ok (.iadd, 1) := by decide +kernel
theorem dX4_addBuyer_66 : decode cX4_addBuyer 66 = .ok (.putfield 40, 3) := by decide +kernel
theorem dX4_addBuyer_69 : decode cX4_addBuyer 69 = .ok (.iload_n 2, 1) := by decide +kernel
theorem dX4_addBuyer_70 : decode cX4_addBuyer 70 = .ok (.ireturn, 1) := by decide +kernel
theorem dX4_setLimit_0 : decode cX4_setLimit 0 = .ok (.aload_n 0, 1) := by decide +kernel
theorem dX4_setLimit_1 : decode cX4_setLimit 1 = .ok (.iload_n 1, 1) := by decide +kernel
theorem dX4_setLimit_2 : decode cX4_setLimit 2 = .ok (.invokevirtual 196, 3) := by decide +kernel
theorem dX4_setLimit_5 : decode cX4_setLimit 5 = .ok (.astore 4, 2) := by decide +kernel
theorem dX4_setLimit_7 : decode cX4_setLimit 7 = .ok (.iload_n 2, 1) := by decide +kernel
theorem dX4_setLimit_8 : decode cX4_setLimit 8 = .ok (.invokestatic 91, 3) := by decide +kernel
theorem dX4_setLimit_11 : decode cX4_setLimit 11 = .ok (.ifCond .eq 14, 3) := by decide +kernel
theorem dX4_setLimit_14 : decode cX4_setLimit 14 = .ok (.iload_n 3, 1) := by decide +kernel
theorem dX4_setLimit_15 : decode cX4_setLimit 15 = .ok (.iconst 0, 1) := by decide +kernel
theorem dX4_setLimit_16 : decode cX4_setLimit 16 = .ok (.sipush 9999, 3) := by decide +kernel
theorem dX4_setLimit_19 : decode cX4_setLimit 19 = .ok (.invokestatic 94, 3) := by decide +kernel
theorem dX4_setLimit_22 : decode cX4_setLimit 22 = .ok (.ifCond .ne 13, 3) := by decide +kernel
theorem dX4_setLimit_25 : decode cX4_setLimit 25 = .ok (.new 72, 3) := by decide +kernel
theorem dX4_setLimit_28 : decode cX4_setLimit 28 = .ok (.dup, 1) := by decide +kernel
theorem dX4_setLimit_29 : decode cX4_setLimit 29 = .ok (.ldc 200, 2) := by decide +kernel
theorem dX4_setLimit_31 : decode cX4_setLimit 31 = .ok (.invokespecial 76, 3) := by decide +kernel
theorem dX4_setLimit_34 : decode cX4_setLimit 34 = .ok (.athrow, 1) := by decide +kernel
theorem dX4_setLimit_35 : decode cX4_setLimit 35 = .ok (.aload 4, 2) := by decide +kernel
theorem dX4_setLimit_37 : decode cX4_setLimit 37 = .ok (.getfield 202, 3) := by decide +kernel
theorem dX4_setLimit_40 : decode cX4_setLimit 40 = .ok (.iload_n 2, 1) := by decide +kernel
theorem dX4_setLimit_41 : decode cX4_setLimit 41 = .ok (.iaload, 1) := by decide +kernel
theorem dX4_setLimit_42 : decode cX4_setLimit 42 = .ok (.istore 5, 2) := by decide +kernel
theorem dX4_setLimit_44 : decode cX4_setLimit 44 = .ok (.aload 4, 2) := by decide +kernel
theorem dX4_setLimit_46 : decode cX4_setLimit 46 = .ok (.getfield 202, 3) := by decide +kernel
theorem dX4_setLimit_49 : decode cX4_setLimit 49 = .ok (.iload_n 2, 1) := by decide +kernel
theorem dX4_setLimit_50 : decode cX4_setLimit 50 = .ok (.iload_n 3, 1) := by decide +kernel
theorem dX4_setLimit_51 : decode cX4_setLimit 51 = .ok (.iastore, 1) := by decide +kernel
theorem dX4_setLimit_52 : decode cX4_setLimit 52 = .ok (.iload 5, 2) := by decide +kernel
theorem dX4_setLimit_54 : decode cX4_setLimit 54 = .ok (.ireturn, 1) := by decide +kernel
theorem dX4_budget_0 : decode cX4_budget 0 = .ok (.aload_n 0, 1) := by decide +kernel
theorem dX4_budget_1 : decode cX4_budget 1 = .ok (.iload_n 1, 1) := by decide +kernel
theorem dX4_budget_2 : decode cX4_budget 2 = .ok (.invokevirtual 196, 3) := by decide +kernel
theorem dX4_budget_5 : decode cX4_budget 5 = .ok (.getfield 205, 3) := by decide +kernel
theorem dX4_budget_8 : decode cX4_budget 8 = .ok (.ireturn, 1) := by decide +kernel
theorem dX4_setClock_0 : decode cX4_setClock 0 = .ok (.iload_n 1, 1) := by decide +kernel
theorem dX4_setClock_1 : decode cX4_setClock 1 = .ok (.iconst 1, 1) := by decide +kernel
theorem dX4_setClock_2 : decode cX4_setClock 2 = .ok (.sipush 9999, 3) := by decide +kernel
theorem dX4_setClock_5 : decode cX4_setClock 5 = .ok (.invokestatic 94, 3) := by decide +kernel
theorem dX4_setClock_8 : decode cX4_setClock 8 = .ok (.ifCond .eq 23, 3) := by decide +kernel
theorem dX4_setClock_11 : decode cX4_setClock 11 = .ok (.iload_n 2, 1) := by decide +kernel
theorem dX4_setClock_12 : decode cX4_setClock 12 = .ok (.iconst 1, 1) := by decide +kernel
theorem dX4_setClock_13 : decode cX4_setClock 13 = .ok (.sipush 500, 3) := by decide +kernel
theorem dX4_setClock_16 : decode cX4_setClock 16 = .ok (.invokestatic 94, 3) := by decide +kernel
theorem dX4_setClock_19 : decode cX4_setClock 19 = .ok (.ifCond .eq 12, 3) := by decide +kernel
theorem dX4_setClock_22 : decode cX4_setClock 22 = .ok (.iload_n 3, 1) := by decide +kernel
theorem dX4_setClock_23 : decode cX4_setClock 23 = .ok (.iconst 0, 1) := by decide +kernel
theorem dX4_setClock_24 : decode cX4_setClock 24 = .ok (.iload_n 1, 1) := by decide +kernel
theorem dX4_setClock_25 : decode cX4_setClock 25 = .ok (.invokestatic 94, 3) := by decide +kernel
theorem dX4_setClock_28 : decode cX4_setClock 28 = .ok (.ifCond .ne 13, 3) := by decide +kernel
theorem dX4_setClock_31 : decode cX4_setClock 31 = .ok (.new 72, 3) := by decide +kernel
theorem dX4_setClock_34 : decode cX4_setClock 34 = .ok (.dup, 1) := by decide +kernel
theorem dX4_setClock_35 : decode cX4_setClock 35 = .ok (.ldc 208, 2) := by decide +kernel
theorem dX4_setClock_37 : decode cX4_setClock 37 = .ok (.invokespecial 76, 3) := by decide +kernel
theorem dX4_setClock_40 : decode cX4_setClock 40 = .ok (.athrow, 1) := by decide +kernel
theorem dX4_setClock_41 : decode cX4_setClock 41 = .ok (.aload_n 0, 1) := by decide +kernel
theorem dX4_setClock_42 : decode cX4_setClock 42 = .ok (.getfield 55, 3) := by decide +kernel
theorem dX4_setClock_45 : decode cX4_setClock 45 = .ok (.istore 4, 2) := by decide +kernel
theorem dX4_setClock_47 : decode cX4_setClock 47 = .ok (.aload_n 0, 1) := by decide +kernel
theorem dX4_setClock_48 : decode cX4_setClock 48 = .ok (.iload_n 1, 1) := by decide +kernel
theorem dX4_setClock_49 : decode cX4_setClock 49 = .ok (.putfield 55, 3) := by decide +kernel
theorem dX4_setClock_52 : decode cX4_setClock 52 = .ok (.aload_n 0, 1) := by decide +kernel
theorem dX4_setClock_53 : decode cX4_setClock 53 = .ok (.iload_n 2, 1) := by decide +kernel
theorem dX4_setClock_54 : decode cX4_setClock 54 = .ok (.putfield 58, 3) := by decide +kernel
theorem dX4_setClock_57 : decode cX4_setClock 57 = .ok (.aload_n 0, 1) := by decide +kernel
theorem dX4_setClock_58 : decode cX4_setClock 58 = .ok (.iload_n 3, 1) := by decide +kernel
theorem dX4_setClock_59 : decode cX4_setClock 59 = .ok (.putfield 61, 3) := by decide +kernel
theorem dX4_setClock_62 : decode cX4_setClock 62 = .ok (.iload 4, 2) := by decide +kernel
theorem dX4_setClock_64 : decode cX4_setClock 64 = .ok (.ireturn, 1) := by decide +kernel
theorem dX4_offer_0 : decode cX4_offer 0 = .ok (.aload_n 0, 1) := by decide +kernel
theorem dX4_offer_1 : decode cX4_offer 1 = .ok (.iload_n 1, 1) := by decide +kernel
theorem dX4_offer_2 : decode cX4_offer 2 = .ok (.invokevirtual 196, 3) := by decide +kernel
theorem dX4_offer_5 : decode cX4_offer 5 = .ok (.astore_n 3, 1) := by decide +kernel
theorem dX4_offer_6 : decode cX4_offer 6 = .ok (.aload_n 3, 1) := by decide +kernel
theorem dX4_offer_7 : decode cX4_offer 7 = .ok (.aload_n 0, 1) := by decide +kernel
theorem dX4_offer_8 : decode cX4_offer 8 = .ok (.iload_n 2, 1) := by decide +kernel
theorem dX4_offer_9 : decode cX4_offer 9 = .ok (.invokevirtual 145, 3) := by decide +kernel
theorem dX4_offer_12 : decode cX4_offer 12 = .ok (.invokevirtual 210, 3) := by decide +kernel
theorem dX4_offer_15 : decode cX4_offer 15 = .ok (.ireturn, 1) := by decide +kernel
theorem dX4_price_0 : decode cX4_price 0 = .ok (.aload_n 0, 1) := by decide +kernel
theorem dX4_price_1 : decode cX4_price 1 = .ok (.aload_n 0, 1) := by decide +kernel
theorem dX4_price_2 : decode cX4_price 2 = .ok (.iload_n 1, 1) := by decide +kernel
theorem dX4_price_3 : decode cX4_price 3 = .ok (.invokevirtual 214, 3) := by decide +kernel
theorem dX4_price_6 : decode cX4_price 6 = .ok (.invokevirtual 217, 3) := by decide +kernel
theorem dX4_price_9 : decode cX4_price 9 = .ok (.istore_n 2, 1) := by decide +kernel
theorem dX4_price_10 : decode cX4_price 10 = .ok (.iload_n 2, 1) := by decide +kernel
theorem dX4_price_11 : decode cX4_price 11 = .ok (.iconst (-1), 1) := by decide +kernel
theorem dX4_price_12 : decode cX4_price 12 = .ok (.if_icmp .ne 13, 3) := by decide +kernel
theorem dX4_price_15 : decode cX4_price 15 = .ok (.new 106, 3) := by decide +kernel
theorem dX4_price_18 : decode cX4_price 18 = .ok (.dup, 1) := by decide +kernel
theorem dX4_price_19 : decode cX4_price 19 = .ok (.ldc 220, 2) := by decide +kernel
theorem dX4_price_21 : decode cX4_price 21 = .ok (.invokespecial 110, 3) := by decide +kernel
theorem dX4_price_24 : decode cX4_price 24 = .ok (.athrow, 1) := by decide +kernel
theorem dX4_price_25 : decode cX4_price 25 = .ok (.iload_n 2, 1) := by decide +kernel
theorem dX4_price_26 : decode cX4_price 26 = .ok (.ireturn, 1) := by decide +kernel
theorem dX4_priceByBuyers_0 : decode cX4_priceByBuyers 0 = .ok (.aload_n 0, 1) := by decide +kernel
theorem dX4_priceByBuyers_1 : decode cX4_priceByBuyers 1 = .ok (.aload_n 0, 1) := by decide +kernel
theorem dX4_priceByBuyers_2 : decode cX4_priceByBuyers 2 = .ok (.iload_n 1, 1) := by decide +kernel
theorem dX4_priceByBuyers_3 : decode cX4_priceByBuyers 3 = .ok (.invokevirtual 214, 3) := by decide +kernel
theorem dX4_priceByBuyers_6 : decode cX4_priceByBuyers 6 = .ok (.invokevirtual 222, 3) := by decide +kernel
theorem dX4_priceByBuyers_9 : decode cX4_priceByBuyers 9 = .ok (.istore_n 2, 1) := by decide +kernel
theorem dX4_priceByBuyers_10 : decode cX4_priceByBuyers 10 = .ok (.iload_n 2, 1) := by decide +kernel
theorem dX4_priceByBuyers_11 : decode cX4_priceByBuyers 11 = .ok (.iconst (-1), 1) := by decide +kernel
theorem dX4_priceByBuyers_12 : decode cX4_priceByBuyers 12 = .ok (.if_icmp .ne 13, 3) := by decide +kernel
theorem dX4_priceByBuyers_15 : decode cX4_priceByBuyers 15 = .ok (.new 106, 3) := by decide +kernel
theorem dX4_priceByBuyers_18 : decode cX4_priceByBuyers 18 = .ok (.dup, 1) := by decide +kernel
theorem dX4_priceByBuyers_19 : decode cX4_priceByBuyers 19 = .ok (.ldc 220, 2) := by decide +kernel
theorem dX4_priceByBuyers_21 : decode cX4_priceByBuyers 21 = .ok (.invokespecial 110, 3) := by decide +kernel
theorem dX4_priceByBuyers_24 : decode cX4_priceByBuyers 24 = .ok (.athrow, 1) := by decide +kernel
theorem dX4_priceByBuyers_25 : decode cX4_priceByBuyers 25 = .ok (.iload_n 2, 1) := by decide +kernel
theorem dX4_priceByBuyers_26 : decode cX4_priceByBuyers 26 = .ok (.ireturn, 1) := by decide +kernel
theorem dX4_sell_0 : decode cX4_sell 0 = .ok (.aload_n 0, 1) := by decide +kernel
theorem dX4_sell_1 : decode cX4_sell 1 = .ok (.iload_n 1, 1) := by decide +kernel
theorem dX4_sell_2 : decode cX4_sell 2 = .ok (.invokevirtual 214, 3) := by decide +kernel
theorem dX4_sell_5 : decode cX4_sell 5 = .ok (.astore_n 2, 1) := by decide +kernel
theorem dX4_sell_6 : decode cX4_sell 6 = .ok (.aload_n 0, 1) := by decide +kernel
theorem dX4_sell_7 : decode cX4_sell 7 = .ok (.aload_n 2, 1) := by decide +kernel
theorem dX4_sell_8 : decode cX4_sell 8 = .ok (.invokevirtual 217, 3) := by decide +kernel
theorem dX4_sell_11 : decode cX4_sell 11 = .ok (.istore_n 3, 1) := by decide +kernel
theorem dX4_sell_12 : decode cX4_sell 12 = .ok (.iload_n 3, 1) := by decide +kernel
theorem dX4_sell_13 : decode cX4_sell 13 = .ok (.iconst (-1), 1) := by decide +kernel
theorem dX4_sell_14 : decode cX4_sell 14 = .ok (.if_icmp .ne 7, 3) := by decide +kernel
theorem dX4_sell_17 : decode cX4_sell 17 = .ok (.aconst_null, 1) := by decide +kernel
theorem dX4_sell_18 : decode cX4_sell 18 = .ok (.goto 9, 3) := by decide +kernel
theorem dX4_sell_21 : decode cX4_sell 21 = .ok (.aload_n 0, 1) := by decide +kernel
theorem dX4_sell_22 : decode cX4_sell 22 = .ok (.aload_n 2, 1) := by decide +kernel
theorem dX4_sell_23 : decode cX4_sell 23 = .ok (.iload_n 3, 1) := by decide +kernel
theorem dX4_sell_24 : decode cX4_sell 24 = .ok (.invokevirtual 225, 3) := by decide +kernel
theorem dX4_sell_27 : decode cX4_sell 27 = .ok (.astore 4, 2) := by decide +kernel
theorem dX4_sell_29 : decode cX4_sell 29 = .ok (.aload 4, 2) := by decide +kernel
theorem dX4_sell_31 : decode cX4_sell 31 = .ok (.ifnonnull 13, 3) := by decide +kernel
theorem dX4_sell_34 : decode cX4_sell 34 = .ok (.new 106, 3) := by decide +kernel
theorem dX4_sell_37 : decode cX4_sell 37 = .ok (.dup, 1) := by decide +kernel
theorem dX4_sell_38 : decode cX4_sell 38 = .ok (.ldc 229, 2) := by decide +kernel
theorem dX4_sell_40 : decode cX4_sell 40 = .ok (.invokespecial 110, 3) := by decide +kernel
theorem dX4_sell_43 : decode cX4_sell 43 = .ok (.athrow, 1) := by decide +kernel
theorem dX4_sell_44 : decode cX4_sell 44 = .ok (.iload_n 3, 1) := by decide +kernel
theorem dX4_sell_45 : decode cX4_sell 45 = .ok (.aload_n 2, 1) := by decide +kernel
theorem dX4_sell_46 : decode cX4_sell 46 = .ok (.getfield 149, 3) := by decide +kernel
theorem dX4_sell_49 : decode cX4_sell 49 = .ok (.imul, 1) := by decide +kernel
theorem dX4_sell_50 : decode cX4_sell 50 = .ok (.istore 5, 2) := by decide +kernel
theorem dX4_sell_52 : decode cX4_sell 52 = .ok (.aload 4, 2) := by decide +kernel
theorem dX4_sell_54 : decode cX4_sell 54 = .ok (.dup, 1) := by decide +kernel
theorem dX4_sell_55 : decode cX4_sell 55 = .ok (.getfield 205, 3) := by decide +kernel
theorem dX4_sell_58 : decode cX4_sell 58 = .ok (.iload 5, 2) := by decide +kernel
theorem dX4_sell_60 : decode cX4_sell 60 = .ok (.isub, 1) := by decide +kernel
theorem dX4_sell_61 : decode cX4_sell 61 = .ok (.putfield 205, 3) := by decide +kernel
theorem dX4_sell_64 : decode cX4_sell 64 = .ok (.aload_n 2, 1) := by decide +kernel
theorem dX4_sell_65 : decode cX4_sell 65 = .ok (.bipush 115, 2) := by decide +kernel
theorem dX4_sell_67 : decode cX4_sell 67 = .ok (.putfield 152, 3) := by decide +kernel
theorem dX4_sell_70 : decode cX4_sell 70 = .ok (.aload_n 2, 1) := by decide +kernel
theorem dX4_sell_71 : decode cX4_sell 71 = .ok (.aload 4, 2) := by decide +kernel
theorem dX4_sell_73 : decode cX4_sell 73 = .ok (.putfield 231, 3) := by decide +kernel
theorem dX4_sell_76 : decode cX4_sell 76 = .ok (.aload_n 2, 1) := by decide +kernel
theorem dX4_sell_77 : decode cX4_sell 77 = .ok (.iload 5, 2) := by decide +kernel
theorem dX4_sell_79 : decode cX4_sell 79 = .ok (.putfield 235, 3) := by decide +kernel
theorem dX4_sell_82 : decode cX4_sell 82 = .ok (.aload_n 0, 1) := by decide +kernel
theorem dX4_sell_83 : decode cX4_sell 83 = .ok (.dup, 1) := by decide +kernel
theorem dX4_sell_84 : decode cX4_sell 84 = .ok (.getfield 64, 3) := by decide +kernel
theorem dX4_sell_87 : decode cX4_sell 87 = .ok (.iload 5, 2) := by decide +kernel
theorem dX4_sell_89 : decode cX4_sell 89 = .ok (.i2l, 1) := by decide +kernel
theorem dX4_sell_90 : decode cX4_sell 90 = .ok (.ladd, 1) := by decide +kernel
theorem dX4_sell_91 : decode cX4_sell 91 = .ok (.putfield 64, 3) := by decide +kernel
theorem dX4_sell_94 : decode cX4_sell 94 = .ok (.aload 4, 2) := by decide +kernel
theorem dX4_sell_96 : decode cX4_sell 96 = .ok (.getfield 238, 3) := by decide +kernel
theorem dX4_sell_99 : decode cX4_sell 99 = .ok (.ireturn, 1) := by decide +kernel
theorem dX4_buyerOf_0 : decode cX4_buyerOf 0 = .ok (.aload_n 0, 1) := by decide +kernel
theorem dX4_buyerOf_1 : decode cX4_buyerOf 1 = .ok (.iload_n 1, 1) := by decide +kernel
theorem dX4_buyerOf_2 : decode cX4_buyerOf 2 = .ok (.invokevirtual 145, 3) := by decide +kernel
theorem dX4_buyerOf_5 : decode cX4_buyerOf 5 = .ok (.getfield 231, 3) := by decide +kernel
theorem dX4_buyerOf_8 : decode cX4_buyerOf 8 = .ok (.astore_n 2, 1) := by decide +kernel
theorem dX4_buyerOf_9 : decode cX4_buyerOf 9 = .ok (.aload_n 2, 1) := by decide +kernel
theorem dX4_buyerOf_10 : decode cX4_buyerOf 10 = .ok (.ifnonnull 13, 3) := by decide +kernel
theorem dX4_buyerOf_13 : decode cX4_buyerOf 13 = .ok (.new 132, 3) := by decide +kernel
theorem dX4_buyerOf_16 : decode cX4_buyerOf 16 = .ok (.dup, 1) := by decide +kernel
theorem dX4_buyerOf_17 : decode cX4_buyerOf 17 = .ok (.ldc 241, 2) := by decide +kernel
theorem dX4_buyerOf_19 : decode cX4_buyerOf 19 = .ok (.invokespecial 136, 3) := by decide +kernel
theorem dX4_buyerOf_22 : decode cX4_buyerOf 22 = .ok (.athrow, 1) := by decide +kernel
theorem dX4_buyerOf_23 : decode cX4_buyerOf 23 = .ok (.aload_n 2, 1) := by decide +kernel
theorem dX4_buyerOf_24 : decode cX4_buyerOf 24 = .ok (.getfield 238, 3) := by decide +kernel
theorem dX4_buyerOf_27 : decode cX4_buyerOf 27 = .ok (.ireturn, 1) := by decide +kernel
theorem dX4_paidFor_0 : decode cX4_paidFor 0 = .ok (.aload_n 0, 1) := by decide +kernel
theorem dX4_paidFor_1 : decode cX4_paidFor 1 = .ok (.iload_n 1, 1) := by decide +kernel
theorem dX4_paidFor_2 : decode cX4_paidFor 2 = .ok (.invokevirtual 145, 3) := by decide +kernel
theorem dX4_paidFor_5 : decode cX4_paidFor 5 = .ok (.getfield 235, 3) := by decide +kernel
theorem dX4_paidFor_8 : decode cX4_paidFor 8 = .ok (.ireturn, 1) := by decide +kernel
theorem dX4_addTruck_0 : decode cX4_addTruck 0 = .ok (.iload_n 1, 1) := by decide +kernel
theorem dX4_addTruck_1 : decode cX4_addTruck 1 = .ok (.aload_n 0, 1) := by decide +kernel
theorem dX4_addTruck_2 : decode cX4_addTruck 2 = .ok (.getfield 46, 3) := by decide +kernel
theorem dX4_addTruck_5 : decode cX4_addTruck 5 = .ok (.if_icmp .le 22, 3) := by decide +kernel
theorem dX4_addTruck_8 : decode cX4_addTruck 8 = .ok (.iload_n 1, 1) := by decide +kernel
theorem dX4_addTruck_9 : decode cX4_addTruck 9 = .ok (.sipush 1000, 3) := by decide +kernel
theorem dX4_addTruck_12 : decode cX4_addTruck 12 = .ok (.if_icmp .gt 15, 3) := by decide +kernel
theorem dX4_addTruck_15 : decode cX4_addTruck 15 = .ok (.iload_n 2, 1) := by decide +kernel
theorem dX4_addTruck_16 : decode cX4_addTruck 16 = .ok (.bipush 100, 2) := by decide +kernel
theorem dX4_addTruck_18 : decode cX4_addTruck 18 = .ok (.sipush 9999, 3) := by decide +kernel
theorem dX4_addTruck_21 : decode cX4_addTruck 21 = .ok (.invokestatic 94, 3) := by decide +kernel
theorem dX4_addTruck_24 : decode cX4_addTruck 24 = .ok (.ifCond .ne 13, 3) := by decide +kernel
theorem dX4_addTruck_27 : decode cX4_addTruck 27 = .ok (.new 72, 3) := by decide +kernel
theorem dX4_addTruck_30 : decode cX4_addTruck 30 = .ok (.dup, 1) := by decide +kernel
theorem dX4_addTruck_31 : decode cX4_addTruck 31 = .ok (.ldc 243, 2) := by decide +kernel
theorem dX4_addTruck_33 : decode cX4_addTruck 33 = .ok (.invokespecial 76, 3) := by decide +kernel
theorem dX4_addTruck_36 : decode cX4_addTruck 36 = .ok (.athrow, 1) := by decide +kernel
theorem dX4_addTruck_37 : decode cX4_addTruck 37 = .ok (.aload_n 0, 1) := by decide +kernel
theorem dX4_addTruck_38 : decode cX4_addTruck 38 = .ok (.getfield 43, 3) := by decide +kernel
theorem dX4_addTruck_41 : decode cX4_addTruck 41 = .ok (.aload_n 0, 1) := by decide +kernel
theorem dX4_addTruck_42 : decode cX4_addTruck 42 = .ok (.getfield 29, 3) := by decide +kernel
theorem dX4_addTruck_45 : decode cX4_addTruck 45 = .ok (.arraylength, 1) := by decide +kernel
theorem dX4_addTruck_46 : decode cX4_addTruck 46 = .ok (.if_icmp .lt 13, 3) := by decide +kernel
theorem dX4_addTruck_49 : decode cX4_addTruck 49 = .ok (.new 79, 3) := by decide +kernel
theorem dX4_addTruck_52 : decode cX4_addTruck 52 = .ok (.dup, 1) := by decide +kernel
theorem dX4_addTruck_53 : decode cX4_addTruck 53 = .ok (.ldc 245, 2) := by decide +kernel
theorem dX4_addTruck_55 : decode cX4_addTruck 55 = .ok (.invokespecial 83, 3) := by decide +kernel
theorem dX4_addTruck_58 : decode cX4_addTruck 58 = .ok (.athrow, 1) := by decide +kernel
theorem dX4_addTruck_59 : decode cX4_addTruck 59 = .ok (.aload_n 0, 1) := by decide +kernel
theorem dX4_addTruck_60 : decode cX4_addTruck 60 = .ok (.getfield 43, 3) := by decide +kernel
theorem dX4_addTruck_63 : decode cX4_addTruck 63 = .ok (.istore 4, 2) := by decide +kernel
theorem dX4_addTruck_65 : decode cX4_addTruck 65 = .ok (.aload_n 0, 1) := by decide +kernel
theorem dX4_addTruck_66 : decode cX4_addTruck 66 = .ok (.getfield 29, 3) := by decide +kernel
theorem dX4_addTruck_69 : decode cX4_addTruck 69 = .ok (.iload 4, 2) := by decide +kernel
theorem dX4_addTruck_71 : decode cX4_addTruck 71 = .ok (.new 27, 3) := by decide +kernel
theorem dX4_addTruck_74 : decode cX4_addTruck 74 = .ok (.dup, 1) := by decide +kernel
theorem dX4_addTruck_75 : decode cX4_addTruck 75 = .ok (.iload_n 1, 1) := by decide +kernel
theorem dX4_addTruck_76 : decode cX4_addTruck 76 = .ok (.iload_n 2, 1) := by decide +kernel
theorem dX4_addTruck_77 : decode cX4_addTruck 77 = .ok (.iload_n 3, 1) := by decide +kernel
theorem dX4_addTruck_78 : decode cX4_addTruck 78 = .ok (.invokespecial 247, 3) := by decide +kernel
theorem dX4_addTruck_81 : decode cX4_addTruck 81 = .ok (.aastore, 1) := by decide +kernel
theorem dX4_addTruck_82 : decode cX4_addTruck 82 = .ok (.aload_n 0, 1) := by decide +kernel
theorem dX4_addTruck_83 : decode cX4_addTruck 83 = .ok (.iload 4, 2) := by decide +kernel
theorem dX4_addTruck_85 : decode cX4_addTruck 85 = .ok (.iconst 1, 1) := by decide +kernel
theorem dX4_addTruck_86 : decode cX4_addTruck 86 = .ok (.iadd, 1) := by decide +kernel
theorem dX4_addTruck_87 : decode cX4_addTruck 87 = .ok (.putfield 43, 3) := by decide +kernel
theorem dX4_addTruck_90 : decode cX4_addTruck 90 = .ok (.iload 4, 2) := by decide +kernel
theorem dX4_addTruck_92 : decode cX4_addTruck 92 = .ok (.ireturn, 1) := by decide +kernel
theorem dX4_load_0 : decode cX4_load 0 = .ok (.aload_n 0, 1) := by decide +kernel
theorem dX4_load_1 : decode cX4_load 1 = .ok (.iload_n 1, 1) := by decide +kernel
theorem dX4_load_2 : decode cX4_load 2 = .ok (.invokevirtual 145, 3) := by decide +kernel
theorem dX4_load_5 : decode cX4_load 5 = .ok (.astore_n 3, 1) := by decide +kernel
theorem dX4_load_6 : decode cX4_load 6 = .ok (.aload_n 0, 1) := by decide +kernel
theorem dX4_load_7 : decode cX4_load 7 = .ok (.iload_n 2, 1) := by decide +kernel
theorem dX4_load_8 : decode cX4_load 8 = .ok (.invokevirtual 250, 3) := by decide +kernel
theorem dX4_load_11 : decode cX4_load 11 = .ok (.astore 4, 2) := by decide +kernel
theorem dX4_load_13 : decode cX4_load 13 = .ok (.aload_n 3, 1) := by decide +kernel
theorem dX4_load_14 : decode cX4_load 14 = .ok (.getfield 152, 3) := by decide +kernel
theorem dX4_load_17 : decode cX4_load 17 = .ok (.bipush 115, 2) := by decide +kernel
theorem dX4_load_19 : decode cX4_load 19 = .ok (.if_icmp .ne 24, 3) := by decide +kernel
theorem dX4_load_22 : decode cX4_load 22 = .ok (.aload 4, 2) := by decide +kernel
theorem dX4_load_24 : decode cX4_load 24 = .ok (.getfield 182, 3) := by decide +kernel
theorem dX4_load_27 : decode cX4_load 27 = .ok (.aload_n 0, 1) := by decide +kernel
theorem dX4_load_28 : decode cX4_load 28 = .ok (.getfield 46, 3) := by decide +kernel
theorem dX4_load_31 : decode cX4_load 31 = .ok (.if_icmp .le 12, 3) := by decide +kernel
theorem dX4_load_34 : decode cX4_load 34 = .ok (.aload 4, 2) := by decide +kernel
theorem dX4_load_36 : decode cX4_load 36 = .ok (.aload_n 3, 1) := by decide +kernel
theorem dX4_load_37 : decode cX4_load 37 = .ok (.invokevirtual 254, 3) := by decide +kernel
theorem dX4_load_40 : decode cX4_load 40 = .ok (.ifCond .ne 14, 3) := by decide +kernel
theorem dX4_load_43 : decode cX4_load 43 = .ok (.new 79, 3) := by decide +kernel
theorem dX4_load_46 : decode cX4_load 46 = .ok (.dup, 1) := by decide +kernel
theorem dX4_load_47 : decode cX4_load 47 = .ok (.ldc_w 258, 3) := by decide +kernel
theorem dX4_load_50 : decode cX4_load 50 = .ok (.invokespecial 83, 3) := by decide +kernel
theorem dX4_load_53 : decode cX4_load 53 = .ok (.athrow, 1) := by decide +kernel
theorem dX4_load_54 : decode cX4_load 54 = .ok (.aload 4, 2) := by decide +kernel
theorem dX4_load_56 : decode cX4_load 56 = .ok (.getfield 260, 3) := by decide +kernel
theorem dX4_load_59 : decode cX4_load 59 = .ok (.ifCond .eq 21, 3) := by decide +kernel
theorem dX4_load_62 : decode cX4_load 62 = .ok (.aload_n 3, 1) := by decide +kernel
theorem dX4_load_63 : decode cX4_load 63 = .ok (.getfield 264, 3) := by decide +kernel
theorem dX4_load_66 : decode cX4_load 66 = .ok (.ifCond .ne 14, 3) := by decide +kernel
theorem dX4_load_69 : decode cX4_load 69 = .ok (.new 106, 3) := by decide +kernel
theorem dX4_load_72 : decode cX4_load 72 = .ok (.dup, 1) := by decide +kernel
theorem dX4_load_73 : decode cX4_load 73 = .ok (.ldc_w 267, 3) := by decide +kernel
theorem dX4_load_76 : decode cX4_load 76 = .ok (.invokespecial 110, 3) := by decide +kernel
theorem dX4_load_79 : decode cX4_load 79 = .ok (.athrow, 1) := by decide +kernel
theorem dX4_load_80 : decode cX4_load 80 = .ok (.aload 4, 2) := by decide +kernel
theorem dX4_load_82 : decode cX4_load 82 = .ok (.aload_n 3, 1) := by decide +kernel
theorem dX4_load_83 : decode cX4_load 83 = .ok (.invokevirtual 269, 3) := by decide +kernel
theorem dX4_load_86 : decode cX4_load 86 = .ok (.aload 4, 2) := by decide +kernel
theorem dX4_load_88 : decode cX4_load 88 = .ok (.getfield 273, 3) := by decide +kernel
theorem dX4_load_91 : decode cX4_load 91 = .ok (.ireturn, 1) := by decide +kernel
theorem dX4_lotOn_0 : decode cX4_lotOn 0 = .ok (.aload_n 0, 1) := by decide +kernel
theorem dX4_lotOn_1 : decode cX4_lotOn 1 = .ok (.iload_n 1, 1) := by decide +kernel
theorem dX4_lotOn_2 : decode cX4_lotOn 2 = .ok (.invokevirtual 250, 3) := by decide +kernel
theorem dX4_lotOn_5 : decode cX4_lotOn 5 = .ok (.getfield 276, 3) := by decide +kernel
theorem dX4_lotOn_8 : decode cX4_lotOn 8 = .ok (.astore_n 3, 1) := by decide +kernel
theorem dX4_lotOn_9 : decode cX4_lotOn 9 = .ok (.iload_n 2, 1) := by decide +kernel
theorem dX4_lotOn_10 : decode cX4_lotOn 10 = .ok (.ifCond .lt 15, 3) := by decide +kernel
theorem dX4_lotOn_13 : decode cX4_lotOn 13 = .ok (.iload_n 2, 1) := by decide +kernel
theorem dX4_lotOn_14 : decode cX4_lotOn 14 = .ok (.aload_n 3, 1) := by decide +kernel
theorem dX4_lotOn_15 : decode cX4_lotOn 15 = .ok (.arraylength, 1) := by decide +kernel
theorem dX4_lotOn_16 : decode cX4_lotOn 16 = .ok (.if_icmp .ge 9, 3) := by decide +kernel
theorem dX4_lotOn_19 : decode cX4_lotOn 19 = .ok (.aload_n 3, 1) := by decide +kernel
theorem dX4_lotOn_20 : decode cX4_lotOn 20 = .ok (.iload_n 2, 1) := by decide +kernel
theorem dX4_lotOn_21 : decode cX4_lotOn 21 = .ok (.aaload, 1) := by decide +kernel
theorem dX4_lotOn_22 : decode cX4_lotOn 22 = .ok (.ifnonnull 14, 3) := by decide +kernel
theorem dX4_lotOn_25 : decode cX4_lotOn 25 = .ok (.new 132, 3) := by decide +kernel
theorem dX4_lotOn_28 : decode cX4_lotOn 28 = .ok (.dup, 1) := by decide +kernel
theorem dX4_lotOn_29 : decode cX4_lotOn 29 = .ok (.ldc_w 279, 3) := by decide +kernel
theorem dX4_lotOn_32 : decode cX4_lotOn 32 = .ok (.invokespecial 136, 3) := by decide +kernel
theorem dX4_lotOn_35 : decode cX4_lotOn 35 = .ok (.athrow, 1) := by decide +kernel
theorem dX4_lotOn_36 : decode cX4_lotOn 36 = .ok (.aload_n 3, 1) := by decide +kernel
theorem dX4_lotOn_37 : decode cX4_lotOn 37 = .ok (.iload_n 2, 1) := by decide +kernel
theorem dX4_lotOn_38 : decode cX4_lotOn 38 = .ok (.aaload, 1) := by decide +kernel
theorem dX4_lotOn_39 : decode cX4_lotOn 39 = .ok (.getfield 281, 3) := by decide +kernel
theorem dX4_lotOn_42 : decode cX4_lotOn 42 = .ok (.ireturn, 1) := by decide +kernel
theorem dX4_income_0 : decode cX4_income 0 = .ok (.aload_n 0, 1) := by decide +kernel
theorem dX4_income_1 : decode cX4_income 1 = .ok (.getfield 64, 3) := by decide +kernel
theorem dX4_income_4 : decode cX4_income 4 = .ok (.lreturn, 1) := by decide +kernel
theorem dX4_incomeByLots_0 : decode cX4_incomeByLots 0 = .ok (.lconst 0, 1) := by decide +kernel
theorem dX4_incomeByLots_1 : decode cX4_incomeByLots 1 = .ok (.lstore_n 1, 1) := by decide +kernel
theorem dX4_incomeByLots_2 : decode cX4_incomeByLots 2 = .ok (.aload_n 0, 1) := by decide +kernel
theorem dX4_incomeByLots_3 : decode cX4_incomeByLots 3 = .ok (.getfield 17, 3) := by decide +kernel
theorem dX4_incomeByLots_6 : decode cX4_incomeByLots 6 = .ok (.astore_n 3, 1) := by decide +kernel
theorem dX4_incomeByLots_7 : decode cX4_incomeByLots 7 = .ok (.aload_n 3, 1) := by decide +kernel
theorem dX4_incomeByLots_8 : decode cX4_incomeByLots 8 = .ok (.arraylength, 1) := by decide +kernel
theorem dX4_incomeByLots_9 : decode cX4_incomeByLots 9 = .ok (.istore 4, 2) := by decide +kernel
theorem dX4_incomeByLots_11 : decode cX4_incomeByLots 11 = .ok (.iconst 0, 1) := by decide +kernel
theorem dX4_incomeByLots_12 : decode cX4_incomeByLots 12 = .ok (.istore 5, 2) := by decide +kernel
theorem dX4_incomeByLots_14 : decode cX4_incomeByLots 14 = .ok (.iload 5, 2) := by decide +kernel
theorem dX4_incomeByLots_16 : decode cX4_incomeByLots 16 = .ok (.iload 4, 2) := by decide +kernel
theorem dX4_incomeByLots_18 : decode cX4_incomeByLots 18 = .ok (.if_icmp .ge 29, 3) := by decide +kernel
theorem dX4_incomeByLots_21 : decode cX4_incomeByLots 21 = .ok (.aload_n 3, 1) := by decide +kernel
theorem dX4_incomeByLots_22 : decode cX4_incomeByLots 22 = .ok (.iload 5, 2) := by decide +kernel
theorem dX4_incomeByLots_24 : decode cX4_incomeByLots 24 = .ok (.aaload, 1) := by decide +kernel
theorem dX4_incomeByLots_25 : decode cX4_incomeByLots 25 = .ok (.astore 6, 2) := by decide +kernel
theorem dX4_incomeByLots_27 : decode cX4_incomeByLots 27 = .ok (.aload 6, 2) := by decide +kernel
theorem dX4_incomeByLots_29 : decode cX4_incomeByLots 29 = .ok (.ifnull 12, 3) := by decide +kernel
theorem dX4_incomeByLots_32 : decode cX4_incomeByLots 32 = .ok (.lload_n 1, 1) := by decide +kernel
theorem dX4_incomeByLots_33 : decode cX4_incomeByLots 33 = .ok (.aload 6, 2) := by decide +kernel
theorem dX4_incomeByLots_35 : decode cX4_incomeByLots 35 = .ok (.getfield 235, 3) := by decide +kernel
theorem dX4_incomeByLots_38 : decode cX4_incomeByLots 38 = .ok (.i2l, 1) := by decide +kernel
theorem dX4_incomeByLots_39 : decode cX4_incomeByLots 39 = .ok (.ladd, 1) := by decide +kernel
theorem dX4_incomeByLots_40 : decode cX4_incomeByLots 40 = .ok (.lstore_n 1, 1) := by decide +kernel
theorem dX4_incomeByLots_41 : decode cX4_incomeByLots 41 = .ok (.iinc 5 1, 3) := by decide +kernel
theorem dX4_incomeByLots_44 : decode cX4_incomeByLots 44 = .ok (.goto (-30), 3) := by decide +kernel
theorem dX4_incomeByLots_47 : decode cX4_incomeByLots 47 = .ok (.lload_n 1, 1) := by decide +kernel
theorem dX4_incomeByLots_48 : decode cX4_incomeByLots 48 = .ok (.lreturn, 1) := by decide +kernel
theorem dX4_spoiled_0 : decode cX4_spoiled 0 = .ok (.iconst 0, 1) := by decide +kernel
theorem dX4_spoiled_1 : decode cX4_spoiled 1 = .ok (.istore_n 1, 1) := by decide +kernel
theorem dX4_spoiled_2 : decode cX4_spoiled 2 = .ok (.aload_n 0, 1) := by decide +kernel
theorem dX4_spoiled_3 : decode cX4_spoiled 3 = .ok (.getfield 17, 3) := by decide +kernel
theorem dX4_spoiled_6 : decode cX4_spoiled 6 = .ok (.astore_n 2, 1) := by decide +kernel
theorem dX4_spoiled_7 : decode cX4_spoiled 7 = .ok (.aload_n 2, 1) := by decide +kernel
theorem dX4_spoiled_8 : decode cX4_spoiled 8 = .ok (.arraylength, 1) := by decide +kernel
theorem dX4_spoiled_9 : decode cX4_spoiled 9 = .ok (.istore_n 3, 1) := by decide +kernel
theorem dX4_spoiled_10 : decode cX4_spoiled 10 = .ok (.iconst 0, 1) := by decide +kernel
theorem dX4_spoiled_11 : decode cX4_spoiled 11 = .ok (.istore 4, 2) := by decide +kernel
theorem dX4_spoiled_13 : decode cX4_spoiled 13 = .ok (.iload 4, 2) := by decide +kernel
theorem dX4_spoiled_15 : decode cX4_spoiled 15 = .ok (.iload_n 3, 1) := by decide +kernel
theorem dX4_spoiled_16 : decode cX4_spoiled 16 = .ok (.if_icmp .ge 38, 3) := by decide +kernel
theorem dX4_spoiled_19 : decode cX4_spoiled 19 = .ok (.aload_n 2, 1) := by decide +kernel
theorem dX4_spoiled_20 : decode cX4_spoiled 20 = .ok (.iload 4, 2) := by decide +kernel
theorem dX4_spoiled_22 : decode cX4_spoiled 22 = .ok (.aaload, 1) := by decide +kernel
theorem dX4_spoiled_23 : decode cX4_spoiled 23 = .ok (.astore 5, 2) := by decide +kernel
theorem dX4_spoiled_25 : decode cX4_spoiled 25 = .ok (.aload 5, 2) := by decide +kernel
theorem dX4_spoiled_27 : decode cX4_spoiled 27 = .ok (.ifnull 21, 3) := by decide +kernel
theorem dX4_spoiled_30 : decode cX4_spoiled 30 = .ok (.aload 5, 2) := by decide +kernel
theorem dX4_spoiled_32 : decode cX4_spoiled 32 = .ok (.getfield 152, 3) := by decide +kernel
theorem dX4_spoiled_35 : decode cX4_spoiled 35 = .ok (.bipush 120, 2) := by decide +kernel
theorem dX4_spoiled_37 : decode cX4_spoiled 37 = .ok (.if_icmp .ne 11, 3) := by decide +kernel
theorem dX4_spoiled_40 : decode cX4_spoiled 40 = .ok (.iload_n 1, 1) := by decide +kernel
theorem dX4_spoiled_41 : decode cX4_spoiled 41 = .ok (.aload 5, 2) := by decide +kernel
theorem dX4_spoiled_43 : decode cX4_spoiled 43 = .ok (.getfield 149, 3) := by decide +kernel
theorem dX4_spoiled_46 : decode cX4_spoiled 46 = .ok (.iadd, 1) := by decide +kernel
theorem dX4_spoiled_47 : decode cX4_spoiled 47 = .ok (.istore_n 1, 1) := by decide +kernel
theorem dX4_spoiled_48 : decode cX4_spoiled 48 = .ok (.iinc 4 1, 3) := by decide +kernel
theorem dX4_spoiled_51 : decode cX4_spoiled 51 = .ok (.goto (-38), 3) := by decide +kernel
theorem dX4_spoiled_54 : decode cX4_spoiled 54 = .ok (.iload_n 1, 1) := by decide +kernel
theorem dX4_spoiled_55 : decode cX4_spoiled 55 = .ok (.ireturn, 1) := by decide +kernel
theorem dX4_soldShare_0 : decode cX4_soldShare 0 = .ok (.aload_n 0, 1) := by decide +kernel
theorem dX4_soldShare_1 : decode cX4_soldShare 1 = .ok (.invokevirtual 282, 3) := by decide +kernel
theorem dX4_soldShare_4 : decode cX4_soldShare 4 = .ok (.istore_n 1, 1) := by decide +kernel
theorem dX4_soldShare_5 : decode cX4_soldShare 5 = .ok (.iload_n 1, 1) := by decide +kernel
theorem dX4_soldShare_6 : decode cX4_soldShare 6 = .ok (.ifCond .ne 14, 3) := by decide +kernel
theorem dX4_soldShare_9 : decode cX4_soldShare 9 = .ok (.new 285, 3) := by decide +kernel
theorem dX4_soldShare_12 : decode cX4_soldShare 12 = .ok (.dup, 1) := by decide +kernel
theorem dX4_soldShare_13 : decode cX4_soldShare 13 = .ok (.ldc_w 287, 3) := by decide +kernel
theorem dX4_soldShare_16 : decode cX4_soldShare 16 = .ok (.invokespecial 289, 3) := by decide +kernel
theorem dX4_soldShare_19 : decode cX4_soldShare 19 = .ok (.athrow, 1) := by decide +kernel
theorem dX4_soldShare_20 : decode cX4_soldShare 20 = .ok (.aload_n 0, 1) := by decide +kernel
theorem dX4_soldShare_21 : decode cX4_soldShare 21 = .ok (.invokevirtual 290, 3) := by decide +kernel
theorem dX4_soldShare_24 : decode cX4_soldShare 24 = .ok (.i2f, 1) := by decide +kernel
theorem dX4_soldShare_25 : decode cX4_soldShare 25 = .ok (.iload_n 1, 1) := by decide +kernel
theorem dX4_soldShare_26 : decode cX4_soldShare 26 = .ok (.i2f, 1) := by decide +kernel
theorem dX4_soldShare_27 : decode cX4_soldShare 27 = .ok (.fdiv, 1) := by decide +kernel
theorem dX4_soldShare_28 : decode cX4_soldShare 28 = .ok (.freturn, 1) := by decide +kernel
theorem dX4_meanPrice_0 : decode cX4_meanPrice 0 = .ok (.aload_n 0, 1) := by decide +kernel
theorem dX4_meanPrice_1 : decode cX4_meanPrice 1 = .ok (.invokevirtual 293, 3) := by decide +kernel
theorem dX4_meanPrice_4 : decode cX4_meanPrice 4 = .ok (.dreturn, 1) := by decide +kernel
theorem dX4_meanBits_0 : decode cX4_meanBits 0 = .ok (.aload_n 0, 1) := by decide +kernel
theorem dX4_meanBits_1 : decode cX4_meanBits 1 = .ok (.invokevirtual 293, 3) := by decide +kernel
theorem dX4_meanBits_4 : decode cX4_meanBits 4 = .ok (.invokestatic 297, 3) := by decide +kernel
theorem dX4_meanBits_7 : decode cX4_meanBits 7 = .ok (.lreturn, 1) := by decide +kernel
theorem dX4_isSound_0 : decode cX4_isSound 0 = .ok (.aload_n 0, 1) := by decide +kernel
theorem dX4_isSound_1 : decode cX4_isSound 1 = .ok (.getfield 64, 3) := by decide +kernel
theorem dX4_isSound_4 : decode cX4_isSound 4 = .ok (.aload_n 0, 1) := by decide +kernel
theorem dX4_isSound_5 : decode cX4_isSound 5 = .ok (.invokevirtual 301, 3) := by decide +kernel
theorem dX4_isSound_8 : decode cX4_isSound 8 = .ok (.lcmp, 1) := by decide +kernel
theorem dX4_isSound_9 : decode cX4_isSound 9 = .ok (.ifCond .ne 21, 3) := by decide +kernel
theorem dX4_isSound_12 : decode cX4_isSound 12 = .ok (.aload_n 0, 1) := by decide +kernel
theorem dX4_isSound_13 : decode cX4_isSound 13 = .ok (.invokevirtual 305, 3) := by decide +kernel
theorem dX4_isSound_16 : decode cX4_isSound 16 = .ok (.ifCond .eq 14, 3) := by decide +kernel
theorem dX4_isSound_19 : decode cX4_isSound 19 = .ok (.aload_n 0, 1) := by decide +kernel
theorem dX4_isSound_20 : decode cX4_isSound 20 = .ok (.invokevirtual 308, 3) := by decide +kernel
theorem dX4_isSound_23 : decode cX4_isSound 23 = .ok (.ifCond .eq 7, 3) := by decide +kernel
theorem dX4_isSound_26 : decode cX4_isSound 26 = .ok (.iconst 1, 1) := by decide +kernel
theorem dX4_isSound_27 : decode cX4_isSound 27 = .ok (.goto 4, 3) := by decide +kernel
theorem dX4_isSound_30 : decode cX4_isSound 30 = .ok (.iconst 0, 1) := by decide +kernel
theorem dX4_isSound_31 : decode cX4_isSound 31 = .ok (.ireturn, 1) := by decide +kernel
theorem dX4_boatNumbered_0 : decode cX4_boatNumbered 0 = .ok (.iload_n 1, 1) := by decide +kernel
theorem dX4_boatNumbered_1 : decode cX4_boatNumbered 1 = .ok (.ifCond .lt 21, 3) := by decide +kernel
theorem dX4_boatNumbered_4 : decode cX4_boatNumbered 4 = .ok (.iload_n 1, 1) := by decide +kernel
theorem dX4_boatNumbered_5 : decode cX4_boatNumbered 5 = .ok (.aload_n 0, 1) := by decide +kernel
theorem dX4_boatNumbered_6 : decode cX4_boatNumbered 6 = .ok (.getfield 11, 3) := by decide +kernel
theorem dX4_boatNumbered_9 : decode cX4_boatNumbered 9 = .ok (.arraylength, 1) := by decide +kernel
theorem dX4_boatNumbered_10 : decode cX4_boatNumbered 10 = .ok (.if_icmp .ge 12, 3) := by decide +kernel
theorem dX4_boatNumbered_13 : decode cX4_boatNumbered 13 = .ok (.aload_n 0, 1) := by decide +kernel
theorem dX4_boatNumbered_14 : decode cX4_boatNumbered 14 = .ok (.getfield 11, 3) := by decide +kernel
theorem dX4_boatNumbered_17 : decode cX4_boatNumbered 17 = .ok (.iload_n 1, 1) := by decide +kernel
theorem dX4_boatNumbered_18 : decode cX4_boatNumbered 18 = .ok (.aaload, 1) := by decide +kernel
theorem dX4_boatNumbered_19 : decode cX4_boatNumbered 19 = .ok (.ifnonnull 14, 3) := by decide +kernel
theorem dX4_boatNumbered_22 : decode cX4_boatNumbered 22 = .ok (.new 311, 3) := by decide +kernel
theorem dX4_boatNumbered_25 : decode cX4_boatNumbered 25 = .ok (.dup, 1) := by decide +kernel
theorem dX4_boatNumbered_26 : decode cX4_boatNumbered 26 = .ok (.ldc_w 313, 3) := by decide +kernel
theorem dX4_boatNumbered_29 : decode cX4_boatNumbered 29 = .ok (.invokespecial 315, 3) := by decide +kernel
theorem dX4_boatNumbered_32 : decode cX4_boatNumbered 32 = .ok (.athrow, 1) := by decide +kernel
theorem dX4_boatNumbered_33 : decode cX4_boatNumbered 33 = .ok (.aload_n 0, 1) := by decide +kernel
theorem dX4_boatNumbered_34 : decode cX4_boatNumbered 34 = .ok (.getfield 11, 3) := by decide +kernel
theorem dX4_boatNumbered_37 : decode cX4_boatNumbered 37 = .ok (.iload_n 1, 1) := by decide +kernel
theorem dX4_boatNumbered_38 : decode cX4_boatNumbered 38 = .ok (.aaload, 1) := by decide +kernel
theorem dX4_boatNumbered_39 : decode cX4_boatNumbered 39 = .ok (.areturn, 1) := by decide +kernel
theorem dX4_lotNumbered_0 : decode cX4_lotNumbered 0 = .ok (.iload_n 1, 1) := by decide +kernel
theorem dX4_lotNumbered_1 : decode cX4_lotNumbered 1 = .ok (.ifCond .lt 21, 3) := by decide +kernel
theorem dX4_lotNumbered_4 : decode cX4_lotNumbered 4 = .ok (.iload_n 1, 1) := by decide +kernel
theorem dX4_lotNumbered_5 : decode cX4_lotNumbered 5 = .ok (.aload_n 0, 1) := by decide +kernel
theorem dX4_lotNumbered_6 : decode cX4_lotNumbered 6 = .ok (.getfield 17, 3) := by decide +kernel
theorem dX4_lotNumbered_9 : decode cX4_lotNumbered 9 = .ok (.arraylength, 1) := by decide +kernel
theorem dX4_lotNumbered_10 : decode cX4_lotNumbered 10 = .ok (.if_icmp .ge 12, 3) := by decide +kernel
theorem dX4_lotNumbered_13 : decode cX4_lotNumbered 13 = .ok (.aload_n 0, 1) := by decide +kernel
theorem dX4_lotNumbered_14 : decode cX4_lotNumbered 14 = .ok (.getfield 17, 3) := by decide +kernel
theorem dX4_lotNumbered_17 : decode cX4_lotNumbered 17 = .ok (.iload_n 1, 1) := by decide +kernel
theorem dX4_lotNumbered_18 : decode cX4_lotNumbered 18 = .ok (.aaload, 1) := by decide +kernel
theorem dX4_lotNumbered_19 : decode cX4_lotNumbered 19 = .ok (.ifnonnull 14, 3) := by decide +kernel
theorem dX4_lotNumbered_22 : decode cX4_lotNumbered 22 = .ok (.new 132, 3) := by decide +kernel
theorem dX4_lotNumbered_25 : decode cX4_lotNumbered 25 = .ok (.dup, 1) := by decide +kernel
theorem dX4_lotNumbered_26 : decode cX4_lotNumbered 26 = .ok (.ldc_w 316, 3) := by decide +kernel
theorem dX4_lotNumbered_29 : decode cX4_lotNumbered 29 = .ok (.invokespecial 136, 3) := by decide +kernel
theorem dX4_lotNumbered_32 : decode cX4_lotNumbered 32 = .ok (.athrow, 1) := by decide +kernel
theorem dX4_lotNumbered_33 : decode cX4_lotNumbered 33 = .ok (.aload_n 0, 1) := by decide +kernel
theorem dX4_lotNumbered_34 : decode cX4_lotNumbered 34 = .ok (.getfield 17, 3) := by decide +kernel
theorem dX4_lotNumbered_37 : decode cX4_lotNumbered 37 = .ok (.iload_n 1, 1) := by decide +kernel
theorem dX4_lotNumbered_38 : decode cX4_lotNumbered 38 = .ok (.aaload, 1) := by decide +kernel
theorem dX4_lotNumbered_39 : decode cX4_lotNumbered 39 = .ok (.areturn, 1) := by decide +kernel
theorem dX4_lotForSale_0 : decode cX4_lotForSale 0 = .ok (.aload_n 0, 1) := by decide +kernel
theorem dX4_lotForSale_1 : decode cX4_lotForSale 1 = .ok (.iload_n 1, 1) := by decide +kernel
theorem dX4_lotForSale_2 : decode cX4_lotForSale 2 = .ok (.invokevirtual 145, 3) := by decide +kernel
theorem dX4_lotForSale_5 : decode cX4_lotForSale 5 = .ok (.astore_n 2, 1) := by decide +kernel
theorem dX4_lotForSale_6 : decode cX4_lotForSale 6 = .ok (.aload_n 2, 1) := by decide +kernel
theorem dX4_lotForSale_7 : decode cX4_lotForSale 7 = .ok (.getfield 152, 3) := by decide +kernel
theorem dX4_lotForSale_10 : decode cX4_lotForSale 10 = .ok (.bipush 102, 2) := by decide +kernel
theorem dX4_lotForSale_12 : decode cX4_lotForSale 12 = .ok (.if_icmp .eq 14, 3) := by decide +kernel
theorem dX4_lotForSale_15 : decode cX4_lotForSale 15 = .ok (.new 79, 3) := by decide +kernel
theorem dX4_lotForSale_18 : decode cX4_lotForSale 18 = .ok (.dup, 1) := by decide +kernel
theorem dX4_lotForSale_19 : decode cX4_lotForSale 19 = .ok (.ldc_w 318, 3) := by decide +kernel
theorem dX4_lotForSale_22 : decode cX4_lotForSale 22 = .ok (.invokespecial 83, 3) := by decide +kernel
theorem dX4_lotForSale_25 : decode cX4_lotForSale 25 = .ok (.athrow, 1) := by decide +kernel
theorem dX4_lotForSale_26 : decode cX4_lotForSale 26 = .ok (.aload_n 2, 1) := by decide +kernel
theorem dX4_lotForSale_27 : decode cX4_lotForSale 27 = .ok (.areturn, 1) := by decide +kernel
theorem dX4_buyerNumbered_0 : decode cX4_buyerNumbered 0 = .ok (.iload_n 1, 1) := by decide +kernel
theorem dX4_buyerNumbered_1 : decode cX4_buyerNumbered 1 = .ok (.ifCond .lt 21, 3) := by decide +kernel
theorem dX4_buyerNumbered_4 : decode cX4_buyerNumbered 4 = .ok (.iload_n 1, 1) := by decide +kernel
theorem dX4_buyerNumbered_5 : decode cX4_buyerNumbered 5 = .ok (.aload_n 0, 1) := by decide +kernel
theorem dX4_buyerNumbered_6 : decode cX4_buyerNumbered 6 = .ok (.getfield 23, 3) := by decide +kernel
theorem dX4_buyerNumbered_9 : decode cX4_buyerNumbered 9 = .ok (.arraylength, 1) := by decide +kernel
theorem dX4_buyerNumbered_10 : decode cX4_buyerNumbered 10 = .ok (.if_icmp .ge 12, 3) := by decide +kernel
theorem dX4_buyerNumbered_13 : decode cX4_buyerNumbered 13 = .ok (.aload_n 0, 1) := by decide +kernel
theorem dX4_buyerNumbered_14 : decode cX4_buyerNumbered 14 = .ok (.getfield 23, 3) := by decide +kernel
theorem dX4_buyerNumbered_17 : decode cX4_buyerNumbered 17 = .ok (.iload_n 1, 1) := by decide +kernel
theorem dX4_buyerNumbered_18 : decode cX4_buyerNumbered 18 = .ok (.aaload, 1) := by decide +kernel
theorem dX4_buyerNumbered_19 : decode cX4_buyerNumbered 19 = .ok (.ifnonnull 14, 3) := by decide +kernel
theorem dX4_buyerNumbered_22 : decode cX4_buyerNumbered 22 = .ok (.new 311, 3) := by decide +kernel
theorem dX4_buyerNumbered_25 : decode cX4_buyerNumbered 25 = .ok (.dup, 1) := by decide +kernel
theorem dX4_buyerNumbered_26 : decode cX4_buyerNumbered 26 = .ok (.ldc_w 320, 3) := by decide +kernel
theorem dX4_buyerNumbered_29 : decode cX4_buyerNumbered 29 = .ok (.invokespecial 315, 3) := by decide +kernel
theorem dX4_buyerNumbered_32 : decode cX4_buyerNumbered 32 = .ok (.athrow, 1) := by decide +kernel
theorem dX4_buyerNumbered_33 : decode cX4_buyerNumbered 33 = .ok (.aload_n 0, 1) := by decide +kernel
theorem dX4_buyerNumbered_34 : decode cX4_buyerNumbered 34 = .ok (.getfield 23, 3) := by decide +kernel
theorem dX4_buyerNumbered_37 : decode cX4_buyerNumbered 37 = .ok (.iload_n 1, 1) := by decide +kernel
theorem dX4_buyerNumbered_38 : decode cX4_buyerNumbered 38 = .ok (.aaload, 1) := by decide +kernel
theorem dX4_buyerNumbered_39 : decode cX4_buyerNumbered 39 = .ok (.areturn, 1) := by decide +kernel
theorem dX4_truckNumbered_0 : decode cX4_truckNumbered 0 = .ok (.iload_n 1, 1) := by decide +kernel
theorem dX4_truckNumbered_1 : decode cX4_truckNumbered 1 = .ok (.ifCond .lt 21, 3) := by decide +kernel
theorem dX4_truckNumbered_4 : decode cX4_truckNumbered 4 = .ok (.iload_n 1, 1) := by decide +kernel
theorem dX4_truckNumbered_5 : decode cX4_truckNumbered 5 = .ok (.aload_n 0, 1) := by decide +kernel
theorem dX4_truckNumbered_6 : decode cX4_truckNumbered 6 = .ok (.getfield 29, 3) := by decide +kernel
theorem dX4_truckNumbered_9 : decode cX4_truckNumbered 9 = .ok (.arraylength, 1) := by decide +kernel
theorem dX4_truckNumbered_10 : decode cX4_truckNumbered 10 = .ok (.if_icmp .ge 12, 3) := by decide +kernel
theorem dX4_truckNumbered_13 : decode cX4_truckNumbered 13 = .ok (.aload_n 0, 1) := by decide +kernel
theorem dX4_truckNumbered_14 : decode cX4_truckNumbered 14 = .ok (.getfield 29, 3) := by decide +kernel
theorem dX4_truckNumbered_17 : decode cX4_truckNumbered 17 = .ok (.iload_n 1, 1) := by decide +kernel
theorem dX4_truckNumbered_18 : decode cX4_truckNumbered 18 = .ok (.aaload, 1) := by decide +kernel
theorem dX4_truckNumbered_19 : decode cX4_truckNumbered 19 = .ok (.ifnonnull 14, 3) := by decide +kernel
theorem dX4_truckNumbered_22 : decode cX4_truckNumbered 22 = .ok (.new 311, 3) := by decide +kernel
theorem dX4_truckNumbered_25 : decode cX4_truckNumbered 25 = .ok (.dup, 1) := by decide +kernel
theorem dX4_truckNumbered_26 : decode cX4_truckNumbered 26 = .ok (.ldc_w 322, 3) := by decide +kernel
theorem dX4_truckNumbered_29 : decode cX4_truckNumbered 29 = .ok (.invokespecial 315, 3) := by decide +kernel
theorem dX4_truckNumbered_32 : decode cX4_truckNumbered 32 = .ok (.athrow, 1) := by decide +kernel
theorem dX4_truckNumbered_33 : decode cX4_truckNumbered 33 = .ok (.aload_n 0, 1) := by decide +kernel
theorem dX4_truckNumbered_34 : decode cX4_truckNumbered 34 = .ok (.getfield 29, 3) := by decide +kernel
theorem dX4_truckNumbered_37 : decode cX4_truckNumbered 37 = .ok (.iload_n 1, 1) := by decide +kernel
theorem dX4_truckNumbered_38 : decode cX4_truckNumbered 38 = .ok (.aaload, 1) := by decide +kernel
theorem dX4_truckNumbered_39 : decode cX4_truckNumbered 39 = .ok (.areturn, 1) := by decide +kernel
theorem dX4_checkSpecies_0 : decode cX4_checkSpecies 0 = .ok (.iload_n 0, 1) := by decide +kernel
theorem dX4_checkSpecies_1 : decode cX4_checkSpecies 1 = .ok (.invokestatic 91, 3) := by decide +kernel
theorem dX4_checkSpecies_4 : decode cX4_checkSpecies 4 = .ok (.ifCond .ne 14, 3) := by decide +kernel
theorem dX4_checkSpecies_7 : decode cX4_checkSpecies 7 = .ok (.new 72, 3) := by decide +kernel
theorem dX4_checkSpecies_10 : decode cX4_checkSpecies 10 = .ok (.dup, 1) := by decide +kernel
theorem dX4_checkSpecies_11 : decode cX4_checkSpecies 11 = .ok (.ldc_w 324, 3) := by decide +kernel
theorem dX4_checkSpecies_14 : decode cX4_checkSpecies 14 = .ok (.invokespecial 76, 3) := by decide +kernel
theorem dX4_checkSpecies_17 : decode cX4_checkSpecies 17 = .ok (.athrow, 1) := by decide +kernel
theorem dX4_checkSpecies_18 : decode cX4_checkSpecies 18 = .ok (.return_, 1) := by decide +kernel
theorem dX4_isSpecies_0 : decode cX4_isSpecies 0 = .ok (.iload_n 0, 1) := by decide +kernel
theorem dX4_isSpecies_1 : decode cX4_isSpecies 1 = .ok (.iconst 0, 1) := by decide +kernel
theorem dX4_isSpecies_2 : decode cX4_isSpecies 2 = .ok (.iconst 3, 1) := by decide +kernel
theorem dX4_isSpecies_3 : decode cX4_isSpecies 3 = .ok (.invokestatic 94, 3) := by decide +kernel
theorem dX4_isSpecies_6 : decode cX4_isSpecies 6 = .ok (.ireturn, 1) := by decide +kernel
theorem dX4_isQuota_0 : decode cX4_isQuota 0 = .ok (.iload_n 0, 1) := by decide +kernel
theorem dX4_isQuota_1 : decode cX4_isQuota 1 = .ok (.iconst 0, 1) := by decide +kernel
theorem dX4_isQuota_2 : decode cX4_isQuota 2 = .ok (.sipush 9999, 3) := by decide +kernel
theorem dX4_isQuota_5 : decode cX4_isQuota 5 = .ok (.invokestatic 94, 3) := by decide +kernel
theorem dX4_isQuota_8 : decode cX4_isQuota 8 = .ok (.ireturn, 1) := by decide +kernel
theorem dX4_isWithin_0 : decode cX4_isWithin 0 = .ok (.iload_n 0, 1) := by decide +kernel
theorem dX4_isWithin_1 : decode cX4_isWithin 1 = .ok (.iload_n 1, 1) := by decide +kernel
theorem dX4_isWithin_2 : decode cX4_isWithin 2 = .ok (.if_icmp .lt 12, 3) := by decide +kernel
theorem dX4_isWithin_5 : decode cX4_isWithin 5 = .ok (.iload_n 0, 1) := by decide +kernel
theorem dX4_isWithin_6 : decode cX4_isWithin 6 = .ok (.iload_n 2, 1) := by decide +kernel
theorem dX4_isWithin_7 : decode cX4_isWithin 7 = .ok (.if_icmp .gt 7, 3) := by decide +kernel
theorem dX4_isWithin_10 : decode cX4_isWithin 10 = .ok (.iconst 1, 1) := by decide +kernel
theorem dX4_isWithin_11 : decode cX4_isWithin 11 = .ok (.goto 4, 3) := by decide +kernel
theorem dX4_isWithin_14 : decode cX4_isWithin 14 = .ok (.iconst 0, 1) := by decide +kernel
theorem dX4_isWithin_15 : decode cX4_isWithin 15 = .ok (.ireturn, 1) := by decide +kernel
theorem dX4_priceOnClock_0 : decode cX4_priceOnClock 0 = .ok (.aload_n 0, 1) := by decide +kernel
theorem dX4_priceOnClock_1 : decode cX4_priceOnClock 1 = .ok (.aload_n 1, 1) := by decide +kernel
theorem dX4_priceOnClock_2 : decode cX4_priceOnClock 2 = .ok (.invokevirtual 326, 3) := by decide +kernel
theorem dX4_priceOnClock_5 : decode cX4_priceOnClock 5 = .ok (.istore_n 2, 1) := by decide +kernel
theorem dX4_priceOnClock_6 : decode cX4_priceOnClock 6 = .ok (.iconst 0, 1) := by decide +kernel
theorem dX4_priceOnClock_7 : decode cX4_priceOnClock 7 = .ok (.istore_n 3, 1) := by decide +kernel
theorem dX4_priceOnClock_8 : decode cX4_priceOnClock 8 = .ok (.iload_n 3, 1) := by decide +kernel
theorem dX4_priceOnClock_9 : decode cX4_priceOnClock 9 = .ok (.sipush 9999, 3) := by decide +kernel
theorem dX4_priceOnClock_12 : decode cX4_priceOnClock 12 = .ok (.if_icmp .gt 52, 3) := by decide +kernel
theorem dX4_priceOnClock_15 : decode cX4_priceOnClock 15 = .ok (.aload_n 0, 1) := by decide +kernel
theorem dX4_priceOnClock_16 : decode cX4_priceOnClock 16 = .ok (.getfield 55, 3) := by decide +kernel
theorem dX4_priceOnClock_19 : decode cX4_priceOnClock 19 = .ok (.iload_n 3, 1) := by decide +kernel
theorem dX4_priceOnClock_20 : decode cX4_priceOnClock 20 = .ok (.aload_n 0, 1) := by decide +kernel
theorem dX4_priceOnClock_21 : decode cX4_priceOnClock 21 = .ok (.getfield 58, 3) := by decide +kernel
theorem dX4_priceOnClock_24 : decode cX4_priceOnClock 24 = .ok (.imul, 1) := by decide +kernel
theorem dX4_priceOnClock_25 : decode cX4_priceOnClock 25 = .ok (.isub, 1) := by decide +kernel
theorem dX4_priceOnClock_26 : decode cX4_priceOnClock 26 = .ok (.istore 4, 2) := by decide +kernel
theorem dX4_priceOnClock_28 : decode cX4_priceOnClock 28 = .ok (.iload 4, 2) := by decide +kernel
theorem dX4_priceOnClock_30 : decode cX4_priceOnClock 30 = .ok (.aload_n 0, 1) := by decide +kernel
theorem dX4_priceOnClock_31 : decode cX4_priceOnClock 31 = .ok (.getfield 61, 3) := by decide +kernel
theorem dX4_priceOnClock_34 : decode cX4_priceOnClock 34 = .ok (.if_icmp .ge 5, 3) := by decide +kernel
theorem dX4_priceOnClock_37 : decode cX4_priceOnClock 37 = .ok (.iconst (-1), 1) := by decide +kernel
theorem dX4_priceOnClock_38 : decode cX4_priceOnClock 38 = .ok (.ireturn, 1) := by decide +kernel
theorem dX4_priceOnClock_39 : decode cX4_priceOnClock 39 = .ok (.iload 4, 2) := by decide +kernel
theorem dX4_priceOnClock_41 : decode cX4_priceOnClock 41 = .ok (.iload_n 2, 1) := by decide +kernel
theorem dX4_priceOnClock_42 : decode cX4_priceOnClock 42 = .ok (.if_icmp .gt 16, 3) := by decide +kernel
theorem dX4_priceOnClock_45 : decode cX4_priceOnClock 45 = .ok (.aload_n 0, 1) := by decide +kernel
theorem dX4_priceOnClock_46 : decode cX4_priceOnClock 46 = .ok (.aload_n 1, 1) := by decide +kernel
theorem dX4_priceOnClock_47 : decode cX4_priceOnClock 47 = .ok (.iload 4, 2) := by decide +kernel
theorem dX4_priceOnClock_49 : decode cX4_priceOnClock 49 = .ok (.invokevirtual 225, 3) := by decide +kernel
theorem dX4_priceOnClock_52 : decode cX4_priceOnClock 52 = .ok (.ifnull 6, 3) := by decide +kernel
theorem dX4_priceOnClock_55 : decode cX4_priceOnClock 55 = .ok (.iload 4, 2) := by decide +kernel
theorem dX4_priceOnClock_57 : decode cX4_priceOnClock 57 = .ok (.ireturn, 1) := by decide +kernel
theorem dX4_priceOnClock_58 : decode cX4_priceOnClock 58 = .ok (.iinc 3 1, 3) := by decide +kernel
theorem dX4_priceOnClock_61 : decode cX4_priceOnClock 61 = .ok (.goto (-53), 3) := by decide +kernel
theorem dX4_priceOnClock_64 : decode cX4_priceOnClock 64 = .ok (.iconst (-1), 1) := by decide +kernel
theorem dX4_priceOnClock_65 : decode cX4_priceOnClock 65 = .ok (.ireturn, 1) := by decide +kernel
theorem dX4_greatestOfferFor_0 : decode cX4_greatestOfferFor 0 = .ok (.iconst (-1), 1) := by decide +kernel
theorem dX4_greatestOfferFor_1 : decode cX4_greatestOfferFor 1 = .ok (.istore_n 2, 1) := by decide +kernel
theorem dX4_greatestOfferFor_2 : decode cX4_greatestOfferFor 2 = .ok (.aload_n 0, 1) := by decide +kernel
theorem dX4_greatestOfferFor_3 : decode cX4_greatestOfferFor 3 = .ok (.getfield 23, 3) := by decide +kernel
theorem dX4_greatestOfferFor_6 : decode cX4_greatestOfferFor 6 = .ok (.astore_n 3, 1) := by decide +kernel
theorem dX4_greatestOfferFor_7 : decode cX4_greatestOfferFor 7 = .ok (.aload_n 3, 1) := by decide +kernel
theorem dX4_greatestOfferFor_8 : decode cX4_greatestOfferFor 8 = .ok (.arraylength, 1) := by decide +kernel
theorem dX4_greatestOfferFor_9 : decode cX4_greatestOfferFor 9 = .ok (.istore 4, 2) := by decide +kernel
theorem dX4_greatestOfferFor_11 : decode cX4_greatestOfferFor 11 = .ok (.iconst 0, 1) := by decide +kernel
theorem dX4_greatestOfferFor_12 : decode cX4_greatestOfferFor 12 = .ok (.istore 5, 2) := by decide +kernel
theorem dX4_greatestOfferFor_14 : decode cX4_greatestOfferFor 14 = .ok (.iload 5, 2) := by decide +kernel
theorem dX4_greatestOfferFor_16 : decode cX4_greatestOfferFor 16 = .ok (.iload 4, 2) := by decide +kernel
theorem dX4_greatestOfferFor_18 : decode cX4_greatestOfferFor 18 = .ok (.if_icmp .ge 31, 3) := by decide +kernel
theorem dX4_greatestOfferFor_21 : decode cX4_greatestOfferFor 21 = .ok (.aload_n 3, 1) := by decide +kernel
theorem dX4_greatestOfferFor_22 : decode cX4_greatestOfferFor 22 = .ok (.iload 5, 2) := by decide +kernel
theorem dX4_greatestOfferFor_24 : decode cX4_greatestOfferFor 24 = .ok (.aaload, 1) := by decide +kernel
theorem dX4_greatestOfferFor_25 : decode cX4_greatestOfferFor 25 = .ok (.astore 6, 2) := by decide +kernel
theorem dX4_greatestOfferFor_27 : decode cX4_greatestOfferFor 27 = .ok (.aload 6, 2) := by decide +kernel
theorem dX4_greatestOfferFor_29 : decode cX4_greatestOfferFor 29 = .ok (.ifnull 14, 3) := by decide +kernel
theorem dX4_greatestOfferFor_32 : decode cX4_greatestOfferFor 32 = .ok (.iload_n 2, 1) := by decide +kernel
theorem dX4_greatestOfferFor_33 : decode cX4_greatestOfferFor 33 = .ok (.aload 6, 2) := by decide +kernel
theorem dX4_greatestOfferFor_35 : decode cX4_greatestOfferFor 35 = .ok (.aload_n 1, 1) := by decide +kernel
theorem dX4_greatestOfferFor_36 : decode cX4_greatestOfferFor 36 = .ok (.invokevirtual 210, 3) := by decide +kernel
theorem dX4_greatestOfferFor_39 : decode cX4_greatestOfferFor 39 = .ok (.invokestatic 329, 3) := by decide +kernel
theorem dX4_greatestOfferFor_42 : decode cX4_greatestOfferFor 42 = .ok (.istore_n 2, 1) := by decide +kernel
theorem dX4_greatestOfferFor_43 : decode cX4_greatestOfferFor 43 = .ok (.iinc 5 1, 3) := by decide +kernel
theorem dX4_greatestOfferFor_46 : decode cX4_greatestOfferFor 46 = .ok (.goto (-32), 3) := by decide +kernel
theorem dX4_greatestOfferFor_49 : decode cX4_greatestOfferFor 49 = .ok (.iload_n 2, 1) := by decide +kernel
theorem dX4_greatestOfferFor_50 : decode cX4_greatestOfferFor 50 = .ok (.ireturn, 1) := by decide +kernel
theorem dX4_bestTaker_0 : decode cX4_bestTaker 0 = .ok (.aconst_null, 1) := by decide +kernel
theorem dX4_bestTaker_1 : decode cX4_bestTaker 1 = .ok (.astore_n 3, 1) := by decide +kernel
theorem dX4_bestTaker_2 : decode cX4_bestTaker 2 = .ok (.iconst (-1), 1) := by decide +kernel
theorem dX4_bestTaker_3 : decode cX4_bestTaker 3 = .ok (.istore 4, 2) := by decide +kernel
theorem dX4_bestTaker_5 : decode cX4_bestTaker 5 = .ok (.aload_n 0, 1) := by decide +kernel
theorem dX4_bestTaker_6 : decode cX4_bestTaker 6 = .ok (.getfield 23, 3) := by decide +kernel
theorem dX4_bestTaker_9 : decode cX4_bestTaker 9 = .ok (.astore 5, 2) := by decide +kernel
theorem dX4_bestTaker_11 : decode cX4_bestTaker 11 = .ok (.aload 5, 2) := by decide +kernel
theorem dX4_bestTaker_13 : decode cX4_bestTaker 13 = .ok (.arraylength, 1) := by decide +kernel
theorem dX4_bestTaker_14 : decode cX4_bestTaker 14 = .ok (.istore 6, 2) := by decide +kernel
theorem dX4_bestTaker_16 : decode cX4_bestTaker 16 = .ok (.iconst 0, 1) := by decide +kernel
theorem dX4_bestTaker_17 : decode cX4_bestTaker 17 = .ok (.istore 7, 2) := by decide +kernel
theorem dX4_bestTaker_19 : decode cX4_bestTaker 19 = .ok (.iload 7, 2) := by decide +kernel
theorem dX4_bestTaker_21 : decode cX4_bestTaker 21 = .ok (.iload 6, 2) := by decide +kernel
theorem dX4_bestTaker_23 : decode cX4_bestTaker 23 = .ok (.if_icmp .ge 63, 3) := by decide +kernel
theorem dX4_bestTaker_26 : decode cX4_bestTaker 26 = .ok (.aload 5, 2) := by decide +kernel
theorem dX4_bestTaker_28 : decode cX4_bestTaker 28 = .ok (.iload 7, 2) := by decide +kernel
theorem dX4_bestTaker_30 : decode cX4_bestTaker 30 = .ok (.aaload, 1) := by decide +kernel
theorem dX4_bestTaker_31 : decode cX4_bestTaker 31 = .ok (.astore 8, 2) := by decide +kernel
theorem dX4_bestTaker_33 : decode cX4_bestTaker 33 = .ok (.aload 8, 2) := by decide +kernel
theorem dX4_bestTaker_35 : decode cX4_bestTaker 35 = .ok (.ifnull 45, 3) := by decide +kernel
theorem dX4_bestTaker_38 : decode cX4_bestTaker 38 = .ok (.aload 8, 2) := by decide +kernel
theorem dX4_bestTaker_40 : decode cX4_bestTaker 40 = .ok (.getfield 205, 3) := by decide +kernel
theorem dX4_bestTaker_43 : decode cX4_bestTaker 43 = .ok (.iload_n 2, 1) := by decide +kernel
theorem dX4_bestTaker_44 : decode cX4_bestTaker 44 = .ok (.aload_n 1, 1) := by decide +kernel
theorem dX4_bestTaker_45 : decode cX4_bestTaker 45 = .ok (.getfield 149, 3) := by decide +kernel
theorem dX4_bestTaker_48 : decode cX4_bestTaker 48 = .ok (.imul, 1) := by decide +kernel
theorem dX4_bestTaker_49 : decode cX4_bestTaker 49 = .ok (.if_icmp .lt 31, 3) := by decide +kernel
theorem dX4_bestTaker_52 : decode cX4_bestTaker 52 = .ok (.aload 8, 2) := by decide +kernel
theorem dX4_bestTaker_54 : decode cX4_bestTaker 54 = .ok (.aload_n 1, 1) := by decide +kernel
theorem dX4_bestTaker_55 : decode cX4_bestTaker 55 = .ok (.invokevirtual 210, 3) := by decide +kernel
theorem dX4_bestTaker_58 : decode cX4_bestTaker 58 = .ok (.istore 9, 2) := by decide +kernel
theorem dX4_bestTaker_60 : decode cX4_bestTaker 60 = .ok (.iload 9, 2) := by decide +kernel
theorem dX4_bestTaker_62 : decode cX4_bestTaker 62 = .ok (.iload_n 2, 1) := by decide +kernel
theorem dX4_bestTaker_63 : decode cX4_bestTaker 63 = .ok (.if_icmp .lt 17, 3) := by decide +kernel
theorem dX4_bestTaker_66 : decode cX4_bestTaker 66 = .ok (.iload 9, 2) := by decide +kernel
theorem dX4_bestTaker_68 : decode cX4_bestTaker 68 = .ok (.iload 4, 2) := by decide +kernel
theorem dX4_bestTaker_70 : decode cX4_bestTaker 70 = .ok (.if_icmp .le 10, 3) := by decide +kernel
theorem dX4_bestTaker_73 : decode cX4_bestTaker 73 = .ok (.aload 8, 2) := by decide +kernel
theorem dX4_bestTaker_75 : decode cX4_bestTaker 75 = .ok (.astore_n 3, 1) := by decide +kernel
theorem dX4_bestTaker_76 : decode cX4_bestTaker 76 = .ok (.iload 9, 2) := by decide +kernel
theorem dX4_bestTaker_78 : decode cX4_bestTaker 78 = .ok (.istore 4, 2) := by decide +kernel
theorem dX4_bestTaker_80 : decode cX4_bestTaker 80 = .ok (.iinc 7 1, 3) := by decide +kernel
theorem dX4_bestTaker_83 : decode cX4_bestTaker 83 = .ok (.goto (-64), 3) := by decide +kernel
theorem dX4_bestTaker_86 : decode cX4_bestTaker 86 = .ok (.aload_n 3, 1) := by decide +kernel
theorem dX4_bestTaker_87 : decode cX4_bestTaker 87 = .ok (.areturn, 1) := by decide +kernel
theorem dX4_priceFromBuyers_0 : decode cX4_priceFromBuyers 0 = .ok (.iconst (-1), 1) := by decide +kernel
theorem dX4_priceFromBuyers_1 : decode cX4_priceFromBuyers 1 = .ok (.istore_n 2, 1) := by decide +kernel
theorem dX4_priceFromBuyers_2 : decode cX4_priceFromBuyers 2 = .ok (.aload_n 0, 1) := by decide +kernel
theorem dX4_priceFromBuyers_3 : decode cX4_priceFromBuyers 3 = .ok (.getfield 23, 3) := by decide +kernel
theorem dX4_priceFromBuyers_6 : decode cX4_priceFromBuyers 6 = .ok (.astore_n 3, 1) := by decide +kernel
theorem dX4_priceFromBuyers_7 : decode cX4_priceFromBuyers 7 = .ok (.aload_n 3, 1) := by decide +kernel
theorem dX4_priceFromBuyers_8 : decode cX4_priceFromBuyers 8 = .ok (.arraylength, 1) := by decide +kernel
theorem dX4_priceFromBuyers_9 : decode cX4_priceFromBuyers 9 = .ok (.istore 4, 2) := by decide +kernel
theorem dX4_priceFromBuyers_11 : decode cX4_priceFromBuyers 11 = .ok (.iconst 0, 1) := by decide +kernel
theorem dX4_priceFromBuyers_12 : decode cX4_priceFromBuyers 12 = .ok (.istore 5, 2) := by decide +kernel
theorem dX4_priceFromBuyers_14 : decode cX4_priceFromBuyers 14 = .ok (.iload 5, 2) := by decide +kernel
theorem dX4_priceFromBuyers_16 : decode cX4_priceFromBuyers 16 = .ok (.iload 4, 2) := by decide +kernel
theorem dX4_priceFromBuyers_18 : decode cX4_priceFromBuyers 18 = .ok (.if_icmp .ge 35, 3) := by decide +kernel
theorem dX4_priceFromBuyers_21 : decode cX4_priceFromBuyers 21 = .ok (.aload_n 3, 1) := by decide +kernel
theorem dX4_priceFromBuyers_22 : decode cX4_priceFromBuyers 22 = .ok (.iload 5, 2) := by decide +kernel
theorem dX4_priceFromBuyers_24 : decode cX4_priceFromBuyers 24 = .ok (.aaload, 1) := by decide +kernel
theorem dX4_priceFromBuyers_25 : decode cX4_priceFromBuyers 25 = .ok (.astore 6, 2) := by decide +kernel
theorem dX4_priceFromBuyers_27 : decode cX4_priceFromBuyers 27 = .ok (.aload 6, 2) := by decide +kernel
theorem dX4_priceFromBuyers_29 : decode cX4_priceFromBuyers 29 = .ok (.ifnull 18, 3) := by decide +kernel
theorem dX4_priceFromBuyers_32 : decode cX4_priceFromBuyers 32 = .ok (.iload_n 2, 1) := by decide +kernel
theorem dX4_priceFromBuyers_33 : decode cX4_priceFromBuyers 33 = .ok (.aload_n 0, 1) := by decide +kernel
theorem dX4_priceFromBuyers_34 : decode cX4_priceFromBuyers 34 = .ok (.aload 6, 2) := by decide +kernel
theorem dX4_priceFromBuyers_36 : decode cX4_priceFromBuyers 36 = .ok (.aload_n 1, 1) := by decide +kernel
theorem dX4_priceFromBuyers_37 : decode cX4_priceFromBuyers 37 = .ok (.invokevirtual 332, 3) := by decide +kernel
theorem dX4_priceFromBuyers_40 : decode cX4_priceFromBuyers 40 = .ok (.invokevirtual 335, 3) := by decide +kernel
theorem dX4_priceFromBuyers_43 : decode cX4_priceFromBuyers 43 = .ok (.invokestatic 329, 3) := by decide +kernel
theorem dX4_priceFromBuyers_46 : decode cX4_priceFromBuyers 46 = .ok (.istore_n 2, 1) := by decide +kernel
theorem dX4_priceFromBuyers_47 : decode cX4_priceFromBuyers 47 = .ok (.iinc 5 1, 3) := by decide +kernel
theorem dX4_priceFromBuyers_50 : decode cX4_priceFromBuyers 50 = .ok (.goto (-36), 3) := by decide +kernel
theorem dX4_priceFromBuyers_53 : decode cX4_priceFromBuyers 53 = .ok (.iload_n 2, 1) := by decide +kernel
theorem dX4_priceFromBuyers_54 : decode cX4_priceFromBuyers 54 = .ok (.ireturn, 1) := by decide +kernel
theorem dX4_greatestShownUpTo_0 : decode cX4_greatestShownUpTo 0 = .ok (.iload_n 1, 1) := by decide +kernel
theorem dX4_greatestShownUpTo_1 : decode cX4_greatestShownUpTo 1 = .ok (.aload_n 0, 1) := by decide +kernel
theorem dX4_greatestShownUpTo_2 : decode cX4_greatestShownUpTo 2 = .ok (.getfield 55, 3) := by decide +kernel
theorem dX4_greatestShownUpTo_5 : decode cX4_greatestShownUpTo 5 = .ok (.if_icmp .lt 8, 3) := by decide +kernel
theorem dX4_greatestShownUpTo_8 : decode cX4_greatestShownUpTo 8 = .ok (.aload_n 0, 1) := by decide +kernel
theorem dX4_greatestShownUpTo_9 : decode cX4_greatestShownUpTo 9 = .ok (.getfield 55, 3) := by decide +kernel
theorem dX4_greatestShownUpTo_12 : decode cX4_greatestShownUpTo 12 = .ok (.ireturn, 1) := by decide +kernel
theorem dX4_greatestShownUpTo_13 : decode cX4_greatestShownUpTo 13 = .ok (.aload_n 0, 1) := by decide +kernel
theorem dX4_greatestShownUpTo_14 : decode cX4_greatestShownUpTo 14 = .ok (.getfield 58, 3) := by decide +kernel
theorem dX4_greatestShownUpTo_17 : decode cX4_greatestShownUpTo 17 = .ok (.iconst 1, 1) := by decide +kernel
theorem dX4_greatestShownUpTo_18 : decode cX4_greatestShownUpTo 18 = .ok (.if_icmp .ge 5, 3) := by decide +kernel
theorem dX4_greatestShownUpTo_21 : decode cX4_greatestShownUpTo 21 = .ok (.iconst (-1), 1) := by decide +kernel
theorem dX4_greatestShownUpTo_22 : decode cX4_greatestShownUpTo 22 = .ok (.ireturn, 1) := by decide +kernel
theorem dX4_greatestShownUpTo_23 : decode cX4_greatestShownUpTo 23 = .ok (.aload_n 0, 1) := by decide +kernel
theorem dX4_greatestShownUpTo_24 : decode cX4_greatestShownUpTo 24 = .ok (.getfield 55, 3) := by decide +kernel
theorem dX4_greatestShownUpTo_27 : decode cX4_greatestShownUpTo 27 = .ok (.iload_n 1, 1) := by decide +kernel
theorem dX4_greatestShownUpTo_28 : decode cX4_greatestShownUpTo 28 = .ok (.isub, 1) := by decide +kernel
theorem dX4_greatestShownUpTo_29 : decode cX4_greatestShownUpTo 29 = .ok (.aload_n 0, 1) := by decide +kernel
theorem dX4_greatestShownUpTo_30 : decode cX4_greatestShownUpTo 30 = .ok (.getfield 58, 3) := by decide +kernel
theorem dX4_greatestShownUpTo_33 : decode cX4_greatestShownUpTo 33 = .ok (.iadd, 1) := by decide +kernel
theorem dX4_greatestShownUpTo_34 : decode cX4_greatestShownUpTo 34 = .ok (.iconst 1, 1) := by decide +kernel
theorem dX4_greatestShownUpTo_35 : decode cX4_greatestShownUpTo 35 = .ok (.isub, 1) := by decide +kernel
theorem dX4_greatestShownUpTo_36 : decode cX4_greatestShownUpTo 36 = .ok (.aload_n 0, 1) := by decide +kernel
theorem dX4_greatestShownUpTo_37 : decode cX4_greatestShownUpTo 37 = .ok (.getfield 58, 3) := by decide +kernel
theorem dX4_greatestShownUpTo_40 : decode cX4_greatestShownUpTo 40 = .ok (.idiv, 1) := by decide +kernel
theorem dX4_greatestShownUpTo_41 : decode cX4_greatestShownUpTo 41 = .ok (.istore_n 2, 1) := by decide +kernel
theorem dX4_greatestShownUpTo_42 : decode cX4_greatestShownUpTo 42 = .ok (.aload_n 0, 1) := by decide +kernel
theorem dX4_greatestShownUpTo_43 : decode cX4_greatestShownUpTo 43 = .ok (.getfield 55, 3) := by decide +kernel
theorem dX4_greatestShownUpTo_46 : decode cX4_greatestShownUpTo 46 = .ok (.iload_n 2, 1) := by decide +kernel
theorem dX4_greatestShownUpTo_47 : decode cX4_greatestShownUpTo 47 = .ok (.aload_n 0, 1) := by decide +kernel
theorem dX4_greatestShownUpTo_48 : decode cX4_greatestShownUpTo 48 = .ok (.getfield 58, 3) := by decide +kernel
theorem dX4_greatestShownUpTo_51 : decode cX4_greatestShownUpTo 51 = .ok (.imul, 1) := by decide +kernel
theorem dX4_greatestShownUpTo_52 : decode cX4_greatestShownUpTo 52 = .ok (.isub, 1) := by decide +kernel
theorem dX4_greatestShownUpTo_53 : decode cX4_greatestShownUpTo 53 = .ok (.istore_n 3, 1) := by decide +kernel
theorem dX4_greatestShownUpTo_54 : decode cX4_greatestShownUpTo 54 = .ok (.iload_n 3, 1) := by decide +kernel
theorem dX4_greatestShownUpTo_55 : decode cX4_greatestShownUpTo 55 = .ok (.aload_n 0, 1) := by decide +kernel
theorem dX4_greatestShownUpTo_56 : decode cX4_greatestShownUpTo 56 = .ok (.getfield 61, 3) := by decide +kernel
theorem dX4_greatestShownUpTo_59 : decode cX4_greatestShownUpTo 59 = .ok (.if_icmp .ge 7, 3) := by decide +kernel
theorem dX4_greatestShownUpTo_62 : decode cX4_greatestShownUpTo 62 = .ok (.iconst (-1), 1) := by decide +kernel
theorem dX4_greatestShownUpTo_63 : decode cX4_greatestShownUpTo 63 = .ok (.goto 4, 3) := by decide +kernel
theorem dX4_greatestShownUpTo_66 : decode cX4_greatestShownUpTo 66 = .ok (.iload_n 3, 1) := by decide +kernel
theorem dX4_greatestShownUpTo_67 : decode cX4_greatestShownUpTo 67 = .ok (.ireturn, 1) := by decide +kernel
theorem dX4_deliverAll_0 : decode cX4_deliverAll 0 = .ok (.aload_n 1, 1) := by decide +kernel
theorem dX4_deliverAll_1 : decode cX4_deliverAll 1 = .ok (.getfield 276, 3) := by decide +kernel
theorem dX4_deliverAll_4 : decode cX4_deliverAll 4 = .ok (.astore_n 2, 1) := by decide +kernel
theorem dX4_deliverAll_5 : decode cX4_deliverAll 5 = .ok (.aload_n 2, 1) := by decide +kernel
theorem dX4_deliverAll_6 : decode cX4_deliverAll 6 = .ok (.arraylength, 1) := by decide +kernel
theorem dX4_deliverAll_7 : decode cX4_deliverAll 7 = .ok (.istore_n 3, 1) := by decide +kernel
theorem dX4_deliverAll_8 : decode cX4_deliverAll 8 = .ok (.iconst 0, 1) := by decide +kernel
theorem dX4_deliverAll_9 : decode cX4_deliverAll 9 = .ok (.istore 4, 2) := by decide +kernel
theorem dX4_deliverAll_11 : decode cX4_deliverAll 11 = .ok (.iload 4, 2) := by decide +kernel
theorem dX4_deliverAll_13 : decode cX4_deliverAll 13 = .ok (.iload_n 3, 1) := by decide +kernel
theorem dX4_deliverAll_14 : decode cX4_deliverAll 14 = .ok (.if_icmp .ge 33, 3) := by decide +kernel
theorem dX4_deliverAll_17 : decode cX4_deliverAll 17 = .ok (.aload_n 2, 1) := by decide +kernel
theorem dX4_deliverAll_18 : decode cX4_deliverAll 18 = .ok (.iload 4, 2) := by decide +kernel
theorem dX4_deliverAll_20 : decode cX4_deliverAll 20 = .ok (.aaload, 1) := by decide +kernel
theorem dX4_deliverAll_21 : decode cX4_deliverAll 21 = .ok (.astore 5, 2) := by decide +kernel
theorem dX4_deliverAll_23 : decode cX4_deliverAll 23 = .ok (.aload 5, 2) := by decide +kernel
theorem dX4_deliverAll_25 : decode cX4_deliverAll 25 = .ok (.ifnull 16, 3) := by decide +kernel
theorem dX4_deliverAll_28 : decode cX4_deliverAll 28 = .ok (.aload 5, 2) := by decide +kernel
theorem dX4_deliverAll_30 : decode cX4_deliverAll 30 = .ok (.bipush 100, 2) := by decide +kernel
theorem dX4_deliverAll_32 : decode cX4_deliverAll 32 = .ok (.putfield 152, 3) := by decide +kernel
theorem dX4_deliverAll_35 : decode cX4_deliverAll 35 = .ok (.aload_n 0, 1) := by decide +kernel
theorem dX4_deliverAll_36 : decode cX4_deliverAll 36 = .ok (.aload 5, 2) := by decide +kernel
theorem dX4_deliverAll_38 : decode cX4_deliverAll 38 = .ok (.invokevirtual 339, 3) := by decide +kernel
theorem dX4_deliverAll_41 : decode cX4_deliverAll 41 = .ok (.iinc 4 1, 3) := by decide +kernel
theorem dX4_deliverAll_44 : decode cX4_deliverAll 44 = .ok (.goto (-33), 3) := by decide +kernel
theorem dX4_deliverAll_47 : decode cX4_deliverAll 47 = .ok (.return_, 1) := by decide +kernel
theorem dX4_giveMoneyBack_0 : decode cX4_giveMoneyBack 0 = .ok (.aload_n 1, 1) := by decide +kernel
theorem dX4_giveMoneyBack_1 : decode cX4_giveMoneyBack 1 = .ok (.getfield 231, 3) := by decide +kernel
theorem dX4_giveMoneyBack_4 : decode cX4_giveMoneyBack 4 = .ok (.astore_n 2, 1) := by decide +kernel
theorem dX4_giveMoneyBack_5 : decode cX4_giveMoneyBack 5 = .ok (.aload_n 2, 1) := by decide +kernel
theorem dX4_giveMoneyBack_6 : decode cX4_giveMoneyBack 6 = .ok (.ifnull 14, 3) := by decide +kernel
theorem dX4_giveMoneyBack_9 : decode cX4_giveMoneyBack 9 = .ok (.aload_n 1, 1) := by decide +kernel
theorem dX4_giveMoneyBack_10 : decode cX4_giveMoneyBack 10 = .ok (.getfield 156, 3) := by decide +kernel
theorem dX4_giveMoneyBack_13 : decode cX4_giveMoneyBack 13 = .ok (.ldc_w 342, 3) := by decide +kernel
theorem dX4_giveMoneyBack_16 : decode cX4_giveMoneyBack 16 = .ok (.fcmp .l, 1) := by decide +kernel
theorem dX4_giveMoneyBack_17 : decode cX4_giveMoneyBack 17 = .ok (.ifCond .lt 4, 3) := by decide +kernel
theorem dX4_giveMoneyBack_20 : decode cX4_giveMoneyBack 20 = .ok (.return_, 1) := by decide +kernel
theorem dX4_giveMoneyBack_21 : decode cX4_giveMoneyBack 21 = .ok (.aload_n 1, 1) := by decide +kernel
theorem dX4_giveMoneyBack_22 : decode cX4_giveMoneyBack 22 = .ok (.getfield 235, 3) := by decide +kernel
theorem dX4_giveMoneyBack_25 : decode cX4_giveMoneyBack 25 = .ok (.i2f, 1) := by decide +kernel
theorem dX4_giveMoneyBack_26 : decode cX4_giveMoneyBack 26 = .ok (.ldc_w 342, 3) := by decide +kernel
theorem dX4_giveMoneyBack_29 : decode cX4_giveMoneyBack 29 = .ok (.aload_n 1, 1) := by decide +kernel
theorem dX4_giveMoneyBack_30 : decode cX4_giveMoneyBack 30 = .ok (.getfield 156, 3) := by decide +kernel
theorem dX4_giveMoneyBack_33 : decode cX4_giveMoneyBack 33 = .ok (.fsub, 1) := by decide +kernel
theorem dX4_giveMoneyBack_34 : decode cX4_giveMoneyBack 34 = .ok (.fmul, 1) := by decide +kernel
theorem dX4_giveMoneyBack_35 : decode cX4_giveMoneyBack 35 = .ok (.ldc_w 343, 3) := by decide +kernel
theorem dX4_giveMoneyBack_38 : decode cX4_giveMoneyBack 38 = .ok (.fdiv, 1) := by decide +kernel
theorem dX4_giveMoneyBack_39 : decode cX4_giveMoneyBack 39 = .ok (.f2i, 1) := by decide +kernel
theorem dX4_giveMoneyBack_40 : decode cX4_giveMoneyBack 40 = .ok (.istore_n 3, 1) := by decide +kernel
theorem dX4_giveMoneyBack_41 : decode cX4_giveMoneyBack 41 = .ok (.aload_n 2, 1) := by decide +kernel
theorem dX4_giveMoneyBack_42 : decode cX4_giveMoneyBack 42 = .ok (.dup, 1) := by decide +kernel
theorem dX4_giveMoneyBack_43 : decode cX4_giveMoneyBack 43 = .ok (.getfield 205, 3) := by decide +kernel
theorem dX4_giveMoneyBack_46 : decode cX4_giveMoneyBack 46 = .ok (.iload_n 3, 1) := by decide +kernel
theorem dX4_giveMoneyBack_47 : decode cX4_giveMoneyBack 47 = .ok (.iadd, 1) := by decide +kernel
theorem dX4_giveMoneyBack_48 : decode cX4_giveMoneyBack 48 = .ok (.putfield 205, 3) := by decide +kernel
theorem dX4_giveMoneyBack_51 : decode cX4_giveMoneyBack 51 = .ok (.aload_n 1, 1) := by decide +kernel
theorem dX4_giveMoneyBack_52 : decode cX4_giveMoneyBack 52 = .ok (.dup, 1) := by decide +kernel
theorem dX4_giveMoneyBack_53 : decode cX4_giveMoneyBack 53 = .ok (.getfield 235, 3) := by decide +kernel
theorem dX4_giveMoneyBack_56 : decode cX4_giveMoneyBack 56 = .ok (.iload_n 3, 1) := by decide +kernel
theorem dX4_giveMoneyBack_57 : decode cX4_giveMoneyBack 57 = .ok (.isub, 1) := by decide +kernel
theorem dX4_giveMoneyBack_58 : decode cX4_giveMoneyBack 58 = .ok (.putfield 235, 3) := by decide +kernel
theorem dX4_giveMoneyBack_61 : decode cX4_giveMoneyBack 61 = .ok (.aload_n 0, 1) := by decide +kernel
theorem dX4_giveMoneyBack_62 : decode cX4_giveMoneyBack 62 = .ok (.dup, 1) := by decide +kernel
theorem dX4_giveMoneyBack_63 : decode cX4_giveMoneyBack 63 = .ok (.getfield 64, 3) := by decide +kernel
theorem dX4_giveMoneyBack_66 : decode cX4_giveMoneyBack 66 = .ok (.iload_n 3, 1) := by decide +kernel
theorem dX4_giveMoneyBack_67 : decode cX4_giveMoneyBack 67 = .ok (.i2l, 1) := by decide +kernel
theorem dX4_giveMoneyBack_68 : decode cX4_giveMoneyBack 68 = .ok (.lsub, 1) := by decide +kernel
theorem dX4_giveMoneyBack_69 : decode cX4_giveMoneyBack 69 = .ok (.putfield 64, 3) := by decide +kernel
theorem dX4_giveMoneyBack_72 : decode cX4_giveMoneyBack 72 = .ok (.return_, 1) := by decide +kernel
theorem dX4_weightOfAllLots_0 : decode cX4_weightOfAllLots 0 = .ok (.iconst 0, 1) := by decide +kernel
theorem dX4_weightOfAllLots_1 : decode cX4_weightOfAllLots 1 = .ok (.istore_n 1, 1) := by decide +kernel
theorem dX4_weightOfAllLots_2 : decode cX4_weightOfAllLots 2 = .ok (.aload_n 0, 1) := by decide +kernel
theorem dX4_weightOfAllLots_3 : decode cX4_weightOfAllLots 3 = .ok (.getfield 17, 3) := by decide +kernel
theorem dX4_weightOfAllLots_6 : decode cX4_weightOfAllLots 6 = .ok (.astore_n 2, 1) := by decide +kernel
theorem dX4_weightOfAllLots_7 : decode cX4_weightOfAllLots 7 = .ok (.aload_n 2, 1) := by decide +kernel
theorem dX4_weightOfAllLots_8 : decode cX4_weightOfAllLots 8 = .ok (.arraylength, 1) := by decide +kernel
theorem dX4_weightOfAllLots_9 : decode cX4_weightOfAllLots 9 = .ok (.istore_n 3, 1) := by decide +kernel
theorem dX4_weightOfAllLots_10 : decode cX4_weightOfAllLots 10 = .ok (.iconst 0, 1) := by decide +kernel
theorem dX4_weightOfAllLots_11 : decode cX4_weightOfAllLots 11 = .ok (.istore 4, 2) := by decide +kernel
theorem dX4_weightOfAllLots_13 : decode cX4_weightOfAllLots 13 = .ok (.iload 4, 2) := by decide +kernel
theorem dX4_weightOfAllLots_15 : decode cX4_weightOfAllLots 15 = .ok (.iload_n 3, 1) := by decide +kernel
theorem dX4_weightOfAllLots_16 : decode cX4_weightOfAllLots 16 = .ok (.if_icmp .ge 28, 3) := by decide +kernel
theorem dX4_weightOfAllLots_19 : decode cX4_weightOfAllLots 19 = .ok (.aload_n 2, 1) := by decide +kernel
theorem dX4_weightOfAllLots_20 : decode cX4_weightOfAllLots 20 = .ok (.iload 4, 2) := by decide +kernel
theorem dX4_weightOfAllLots_22 : decode cX4_weightOfAllLots 22 = .ok (.aaload, 1) := by decide +kernel
theorem dX4_weightOfAllLots_23 : decode cX4_weightOfAllLots 23 = .ok (.astore 5, 2) := by decide +kernel
theorem dX4_weightOfAllLots_25 : decode cX4_weightOfAllLots 25 = .ok (.aload 5, 2) := by decide +kernel
theorem dX4_weightOfAllLots_27 : decode cX4_weightOfAllLots 27 = .ok (.ifnull 11, 3) := by decide +kernel
theorem dX4_weightOfAllLots_30 : decode cX4_weightOfAllLots 30 = .ok (.iload_n 1, 1) := by decide +kernel
theorem dX4_weightOfAllLots_31 : decode cX4_weightOfAllLots 31 = .ok (.aload 5, 2) := by decide +kernel
theorem dX4_weightOfAllLots_33 : decode cX4_weightOfAllLots 33 = .ok (.getfield 149, 3) := by decide +kernel
theorem dX4_weightOfAllLots_36 : decode cX4_weightOfAllLots 36 = .ok (.iadd, 1) := by decide +kernel
theorem dX4_weightOfAllLots_37 : decode cX4_weightOfAllLots 37 = .ok (.istore_n 1, 1) := by decide +kernel
theorem dX4_weightOfAllLots_38 : decode cX4_weightOfAllLots 38 = .ok (.iinc 4 1, 3) := by decide +kernel
theorem dX4_weightOfAllLots_41 : decode cX4_weightOfAllLots 41 = .ok (.goto (-28), 3) := by decide +kernel
theorem dX4_weightOfAllLots_44 : decode cX4_weightOfAllLots 44 = .ok (.iload_n 1, 1) := by decide +kernel
theorem dX4_weightOfAllLots_45 : decode cX4_weightOfAllLots 45 = .ok (.ireturn, 1) := by decide +kernel
theorem dX4_weightOfSoldLots_0 : decode cX4_weightOfSoldLots 0 = .ok (.iconst 0, 1) := by decide +kernel
theorem dX4_weightOfSoldLots_1 : decode cX4_weightOfSoldLots 1 = .ok (.istore_n 1, 1) := by decide +kernel
theorem dX4_weightOfSoldLots_2 : decode cX4_weightOfSoldLots 2 = .ok (.aload_n 0, 1) := by decide +kernel
theorem dX4_weightOfSoldLots_3 : decode cX4_weightOfSoldLots 3 = .ok (.getfield 17, 3) := by decide +kernel
theorem dX4_weightOfSoldLots_6 : decode cX4_weightOfSoldLots 6 = .ok (.astore_n 2, 1) := by decide +kernel
theorem dX4_weightOfSoldLots_7 : decode cX4_weightOfSoldLots 7 = .ok (.aload_n 2, 1) := by decide +kernel
theorem dX4_weightOfSoldLots_8 : decode cX4_weightOfSoldLots 8 = .ok (.arraylength, 1) := by decide +kernel
theorem dX4_weightOfSoldLots_9 : decode cX4_weightOfSoldLots 9 = .ok (.istore_n 3, 1) := by decide +kernel
theorem dX4_weightOfSoldLots_10 : decode cX4_weightOfSoldLots 10 = .ok (.iconst 0, 1) := by decide +kernel
theorem dX4_weightOfSoldLots_11 : decode cX4_weightOfSoldLots 11 = .ok (.istore 4, 2) := by decide +kernel
theorem dX4_weightOfSoldLots_13 : decode cX4_weightOfSoldLots 13 = .ok (.iload 4, 2) := by decide +kernel
theorem dX4_weightOfSoldLots_15 : decode cX4_weightOfSoldLots 15 = .ok (.iload_n 3, 1) := by decide +kernel
theorem dX4_weightOfSoldLots_16 : decode cX4_weightOfSoldLots 16 = .ok (.if_icmp .ge 36, 3) := by decide +kernel
theorem dX4_weightOfSoldLots_19 : decode cX4_weightOfSoldLots 19 = .ok (.aload_n 2, 1) := by decide +kernel
theorem dX4_weightOfSoldLots_20 : decode cX4_weightOfSoldLots 20 = .ok (.iload 4, 2) := by decide +kernel
theorem dX4_weightOfSoldLots_22 : decode cX4_weightOfSoldLots 22 = .ok (.aaload, 1) := by decide +kernel
theorem dX4_weightOfSoldLots_23 : decode cX4_weightOfSoldLots 23 = .ok (.astore 5, 2) := by decide +kernel
theorem dX4_weightOfSoldLots_25 : decode cX4_weightOfSoldLots 25 = .ok (.aload 5, 2) := by decide +kernel
theorem dX4_weightOfSoldLots_27 : decode cX4_weightOfSoldLots 27 = .ok (.ifnull 19, 3) := by decide +kernel
theorem dX4_weightOfSoldLots_30 : decode cX4_weightOfSoldLots 30 = .ok (.aload 5, 2) := by decide +kernel
theorem dX4_weightOfSoldLots_32 : decode cX4_weightOfSoldLots 32 = .ok (.invokevirtual 344, 3) := by decide +kernel
theorem dX4_weightOfSoldLots_35 : decode cX4_weightOfSoldLots 35 = .ok (.ifCond .eq 11, 3) := by decide +kernel
theorem dX4_weightOfSoldLots_38 : decode cX4_weightOfSoldLots 38 = .ok (.iload_n 1, 1) := by decide +kernel
theorem dX4_weightOfSoldLots_39 : decode cX4_weightOfSoldLots 39 = .ok (.aload 5, 2) := by decide +kernel
theorem dX4_weightOfSoldLots_41 : decode cX4_weightOfSoldLots 41 = .ok (.getfield 149, 3) := by decide +kernel
theorem dX4_weightOfSoldLots_44 : decode cX4_weightOfSoldLots 44 = .ok (.iadd, 1) := by decide +kernel
theorem dX4_weightOfSoldLots_45 : decode cX4_weightOfSoldLots 45 = .ok (.istore_n 1, 1) := by decide +kernel
theorem dX4_weightOfSoldLots_46 : decode cX4_weightOfSoldLots 46 = .ok (.iinc 4 1, 3) := by decide +kernel
theorem dX4_weightOfSoldLots_49 : decode cX4_weightOfSoldLots 49 = .ok (.goto (-36), 3) := by decide +kernel
theorem dX4_weightOfSoldLots_52 : decode cX4_weightOfSoldLots 52 = .ok (.iload_n 1, 1) := by decide +kernel
theorem dX4_weightOfSoldLots_53 : decode cX4_weightOfSoldLots 53 = .ok (.ireturn, 1) := by decide +kernel
theorem dX4_meanOfSoldKilograms_0 : decode cX4_meanOfSoldKilograms 0 = .ok (.aload_n 0, 1) := by decide +kernel
theorem dX4_meanOfSoldKilograms_1 : decode cX4_meanOfSoldKilograms 1 = .ok (.invokevirtual 290, 3) := by decide +kernel
theorem dX4_meanOfSoldKilograms_4 : decode cX4_meanOfSoldKilograms 4 = .ok (.istore_n 1, 1) := by decide +kernel
theorem dX4_meanOfSoldKilograms_5 : decode cX4_meanOfSoldKilograms 5 = .ok (.iload_n 1, 1) := by decide +kernel
theorem dX4_meanOfSoldKilograms_6 : decode cX4_meanOfSoldKilograms 6 = .ok (.ifCond .ne 14, 3) := by decide +kernel
theorem dX4_meanOfSoldKilograms_9 : decode cX4_meanOfSoldKilograms 9 = .ok (.new 285, 3) := by decide +kernel
theorem dX4_meanOfSoldKilograms_12 : decode cX4_meanOfSoldKilograms 12 = .ok (.dup, 1) := by decide +kernel
theorem dX4_meanOfSoldKilograms_13 : decode cX4_meanOfSoldKilograms 13 = .ok (.ldc_w 347, 3) := by decide +kernel
theorem dX4_meanOfSoldKilograms_16 : decode cX4_meanOfSoldKilograms 16 = .ok (.invokespecial 289, 3) := by decide +kernel
theorem dX4_meanOfSoldKilograms_19 : decode cX4_meanOfSoldKilograms 19 = .ok (.athrow, 1) := by decide +kernel
theorem dX4_meanOfSoldKilograms_20 : decode cX4_meanOfSoldKilograms 20 = .ok (.aload_n 0, 1) := by decide +kernel
theorem dX4_meanOfSoldKilograms_21 : decode cX4_meanOfSoldKilograms 21 = .ok (.getfield 64, 3) := by decide +kernel
theorem dX4_meanOfSoldKilograms_24 : decode cX4_meanOfSoldKilograms 24 = .ok (.l2d, 1) := by decide +kernel
theorem dX4_meanOfSoldKilograms_25 : decode cX4_meanOfSoldKilograms 25 = .ok (.iload_n 1, 1) := by decide +kernel
theorem dX4_meanOfSoldKilograms_26 : decode cX4_meanOfSoldKilograms 26 = .ok (.i2d, 1) := by decide +kernel
theorem dX4_meanOfSoldKilograms_27 : decode cX4_meanOfSoldKilograms 27 = .ok (.ddiv, 1) := by decide +kernel
theorem dX4_meanOfSoldKilograms_28 : decode cX4_meanOfSoldKilograms 28 = .ok (.dreturn, 1) := by decide +kernel
theorem dX4_arePricesSound_0 : decode cX4_arePricesSound 0 = .ok (.aload_n 0, 1) := by decide +kernel
theorem dX4_arePricesSound_1 : decode cX4_arePricesSound 1 = .ok (.getfield 17, 3) := by decide +kernel
theorem dX4_arePricesSound_4 : decode cX4_arePricesSound 4 = .ok (.astore_n 1, 1) := by decide +kernel
theorem dX4_arePricesSound_5 : decode cX4_arePricesSound 5 = .ok (.aload_n 1, 1) := by decide +kernel
theorem dX4_arePricesSound_6 : decode cX4_arePricesSound 6 = .ok (.arraylength, 1) := by decide +kernel
theorem dX4_arePricesSound_7 : decode cX4_arePricesSound 7 = .ok (.istore_n 2, 1) := by decide +kernel
theorem dX4_arePricesSound_8 : decode cX4_arePricesSound 8 = .ok (.iconst 0, 1) := by decide +kernel
theorem dX4_arePricesSound_9 : decode cX4_arePricesSound 9 = .ok (.istore_n 3, 1) := by decide +kernel
theorem dX4_arePricesSound_10 : decode cX4_arePricesSound 10 = .ok (.iload_n 3, 1) := by decide +kernel
theorem dX4_arePricesSound_11 : decode cX4_arePricesSound 11 = .ok (.iload_n 2, 1) := by decide +kernel
theorem dX4_arePricesSound_12 : decode cX4_arePricesSound 12 = .ok (.if_icmp .ge 46, 3) := by decide +kernel
theorem dX4_arePricesSound_15 : decode cX4_arePricesSound 15 = .ok (.aload_n 1, 1) := by decide +kernel
theorem dX4_arePricesSound_16 : decode cX4_arePricesSound 16 = .ok (.iload_n 3, 1) := by decide +kernel
theorem dX4_arePricesSound_17 : decode cX4_arePricesSound 17 = .ok (.aaload, 1) := by decide +kernel
theorem dX4_arePricesSound_18 : decode cX4_arePricesSound 18 = .ok (.astore 4, 2) := by decide +kernel
theorem dX4_arePricesSound_20 : decode cX4_arePricesSound 20 = .ok (.aload 4, 2) := by decide +kernel
theorem dX4_arePricesSound_22 : decode cX4_arePricesSound 22 = .ok (.ifnull 30, 3) := by decide +kernel
theorem dX4_arePricesSound_25 : decode cX4_arePricesSound 25 = .ok (.aload 4, 2) := by decide +kernel
theorem dX4_arePricesSound_27 : decode cX4_arePricesSound 27 = .ok (.getfield 152, 3) := by decide +kernel
theorem dX4_arePricesSound_30 : decode cX4_arePricesSound 30 = .ok (.bipush 102, 2) := by decide +kernel
theorem dX4_arePricesSound_32 : decode cX4_arePricesSound 32 = .ok (.if_icmp .ne 20, 3) := by decide +kernel
theorem dX4_arePricesSound_35 : decode cX4_arePricesSound 35 = .ok (.aload_n 0, 1) := by decide +kernel
theorem dX4_arePricesSound_36 : decode cX4_arePricesSound 36 = .ok (.aload 4, 2) := by decide +kernel
theorem dX4_arePricesSound_38 : decode cX4_arePricesSound 38 = .ok (.invokevirtual 217, 3) := by decide +kernel
theorem dX4_arePricesSound_41 : decode cX4_arePricesSound 41 = .ok (.aload_n 0, 1) := by decide +kernel
theorem dX4_arePricesSound_42 : decode cX4_arePricesSound 42 = .ok (.aload 4, 2) := by decide +kernel
theorem dX4_arePricesSound_44 : decode cX4_arePricesSound 44 = .ok (.invokevirtual 222, 3) := by decide +kernel
theorem dX4_arePricesSound_47 : decode cX4_arePricesSound 47 = .ok (.if_icmp .eq 5, 3) := by decide +kernel
theorem dX4_arePricesSound_50 : decode cX4_arePricesSound 50 = .ok (.iconst 0, 1) := by decide +kernel
theorem dX4_arePricesSound_51 : decode cX4_arePricesSound 51 = .ok (.ireturn, 1) := by decide +kernel
theorem dX4_arePricesSound_52 : decode cX4_arePricesSound 52 = .ok (.iinc 3 1, 3) := by decide +kernel
theorem dX4_arePricesSound_55 : decode cX4_arePricesSound 55 = .ok (.goto (-45), 3) := by decide +kernel
theorem dX4_arePricesSound_58 : decode cX4_arePricesSound 58 = .ok (.iconst 1, 1) := by decide +kernel
theorem dX4_arePricesSound_59 : decode cX4_arePricesSound 59 = .ok (.ireturn, 1) := by decide +kernel
theorem dX4_areQuotasSound_0 : decode cX4_areQuotasSound 0 = .ok (.aload_n 0, 1) := by decide +kernel
theorem dX4_areQuotasSound_1 : decode cX4_areQuotasSound 1 = .ok (.getfield 11, 3) := by decide +kernel
theorem dX4_areQuotasSound_4 : decode cX4_areQuotasSound 4 = .ok (.astore_n 1, 1) := by decide +kernel
theorem dX4_areQuotasSound_5 : decode cX4_areQuotasSound 5 = .ok (.aload_n 1, 1) := by decide +kernel
theorem dX4_areQuotasSound_6 : decode cX4_areQuotasSound 6 = .ok (.arraylength, 1) := by decide +kernel
theorem dX4_areQuotasSound_7 : decode cX4_areQuotasSound 7 = .ok (.istore_n 2, 1) := by decide +kernel
theorem dX4_areQuotasSound_8 : decode cX4_areQuotasSound 8 = .ok (.iconst 0, 1) := by decide +kernel
theorem dX4_areQuotasSound_9 : decode cX4_areQuotasSound 9 = .ok (.istore_n 3, 1) := by decide +kernel
theorem dX4_areQuotasSound_10 : decode cX4_areQuotasSound 10 = .ok (.iload_n 3, 1) := by decide +kernel
theorem dX4_areQuotasSound_11 : decode cX4_areQuotasSound 11 = .ok (.iload_n 2, 1) := by decide +kernel
theorem dX4_areQuotasSound_12 : decode cX4_areQuotasSound 12 = .ok (.if_icmp .ge 30, 3) := by decide +kernel
theorem dX4_areQuotasSound_15 : decode cX4_areQuotasSound 15 = .ok (.aload_n 1, 1) := by decide +kernel
theorem dX4_areQuotasSound_16 : decode cX4_areQuotasSound 16 = .ok (.iload_n 3, 1) := by decide +kernel
theorem dX4_areQuotasSound_17 : decode cX4_areQuotasSound 17 = .ok (.aaload, 1) := by decide +kernel
theorem dX4_areQuotasSound_18 : decode cX4_areQuotasSound 18 = .ok (.astore 4, 2) := by decide +kernel
theorem dX4_areQuotasSound_20 : decode cX4_areQuotasSound 20 = .ok (.aload 4, 2) := by decide +kernel
theorem dX4_areQuotasSound_22 : decode cX4_areQuotasSound 22 = .ok (.ifnull 14, 3) := by decide +kernel
theorem dX4_areQuotasSound_25 : decode cX4_areQuotasSound 25 = .ok (.aload_n 0, 1) := by decide +kernel
theorem dX4_areQuotasSound_26 : decode cX4_areQuotasSound 26 = .ok (.aload 4, 2) := by decide +kernel
theorem dX4_areQuotasSound_28 : decode cX4_areQuotasSound 28 = .ok (.invokevirtual 349, 3) := by decide +kernel
theorem dX4_areQuotasSound_31 : decode cX4_areQuotasSound 31 = .ok (.ifCond .ne 5, 3) := by decide +kernel
theorem dX4_areQuotasSound_34 : decode cX4_areQuotasSound 34 = .ok (.iconst 0, 1) := by decide +kernel
theorem dX4_areQuotasSound_35 : decode cX4_areQuotasSound 35 = .ok (.ireturn, 1) := by decide +kernel
theorem dX4_areQuotasSound_36 : decode cX4_areQuotasSound 36 = .ok (.iinc 3 1, 3) := by decide +kernel
theorem dX4_areQuotasSound_39 : decode cX4_areQuotasSound 39 = .ok (.goto (-29), 3) := by decide +kernel
theorem dX4_areQuotasSound_42 : decode cX4_areQuotasSound 42 = .ok (.iconst 1, 1) := by decide +kernel
theorem dX4_areQuotasSound_43 : decode cX4_areQuotasSound 43 = .ok (.ireturn, 1) := by decide +kernel
theorem dX4_isQuotaSound_0 : decode cX4_isQuotaSound 0 = .ok (.iconst 0, 1) := by decide +kernel
theorem dX4_isQuotaSound_1 : decode cX4_isQuotaSound 1 = .ok (.istore_n 2, 1) := by decide +kernel
theorem dX4_isQuotaSound_2 : decode cX4_isQuotaSound 2 = .ok (.iload_n 2, 1) := by decide +kernel
theorem dX4_isQuotaSound_3 : decode cX4_isQuotaSound 3 = .ok (.iconst 4, 1) := by decide +kernel
theorem dX4_isQuotaSound_4 : decode cX4_isQuotaSound 4 = .ok (.if_icmp .ge 33, 3) := by decide +kernel
theorem dX4_isQuotaSound_7 : decode cX4_isQuotaSound 7 = .ok (.aload_n 1, 1) := by decide +kernel
theorem dX4_isQuotaSound_8 : decode cX4_isQuotaSound 8 = .ok (.getfield 102, 3) := by decide +kernel
theorem dX4_isQuotaSound_11 : decode cX4_isQuotaSound 11 = .ok (.iload_n 2, 1) := by decide +kernel
theorem dX4_isQuotaSound_12 : decode cX4_isQuotaSound 12 = .ok (.iaload, 1) := by decide +kernel
theorem dX4_isQuotaSound_13 : decode cX4_isQuotaSound 13 = .ok (.aload_n 0, 1) := by decide +kernel
theorem dX4_isQuotaSound_14 : decode cX4_isQuotaSound 14 = .ok (.aload_n 1, 1) := by decide +kernel
theorem dX4_isQuotaSound_15 : decode cX4_isQuotaSound 15 = .ok (.iload_n 2, 1) := by decide +kernel
theorem dX4_isQuotaSound_16 : decode cX4_isQuotaSound 16 = .ok (.invokevirtual 353, 3) := by decide +kernel
theorem dX4_isQuotaSound_19 : decode cX4_isQuotaSound 19 = .ok (.iadd, 1) := by decide +kernel
theorem dX4_isQuotaSound_20 : decode cX4_isQuotaSound 20 = .ok (.aload_n 1, 1) := by decide +kernel
theorem dX4_isQuotaSound_21 : decode cX4_isQuotaSound 21 = .ok (.getfield 357, 3) := by decide +kernel
theorem dX4_isQuotaSound_24 : decode cX4_isQuotaSound 24 = .ok (.iload_n 2, 1) := by decide +kernel
theorem dX4_isQuotaSound_25 : decode cX4_isQuotaSound 25 = .ok (.iaload, 1) := by decide +kernel
theorem dX4_isQuotaSound_26 : decode cX4_isQuotaSound 26 = .ok (.if_icmp .eq 5, 3) := by decide +kernel
theorem dX4_isQuotaSound_29 : decode cX4_isQuotaSound 29 = .ok (.iconst 0, 1) := by decide +kernel
theorem dX4_isQuotaSound_30 : decode cX4_isQuotaSound 30 = .ok (.ireturn, 1) := by decide +kernel
theorem dX4_isQuotaSound_31 : decode cX4_isQuotaSound 31 = .ok (.iinc 2 1, 3) := by decide +kernel
theorem dX4_isQuotaSound_34 : decode cX4_isQuotaSound 34 = .ok (.goto (-32), 3) := by decide +kernel
theorem dX4_isQuotaSound_37 : decode cX4_isQuotaSound 37 = .ok (.iconst 1, 1) := by decide +kernel
theorem dX4_isQuotaSound_38 : decode cX4_isQuotaSound 38 = .ok (.ireturn, 1) := by decide +kernel
theorem dX4_landedBy_0 : decode cX4_landedBy 0 = .ok (.iconst 0, 1) := by decide +kernel
theorem dX4_landedBy_1 : decode cX4_landedBy 1 = .ok (.istore_n 3, 1) := by decide +kernel
theorem dX4_landedBy_2 : decode cX4_landedBy 2 = .ok (.aload_n 0, 1) := by decide +kernel
theorem dX4_landedBy_3 : decode cX4_landedBy 3 = .ok (.getfield 17, 3) := by decide +kernel
theorem dX4_landedBy_6 : decode cX4_landedBy 6 = .ok (.astore 4, 2) := by decide +kernel
theorem dX4_landedBy_8 : decode cX4_landedBy 8 = .ok (.aload 4, 2) := by decide +kernel
theorem dX4_landedBy_10 : decode cX4_landedBy 10 = .ok (.arraylength, 1) := by decide +kernel
theorem dX4_landedBy_11 : decode cX4_landedBy 11 = .ok (.istore 5, 2) := by decide +kernel
theorem dX4_landedBy_13 : decode cX4_landedBy 13 = .ok (.iconst 0, 1) := by decide +kernel
theorem dX4_landedBy_14 : decode cX4_landedBy 14 = .ok (.istore 6, 2) := by decide +kernel
theorem dX4_landedBy_16 : decode cX4_landedBy 16 = .ok (.iload 6, 2) := by decide +kernel
theorem dX4_landedBy_18 : decode cX4_landedBy 18 = .ok (.iload 5, 2) := by decide +kernel
theorem dX4_landedBy_20 : decode cX4_landedBy 20 = .ok (.if_icmp .ge 50, 3) := by decide +kernel
theorem dX4_landedBy_23 : decode cX4_landedBy 23 = .ok (.aload 4, 2) := by decide +kernel
theorem dX4_landedBy_25 : decode cX4_landedBy 25 = .ok (.iload 6, 2) := by decide +kernel
theorem dX4_landedBy_27 : decode cX4_landedBy 27 = .ok (.aaload, 1) := by decide +kernel
theorem dX4_landedBy_28 : decode cX4_landedBy 28 = .ok (.astore 7, 2) := by decide +kernel
theorem dX4_landedBy_30 : decode cX4_landedBy 30 = .ok (.aload 7, 2) := by decide +kernel
theorem dX4_landedBy_32 : decode cX4_landedBy 32 = .ok (.ifnull 32, 3) := by decide +kernel
theorem dX4_landedBy_35 : decode cX4_landedBy 35 = .ok (.aload 7, 2) := by decide +kernel
theorem dX4_landedBy_37 : decode cX4_landedBy 37 = .ok (.getfield 360, 3) := by decide +kernel
theorem dX4_landedBy_40 : decode cX4_landedBy 40 = .ok (.aload_n 1, 1) := by decide +kernel
theorem dX4_landedBy_41 : decode cX4_landedBy 41 = .ok (.getfield 363, 3) := by decide +kernel
theorem dX4_landedBy_44 : decode cX4_landedBy 44 = .ok (.if_icmp .ne 20, 3) := by decide +kernel
theorem dX4_landedBy_47 : decode cX4_landedBy 47 = .ok (.aload 7, 2) := by decide +kernel
theorem dX4_landedBy_49 : decode cX4_landedBy 49 = .ok (.getfield 364, 3) := by decide +kernel
theorem dX4_landedBy_52 : decode cX4_landedBy 52 = .ok (.iload_n 2, 1) := by decide +kernel
theorem dX4_landedBy_53 : decode cX4_landedBy 53 = .ok (.if_icmp .ne 11, 3) := by decide +kernel
theorem dX4_landedBy_56 : decode cX4_landedBy 56 = .ok (.iload_n 3, 1) := by decide +kernel
theorem dX4_landedBy_57 : decode cX4_landedBy 57 = .ok (.aload 7, 2) := by decide +kernel
theorem dX4_landedBy_59 : decode cX4_landedBy 59 = .ok (.getfield 149, 3) := by decide +kernel
theorem dX4_landedBy_62 : decode cX4_landedBy 62 = .ok (.iadd, 1) := by decide +kernel
theorem dX4_landedBy_63 : decode cX4_landedBy 63 = .ok (.istore_n 3, 1) := by decide +kernel
theorem dX4_landedBy_64 : decode cX4_landedBy 64 = .ok (.iinc 6 1, 3) := by decide +kernel
theorem dX4_landedBy_67 : decode cX4_landedBy 67 = .ok (.goto (-51), 3) := by decide +kernel
theorem dX4_landedBy_70 : decode cX4_landedBy 70 = .ok (.iload_n 3, 1) := by decide +kernel
theorem dX4_landedBy_71 : decode cX4_landedBy 71 = .ok (.ireturn, 1) := by decide +kernel
theorem dX4_bitsOfFreshness_0 : decode cX4_bitsOfFreshness 0 = .ok (.fload_n 0, 1) := by decide +kernel
theorem dX4_bitsOfFreshness_1 : decode cX4_bitsOfFreshness 1 = .ok (.fstore_n 1, 1) := by decide +kernel
theorem dX4_bitsOfFreshness_2 : decode cX4_bitsOfFreshness 2 = .ok (.iconst 0, 1) := by decide +kernel
theorem dX4_bitsOfFreshness_3 : decode cX4_bitsOfFreshness 3 = .ok (.istore_n 2, 1) := by decide +kernel
theorem dX4_bitsOfFreshness_4 : decode cX4_bitsOfFreshness 4 = .ok (.fload_n 1, 1) := by decide +kernel
theorem dX4_bitsOfFreshness_5 : decode cX4_bitsOfFreshness 5 = .ok (.fconst 2, 1) := by decide +kernel
theorem dX4_bitsOfFreshness_6 : decode cX4_bitsOfFreshness 6 = .ok (.fcmp .l, 1) := by decide +kernel
theorem dX4_bitsOfFreshness_7 : decode cX4_bitsOfFreshness 7 = .ok (.ifCond .lt 19, 3) := by decide +kernel
theorem dX4_bitsOfFreshness_10 : decode cX4_bitsOfFreshness 10 = .ok (.iload_n 2, 1) := by decide +kernel
theorem dX4_bitsOfFreshness_11 : decode cX4_bitsOfFreshness 11 = .ok (.bipush 127, 2) := by decide +kernel
theorem dX4_bitsOfFreshness_13 : decode cX4_bitsOfFreshness 13 = .ok (.if_icmp .ge 13, 3) := by decide +kernel
theorem dX4_bitsOfFreshness_16 : decode cX4_bitsOfFreshness 16 = .ok (.fload_n 1, 1) := by decide +kernel
theorem dX4_bitsOfFreshness_17 : decode cX4_bitsOfFreshness 17 = .ok (.fconst 2, 1) := by decide +kernel
theorem dX4_bitsOfFreshness_18 : decode cX4_bitsOfFreshness 18 = .ok (.fdiv, 1) := by decide +kernel
theorem dX4_bitsOfFreshness_19 : decode cX4_bitsOfFreshness 19 = .ok (.fstore_n 1, 1) := by decide +kernel
theorem dX4_bitsOfFreshness_20 : decode cX4_bitsOfFreshness 20 = .ok (.iinc 2 1, 3) := by decide +kernel
theorem dX4_bitsOfFreshness_23 : decode cX4_bitsOfFreshness 23 = .ok (.goto (-19), 3) := by decide +kernel
theorem dX4_bitsOfFreshness_26 : decode cX4_bitsOfFreshness 26 = .ok (.fload_n 1, 1) := by decide +kernel
theorem dX4_bitsOfFreshness_27 : decode cX4_bitsOfFreshness 27 = .ok (.fconst 1, 1) := by decide +kernel
theorem dX4_bitsOfFreshness_28 : decode cX4_bitsOfFreshness 28 = .ok (.fcmp .g, 1) := by decide +kernel
theorem dX4_bitsOfFreshness_29 : decode cX4_bitsOfFreshness 29 = .ok (.ifCond .ge 19, 3) := by decide +kernel
theorem dX4_bitsOfFreshness_32 : decode cX4_bitsOfFreshness 32 = .ok (.iload_n 2, 1) := by decide +kernel
theorem dX4_bitsOfFreshness_33 : decode cX4_bitsOfFreshness 33 = .ok (.bipush (-126), 2) := by decide +kernel
theorem dX4_bitsOfFreshness_35 : decode cX4_bitsOfFreshness 35 = .ok (.if_icmp .le 13, 3) := by decide +kernel
theorem dX4_bitsOfFreshness_38 : decode cX4_bitsOfFreshness 38 = .ok (.fload_n 1, 1) := by decide +kernel
theorem dX4_bitsOfFreshness_39 : decode cX4_bitsOfFreshness 39 = .ok (.fconst 2, 1) := by decide +kernel
theorem dX4_bitsOfFreshness_40 : decode cX4_bitsOfFreshness 40 = .ok (.fmul, 1) := by decide +kernel
theorem dX4_bitsOfFreshness_41 : decode cX4_bitsOfFreshness 41 = .ok (.fstore_n 1, 1) := by decide +kernel
theorem dX4_bitsOfFreshness_42 : decode cX4_bitsOfFreshness 42 = .ok (.iinc 2 (-1), 3) := by decide +kernel
theorem dX4_bitsOfFreshness_45 : decode cX4_bitsOfFreshness 45 = .ok (.goto (-19), 3) := by decide +kernel
theorem dX4_bitsOfFreshness_48 : decode cX4_bitsOfFreshness 48 = .ok (.iload_n 2, 1) := by decide +kernel
theorem dX4_bitsOfFreshness_49 : decode cX4_bitsOfFreshness 49 = .ok (.bipush 127, 2) := by decide +kernel
theorem dX4_bitsOfFreshness_51 : decode cX4_bitsOfFreshness 51 = .ok (.iadd, 1) := by decide +kernel
theorem dX4_bitsOfFreshness_52 : decode cX4_bitsOfFreshness 52 = .ok (.bipush 23, 2) := by decide +kernel
theorem dX4_bitsOfFreshness_54 : decode cX4_bitsOfFreshness 54 = .ok (.ishl, 1) := by decide +kernel
theorem dX4_bitsOfFreshness_55 : decode cX4_bitsOfFreshness 55 = .ok (.fload_n 1, 1) := by decide +kernel
theorem dX4_bitsOfFreshness_56 : decode cX4_bitsOfFreshness 56 = .ok (.fconst 1, 1) := by decide +kernel
theorem dX4_bitsOfFreshness_57 : decode cX4_bitsOfFreshness 57 = .ok (.fsub, 1) := by decide +kernel
theorem dX4_bitsOfFreshness_58 : decode cX4_bitsOfFreshness 58 = .ok (.ldc_w 367, 3) := by decide +kernel
theorem dX4_bitsOfFreshness_61 : decode cX4_bitsOfFreshness 61 = .ok (.fmul, 1) := by decide +kernel
theorem dX4_bitsOfFreshness_62 : decode cX4_bitsOfFreshness 62 = .ok (.f2i, 1) := by decide +kernel
theorem dX4_bitsOfFreshness_63 : decode cX4_bitsOfFreshness 63 = .ok (.iadd, 1) := by decide +kernel
theorem dX4_bitsOfFreshness_64 : decode cX4_bitsOfFreshness 64 = .ok (.ireturn, 1) := by decide +kernel
theorem dX4_bitsOfMean_0 : decode cX4_bitsOfMean 0 = .ok (.dload_n 0, 1) := by decide +kernel
theorem dX4_bitsOfMean_1 : decode cX4_bitsOfMean 1 = .ok (.dconst 0, 1) := by decide +kernel
theorem dX4_bitsOfMean_2 : decode cX4_bitsOfMean 2 = .ok (.dcmp .l, 1) := by decide +kernel
theorem dX4_bitsOfMean_3 : decode cX4_bitsOfMean 3 = .ok (.ifCond .ne 5, 3) := by decide +kernel
theorem dX4_bitsOfMean_6 : decode cX4_bitsOfMean 6 = .ok (.lconst 0, 1) := by decide +kernel
theorem dX4_bitsOfMean_7 : decode cX4_bitsOfMean 7 = .ok (.lreturn, 1) := by decide +kernel
theorem dX4_bitsOfMean_8 : decode cX4_bitsOfMean 8 = .ok (.dload_n 0, 1) := by decide +kernel
theorem dX4_bitsOfMean_9 : decode cX4_bitsOfMean 9 = .ok (.dstore_n 2, 1) := by decide +kernel
theorem dX4_bitsOfMean_10 : decode cX4_bitsOfMean 10 = .ok (.iconst 0, 1) := by decide +kernel
theorem dX4_bitsOfMean_11 : decode cX4_bitsOfMean 11 = .ok (.istore 4, 2) := by decide +kernel
theorem dX4_bitsOfMean_13 : decode cX4_bitsOfMean 13 = .ok (.dload_n 2, 1) := by decide +kernel
theorem dX4_bitsOfMean_14 : decode cX4_bitsOfMean 14 = .ok (.ldc2_w 368, 3) := by decide +kernel
theorem dX4_bitsOfMean_17 : decode cX4_bitsOfMean 17 = .ok (.dcmp .l, 1) := by decide +kernel
theorem dX4_bitsOfMean_18 : decode cX4_bitsOfMean 18 = .ok (.ifCond .lt 23, 3) := by decide +kernel
theorem dX4_bitsOfMean_21 : decode cX4_bitsOfMean 21 = .ok (.iload 4, 2) := by decide +kernel
theorem dX4_bitsOfMean_23 : decode cX4_bitsOfMean 23 = .ok (.sipush 1023, 3) := by decide +kernel
theorem dX4_bitsOfMean_26 : decode cX4_bitsOfMean 26 = .ok (.if_icmp .ge 15, 3) := by decide +kernel
theorem dX4_bitsOfMean_29 : decode cX4_bitsOfMean 29 = .ok (.dload_n 2, 1) := by decide +kernel
theorem dX4_bitsOfMean_30 : decode cX4_bitsOfMean 30 = .ok (.ldc2_w 368, 3) := by decide +kernel
theorem dX4_bitsOfMean_33 : decode cX4_bitsOfMean 33 = .ok (.ddiv, 1) := by decide +kernel
theorem dX4_bitsOfMean_34 : decode cX4_bitsOfMean 34 = .ok (.dstore_n 2, 1) := by decide +kernel
theorem dX4_bitsOfMean_35 : decode cX4_bitsOfMean 35 = .ok (.iinc 4 1, 3) := by decide +kernel
theorem dX4_bitsOfMean_38 : decode cX4_bitsOfMean 38 = .ok (.goto (-25), 3) := by decide +kernel
theorem dX4_bitsOfMean_41 : decode cX4_bitsOfMean 41 = .ok (.dload_n 2, 1) := by decide +kernel
theorem dX4_bitsOfMean_42 : decode cX4_bitsOfMean 42 = .ok (.dconst 1, 1) := by decide +kernel
theorem dX4_bitsOfMean_43 : decode cX4_bitsOfMean 43 = .ok (.dcmp .g, 1) := by decide +kernel
theorem dX4_bitsOfMean_44 : decode cX4_bitsOfMean 44 = .ok (.ifCond .ge 23, 3) := by decide +kernel
theorem dX4_bitsOfMean_47 : decode cX4_bitsOfMean 47 = .ok (.iload 4, 2) := by decide +kernel
theorem dX4_bitsOfMean_49 : decode cX4_bitsOfMean 49 = .ok (.sipush (-1022), 3) := by decide +kernel
theorem dX4_bitsOfMean_52 : decode cX4_bitsOfMean 52 = .ok (.if_icmp .le 15, 3) := by decide +kernel
theorem dX4_bitsOfMean_55 : decode cX4_bitsOfMean 55 = .ok (.dload_n 2, 1) := by decide +kernel
theorem dX4_bitsOfMean_56 : decode cX4_bitsOfMean 56 = .ok (.ldc2_w 368, 3) := by decide +kernel
theorem dX4_bitsOfMean_59 : decode cX4_bitsOfMean 59 = .ok (.dmul, 1) := by decide +kernel
theorem dX4_bitsOfMean_60 : decode cX4_bitsOfMean 60 = .ok (.dstore_n 2, 1) := by decide +kernel
theorem dX4_bitsOfMean_61 : decode cX4_bitsOfMean 61 = .ok (.iinc 4 (-1), 3) := by decide +kernel
theorem dX4_bitsOfMean_64 : decode cX4_bitsOfMean 64 = .ok (.goto (-23), 3) := by decide +kernel
theorem dX4_bitsOfMean_67 : decode cX4_bitsOfMean 67 = .ok (.iload 4, 2) := by decide +kernel
theorem dX4_bitsOfMean_69 : decode cX4_bitsOfMean 69 = .ok (.sipush 1023, 3) := by decide +kernel
theorem dX4_bitsOfMean_72 : decode cX4_bitsOfMean 72 = .ok (.iadd, 1) := by decide +kernel
theorem dX4_bitsOfMean_73 : decode cX4_bitsOfMean 73 = .ok (.i2l, 1) := by decide +kernel
theorem dX4_bitsOfMean_74 : decode cX4_bitsOfMean 74 = .ok (.bipush 52, 2) := by decide +kernel
theorem dX4_bitsOfMean_76 : decode cX4_bitsOfMean 76 = .ok (.lshl, 1) := by decide +kernel
theorem dX4_bitsOfMean_77 : decode cX4_bitsOfMean 77 = .ok (.dload_n 2, 1) := by decide +kernel
theorem dX4_bitsOfMean_78 : decode cX4_bitsOfMean 78 = .ok (.dconst 1, 1) := by decide +kernel
theorem dX4_bitsOfMean_79 : decode cX4_bitsOfMean 79 = .ok (.dsub, 1) := by decide +kernel
theorem dX4_bitsOfMean_80 : decode cX4_bitsOfMean 80 = .ok (.ldc2_w 370, 3) := by decide +kernel
theorem dX4_bitsOfMean_83 : decode cX4_bitsOfMean 83 = .ok (.dmul, 1) := by decide +kernel
theorem dX4_bitsOfMean_84 : decode cX4_bitsOfMean 84 = .ok (.d2l, 1) := by decide +kernel
theorem dX4_bitsOfMean_85 : decode cX4_bitsOfMean 85 = .ok (.ladd, 1) := by decide +kernel
theorem dX4_bitsOfMean_86 : decode cX4_bitsOfMean 86 = .ok (.lreturn, 1) := by decide +kernel
end
section
theorem dX5_init_0 : decode cX5_init 0 = .ok (.aload_n 0, 1) := by decide +kernel
theorem dX5_init_1 : decode cX5_init 1 = .ok (.invokespecial 1, 3) := by decide +kernel
theorem dX5_init_4 : decode cX5_init 4 = .ok (.aload_n 0, 1) := by decide +kernel
theorem dX5_init_5 : decode cX5_init 5 = .ok (.bipush 24, 2) := by decide +kernel
theorem dX5_init_7 : decode cX5_init 7 = .ok (.newarray .int, 2) := by decide +kernel
theorem dX5_init_9 : decode cX5_init 9 = .ok (.putfield 9, 3) := by decide +kernel
theorem dX5_init_12 : decode cX5_init 12 = .ok (.aload_n 0, 1) := by decide +kernel
theorem dX5_init_13 : decode cX5_init 13 = .ok (.sipush 480, 3) := by decide +kernel
theorem dX5_init_16 : decode cX5_init 16 = .ok (.newarray .int, 2) := by decide +kernel
theorem dX5_init_18 : decode cX5_init 18 = .ok (.putfield 13, 3) := by decide +kernel
theorem dX5_init_21 : decode cX5_init 21 = .ok (.aload_n 0, 1) := by decide +kernel
theorem dX5_init_22 : decode cX5_init 22 = .ok (.bipush 20, 2) := by decide +kernel
theorem dX5_init_24 : decode cX5_init 24 = .ok (.newarray .int, 2) := by decide +kernel
theorem dX5_init_26 : decode cX5_init 26 = .ok (.putfield 16, 3) := by decide +kernel
theorem dX5_init_29 : decode cX5_init 29 = .ok (.aload_n 0, 1) := by decide +kernel
theorem dX5_init_30 : decode cX5_init 30 = .ok (.bipush 20, 2) := by decide +kernel
theorem dX5_init_32 : decode cX5_init 32 = .ok (.newarray .int, 2) := by decide +kernel
theorem dX5_init_34 : decode cX5_init 34 = .ok (.putfield 19, 3) := by decide +kernel
theorem dX5_init_37 : decode cX5_init 37 = .ok (.aload_n 0, 1) := by decide +kernel
theorem dX5_init_38 : decode cX5_init 38 = .ok (.bipush 20, 2) := by decide +kernel
theorem dX5_init_40 : decode cX5_init 40 = .ok (.newarray .int, 2) := by decide +kernel
theorem dX5_init_42 : decode cX5_init 42 = .ok (.putfield 22, 3) := by decide +kernel
theorem dX5_init_45 : decode cX5_init 45 = .ok (.aload_n 0, 1) := by decide +kernel
theorem dX5_init_46 : decode cX5_init 46 = .ok (.bipush 20, 2) := by decide +kernel
theorem dX5_init_48 : decode cX5_init 48 = .ok (.newarray .boolean, 2) := by decide +kernel
theorem dX5_init_50 : decode cX5_init 50 = .ok (.putfield 25, 3) := by decide +kernel
theorem dX5_init_53 : decode cX5_init 53 = .ok (.aload_n 0, 1) := by decide +kernel
theorem dX5_init_54 : decode cX5_init 54 = .ok (.bipush 20, 2) := by decide +kernel
theorem dX5_init_56 : decode cX5_init 56 = .ok (.newarray .char, 2) := by decide +kernel
theorem dX5_init_58 : decode cX5_init 58 = .ok (.putfield 29, 3) := by decide +kernel
theorem dX5_init_61 : decode cX5_init 61 = .ok (.aload_n 0, 1) := by decide +kernel
theorem dX5_init_62 : decode cX5_init 62 = .ok (.bipush 20, 2) := by decide +kernel
theorem dX5_init_64 : decode cX5_init 64 = .ok (.newarray .float, 2) := by decide +kernel
theorem dX5_init_66 : decode cX5_init 66 = .ok (.putfield 33, 3) := by decide +kernel
theorem dX5_init_69 : decode cX5_init 69 = .ok (.aload_n 0, 1) := by decide +kernel
theorem dX5_init_70 : decode cX5_init 70 = .ok (.bipush 20, 2) := by decide +kernel
theorem dX5_init_72 : decode cX5_init 72 = .ok (.newarray .int, 2) := by decide +kernel
theorem dX5_init_74 : decode cX5_init 74 = .ok (.putfield 37, 3) := by decide +kernel
theorem dX5_init_77 : decode cX5_init 77 = .ok (.aload_n 0, 1) := by decide +kernel
theorem dX5_init_78 : decode cX5_init 78 = .ok (.bipush 20, 2) := by decide +kernel
theorem dX5_init_80 : decode cX5_init 80 = .ok (.newarray .int, 2) := by decide +kernel
theorem dX5_init_82 : decode cX5_init 82 = .ok (.putfield 40, 3) := by decide +kernel
theorem dX5_init_85 : decode cX5_init 85 = .ok (.aload_n 0, 1) := by decide +kernel
theorem dX5_init_86 : decode cX5_init 86 = .ok (.bipush 20, 2) := by decide +kernel
theorem dX5_init_88 : decode cX5_init 88 = .ok (.newarray .int, 2) := by decide +kernel
theorem dX5_init_90 : decode cX5_init 90 = .ok (.putfield 43, 3) := by decide +kernel
theorem dX5_init_93 : decode cX5_init 93 = .ok (.aload_n 0, 1) := by decide +kernel
theorem dX5_init_94 : decode cX5_init 94 = .ok (.iconst 5, 1) := by decide +kernel
theorem dX5_init_95 : decode cX5_init 95 = .ok (.newarray .int, 2) := by decide +kernel
theorem dX5_init_97 : decode cX5_init 97 = .ok (.putfield 46, 3) := by decide +kernel
theorem dX5_init_100 : decode cX5_init 100 = .ok (.aload_n 0, 1) := by decide +kernel
theorem dX5_init_101 : decode cX5_init 101 = .ok (.bipush 20, 2) := by decide +kernel
theorem dX5_init_103 : decode cX5_init 103 = .ok (.newarray .int, 2) := by decide +kernel
theorem dX5_init_105 : decode cX5_init 105 = .ok (.putfield 49, 3) := by decide +kernel
theorem dX5_init_108 : decode cX5_init 108 = .ok (.aload_n 0, 1) := by decide +kernel
theorem dX5_init_109 : decode cX5_init 109 = .ok (.sipush 1000, 3) := by decide +kernel
theorem dX5_init_112 : decode cX5_init 112 = .ok (.putfield 52, 3) := by decide +kernel
theorem dX5_init_115 : decode cX5_init 115 = .ok (.aload_n 0, 1) := by decide +kernel
theorem dX5_init_116 : decode cX5_init 116 = .ok (.bipush 10, 2) := by decide +kernel
theorem dX5_init_118 : decode cX5_init 118 = .ok (.putfield 56, 3) := by decide +kernel
theorem dX5_init_121 : decode cX5_init 121 = .ok (.aload_n 0, 1) := by decide +kernel
theorem dX5_init_122 : decode cX5_init 122 = .ok (.iconst 4, 1) := by decide +kernel
theorem dX5_init_123 : decode cX5_init 123 = .ok (.newarray .int, 2) := by decide +kernel
theorem dX5_init_125 : decode cX5_init 125 = .ok (.putfield 59, 3) := by decide +kernel
theorem dX5_init_128 : decode cX5_init 128 = .ok (.aload_n 0, 1) := by decide +kernel
theorem dX5_init_129 : decode cX5_init 129 = .ok (.iconst 4, 1) := by decide +kernel
theorem dX5_init_130 : decode cX5_init 130 = .ok (.newarray .int, 2) := by decide +kernel
theorem dX5_init_132 : decode cX5_init 132 = .ok (.putfield 62, 3) := by decide +kernel
theorem dX5_init_135 : decode cX5_init 135 = .ok (.aload_n 0, 1) := by decide +kernel
theorem dX5_init_136 : decode cX5_init 136 = .ok (.iconst 4, 1) := by decide +kernel
theorem dX5_init_137 : decode cX5_init 137 = .ok (.newarray .boolean, 2) := by decide +kernel
theorem dX5_init_139 : decode cX5_init 139 = .ok (.putfield 65, 3) := by decide +kernel
theorem dX5_init_142 : decode cX5_init 142 = .ok (.aload_n 0, 1) := by decide +kernel
theorem dX5_init_143 : decode cX5_init 143 = .ok (.iconst 4, 1) := by decide +kernel
theorem dX5_init_144 : decode cX5_init 144 = .ok (.newarray .int, 2) := by decide +kernel
theorem dX5_init_146 : decode cX5_init 146 = .ok (.putfield 68, 3) := by decide +kernel
theorem dX5_init_149 : decode cX5_init 149 = .ok (.aload_n 0, 1) := by decide +kernel
theorem dX5_init_150 : decode cX5_init 150 = .ok (.bipush 20, 2) := by decide +kernel
theorem dX5_init_152 : decode cX5_init 152 = .ok (.newarray .int, 2) := by decide +kernel
theorem dX5_init_154 : decode cX5_init 154 = .ok (.putfield 71, 3) := by decide +kernel
theorem dX5_init_157 : decode cX5_init 157 = .ok (.return_, 1) := by decide +kernel
theorem dX5_thrown_0 : decode cX5_thrown 0 = .ok (.aload_n 0, 1) := by decide +kernel
theorem dX5_thrown_1 : decode cX5_thrown 1 = .ok (.getfield 74, 3) := by decide +kernel
theorem dX5_thrown_4 : decode cX5_thrown 4 = .ok (.ireturn, 1) := by decide +kernel
theorem dX5_in_0 : decode cX5_in 0 = .ok (.iload_n 0, 1) := by decide +kernel
theorem dX5_in_1 : decode cX5_in 1 = .ok (.iload_n 1, 1) := by decide +kernel
theorem dX5_in_2 : decode cX5_in 2 = .ok (.if_icmp .lt 12, 3) := by decide +kernel
theorem dX5_in_5 : decode cX5_in 5 = .ok (.iload_n 0, 1) := by decide +kernel
theorem dX5_in_6 : decode cX5_in 6 = .ok (.iload_n 2, 1) := by decide +kernel
theorem dX5_in_7 : decode cX5_in 7 = .ok (.if_icmp .gt 7, 3) := by decide +kernel
theorem dX5_in_10 : decode cX5_in 10 = .ok (.iconst 1, 1) := by decide +kernel
theorem dX5_in_11 : decode cX5_in 11 = .ok (.goto 4, 3) := by decide +kernel
theorem dX5_in_14 : decode cX5_in 14 = .ok (.iconst 0, 1) := by decide +kernel
theorem dX5_in_15 : decode cX5_in 15 = .ok (.ireturn, 1) := by decide +kernel
theorem dX5_goesOn_0 : decode cX5_goesOn 0 = .ok (.aload_n 0, 1) := by decide +kernel
theorem dX5_goesOn_1 : decode cX5_goesOn 1 = .ok (.iload_n 1, 1) := by decide +kernel
theorem dX5_goesOn_2 : decode cX5_goesOn 2 = .ok (.putfield 74, 3) := by decide +kernel
theorem dX5_goesOn_5 : decode cX5_goesOn 5 = .ok (.iload_n 1, 1) := by decide +kernel
theorem dX5_goesOn_6 : decode cX5_goesOn 6 = .ok (.ifCond .ne 7, 3) := by decide +kernel
theorem dX5_goesOn_9 : decode cX5_goesOn 9 = .ok (.iconst 1, 1) := by decide +kernel
theorem dX5_goesOn_10 : decode cX5_goesOn 10 = .ok (.goto 4, 3) := by decide +kernel
theorem dX5_goesOn_13 : decode cX5_goesOn 13 = .ok (.iconst 0, 1) := by decide +kernel
theorem dX5_goesOn_14 : decode cX5_goesOn 14 = .ok (.ireturn, 1) := by decide +kernel
theorem dX5_isBoat_0 : decode cX5_isBoat 0 = .ok (.iload_n 1, 1) := by decide +kernel
theorem dX5_isBoat_1 : decode cX5_isBoat 1 = .ok (.iconst 0, 1) := by decide +kernel
theorem dX5_isBoat_2 : decode cX5_isBoat 2 = .ok (.aload_n 0, 1) := by decide +kernel
theorem dX5_isBoat_3 : decode cX5_isBoat 3 = .ok (.getfield 77, 3) := by decide +kernel
theorem dX5_isBoat_6 : decode cX5_isBoat 6 = .ok (.iconst 1, 1) := by decide +kernel
theorem dX5_isBoat_7 : decode cX5_isBoat 7 = .ok (.isub, 1) := by decide +kernel
theorem dX5_isBoat_8 : decode cX5_isBoat 8 = .ok (.invokestatic 80, 3) := by decide +kernel
theorem dX5_isBoat_11 : decode cX5_isBoat 11 = .ok (.ireturn, 1) := by decide +kernel
theorem dX5_isLot_0 : decode cX5_isLot 0 = .ok (.iload_n 1, 1) := by decide +kernel
theorem dX5_isLot_1 : decode cX5_isLot 1 = .ok (.iconst 0, 1) := by decide +kernel
theorem dX5_isLot_2 : decode cX5_isLot 2 = .ok (.aload_n 0, 1) := by decide +kernel
theorem dX5_isLot_3 : decode cX5_isLot 3 = .ok (.getfield 84, 3) := by decide +kernel
theorem dX5_isLot_6 : decode cX5_isLot 6 = .ok (.iconst 1, 1) := by decide +kernel
theorem dX5_isLot_7 : decode cX5_isLot 7 = .ok (.isub, 1) := by decide +kernel
theorem dX5_isLot_8 : decode cX5_isLot 8 = .ok (.invokestatic 80, 3) := by decide +kernel
theorem dX5_isLot_11 : decode cX5_isLot 11 = .ok (.ireturn, 1) := by decide +kernel
theorem dX5_isBuyer_0 : decode cX5_isBuyer 0 = .ok (.iload_n 1, 1) := by decide +kernel
theorem dX5_isBuyer_1 : decode cX5_isBuyer 1 = .ok (.iconst 0, 1) := by decide +kernel
theorem dX5_isBuyer_2 : decode cX5_isBuyer 2 = .ok (.aload_n 0, 1) := by decide +kernel
theorem dX5_isBuyer_3 : decode cX5_isBuyer 3 = .ok (.getfield 87, 3) := by decide +kernel
theorem dX5_isBuyer_6 : decode cX5_isBuyer 6 = .ok (.iconst 1, 1) := by decide +kernel
theorem dX5_isBuyer_7 : decode cX5_isBuyer 7 = .ok (.isub, 1) := by decide +kernel
theorem dX5_isBuyer_8 : decode cX5_isBuyer 8 = .ok (.invokestatic 80, 3) := by decide +kernel
theorem dX5_isBuyer_11 : decode cX5_isBuyer 11 = .ok (.ireturn, 1) := by decide +kernel
theorem dX5_isTruck_0 : decode cX5_isTruck 0 = .ok (.iload_n 1, 1) := by decide +kernel
theorem dX5_isTruck_1 : decode cX5_isTruck 1 = .ok (.iconst 0, 1) := by decide +kernel
theorem dX5_isTruck_2 : decode cX5_isTruck 2 = .ok (.aload_n 0, 1) := by decide +kernel
theorem dX5_isTruck_3 : decode cX5_isTruck 3 = .ok (.getfield 90, 3) := by decide +kernel
theorem dX5_isTruck_6 : decode cX5_isTruck 6 = .ok (.iconst 1, 1) := by decide +kernel
theorem dX5_isTruck_7 : decode cX5_isTruck 7 = .ok (.isub, 1) := by decide +kernel
theorem dX5_isTruck_8 : decode cX5_isTruck 8 = .ok (.invokestatic 80, 3) := by decide +kernel
theorem dX5_isTruck_11 : decode cX5_isTruck 11 = .ok (.ireturn, 1) := by decide +kernel
theorem dX5_isSpecies_0 : decode cX5_isSpecies 0 = .ok (.iload_n 0, 1) := by decide +kernel
theorem dX5_isSpecies_1 : decode cX5_isSpecies 1 = .ok (.iconst 0, 1) := by decide +kernel
theorem dX5_isSpecies_2 : decode cX5_isSpecies 2 = .ok (.iconst 3, 1) := by decide +kernel
theorem dX5_isSpecies_3 : decode cX5_isSpecies 3 = .ok (.invokestatic 80, 3) := by decide +kernel
theorem dX5_isSpecies_6 : decode cX5_isSpecies 6 = .ok (.ireturn, 1) := by decide +kernel
theorem dX5_addBoat_0 : decode cX5_addBoat 0 = .ok (.iload_n 1, 1) := by decide +kernel
theorem dX5_addBoat_1 : decode cX5_addBoat 1 = .ok (.iconst 0, 1) := by decide +kernel
theorem dX5_addBoat_2 : decode cX5_addBoat 2 = .ok (.sipush 9999, 3) := by decide +kernel
theorem dX5_addBoat_5 : decode cX5_addBoat 5 = .ok (.invokestatic 80, 3) := by decide +kernel
theorem dX5_addBoat_8 : decode cX5_addBoat 8 = .ok (.ifCond .eq 41, 3) := by decide +kernel
theorem dX5_addBoat_11 : decode cX5_addBoat 11 = .ok (.iload_n 2, 1) := by decide +kernel
theorem dX5_addBoat_12 : decode cX5_addBoat 12 = .ok (.iconst 0, 1) := by decide +kernel
theorem dX5_addBoat_13 : decode cX5_addBoat 13 = .ok (.sipush 9999, 3) := by decide +kernel
theorem dX5_addBoat_16 : decode cX5_addBoat 16 = .ok (.invokestatic 80, 3) := by decide +kernel
theorem dX5_addBoat_19 : decode cX5_addBoat 19 = .ok (.ifCond .eq 30, 3) := by decide +kernel
theorem dX5_addBoat_22 : decode cX5_addBoat 22 = .ok (.iload_n 3, 1) := by decide +kernel
theorem dX5_addBoat_23 : decode cX5_addBoat 23 = .ok (.iconst 0, 1) := by decide +kernel
theorem dX5_addBoat_24 : decode cX5_addBoat 24 = .ok (.sipush 9999, 3) := by decide +kernel
theorem dX5_addBoat_27 : decode cX5_addBoat 27 = .ok (.invokestatic 80, 3) := by decide +kernel
theorem dX5_addBoat_30 : decode cX5_addBoat 30 = .ok (.ifCond .eq 19, 3) := by decide +kernel
theorem dX5_addBoat_33 : decode cX5_addBoat 33 = .ok (.iload 4, 2) := by decide +kernel
theorem dX5_addBoat_35 : decode cX5_addBoat 35 = .ok (.iconst 0, 1) := by decide +kernel
theorem dX5_addBoat_36 : decode cX5_addBoat 36 = .ok (.sipush 9999, 3) := by decide +kernel
theorem dX5_addBoat_39 : decode cX5_addBoat 39 = .ok (.invokestatic 80, 3) := by decide +kernel
theorem dX5_addBoat_42 : decode cX5_addBoat 42 = .ok (.ifCond .eq 7, 3) := by decide +kernel
theorem dX5_addBoat_45 : decode cX5_addBoat 45 = .ok (.iconst 1, 1) := by decide +kernel
theorem dX5_addBoat_46 : decode cX5_addBoat 46 = .ok (.goto 4, 3) := by decide +kernel
theorem dX5_addBoat_49 : decode cX5_addBoat 49 = .ok (.iconst 0, 1) := by decide +kernel
theorem dX5_addBoat_50 : decode cX5_addBoat 50 = .ok (.istore 5, 2) := by decide +kernel
theorem dX5_addBoat_52 : decode cX5_addBoat 52 = .ok (.aload_n 0, 1) := by decide +kernel
theorem dX5_addBoat_53 : decode cX5_addBoat 53 = .ok (.iload 5, 2) := by decide +kernel
theorem dX5_addBoat_55 : decode cX5_addBoat 55 = .ok (.ifCond .ne 7, 3) := by decide +kernel
theorem dX5_addBoat_58 : decode cX5_addBoat 58 = .ok (.iconst 1, 1) := by decide +kernel
theorem dX5_addBoat_59 : decode cX5_addBoat 59 = .ok (.goto 17, 3) := by decide +kernel
theorem dX5_addBoat_62 : decode cX5_addBoat 62 = .ok (.aload_n 0, 1) := by decide +kernel
theorem dX5_addBoat_63 : decode cX5_addBoat 63 = .ok (.getfield 77, 3) := by decide +kernel
theorem dX5_addBoat_66 : decode cX5_addBoat 66 = .ok (.bipush 6, 2) := by decide +kernel
theorem dX5_addBoat_68 : decode cX5_addBoat 68 = .ok (.if_icmp .ne 7, 3) := by decide +kernel
theorem dX5_addBoat_71 : decode cX5_addBoat 71 = .ok (.iconst 2, 1) := by decide +kernel
theorem dX5_addBoat_72 : decode cX5_addBoat 72 = .ok (.goto 4, 3) := by decide +kernel
theorem dX5_addBoat_75 : decode cX5_addBoat 75 = .ok (.iconst 0, 1) := by decide +kernel
theorem dX5_addBoat_76 : decode cX5_addBoat 76 = .ok (.invokevirtual 93, 3) := by decide +kernel
theorem dX5_addBoat_79 : decode cX5_addBoat 79 = .ok (.ifCond .ne 5, 3) := by decide +kernel
theorem dX5_addBoat_82 : decode cX5_addBoat 82 = .ok (.iconst 0, 1) := by decide +kernel
theorem dX5_addBoat_83 : decode cX5_addBoat 83 = .ok (.ireturn, 1) := by decide +kernel
theorem dX5_addBoat_84 : decode cX5_addBoat 84 = .ok (.aload_n 0, 1) := by decide +kernel
theorem dX5_addBoat_85 : decode cX5_addBoat 85 = .ok (.getfield 9, 3) := by decide +kernel
theorem dX5_addBoat_88 : decode cX5_addBoat 88 = .ok (.iconst 4, 1) := by decide +kernel
theorem dX5_addBoat_89 : decode cX5_addBoat 89 = .ok (.aload_n 0, 1) := by decide +kernel
theorem dX5_addBoat_90 : decode cX5_addBoat 90 = .ok (.getfield 77, 3) := by decide +kernel
theorem dX5_addBoat_93 : decode cX5_addBoat 93 = .ok (.imul, 1) := by decide +kernel
theorem dX5_addBoat_94 : decode cX5_addBoat 94 = .ok (.iload_n 1, 1) := by decide +kernel
theorem dX5_addBoat_95 : decode cX5_addBoat 95 = .ok (.iastore, 1) := by decide +kernel
theorem dX5_addBoat_96 : decode cX5_addBoat 96 = .ok (.aload_n 0, 1) := by decide +kernel
theorem dX5_addBoat_97 : decode cX5_addBoat 97 = .ok (.getfield 9, 3) := by decide +kernel
theorem dX5_addBoat_100 : decode cX5_addBoat 100 = .ok (.iconst 4, 1) := by decide +kernel
theorem dX5_addBoat_101 : decode cX5_addBoat 101 = .ok (.aload_n 0, 1) := by decide +kernel
theorem dX5_addBoat_102 : decode cX5_addBoat 102 = .ok (.getfield 77, 3) := by decide +kernel
theorem dX5_addBoat_105 : decode cX5_addBoat 105 = .ok (.imul, 1) := by decide +kernel
theorem dX5_addBoat_106 : decode cX5_addBoat 106 = .ok (.iconst 1, 1) := by decide +kernel
theorem dX5_addBoat_107 : decode cX5_addBoat 107 = .ok (.iadd, 1) := by decide +kernel
theorem dX5_addBoat_108 : decode cX5_addBoat 108 = .ok (.iload_n 2, 1) := by decide +kernel
theorem dX5_addBoat_109 : decode cX5_addBoat 109 = .ok (.iastore, 1) := by decide +kernel
theorem dX5_addBoat_110 : decode cX5_addBoat 110 = .ok (.aload_n 0, 1) := by decide +kernel
theorem dX5_addBoat_111 : decode cX5_addBoat 111 = .ok (.getfield 9, 3) := by decide +kernel
theorem dX5_addBoat_114 : decode cX5_addBoat 114 = .ok (.iconst 4, 1) := by decide +kernel
theorem dX5_addBoat_115 : decode cX5_addBoat 115 = .ok (.aload_n 0, 1) := by decide +kernel
theorem dX5_addBoat_116 : decode cX5_addBoat 116 = .ok (.getfield 77, 3) := by decide +kernel
theorem dX5_addBoat_119 : decode cX5_addBoat 119 = .ok (.imul, 1) := by decide +kernel
theorem dX5_addBoat_120 : decode cX5_addBoat 120 = .ok (.iconst 2, 1) := by decide +kernel
theorem dX5_addBoat_121 : decode cX5_addBoat 121 = .ok (.iadd, 1) := by decide +kernel
theorem dX5_addBoat_122 : decode cX5_addBoat 122 = .ok (.iload_n 3, 1) := by decide +kernel
theorem dX5_addBoat_123 : decode cX5_addBoat 123 = .ok (.iastore, 1) := by decide +kernel
theorem dX5_addBoat_124 : decode cX5_addBoat 124 = .ok (.aload_n 0, 1) := by decide +kernel
theorem dX5_addBoat_125 : decode cX5_addBoat 125 = .ok (.getfield 9, 3) := by decide +kernel
theorem dX5_addBoat_128 : decode cX5_addBoat 128 = .ok (.iconst 4, 1) := by decide +kernel
theorem dX5_addBoat_129 : decode cX5_addBoat 129 = .ok (.aload_n 0, 1) := by decide +kernel
theorem dX5_addBoat_130 : decode cX5_addBoat 130 = .ok (.getfield 77, 3) := by decide +kernel
theorem dX5_addBoat_133 : decode cX5_addBoat 133 = .ok (.imul, 1) := by decide +kernel
theorem dX5_addBoat_134 : decode cX5_addBoat 134 = .ok (.iconst 3, 1) := by decide +kernel
theorem dX5_addBoat_135 : decode cX5_addBoat 135 = .ok (.iadd, 1) := by decide +kernel
theorem dX5_addBoat_136 : decode cX5_addBoat 136 = .ok (.iload 4, 2) := by decide +kernel
theorem dX5_addBoat_138 : decode cX5_addBoat 138 = .ok (.iastore, 1) := by decide +kernel
theorem dX5_addBoat_139 : decode cX5_addBoat 139 = .ok (.aload_n 0, 1) := by decide +kernel
theorem dX5_addBoat_140 : decode cX5_addBoat 140 = .ok (.dup, 1) := by decide +kernel
theorem dX5_addBoat_141 : decode cX5_addBoat 141 = .ok (.getfield 77, 3) := by decide +kernel
theorem dX5_addBoat_144 : decode cX5_addBoat 144 = .ok (.iconst 1, 1) := by decide +kernel
theorem dX5_addBoat_145 : decode cX5_addBoat 145 = .ok (.iadd, 1) := by decide +kernel
theorem dX5_addBoat_146 : decode cX5_addBoat 146 = .ok (.putfield 77, 3) := by decide +kernel
theorem dX5_addBoat_149 : decode cX5_addBoat 149 = .ok (.aload_n 0, 1) := by decide +kernel
theorem dX5_addBoat_150 : decode cX5_addBoat 150 = .ok (.getfield 77, 3) := by decide +kernel
theorem dX5_addBoat_153 : decode cX5_addBoat 153 = .ok (.iconst 1, 1) := by decide +kernel
theorem dX5_addBoat_154 : decode cX5_addBoat 154 = .ok (.isub, 1) := by decide +kernel
theorem dX5_addBoat_155 : decode cX5_addBoat 155 = .ok (.ireturn, 1) := by decide +kernel
theorem dX5_land_0 : decode cX5_land 0 = .ok (.iload_n 2, 1) := by decide +kernel
theorem dX5_land_1 : decode cX5_land 1 = .ok (.invokestatic 97, 3) := by decide +kernel
theorem dX5_land_4 : decode cX5_land 4 = .ok (.ifCond .eq 24, 3) := by decide +kernel
theorem dX5_land_7 : decode cX5_land 7 = .ok (.iload_n 3, 1) := by decide +kernel
theorem dX5_land_8 : decode cX5_land 8 = .ok (.iconst 0, 1) := by decide +kernel
theorem dX5_land_9 : decode cX5_land 9 = .ok (.iconst 2, 1) := by decide +kernel
theorem dX5_land_10 : decode cX5_land 10 = .ok (.invokestatic 80, 3) := by decide +kernel
theorem dX5_land_13 : decode cX5_land 13 = .ok (.ifCond .eq 15, 3) := by decide +kernel
theorem dX5_land_16 : decode cX5_land 16 = .ok (.iload 4, 2) := by decide +kernel
theorem dX5_land_18 : decode cX5_land 18 = .ok (.iconst 1, 1) := by decide +kernel
theorem dX5_land_19 : decode cX5_land 19 = .ok (.sipush 2000, 3) := by decide +kernel
theorem dX5_land_22 : decode cX5_land 22 = .ok (.invokestatic 80, 3) := by decide +kernel
theorem dX5_land_25 : decode cX5_land 25 = .ok (.ifCond .ne 7, 3) := by decide +kernel
theorem dX5_land_28 : decode cX5_land 28 = .ok (.iconst 1, 1) := by decide +kernel
theorem dX5_land_29 : decode cX5_land 29 = .ok (.goto 4, 3) := by decide +kernel
theorem dX5_land_32 : decode cX5_land 32 = .ok (.iconst 0, 1) := by decide +kernel
theorem dX5_land_33 : decode cX5_land 33 = .ok (.istore 6, 2) := by decide +kernel
theorem dX5_land_35 : decode cX5_land 35 = .ok (.aload_n 0, 1) := by decide +kernel
theorem dX5_land_36 : decode cX5_land 36 = .ok (.iload_n 1, 1) := by decide +kernel
theorem dX5_land_37 : decode cX5_land 37 = .ok (.invokevirtual 100, 3) := by decide +kernel
theorem dX5_land_40 : decode cX5_land 40 = .ok (.ifCond .ne 7, 3) := by decide +kernel
theorem dX5_land_43 : decode cX5_land 43 = .ok (.iconst 1, 1) := by decide +kernel
theorem dX5_land_44 : decode cX5_land 44 = .ok (.goto 43, 3) := by decide +kernel
theorem dX5_land_47 : decode cX5_land 47 = .ok (.iload 6, 2) := by decide +kernel
theorem dX5_land_49 : decode cX5_land 49 = .ok (.ifCond .eq 7, 3) := by decide +kernel
theorem dX5_land_52 : decode cX5_land 52 = .ok (.iconst 2, 1) := by decide +kernel
theorem dX5_land_53 : decode cX5_land 53 = .ok (.goto 34, 3) := by decide +kernel
theorem dX5_land_56 : decode cX5_land 56 = .ok (.aload_n 0, 1) := by decide +kernel
theorem dX5_land_57 : decode cX5_land 57 = .ok (.getfield 84, 3) := by decide +kernel
theorem dX5_land_60 : decode cX5_land 60 = .ok (.bipush 20, 2) := by decide +kernel
theorem dX5_land_62 : decode cX5_land 62 = .ok (.if_icmp .ne 7, 3) := by decide +kernel
theorem dX5_land_65 : decode cX5_land 65 = .ok (.iconst 3, 1) := by decide +kernel
theorem dX5_land_66 : decode cX5_land 66 = .ok (.goto 21, 3) := by decide +kernel
theorem dX5_land_69 : decode cX5_land 69 = .ok (.aload_n 0, 1) := by decide +kernel
theorem dX5_land_70 : decode cX5_land 70 = .ok (.getfield 9, 3) := by decide +kernel
theorem dX5_land_73 : decode cX5_land 73 = .ok (.iconst 4, 1) := by decide +kernel
theorem dX5_land_74 : decode cX5_land 74 = .ok (.iload_n 1, 1) := by decide +kernel
theorem dX5_land_75 : decode cX5_land 75 = .ok (.imul, 1) := by decide +kernel
theorem dX5_land_76 : decode cX5_land 76 = .ok (.iload_n 2, 1) := by decide +kernel
theorem dX5_land_77 : decode cX5_land 77 = .ok (.iadd, 1) := by decide +kernel
theorem dX5_land_78 : decode cX5_land 78 = .ok (.iaload, 1) := by decide +kernel
theorem dX5_land_79 : decode cX5_land 79 = .ok (.ifCond .ne 7, 3) := by decide +kernel
theorem dX5_land_82 : decode cX5_land 82 = .ok (.iconst 4, 1) := by decide +kernel
theorem dX5_land_83 : decode cX5_land 83 = .ok (.goto 4, 3) := by decide +kernel
theorem dX5_land_86 : decode cX5_land 86 = .ok (.iconst 0, 1) := by decide +kernel
theorem dX5_land_87 : decode cX5_land 87 = .ok (.istore 7, 2) := by decide +kernel
theorem dX5_land_89 : decode cX5_land 89 = .ok (.aload_n 0, 1) := by decide +kernel
theorem dX5_land_90 : decode cX5_land 90 = .ok (.iload 7, 2) := by decide +kernel
theorem dX5_land_92 : decode cX5_land 92 = .ok (.invokevirtual 93, 3) := by decide +kernel
theorem dX5_land_95 : decode cX5_land 95 = .ok (.ifCond .ne 5, 3) := by decide +kernel
theorem dX5_land_98 : decode cX5_land 98 = .ok (.iconst 0, 1) := by decide +kernel
theorem dX5_land_99 : decode cX5_land 99 = .ok (.ireturn, 1) := by decide +kernel
theorem dX5_land_100 : decode cX5_land 100 = .ok (.aload_n 0, 1) := by decide +kernel
theorem dX5_land_101 : decode cX5_land 101 = .ok (.getfield 9, 3) := by decide +kernel
theorem dX5_land_104 : decode cX5_land 104 = .ok (.iconst 4, 1) := by decide +kernel
theorem dX5_land_105 : decode cX5_land 105 = .ok (.iload_n 1, 1) := by decide +kernel
theorem dX5_land_106 : decode cX5_land 106 = .ok (.imul, 1) := by decide +kernel
theorem dX5_land_107 : decode cX5_land 107 = .ok (.iload_n 2, 1) := by decide +kernel
theorem dX5_land_108 : decode cX5_land 108 = .ok (.iadd, 1) := by decide +kernel
theorem dX5_land_109 : decode cX5_land 109 = .ok (.iaload, 1) := by decide +kernel
theorem dX5_land_110 : decode cX5_land 110 = .ok (.istore 8, 2) := by decide +kernel
theorem dX5_land_112 : decode cX5_land 112 = .ok (.iload 4, 2) := by decide +kernel
theorem dX5_land_114 : decode cX5_land 114 = .ok (.iload 8, 2) := by decide +kernel
theorem dX5_land_116 : decode cX5_land 116 = .ok (.if_icmp .ge 8, 3) := by decide +kernel
theorem dX5_land_119 : decode cX5_land 119 = .ok (.iload 4, 2) := by decide +kernel
theorem dX5_land_121 : decode cX5_land 121 = .ok (.goto 5, 3) := by decide +kernel
theorem dX5_land_124 : decode cX5_land 124 = .ok (.iload 8, 2) := by decide +kernel
theorem dX5_land_126 : decode cX5_land 126 = .ok (.istore 9, 2) := by decide +kernel
theorem dX5_land_128 : decode cX5_land 128 = .ok (.aload_n 0, 1) := by decide +kernel
theorem dX5_land_129 : decode cX5_land 129 = .ok (.getfield 9, 3) := by decide +kernel
theorem dX5_land_132 : decode cX5_land 132 = .ok (.iconst 4, 1) := by decide +kernel
theorem dX5_land_133 : decode cX5_land 133 = .ok (.iload_n 1, 1) := by decide +kernel
theorem dX5_land_134 : decode cX5_land 134 = .ok (.imul, 1) := by decide +kernel
theorem dX5_land_135 : decode cX5_land 135 = .ok (.iload_n 2, 1) := by decide +kernel
theorem dX5_land_136 : decode cX5_land 136 = .ok (.iadd, 1) := by decide +kernel
theorem dX5_land_137 : decode cX5_land 137 = .ok (.dup2, 1) := by decide +kernel
theorem dX5_land_138 : decode cX5_land 138 = .ok (.iaload, 1) := by decide +kernel
theorem dX5_land_139 : decode cX5_land 139 = .ok (.iload 9, 2) := by decide +kernel
theorem dX5_land_141 : decode cX5_land 141 = .ok (.isub, 1) := by decide +kernel
theorem dX5_land_142 : decode cX5_land 142 = .ok (.iastore, 1) := by decide +kernel
theorem dX5_land_143 : decode cX5_land 143 = .ok (.aload_n 0, 1) := by decide +kernel
theorem dX5_land_144 : decode cX5_land 144 = .ok (.dup, 1) := by decide +kernel
theorem dX5_land_145 : decode cX5_land 145 = .ok (.getfield 103, 3) := by decide +kernel
theorem dX5_land_148 : decode cX5_land 148 = .ok (.iload 4, 2) := by decide +kernel
theorem dX5_land_150 : decode cX5_land 150 = .ok (.iload 9, 2) := by decide +kernel
theorem dX5_land_152 : decode cX5_land 152 = .ok (.isub, 1) := by decide +kernel
theorem dX5_land_153 : decode cX5_land 153 = .ok (.iadd, 1) := by decide +kernel
theorem dX5_land_154 : decode cX5_land 154 = .ok (.putfield 103, 3) := by decide +kernel
theorem dX5_land_157 : decode cX5_land 157 = .ok (.aload_n 0, 1) := by decide +kernel
theorem dX5_land_158 : decode cX5_land 158 = .ok (.getfield 16, 3) := by decide +kernel
theorem dX5_land_161 : decode cX5_land 161 = .ok (.aload_n 0, 1) := by decide +kernel
theorem dX5_land_162 : decode cX5_land 162 = .ok (.getfield 84, 3) := by decide +kernel
theorem dX5_land_165 : decode cX5_land 165 = .ok (.iload_n 2, 1) := by decide +kernel
theorem dX5_land_166 : decode cX5_land 166 = .ok (.iastore, 1) := by decide +kernel
theorem dX5_land_167 : decode cX5_land 167 = .ok (.aload_n 0, 1) := by decide +kernel
theorem dX5_land_168 : decode cX5_land 168 = .ok (.getfield 19, 3) := by decide +kernel
theorem dX5_land_171 : decode cX5_land 171 = .ok (.aload_n 0, 1) := by decide +kernel
theorem dX5_land_172 : decode cX5_land 172 = .ok (.getfield 84, 3) := by decide +kernel
theorem dX5_land_175 : decode cX5_land 175 = .ok (.iload_n 3, 1) := by decide +kernel
theorem dX5_land_176 : decode cX5_land 176 = .ok (.iastore, 1) := by decide +kernel
theorem dX5_land_177 : decode cX5_land 177 = .ok (.aload_n 0, 1) := by decide +kernel
theorem dX5_land_178 : decode cX5_land 178 = .ok (.getfield 22, 3) := by decide +kernel
theorem dX5_land_181 : decode cX5_land 181 = .ok (.aload_n 0, 1) := by decide +kernel
theorem dX5_land_182 : decode cX5_land 182 = .ok (.getfield 84, 3) := by decide +kernel
theorem dX5_land_185 : decode cX5_land 185 = .ok (.iload 9, 2) := by decide +kernel
theorem dX5_land_187 : decode cX5_land 187 = .ok (.iastore, 1) := by decide +kernel
theorem dX5_land_188 : decode cX5_land 188 = .ok (.aload_n 0, 1) := by decide +kernel
theorem dX5_land_189 : decode cX5_land 189 = .ok (.getfield 25, 3) := by decide +kernel
theorem dX5_land_192 : decode cX5_land 192 = .ok (.aload_n 0, 1) := by decide +kernel
theorem dX5_land_193 : decode cX5_land 193 = .ok (.getfield 84, 3) := by decide +kernel
theorem dX5_land_196 : decode cX5_land 196 = .ok (.iload 5, 2) := by decide +kernel
theorem dX5_land_198 : decode cX5_land 198 = .ok (.bastore, 1) := by decide +kernel
theorem dX5_land_199 : decode cX5_land 199 = .ok (.aload_n 0, 1) := by decide +kernel
theorem dX5_land_200 : decode cX5_land 200 = .ok (.getfield 29, 3) := by decide +kernel
theorem dX5_land_203 : decode cX5_land 203 = .ok (.aload_n 0, 1) := by decide +kernel
theorem dX5_land_204 : decode cX5_land 204 = .ok (.getfield 84, 3) := by decide +kernel
theorem dX5_land_207 : decode cX5_land 207 = .ok (.bipush 102, 2) := by decide +kernel
theorem dX5_land_209 : decode cX5_land 209 = .ok (.castore, 1) := by decide +kernel
theorem dX5_land_210 : decode cX5_land 210 = .ok (.aload_n 0, 1) := by decide +kernel
theorem dX5_land_211 : decode cX5_land 211 = .ok (.getfield 33, 3) := by decide +kernel
theorem dX5_land_214 : decode cX5_land 214 = .ok (.aload_n 0, 1) := by decide +kernel
theorem dX5_land_215 : decode cX5_land 215 = .ok (.getfield 84, 3) := by decide +kernel
theorem dX5_land_218 : decode cX5_land 218 = .ok (.ldc 106, 2) := by decide +kernel
theorem dX5_land_220 : decode cX5_land 220 = .ok (.fastore, 1) := by decide +kernel
theorem dX5_land_221 : decode cX5_land 221 = .ok (.aload_n 0, 1) := by decide +kernel
theorem dX5_land_222 : decode cX5_land 222 = .ok (.getfield 40, 3) := by decide +kernel
theorem dX5_land_225 : decode cX5_land 225 = .ok (.aload_n 0, 1) := by decide +kernel
theorem dX5_land_226 : decode cX5_land 226 = .ok (.getfield 84, 3) := by decide +kernel
theorem dX5_land_229 : decode cX5_land 229 = .ok (.iconst (-1), 1) := by decide +kernel
theorem dX5_land_230 : decode cX5_land 230 = .ok (.iastore, 1) := by decide +kernel
theorem dX5_land_231 : decode cX5_land 231 = .ok (.aload_n 0, 1) := by decide +kernel
theorem dX5_land_232 : decode cX5_land 232 = .ok (.dup, 1) := by decide +kernel
theorem dX5_land_233 : decode cX5_land 233 = .ok (.getfield 84, 3) := by decide +kernel
theorem dX5_land_236 : decode cX5_land 236 = .ok (.iconst 1, 1) := by decide +kernel
theorem dX5_land_237 : decode cX5_land 237 = .ok (.iadd, 1) := by decide +kernel
theorem dX5_land_238 : decode cX5_land 238 = .ok (.putfield 84, 3) := by decide +kernel
theorem dX5_land_241 : decode cX5_land 241 = .ok (.aload_n 0, 1) := by decide +kernel
theorem dX5_land_242 : decode cX5_land 242 = .ok (.getfield 84, 3) := by decide +kernel
theorem dX5_land_245 : decode cX5_land 245 = .ok (.iconst 1, 1) := by decide +kernel
theorem dX5_land_246 : decode cX5_land 246 = .ok (.isub, 1) := by decide +kernel
theorem dX5_land_247 : decode cX5_land 247 = .ok (.ireturn, 1) := by decide +kernel
theorem dX5_moveQuota_0 : decode cX5_moveQuota 0 = .ok (.aload_n 0, 1) := by decide +kernel
theorem dX5_moveQuota_1 : decode cX5_moveQuota 1 = .ok (.iload_n 1, 1) := by decide +kernel
theorem dX5_moveQuota_2 : decode cX5_moveQuota 2 = .ok (.invokevirtual 100, 3) := by decide +kernel
theorem dX5_moveQuota_5 : decode cX5_moveQuota 5 = .ok (.ifCond .eq 11, 3) := by decide +kernel
theorem dX5_moveQuota_8 : decode cX5_moveQuota 8 = .ok (.aload_n 0, 1) := by decide +kernel
theorem dX5_moveQuota_9 : decode cX5_moveQuota 9 = .ok (.iload_n 2, 1) := by decide +kernel
theorem dX5_moveQuota_10 : decode cX5_moveQuota 10 = .ok (.invokevirtual 100, 3) := by decide +kernel
theorem dX5_moveQuota_13 : decode cX5_moveQuota 13 = .ok (.ifCond .ne 7, 3) := by decide +kernel
theorem dX5_moveQuota_16 : decode cX5_moveQuota 16 = .ok (.iconst 1, 1) := by decide +kernel
theorem dX5_moveQuota_17 : decode cX5_moveQuota 17 = .ok (.goto 51, 3) := by decide +kernel
theorem dX5_moveQuota_20 : decode cX5_moveQuota 20 = .ok (.iload_n 1, 1) := by decide +kernel
theorem dX5_moveQuota_21 : decode cX5_moveQuota 21 = .ok (.iload_n 2, 1) := by decide +kernel
theorem dX5_moveQuota_22 : decode cX5_moveQuota 22 = .ok (.if_icmp .eq 22, 3) := by decide +kernel
theorem dX5_moveQuota_25 : decode cX5_moveQuota 25 = .ok (.iload_n 3, 1) := by decide +kernel
theorem dX5_moveQuota_26 : decode cX5_moveQuota 26 = .ok (.invokestatic 97, 3) := by decide +kernel
theorem dX5_moveQuota_29 : decode cX5_moveQuota 29 = .ok (.ifCond .eq 15, 3) := by decide +kernel
theorem dX5_moveQuota_32 : decode cX5_moveQuota 32 = .ok (.iload 4, 2) := by decide +kernel
theorem dX5_moveQuota_34 : decode cX5_moveQuota 34 = .ok (.iconst 1, 1) := by decide +kernel
theorem dX5_moveQuota_35 : decode cX5_moveQuota 35 = .ok (.sipush 9999, 3) := by decide +kernel
theorem dX5_moveQuota_38 : decode cX5_moveQuota 38 = .ok (.invokestatic 80, 3) := by decide +kernel
theorem dX5_moveQuota_41 : decode cX5_moveQuota 41 = .ok (.ifCond .ne 7, 3) := by decide +kernel
theorem dX5_moveQuota_44 : decode cX5_moveQuota 44 = .ok (.iconst 2, 1) := by decide +kernel
theorem dX5_moveQuota_45 : decode cX5_moveQuota 45 = .ok (.goto 23, 3) := by decide +kernel
theorem dX5_moveQuota_48 : decode cX5_moveQuota 48 = .ok (.aload_n 0, 1) := by decide +kernel
theorem dX5_moveQuota_49 : decode cX5_moveQuota 49 = .ok (.getfield 9, 3) := by decide +kernel
theorem dX5_moveQuota_52 : decode cX5_moveQuota 52 = .ok (.iconst 4, 1) := by decide +kernel
theorem dX5_moveQuota_53 : decode cX5_moveQuota 53 = .ok (.iload_n 1, 1) := by decide +kernel
theorem dX5_moveQuota_54 : decode cX5_moveQuota 54 = .ok (.imul, 1) := by decide +kernel
theorem dX5_moveQuota_55 : decode cX5_moveQuota 55 = .ok (.iload_n 3, 1) := by decide +kernel
theorem dX5_moveQuota_56 : decode cX5_moveQuota 56 = .ok (.iadd, 1) := by decide +kernel
theorem dX5_moveQuota_57 : decode cX5_moveQuota 57 = .ok (.iaload, 1) := by decide +kernel
theorem dX5_moveQuota_58 : decode cX5_moveQuota 58 = .ok (.iload 4, 2) := by decide +kernel
theorem dX5_moveQuota_60 : decode cX5_moveQuota 60 = .ok (.if_icmp .ge 7, 3) := by decide +kernel
theorem dX5_moveQuota_63 : decode cX5_moveQuota 63 = .ok (.iconst 3, 1) := by decide +kernel
theorem dX5_moveQuota_64 : decode cX5_moveQuota 64 = .ok (.goto 4, 3) := by decide +kernel
theorem dX5_moveQuota_67 : decode cX5_moveQuota 67 = .ok (.iconst 0, 1) := by decide +kernel
theorem dX5_moveQuota_68 : decode cX5_moveQuota 68 = .ok (.istore 5, 2) := by decide +kernel
theorem dX5_moveQuota_70 : decode cX5_moveQuota 70 = .ok (.aload_n 0, 1) := by decide +kernel
theorem dX5_moveQuota_71 : decode cX5_moveQuota 71 = .ok (.iload 5, 2) := by decide +kernel
theorem dX5_moveQuota_73 : decode cX5_moveQuota 73 = .ok (.invokevirtual 93, 3) := by decide +kernel
theorem dX5_moveQuota_76 : decode cX5_moveQuota 76 = .ok (.ifCond .ne 5, 3) := by decide +kernel
theorem dX5_moveQuota_79 : decode cX5_moveQuota 79 = .ok (.iconst 0, 1) := by decide +kernel
theorem dX5_moveQuota_80 : decode cX5_moveQuota 80 = .ok (.ireturn, 1) := by decide +kernel
theorem dX5_moveQuota_81 : decode cX5_moveQuota 81 = .ok (.aload_n 0, 1) := by decide +kernel
theorem dX5_moveQuota_82 : decode cX5_moveQuota 82 = .ok (.getfield 9, 3) := by decide +kernel
theorem dX5_moveQuota_85 : decode cX5_moveQuota 85 = .ok (.iconst 4, 1) := by decide +kernel
theorem dX5_moveQuota_86 : decode cX5_moveQuota 86 = .ok (.iload_n 1, 1) := by decide +kernel
theorem dX5_moveQuota_87 : decode cX5_moveQuota 87 = .ok (.imul, 1) := by decide +kernel
theorem dX5_moveQuota_88 : decode cX5_moveQuota 88 = .ok (.iload_n 3, 1) := by decide +kernel
theorem dX5_moveQuota_89 : decode cX5_moveQuota 89 = .ok (.iadd, 1) := by decide +kernel
theorem dX5_moveQuota_90 : decode cX5_moveQuota 90 = .ok (.dup2, 1) := by decide +kernel
theorem dX5_moveQuota_91 : decode cX5_moveQuota 91 = .ok (.iaload, 1) := by decide +kernel
theorem dX5_moveQuota_92 : decode cX5_moveQuota 92 = .ok (.iload 4, 2) := by decide +kernel
theorem dX5_moveQuota_94 : decode cX5_moveQuota 94 = .ok (.isub, 1) := by decide +kernel
theorem dX5_moveQuota_95 : decode cX5_moveQuota 95 = .ok (.iastore, 1) := by decide +kernel
theorem dX5_moveQuota_96 : decode cX5_moveQuota 96 = .ok (.aload_n 0, 1) := by decide +kernel
theorem dX5_moveQuota_97 : decode cX5_moveQuota 97 = .ok (.getfield 9, 3) := by decide +kernel
theorem dX5_moveQuota_100 : decode cX5_moveQuota 100 = .ok (.iconst 4, 1) := by decide +kernel
theorem dX5_moveQuota_101 : decode cX5_moveQuota 101 = .ok (.iload_n 2, 1) := by decide +kernel
theorem dX5_moveQuota_102 : decode cX5_moveQuota 102 = .ok (.imul, 1) := by decide +kernel
theorem dX5_moveQuota_103 : decode cX5_moveQuota 103 = .ok (.iload_n 3, 1) := by decide +kernel
theorem dX5_moveQuota_104 : decode cX5_moveQuota 104 = .ok (.iadd, 1) := by decide +kernel
theorem dX5_moveQuota_105 : decode cX5_moveQuota 105 = .ok (.dup2, 1) := by decide +kernel
theorem dX5_moveQuota_106 : decode cX5_moveQuota 106 = .ok (.iaload, 1) := by decide +kernel
theorem dX5_moveQuota_107 : decode cX5_moveQuota 107 = .ok (.iload 4, 2) := by decide +kernel
theorem dX5_moveQuota_109 : decode cX5_moveQuota 109 = .ok (.iadd, 1) := by decide +kernel
theorem dX5_moveQuota_110 : decode cX5_moveQuota 110 = .ok (.iastore, 1) := by decide +kernel
theorem dX5_moveQuota_111 : decode cX5_moveQuota 111 = .ok (.aload_n 0, 1) := by decide +kernel
theorem dX5_moveQuota_112 : decode cX5_moveQuota 112 = .ok (.getfield 9, 3) := by decide +kernel
theorem dX5_moveQuota_115 : decode cX5_moveQuota 115 = .ok (.iconst 4, 1) := by decide +kernel
theorem dX5_moveQuota_116 : decode cX5_moveQuota 116 = .ok (.iload_n 1, 1) := by decide +kernel
theorem dX5_moveQuota_117 : decode cX5_moveQuota 117 = .ok (.imul, 1) := by decide +kernel
theorem dX5_moveQuota_118 : decode cX5_moveQuota 118 = .ok (.iload_n 3, 1) := by decide +kernel
theorem dX5_moveQuota_119 : decode cX5_moveQuota 119 = .ok (.iadd, 1) := by decide +kernel
theorem dX5_moveQuota_120 : decode cX5_moveQuota 120 = .ok (.iaload, 1) := by decide +kernel
theorem dX5_moveQuota_121 : decode cX5_moveQuota 121 = .ok (.ireturn, 1) := by decide +kernel
theorem dX5_quota_0 : decode cX5_quota 0 = .ok (.aload_n 0, 1) := by decide +kernel
theorem dX5_quota_1 : decode cX5_quota 1 = .ok (.aload_n 0, 1) := by decide +kernel
theorem dX5_quota_2 : decode cX5_quota 2 = .ok (.iload_n 1, 1) := by decide +kernel
theorem dX5_quota_3 : decode cX5_quota 3 = .ok (.invokevirtual 100, 3) := by decide +kernel
theorem dX5_quota_6 : decode cX5_quota 6 = .ok (.ifCond .ne 7, 3) := by decide +kernel
theorem dX5_quota_9 : decode cX5_quota 9 = .ok (.iconst 1, 1) := by decide +kernel
theorem dX5_quota_10 : decode cX5_quota 10 = .ok (.goto 15, 3) := by decide +kernel
theorem dX5_quota_13 : decode cX5_quota 13 = .ok (.iload_n 2, 1) := by decide +kernel
theorem dX5_quota_14 : decode cX5_quota 14 = .ok (.invokestatic 97, 3) := by decide +kernel
theorem dX5_quota_17 : decode cX5_quota 17 = .ok (.ifCond .ne 7, 3) := by decide +kernel
theorem dX5_quota_20 : decode cX5_quota 20 = .ok (.iconst 2, 1) := by decide +kernel
theorem dX5_quota_21 : decode cX5_quota 21 = .ok (.goto 4, 3) := by decide +kernel
theorem dX5_quota_24 : decode cX5_quota 24 = .ok (.iconst 0, 1) := by decide +kernel
theorem dX5_quota_25 : decode cX5_quota 25 = .ok (.invokevirtual 93, 3) := by decide +kernel
theorem dX5_quota_28 : decode cX5_quota 28 = .ok (.ifCond .eq 16, 3) := by decide +kernel
theorem dX5_quota_31 : decode cX5_quota 31 = .ok (.aload_n 0, 1) := by decide +kernel
theorem dX5_quota_32 : decode cX5_quota 32 = .ok (.getfield 9, 3) := by decide +kernel
theorem dX5_quota_35 : decode cX5_quota 35 = .ok (.iconst 4, 1) := by decide +kernel
theorem dX5_quota_36 : decode cX5_quota 36 = .ok (.iload_n 1, 1) := by decide +kernel
theorem dX5_quota_37 : decode cX5_quota 37 = .ok (.imul, 1) := by decide +kernel
theorem dX5_quota_38 : decode cX5_quota 38 = .ok (.iload_n 2, 1) := by decide +kernel
theorem dX5_quota_39 : decode cX5_quota 39 = .ok (.iadd, 1) := by decide +kernel
theorem dX5_quota_40 : decode cX5_quota 40 = .ok (.iaload, 1) := by decide +kernel
theorem dX5_quota_41 : decode cX5_quota 41 = .ok (.goto 4, 3) := by decide +kernel
theorem dX5_quota_44 : decode cX5_quota 44 = .ok (.iconst 0, 1) := by decide +kernel
theorem dX5_quota_45 : decode cX5_quota 45 = .ok (.ireturn, 1) := by decide +kernel
theorem dX5_quotaAt_0 : decode cX5_quotaAt 0 = .ok (.aload_n 0, 1) := by decide +kernel
theorem dX5_quotaAt_1 : decode cX5_quotaAt 1 = .ok (.iload_n 1, 1) := by decide +kernel
theorem dX5_quotaAt_2 : decode cX5_quotaAt 2 = .ok (.invokevirtual 100, 3) := by decide +kernel
theorem dX5_quotaAt_5 : decode cX5_quotaAt 5 = .ok (.ifCond .ne 7, 3) := by decide +kernel
theorem dX5_quotaAt_8 : decode cX5_quotaAt 8 = .ok (.iconst 1, 1) := by decide +kernel
theorem dX5_quotaAt_9 : decode cX5_quotaAt 9 = .ok (.goto 33, 3) := by decide +kernel
theorem dX5_quotaAt_12 : decode cX5_quotaAt 12 = .ok (.iload_n 2, 1) := by decide +kernel
theorem dX5_quotaAt_13 : decode cX5_quotaAt 13 = .ok (.invokestatic 97, 3) := by decide +kernel
theorem dX5_quotaAt_16 : decode cX5_quotaAt 16 = .ok (.ifCond .ne 7, 3) := by decide +kernel
theorem dX5_quotaAt_19 : decode cX5_quotaAt 19 = .ok (.iconst 2, 1) := by decide +kernel
theorem dX5_quotaAt_20 : decode cX5_quotaAt 20 = .ok (.goto 22, 3) := by decide +kernel
theorem dX5_quotaAt_23 : decode cX5_quotaAt 23 = .ok (.iload_n 3, 1) := by decide +kernel
theorem dX5_quotaAt_24 : decode cX5_quotaAt 24 = .ok (.iconst 0, 1) := by decide +kernel
theorem dX5_quotaAt_25 : decode cX5_quotaAt 25 = .ok (.aload_n 0, 1) := by decide +kernel
theorem dX5_quotaAt_26 : decode cX5_quotaAt 26 = .ok (.getfield 107, 3) := by decide +kernel
theorem dX5_quotaAt_29 : decode cX5_quotaAt 29 = .ok (.iconst 1, 1) := by decide +kernel
theorem dX5_quotaAt_30 : decode cX5_quotaAt 30 = .ok (.isub, 1) := by decide +kernel
theorem dX5_quotaAt_31 : decode cX5_quotaAt 31 = .ok (.invokestatic 80, 3) := by decide +kernel
theorem dX5_quotaAt_34 : decode cX5_quotaAt 34 = .ok (.ifCond .ne 7, 3) := by decide +kernel
theorem dX5_quotaAt_37 : decode cX5_quotaAt 37 = .ok (.iconst 3, 1) := by decide +kernel
theorem dX5_quotaAt_38 : decode cX5_quotaAt 38 = .ok (.goto 4, 3) := by decide +kernel
theorem dX5_quotaAt_41 : decode cX5_quotaAt 41 = .ok (.iconst 0, 1) := by decide +kernel
theorem dX5_quotaAt_42 : decode cX5_quotaAt 42 = .ok (.istore 4, 2) := by decide +kernel
theorem dX5_quotaAt_44 : decode cX5_quotaAt 44 = .ok (.aload_n 0, 1) := by decide +kernel
theorem dX5_quotaAt_45 : decode cX5_quotaAt 45 = .ok (.iload 4, 2) := by decide +kernel
theorem dX5_quotaAt_47 : decode cX5_quotaAt 47 = .ok (.invokevirtual 93, 3) := by decide +kernel
theorem dX5_quotaAt_50 : decode cX5_quotaAt 50 = .ok (.ifCond .eq 21, 3) := by decide +kernel
theorem dX5_quotaAt_53 : decode cX5_quotaAt 53 = .ok (.aload_n 0, 1) := by decide +kernel
theorem dX5_quotaAt_54 : decode cX5_quotaAt 54 = .ok (.getfield 13, 3) := by decide +kernel
theorem dX5_quotaAt_57 : decode cX5_quotaAt 57 = .ok (.bipush 24, 2) := by decide +kernel
theorem dX5_quotaAt_59 : decode cX5_quotaAt 59 = .ok (.iload_n 3, 1) := by decide +kernel
theorem dX5_quotaAt_60 : decode cX5_quotaAt 60 = .ok (.imul, 1) := by decide +kernel
theorem dX5_quotaAt_61 : decode cX5_quotaAt 61 = .ok (.iconst 4, 1) := by decide +kernel
theorem dX5_quotaAt_62 : decode cX5_quotaAt 62 = .ok (.iload_n 1, 1) := by decide +kernel
theorem dX5_quotaAt_63 : decode cX5_quotaAt 63 = .ok (.imul, 1) := by decide +kernel
theorem dX5_quotaAt_64 : decode cX5_quotaAt 64 = .ok (.iadd, 1) := by decide +kernel
theorem dX5_quotaAt_65 : decode cX5_quotaAt 65 = .ok (.iload_n 2, 1) := by decide +kernel
theorem dX5_quotaAt_66 : decode cX5_quotaAt 66 = .ok (.iadd, 1) := by decide +kernel
theorem dX5_quotaAt_67 : decode cX5_quotaAt 67 = .ok (.iaload, 1) := by decide +kernel
theorem dX5_quotaAt_68 : decode cX5_quotaAt 68 = .ok (.goto 4, 3) := by decide +kernel
theorem dX5_quotaAt_71 : decode cX5_quotaAt 71 = .ok (.iconst 0, 1) := by decide +kernel
theorem dX5_quotaAt_72 : decode cX5_quotaAt 72 = .ok (.ireturn, 1) := by decide +kernel
theorem dX5_endDay_0 : decode cX5_endDay 0 = .ok (.aload_n 0, 1) := by decide +kernel
theorem dX5_endDay_1 : decode cX5_endDay 1 = .ok (.aload_n 0, 1) := by decide +kernel
theorem dX5_endDay_2 : decode cX5_endDay 2 = .ok (.getfield 107, 3) := by decide +kernel
theorem dX5_endDay_5 : decode cX5_endDay 5 = .ok (.bipush 19, 2) := by decide +kernel
theorem dX5_endDay_7 : decode cX5_endDay 7 = .ok (.if_icmp .ne 7, 3) := by decide +kernel
theorem dX5_endDay_10 : decode cX5_endDay 10 = .ok (.iconst 1, 1) := by decide +kernel
theorem dX5_endDay_11 : decode cX5_endDay 11 = .ok (.goto 4, 3) := by decide +kernel
theorem dX5_endDay_14 : decode cX5_endDay 14 = .ok (.iconst 0, 1) := by decide +kernel
theorem dX5_endDay_15 : decode cX5_endDay 15 = .ok (.invokevirtual 93, 3) := by decide +kernel
theorem dX5_endDay_18 : decode cX5_endDay 18 = .ok (.ifCond .ne 5, 3) := by decide +kernel
theorem dX5_endDay_21 : decode cX5_endDay 21 = .ok (.iconst 0, 1) := by decide +kernel
theorem dX5_endDay_22 : decode cX5_endDay 22 = .ok (.ireturn, 1) := by decide +kernel
theorem dX5_endDay_23 : decode cX5_endDay 23 = .ok (.iconst 0, 1) := by decide +kernel
theorem dX5_endDay_24 : decode cX5_endDay 24 = .ok (.istore_n 1, 1) := by decide +kernel
theorem dX5_endDay_25 : decode cX5_endDay 25 = .ok (.iload_n 1, 1) := by decide +kernel
theorem dX5_endDay_26 : decode cX5_endDay 26 = .ok (.bipush 24, 2) := by decide +kernel
theorem dX5_endDay_28 : decode cX5_endDay 28 = .ok (.if_icmp .ge 29, 3) := by decide +kernel
theorem dX5_endDay_31 : decode cX5_endDay 31 = .ok (.aload_n 0, 1) := by decide +kernel
theorem dX5_endDay_32 : decode cX5_endDay 32 = .ok (.getfield 13, 3) := by decide +kernel
theorem dX5_endDay_35 : decode cX5_endDay 35 = .ok (.bipush 24, 2) := by decide +kernel
theorem dX5_endDay_37 : decode cX5_endDay 37 = .ok (.aload_n 0, 1) := by decide +kernel
theorem dX5_endDay_38 : decode cX5_endDay 38 = .ok (.getfield 107, 3) := by decide +kernel
theorem dX5_endDay_41 : decode cX5_endDay 41 = .ok (.imul, 1) := by decide +kernel
theorem dX5_endDay_42 : decode cX5_endDay 42 = .ok (.iload_n 1, 1) := by decide +kernel
theorem dX5_endDay_43 : decode cX5_endDay 43 = .ok (.iadd, 1) := by decide +kernel
theorem dX5_endDay_44 : decode cX5_endDay 44 = .ok (.aload_n 0, 1) := by decide +kernel
theorem dX5_endDay_45 : decode cX5_endDay 45 = .ok (.getfield 9, 3) := by decide +kernel
theorem dX5_endDay_48 : decode cX5_endDay 48 = .ok (.iload_n 1, 1) := by decide +kernel
theorem dX5_endDay_49 : decode cX5_endDay 49 = .ok (.iaload, 1) := by decide +kernel
theorem dX5_endDay_50 : decode cX5_endDay 50 = .ok (.iastore, 1) := by decide +kernel
theorem dX5_endDay_51 : decode cX5_endDay 51 = .ok (.iinc 1 1, 3) := by decide +kernel
theorem dX5_endDay_54 : decode cX5_endDay 54 = .ok (.goto (-29), 3) := by decide +kernel
theorem dX5_endDay_57 : decode cX5_endDay 57 = .ok (.aload_n 0, 1) := by decide +kernel
theorem dX5_endDay_58 : decode cX5_endDay 58 = .ok (.dup, 1) := by decide +kernel
theorem dX5_endDay_59 : decode cX5_endDay 59 = .ok (.getfield 107, 3) := by decide +kernel
theorem dX5_endDay_62 : decode cX5_endDay 62 = .ok (.iconst 1, 1) := by decide +kernel
theorem dX5_endDay_63 : decode cX5_endDay 63 = .ok (.iadd, 1) := by decide +kernel
theorem dX5_endDay_64 : decode cX5_endDay 64 = .ok (.putfield 107, 3) := by decide +kernel
theorem dX5_endDay_67 : decode cX5_endDay 67 = .ok (.aload_n 0, 1) := by decide +kernel
theorem dX5_endDay_68 : decode cX5_endDay 68 = .ok (.getfield 107, 3) := by decide +kernel
theorem dX5_endDay_71 : decode cX5_endDay 71 = .ok (.ireturn, 1) := by decide +kernel
theorem dX5_beyond_0 : decode cX5_beyond 0 = .ok (.aload_n 0, 1) := by decide +kernel
theorem dX5_beyond_1 : decode cX5_beyond 1 = .ok (.iconst 0, 1) := by decide +kernel
theorem dX5_beyond_2 : decode cX5_beyond 2 = .ok (.putfield 74, 3) := by decide +kernel
theorem dX5_beyond_5 : decode cX5_beyond 5 = .ok (.aload_n 0, 1) := by decide +kernel
theorem dX5_beyond_6 : decode cX5_beyond 6 = .ok (.getfield 103, 3) := by decide +kernel
theorem dX5_beyond_9 : decode cX5_beyond 9 = .ok (.ireturn, 1) := by decide +kernel
theorem dX5_weight_0 : decode cX5_weight 0 = .ok (.aload_n 0, 1) := by decide +kernel
theorem dX5_weight_1 : decode cX5_weight 1 = .ok (.aload_n 0, 1) := by decide +kernel
theorem dX5_weight_2 : decode cX5_weight 2 = .ok (.iload_n 1, 1) := by decide +kernel
theorem dX5_weight_3 : decode cX5_weight 3 = .ok (.invokevirtual 110, 3) := by decide +kernel
theorem dX5_weight_6 : decode cX5_weight 6 = .ok (.ifCond .eq 7, 3) := by decide +kernel
theorem dX5_weight_9 : decode cX5_weight 9 = .ok (.iconst 0, 1) := by decide +kernel
theorem dX5_weight_10 : decode cX5_weight 10 = .ok (.goto 4, 3) := by decide +kernel
theorem dX5_weight_13 : decode cX5_weight 13 = .ok (.iconst 1, 1) := by decide +kernel
theorem dX5_weight_14 : decode cX5_weight 14 = .ok (.invokevirtual 93, 3) := by decide +kernel
theorem dX5_weight_17 : decode cX5_weight 17 = .ok (.ifCond .eq 12, 3) := by decide +kernel
theorem dX5_weight_20 : decode cX5_weight 20 = .ok (.aload_n 0, 1) := by decide +kernel
theorem dX5_weight_21 : decode cX5_weight 21 = .ok (.getfield 22, 3) := by decide +kernel
theorem dX5_weight_24 : decode cX5_weight 24 = .ok (.iload_n 1, 1) := by decide +kernel
theorem dX5_weight_25 : decode cX5_weight 25 = .ok (.iaload, 1) := by decide +kernel
theorem dX5_weight_26 : decode cX5_weight 26 = .ok (.goto 4, 3) := by decide +kernel
theorem dX5_weight_29 : decode cX5_weight 29 = .ok (.iconst 0, 1) := by decide +kernel
theorem dX5_weight_30 : decode cX5_weight 30 = .ok (.ireturn, 1) := by decide +kernel
theorem dX5_stateOf_0 : decode cX5_stateOf 0 = .ok (.aload_n 0, 1) := by decide +kernel
theorem dX5_stateOf_1 : decode cX5_stateOf 1 = .ok (.aload_n 0, 1) := by decide +kernel
theorem dX5_stateOf_2 : decode cX5_stateOf 2 = .ok (.iload_n 1, 1) := by decide +kernel
theorem dX5_stateOf_3 : decode cX5_stateOf 3 = .ok (.invokevirtual 110, 3) := by decide +kernel
theorem dX5_stateOf_6 : decode cX5_stateOf 6 = .ok (.ifCond .eq 7, 3) := by decide +kernel
theorem dX5_stateOf_9 : decode cX5_stateOf 9 = .ok (.iconst 0, 1) := by decide +kernel
theorem dX5_stateOf_10 : decode cX5_stateOf 10 = .ok (.goto 4, 3) := by decide +kernel
theorem dX5_stateOf_13 : decode cX5_stateOf 13 = .ok (.iconst 1, 1) := by decide +kernel
theorem dX5_stateOf_14 : decode cX5_stateOf 14 = .ok (.invokevirtual 93, 3) := by decide +kernel
theorem dX5_stateOf_17 : decode cX5_stateOf 17 = .ok (.ifCond .eq 12, 3) := by decide +kernel
theorem dX5_stateOf_20 : decode cX5_stateOf 20 = .ok (.aload_n 0, 1) := by decide +kernel
theorem dX5_stateOf_21 : decode cX5_stateOf 21 = .ok (.getfield 29, 3) := by decide +kernel
theorem dX5_stateOf_24 : decode cX5_stateOf 24 = .ok (.iload_n 1, 1) := by decide +kernel
theorem dX5_stateOf_25 : decode cX5_stateOf 25 = .ok (.caload, 1) := by decide +kernel
theorem dX5_stateOf_26 : decode cX5_stateOf 26 = .ok (.goto 4, 3) := by decide +kernel
theorem dX5_stateOf_29 : decode cX5_stateOf 29 = .ok (.iconst 0, 1) := by decide +kernel
theorem dX5_stateOf_30 : decode cX5_stateOf 30 = .ok (.ireturn, 1) := by decide +kernel
theorem dX5_fresh_0 : decode cX5_fresh 0 = .ok (.aload_n 0, 1) := by decide +kernel
theorem dX5_fresh_1 : decode cX5_fresh 1 = .ok (.aload_n 0, 1) := by decide +kernel
theorem dX5_fresh_2 : decode cX5_fresh 2 = .ok (.iload_n 1, 1) := by decide +kernel
theorem dX5_fresh_3 : decode cX5_fresh 3 = .ok (.invokevirtual 110, 3) := by decide +kernel
theorem dX5_fresh_6 : decode cX5_fresh 6 = .ok (.ifCond .eq 7, 3) := by decide +kernel
theorem dX5_fresh_9 : decode cX5_fresh 9 = .ok (.iconst 0, 1) := by decide +kernel
theorem dX5_fresh_10 : decode cX5_fresh 10 = .ok (.goto 4, 3) := by decide +kernel
theorem dX5_fresh_13 : decode cX5_fresh 13 = .ok (.iconst 1, 1) := by decide +kernel
theorem dX5_fresh_14 : decode cX5_fresh 14 = .ok (.invokevirtual 93, 3) := by decide +kernel
theorem dX5_fresh_17 : decode cX5_fresh 17 = .ok (.ifCond .eq 12, 3) := by decide +kernel
theorem dX5_fresh_20 : decode cX5_fresh 20 = .ok (.aload_n 0, 1) := by decide +kernel
theorem dX5_fresh_21 : decode cX5_fresh 21 = .ok (.getfield 33, 3) := by decide +kernel
theorem dX5_fresh_24 : decode cX5_fresh 24 = .ok (.iload_n 1, 1) := by decide +kernel
theorem dX5_fresh_25 : decode cX5_fresh 25 = .ok (.faload, 1) := by decide +kernel
theorem dX5_fresh_26 : decode cX5_fresh 26 = .ok (.goto 4, 3) := by decide +kernel
theorem dX5_fresh_29 : decode cX5_fresh 29 = .ok (.fconst 0, 1) := by decide +kernel
theorem dX5_fresh_30 : decode cX5_fresh 30 = .ok (.freturn, 1) := by decide +kernel
theorem dX5_freshBits_0 : decode cX5_freshBits 0 = .ok (.aload_n 0, 1) := by decide +kernel
theorem dX5_freshBits_1 : decode cX5_freshBits 1 = .ok (.aload_n 0, 1) := by decide +kernel
theorem dX5_freshBits_2 : decode cX5_freshBits 2 = .ok (.iload_n 1, 1) := by decide +kernel
theorem dX5_freshBits_3 : decode cX5_freshBits 3 = .ok (.invokevirtual 110, 3) := by decide +kernel
theorem dX5_freshBits_6 : decode cX5_freshBits 6 = .ok (.ifCond .eq 7, 3) := by decide +kernel
theorem dX5_freshBits_9 : decode cX5_freshBits 9 = .ok (.iconst 0, 1) := by decide +kernel
theorem dX5_freshBits_10 : decode cX5_freshBits 10 = .ok (.goto 4, 3) := by decide +kernel
theorem dX5_freshBits_13 : decode cX5_freshBits 13 = .ok (.iconst 1, 1) := by decide +kernel
theorem dX5_freshBits_14 : decode cX5_freshBits 14 = .ok (.invokevirtual 93, 3) := by decide +kernel
theorem dX5_freshBits_17 : decode cX5_freshBits 17 = .ok (.ifCond .eq 15, 3) := by decide +kernel
theorem dX5_freshBits_20 : decode cX5_freshBits 20 = .ok (.aload_n 0, 1) := by decide +kernel
theorem dX5_freshBits_21 : decode cX5_freshBits 21 = .ok (.getfield 33, 3) := by decide +kernel
theorem dX5_freshBits_24 : decode cX5_freshBits 24 = .ok (.iload_n 1, 1) := by decide +kernel
theorem dX5_freshBits_25 : decode cX5_freshBits 25 = .ok (.faload, 1) := by decide +kernel
theorem dX5_freshBits_26 : decode cX5_freshBits 26 = .ok (.invokestatic 113, 3) := by decide +kernel
theorem dX5_freshBits_29 : decode cX5_freshBits 29 = .ok (.goto 4, 3) := by decide +kernel
theorem dX5_freshBits_32 : decode cX5_freshBits 32 = .ok (.iconst 0, 1) := by decide +kernel
theorem dX5_freshBits_33 : decode cX5_freshBits 33 = .ok (.ireturn, 1) := by decide +kernel
theorem dX5_ice_0 : decode cX5_ice 0 = .ok (.aload_n 0, 1) := by decide +kernel
theorem dX5_ice_1 : decode cX5_ice 1 = .ok (.iload_n 1, 1) := by decide +kernel
theorem dX5_ice_2 : decode cX5_ice 2 = .ok (.invokevirtual 110, 3) := by decide +kernel
theorem dX5_ice_5 : decode cX5_ice 5 = .ok (.ifCond .ne 7, 3) := by decide +kernel
theorem dX5_ice_8 : decode cX5_ice 8 = .ok (.iconst 1, 1) := by decide +kernel
theorem dX5_ice_9 : decode cX5_ice 9 = .ok (.goto 45, 3) := by decide +kernel
theorem dX5_ice_12 : decode cX5_ice 12 = .ok (.iload_n 2, 1) := by decide +kernel
theorem dX5_ice_13 : decode cX5_ice 13 = .ok (.iconst 1, 1) := by decide +kernel
theorem dX5_ice_14 : decode cX5_ice 14 = .ok (.sipush 999, 3) := by decide +kernel
theorem dX5_ice_17 : decode cX5_ice 17 = .ok (.invokestatic 80, 3) := by decide +kernel
theorem dX5_ice_20 : decode cX5_ice 20 = .ok (.ifCond .ne 7, 3) := by decide +kernel
theorem dX5_ice_23 : decode cX5_ice 23 = .ok (.iconst 2, 1) := by decide +kernel
theorem dX5_ice_24 : decode cX5_ice 24 = .ok (.goto 30, 3) := by decide +kernel
theorem dX5_ice_27 : decode cX5_ice 27 = .ok (.aload_n 0, 1) := by decide +kernel
theorem dX5_ice_28 : decode cX5_ice 28 = .ok (.getfield 29, 3) := by decide +kernel
theorem dX5_ice_31 : decode cX5_ice 31 = .ok (.iload_n 1, 1) := by decide +kernel
theorem dX5_ice_32 : decode cX5_ice 32 = .ok (.caload, 1) := by decide +kernel
theorem dX5_ice_33 : decode cX5_ice 33 = .ok (.bipush 100, 2) := by decide +kernel
theorem dX5_ice_35 : decode cX5_ice 35 = .ok (.if_icmp .eq 14, 3) := by decide +kernel
theorem dX5_ice_38 : decode cX5_ice 38 = .ok (.aload_n 0, 1) := by decide +kernel
theorem dX5_ice_39 : decode cX5_ice 39 = .ok (.getfield 29, 3) := by decide +kernel
theorem dX5_ice_42 : decode cX5_ice 42 = .ok (.iload_n 1, 1) := by decide +kernel
theorem dX5_ice_43 : decode cX5_ice 43 = .ok (.caload, 1) := by decide +kernel
theorem dX5_ice_44 : decode cX5_ice 44 = .ok (.bipush 120, 2) := by decide +kernel
theorem dX5_ice_46 : decode cX5_ice 46 = .ok (.if_icmp .ne 7, 3) := by decide +kernel
theorem dX5_ice_49 : decode cX5_ice 49 = .ok (.iconst 3, 1) := by decide +kernel
theorem dX5_ice_50 : decode cX5_ice 50 = .ok (.goto 4, 3) := by decide +kernel
theorem dX5_ice_53 : decode cX5_ice 53 = .ok (.iconst 0, 1) := by decide +kernel
theorem dX5_ice_54 : decode cX5_ice 54 = .ok (.istore_n 3, 1) := by decide +kernel
theorem dX5_ice_55 : decode cX5_ice 55 = .ok (.aload_n 0, 1) := by decide +kernel
theorem dX5_ice_56 : decode cX5_ice 56 = .ok (.iload_n 3, 1) := by decide +kernel
theorem dX5_ice_57 : decode cX5_ice 57 = .ok (.invokevirtual 93, 3) := by decide +kernel
theorem dX5_ice_60 : decode cX5_ice 60 = .ok (.ifCond .ne 5, 3) := by decide +kernel
theorem dX5_ice_63 : decode cX5_ice 63 = .ok (.iconst 0, 1) := by decide +kernel
theorem dX5_ice_64 : decode cX5_ice 64 = .ok (.ireturn, 1) := by decide +kernel
theorem dX5_ice_65 : decode cX5_ice 65 = .ok (.aload_n 0, 1) := by decide +kernel
theorem dX5_ice_66 : decode cX5_ice 66 = .ok (.getfield 37, 3) := by decide +kernel
theorem dX5_ice_69 : decode cX5_ice 69 = .ok (.iload_n 1, 1) := by decide +kernel
theorem dX5_ice_70 : decode cX5_ice 70 = .ok (.dup2, 1) := by decide +kernel
theorem dX5_ice_71 : decode cX5_ice 71 = .ok (.iaload, 1) := by decide +kernel
theorem dX5_ice_72 : decode cX5_ice 72 = .ok (.iload_n 2, 1) := by decide +kernel
theorem dX5_ice_73 : decode cX5_ice 73 = .ok (.iadd, 1) := by decide +kernel
theorem dX5_ice_74 : decode cX5_ice 74 = .ok (.iastore, 1) := by decide +kernel
theorem dX5_ice_75 : decode cX5_ice 75 = .ok (.aload_n 0, 1) := by decide +kernel
theorem dX5_ice_76 : decode cX5_ice 76 = .ok (.getfield 37, 3) := by decide +kernel
theorem dX5_ice_79 : decode cX5_ice 79 = .ok (.iload_n 1, 1) := by decide +kernel
theorem dX5_ice_80 : decode cX5_ice 80 = .ok (.iaload, 1) := by decide +kernel
theorem dX5_ice_81 : decode cX5_ice 81 = .ok (.ireturn, 1) := by decide +kernel
theorem dX5_iceOn_0 : decode cX5_iceOn 0 = .ok (.aload_n 0, 1) := by decide +kernel
theorem dX5_iceOn_1 : decode cX5_iceOn 1 = .ok (.aload_n 0, 1) := by decide +kernel
theorem dX5_iceOn_2 : decode cX5_iceOn 2 = .ok (.iload_n 1, 1) := by decide +kernel
theorem dX5_iceOn_3 : decode cX5_iceOn 3 = .ok (.invokevirtual 110, 3) := by decide +kernel
theorem dX5_iceOn_6 : decode cX5_iceOn 6 = .ok (.ifCond .eq 7, 3) := by decide +kernel
theorem dX5_iceOn_9 : decode cX5_iceOn 9 = .ok (.iconst 0, 1) := by decide +kernel
theorem dX5_iceOn_10 : decode cX5_iceOn 10 = .ok (.goto 4, 3) := by decide +kernel
theorem dX5_iceOn_13 : decode cX5_iceOn 13 = .ok (.iconst 1, 1) := by decide +kernel
theorem dX5_iceOn_14 : decode cX5_iceOn 14 = .ok (.invokevirtual 93, 3) := by decide +kernel
theorem dX5_iceOn_17 : decode cX5_iceOn 17 = .ok (.ifCond .eq 12, 3) := by decide +kernel
theorem dX5_iceOn_20 : decode cX5_iceOn 20 = .ok (.aload_n 0, 1) := by decide +kernel
theorem dX5_iceOn_21 : decode cX5_iceOn 21 = .ok (.getfield 37, 3) := by decide +kernel
theorem dX5_iceOn_24 : decode cX5_iceOn 24 = .ok (.iload_n 1, 1) := by decide +kernel
theorem dX5_iceOn_25 : decode cX5_iceOn 25 = .ok (.iaload, 1) := by decide +kernel
theorem dX5_iceOn_26 : decode cX5_iceOn 26 = .ok (.goto 4, 3) := by decide +kernel
theorem dX5_iceOn_29 : decode cX5_iceOn 29 = .ok (.iconst 0, 1) := by decide +kernel
theorem dX5_iceOn_30 : decode cX5_iceOn 30 = .ok (.ireturn, 1) := by decide +kernel
theorem dX5_iceFor_0 : decode cX5_iceFor 0 = .ok (.aload_n 0, 1) := by decide +kernel
theorem dX5_iceFor_1 : decode cX5_iceFor 1 = .ok (.getfield 22, 3) := by decide +kernel
theorem dX5_iceFor_4 : decode cX5_iceFor 4 = .ok (.iload_n 1, 1) := by decide +kernel
theorem dX5_iceFor_5 : decode cX5_iceFor 5 = .ok (.iaload, 1) := by decide +kernel
theorem dX5_iceFor_6 : decode cX5_iceFor 6 = .ok (.bipush 9, 2) := by decide +kernel
theorem dX5_iceFor_8 : decode cX5_iceFor 8 = .ok (.iadd, 1) := by decide +kernel
theorem dX5_iceFor_9 : decode cX5_iceFor 9 = .ok (.bipush 10, 2) := by decide +kernel
theorem dX5_iceFor_11 : decode cX5_iceFor 11 = .ok (.idiv, 1) := by decide +kernel
theorem dX5_iceFor_12 : decode cX5_iceFor 12 = .ok (.ireturn, 1) := by decide +kernel
theorem dX5_iceLasts_0 : decode cX5_iceLasts 0 = .ok (.aload_n 0, 1) := by decide +kernel
theorem dX5_iceLasts_1 : decode cX5_iceLasts 1 = .ok (.aload_n 0, 1) := by decide +kernel
theorem dX5_iceLasts_2 : decode cX5_iceLasts 2 = .ok (.iload_n 1, 1) := by decide +kernel
theorem dX5_iceLasts_3 : decode cX5_iceLasts 3 = .ok (.invokevirtual 110, 3) := by decide +kernel
theorem dX5_iceLasts_6 : decode cX5_iceLasts 6 = .ok (.ifCond .eq 7, 3) := by decide +kernel
theorem dX5_iceLasts_9 : decode cX5_iceLasts 9 = .ok (.iconst 0, 1) := by decide +kernel
theorem dX5_iceLasts_10 : decode cX5_iceLasts 10 = .ok (.goto 4, 3) := by decide +kernel
theorem dX5_iceLasts_13 : decode cX5_iceLasts 13 = .ok (.iconst 1, 1) := by decide +kernel
theorem dX5_iceLasts_14 : decode cX5_iceLasts 14 = .ok (.invokevirtual 93, 3) := by decide +kernel
theorem dX5_iceLasts_17 : decode cX5_iceLasts 17 = .ok (.ifCond .eq 18, 3) := by decide +kernel
theorem dX5_iceLasts_20 : decode cX5_iceLasts 20 = .ok (.aload_n 0, 1) := by decide +kernel
theorem dX5_iceLasts_21 : decode cX5_iceLasts 21 = .ok (.getfield 37, 3) := by decide +kernel
theorem dX5_iceLasts_24 : decode cX5_iceLasts 24 = .ok (.iload_n 1, 1) := by decide +kernel
theorem dX5_iceLasts_25 : decode cX5_iceLasts 25 = .ok (.iaload, 1) := by decide +kernel
theorem dX5_iceLasts_26 : decode cX5_iceLasts 26 = .ok (.aload_n 0, 1) := by decide +kernel
theorem dX5_iceLasts_27 : decode cX5_iceLasts 27 = .ok (.iload_n 1, 1) := by decide +kernel
theorem dX5_iceLasts_28 : decode cX5_iceLasts 28 = .ok (.invokevirtual 119, 3) := by decide +kernel
theorem dX5_iceLasts_31 : decode cX5_iceLasts 31 = .ok (.idiv, 1) := by decide +kernel
theorem dX5_iceLasts_32 : decode cX5_iceLasts 32 = .ok (.goto 4, 3) := by decide +kernel
theorem dX5_iceLasts_35 : decode cX5_iceLasts 35 = .ok (.iconst 0, 1) := by decide +kernel
theorem dX5_iceLasts_36 : decode cX5_iceLasts 36 = .ok (.ireturn, 1) := by decide +kernel
theorem dX5_ages_0 : decode cX5_ages 0 = .ok (.aload_n 0, 1) := by decide +kernel
theorem dX5_ages_1 : decode cX5_ages 1 = .ok (.getfield 29, 3) := by decide +kernel
theorem dX5_ages_4 : decode cX5_ages 4 = .ok (.iload_n 1, 1) := by decide +kernel
theorem dX5_ages_5 : decode cX5_ages 5 = .ok (.caload, 1) := by decide +kernel
theorem dX5_ages_6 : decode cX5_ages 6 = .ok (.bipush 102, 2) := by decide +kernel
theorem dX5_ages_8 : decode cX5_ages 8 = .ok (.if_icmp .eq 26, 3) := by decide +kernel
theorem dX5_ages_11 : decode cX5_ages 11 = .ok (.aload_n 0, 1) := by decide +kernel
theorem dX5_ages_12 : decode cX5_ages 12 = .ok (.getfield 29, 3) := by decide +kernel
theorem dX5_ages_15 : decode cX5_ages 15 = .ok (.iload_n 1, 1) := by decide +kernel
theorem dX5_ages_16 : decode cX5_ages 16 = .ok (.caload, 1) := by decide +kernel
theorem dX5_ages_17 : decode cX5_ages 17 = .ok (.bipush 115, 2) := by decide +kernel
theorem dX5_ages_19 : decode cX5_ages 19 = .ok (.if_icmp .eq 15, 3) := by decide +kernel
theorem dX5_ages_22 : decode cX5_ages 22 = .ok (.aload_n 0, 1) := by decide +kernel
theorem dX5_ages_23 : decode cX5_ages 23 = .ok (.getfield 29, 3) := by decide +kernel
theorem dX5_ages_26 : decode cX5_ages 26 = .ok (.iload_n 1, 1) := by decide +kernel
theorem dX5_ages_27 : decode cX5_ages 27 = .ok (.caload, 1) := by decide +kernel
theorem dX5_ages_28 : decode cX5_ages 28 = .ok (.bipush 108, 2) := by decide +kernel
theorem dX5_ages_30 : decode cX5_ages 30 = .ok (.if_icmp .eq 4, 3) := by decide +kernel
theorem dX5_ages_33 : decode cX5_ages 33 = .ok (.return_, 1) := by decide +kernel
theorem dX5_ages_34 : decode cX5_ages 34 = .ok (.aload_n 0, 1) := by decide +kernel
theorem dX5_ages_35 : decode cX5_ages 35 = .ok (.getfield 37, 3) := by decide +kernel
theorem dX5_ages_38 : decode cX5_ages 38 = .ok (.iload_n 1, 1) := by decide +kernel
theorem dX5_ages_39 : decode cX5_ages 39 = .ok (.iaload, 1) := by decide +kernel
theorem dX5_ages_40 : decode cX5_ages 40 = .ok (.aload_n 0, 1) := by decide +kernel
theorem dX5_ages_41 : decode cX5_ages 41 = .ok (.iload_n 1, 1) := by decide +kernel
theorem dX5_ages_42 : decode cX5_ages 42 = .ok (.invokevirtual 119, 3) := by decide +kernel
theorem dX5_ages_45 : decode cX5_ages 45 = .ok (.if_icmp .lt 35, 3) := by decide +kernel
theorem dX5_ages_48 : decode cX5_ages 48 = .ok (.aload_n 0, 1) := by decide +kernel
theorem dX5_ages_49 : decode cX5_ages 49 = .ok (.getfield 37, 3) := by decide +kernel
theorem dX5_ages_52 : decode cX5_ages 52 = .ok (.iload_n 1, 1) := by decide +kernel
theorem dX5_ages_53 : decode cX5_ages 53 = .ok (.dup2, 1) := by decide +kernel
theorem dX5_ages_54 : decode cX5_ages 54 = .ok (.iaload, 1) := by decide +kernel
theorem dX5_ages_55 : decode cX5_ages 55 = .ok (.aload_n 0, 1) := by decide +kernel
theorem dX5_ages_56 : decode cX5_ages 56 = .ok (.iload_n 1, 1) := by decide +kernel
theorem dX5_ages_57 : decode cX5_ages 57 = .ok (.invokevirtual 119, 3) := by decide +kernel
theorem dX5_ages_60 : decode cX5_ages 60 = .ok (.isub, 1) := by decide +kernel
theorem dX5_ages_61 : decode cX5_ages 61 = .ok (.iastore, 1) := by decide +kernel
theorem dX5_ages_62 : decode cX5_ages 62 = .ok (.aload_n 0, 1) := by decide +kernel
theorem dX5_ages_63 : decode cX5_ages 63 = .ok (.getfield 33, 3) := by decide +kernel
theorem dX5_ages_66 : decode cX5_ages 66 = .ok (.iload_n 1, 1) := by decide +kernel
theorem dX5_ages_67 : decode cX5_ages 67 = .ok (.aload_n 0, 1) := by decide +kernel
theorem dX5_ages_68 : decode cX5_ages 68 = .ok (.getfield 33, 3) := by decide +kernel
theorem dX5_ages_71 : decode cX5_ages 71 = .ok (.iload_n 1, 1) := by decide +kernel
theorem dX5_ages_72 : decode cX5_ages 72 = .ok (.faload, 1) := by decide +kernel
theorem dX5_ages_73 : decode cX5_ages 73 = .ok (.ldc 123, 2) := by decide +kernel
theorem dX5_ages_75 : decode cX5_ages 75 = .ok (.fmul, 1) := by decide +kernel
theorem dX5_ages_76 : decode cX5_ages 76 = .ok (.fastore, 1) := by decide +kernel
theorem dX5_ages_77 : decode cX5_ages 77 = .ok (.goto 18, 3) := by decide +kernel
theorem dX5_ages_80 : decode cX5_ages 80 = .ok (.aload_n 0, 1) := by decide +kernel
theorem dX5_ages_81 : decode cX5_ages 81 = .ok (.getfield 33, 3) := by decide +kernel
theorem dX5_ages_84 : decode cX5_ages 84 = .ok (.iload_n 1, 1) := by decide +kernel
theorem dX5_ages_85 : decode cX5_ages 85 = .ok (.aload_n 0, 1) := by decide +kernel
theorem dX5_ages_86 : decode cX5_ages 86 = .ok (.getfield 33, 3) := by decide +kernel
theorem dX5_ages_89 : decode cX5_ages 89 = .ok (.iload_n 1, 1) := by decide +kernel
theorem dX5_ages_90 : decode cX5_ages 90 = .ok (.faload, 1) := by decide +kernel
theorem dX5_ages_91 : decode cX5_ages 91 = .ok (.ldc 124, 2) := by decide +kernel
theorem dX5_ages_93 : decode cX5_ages 93 = .ok (.fmul, 1) := by decide +kernel
theorem dX5_ages_94 : decode cX5_ages 94 = .ok (.fastore, 1) := by decide +kernel
theorem dX5_ages_95 : decode cX5_ages 95 = .ok (.aload_n 0, 1) := by decide +kernel
theorem dX5_ages_96 : decode cX5_ages 96 = .ok (.getfield 29, 3) := by decide +kernel
theorem dX5_ages_99 : decode cX5_ages 99 = .ok (.iload_n 1, 1) := by decide +kernel
theorem dX5_ages_100 : decode cX5_ages 100 = .ok (.aload_n 0, 1) := by decide +kernel
theorem dX5_ages_101 : decode cX5_ages 101 = .ok (.getfield 29, 3) := by decide +kernel
theorem dX5_ages_104 : decode cX5_ages 104 = .ok (.iload_n 1, 1) := by decide +kernel
theorem dX5_ages_105 : decode cX5_ages 105 = .ok (.caload, 1) := by decide +kernel
theorem dX5_ages_106 : decode cX5_ages 106 = .ok (.bipush 102, 2) := by decide +kernel
theorem dX5_ages_108 : decode cX5_ages 108 = .ok (.if_icmp .ne 20, 3) := by decide +kernel
theorem dX5_ages_111 : decode cX5_ages 111 = .ok (.aload_n 0, 1) := by decide +kernel
theorem dX5_ages_112 : decode cX5_ages 112 = .ok (.getfield 33, 3) := by decide +kernel
theorem dX5_ages_115 : decode cX5_ages 115 = .ok (.iload_n 1, 1) := by decide +kernel
theorem dX5_ages_116 : decode cX5_ages 116 = .ok (.faload, 1) := by decide +kernel
theorem dX5_ages_117 : decode cX5_ages 117 = .ok (.ldc 125, 2) := by decide +kernel
theorem dX5_ages_119 : decode cX5_ages 119 = .ok (.fcmp .g, 1) := by decide +kernel
theorem dX5_ages_120 : decode cX5_ages 120 = .ok (.ifCond .ge 8, 3) := by decide +kernel
theorem dX5_ages_123 : decode cX5_ages 123 = .ok (.bipush 120, 2) := by decide +kernel
theorem dX5_ages_125 : decode cX5_ages 125 = .ok (.goto 9, 3) := by decide +kernel
theorem dX5_ages_128 : decode cX5_ages 128 = .ok (.aload_n 0, 1) := by decide +kernel
theorem dX5_ages_129 : decode cX5_ages 129 = .ok (.getfield 29, 3) := by decide +kernel
theorem dX5_ages_132 : decode cX5_ages 132 = .ok (.iload_n 1, 1) := by decide +kernel
theorem dX5_ages_133 : decode cX5_ages 133 = .ok (.caload, 1) := by decide +kernel
theorem dX5_ages_134 : decode cX5_ages 134 = .ok (.castore, 1) := by decide +kernel
theorem dX5_ages_135 : decode cX5_ages 135 = .ok (.return_, 1) := by decide +kernel
theorem dX5_delivers_0 : decode cX5_delivers 0 = .ok (.aload_n 0, 1) := by decide +kernel
theorem dX5_delivers_1 : decode cX5_delivers 1 = .ok (.getfield 29, 3) := by decide +kernel
theorem dX5_delivers_4 : decode cX5_delivers 4 = .ok (.iload_n 1, 1) := by decide +kernel
theorem dX5_delivers_5 : decode cX5_delivers 5 = .ok (.bipush 100, 2) := by decide +kernel
theorem dX5_delivers_7 : decode cX5_delivers 7 = .ok (.castore, 1) := by decide +kernel
theorem dX5_delivers_8 : decode cX5_delivers 8 = .ok (.aload_n 0, 1) := by decide +kernel
theorem dX5_delivers_9 : decode cX5_delivers 9 = .ok (.getfield 33, 3) := by decide +kernel
theorem dX5_delivers_12 : decode cX5_delivers 12 = .ok (.iload_n 1, 1) := by decide +kernel
theorem dX5_delivers_13 : decode cX5_delivers 13 = .ok (.faload, 1) := by decide +kernel
theorem dX5_delivers_14 : decode cX5_delivers 14 = .ok (.ldc 126, 2) := by decide +kernel
theorem dX5_delivers_16 : decode cX5_delivers 16 = .ok (.fcmp .g, 1) := by decide +kernel
theorem dX5_delivers_17 : decode cX5_delivers 17 = .ok (.ifCond .ge 63, 3) := by decide +kernel
theorem dX5_delivers_20 : decode cX5_delivers 20 = .ok (.ldc 126, 2) := by decide +kernel
theorem dX5_delivers_22 : decode cX5_delivers 22 = .ok (.aload_n 0, 1) := by decide +kernel
theorem dX5_delivers_23 : decode cX5_delivers 23 = .ok (.getfield 33, 3) := by decide +kernel
theorem dX5_delivers_26 : decode cX5_delivers 26 = .ok (.iload_n 1, 1) := by decide +kernel
theorem dX5_delivers_27 : decode cX5_delivers 27 = .ok (.faload, 1) := by decide +kernel
theorem dX5_delivers_28 : decode cX5_delivers 28 = .ok (.fsub, 1) := by decide +kernel
theorem dX5_delivers_29 : decode cX5_delivers 29 = .ok (.fstore_n 2, 1) := by decide +kernel
theorem dX5_delivers_30 : decode cX5_delivers 30 = .ok (.aload_n 0, 1) := by decide +kernel
theorem dX5_delivers_31 : decode cX5_delivers 31 = .ok (.getfield 43, 3) := by decide +kernel
theorem dX5_delivers_34 : decode cX5_delivers 34 = .ok (.iload_n 1, 1) := by decide +kernel
theorem dX5_delivers_35 : decode cX5_delivers 35 = .ok (.iaload, 1) := by decide +kernel
theorem dX5_delivers_36 : decode cX5_delivers 36 = .ok (.i2f, 1) := by decide +kernel
theorem dX5_delivers_37 : decode cX5_delivers 37 = .ok (.fload_n 2, 1) := by decide +kernel
theorem dX5_delivers_38 : decode cX5_delivers 38 = .ok (.fmul, 1) := by decide +kernel
theorem dX5_delivers_39 : decode cX5_delivers 39 = .ok (.ldc 106, 2) := by decide +kernel
theorem dX5_delivers_41 : decode cX5_delivers 41 = .ok (.fdiv, 1) := by decide +kernel
theorem dX5_delivers_42 : decode cX5_delivers 42 = .ok (.f2i, 1) := by decide +kernel
theorem dX5_delivers_43 : decode cX5_delivers 43 = .ok (.istore_n 3, 1) := by decide +kernel
theorem dX5_delivers_44 : decode cX5_delivers 44 = .ok (.aload_n 0, 1) := by decide +kernel
theorem dX5_delivers_45 : decode cX5_delivers 45 = .ok (.getfield 43, 3) := by decide +kernel
theorem dX5_delivers_48 : decode cX5_delivers 48 = .ok (.iload_n 1, 1) := by decide +kernel
theorem dX5_delivers_49 : decode cX5_delivers 49 = .ok (.dup2, 1) := by decide +kernel
theorem dX5_delivers_50 : decode cX5_delivers 50 = .ok (.iaload, 1) := by decide +kernel
theorem dX5_delivers_51 : decode cX5_delivers 51 = .ok (.iload_n 3, 1) := by decide +kernel
theorem dX5_delivers_52 : decode cX5_delivers 52 = .ok (.isub, 1) := by decide +kernel
theorem dX5_delivers_53 : decode cX5_delivers 53 = .ok (.iastore, 1) := by decide +kernel
theorem dX5_delivers_54 : decode cX5_delivers 54 = .ok (.aload_n 0, 1) := by decide +kernel
theorem dX5_delivers_55 : decode cX5_delivers 55 = .ok (.dup, 1) := by decide +kernel
theorem dX5_delivers_56 : decode cX5_delivers 56 = .ok (.getfield 127, 3) := by decide +kernel
theorem dX5_delivers_59 : decode cX5_delivers 59 = .ok (.iload_n 3, 1) := by decide +kernel
theorem dX5_delivers_60 : decode cX5_delivers 60 = .ok (.i2l, 1) := by decide +kernel
theorem dX5_delivers_61 : decode cX5_delivers 61 = .ok (.lsub, 1) := by decide +kernel
theorem dX5_delivers_62 : decode cX5_delivers 62 = .ok (.putfield 127, 3) := by decide +kernel
theorem dX5_delivers_65 : decode cX5_delivers 65 = .ok (.aload_n 0, 1) := by decide +kernel
theorem dX5_delivers_66 : decode cX5_delivers 66 = .ok (.getfield 46, 3) := by decide +kernel
theorem dX5_delivers_69 : decode cX5_delivers 69 = .ok (.aload_n 0, 1) := by decide +kernel
theorem dX5_delivers_70 : decode cX5_delivers 70 = .ok (.getfield 40, 3) := by decide +kernel
theorem dX5_delivers_73 : decode cX5_delivers 73 = .ok (.iload_n 1, 1) := by decide +kernel
theorem dX5_delivers_74 : decode cX5_delivers 74 = .ok (.iaload, 1) := by decide +kernel
theorem dX5_delivers_75 : decode cX5_delivers 75 = .ok (.dup2, 1) := by decide +kernel
theorem dX5_delivers_76 : decode cX5_delivers 76 = .ok (.iaload, 1) := by decide +kernel
theorem dX5_delivers_77 : decode cX5_delivers 77 = .ok (.iload_n 3, 1) := by decide +kernel
theorem dX5_delivers_78 : decode cX5_delivers 78 = .ok (.iadd, 1) := by decide +kernel
theorem dX5_delivers_79 : decode cX5_delivers 79 = .ok (.iastore, 1) := by decide +kernel
theorem dX5_delivers_80 : decode cX5_delivers 80 = .ok (.return_, 1) := by decide +kernel
theorem dX5_tick_0 : decode cX5_tick 0 = .ok (.aload_n 0, 1) := by decide +kernel
theorem dX5_tick_1 : decode cX5_tick 1 = .ok (.iconst 0, 1) := by decide +kernel
theorem dX5_tick_2 : decode cX5_tick 2 = .ok (.putfield 74, 3) := by decide +kernel
theorem dX5_tick_5 : decode cX5_tick 5 = .ok (.iconst 0, 1) := by decide +kernel
theorem dX5_tick_6 : decode cX5_tick 6 = .ok (.istore_n 1, 1) := by decide +kernel
theorem dX5_tick_7 : decode cX5_tick 7 = .ok (.iload_n 1, 1) := by decide +kernel
theorem dX5_tick_8 : decode cX5_tick 8 = .ok (.aload_n 0, 1) := by decide +kernel
theorem dX5_tick_9 : decode cX5_tick 9 = .ok (.getfield 84, 3) := by decide +kernel
theorem dX5_tick_12 : decode cX5_tick 12 = .ok (.if_icmp .ge 14, 3) := by decide +kernel
theorem dX5_tick_15 : decode cX5_tick 15 = .ok (.aload_n 0, 1) := by decide +kernel
theorem dX5_tick_16 : decode cX5_tick 16 = .ok (.iload_n 1, 1) := by decide +kernel
theorem dX5_tick_17 : decode cX5_tick 17 = .ok (.invokevirtual 131, 3) := by decide +kernel
theorem dX5_tick_20 : decode cX5_tick 20 = .ok (.iinc 1 1, 3) := by decide +kernel
theorem dX5_tick_23 : decode cX5_tick 23 = .ok (.goto (-16), 3) := by decide +kernel
theorem dX5_tick_26 : decode cX5_tick 26 = .ok (.aload_n 0, 1) := by decide +kernel
theorem dX5_tick_27 : decode cX5_tick 27 = .ok (.dup, 1) := by decide +kernel
theorem dX5_tick_28 : decode cX5_tick 28 = .ok (.getfield 135, 3) := by decide +kernel
theorem dX5_tick_31 : decode cX5_tick 31 = .ok (.iconst 1, 1) := by decide +kernel
theorem dX5_tick_32 : decode cX5_tick 32 = .ok (.iadd, 1) := by decide +kernel
theorem dX5_tick_33 : decode cX5_tick 33 = .ok (.putfield 135, 3) := by decide +kernel
theorem dX5_tick_36 : decode cX5_tick 36 = .ok (.iconst 0, 1) := by decide +kernel
theorem dX5_tick_37 : decode cX5_tick 37 = .ok (.istore_n 1, 1) := by decide +kernel
theorem dX5_tick_38 : decode cX5_tick 38 = .ok (.iconst 0, 1) := by decide +kernel
theorem dX5_tick_39 : decode cX5_tick 39 = .ok (.istore_n 2, 1) := by decide +kernel
theorem dX5_tick_40 : decode cX5_tick 40 = .ok (.iload_n 2, 1) := by decide +kernel
theorem dX5_tick_41 : decode cX5_tick 41 = .ok (.aload_n 0, 1) := by decide +kernel
theorem dX5_tick_42 : decode cX5_tick 42 = .ok (.getfield 90, 3) := by decide +kernel
theorem dX5_tick_45 : decode cX5_tick 45 = .ok (.if_icmp .ge 60, 3) := by decide +kernel
theorem dX5_tick_48 : decode cX5_tick 48 = .ok (.aload_n 0, 1) := by decide +kernel
theorem dX5_tick_49 : decode cX5_tick 49 = .ok (.getfield 59, 3) := by decide +kernel
theorem dX5_tick_52 : decode cX5_tick 52 = .ok (.iload_n 2, 1) := by decide +kernel
theorem dX5_tick_53 : decode cX5_tick 53 = .ok (.iaload, 1) := by decide +kernel
theorem dX5_tick_54 : decode cX5_tick 54 = .ok (.aload_n 0, 1) := by decide +kernel
theorem dX5_tick_55 : decode cX5_tick 55 = .ok (.getfield 135, 3) := by decide +kernel
theorem dX5_tick_58 : decode cX5_tick 58 = .ok (.if_icmp .eq 6, 3) := by decide +kernel
theorem dX5_tick_61 : decode cX5_tick 61 = .ok (.goto 38, 3) := by decide +kernel
theorem dX5_tick_64 : decode cX5_tick 64 = .ok (.iinc 1 1, 3) := by decide +kernel
theorem dX5_tick_67 : decode cX5_tick 67 = .ok (.iconst 0, 1) := by decide +kernel
theorem dX5_tick_68 : decode cX5_tick 68 = .ok (.istore_n 3, 1) := by decide +kernel
theorem dX5_tick_69 : decode cX5_tick 69 = .ok (.iload_n 3, 1) := by decide +kernel
theorem dX5_tick_70 : decode cX5_tick 70 = .ok (.aload_n 0, 1) := by decide +kernel
theorem dX5_tick_71 : decode cX5_tick 71 = .ok (.getfield 68, 3) := by decide +kernel
theorem dX5_tick_74 : decode cX5_tick 74 = .ok (.iload_n 2, 1) := by decide +kernel
theorem dX5_tick_75 : decode cX5_tick 75 = .ok (.iaload, 1) := by decide +kernel
theorem dX5_tick_76 : decode cX5_tick 76 = .ok (.if_icmp .ge 23, 3) := by decide +kernel
theorem dX5_tick_79 : decode cX5_tick 79 = .ok (.aload_n 0, 1) := by decide +kernel
theorem dX5_tick_80 : decode cX5_tick 80 = .ok (.aload_n 0, 1) := by decide +kernel
theorem dX5_tick_81 : decode cX5_tick 81 = .ok (.getfield 71, 3) := by decide +kernel
theorem dX5_tick_84 : decode cX5_tick 84 = .ok (.iconst 5, 1) := by decide +kernel
theorem dX5_tick_85 : decode cX5_tick 85 = .ok (.iload_n 2, 1) := by decide +kernel
theorem dX5_tick_86 : decode cX5_tick 86 = .ok (.imul, 1) := by decide +kernel
theorem dX5_tick_87 : decode cX5_tick 87 = .ok (.iload_n 3, 1) := by decide +kernel
theorem dX5_tick_88 : decode cX5_tick 88 = .ok (.iadd, 1) := by decide +kernel
theorem dX5_tick_89 : decode cX5_tick 89 = .ok (.iaload, 1) := by decide +kernel
theorem dX5_tick_90 : decode cX5_tick 90 = .ok (.invokevirtual 138, 3) := by decide +kernel
theorem dX5_tick_93 : decode cX5_tick 93 = .ok (.iinc 3 1, 3) := by decide +kernel
theorem dX5_tick_96 : decode cX5_tick 96 = .ok (.goto (-27), 3) := by decide +kernel
theorem dX5_tick_99 : decode cX5_tick 99 = .ok (.iinc 2 1, 3) := by decide +kernel
theorem dX5_tick_102 : decode cX5_tick 102 = .ok (.goto (-62), 3) := by decide +kernel
theorem dX5_tick_105 : decode cX5_tick 105 = .ok (.iload_n 1, 1) := by decide +kernel
theorem dX5_tick_106 : decode cX5_tick 106 = .ok (.ireturn, 1) := by decide +kernel
theorem dX5_time_0 : decode cX5_time 0 = .ok (.aload_n 0, 1) := by decide +kernel
theorem dX5_time_1 : decode cX5_time 1 = .ok (.iconst 0, 1) := by decide +kernel
theorem dX5_time_2 : decode cX5_time 2 = .ok (.putfield 74, 3) := by decide +kernel
theorem dX5_time_5 : decode cX5_time 5 = .ok (.aload_n 0, 1) := by decide +kernel
theorem dX5_time_6 : decode cX5_time 6 = .ok (.getfield 135, 3) := by decide +kernel
theorem dX5_time_9 : decode cX5_time 9 = .ok (.ireturn, 1) := by decide +kernel
theorem dX5_addBuyer_0 : decode cX5_addBuyer 0 = .ok (.aload_n 0, 1) := by decide +kernel
theorem dX5_addBuyer_1 : decode cX5_addBuyer 1 = .ok (.iload_n 1, 1) := by decide +kernel
theorem dX5_addBuyer_2 : decode cX5_addBuyer 2 = .ok (.iconst 0, 1) := by decide +kernel
theorem dX5_addBuyer_3 : decode cX5_addBuyer 3 = .ok (.ldc 141, 2) := by decide +kernel
theorem dX5_addBuyer_5 : decode cX5_addBuyer 5 = .ok (.invokestatic 80, 3) := by decide +kernel
theorem dX5_addBuyer_8 : decode cX5_addBuyer 8 = .ok (.ifCond .ne 7, 3) := by decide +kernel
theorem dX5_addBuyer_11 : decode cX5_addBuyer 11 = .ok (.iconst 1, 1) := by decide +kernel
theorem dX5_addBuyer_12 : decode cX5_addBuyer 12 = .ok (.goto 16, 3) := by decide +kernel
theorem dX5_addBuyer_15 : decode cX5_addBuyer 15 = .ok (.aload_n 0, 1) := by decide +kernel
theorem dX5_addBuyer_16 : decode cX5_addBuyer 16 = .ok (.getfield 87, 3) := by decide +kernel
theorem dX5_addBuyer_19 : decode cX5_addBuyer 19 = .ok (.iconst 5, 1) := by decide +kernel
theorem dX5_addBuyer_20 : decode cX5_addBuyer 20 = .ok (.if_icmp .ne 7, 3) := by decide +kernel
theorem dX5_addBuyer_23 : decode cX5_addBuyer 23 = .ok (.iconst 2, 1) := by decide +kernel
theorem dX5_addBuyer_24 : decode cX5_addBuyer 24 = .ok (.goto 4, 3) := by decide +kernel
theorem dX5_addBuyer_27 : decode cX5_addBuyer 27 = .ok (.iconst 0, 1) := by decide +kernel
theorem dX5_addBuyer_28 : decode cX5_addBuyer 28 = .ok (.invokevirtual 93, 3) := by decide +kernel
theorem dX5_addBuyer_31 : decode cX5_addBuyer 31 = .ok (.ifCond .ne 5, 3) := by decide +kernel
theorem dX5_addBuyer_34 : decode cX5_addBuyer 34 = .ok (.iconst 0, 1) := by decide +kernel
theorem dX5_addBuyer_35 : decode cX5_addBuyer 35 = .ok (.ireturn, 1) := by decide +kernel
theorem dX5_addBuyer_36 : decode cX5_addBuyer 36 = .ok (.aload_n 0, 1) := by decide +kernel
theorem dX5_addBuyer_37 : decode cX5_addBuyer 37 = .ok (.getfield 46, 3) := by decide +kernel
theorem dX5_addBuyer_40 : decode cX5_addBuyer 40 = .ok (.aload_n 0, 1) := by decide +kernel
theorem dX5_addBuyer_41 : decode cX5_addBuyer 41 = .ok (.getfield 87, 3) := by decide +kernel
theorem dX5_addBuyer_44 : decode cX5_addBuyer 44 = .ok (.iload_n 1, 1) := by decide +kernel
theorem dX5_addBuyer_45 : decode cX5_addBuyer 45 = .ok (.iastore, 1) := by decide +kernel
theorem dX5_addBuyer_46 : decode cX5_addBuyer 46 = .ok (.aload_n 0, 1) := by decide +kernel
theorem dX5_addBuyer_47 : decode cX5_addBuyer 47 = .ok (.dup, 1) := by decide +kernel
theorem dX5_addBuyer_48 : decode cX5_addBuyer 48 = .ok (.getfield 87, 3) := by decide +kernel
theorem dX5_addBuyer_51 : decode cX5_addBuyer 51 = .ok (.iconst 1, 1) := by decide +kernel
theorem dX5_addBuyer_52 : decode cX5_addBuyer 52 = .ok (.iadd, 1) := by decide +kernel
theorem dX5_addBuyer_53 : decode cX5_addBuyer 53 = .ok (.putfield 87, 3) := by decide +kernel
theorem dX5_addBuyer_56 : decode cX5_addBuyer 56 = .ok (.aload_n 0, 1) := by decide +kernel
theorem dX5_addBuyer_57 : decode cX5_addBuyer 57 = .ok (.getfield 87, 3) := by decide +kernel
theorem dX5_addBuyer_60 : decode cX5_addBuyer 60 = .ok (.iconst 1, 1) := by decide +kernel
theorem dX5_addBuyer_61 : decode cX5_addBuyer 61 = .ok (.isub, 1) := by decide +kernel
theorem dX5_addBuyer_62 : decode cX5_addBuyer 62 = .ok (.ireturn, 1) := by decide +kernel
theorem dX5_setLimit_0 : decode cX5_setLimit 0 = .ok (.aload_n 0, 1) := by decide +kernel
theorem dX5_setLimit_1 : decode cX5_setLimit 1 = .ok (.aload_n 0, 1) := by decide +kernel
theorem dX5_setLimit_2 : decode cX5_setLimit 2 = .ok (.iload_n 1, 1) := by decide +kernel
theorem dX5_setLimit_3 : decode cX5_setLimit 3 = .ok (.invokevirtual 142, 3) := by decide +kernel
theorem dX5_setLimit_6 : decode cX5_setLimit 6 = .ok (.ifCond .ne 7, 3) := by decide +kernel
theorem dX5_setLimit_9 : decode cX5_setLimit 9 = .ok (.iconst 1, 1) := by decide +kernel
theorem dX5_setLimit_10 : decode cX5_setLimit 10 = .ok (.goto 26, 3) := by decide +kernel
theorem dX5_setLimit_13 : decode cX5_setLimit 13 = .ok (.iload_n 2, 1) := by decide +kernel
theorem dX5_setLimit_14 : decode cX5_setLimit 14 = .ok (.invokestatic 97, 3) := by decide +kernel
theorem dX5_setLimit_17 : decode cX5_setLimit 17 = .ok (.ifCond .eq 14, 3) := by decide +kernel
theorem dX5_setLimit_20 : decode cX5_setLimit 20 = .ok (.iload_n 3, 1) := by decide +kernel
theorem dX5_setLimit_21 : decode cX5_setLimit 21 = .ok (.iconst 0, 1) := by decide +kernel
theorem dX5_setLimit_22 : decode cX5_setLimit 22 = .ok (.sipush 9999, 3) := by decide +kernel
theorem dX5_setLimit_25 : decode cX5_setLimit 25 = .ok (.invokestatic 80, 3) := by decide +kernel
theorem dX5_setLimit_28 : decode cX5_setLimit 28 = .ok (.ifCond .ne 7, 3) := by decide +kernel
theorem dX5_setLimit_31 : decode cX5_setLimit 31 = .ok (.iconst 2, 1) := by decide +kernel
theorem dX5_setLimit_32 : decode cX5_setLimit 32 = .ok (.goto 4, 3) := by decide +kernel
theorem dX5_setLimit_35 : decode cX5_setLimit 35 = .ok (.iconst 0, 1) := by decide +kernel
theorem dX5_setLimit_36 : decode cX5_setLimit 36 = .ok (.invokevirtual 93, 3) := by decide +kernel
theorem dX5_setLimit_39 : decode cX5_setLimit 39 = .ok (.ifCond .ne 5, 3) := by decide +kernel
theorem dX5_setLimit_42 : decode cX5_setLimit 42 = .ok (.iconst 0, 1) := by decide +kernel
theorem dX5_setLimit_43 : decode cX5_setLimit 43 = .ok (.ireturn, 1) := by decide +kernel
theorem dX5_setLimit_44 : decode cX5_setLimit 44 = .ok (.aload_n 0, 1) := by decide +kernel
theorem dX5_setLimit_45 : decode cX5_setLimit 45 = .ok (.getfield 49, 3) := by decide +kernel
theorem dX5_setLimit_48 : decode cX5_setLimit 48 = .ok (.iconst 4, 1) := by decide +kernel
theorem dX5_setLimit_49 : decode cX5_setLimit 49 = .ok (.iload_n 1, 1) := by decide +kernel
theorem dX5_setLimit_50 : decode cX5_setLimit 50 = .ok (.imul, 1) := by decide +kernel
theorem dX5_setLimit_51 : decode cX5_setLimit 51 = .ok (.iload_n 2, 1) := by decide +kernel
theorem dX5_setLimit_52 : decode cX5_setLimit 52 = .ok (.iadd, 1) := by decide +kernel
theorem dX5_setLimit_53 : decode cX5_setLimit 53 = .ok (.iaload, 1) := by decide +kernel
theorem dX5_setLimit_54 : decode cX5_setLimit 54 = .ok (.istore 4, 2) := by decide +kernel
theorem dX5_setLimit_56 : decode cX5_setLimit 56 = .ok (.aload_n 0, 1) := by decide +kernel
theorem dX5_setLimit_57 : decode cX5_setLimit 57 = .ok (.getfield 49, 3) := by decide +kernel
theorem dX5_setLimit_60 : decode cX5_setLimit 60 = .ok (.iconst 4, 1) := by decide +kernel
theorem dX5_setLimit_61 : decode cX5_setLimit 61 = .ok (.iload_n 1, 1) := by decide +kernel
theorem dX5_setLimit_62 : decode cX5_setLimit 62 = .ok (.imul, 1) := by decide +kernel
theorem dX5_setLimit_63 : decode cX5_setLimit 63 = .ok (.iload_n 2, 1) := by decide +kernel
theorem dX5_setLimit_64 : decode cX5_setLimit 64 = .ok (.iadd, 1) := by decide +kernel
theorem dX5_setLimit_65 : decode cX5_setLimit 65 = .ok (.iload_n 3, 1) := by decide +kernel
theorem dX5_setLimit_66 : decode cX5_setLimit 66 = .ok (.iastore, 1) := by decide +kernel
theorem dX5_setLimit_67 : decode cX5_setLimit 67 = .ok (.iload 4, 2) := by decide +kernel
theorem dX5_setLimit_69 : decode cX5_setLimit 69 = .ok (.ireturn, 1) := by decide +kernel
theorem dX5_budget_0 : decode cX5_budget 0 = .ok (.aload_n 0, 1) := by decide +kernel
theorem dX5_budget_1 : decode cX5_budget 1 = .ok (.aload_n 0, 1) := by decide +kernel
theorem dX5_budget_2 : decode cX5_budget 2 = .ok (.iload_n 1, 1) := by decide +kernel
theorem dX5_budget_3 : decode cX5_budget 3 = .ok (.invokevirtual 142, 3) := by decide +kernel
theorem dX5_budget_6 : decode cX5_budget 6 = .ok (.ifCond .eq 7, 3) := by decide +kernel
theorem dX5_budget_9 : decode cX5_budget 9 = .ok (.iconst 0, 1) := by decide +kernel
theorem dX5_budget_10 : decode cX5_budget 10 = .ok (.goto 4, 3) := by decide +kernel
theorem dX5_budget_13 : decode cX5_budget 13 = .ok (.iconst 1, 1) := by decide +kernel
theorem dX5_budget_14 : decode cX5_budget 14 = .ok (.invokevirtual 93, 3) := by decide +kernel
theorem dX5_budget_17 : decode cX5_budget 17 = .ok (.ifCond .eq 12, 3) := by decide +kernel
theorem dX5_budget_20 : decode cX5_budget 20 = .ok (.aload_n 0, 1) := by decide +kernel
theorem dX5_budget_21 : decode cX5_budget 21 = .ok (.getfield 46, 3) := by decide +kernel
theorem dX5_budget_24 : decode cX5_budget 24 = .ok (.iload_n 1, 1) := by decide +kernel
theorem dX5_budget_25 : decode cX5_budget 25 = .ok (.iaload, 1) := by decide +kernel
theorem dX5_budget_26 : decode cX5_budget 26 = .ok (.goto 4, 3) := by decide +kernel
theorem dX5_budget_29 : decode cX5_budget 29 = .ok (.iconst 0, 1) := by decide +kernel
theorem dX5_budget_30 : decode cX5_budget 30 = .ok (.ireturn, 1) := by decide +kernel
theorem dX5_setClock_0 : decode cX5_setClock 0 = .ok (.aload_n 0, 1) := by decide +kernel
theorem dX5_setClock_1 : decode cX5_setClock 1 = .ok (.iload_n 1, 1) := by decide +kernel
theorem dX5_setClock_2 : decode cX5_setClock 2 = .ok (.iconst 1, 1) := by decide +kernel
theorem dX5_setClock_3 : decode cX5_setClock 3 = .ok (.sipush 9999, 3) := by decide +kernel
theorem dX5_setClock_6 : decode cX5_setClock 6 = .ok (.invokestatic 80, 3) := by decide +kernel
theorem dX5_setClock_9 : decode cX5_setClock 9 = .ok (.ifCond .eq 27, 3) := by decide +kernel
theorem dX5_setClock_12 : decode cX5_setClock 12 = .ok (.iload_n 2, 1) := by decide +kernel
theorem dX5_setClock_13 : decode cX5_setClock 13 = .ok (.iconst 1, 1) := by decide +kernel
theorem dX5_setClock_14 : decode cX5_setClock 14 = .ok (.sipush 500, 3) := by decide +kernel
theorem dX5_setClock_17 : decode cX5_setClock 17 = .ok (.invokestatic 80, 3) := by decide +kernel
theorem dX5_setClock_20 : decode cX5_setClock 20 = .ok (.ifCond .eq 16, 3) := by decide +kernel
theorem dX5_setClock_23 : decode cX5_setClock 23 = .ok (.iload_n 3, 1) := by decide +kernel
theorem dX5_setClock_24 : decode cX5_setClock 24 = .ok (.iconst 0, 1) := by decide +kernel
theorem dX5_setClock_25 : decode cX5_setClock 25 = .ok (.iload_n 1, 1) := by decide +kernel
theorem dX5_setClock_26 : decode cX5_setClock 26 = .ok (.invokestatic 80, 3) := by decide +kernel
theorem dX5_setClock_29 : decode cX5_setClock 29 = .ok (.ifCond .eq 7, 3) := by decide +kernel
theorem dX5_setClock_32 : decode cX5_setClock 32 = .ok (.iconst 0, 1) := by decide +kernel
theorem dX5_setClock_33 : decode cX5_setClock 33 = .ok (.goto 4, 3) := by decide +kernel
theorem dX5_setClock_36 : decode cX5_setClock 36 = .ok (.iconst 1, 1) := by decide +kernel
theorem dX5_setClock_37 : decode cX5_setClock 37 = .ok (.invokevirtual 93, 3) := by decide +kernel
theorem dX5_setClock_40 : decode cX5_setClock 40 = .ok (.ifCond .ne 5, 3) := by decide +kernel
theorem dX5_setClock_43 : decode cX5_setClock 43 = .ok (.iconst 0, 1) := by decide +kernel
theorem dX5_setClock_44 : decode cX5_setClock 44 = .ok (.ireturn, 1) := by decide +kernel
theorem dX5_setClock_45 : decode cX5_setClock 45 = .ok (.aload_n 0, 1) := by decide +kernel
theorem dX5_setClock_46 : decode cX5_setClock 46 = .ok (.getfield 52, 3) := by decide +kernel
theorem dX5_setClock_49 : decode cX5_setClock 49 = .ok (.istore 4, 2) := by decide +kernel
theorem dX5_setClock_51 : decode cX5_setClock 51 = .ok (.aload_n 0, 1) := by decide +kernel
theorem dX5_setClock_52 : decode cX5_setClock 52 = .ok (.iload_n 1, 1) := by decide +kernel
theorem dX5_setClock_53 : decode cX5_setClock 53 = .ok (.putfield 52, 3) := by decide +kernel
theorem dX5_setClock_56 : decode cX5_setClock 56 = .ok (.aload_n 0, 1) := by decide +kernel
theorem dX5_setClock_57 : decode cX5_setClock 57 = .ok (.iload_n 2, 1) := by decide +kernel
theorem dX5_setClock_58 : decode cX5_setClock 58 = .ok (.putfield 56, 3) := by decide +kernel
theorem dX5_setClock_61 : decode cX5_setClock 61 = .ok (.aload_n 0, 1) := by decide +kernel
theorem dX5_setClock_62 : decode cX5_setClock 62 = .ok (.iload_n 3, 1) := by decide +kernel
theorem dX5_setClock_63 : decode cX5_setClock 63 = .ok (.putfield 145, 3) := by decide +kernel
theorem dX5_setClock_66 : decode cX5_setClock 66 = .ok (.iload 4, 2) := by decide +kernel
theorem dX5_setClock_68 : decode cX5_setClock 68 = .ok (.ireturn, 1) := by decide +kernel
theorem dX5_offerOf_0 : decode cX5_offerOf 0 = .ok (.aload_n 0, 1) := by decide +kernel
theorem dX5_offerOf_1 : decode cX5_offerOf 1 = .ok (.getfield 49, 3) := by decide +kernel
theorem dX5_offerOf_4 : decode cX5_offerOf 4 = .ok (.iconst 4, 1) := by decide +kernel
theorem dX5_offerOf_5 : decode cX5_offerOf 5 = .ok (.iload_n 1, 1) := by decide +kernel
theorem dX5_offerOf_6 : decode cX5_offerOf 6 = .ok (.imul, 1) := by decide +kernel
theorem dX5_offerOf_7 : decode cX5_offerOf 7 = .ok (.aload_n 0, 1) := by decide +kernel
theorem dX5_offerOf_8 : decode cX5_offerOf 8 = .ok (.getfield 16, 3) := by decide +kernel
theorem dX5_offerOf_11 : decode cX5_offerOf 11 = .ok (.iload_n 2, 1) := by decide +kernel
theorem dX5_offerOf_12 : decode cX5_offerOf 12 = .ok (.iaload, 1) := by decide +kernel
theorem dX5_offerOf_13 : decode cX5_offerOf 13 = .ok (.iadd, 1) := by decide +kernel
theorem dX5_offerOf_14 : decode cX5_offerOf 14 = .ok (.iaload, 1) := by decide +kernel
theorem dX5_offerOf_15 : decode cX5_offerOf 15 = .ok (.bipush 100, 2) := by decide +kernel
theorem dX5_offerOf_17 : decode cX5_offerOf 17 = .ok (.bipush 10, 2) := by decide +kernel
theorem dX5_offerOf_19 : decode cX5_offerOf 19 = .ok (.aload_n 0, 1) := by decide +kernel
theorem dX5_offerOf_20 : decode cX5_offerOf 20 = .ok (.getfield 19, 3) := by decide +kernel
theorem dX5_offerOf_23 : decode cX5_offerOf 23 = .ok (.iload_n 2, 1) := by decide +kernel
theorem dX5_offerOf_24 : decode cX5_offerOf 24 = .ok (.iaload, 1) := by decide +kernel
theorem dX5_offerOf_25 : decode cX5_offerOf 25 = .ok (.imul, 1) := by decide +kernel
theorem dX5_offerOf_26 : decode cX5_offerOf 26 = .ok (.iadd, 1) := by decide +kernel
theorem dX5_offerOf_27 : decode cX5_offerOf 27 = .ok (.imul, 1) := by decide +kernel
theorem dX5_offerOf_28 : decode cX5_offerOf 28 = .ok (.istore_n 3, 1) := by decide +kernel
theorem dX5_offerOf_29 : decode cX5_offerOf 29 = .ok (.iload_n 3, 1) := by decide +kernel
theorem dX5_offerOf_30 : decode cX5_offerOf 30 = .ok (.i2d, 1) := by decide +kernel
theorem dX5_offerOf_31 : decode cX5_offerOf 31 = .ok (.ldc2_w 148, 3) := by decide +kernel
theorem dX5_offerOf_34 : decode cX5_offerOf 34 = .ok (.ddiv, 1) := by decide +kernel
theorem dX5_offerOf_35 : decode cX5_offerOf 35 = .ok (.dstore 4, 2) := by decide +kernel
theorem dX5_offerOf_37 : decode cX5_offerOf 37 = .ok (.dload 4, 2) := by decide +kernel
theorem dX5_offerOf_39 : decode cX5_offerOf 39 = .ok (.aload_n 0, 1) := by decide +kernel
theorem dX5_offerOf_40 : decode cX5_offerOf 40 = .ok (.getfield 33, 3) := by decide +kernel
theorem dX5_offerOf_43 : decode cX5_offerOf 43 = .ok (.iload_n 2, 1) := by decide +kernel
theorem dX5_offerOf_44 : decode cX5_offerOf 44 = .ok (.faload, 1) := by decide +kernel
theorem dX5_offerOf_45 : decode cX5_offerOf 45 = .ok (.f2d, 1) := by decide +kernel
theorem dX5_offerOf_46 : decode cX5_offerOf 46 = .ok (.dmul, 1) := by decide +kernel
theorem dX5_offerOf_47 : decode cX5_offerOf 47 = .ok (.dstore 4, 2) := by decide +kernel
theorem dX5_offerOf_49 : decode cX5_offerOf 49 = .ok (.dload 4, 2) := by decide +kernel
theorem dX5_offerOf_51 : decode cX5_offerOf 51 = .ok (.ldc2_w 148, 3) := by decide +kernel
theorem dX5_offerOf_54 : decode cX5_offerOf 54 = .ok (.ddiv, 1) := by decide +kernel
theorem dX5_offerOf_55 : decode cX5_offerOf 55 = .ok (.dstore 4, 2) := by decide +kernel
theorem dX5_offerOf_57 : decode cX5_offerOf 57 = .ok (.dload 4, 2) := by decide +kernel
theorem dX5_offerOf_59 : decode cX5_offerOf 59 = .ok (.d2i, 1) := by decide +kernel
theorem dX5_offerOf_60 : decode cX5_offerOf 60 = .ok (.ireturn, 1) := by decide +kernel
theorem dX5_offer_0 : decode cX5_offer 0 = .ok (.aload_n 0, 1) := by decide +kernel
theorem dX5_offer_1 : decode cX5_offer 1 = .ok (.aload_n 0, 1) := by decide +kernel
theorem dX5_offer_2 : decode cX5_offer 2 = .ok (.iload_n 1, 1) := by decide +kernel
theorem dX5_offer_3 : decode cX5_offer 3 = .ok (.invokevirtual 142, 3) := by decide +kernel
theorem dX5_offer_6 : decode cX5_offer 6 = .ok (.ifCond .ne 7, 3) := by decide +kernel
theorem dX5_offer_9 : decode cX5_offer 9 = .ok (.iconst 1, 1) := by decide +kernel
theorem dX5_offer_10 : decode cX5_offer 10 = .ok (.goto 16, 3) := by decide +kernel
theorem dX5_offer_13 : decode cX5_offer 13 = .ok (.aload_n 0, 1) := by decide +kernel
theorem dX5_offer_14 : decode cX5_offer 14 = .ok (.iload_n 2, 1) := by decide +kernel
theorem dX5_offer_15 : decode cX5_offer 15 = .ok (.invokevirtual 110, 3) := by decide +kernel
theorem dX5_offer_18 : decode cX5_offer 18 = .ok (.ifCond .ne 7, 3) := by decide +kernel
theorem dX5_offer_21 : decode cX5_offer 21 = .ok (.iconst 2, 1) := by decide +kernel
theorem dX5_offer_22 : decode cX5_offer 22 = .ok (.goto 4, 3) := by decide +kernel
theorem dX5_offer_25 : decode cX5_offer 25 = .ok (.iconst 0, 1) := by decide +kernel
theorem dX5_offer_26 : decode cX5_offer 26 = .ok (.invokevirtual 93, 3) := by decide +kernel
theorem dX5_offer_29 : decode cX5_offer 29 = .ok (.ifCond .eq 12, 3) := by decide +kernel
theorem dX5_offer_32 : decode cX5_offer 32 = .ok (.aload_n 0, 1) := by decide +kernel
theorem dX5_offer_33 : decode cX5_offer 33 = .ok (.iload_n 1, 1) := by decide +kernel
theorem dX5_offer_34 : decode cX5_offer 34 = .ok (.iload_n 2, 1) := by decide +kernel
theorem dX5_offer_35 : decode cX5_offer 35 = .ok (.invokevirtual 150, 3) := by decide +kernel
theorem dX5_offer_38 : decode cX5_offer 38 = .ok (.goto 4, 3) := by decide +kernel
theorem dX5_offer_41 : decode cX5_offer 41 = .ok (.iconst 0, 1) := by decide +kernel
theorem dX5_offer_42 : decode cX5_offer 42 = .ok (.ireturn, 1) := by decide +kernel
theorem dX5_takes_0 : decode cX5_takes 0 = .ok (.iconst (-1), 1) := by decide +kernel
theorem dX5_takes_1 : decode cX5_takes 1 = .ok (.istore_n 3, 1) := by decide +kernel
theorem dX5_takes_2 : decode cX5_takes 2 = .ok (.iconst 0, 1) := by decide +kernel
theorem dX5_takes_3 : decode cX5_takes 3 = .ok (.istore 4, 2) := by decide +kernel
theorem dX5_takes_5 : decode cX5_takes 5 = .ok (.iload 4, 2) := by decide +kernel
theorem dX5_takes_7 : decode cX5_takes 7 = .ok (.aload_n 0, 1) := by decide +kernel
theorem dX5_takes_8 : decode cX5_takes 8 = .ok (.getfield 87, 3) := by decide +kernel
theorem dX5_takes_11 : decode cX5_takes 11 = .ok (.if_icmp .ge 78, 3) := by decide +kernel
theorem dX5_takes_14 : decode cX5_takes 14 = .ok (.aload_n 0, 1) := by decide +kernel
theorem dX5_takes_15 : decode cX5_takes 15 = .ok (.iload 4, 2) := by decide +kernel
theorem dX5_takes_17 : decode cX5_takes 17 = .ok (.iload_n 1, 1) := by decide +kernel
theorem dX5_takes_18 : decode cX5_takes 18 = .ok (.invokevirtual 150, 3) := by decide +kernel
theorem dX5_takes_21 : decode cX5_takes 21 = .ok (.iload_n 2, 1) := by decide +kernel
theorem dX5_takes_22 : decode cX5_takes 22 = .ok (.if_icmp .lt 25, 3) := by decide +kernel
theorem dX5_takes_25 : decode cX5_takes 25 = .ok (.aload_n 0, 1) := by decide +kernel
theorem dX5_takes_26 : decode cX5_takes 26 = .ok (.getfield 46, 3) := by decide +kernel
theorem dX5_takes_29 : decode cX5_takes 29 = .ok (.iload 4, 2) := by decide +kernel
theorem dX5_takes_31 : decode cX5_takes 31 = .ok (.iaload, 1) := by decide +kernel
theorem dX5_takes_32 : decode cX5_takes 32 = .ok (.iload_n 2, 1) := by decide +kernel
theorem dX5_takes_33 : decode cX5_takes 33 = .ok (.aload_n 0, 1) := by decide +kernel
theorem dX5_takes_34 : decode cX5_takes 34 = .ok (.getfield 22, 3) := by decide +kernel
theorem dX5_takes_37 : decode cX5_takes 37 = .ok (.iload_n 1, 1) := by decide +kernel
theorem dX5_takes_38 : decode cX5_takes 38 = .ok (.iaload, 1) := by decide +kernel
theorem dX5_takes_39 : decode cX5_takes 39 = .ok (.imul, 1) := by decide +kernel
theorem dX5_takes_40 : decode cX5_takes 40 = .ok (.if_icmp .lt 7, 3) := by decide +kernel
theorem dX5_takes_43 : decode cX5_takes 43 = .ok (.iconst 1, 1) := by decide +kernel
theorem dX5_takes_44 : decode cX5_takes 44 = .ok (.goto 4, 3) := by decide +kernel
theorem dX5_takes_47 : decode cX5_takes 47 = .ok (.iconst 0, 1) := by decide +kernel
theorem dX5_takes_48 : decode cX5_takes 48 = .ok (.istore 5, 2) := by decide +kernel
theorem dX5_takes_50 : decode cX5_takes 50 = .ok (.iload 5, 2) := by decide +kernel
theorem dX5_takes_52 : decode cX5_takes 52 = .ok (.ifCond .eq 29, 3) := by decide +kernel
theorem dX5_takes_55 : decode cX5_takes 55 = .ok (.iload_n 3, 1) := by decide +kernel
theorem dX5_takes_56 : decode cX5_takes 56 = .ok (.iconst (-1), 1) := by decide +kernel
theorem dX5_takes_57 : decode cX5_takes 57 = .ok (.if_icmp .eq 19, 3) := by decide +kernel
theorem dX5_takes_60 : decode cX5_takes 60 = .ok (.aload_n 0, 1) := by decide +kernel
theorem dX5_takes_61 : decode cX5_takes 61 = .ok (.iload 4, 2) := by decide +kernel
theorem dX5_takes_63 : decode cX5_takes 63 = .ok (.iload_n 1, 1) := by decide +kernel
theorem dX5_takes_64 : decode cX5_takes 64 = .ok (.invokevirtual 150, 3) := by decide +kernel
theorem dX5_takes_67 : decode cX5_takes 67 = .ok (.aload_n 0, 1) := by decide +kernel
theorem dX5_takes_68 : decode cX5_takes 68 = .ok (.iload_n 3, 1) := by decide +kernel
theorem dX5_takes_69 : decode cX5_takes 69 = .ok (.iload_n 1, 1) := by decide +kernel
theorem dX5_takes_70 : decode cX5_takes 70 = .ok (.invokevirtual 150, 3) := by decide +kernel
theorem dX5_takes_73 : decode cX5_takes 73 = .ok (.if_icmp .le 8, 3) := by decide +kernel
theorem dX5_takes_76 : decode cX5_takes 76 = .ok (.iload 4, 2) := by decide +kernel
theorem dX5_takes_78 : decode cX5_takes 78 = .ok (.goto 4, 3) := by decide +kernel
theorem dX5_takes_81 : decode cX5_takes 81 = .ok (.iload_n 3, 1) := by decide +kernel
theorem dX5_takes_82 : decode cX5_takes 82 = .ok (.istore_n 3, 1) := by decide +kernel
theorem dX5_takes_83 : decode cX5_takes 83 = .ok (.iinc 4 1, 3) := by decide +kernel
theorem dX5_takes_86 : decode cX5_takes 86 = .ok (.goto (-81), 3) := by decide +kernel
theorem dX5_takes_89 : decode cX5_takes 89 = .ok (.iload_n 3, 1) := by decide +kernel
theorem dX5_takes_90 : decode cX5_takes 90 = .ok (.ireturn, 1) := by decide +kernel
theorem dX5_falls_0 : decode cX5_falls 0 = .ok (.aload_n 0, 1) := by decide +kernel
theorem dX5_falls_1 : decode cX5_falls 1 = .ok (.getfield 52, 3) := by decide +kernel
theorem dX5_falls_4 : decode cX5_falls 4 = .ok (.istore_n 2, 1) := by decide +kernel
theorem dX5_falls_5 : decode cX5_falls 5 = .ok (.iload_n 2, 1) := by decide +kernel
theorem dX5_falls_6 : decode cX5_falls 6 = .ok (.aload_n 0, 1) := by decide +kernel
theorem dX5_falls_7 : decode cX5_falls 7 = .ok (.getfield 145, 3) := by decide +kernel
theorem dX5_falls_10 : decode cX5_falls 10 = .ok (.if_icmp .lt 29, 3) := by decide +kernel
theorem dX5_falls_13 : decode cX5_falls 13 = .ok (.iload_n 2, 1) := by decide +kernel
theorem dX5_falls_14 : decode cX5_falls 14 = .ok (.ifCond .lt 25, 3) := by decide +kernel
theorem dX5_falls_17 : decode cX5_falls 17 = .ok (.aload_n 0, 1) := by decide +kernel
theorem dX5_falls_18 : decode cX5_falls 18 = .ok (.iload_n 1, 1) := by decide +kernel
theorem dX5_falls_19 : decode cX5_falls 19 = .ok (.iload_n 2, 1) := by decide +kernel
theorem dX5_falls_20 : decode cX5_falls 20 = .ok (.invokevirtual 154, 3) := by decide +kernel
theorem dX5_falls_23 : decode cX5_falls 23 = .ok (.iconst (-1), 1) := by decide +kernel
theorem dX5_falls_24 : decode cX5_falls 24 = .ok (.if_icmp .eq 5, 3) := by decide +kernel
theorem dX5_falls_27 : decode cX5_falls 27 = .ok (.iload_n 2, 1) := by decide +kernel
theorem dX5_falls_28 : decode cX5_falls 28 = .ok (.ireturn, 1) := by decide +kernel
theorem dX5_falls_29 : decode cX5_falls 29 = .ok (.iload_n 2, 1) := by decide +kernel
theorem dX5_falls_30 : decode cX5_falls 30 = .ok (.aload_n 0, 1) := by decide +kernel
theorem dX5_falls_31 : decode cX5_falls 31 = .ok (.getfield 56, 3) := by decide +kernel
theorem dX5_falls_34 : decode cX5_falls 34 = .ok (.isub, 1) := by decide +kernel
theorem dX5_falls_35 : decode cX5_falls 35 = .ok (.istore_n 2, 1) := by decide +kernel
theorem dX5_falls_36 : decode cX5_falls 36 = .ok (.goto (-31), 3) := by decide +kernel
theorem dX5_falls_39 : decode cX5_falls 39 = .ok (.iconst (-1), 1) := by decide +kernel
theorem dX5_falls_40 : decode cX5_falls 40 = .ok (.ireturn, 1) := by decide +kernel
theorem dX5_saleFault_0 : decode cX5_saleFault 0 = .ok (.aload_n 0, 1) := by decide +kernel
theorem dX5_saleFault_1 : decode cX5_saleFault 1 = .ok (.iload_n 1, 1) := by decide +kernel
theorem dX5_saleFault_2 : decode cX5_saleFault 2 = .ok (.invokevirtual 110, 3) := by decide +kernel
theorem dX5_saleFault_5 : decode cX5_saleFault 5 = .ok (.ifCond .ne 7, 3) := by decide +kernel
theorem dX5_saleFault_8 : decode cX5_saleFault 8 = .ok (.iconst 1, 1) := by decide +kernel
theorem dX5_saleFault_9 : decode cX5_saleFault 9 = .ok (.goto 19, 3) := by decide +kernel
theorem dX5_saleFault_12 : decode cX5_saleFault 12 = .ok (.aload_n 0, 1) := by decide +kernel
theorem dX5_saleFault_13 : decode cX5_saleFault 13 = .ok (.getfield 29, 3) := by decide +kernel
theorem dX5_saleFault_16 : decode cX5_saleFault 16 = .ok (.iload_n 1, 1) := by decide +kernel
theorem dX5_saleFault_17 : decode cX5_saleFault 17 = .ok (.caload, 1) := by decide +kernel
theorem dX5_saleFault_18 : decode cX5_saleFault 18 = .ok (.bipush 102, 2) := by decide +kernel
theorem dX5_saleFault_20 : decode cX5_saleFault 20 = .ok (.if_icmp .eq 7, 3) := by decide +kernel
theorem dX5_saleFault_23 : decode cX5_saleFault 23 = .ok (.iconst 2, 1) := by decide +kernel
theorem dX5_saleFault_24 : decode cX5_saleFault 24 = .ok (.goto 4, 3) := by decide +kernel
theorem dX5_saleFault_27 : decode cX5_saleFault 27 = .ok (.iconst 0, 1) := by decide +kernel
theorem dX5_saleFault_28 : decode cX5_saleFault 28 = .ok (.istore_n 2, 1) := by decide +kernel
theorem dX5_saleFault_29 : decode cX5_saleFault 29 = .ok (.iload_n 2, 1) := by decide +kernel
theorem dX5_saleFault_30 : decode cX5_saleFault 30 = .ok (.ifCond .ne 16, 3) := by decide +kernel
theorem dX5_saleFault_33 : decode cX5_saleFault 33 = .ok (.aload_n 0, 1) := by decide +kernel
theorem dX5_saleFault_34 : decode cX5_saleFault 34 = .ok (.iload_n 1, 1) := by decide +kernel
theorem dX5_saleFault_35 : decode cX5_saleFault 35 = .ok (.invokevirtual 157, 3) := by decide +kernel
theorem dX5_saleFault_38 : decode cX5_saleFault 38 = .ok (.iconst (-1), 1) := by decide +kernel
theorem dX5_saleFault_39 : decode cX5_saleFault 39 = .ok (.if_icmp .ne 7, 3) := by decide +kernel
theorem dX5_saleFault_42 : decode cX5_saleFault 42 = .ok (.iconst 3, 1) := by decide +kernel
theorem dX5_saleFault_43 : decode cX5_saleFault 43 = .ok (.goto 4, 3) := by decide +kernel
theorem dX5_saleFault_46 : decode cX5_saleFault 46 = .ok (.iload_n 2, 1) := by decide +kernel
theorem dX5_saleFault_47 : decode cX5_saleFault 47 = .ok (.ireturn, 1) := by decide +kernel
theorem dX5_price_0 : decode cX5_price 0 = .ok (.aload_n 0, 1) := by decide +kernel
theorem dX5_price_1 : decode cX5_price 1 = .ok (.aload_n 0, 1) := by decide +kernel
theorem dX5_price_2 : decode cX5_price 2 = .ok (.iload_n 1, 1) := by decide +kernel
theorem dX5_price_3 : decode cX5_price 3 = .ok (.invokevirtual 160, 3) := by decide +kernel
theorem dX5_price_6 : decode cX5_price 6 = .ok (.invokevirtual 93, 3) := by decide +kernel
theorem dX5_price_9 : decode cX5_price 9 = .ok (.ifCond .eq 11, 3) := by decide +kernel
theorem dX5_price_12 : decode cX5_price 12 = .ok (.aload_n 0, 1) := by decide +kernel
theorem dX5_price_13 : decode cX5_price 13 = .ok (.iload_n 1, 1) := by decide +kernel
theorem dX5_price_14 : decode cX5_price 14 = .ok (.invokevirtual 157, 3) := by decide +kernel
theorem dX5_price_17 : decode cX5_price 17 = .ok (.goto 4, 3) := by decide +kernel
theorem dX5_price_20 : decode cX5_price 20 = .ok (.iconst 0, 1) := by decide +kernel
theorem dX5_price_21 : decode cX5_price 21 = .ok (.ireturn, 1) := by decide +kernel
theorem dX5_priceByBuyers_0 : decode cX5_priceByBuyers 0 = .ok (.aload_n 0, 1) := by decide +kernel
theorem dX5_priceByBuyers_1 : decode cX5_priceByBuyers 1 = .ok (.iload_n 1, 1) := by decide +kernel
theorem dX5_priceByBuyers_2 : decode cX5_priceByBuyers 2 = .ok (.invokevirtual 163, 3) := by decide +kernel
theorem dX5_priceByBuyers_5 : decode cX5_priceByBuyers 5 = .ok (.ireturn, 1) := by decide +kernel
theorem dX5_sell_0 : decode cX5_sell 0 = .ok (.aload_n 0, 1) := by decide +kernel
theorem dX5_sell_1 : decode cX5_sell 1 = .ok (.aload_n 0, 1) := by decide +kernel
theorem dX5_sell_2 : decode cX5_sell 2 = .ok (.iload_n 1, 1) := by decide +kernel
theorem dX5_sell_3 : decode cX5_sell 3 = .ok (.invokevirtual 160, 3) := by decide +kernel
theorem dX5_sell_6 : decode cX5_sell 6 = .ok (.invokevirtual 93, 3) := by decide +kernel
theorem dX5_sell_9 : decode cX5_sell 9 = .ok (.ifCond .ne 5, 3) := by decide +kernel
theorem dX5_sell_12 : decode cX5_sell 12 = .ok (.iconst 0, 1) := by decide +kernel
theorem dX5_sell_13 : decode cX5_sell 13 = .ok (.ireturn, 1) := by decide +kernel
theorem dX5_sell_14 : decode cX5_sell 14 = .ok (.aload_n 0, 1) := by decide +kernel
theorem dX5_sell_15 : decode cX5_sell 15 = .ok (.iload_n 1, 1) := by decide +kernel
theorem dX5_sell_16 : decode cX5_sell 16 = .ok (.invokevirtual 157, 3) := by decide +kernel
theorem dX5_sell_19 : decode cX5_sell 19 = .ok (.istore_n 2, 1) := by decide +kernel
theorem dX5_sell_20 : decode cX5_sell 20 = .ok (.aload_n 0, 1) := by decide +kernel
theorem dX5_sell_21 : decode cX5_sell 21 = .ok (.getfield 40, 3) := by decide +kernel
theorem dX5_sell_24 : decode cX5_sell 24 = .ok (.iload_n 1, 1) := by decide +kernel
theorem dX5_sell_25 : decode cX5_sell 25 = .ok (.aload_n 0, 1) := by decide +kernel
theorem dX5_sell_26 : decode cX5_sell 26 = .ok (.iload_n 1, 1) := by decide +kernel
theorem dX5_sell_27 : decode cX5_sell 27 = .ok (.iload_n 2, 1) := by decide +kernel
theorem dX5_sell_28 : decode cX5_sell 28 = .ok (.invokevirtual 154, 3) := by decide +kernel
theorem dX5_sell_31 : decode cX5_sell 31 = .ok (.iastore, 1) := by decide +kernel
theorem dX5_sell_32 : decode cX5_sell 32 = .ok (.aload_n 0, 1) := by decide +kernel
theorem dX5_sell_33 : decode cX5_sell 33 = .ok (.getfield 43, 3) := by decide +kernel
theorem dX5_sell_36 : decode cX5_sell 36 = .ok (.iload_n 1, 1) := by decide +kernel
theorem dX5_sell_37 : decode cX5_sell 37 = .ok (.iload_n 2, 1) := by decide +kernel
theorem dX5_sell_38 : decode cX5_sell 38 = .ok (.aload_n 0, 1) := by decide +kernel
theorem dX5_sell_39 : decode cX5_sell 39 = .ok (.getfield 22, 3) := by decide +kernel
theorem dX5_sell_42 : decode cX5_sell 42 = .ok (.iload_n 1, 1) := by decide +kernel
theorem dX5_sell_43 : decode cX5_sell 43 = .ok (.iaload, 1) := by decide +kernel
theorem dX5_sell_44 : decode cX5_sell 44 = .ok (.imul, 1) := by decide +kernel
theorem dX5_sell_45 : decode cX5_sell 45 = .ok (.iastore, 1) := by decide +kernel
theorem dX5_sell_46 : decode cX5_sell 46 = .ok (.aload_n 0, 1) := by decide +kernel
theorem dX5_sell_47 : decode cX5_sell 47 = .ok (.getfield 46, 3) := by decide +kernel
theorem dX5_sell_50 : decode cX5_sell 50 = .ok (.aload_n 0, 1) := by decide +kernel
theorem dX5_sell_51 : decode cX5_sell 51 = .ok (.getfield 40, 3) := by decide +kernel
theorem dX5_sell_54 : decode cX5_sell 54 = .ok (.iload_n 1, 1) := by decide +kernel
theorem dX5_sell_55 : decode cX5_sell 55 = .ok (.iaload, 1) := by decide +kernel
theorem dX5_sell_56 : decode cX5_sell 56 = .ok (.dup2, 1) := by decide +kernel
theorem dX5_sell_57 : decode cX5_sell 57 = .ok (.iaload, 1) := by decide +kernel
theorem dX5_sell_58 : decode cX5_sell 58 = .ok (.aload_n 0, 1) := by decide +kernel
theorem dX5_sell_59 : decode cX5_sell 59 = .ok (.getfield 43, 3) := by decide +kernel
theorem dX5_sell_62 : decode cX5_sell 62 = .ok (.iload_n 1, 1) := by decide +kernel
theorem dX5_sell_63 : decode cX5_sell 63 = .ok (.iaload, 1) := by decide +kernel
theorem dX5_sell_64 : decode cX5_sell 64 = .ok (.isub, 1) := by decide +kernel
theorem dX5_sell_65 : decode cX5_sell 65 = .ok (.iastore, 1) := by decide +kernel
theorem dX5_sell_66 : decode cX5_sell 66 = .ok (.aload_n 0, 1) := by decide +kernel
theorem dX5_sell_67 : decode cX5_sell 67 = .ok (.dup, 1) := by decide +kernel
theorem dX5_sell_68 : decode cX5_sell 68 = .ok (.getfield 127, 3) := by decide +kernel
theorem dX5_sell_71 : decode cX5_sell 71 = .ok (.aload_n 0, 1) := by decide +kernel
theorem dX5_sell_72 : decode cX5_sell 72 = .ok (.getfield 43, 3) := by decide +kernel
theorem dX5_sell_75 : decode cX5_sell 75 = .ok (.iload_n 1, 1) := by decide +kernel
theorem dX5_sell_76 : decode cX5_sell 76 = .ok (.iaload, 1) := by decide +kernel
theorem dX5_sell_77 : decode cX5_sell 77 = .ok (.i2l, 1) := by decide +kernel
theorem dX5_sell_78 : decode cX5_sell 78 = .ok (.ladd, 1) := by decide +kernel
theorem dX5_sell_79 : decode cX5_sell 79 = .ok (.putfield 127, 3) := by decide +kernel
theorem dX5_sell_82 : decode cX5_sell 82 = .ok (.aload_n 0, 1) := by decide +kernel
theorem dX5_sell_83 : decode cX5_sell 83 = .ok (.getfield 29, 3) := by decide +kernel
theorem dX5_sell_86 : decode cX5_sell 86 = .ok (.iload_n 1, 1) := by decide +kernel
theorem dX5_sell_87 : decode cX5_sell 87 = .ok (.bipush 115, 2) := by decide +kernel
theorem dX5_sell_89 : decode cX5_sell 89 = .ok (.castore, 1) := by decide +kernel
theorem dX5_sell_90 : decode cX5_sell 90 = .ok (.aload_n 0, 1) := by decide +kernel
theorem dX5_sell_91 : decode cX5_sell 91 = .ok (.getfield 40, 3) := by decide +kernel
theorem dX5_sell_94 : decode cX5_sell 94 = .ok (.iload_n 1, 1) := by decide +kernel
theorem dX5_sell_95 : decode cX5_sell 95 = .ok (.iaload, 1) := by decide +kernel
theorem dX5_sell_96 : decode cX5_sell 96 = .ok (.ireturn, 1) := by decide +kernel
theorem dX5_isSold_0 : decode cX5_isSold 0 = .ok (.aload_n 0, 1) := by decide +kernel
theorem dX5_isSold_1 : decode cX5_isSold 1 = .ok (.getfield 29, 3) := by decide +kernel
theorem dX5_isSold_4 : decode cX5_isSold 4 = .ok (.iload_n 1, 1) := by decide +kernel
theorem dX5_isSold_5 : decode cX5_isSold 5 = .ok (.caload, 1) := by decide +kernel
theorem dX5_isSold_6 : decode cX5_isSold 6 = .ok (.bipush 115, 2) := by decide +kernel
theorem dX5_isSold_8 : decode cX5_isSold 8 = .ok (.if_icmp .eq 25, 3) := by decide +kernel
theorem dX5_isSold_11 : decode cX5_isSold 11 = .ok (.aload_n 0, 1) := by decide +kernel
theorem dX5_isSold_12 : decode cX5_isSold 12 = .ok (.getfield 29, 3) := by decide +kernel
theorem dX5_isSold_15 : decode cX5_isSold 15 = .ok (.iload_n 1, 1) := by decide +kernel
theorem dX5_isSold_16 : decode cX5_isSold 16 = .ok (.caload, 1) := by decide +kernel
theorem dX5_isSold_17 : decode cX5_isSold 17 = .ok (.bipush 108, 2) := by decide +kernel
theorem dX5_isSold_19 : decode cX5_isSold 19 = .ok (.if_icmp .eq 14, 3) := by decide +kernel
theorem dX5_isSold_22 : decode cX5_isSold 22 = .ok (.aload_n 0, 1) := by decide +kernel
theorem dX5_isSold_23 : decode cX5_isSold 23 = .ok (.getfield 29, 3) := by decide +kernel
theorem dX5_isSold_26 : decode cX5_isSold 26 = .ok (.iload_n 1, 1) := by decide +kernel
theorem dX5_isSold_27 : decode cX5_isSold 27 = .ok (.caload, 1) := by decide +kernel
theorem dX5_isSold_28 : decode cX5_isSold 28 = .ok (.bipush 100, 2) := by decide +kernel
theorem dX5_isSold_30 : decode cX5_isSold 30 = .ok (.if_icmp .ne 7, 3) := by decide +kernel
theorem dX5_isSold_33 : decode cX5_isSold 33 = .ok (.iconst 1, 1) := by decide +kernel
theorem dX5_isSold_34 : decode cX5_isSold 34 = .ok (.goto 4, 3) := by decide +kernel
theorem dX5_isSold_37 : decode cX5_isSold 37 = .ok (.iconst 0, 1) := by decide +kernel
theorem dX5_isSold_38 : decode cX5_isSold 38 = .ok (.ireturn, 1) := by decide +kernel
theorem dX5_buyerOf_0 : decode cX5_buyerOf 0 = .ok (.aload_n 0, 1) := by decide +kernel
theorem dX5_buyerOf_1 : decode cX5_buyerOf 1 = .ok (.aload_n 0, 1) := by decide +kernel
theorem dX5_buyerOf_2 : decode cX5_buyerOf 2 = .ok (.iload_n 1, 1) := by decide +kernel
theorem dX5_buyerOf_3 : decode cX5_buyerOf 3 = .ok (.invokevirtual 110, 3) := by decide +kernel
theorem dX5_buyerOf_6 : decode cX5_buyerOf 6 = .ok (.ifCond .eq 13, 3) := by decide +kernel
theorem dX5_buyerOf_9 : decode cX5_buyerOf 9 = .ok (.aload_n 0, 1) := by decide +kernel
theorem dX5_buyerOf_10 : decode cX5_buyerOf 10 = .ok (.getfield 40, 3) := by decide +kernel
theorem dX5_buyerOf_13 : decode cX5_buyerOf 13 = .ok (.iload_n 1, 1) := by decide +kernel
theorem dX5_buyerOf_14 : decode cX5_buyerOf 14 = .ok (.iaload, 1) := by decide +kernel
theorem dX5_buyerOf_15 : decode cX5_buyerOf 15 = .ok (.iconst (-1), 1) := by decide +kernel
theorem dX5_buyerOf_16 : decode cX5_buyerOf 16 = .ok (.if_icmp .ne 7, 3) := by decide +kernel
theorem dX5_buyerOf_19 : decode cX5_buyerOf 19 = .ok (.iconst 1, 1) := by decide +kernel
theorem dX5_buyerOf_20 : decode cX5_buyerOf 20 = .ok (.goto 4, 3) := by decide +kernel
theorem dX5_buyerOf_23 : decode cX5_buyerOf 23 = .ok (.iconst 0, 1) := by decide +kernel
theorem dX5_buyerOf_24 : decode cX5_buyerOf 24 = .ok (.invokevirtual 93, 3) := by decide +kernel
theorem dX5_buyerOf_27 : decode cX5_buyerOf 27 = .ok (.ifCond .eq 12, 3) := by decide +kernel
theorem dX5_buyerOf_30 : decode cX5_buyerOf 30 = .ok (.aload_n 0, 1) := by decide +kernel
theorem dX5_buyerOf_31 : decode cX5_buyerOf 31 = .ok (.getfield 40, 3) := by decide +kernel
theorem dX5_buyerOf_34 : decode cX5_buyerOf 34 = .ok (.iload_n 1, 1) := by decide +kernel
theorem dX5_buyerOf_35 : decode cX5_buyerOf 35 = .ok (.iaload, 1) := by decide +kernel
theorem dX5_buyerOf_36 : decode cX5_buyerOf 36 = .ok (.goto 4, 3) := by decide +kernel
theorem dX5_buyerOf_39 : decode cX5_buyerOf 39 = .ok (.iconst 0, 1) := by decide +kernel
theorem dX5_buyerOf_40 : decode cX5_buyerOf 40 = .ok (.ireturn, 1) := by decide +kernel
theorem dX5_paidFor_0 : decode cX5_paidFor 0 = .ok (.aload_n 0, 1) := by decide +kernel
theorem dX5_paidFor_1 : decode cX5_paidFor 1 = .ok (.aload_n 0, 1) := by decide +kernel
theorem dX5_paidFor_2 : decode cX5_paidFor 2 = .ok (.iload_n 1, 1) := by decide +kernel
theorem dX5_paidFor_3 : decode cX5_paidFor 3 = .ok (.invokevirtual 110, 3) := by decide +kernel
theorem dX5_paidFor_6 : decode cX5_paidFor 6 = .ok (.ifCond .eq 7, 3) := by decide +kernel
theorem dX5_paidFor_9 : decode cX5_paidFor 9 = .ok (.iconst 0, 1) := by decide +kernel
theorem dX5_paidFor_10 : decode cX5_paidFor 10 = .ok (.goto 4, 3) := by decide +kernel
theorem dX5_paidFor_13 : decode cX5_paidFor 13 = .ok (.iconst 1, 1) := by decide +kernel
theorem dX5_paidFor_14 : decode cX5_paidFor 14 = .ok (.invokevirtual 93, 3) := by decide +kernel
theorem dX5_paidFor_17 : decode cX5_paidFor 17 = .ok (.ifCond .eq 12, 3) := by decide +kernel
theorem dX5_paidFor_20 : decode cX5_paidFor 20 = .ok (.aload_n 0, 1) := by decide +kernel
theorem dX5_paidFor_21 : decode cX5_paidFor 21 = .ok (.getfield 43, 3) := by decide +kernel
theorem dX5_paidFor_24 : decode cX5_paidFor 24 = .ok (.iload_n 1, 1) := by decide +kernel
theorem dX5_paidFor_25 : decode cX5_paidFor 25 = .ok (.iaload, 1) := by decide +kernel
theorem dX5_paidFor_26 : decode cX5_paidFor 26 = .ok (.goto 4, 3) := by decide +kernel
theorem dX5_paidFor_29 : decode cX5_paidFor 29 = .ok (.iconst 0, 1) := by decide +kernel
theorem dX5_paidFor_30 : decode cX5_paidFor 30 = .ok (.ireturn, 1) := by decide +kernel
theorem dX5_addTruck_0 : decode cX5_addTruck 0 = .ok (.iload_n 1, 1) := by decide +kernel
theorem dX5_addTruck_1 : decode cX5_addTruck 1 = .ok (.aload_n 0, 1) := by decide +kernel
theorem dX5_addTruck_2 : decode cX5_addTruck 2 = .ok (.getfield 135, 3) := by decide +kernel
theorem dX5_addTruck_5 : decode cX5_addTruck 5 = .ok (.iconst 1, 1) := by decide +kernel
theorem dX5_addTruck_6 : decode cX5_addTruck 6 = .ok (.iadd, 1) := by decide +kernel
theorem dX5_addTruck_7 : decode cX5_addTruck 7 = .ok (.sipush 1000, 3) := by decide +kernel
theorem dX5_addTruck_10 : decode cX5_addTruck 10 = .ok (.invokestatic 80, 3) := by decide +kernel
theorem dX5_addTruck_13 : decode cX5_addTruck 13 = .ok (.ifCond .eq 15, 3) := by decide +kernel
theorem dX5_addTruck_16 : decode cX5_addTruck 16 = .ok (.iload_n 2, 1) := by decide +kernel
theorem dX5_addTruck_17 : decode cX5_addTruck 17 = .ok (.bipush 100, 2) := by decide +kernel
theorem dX5_addTruck_19 : decode cX5_addTruck 19 = .ok (.sipush 9999, 3) := by decide +kernel
theorem dX5_addTruck_22 : decode cX5_addTruck 22 = .ok (.invokestatic 80, 3) := by decide +kernel
theorem dX5_addTruck_25 : decode cX5_addTruck 25 = .ok (.ifCond .ne 7, 3) := by decide +kernel
theorem dX5_addTruck_28 : decode cX5_addTruck 28 = .ok (.iconst 1, 1) := by decide +kernel
theorem dX5_addTruck_29 : decode cX5_addTruck 29 = .ok (.goto 4, 3) := by decide +kernel
theorem dX5_addTruck_32 : decode cX5_addTruck 32 = .ok (.iconst 0, 1) := by decide +kernel
theorem dX5_addTruck_33 : decode cX5_addTruck 33 = .ok (.istore 4, 2) := by decide +kernel
theorem dX5_addTruck_35 : decode cX5_addTruck 35 = .ok (.aload_n 0, 1) := by decide +kernel
theorem dX5_addTruck_36 : decode cX5_addTruck 36 = .ok (.iload 4, 2) := by decide +kernel
theorem dX5_addTruck_38 : decode cX5_addTruck 38 = .ok (.ifCond .eq 7, 3) := by decide +kernel
theorem dX5_addTruck_41 : decode cX5_addTruck 41 = .ok (.iconst 1, 1) := by decide +kernel
theorem dX5_addTruck_42 : decode cX5_addTruck 42 = .ok (.goto 16, 3) := by decide +kernel
theorem dX5_addTruck_45 : decode cX5_addTruck 45 = .ok (.aload_n 0, 1) := by decide +kernel
theorem dX5_addTruck_46 : decode cX5_addTruck 46 = .ok (.getfield 90, 3) := by decide +kernel
theorem dX5_addTruck_49 : decode cX5_addTruck 49 = .ok (.iconst 4, 1) := by decide +kernel
theorem dX5_addTruck_50 : decode cX5_addTruck 50 = .ok (.if_icmp .ne 7, 3) := by decide +kernel
theorem dX5_addTruck_53 : decode cX5_addTruck 53 = .ok (.iconst 2, 1) := by decide +kernel
theorem dX5_addTruck_54 : decode cX5_addTruck 54 = .ok (.goto 4, 3) := by decide +kernel
theorem dX5_addTruck_57 : decode cX5_addTruck 57 = .ok (.iconst 0, 1) := by decide +kernel
theorem dX5_addTruck_58 : decode cX5_addTruck 58 = .ok (.invokevirtual 93, 3) := by decide +kernel
theorem dX5_addTruck_61 : decode cX5_addTruck 61 = .ok (.ifCond .ne 5, 3) := by decide +kernel
theorem dX5_addTruck_64 : decode cX5_addTruck 64 = .ok (.iconst 0, 1) := by decide +kernel
theorem dX5_addTruck_65 : decode cX5_addTruck 65 = .ok (.ireturn, 1) := by decide +kernel
theorem dX5_addTruck_66 : decode cX5_addTruck 66 = .ok (.aload_n 0, 1) := by decide +kernel
theorem dX5_addTruck_67 : decode cX5_addTruck 67 = .ok (.getfield 59, 3) := by decide +kernel
theorem dX5_addTruck_70 : decode cX5_addTruck 70 = .ok (.aload_n 0, 1) := by decide +kernel
theorem dX5_addTruck_71 : decode cX5_addTruck 71 = .ok (.getfield 90, 3) := by decide +kernel
theorem dX5_addTruck_74 : decode cX5_addTruck 74 = .ok (.iload_n 1, 1) := by decide +kernel
theorem dX5_addTruck_75 : decode cX5_addTruck 75 = .ok (.iastore, 1) := by decide +kernel
theorem dX5_addTruck_76 : decode cX5_addTruck 76 = .ok (.aload_n 0, 1) := by decide +kernel
theorem dX5_addTruck_77 : decode cX5_addTruck 77 = .ok (.getfield 62, 3) := by decide +kernel
theorem dX5_addTruck_80 : decode cX5_addTruck 80 = .ok (.aload_n 0, 1) := by decide +kernel
theorem dX5_addTruck_81 : decode cX5_addTruck 81 = .ok (.getfield 90, 3) := by decide +kernel
theorem dX5_addTruck_84 : decode cX5_addTruck 84 = .ok (.iload_n 2, 1) := by decide +kernel
theorem dX5_addTruck_85 : decode cX5_addTruck 85 = .ok (.iastore, 1) := by decide +kernel
theorem dX5_addTruck_86 : decode cX5_addTruck 86 = .ok (.aload_n 0, 1) := by decide +kernel
theorem dX5_addTruck_87 : decode cX5_addTruck 87 = .ok (.getfield 65, 3) := by decide +kernel
theorem dX5_addTruck_90 : decode cX5_addTruck 90 = .ok (.aload_n 0, 1) := by decide +kernel
theorem dX5_addTruck_91 : decode cX5_addTruck 91 = .ok (.getfield 90, 3) := by decide +kernel
theorem dX5_addTruck_94 : decode cX5_addTruck 94 = .ok (.iload_n 3, 1) := by decide +kernel
theorem dX5_addTruck_95 : decode cX5_addTruck 95 = .ok (.bastore, 1) := by decide +kernel
theorem dX5_addTruck_96 : decode cX5_addTruck 96 = .ok (.aload_n 0, 1) := by decide +kernel
theorem dX5_addTruck_97 : decode cX5_addTruck 97 = .ok (.dup, 1) := by decide +kernel
theorem dX5_addTruck_98 : decode cX5_addTruck 98 = .ok (.getfield 90, 3) := by decide +kernel
theorem dX5_addTruck_101 : decode cX5_addTruck 101 = .ok (.iconst 1, 1) := by decide +kernel
theorem dX5_addTruck_102 : decode cX5_addTruck 102 = .ok (.iadd, 1) := by decide +kernel
theorem dX5_addTruck_103 : decode cX5_addTruck 103 = .ok (.putfield 90, 3) := by decide +kernel
theorem dX5_addTruck_106 : decode cX5_addTruck 106 = .ok (.aload_n 0, 1) := by decide +kernel
theorem dX5_addTruck_107 : decode cX5_addTruck 107 = .ok (.getfield 90, 3) := by decide +kernel
theorem dX5_addTruck_110 : decode cX5_addTruck 110 = .ok (.iconst 1, 1) := by decide +kernel
theorem dX5_addTruck_111 : decode cX5_addTruck 111 = .ok (.isub, 1) := by decide +kernel
theorem dX5_addTruck_112 : decode cX5_addTruck 112 = .ok (.ireturn, 1) := by decide +kernel
theorem dX5_load_0 : decode cX5_load 0 = .ok (.aload_n 0, 1) := by decide +kernel
theorem dX5_load_1 : decode cX5_load 1 = .ok (.iload_n 1, 1) := by decide +kernel
theorem dX5_load_2 : decode cX5_load 2 = .ok (.invokevirtual 110, 3) := by decide +kernel
theorem dX5_load_5 : decode cX5_load 5 = .ok (.ifCond .ne 7, 3) := by decide +kernel
theorem dX5_load_8 : decode cX5_load 8 = .ok (.iconst 1, 1) := by decide +kernel
theorem dX5_load_9 : decode cX5_load 9 = .ok (.goto 16, 3) := by decide +kernel
theorem dX5_load_12 : decode cX5_load 12 = .ok (.aload_n 0, 1) := by decide +kernel
theorem dX5_load_13 : decode cX5_load 13 = .ok (.iload_n 2, 1) := by decide +kernel
theorem dX5_load_14 : decode cX5_load 14 = .ok (.invokevirtual 166, 3) := by decide +kernel
theorem dX5_load_17 : decode cX5_load 17 = .ok (.ifCond .ne 7, 3) := by decide +kernel
theorem dX5_load_20 : decode cX5_load 20 = .ok (.iconst 2, 1) := by decide +kernel
theorem dX5_load_21 : decode cX5_load 21 = .ok (.goto 4, 3) := by decide +kernel
theorem dX5_load_24 : decode cX5_load 24 = .ok (.iconst 0, 1) := by decide +kernel
theorem dX5_load_25 : decode cX5_load 25 = .ok (.istore_n 3, 1) := by decide +kernel
theorem dX5_load_26 : decode cX5_load 26 = .ok (.iload_n 3, 1) := by decide +kernel
theorem dX5_load_27 : decode cX5_load 27 = .ok (.ifCond .ne 92, 3) := by decide +kernel
theorem dX5_load_30 : decode cX5_load 30 = .ok (.aload_n 0, 1) := by decide +kernel
theorem dX5_load_31 : decode cX5_load 31 = .ok (.getfield 29, 3) := by decide +kernel
theorem dX5_load_34 : decode cX5_load 34 = .ok (.iload_n 1, 1) := by decide +kernel
theorem dX5_load_35 : decode cX5_load 35 = .ok (.caload, 1) := by decide +kernel
theorem dX5_load_36 : decode cX5_load 36 = .ok (.bipush 115, 2) := by decide +kernel
theorem dX5_load_38 : decode cX5_load 38 = .ok (.if_icmp .ne 41, 3) := by decide +kernel
theorem dX5_load_41 : decode cX5_load 41 = .ok (.aload_n 0, 1) := by decide +kernel
theorem dX5_load_42 : decode cX5_load 42 = .ok (.getfield 59, 3) := by decide +kernel
theorem dX5_load_45 : decode cX5_load 45 = .ok (.iload_n 2, 1) := by decide +kernel
theorem dX5_load_46 : decode cX5_load 46 = .ok (.iaload, 1) := by decide +kernel
theorem dX5_load_47 : decode cX5_load 47 = .ok (.aload_n 0, 1) := by decide +kernel
theorem dX5_load_48 : decode cX5_load 48 = .ok (.getfield 135, 3) := by decide +kernel
theorem dX5_load_51 : decode cX5_load 51 = .ok (.if_icmp .le 28, 3) := by decide +kernel
theorem dX5_load_54 : decode cX5_load 54 = .ok (.aload_n 0, 1) := by decide +kernel
theorem dX5_load_55 : decode cX5_load 55 = .ok (.getfield 68, 3) := by decide +kernel
theorem dX5_load_58 : decode cX5_load 58 = .ok (.iload_n 2, 1) := by decide +kernel
theorem dX5_load_59 : decode cX5_load 59 = .ok (.iaload, 1) := by decide +kernel
theorem dX5_load_60 : decode cX5_load 60 = .ok (.iconst 5, 1) := by decide +kernel
theorem dX5_load_61 : decode cX5_load 61 = .ok (.if_icmp .eq 18, 3) := by decide +kernel
theorem dX5_load_64 : decode cX5_load 64 = .ok (.aload_n 0, 1) := by decide +kernel
theorem dX5_load_65 : decode cX5_load 65 = .ok (.getfield 62, 3) := by decide +kernel
theorem dX5_load_68 : decode cX5_load 68 = .ok (.iload_n 2, 1) := by decide +kernel
theorem dX5_load_69 : decode cX5_load 69 = .ok (.iaload, 1) := by decide +kernel
theorem dX5_load_70 : decode cX5_load 70 = .ok (.aload_n 0, 1) := by decide +kernel
theorem dX5_load_71 : decode cX5_load 71 = .ok (.getfield 22, 3) := by decide +kernel
theorem dX5_load_74 : decode cX5_load 74 = .ok (.iload_n 1, 1) := by decide +kernel
theorem dX5_load_75 : decode cX5_load 75 = .ok (.iaload, 1) := by decide +kernel
theorem dX5_load_76 : decode cX5_load 76 = .ok (.if_icmp .ge 7, 3) := by decide +kernel
theorem dX5_load_79 : decode cX5_load 79 = .ok (.iconst 1, 1) := by decide +kernel
theorem dX5_load_80 : decode cX5_load 80 = .ok (.goto 4, 3) := by decide +kernel
theorem dX5_load_83 : decode cX5_load 83 = .ok (.iconst 0, 1) := by decide +kernel
theorem dX5_load_84 : decode cX5_load 84 = .ok (.istore 4, 2) := by decide +kernel
theorem dX5_load_86 : decode cX5_load 86 = .ok (.iload 4, 2) := by decide +kernel
theorem dX5_load_88 : decode cX5_load 88 = .ok (.ifCond .eq 7, 3) := by decide +kernel
theorem dX5_load_91 : decode cX5_load 91 = .ok (.iconst 3, 1) := by decide +kernel
theorem dX5_load_92 : decode cX5_load 92 = .ok (.goto 26, 3) := by decide +kernel
theorem dX5_load_95 : decode cX5_load 95 = .ok (.aload_n 0, 1) := by decide +kernel
theorem dX5_load_96 : decode cX5_load 96 = .ok (.getfield 65, 3) := by decide +kernel
theorem dX5_load_99 : decode cX5_load 99 = .ok (.iload_n 2, 1) := by decide +kernel
theorem dX5_load_100 : decode cX5_load 100 = .ok (.baload, 1) := by decide +kernel
theorem dX5_load_101 : decode cX5_load 101 = .ok (.ifCond .eq 16, 3) := by decide +kernel
theorem dX5_load_104 : decode cX5_load 104 = .ok (.aload_n 0, 1) := by decide +kernel
theorem dX5_load_105 : decode cX5_load 105 = .ok (.getfield 25, 3) := by decide +kernel
theorem dX5_load_108 : decode cX5_load 108 = .ok (.iload_n 1, 1) := by decide +kernel
theorem dX5_load_109 : decode cX5_load 109 = .ok (.baload, 1) := by decide +kernel
theorem dX5_load_110 : decode cX5_load 110 = .ok (.ifCond .ne 7, 3) := by decide +kernel
theorem dX5_load_113 : decode cX5_load 113 = .ok (.iconst 4, 1) := by decide +kernel
theorem dX5_load_114 : decode cX5_load 114 = .ok (.goto 4, 3) := by decide +kernel
theorem dX5_load_117 : decode cX5_load 117 = .ok (.iconst 0, 1) := by decide +kernel
theorem dX5_load_118 : decode cX5_load 118 = .ok (.istore_n 3, 1) := by decide +kernel
theorem dX5_load_119 : decode cX5_load 119 = .ok (.aload_n 0, 1) := by decide +kernel
theorem dX5_load_120 : decode cX5_load 120 = .ok (.iload_n 3, 1) := by decide +kernel
theorem dX5_load_121 : decode cX5_load 121 = .ok (.invokevirtual 93, 3) := by decide +kernel
theorem dX5_load_124 : decode cX5_load 124 = .ok (.ifCond .ne 5, 3) := by decide +kernel
theorem dX5_load_127 : decode cX5_load 127 = .ok (.iconst 0, 1) := by decide +kernel
theorem dX5_load_128 : decode cX5_load 128 = .ok (.ireturn, 1) := by decide +kernel
theorem dX5_load_129 : decode cX5_load 129 = .ok (.aload_n 0, 1) := by decide +kernel
theorem dX5_load_130 : decode cX5_load 130 = .ok (.getfield 29, 3) := by decide +kernel
theorem dX5_load_133 : decode cX5_load 133 = .ok (.iload_n 1, 1) := by decide +kernel
theorem dX5_load_134 : decode cX5_load 134 = .ok (.bipush 108, 2) := by decide +kernel
theorem dX5_load_136 : decode cX5_load 136 = .ok (.castore, 1) := by decide +kernel
theorem dX5_load_137 : decode cX5_load 137 = .ok (.aload_n 0, 1) := by decide +kernel
theorem dX5_load_138 : decode cX5_load 138 = .ok (.getfield 71, 3) := by decide +kernel
theorem dX5_load_141 : decode cX5_load 141 = .ok (.iconst 5, 1) := by decide +kernel
theorem dX5_load_142 : decode cX5_load 142 = .ok (.iload_n 2, 1) := by decide +kernel
theorem dX5_load_143 : decode cX5_load 143 = .ok (.imul, 1) := by decide +kernel
theorem dX5_load_144 : decode cX5_load 144 = .ok (.aload_n 0, 1) := by decide +kernel
theorem dX5_load_145 : decode cX5_load 145 = .ok (.getfield 68, 3) := by decide +kernel
theorem dX5_load_148 : decode cX5_load 148 = .ok (.iload_n 2, 1) := by decide +kernel
theorem dX5_load_149 : decode cX5_load 149 = .ok (.iaload, 1) := by decide +kernel
theorem dX5_load_150 : decode cX5_load 150 = .ok (.iadd, 1) := by decide +kernel
theorem dX5_load_151 : decode cX5_load 151 = .ok (.iload_n 1, 1) := by decide +kernel
theorem dX5_load_152 : decode cX5_load 152 = .ok (.iastore, 1) := by decide +kernel
theorem dX5_load_153 : decode cX5_load 153 = .ok (.aload_n 0, 1) := by decide +kernel
theorem dX5_load_154 : decode cX5_load 154 = .ok (.getfield 68, 3) := by decide +kernel
theorem dX5_load_157 : decode cX5_load 157 = .ok (.iload_n 2, 1) := by decide +kernel
theorem dX5_load_158 : decode cX5_load 158 = .ok (.dup2, 1) := by decide +kernel
theorem dX5_load_159 : decode cX5_load 159 = .ok (.iaload, 1) := by decide +kernel
theorem dX5_load_160 : decode cX5_load 160 = .ok (.iconst 1, 1) := by decide +kernel
theorem dX5_load_161 : decode cX5_load 161 = .ok (.iadd, 1) := by decide +kernel
theorem dX5_load_162 : decode cX5_load 162 = .ok (.iastore, 1) := by decide +kernel
theorem dX5_load_163 : decode cX5_load 163 = .ok (.aload_n 0, 1) := by decide +kernel
theorem dX5_load_164 : decode cX5_load 164 = .ok (.getfield 62, 3) := by decide +kernel
theorem dX5_load_167 : decode cX5_load 167 = .ok (.iload_n 2, 1) := by decide +kernel
theorem dX5_load_168 : decode cX5_load 168 = .ok (.dup2, 1) := by decide +kernel
theorem dX5_load_169 : decode cX5_load 169 = .ok (.iaload, 1) := by decide +kernel
theorem dX5_load_170 : decode cX5_load 170 = .ok (.aload_n 0, 1) := by decide +kernel
theorem dX5_load_171 : decode cX5_load 171 = .ok (.getfield 22, 3) := by decide +kernel
theorem dX5_load_174 : decode cX5_load 174 = .ok (.iload_n 1, 1) := by decide +kernel
theorem dX5_load_175 : decode cX5_load 175 = .ok (.iaload, 1) := by decide +kernel
theorem dX5_load_176 : decode cX5_load 176 = .ok (.isub, 1) := by decide +kernel
theorem dX5_load_177 : decode cX5_load 177 = .ok (.iastore, 1) := by decide +kernel
theorem dX5_load_178 : decode cX5_load 178 = .ok (.aload_n 0, 1) := by decide +kernel
theorem dX5_load_179 : decode cX5_load 179 = .ok (.getfield 62, 3) := by decide +kernel
theorem dX5_load_182 : decode cX5_load 182 = .ok (.iload_n 2, 1) := by decide +kernel
theorem dX5_load_183 : decode cX5_load 183 = .ok (.iaload, 1) := by decide +kernel
theorem dX5_load_184 : decode cX5_load 184 = .ok (.ireturn, 1) := by decide +kernel
theorem dX5_lotOn_0 : decode cX5_lotOn 0 = .ok (.aload_n 0, 1) := by decide +kernel
theorem dX5_lotOn_1 : decode cX5_lotOn 1 = .ok (.iload_n 1, 1) := by decide +kernel
theorem dX5_lotOn_2 : decode cX5_lotOn 2 = .ok (.invokevirtual 166, 3) := by decide +kernel
theorem dX5_lotOn_5 : decode cX5_lotOn 5 = .ok (.ifCond .ne 7, 3) := by decide +kernel
theorem dX5_lotOn_8 : decode cX5_lotOn 8 = .ok (.iconst 1, 1) := by decide +kernel
theorem dX5_lotOn_9 : decode cX5_lotOn 9 = .ok (.goto 4, 3) := by decide +kernel
theorem dX5_lotOn_12 : decode cX5_lotOn 12 = .ok (.iconst 0, 1) := by decide +kernel
theorem dX5_lotOn_13 : decode cX5_lotOn 13 = .ok (.istore_n 3, 1) := by decide +kernel
theorem dX5_lotOn_14 : decode cX5_lotOn 14 = .ok (.iload_n 3, 1) := by decide +kernel
theorem dX5_lotOn_15 : decode cX5_lotOn 15 = .ok (.ifCond .ne 23, 3) := by decide +kernel
theorem dX5_lotOn_18 : decode cX5_lotOn 18 = .ok (.iload_n 2, 1) := by decide +kernel
theorem dX5_lotOn_19 : decode cX5_lotOn 19 = .ok (.iconst 0, 1) := by decide +kernel
theorem dX5_lotOn_20 : decode cX5_lotOn 20 = .ok (.aload_n 0, 1) := by decide +kernel
theorem dX5_lotOn_21 : decode cX5_lotOn 21 = .ok (.getfield 68, 3) := by decide +kernel
theorem dX5_lotOn_24 : decode cX5_lotOn 24 = .ok (.iload_n 1, 1) := by decide +kernel
theorem dX5_lotOn_25 : decode cX5_lotOn 25 = .ok (.iaload, 1) := by decide +kernel
theorem dX5_lotOn_26 : decode cX5_lotOn 26 = .ok (.iconst 1, 1) := by decide +kernel
theorem dX5_lotOn_27 : decode cX5_lotOn 27 = .ok (.isub, 1) := by decide +kernel
theorem dX5_lotOn_28 : decode cX5_lotOn 28 = .ok (.invokestatic 80, 3) := by decide +kernel
theorem dX5_lotOn_31 : decode cX5_lotOn 31 = .ok (.ifCond .ne 7, 3) := by decide +kernel
theorem dX5_lotOn_34 : decode cX5_lotOn 34 = .ok (.iconst 2, 1) := by decide +kernel
theorem dX5_lotOn_35 : decode cX5_lotOn 35 = .ok (.goto 4, 3) := by decide +kernel
theorem dX5_lotOn_38 : decode cX5_lotOn 38 = .ok (.iload_n 3, 1) := by decide +kernel
theorem dX5_lotOn_39 : decode cX5_lotOn 39 = .ok (.istore_n 3, 1) := by decide +kernel
theorem dX5_lotOn_40 : decode cX5_lotOn 40 = .ok (.aload_n 0, 1) := by decide +kernel
theorem dX5_lotOn_41 : decode cX5_lotOn 41 = .ok (.iload_n 3, 1) := by decide +kernel
theorem dX5_lotOn_42 : decode cX5_lotOn 42 = .ok (.invokevirtual 93, 3) := by decide +kernel
theorem dX5_lotOn_45 : decode cX5_lotOn 45 = .ok (.ifCond .eq 16, 3) := by decide +kernel
theorem dX5_lotOn_48 : decode cX5_lotOn 48 = .ok (.aload_n 0, 1) := by decide +kernel
theorem dX5_lotOn_49 : decode cX5_lotOn 49 = .ok (.getfield 71, 3) := by decide +kernel
theorem dX5_lotOn_52 : decode cX5_lotOn 52 = .ok (.iconst 5, 1) := by decide +kernel
theorem dX5_lotOn_53 : decode cX5_lotOn 53 = .ok (.iload_n 1, 1) := by decide +kernel
theorem dX5_lotOn_54 : decode cX5_lotOn 54 = .ok (.imul, 1) := by decide +kernel
theorem dX5_lotOn_55 : decode cX5_lotOn 55 = .ok (.iload_n 2, 1) := by decide +kernel
theorem dX5_lotOn_56 : decode cX5_lotOn 56 = .ok (.iadd, 1) := by decide +kernel
theorem dX5_lotOn_57 : decode cX5_lotOn 57 = .ok (.iaload, 1) := by decide +kernel
theorem dX5_lotOn_58 : decode cX5_lotOn 58 = .ok (.goto 4, 3) := by decide +kernel
theorem dX5_lotOn_61 : decode cX5_lotOn 61 = .ok (.iconst 0, 1) := by decide +kernel
theorem dX5_lotOn_62 : decode cX5_lotOn 62 = .ok (.ireturn, 1) := by decide +kernel
theorem dX5_income_0 : decode cX5_income 0 = .ok (.aload_n 0, 1) := by decide +kernel
theorem dX5_income_1 : decode cX5_income 1 = .ok (.iconst 0, 1) := by decide +kernel
theorem dX5_income_2 : decode cX5_income 2 = .ok (.putfield 74, 3) := by decide +kernel
theorem dX5_income_5 : decode cX5_income 5 = .ok (.aload_n 0, 1) := by decide +kernel
theorem dX5_income_6 : decode cX5_income 6 = .ok (.getfield 127, 3) := by decide +kernel
theorem dX5_income_9 : decode cX5_income 9 = .ok (.lreturn, 1) := by decide +kernel
theorem dX5_incomeByLots_0 : decode cX5_incomeByLots 0 = .ok (.aload_n 0, 1) := by decide +kernel
theorem dX5_incomeByLots_1 : decode cX5_incomeByLots 1 = .ok (.iconst 0, 1) := by decide +kernel
theorem dX5_incomeByLots_2 : decode cX5_incomeByLots 2 = .ok (.putfield 74, 3) := by decide +kernel
theorem dX5_incomeByLots_5 : decode cX5_incomeByLots 5 = .ok (.aload_n 0, 1) := by decide +kernel
theorem dX5_incomeByLots_6 : decode cX5_incomeByLots 6 = .ok (.getfield 127, 3) := by decide +kernel
theorem dX5_incomeByLots_9 : decode cX5_incomeByLots 9 = .ok (.lreturn, 1) := by decide +kernel
theorem dX5_spoiled_0 : decode cX5_spoiled 0 = .ok (.aload_n 0, 1) := by decide +kernel
theorem dX5_spoiled_1 : decode cX5_spoiled 1 = .ok (.iconst 0, 1) := by decide +kernel
theorem dX5_spoiled_2 : decode cX5_spoiled 2 = .ok (.putfield 74, 3) := by decide +kernel
theorem dX5_spoiled_5 : decode cX5_spoiled 5 = .ok (.iconst 0, 1) := by decide +kernel
theorem dX5_spoiled_6 : decode cX5_spoiled 6 = .ok (.istore_n 1, 1) := by decide +kernel
theorem dX5_spoiled_7 : decode cX5_spoiled 7 = .ok (.iconst 0, 1) := by decide +kernel
theorem dX5_spoiled_8 : decode cX5_spoiled 8 = .ok (.istore_n 2, 1) := by decide +kernel
theorem dX5_spoiled_9 : decode cX5_spoiled 9 = .ok (.iload_n 2, 1) := by decide +kernel
theorem dX5_spoiled_10 : decode cX5_spoiled 10 = .ok (.aload_n 0, 1) := by decide +kernel
theorem dX5_spoiled_11 : decode cX5_spoiled 11 = .ok (.getfield 84, 3) := by decide +kernel
theorem dX5_spoiled_14 : decode cX5_spoiled 14 = .ok (.if_icmp .ge 33, 3) := by decide +kernel
theorem dX5_spoiled_17 : decode cX5_spoiled 17 = .ok (.iload_n 1, 1) := by decide +kernel
theorem dX5_spoiled_18 : decode cX5_spoiled 18 = .ok (.aload_n 0, 1) := by decide +kernel
theorem dX5_spoiled_19 : decode cX5_spoiled 19 = .ok (.getfield 29, 3) := by decide +kernel
theorem dX5_spoiled_22 : decode cX5_spoiled 22 = .ok (.iload_n 2, 1) := by decide +kernel
theorem dX5_spoiled_23 : decode cX5_spoiled 23 = .ok (.caload, 1) := by decide +kernel
theorem dX5_spoiled_24 : decode cX5_spoiled 24 = .ok (.bipush 120, 2) := by decide +kernel
theorem dX5_spoiled_26 : decode cX5_spoiled 26 = .ok (.if_icmp .ne 12, 3) := by decide +kernel
theorem dX5_spoiled_29 : decode cX5_spoiled 29 = .ok (.aload_n 0, 1) := by decide +kernel
theorem dX5_spoiled_30 : decode cX5_spoiled 30 = .ok (.getfield 22, 3) := by decide +kernel
theorem dX5_spoiled_33 : decode cX5_spoiled 33 = .ok (.iload_n 2, 1) := by decide +kernel
theorem dX5_spoiled_34 : decode cX5_spoiled 34 = .ok (.iaload, 1) := by decide +kernel
theorem dX5_spoiled_35 : decode cX5_spoiled 35 = .ok (.goto 4, 3) := by decide +kernel
theorem dX5_spoiled_38 : decode cX5_spoiled 38 = .ok (.iconst 0, 1) := by decide +kernel
theorem dX5_spoiled_39 : decode cX5_spoiled 39 = .ok (.iadd, 1) := by decide +kernel
theorem dX5_spoiled_40 : decode cX5_spoiled 40 = .ok (.istore_n 1, 1) := by decide +kernel
theorem dX5_spoiled_41 : decode cX5_spoiled 41 = .ok (.iinc 2 1, 3) := by decide +kernel
theorem dX5_spoiled_44 : decode cX5_spoiled 44 = .ok (.goto (-35), 3) := by decide +kernel
theorem dX5_spoiled_47 : decode cX5_spoiled 47 = .ok (.iload_n 1, 1) := by decide +kernel
theorem dX5_spoiled_48 : decode cX5_spoiled 48 = .ok (.ireturn, 1) := by decide +kernel
theorem dX5_weights_0 : decode cX5_weights 0 = .ok (.iconst 0, 1) := by decide +kernel
theorem dX5_weights_1 : decode cX5_weights 1 = .ok (.istore_n 2, 1) := by decide +kernel
theorem dX5_weights_2 : decode cX5_weights 2 = .ok (.iconst 0, 1) := by decide +kernel
theorem dX5_weights_3 : decode cX5_weights 3 = .ok (.istore_n 3, 1) := by decide +kernel
theorem dX5_weights_4 : decode cX5_weights 4 = .ok (.iload_n 3, 1) := by decide +kernel
theorem dX5_weights_5 : decode cX5_weights 5 = .ok (.aload_n 0, 1) := by decide +kernel
theorem dX5_weights_6 : decode cX5_weights 6 = .ok (.getfield 84, 3) := by decide +kernel
theorem dX5_weights_9 : decode cX5_weights 9 = .ok (.if_icmp .ge 34, 3) := by decide +kernel
theorem dX5_weights_12 : decode cX5_weights 12 = .ok (.iload_n 2, 1) := by decide +kernel
theorem dX5_weights_13 : decode cX5_weights 13 = .ok (.iload_n 1, 1) := by decide +kernel
theorem dX5_weights_14 : decode cX5_weights 14 = .ok (.ifCond .eq 11, 3) := by decide +kernel
theorem dX5_weights_17 : decode cX5_weights 17 = .ok (.aload_n 0, 1) := by decide +kernel
theorem dX5_weights_18 : decode cX5_weights 18 = .ok (.iload_n 3, 1) := by decide +kernel
theorem dX5_weights_19 : decode cX5_weights 19 = .ok (.invokevirtual 169, 3) := by decide +kernel
theorem dX5_weights_22 : decode cX5_weights 22 = .ok (.ifCond .eq 12, 3) := by decide +kernel
theorem dX5_weights_25 : decode cX5_weights 25 = .ok (.aload_n 0, 1) := by decide +kernel
theorem dX5_weights_26 : decode cX5_weights 26 = .ok (.getfield 22, 3) := by decide +kernel
theorem dX5_weights_29 : decode cX5_weights 29 = .ok (.iload_n 3, 1) := by decide +kernel
theorem dX5_weights_30 : decode cX5_weights 30 = .ok (.iaload, 1) := by decide +kernel
theorem dX5_weights_31 : decode cX5_weights 31 = .ok (.goto 4, 3) := by decide +kernel
theorem dX5_weights_34 : decode cX5_weights 34 = .ok (.iconst 0, 1) := by decide +kernel
theorem dX5_weights_35 : decode cX5_weights 35 = .ok (.iadd, 1) := by decide +kernel
theorem dX5_weights_36 : decode cX5_weights 36 = .ok (.istore_n 2, 1) := by decide +kernel
theorem dX5_weights_37 : decode cX5_weights 37 = .ok (.iinc 3 1, 3) := by decide +kernel
theorem dX5_weights_40 : decode cX5_weights 40 = .ok (.goto (-36), 3) := by decide +kernel
theorem dX5_weights_43 : decode cX5_weights 43 = .ok (.iload_n 2, 1) := by decide +kernel
theorem dX5_weights_44 : decode cX5_weights 44 = .ok (.ireturn, 1) := by decide +kernel
theorem dX5_soldShare_0 : decode cX5_soldShare 0 = .ok (.aload_n 0, 1) := by decide +kernel
theorem dX5_soldShare_1 : decode cX5_soldShare 1 = .ok (.aload_n 0, 1) := by decide +kernel
theorem dX5_soldShare_2 : decode cX5_soldShare 2 = .ok (.getfield 84, 3) := by decide +kernel
theorem dX5_soldShare_5 : decode cX5_soldShare 5 = .ok (.ifCond .ne 7, 3) := by decide +kernel
theorem dX5_soldShare_8 : decode cX5_soldShare 8 = .ok (.iconst 1, 1) := by decide +kernel
theorem dX5_soldShare_9 : decode cX5_soldShare 9 = .ok (.goto 4, 3) := by decide +kernel
theorem dX5_soldShare_12 : decode cX5_soldShare 12 = .ok (.iconst 0, 1) := by decide +kernel
theorem dX5_soldShare_13 : decode cX5_soldShare 13 = .ok (.invokevirtual 93, 3) := by decide +kernel
theorem dX5_soldShare_16 : decode cX5_soldShare 16 = .ok (.ifCond .eq 19, 3) := by decide +kernel
theorem dX5_soldShare_19 : decode cX5_soldShare 19 = .ok (.aload_n 0, 1) := by decide +kernel
theorem dX5_soldShare_20 : decode cX5_soldShare 20 = .ok (.iconst 1, 1) := by decide +kernel
theorem dX5_soldShare_21 : decode cX5_soldShare 21 = .ok (.invokevirtual 172, 3) := by decide +kernel
theorem dX5_soldShare_24 : decode cX5_soldShare 24 = .ok (.i2f, 1) := by decide +kernel
theorem dX5_soldShare_25 : decode cX5_soldShare 25 = .ok (.aload_n 0, 1) := by decide +kernel
theorem dX5_soldShare_26 : decode cX5_soldShare 26 = .ok (.iconst 0, 1) := by decide +kernel
theorem dX5_soldShare_27 : decode cX5_soldShare 27 = .ok (.invokevirtual 172, 3) := by decide +kernel
theorem dX5_soldShare_30 : decode cX5_soldShare 30 = .ok (.i2f, 1) := by decide +kernel
theorem dX5_soldShare_31 : decode cX5_soldShare 31 = .ok (.fdiv, 1) := by decide +kernel
theorem dX5_soldShare_32 : decode cX5_soldShare 32 = .ok (.goto 4, 3) := by decide +kernel
theorem dX5_soldShare_35 : decode cX5_soldShare 35 = .ok (.fconst 0, 1) := by decide +kernel
theorem dX5_soldShare_36 : decode cX5_soldShare 36 = .ok (.freturn, 1) := by decide +kernel
theorem dX5_meanPrice_0 : decode cX5_meanPrice 0 = .ok (.aload_n 0, 1) := by decide +kernel
theorem dX5_meanPrice_1 : decode cX5_meanPrice 1 = .ok (.aload_n 0, 1) := by decide +kernel
theorem dX5_meanPrice_2 : decode cX5_meanPrice 2 = .ok (.iconst 1, 1) := by decide +kernel
theorem dX5_meanPrice_3 : decode cX5_meanPrice 3 = .ok (.invokevirtual 172, 3) := by decide +kernel
theorem dX5_meanPrice_6 : decode cX5_meanPrice 6 = .ok (.ifCond .ne 7, 3) := by decide +kernel
theorem dX5_meanPrice_9 : decode cX5_meanPrice 9 = .ok (.iconst 1, 1) := by decide +kernel
theorem dX5_meanPrice_10 : decode cX5_meanPrice 10 = .ok (.goto 4, 3) := by decide +kernel
theorem dX5_meanPrice_13 : decode cX5_meanPrice 13 = .ok (.iconst 0, 1) := by decide +kernel
theorem dX5_meanPrice_14 : decode cX5_meanPrice 14 = .ok (.invokevirtual 93, 3) := by decide +kernel
theorem dX5_meanPrice_17 : decode cX5_meanPrice 17 = .ok (.ifCond .eq 18, 3) := by decide +kernel
theorem dX5_meanPrice_20 : decode cX5_meanPrice 20 = .ok (.aload_n 0, 1) := by decide +kernel
theorem dX5_meanPrice_21 : decode cX5_meanPrice 21 = .ok (.getfield 127, 3) := by decide +kernel
theorem dX5_meanPrice_24 : decode cX5_meanPrice 24 = .ok (.l2d, 1) := by decide +kernel
theorem dX5_meanPrice_25 : decode cX5_meanPrice 25 = .ok (.aload_n 0, 1) := by decide +kernel
theorem dX5_meanPrice_26 : decode cX5_meanPrice 26 = .ok (.iconst 1, 1) := by decide +kernel
theorem dX5_meanPrice_27 : decode cX5_meanPrice 27 = .ok (.invokevirtual 172, 3) := by decide +kernel
theorem dX5_meanPrice_30 : decode cX5_meanPrice 30 = .ok (.i2d, 1) := by decide +kernel
theorem dX5_meanPrice_31 : decode cX5_meanPrice 31 = .ok (.ddiv, 1) := by decide +kernel
theorem dX5_meanPrice_32 : decode cX5_meanPrice 32 = .ok (.goto 4, 3) := by decide +kernel
theorem dX5_meanPrice_35 : decode cX5_meanPrice 35 = .ok (.dconst 0, 1) := by decide +kernel
theorem dX5_meanPrice_36 : decode cX5_meanPrice 36 = .ok (.dreturn, 1) := by decide +kernel
theorem dX5_meanBits_0 : decode cX5_meanBits 0 = .ok (.aload_n 0, 1) := by decide +kernel
theorem dX5_meanBits_1 : decode cX5_meanBits 1 = .ok (.aload_n 0, 1) := by decide +kernel
theorem dX5_meanBits_2 : decode cX5_meanBits 2 = .ok (.iconst 1, 1) := by decide +kernel
theorem dX5_meanBits_3 : decode cX5_meanBits 3 = .ok (.invokevirtual 172, 3) := by decide +kernel
theorem dX5_meanBits_6 : decode cX5_meanBits 6 = .ok (.ifCond .ne 7, 3) := by decide +kernel
theorem dX5_meanBits_9 : decode cX5_meanBits 9 = .ok (.iconst 1, 1) := by decide +kernel
theorem dX5_meanBits_10 : decode cX5_meanBits 10 = .ok (.goto 4, 3) := by decide +kernel
theorem dX5_meanBits_13 : decode cX5_meanBits 13 = .ok (.iconst 0, 1) := by decide +kernel
theorem dX5_meanBits_14 : decode cX5_meanBits 14 = .ok (.invokevirtual 93, 3) := by decide +kernel
theorem dX5_meanBits_17 : decode cX5_meanBits 17 = .ok (.ifCond .eq 21, 3) := by decide +kernel
theorem dX5_meanBits_20 : decode cX5_meanBits 20 = .ok (.aload_n 0, 1) := by decide +kernel
theorem dX5_meanBits_21 : decode cX5_meanBits 21 = .ok (.getfield 127, 3) := by decide +kernel
theorem dX5_meanBits_24 : decode cX5_meanBits 24 = .ok (.l2d, 1) := by decide +kernel
theorem dX5_meanBits_25 : decode cX5_meanBits 25 = .ok (.aload_n 0, 1) := by decide +kernel
theorem dX5_meanBits_26 : decode cX5_meanBits 26 = .ok (.iconst 1, 1) := by decide +kernel
theorem dX5_meanBits_27 : decode cX5_meanBits 27 = .ok (.invokevirtual 172, 3) := by decide +kernel
theorem dX5_meanBits_30 : decode cX5_meanBits 30 = .ok (.i2d, 1) := by decide +kernel
theorem dX5_meanBits_31 : decode cX5_meanBits 31 = .ok (.ddiv, 1) := by decide +kernel
theorem dX5_meanBits_32 : decode cX5_meanBits 32 = .ok (.invokestatic 176, 3) := by decide +kernel
theorem dX5_meanBits_35 : decode cX5_meanBits 35 = .ok (.goto 4, 3) := by decide +kernel
theorem dX5_meanBits_38 : decode cX5_meanBits 38 = .ok (.lconst 0, 1) := by decide +kernel
theorem dX5_meanBits_39 : decode cX5_meanBits 39 = .ok (.lreturn, 1) := by decide +kernel
theorem dX5_isSound_0 : decode cX5_isSound 0 = .ok (.aload_n 0, 1) := by decide +kernel
theorem dX5_isSound_1 : decode cX5_isSound 1 = .ok (.iconst 0, 1) := by decide +kernel
theorem dX5_isSound_2 : decode cX5_isSound 2 = .ok (.putfield 74, 3) := by decide +kernel
theorem dX5_isSound_5 : decode cX5_isSound 5 = .ok (.iconst 1, 1) := by decide +kernel
theorem dX5_isSound_6 : decode cX5_isSound 6 = .ok (.ireturn, 1) := by decide +kernel
theorem dJx00060_init_a7421_0 : decode cJx00060_init_a7421 0 = .ok (.aload_n 0, 1) := by decide +kernel
theorem dJx00060_init_a7421_1 : decode cJx00060_init_a7421 1 = .ok (.aload_n 1, 1) := by decide +kernel
theorem dJx00060_init_a7421_2 : decode cJx00060_init_a7421 2 = .ok (.invokespecial 7, 3) := by decide +kernel
theorem dJx00060_init_a7421_5 : decode cJx00060_init_a7421 5 = .ok (.return_, 1) := by decide +kernel
theorem dJxe99ae_isNaN_b9ae7_0 : decode cJxe99ae_isNaN_b9ae7 0 = .ok (.dload_n 0, 1) := by decide +kernel
theorem dJxe99ae_isNaN_b9ae7_1 : decode cJxe99ae_isNaN_b9ae7 1 = .ok (.dload_n 0, 1) := by decide +kernel
theorem dJxe99ae_isNaN_b9ae7_2 : decode cJxe99ae_isNaN_b9ae7 2 = .ok (.dcmp .l, 1) := by decide +kernel
theorem dJxe99ae_isNaN_b9ae7_3 : decode cJxe99ae_isNaN_b9ae7 3 = .ok (.ifCond .eq 7, 3) := by decide +kernel
theorem dJxe99ae_isNaN_b9ae7_6 : decode cJxe99ae_isNaN_b9ae7 6 = .ok (.iconst 1, 1) := by decide +kernel
theorem dJxe99ae_isNaN_b9ae7_7 : decode cJxe99ae_isNaN_b9ae7 7 = .ok (.goto 4, 3) := by decide +kernel
theorem dJxe99ae_isNaN_b9ae7_10 : decode cJxe99ae_isNaN_b9ae7 10 = .ok (.iconst 0, 1) := by decide +kernel
theorem dJxe99ae_isNaN_b9ae7_11 : decode cJxe99ae_isNaN_b9ae7 11 = .ok (.ireturn, 1) := by decide +kernel
theorem dJxe99ae_doubleToLongBits_ccdee_0 : decode cJxe99ae_doubleToLongBits_ccdee 0 = .ok (.dload_n 0, 1) := by decide +kernel
theorem dJxe99ae_doubleToLongBits_ccdee_1 : decode cJxe99ae_doubleToLongBits_ccdee 1 = .ok (.invokestatic 122, 3) := by decide +kernel
theorem dJxe99ae_doubleToLongBits_ccdee_4 : decode cJxe99ae_doubleToLongBits_ccdee 4 = .ok (.ifCond .ne 8, 3) := by decide +kernel
theorem dJxe99ae_doubleToLongBits_ccdee_7 : decode cJxe99ae_doubleToLongBits_ccdee 7 = .ok (.dload_n 0, 1) := by decide +kernel
theorem dJxe99ae_doubleToLongBits_ccdee_8 : decode cJxe99ae_doubleToLongBits_ccdee 8 = .ok (.invokestatic 134, 3) := by decide +kernel
theorem dJxe99ae_doubleToLongBits_ccdee_11 : decode cJxe99ae_doubleToLongBits_ccdee 11 = .ok (.lreturn, 1) := by decide +kernel
theorem dJxe99ae_doubleToLongBits_ccdee_12 : decode cJxe99ae_doubleToLongBits_ccdee 12 = .ok (.ldc2_w 137, 3) := by decide +kernel
theorem dJxe99ae_doubleToLongBits_ccdee_15 : decode cJxe99ae_doubleToLongBits_ccdee 15 = .ok (.lreturn, 1) := by decide +kernel
theorem dJxf58ca_isNaN_12338_0 : decode cJxf58ca_isNaN_12338 0 = .ok (.fload_n 0, 1) := by decide +kernel
theorem dJxf58ca_isNaN_12338_1 : decode cJxf58ca_isNaN_12338 1 = .ok (.fload_n 0, 1) := by decide +kernel
theorem dJxf58ca_isNaN_12338_2 : decode cJxf58ca_isNaN_12338 2 = .ok (.fcmp .l, 1) := by decide +kernel
theorem dJxf58ca_isNaN_12338_3 : decode cJxf58ca_isNaN_12338 3 = .ok (.ifCond .eq 7, 3) := by decide +kernel
theorem dJxf58ca_isNaN_12338_6 : decode cJxf58ca_isNaN_12338 6 = .ok (.iconst 1, 1) := by decide +kernel
theorem dJxf58ca_isNaN_12338_7 : decode cJxf58ca_isNaN_12338 7 = .ok (.goto 4, 3) := by decide +kernel
theorem dJxf58ca_isNaN_12338_10 : decode cJxf58ca_isNaN_12338 10 = .ok (.iconst 0, 1) := by decide +kernel
theorem dJxf58ca_isNaN_12338_11 : decode cJxf58ca_isNaN_12338 11 = .ok (.ireturn, 1) := by decide +kernel
theorem dJxf58ca_floatToIntBits_5c35a_0 : decode cJxf58ca_floatToIntBits_5c35a 0 = .ok (.fload_n 0, 1) := by decide +kernel
theorem dJxf58ca_floatToIntBits_5c35a_1 : decode cJxf58ca_floatToIntBits_5c35a 1 = .ok (.invokestatic 59, 3) := by decide +kernel
theorem dJxf58ca_floatToIntBits_5c35a_4 : decode cJxf58ca_floatToIntBits_5c35a 4 = .ok (.ifCond .ne 8, 3) := by decide +kernel
theorem dJxf58ca_floatToIntBits_5c35a_7 : decode cJxf58ca_floatToIntBits_5c35a 7 = .ok (.fload_n 0, 1) := by decide +kernel
theorem dJxf58ca_floatToIntBits_5c35a_8 : decode cJxf58ca_floatToIntBits_5c35a 8 = .ok (.invokestatic 74, 3) := by decide +kernel
theorem dJxf58ca_floatToIntBits_5c35a_11 : decode cJxf58ca_floatToIntBits_5c35a 11 = .ok (.ireturn, 1) := by decide +kernel
theorem dJxf58ca_floatToIntBits_5c35a_12 : decode cJxf58ca_floatToIntBits_5c35a 12 = .ok (.ldc 77, 2) := by decide +kernel
theorem dJxf58ca_floatToIntBits_5c35a_14 : decode cJxf58ca_floatToIntBits_5c35a 14 = .ok (.ireturn, 1) := by decide +kernel
theorem dJ9_max_7cf53_0 : decode cJ9_max_7cf53 0 = .ok (.iload_n 0, 1) := by decide +kernel
theorem dJ9_max_7cf53_1 : decode cJ9_max_7cf53 1 = .ok (.iload_n 1, 1) := by decide +kernel
theorem dJ9_max_7cf53_2 : decode cJ9_max_7cf53 2 = .ok (.if_icmp .lt 7, 3) := by decide +kernel
theorem dJ9_max_7cf53_5 : decode cJ9_max_7cf53 5 = .ok (.iload_n 0, 1) := by decide +kernel
theorem dJ9_max_7cf53_6 : decode cJ9_max_7cf53 6 = .ok (.goto 4, 3) := by decide +kernel
theorem dJ9_max_7cf53_9 : decode cJ9_max_7cf53 9 = .ok (.iload_n 1, 1) := by decide +kernel
theorem dJ9_max_7cf53_10 : decode cJ9_max_7cf53 10 = .ok (.ireturn, 1) := by decide +kernel
theorem dJ9_min_7cf53_0 : decode cJ9_min_7cf53 0 = .ok (.iload_n 0, 1) := by decide +kernel
theorem dJ9_min_7cf53_1 : decode cJ9_min_7cf53 1 = .ok (.iload_n 1, 1) := by decide +kernel
theorem dJ9_min_7cf53_2 : decode cJ9_min_7cf53 2 = .ok (.if_icmp .gt 7, 3) := by decide +kernel
theorem dJ9_min_7cf53_5 : decode cJ9_min_7cf53 5 = .ok (.iload_n 0, 1) := by decide +kernel
theorem dJ9_min_7cf53_6 : decode cJ9_min_7cf53 6 = .ok (.goto 4, 3) := by decide +kernel
theorem dJ9_min_7cf53_9 : decode cJ9_min_7cf53 9 = .ok (.iload_n 1, 1) := by decide +kernel
theorem dJ9_min_7cf53_10 : decode cJ9_min_7cf53 10 = .ok (.ireturn, 1) := by decide +kernel
end
section
/-! The one-world layer: every method's contract has the whole world as a list; a call passes it and gets it back. -/
section
theorem g_V {own : String} {idx : Nat} {C : String} {y : MethodName} {cc : ByteArray} {n : Nat} {ret : Option FieldType} (h1 : Cond.methodLink own idx y ∈ LW) (h2 : Cond.instanceMethod y ∈ LW) (h3 : Cond.selects C y y ∈ LW) (h4 : Cond.initialized C ∈ LW) (h5 : Cond.code y cc n ret ∈ LW) : GoodIn LW (wsV own idx C y (.code y cc n ret :: LW)) := by
  intro w hw
  have : w ∈ LW := by
    unfold wsV at hw
    simp only [List.cons_append, List.nil_append, List.mem_cons] at hw
    rcases hw with rfl | rfl | rfl | rfl | rfl | h <;> assumption
  exact ⟨this, lw_good w this⟩
theorem g_S {own : String} {idx : Nat} {y : MethodName} {cc : ByteArray} {n : Nat} {ret : Option FieldType} (h1 : Cond.methodLink own idx y ∈ LW) (h2 : Cond.static y ∈ LW) (h4 : Cond.initialized y.cls ∈ LW) (h5 : Cond.code y cc n ret ∈ LW) : GoodIn LW (va_wsS own idx y (.code y cc n ret :: LW)) := by
  intro w hw
  have : w ∈ LW := by
    unfold va_wsS at hw
    simp only [List.cons_append, List.nil_append, List.mem_cons] at hw
    rcases hw with rfl | rfl | rfl | rfl | h <;> assumption
  exact ⟨this, lw_good w this⟩
theorem g_I {y : MethodName} {cc : ByteArray} {n : Nat} {ret : Option FieldType} (h5 : Cond.code y cc n ret ∈ LW) : GoodIn LW (.code y cc n ret :: LW) := by
  intro w hw
  have : w ∈ LW := by
    simp only [List.mem_cons] at hw
    rcases hw with rfl | h <;> assumption
  exact ⟨this, lw_good w this⟩
theorem g_SW {own : String} {idx : Nat} {y : MethodName} {cc : ByteArray} {n : Nat} {ret : Option FieldType} {hh : List (Nat × Nat × Nat × Nat)} (h1 : Cond.methodLink own idx y ∈ LW) (h2 : Cond.static y ∈ LW) (h4 : Cond.initialized y.cls ∈ LW) (h5 : Cond.codeWith y cc n ret hh ∈ LW) : GoodIn LW (va_wsS own idx y (.codeWith y cc n ret hh :: LW)) := by
  intro w hw
  have : w ∈ LW := by
    unfold va_wsS at hw
    simp only [List.cons_append, List.nil_append, List.mem_cons] at hw
    rcases hw with rfl | rfl | rfl | rfl | h <;> assumption
  exact ⟨this, lw_good w this⟩
end
/-- the array classes, by number -/
abbrev tyL (cA : Nat → ClassId) : List (ClassId × FieldType) := [(cA 0, .int), (cA 1, .boolean), (cA 2, .char), (cA 3, .float), (cA 4, .long), (cA 5, .double), (cA 6, .object RX0), (cA 7, .object RX2), (cA 8, .object RX1), (cA 9, .object RX3)]
/-- a method's start: the world in the heap -/
def Pw (D : va_G) (cA : Nat → ClassId) (sz : Nat) (ws : va_W) (U : State) : Prop := U.heap.size = sz ∧ va_P D vwCl ws U.heap ∧ va_K D vwCl (tyL cA) U ∧ va_D (fun _ => True) ws
/-- its end -/
def Qw (D : va_G) (ws0 : va_W) (sz : Nat) (ws : va_W) (t : State) : Prop := va_P D vwCl ws t.heap ∧ va_D (va_A ws0 sz) ws
/-- in between -/
def Cw (D : va_G) (cA : Nat → ClassId) (s : State) (A : Nat → Prop) (ws : va_W) (H : Heap) (locs : List Loc) : Prop := va_K D vwCl (tyL cA) s ∧ va_P D vwCl ws H ∧ va_D A ws ∧ va_S A s.heap H locs ∧ ∀ q : Nat, s.heap.size ≤ q → A q
/-- what stands fast in a body -/
def Fx (p : Program) (s : State) (m : MethodId) (args : Array Value) (meth : Method) (c : Code) (y : MethodName) (cc : ByteArray) (nL : Nat) (ret : Option FieldType) : Prop := p.tables.exec = Jvm.exec ∧ c.code = cc ∧ meth.sig.returnType = ret ∧ c.maxLocals = nL ∧ s.vm.findClass y.cls = some m.cls ∧ (∀ w ∈ LW, w.before args s = true) ∧ meth.locks = false ∧ meth.name = y.name
theorem Pw.blind {D : va_G} {cA : Nat → ClassId} {sz : Nat} {ws : va_W} {av : List Value} : FrameBlind (va_Pc av (Pw D cA sz ws)) := fun a U g mk q => by
  obtain ⟨q0, q1, q2, q3, q4⟩ := q
  exact ⟨q0, q1, q2, va_K.moved (u := U) (U := U.calling g mk a) (Vm.Alike.refl U.vm) q3, q4⟩
theorem Cw.entry {D : va_G} {cA : Nat → ClassId} {s : State} {ws : va_W} {sz : Nat} (h : Pw D cA sz ws s) : sz = s.heap.size ∧ Cw D cA s (va_A ws s.heap.size) ws s.heap [] := ⟨h.1.symm, h.2.2.1, h.2.1, h.2.2.2.self, va_S.rf, fun _ h => Or.inr h⟩
theorem Cw.pre {D : va_G} {cA : Nat → ClassId} {s : State} {A : Nat → Prop} {ws : va_W} {H : Heap} {locs : List Loc} (h : Cw D cA s A ws H locs) : ∀ U : State, U.heap = H → s.WarmedH U.vm → Pw D cA H.size ws U := fun U hU hW => ⟨by rw [hU], by rw [hU]; exact h.2.1, va_K.moved hW.alike h.1, h.2.2.1.weaken (fun _ _ _ _ => trivial)⟩
theorem Cw.free {D : va_G} {cA : Nat → ClassId} {s : State} {A : Nat → Prop} {ws : va_W} {H : Heap} {locs : List Loc} (h : Cw D cA s A ws H locs) : ∀ q, va_A ws H.size q → A q := by
  intro q hq
  rcases hq with ⟨k, e, hk⟩ | hq
  · exact h.2.2.1.2 k (q, e) hk
  · exact h.2.2.2.2 q (Nat.le_trans h.2.2.2.1.1 hq)
theorem Cw.back {D : va_G} {cA : Nat → ClassId} {s : State} {A : Nat → Prop} {ws ws1 : va_W} {H H1 : Heap} {locs locs1 : List Loc} {t : State} (h : Cw D cA s A ws H locs) (hQ : Qw D ws H.size ws1 t) (ht : t.heap = H1) (hS : va_S A s.heap H1 locs1) : Cw D cA s A ws1 H1 locs1 := ⟨h.1, by rw [← ht]; exact hQ.1, hQ.2.weaken (fun _ q _ hq => h.free q.1 hq), hS, h.2.2.2.2⟩
theorem Cw.mk {D : va_G} {cA : Nat → ClassId} {s : State} {A : Nat → Prop} {ws ws1 : va_W} {H H1 : Heap} {locs locs1 : List Loc} (h : Cw D cA s A ws H locs) (hP : va_P D vwCl ws1 H1) (hD : va_D A ws1) (hS : va_S A s.heap H1 locs1) : Cw D cA s A ws1 H1 locs1 := ⟨h.1, hP, hD, hS, h.2.2.2.2⟩
/-- contracts: an int, nothing, a long, a float, a double, a reference or null -/
def MetI (l : Launch) (y : MethodName) (wy : List Cond) (rm : Room) (D : va_G) (cA : Nat → ClassId) (ws : va_W) (as : List Value) {S : Type} (post : Int32 → S → Prop) (wo : S → va_W) (mc ms : Nat) : Prop := ∀ sz : Nat, Met l y wy rm (va_Pc as (Pw D cA sz ws)) (va_Qi post (fun u t => Qw D ws sz (wo u) t) (va_A ws sz)) mc ms (va_A ws sz)
def MetV (l : Launch) (y : MethodName) (wy : List Cond) (rm : Room) (D : va_G) (cA : Nat → ClassId) (ws : va_W) (as : List Value) {S : Type} (post : S → Prop) (wo : S → va_W) (mc ms : Nat) : Prop := ∀ sz : Nat, Met l y wy rm (va_Pc as (Pw D cA sz ws)) (va_Qv post (fun u t => Qw D ws sz (wo u) t) (va_A ws sz)) mc ms (va_A ws sz)
def MetL (l : Launch) (y : MethodName) (wy : List Cond) (rm : Room) (D : va_G) (cA : Nat → ClassId) (ws : va_W) (as : List Value) {S : Type} (post : Int64 → S → Prop) (wo : S → va_W) (mc ms : Nat) : Prop := ∀ sz : Nat, Met l y wy rm (va_Pc as (Pw D cA sz ws)) (va_Ql post (fun u t => Qw D ws sz (wo u) t) (va_A ws sz)) mc ms (va_A ws sz)
def MetF (l : Launch) (y : MethodName) (wy : List Cond) (rm : Room) (D : va_G) (cA : Nat → ClassId) (ws : va_W) (as : List Value) {S : Type} (post : UInt32 → S → Prop) (wo : S → va_W) (mc ms : Nat) : Prop := ∀ sz : Nat, Met l y wy rm (va_Pc as (Pw D cA sz ws)) (va_Qf post (fun u t => Qw D ws sz (wo u) t) (va_A ws sz)) mc ms (va_A ws sz)
def MetB (l : Launch) (y : MethodName) (wy : List Cond) (rm : Room) (D : va_G) (cA : Nat → ClassId) (ws : va_W) (as : List Value) {S : Type} (post : UInt64 → S → Prop) (wo : S → va_W) (mc ms : Nat) : Prop := ∀ sz : Nat, Met l y wy rm (va_Pc as (Pw D cA sz ws)) (va_Qd post (fun u t => Qw D ws sz (wo u) t) (va_A ws sz)) mc ms (va_A ws sz)
def MetR (l : Launch) (y : MethodName) (wy : List Cond) (rm : Room) (D : va_G) (cA : Nat → ClassId) (ws : va_W) (as : List Value) {S : Type} (post : Option Nat → S → Prop) (wo : S → va_W) (mc ms : Nat) : Prop := ∀ sz : Nat, Met l y wy rm (va_Pc as (Pw D cA sz ws)) (va_Qq post (fun u t => Qw D ws sz (wo u) t) (va_A ws sz)) mc ms (va_A ws sz)
/-- a body, with what it may use at its start -/
theorem k_body {l : Launch} {y : MethodName} {cc : ByteArray} {nL : Nat} {ret : Option FieldType} {rm : Room} {D : va_G} {cA : Nat → ClassId} {ws : va_W} {as : List Value} {Qc : Nat → Array Value → State → Outcome → State → Prop} {mc ms : Nat} (hy : plainName y.cls = true) (hn : (lg_sl as).length ≤ nL)
    (body : ∀ (p : Program) (e : Env) (s : State) (m : MethodId) (args : Array Value) (below : List Frame) (meth : Method) (c : Code) (ls : Array Slot), Fx p s m args meth c y cc nL ret → Cw D cA s (va_A ws s.heap.size) ws s.heap [] → lv_has ls nL (lv_args 0 as) →
      W p l e rm s m args below meth c s.heap [] 0 0 (MQ below (Qc s.heap.size) args s mc ms (va_A ws s.heap.size)) (F0 m 0 ls [])) :
    ∀ sz : Nat, Met l y (.code y cc nL ret :: LW) rm (va_Pc as (Pw D cA sz ws)) (Qc sz) mc ms (va_A ws sz) := by
  intro sz
  refine Met.ofW (cc := cc) (maxL := nL) (ret := ret) hy rfl ?_
  intro p e s m args below meth c s₁ B hml hv
  obtain ⟨rfl, hv⟩ := hv
  obtain ⟨rfl, hC⟩ := Cw.entry hv
  have hts := atoms_spec (ws := .code y cc nL ret :: LW) B.pre
  have hl := lv_entry as (n := nL) hn
  rw [lg_entry_eq]
  exact body p e s m _ below meth c _ ⟨B.exec, B.bytes, B.returns, hml, findClass_of_methodNamed B.named, fun w h => hts w (List.mem_cons_of_mem _ h), B.notSynchronized, (name_of_methodNamed B.named B.method).1⟩ hC hl
section KIT
variable {p : Program} {l : Launch} {e : Env} {R : Room} {s : State} {m : MethodId} {args : Array Value} {below : List Frame} {meth : Method} {c : Code} {H : Heap} {locs : List Loc} {cells slots : Nat} {Q : State → Prop}
variable {cc : ByteArray} {pc : Nat} {ls : Array Slot} {rest st : List Value} {D : va_G} {cA : Nat → ClassId} {A : Nat → Prop} {ws ws0 : va_W} {y0 : MethodName} {nL : Nat} {ret : Option FieldType} {S : Type} {mc ms mc0 ms0 : Nat}
-- ends
theorem k_iret {post : Int32 → S → Prop} {wo : S → va_W} {v : Int32} (u : S) (F : Fx p s m args meth c y0 cc nL (some .int)) (hW : Cw D cA s (va_A ws0 s.heap.size) (wo u) H locs) (hp : post v u) (hdg : decode cc pc = .ok (.ireturn, 1)) (hc : cells ≤ mc) (hs : slots ≤ ms) : W p l e R s m args below meth c H locs cells slots (MQ below (va_Qi post (fun u t => Qw D ws0 s.heap.size (wo u) t) (va_A ws0 s.heap.size)) args s mc ms (va_A ws0 s.heap.size)) (F0 m pc ls [.int v]) := by
  refine W.widen (k := mc) (n := ms) hc hs ?_
  exact W.iret (v := v) F.1 F.2.1 F.2.2.1 (fun t ht _ => ⟨⟨v, u, rfl, hp, ⟨by rw [ht]; exact hW.2.1, hW.2.2.1⟩⟩, hW.2.2.2.1.F ht⟩) hW.2.2.2.1.2.2 hdg F.2.2.2.2.2.2.1
theorem k_zret {post : Int32 → S → Prop} {wo : S → va_W} {v : Int32} {ty : FieldType} (u : S) (F : Fx p s m args meth c y0 cc nL (some ty)) (hn : narrow ty (.int v) = .int v) (hW : Cw D cA s (va_A ws0 s.heap.size) (wo u) H locs) (hp : post v u) (hdg : decode cc pc = .ok (.ireturn, 1)) (hc : cells ≤ mc) (hs : slots ≤ ms) : W p l e R s m args below meth c H locs cells slots (MQ below (va_Qi post (fun u t => Qw D ws0 s.heap.size (wo u) t) (va_A ws0 s.heap.size)) args s mc ms (va_A ws0 s.heap.size)) (F0 m pc ls [.int v]) := by
  refine W.widen (k := mc) (n := ms) hc hs ?_
  exact W.zret (v := v) F.1 F.2.1 F.2.2.1 hn (fun t ht _ => ⟨⟨v, u, rfl, hp, ⟨by rw [ht]; exact hW.2.1, hW.2.2.1⟩⟩, hW.2.2.2.1.F ht⟩) hW.2.2.2.1.2.2 hdg F.2.2.2.2.2.2.1
theorem k_vret {post : S → Prop} {wo : S → va_W} (u : S) (F : Fx p s m args meth c y0 cc nL none) (hW : Cw D cA s (va_A ws0 s.heap.size) (wo u) H locs) (hp : post u) (hdg : decode cc pc = .ok (.return_, 1)) (hc : cells ≤ mc) (hs : slots ≤ ms) : W p l e R s m args below meth c H locs cells slots (MQ below (va_Qv post (fun u t => Qw D ws0 s.heap.size (wo u) t) (va_A ws0 s.heap.size)) args s mc ms (va_A ws0 s.heap.size)) (F0 m pc ls []) := by
  refine W.widen (k := mc) (n := ms) hc hs ?_
  exact W.vret F.1 F.2.1 F.2.2.1 (fun t ht _ => ⟨⟨u, rfl, hp, ⟨by rw [ht]; exact hW.2.1, hW.2.2.1⟩⟩, hW.2.2.2.1.F ht⟩) hW.2.2.2.1.2.2 hdg F.2.2.2.2.2.2.1
-- calls: virtual, static; the answer an int
theorem k_callVi {post : Int32 → S → Prop} {wo : S → va_W} {own C : String} {idx ny ci n q0 : Nat} {y : MethodName} {cy : ByteArray} {ry : Option FieldType} {rm : Room} {b : Nat} {as : List Value} {q : vw_C} {fs : List Value} (F : Fx p s m args meth c y0 cc nL ret) (hW : Cw D cA s A ws H locs) (hM : MetI l y (.code y cy ny ry :: LW) rm D cA ws (.ref b :: as) post wo mc ms) (hown : y0.cls = own) (h1 : Cond.methodLink own idx y ∈ LW) (h2 : Cond.instanceMethod y ∈ LW) (h3 : Cond.selects C y y ∈ LW) (h4 : Cond.initialized C ∈ LW) (h5 : Cond.code y cy ny ry ∈ LW)
    (hd : y.cls = C ∧ y.cls ≠ "java/lang/invoke/MethodHandle" ∧ y.cls ≠ "java/lang/invoke/VarHandle" ∧ (parseMethodDescriptor y.desc).map (fun d => d.parameters.length) = some n) (hrc : rm.cells = mc) (hrs : rm.slots = ms) (hR : rm.frames + 1 ≤ R.frames ∧ 8 + (ny + 11) + rm.locals ≤ R.locals)
    (hc0 : vwCl[ci]? = some q) (hqC : q.1 = C) (he : ws[q0]? = some (b, .inr (ci, fs))) (hn : as.length = n) (hst : st = as.reverse ++ .ref b :: rest) (hsz : ls.size = nL) (hroom : (rest.map fun v => v.category).sum ≤ 8) (hdg : decode cc pc = .ok (.invokevirtual idx, 3)) (hf : cells + mc ≤ R.cells ∧ slots + ms ≤ R.slots)
    (kk : ∀ (r : Int32) (u : S) (H1 : Heap) (locs1 : List Loc), post r u → Cw D cA s A (wo u) H1 locs1 → W p l e R s m args below meth c H1 locs1 (cells + mc) (slots + ms) Q (F0 m (pc + 3) ls (.int r :: rest))) : W p l e R s m args below meth c H locs cells slots Q (F0 m pc ls st) := by
  subst hst
  refine va_calli (va_runV (As := as) (rest := rest) (C := C) (own := own) ⟨F.1, F.2.1, F.2.2.2.1, by rw [← hown]; exact F.2.2.2.2.1, F.2.2.2.2.2.1⟩ (hM H.size) (cwV n F.2.2.2.2.2.1 (g_V h1 h2 h3 h4 h5) rfl hrc hrs hd hR) ⟨Pw.blind, by rw [← hqC]; exact va_recv hW.1 hW.2.1 (ci := ci) (q0 := q0) hc0 he, fun U hU hWm => ⟨rfl, hW.pre U hU hWm⟩⟩ rfl hn hsz rfl (lv_room hroom) hdg hf) hW.2.2.2.1 (fun q _ h => hW.free q h) (fun q h => hW.free q h) (fun r u t H1 locs1 ht hvm hw hB hz1 hk1 hS => ?_)
  exact kk r u H1 locs1 hw (hW.back hB ht hS)
theorem k_callSi {post : Int32 → S → Prop} {wo : S → va_W} {own : String} {idx ny n : Nat} {y : MethodName} {cy : ByteArray} {ry : Option FieldType} {rm : Room} {as : List Value} (F : Fx p s m args meth c y0 cc nL ret) (hW : Cw D cA s A ws H locs) (hM : MetI l y (.code y cy ny ry :: LW) rm D cA ws as post wo mc ms) (hown : y0.cls = own) (h1 : Cond.methodLink own idx y ∈ LW) (h2 : Cond.static y ∈ LW) (h4 : Cond.initialized y.cls ∈ LW) (h5 : Cond.code y cy ny ry ∈ LW)
    (hd : y.cls ≠ "java/lang/invoke/MethodHandle" ∧ y.cls ≠ "java/lang/invoke/VarHandle" ∧ (parseMethodDescriptor y.desc).map (fun d => d.parameters.length) = some n) (hrc : rm.cells = mc) (hrs : rm.slots = ms) (hR : rm.frames + 1 ≤ R.frames ∧ 8 + (ny + 11) + rm.locals ≤ R.locals)
    (hn : as.length = n) (hst : st = as.reverse ++ rest) (hsz : ls.size = nL) (hroom : (rest.map fun v => v.category).sum ≤ 8) (hdg : decode cc pc = .ok (.invokestatic idx, 3)) (hf : cells + mc ≤ R.cells ∧ slots + ms ≤ R.slots)
    (kk : ∀ (r : Int32) (u : S) (H1 : Heap) (locs1 : List Loc), post r u → Cw D cA s A (wo u) H1 locs1 → W p l e R s m args below meth c H1 locs1 (cells + mc) (slots + ms) Q (F0 m (pc + 3) ls (.int r :: rest))) : W p l e R s m args below meth c H locs cells slots Q (F0 m pc ls st) := by
  subst hst
  refine va_calli (va_runS (As := as) (rest := rest) (own := own) ⟨F.1, F.2.1, F.2.2.2.1, by rw [← hown]; exact F.2.2.2.2.1, F.2.2.2.2.2.1⟩ (hM H.size) (va_cwS n F.2.2.2.2.2.1 (g_S h1 h2 h4 h5) rfl hrc hrs hd hR) ⟨Pw.blind, fun U hU hWm => ⟨rfl, hW.pre U hU hWm⟩⟩ rfl hn hsz rfl (lv_room hroom) hdg hf) hW.2.2.2.1 (fun q _ h => hW.free q h) (fun q h => hW.free q h) (fun r u t H1 locs1 ht hvm hw hB hz1 hk1 hS => ?_)
  exact kk r u H1 locs1 hw (hW.back hB ht hS)
end KIT
end
section
section KIT3
variable {p : Program} {l : Launch} {e : Env} {R : Room} {s : State} {m : MethodId} {args : Array Value} {below : List Frame} {meth : Method} {c : Code} {H : Heap} {locs : List Loc} {cells slots : Nat} {Q : State → Prop}
variable {cc : ByteArray} {pc : Nat} {ls : Array Slot} {rest st : List Value} {D : va_G} {cA : Nat → ClassId} {A : Nat → Prop} {ws ws0 : va_W} {y0 : MethodName} {nL : Nat} {ret : Option FieldType} {S : Type} {mc ms mc0 ms0 : Nat}
theorem k_lret {post : Int64 → S → Prop} {wo : S → va_W} {v : Int64} (u : S) (F : Fx p s m args meth c y0 cc nL (some .long)) (hW : Cw D cA s (va_A ws0 s.heap.size) (wo u) H locs) (hp : post v u) (hdg : decode cc pc = .ok (.lreturn, 1)) (hc : cells ≤ mc) (hs : slots ≤ ms) : W p l e R s m args below meth c H locs cells slots (MQ below (va_Ql post (fun u t => Qw D ws0 s.heap.size (wo u) t) (va_A ws0 s.heap.size)) args s mc ms (va_A ws0 s.heap.size)) (F0 m pc ls [.long v]) := by
  refine W.widen (k := mc) (n := ms) hc hs ?_
  exact W.lret (v := v) F.1 F.2.1 F.2.2.1 (fun t ht _ => ⟨⟨v, u, rfl, hp, ⟨by rw [ht]; exact hW.2.1, hW.2.2.1⟩⟩, hW.2.2.2.1.F ht⟩) hW.2.2.2.1.2.2 hdg F.2.2.2.2.2.2.1
theorem k_fret {post : UInt32 → S → Prop} {wo : S → va_W} {v : UInt32} (u : S) (F : Fx p s m args meth c y0 cc nL (some .float)) (hW : Cw D cA s (va_A ws0 s.heap.size) (wo u) H locs) (hp : post v u) (hdg : decode cc pc = .ok (.freturn, 1)) (hc : cells ≤ mc) (hs : slots ≤ ms) : W p l e R s m args below meth c H locs cells slots (MQ below (va_Qf post (fun u t => Qw D ws0 s.heap.size (wo u) t) (va_A ws0 s.heap.size)) args s mc ms (va_A ws0 s.heap.size)) (F0 m pc ls [.float v]) := by
  refine W.widen (k := mc) (n := ms) hc hs ?_
  exact W.fret (v := v) F.1 F.2.1 F.2.2.1 (fun t ht _ => ⟨⟨v, u, rfl, hp, ⟨by rw [ht]; exact hW.2.1, hW.2.2.1⟩⟩, hW.2.2.2.1.F ht⟩) hW.2.2.2.1.2.2 hdg F.2.2.2.2.2.2.1
theorem k_dret {post : UInt64 → S → Prop} {wo : S → va_W} {v : UInt64} (u : S) (F : Fx p s m args meth c y0 cc nL (some .double)) (hW : Cw D cA s (va_A ws0 s.heap.size) (wo u) H locs) (hp : post v u) (hdg : decode cc pc = .ok (.dreturn, 1)) (hc : cells ≤ mc) (hs : slots ≤ ms) : W p l e R s m args below meth c H locs cells slots (MQ below (va_Qd post (fun u t => Qw D ws0 s.heap.size (wo u) t) (va_A ws0 s.heap.size)) args s mc ms (va_A ws0 s.heap.size)) (F0 m pc ls [.double v]) := by
  refine W.widen (k := mc) (n := ms) hc hs ?_
  exact W.dret (v := v) F.1 F.2.1 F.2.2.1 (fun t ht _ => ⟨⟨v, u, rfl, hp, ⟨by rw [ht]; exact hW.2.1, hW.2.2.1⟩⟩, hW.2.2.2.1.F ht⟩) hW.2.2.2.1.2.2 hdg F.2.2.2.2.2.2.1
theorem k_callVv {post : S → Prop} {wo : S → va_W} {own C : String} {idx ny ci n q0 : Nat} {y : MethodName} {cy : ByteArray} {ry : Option FieldType} {rm : Room} {b : Nat} {as : List Value} {q : vw_C} {fs : List Value} (F : Fx p s m args meth c y0 cc nL ret) (hW : Cw D cA s A ws H locs) (hM : MetV l y (.code y cy ny ry :: LW) rm D cA ws (.ref b :: as) post wo mc ms) (hown : y0.cls = own) (h1 : Cond.methodLink own idx y ∈ LW) (h2 : Cond.instanceMethod y ∈ LW) (h3 : Cond.selects C y y ∈ LW) (h4 : Cond.initialized C ∈ LW) (h5 : Cond.code y cy ny ry ∈ LW)
    (hd : y.cls = C ∧ y.cls ≠ "java/lang/invoke/MethodHandle" ∧ y.cls ≠ "java/lang/invoke/VarHandle" ∧ (parseMethodDescriptor y.desc).map (fun d => d.parameters.length) = some n) (hrc : rm.cells = mc) (hrs : rm.slots = ms) (hR : rm.frames + 1 ≤ R.frames ∧ 8 + (ny + 11) + rm.locals ≤ R.locals)
    (hc0 : vwCl[ci]? = some q) (hqC : q.1 = C) (he : ws[q0]? = some (b, .inr (ci, fs))) (hn : as.length = n) (hst : st = as.reverse ++ .ref b :: rest) (hsz : ls.size = nL) (hroom : (rest.map fun v => v.category).sum ≤ 8) (hdg : decode cc pc = .ok (.invokevirtual idx, 3)) (hf : cells + mc ≤ R.cells ∧ slots + ms ≤ R.slots)
    (kk : ∀ (u : S) (H1 : Heap) (locs1 : List Loc), post u → Cw D cA s A (wo u) H1 locs1 → W p l e R s m args below meth c H1 locs1 (cells + mc) (slots + ms) Q (F0 m (pc + 3) ls (rest))) : W p l e R s m args below meth c H locs cells slots Q (F0 m pc ls st) := by
  subst hst
  refine va_callv (va_runV (As := as) (rest := rest) (C := C) (own := own) ⟨F.1, F.2.1, F.2.2.2.1, by rw [← hown]; exact F.2.2.2.2.1, F.2.2.2.2.2.1⟩ (hM H.size) (cwV n F.2.2.2.2.2.1 (g_V h1 h2 h3 h4 h5) rfl hrc hrs hd hR) ⟨Pw.blind, by rw [← hqC]; exact va_recv hW.1 hW.2.1 (ci := ci) (q0 := q0) hc0 he, fun U hU hWm => ⟨rfl, hW.pre U hU hWm⟩⟩ rfl hn hsz rfl (lv_room hroom) hdg hf) hW.2.2.2.1 (fun q _ h => hW.free q h) (fun q h => hW.free q h) (fun u t H1 locs1 ht hvm hw hB hz1 hk1 hS => ?_)
  exact kk u H1 locs1 hw (hW.back hB ht hS)
theorem k_callSv {post : S → Prop} {wo : S → va_W} {own : String} {idx ny n : Nat} {y : MethodName} {cy : ByteArray} {ry : Option FieldType} {rm : Room} {as : List Value} (F : Fx p s m args meth c y0 cc nL ret) (hW : Cw D cA s A ws H locs) (hM : MetV l y (.code y cy ny ry :: LW) rm D cA ws as post wo mc ms) (hown : y0.cls = own) (h1 : Cond.methodLink own idx y ∈ LW) (h2 : Cond.static y ∈ LW) (h4 : Cond.initialized y.cls ∈ LW) (h5 : Cond.code y cy ny ry ∈ LW)
    (hd : y.cls ≠ "java/lang/invoke/MethodHandle" ∧ y.cls ≠ "java/lang/invoke/VarHandle" ∧ (parseMethodDescriptor y.desc).map (fun d => d.parameters.length) = some n) (hrc : rm.cells = mc) (hrs : rm.slots = ms) (hR : rm.frames + 1 ≤ R.frames ∧ 8 + (ny + 11) + rm.locals ≤ R.locals)
    (hn : as.length = n) (hst : st = as.reverse ++ rest) (hsz : ls.size = nL) (hroom : (rest.map fun v => v.category).sum ≤ 8) (hdg : decode cc pc = .ok (.invokestatic idx, 3)) (hf : cells + mc ≤ R.cells ∧ slots + ms ≤ R.slots)
    (kk : ∀ (u : S) (H1 : Heap) (locs1 : List Loc), post u → Cw D cA s A (wo u) H1 locs1 → W p l e R s m args below meth c H1 locs1 (cells + mc) (slots + ms) Q (F0 m (pc + 3) ls (rest))) : W p l e R s m args below meth c H locs cells slots Q (F0 m pc ls st) := by
  subst hst
  refine va_callv (va_runS (As := as) (rest := rest) (own := own) ⟨F.1, F.2.1, F.2.2.2.1, by rw [← hown]; exact F.2.2.2.2.1, F.2.2.2.2.2.1⟩ (hM H.size) (va_cwS n F.2.2.2.2.2.1 (g_S h1 h2 h4 h5) rfl hrc hrs hd hR) ⟨Pw.blind, fun U hU hWm => ⟨rfl, hW.pre U hU hWm⟩⟩ rfl hn hsz rfl (lv_room hroom) hdg hf) hW.2.2.2.1 (fun q _ h => hW.free q h) (fun q h => hW.free q h) (fun u t H1 locs1 ht hvm hw hB hz1 hk1 hS => ?_)
  exact kk u H1 locs1 hw (hW.back hB ht hS)
theorem k_callVl {post : Int64 → S → Prop} {wo : S → va_W} {own C : String} {idx ny ci n q0 : Nat} {y : MethodName} {cy : ByteArray} {ry : Option FieldType} {rm : Room} {b : Nat} {as : List Value} {q : vw_C} {fs : List Value} (F : Fx p s m args meth c y0 cc nL ret) (hW : Cw D cA s A ws H locs) (hM : MetL l y (.code y cy ny ry :: LW) rm D cA ws (.ref b :: as) post wo mc ms) (hown : y0.cls = own) (h1 : Cond.methodLink own idx y ∈ LW) (h2 : Cond.instanceMethod y ∈ LW) (h3 : Cond.selects C y y ∈ LW) (h4 : Cond.initialized C ∈ LW) (h5 : Cond.code y cy ny ry ∈ LW)
    (hd : y.cls = C ∧ y.cls ≠ "java/lang/invoke/MethodHandle" ∧ y.cls ≠ "java/lang/invoke/VarHandle" ∧ (parseMethodDescriptor y.desc).map (fun d => d.parameters.length) = some n) (hrc : rm.cells = mc) (hrs : rm.slots = ms) (hR : rm.frames + 1 ≤ R.frames ∧ 8 + (ny + 11) + rm.locals ≤ R.locals)
    (hc0 : vwCl[ci]? = some q) (hqC : q.1 = C) (he : ws[q0]? = some (b, .inr (ci, fs))) (hn : as.length = n) (hst : st = as.reverse ++ .ref b :: rest) (hsz : ls.size = nL) (hroom : (rest.map fun v => v.category).sum ≤ 8) (hdg : decode cc pc = .ok (.invokevirtual idx, 3)) (hf : cells + mc ≤ R.cells ∧ slots + ms ≤ R.slots)
    (kk : ∀ (r : Int64) (u : S) (H1 : Heap) (locs1 : List Loc), post r u → Cw D cA s A (wo u) H1 locs1 → W p l e R s m args below meth c H1 locs1 (cells + mc) (slots + ms) Q (F0 m (pc + 3) ls (.long r :: rest))) : W p l e R s m args below meth c H locs cells slots Q (F0 m pc ls st) := by
  subst hst
  refine va_calll (va_runV (As := as) (rest := rest) (C := C) (own := own) ⟨F.1, F.2.1, F.2.2.2.1, by rw [← hown]; exact F.2.2.2.2.1, F.2.2.2.2.2.1⟩ (hM H.size) (cwV n F.2.2.2.2.2.1 (g_V h1 h2 h3 h4 h5) rfl hrc hrs hd hR) ⟨Pw.blind, by rw [← hqC]; exact va_recv hW.1 hW.2.1 (ci := ci) (q0 := q0) hc0 he, fun U hU hWm => ⟨rfl, hW.pre U hU hWm⟩⟩ rfl hn hsz rfl (lv_room hroom) hdg hf) hW.2.2.2.1 (fun q _ h => hW.free q h) (fun q h => hW.free q h) (fun r u t H1 locs1 ht hvm hw hB hz1 hk1 hS => ?_)
  exact kk r u H1 locs1 hw (hW.back hB ht hS)
theorem k_callSl {post : Int64 → S → Prop} {wo : S → va_W} {own : String} {idx ny n : Nat} {y : MethodName} {cy : ByteArray} {ry : Option FieldType} {rm : Room} {as : List Value} (F : Fx p s m args meth c y0 cc nL ret) (hW : Cw D cA s A ws H locs) (hM : MetL l y (.code y cy ny ry :: LW) rm D cA ws as post wo mc ms) (hown : y0.cls = own) (h1 : Cond.methodLink own idx y ∈ LW) (h2 : Cond.static y ∈ LW) (h4 : Cond.initialized y.cls ∈ LW) (h5 : Cond.code y cy ny ry ∈ LW)
    (hd : y.cls ≠ "java/lang/invoke/MethodHandle" ∧ y.cls ≠ "java/lang/invoke/VarHandle" ∧ (parseMethodDescriptor y.desc).map (fun d => d.parameters.length) = some n) (hrc : rm.cells = mc) (hrs : rm.slots = ms) (hR : rm.frames + 1 ≤ R.frames ∧ 8 + (ny + 11) + rm.locals ≤ R.locals)
    (hn : as.length = n) (hst : st = as.reverse ++ rest) (hsz : ls.size = nL) (hroom : (rest.map fun v => v.category).sum ≤ 8) (hdg : decode cc pc = .ok (.invokestatic idx, 3)) (hf : cells + mc ≤ R.cells ∧ slots + ms ≤ R.slots)
    (kk : ∀ (r : Int64) (u : S) (H1 : Heap) (locs1 : List Loc), post r u → Cw D cA s A (wo u) H1 locs1 → W p l e R s m args below meth c H1 locs1 (cells + mc) (slots + ms) Q (F0 m (pc + 3) ls (.long r :: rest))) : W p l e R s m args below meth c H locs cells slots Q (F0 m pc ls st) := by
  subst hst
  refine va_calll (va_runS (As := as) (rest := rest) (own := own) ⟨F.1, F.2.1, F.2.2.2.1, by rw [← hown]; exact F.2.2.2.2.1, F.2.2.2.2.2.1⟩ (hM H.size) (va_cwS n F.2.2.2.2.2.1 (g_S h1 h2 h4 h5) rfl hrc hrs hd hR) ⟨Pw.blind, fun U hU hWm => ⟨rfl, hW.pre U hU hWm⟩⟩ rfl hn hsz rfl (lv_room hroom) hdg hf) hW.2.2.2.1 (fun q _ h => hW.free q h) (fun q h => hW.free q h) (fun r u t H1 locs1 ht hvm hw hB hz1 hk1 hS => ?_)
  exact kk r u H1 locs1 hw (hW.back hB ht hS)
theorem k_callVf {post : UInt32 → S → Prop} {wo : S → va_W} {own C : String} {idx ny ci n q0 : Nat} {y : MethodName} {cy : ByteArray} {ry : Option FieldType} {rm : Room} {b : Nat} {as : List Value} {q : vw_C} {fs : List Value} (F : Fx p s m args meth c y0 cc nL ret) (hW : Cw D cA s A ws H locs) (hM : MetF l y (.code y cy ny ry :: LW) rm D cA ws (.ref b :: as) post wo mc ms) (hown : y0.cls = own) (h1 : Cond.methodLink own idx y ∈ LW) (h2 : Cond.instanceMethod y ∈ LW) (h3 : Cond.selects C y y ∈ LW) (h4 : Cond.initialized C ∈ LW) (h5 : Cond.code y cy ny ry ∈ LW)
    (hd : y.cls = C ∧ y.cls ≠ "java/lang/invoke/MethodHandle" ∧ y.cls ≠ "java/lang/invoke/VarHandle" ∧ (parseMethodDescriptor y.desc).map (fun d => d.parameters.length) = some n) (hrc : rm.cells = mc) (hrs : rm.slots = ms) (hR : rm.frames + 1 ≤ R.frames ∧ 8 + (ny + 11) + rm.locals ≤ R.locals)
    (hc0 : vwCl[ci]? = some q) (hqC : q.1 = C) (he : ws[q0]? = some (b, .inr (ci, fs))) (hn : as.length = n) (hst : st = as.reverse ++ .ref b :: rest) (hsz : ls.size = nL) (hroom : (rest.map fun v => v.category).sum ≤ 8) (hdg : decode cc pc = .ok (.invokevirtual idx, 3)) (hf : cells + mc ≤ R.cells ∧ slots + ms ≤ R.slots)
    (kk : ∀ (r : UInt32) (u : S) (H1 : Heap) (locs1 : List Loc), post r u → Cw D cA s A (wo u) H1 locs1 → W p l e R s m args below meth c H1 locs1 (cells + mc) (slots + ms) Q (F0 m (pc + 3) ls (.float r :: rest))) : W p l e R s m args below meth c H locs cells slots Q (F0 m pc ls st) := by
  subst hst
  refine va_callf (va_runV (As := as) (rest := rest) (C := C) (own := own) ⟨F.1, F.2.1, F.2.2.2.1, by rw [← hown]; exact F.2.2.2.2.1, F.2.2.2.2.2.1⟩ (hM H.size) (cwV n F.2.2.2.2.2.1 (g_V h1 h2 h3 h4 h5) rfl hrc hrs hd hR) ⟨Pw.blind, by rw [← hqC]; exact va_recv hW.1 hW.2.1 (ci := ci) (q0 := q0) hc0 he, fun U hU hWm => ⟨rfl, hW.pre U hU hWm⟩⟩ rfl hn hsz rfl (lv_room hroom) hdg hf) hW.2.2.2.1 (fun q _ h => hW.free q h) (fun q h => hW.free q h) (fun r u t H1 locs1 ht hvm hw hB hz1 hk1 hS => ?_)
  exact kk r u H1 locs1 hw (hW.back hB ht hS)
theorem k_callSf {post : UInt32 → S → Prop} {wo : S → va_W} {own : String} {idx ny n : Nat} {y : MethodName} {cy : ByteArray} {ry : Option FieldType} {rm : Room} {as : List Value} (F : Fx p s m args meth c y0 cc nL ret) (hW : Cw D cA s A ws H locs) (hM : MetF l y (.code y cy ny ry :: LW) rm D cA ws as post wo mc ms) (hown : y0.cls = own) (h1 : Cond.methodLink own idx y ∈ LW) (h2 : Cond.static y ∈ LW) (h4 : Cond.initialized y.cls ∈ LW) (h5 : Cond.code y cy ny ry ∈ LW)
    (hd : y.cls ≠ "java/lang/invoke/MethodHandle" ∧ y.cls ≠ "java/lang/invoke/VarHandle" ∧ (parseMethodDescriptor y.desc).map (fun d => d.parameters.length) = some n) (hrc : rm.cells = mc) (hrs : rm.slots = ms) (hR : rm.frames + 1 ≤ R.frames ∧ 8 + (ny + 11) + rm.locals ≤ R.locals)
    (hn : as.length = n) (hst : st = as.reverse ++ rest) (hsz : ls.size = nL) (hroom : (rest.map fun v => v.category).sum ≤ 8) (hdg : decode cc pc = .ok (.invokestatic idx, 3)) (hf : cells + mc ≤ R.cells ∧ slots + ms ≤ R.slots)
    (kk : ∀ (r : UInt32) (u : S) (H1 : Heap) (locs1 : List Loc), post r u → Cw D cA s A (wo u) H1 locs1 → W p l e R s m args below meth c H1 locs1 (cells + mc) (slots + ms) Q (F0 m (pc + 3) ls (.float r :: rest))) : W p l e R s m args below meth c H locs cells slots Q (F0 m pc ls st) := by
  subst hst
  refine va_callf (va_runS (As := as) (rest := rest) (own := own) ⟨F.1, F.2.1, F.2.2.2.1, by rw [← hown]; exact F.2.2.2.2.1, F.2.2.2.2.2.1⟩ (hM H.size) (va_cwS n F.2.2.2.2.2.1 (g_S h1 h2 h4 h5) rfl hrc hrs hd hR) ⟨Pw.blind, fun U hU hWm => ⟨rfl, hW.pre U hU hWm⟩⟩ rfl hn hsz rfl (lv_room hroom) hdg hf) hW.2.2.2.1 (fun q _ h => hW.free q h) (fun q h => hW.free q h) (fun r u t H1 locs1 ht hvm hw hB hz1 hk1 hS => ?_)
  exact kk r u H1 locs1 hw (hW.back hB ht hS)
theorem k_callVb {post : UInt64 → S → Prop} {wo : S → va_W} {own C : String} {idx ny ci n q0 : Nat} {y : MethodName} {cy : ByteArray} {ry : Option FieldType} {rm : Room} {b : Nat} {as : List Value} {q : vw_C} {fs : List Value} (F : Fx p s m args meth c y0 cc nL ret) (hW : Cw D cA s A ws H locs) (hM : MetB l y (.code y cy ny ry :: LW) rm D cA ws (.ref b :: as) post wo mc ms) (hown : y0.cls = own) (h1 : Cond.methodLink own idx y ∈ LW) (h2 : Cond.instanceMethod y ∈ LW) (h3 : Cond.selects C y y ∈ LW) (h4 : Cond.initialized C ∈ LW) (h5 : Cond.code y cy ny ry ∈ LW)
    (hd : y.cls = C ∧ y.cls ≠ "java/lang/invoke/MethodHandle" ∧ y.cls ≠ "java/lang/invoke/VarHandle" ∧ (parseMethodDescriptor y.desc).map (fun d => d.parameters.length) = some n) (hrc : rm.cells = mc) (hrs : rm.slots = ms) (hR : rm.frames + 1 ≤ R.frames ∧ 8 + (ny + 11) + rm.locals ≤ R.locals)
    (hc0 : vwCl[ci]? = some q) (hqC : q.1 = C) (he : ws[q0]? = some (b, .inr (ci, fs))) (hn : as.length = n) (hst : st = as.reverse ++ .ref b :: rest) (hsz : ls.size = nL) (hroom : (rest.map fun v => v.category).sum ≤ 8) (hdg : decode cc pc = .ok (.invokevirtual idx, 3)) (hf : cells + mc ≤ R.cells ∧ slots + ms ≤ R.slots)
    (kk : ∀ (r : UInt64) (u : S) (H1 : Heap) (locs1 : List Loc), post r u → Cw D cA s A (wo u) H1 locs1 → W p l e R s m args below meth c H1 locs1 (cells + mc) (slots + ms) Q (F0 m (pc + 3) ls (.double r :: rest))) : W p l e R s m args below meth c H locs cells slots Q (F0 m pc ls st) := by
  subst hst
  refine va_calld (va_runV (As := as) (rest := rest) (C := C) (own := own) ⟨F.1, F.2.1, F.2.2.2.1, by rw [← hown]; exact F.2.2.2.2.1, F.2.2.2.2.2.1⟩ (hM H.size) (cwV n F.2.2.2.2.2.1 (g_V h1 h2 h3 h4 h5) rfl hrc hrs hd hR) ⟨Pw.blind, by rw [← hqC]; exact va_recv hW.1 hW.2.1 (ci := ci) (q0 := q0) hc0 he, fun U hU hWm => ⟨rfl, hW.pre U hU hWm⟩⟩ rfl hn hsz rfl (lv_room hroom) hdg hf) hW.2.2.2.1 (fun q _ h => hW.free q h) (fun q h => hW.free q h) (fun r u t H1 locs1 ht hvm hw hB hz1 hk1 hS => ?_)
  exact kk r u H1 locs1 hw (hW.back hB ht hS)
theorem k_callSb {post : UInt64 → S → Prop} {wo : S → va_W} {own : String} {idx ny n : Nat} {y : MethodName} {cy : ByteArray} {ry : Option FieldType} {rm : Room} {as : List Value} (F : Fx p s m args meth c y0 cc nL ret) (hW : Cw D cA s A ws H locs) (hM : MetB l y (.code y cy ny ry :: LW) rm D cA ws as post wo mc ms) (hown : y0.cls = own) (h1 : Cond.methodLink own idx y ∈ LW) (h2 : Cond.static y ∈ LW) (h4 : Cond.initialized y.cls ∈ LW) (h5 : Cond.code y cy ny ry ∈ LW)
    (hd : y.cls ≠ "java/lang/invoke/MethodHandle" ∧ y.cls ≠ "java/lang/invoke/VarHandle" ∧ (parseMethodDescriptor y.desc).map (fun d => d.parameters.length) = some n) (hrc : rm.cells = mc) (hrs : rm.slots = ms) (hR : rm.frames + 1 ≤ R.frames ∧ 8 + (ny + 11) + rm.locals ≤ R.locals)
    (hn : as.length = n) (hst : st = as.reverse ++ rest) (hsz : ls.size = nL) (hroom : (rest.map fun v => v.category).sum ≤ 8) (hdg : decode cc pc = .ok (.invokestatic idx, 3)) (hf : cells + mc ≤ R.cells ∧ slots + ms ≤ R.slots)
    (kk : ∀ (r : UInt64) (u : S) (H1 : Heap) (locs1 : List Loc), post r u → Cw D cA s A (wo u) H1 locs1 → W p l e R s m args below meth c H1 locs1 (cells + mc) (slots + ms) Q (F0 m (pc + 3) ls (.double r :: rest))) : W p l e R s m args below meth c H locs cells slots Q (F0 m pc ls st) := by
  subst hst
  refine va_calld (va_runS (As := as) (rest := rest) (own := own) ⟨F.1, F.2.1, F.2.2.2.1, by rw [← hown]; exact F.2.2.2.2.1, F.2.2.2.2.2.1⟩ (hM H.size) (va_cwS n F.2.2.2.2.2.1 (g_S h1 h2 h4 h5) rfl hrc hrs hd hR) ⟨Pw.blind, fun U hU hWm => ⟨rfl, hW.pre U hU hWm⟩⟩ rfl hn hsz rfl (lv_room hroom) hdg hf) hW.2.2.2.1 (fun q _ h => hW.free q h) (fun q h => hW.free q h) (fun r u t H1 locs1 ht hvm hw hB hz1 hk1 hS => ?_)
  exact kk r u H1 locs1 hw (hW.back hB ht hS)
theorem k_callVr {post : Option Nat → S → Prop} {wo : S → va_W} {own C : String} {idx ny ci n q0 : Nat} {y : MethodName} {cy : ByteArray} {ry : Option FieldType} {rm : Room} {b : Nat} {as : List Value} {q : vw_C} {fs : List Value} (F : Fx p s m args meth c y0 cc nL ret) (hW : Cw D cA s A ws H locs) (hM : MetR l y (.code y cy ny ry :: LW) rm D cA ws (.ref b :: as) post wo mc ms) (hown : y0.cls = own) (h1 : Cond.methodLink own idx y ∈ LW) (h2 : Cond.instanceMethod y ∈ LW) (h3 : Cond.selects C y y ∈ LW) (h4 : Cond.initialized C ∈ LW) (h5 : Cond.code y cy ny ry ∈ LW)
    (hd : y.cls = C ∧ y.cls ≠ "java/lang/invoke/MethodHandle" ∧ y.cls ≠ "java/lang/invoke/VarHandle" ∧ (parseMethodDescriptor y.desc).map (fun d => d.parameters.length) = some n) (hrc : rm.cells = mc) (hrs : rm.slots = ms) (hR : rm.frames + 1 ≤ R.frames ∧ 8 + (ny + 11) + rm.locals ≤ R.locals)
    (hc0 : vwCl[ci]? = some q) (hqC : q.1 = C) (he : ws[q0]? = some (b, .inr (ci, fs))) (hn : as.length = n) (hst : st = as.reverse ++ .ref b :: rest) (hsz : ls.size = nL) (hroom : (rest.map fun v => v.category).sum ≤ 8) (hdg : decode cc pc = .ok (.invokevirtual idx, 3)) (hf : cells + mc ≤ R.cells ∧ slots + ms ≤ R.slots)
    (kk : ∀ (r : Option Nat) (u : S) (H1 : Heap) (locs1 : List Loc), post r u → Cw D cA s A (wo u) H1 locs1 → W p l e R s m args below meth c H1 locs1 (cells + mc) (slots + ms) Q (F0 m (pc + 3) ls (va_rf r :: rest))) : W p l e R s m args below meth c H locs cells slots Q (F0 m pc ls st) := by
  subst hst
  refine va_callq (va_runV (As := as) (rest := rest) (C := C) (own := own) ⟨F.1, F.2.1, F.2.2.2.1, by rw [← hown]; exact F.2.2.2.2.1, F.2.2.2.2.2.1⟩ (hM H.size) (cwV n F.2.2.2.2.2.1 (g_V h1 h2 h3 h4 h5) rfl hrc hrs hd hR) ⟨Pw.blind, by rw [← hqC]; exact va_recv hW.1 hW.2.1 (ci := ci) (q0 := q0) hc0 he, fun U hU hWm => ⟨rfl, hW.pre U hU hWm⟩⟩ rfl hn hsz rfl (lv_room hroom) hdg hf) hW.2.2.2.1 (fun q _ h => hW.free q h) (fun q h => hW.free q h) (fun r u t H1 locs1 ht hvm hw hB hz1 hk1 hS => ?_)
  exact kk r u H1 locs1 hw (hW.back hB ht hS)
theorem k_callSr {post : Option Nat → S → Prop} {wo : S → va_W} {own : String} {idx ny n : Nat} {y : MethodName} {cy : ByteArray} {ry : Option FieldType} {rm : Room} {as : List Value} (F : Fx p s m args meth c y0 cc nL ret) (hW : Cw D cA s A ws H locs) (hM : MetR l y (.code y cy ny ry :: LW) rm D cA ws as post wo mc ms) (hown : y0.cls = own) (h1 : Cond.methodLink own idx y ∈ LW) (h2 : Cond.static y ∈ LW) (h4 : Cond.initialized y.cls ∈ LW) (h5 : Cond.code y cy ny ry ∈ LW)
    (hd : y.cls ≠ "java/lang/invoke/MethodHandle" ∧ y.cls ≠ "java/lang/invoke/VarHandle" ∧ (parseMethodDescriptor y.desc).map (fun d => d.parameters.length) = some n) (hrc : rm.cells = mc) (hrs : rm.slots = ms) (hR : rm.frames + 1 ≤ R.frames ∧ 8 + (ny + 11) + rm.locals ≤ R.locals)
    (hn : as.length = n) (hst : st = as.reverse ++ rest) (hsz : ls.size = nL) (hroom : (rest.map fun v => v.category).sum ≤ 8) (hdg : decode cc pc = .ok (.invokestatic idx, 3)) (hf : cells + mc ≤ R.cells ∧ slots + ms ≤ R.slots)
    (kk : ∀ (r : Option Nat) (u : S) (H1 : Heap) (locs1 : List Loc), post r u → Cw D cA s A (wo u) H1 locs1 → W p l e R s m args below meth c H1 locs1 (cells + mc) (slots + ms) Q (F0 m (pc + 3) ls (va_rf r :: rest))) : W p l e R s m args below meth c H locs cells slots Q (F0 m pc ls st) := by
  subst hst
  refine va_callq (va_runS (As := as) (rest := rest) (own := own) ⟨F.1, F.2.1, F.2.2.2.1, by rw [← hown]; exact F.2.2.2.2.1, F.2.2.2.2.2.1⟩ (hM H.size) (va_cwS n F.2.2.2.2.2.1 (g_S h1 h2 h4 h5) rfl hrc hrs hd hR) ⟨Pw.blind, fun U hU hWm => ⟨rfl, hW.pre U hU hWm⟩⟩ rfl hn hsz rfl (lv_room hroom) hdg hf) hW.2.2.2.1 (fun q _ h => hW.free q h) (fun q h => hW.free q h) (fun r u t H1 locs1 ht hvm hw hB hz1 hk1 hS => ?_)
  exact kk r u H1 locs1 hw (hW.back hB ht hS)
end KIT3
end
section
/-! The state: counts N, registers R, freshness Fr, income. N 0: 0 boats, 1 lots, 2 buyers, 3 trucks, 4 day, 5 time; N 1 t: loaded on truck t; N 2 (class only): filled places of the four arrays; N 3 t (class only): of truck t's row.
R 0 f 0: beyond, start, step, reserve; R 1 b s quota; R 2 d k written (k = 4 b + s); R 3 b s given (class only); of lot j: R 4 j 0 boat (class only), 5 species, 6 size, 7 weight, 8 boxed, 9 state, 10 ice, 11 buyer, 12 paid; R 13 u 0 budget; R 14 u s limit; R 15 t 0 hour, 16 closed, 17 room; R 18 t k lotOn. -/
def up2 (f : Nat → Nat → Nat) (i j v : Nat) : Nat → Nat → Nat := fun i' j' => if i' = i ∧ j' = j then v else f i' j'
def up3 (f : Nat → Nat → Nat → Int32) (k i j : Nat) (v : Int32) : Nat → Nat → Nat → Int32 := fun k' i' j' => if k' = k ∧ i' = i ∧ j' = j then v else f k' i' j'
abbrev St : Type := (Nat → Nat → Nat) × (Nat → Nat → Nat → Int32) × (Nat → UInt32) × Int64
/-- the reference's cells -/
def mW (cA : Nat → ClassId) (β : Nat → Nat) (th : Int32) (S : St) : va_W := match S with
  | (N, R, Fr, inc) => [
  (β 0, .inr (7, [.int th, .int (nI (N 0 0)), .ref (β 1), .ref (β 2), .int (nI (N 0 4)), .int (R 0 0 0), .int (nI (N 0 1)), .ref (β 3), .ref (β 4), .ref (β 5), .ref (β 6), .ref (β 7), .ref (β 8), .ref (β 9), .ref (β 10), .ref (β 11), .int (nI (N 0 5)), .int (nI (N 0 2)), .ref (β 12), .ref (β 13), .int (R 0 1 0), .int (R 0 2 0), .int (R 0 3 0), .int (nI (N 0 3)), .ref (β 14), .ref (β 15), .ref (β 16), .ref (β 17), .ref (β 18), .long inc])),
  (β 1, .inl (cA 0, 24, .inl (fun k => R 1 (k / 4) (k % 4)))),
  (β 2, .inl (cA 0, 480, .inl (fun k => R 2 (k / 24) (k % 24)))),
  (β 3, .inl (cA 0, 20, .inl (fun j => R 5 j 0))),
  (β 4, .inl (cA 0, 20, .inl (fun j => R 6 j 0))),
  (β 5, .inl (cA 0, 20, .inl (fun j => R 7 j 0))),
  (β 6, .inl (cA 1, 20, .inl (fun j => R 8 j 0))),
  (β 7, .inl (cA 2, 20, .inl (fun j => R 9 j 0))),
  (β 8, .inl (cA 3, 20, .inr (.inr (.inl Fr)))),
  (β 9, .inl (cA 0, 20, .inl (fun j => R 10 j 0))),
  (β 10, .inl (cA 0, 20, .inl (fun j => R 11 j 0))),
  (β 11, .inl (cA 0, 20, .inl (fun j => R 12 j 0))),
  (β 12, .inl (cA 0, 5, .inl (fun u => R 13 u 0))),
  (β 13, .inl (cA 0, 20, .inl (fun k => R 14 (k / 4) (k % 4)))),
  (β 14, .inl (cA 0, 4, .inl (fun t => R 15 t 0))),
  (β 15, .inl (cA 0, 4, .inl (fun t => R 17 t 0))),
  (β 16, .inl (cA 1, 4, .inl (fun t => R 16 t 0))),
  (β 17, .inl (cA 0, 4, .inl (fun t => nI (N 1 t)))),
  (β 18, .inl (cA 0, 20, .inl (fun k => R 18 (k / 5) (k % 5))))]
/-- .. behind the law's two cells, ahead of all else -/
def mWd (cA : Nat → ClassId) (β : Nat → Nat) (c0 c1 : Nat × va_E) (wr : va_W) (th : Int32) (S : St) : va_W := c0 :: c1 :: (mW cA β th S ++ wr)
def b2i (b : Bool) : Int32 := if b then 1 else 0
/-- lo ≤ v ≤ hi -/
def wi (v lo hi : Int32) : Bool := decide (lo ≤ v) && decide (v ≤ hi)
theorem Cw.eq {D : va_G} {cA : Nat → ClassId} {s : State} {A : Nat → Prop} {ws ws1 : va_W} {H : Heap} {locs : List Loc} (h : Cw D cA s A ws H locs) (e : ws = ws1) : Cw D cA s A ws1 H locs := e ▸ h
section KIT2
variable {p : Program} {l : Launch} {e : Env} {R : Room} {s : State} {m : MethodId} {args : Array Value} {below : List Frame} {meth : Method} {c : Code} {H : Heap} {locs : List Loc} {cells slots : Nat} {Q : State → Prop}
variable {cc : ByteArray} {pc : Nat} {ls : Array Slot} {rest st : List Value} {D : va_G} {cA : Nat → ClassId} {A : Nat → Prop} {ws ws0 : va_W} {y0 : MethodName} {nL : Nat} {ret : Option FieldType}
theorem k_get {ci N idx a : Nat} {own C : String} {T : u_T} {fs : List Value} {v : Value} (F : Fx p s m args meth c y0 cc nL ret) (hW : Cw D cA s A ws H locs) (hin : ∀ w ∈ u_ws C T N, w ∈ LW) (hown : y0.cls = own) (q0 : Nat) (he : ws[q0]? = some (a, .inr (ci, fs))) (hc0 : vwCl[ci]? = some (C, T, N)) (k : Nat) (hk : k < N) (hlink : Cond.fieldLink own idx C (T k).2.1 (T k).2.2.1 ∈ LW) (hC : (T k).1 = C) (hv : fs[k]? = some v) (hdg : decode cc pc = .ok (.getfield idx, 3))
    (kk : W p l e R s m args below meth c H locs cells slots Q (F0 m (pc + 3) ls (v :: rest))) : W p l e R s m args below meth c H locs cells slots Q (F0 m pc ls (.ref a :: rest)) :=
  va_get (D := D) (own := own) (ref := C) F.1 F.2.1 F.2.2.2.2.2.1 hin (by rw [← hown]; exact F.2.2.2.2.1) hW.1 hW.2.1 q0 he hc0 k hk (F.2.2.2.2.2.1 _ hlink) (fun _ h => by rw [hC] at h; exact h) hv hdg kk
theorem k_put {ci N idx a : Nat} {own C : String} {T : u_T} {fs : List Value} {v : Value} {ty0 : Nat → FieldType} {ty : FieldType} (F : Fx p s m args meth c y0 cc nL ret) (hW : Cw D cA s A ws H locs) (hin : ∀ w ∈ u_ws C T N, w ∈ LW) (hty : ∀ k, k < N → parseFieldDescriptor (T k).2.2.1 = some (ty0 k)) (hnm : ∀ a, a < N → ∀ b, b < N → a ≠ b → (T a).2.1 ≠ (T b).2.1) (hown : y0.cls = own) (q0 : Nat) (he : ws[q0]? = some (a, .inr (ci, fs))) (hc0 : vwCl[ci]? = some (C, T, N)) (k : Nat) (hk : k < N) (hlink : Cond.fieldLink own idx C (T k).2.1 (T k).2.2.1 ∈ LW) (hC : (T k).1 = C) (hfin : (T k).2.2.2 = false) (hd : ty0 k = ty) (hn : narrow ty v = v) (hfit : fits ty v = true) (hl : k < fs.length) (ws' : va_W) (he' : ws.set q0 (a, .inr (ci, fs.set k v)) = ws') (hdg : decode cc pc = .ok (.putfield idx, 3))
    (kk : ∀ (H1 : Heap) (locs1 : List Loc), Cw D cA s A ws' H1 locs1 → W p l e R s m args below meth c H1 locs1 cells slots Q (F0 m (pc + 3) ls rest)) : W p l e R s m args below meth c H locs cells slots Q (F0 m pc ls (v :: .ref a :: rest)) := by
  refine va_put (D := D) (own := own) (ref := C) (ty := ty) F.1 F.2.1 F.2.2.2.2.2.1 hin ty0 hty hnm (by rw [← hown]; exact F.2.2.2.2.1) hW.1 hW.2.1 hW.2.2.1 hW.2.2.2.1 q0 he hc0 k hk (F.2.2.2.2.2.1 _ hlink) (fun _ h => by rw [hC] at h; exact h) hfin (by rw [← hd]; exact hty k hk) hn hfit hl hdg (fun H1 locs1 hP hD hS => ?_)
  rw [he'] at hP hD
  exact kk H1 locs1 (hW.mk hP hD hS)
theorem k_iald {a n : Nat} {f : Nat → Int32} {i v : Int32} (F : Fx p s m args meth c y0 cc nL ret) (hW : Cw D cA s A ws H locs) (q0 : Nat) (he : ws[q0]? = some (a, .inl (cA 0, n, .inl f))) (hi : vp_in i n) (hv : f i.toNatClampNeg = v) (hdg : decode cc pc = .ok (.iaload, 1))
    (kk : W p l e R s m args below meth c H locs cells slots Q (F0 m (pc + 1) ls (.int v :: rest))) : W p l e R s m args below meth c H locs cells slots Q (F0 m pc ls (.int i :: .ref a :: rest)) := by
  subst hv
  exact va_iald (D := D) F.1 F.2.1 hW.1 hW.2.1 q0 0 he rfl hi hdg kk
theorem k_zald {a n : Nat} {f : Nat → Int32} {i v : Int32} (F : Fx p s m args meth c y0 cc nL ret) (hW : Cw D cA s A ws H locs) (q0 : Nat) (he : ws[q0]? = some (a, .inl (cA 1, n, .inl f))) (hi : vp_in i n) (hv : f i.toNatClampNeg = v) (hdg : decode cc pc = .ok (.baload, 1))
    (kk : W p l e R s m args below meth c H locs cells slots Q (F0 m (pc + 1) ls (.int v :: rest))) : W p l e R s m args below meth c H locs cells slots Q (F0 m pc ls (.int i :: .ref a :: rest)) := by
  subst hv
  exact va_zald (D := D) F.1 F.2.1 hW.1 hW.2.1 q0 1 he rfl hi hdg kk
theorem k_cald {a n : Nat} {f : Nat → Int32} {i v : Int32} (F : Fx p s m args meth c y0 cc nL ret) (hW : Cw D cA s A ws H locs) (q0 : Nat) (he : ws[q0]? = some (a, .inl (cA 2, n, .inl f))) (hi : vp_in i n) (hv : f i.toNatClampNeg = v) (hdg : decode cc pc = .ok (.caload, 1))
    (kk : W p l e R s m args below meth c H locs cells slots Q (F0 m (pc + 1) ls (.int v :: rest))) : W p l e R s m args below meth c H locs cells slots Q (F0 m pc ls (.int i :: .ref a :: rest)) := by
  subst hv
  exact va_cald (D := D) F.1 F.2.1 hW.1 hW.2.1 q0 2 he rfl hi hdg kk
theorem k_fald {a n : Nat} {f : Nat → UInt32} {i : Int32} {v : UInt32} (F : Fx p s m args meth c y0 cc nL ret) (hW : Cw D cA s A ws H locs) (q0 : Nat) (he : ws[q0]? = some (a, .inl (cA 3, n, .inr (.inr (.inl f))))) (hi : vp_in i n) (hv : f i.toNatClampNeg = v) (hdg : decode cc pc = .ok (.faload, 1))
    (kk : W p l e R s m args below meth c H locs cells slots Q (F0 m (pc + 1) ls (.float v :: rest))) : W p l e R s m args below meth c H locs cells slots Q (F0 m pc ls (.int i :: .ref a :: rest)) := by
  subst hv
  exact va_fald (D := D) F.1 F.2.1 hW.1 hW.2.1 q0 3 he rfl hi hdg kk
theorem k_iast {a n : Nat} {f : Nat → Int32} {i x : Int32} (F : Fx p s m args meth c y0 cc nL ret) (hW : Cw D cA s A ws H locs) (q0 : Nat) (he : ws[q0]? = some (a, .inl (cA 0, n, .inl f))) (hi : vp_in i n) (ws' : va_W) (he' : ws.set q0 (a, .inl (cA 0, n, .inl (upd f i.toNatClampNeg x))) = ws') (hdg : decode cc pc = .ok (.iastore, 1))
    (kk : ∀ (H1 : Heap) (locs1 : List Loc), Cw D cA s A ws' H1 locs1 → W p l e R s m args below meth c H1 locs1 cells slots Q (F0 m (pc + 1) ls rest)) : W p l e R s m args below meth c H locs cells slots Q (F0 m pc ls (.int x :: .int i :: .ref a :: rest)) := by
  refine va_iast (D := D) F.1 F.2.1 hW.1 hW.2.1 hW.2.2.1 hW.2.2.2.1 q0 0 he rfl hi hdg (fun H1 locs1 hP hD hS => ?_)
  rw [he'] at hP hD
  exact kk H1 locs1 (hW.mk hP hD hS)
theorem k_zast {a n : Nat} {f : Nat → Int32} {i x : Int32} (F : Fx p s m args meth c y0 cc nL ret) (hW : Cw D cA s A ws H locs) (q0 : Nat) (he : ws[q0]? = some (a, .inl (cA 1, n, .inl f))) (hi : vp_in i n) (hx : vp_nar .boolean x = x) (ws' : va_W) (he' : ws.set q0 (a, .inl (cA 1, n, .inl (upd f i.toNatClampNeg x))) = ws') (hdg : decode cc pc = .ok (.bastore, 1))
    (kk : ∀ (H1 : Heap) (locs1 : List Loc), Cw D cA s A ws' H1 locs1 → W p l e R s m args below meth c H1 locs1 cells slots Q (F0 m (pc + 1) ls rest)) : W p l e R s m args below meth c H locs cells slots Q (F0 m pc ls (.int x :: .int i :: .ref a :: rest)) := by
  refine va_zast (D := D) F.1 F.2.1 hW.1 hW.2.1 hW.2.2.1 hW.2.2.2.1 q0 1 he rfl hi hdg (fun H1 locs1 hP hD hS => ?_)
  rw [hx, he'] at hP hD
  exact kk H1 locs1 (hW.mk hP hD hS)
theorem k_cast {a n : Nat} {f : Nat → Int32} {i x : Int32} (F : Fx p s m args meth c y0 cc nL ret) (hW : Cw D cA s A ws H locs) (q0 : Nat) (he : ws[q0]? = some (a, .inl (cA 2, n, .inl f))) (hi : vp_in i n) (hx : vp_nar .char x = x) (ws' : va_W) (he' : ws.set q0 (a, .inl (cA 2, n, .inl (upd f i.toNatClampNeg x))) = ws') (hdg : decode cc pc = .ok (.castore, 1))
    (kk : ∀ (H1 : Heap) (locs1 : List Loc), Cw D cA s A ws' H1 locs1 → W p l e R s m args below meth c H1 locs1 cells slots Q (F0 m (pc + 1) ls rest)) : W p l e R s m args below meth c H locs cells slots Q (F0 m pc ls (.int x :: .int i :: .ref a :: rest)) := by
  refine va_cast (D := D) F.1 F.2.1 hW.1 hW.2.1 hW.2.2.1 hW.2.2.2.1 q0 2 he rfl hi hdg (fun H1 locs1 hP hD hS => ?_)
  rw [hx, he'] at hP hD
  exact kk H1 locs1 (hW.mk hP hD hS)
theorem k_fast {a n : Nat} {f : Nat → UInt32} {i : Int32} {x : UInt32} (F : Fx p s m args meth c y0 cc nL ret) (hW : Cw D cA s A ws H locs) (q0 : Nat) (he : ws[q0]? = some (a, .inl (cA 3, n, .inr (.inr (.inl f))))) (hi : vp_in i n) (ws' : va_W) (he' : ws.set q0 (a, .inl (cA 3, n, .inr (.inr (.inl (vf_upd f i.toNatClampNeg x))))) = ws') (hdg : decode cc pc = .ok (.fastore, 1))
    (kk : ∀ (H1 : Heap) (locs1 : List Loc), Cw D cA s A ws' H1 locs1 → W p l e R s m args below meth c H1 locs1 cells slots Q (F0 m (pc + 1) ls rest)) : W p l e R s m args below meth c H locs cells slots Q (F0 m pc ls (.float x :: .int i :: .ref a :: rest)) := by
  refine va_fast (D := D) F.1 F.2.1 hW.1 hW.2.1 hW.2.2.1 hW.2.2.2.1 q0 3 he rfl hi hdg (fun H1 locs1 hP hD hS => ?_)
  rw [he'] at hP hD
  exact kk H1 locs1 (hW.mk hP hD hS)
end KIT2
section BODY
variable {l : Launch} {y : MethodName} {cc : ByteArray} {nL : Nat} {ret : Option FieldType} {rm : Room} {D : va_G} {cA : Nat → ClassId} {ws : va_W} {as : List Value} {mc ms : Nat} {S : Type} {wo : S → va_W}
theorem k_bodyI {post : Int32 → S → Prop} (hy : plainName y.cls = true) (hn : (lg_sl as).length ≤ nL)
    (body : ∀ (p : Program) (e : Env) (s : State) (m : MethodId) (args : Array Value) (below : List Frame) (meth : Method) (c : Code) (ls : Array Slot), Fx p s m args meth c y cc nL ret → Cw D cA s (va_A ws s.heap.size) ws s.heap [] → lv_has ls nL (lv_args 0 as) →
      W p l e rm s m args below meth c s.heap [] 0 0 (MQ below (va_Qi post (fun u t => Qw D ws s.heap.size (wo u) t) (va_A ws s.heap.size)) args s mc ms (va_A ws s.heap.size)) (F0 m 0 ls [])) : MetI l y (.code y cc nL ret :: LW) rm D cA ws as post wo mc ms :=
  k_body (Qc := fun sz => va_Qi post (fun u t => Qw D ws sz (wo u) t) (va_A ws sz)) hy hn body
theorem k_bodyV {post : S → Prop} (hy : plainName y.cls = true) (hn : (lg_sl as).length ≤ nL)
    (body : ∀ (p : Program) (e : Env) (s : State) (m : MethodId) (args : Array Value) (below : List Frame) (meth : Method) (c : Code) (ls : Array Slot), Fx p s m args meth c y cc nL ret → Cw D cA s (va_A ws s.heap.size) ws s.heap [] → lv_has ls nL (lv_args 0 as) →
      W p l e rm s m args below meth c s.heap [] 0 0 (MQ below (va_Qv post (fun u t => Qw D ws s.heap.size (wo u) t) (va_A ws s.heap.size)) args s mc ms (va_A ws s.heap.size)) (F0 m 0 ls [])) : MetV l y (.code y cc nL ret :: LW) rm D cA ws as post wo mc ms :=
  k_body (Qc := fun sz => va_Qv post (fun u t => Qw D ws sz (wo u) t) (va_A ws sz)) hy hn body
theorem k_bodyL {post : Int64 → S → Prop} (hy : plainName y.cls = true) (hn : (lg_sl as).length ≤ nL)
    (body : ∀ (p : Program) (e : Env) (s : State) (m : MethodId) (args : Array Value) (below : List Frame) (meth : Method) (c : Code) (ls : Array Slot), Fx p s m args meth c y cc nL ret → Cw D cA s (va_A ws s.heap.size) ws s.heap [] → lv_has ls nL (lv_args 0 as) →
      W p l e rm s m args below meth c s.heap [] 0 0 (MQ below (va_Ql post (fun u t => Qw D ws s.heap.size (wo u) t) (va_A ws s.heap.size)) args s mc ms (va_A ws s.heap.size)) (F0 m 0 ls [])) : MetL l y (.code y cc nL ret :: LW) rm D cA ws as post wo mc ms :=
  k_body (Qc := fun sz => va_Ql post (fun u t => Qw D ws sz (wo u) t) (va_A ws sz)) hy hn body
theorem k_bodyF {post : UInt32 → S → Prop} (hy : plainName y.cls = true) (hn : (lg_sl as).length ≤ nL)
    (body : ∀ (p : Program) (e : Env) (s : State) (m : MethodId) (args : Array Value) (below : List Frame) (meth : Method) (c : Code) (ls : Array Slot), Fx p s m args meth c y cc nL ret → Cw D cA s (va_A ws s.heap.size) ws s.heap [] → lv_has ls nL (lv_args 0 as) →
      W p l e rm s m args below meth c s.heap [] 0 0 (MQ below (va_Qf post (fun u t => Qw D ws s.heap.size (wo u) t) (va_A ws s.heap.size)) args s mc ms (va_A ws s.heap.size)) (F0 m 0 ls [])) : MetF l y (.code y cc nL ret :: LW) rm D cA ws as post wo mc ms :=
  k_body (Qc := fun sz => va_Qf post (fun u t => Qw D ws sz (wo u) t) (va_A ws sz)) hy hn body
theorem k_bodyB {post : UInt64 → S → Prop} (hy : plainName y.cls = true) (hn : (lg_sl as).length ≤ nL)
    (body : ∀ (p : Program) (e : Env) (s : State) (m : MethodId) (args : Array Value) (below : List Frame) (meth : Method) (c : Code) (ls : Array Slot), Fx p s m args meth c y cc nL ret → Cw D cA s (va_A ws s.heap.size) ws s.heap [] → lv_has ls nL (lv_args 0 as) →
      W p l e rm s m args below meth c s.heap [] 0 0 (MQ below (va_Qd post (fun u t => Qw D ws s.heap.size (wo u) t) (va_A ws s.heap.size)) args s mc ms (va_A ws s.heap.size)) (F0 m 0 ls [])) : MetB l y (.code y cc nL ret :: LW) rm D cA ws as post wo mc ms :=
  k_body (Qc := fun sz => va_Qd post (fun u t => Qw D ws sz (wo u) t) (va_A ws sz)) hy hn body
theorem k_bodyR {post : Option Nat → S → Prop} (hy : plainName y.cls = true) (hn : (lg_sl as).length ≤ nL)
    (body : ∀ (p : Program) (e : Env) (s : State) (m : MethodId) (args : Array Value) (below : List Frame) (meth : Method) (c : Code) (ls : Array Slot), Fx p s m args meth c y cc nL ret → Cw D cA s (va_A ws s.heap.size) ws s.heap [] → lv_has ls nL (lv_args 0 as) →
      W p l e rm s m args below meth c s.heap [] 0 0 (MQ below (va_Qq post (fun u t => Qw D ws s.heap.size (wo u) t) (va_A ws s.heap.size)) args s mc ms (va_A ws s.heap.size)) (F0 m 0 ls [])) : MetR l y (.code y cc nL ret :: LW) rm D cA ws as post wo mc ms :=
  k_body (Qc := fun sz => va_Qq post (fun u t => Qw D ws sz (wo u) t) (va_A ws sz)) hy hn body
end BODY
theorem wi_t {v lo hi : Int32} (h : ¬ v < lo) (h2 : ¬ hi < v) : 1 = b2i (wi v lo hi) := by
  have a : lo ≤ v := Int32.not_lt.mp h
  have b : v ≤ hi := Int32.not_lt.mp h2
  simp [wi, b2i, a, b]
theorem wi_f1 {v lo hi : Int32} (h : v < lo) : 0 = b2i (wi v lo hi) := by
  have a : ¬ lo ≤ v := Int32.not_le.mpr h
  simp [wi, b2i, a]
theorem wi_f2 {v lo hi : Int32} (h : hi < v) : 0 = b2i (wi v lo hi) := by
  have a : ¬ v ≤ hi := Int32.not_le.mpr h
  simp [wi, b2i, a]
end
section
theorem hdS_X4_init : yX4_init.cls ≠ "java/lang/invoke/MethodHandle" ∧ yX4_init.cls ≠ "java/lang/invoke/VarHandle" ∧ (parseMethodDescriptor yX4_init.desc).map (fun d => d.parameters.length) = some 0 := by decide +kernel
theorem hdV_X4_init : yX4_init.cls = RX4 ∧ yX4_init.cls ≠ "java/lang/invoke/MethodHandle" ∧ yX4_init.cls ≠ "java/lang/invoke/VarHandle" ∧ (parseMethodDescriptor yX4_init.desc).map (fun d => d.parameters.length) = some 0 := ⟨rfl, hdS_X4_init⟩
theorem hdS_X4_beyond : yX4_beyond.cls ≠ "java/lang/invoke/MethodHandle" ∧ yX4_beyond.cls ≠ "java/lang/invoke/VarHandle" ∧ (parseMethodDescriptor yX4_beyond.desc).map (fun d => d.parameters.length) = some 0 := by decide +kernel
theorem hdV_X4_beyond : yX4_beyond.cls = RX4 ∧ yX4_beyond.cls ≠ "java/lang/invoke/MethodHandle" ∧ yX4_beyond.cls ≠ "java/lang/invoke/VarHandle" ∧ (parseMethodDescriptor yX4_beyond.desc).map (fun d => d.parameters.length) = some 0 := ⟨rfl, hdS_X4_beyond⟩
theorem hdS_X4_tick : yX4_tick.cls ≠ "java/lang/invoke/MethodHandle" ∧ yX4_tick.cls ≠ "java/lang/invoke/VarHandle" ∧ (parseMethodDescriptor yX4_tick.desc).map (fun d => d.parameters.length) = some 0 := by decide +kernel
theorem hdV_X4_tick : yX4_tick.cls = RX4 ∧ yX4_tick.cls ≠ "java/lang/invoke/MethodHandle" ∧ yX4_tick.cls ≠ "java/lang/invoke/VarHandle" ∧ (parseMethodDescriptor yX4_tick.desc).map (fun d => d.parameters.length) = some 0 := ⟨rfl, hdS_X4_tick⟩
theorem hdS_X2_isAtPier : yX2_isAtPier.cls ≠ "java/lang/invoke/MethodHandle" ∧ yX2_isAtPier.cls ≠ "java/lang/invoke/VarHandle" ∧ (parseMethodDescriptor yX2_isAtPier.desc).map (fun d => d.parameters.length) = some 0 := by decide +kernel
theorem hdV_X2_isAtPier : yX2_isAtPier.cls = RX2 ∧ yX2_isAtPier.cls ≠ "java/lang/invoke/MethodHandle" ∧ yX2_isAtPier.cls ≠ "java/lang/invoke/VarHandle" ∧ (parseMethodDescriptor yX2_isAtPier.desc).map (fun d => d.parameters.length) = some 0 := ⟨rfl, hdS_X2_isAtPier⟩
theorem hdS_X2_age : yX2_age.cls ≠ "java/lang/invoke/MethodHandle" ∧ yX2_age.cls ≠ "java/lang/invoke/VarHandle" ∧ (parseMethodDescriptor yX2_age.desc).map (fun d => d.parameters.length) = some 0 := by decide +kernel
theorem hdV_X2_age : yX2_age.cls = RX2 ∧ yX2_age.cls ≠ "java/lang/invoke/MethodHandle" ∧ yX2_age.cls ≠ "java/lang/invoke/VarHandle" ∧ (parseMethodDescriptor yX2_age.desc).map (fun d => d.parameters.length) = some 0 := ⟨rfl, hdS_X2_age⟩
theorem hdS_X2_iceForOneTick : yX2_iceForOneTick.cls ≠ "java/lang/invoke/MethodHandle" ∧ yX2_iceForOneTick.cls ≠ "java/lang/invoke/VarHandle" ∧ (parseMethodDescriptor yX2_iceForOneTick.desc).map (fun d => d.parameters.length) = some 0 := by decide +kernel
theorem hdV_X2_iceForOneTick : yX2_iceForOneTick.cls = RX2 ∧ yX2_iceForOneTick.cls ≠ "java/lang/invoke/MethodHandle" ∧ yX2_iceForOneTick.cls ≠ "java/lang/invoke/VarHandle" ∧ (parseMethodDescriptor yX2_iceForOneTick.desc).map (fun d => d.parameters.length) = some 0 := ⟨rfl, hdS_X2_iceForOneTick⟩
theorem hdS_X4_deliverAll : yX4_deliverAll.cls ≠ "java/lang/invoke/MethodHandle" ∧ yX4_deliverAll.cls ≠ "java/lang/invoke/VarHandle" ∧ (parseMethodDescriptor yX4_deliverAll.desc).map (fun d => d.parameters.length) = some 1 := by decide +kernel
theorem hdV_X4_deliverAll : yX4_deliverAll.cls = RX4 ∧ yX4_deliverAll.cls ≠ "java/lang/invoke/MethodHandle" ∧ yX4_deliverAll.cls ≠ "java/lang/invoke/VarHandle" ∧ (parseMethodDescriptor yX4_deliverAll.desc).map (fun d => d.parameters.length) = some 1 := ⟨rfl, hdS_X4_deliverAll⟩
theorem hdS_X4_giveMoneyBack : yX4_giveMoneyBack.cls ≠ "java/lang/invoke/MethodHandle" ∧ yX4_giveMoneyBack.cls ≠ "java/lang/invoke/VarHandle" ∧ (parseMethodDescriptor yX4_giveMoneyBack.desc).map (fun d => d.parameters.length) = some 1 := by decide +kernel
theorem hdV_X4_giveMoneyBack : yX4_giveMoneyBack.cls = RX4 ∧ yX4_giveMoneyBack.cls ≠ "java/lang/invoke/MethodHandle" ∧ yX4_giveMoneyBack.cls ≠ "java/lang/invoke/VarHandle" ∧ (parseMethodDescriptor yX4_giveMoneyBack.desc).map (fun d => d.parameters.length) = some 1 := ⟨rfl, hdS_X4_giveMoneyBack⟩
theorem hdS_X4_time : yX4_time.cls ≠ "java/lang/invoke/MethodHandle" ∧ yX4_time.cls ≠ "java/lang/invoke/VarHandle" ∧ (parseMethodDescriptor yX4_time.desc).map (fun d => d.parameters.length) = some 0 := by decide +kernel
theorem hdV_X4_time : yX4_time.cls = RX4 ∧ yX4_time.cls ≠ "java/lang/invoke/MethodHandle" ∧ yX4_time.cls ≠ "java/lang/invoke/VarHandle" ∧ (parseMethodDescriptor yX4_time.desc).map (fun d => d.parameters.length) = some 0 := ⟨rfl, hdS_X4_time⟩
theorem hdS_X4_income : yX4_income.cls ≠ "java/lang/invoke/MethodHandle" ∧ yX4_income.cls ≠ "java/lang/invoke/VarHandle" ∧ (parseMethodDescriptor yX4_income.desc).map (fun d => d.parameters.length) = some 0 := by decide +kernel
theorem hdV_X4_income : yX4_income.cls = RX4 ∧ yX4_income.cls ≠ "java/lang/invoke/MethodHandle" ∧ yX4_income.cls ≠ "java/lang/invoke/VarHandle" ∧ (parseMethodDescriptor yX4_income.desc).map (fun d => d.parameters.length) = some 0 := ⟨rfl, hdS_X4_income⟩
theorem hdS_X4_incomeByLots : yX4_incomeByLots.cls ≠ "java/lang/invoke/MethodHandle" ∧ yX4_incomeByLots.cls ≠ "java/lang/invoke/VarHandle" ∧ (parseMethodDescriptor yX4_incomeByLots.desc).map (fun d => d.parameters.length) = some 0 := by decide +kernel
theorem hdV_X4_incomeByLots : yX4_incomeByLots.cls = RX4 ∧ yX4_incomeByLots.cls ≠ "java/lang/invoke/MethodHandle" ∧ yX4_incomeByLots.cls ≠ "java/lang/invoke/VarHandle" ∧ (parseMethodDescriptor yX4_incomeByLots.desc).map (fun d => d.parameters.length) = some 0 := ⟨rfl, hdS_X4_incomeByLots⟩
theorem hdS_X4_spoiled : yX4_spoiled.cls ≠ "java/lang/invoke/MethodHandle" ∧ yX4_spoiled.cls ≠ "java/lang/invoke/VarHandle" ∧ (parseMethodDescriptor yX4_spoiled.desc).map (fun d => d.parameters.length) = some 0 := by decide +kernel
theorem hdV_X4_spoiled : yX4_spoiled.cls = RX4 ∧ yX4_spoiled.cls ≠ "java/lang/invoke/MethodHandle" ∧ yX4_spoiled.cls ≠ "java/lang/invoke/VarHandle" ∧ (parseMethodDescriptor yX4_spoiled.desc).map (fun d => d.parameters.length) = some 0 := ⟨rfl, hdS_X4_spoiled⟩
theorem hdS_X4_isSound : yX4_isSound.cls ≠ "java/lang/invoke/MethodHandle" ∧ yX4_isSound.cls ≠ "java/lang/invoke/VarHandle" ∧ (parseMethodDescriptor yX4_isSound.desc).map (fun d => d.parameters.length) = some 0 := by decide +kernel
theorem hdV_X4_isSound : yX4_isSound.cls = RX4 ∧ yX4_isSound.cls ≠ "java/lang/invoke/MethodHandle" ∧ yX4_isSound.cls ≠ "java/lang/invoke/VarHandle" ∧ (parseMethodDescriptor yX4_isSound.desc).map (fun d => d.parameters.length) = some 0 := ⟨rfl, hdS_X4_isSound⟩
theorem hdS_X4_arePricesSound : yX4_arePricesSound.cls ≠ "java/lang/invoke/MethodHandle" ∧ yX4_arePricesSound.cls ≠ "java/lang/invoke/VarHandle" ∧ (parseMethodDescriptor yX4_arePricesSound.desc).map (fun d => d.parameters.length) = some 0 := by decide +kernel
theorem hdV_X4_arePricesSound : yX4_arePricesSound.cls = RX4 ∧ yX4_arePricesSound.cls ≠ "java/lang/invoke/MethodHandle" ∧ yX4_arePricesSound.cls ≠ "java/lang/invoke/VarHandle" ∧ (parseMethodDescriptor yX4_arePricesSound.desc).map (fun d => d.parameters.length) = some 0 := ⟨rfl, hdS_X4_arePricesSound⟩
theorem hdS_X4_priceOnClock : yX4_priceOnClock.cls ≠ "java/lang/invoke/MethodHandle" ∧ yX4_priceOnClock.cls ≠ "java/lang/invoke/VarHandle" ∧ (parseMethodDescriptor yX4_priceOnClock.desc).map (fun d => d.parameters.length) = some 1 := by decide +kernel
theorem hdV_X4_priceOnClock : yX4_priceOnClock.cls = RX4 ∧ yX4_priceOnClock.cls ≠ "java/lang/invoke/MethodHandle" ∧ yX4_priceOnClock.cls ≠ "java/lang/invoke/VarHandle" ∧ (parseMethodDescriptor yX4_priceOnClock.desc).map (fun d => d.parameters.length) = some 1 := ⟨rfl, hdS_X4_priceOnClock⟩
theorem hdS_X4_greatestOfferFor : yX4_greatestOfferFor.cls ≠ "java/lang/invoke/MethodHandle" ∧ yX4_greatestOfferFor.cls ≠ "java/lang/invoke/VarHandle" ∧ (parseMethodDescriptor yX4_greatestOfferFor.desc).map (fun d => d.parameters.length) = some 1 := by decide +kernel
theorem hdV_X4_greatestOfferFor : yX4_greatestOfferFor.cls = RX4 ∧ yX4_greatestOfferFor.cls ≠ "java/lang/invoke/MethodHandle" ∧ yX4_greatestOfferFor.cls ≠ "java/lang/invoke/VarHandle" ∧ (parseMethodDescriptor yX4_greatestOfferFor.desc).map (fun d => d.parameters.length) = some 1 := ⟨rfl, hdS_X4_greatestOfferFor⟩
theorem hdS_X1_offerFor : yX1_offerFor.cls ≠ "java/lang/invoke/MethodHandle" ∧ yX1_offerFor.cls ≠ "java/lang/invoke/VarHandle" ∧ (parseMethodDescriptor yX1_offerFor.desc).map (fun d => d.parameters.length) = some 1 := by decide +kernel
theorem hdV_X1_offerFor : yX1_offerFor.cls = RX1 ∧ yX1_offerFor.cls ≠ "java/lang/invoke/MethodHandle" ∧ yX1_offerFor.cls ≠ "java/lang/invoke/VarHandle" ∧ (parseMethodDescriptor yX1_offerFor.desc).map (fun d => d.parameters.length) = some 1 := ⟨rfl, hdS_X1_offerFor⟩
theorem hdS_X4_bestTaker : yX4_bestTaker.cls ≠ "java/lang/invoke/MethodHandle" ∧ yX4_bestTaker.cls ≠ "java/lang/invoke/VarHandle" ∧ (parseMethodDescriptor yX4_bestTaker.desc).map (fun d => d.parameters.length) = some 2 := by decide +kernel
theorem hdV_X4_bestTaker : yX4_bestTaker.cls = RX4 ∧ yX4_bestTaker.cls ≠ "java/lang/invoke/MethodHandle" ∧ yX4_bestTaker.cls ≠ "java/lang/invoke/VarHandle" ∧ (parseMethodDescriptor yX4_bestTaker.desc).map (fun d => d.parameters.length) = some 2 := ⟨rfl, hdS_X4_bestTaker⟩
theorem hdS_X4_priceFromBuyers : yX4_priceFromBuyers.cls ≠ "java/lang/invoke/MethodHandle" ∧ yX4_priceFromBuyers.cls ≠ "java/lang/invoke/VarHandle" ∧ (parseMethodDescriptor yX4_priceFromBuyers.desc).map (fun d => d.parameters.length) = some 1 := by decide +kernel
theorem hdV_X4_priceFromBuyers : yX4_priceFromBuyers.cls = RX4 ∧ yX4_priceFromBuyers.cls ≠ "java/lang/invoke/MethodHandle" ∧ yX4_priceFromBuyers.cls ≠ "java/lang/invoke/VarHandle" ∧ (parseMethodDescriptor yX4_priceFromBuyers.desc).map (fun d => d.parameters.length) = some 1 := ⟨rfl, hdS_X4_priceFromBuyers⟩
theorem hdS_X1_mostFor : yX1_mostFor.cls ≠ "java/lang/invoke/MethodHandle" ∧ yX1_mostFor.cls ≠ "java/lang/invoke/VarHandle" ∧ (parseMethodDescriptor yX1_mostFor.desc).map (fun d => d.parameters.length) = some 1 := by decide +kernel
theorem hdV_X1_mostFor : yX1_mostFor.cls = RX1 ∧ yX1_mostFor.cls ≠ "java/lang/invoke/MethodHandle" ∧ yX1_mostFor.cls ≠ "java/lang/invoke/VarHandle" ∧ (parseMethodDescriptor yX1_mostFor.desc).map (fun d => d.parameters.length) = some 1 := ⟨rfl, hdS_X1_mostFor⟩
theorem hdS_X4_greatestShownUpTo : yX4_greatestShownUpTo.cls ≠ "java/lang/invoke/MethodHandle" ∧ yX4_greatestShownUpTo.cls ≠ "java/lang/invoke/VarHandle" ∧ (parseMethodDescriptor yX4_greatestShownUpTo.desc).map (fun d => d.parameters.length) = some 1 := by decide +kernel
theorem hdV_X4_greatestShownUpTo : yX4_greatestShownUpTo.cls = RX4 ∧ yX4_greatestShownUpTo.cls ≠ "java/lang/invoke/MethodHandle" ∧ yX4_greatestShownUpTo.cls ≠ "java/lang/invoke/VarHandle" ∧ (parseMethodDescriptor yX4_greatestShownUpTo.desc).map (fun d => d.parameters.length) = some 1 := ⟨rfl, hdS_X4_greatestShownUpTo⟩
theorem hdS_X4_areQuotasSound : yX4_areQuotasSound.cls ≠ "java/lang/invoke/MethodHandle" ∧ yX4_areQuotasSound.cls ≠ "java/lang/invoke/VarHandle" ∧ (parseMethodDescriptor yX4_areQuotasSound.desc).map (fun d => d.parameters.length) = some 0 := by decide +kernel
theorem hdV_X4_areQuotasSound : yX4_areQuotasSound.cls = RX4 ∧ yX4_areQuotasSound.cls ≠ "java/lang/invoke/MethodHandle" ∧ yX4_areQuotasSound.cls ≠ "java/lang/invoke/VarHandle" ∧ (parseMethodDescriptor yX4_areQuotasSound.desc).map (fun d => d.parameters.length) = some 0 := ⟨rfl, hdS_X4_areQuotasSound⟩
theorem hdS_X4_isQuotaSound : yX4_isQuotaSound.cls ≠ "java/lang/invoke/MethodHandle" ∧ yX4_isQuotaSound.cls ≠ "java/lang/invoke/VarHandle" ∧ (parseMethodDescriptor yX4_isQuotaSound.desc).map (fun d => d.parameters.length) = some 1 := by decide +kernel
theorem hdV_X4_isQuotaSound : yX4_isQuotaSound.cls = RX4 ∧ yX4_isQuotaSound.cls ≠ "java/lang/invoke/MethodHandle" ∧ yX4_isQuotaSound.cls ≠ "java/lang/invoke/VarHandle" ∧ (parseMethodDescriptor yX4_isQuotaSound.desc).map (fun d => d.parameters.length) = some 1 := ⟨rfl, hdS_X4_isQuotaSound⟩
theorem hdS_X4_landedBy : yX4_landedBy.cls ≠ "java/lang/invoke/MethodHandle" ∧ yX4_landedBy.cls ≠ "java/lang/invoke/VarHandle" ∧ (parseMethodDescriptor yX4_landedBy.desc).map (fun d => d.parameters.length) = some 2 := by decide +kernel
theorem hdV_X4_landedBy : yX4_landedBy.cls = RX4 ∧ yX4_landedBy.cls ≠ "java/lang/invoke/MethodHandle" ∧ yX4_landedBy.cls ≠ "java/lang/invoke/VarHandle" ∧ (parseMethodDescriptor yX4_landedBy.desc).map (fun d => d.parameters.length) = some 2 := ⟨rfl, hdS_X4_landedBy⟩
theorem hdS_L_addBoat : yL_addBoat.cls ≠ "java/lang/invoke/MethodHandle" ∧ yL_addBoat.cls ≠ "java/lang/invoke/VarHandle" ∧ (parseMethodDescriptor yL_addBoat.desc).map (fun d => d.parameters.length) = some 6 := by decide +kernel
theorem hdV_L_addBoat : yL_addBoat.cls = RL ∧ yL_addBoat.cls ≠ "java/lang/invoke/MethodHandle" ∧ yL_addBoat.cls ≠ "java/lang/invoke/VarHandle" ∧ (parseMethodDescriptor yL_addBoat.desc).map (fun d => d.parameters.length) = some 6 := ⟨rfl, hdS_L_addBoat⟩
theorem hdS_X4_addBoat : yX4_addBoat.cls ≠ "java/lang/invoke/MethodHandle" ∧ yX4_addBoat.cls ≠ "java/lang/invoke/VarHandle" ∧ (parseMethodDescriptor yX4_addBoat.desc).map (fun d => d.parameters.length) = some 4 := by decide +kernel
theorem hdV_X4_addBoat : yX4_addBoat.cls = RX4 ∧ yX4_addBoat.cls ≠ "java/lang/invoke/MethodHandle" ∧ yX4_addBoat.cls ≠ "java/lang/invoke/VarHandle" ∧ (parseMethodDescriptor yX4_addBoat.desc).map (fun d => d.parameters.length) = some 4 := ⟨rfl, hdS_X4_addBoat⟩
theorem hdS_X4_isQuota : yX4_isQuota.cls ≠ "java/lang/invoke/MethodHandle" ∧ yX4_isQuota.cls ≠ "java/lang/invoke/VarHandle" ∧ (parseMethodDescriptor yX4_isQuota.desc).map (fun d => d.parameters.length) = some 1 := by decide +kernel
theorem hdV_X4_isQuota : yX4_isQuota.cls = RX4 ∧ yX4_isQuota.cls ≠ "java/lang/invoke/MethodHandle" ∧ yX4_isQuota.cls ≠ "java/lang/invoke/VarHandle" ∧ (parseMethodDescriptor yX4_isQuota.desc).map (fun d => d.parameters.length) = some 1 := ⟨rfl, hdS_X4_isQuota⟩
theorem hdS_X4_isWithin : yX4_isWithin.cls ≠ "java/lang/invoke/MethodHandle" ∧ yX4_isWithin.cls ≠ "java/lang/invoke/VarHandle" ∧ (parseMethodDescriptor yX4_isWithin.desc).map (fun d => d.parameters.length) = some 3 := by decide +kernel
theorem hdV_X4_isWithin : yX4_isWithin.cls = RX4 ∧ yX4_isWithin.cls ≠ "java/lang/invoke/MethodHandle" ∧ yX4_isWithin.cls ≠ "java/lang/invoke/VarHandle" ∧ (parseMethodDescriptor yX4_isWithin.desc).map (fun d => d.parameters.length) = some 3 := ⟨rfl, hdS_X4_isWithin⟩
theorem hdS_X0_init : yX0_init.cls ≠ "java/lang/invoke/MethodHandle" ∧ yX0_init.cls ≠ "java/lang/invoke/VarHandle" ∧ (parseMethodDescriptor yX0_init.desc).map (fun d => d.parameters.length) = some 5 := by decide +kernel
theorem hdV_X0_init : yX0_init.cls = RX0 ∧ yX0_init.cls ≠ "java/lang/invoke/MethodHandle" ∧ yX0_init.cls ≠ "java/lang/invoke/VarHandle" ∧ (parseMethodDescriptor yX0_init.desc).map (fun d => d.parameters.length) = some 5 := ⟨rfl, hdS_X0_init⟩
theorem hdS_L_land : yL_land.cls ≠ "java/lang/invoke/MethodHandle" ∧ yL_land.cls ≠ "java/lang/invoke/VarHandle" ∧ (parseMethodDescriptor yL_land.desc).map (fun d => d.parameters.length) = some 7 := by decide +kernel
theorem hdV_L_land : yL_land.cls = RL ∧ yL_land.cls ≠ "java/lang/invoke/MethodHandle" ∧ yL_land.cls ≠ "java/lang/invoke/VarHandle" ∧ (parseMethodDescriptor yL_land.desc).map (fun d => d.parameters.length) = some 7 := ⟨rfl, hdS_L_land⟩
theorem hdS_X4_land : yX4_land.cls ≠ "java/lang/invoke/MethodHandle" ∧ yX4_land.cls ≠ "java/lang/invoke/VarHandle" ∧ (parseMethodDescriptor yX4_land.desc).map (fun d => d.parameters.length) = some 5 := by decide +kernel
theorem hdV_X4_land : yX4_land.cls = RX4 ∧ yX4_land.cls ≠ "java/lang/invoke/MethodHandle" ∧ yX4_land.cls ≠ "java/lang/invoke/VarHandle" ∧ (parseMethodDescriptor yX4_land.desc).map (fun d => d.parameters.length) = some 5 := ⟨rfl, hdS_X4_land⟩
theorem hdS_X4_boatNumbered : yX4_boatNumbered.cls ≠ "java/lang/invoke/MethodHandle" ∧ yX4_boatNumbered.cls ≠ "java/lang/invoke/VarHandle" ∧ (parseMethodDescriptor yX4_boatNumbered.desc).map (fun d => d.parameters.length) = some 1 := by decide +kernel
theorem hdV_X4_boatNumbered : yX4_boatNumbered.cls = RX4 ∧ yX4_boatNumbered.cls ≠ "java/lang/invoke/MethodHandle" ∧ yX4_boatNumbered.cls ≠ "java/lang/invoke/VarHandle" ∧ (parseMethodDescriptor yX4_boatNumbered.desc).map (fun d => d.parameters.length) = some 1 := ⟨rfl, hdS_X4_boatNumbered⟩
theorem hdS_X4_isSpecies : yX4_isSpecies.cls ≠ "java/lang/invoke/MethodHandle" ∧ yX4_isSpecies.cls ≠ "java/lang/invoke/VarHandle" ∧ (parseMethodDescriptor yX4_isSpecies.desc).map (fun d => d.parameters.length) = some 1 := by decide +kernel
theorem hdV_X4_isSpecies : yX4_isSpecies.cls = RX4 ∧ yX4_isSpecies.cls ≠ "java/lang/invoke/MethodHandle" ∧ yX4_isSpecies.cls ≠ "java/lang/invoke/VarHandle" ∧ (parseMethodDescriptor yX4_isSpecies.desc).map (fun d => d.parameters.length) = some 1 := ⟨rfl, hdS_X4_isSpecies⟩
theorem hdS_X2_init : yX2_init.cls ≠ "java/lang/invoke/MethodHandle" ∧ yX2_init.cls ≠ "java/lang/invoke/VarHandle" ∧ (parseMethodDescriptor yX2_init.desc).map (fun d => d.parameters.length) = some 6 := by decide +kernel
theorem hdV_X2_init : yX2_init.cls = RX2 ∧ yX2_init.cls ≠ "java/lang/invoke/MethodHandle" ∧ yX2_init.cls ≠ "java/lang/invoke/VarHandle" ∧ (parseMethodDescriptor yX2_init.desc).map (fun d => d.parameters.length) = some 6 := ⟨rfl, hdS_X2_init⟩
theorem hdS_L_moveQuota : yL_moveQuota.cls ≠ "java/lang/invoke/MethodHandle" ∧ yL_moveQuota.cls ≠ "java/lang/invoke/VarHandle" ∧ (parseMethodDescriptor yL_moveQuota.desc).map (fun d => d.parameters.length) = some 6 := by decide +kernel
theorem hdV_L_moveQuota : yL_moveQuota.cls = RL ∧ yL_moveQuota.cls ≠ "java/lang/invoke/MethodHandle" ∧ yL_moveQuota.cls ≠ "java/lang/invoke/VarHandle" ∧ (parseMethodDescriptor yL_moveQuota.desc).map (fun d => d.parameters.length) = some 6 := ⟨rfl, hdS_L_moveQuota⟩
theorem hdS_X4_moveQuota : yX4_moveQuota.cls ≠ "java/lang/invoke/MethodHandle" ∧ yX4_moveQuota.cls ≠ "java/lang/invoke/VarHandle" ∧ (parseMethodDescriptor yX4_moveQuota.desc).map (fun d => d.parameters.length) = some 4 := by decide +kernel
theorem hdV_X4_moveQuota : yX4_moveQuota.cls = RX4 ∧ yX4_moveQuota.cls ≠ "java/lang/invoke/MethodHandle" ∧ yX4_moveQuota.cls ≠ "java/lang/invoke/VarHandle" ∧ (parseMethodDescriptor yX4_moveQuota.desc).map (fun d => d.parameters.length) = some 4 := ⟨rfl, hdS_X4_moveQuota⟩
theorem hdS_X0_changeQuota : yX0_changeQuota.cls ≠ "java/lang/invoke/MethodHandle" ∧ yX0_changeQuota.cls ≠ "java/lang/invoke/VarHandle" ∧ (parseMethodDescriptor yX0_changeQuota.desc).map (fun d => d.parameters.length) = some 2 := by decide +kernel
theorem hdV_X0_changeQuota : yX0_changeQuota.cls = RX0 ∧ yX0_changeQuota.cls ≠ "java/lang/invoke/MethodHandle" ∧ yX0_changeQuota.cls ≠ "java/lang/invoke/VarHandle" ∧ (parseMethodDescriptor yX0_changeQuota.desc).map (fun d => d.parameters.length) = some 2 := ⟨rfl, hdS_X0_changeQuota⟩
theorem hdS_L_quota : yL_quota.cls ≠ "java/lang/invoke/MethodHandle" ∧ yL_quota.cls ≠ "java/lang/invoke/VarHandle" ∧ (parseMethodDescriptor yL_quota.desc).map (fun d => d.parameters.length) = some 4 := by decide +kernel
theorem hdV_L_quota : yL_quota.cls = RL ∧ yL_quota.cls ≠ "java/lang/invoke/MethodHandle" ∧ yL_quota.cls ≠ "java/lang/invoke/VarHandle" ∧ (parseMethodDescriptor yL_quota.desc).map (fun d => d.parameters.length) = some 4 := ⟨rfl, hdS_L_quota⟩
theorem hdS_X4_quota : yX4_quota.cls ≠ "java/lang/invoke/MethodHandle" ∧ yX4_quota.cls ≠ "java/lang/invoke/VarHandle" ∧ (parseMethodDescriptor yX4_quota.desc).map (fun d => d.parameters.length) = some 2 := by decide +kernel
theorem hdV_X4_quota : yX4_quota.cls = RX4 ∧ yX4_quota.cls ≠ "java/lang/invoke/MethodHandle" ∧ yX4_quota.cls ≠ "java/lang/invoke/VarHandle" ∧ (parseMethodDescriptor yX4_quota.desc).map (fun d => d.parameters.length) = some 2 := ⟨rfl, hdS_X4_quota⟩
theorem hdS_X4_checkSpecies : yX4_checkSpecies.cls ≠ "java/lang/invoke/MethodHandle" ∧ yX4_checkSpecies.cls ≠ "java/lang/invoke/VarHandle" ∧ (parseMethodDescriptor yX4_checkSpecies.desc).map (fun d => d.parameters.length) = some 1 := by decide +kernel
theorem hdV_X4_checkSpecies : yX4_checkSpecies.cls = RX4 ∧ yX4_checkSpecies.cls ≠ "java/lang/invoke/MethodHandle" ∧ yX4_checkSpecies.cls ≠ "java/lang/invoke/VarHandle" ∧ (parseMethodDescriptor yX4_checkSpecies.desc).map (fun d => d.parameters.length) = some 1 := ⟨rfl, hdS_X4_checkSpecies⟩
theorem hdS_L_quotaAt : yL_quotaAt.cls ≠ "java/lang/invoke/MethodHandle" ∧ yL_quotaAt.cls ≠ "java/lang/invoke/VarHandle" ∧ (parseMethodDescriptor yL_quotaAt.desc).map (fun d => d.parameters.length) = some 5 := by decide +kernel
theorem hdV_L_quotaAt : yL_quotaAt.cls = RL ∧ yL_quotaAt.cls ≠ "java/lang/invoke/MethodHandle" ∧ yL_quotaAt.cls ≠ "java/lang/invoke/VarHandle" ∧ (parseMethodDescriptor yL_quotaAt.desc).map (fun d => d.parameters.length) = some 5 := ⟨rfl, hdS_L_quotaAt⟩
theorem hdS_X4_quotaAt : yX4_quotaAt.cls ≠ "java/lang/invoke/MethodHandle" ∧ yX4_quotaAt.cls ≠ "java/lang/invoke/VarHandle" ∧ (parseMethodDescriptor yX4_quotaAt.desc).map (fun d => d.parameters.length) = some 3 := by decide +kernel
theorem hdV_X4_quotaAt : yX4_quotaAt.cls = RX4 ∧ yX4_quotaAt.cls ≠ "java/lang/invoke/MethodHandle" ∧ yX4_quotaAt.cls ≠ "java/lang/invoke/VarHandle" ∧ (parseMethodDescriptor yX4_quotaAt.desc).map (fun d => d.parameters.length) = some 3 := ⟨rfl, hdS_X4_quotaAt⟩
theorem hdS_X0_leftAtEnd : yX0_leftAtEnd.cls ≠ "java/lang/invoke/MethodHandle" ∧ yX0_leftAtEnd.cls ≠ "java/lang/invoke/VarHandle" ∧ (parseMethodDescriptor yX0_leftAtEnd.desc).map (fun d => d.parameters.length) = some 2 := by decide +kernel
theorem hdV_X0_leftAtEnd : yX0_leftAtEnd.cls = RX0 ∧ yX0_leftAtEnd.cls ≠ "java/lang/invoke/MethodHandle" ∧ yX0_leftAtEnd.cls ≠ "java/lang/invoke/VarHandle" ∧ (parseMethodDescriptor yX0_leftAtEnd.desc).map (fun d => d.parameters.length) = some 2 := ⟨rfl, hdS_X0_leftAtEnd⟩
theorem hdS_L_endDay : yL_endDay.cls ≠ "java/lang/invoke/MethodHandle" ∧ yL_endDay.cls ≠ "java/lang/invoke/VarHandle" ∧ (parseMethodDescriptor yL_endDay.desc).map (fun d => d.parameters.length) = some 2 := by decide +kernel
theorem hdV_L_endDay : yL_endDay.cls = RL ∧ yL_endDay.cls ≠ "java/lang/invoke/MethodHandle" ∧ yL_endDay.cls ≠ "java/lang/invoke/VarHandle" ∧ (parseMethodDescriptor yL_endDay.desc).map (fun d => d.parameters.length) = some 2 := ⟨rfl, hdS_L_endDay⟩
theorem hdS_X4_endDay : yX4_endDay.cls ≠ "java/lang/invoke/MethodHandle" ∧ yX4_endDay.cls ≠ "java/lang/invoke/VarHandle" ∧ (parseMethodDescriptor yX4_endDay.desc).map (fun d => d.parameters.length) = some 0 := by decide +kernel
theorem hdV_X4_endDay : yX4_endDay.cls = RX4 ∧ yX4_endDay.cls ≠ "java/lang/invoke/MethodHandle" ∧ yX4_endDay.cls ≠ "java/lang/invoke/VarHandle" ∧ (parseMethodDescriptor yX4_endDay.desc).map (fun d => d.parameters.length) = some 0 := ⟨rfl, hdS_X4_endDay⟩
theorem hdS_X0_writeDown : yX0_writeDown.cls ≠ "java/lang/invoke/MethodHandle" ∧ yX0_writeDown.cls ≠ "java/lang/invoke/VarHandle" ∧ (parseMethodDescriptor yX0_writeDown.desc).map (fun d => d.parameters.length) = some 1 := by decide +kernel
theorem hdV_X0_writeDown : yX0_writeDown.cls = RX0 ∧ yX0_writeDown.cls ≠ "java/lang/invoke/MethodHandle" ∧ yX0_writeDown.cls ≠ "java/lang/invoke/VarHandle" ∧ (parseMethodDescriptor yX0_writeDown.desc).map (fun d => d.parameters.length) = some 1 := ⟨rfl, hdS_X0_writeDown⟩
theorem hdS_L_weight : yL_weight.cls ≠ "java/lang/invoke/MethodHandle" ∧ yL_weight.cls ≠ "java/lang/invoke/VarHandle" ∧ (parseMethodDescriptor yL_weight.desc).map (fun d => d.parameters.length) = some 3 := by decide +kernel
theorem hdV_L_weight : yL_weight.cls = RL ∧ yL_weight.cls ≠ "java/lang/invoke/MethodHandle" ∧ yL_weight.cls ≠ "java/lang/invoke/VarHandle" ∧ (parseMethodDescriptor yL_weight.desc).map (fun d => d.parameters.length) = some 3 := ⟨rfl, hdS_L_weight⟩
theorem hdS_X4_weight : yX4_weight.cls ≠ "java/lang/invoke/MethodHandle" ∧ yX4_weight.cls ≠ "java/lang/invoke/VarHandle" ∧ (parseMethodDescriptor yX4_weight.desc).map (fun d => d.parameters.length) = some 1 := by decide +kernel
theorem hdV_X4_weight : yX4_weight.cls = RX4 ∧ yX4_weight.cls ≠ "java/lang/invoke/MethodHandle" ∧ yX4_weight.cls ≠ "java/lang/invoke/VarHandle" ∧ (parseMethodDescriptor yX4_weight.desc).map (fun d => d.parameters.length) = some 1 := ⟨rfl, hdS_X4_weight⟩
theorem hdS_X4_lotNumbered : yX4_lotNumbered.cls ≠ "java/lang/invoke/MethodHandle" ∧ yX4_lotNumbered.cls ≠ "java/lang/invoke/VarHandle" ∧ (parseMethodDescriptor yX4_lotNumbered.desc).map (fun d => d.parameters.length) = some 1 := by decide +kernel
theorem hdV_X4_lotNumbered : yX4_lotNumbered.cls = RX4 ∧ yX4_lotNumbered.cls ≠ "java/lang/invoke/MethodHandle" ∧ yX4_lotNumbered.cls ≠ "java/lang/invoke/VarHandle" ∧ (parseMethodDescriptor yX4_lotNumbered.desc).map (fun d => d.parameters.length) = some 1 := ⟨rfl, hdS_X4_lotNumbered⟩
theorem hdS_L_stateOf : yL_stateOf.cls ≠ "java/lang/invoke/MethodHandle" ∧ yL_stateOf.cls ≠ "java/lang/invoke/VarHandle" ∧ (parseMethodDescriptor yL_stateOf.desc).map (fun d => d.parameters.length) = some 3 := by decide +kernel
theorem hdV_L_stateOf : yL_stateOf.cls = RL ∧ yL_stateOf.cls ≠ "java/lang/invoke/MethodHandle" ∧ yL_stateOf.cls ≠ "java/lang/invoke/VarHandle" ∧ (parseMethodDescriptor yL_stateOf.desc).map (fun d => d.parameters.length) = some 3 := ⟨rfl, hdS_L_stateOf⟩
theorem hdS_X4_stateOf : yX4_stateOf.cls ≠ "java/lang/invoke/MethodHandle" ∧ yX4_stateOf.cls ≠ "java/lang/invoke/VarHandle" ∧ (parseMethodDescriptor yX4_stateOf.desc).map (fun d => d.parameters.length) = some 1 := by decide +kernel
theorem hdV_X4_stateOf : yX4_stateOf.cls = RX4 ∧ yX4_stateOf.cls ≠ "java/lang/invoke/MethodHandle" ∧ yX4_stateOf.cls ≠ "java/lang/invoke/VarHandle" ∧ (parseMethodDescriptor yX4_stateOf.desc).map (fun d => d.parameters.length) = some 1 := ⟨rfl, hdS_X4_stateOf⟩
theorem hdS_L_fresh : yL_fresh.cls ≠ "java/lang/invoke/MethodHandle" ∧ yL_fresh.cls ≠ "java/lang/invoke/VarHandle" ∧ (parseMethodDescriptor yL_fresh.desc).map (fun d => d.parameters.length) = some 3 := by decide +kernel
theorem hdV_L_fresh : yL_fresh.cls = RL ∧ yL_fresh.cls ≠ "java/lang/invoke/MethodHandle" ∧ yL_fresh.cls ≠ "java/lang/invoke/VarHandle" ∧ (parseMethodDescriptor yL_fresh.desc).map (fun d => d.parameters.length) = some 3 := ⟨rfl, hdS_L_fresh⟩
theorem hdS_X4_fresh : yX4_fresh.cls ≠ "java/lang/invoke/MethodHandle" ∧ yX4_fresh.cls ≠ "java/lang/invoke/VarHandle" ∧ (parseMethodDescriptor yX4_fresh.desc).map (fun d => d.parameters.length) = some 1 := by decide +kernel
theorem hdV_X4_fresh : yX4_fresh.cls = RX4 ∧ yX4_fresh.cls ≠ "java/lang/invoke/MethodHandle" ∧ yX4_fresh.cls ≠ "java/lang/invoke/VarHandle" ∧ (parseMethodDescriptor yX4_fresh.desc).map (fun d => d.parameters.length) = some 1 := ⟨rfl, hdS_X4_fresh⟩
theorem hdS_L_freshBits : yL_freshBits.cls ≠ "java/lang/invoke/MethodHandle" ∧ yL_freshBits.cls ≠ "java/lang/invoke/VarHandle" ∧ (parseMethodDescriptor yL_freshBits.desc).map (fun d => d.parameters.length) = some 3 := by decide +kernel
theorem hdV_L_freshBits : yL_freshBits.cls = RL ∧ yL_freshBits.cls ≠ "java/lang/invoke/MethodHandle" ∧ yL_freshBits.cls ≠ "java/lang/invoke/VarHandle" ∧ (parseMethodDescriptor yL_freshBits.desc).map (fun d => d.parameters.length) = some 3 := ⟨rfl, hdS_L_freshBits⟩
theorem hdS_X4_freshBits : yX4_freshBits.cls ≠ "java/lang/invoke/MethodHandle" ∧ yX4_freshBits.cls ≠ "java/lang/invoke/VarHandle" ∧ (parseMethodDescriptor yX4_freshBits.desc).map (fun d => d.parameters.length) = some 1 := by decide +kernel
theorem hdV_X4_freshBits : yX4_freshBits.cls = RX4 ∧ yX4_freshBits.cls ≠ "java/lang/invoke/MethodHandle" ∧ yX4_freshBits.cls ≠ "java/lang/invoke/VarHandle" ∧ (parseMethodDescriptor yX4_freshBits.desc).map (fun d => d.parameters.length) = some 1 := ⟨rfl, hdS_X4_freshBits⟩
theorem hdS_X4_bitsOfFreshness : yX4_bitsOfFreshness.cls ≠ "java/lang/invoke/MethodHandle" ∧ yX4_bitsOfFreshness.cls ≠ "java/lang/invoke/VarHandle" ∧ (parseMethodDescriptor yX4_bitsOfFreshness.desc).map (fun d => d.parameters.length) = some 1 := by decide +kernel
theorem hdV_X4_bitsOfFreshness : yX4_bitsOfFreshness.cls = RX4 ∧ yX4_bitsOfFreshness.cls ≠ "java/lang/invoke/MethodHandle" ∧ yX4_bitsOfFreshness.cls ≠ "java/lang/invoke/VarHandle" ∧ (parseMethodDescriptor yX4_bitsOfFreshness.desc).map (fun d => d.parameters.length) = some 1 := ⟨rfl, hdS_X4_bitsOfFreshness⟩
theorem hdS_L_ice : yL_ice.cls ≠ "java/lang/invoke/MethodHandle" ∧ yL_ice.cls ≠ "java/lang/invoke/VarHandle" ∧ (parseMethodDescriptor yL_ice.desc).map (fun d => d.parameters.length) = some 4 := by decide +kernel
theorem hdV_L_ice : yL_ice.cls = RL ∧ yL_ice.cls ≠ "java/lang/invoke/MethodHandle" ∧ yL_ice.cls ≠ "java/lang/invoke/VarHandle" ∧ (parseMethodDescriptor yL_ice.desc).map (fun d => d.parameters.length) = some 4 := ⟨rfl, hdS_L_ice⟩
theorem hdS_X4_ice : yX4_ice.cls ≠ "java/lang/invoke/MethodHandle" ∧ yX4_ice.cls ≠ "java/lang/invoke/VarHandle" ∧ (parseMethodDescriptor yX4_ice.desc).map (fun d => d.parameters.length) = some 2 := by decide +kernel
theorem hdV_X4_ice : yX4_ice.cls = RX4 ∧ yX4_ice.cls ≠ "java/lang/invoke/MethodHandle" ∧ yX4_ice.cls ≠ "java/lang/invoke/VarHandle" ∧ (parseMethodDescriptor yX4_ice.desc).map (fun d => d.parameters.length) = some 2 := ⟨rfl, hdS_X4_ice⟩
theorem hdS_L_iceOn : yL_iceOn.cls ≠ "java/lang/invoke/MethodHandle" ∧ yL_iceOn.cls ≠ "java/lang/invoke/VarHandle" ∧ (parseMethodDescriptor yL_iceOn.desc).map (fun d => d.parameters.length) = some 3 := by decide +kernel
theorem hdV_L_iceOn : yL_iceOn.cls = RL ∧ yL_iceOn.cls ≠ "java/lang/invoke/MethodHandle" ∧ yL_iceOn.cls ≠ "java/lang/invoke/VarHandle" ∧ (parseMethodDescriptor yL_iceOn.desc).map (fun d => d.parameters.length) = some 3 := ⟨rfl, hdS_L_iceOn⟩
theorem hdS_X4_iceOn : yX4_iceOn.cls ≠ "java/lang/invoke/MethodHandle" ∧ yX4_iceOn.cls ≠ "java/lang/invoke/VarHandle" ∧ (parseMethodDescriptor yX4_iceOn.desc).map (fun d => d.parameters.length) = some 1 := by decide +kernel
theorem hdV_X4_iceOn : yX4_iceOn.cls = RX4 ∧ yX4_iceOn.cls ≠ "java/lang/invoke/MethodHandle" ∧ yX4_iceOn.cls ≠ "java/lang/invoke/VarHandle" ∧ (parseMethodDescriptor yX4_iceOn.desc).map (fun d => d.parameters.length) = some 1 := ⟨rfl, hdS_X4_iceOn⟩
theorem hdS_L_iceLasts : yL_iceLasts.cls ≠ "java/lang/invoke/MethodHandle" ∧ yL_iceLasts.cls ≠ "java/lang/invoke/VarHandle" ∧ (parseMethodDescriptor yL_iceLasts.desc).map (fun d => d.parameters.length) = some 3 := by decide +kernel
theorem hdV_L_iceLasts : yL_iceLasts.cls = RL ∧ yL_iceLasts.cls ≠ "java/lang/invoke/MethodHandle" ∧ yL_iceLasts.cls ≠ "java/lang/invoke/VarHandle" ∧ (parseMethodDescriptor yL_iceLasts.desc).map (fun d => d.parameters.length) = some 3 := ⟨rfl, hdS_L_iceLasts⟩
theorem hdS_X4_iceLasts : yX4_iceLasts.cls ≠ "java/lang/invoke/MethodHandle" ∧ yX4_iceLasts.cls ≠ "java/lang/invoke/VarHandle" ∧ (parseMethodDescriptor yX4_iceLasts.desc).map (fun d => d.parameters.length) = some 1 := by decide +kernel
theorem hdV_X4_iceLasts : yX4_iceLasts.cls = RX4 ∧ yX4_iceLasts.cls ≠ "java/lang/invoke/MethodHandle" ∧ yX4_iceLasts.cls ≠ "java/lang/invoke/VarHandle" ∧ (parseMethodDescriptor yX4_iceLasts.desc).map (fun d => d.parameters.length) = some 1 := ⟨rfl, hdS_X4_iceLasts⟩
theorem hdS_X2_ticksOfIce : yX2_ticksOfIce.cls ≠ "java/lang/invoke/MethodHandle" ∧ yX2_ticksOfIce.cls ≠ "java/lang/invoke/VarHandle" ∧ (parseMethodDescriptor yX2_ticksOfIce.desc).map (fun d => d.parameters.length) = some 0 := by decide +kernel
theorem hdV_X2_ticksOfIce : yX2_ticksOfIce.cls = RX2 ∧ yX2_ticksOfIce.cls ≠ "java/lang/invoke/MethodHandle" ∧ yX2_ticksOfIce.cls ≠ "java/lang/invoke/VarHandle" ∧ (parseMethodDescriptor yX2_ticksOfIce.desc).map (fun d => d.parameters.length) = some 0 := ⟨rfl, hdS_X2_ticksOfIce⟩
theorem hdS_L_addBuyer : yL_addBuyer.cls ≠ "java/lang/invoke/MethodHandle" ∧ yL_addBuyer.cls ≠ "java/lang/invoke/VarHandle" ∧ (parseMethodDescriptor yL_addBuyer.desc).map (fun d => d.parameters.length) = some 3 := by decide +kernel
theorem hdV_L_addBuyer : yL_addBuyer.cls = RL ∧ yL_addBuyer.cls ≠ "java/lang/invoke/MethodHandle" ∧ yL_addBuyer.cls ≠ "java/lang/invoke/VarHandle" ∧ (parseMethodDescriptor yL_addBuyer.desc).map (fun d => d.parameters.length) = some 3 := ⟨rfl, hdS_L_addBuyer⟩
theorem hdS_X4_addBuyer : yX4_addBuyer.cls ≠ "java/lang/invoke/MethodHandle" ∧ yX4_addBuyer.cls ≠ "java/lang/invoke/VarHandle" ∧ (parseMethodDescriptor yX4_addBuyer.desc).map (fun d => d.parameters.length) = some 1 := by decide +kernel
theorem hdV_X4_addBuyer : yX4_addBuyer.cls = RX4 ∧ yX4_addBuyer.cls ≠ "java/lang/invoke/MethodHandle" ∧ yX4_addBuyer.cls ≠ "java/lang/invoke/VarHandle" ∧ (parseMethodDescriptor yX4_addBuyer.desc).map (fun d => d.parameters.length) = some 1 := ⟨rfl, hdS_X4_addBuyer⟩
theorem hdS_X1_init : yX1_init.cls ≠ "java/lang/invoke/MethodHandle" ∧ yX1_init.cls ≠ "java/lang/invoke/VarHandle" ∧ (parseMethodDescriptor yX1_init.desc).map (fun d => d.parameters.length) = some 2 := by decide +kernel
theorem hdV_X1_init : yX1_init.cls = RX1 ∧ yX1_init.cls ≠ "java/lang/invoke/MethodHandle" ∧ yX1_init.cls ≠ "java/lang/invoke/VarHandle" ∧ (parseMethodDescriptor yX1_init.desc).map (fun d => d.parameters.length) = some 2 := ⟨rfl, hdS_X1_init⟩
theorem hdS_L_setLimit : yL_setLimit.cls ≠ "java/lang/invoke/MethodHandle" ∧ yL_setLimit.cls ≠ "java/lang/invoke/VarHandle" ∧ (parseMethodDescriptor yL_setLimit.desc).map (fun d => d.parameters.length) = some 5 := by decide +kernel
theorem hdV_L_setLimit : yL_setLimit.cls = RL ∧ yL_setLimit.cls ≠ "java/lang/invoke/MethodHandle" ∧ yL_setLimit.cls ≠ "java/lang/invoke/VarHandle" ∧ (parseMethodDescriptor yL_setLimit.desc).map (fun d => d.parameters.length) = some 5 := ⟨rfl, hdS_L_setLimit⟩
theorem hdS_X4_setLimit : yX4_setLimit.cls ≠ "java/lang/invoke/MethodHandle" ∧ yX4_setLimit.cls ≠ "java/lang/invoke/VarHandle" ∧ (parseMethodDescriptor yX4_setLimit.desc).map (fun d => d.parameters.length) = some 3 := by decide +kernel
theorem hdV_X4_setLimit : yX4_setLimit.cls = RX4 ∧ yX4_setLimit.cls ≠ "java/lang/invoke/MethodHandle" ∧ yX4_setLimit.cls ≠ "java/lang/invoke/VarHandle" ∧ (parseMethodDescriptor yX4_setLimit.desc).map (fun d => d.parameters.length) = some 3 := ⟨rfl, hdS_X4_setLimit⟩
theorem hdS_X4_buyerNumbered : yX4_buyerNumbered.cls ≠ "java/lang/invoke/MethodHandle" ∧ yX4_buyerNumbered.cls ≠ "java/lang/invoke/VarHandle" ∧ (parseMethodDescriptor yX4_buyerNumbered.desc).map (fun d => d.parameters.length) = some 1 := by decide +kernel
theorem hdV_X4_buyerNumbered : yX4_buyerNumbered.cls = RX4 ∧ yX4_buyerNumbered.cls ≠ "java/lang/invoke/MethodHandle" ∧ yX4_buyerNumbered.cls ≠ "java/lang/invoke/VarHandle" ∧ (parseMethodDescriptor yX4_buyerNumbered.desc).map (fun d => d.parameters.length) = some 1 := ⟨rfl, hdS_X4_buyerNumbered⟩
theorem hdS_L_budget : yL_budget.cls ≠ "java/lang/invoke/MethodHandle" ∧ yL_budget.cls ≠ "java/lang/invoke/VarHandle" ∧ (parseMethodDescriptor yL_budget.desc).map (fun d => d.parameters.length) = some 3 := by decide +kernel
theorem hdV_L_budget : yL_budget.cls = RL ∧ yL_budget.cls ≠ "java/lang/invoke/MethodHandle" ∧ yL_budget.cls ≠ "java/lang/invoke/VarHandle" ∧ (parseMethodDescriptor yL_budget.desc).map (fun d => d.parameters.length) = some 3 := ⟨rfl, hdS_L_budget⟩
theorem hdS_X4_budget : yX4_budget.cls ≠ "java/lang/invoke/MethodHandle" ∧ yX4_budget.cls ≠ "java/lang/invoke/VarHandle" ∧ (parseMethodDescriptor yX4_budget.desc).map (fun d => d.parameters.length) = some 1 := by decide +kernel
theorem hdV_X4_budget : yX4_budget.cls = RX4 ∧ yX4_budget.cls ≠ "java/lang/invoke/MethodHandle" ∧ yX4_budget.cls ≠ "java/lang/invoke/VarHandle" ∧ (parseMethodDescriptor yX4_budget.desc).map (fun d => d.parameters.length) = some 1 := ⟨rfl, hdS_X4_budget⟩
theorem hdS_L_setClock : yL_setClock.cls ≠ "java/lang/invoke/MethodHandle" ∧ yL_setClock.cls ≠ "java/lang/invoke/VarHandle" ∧ (parseMethodDescriptor yL_setClock.desc).map (fun d => d.parameters.length) = some 5 := by decide +kernel
theorem hdV_L_setClock : yL_setClock.cls = RL ∧ yL_setClock.cls ≠ "java/lang/invoke/MethodHandle" ∧ yL_setClock.cls ≠ "java/lang/invoke/VarHandle" ∧ (parseMethodDescriptor yL_setClock.desc).map (fun d => d.parameters.length) = some 5 := ⟨rfl, hdS_L_setClock⟩
theorem hdS_X4_setClock : yX4_setClock.cls ≠ "java/lang/invoke/MethodHandle" ∧ yX4_setClock.cls ≠ "java/lang/invoke/VarHandle" ∧ (parseMethodDescriptor yX4_setClock.desc).map (fun d => d.parameters.length) = some 3 := by decide +kernel
theorem hdV_X4_setClock : yX4_setClock.cls = RX4 ∧ yX4_setClock.cls ≠ "java/lang/invoke/MethodHandle" ∧ yX4_setClock.cls ≠ "java/lang/invoke/VarHandle" ∧ (parseMethodDescriptor yX4_setClock.desc).map (fun d => d.parameters.length) = some 3 := ⟨rfl, hdS_X4_setClock⟩
theorem hdS_L_offer : yL_offer.cls ≠ "java/lang/invoke/MethodHandle" ∧ yL_offer.cls ≠ "java/lang/invoke/VarHandle" ∧ (parseMethodDescriptor yL_offer.desc).map (fun d => d.parameters.length) = some 4 := by decide +kernel
theorem hdV_L_offer : yL_offer.cls = RL ∧ yL_offer.cls ≠ "java/lang/invoke/MethodHandle" ∧ yL_offer.cls ≠ "java/lang/invoke/VarHandle" ∧ (parseMethodDescriptor yL_offer.desc).map (fun d => d.parameters.length) = some 4 := ⟨rfl, hdS_L_offer⟩
theorem hdS_X4_offer : yX4_offer.cls ≠ "java/lang/invoke/MethodHandle" ∧ yX4_offer.cls ≠ "java/lang/invoke/VarHandle" ∧ (parseMethodDescriptor yX4_offer.desc).map (fun d => d.parameters.length) = some 2 := by decide +kernel
theorem hdV_X4_offer : yX4_offer.cls = RX4 ∧ yX4_offer.cls ≠ "java/lang/invoke/MethodHandle" ∧ yX4_offer.cls ≠ "java/lang/invoke/VarHandle" ∧ (parseMethodDescriptor yX4_offer.desc).map (fun d => d.parameters.length) = some 2 := ⟨rfl, hdS_X4_offer⟩
theorem hdS_L_price : yL_price.cls ≠ "java/lang/invoke/MethodHandle" ∧ yL_price.cls ≠ "java/lang/invoke/VarHandle" ∧ (parseMethodDescriptor yL_price.desc).map (fun d => d.parameters.length) = some 3 := by decide +kernel
theorem hdV_L_price : yL_price.cls = RL ∧ yL_price.cls ≠ "java/lang/invoke/MethodHandle" ∧ yL_price.cls ≠ "java/lang/invoke/VarHandle" ∧ (parseMethodDescriptor yL_price.desc).map (fun d => d.parameters.length) = some 3 := ⟨rfl, hdS_L_price⟩
theorem hdS_X4_price : yX4_price.cls ≠ "java/lang/invoke/MethodHandle" ∧ yX4_price.cls ≠ "java/lang/invoke/VarHandle" ∧ (parseMethodDescriptor yX4_price.desc).map (fun d => d.parameters.length) = some 1 := by decide +kernel
theorem hdV_X4_price : yX4_price.cls = RX4 ∧ yX4_price.cls ≠ "java/lang/invoke/MethodHandle" ∧ yX4_price.cls ≠ "java/lang/invoke/VarHandle" ∧ (parseMethodDescriptor yX4_price.desc).map (fun d => d.parameters.length) = some 1 := ⟨rfl, hdS_X4_price⟩
theorem hdS_X4_lotForSale : yX4_lotForSale.cls ≠ "java/lang/invoke/MethodHandle" ∧ yX4_lotForSale.cls ≠ "java/lang/invoke/VarHandle" ∧ (parseMethodDescriptor yX4_lotForSale.desc).map (fun d => d.parameters.length) = some 1 := by decide +kernel
theorem hdV_X4_lotForSale : yX4_lotForSale.cls = RX4 ∧ yX4_lotForSale.cls ≠ "java/lang/invoke/MethodHandle" ∧ yX4_lotForSale.cls ≠ "java/lang/invoke/VarHandle" ∧ (parseMethodDescriptor yX4_lotForSale.desc).map (fun d => d.parameters.length) = some 1 := ⟨rfl, hdS_X4_lotForSale⟩
theorem hdS_L_priceByBuyers : yL_priceByBuyers.cls ≠ "java/lang/invoke/MethodHandle" ∧ yL_priceByBuyers.cls ≠ "java/lang/invoke/VarHandle" ∧ (parseMethodDescriptor yL_priceByBuyers.desc).map (fun d => d.parameters.length) = some 3 := by decide +kernel
theorem hdV_L_priceByBuyers : yL_priceByBuyers.cls = RL ∧ yL_priceByBuyers.cls ≠ "java/lang/invoke/MethodHandle" ∧ yL_priceByBuyers.cls ≠ "java/lang/invoke/VarHandle" ∧ (parseMethodDescriptor yL_priceByBuyers.desc).map (fun d => d.parameters.length) = some 3 := ⟨rfl, hdS_L_priceByBuyers⟩
theorem hdS_X4_priceByBuyers : yX4_priceByBuyers.cls ≠ "java/lang/invoke/MethodHandle" ∧ yX4_priceByBuyers.cls ≠ "java/lang/invoke/VarHandle" ∧ (parseMethodDescriptor yX4_priceByBuyers.desc).map (fun d => d.parameters.length) = some 1 := by decide +kernel
theorem hdV_X4_priceByBuyers : yX4_priceByBuyers.cls = RX4 ∧ yX4_priceByBuyers.cls ≠ "java/lang/invoke/MethodHandle" ∧ yX4_priceByBuyers.cls ≠ "java/lang/invoke/VarHandle" ∧ (parseMethodDescriptor yX4_priceByBuyers.desc).map (fun d => d.parameters.length) = some 1 := ⟨rfl, hdS_X4_priceByBuyers⟩
theorem hdS_L_sell : yL_sell.cls ≠ "java/lang/invoke/MethodHandle" ∧ yL_sell.cls ≠ "java/lang/invoke/VarHandle" ∧ (parseMethodDescriptor yL_sell.desc).map (fun d => d.parameters.length) = some 3 := by decide +kernel
theorem hdV_L_sell : yL_sell.cls = RL ∧ yL_sell.cls ≠ "java/lang/invoke/MethodHandle" ∧ yL_sell.cls ≠ "java/lang/invoke/VarHandle" ∧ (parseMethodDescriptor yL_sell.desc).map (fun d => d.parameters.length) = some 3 := ⟨rfl, hdS_L_sell⟩
theorem hdS_X4_sell : yX4_sell.cls ≠ "java/lang/invoke/MethodHandle" ∧ yX4_sell.cls ≠ "java/lang/invoke/VarHandle" ∧ (parseMethodDescriptor yX4_sell.desc).map (fun d => d.parameters.length) = some 1 := by decide +kernel
theorem hdV_X4_sell : yX4_sell.cls = RX4 ∧ yX4_sell.cls ≠ "java/lang/invoke/MethodHandle" ∧ yX4_sell.cls ≠ "java/lang/invoke/VarHandle" ∧ (parseMethodDescriptor yX4_sell.desc).map (fun d => d.parameters.length) = some 1 := ⟨rfl, hdS_X4_sell⟩
theorem hdS_L_buyerOf : yL_buyerOf.cls ≠ "java/lang/invoke/MethodHandle" ∧ yL_buyerOf.cls ≠ "java/lang/invoke/VarHandle" ∧ (parseMethodDescriptor yL_buyerOf.desc).map (fun d => d.parameters.length) = some 3 := by decide +kernel
theorem hdV_L_buyerOf : yL_buyerOf.cls = RL ∧ yL_buyerOf.cls ≠ "java/lang/invoke/MethodHandle" ∧ yL_buyerOf.cls ≠ "java/lang/invoke/VarHandle" ∧ (parseMethodDescriptor yL_buyerOf.desc).map (fun d => d.parameters.length) = some 3 := ⟨rfl, hdS_L_buyerOf⟩
theorem hdS_X4_buyerOf : yX4_buyerOf.cls ≠ "java/lang/invoke/MethodHandle" ∧ yX4_buyerOf.cls ≠ "java/lang/invoke/VarHandle" ∧ (parseMethodDescriptor yX4_buyerOf.desc).map (fun d => d.parameters.length) = some 1 := by decide +kernel
theorem hdV_X4_buyerOf : yX4_buyerOf.cls = RX4 ∧ yX4_buyerOf.cls ≠ "java/lang/invoke/MethodHandle" ∧ yX4_buyerOf.cls ≠ "java/lang/invoke/VarHandle" ∧ (parseMethodDescriptor yX4_buyerOf.desc).map (fun d => d.parameters.length) = some 1 := ⟨rfl, hdS_X4_buyerOf⟩
theorem hdS_L_paidFor : yL_paidFor.cls ≠ "java/lang/invoke/MethodHandle" ∧ yL_paidFor.cls ≠ "java/lang/invoke/VarHandle" ∧ (parseMethodDescriptor yL_paidFor.desc).map (fun d => d.parameters.length) = some 3 := by decide +kernel
theorem hdV_L_paidFor : yL_paidFor.cls = RL ∧ yL_paidFor.cls ≠ "java/lang/invoke/MethodHandle" ∧ yL_paidFor.cls ≠ "java/lang/invoke/VarHandle" ∧ (parseMethodDescriptor yL_paidFor.desc).map (fun d => d.parameters.length) = some 3 := ⟨rfl, hdS_L_paidFor⟩
theorem hdS_X4_paidFor : yX4_paidFor.cls ≠ "java/lang/invoke/MethodHandle" ∧ yX4_paidFor.cls ≠ "java/lang/invoke/VarHandle" ∧ (parseMethodDescriptor yX4_paidFor.desc).map (fun d => d.parameters.length) = some 1 := by decide +kernel
theorem hdV_X4_paidFor : yX4_paidFor.cls = RX4 ∧ yX4_paidFor.cls ≠ "java/lang/invoke/MethodHandle" ∧ yX4_paidFor.cls ≠ "java/lang/invoke/VarHandle" ∧ (parseMethodDescriptor yX4_paidFor.desc).map (fun d => d.parameters.length) = some 1 := ⟨rfl, hdS_X4_paidFor⟩
theorem hdS_L_addTruck : yL_addTruck.cls ≠ "java/lang/invoke/MethodHandle" ∧ yL_addTruck.cls ≠ "java/lang/invoke/VarHandle" ∧ (parseMethodDescriptor yL_addTruck.desc).map (fun d => d.parameters.length) = some 5 := by decide +kernel
theorem hdV_L_addTruck : yL_addTruck.cls = RL ∧ yL_addTruck.cls ≠ "java/lang/invoke/MethodHandle" ∧ yL_addTruck.cls ≠ "java/lang/invoke/VarHandle" ∧ (parseMethodDescriptor yL_addTruck.desc).map (fun d => d.parameters.length) = some 5 := ⟨rfl, hdS_L_addTruck⟩
theorem hdS_X4_addTruck : yX4_addTruck.cls ≠ "java/lang/invoke/MethodHandle" ∧ yX4_addTruck.cls ≠ "java/lang/invoke/VarHandle" ∧ (parseMethodDescriptor yX4_addTruck.desc).map (fun d => d.parameters.length) = some 3 := by decide +kernel
theorem hdV_X4_addTruck : yX4_addTruck.cls = RX4 ∧ yX4_addTruck.cls ≠ "java/lang/invoke/MethodHandle" ∧ yX4_addTruck.cls ≠ "java/lang/invoke/VarHandle" ∧ (parseMethodDescriptor yX4_addTruck.desc).map (fun d => d.parameters.length) = some 3 := ⟨rfl, hdS_X4_addTruck⟩
theorem hdS_X3_init : yX3_init.cls ≠ "java/lang/invoke/MethodHandle" ∧ yX3_init.cls ≠ "java/lang/invoke/VarHandle" ∧ (parseMethodDescriptor yX3_init.desc).map (fun d => d.parameters.length) = some 3 := by decide +kernel
theorem hdV_X3_init : yX3_init.cls = RX3 ∧ yX3_init.cls ≠ "java/lang/invoke/MethodHandle" ∧ yX3_init.cls ≠ "java/lang/invoke/VarHandle" ∧ (parseMethodDescriptor yX3_init.desc).map (fun d => d.parameters.length) = some 3 := ⟨rfl, hdS_X3_init⟩
theorem hdS_L_load : yL_load.cls ≠ "java/lang/invoke/MethodHandle" ∧ yL_load.cls ≠ "java/lang/invoke/VarHandle" ∧ (parseMethodDescriptor yL_load.desc).map (fun d => d.parameters.length) = some 4 := by decide +kernel
theorem hdV_L_load : yL_load.cls = RL ∧ yL_load.cls ≠ "java/lang/invoke/MethodHandle" ∧ yL_load.cls ≠ "java/lang/invoke/VarHandle" ∧ (parseMethodDescriptor yL_load.desc).map (fun d => d.parameters.length) = some 4 := ⟨rfl, hdS_L_load⟩
theorem hdS_X4_load : yX4_load.cls ≠ "java/lang/invoke/MethodHandle" ∧ yX4_load.cls ≠ "java/lang/invoke/VarHandle" ∧ (parseMethodDescriptor yX4_load.desc).map (fun d => d.parameters.length) = some 2 := by decide +kernel
theorem hdV_X4_load : yX4_load.cls = RX4 ∧ yX4_load.cls ≠ "java/lang/invoke/MethodHandle" ∧ yX4_load.cls ≠ "java/lang/invoke/VarHandle" ∧ (parseMethodDescriptor yX4_load.desc).map (fun d => d.parameters.length) = some 2 := ⟨rfl, hdS_X4_load⟩
theorem hdS_X4_truckNumbered : yX4_truckNumbered.cls ≠ "java/lang/invoke/MethodHandle" ∧ yX4_truckNumbered.cls ≠ "java/lang/invoke/VarHandle" ∧ (parseMethodDescriptor yX4_truckNumbered.desc).map (fun d => d.parameters.length) = some 1 := by decide +kernel
theorem hdV_X4_truckNumbered : yX4_truckNumbered.cls = RX4 ∧ yX4_truckNumbered.cls ≠ "java/lang/invoke/MethodHandle" ∧ yX4_truckNumbered.cls ≠ "java/lang/invoke/VarHandle" ∧ (parseMethodDescriptor yX4_truckNumbered.desc).map (fun d => d.parameters.length) = some 1 := ⟨rfl, hdS_X4_truckNumbered⟩
theorem hdS_X3_hasPlaceFor : yX3_hasPlaceFor.cls ≠ "java/lang/invoke/MethodHandle" ∧ yX3_hasPlaceFor.cls ≠ "java/lang/invoke/VarHandle" ∧ (parseMethodDescriptor yX3_hasPlaceFor.desc).map (fun d => d.parameters.length) = some 1 := by decide +kernel
theorem hdV_X3_hasPlaceFor : yX3_hasPlaceFor.cls = RX3 ∧ yX3_hasPlaceFor.cls ≠ "java/lang/invoke/MethodHandle" ∧ yX3_hasPlaceFor.cls ≠ "java/lang/invoke/VarHandle" ∧ (parseMethodDescriptor yX3_hasPlaceFor.desc).map (fun d => d.parameters.length) = some 1 := ⟨rfl, hdS_X3_hasPlaceFor⟩
theorem hdS_X3_take : yX3_take.cls ≠ "java/lang/invoke/MethodHandle" ∧ yX3_take.cls ≠ "java/lang/invoke/VarHandle" ∧ (parseMethodDescriptor yX3_take.desc).map (fun d => d.parameters.length) = some 1 := by decide +kernel
theorem hdV_X3_take : yX3_take.cls = RX3 ∧ yX3_take.cls ≠ "java/lang/invoke/MethodHandle" ∧ yX3_take.cls ≠ "java/lang/invoke/VarHandle" ∧ (parseMethodDescriptor yX3_take.desc).map (fun d => d.parameters.length) = some 1 := ⟨rfl, hdS_X3_take⟩
theorem hdS_L_lotOn : yL_lotOn.cls ≠ "java/lang/invoke/MethodHandle" ∧ yL_lotOn.cls ≠ "java/lang/invoke/VarHandle" ∧ (parseMethodDescriptor yL_lotOn.desc).map (fun d => d.parameters.length) = some 4 := by decide +kernel
theorem hdV_L_lotOn : yL_lotOn.cls = RL ∧ yL_lotOn.cls ≠ "java/lang/invoke/MethodHandle" ∧ yL_lotOn.cls ≠ "java/lang/invoke/VarHandle" ∧ (parseMethodDescriptor yL_lotOn.desc).map (fun d => d.parameters.length) = some 4 := ⟨rfl, hdS_L_lotOn⟩
theorem hdS_X4_lotOn : yX4_lotOn.cls ≠ "java/lang/invoke/MethodHandle" ∧ yX4_lotOn.cls ≠ "java/lang/invoke/VarHandle" ∧ (parseMethodDescriptor yX4_lotOn.desc).map (fun d => d.parameters.length) = some 2 := by decide +kernel
theorem hdV_X4_lotOn : yX4_lotOn.cls = RX4 ∧ yX4_lotOn.cls ≠ "java/lang/invoke/MethodHandle" ∧ yX4_lotOn.cls ≠ "java/lang/invoke/VarHandle" ∧ (parseMethodDescriptor yX4_lotOn.desc).map (fun d => d.parameters.length) = some 2 := ⟨rfl, hdS_X4_lotOn⟩
theorem hdS_L_soldShare : yL_soldShare.cls ≠ "java/lang/invoke/MethodHandle" ∧ yL_soldShare.cls ≠ "java/lang/invoke/VarHandle" ∧ (parseMethodDescriptor yL_soldShare.desc).map (fun d => d.parameters.length) = some 2 := by decide +kernel
theorem hdV_L_soldShare : yL_soldShare.cls = RL ∧ yL_soldShare.cls ≠ "java/lang/invoke/MethodHandle" ∧ yL_soldShare.cls ≠ "java/lang/invoke/VarHandle" ∧ (parseMethodDescriptor yL_soldShare.desc).map (fun d => d.parameters.length) = some 2 := ⟨rfl, hdS_L_soldShare⟩
theorem hdS_X4_soldShare : yX4_soldShare.cls ≠ "java/lang/invoke/MethodHandle" ∧ yX4_soldShare.cls ≠ "java/lang/invoke/VarHandle" ∧ (parseMethodDescriptor yX4_soldShare.desc).map (fun d => d.parameters.length) = some 0 := by decide +kernel
theorem hdV_X4_soldShare : yX4_soldShare.cls = RX4 ∧ yX4_soldShare.cls ≠ "java/lang/invoke/MethodHandle" ∧ yX4_soldShare.cls ≠ "java/lang/invoke/VarHandle" ∧ (parseMethodDescriptor yX4_soldShare.desc).map (fun d => d.parameters.length) = some 0 := ⟨rfl, hdS_X4_soldShare⟩
theorem hdS_X4_weightOfAllLots : yX4_weightOfAllLots.cls ≠ "java/lang/invoke/MethodHandle" ∧ yX4_weightOfAllLots.cls ≠ "java/lang/invoke/VarHandle" ∧ (parseMethodDescriptor yX4_weightOfAllLots.desc).map (fun d => d.parameters.length) = some 0 := by decide +kernel
theorem hdV_X4_weightOfAllLots : yX4_weightOfAllLots.cls = RX4 ∧ yX4_weightOfAllLots.cls ≠ "java/lang/invoke/MethodHandle" ∧ yX4_weightOfAllLots.cls ≠ "java/lang/invoke/VarHandle" ∧ (parseMethodDescriptor yX4_weightOfAllLots.desc).map (fun d => d.parameters.length) = some 0 := ⟨rfl, hdS_X4_weightOfAllLots⟩
theorem hdS_X4_weightOfSoldLots : yX4_weightOfSoldLots.cls ≠ "java/lang/invoke/MethodHandle" ∧ yX4_weightOfSoldLots.cls ≠ "java/lang/invoke/VarHandle" ∧ (parseMethodDescriptor yX4_weightOfSoldLots.desc).map (fun d => d.parameters.length) = some 0 := by decide +kernel
theorem hdV_X4_weightOfSoldLots : yX4_weightOfSoldLots.cls = RX4 ∧ yX4_weightOfSoldLots.cls ≠ "java/lang/invoke/MethodHandle" ∧ yX4_weightOfSoldLots.cls ≠ "java/lang/invoke/VarHandle" ∧ (parseMethodDescriptor yX4_weightOfSoldLots.desc).map (fun d => d.parameters.length) = some 0 := ⟨rfl, hdS_X4_weightOfSoldLots⟩
theorem hdS_X2_wasSold : yX2_wasSold.cls ≠ "java/lang/invoke/MethodHandle" ∧ yX2_wasSold.cls ≠ "java/lang/invoke/VarHandle" ∧ (parseMethodDescriptor yX2_wasSold.desc).map (fun d => d.parameters.length) = some 0 := by decide +kernel
theorem hdV_X2_wasSold : yX2_wasSold.cls = RX2 ∧ yX2_wasSold.cls ≠ "java/lang/invoke/MethodHandle" ∧ yX2_wasSold.cls ≠ "java/lang/invoke/VarHandle" ∧ (parseMethodDescriptor yX2_wasSold.desc).map (fun d => d.parameters.length) = some 0 := ⟨rfl, hdS_X2_wasSold⟩
theorem hdS_L_meanPrice : yL_meanPrice.cls ≠ "java/lang/invoke/MethodHandle" ∧ yL_meanPrice.cls ≠ "java/lang/invoke/VarHandle" ∧ (parseMethodDescriptor yL_meanPrice.desc).map (fun d => d.parameters.length) = some 2 := by decide +kernel
theorem hdV_L_meanPrice : yL_meanPrice.cls = RL ∧ yL_meanPrice.cls ≠ "java/lang/invoke/MethodHandle" ∧ yL_meanPrice.cls ≠ "java/lang/invoke/VarHandle" ∧ (parseMethodDescriptor yL_meanPrice.desc).map (fun d => d.parameters.length) = some 2 := ⟨rfl, hdS_L_meanPrice⟩
theorem hdS_X4_meanPrice : yX4_meanPrice.cls ≠ "java/lang/invoke/MethodHandle" ∧ yX4_meanPrice.cls ≠ "java/lang/invoke/VarHandle" ∧ (parseMethodDescriptor yX4_meanPrice.desc).map (fun d => d.parameters.length) = some 0 := by decide +kernel
theorem hdV_X4_meanPrice : yX4_meanPrice.cls = RX4 ∧ yX4_meanPrice.cls ≠ "java/lang/invoke/MethodHandle" ∧ yX4_meanPrice.cls ≠ "java/lang/invoke/VarHandle" ∧ (parseMethodDescriptor yX4_meanPrice.desc).map (fun d => d.parameters.length) = some 0 := ⟨rfl, hdS_X4_meanPrice⟩
theorem hdS_X4_meanOfSoldKilograms : yX4_meanOfSoldKilograms.cls ≠ "java/lang/invoke/MethodHandle" ∧ yX4_meanOfSoldKilograms.cls ≠ "java/lang/invoke/VarHandle" ∧ (parseMethodDescriptor yX4_meanOfSoldKilograms.desc).map (fun d => d.parameters.length) = some 0 := by decide +kernel
theorem hdV_X4_meanOfSoldKilograms : yX4_meanOfSoldKilograms.cls = RX4 ∧ yX4_meanOfSoldKilograms.cls ≠ "java/lang/invoke/MethodHandle" ∧ yX4_meanOfSoldKilograms.cls ≠ "java/lang/invoke/VarHandle" ∧ (parseMethodDescriptor yX4_meanOfSoldKilograms.desc).map (fun d => d.parameters.length) = some 0 := ⟨rfl, hdS_X4_meanOfSoldKilograms⟩
theorem hdS_L_meanBits : yL_meanBits.cls ≠ "java/lang/invoke/MethodHandle" ∧ yL_meanBits.cls ≠ "java/lang/invoke/VarHandle" ∧ (parseMethodDescriptor yL_meanBits.desc).map (fun d => d.parameters.length) = some 2 := by decide +kernel
theorem hdV_L_meanBits : yL_meanBits.cls = RL ∧ yL_meanBits.cls ≠ "java/lang/invoke/MethodHandle" ∧ yL_meanBits.cls ≠ "java/lang/invoke/VarHandle" ∧ (parseMethodDescriptor yL_meanBits.desc).map (fun d => d.parameters.length) = some 2 := ⟨rfl, hdS_L_meanBits⟩
theorem hdS_X4_meanBits : yX4_meanBits.cls ≠ "java/lang/invoke/MethodHandle" ∧ yX4_meanBits.cls ≠ "java/lang/invoke/VarHandle" ∧ (parseMethodDescriptor yX4_meanBits.desc).map (fun d => d.parameters.length) = some 0 := by decide +kernel
theorem hdV_X4_meanBits : yX4_meanBits.cls = RX4 ∧ yX4_meanBits.cls ≠ "java/lang/invoke/MethodHandle" ∧ yX4_meanBits.cls ≠ "java/lang/invoke/VarHandle" ∧ (parseMethodDescriptor yX4_meanBits.desc).map (fun d => d.parameters.length) = some 0 := ⟨rfl, hdS_X4_meanBits⟩
theorem hdS_X4_bitsOfMean : yX4_bitsOfMean.cls ≠ "java/lang/invoke/MethodHandle" ∧ yX4_bitsOfMean.cls ≠ "java/lang/invoke/VarHandle" ∧ (parseMethodDescriptor yX4_bitsOfMean.desc).map (fun d => d.parameters.length) = some 1 := by decide +kernel
theorem hdV_X4_bitsOfMean : yX4_bitsOfMean.cls = RX4 ∧ yX4_bitsOfMean.cls ≠ "java/lang/invoke/MethodHandle" ∧ yX4_bitsOfMean.cls ≠ "java/lang/invoke/VarHandle" ∧ (parseMethodDescriptor yX4_bitsOfMean.desc).map (fun d => d.parameters.length) = some 1 := ⟨rfl, hdS_X4_bitsOfMean⟩
theorem hdS_X5_init : yX5_init.cls ≠ "java/lang/invoke/MethodHandle" ∧ yX5_init.cls ≠ "java/lang/invoke/VarHandle" ∧ (parseMethodDescriptor yX5_init.desc).map (fun d => d.parameters.length) = some 0 := by decide +kernel
theorem hdV_X5_init : yX5_init.cls = RX5 ∧ yX5_init.cls ≠ "java/lang/invoke/MethodHandle" ∧ yX5_init.cls ≠ "java/lang/invoke/VarHandle" ∧ (parseMethodDescriptor yX5_init.desc).map (fun d => d.parameters.length) = some 0 := ⟨rfl, hdS_X5_init⟩
theorem hdS_X5_thrown : yX5_thrown.cls ≠ "java/lang/invoke/MethodHandle" ∧ yX5_thrown.cls ≠ "java/lang/invoke/VarHandle" ∧ (parseMethodDescriptor yX5_thrown.desc).map (fun d => d.parameters.length) = some 0 := by decide +kernel
theorem hdV_X5_thrown : yX5_thrown.cls = RX5 ∧ yX5_thrown.cls ≠ "java/lang/invoke/MethodHandle" ∧ yX5_thrown.cls ≠ "java/lang/invoke/VarHandle" ∧ (parseMethodDescriptor yX5_thrown.desc).map (fun d => d.parameters.length) = some 0 := ⟨rfl, hdS_X5_thrown⟩
theorem hdS_X5_addBoat : yX5_addBoat.cls ≠ "java/lang/invoke/MethodHandle" ∧ yX5_addBoat.cls ≠ "java/lang/invoke/VarHandle" ∧ (parseMethodDescriptor yX5_addBoat.desc).map (fun d => d.parameters.length) = some 4 := by decide +kernel
theorem hdV_X5_addBoat : yX5_addBoat.cls = RX5 ∧ yX5_addBoat.cls ≠ "java/lang/invoke/MethodHandle" ∧ yX5_addBoat.cls ≠ "java/lang/invoke/VarHandle" ∧ (parseMethodDescriptor yX5_addBoat.desc).map (fun d => d.parameters.length) = some 4 := ⟨rfl, hdS_X5_addBoat⟩
theorem hdS_X5_in : yX5_in.cls ≠ "java/lang/invoke/MethodHandle" ∧ yX5_in.cls ≠ "java/lang/invoke/VarHandle" ∧ (parseMethodDescriptor yX5_in.desc).map (fun d => d.parameters.length) = some 3 := by decide +kernel
theorem hdV_X5_in : yX5_in.cls = RX5 ∧ yX5_in.cls ≠ "java/lang/invoke/MethodHandle" ∧ yX5_in.cls ≠ "java/lang/invoke/VarHandle" ∧ (parseMethodDescriptor yX5_in.desc).map (fun d => d.parameters.length) = some 3 := ⟨rfl, hdS_X5_in⟩
theorem hdS_X5_goesOn : yX5_goesOn.cls ≠ "java/lang/invoke/MethodHandle" ∧ yX5_goesOn.cls ≠ "java/lang/invoke/VarHandle" ∧ (parseMethodDescriptor yX5_goesOn.desc).map (fun d => d.parameters.length) = some 1 := by decide +kernel
theorem hdV_X5_goesOn : yX5_goesOn.cls = RX5 ∧ yX5_goesOn.cls ≠ "java/lang/invoke/MethodHandle" ∧ yX5_goesOn.cls ≠ "java/lang/invoke/VarHandle" ∧ (parseMethodDescriptor yX5_goesOn.desc).map (fun d => d.parameters.length) = some 1 := ⟨rfl, hdS_X5_goesOn⟩
theorem hdS_X5_land : yX5_land.cls ≠ "java/lang/invoke/MethodHandle" ∧ yX5_land.cls ≠ "java/lang/invoke/VarHandle" ∧ (parseMethodDescriptor yX5_land.desc).map (fun d => d.parameters.length) = some 5 := by decide +kernel
theorem hdV_X5_land : yX5_land.cls = RX5 ∧ yX5_land.cls ≠ "java/lang/invoke/MethodHandle" ∧ yX5_land.cls ≠ "java/lang/invoke/VarHandle" ∧ (parseMethodDescriptor yX5_land.desc).map (fun d => d.parameters.length) = some 5 := ⟨rfl, hdS_X5_land⟩
theorem hdS_X5_isSpecies : yX5_isSpecies.cls ≠ "java/lang/invoke/MethodHandle" ∧ yX5_isSpecies.cls ≠ "java/lang/invoke/VarHandle" ∧ (parseMethodDescriptor yX5_isSpecies.desc).map (fun d => d.parameters.length) = some 1 := by decide +kernel
theorem hdV_X5_isSpecies : yX5_isSpecies.cls = RX5 ∧ yX5_isSpecies.cls ≠ "java/lang/invoke/MethodHandle" ∧ yX5_isSpecies.cls ≠ "java/lang/invoke/VarHandle" ∧ (parseMethodDescriptor yX5_isSpecies.desc).map (fun d => d.parameters.length) = some 1 := ⟨rfl, hdS_X5_isSpecies⟩
theorem hdS_X5_isBoat : yX5_isBoat.cls ≠ "java/lang/invoke/MethodHandle" ∧ yX5_isBoat.cls ≠ "java/lang/invoke/VarHandle" ∧ (parseMethodDescriptor yX5_isBoat.desc).map (fun d => d.parameters.length) = some 1 := by decide +kernel
theorem hdV_X5_isBoat : yX5_isBoat.cls = RX5 ∧ yX5_isBoat.cls ≠ "java/lang/invoke/MethodHandle" ∧ yX5_isBoat.cls ≠ "java/lang/invoke/VarHandle" ∧ (parseMethodDescriptor yX5_isBoat.desc).map (fun d => d.parameters.length) = some 1 := ⟨rfl, hdS_X5_isBoat⟩
theorem hdS_X5_moveQuota : yX5_moveQuota.cls ≠ "java/lang/invoke/MethodHandle" ∧ yX5_moveQuota.cls ≠ "java/lang/invoke/VarHandle" ∧ (parseMethodDescriptor yX5_moveQuota.desc).map (fun d => d.parameters.length) = some 4 := by decide +kernel
theorem hdV_X5_moveQuota : yX5_moveQuota.cls = RX5 ∧ yX5_moveQuota.cls ≠ "java/lang/invoke/MethodHandle" ∧ yX5_moveQuota.cls ≠ "java/lang/invoke/VarHandle" ∧ (parseMethodDescriptor yX5_moveQuota.desc).map (fun d => d.parameters.length) = some 4 := ⟨rfl, hdS_X5_moveQuota⟩
theorem hdS_X5_quota : yX5_quota.cls ≠ "java/lang/invoke/MethodHandle" ∧ yX5_quota.cls ≠ "java/lang/invoke/VarHandle" ∧ (parseMethodDescriptor yX5_quota.desc).map (fun d => d.parameters.length) = some 2 := by decide +kernel
theorem hdV_X5_quota : yX5_quota.cls = RX5 ∧ yX5_quota.cls ≠ "java/lang/invoke/MethodHandle" ∧ yX5_quota.cls ≠ "java/lang/invoke/VarHandle" ∧ (parseMethodDescriptor yX5_quota.desc).map (fun d => d.parameters.length) = some 2 := ⟨rfl, hdS_X5_quota⟩
theorem hdS_X5_quotaAt : yX5_quotaAt.cls ≠ "java/lang/invoke/MethodHandle" ∧ yX5_quotaAt.cls ≠ "java/lang/invoke/VarHandle" ∧ (parseMethodDescriptor yX5_quotaAt.desc).map (fun d => d.parameters.length) = some 3 := by decide +kernel
theorem hdV_X5_quotaAt : yX5_quotaAt.cls = RX5 ∧ yX5_quotaAt.cls ≠ "java/lang/invoke/MethodHandle" ∧ yX5_quotaAt.cls ≠ "java/lang/invoke/VarHandle" ∧ (parseMethodDescriptor yX5_quotaAt.desc).map (fun d => d.parameters.length) = some 3 := ⟨rfl, hdS_X5_quotaAt⟩
theorem hdS_X5_endDay : yX5_endDay.cls ≠ "java/lang/invoke/MethodHandle" ∧ yX5_endDay.cls ≠ "java/lang/invoke/VarHandle" ∧ (parseMethodDescriptor yX5_endDay.desc).map (fun d => d.parameters.length) = some 0 := by decide +kernel
theorem hdV_X5_endDay : yX5_endDay.cls = RX5 ∧ yX5_endDay.cls ≠ "java/lang/invoke/MethodHandle" ∧ yX5_endDay.cls ≠ "java/lang/invoke/VarHandle" ∧ (parseMethodDescriptor yX5_endDay.desc).map (fun d => d.parameters.length) = some 0 := ⟨rfl, hdS_X5_endDay⟩
theorem hdS_X5_beyond : yX5_beyond.cls ≠ "java/lang/invoke/MethodHandle" ∧ yX5_beyond.cls ≠ "java/lang/invoke/VarHandle" ∧ (parseMethodDescriptor yX5_beyond.desc).map (fun d => d.parameters.length) = some 0 := by decide +kernel
theorem hdV_X5_beyond : yX5_beyond.cls = RX5 ∧ yX5_beyond.cls ≠ "java/lang/invoke/MethodHandle" ∧ yX5_beyond.cls ≠ "java/lang/invoke/VarHandle" ∧ (parseMethodDescriptor yX5_beyond.desc).map (fun d => d.parameters.length) = some 0 := ⟨rfl, hdS_X5_beyond⟩
theorem hdS_X5_weight : yX5_weight.cls ≠ "java/lang/invoke/MethodHandle" ∧ yX5_weight.cls ≠ "java/lang/invoke/VarHandle" ∧ (parseMethodDescriptor yX5_weight.desc).map (fun d => d.parameters.length) = some 1 := by decide +kernel
theorem hdV_X5_weight : yX5_weight.cls = RX5 ∧ yX5_weight.cls ≠ "java/lang/invoke/MethodHandle" ∧ yX5_weight.cls ≠ "java/lang/invoke/VarHandle" ∧ (parseMethodDescriptor yX5_weight.desc).map (fun d => d.parameters.length) = some 1 := ⟨rfl, hdS_X5_weight⟩
theorem hdS_X5_isLot : yX5_isLot.cls ≠ "java/lang/invoke/MethodHandle" ∧ yX5_isLot.cls ≠ "java/lang/invoke/VarHandle" ∧ (parseMethodDescriptor yX5_isLot.desc).map (fun d => d.parameters.length) = some 1 := by decide +kernel
theorem hdV_X5_isLot : yX5_isLot.cls = RX5 ∧ yX5_isLot.cls ≠ "java/lang/invoke/MethodHandle" ∧ yX5_isLot.cls ≠ "java/lang/invoke/VarHandle" ∧ (parseMethodDescriptor yX5_isLot.desc).map (fun d => d.parameters.length) = some 1 := ⟨rfl, hdS_X5_isLot⟩
theorem hdS_X5_stateOf : yX5_stateOf.cls ≠ "java/lang/invoke/MethodHandle" ∧ yX5_stateOf.cls ≠ "java/lang/invoke/VarHandle" ∧ (parseMethodDescriptor yX5_stateOf.desc).map (fun d => d.parameters.length) = some 1 := by decide +kernel
theorem hdV_X5_stateOf : yX5_stateOf.cls = RX5 ∧ yX5_stateOf.cls ≠ "java/lang/invoke/MethodHandle" ∧ yX5_stateOf.cls ≠ "java/lang/invoke/VarHandle" ∧ (parseMethodDescriptor yX5_stateOf.desc).map (fun d => d.parameters.length) = some 1 := ⟨rfl, hdS_X5_stateOf⟩
theorem hdS_X5_fresh : yX5_fresh.cls ≠ "java/lang/invoke/MethodHandle" ∧ yX5_fresh.cls ≠ "java/lang/invoke/VarHandle" ∧ (parseMethodDescriptor yX5_fresh.desc).map (fun d => d.parameters.length) = some 1 := by decide +kernel
theorem hdV_X5_fresh : yX5_fresh.cls = RX5 ∧ yX5_fresh.cls ≠ "java/lang/invoke/MethodHandle" ∧ yX5_fresh.cls ≠ "java/lang/invoke/VarHandle" ∧ (parseMethodDescriptor yX5_fresh.desc).map (fun d => d.parameters.length) = some 1 := ⟨rfl, hdS_X5_fresh⟩
theorem hdS_X5_freshBits : yX5_freshBits.cls ≠ "java/lang/invoke/MethodHandle" ∧ yX5_freshBits.cls ≠ "java/lang/invoke/VarHandle" ∧ (parseMethodDescriptor yX5_freshBits.desc).map (fun d => d.parameters.length) = some 1 := by decide +kernel
theorem hdV_X5_freshBits : yX5_freshBits.cls = RX5 ∧ yX5_freshBits.cls ≠ "java/lang/invoke/MethodHandle" ∧ yX5_freshBits.cls ≠ "java/lang/invoke/VarHandle" ∧ (parseMethodDescriptor yX5_freshBits.desc).map (fun d => d.parameters.length) = some 1 := ⟨rfl, hdS_X5_freshBits⟩
theorem hdS_X5_ice : yX5_ice.cls ≠ "java/lang/invoke/MethodHandle" ∧ yX5_ice.cls ≠ "java/lang/invoke/VarHandle" ∧ (parseMethodDescriptor yX5_ice.desc).map (fun d => d.parameters.length) = some 2 := by decide +kernel
theorem hdV_X5_ice : yX5_ice.cls = RX5 ∧ yX5_ice.cls ≠ "java/lang/invoke/MethodHandle" ∧ yX5_ice.cls ≠ "java/lang/invoke/VarHandle" ∧ (parseMethodDescriptor yX5_ice.desc).map (fun d => d.parameters.length) = some 2 := ⟨rfl, hdS_X5_ice⟩
theorem hdS_X5_iceOn : yX5_iceOn.cls ≠ "java/lang/invoke/MethodHandle" ∧ yX5_iceOn.cls ≠ "java/lang/invoke/VarHandle" ∧ (parseMethodDescriptor yX5_iceOn.desc).map (fun d => d.parameters.length) = some 1 := by decide +kernel
theorem hdV_X5_iceOn : yX5_iceOn.cls = RX5 ∧ yX5_iceOn.cls ≠ "java/lang/invoke/MethodHandle" ∧ yX5_iceOn.cls ≠ "java/lang/invoke/VarHandle" ∧ (parseMethodDescriptor yX5_iceOn.desc).map (fun d => d.parameters.length) = some 1 := ⟨rfl, hdS_X5_iceOn⟩
theorem hdS_X5_iceLasts : yX5_iceLasts.cls ≠ "java/lang/invoke/MethodHandle" ∧ yX5_iceLasts.cls ≠ "java/lang/invoke/VarHandle" ∧ (parseMethodDescriptor yX5_iceLasts.desc).map (fun d => d.parameters.length) = some 1 := by decide +kernel
theorem hdV_X5_iceLasts : yX5_iceLasts.cls = RX5 ∧ yX5_iceLasts.cls ≠ "java/lang/invoke/MethodHandle" ∧ yX5_iceLasts.cls ≠ "java/lang/invoke/VarHandle" ∧ (parseMethodDescriptor yX5_iceLasts.desc).map (fun d => d.parameters.length) = some 1 := ⟨rfl, hdS_X5_iceLasts⟩
theorem hdS_X5_iceFor : yX5_iceFor.cls ≠ "java/lang/invoke/MethodHandle" ∧ yX5_iceFor.cls ≠ "java/lang/invoke/VarHandle" ∧ (parseMethodDescriptor yX5_iceFor.desc).map (fun d => d.parameters.length) = some 1 := by decide +kernel
theorem hdV_X5_iceFor : yX5_iceFor.cls = RX5 ∧ yX5_iceFor.cls ≠ "java/lang/invoke/MethodHandle" ∧ yX5_iceFor.cls ≠ "java/lang/invoke/VarHandle" ∧ (parseMethodDescriptor yX5_iceFor.desc).map (fun d => d.parameters.length) = some 1 := ⟨rfl, hdS_X5_iceFor⟩
theorem hdS_X5_tick : yX5_tick.cls ≠ "java/lang/invoke/MethodHandle" ∧ yX5_tick.cls ≠ "java/lang/invoke/VarHandle" ∧ (parseMethodDescriptor yX5_tick.desc).map (fun d => d.parameters.length) = some 0 := by decide +kernel
theorem hdV_X5_tick : yX5_tick.cls = RX5 ∧ yX5_tick.cls ≠ "java/lang/invoke/MethodHandle" ∧ yX5_tick.cls ≠ "java/lang/invoke/VarHandle" ∧ (parseMethodDescriptor yX5_tick.desc).map (fun d => d.parameters.length) = some 0 := ⟨rfl, hdS_X5_tick⟩
theorem hdS_X5_ages : yX5_ages.cls ≠ "java/lang/invoke/MethodHandle" ∧ yX5_ages.cls ≠ "java/lang/invoke/VarHandle" ∧ (parseMethodDescriptor yX5_ages.desc).map (fun d => d.parameters.length) = some 1 := by decide +kernel
theorem hdV_X5_ages : yX5_ages.cls = RX5 ∧ yX5_ages.cls ≠ "java/lang/invoke/MethodHandle" ∧ yX5_ages.cls ≠ "java/lang/invoke/VarHandle" ∧ (parseMethodDescriptor yX5_ages.desc).map (fun d => d.parameters.length) = some 1 := ⟨rfl, hdS_X5_ages⟩
theorem hdS_X5_delivers : yX5_delivers.cls ≠ "java/lang/invoke/MethodHandle" ∧ yX5_delivers.cls ≠ "java/lang/invoke/VarHandle" ∧ (parseMethodDescriptor yX5_delivers.desc).map (fun d => d.parameters.length) = some 1 := by decide +kernel
theorem hdV_X5_delivers : yX5_delivers.cls = RX5 ∧ yX5_delivers.cls ≠ "java/lang/invoke/MethodHandle" ∧ yX5_delivers.cls ≠ "java/lang/invoke/VarHandle" ∧ (parseMethodDescriptor yX5_delivers.desc).map (fun d => d.parameters.length) = some 1 := ⟨rfl, hdS_X5_delivers⟩
theorem hdS_X5_time : yX5_time.cls ≠ "java/lang/invoke/MethodHandle" ∧ yX5_time.cls ≠ "java/lang/invoke/VarHandle" ∧ (parseMethodDescriptor yX5_time.desc).map (fun d => d.parameters.length) = some 0 := by decide +kernel
theorem hdV_X5_time : yX5_time.cls = RX5 ∧ yX5_time.cls ≠ "java/lang/invoke/MethodHandle" ∧ yX5_time.cls ≠ "java/lang/invoke/VarHandle" ∧ (parseMethodDescriptor yX5_time.desc).map (fun d => d.parameters.length) = some 0 := ⟨rfl, hdS_X5_time⟩
theorem hdS_X5_addBuyer : yX5_addBuyer.cls ≠ "java/lang/invoke/MethodHandle" ∧ yX5_addBuyer.cls ≠ "java/lang/invoke/VarHandle" ∧ (parseMethodDescriptor yX5_addBuyer.desc).map (fun d => d.parameters.length) = some 1 := by decide +kernel
theorem hdV_X5_addBuyer : yX5_addBuyer.cls = RX5 ∧ yX5_addBuyer.cls ≠ "java/lang/invoke/MethodHandle" ∧ yX5_addBuyer.cls ≠ "java/lang/invoke/VarHandle" ∧ (parseMethodDescriptor yX5_addBuyer.desc).map (fun d => d.parameters.length) = some 1 := ⟨rfl, hdS_X5_addBuyer⟩
theorem hdS_X5_setLimit : yX5_setLimit.cls ≠ "java/lang/invoke/MethodHandle" ∧ yX5_setLimit.cls ≠ "java/lang/invoke/VarHandle" ∧ (parseMethodDescriptor yX5_setLimit.desc).map (fun d => d.parameters.length) = some 3 := by decide +kernel
theorem hdV_X5_setLimit : yX5_setLimit.cls = RX5 ∧ yX5_setLimit.cls ≠ "java/lang/invoke/MethodHandle" ∧ yX5_setLimit.cls ≠ "java/lang/invoke/VarHandle" ∧ (parseMethodDescriptor yX5_setLimit.desc).map (fun d => d.parameters.length) = some 3 := ⟨rfl, hdS_X5_setLimit⟩
theorem hdS_X5_isBuyer : yX5_isBuyer.cls ≠ "java/lang/invoke/MethodHandle" ∧ yX5_isBuyer.cls ≠ "java/lang/invoke/VarHandle" ∧ (parseMethodDescriptor yX5_isBuyer.desc).map (fun d => d.parameters.length) = some 1 := by decide +kernel
theorem hdV_X5_isBuyer : yX5_isBuyer.cls = RX5 ∧ yX5_isBuyer.cls ≠ "java/lang/invoke/MethodHandle" ∧ yX5_isBuyer.cls ≠ "java/lang/invoke/VarHandle" ∧ (parseMethodDescriptor yX5_isBuyer.desc).map (fun d => d.parameters.length) = some 1 := ⟨rfl, hdS_X5_isBuyer⟩
theorem hdS_X5_budget : yX5_budget.cls ≠ "java/lang/invoke/MethodHandle" ∧ yX5_budget.cls ≠ "java/lang/invoke/VarHandle" ∧ (parseMethodDescriptor yX5_budget.desc).map (fun d => d.parameters.length) = some 1 := by decide +kernel
theorem hdV_X5_budget : yX5_budget.cls = RX5 ∧ yX5_budget.cls ≠ "java/lang/invoke/MethodHandle" ∧ yX5_budget.cls ≠ "java/lang/invoke/VarHandle" ∧ (parseMethodDescriptor yX5_budget.desc).map (fun d => d.parameters.length) = some 1 := ⟨rfl, hdS_X5_budget⟩
theorem hdS_X5_setClock : yX5_setClock.cls ≠ "java/lang/invoke/MethodHandle" ∧ yX5_setClock.cls ≠ "java/lang/invoke/VarHandle" ∧ (parseMethodDescriptor yX5_setClock.desc).map (fun d => d.parameters.length) = some 3 := by decide +kernel
theorem hdV_X5_setClock : yX5_setClock.cls = RX5 ∧ yX5_setClock.cls ≠ "java/lang/invoke/MethodHandle" ∧ yX5_setClock.cls ≠ "java/lang/invoke/VarHandle" ∧ (parseMethodDescriptor yX5_setClock.desc).map (fun d => d.parameters.length) = some 3 := ⟨rfl, hdS_X5_setClock⟩
theorem hdS_X5_offer : yX5_offer.cls ≠ "java/lang/invoke/MethodHandle" ∧ yX5_offer.cls ≠ "java/lang/invoke/VarHandle" ∧ (parseMethodDescriptor yX5_offer.desc).map (fun d => d.parameters.length) = some 2 := by decide +kernel
theorem hdV_X5_offer : yX5_offer.cls = RX5 ∧ yX5_offer.cls ≠ "java/lang/invoke/MethodHandle" ∧ yX5_offer.cls ≠ "java/lang/invoke/VarHandle" ∧ (parseMethodDescriptor yX5_offer.desc).map (fun d => d.parameters.length) = some 2 := ⟨rfl, hdS_X5_offer⟩
theorem hdS_X5_offerOf : yX5_offerOf.cls ≠ "java/lang/invoke/MethodHandle" ∧ yX5_offerOf.cls ≠ "java/lang/invoke/VarHandle" ∧ (parseMethodDescriptor yX5_offerOf.desc).map (fun d => d.parameters.length) = some 2 := by decide +kernel
theorem hdV_X5_offerOf : yX5_offerOf.cls = RX5 ∧ yX5_offerOf.cls ≠ "java/lang/invoke/MethodHandle" ∧ yX5_offerOf.cls ≠ "java/lang/invoke/VarHandle" ∧ (parseMethodDescriptor yX5_offerOf.desc).map (fun d => d.parameters.length) = some 2 := ⟨rfl, hdS_X5_offerOf⟩
theorem hdS_X5_price : yX5_price.cls ≠ "java/lang/invoke/MethodHandle" ∧ yX5_price.cls ≠ "java/lang/invoke/VarHandle" ∧ (parseMethodDescriptor yX5_price.desc).map (fun d => d.parameters.length) = some 1 := by decide +kernel
theorem hdV_X5_price : yX5_price.cls = RX5 ∧ yX5_price.cls ≠ "java/lang/invoke/MethodHandle" ∧ yX5_price.cls ≠ "java/lang/invoke/VarHandle" ∧ (parseMethodDescriptor yX5_price.desc).map (fun d => d.parameters.length) = some 1 := ⟨rfl, hdS_X5_price⟩
theorem hdS_X5_saleFault : yX5_saleFault.cls ≠ "java/lang/invoke/MethodHandle" ∧ yX5_saleFault.cls ≠ "java/lang/invoke/VarHandle" ∧ (parseMethodDescriptor yX5_saleFault.desc).map (fun d => d.parameters.length) = some 1 := by decide +kernel
theorem hdV_X5_saleFault : yX5_saleFault.cls = RX5 ∧ yX5_saleFault.cls ≠ "java/lang/invoke/MethodHandle" ∧ yX5_saleFault.cls ≠ "java/lang/invoke/VarHandle" ∧ (parseMethodDescriptor yX5_saleFault.desc).map (fun d => d.parameters.length) = some 1 := ⟨rfl, hdS_X5_saleFault⟩
theorem hdS_X5_falls : yX5_falls.cls ≠ "java/lang/invoke/MethodHandle" ∧ yX5_falls.cls ≠ "java/lang/invoke/VarHandle" ∧ (parseMethodDescriptor yX5_falls.desc).map (fun d => d.parameters.length) = some 1 := by decide +kernel
theorem hdV_X5_falls : yX5_falls.cls = RX5 ∧ yX5_falls.cls ≠ "java/lang/invoke/MethodHandle" ∧ yX5_falls.cls ≠ "java/lang/invoke/VarHandle" ∧ (parseMethodDescriptor yX5_falls.desc).map (fun d => d.parameters.length) = some 1 := ⟨rfl, hdS_X5_falls⟩
theorem hdS_X5_takes : yX5_takes.cls ≠ "java/lang/invoke/MethodHandle" ∧ yX5_takes.cls ≠ "java/lang/invoke/VarHandle" ∧ (parseMethodDescriptor yX5_takes.desc).map (fun d => d.parameters.length) = some 2 := by decide +kernel
theorem hdV_X5_takes : yX5_takes.cls = RX5 ∧ yX5_takes.cls ≠ "java/lang/invoke/MethodHandle" ∧ yX5_takes.cls ≠ "java/lang/invoke/VarHandle" ∧ (parseMethodDescriptor yX5_takes.desc).map (fun d => d.parameters.length) = some 2 := ⟨rfl, hdS_X5_takes⟩
theorem hdS_X5_priceByBuyers : yX5_priceByBuyers.cls ≠ "java/lang/invoke/MethodHandle" ∧ yX5_priceByBuyers.cls ≠ "java/lang/invoke/VarHandle" ∧ (parseMethodDescriptor yX5_priceByBuyers.desc).map (fun d => d.parameters.length) = some 1 := by decide +kernel
theorem hdV_X5_priceByBuyers : yX5_priceByBuyers.cls = RX5 ∧ yX5_priceByBuyers.cls ≠ "java/lang/invoke/MethodHandle" ∧ yX5_priceByBuyers.cls ≠ "java/lang/invoke/VarHandle" ∧ (parseMethodDescriptor yX5_priceByBuyers.desc).map (fun d => d.parameters.length) = some 1 := ⟨rfl, hdS_X5_priceByBuyers⟩
theorem hdS_X5_sell : yX5_sell.cls ≠ "java/lang/invoke/MethodHandle" ∧ yX5_sell.cls ≠ "java/lang/invoke/VarHandle" ∧ (parseMethodDescriptor yX5_sell.desc).map (fun d => d.parameters.length) = some 1 := by decide +kernel
theorem hdV_X5_sell : yX5_sell.cls = RX5 ∧ yX5_sell.cls ≠ "java/lang/invoke/MethodHandle" ∧ yX5_sell.cls ≠ "java/lang/invoke/VarHandle" ∧ (parseMethodDescriptor yX5_sell.desc).map (fun d => d.parameters.length) = some 1 := ⟨rfl, hdS_X5_sell⟩
theorem hdS_X5_buyerOf : yX5_buyerOf.cls ≠ "java/lang/invoke/MethodHandle" ∧ yX5_buyerOf.cls ≠ "java/lang/invoke/VarHandle" ∧ (parseMethodDescriptor yX5_buyerOf.desc).map (fun d => d.parameters.length) = some 1 := by decide +kernel
theorem hdV_X5_buyerOf : yX5_buyerOf.cls = RX5 ∧ yX5_buyerOf.cls ≠ "java/lang/invoke/MethodHandle" ∧ yX5_buyerOf.cls ≠ "java/lang/invoke/VarHandle" ∧ (parseMethodDescriptor yX5_buyerOf.desc).map (fun d => d.parameters.length) = some 1 := ⟨rfl, hdS_X5_buyerOf⟩
theorem hdS_X5_paidFor : yX5_paidFor.cls ≠ "java/lang/invoke/MethodHandle" ∧ yX5_paidFor.cls ≠ "java/lang/invoke/VarHandle" ∧ (parseMethodDescriptor yX5_paidFor.desc).map (fun d => d.parameters.length) = some 1 := by decide +kernel
theorem hdV_X5_paidFor : yX5_paidFor.cls = RX5 ∧ yX5_paidFor.cls ≠ "java/lang/invoke/MethodHandle" ∧ yX5_paidFor.cls ≠ "java/lang/invoke/VarHandle" ∧ (parseMethodDescriptor yX5_paidFor.desc).map (fun d => d.parameters.length) = some 1 := ⟨rfl, hdS_X5_paidFor⟩
theorem hdS_X5_addTruck : yX5_addTruck.cls ≠ "java/lang/invoke/MethodHandle" ∧ yX5_addTruck.cls ≠ "java/lang/invoke/VarHandle" ∧ (parseMethodDescriptor yX5_addTruck.desc).map (fun d => d.parameters.length) = some 3 := by decide +kernel
theorem hdV_X5_addTruck : yX5_addTruck.cls = RX5 ∧ yX5_addTruck.cls ≠ "java/lang/invoke/MethodHandle" ∧ yX5_addTruck.cls ≠ "java/lang/invoke/VarHandle" ∧ (parseMethodDescriptor yX5_addTruck.desc).map (fun d => d.parameters.length) = some 3 := ⟨rfl, hdS_X5_addTruck⟩
theorem hdS_X5_load : yX5_load.cls ≠ "java/lang/invoke/MethodHandle" ∧ yX5_load.cls ≠ "java/lang/invoke/VarHandle" ∧ (parseMethodDescriptor yX5_load.desc).map (fun d => d.parameters.length) = some 2 := by decide +kernel
theorem hdV_X5_load : yX5_load.cls = RX5 ∧ yX5_load.cls ≠ "java/lang/invoke/MethodHandle" ∧ yX5_load.cls ≠ "java/lang/invoke/VarHandle" ∧ (parseMethodDescriptor yX5_load.desc).map (fun d => d.parameters.length) = some 2 := ⟨rfl, hdS_X5_load⟩
theorem hdS_X5_isTruck : yX5_isTruck.cls ≠ "java/lang/invoke/MethodHandle" ∧ yX5_isTruck.cls ≠ "java/lang/invoke/VarHandle" ∧ (parseMethodDescriptor yX5_isTruck.desc).map (fun d => d.parameters.length) = some 1 := by decide +kernel
theorem hdV_X5_isTruck : yX5_isTruck.cls = RX5 ∧ yX5_isTruck.cls ≠ "java/lang/invoke/MethodHandle" ∧ yX5_isTruck.cls ≠ "java/lang/invoke/VarHandle" ∧ (parseMethodDescriptor yX5_isTruck.desc).map (fun d => d.parameters.length) = some 1 := ⟨rfl, hdS_X5_isTruck⟩
theorem hdS_X5_lotOn : yX5_lotOn.cls ≠ "java/lang/invoke/MethodHandle" ∧ yX5_lotOn.cls ≠ "java/lang/invoke/VarHandle" ∧ (parseMethodDescriptor yX5_lotOn.desc).map (fun d => d.parameters.length) = some 2 := by decide +kernel
theorem hdV_X5_lotOn : yX5_lotOn.cls = RX5 ∧ yX5_lotOn.cls ≠ "java/lang/invoke/MethodHandle" ∧ yX5_lotOn.cls ≠ "java/lang/invoke/VarHandle" ∧ (parseMethodDescriptor yX5_lotOn.desc).map (fun d => d.parameters.length) = some 2 := ⟨rfl, hdS_X5_lotOn⟩
theorem hdS_X5_income : yX5_income.cls ≠ "java/lang/invoke/MethodHandle" ∧ yX5_income.cls ≠ "java/lang/invoke/VarHandle" ∧ (parseMethodDescriptor yX5_income.desc).map (fun d => d.parameters.length) = some 0 := by decide +kernel
theorem hdV_X5_income : yX5_income.cls = RX5 ∧ yX5_income.cls ≠ "java/lang/invoke/MethodHandle" ∧ yX5_income.cls ≠ "java/lang/invoke/VarHandle" ∧ (parseMethodDescriptor yX5_income.desc).map (fun d => d.parameters.length) = some 0 := ⟨rfl, hdS_X5_income⟩
theorem hdS_X5_incomeByLots : yX5_incomeByLots.cls ≠ "java/lang/invoke/MethodHandle" ∧ yX5_incomeByLots.cls ≠ "java/lang/invoke/VarHandle" ∧ (parseMethodDescriptor yX5_incomeByLots.desc).map (fun d => d.parameters.length) = some 0 := by decide +kernel
theorem hdV_X5_incomeByLots : yX5_incomeByLots.cls = RX5 ∧ yX5_incomeByLots.cls ≠ "java/lang/invoke/MethodHandle" ∧ yX5_incomeByLots.cls ≠ "java/lang/invoke/VarHandle" ∧ (parseMethodDescriptor yX5_incomeByLots.desc).map (fun d => d.parameters.length) = some 0 := ⟨rfl, hdS_X5_incomeByLots⟩
theorem hdS_X5_spoiled : yX5_spoiled.cls ≠ "java/lang/invoke/MethodHandle" ∧ yX5_spoiled.cls ≠ "java/lang/invoke/VarHandle" ∧ (parseMethodDescriptor yX5_spoiled.desc).map (fun d => d.parameters.length) = some 0 := by decide +kernel
theorem hdV_X5_spoiled : yX5_spoiled.cls = RX5 ∧ yX5_spoiled.cls ≠ "java/lang/invoke/MethodHandle" ∧ yX5_spoiled.cls ≠ "java/lang/invoke/VarHandle" ∧ (parseMethodDescriptor yX5_spoiled.desc).map (fun d => d.parameters.length) = some 0 := ⟨rfl, hdS_X5_spoiled⟩
theorem hdS_X5_soldShare : yX5_soldShare.cls ≠ "java/lang/invoke/MethodHandle" ∧ yX5_soldShare.cls ≠ "java/lang/invoke/VarHandle" ∧ (parseMethodDescriptor yX5_soldShare.desc).map (fun d => d.parameters.length) = some 0 := by decide +kernel
theorem hdV_X5_soldShare : yX5_soldShare.cls = RX5 ∧ yX5_soldShare.cls ≠ "java/lang/invoke/MethodHandle" ∧ yX5_soldShare.cls ≠ "java/lang/invoke/VarHandle" ∧ (parseMethodDescriptor yX5_soldShare.desc).map (fun d => d.parameters.length) = some 0 := ⟨rfl, hdS_X5_soldShare⟩
theorem hdS_X5_weights : yX5_weights.cls ≠ "java/lang/invoke/MethodHandle" ∧ yX5_weights.cls ≠ "java/lang/invoke/VarHandle" ∧ (parseMethodDescriptor yX5_weights.desc).map (fun d => d.parameters.length) = some 1 := by decide +kernel
theorem hdV_X5_weights : yX5_weights.cls = RX5 ∧ yX5_weights.cls ≠ "java/lang/invoke/MethodHandle" ∧ yX5_weights.cls ≠ "java/lang/invoke/VarHandle" ∧ (parseMethodDescriptor yX5_weights.desc).map (fun d => d.parameters.length) = some 1 := ⟨rfl, hdS_X5_weights⟩
theorem hdS_X5_isSold : yX5_isSold.cls ≠ "java/lang/invoke/MethodHandle" ∧ yX5_isSold.cls ≠ "java/lang/invoke/VarHandle" ∧ (parseMethodDescriptor yX5_isSold.desc).map (fun d => d.parameters.length) = some 1 := by decide +kernel
theorem hdV_X5_isSold : yX5_isSold.cls = RX5 ∧ yX5_isSold.cls ≠ "java/lang/invoke/MethodHandle" ∧ yX5_isSold.cls ≠ "java/lang/invoke/VarHandle" ∧ (parseMethodDescriptor yX5_isSold.desc).map (fun d => d.parameters.length) = some 1 := ⟨rfl, hdS_X5_isSold⟩
theorem hdS_X5_meanPrice : yX5_meanPrice.cls ≠ "java/lang/invoke/MethodHandle" ∧ yX5_meanPrice.cls ≠ "java/lang/invoke/VarHandle" ∧ (parseMethodDescriptor yX5_meanPrice.desc).map (fun d => d.parameters.length) = some 0 := by decide +kernel
theorem hdV_X5_meanPrice : yX5_meanPrice.cls = RX5 ∧ yX5_meanPrice.cls ≠ "java/lang/invoke/MethodHandle" ∧ yX5_meanPrice.cls ≠ "java/lang/invoke/VarHandle" ∧ (parseMethodDescriptor yX5_meanPrice.desc).map (fun d => d.parameters.length) = some 0 := ⟨rfl, hdS_X5_meanPrice⟩
theorem hdS_X5_meanBits : yX5_meanBits.cls ≠ "java/lang/invoke/MethodHandle" ∧ yX5_meanBits.cls ≠ "java/lang/invoke/VarHandle" ∧ (parseMethodDescriptor yX5_meanBits.desc).map (fun d => d.parameters.length) = some 0 := by decide +kernel
theorem hdV_X5_meanBits : yX5_meanBits.cls = RX5 ∧ yX5_meanBits.cls ≠ "java/lang/invoke/MethodHandle" ∧ yX5_meanBits.cls ≠ "java/lang/invoke/VarHandle" ∧ (parseMethodDescriptor yX5_meanBits.desc).map (fun d => d.parameters.length) = some 0 := ⟨rfl, hdS_X5_meanBits⟩
theorem hdS_X5_isSound : yX5_isSound.cls ≠ "java/lang/invoke/MethodHandle" ∧ yX5_isSound.cls ≠ "java/lang/invoke/VarHandle" ∧ (parseMethodDescriptor yX5_isSound.desc).map (fun d => d.parameters.length) = some 0 := by decide +kernel
theorem hdV_X5_isSound : yX5_isSound.cls = RX5 ∧ yX5_isSound.cls ≠ "java/lang/invoke/MethodHandle" ∧ yX5_isSound.cls ≠ "java/lang/invoke/VarHandle" ∧ (parseMethodDescriptor yX5_isSound.desc).map (fun d => d.parameters.length) = some 0 := ⟨rfl, hdS_X5_isSound⟩
end
section
def isIx (n : Nat) (v : Int32) : Bool := wi v 0 (nI n - 1)
theorem b2i_z (b : Bool) : narrow .boolean (.int (b2i b)) = .int (b2i b) := by cases b <;> rfl
set_option maxHeartbeats 4000000 in
set_option maxRecDepth 100000 in
theorem met_X5_in (l : Launch) (D : va_G) (cA : Nat → ClassId) (ws : va_W) (v lo hi : Int32) : MetI l yX5_in (.code yX5_in cX5_in 3 (some .boolean) :: LW) ({ frames := 0, cells := 0, slots := 0, locals := 0 }) D cA (ws) [.int v, .int lo, .int hi] (fun r (_ : Unit) => r = b2i (wi v lo hi)) (fun _ => ws) 0 0 := by
  refine k_bodyI (by decide) (Nat.le_of_ble_eq_true rfl) (fun p e s m args below meth c ls F hW hl => ?_)
  obtain ⟨hx, hb, hr, hml, hown, hts, hlocks, hname⟩ := id F
  have hl : lv_has ls 3 [(0, .int v), (1, .int lo), (2, .int hi)] := hl
  refine lv_iload_n hx hb dX5_in_0 rfl (lv_at hl 0 rfl) ?_
  refine lv_iload_n hx hb dX5_in_1 rfl (lv_at hl 1 rfl) ?_
  refine lv_icmp_lt (tgt := 14) hx hb dX5_in_2 (by decide) (fun h1 => ?_) (fun h1 => ?_)
  · refine lv_iconst (v := 0) hx hb dX5_in_14 (by decide) ?_
    exact k_zret () F (rfl) (hW) (wi_f1 h1) dX5_in_15 (Nat.le_of_ble_eq_true rfl) (Nat.le_of_ble_eq_true rfl)
  · refine lv_iload_n hx hb dX5_in_5 rfl (lv_at hl 0 rfl) ?_
    refine lv_iload_n hx hb dX5_in_6 rfl (lv_at hl 2 rfl) ?_
    refine lv_icmp_gt (tgt := 14) hx hb dX5_in_7 (by decide) (fun h2 => ?_) (fun h2 => ?_)
    · refine lv_iconst (v := 0) hx hb dX5_in_14 (by decide) ?_
      exact k_zret () F (rfl) (hW) (wi_f2 h2) dX5_in_15 (Nat.le_of_ble_eq_true rfl) (Nat.le_of_ble_eq_true rfl)
    · refine lv_iconst (v := 1) hx hb dX5_in_10 (by decide) ?_
      refine lv_goto (tgt := 15) hx hb dX5_in_11 (by decide) ?_
      exact k_zret () F (rfl) (hW) (wi_t h1 h2) dX5_in_15 (Nat.le_of_ble_eq_true rfl) (Nat.le_of_ble_eq_true rfl)

set_option maxHeartbeats 4000000 in
set_option maxRecDepth 100000 in
theorem met_X4_isWithin (l : Launch) (D : va_G) (cA : Nat → ClassId) (ws : va_W) (v lo hi : Int32) : MetI l yX4_isWithin (.code yX4_isWithin cX4_isWithin 3 (some .boolean) :: LW) ({ frames := 0, cells := 0, slots := 0, locals := 0 }) D cA (ws) [.int v, .int lo, .int hi] (fun r (_ : Unit) => r = b2i (wi v lo hi)) (fun _ => ws) 0 0 := by
  refine k_bodyI (by decide) (Nat.le_of_ble_eq_true rfl) (fun p e s m args below meth c ls F hW hl => ?_)
  obtain ⟨hx, hb, hr, hml, hown, hts, hlocks, hname⟩ := id F
  have hl : lv_has ls 3 [(0, .int v), (1, .int lo), (2, .int hi)] := hl
  refine lv_iload_n hx hb dX4_isWithin_0 rfl (lv_at hl 0 rfl) ?_
  refine lv_iload_n hx hb dX4_isWithin_1 rfl (lv_at hl 1 rfl) ?_
  refine lv_icmp_lt (tgt := 14) hx hb dX4_isWithin_2 (by decide) (fun h1 => ?_) (fun h1 => ?_)
  · refine lv_iconst (v := 0) hx hb dX4_isWithin_14 (by decide) ?_
    exact k_zret () F (rfl) (hW) (wi_f1 h1) dX4_isWithin_15 (Nat.le_of_ble_eq_true rfl) (Nat.le_of_ble_eq_true rfl)
  · refine lv_iload_n hx hb dX4_isWithin_5 rfl (lv_at hl 0 rfl) ?_
    refine lv_iload_n hx hb dX4_isWithin_6 rfl (lv_at hl 2 rfl) ?_
    refine lv_icmp_gt (tgt := 14) hx hb dX4_isWithin_7 (by decide) (fun h2 => ?_) (fun h2 => ?_)
    · refine lv_iconst (v := 0) hx hb dX4_isWithin_14 (by decide) ?_
      exact k_zret () F (rfl) (hW) (wi_f2 h2) dX4_isWithin_15 (Nat.le_of_ble_eq_true rfl) (Nat.le_of_ble_eq_true rfl)
    · refine lv_iconst (v := 1) hx hb dX4_isWithin_10 (by decide) ?_
      refine lv_goto (tgt := 15) hx hb dX4_isWithin_11 (by decide) ?_
      exact k_zret () F (rfl) (hW) (wi_t h1 h2) dX4_isWithin_15 (Nat.le_of_ble_eq_true rfl) (Nat.le_of_ble_eq_true rfl)

set_option maxHeartbeats 4000000 in
set_option maxRecDepth 100000 in
theorem met_X5_thrown (l : Launch) (D : va_G) (cA : Nat → ClassId) (β : Nat → Nat) (c0 c1 : Nat × va_E) (wr : va_W) (th : Int32) (N : Nat → Nat → Nat) (R : Nat → Nat → Nat → Int32) (Fr : Nat → UInt32) (inc : Int64) : MetI l yX5_thrown (.code yX5_thrown cX5_thrown 1 (some .int) :: LW) ({ frames := 0, cells := 0, slots := 0, locals := 0 }) D cA (mWd cA β c0 c1 wr th (N, R, Fr, inc)) [.ref (β 0)] (fun r (_ : Unit) => r = th) (fun _ => mWd cA β c0 c1 wr th (N, R, Fr, inc)) 0 0 := by
  refine k_bodyI (by decide) (Nat.le_of_ble_eq_true rfl) (fun p e s m args below meth c ls F hW hl => ?_)
  obtain ⟨hx, hb, hr, hml, hown, hts, hlocks, hname⟩ := id F
  have hl : lv_has ls 1 [(0, .ref (β 0))] := hl
  refine lv_aload_n hx hb dX5_thrown_0 rfl (lv_at hl 0 rfl) ?_
  refine k_get (v := .int th) F hW inX5 rfl 2 rfl rfl 0 (by decide) FL_X5_74 rfl rfl dX5_thrown_1 ?_
  exact k_iret () F (hW) (rfl) dX5_thrown_4 (Nat.le_of_ble_eq_true rfl) (Nat.le_of_ble_eq_true rfl)

set_option maxHeartbeats 4000000 in
set_option maxRecDepth 100000 in
theorem met_X5_goesOn (l : Launch) (D : va_G) (cA : Nat → ClassId) (β : Nat → Nat) (c0 c1 : Nat × va_E) (wr : va_W) (th : Int32) (N : Nat → Nat → Nat) (R : Nat → Nat → Nat → Int32) (Fr : Nat → UInt32) (inc : Int64) (k : Int32) : MetI l yX5_goesOn (.code yX5_goesOn cX5_goesOn 2 (some .boolean) :: LW) ({ frames := 0, cells := 0, slots := 0, locals := 0 }) D cA (mWd cA β c0 c1 wr th (N, R, Fr, inc)) [.ref (β 0), .int k] (fun r (_ : Unit) => r = b2i (decide (k = 0))) (fun _ => mWd cA β c0 c1 wr k (N, R, Fr, inc)) 0 0 := by
  refine k_bodyI (by decide) (Nat.le_of_ble_eq_true rfl) (fun p e s m args below meth c ls F hW hl => ?_)
  obtain ⟨hx, hb, hr, hml, hown, hts, hlocks, hname⟩ := id F
  have hl : lv_has ls 2 [(0, .ref (β 0)), (1, .int k)] := hl
  refine lv_aload_n hx hb dX5_goesOn_0 rfl (lv_at hl 0 rfl) ?_
  refine lv_iload_n hx hb dX5_goesOn_1 rfl (lv_at hl 1 rfl) ?_
  refine k_put F hW inX5 tyX5_ok nmX5 rfl 2 rfl rfl 0 (by decide) FL_X5_74 rfl rfl rfl rfl rfl (Nat.le_of_ble_eq_true rfl) (mWd cA β c0 c1 wr k (N, R, Fr, inc)) rfl dX5_goesOn_2 (fun H locs hW => ?_)
  refine lv_iload_n hx hb dX5_goesOn_5 rfl (lv_at hl 1 rfl) ?_
  refine lv_if_ne (tgt := 13) hx hb dX5_goesOn_6 (by decide) (fun h1 => ?_) (fun h1 => ?_)
  · refine lv_iconst (v := 0) hx hb dX5_goesOn_13 (by decide) ?_
    exact k_zret () F (rfl) (hW) (by simp [b2i, h1]) dX5_goesOn_14 (Nat.le_of_ble_eq_true rfl) (Nat.le_of_ble_eq_true rfl)
  · refine lv_iconst (v := 1) hx hb dX5_goesOn_9 (by decide) ?_
    refine lv_goto (tgt := 14) hx hb dX5_goesOn_10 (by decide) ?_
    exact k_zret () F (rfl) (hW) (by simp [b2i, h1]) dX5_goesOn_14 (Nat.le_of_ble_eq_true rfl) (Nat.le_of_ble_eq_true rfl)

set_option maxHeartbeats 4000000 in
set_option maxRecDepth 100000 in
theorem met_X5_isBoat (l : Launch) (D : va_G) (cA : Nat → ClassId) (β : Nat → Nat) (c0 c1 : Nat × va_E) (wr : va_W) (th : Int32) (N : Nat → Nat → Nat) (R : Nat → Nat → Nat → Int32) (Fr : Nat → UInt32) (inc : Int64) (v : Int32) : MetI l yX5_isBoat (.code yX5_isBoat cX5_isBoat 2 (some .boolean) :: LW) ({ frames := 1, cells := 0, slots := 0, locals := 22 }) D cA (mWd cA β c0 c1 wr th (N, R, Fr, inc)) [.ref (β 0), .int v] (fun r (_ : Unit) => r = b2i (isIx (N 0 0) v)) (fun _ => mWd cA β c0 c1 wr th (N, R, Fr, inc)) 0 0 := by
  refine k_bodyI (by decide) (Nat.le_of_ble_eq_true rfl) (fun p e s m args below meth c ls F hW hl => ?_)
  obtain ⟨hx, hb, hr, hml, hown, hts, hlocks, hname⟩ := id F
  have hl : lv_has ls 2 [(0, .ref (β 0)), (1, .int v)] := hl
  refine lv_iload_n hx hb dX5_isBoat_0 rfl (lv_at hl 1 rfl) ?_
  refine lv_iconst (v := 0) hx hb dX5_isBoat_1 (by decide) ?_
  refine lv_aload_n hx hb dX5_isBoat_2 rfl (lv_at hl 0 rfl) ?_
  refine k_get (v := .int (nI (N 0 0))) F hW inX5 rfl 2 rfl rfl 1 (by decide) FL_X5_77 rfl rfl dX5_isBoat_3 ?_
  refine lv_iconst (v := 1) hx hb dX5_isBoat_6 (by decide) ?_
  refine lv_isub hx hb dX5_isBoat_7 ?_
  refine k_callSi (as := [.int v, .int 0, .int ((nI (N 0 0)) - 1)]) (rest := []) F hW (met_X5_in l D cA _ v 0 (nI (N 0 0) - 1)) rfl ML_X5_80 ST_X5_in IN_X5 CO_X5_in hdS_X5_in rfl rfl ⟨(Nat.le_of_ble_eq_true rfl), (Nat.le_of_ble_eq_true rfl)⟩ rfl rfl hl.1 (Nat.le_of_ble_eq_true rfl) dX5_isBoat_8 ⟨(Nat.le_of_ble_eq_true rfl), (Nat.le_of_ble_eq_true rfl)⟩ (fun r_1 u H locs hw hW => ?_)
  subst hw
  exact k_zret () F (b2i_z _) (hW) (rfl) dX5_isBoat_11 (Nat.le_of_ble_eq_true rfl) (Nat.le_of_ble_eq_true rfl)

set_option maxHeartbeats 4000000 in
set_option maxRecDepth 100000 in
theorem met_X5_isLot (l : Launch) (D : va_G) (cA : Nat → ClassId) (β : Nat → Nat) (c0 c1 : Nat × va_E) (wr : va_W) (th : Int32) (N : Nat → Nat → Nat) (R : Nat → Nat → Nat → Int32) (Fr : Nat → UInt32) (inc : Int64) (v : Int32) : MetI l yX5_isLot (.code yX5_isLot cX5_isLot 2 (some .boolean) :: LW) ({ frames := 1, cells := 0, slots := 0, locals := 22 }) D cA (mWd cA β c0 c1 wr th (N, R, Fr, inc)) [.ref (β 0), .int v] (fun r (_ : Unit) => r = b2i (isIx (N 0 1) v)) (fun _ => mWd cA β c0 c1 wr th (N, R, Fr, inc)) 0 0 := by
  refine k_bodyI (by decide) (Nat.le_of_ble_eq_true rfl) (fun p e s m args below meth c ls F hW hl => ?_)
  obtain ⟨hx, hb, hr, hml, hown, hts, hlocks, hname⟩ := id F
  have hl : lv_has ls 2 [(0, .ref (β 0)), (1, .int v)] := hl
  refine lv_iload_n hx hb dX5_isLot_0 rfl (lv_at hl 1 rfl) ?_
  refine lv_iconst (v := 0) hx hb dX5_isLot_1 (by decide) ?_
  refine lv_aload_n hx hb dX5_isLot_2 rfl (lv_at hl 0 rfl) ?_
  refine k_get (v := .int (nI (N 0 1))) F hW inX5 rfl 2 rfl rfl 6 (by decide) FL_X5_84 rfl rfl dX5_isLot_3 ?_
  refine lv_iconst (v := 1) hx hb dX5_isLot_6 (by decide) ?_
  refine lv_isub hx hb dX5_isLot_7 ?_
  refine k_callSi (as := [.int v, .int 0, .int ((nI (N 0 1)) - 1)]) (rest := []) F hW (met_X5_in l D cA _ v 0 (nI (N 0 1) - 1)) rfl ML_X5_80 ST_X5_in IN_X5 CO_X5_in hdS_X5_in rfl rfl ⟨(Nat.le_of_ble_eq_true rfl), (Nat.le_of_ble_eq_true rfl)⟩ rfl rfl hl.1 (Nat.le_of_ble_eq_true rfl) dX5_isLot_8 ⟨(Nat.le_of_ble_eq_true rfl), (Nat.le_of_ble_eq_true rfl)⟩ (fun r_2 u H locs hw hW => ?_)
  subst hw
  exact k_zret () F (b2i_z _) (hW) (rfl) dX5_isLot_11 (Nat.le_of_ble_eq_true rfl) (Nat.le_of_ble_eq_true rfl)

set_option maxHeartbeats 4000000 in
set_option maxRecDepth 100000 in
theorem met_X5_isBuyer (l : Launch) (D : va_G) (cA : Nat → ClassId) (β : Nat → Nat) (c0 c1 : Nat × va_E) (wr : va_W) (th : Int32) (N : Nat → Nat → Nat) (R : Nat → Nat → Nat → Int32) (Fr : Nat → UInt32) (inc : Int64) (v : Int32) : MetI l yX5_isBuyer (.code yX5_isBuyer cX5_isBuyer 2 (some .boolean) :: LW) ({ frames := 1, cells := 0, slots := 0, locals := 22 }) D cA (mWd cA β c0 c1 wr th (N, R, Fr, inc)) [.ref (β 0), .int v] (fun r (_ : Unit) => r = b2i (isIx (N 0 2) v)) (fun _ => mWd cA β c0 c1 wr th (N, R, Fr, inc)) 0 0 := by
  refine k_bodyI (by decide) (Nat.le_of_ble_eq_true rfl) (fun p e s m args below meth c ls F hW hl => ?_)
  obtain ⟨hx, hb, hr, hml, hown, hts, hlocks, hname⟩ := id F
  have hl : lv_has ls 2 [(0, .ref (β 0)), (1, .int v)] := hl
  refine lv_iload_n hx hb dX5_isBuyer_0 rfl (lv_at hl 1 rfl) ?_
  refine lv_iconst (v := 0) hx hb dX5_isBuyer_1 (by decide) ?_
  refine lv_aload_n hx hb dX5_isBuyer_2 rfl (lv_at hl 0 rfl) ?_
  refine k_get (v := .int (nI (N 0 2))) F hW inX5 rfl 2 rfl rfl 17 (by decide) FL_X5_87 rfl rfl dX5_isBuyer_3 ?_
  refine lv_iconst (v := 1) hx hb dX5_isBuyer_6 (by decide) ?_
  refine lv_isub hx hb dX5_isBuyer_7 ?_
  refine k_callSi (as := [.int v, .int 0, .int ((nI (N 0 2)) - 1)]) (rest := []) F hW (met_X5_in l D cA _ v 0 (nI (N 0 2) - 1)) rfl ML_X5_80 ST_X5_in IN_X5 CO_X5_in hdS_X5_in rfl rfl ⟨(Nat.le_of_ble_eq_true rfl), (Nat.le_of_ble_eq_true rfl)⟩ rfl rfl hl.1 (Nat.le_of_ble_eq_true rfl) dX5_isBuyer_8 ⟨(Nat.le_of_ble_eq_true rfl), (Nat.le_of_ble_eq_true rfl)⟩ (fun r_3 u H locs hw hW => ?_)
  subst hw
  exact k_zret () F (b2i_z _) (hW) (rfl) dX5_isBuyer_11 (Nat.le_of_ble_eq_true rfl) (Nat.le_of_ble_eq_true rfl)

set_option maxHeartbeats 4000000 in
set_option maxRecDepth 100000 in
theorem met_X5_isTruck (l : Launch) (D : va_G) (cA : Nat → ClassId) (β : Nat → Nat) (c0 c1 : Nat × va_E) (wr : va_W) (th : Int32) (N : Nat → Nat → Nat) (R : Nat → Nat → Nat → Int32) (Fr : Nat → UInt32) (inc : Int64) (v : Int32) : MetI l yX5_isTruck (.code yX5_isTruck cX5_isTruck 2 (some .boolean) :: LW) ({ frames := 1, cells := 0, slots := 0, locals := 22 }) D cA (mWd cA β c0 c1 wr th (N, R, Fr, inc)) [.ref (β 0), .int v] (fun r (_ : Unit) => r = b2i (isIx (N 0 3) v)) (fun _ => mWd cA β c0 c1 wr th (N, R, Fr, inc)) 0 0 := by
  refine k_bodyI (by decide) (Nat.le_of_ble_eq_true rfl) (fun p e s m args below meth c ls F hW hl => ?_)
  obtain ⟨hx, hb, hr, hml, hown, hts, hlocks, hname⟩ := id F
  have hl : lv_has ls 2 [(0, .ref (β 0)), (1, .int v)] := hl
  refine lv_iload_n hx hb dX5_isTruck_0 rfl (lv_at hl 1 rfl) ?_
  refine lv_iconst (v := 0) hx hb dX5_isTruck_1 (by decide) ?_
  refine lv_aload_n hx hb dX5_isTruck_2 rfl (lv_at hl 0 rfl) ?_
  refine k_get (v := .int (nI (N 0 3))) F hW inX5 rfl 2 rfl rfl 23 (by decide) FL_X5_90 rfl rfl dX5_isTruck_3 ?_
  refine lv_iconst (v := 1) hx hb dX5_isTruck_6 (by decide) ?_
  refine lv_isub hx hb dX5_isTruck_7 ?_
  refine k_callSi (as := [.int v, .int 0, .int ((nI (N 0 3)) - 1)]) (rest := []) F hW (met_X5_in l D cA _ v 0 (nI (N 0 3) - 1)) rfl ML_X5_80 ST_X5_in IN_X5 CO_X5_in hdS_X5_in rfl rfl ⟨(Nat.le_of_ble_eq_true rfl), (Nat.le_of_ble_eq_true rfl)⟩ rfl rfl hl.1 (Nat.le_of_ble_eq_true rfl) dX5_isTruck_8 ⟨(Nat.le_of_ble_eq_true rfl), (Nat.le_of_ble_eq_true rfl)⟩ (fun r_4 u H locs hw hW => ?_)
  subst hw
  exact k_zret () F (b2i_z _) (hW) (rfl) dX5_isTruck_11 (Nat.le_of_ble_eq_true rfl) (Nat.le_of_ble_eq_true rfl)

set_option maxHeartbeats 4000000 in
set_option maxRecDepth 100000 in
theorem met_X5_isSpecies (l : Launch) (D : va_G) (cA : Nat → ClassId) (ws : va_W) (v : Int32) : MetI l yX5_isSpecies (.code yX5_isSpecies cX5_isSpecies 1 (some .boolean) :: LW) ({ frames := 1, cells := 0, slots := 0, locals := 22 }) D cA (ws) [.int v] (fun r (_ : Unit) => r = b2i (wi v 0 3)) (fun _ => ws) 0 0 := by
  refine k_bodyI (by decide) (Nat.le_of_ble_eq_true rfl) (fun p e s m args below meth c ls F hW hl => ?_)
  obtain ⟨hx, hb, hr, hml, hown, hts, hlocks, hname⟩ := id F
  have hl : lv_has ls 1 [(0, .int v)] := hl
  refine lv_iload_n hx hb dX5_isSpecies_0 rfl (lv_at hl 0 rfl) ?_
  refine lv_iconst (v := 0) hx hb dX5_isSpecies_1 (by decide) ?_
  refine lv_iconst (v := 3) hx hb dX5_isSpecies_2 (by decide) ?_
  refine k_callSi (as := [.int v, .int 0, .int 3]) (rest := []) F hW (met_X5_in l D cA _ v 0 3) rfl ML_X5_80 ST_X5_in IN_X5 CO_X5_in hdS_X5_in rfl rfl ⟨(Nat.le_of_ble_eq_true rfl), (Nat.le_of_ble_eq_true rfl)⟩ rfl rfl hl.1 (Nat.le_of_ble_eq_true rfl) dX5_isSpecies_3 ⟨(Nat.le_of_ble_eq_true rfl), (Nat.le_of_ble_eq_true rfl)⟩ (fun r_5 u H locs hw hW => ?_)
  subst hw
  exact k_zret () F (b2i_z _) (hW) (rfl) dX5_isSpecies_6 (Nat.le_of_ble_eq_true rfl) (Nat.le_of_ble_eq_true rfl)
end
section
/-! What each call answers: (code, answer, next state); code 0: it returns -/
def ix (v : Int32) : Nat := v.toNatClampNeg
def op_addBoat : St → Int32 → Int32 → Int32 → Int32 → Nat × Int32 × St := fun (N, R, Fr, inc) p0 p1 p2 p3 =>
  if (wi p0 0 9999 && wi p1 0 9999 && wi p2 0 9999 && wi p3 0 9999) = false then (1, 0, (N, R, Fr, inc)) else if N 0 0 = 6 then (2, 0, (N, R, Fr, inc)) else
  (0, nI (N 0 0), (up2 (up2 N 0 0 (N 0 0 + 1)) 2 0 (N 0 0 + 1), up3 (up3 (up3 (up3 (up3 (up3 (up3 (up3 R 1 (N 0 0) 0 p0) 1 (N 0 0) 1 p1) 1 (N 0 0) 2 p2) 1 (N 0 0) 3 p3) 3 (N 0 0) 0 p0) 3 (N 0 0) 1 p1) 3 (N 0 0) 2 p2) 3 (N 0 0) 3 p3, Fr, inc))
def landed (kg left : Int32) : Int32 := if kg < left then kg else left
def op_land : St → Int32 → Int32 → Int32 → Int32 → Int32 → Nat × Int32 × St := fun (N, R, Fr, inc) p0 p1 p2 p3 p4 =>
  if isIx (N 0 0) p0 = false then (1, 0, (N, R, Fr, inc)) else if (wi p1 0 3 && wi p2 0 2 && wi p3 1 2000) = false then (2, 0, (N, R, Fr, inc)) else if N 0 1 = 20 then (3, 0, (N, R, Fr, inc)) else if R 1 (ix p0) (ix p1) = 0 then (4, 0, (N, R, Fr, inc)) else
  (0, nI (N 0 1), (up2 (up2 N 0 1 (N 0 1 + 1)) 2 1 (N 0 1 + 1), up3 (up3 (up3 (up3 (up3 (up3 (up3 (up3 (up3 R 1 (ix p0) (ix p1) (R 1 (ix p0) (ix p1) - landed p3 (R 1 (ix p0) (ix p1)))) 0 0 0 (R 0 0 0 + (p3 - landed p3 (R 1 (ix p0) (ix p1))))) 5 (N 0 1) 0 p1) 6 (N 0 1) 0 p2) 7 (N 0 1) 0 (landed p3 (R 1 (ix p0) (ix p1)))) 8 (N 0 1) 0 p4) 9 (N 0 1) 0 102) 11 (N 0 1) 0 (-1)) 4 (N 0 1) 0 p0, vf_upd Fr (N 0 1) 1120403456, inc))
def op_moveQuota : St → Int32 → Int32 → Int32 → Int32 → Nat × Int32 × St := fun (N, R, Fr, inc) p0 p1 p2 p3 =>
  if (isIx (N 0 0) p0 && isIx (N 0 0) p1) = false then (1, 0, (N, R, Fr, inc)) else if p0 = p1 ∨ (wi p2 0 3 && wi p3 1 9999) = false then (2, 0, (N, R, Fr, inc)) else if R 1 (ix p0) (ix p2) < p3 then (3, 0, (N, R, Fr, inc)) else
  (0, R 1 (ix p0) (ix p2) - p3, (N, up3 (up3 (up3 (up3 R 1 (ix p0) (ix p2) (R 1 (ix p0) (ix p2) - p3)) 1 (ix p1) (ix p2) (R 1 (ix p1) (ix p2) + p3)) 3 (ix p0) (ix p2) (R 3 (ix p0) (ix p2) - p3)) 3 (ix p1) (ix p2) (R 3 (ix p1) (ix p2) + p3), Fr, inc))
def op_quota : St → Int32 → Int32 → Nat × Int32 × St := fun (N, R, Fr, inc) p0 p1 =>
  if isIx (N 0 0) p0 = false then (1, 0, (N, R, Fr, inc)) else if wi p1 0 3 = false then (2, 0, (N, R, Fr, inc)) else (0, R 1 (ix p0) (ix p1), (N, R, Fr, inc))
def op_quotaAt : St → Int32 → Int32 → Int32 → Nat × Int32 × St := fun (N, R, Fr, inc) p0 p1 p2 =>
  if isIx (N 0 0) p0 = false then (1, 0, (N, R, Fr, inc)) else if wi p1 0 3 = false then (2, 0, (N, R, Fr, inc)) else if isIx (N 0 4) p2 = false then (3, 0, (N, R, Fr, inc)) else (0, R 2 (ix p2) (4 * ix p0 + ix p1), (N, R, Fr, inc))
/-- day d's row, the first n numbers written -/
def wrote (R : Nat → Nat → Nat → Int32) (d n : Nat) : Nat → Nat → Nat → Int32 := fun k i j => if k = 2 ∧ i = d ∧ j < n then R 1 (j / 4) (j % 4) else R k i j
def op_endDay : St → Nat × Int32 × St := fun (N, R, Fr, inc) =>
  if N 0 4 = 19 then (1, 0, (N, R, Fr, inc)) else (0, nI (N 0 4 + 1), (up2 N 0 4 (N 0 4 + 1), wrote R (N 0 4) 24, Fr, inc))
def op_lot (k : Nat) : St → Int32 → Nat × Int32 × St := fun (N, R, Fr, inc) p0 =>
  if isIx (N 0 1) p0 = false then (1, 0, (N, R, Fr, inc)) else (0, R k (ix p0) 0, (N, R, Fr, inc))
def op_fresh : St → Int32 → Nat × UInt32 × St := fun (N, R, Fr, inc) p0 =>
  if isIx (N 0 1) p0 = false then (1, 0, (N, R, Fr, inc)) else (0, Fr (ix p0), (N, R, Fr, inc))
def op_freshBits : St → Int32 → Nat × Int32 × St := fun (N, R, Fr, inc) p0 =>
  if isIx (N 0 1) p0 = false then (1, 0, (N, R, Fr, inc)) else (0, (Fr (ix p0)).toInt32, (N, R, Fr, inc))
def op_ice : St → Int32 → Int32 → Nat × Int32 × St := fun (N, R, Fr, inc) p0 p1 =>
  if isIx (N 0 1) p0 = false then (1, 0, (N, R, Fr, inc)) else if wi p1 1 999 = false then (2, 0, (N, R, Fr, inc)) else if R 9 (ix p0) 0 = 100 ∨ R 9 (ix p0) 0 = 120 then (3, 0, (N, R, Fr, inc)) else
  (0, R 10 (ix p0) 0 + p1, (N, up3 R 10 (ix p0) 0 (R 10 (ix p0) 0 + p1), Fr, inc))
def iceFor (w : Int32) : Int32 := (w + 9) / 10
def op_iceLasts : St → Int32 → Nat × Int32 × St := fun (N, R, Fr, inc) p0 =>
  if isIx (N 0 1) p0 = false then (1, 0, (N, R, Fr, inc)) else (0, R 10 (ix p0) 0 / iceFor (R 7 (ix p0) 0), (N, R, Fr, inc))
def op_addBuyer : St → Int32 → Nat × Int32 × St := fun (N, R, Fr, inc) p0 =>
  if wi p0 0 1000000 = false then (1, 0, (N, R, Fr, inc)) else if N 0 2 = 5 then (2, 0, (N, R, Fr, inc)) else
  (0, nI (N 0 2), (up2 (up2 N 0 2 (N 0 2 + 1)) 2 2 (N 0 2 + 1), up3 R 13 (N 0 2) 0 p0, Fr, inc))
def op_setLimit : St → Int32 → Int32 → Int32 → Nat × Int32 × St := fun (N, R, Fr, inc) p0 p1 p2 =>
  if isIx (N 0 2) p0 = false then (1, 0, (N, R, Fr, inc)) else if (wi p1 0 3 && wi p2 0 9999) = false then (2, 0, (N, R, Fr, inc)) else
  (0, R 14 (ix p0) (ix p1), (N, up3 R 14 (ix p0) (ix p1) p2, Fr, inc))
def op_budget : St → Int32 → Nat × Int32 × St := fun (N, R, Fr, inc) p0 =>
  if isIx (N 0 2) p0 = false then (1, 0, (N, R, Fr, inc)) else (0, R 13 (ix p0) 0, (N, R, Fr, inc))
def op_setClock : St → Int32 → Int32 → Int32 → Nat × Int32 × St := fun (N, R, Fr, inc) p0 p1 p2 =>
  if (wi p0 1 9999 && wi p1 1 500 && wi p2 0 p0) = false then (1, 0, (N, R, Fr, inc)) else (0, R 0 1 0, (N, up3 (up3 (up3 R 0 1 0 p0) 0 2 0 p1) 0 3 0 p2, Fr, inc))
/-- the offer for a lot: limit, size, freshness -/
def offerV (lim sz : Int32) (fr : UInt32) : Int32 := FP.d2i (FP.ddiv (FP.dmul (FP.ddiv (FP.i2d (lim * (100 + 10 * sz))) 4636737291354636288) (FP.f2d fr)) 4636737291354636288)
def offerOf (R : Nat → Nat → Nat → Int32) (Fr : Nat → UInt32) (u j : Nat) : Int32 := offerV (R 14 u (ix (R 5 j 0))) (R 6 j 0) (Fr j)
def op_offer : St → Int32 → Int32 → Nat × Int32 × St := fun (N, R, Fr, inc) p0 p1 =>
  if isIx (N 0 2) p0 = false then (1, 0, (N, R, Fr, inc)) else if isIx (N 0 1) p1 = false then (2, 0, (N, R, Fr, inc)) else (0, offerOf R Fr (ix p0) (ix p1), (N, R, Fr, inc))
/-- buyer b can take lot j at a price -/
def can (R : Nat → Nat → Nat → Int32) (Fr : Nat → UInt32) (j : Nat) (price : Int32) (b : Nat) : Bool := decide (price ≤ offerOf R Fr b j) && decide (price * R 7 j 0 ≤ R 13 b 0)
/-- the best of the first n buyers: its number + 1, or 0 -/
def best (R : Nat → Nat → Nat → Int32) (Fr : Nat → UInt32) (j : Nat) (price : Int32) : Nat → Nat
  | 0 => 0
  | n + 1 => if can R Fr j price n && (decide (best R Fr j price n = 0) || decide (offerOf R Fr (best R Fr j price n - 1) j < offerOf R Fr n j)) then n + 1 else best R Fr j price n
def takes (N : Nat → Nat → Nat) (R : Nat → Nat → Nat → Int32) (Fr : Nat → UInt32) (j : Nat) (price : Int32) : Int32 := nI (best R Fr j price (N 0 2)) - 1
/-- the clock from a price on, at most n falls: the price of the sale, or -1 -/
def fallsN (N : Nat → Nat → Nat) (R : Nat → Nat → Nat → Int32) (Fr : Nat → UInt32) (j : Nat) : Nat → Int32 → Int32
  | 0, _ => -1
  | n + 1, price => if R 0 3 0 ≤ price ∧ 0 ≤ price then (if best R Fr j price (N 0 2) = 0 then fallsN N R Fr j n (price - R 0 2 0) else price) else -1
def falls (N : Nat → Nat → Nat) (R : Nat → Nat → Nat → Int32) (Fr : Nat → UInt32) (j : Nat) : Int32 := fallsN N R Fr j 10001 (R 0 1 0)
def faultOf (N : Nat → Nat → Nat) (R : Nat → Nat → Nat → Int32) (Fr : Nat → UInt32) (p0 : Int32) : Nat := if isIx (N 0 1) p0 = false then 1 else if R 9 (ix p0) 0 = 102 then (if falls N R Fr (ix p0) = -1 then 3 else 0) else 2
def op_price : St → Int32 → Nat × Int32 × St := fun (N, R, Fr, inc) p0 =>
  if faultOf N R Fr p0 = 0 then (0, falls N R Fr (ix p0), (N, R, Fr, inc)) else (faultOf N R Fr p0, 0, (N, R, Fr, inc))
def op_sell : St → Int32 → Nat × Int32 × St := fun (N, R, Fr, inc) p0 =>
  if faultOf N R Fr p0 = 0 then (0, takes N R Fr (ix p0) (falls N R Fr (ix p0)),
    (N, up3 (up3 (up3 (up3 R 11 (ix p0) 0 (takes N R Fr (ix p0) (falls N R Fr (ix p0)))) 12 (ix p0) 0 (falls N R Fr (ix p0) * R 7 (ix p0) 0)) 13 (ix (takes N R Fr (ix p0) (falls N R Fr (ix p0)))) 0 (R 13 (ix (takes N R Fr (ix p0) (falls N R Fr (ix p0)))) 0 - falls N R Fr (ix p0) * R 7 (ix p0) 0)) 9 (ix p0) 0 115, Fr, inc + (falls N R Fr (ix p0) * R 7 (ix p0) 0).toInt64))
  else (faultOf N R Fr p0, 0, (N, R, Fr, inc))
def op_buyerOf : St → Int32 → Nat × Int32 × St := fun (N, R, Fr, inc) p0 =>
  if isIx (N 0 1) p0 = false then (1, 0, (N, R, Fr, inc)) else if R 11 (ix p0) 0 = -1 then (1, 0, (N, R, Fr, inc)) else (0, R 11 (ix p0) 0, (N, R, Fr, inc))
def op_addTruck : St → Int32 → Int32 → Int32 → Nat × Int32 × St := fun (N, R, Fr, inc) p0 p1 p2 =>
  if (wi p0 (nI (N 0 5) + 1) 1000 && wi p1 100 9999) = false then (1, 0, (N, R, Fr, inc)) else if N 0 3 = 4 then (2, 0, (N, R, Fr, inc)) else
  (0, nI (N 0 3), (up2 (up2 N 0 3 (N 0 3 + 1)) 2 3 (N 0 3 + 1), up3 (up3 (up3 R 15 (N 0 3) 0 p0) 17 (N 0 3) 0 p1) 16 (N 0 3) 0 p2, Fr, inc))
def op_load : St → Int32 → Int32 → Nat × Int32 × St := fun (N, R, Fr, inc) p0 p1 =>
  if isIx (N 0 1) p0 = false then (1, 0, (N, R, Fr, inc)) else if isIx (N 0 3) p1 = false then (2, 0, (N, R, Fr, inc)) else
  if ¬ R 9 (ix p0) 0 = 115 ∨ R 15 (ix p1) 0 ≤ nI (N 0 5) ∨ N 1 (ix p1) = 5 ∨ R 17 (ix p1) 0 < R 7 (ix p0) 0 then (3, 0, (N, R, Fr, inc)) else
  if ¬ R 16 (ix p1) 0 = 0 ∧ R 8 (ix p0) 0 = 0 then (4, 0, (N, R, Fr, inc)) else
  (0, R 17 (ix p1) 0 - R 7 (ix p0) 0, (up2 (up2 N 1 (ix p1) (N 1 (ix p1) + 1)) 3 (ix p1) (N 1 (ix p1) + 1), up3 (up3 (up3 R 9 (ix p0) 0 108) 18 (ix p1) (N 1 (ix p1)) p0) 17 (ix p1) 0 (R 17 (ix p1) 0 - R 7 (ix p0) 0), Fr, inc))
def op_lotOn : St → Int32 → Int32 → Nat × Int32 × St := fun (N, R, Fr, inc) p0 p1 =>
  if isIx (N 0 3) p0 = false then (1, 0, (N, R, Fr, inc)) else if isIx (N 1 (ix p0)) p1 = false then (2, 0, (N, R, Fr, inc)) else (0, R 18 (ix p0) (ix p1), (N, R, Fr, inc))
/-- sums over the first n lots of the weights of those that p takes -/
def wsum (R : Nat → Nat → Nat → Int32) (p : Nat → Bool) : Nat → Int32
  | 0 => 0
  | n + 1 => wsum R p n + (if p n then R 7 n 0 else 0)
def isSold (R : Nat → Nat → Nat → Int32) (j : Nat) : Bool := decide (R 9 j 0 = 115) || decide (R 9 j 0 = 108) || decide (R 9 j 0 = 100)
def isBad (R : Nat → Nat → Nat → Int32) (j : Nat) : Bool := decide (R 9 j 0 = 120)
def op_soldShare : St → Nat × UInt32 × St := fun (N, R, Fr, inc) =>
  if N 0 1 = 0 then (1, 0, (N, R, Fr, inc)) else (0, FP.fdiv (FP.i2f (wsum R (isSold R) (N 0 1))) (FP.i2f (wsum R (fun _ => true) (N 0 1))), (N, R, Fr, inc))
def meanOf (N : Nat → Nat → Nat) (R : Nat → Nat → Nat → Int32) (inc : Int64) : UInt64 := FP.ddiv (FP.l2d inc) (FP.i2d (wsum R (isSold R) (N 0 1)))
def op_meanPrice : St → Nat × UInt64 × St := fun (N, R, Fr, inc) =>
  if wsum R (isSold R) (N 0 1) = 0 then (1, 0, (N, R, Fr, inc)) else (0, meanOf N R inc, (N, R, Fr, inc))
def op_meanBits : St → Nat × Int64 × St := fun (N, R, Fr, inc) =>
  if wsum R (isSold R) (N 0 1) = 0 then (1, 0, (N, R, Fr, inc)) else (0, (meanOf N R inc).toInt64, (N, R, Fr, inc))
/-- a lot grows older by one tick -/
def ageR (R : Nat → Nat → Nat → Int32) (Fr : Nat → UInt32) (j : Nat) : (Nat → Nat → Nat → Int32) × (Nat → UInt32) :=
  if ¬ (R 9 j 0 = 102 ∨ R 9 j 0 = 115 ∨ R 9 j 0 = 108) then (R, Fr) else
  if iceFor (R 7 j 0) ≤ R 10 j 0 then
    (up3 (up3 R 10 j 0 (R 10 j 0 - iceFor (R 7 j 0))) 9 j 0 (if R 9 j 0 = 102 ∧ FP.fcmp (FP.fmul (Fr j) 1065269330) 1106247680 = some .lt then 120 else R 9 j 0), vf_upd Fr j (FP.fmul (Fr j) 1065269330))
  else (up3 R 9 j 0 (if R 9 j 0 = 102 ∧ FP.fcmp (FP.fmul (Fr j) 1065017672) 1106247680 = some .lt then 120 else R 9 j 0), vf_upd Fr j (FP.fmul (Fr j) 1065017672))
def agesR (R : Nat → Nat → Nat → Int32) (Fr : Nat → UInt32) : Nat → (Nat → Nat → Nat → Int32) × (Nat → UInt32)
  | 0 => (R, Fr)
  | n + 1 => ageR (agesR R Fr n).1 (agesR R Fr n).2 n
/-- the money back for a lot -/
def backV (paid : Int32) (fr : UInt32) : Int32 := FP.f2i (FP.fdiv (FP.fmul (FP.i2f paid) (FP.fsub 1116471296 fr)) 1120403456)
/-- a lot is delivered -/
def delR (Fr : Nat → UInt32) (j : Nat) : (Nat → Nat → Nat → Int32) × Int64 → (Nat → Nat → Nat → Int32) × Int64 := fun (R, inc) =>
  if FP.fcmp (Fr j) 1116471296 = some .lt then
    (up3 (up3 (up3 R 9 j 0 100) 12 j 0 (R 12 j 0 - backV (R 12 j 0) (Fr j))) 13 (ix (R 11 j 0)) 0 (R 13 (ix (R 11 j 0)) 0 + backV (R 12 j 0) (Fr j)), inc - (backV (R 12 j 0) (Fr j)).toInt64)
  else (up3 R 9 j 0 100, inc)
/-- the first n lots of truck t are delivered -/
def delsR (Fr : Nat → UInt32) (t : Nat) : Nat → (Nat → Nat → Nat → Int32) × Int64 → (Nat → Nat → Nat → Int32) × Int64
  | 0, x => x
  | n + 1, x => delR Fr (ix ((delsR Fr t n x).1 18 t n)) (delsR Fr t n x)
/-- the first n trucks, at a time: which leave -/
def leaveR (N : Nat → Nat → Nat) (Fr : Nat → UInt32) (now : Int32) : Nat → (Nat → Nat → Nat → Int32) × Int64 → (Nat → Nat → Nat → Int32) × Int64
  | 0, x => x
  | n + 1, x => if (leaveR N Fr now n x).1 15 n 0 = now then delsR Fr n (N 1 n) (leaveR N Fr now n x) else leaveR N Fr now n x
def leaveN (R : Nat → Nat → Nat → Int32) (now : Int32) : Nat → Nat
  | 0 => 0
  | n + 1 => leaveN R now n + (if R 15 n 0 = now then 1 else 0)
def op_tick : St → Nat × Int32 × St := fun (N, R, Fr, inc) =>
  (0, nI (leaveN R (nI (N 0 5 + 1)) (N 0 3)), (up2 N 0 5 (N 0 5 + 1), (leaveR N (agesR R Fr (N 0 1)).2 (nI (N 0 5 + 1)) (N 0 3) ((agesR R Fr (N 0 1)).1, inc)).1, (agesR R Fr (N 0 1)).2, (leaveR N (agesR R Fr (N 0 1)).2 (nI (N 0 5 + 1)) (N 0 3) ((agesR R Fr (N 0 1)).1, inc)).2))
theorem ix_nI {j : Nat} (h : j < 2 ^ 31) : ix (nI j) = j := nI_clamp h
theorem ixc (n : Nat) (p : Int32) (hn : n < 2 ^ 31) : isIx n p = false ∨ ∃ j : Nat, j < n ∧ p = nI j ∧ ix p = j ∧ isIx n p = true := by
  cases hq : isIx n p
  · exact Or.inl rfl
  · refine Or.inr ?_
    simp only [isIx, wi, Bool.and_eq_true, decide_eq_true_eq] at hq
    obtain ⟨h0, h1⟩ := hq
    rcases Nat.eq_zero_or_pos n with rfl | hp
    · exact absurd (Int32.le_trans h0 h1) (by decide)
    · obtain ⟨j, hj, rfl⟩ := nI_of (x := p) (Int32.not_lt.mpr h0)
      rw [show nI n - 1 = nI (n - 1) from by rw [← nI_pred (n - 1), Nat.sub_add_cancel hp]] at h1
      have := (nI_leI hj (by omega)).mp h1
      exact ⟨j, by omega, rfl, nI_clamp hj, rfl⟩
theorem isIx_t {n j : Nat} (h : j < n) (hn : n < 2 ^ 31) : isIx n (nI j) = true := by
  simp only [isIx, wi, Bool.and_eq_true, decide_eq_true_eq]
  refine ⟨nI_pos' (by omega), ?_⟩
  rw [show nI n - 1 = nI (n - 1) from by rw [← nI_pred (n - 1), Nat.sub_add_cancel (by omega)]]
  exact nI_le (by omega) (by omega)
theorem isIx_f {n j : Nat} (h : n ≤ j) (hj : j < 2 ^ 31) : isIx n (nI j) = false := by
  rcases ixc n (nI j) (by omega) with q | ⟨k, hk, e, -, -⟩
  · exact q
  · have := (nI_eq hj (by omega)).mp e
    omega
theorem isIx_neg {n : Nat} {v : Int32} (h : v < 0) : isIx n v = false := by
  have a : ¬ (0 : Int32) ≤ v := Int32.not_le.mpr h
  simp [isIx, wi, a]
/-- a number between small bounds is one of the naturals between them -/
theorem wi_nat {v : Int32} {a b : Nat} (hb : b < 2 ^ 31) (hab : a ≤ b) (h : wi v (nI a) (nI b) = true) : ∃ k : Nat, a ≤ k ∧ k ≤ b ∧ v = nI k ∧ ix v = k := by
  simp only [wi, Bool.and_eq_true, decide_eq_true_eq] at h
  obtain ⟨h0, h1⟩ := h
  have h2 : (0 : Int32) ≤ v := Int32.le_trans (nI_pos' (by omega)) h0
  obtain ⟨j, hj, rfl⟩ := nI_of (x := v) (Int32.not_lt.mpr h2)
  exact ⟨j, (nI_leI (by omega) hj).mp h0, (nI_leI hj hb).mp h1, rfl, nI_clamp hj⟩
theorem ix4 (b k : Nat) : 4 * nI b + nI k = nI (4 * b + k) := by rw [show (4 : Int32) = nI 4 from rfl, pk_mul, nI_add]
theorem ix5 (b k : Nat) : 5 * nI b + nI k = nI (5 * b + k) := by rw [show (5 : Int32) = nI 5 from rfl, pk_mul, nI_add]
theorem q4 {f : Nat → Nat → Int32} {b k : Nat} (hk : k < 4) (hb : 4 * b + k < 2 ^ 31) : (fun k => f (k / 4) (k % 4)) (nI (4 * b + k)).toNatClampNeg = f b k := by
  rw [nI_clamp hb]
  show f ((4 * b + k) / 4) ((4 * b + k) % 4) = f b k
  rw [show (4 * b + k) / 4 = b by omega, show (4 * b + k) % 4 = k by omega]
theorem q5 {f : Nat → Nat → Int32} {b k : Nat} (hk : k < 5) (hb : 5 * b + k < 2 ^ 31) : (fun k => f (k / 5) (k % 5)) (nI (5 * b + k)).toNatClampNeg = f b k := by
  rw [nI_clamp hb]
  show f ((5 * b + k) / 5) ((5 * b + k) % 5) = f b k
  rw [show (5 * b + k) / 5 = b by omega, show (5 * b + k) % 5 = k by omega]
theorem q24 {f : Nat → Nat → Int32} {b k : Nat} (hk : k < 24) (hb : 24 * b + k < 2 ^ 31) : (fun k => f (k / 24) (k % 24)) (nI (24 * b + k)).toNatClampNeg = f b k := by
  rw [nI_clamp hb]
  show f ((24 * b + k) / 24) ((24 * b + k) % 24) = f b k
  rw [show (24 * b + k) / 24 = b by omega, show (24 * b + k) % 24 = k by omega]
/-- what a store does to the registers -/
theorem u1 (R : Nat → Nat → Nat → Int32) (k i : Nat) (v : Int32) : upd (fun j => R k j 0) i v = fun j => up3 R k i 0 v k j 0 := by
  funext j
  simp [upd, up3]
theorem ud (c : Nat) (R : Nat → Nat → Nat → Int32) (k b s : Nat) (v : Int32) (hs : s < c) : upd (fun x => R k (x / c) (x % c)) (c * b + s) v = fun x => up3 R k b s v k (x / c) (x % c) := by
  funext x
  simp only [upd, up3]
  by_cases h : x = c * b + s
  · have h1 : x / c = b := by rw [h, Nat.mul_add_div (by omega), Nat.div_eq_of_lt hs, Nat.add_zero]
    have h2 : x % c = s := by rw [h, Nat.mul_add_mod, Nat.mod_eq_of_lt hs]
    rw [if_pos h, if_pos ⟨trivial, h1, h2⟩]
  · rw [if_neg h, if_neg]
    rintro ⟨-, h1, h2⟩
    exact h (by rw [← h1, ← h2]; exact (Nat.div_add_mod x c).symm)
theorem ix_lt {n : Nat} {p : Int32} (h : isIx n p = true) (hn : n < 2 ^ 31) : ix p < n ∧ p = nI (ix p) := by
  rcases ixc n p hn with q | ⟨j, hj, e, ej, -⟩
  · rw [q] at h; cases h
  · rw [ej]; exact ⟨hj, e⟩
theorem wi_lt {p : Int32} {b : Nat} (hb : b < 2 ^ 31) (h : wi p 0 (nI b) = true) : ix p ≤ b ∧ p = nI (ix p) := by
  obtain ⟨k, -, h1, h2, h3⟩ := wi_nat (a := 0) hb (Nat.zero_le _) h
  rw [h3]; exact ⟨h1, h2⟩
theorem in1 {n L : Nat} {p : Int32} (h : isIx n p = true) (hn : n ≤ L) (hL : L < 2 ^ 31) : vp_in p L := by
  obtain ⟨h1, h2⟩ := ix_lt h (by omega)
  rw [h2]; exact vp_in_nI (by omega) hL
theorem cl4 {n : Nat} {p q : Int32} (h : isIx n p = true) (hn : n ≤ 20) (h2 : wi q 0 3 = true) : 4 * p + q = nI (4 * ix p + ix q) ∧ (4 * p + q).toNatClampNeg = 4 * ix p + ix q ∧ ix q < 4 ∧ ix p < n := by
  obtain ⟨a1, a2⟩ := ix_lt h (by omega)
  obtain ⟨b1, b2⟩ := wi_lt (b := 3) (by decide) h2
  have e : 4 * p + q = nI (4 * ix p + ix q) := by rw [a2, b2, ix4, ← a2, ← b2]
  exact ⟨e, by rw [e]; exact nI_clamp (by omega), by omega, a1⟩
theorem in4 {n L : Nat} {p q : Int32} (h : isIx n p = true) (hn : n ≤ 20) (h2 : wi q 0 3 = true) (hL : 4 * n ≤ L) (hL2 : L < 2 ^ 31) : vp_in (4 * p + q) L := by
  obtain ⟨e, -, h3, h4⟩ := cl4 h hn h2
  rw [e]; exact vp_in_nI (by omega) hL2
theorem v4 {n : Nat} {p q : Int32} {f : Nat → Nat → Int32} (h : isIx n p = true) (hn : n ≤ 20) (h2 : wi q 0 3 = true) : (fun k => f (k / 4) (k % 4)) (4 * p + q).toNatClampNeg = f (ix p) (ix q) := by
  obtain ⟨-, e, h3, h4⟩ := cl4 h hn h2
  rw [e]
  show f ((4 * ix p + ix q) / 4) ((4 * ix p + ix q) % 4) = _
  rw [show (4 * ix p + ix q) / 4 = ix p by omega, show (4 * ix p + ix q) % 4 = ix q by omega]
theorem ud4 {n : Nat} {p q : Int32} (R : Nat → Nat → Nat → Int32) (k : Nat) (v : Int32) (h : isIx n p = true) (hn : n ≤ 20) (h2 : wi q 0 3 = true) : upd (fun x => R k (x / 4) (x % 4)) (4 * p + q).toNatClampNeg v = fun x => up3 R k (ix p) (ix q) v k (x / 4) (x % 4) := by
  obtain ⟨-, e, h3, h4⟩ := cl4 h hn h2
  rw [e]; exact ud 4 R k (ix p) (ix q) v h3
theorem u1' (R : Nat → Nat → Nat → Int32) (k i : Nat) (p v : Int32) (h : p.toNatClampNeg = i) : upd (fun j => R k j 0) p.toNatClampNeg v = fun j => up3 R k i 0 v k j 0 := by rw [h]; exact u1 R k i v
theorem uN (N : Nat → Nat → Nat) (i v : Nat) : upd (fun t => nI (N 1 t)) i (nI v) = fun t => nI (up2 N 1 i v 1 t) := by
  funext t
  simp only [upd, up2]
  by_cases h : t = i
  · simp [h]
  · simp [h]
theorem cl5 {n k : Nat} {p : Int32} (h : isIx n p = true) (hn : n ≤ 4) (hk : k < 5) : 5 * p + nI k = nI (5 * ix p + k) ∧ (5 * p + nI k).toNatClampNeg = 5 * ix p + k ∧ ix p < n := by
  obtain ⟨a1, a2⟩ := ix_lt h (by omega)
  have e : 5 * p + nI k = nI (5 * ix p + k) := by rw [a2, ix5, ← a2]
  exact ⟨e, by rw [e]; exact nI_clamp (by omega), a1⟩
theorem in5 {n k : Nat} {p : Int32} (h : isIx n p = true) (hn : n ≤ 4) (hk : k < 5) : vp_in (5 * p + nI k) 20 := by
  obtain ⟨e, -, h4⟩ := cl5 h hn hk
  rw [e]; exact vp_in_nI (by omega) (by decide)
theorem v5 {n k : Nat} {p : Int32} {f : Nat → Nat → Int32} (h : isIx n p = true) (hn : n ≤ 4) (hk : k < 5) : (fun k => f (k / 5) (k % 5)) (5 * p + nI k).toNatClampNeg = f (ix p) k := by
  obtain ⟨-, e, h4⟩ := cl5 h hn hk
  rw [e]
  show f ((5 * ix p + k) / 5) ((5 * ix p + k) % 5) = _
  rw [show (5 * ix p + k) / 5 = ix p by omega, show (5 * ix p + k) % 5 = k by omega]
theorem ud5 {n k : Nat} {p : Int32} (R : Nat → Nat → Nat → Int32) (v : Int32) (h : isIx n p = true) (hn : n ≤ 4) (hk : k < 5) : upd (fun x => R 18 (x / 5) (x % 5)) (5 * p + nI k).toNatClampNeg v = fun x => up3 R 18 (ix p) k v 18 (x / 5) (x % 5) := by
  obtain ⟨-, e, h4⟩ := cl5 h hn hk
  rw [e]; exact ud 5 R 18 (ix p) k v hk
theorem in5' {n m : Nat} {p q : Int32} (h : isIx n p = true) (hn : n ≤ 4) (h2 : isIx m q = true) (hm : m ≤ 5) : vp_in (5 * p + q) 20 := by
  obtain ⟨a1, a2⟩ := ix_lt h2 (by omega)
  rw [a2]; exact in5 h hn (by omega)
theorem v5' {n m : Nat} {p q : Int32} {f : Nat → Nat → Int32} (h : isIx n p = true) (hn : n ≤ 4) (h2 : isIx m q = true) (hm : m ≤ 5) : (fun k => f (k / 5) (k % 5)) (5 * p + q).toNatClampNeg = f (ix p) (ix q) := by
  obtain ⟨a1, a2⟩ := ix_lt h2 (by omega)
  rw [a2]; rw [v5 h hn (by omega), ← a2]
theorem cl24 {n m : Nat} {d p q : Int32} (hd : isIx m d = true) (hm : m ≤ 19) (h : isIx n p = true) (hn : n ≤ 6) (h2 : wi q 0 3 = true) : 24 * d + 4 * p + q = nI (24 * ix d + (4 * ix p + ix q)) ∧ (24 * d + 4 * p + q).toNatClampNeg = 24 * ix d + (4 * ix p + ix q) ∧ 4 * ix p + ix q < 24 ∧ ix d < m := by
  obtain ⟨a1, a2⟩ := ix_lt hd (by omega)
  obtain ⟨b1, b2, b3, b4⟩ := cl4 h (by omega) h2
  have e : 24 * d + 4 * p + q = nI (24 * ix d + (4 * ix p + ix q)) := by
    rw [Int32.add_assoc, b1]
    rw [show 24 * d = nI (24 * ix d) by rw [a2, show (24 : Int32) = nI 24 from rfl, pk_mul, ← a2], nI_add]
  exact ⟨e, by rw [e]; exact nI_clamp (by omega), by omega, a1⟩
theorem in24 {n m : Nat} {d p q : Int32} (hd : isIx m d = true) (hm : m ≤ 19) (h : isIx n p = true) (hn : n ≤ 6) (h2 : wi q 0 3 = true) : vp_in (24 * d + 4 * p + q) 480 := by
  obtain ⟨e, -, h3, h4⟩ := cl24 hd hm h hn h2
  rw [e]; exact vp_in_nI (by omega) (by decide)
theorem v24 {n m : Nat} {d p q : Int32} {f : Nat → Nat → Int32} (hd : isIx m d = true) (hm : m ≤ 19) (h : isIx n p = true) (hn : n ≤ 6) (h2 : wi q 0 3 = true) : (fun k => f (k / 24) (k % 24)) (24 * d + 4 * p + q).toNatClampNeg = f (ix d) (4 * ix p + ix q) := by
  obtain ⟨-, e, h3, h4⟩ := cl24 hd hm h hn h2
  rw [e]
  show f ((24 * ix d + (4 * ix p + ix q)) / 24) ((24 * ix d + (4 * ix p + ix q)) % 24) = _
  rw [show (24 * ix d + (4 * ix p + ix q)) / 24 = ix d by omega, show (24 * ix d + (4 * ix p + ix q)) % 24 = 4 * ix p + ix q by omega]
/-- a lot's state is one of five -/
def st5 (x : Int32) : Prop := x = 102 ∨ x = 115 ∨ x = 108 ∨ x = 100 ∨ x = 120
theorem stN {x : Int32} (h : st5 x) : narrow .char (.int x) = .int x := by rcases h with rfl | rfl | rfl | rfl | rfl <;> rfl
theorem stV {x : Int32} (h : st5 x) : vp_nar .char x = x := by rcases h with rfl | rfl | rfl | rfl | rfl <;> rfl
/-- a weight that a lot may have -/
def wOK (x : Int32) : Prop := ∃ w : Nat, 1 ≤ w ∧ w ≤ 2000 ∧ x = nI w
theorem iceFor_nI (w : Nat) (h : w ≤ 2000) : iceFor (nI w) = nI ((w + 9) / 10) := by
  unfold iceFor
  rw [show (9 : Int32) = nI 9 from rfl, nI_add, show (10 : Int32) = nI 10 from rfl, pk_div (by omega) (by omega) (by omega)]
theorem iceFor_ne {x : Int32} (h : wOK x) : ¬ iceFor x = 0 := by
  obtain ⟨w, h1, h2, rfl⟩ := h
  rw [iceFor_nI w h2]
  exact nI_ne0 (by omega) (by omega)
theorem ix_ne {n : Nat} {p q : Int32} (h : isIx n p = true) (h2 : isIx n q = true) (hn : n ≤ 20) (hne : ¬ p = q) : ¬ ix q = ix p := by
  obtain ⟨a1, a2⟩ := ix_lt h (by omega)
  obtain ⟨b1, b2⟩ := ix_lt h2 (by omega)
  intro e
  exact hne (by rw [a2, b2, e])
theorem mWd_r3 (cA : Nat → ClassId) (β : Nat → Nat) (c0 c1 : Nat × va_E) (wr : va_W) (th : Int32) (N : Nat → Nat → Nat) (R : Nat → Nat → Nat → Int32) (Fr : Nat → UInt32) (inc : Int64) (i j : Nat) (v : Int32) : mWd cA β c0 c1 wr th (N, up3 R 3 i j v, Fr, inc) = mWd cA β c0 c1 wr th (N, R, Fr, inc) := rfl
theorem mWd_n2 (cA : Nat → ClassId) (β : Nat → Nat) (c0 c1 : Nat × va_E) (wr : va_W) (th : Int32) (N : Nat → Nat → Nat) (R : Nat → Nat → Nat → Int32) (Fr : Nat → UInt32) (inc : Int64) (i v : Nat) : mWd cA β c0 c1 wr th (up2 N 2 i v, R, Fr, inc) = mWd cA β c0 c1 wr th (N, R, Fr, inc) := rfl
theorem mWd_n3 (cA : Nat → ClassId) (β : Nat → Nat) (c0 c1 : Nat × va_E) (wr : va_W) (th : Int32) (N : Nat → Nat → Nat) (R : Nat → Nat → Nat → Int32) (Fr : Nat → UInt32) (inc : Int64) (i v : Nat) : mWd cA β c0 c1 wr th (up2 N 3 i v, R, Fr, inc) = mWd cA β c0 c1 wr th (N, R, Fr, inc) := rfl
end
section
set_option maxHeartbeats 4000000 in
set_option maxRecDepth 100000 in
theorem met_X5_weight (l : Launch) (D : va_G) (cA : Nat → ClassId) (β : Nat → Nat) (c0 c1 : Nat × va_E) (wr : va_W) (th : Int32) (N : Nat → Nat → Nat) (R : Nat → Nat → Nat → Int32) (Fr : Nat → UInt32) (inc : Int64) (p0 : Int32) (hN : N 0 1 ≤ 20) : MetI l yX5_weight (.code yX5_weight cX5_weight 2 (some .int) :: LW) ({ frames := 2, cells := 0, slots := 0, locals := 43 }) D cA (mWd cA β c0 c1 wr th (N, R, Fr, inc)) [.ref (β 0), .int p0] (fun r (_ : Unit) => r = (op_lot 7 (N, R, Fr, inc) p0).2.1) (fun _ => mWd cA β c0 c1 wr (nI (op_lot 7 (N, R, Fr, inc) p0).1) (op_lot 7 (N, R, Fr, inc) p0).2.2) 0 0 := by
  refine k_bodyI (by decide) (Nat.le_of_ble_eq_true rfl) (fun p e s m args below meth c ls F hW hl => ?_)
  obtain ⟨hx, hb, hr, hml, hown, hts, hlocks, hname⟩ := id F
  have hl : lv_has ls 2 [(0, .ref (β 0)), (1, .int p0)] := hl
  refine lv_aload_n hx hb dX5_weight_0 rfl (lv_at hl 0 rfl) ?_
  refine lv_aload_n hx hb dX5_weight_1 rfl (lv_at hl 0 rfl) ?_
  refine lv_iload_n hx hb dX5_weight_2 rfl (lv_at hl 1 rfl) ?_
  refine k_callVi (as := [.int p0]) (rest := [.ref (β 0)]) (b := (β 0)) (ci := 7) (q0 := 2) F hW (met_X5_isLot l D cA β c0 c1 wr th N R Fr inc p0) rfl ML_X5_110 IM_X5_isLot SE_X5_isLot IN_X5 CO_X5_isLot hdV_X5_isLot rfl rfl ⟨(Nat.le_of_ble_eq_true rfl), (Nat.le_of_ble_eq_true rfl)⟩ rfl rfl (rfl) rfl rfl hl.1 (Nat.le_of_ble_eq_true rfl) dX5_weight_3 ⟨(Nat.le_of_ble_eq_true rfl), (Nat.le_of_ble_eq_true rfl)⟩ (fun r_1 u H locs hw hW => ?_)
  subst hw
  cases hq_2 : isIx (N 0 1) p0
  · refine lv_if_eq (tgt := 13) hx hb dX5_weight_6 (by decide) (fun _ => ?_) (fun h => absurd (by decide) h)
    refine lv_iconst (v := 1) hx hb dX5_weight_13 (by decide) ?_
    refine k_callVi (as := [.int 1]) (rest := []) (b := (β 0)) (ci := 7) (q0 := 2) F hW (met_X5_goesOn l D cA β c0 c1 wr th N R Fr inc 1) rfl ML_X5_93 IM_X5_goesOn SE_X5_goesOn IN_X5 CO_X5_goesOn hdV_X5_goesOn rfl rfl ⟨(Nat.le_of_ble_eq_true rfl), (Nat.le_of_ble_eq_true rfl)⟩ rfl rfl (rfl) rfl rfl hl.1 (Nat.le_of_ble_eq_true rfl) dX5_weight_14 ⟨(Nat.le_of_ble_eq_true rfl), (Nat.le_of_ble_eq_true rfl)⟩ (fun r_3 u H locs hw hW => ?_)
    subst hw
    refine lv_if_eq (tgt := 29) hx hb dX5_weight_17 (by decide) (fun _ => ?_) (fun h => absurd (by decide) h)
    refine lv_iconst (v := 0) hx hb dX5_weight_29 (by decide) ?_
    have hop : op_lot 7 (N, R, Fr, inc) p0 = (1, 0, (N, R, Fr, inc)) := by simp [op_lot, hq_2]
    exact k_iret () F (hW.eq (by rw [hop]; rfl)) (by rw [hop]) dX5_weight_30 (Nat.le_of_ble_eq_true rfl) (Nat.le_of_ble_eq_true rfl)
  · refine lv_if_eq (tgt := 13) hx hb dX5_weight_6 (by decide) (fun h => absurd h (by decide)) (fun _ => ?_)
    refine lv_iconst (v := 0) hx hb dX5_weight_9 (by decide) ?_
    refine lv_goto (tgt := 14) hx hb dX5_weight_10 (by decide) ?_
    refine k_callVi (as := [.int 0]) (rest := []) (b := (β 0)) (ci := 7) (q0 := 2) F hW (met_X5_goesOn l D cA β c0 c1 wr th N R Fr inc 0) rfl ML_X5_93 IM_X5_goesOn SE_X5_goesOn IN_X5 CO_X5_goesOn hdV_X5_goesOn rfl rfl ⟨(Nat.le_of_ble_eq_true rfl), (Nat.le_of_ble_eq_true rfl)⟩ rfl rfl (rfl) rfl rfl hl.1 (Nat.le_of_ble_eq_true rfl) dX5_weight_14 ⟨(Nat.le_of_ble_eq_true rfl), (Nat.le_of_ble_eq_true rfl)⟩ (fun r_4 u H locs hw hW => ?_)
    subst hw
    refine lv_if_eq (tgt := 29) hx hb dX5_weight_17 (by decide) (fun h => absurd h (by decide)) (fun _ => ?_)
    refine lv_aload_n hx hb dX5_weight_20 rfl (lv_at hl 0 rfl) ?_
    refine k_get (v := .ref (β 5)) F hW inX5 rfl 2 rfl rfl 9 (by decide) FL_X5_22 rfl rfl dX5_weight_21 ?_
    refine lv_iload_n hx hb dX5_weight_24 rfl (lv_at hl 1 rfl) ?_
    refine k_iald (v := R 7 (ix p0) 0) F hW 7 rfl (in1 hq_2 hN (by decide)) (rfl) dX5_weight_25 ?_
    refine lv_goto (tgt := 30) hx hb dX5_weight_26 (by decide) ?_
    have hop : op_lot 7 (N, R, Fr, inc) p0 = (0, (R 7 (ix p0) 0), (N, R, Fr, inc)) := by simp [op_lot, hq_2]
    exact k_iret () F (hW.eq (by rw [hop]; rfl)) (by rw [hop]) dX5_weight_30 (Nat.le_of_ble_eq_true rfl) (Nat.le_of_ble_eq_true rfl)

set_option maxHeartbeats 4000000 in
set_option maxRecDepth 100000 in
theorem met_X5_iceOn (l : Launch) (D : va_G) (cA : Nat → ClassId) (β : Nat → Nat) (c0 c1 : Nat × va_E) (wr : va_W) (th : Int32) (N : Nat → Nat → Nat) (R : Nat → Nat → Nat → Int32) (Fr : Nat → UInt32) (inc : Int64) (p0 : Int32) (hN : N 0 1 ≤ 20) : MetI l yX5_iceOn (.code yX5_iceOn cX5_iceOn 2 (some .int) :: LW) ({ frames := 2, cells := 0, slots := 0, locals := 43 }) D cA (mWd cA β c0 c1 wr th (N, R, Fr, inc)) [.ref (β 0), .int p0] (fun r (_ : Unit) => r = (op_lot 10 (N, R, Fr, inc) p0).2.1) (fun _ => mWd cA β c0 c1 wr (nI (op_lot 10 (N, R, Fr, inc) p0).1) (op_lot 10 (N, R, Fr, inc) p0).2.2) 0 0 := by
  refine k_bodyI (by decide) (Nat.le_of_ble_eq_true rfl) (fun p e s m args below meth c ls F hW hl => ?_)
  obtain ⟨hx, hb, hr, hml, hown, hts, hlocks, hname⟩ := id F
  have hl : lv_has ls 2 [(0, .ref (β 0)), (1, .int p0)] := hl
  refine lv_aload_n hx hb dX5_iceOn_0 rfl (lv_at hl 0 rfl) ?_
  refine lv_aload_n hx hb dX5_iceOn_1 rfl (lv_at hl 0 rfl) ?_
  refine lv_iload_n hx hb dX5_iceOn_2 rfl (lv_at hl 1 rfl) ?_
  refine k_callVi (as := [.int p0]) (rest := [.ref (β 0)]) (b := (β 0)) (ci := 7) (q0 := 2) F hW (met_X5_isLot l D cA β c0 c1 wr th N R Fr inc p0) rfl ML_X5_110 IM_X5_isLot SE_X5_isLot IN_X5 CO_X5_isLot hdV_X5_isLot rfl rfl ⟨(Nat.le_of_ble_eq_true rfl), (Nat.le_of_ble_eq_true rfl)⟩ rfl rfl (rfl) rfl rfl hl.1 (Nat.le_of_ble_eq_true rfl) dX5_iceOn_3 ⟨(Nat.le_of_ble_eq_true rfl), (Nat.le_of_ble_eq_true rfl)⟩ (fun r_5 u H locs hw hW => ?_)
  subst hw
  cases hq_6 : isIx (N 0 1) p0
  · refine lv_if_eq (tgt := 13) hx hb dX5_iceOn_6 (by decide) (fun _ => ?_) (fun h => absurd (by decide) h)
    refine lv_iconst (v := 1) hx hb dX5_iceOn_13 (by decide) ?_
    refine k_callVi (as := [.int 1]) (rest := []) (b := (β 0)) (ci := 7) (q0 := 2) F hW (met_X5_goesOn l D cA β c0 c1 wr th N R Fr inc 1) rfl ML_X5_93 IM_X5_goesOn SE_X5_goesOn IN_X5 CO_X5_goesOn hdV_X5_goesOn rfl rfl ⟨(Nat.le_of_ble_eq_true rfl), (Nat.le_of_ble_eq_true rfl)⟩ rfl rfl (rfl) rfl rfl hl.1 (Nat.le_of_ble_eq_true rfl) dX5_iceOn_14 ⟨(Nat.le_of_ble_eq_true rfl), (Nat.le_of_ble_eq_true rfl)⟩ (fun r_7 u H locs hw hW => ?_)
    subst hw
    refine lv_if_eq (tgt := 29) hx hb dX5_iceOn_17 (by decide) (fun _ => ?_) (fun h => absurd (by decide) h)
    refine lv_iconst (v := 0) hx hb dX5_iceOn_29 (by decide) ?_
    have hop : op_lot 10 (N, R, Fr, inc) p0 = (1, 0, (N, R, Fr, inc)) := by simp [op_lot, hq_6]
    exact k_iret () F (hW.eq (by rw [hop]; rfl)) (by rw [hop]) dX5_iceOn_30 (Nat.le_of_ble_eq_true rfl) (Nat.le_of_ble_eq_true rfl)
  · refine lv_if_eq (tgt := 13) hx hb dX5_iceOn_6 (by decide) (fun h => absurd h (by decide)) (fun _ => ?_)
    refine lv_iconst (v := 0) hx hb dX5_iceOn_9 (by decide) ?_
    refine lv_goto (tgt := 14) hx hb dX5_iceOn_10 (by decide) ?_
    refine k_callVi (as := [.int 0]) (rest := []) (b := (β 0)) (ci := 7) (q0 := 2) F hW (met_X5_goesOn l D cA β c0 c1 wr th N R Fr inc 0) rfl ML_X5_93 IM_X5_goesOn SE_X5_goesOn IN_X5 CO_X5_goesOn hdV_X5_goesOn rfl rfl ⟨(Nat.le_of_ble_eq_true rfl), (Nat.le_of_ble_eq_true rfl)⟩ rfl rfl (rfl) rfl rfl hl.1 (Nat.le_of_ble_eq_true rfl) dX5_iceOn_14 ⟨(Nat.le_of_ble_eq_true rfl), (Nat.le_of_ble_eq_true rfl)⟩ (fun r_8 u H locs hw hW => ?_)
    subst hw
    refine lv_if_eq (tgt := 29) hx hb dX5_iceOn_17 (by decide) (fun h => absurd h (by decide)) (fun _ => ?_)
    refine lv_aload_n hx hb dX5_iceOn_20 rfl (lv_at hl 0 rfl) ?_
    refine k_get (v := .ref (β 9)) F hW inX5 rfl 2 rfl rfl 13 (by decide) FL_X5_37 rfl rfl dX5_iceOn_21 ?_
    refine lv_iload_n hx hb dX5_iceOn_24 rfl (lv_at hl 1 rfl) ?_
    refine k_iald (v := R 10 (ix p0) 0) F hW 11 rfl (in1 hq_6 hN (by decide)) (rfl) dX5_iceOn_25 ?_
    refine lv_goto (tgt := 30) hx hb dX5_iceOn_26 (by decide) ?_
    have hop : op_lot 10 (N, R, Fr, inc) p0 = (0, (R 10 (ix p0) 0), (N, R, Fr, inc)) := by simp [op_lot, hq_6]
    exact k_iret () F (hW.eq (by rw [hop]; rfl)) (by rw [hop]) dX5_iceOn_30 (Nat.le_of_ble_eq_true rfl) (Nat.le_of_ble_eq_true rfl)

set_option maxHeartbeats 4000000 in
set_option maxRecDepth 100000 in
theorem met_X5_paidFor (l : Launch) (D : va_G) (cA : Nat → ClassId) (β : Nat → Nat) (c0 c1 : Nat × va_E) (wr : va_W) (th : Int32) (N : Nat → Nat → Nat) (R : Nat → Nat → Nat → Int32) (Fr : Nat → UInt32) (inc : Int64) (p0 : Int32) (hN : N 0 1 ≤ 20) : MetI l yX5_paidFor (.code yX5_paidFor cX5_paidFor 2 (some .int) :: LW) ({ frames := 2, cells := 0, slots := 0, locals := 43 }) D cA (mWd cA β c0 c1 wr th (N, R, Fr, inc)) [.ref (β 0), .int p0] (fun r (_ : Unit) => r = (op_lot 12 (N, R, Fr, inc) p0).2.1) (fun _ => mWd cA β c0 c1 wr (nI (op_lot 12 (N, R, Fr, inc) p0).1) (op_lot 12 (N, R, Fr, inc) p0).2.2) 0 0 := by
  refine k_bodyI (by decide) (Nat.le_of_ble_eq_true rfl) (fun p e s m args below meth c ls F hW hl => ?_)
  obtain ⟨hx, hb, hr, hml, hown, hts, hlocks, hname⟩ := id F
  have hl : lv_has ls 2 [(0, .ref (β 0)), (1, .int p0)] := hl
  refine lv_aload_n hx hb dX5_paidFor_0 rfl (lv_at hl 0 rfl) ?_
  refine lv_aload_n hx hb dX5_paidFor_1 rfl (lv_at hl 0 rfl) ?_
  refine lv_iload_n hx hb dX5_paidFor_2 rfl (lv_at hl 1 rfl) ?_
  refine k_callVi (as := [.int p0]) (rest := [.ref (β 0)]) (b := (β 0)) (ci := 7) (q0 := 2) F hW (met_X5_isLot l D cA β c0 c1 wr th N R Fr inc p0) rfl ML_X5_110 IM_X5_isLot SE_X5_isLot IN_X5 CO_X5_isLot hdV_X5_isLot rfl rfl ⟨(Nat.le_of_ble_eq_true rfl), (Nat.le_of_ble_eq_true rfl)⟩ rfl rfl (rfl) rfl rfl hl.1 (Nat.le_of_ble_eq_true rfl) dX5_paidFor_3 ⟨(Nat.le_of_ble_eq_true rfl), (Nat.le_of_ble_eq_true rfl)⟩ (fun r_9 u H locs hw hW => ?_)
  subst hw
  cases hq_10 : isIx (N 0 1) p0
  · refine lv_if_eq (tgt := 13) hx hb dX5_paidFor_6 (by decide) (fun _ => ?_) (fun h => absurd (by decide) h)
    refine lv_iconst (v := 1) hx hb dX5_paidFor_13 (by decide) ?_
    refine k_callVi (as := [.int 1]) (rest := []) (b := (β 0)) (ci := 7) (q0 := 2) F hW (met_X5_goesOn l D cA β c0 c1 wr th N R Fr inc 1) rfl ML_X5_93 IM_X5_goesOn SE_X5_goesOn IN_X5 CO_X5_goesOn hdV_X5_goesOn rfl rfl ⟨(Nat.le_of_ble_eq_true rfl), (Nat.le_of_ble_eq_true rfl)⟩ rfl rfl (rfl) rfl rfl hl.1 (Nat.le_of_ble_eq_true rfl) dX5_paidFor_14 ⟨(Nat.le_of_ble_eq_true rfl), (Nat.le_of_ble_eq_true rfl)⟩ (fun r_11 u H locs hw hW => ?_)
    subst hw
    refine lv_if_eq (tgt := 29) hx hb dX5_paidFor_17 (by decide) (fun _ => ?_) (fun h => absurd (by decide) h)
    refine lv_iconst (v := 0) hx hb dX5_paidFor_29 (by decide) ?_
    have hop : op_lot 12 (N, R, Fr, inc) p0 = (1, 0, (N, R, Fr, inc)) := by simp [op_lot, hq_10]
    exact k_iret () F (hW.eq (by rw [hop]; rfl)) (by rw [hop]) dX5_paidFor_30 (Nat.le_of_ble_eq_true rfl) (Nat.le_of_ble_eq_true rfl)
  · refine lv_if_eq (tgt := 13) hx hb dX5_paidFor_6 (by decide) (fun h => absurd h (by decide)) (fun _ => ?_)
    refine lv_iconst (v := 0) hx hb dX5_paidFor_9 (by decide) ?_
    refine lv_goto (tgt := 14) hx hb dX5_paidFor_10 (by decide) ?_
    refine k_callVi (as := [.int 0]) (rest := []) (b := (β 0)) (ci := 7) (q0 := 2) F hW (met_X5_goesOn l D cA β c0 c1 wr th N R Fr inc 0) rfl ML_X5_93 IM_X5_goesOn SE_X5_goesOn IN_X5 CO_X5_goesOn hdV_X5_goesOn rfl rfl ⟨(Nat.le_of_ble_eq_true rfl), (Nat.le_of_ble_eq_true rfl)⟩ rfl rfl (rfl) rfl rfl hl.1 (Nat.le_of_ble_eq_true rfl) dX5_paidFor_14 ⟨(Nat.le_of_ble_eq_true rfl), (Nat.le_of_ble_eq_true rfl)⟩ (fun r_12 u H locs hw hW => ?_)
    subst hw
    refine lv_if_eq (tgt := 29) hx hb dX5_paidFor_17 (by decide) (fun h => absurd h (by decide)) (fun _ => ?_)
    refine lv_aload_n hx hb dX5_paidFor_20 rfl (lv_at hl 0 rfl) ?_
    refine k_get (v := .ref (β 11)) F hW inX5 rfl 2 rfl rfl 15 (by decide) FL_X5_43 rfl rfl dX5_paidFor_21 ?_
    refine lv_iload_n hx hb dX5_paidFor_24 rfl (lv_at hl 1 rfl) ?_
    refine k_iald (v := R 12 (ix p0) 0) F hW 13 rfl (in1 hq_10 hN (by decide)) (rfl) dX5_paidFor_25 ?_
    refine lv_goto (tgt := 30) hx hb dX5_paidFor_26 (by decide) ?_
    have hop : op_lot 12 (N, R, Fr, inc) p0 = (0, (R 12 (ix p0) 0), (N, R, Fr, inc)) := by simp [op_lot, hq_10]
    exact k_iret () F (hW.eq (by rw [hop]; rfl)) (by rw [hop]) dX5_paidFor_30 (Nat.le_of_ble_eq_true rfl) (Nat.le_of_ble_eq_true rfl)

set_option maxHeartbeats 4000000 in
set_option maxRecDepth 100000 in
theorem met_X5_quota (l : Launch) (D : va_G) (cA : Nat → ClassId) (β : Nat → Nat) (c0 c1 : Nat × va_E) (wr : va_W) (th : Int32) (N : Nat → Nat → Nat) (R : Nat → Nat → Nat → Int32) (Fr : Nat → UInt32) (inc : Int64) (p0 p1 : Int32) (hN : N 0 0 ≤ 6) : MetI l yX5_quota (.code yX5_quota cX5_quota 3 (some .int) :: LW) ({ frames := 2, cells := 0, slots := 0, locals := 43 }) D cA (mWd cA β c0 c1 wr th (N, R, Fr, inc)) [.ref (β 0), .int p0, .int p1] (fun r (_ : Unit) => r = (op_quota (N, R, Fr, inc) p0 p1).2.1) (fun _ => mWd cA β c0 c1 wr (nI (op_quota (N, R, Fr, inc) p0 p1).1) (op_quota (N, R, Fr, inc) p0 p1).2.2) 0 0 := by
  refine k_bodyI (by decide) (Nat.le_of_ble_eq_true rfl) (fun p e s m args below meth c ls F hW hl => ?_)
  obtain ⟨hx, hb, hr, hml, hown, hts, hlocks, hname⟩ := id F
  have hl : lv_has ls 3 [(0, .ref (β 0)), (1, .int p0), (2, .int p1)] := hl
  refine lv_aload_n hx hb dX5_quota_0 rfl (lv_at hl 0 rfl) ?_
  refine lv_aload_n hx hb dX5_quota_1 rfl (lv_at hl 0 rfl) ?_
  refine lv_iload_n hx hb dX5_quota_2 rfl (lv_at hl 1 rfl) ?_
  refine k_callVi (as := [.int p0]) (rest := [.ref (β 0)]) (b := (β 0)) (ci := 7) (q0 := 2) F hW (met_X5_isBoat l D cA β c0 c1 wr th N R Fr inc p0) rfl ML_X5_100 IM_X5_isBoat SE_X5_isBoat IN_X5 CO_X5_isBoat hdV_X5_isBoat rfl rfl ⟨(Nat.le_of_ble_eq_true rfl), (Nat.le_of_ble_eq_true rfl)⟩ rfl rfl (rfl) rfl rfl hl.1 (Nat.le_of_ble_eq_true rfl) dX5_quota_3 ⟨(Nat.le_of_ble_eq_true rfl), (Nat.le_of_ble_eq_true rfl)⟩ (fun r_13 u H locs hw hW => ?_)
  subst hw
  cases hq_14 : isIx (N 0 0) p0
  · refine lv_if_ne (tgt := 13) hx hb dX5_quota_6 (by decide) (fun h => absurd (by decide) h) (fun _ => ?_)
    refine lv_iconst (v := 1) hx hb dX5_quota_9 (by decide) ?_
    refine lv_goto (tgt := 25) hx hb dX5_quota_10 (by decide) ?_
    refine k_callVi (as := [.int 1]) (rest := []) (b := (β 0)) (ci := 7) (q0 := 2) F hW (met_X5_goesOn l D cA β c0 c1 wr th N R Fr inc 1) rfl ML_X5_93 IM_X5_goesOn SE_X5_goesOn IN_X5 CO_X5_goesOn hdV_X5_goesOn rfl rfl ⟨(Nat.le_of_ble_eq_true rfl), (Nat.le_of_ble_eq_true rfl)⟩ rfl rfl (rfl) rfl rfl hl.1 (Nat.le_of_ble_eq_true rfl) dX5_quota_25 ⟨(Nat.le_of_ble_eq_true rfl), (Nat.le_of_ble_eq_true rfl)⟩ (fun r_15 u H locs hw hW => ?_)
    subst hw
    refine lv_if_eq (tgt := 44) hx hb dX5_quota_28 (by decide) (fun _ => ?_) (fun h => absurd (by decide) h)
    refine lv_iconst (v := 0) hx hb dX5_quota_44 (by decide) ?_
    have hop : op_quota (N, R, Fr, inc) p0 p1 = (1, 0, (N, R, Fr, inc)) := by simp [op_quota, hq_14]
    exact k_iret () F (hW.eq (by rw [hop]; rfl)) (by rw [hop]) dX5_quota_45 (Nat.le_of_ble_eq_true rfl) (Nat.le_of_ble_eq_true rfl)
  · refine lv_if_ne (tgt := 13) hx hb dX5_quota_6 (by decide) (fun _ => ?_) (fun h => absurd h (by decide))
    refine lv_iload_n hx hb dX5_quota_13 rfl (lv_at hl 2 rfl) ?_
    refine k_callSi (as := [.int p1]) (rest := [.ref (β 0)]) F hW (met_X5_isSpecies l D cA _ p1) rfl ML_X5_97 ST_X5_isSpecies IN_X5 CO_X5_isSpecies hdS_X5_isSpecies rfl rfl ⟨(Nat.le_of_ble_eq_true rfl), (Nat.le_of_ble_eq_true rfl)⟩ rfl rfl hl.1 (Nat.le_of_ble_eq_true rfl) dX5_quota_14 ⟨(Nat.le_of_ble_eq_true rfl), (Nat.le_of_ble_eq_true rfl)⟩ (fun r_16 u H locs hw hW => ?_)
    subst hw
    cases hq_17 : wi p1 0 3
    · refine lv_if_ne (tgt := 24) hx hb dX5_quota_17 (by decide) (fun h => absurd (by decide) h) (fun _ => ?_)
      refine lv_iconst (v := 2) hx hb dX5_quota_20 (by decide) ?_
      refine lv_goto (tgt := 25) hx hb dX5_quota_21 (by decide) ?_
      refine k_callVi (as := [.int 2]) (rest := []) (b := (β 0)) (ci := 7) (q0 := 2) F hW (met_X5_goesOn l D cA β c0 c1 wr th N R Fr inc 2) rfl ML_X5_93 IM_X5_goesOn SE_X5_goesOn IN_X5 CO_X5_goesOn hdV_X5_goesOn rfl rfl ⟨(Nat.le_of_ble_eq_true rfl), (Nat.le_of_ble_eq_true rfl)⟩ rfl rfl (rfl) rfl rfl hl.1 (Nat.le_of_ble_eq_true rfl) dX5_quota_25 ⟨(Nat.le_of_ble_eq_true rfl), (Nat.le_of_ble_eq_true rfl)⟩ (fun r_18 u H locs hw hW => ?_)
      subst hw
      refine lv_if_eq (tgt := 44) hx hb dX5_quota_28 (by decide) (fun _ => ?_) (fun h => absurd (by decide) h)
      refine lv_iconst (v := 0) hx hb dX5_quota_44 (by decide) ?_
      have hop : op_quota (N, R, Fr, inc) p0 p1 = (2, 0, (N, R, Fr, inc)) := by simp [op_quota, hq_14, hq_17]
      exact k_iret () F (hW.eq (by rw [hop]; rfl)) (by rw [hop]) dX5_quota_45 (Nat.le_of_ble_eq_true rfl) (Nat.le_of_ble_eq_true rfl)
    · refine lv_if_ne (tgt := 24) hx hb dX5_quota_17 (by decide) (fun _ => ?_) (fun h => absurd h (by decide))
      refine lv_iconst (v := 0) hx hb dX5_quota_24 (by decide) ?_
      refine k_callVi (as := [.int 0]) (rest := []) (b := (β 0)) (ci := 7) (q0 := 2) F hW (met_X5_goesOn l D cA β c0 c1 wr th N R Fr inc 0) rfl ML_X5_93 IM_X5_goesOn SE_X5_goesOn IN_X5 CO_X5_goesOn hdV_X5_goesOn rfl rfl ⟨(Nat.le_of_ble_eq_true rfl), (Nat.le_of_ble_eq_true rfl)⟩ rfl rfl (rfl) rfl rfl hl.1 (Nat.le_of_ble_eq_true rfl) dX5_quota_25 ⟨(Nat.le_of_ble_eq_true rfl), (Nat.le_of_ble_eq_true rfl)⟩ (fun r_19 u H locs hw hW => ?_)
      subst hw
      refine lv_if_eq (tgt := 44) hx hb dX5_quota_28 (by decide) (fun h => absurd h (by decide)) (fun _ => ?_)
      refine lv_aload_n hx hb dX5_quota_31 rfl (lv_at hl 0 rfl) ?_
      refine k_get (v := .ref (β 1)) F hW inX5 rfl 2 rfl rfl 2 (by decide) FL_X5_9 rfl rfl dX5_quota_32 ?_
      refine lv_iconst (v := 4) hx hb dX5_quota_35 (by decide) ?_
      refine lv_iload_n hx hb dX5_quota_36 rfl (lv_at hl 1 rfl) ?_
      refine lv_imul hx hb dX5_quota_37 ?_
      refine lv_iload_n hx hb dX5_quota_38 rfl (lv_at hl 2 rfl) ?_
      refine lv_iadd hx hb dX5_quota_39 ?_
      refine k_iald (v := R 1 (ix p0) (ix p1)) F hW 3 rfl (in4 hq_14 (by omega) hq_17 (by omega) (by decide)) (v4 (f := R 1) hq_14 (by omega) hq_17) dX5_quota_40 ?_
      refine lv_goto (tgt := 45) hx hb dX5_quota_41 (by decide) ?_
      have hop : op_quota (N, R, Fr, inc) p0 p1 = (0, (R 1 (ix p0) (ix p1)), (N, R, Fr, inc)) := by simp [op_quota, hq_14, hq_17]
      exact k_iret () F (hW.eq (by rw [hop]; rfl)) (by rw [hop]) dX5_quota_45 (Nat.le_of_ble_eq_true rfl) (Nat.le_of_ble_eq_true rfl)

set_option maxHeartbeats 4000000 in
set_option maxRecDepth 100000 in
theorem met_X5_budget (l : Launch) (D : va_G) (cA : Nat → ClassId) (β : Nat → Nat) (c0 c1 : Nat × va_E) (wr : va_W) (th : Int32) (N : Nat → Nat → Nat) (R : Nat → Nat → Nat → Int32) (Fr : Nat → UInt32) (inc : Int64) (p0 : Int32) (hN : N 0 2 ≤ 5) : MetI l yX5_budget (.code yX5_budget cX5_budget 2 (some .int) :: LW) ({ frames := 2, cells := 0, slots := 0, locals := 43 }) D cA (mWd cA β c0 c1 wr th (N, R, Fr, inc)) [.ref (β 0), .int p0] (fun r (_ : Unit) => r = (op_budget (N, R, Fr, inc) p0).2.1) (fun _ => mWd cA β c0 c1 wr (nI (op_budget (N, R, Fr, inc) p0).1) (op_budget (N, R, Fr, inc) p0).2.2) 0 0 := by
  refine k_bodyI (by decide) (Nat.le_of_ble_eq_true rfl) (fun p e s m args below meth c ls F hW hl => ?_)
  obtain ⟨hx, hb, hr, hml, hown, hts, hlocks, hname⟩ := id F
  have hl : lv_has ls 2 [(0, .ref (β 0)), (1, .int p0)] := hl
  refine lv_aload_n hx hb dX5_budget_0 rfl (lv_at hl 0 rfl) ?_
  refine lv_aload_n hx hb dX5_budget_1 rfl (lv_at hl 0 rfl) ?_
  refine lv_iload_n hx hb dX5_budget_2 rfl (lv_at hl 1 rfl) ?_
  refine k_callVi (as := [.int p0]) (rest := [.ref (β 0)]) (b := (β 0)) (ci := 7) (q0 := 2) F hW (met_X5_isBuyer l D cA β c0 c1 wr th N R Fr inc p0) rfl ML_X5_142 IM_X5_isBuyer SE_X5_isBuyer IN_X5 CO_X5_isBuyer hdV_X5_isBuyer rfl rfl ⟨(Nat.le_of_ble_eq_true rfl), (Nat.le_of_ble_eq_true rfl)⟩ rfl rfl (rfl) rfl rfl hl.1 (Nat.le_of_ble_eq_true rfl) dX5_budget_3 ⟨(Nat.le_of_ble_eq_true rfl), (Nat.le_of_ble_eq_true rfl)⟩ (fun r_20 u H locs hw hW => ?_)
  subst hw
  cases hq_21 : isIx (N 0 2) p0
  · refine lv_if_eq (tgt := 13) hx hb dX5_budget_6 (by decide) (fun _ => ?_) (fun h => absurd (by decide) h)
    refine lv_iconst (v := 1) hx hb dX5_budget_13 (by decide) ?_
    refine k_callVi (as := [.int 1]) (rest := []) (b := (β 0)) (ci := 7) (q0 := 2) F hW (met_X5_goesOn l D cA β c0 c1 wr th N R Fr inc 1) rfl ML_X5_93 IM_X5_goesOn SE_X5_goesOn IN_X5 CO_X5_goesOn hdV_X5_goesOn rfl rfl ⟨(Nat.le_of_ble_eq_true rfl), (Nat.le_of_ble_eq_true rfl)⟩ rfl rfl (rfl) rfl rfl hl.1 (Nat.le_of_ble_eq_true rfl) dX5_budget_14 ⟨(Nat.le_of_ble_eq_true rfl), (Nat.le_of_ble_eq_true rfl)⟩ (fun r_22 u H locs hw hW => ?_)
    subst hw
    refine lv_if_eq (tgt := 29) hx hb dX5_budget_17 (by decide) (fun _ => ?_) (fun h => absurd (by decide) h)
    refine lv_iconst (v := 0) hx hb dX5_budget_29 (by decide) ?_
    have hop : op_budget (N, R, Fr, inc) p0 = (1, 0, (N, R, Fr, inc)) := by simp [op_budget, hq_21]
    exact k_iret () F (hW.eq (by rw [hop]; rfl)) (by rw [hop]) dX5_budget_30 (Nat.le_of_ble_eq_true rfl) (Nat.le_of_ble_eq_true rfl)
  · refine lv_if_eq (tgt := 13) hx hb dX5_budget_6 (by decide) (fun h => absurd h (by decide)) (fun _ => ?_)
    refine lv_iconst (v := 0) hx hb dX5_budget_9 (by decide) ?_
    refine lv_goto (tgt := 14) hx hb dX5_budget_10 (by decide) ?_
    refine k_callVi (as := [.int 0]) (rest := []) (b := (β 0)) (ci := 7) (q0 := 2) F hW (met_X5_goesOn l D cA β c0 c1 wr th N R Fr inc 0) rfl ML_X5_93 IM_X5_goesOn SE_X5_goesOn IN_X5 CO_X5_goesOn hdV_X5_goesOn rfl rfl ⟨(Nat.le_of_ble_eq_true rfl), (Nat.le_of_ble_eq_true rfl)⟩ rfl rfl (rfl) rfl rfl hl.1 (Nat.le_of_ble_eq_true rfl) dX5_budget_14 ⟨(Nat.le_of_ble_eq_true rfl), (Nat.le_of_ble_eq_true rfl)⟩ (fun r_23 u H locs hw hW => ?_)
    subst hw
    refine lv_if_eq (tgt := 29) hx hb dX5_budget_17 (by decide) (fun h => absurd h (by decide)) (fun _ => ?_)
    refine lv_aload_n hx hb dX5_budget_20 rfl (lv_at hl 0 rfl) ?_
    refine k_get (v := .ref (β 12)) F hW inX5 rfl 2 rfl rfl 18 (by decide) FL_X5_46 rfl rfl dX5_budget_21 ?_
    refine lv_iload_n hx hb dX5_budget_24 rfl (lv_at hl 1 rfl) ?_
    refine k_iald (v := R 13 (ix p0) 0) F hW 14 rfl (in1 hq_21 hN (by decide)) (rfl) dX5_budget_25 ?_
    refine lv_goto (tgt := 30) hx hb dX5_budget_26 (by decide) ?_
    have hop : op_budget (N, R, Fr, inc) p0 = (0, (R 13 (ix p0) 0), (N, R, Fr, inc)) := by simp [op_budget, hq_21]
    exact k_iret () F (hW.eq (by rw [hop]; rfl)) (by rw [hop]) dX5_budget_30 (Nat.le_of_ble_eq_true rfl) (Nat.le_of_ble_eq_true rfl)

set_option maxHeartbeats 4000000 in
set_option maxRecDepth 100000 in
theorem met_X5_setLimit (l : Launch) (D : va_G) (cA : Nat → ClassId) (β : Nat → Nat) (c0 c1 : Nat × va_E) (wr : va_W) (th : Int32) (N : Nat → Nat → Nat) (R : Nat → Nat → Nat → Int32) (Fr : Nat → UInt32) (inc : Int64) (p0 p1 p2 : Int32) (hN : N 0 2 ≤ 5) : MetI l yX5_setLimit (.code yX5_setLimit cX5_setLimit 5 (some .int) :: LW) ({ frames := 2, cells := 0, slots := 0, locals := 43 }) D cA (mWd cA β c0 c1 wr th (N, R, Fr, inc)) [.ref (β 0), .int p0, .int p1, .int p2] (fun r (_ : Unit) => r = (op_setLimit (N, R, Fr, inc) p0 p1 p2).2.1) (fun _ => mWd cA β c0 c1 wr (nI (op_setLimit (N, R, Fr, inc) p0 p1 p2).1) (op_setLimit (N, R, Fr, inc) p0 p1 p2).2.2) 0 0 := by
  refine k_bodyI (by decide) (Nat.le_of_ble_eq_true rfl) (fun p e s m args below meth c ls F hW hl => ?_)
  obtain ⟨hx, hb, hr, hml, hown, hts, hlocks, hname⟩ := id F
  have hl : lv_has ls 5 [(0, .ref (β 0)), (1, .int p0), (2, .int p1), (3, .int p2)] := hl
  refine lv_aload_n hx hb dX5_setLimit_0 rfl (lv_at hl 0 rfl) ?_
  refine lv_aload_n hx hb dX5_setLimit_1 rfl (lv_at hl 0 rfl) ?_
  refine lv_iload_n hx hb dX5_setLimit_2 rfl (lv_at hl 1 rfl) ?_
  refine k_callVi (as := [.int p0]) (rest := [.ref (β 0)]) (b := (β 0)) (ci := 7) (q0 := 2) F hW (met_X5_isBuyer l D cA β c0 c1 wr th N R Fr inc p0) rfl ML_X5_142 IM_X5_isBuyer SE_X5_isBuyer IN_X5 CO_X5_isBuyer hdV_X5_isBuyer rfl rfl ⟨(Nat.le_of_ble_eq_true rfl), (Nat.le_of_ble_eq_true rfl)⟩ rfl rfl (rfl) rfl rfl hl.1 (Nat.le_of_ble_eq_true rfl) dX5_setLimit_3 ⟨(Nat.le_of_ble_eq_true rfl), (Nat.le_of_ble_eq_true rfl)⟩ (fun r_24 u H locs hw hW => ?_)
  subst hw
  cases hq_25 : isIx (N 0 2) p0
  · refine lv_if_ne (tgt := 13) hx hb dX5_setLimit_6 (by decide) (fun h => absurd (by decide) h) (fun _ => ?_)
    refine lv_iconst (v := 1) hx hb dX5_setLimit_9 (by decide) ?_
    refine lv_goto (tgt := 36) hx hb dX5_setLimit_10 (by decide) ?_
    refine k_callVi (as := [.int 1]) (rest := []) (b := (β 0)) (ci := 7) (q0 := 2) F hW (met_X5_goesOn l D cA β c0 c1 wr th N R Fr inc 1) rfl ML_X5_93 IM_X5_goesOn SE_X5_goesOn IN_X5 CO_X5_goesOn hdV_X5_goesOn rfl rfl ⟨(Nat.le_of_ble_eq_true rfl), (Nat.le_of_ble_eq_true rfl)⟩ rfl rfl (rfl) rfl rfl hl.1 (Nat.le_of_ble_eq_true rfl) dX5_setLimit_36 ⟨(Nat.le_of_ble_eq_true rfl), (Nat.le_of_ble_eq_true rfl)⟩ (fun r_26 u H locs hw hW => ?_)
    subst hw
    refine lv_if_ne (tgt := 44) hx hb dX5_setLimit_39 (by decide) (fun h => absurd (by decide) h) (fun _ => ?_)
    refine lv_iconst (v := 0) hx hb dX5_setLimit_42 (by decide) ?_
    have hop : op_setLimit (N, R, Fr, inc) p0 p1 p2 = (1, 0, (N, R, Fr, inc)) := by simp [op_setLimit, hq_25]
    exact k_iret () F (hW.eq (by rw [hop]; rfl)) (by rw [hop]) dX5_setLimit_43 (Nat.le_of_ble_eq_true rfl) (Nat.le_of_ble_eq_true rfl)
  · refine lv_if_ne (tgt := 13) hx hb dX5_setLimit_6 (by decide) (fun _ => ?_) (fun h => absurd h (by decide))
    refine lv_iload_n hx hb dX5_setLimit_13 rfl (lv_at hl 2 rfl) ?_
    refine k_callSi (as := [.int p1]) (rest := [.ref (β 0)]) F hW (met_X5_isSpecies l D cA _ p1) rfl ML_X5_97 ST_X5_isSpecies IN_X5 CO_X5_isSpecies hdS_X5_isSpecies rfl rfl ⟨(Nat.le_of_ble_eq_true rfl), (Nat.le_of_ble_eq_true rfl)⟩ rfl rfl hl.1 (Nat.le_of_ble_eq_true rfl) dX5_setLimit_14 ⟨(Nat.le_of_ble_eq_true rfl), (Nat.le_of_ble_eq_true rfl)⟩ (fun r_27 u H locs hw hW => ?_)
    subst hw
    cases hq_28 : wi p1 0 3
    · refine lv_if_eq (tgt := 31) hx hb dX5_setLimit_17 (by decide) (fun _ => ?_) (fun h => absurd (by decide) h)
      refine lv_iconst (v := 2) hx hb dX5_setLimit_31 (by decide) ?_
      refine lv_goto (tgt := 36) hx hb dX5_setLimit_32 (by decide) ?_
      refine k_callVi (as := [.int 2]) (rest := []) (b := (β 0)) (ci := 7) (q0 := 2) F hW (met_X5_goesOn l D cA β c0 c1 wr th N R Fr inc 2) rfl ML_X5_93 IM_X5_goesOn SE_X5_goesOn IN_X5 CO_X5_goesOn hdV_X5_goesOn rfl rfl ⟨(Nat.le_of_ble_eq_true rfl), (Nat.le_of_ble_eq_true rfl)⟩ rfl rfl (rfl) rfl rfl hl.1 (Nat.le_of_ble_eq_true rfl) dX5_setLimit_36 ⟨(Nat.le_of_ble_eq_true rfl), (Nat.le_of_ble_eq_true rfl)⟩ (fun r_29 u H locs hw hW => ?_)
      subst hw
      refine lv_if_ne (tgt := 44) hx hb dX5_setLimit_39 (by decide) (fun h => absurd (by decide) h) (fun _ => ?_)
      refine lv_iconst (v := 0) hx hb dX5_setLimit_42 (by decide) ?_
      have hop : op_setLimit (N, R, Fr, inc) p0 p1 p2 = (2, 0, (N, R, Fr, inc)) := by simp [op_setLimit, hq_25, hq_28]
      exact k_iret () F (hW.eq (by rw [hop]; rfl)) (by rw [hop]) dX5_setLimit_43 (Nat.le_of_ble_eq_true rfl) (Nat.le_of_ble_eq_true rfl)
    · refine lv_if_eq (tgt := 31) hx hb dX5_setLimit_17 (by decide) (fun h => absurd h (by decide)) (fun _ => ?_)
      refine lv_iload_n hx hb dX5_setLimit_20 rfl (lv_at hl 3 rfl) ?_
      refine lv_iconst (v := 0) hx hb dX5_setLimit_21 (by decide) ?_
      refine lv_sipush (v := 9999) hx hb dX5_setLimit_22 (by decide) ?_
      refine k_callSi (as := [.int p2, .int 0, .int 9999]) (rest := [.ref (β 0)]) F hW (met_X5_in l D cA _ p2 0 9999) rfl ML_X5_80 ST_X5_in IN_X5 CO_X5_in hdS_X5_in rfl rfl ⟨(Nat.le_of_ble_eq_true rfl), (Nat.le_of_ble_eq_true rfl)⟩ rfl rfl hl.1 (Nat.le_of_ble_eq_true rfl) dX5_setLimit_25 ⟨(Nat.le_of_ble_eq_true rfl), (Nat.le_of_ble_eq_true rfl)⟩ (fun r_30 u H locs hw hW => ?_)
      subst hw
      cases hq_31 : wi p2 0 9999
      · refine lv_if_ne (tgt := 35) hx hb dX5_setLimit_28 (by decide) (fun h => absurd (by decide) h) (fun _ => ?_)
        refine lv_iconst (v := 2) hx hb dX5_setLimit_31 (by decide) ?_
        refine lv_goto (tgt := 36) hx hb dX5_setLimit_32 (by decide) ?_
        refine k_callVi (as := [.int 2]) (rest := []) (b := (β 0)) (ci := 7) (q0 := 2) F hW (met_X5_goesOn l D cA β c0 c1 wr th N R Fr inc 2) rfl ML_X5_93 IM_X5_goesOn SE_X5_goesOn IN_X5 CO_X5_goesOn hdV_X5_goesOn rfl rfl ⟨(Nat.le_of_ble_eq_true rfl), (Nat.le_of_ble_eq_true rfl)⟩ rfl rfl (rfl) rfl rfl hl.1 (Nat.le_of_ble_eq_true rfl) dX5_setLimit_36 ⟨(Nat.le_of_ble_eq_true rfl), (Nat.le_of_ble_eq_true rfl)⟩ (fun r_32 u H locs hw hW => ?_)
        subst hw
        refine lv_if_ne (tgt := 44) hx hb dX5_setLimit_39 (by decide) (fun h => absurd (by decide) h) (fun _ => ?_)
        refine lv_iconst (v := 0) hx hb dX5_setLimit_42 (by decide) ?_
        have hop : op_setLimit (N, R, Fr, inc) p0 p1 p2 = (2, 0, (N, R, Fr, inc)) := by simp [op_setLimit, hq_25, hq_28, hq_31]
        exact k_iret () F (hW.eq (by rw [hop]; rfl)) (by rw [hop]) dX5_setLimit_43 (Nat.le_of_ble_eq_true rfl) (Nat.le_of_ble_eq_true rfl)
      · refine lv_if_ne (tgt := 35) hx hb dX5_setLimit_28 (by decide) (fun _ => ?_) (fun h => absurd h (by decide))
        refine lv_iconst (v := 0) hx hb dX5_setLimit_35 (by decide) ?_
        refine k_callVi (as := [.int 0]) (rest := []) (b := (β 0)) (ci := 7) (q0 := 2) F hW (met_X5_goesOn l D cA β c0 c1 wr th N R Fr inc 0) rfl ML_X5_93 IM_X5_goesOn SE_X5_goesOn IN_X5 CO_X5_goesOn hdV_X5_goesOn rfl rfl ⟨(Nat.le_of_ble_eq_true rfl), (Nat.le_of_ble_eq_true rfl)⟩ rfl rfl (rfl) rfl rfl hl.1 (Nat.le_of_ble_eq_true rfl) dX5_setLimit_36 ⟨(Nat.le_of_ble_eq_true rfl), (Nat.le_of_ble_eq_true rfl)⟩ (fun r_33 u H locs hw hW => ?_)
        subst hw
        refine lv_if_ne (tgt := 44) hx hb dX5_setLimit_39 (by decide) (fun _ => ?_) (fun h => absurd h (by decide))
        refine lv_aload_n hx hb dX5_setLimit_44 rfl (lv_at hl 0 rfl) ?_
        refine k_get (v := .ref (β 13)) F hW inX5 rfl 2 rfl rfl 19 (by decide) FL_X5_49 rfl rfl dX5_setLimit_45 ?_
        refine lv_iconst (v := 4) hx hb dX5_setLimit_48 (by decide) ?_
        refine lv_iload_n hx hb dX5_setLimit_49 rfl (lv_at hl 1 rfl) ?_
        refine lv_imul hx hb dX5_setLimit_50 ?_
        refine lv_iload_n hx hb dX5_setLimit_51 rfl (lv_at hl 2 rfl) ?_
        refine lv_iadd hx hb dX5_setLimit_52 ?_
        refine k_iald (v := R 14 (ix p0) (ix p1)) F hW 15 rfl (in4 hq_25 (by omega) hq_28 (by omega) (by decide)) (v4 (f := R 14) hq_25 (by omega) hq_28) dX5_setLimit_53 ?_
        refine lv_istore (lv' := [(4, .int (R 14 (ix p0) (ix p1))), (0, .ref (β 0)), (1, .int p0), (2, .int p1), (3, .int p2)]) hx hb dX5_setLimit_54 hl (by decide) rfl (fun ls hl => ?_)
        refine lv_aload_n hx hb dX5_setLimit_56 rfl (lv_at hl 1 rfl) ?_
        refine k_get (v := .ref (β 13)) F hW inX5 rfl 2 rfl rfl 19 (by decide) FL_X5_49 rfl rfl dX5_setLimit_57 ?_
        refine lv_iconst (v := 4) hx hb dX5_setLimit_60 (by decide) ?_
        refine lv_iload_n hx hb dX5_setLimit_61 rfl (lv_at hl 2 rfl) ?_
        refine lv_imul hx hb dX5_setLimit_62 ?_
        refine lv_iload_n hx hb dX5_setLimit_63 rfl (lv_at hl 3 rfl) ?_
        refine lv_iadd hx hb dX5_setLimit_64 ?_
        refine lv_iload_n hx hb dX5_setLimit_65 rfl (lv_at hl 4 rfl) ?_
        refine k_iast F hW 15 rfl (in4 hq_25 (by omega) hq_28 (by omega) (by decide)) (mWd cA β c0 c1 wr 0 (N, up3 R 14 (ix p0) (ix p1) p2, Fr, inc)) (by rw [ud4 R 14 p2 hq_25 (by omega) hq_28]; rfl) dX5_setLimit_66 (fun H locs hW => ?_)
        refine lv_iload hx hb dX5_setLimit_67 (lv_at hl 0 rfl) ?_
        have hop : op_setLimit (N, R, Fr, inc) p0 p1 p2 = (0, (R 14 (ix p0) (ix p1)), (N, up3 R 14 (ix p0) (ix p1) p2, Fr, inc)) := by simp [op_setLimit, hq_25, hq_28, hq_31]
        exact k_iret () F (hW.eq (by rw [hop]; rfl)) (by rw [hop]) dX5_setLimit_69 (Nat.le_of_ble_eq_true rfl) (Nat.le_of_ble_eq_true rfl)
end
section
theorem z01 {x : Int32} (h : x = 0 ∨ x = 1) : vp_nar .boolean x = x := by rcases h with rfl | rfl <;> rfl
set_option maxHeartbeats 4000000 in
set_option maxRecDepth 100000 in
theorem met_X5_addBuyer (l : Launch) (D : va_G) (cA : Nat → ClassId) (β : Nat → Nat) (c0 c1 : Nat × va_E) (wr : va_W) (th : Int32) (N : Nat → Nat → Nat) (R : Nat → Nat → Nat → Int32) (Fr : Nat → UInt32) (inc : Int64) (p0 : Int32) (hN : N 0 2 ≤ 5) : MetI l yX5_addBuyer (.code yX5_addBuyer cX5_addBuyer 2 (some .int) :: LW) ({ frames := 1, cells := 0, slots := 0, locals := 22 }) D cA (mWd cA β c0 c1 wr th (N, R, Fr, inc)) [.ref (β 0), .int p0] (fun r (_ : Unit) => r = (op_addBuyer (N, R, Fr, inc) p0).2.1) (fun _ => mWd cA β c0 c1 wr (nI (op_addBuyer (N, R, Fr, inc) p0).1) (op_addBuyer (N, R, Fr, inc) p0).2.2) 0 0 := by
  refine k_bodyI (by decide) (Nat.le_of_ble_eq_true rfl) (fun p e s m args below meth c ls F hW hl => ?_)
  obtain ⟨hx, hb, hr, hml, hown, hts, hlocks, hname⟩ := id F
  have hl : lv_has ls 2 [(0, .ref (β 0)), (1, .int p0)] := hl
  refine lv_aload_n hx hb dX5_addBuyer_0 rfl (lv_at hl 0 rfl) ?_
  refine lv_iload_n hx hb dX5_addBuyer_1 rfl (lv_at hl 1 rfl) ?_
  refine lv_iconst (v := 0) hx hb dX5_addBuyer_2 (by decide) ?_
  refine lv_ldc (v := 1000000) hx hb hown (hts _ CK_X5_141) dX5_addBuyer_3 ?_
  refine k_callSi (as := [.int p0, .int 0, .int 1000000]) (rest := [.ref (β 0)]) F hW (met_X5_in l D cA _ p0 0 1000000) rfl ML_X5_80 ST_X5_in IN_X5 CO_X5_in hdS_X5_in rfl rfl ⟨(Nat.le_of_ble_eq_true rfl), (Nat.le_of_ble_eq_true rfl)⟩ rfl rfl hl.1 (Nat.le_of_ble_eq_true rfl) dX5_addBuyer_5 ⟨(Nat.le_of_ble_eq_true rfl), (Nat.le_of_ble_eq_true rfl)⟩ (fun r_34 u H locs hw hW => ?_)
  subst hw
  cases hq_35 : wi p0 0 1000000
  · refine lv_if_ne (tgt := 15) hx hb dX5_addBuyer_8 (by decide) (fun h => absurd (by decide) h) (fun _ => ?_)
    refine lv_iconst (v := 1) hx hb dX5_addBuyer_11 (by decide) ?_
    refine lv_goto (tgt := 28) hx hb dX5_addBuyer_12 (by decide) ?_
    refine k_callVi (as := [.int 1]) (rest := []) (b := (β 0)) (ci := 7) (q0 := 2) F hW (met_X5_goesOn l D cA β c0 c1 wr th N R Fr inc 1) rfl ML_X5_93 IM_X5_goesOn SE_X5_goesOn IN_X5 CO_X5_goesOn hdV_X5_goesOn rfl rfl ⟨(Nat.le_of_ble_eq_true rfl), (Nat.le_of_ble_eq_true rfl)⟩ rfl rfl (rfl) rfl rfl hl.1 (Nat.le_of_ble_eq_true rfl) dX5_addBuyer_28 ⟨(Nat.le_of_ble_eq_true rfl), (Nat.le_of_ble_eq_true rfl)⟩ (fun r_36 u H locs hw hW => ?_)
    subst hw
    refine lv_if_ne (tgt := 36) hx hb dX5_addBuyer_31 (by decide) (fun h => absurd (by decide) h) (fun _ => ?_)
    refine lv_iconst (v := 0) hx hb dX5_addBuyer_34 (by decide) ?_
    have hop : op_addBuyer (N, R, Fr, inc) p0 = (1, 0, (N, R, Fr, inc)) := by simp [op_addBuyer, hq_35]
    exact k_iret () F (hW.eq (by rw [hop]; rfl)) (by rw [hop]) dX5_addBuyer_35 (Nat.le_of_ble_eq_true rfl) (Nat.le_of_ble_eq_true rfl)
  · refine lv_if_ne (tgt := 15) hx hb dX5_addBuyer_8 (by decide) (fun _ => ?_) (fun h => absurd h (by decide))
    refine lv_aload_n hx hb dX5_addBuyer_15 rfl (lv_at hl 0 rfl) ?_
    refine k_get (v := .int (nI (N 0 2))) F hW inX5 rfl 2 rfl rfl 17 (by decide) FL_X5_87 rfl rfl dX5_addBuyer_16 ?_
    refine lv_iconst (v := 5) hx hb dX5_addBuyer_19 (by decide) ?_
    refine lv_icmp_ne (tgt := 27) hx hb dX5_addBuyer_20 (by decide) (fun h_n => ?_) (fun h_n => ?_)
    · have h_n : ¬ N 0 2 = 5 := fun q => h_n (by rw [q]; rfl)
      refine lv_iconst (v := 0) hx hb dX5_addBuyer_27 (by decide) ?_
      refine k_callVi (as := [.int 0]) (rest := []) (b := (β 0)) (ci := 7) (q0 := 2) F hW (met_X5_goesOn l D cA β c0 c1 wr th N R Fr inc 0) rfl ML_X5_93 IM_X5_goesOn SE_X5_goesOn IN_X5 CO_X5_goesOn hdV_X5_goesOn rfl rfl ⟨(Nat.le_of_ble_eq_true rfl), (Nat.le_of_ble_eq_true rfl)⟩ rfl rfl (rfl) rfl rfl hl.1 (Nat.le_of_ble_eq_true rfl) dX5_addBuyer_28 ⟨(Nat.le_of_ble_eq_true rfl), (Nat.le_of_ble_eq_true rfl)⟩ (fun r_37 u H locs hw hW => ?_)
      subst hw
      refine lv_if_ne (tgt := 36) hx hb dX5_addBuyer_31 (by decide) (fun _ => ?_) (fun h => absurd h (by decide))
      refine lv_aload_n hx hb dX5_addBuyer_36 rfl (lv_at hl 0 rfl) ?_
      refine k_get (v := .ref (β 12)) F hW inX5 rfl 2 rfl rfl 18 (by decide) FL_X5_46 rfl rfl dX5_addBuyer_37 ?_
      refine lv_aload_n hx hb dX5_addBuyer_40 rfl (lv_at hl 0 rfl) ?_
      refine k_get (v := .int (nI (N 0 2))) F hW inX5 rfl 2 rfl rfl 17 (by decide) FL_X5_87 rfl rfl dX5_addBuyer_41 ?_
      refine lv_iload_n hx hb dX5_addBuyer_44 rfl (lv_at hl 1 rfl) ?_
      have hlt : N 0 2 < 5 := by omega
      refine k_iast F hW 14 rfl (vp_in_nI hlt (by decide)) (mWd cA β c0 c1 wr 0 (N, up3 R 13 (N 0 2) 0 p0, Fr, inc)) (by rw [nI_clamp (by omega), u1 R 13]; rfl) dX5_addBuyer_45 (fun H locs hW => ?_)
      refine lv_aload_n hx hb dX5_addBuyer_46 rfl (lv_at hl 0 rfl) ?_
      refine lv_dup hx hb dX5_addBuyer_47 rfl ?_
      refine k_get (v := .int (nI (N 0 2))) F hW inX5 rfl 2 rfl rfl 17 (by decide) FL_X5_87 rfl rfl dX5_addBuyer_48 ?_
      refine lv_iconst (v := 1) hx hb dX5_addBuyer_51 (by decide) ?_
      refine lv_iadd hx hb dX5_addBuyer_52 ?_
      refine lv_topi (fun x_38 ex_38 => ?_)
      obtain rfl : x_38 = nI (N 0 2 + 1) := ex_38.trans (nI_1 _)
      refine k_put F hW inX5 tyX5_ok nmX5 rfl 2 rfl rfl 17 (by decide) FL_X5_87 rfl rfl rfl rfl rfl (Nat.le_of_ble_eq_true rfl) (mWd cA β c0 c1 wr 0 (up2 N 0 2 (N 0 2 + 1), up3 R 13 (N 0 2) 0 p0, Fr, inc)) rfl dX5_addBuyer_53 (fun H locs hW => ?_)
      refine lv_aload_n hx hb dX5_addBuyer_56 rfl (lv_at hl 0 rfl) ?_
      refine k_get (v := .int (nI (N 0 2 + 1))) F hW inX5 rfl 2 rfl rfl 17 (by decide) FL_X5_87 rfl rfl dX5_addBuyer_57 ?_
      refine lv_iconst (v := 1) hx hb dX5_addBuyer_60 (by decide) ?_
      refine lv_isub hx hb dX5_addBuyer_61 ?_
      refine lv_topi (fun x_39 ex_39 => ?_)
      obtain rfl : x_39 = nI (N 0 2) := ex_39.trans (nI_pred _)
      have hop : op_addBuyer (N, R, Fr, inc) p0 = (0, nI (N 0 2), (up2 (up2 N 0 2 (N 0 2 + 1)) 2 2 (N 0 2 + 1), up3 R 13 (N 0 2) 0 p0, Fr, inc)) := by simp [op_addBuyer, hq_35, h_n]
      exact k_iret () F (hW.eq (by rw [hop]; rfl)) (by rw [hop]) dX5_addBuyer_62 (Nat.le_of_ble_eq_true rfl) (Nat.le_of_ble_eq_true rfl)
    · have h_n : N 0 2 = 5 := (nI_eq (by omega) (by decide)).mp h_n
      refine lv_iconst (v := 2) hx hb dX5_addBuyer_23 (by decide) ?_
      refine lv_goto (tgt := 28) hx hb dX5_addBuyer_24 (by decide) ?_
      refine k_callVi (as := [.int 2]) (rest := []) (b := (β 0)) (ci := 7) (q0 := 2) F hW (met_X5_goesOn l D cA β c0 c1 wr th N R Fr inc 2) rfl ML_X5_93 IM_X5_goesOn SE_X5_goesOn IN_X5 CO_X5_goesOn hdV_X5_goesOn rfl rfl ⟨(Nat.le_of_ble_eq_true rfl), (Nat.le_of_ble_eq_true rfl)⟩ rfl rfl (rfl) rfl rfl hl.1 (Nat.le_of_ble_eq_true rfl) dX5_addBuyer_28 ⟨(Nat.le_of_ble_eq_true rfl), (Nat.le_of_ble_eq_true rfl)⟩ (fun r_40 u H locs hw hW => ?_)
      subst hw
      refine lv_if_ne (tgt := 36) hx hb dX5_addBuyer_31 (by decide) (fun h => absurd (by decide) h) (fun _ => ?_)
      refine lv_iconst (v := 0) hx hb dX5_addBuyer_34 (by decide) ?_
      have hop : op_addBuyer (N, R, Fr, inc) p0 = (2, 0, (N, R, Fr, inc)) := by simp [op_addBuyer, hq_35, h_n]
      exact k_iret () F (hW.eq (by rw [hop]; rfl)) (by rw [hop]) dX5_addBuyer_35 (Nat.le_of_ble_eq_true rfl) (Nat.le_of_ble_eq_true rfl)

set_option maxHeartbeats 4000000 in
set_option maxRecDepth 100000 in
theorem met_X5_addBoat (l : Launch) (D : va_G) (cA : Nat → ClassId) (β : Nat → Nat) (c0 c1 : Nat × va_E) (wr : va_W) (th : Int32) (N : Nat → Nat → Nat) (R : Nat → Nat → Nat → Int32) (Fr : Nat → UInt32) (inc : Int64) (p0 p1 p2 p3 : Int32) (hN : N 0 0 ≤ 6) : MetI l yX5_addBoat (.code yX5_addBoat cX5_addBoat 6 (some .int) :: LW) ({ frames := 1, cells := 0, slots := 0, locals := 22 }) D cA (mWd cA β c0 c1 wr th (N, R, Fr, inc)) [.ref (β 0), .int p0, .int p1, .int p2, .int p3] (fun r (_ : Unit) => r = (op_addBoat (N, R, Fr, inc) p0 p1 p2 p3).2.1) (fun _ => mWd cA β c0 c1 wr (nI (op_addBoat (N, R, Fr, inc) p0 p1 p2 p3).1) (op_addBoat (N, R, Fr, inc) p0 p1 p2 p3).2.2) 0 0 := by
  refine k_bodyI (by decide) (Nat.le_of_ble_eq_true rfl) (fun p e s m args below meth c ls F hW hl => ?_)
  obtain ⟨hx, hb, hr, hml, hown, hts, hlocks, hname⟩ := id F
  have hl : lv_has ls 6 [(0, .ref (β 0)), (1, .int p0), (2, .int p1), (3, .int p2), (4, .int p3)] := hl
  refine lv_iload_n hx hb dX5_addBoat_0 rfl (lv_at hl 1 rfl) ?_
  refine lv_iconst (v := 0) hx hb dX5_addBoat_1 (by decide) ?_
  refine lv_sipush (v := 9999) hx hb dX5_addBoat_2 (by decide) ?_
  refine k_callSi (as := [.int p0, .int 0, .int 9999]) (rest := []) F hW (met_X5_in l D cA _ p0 0 9999) rfl ML_X5_80 ST_X5_in IN_X5 CO_X5_in hdS_X5_in rfl rfl ⟨(Nat.le_of_ble_eq_true rfl), (Nat.le_of_ble_eq_true rfl)⟩ rfl rfl hl.1 (Nat.le_of_ble_eq_true rfl) dX5_addBoat_5 ⟨(Nat.le_of_ble_eq_true rfl), (Nat.le_of_ble_eq_true rfl)⟩ (fun r_41 u H locs hw hW => ?_)
  subst hw
  cases hq_42 : wi p0 0 9999
  · refine lv_if_eq (tgt := 49) hx hb dX5_addBoat_8 (by decide) (fun _ => ?_) (fun h => absurd (by decide) h)
    refine lv_iconst (v := 0) hx hb dX5_addBoat_49 (by decide) ?_
    refine lv_istore (lv' := [(5, .int 0), (0, .ref (β 0)), (1, .int p0), (2, .int p1), (3, .int p2), (4, .int p3)]) hx hb dX5_addBoat_50 hl (by decide) rfl (fun ls hl => ?_)
    refine lv_aload_n hx hb dX5_addBoat_52 rfl (lv_at hl 1 rfl) ?_
    refine lv_iload hx hb dX5_addBoat_53 (lv_at hl 0 rfl) ?_
    refine lv_if_ne (tgt := 62) hx hb dX5_addBoat_55 (by decide) (fun h => absurd (by decide) h) (fun _ => ?_)
    refine lv_iconst (v := 1) hx hb dX5_addBoat_58 (by decide) ?_
    refine lv_goto (tgt := 76) hx hb dX5_addBoat_59 (by decide) ?_
    refine k_callVi (as := [.int 1]) (rest := []) (b := (β 0)) (ci := 7) (q0 := 2) F hW (met_X5_goesOn l D cA β c0 c1 wr th N R Fr inc 1) rfl ML_X5_93 IM_X5_goesOn SE_X5_goesOn IN_X5 CO_X5_goesOn hdV_X5_goesOn rfl rfl ⟨(Nat.le_of_ble_eq_true rfl), (Nat.le_of_ble_eq_true rfl)⟩ rfl rfl (rfl) rfl rfl hl.1 (Nat.le_of_ble_eq_true rfl) dX5_addBoat_76 ⟨(Nat.le_of_ble_eq_true rfl), (Nat.le_of_ble_eq_true rfl)⟩ (fun r_43 u H locs hw hW => ?_)
    subst hw
    refine lv_if_ne (tgt := 84) hx hb dX5_addBoat_79 (by decide) (fun h => absurd (by decide) h) (fun _ => ?_)
    refine lv_iconst (v := 0) hx hb dX5_addBoat_82 (by decide) ?_
    have hop : op_addBoat (N, R, Fr, inc) p0 p1 p2 p3 = (1, 0, (N, R, Fr, inc)) := by simp [op_addBoat, hq_42]
    exact k_iret () F (hW.eq (by rw [hop]; rfl)) (by rw [hop]) dX5_addBoat_83 (Nat.le_of_ble_eq_true rfl) (Nat.le_of_ble_eq_true rfl)
  · refine lv_if_eq (tgt := 49) hx hb dX5_addBoat_8 (by decide) (fun h => absurd h (by decide)) (fun _ => ?_)
    refine lv_iload_n hx hb dX5_addBoat_11 rfl (lv_at hl 2 rfl) ?_
    refine lv_iconst (v := 0) hx hb dX5_addBoat_12 (by decide) ?_
    refine lv_sipush (v := 9999) hx hb dX5_addBoat_13 (by decide) ?_
    refine k_callSi (as := [.int p1, .int 0, .int 9999]) (rest := []) F hW (met_X5_in l D cA _ p1 0 9999) rfl ML_X5_80 ST_X5_in IN_X5 CO_X5_in hdS_X5_in rfl rfl ⟨(Nat.le_of_ble_eq_true rfl), (Nat.le_of_ble_eq_true rfl)⟩ rfl rfl hl.1 (Nat.le_of_ble_eq_true rfl) dX5_addBoat_16 ⟨(Nat.le_of_ble_eq_true rfl), (Nat.le_of_ble_eq_true rfl)⟩ (fun r_44 u H locs hw hW => ?_)
    subst hw
    cases hq_45 : wi p1 0 9999
    · refine lv_if_eq (tgt := 49) hx hb dX5_addBoat_19 (by decide) (fun _ => ?_) (fun h => absurd (by decide) h)
      refine lv_iconst (v := 0) hx hb dX5_addBoat_49 (by decide) ?_
      refine lv_istore (lv' := [(5, .int 0), (0, .ref (β 0)), (1, .int p0), (2, .int p1), (3, .int p2), (4, .int p3)]) hx hb dX5_addBoat_50 hl (by decide) rfl (fun ls hl => ?_)
      refine lv_aload_n hx hb dX5_addBoat_52 rfl (lv_at hl 1 rfl) ?_
      refine lv_iload hx hb dX5_addBoat_53 (lv_at hl 0 rfl) ?_
      refine lv_if_ne (tgt := 62) hx hb dX5_addBoat_55 (by decide) (fun h => absurd (by decide) h) (fun _ => ?_)
      refine lv_iconst (v := 1) hx hb dX5_addBoat_58 (by decide) ?_
      refine lv_goto (tgt := 76) hx hb dX5_addBoat_59 (by decide) ?_
      refine k_callVi (as := [.int 1]) (rest := []) (b := (β 0)) (ci := 7) (q0 := 2) F hW (met_X5_goesOn l D cA β c0 c1 wr th N R Fr inc 1) rfl ML_X5_93 IM_X5_goesOn SE_X5_goesOn IN_X5 CO_X5_goesOn hdV_X5_goesOn rfl rfl ⟨(Nat.le_of_ble_eq_true rfl), (Nat.le_of_ble_eq_true rfl)⟩ rfl rfl (rfl) rfl rfl hl.1 (Nat.le_of_ble_eq_true rfl) dX5_addBoat_76 ⟨(Nat.le_of_ble_eq_true rfl), (Nat.le_of_ble_eq_true rfl)⟩ (fun r_46 u H locs hw hW => ?_)
      subst hw
      refine lv_if_ne (tgt := 84) hx hb dX5_addBoat_79 (by decide) (fun h => absurd (by decide) h) (fun _ => ?_)
      refine lv_iconst (v := 0) hx hb dX5_addBoat_82 (by decide) ?_
      have hop : op_addBoat (N, R, Fr, inc) p0 p1 p2 p3 = (1, 0, (N, R, Fr, inc)) := by simp [op_addBoat, hq_42, hq_45]
      exact k_iret () F (hW.eq (by rw [hop]; rfl)) (by rw [hop]) dX5_addBoat_83 (Nat.le_of_ble_eq_true rfl) (Nat.le_of_ble_eq_true rfl)
    · refine lv_if_eq (tgt := 49) hx hb dX5_addBoat_19 (by decide) (fun h => absurd h (by decide)) (fun _ => ?_)
      refine lv_iload_n hx hb dX5_addBoat_22 rfl (lv_at hl 3 rfl) ?_
      refine lv_iconst (v := 0) hx hb dX5_addBoat_23 (by decide) ?_
      refine lv_sipush (v := 9999) hx hb dX5_addBoat_24 (by decide) ?_
      refine k_callSi (as := [.int p2, .int 0, .int 9999]) (rest := []) F hW (met_X5_in l D cA _ p2 0 9999) rfl ML_X5_80 ST_X5_in IN_X5 CO_X5_in hdS_X5_in rfl rfl ⟨(Nat.le_of_ble_eq_true rfl), (Nat.le_of_ble_eq_true rfl)⟩ rfl rfl hl.1 (Nat.le_of_ble_eq_true rfl) dX5_addBoat_27 ⟨(Nat.le_of_ble_eq_true rfl), (Nat.le_of_ble_eq_true rfl)⟩ (fun r_47 u H locs hw hW => ?_)
      subst hw
      cases hq_48 : wi p2 0 9999
      · refine lv_if_eq (tgt := 49) hx hb dX5_addBoat_30 (by decide) (fun _ => ?_) (fun h => absurd (by decide) h)
        refine lv_iconst (v := 0) hx hb dX5_addBoat_49 (by decide) ?_
        refine lv_istore (lv' := [(5, .int 0), (0, .ref (β 0)), (1, .int p0), (2, .int p1), (3, .int p2), (4, .int p3)]) hx hb dX5_addBoat_50 hl (by decide) rfl (fun ls hl => ?_)
        refine lv_aload_n hx hb dX5_addBoat_52 rfl (lv_at hl 1 rfl) ?_
        refine lv_iload hx hb dX5_addBoat_53 (lv_at hl 0 rfl) ?_
        refine lv_if_ne (tgt := 62) hx hb dX5_addBoat_55 (by decide) (fun h => absurd (by decide) h) (fun _ => ?_)
        refine lv_iconst (v := 1) hx hb dX5_addBoat_58 (by decide) ?_
        refine lv_goto (tgt := 76) hx hb dX5_addBoat_59 (by decide) ?_
        refine k_callVi (as := [.int 1]) (rest := []) (b := (β 0)) (ci := 7) (q0 := 2) F hW (met_X5_goesOn l D cA β c0 c1 wr th N R Fr inc 1) rfl ML_X5_93 IM_X5_goesOn SE_X5_goesOn IN_X5 CO_X5_goesOn hdV_X5_goesOn rfl rfl ⟨(Nat.le_of_ble_eq_true rfl), (Nat.le_of_ble_eq_true rfl)⟩ rfl rfl (rfl) rfl rfl hl.1 (Nat.le_of_ble_eq_true rfl) dX5_addBoat_76 ⟨(Nat.le_of_ble_eq_true rfl), (Nat.le_of_ble_eq_true rfl)⟩ (fun r_49 u H locs hw hW => ?_)
        subst hw
        refine lv_if_ne (tgt := 84) hx hb dX5_addBoat_79 (by decide) (fun h => absurd (by decide) h) (fun _ => ?_)
        refine lv_iconst (v := 0) hx hb dX5_addBoat_82 (by decide) ?_
        have hop : op_addBoat (N, R, Fr, inc) p0 p1 p2 p3 = (1, 0, (N, R, Fr, inc)) := by simp [op_addBoat, hq_42, hq_45, hq_48]
        exact k_iret () F (hW.eq (by rw [hop]; rfl)) (by rw [hop]) dX5_addBoat_83 (Nat.le_of_ble_eq_true rfl) (Nat.le_of_ble_eq_true rfl)
      · refine lv_if_eq (tgt := 49) hx hb dX5_addBoat_30 (by decide) (fun h => absurd h (by decide)) (fun _ => ?_)
        refine lv_iload hx hb dX5_addBoat_33 (lv_at hl 4 rfl) ?_
        refine lv_iconst (v := 0) hx hb dX5_addBoat_35 (by decide) ?_
        refine lv_sipush (v := 9999) hx hb dX5_addBoat_36 (by decide) ?_
        refine k_callSi (as := [.int p3, .int 0, .int 9999]) (rest := []) F hW (met_X5_in l D cA _ p3 0 9999) rfl ML_X5_80 ST_X5_in IN_X5 CO_X5_in hdS_X5_in rfl rfl ⟨(Nat.le_of_ble_eq_true rfl), (Nat.le_of_ble_eq_true rfl)⟩ rfl rfl hl.1 (Nat.le_of_ble_eq_true rfl) dX5_addBoat_39 ⟨(Nat.le_of_ble_eq_true rfl), (Nat.le_of_ble_eq_true rfl)⟩ (fun r_50 u H locs hw hW => ?_)
        subst hw
        cases hq_51 : wi p3 0 9999
        · refine lv_if_eq (tgt := 49) hx hb dX5_addBoat_42 (by decide) (fun _ => ?_) (fun h => absurd (by decide) h)
          refine lv_iconst (v := 0) hx hb dX5_addBoat_49 (by decide) ?_
          refine lv_istore (lv' := [(5, .int 0), (0, .ref (β 0)), (1, .int p0), (2, .int p1), (3, .int p2), (4, .int p3)]) hx hb dX5_addBoat_50 hl (by decide) rfl (fun ls hl => ?_)
          refine lv_aload_n hx hb dX5_addBoat_52 rfl (lv_at hl 1 rfl) ?_
          refine lv_iload hx hb dX5_addBoat_53 (lv_at hl 0 rfl) ?_
          refine lv_if_ne (tgt := 62) hx hb dX5_addBoat_55 (by decide) (fun h => absurd (by decide) h) (fun _ => ?_)
          refine lv_iconst (v := 1) hx hb dX5_addBoat_58 (by decide) ?_
          refine lv_goto (tgt := 76) hx hb dX5_addBoat_59 (by decide) ?_
          refine k_callVi (as := [.int 1]) (rest := []) (b := (β 0)) (ci := 7) (q0 := 2) F hW (met_X5_goesOn l D cA β c0 c1 wr th N R Fr inc 1) rfl ML_X5_93 IM_X5_goesOn SE_X5_goesOn IN_X5 CO_X5_goesOn hdV_X5_goesOn rfl rfl ⟨(Nat.le_of_ble_eq_true rfl), (Nat.le_of_ble_eq_true rfl)⟩ rfl rfl (rfl) rfl rfl hl.1 (Nat.le_of_ble_eq_true rfl) dX5_addBoat_76 ⟨(Nat.le_of_ble_eq_true rfl), (Nat.le_of_ble_eq_true rfl)⟩ (fun r_52 u H locs hw hW => ?_)
          subst hw
          refine lv_if_ne (tgt := 84) hx hb dX5_addBoat_79 (by decide) (fun h => absurd (by decide) h) (fun _ => ?_)
          refine lv_iconst (v := 0) hx hb dX5_addBoat_82 (by decide) ?_
          have hop : op_addBoat (N, R, Fr, inc) p0 p1 p2 p3 = (1, 0, (N, R, Fr, inc)) := by simp [op_addBoat, hq_42, hq_45, hq_48, hq_51]
          exact k_iret () F (hW.eq (by rw [hop]; rfl)) (by rw [hop]) dX5_addBoat_83 (Nat.le_of_ble_eq_true rfl) (Nat.le_of_ble_eq_true rfl)
        · refine lv_if_eq (tgt := 49) hx hb dX5_addBoat_42 (by decide) (fun h => absurd h (by decide)) (fun _ => ?_)
          refine lv_iconst (v := 1) hx hb dX5_addBoat_45 (by decide) ?_
          refine lv_goto (tgt := 50) hx hb dX5_addBoat_46 (by decide) ?_
          refine lv_istore (lv' := [(5, .int 1), (0, .ref (β 0)), (1, .int p0), (2, .int p1), (3, .int p2), (4, .int p3)]) hx hb dX5_addBoat_50 hl (by decide) rfl (fun ls hl => ?_)
          refine lv_aload_n hx hb dX5_addBoat_52 rfl (lv_at hl 1 rfl) ?_
          refine lv_iload hx hb dX5_addBoat_53 (lv_at hl 0 rfl) ?_
          refine lv_if_ne (tgt := 62) hx hb dX5_addBoat_55 (by decide) (fun _ => ?_) (fun h => absurd h (by decide))
          refine lv_aload_n hx hb dX5_addBoat_62 rfl (lv_at hl 1 rfl) ?_
          refine k_get (v := .int (nI (N 0 0))) F hW inX5 rfl 2 rfl rfl 1 (by decide) FL_X5_77 rfl rfl dX5_addBoat_63 ?_
          refine lv_bipush (v := 6) hx hb dX5_addBoat_66 (by decide) ?_
          refine lv_icmp_ne (tgt := 75) hx hb dX5_addBoat_68 (by decide) (fun h_n => ?_) (fun h_n => ?_)
          · have h_n : ¬ N 0 0 = 6 := fun q => h_n (by rw [q]; rfl)
            refine lv_iconst (v := 0) hx hb dX5_addBoat_75 (by decide) ?_
            refine k_callVi (as := [.int 0]) (rest := []) (b := (β 0)) (ci := 7) (q0 := 2) F hW (met_X5_goesOn l D cA β c0 c1 wr th N R Fr inc 0) rfl ML_X5_93 IM_X5_goesOn SE_X5_goesOn IN_X5 CO_X5_goesOn hdV_X5_goesOn rfl rfl ⟨(Nat.le_of_ble_eq_true rfl), (Nat.le_of_ble_eq_true rfl)⟩ rfl rfl (rfl) rfl rfl hl.1 (Nat.le_of_ble_eq_true rfl) dX5_addBoat_76 ⟨(Nat.le_of_ble_eq_true rfl), (Nat.le_of_ble_eq_true rfl)⟩ (fun r_53 u H locs hw hW => ?_)
            subst hw
            refine lv_if_ne (tgt := 84) hx hb dX5_addBoat_79 (by decide) (fun _ => ?_) (fun h => absurd h (by decide))
            refine lv_aload_n hx hb dX5_addBoat_84 rfl (lv_at hl 1 rfl) ?_
            refine k_get (v := .ref (β 1)) F hW inX5 rfl 2 rfl rfl 2 (by decide) FL_X5_9 rfl rfl dX5_addBoat_85 ?_
            refine lv_iconst (v := 4) hx hb dX5_addBoat_88 (by decide) ?_
            refine lv_aload_n hx hb dX5_addBoat_89 rfl (lv_at hl 1 rfl) ?_
            refine k_get (v := .int (nI (N 0 0))) F hW inX5 rfl 2 rfl rfl 1 (by decide) FL_X5_77 rfl rfl dX5_addBoat_90 ?_
            refine lv_imul hx hb dX5_addBoat_93 ?_
            have hlt : N 0 0 < 6 := by omega
            refine lv_topi (fun x_54 ex_54 => ?_)
            obtain rfl : x_54 = nI (4 * N 0 0 + 0) := ex_54.trans (pk_mul 4 _)
            refine lv_iload_n hx hb dX5_addBoat_94 rfl (lv_at hl 2 rfl) ?_
            refine k_iast F hW 3 rfl (vp_in_nI (by omega) (by decide)) (mWd cA β c0 c1 wr 0 (N, up3 R 1 (N 0 0) 0 p0, Fr, inc)) (by rw [nI_clamp (by omega), ud 4 R 1 (N 0 0) 0 p0 (by decide)]; rfl) dX5_addBoat_95 (fun H locs hW => ?_)
            refine lv_aload_n hx hb dX5_addBoat_96 rfl (lv_at hl 1 rfl) ?_
            refine k_get (v := .ref (β 1)) F hW inX5 rfl 2 rfl rfl 2 (by decide) FL_X5_9 rfl rfl dX5_addBoat_97 ?_
            refine lv_iconst (v := 4) hx hb dX5_addBoat_100 (by decide) ?_
            refine lv_aload_n hx hb dX5_addBoat_101 rfl (lv_at hl 1 rfl) ?_
            refine k_get (v := .int (nI (N 0 0))) F hW inX5 rfl 2 rfl rfl 1 (by decide) FL_X5_77 rfl rfl dX5_addBoat_102 ?_
            refine lv_imul hx hb dX5_addBoat_105 ?_
            refine lv_iconst (v := 1) hx hb dX5_addBoat_106 (by decide) ?_
            refine lv_iadd hx hb dX5_addBoat_107 ?_
            refine lv_topi (fun x_55 ex_55 => ?_)
            obtain rfl : x_55 = nI (4 * N 0 0 + 1) := ex_55.trans (ix4 _ 1)
            refine lv_iload_n hx hb dX5_addBoat_108 rfl (lv_at hl 3 rfl) ?_
            refine k_iast F hW 3 rfl (vp_in_nI (by omega) (by decide)) (mWd cA β c0 c1 wr 0 (N, up3 (up3 R 1 (N 0 0) 0 p0) 1 (N 0 0) 1 p1, Fr, inc)) (by rw [nI_clamp (by omega), ud 4 (up3 R 1 (N 0 0) 0 p0) 1 (N 0 0) 1 p1 (by decide)]; rfl) dX5_addBoat_109 (fun H locs hW => ?_)
            refine lv_aload_n hx hb dX5_addBoat_110 rfl (lv_at hl 1 rfl) ?_
            refine k_get (v := .ref (β 1)) F hW inX5 rfl 2 rfl rfl 2 (by decide) FL_X5_9 rfl rfl dX5_addBoat_111 ?_
            refine lv_iconst (v := 4) hx hb dX5_addBoat_114 (by decide) ?_
            refine lv_aload_n hx hb dX5_addBoat_115 rfl (lv_at hl 1 rfl) ?_
            refine k_get (v := .int (nI (N 0 0))) F hW inX5 rfl 2 rfl rfl 1 (by decide) FL_X5_77 rfl rfl dX5_addBoat_116 ?_
            refine lv_imul hx hb dX5_addBoat_119 ?_
            refine lv_iconst (v := 2) hx hb dX5_addBoat_120 (by decide) ?_
            refine lv_iadd hx hb dX5_addBoat_121 ?_
            refine lv_topi (fun x_56 ex_56 => ?_)
            obtain rfl : x_56 = nI (4 * N 0 0 + 2) := ex_56.trans (ix4 _ 2)
            refine lv_iload_n hx hb dX5_addBoat_122 rfl (lv_at hl 4 rfl) ?_
            refine k_iast F hW 3 rfl (vp_in_nI (by omega) (by decide)) (mWd cA β c0 c1 wr 0 (N, up3 (up3 (up3 R 1 (N 0 0) 0 p0) 1 (N 0 0) 1 p1) 1 (N 0 0) 2 p2, Fr, inc)) (by rw [nI_clamp (by omega), ud 4 (up3 (up3 R 1 (N 0 0) 0 p0) 1 (N 0 0) 1 p1) 1 (N 0 0) 2 p2 (by decide)]; rfl) dX5_addBoat_123 (fun H locs hW => ?_)
            refine lv_aload_n hx hb dX5_addBoat_124 rfl (lv_at hl 1 rfl) ?_
            refine k_get (v := .ref (β 1)) F hW inX5 rfl 2 rfl rfl 2 (by decide) FL_X5_9 rfl rfl dX5_addBoat_125 ?_
            refine lv_iconst (v := 4) hx hb dX5_addBoat_128 (by decide) ?_
            refine lv_aload_n hx hb dX5_addBoat_129 rfl (lv_at hl 1 rfl) ?_
            refine k_get (v := .int (nI (N 0 0))) F hW inX5 rfl 2 rfl rfl 1 (by decide) FL_X5_77 rfl rfl dX5_addBoat_130 ?_
            refine lv_imul hx hb dX5_addBoat_133 ?_
            refine lv_iconst (v := 3) hx hb dX5_addBoat_134 (by decide) ?_
            refine lv_iadd hx hb dX5_addBoat_135 ?_
            refine lv_topi (fun x_57 ex_57 => ?_)
            obtain rfl : x_57 = nI (4 * N 0 0 + 3) := ex_57.trans (ix4 _ 3)
            refine lv_iload hx hb dX5_addBoat_136 (lv_at hl 5 rfl) ?_
            refine k_iast F hW 3 rfl (vp_in_nI (by omega) (by decide)) (mWd cA β c0 c1 wr 0 (N, up3 (up3 (up3 (up3 R 1 (N 0 0) 0 p0) 1 (N 0 0) 1 p1) 1 (N 0 0) 2 p2) 1 (N 0 0) 3 p3, Fr, inc)) (by rw [nI_clamp (by omega), ud 4 (up3 (up3 (up3 R 1 (N 0 0) 0 p0) 1 (N 0 0) 1 p1) 1 (N 0 0) 2 p2) 1 (N 0 0) 3 p3 (by decide)]; rfl) dX5_addBoat_138 (fun H locs hW => ?_)
            refine lv_aload_n hx hb dX5_addBoat_139 rfl (lv_at hl 1 rfl) ?_
            refine lv_dup hx hb dX5_addBoat_140 rfl ?_
            refine k_get (v := .int (nI (N 0 0))) F hW inX5 rfl 2 rfl rfl 1 (by decide) FL_X5_77 rfl rfl dX5_addBoat_141 ?_
            refine lv_iconst (v := 1) hx hb dX5_addBoat_144 (by decide) ?_
            refine lv_iadd hx hb dX5_addBoat_145 ?_
            refine lv_topi (fun x_58 ex_58 => ?_)
            obtain rfl : x_58 = nI (N 0 0 + 1) := ex_58.trans (nI_1 _)
            refine k_put F hW inX5 tyX5_ok nmX5 rfl 2 rfl rfl 1 (by decide) FL_X5_77 rfl rfl rfl rfl rfl (Nat.le_of_ble_eq_true rfl) (mWd cA β c0 c1 wr 0 (up2 N 0 0 (N 0 0 + 1), up3 (up3 (up3 (up3 R 1 (N 0 0) 0 p0) 1 (N 0 0) 1 p1) 1 (N 0 0) 2 p2) 1 (N 0 0) 3 p3, Fr, inc)) rfl dX5_addBoat_146 (fun H locs hW => ?_)
            refine lv_aload_n hx hb dX5_addBoat_149 rfl (lv_at hl 1 rfl) ?_
            refine k_get (v := .int (nI (N 0 0 + 1))) F hW inX5 rfl 2 rfl rfl 1 (by decide) FL_X5_77 rfl rfl dX5_addBoat_150 ?_
            refine lv_iconst (v := 1) hx hb dX5_addBoat_153 (by decide) ?_
            refine lv_isub hx hb dX5_addBoat_154 ?_
            refine lv_topi (fun x_59 ex_59 => ?_)
            obtain rfl : x_59 = nI (N 0 0) := ex_59.trans (nI_pred _)
            have hop : op_addBoat (N, R, Fr, inc) p0 p1 p2 p3 = (0, nI (N 0 0), (up2 (up2 N 0 0 (N 0 0 + 1)) 2 0 (N 0 0 + 1), up3 (up3 (up3 (up3 (up3 (up3 (up3 (up3 R 1 (N 0 0) 0 p0) 1 (N 0 0) 1 p1) 1 (N 0 0) 2 p2) 1 (N 0 0) 3 p3) 3 (N 0 0) 0 p0) 3 (N 0 0) 1 p1) 3 (N 0 0) 2 p2) 3 (N 0 0) 3 p3, Fr, inc)) := by simp [op_addBoat, hq_42, hq_45, hq_48, hq_51, h_n]
            exact k_iret () F (hW.eq (by rw [hop]; rfl)) (by rw [hop]) dX5_addBoat_155 (Nat.le_of_ble_eq_true rfl) (Nat.le_of_ble_eq_true rfl)
          · have h_n : N 0 0 = 6 := (nI_eq (by omega) (by decide)).mp h_n
            refine lv_iconst (v := 2) hx hb dX5_addBoat_71 (by decide) ?_
            refine lv_goto (tgt := 76) hx hb dX5_addBoat_72 (by decide) ?_
            refine k_callVi (as := [.int 2]) (rest := []) (b := (β 0)) (ci := 7) (q0 := 2) F hW (met_X5_goesOn l D cA β c0 c1 wr th N R Fr inc 2) rfl ML_X5_93 IM_X5_goesOn SE_X5_goesOn IN_X5 CO_X5_goesOn hdV_X5_goesOn rfl rfl ⟨(Nat.le_of_ble_eq_true rfl), (Nat.le_of_ble_eq_true rfl)⟩ rfl rfl (rfl) rfl rfl hl.1 (Nat.le_of_ble_eq_true rfl) dX5_addBoat_76 ⟨(Nat.le_of_ble_eq_true rfl), (Nat.le_of_ble_eq_true rfl)⟩ (fun r_60 u H locs hw hW => ?_)
            subst hw
            refine lv_if_ne (tgt := 84) hx hb dX5_addBoat_79 (by decide) (fun h => absurd (by decide) h) (fun _ => ?_)
            refine lv_iconst (v := 0) hx hb dX5_addBoat_82 (by decide) ?_
            have hop : op_addBoat (N, R, Fr, inc) p0 p1 p2 p3 = (2, 0, (N, R, Fr, inc)) := by simp [op_addBoat, hq_42, hq_45, hq_48, hq_51, h_n]
            exact k_iret () F (hW.eq (by rw [hop]; rfl)) (by rw [hop]) dX5_addBoat_83 (Nat.le_of_ble_eq_true rfl) (Nat.le_of_ble_eq_true rfl)

set_option maxHeartbeats 4000000 in
set_option maxRecDepth 100000 in
theorem met_X5_setClock (l : Launch) (D : va_G) (cA : Nat → ClassId) (β : Nat → Nat) (c0 c1 : Nat × va_E) (wr : va_W) (th : Int32) (N : Nat → Nat → Nat) (R : Nat → Nat → Nat → Int32) (Fr : Nat → UInt32) (inc : Int64) (p0 p1 p2 : Int32) : MetI l yX5_setClock (.code yX5_setClock cX5_setClock 5 (some .int) :: LW) ({ frames := 1, cells := 0, slots := 0, locals := 22 }) D cA (mWd cA β c0 c1 wr th (N, R, Fr, inc)) [.ref (β 0), .int p0, .int p1, .int p2] (fun r (_ : Unit) => r = (op_setClock (N, R, Fr, inc) p0 p1 p2).2.1) (fun _ => mWd cA β c0 c1 wr (nI (op_setClock (N, R, Fr, inc) p0 p1 p2).1) (op_setClock (N, R, Fr, inc) p0 p1 p2).2.2) 0 0 := by
  refine k_bodyI (by decide) (Nat.le_of_ble_eq_true rfl) (fun p e s m args below meth c ls F hW hl => ?_)
  obtain ⟨hx, hb, hr, hml, hown, hts, hlocks, hname⟩ := id F
  have hl : lv_has ls 5 [(0, .ref (β 0)), (1, .int p0), (2, .int p1), (3, .int p2)] := hl
  refine lv_aload_n hx hb dX5_setClock_0 rfl (lv_at hl 0 rfl) ?_
  refine lv_iload_n hx hb dX5_setClock_1 rfl (lv_at hl 1 rfl) ?_
  refine lv_iconst (v := 1) hx hb dX5_setClock_2 (by decide) ?_
  refine lv_sipush (v := 9999) hx hb dX5_setClock_3 (by decide) ?_
  refine k_callSi (as := [.int p0, .int 1, .int 9999]) (rest := [.ref (β 0)]) F hW (met_X5_in l D cA _ p0 1 9999) rfl ML_X5_80 ST_X5_in IN_X5 CO_X5_in hdS_X5_in rfl rfl ⟨(Nat.le_of_ble_eq_true rfl), (Nat.le_of_ble_eq_true rfl)⟩ rfl rfl hl.1 (Nat.le_of_ble_eq_true rfl) dX5_setClock_6 ⟨(Nat.le_of_ble_eq_true rfl), (Nat.le_of_ble_eq_true rfl)⟩ (fun r_61 u H locs hw hW => ?_)
  subst hw
  cases hq_62 : wi p0 1 9999
  · refine lv_if_eq (tgt := 36) hx hb dX5_setClock_9 (by decide) (fun _ => ?_) (fun h => absurd (by decide) h)
    refine lv_iconst (v := 1) hx hb dX5_setClock_36 (by decide) ?_
    refine k_callVi (as := [.int 1]) (rest := []) (b := (β 0)) (ci := 7) (q0 := 2) F hW (met_X5_goesOn l D cA β c0 c1 wr th N R Fr inc 1) rfl ML_X5_93 IM_X5_goesOn SE_X5_goesOn IN_X5 CO_X5_goesOn hdV_X5_goesOn rfl rfl ⟨(Nat.le_of_ble_eq_true rfl), (Nat.le_of_ble_eq_true rfl)⟩ rfl rfl (rfl) rfl rfl hl.1 (Nat.le_of_ble_eq_true rfl) dX5_setClock_37 ⟨(Nat.le_of_ble_eq_true rfl), (Nat.le_of_ble_eq_true rfl)⟩ (fun r_63 u H locs hw hW => ?_)
    subst hw
    refine lv_if_ne (tgt := 45) hx hb dX5_setClock_40 (by decide) (fun h => absurd (by decide) h) (fun _ => ?_)
    refine lv_iconst (v := 0) hx hb dX5_setClock_43 (by decide) ?_
    have hop : op_setClock (N, R, Fr, inc) p0 p1 p2 = (1, 0, (N, R, Fr, inc)) := by simp [op_setClock, hq_62]
    exact k_iret () F (hW.eq (by rw [hop]; rfl)) (by rw [hop]) dX5_setClock_44 (Nat.le_of_ble_eq_true rfl) (Nat.le_of_ble_eq_true rfl)
  · refine lv_if_eq (tgt := 36) hx hb dX5_setClock_9 (by decide) (fun h => absurd h (by decide)) (fun _ => ?_)
    refine lv_iload_n hx hb dX5_setClock_12 rfl (lv_at hl 2 rfl) ?_
    refine lv_iconst (v := 1) hx hb dX5_setClock_13 (by decide) ?_
    refine lv_sipush (v := 500) hx hb dX5_setClock_14 (by decide) ?_
    refine k_callSi (as := [.int p1, .int 1, .int 500]) (rest := [.ref (β 0)]) F hW (met_X5_in l D cA _ p1 1 500) rfl ML_X5_80 ST_X5_in IN_X5 CO_X5_in hdS_X5_in rfl rfl ⟨(Nat.le_of_ble_eq_true rfl), (Nat.le_of_ble_eq_true rfl)⟩ rfl rfl hl.1 (Nat.le_of_ble_eq_true rfl) dX5_setClock_17 ⟨(Nat.le_of_ble_eq_true rfl), (Nat.le_of_ble_eq_true rfl)⟩ (fun r_64 u H locs hw hW => ?_)
    subst hw
    cases hq_65 : wi p1 1 500
    · refine lv_if_eq (tgt := 36) hx hb dX5_setClock_20 (by decide) (fun _ => ?_) (fun h => absurd (by decide) h)
      refine lv_iconst (v := 1) hx hb dX5_setClock_36 (by decide) ?_
      refine k_callVi (as := [.int 1]) (rest := []) (b := (β 0)) (ci := 7) (q0 := 2) F hW (met_X5_goesOn l D cA β c0 c1 wr th N R Fr inc 1) rfl ML_X5_93 IM_X5_goesOn SE_X5_goesOn IN_X5 CO_X5_goesOn hdV_X5_goesOn rfl rfl ⟨(Nat.le_of_ble_eq_true rfl), (Nat.le_of_ble_eq_true rfl)⟩ rfl rfl (rfl) rfl rfl hl.1 (Nat.le_of_ble_eq_true rfl) dX5_setClock_37 ⟨(Nat.le_of_ble_eq_true rfl), (Nat.le_of_ble_eq_true rfl)⟩ (fun r_66 u H locs hw hW => ?_)
      subst hw
      refine lv_if_ne (tgt := 45) hx hb dX5_setClock_40 (by decide) (fun h => absurd (by decide) h) (fun _ => ?_)
      refine lv_iconst (v := 0) hx hb dX5_setClock_43 (by decide) ?_
      have hop : op_setClock (N, R, Fr, inc) p0 p1 p2 = (1, 0, (N, R, Fr, inc)) := by simp [op_setClock, hq_62, hq_65]
      exact k_iret () F (hW.eq (by rw [hop]; rfl)) (by rw [hop]) dX5_setClock_44 (Nat.le_of_ble_eq_true rfl) (Nat.le_of_ble_eq_true rfl)
    · refine lv_if_eq (tgt := 36) hx hb dX5_setClock_20 (by decide) (fun h => absurd h (by decide)) (fun _ => ?_)
      refine lv_iload_n hx hb dX5_setClock_23 rfl (lv_at hl 3 rfl) ?_
      refine lv_iconst (v := 0) hx hb dX5_setClock_24 (by decide) ?_
      refine lv_iload_n hx hb dX5_setClock_25 rfl (lv_at hl 1 rfl) ?_
      refine k_callSi (as := [.int p2, .int 0, .int p0]) (rest := [.ref (β 0)]) F hW (met_X5_in l D cA _ p2 0 p0) rfl ML_X5_80 ST_X5_in IN_X5 CO_X5_in hdS_X5_in rfl rfl ⟨(Nat.le_of_ble_eq_true rfl), (Nat.le_of_ble_eq_true rfl)⟩ rfl rfl hl.1 (Nat.le_of_ble_eq_true rfl) dX5_setClock_26 ⟨(Nat.le_of_ble_eq_true rfl), (Nat.le_of_ble_eq_true rfl)⟩ (fun r_67 u H locs hw hW => ?_)
      subst hw
      cases hq_68 : wi p2 0 p0
      · refine lv_if_eq (tgt := 36) hx hb dX5_setClock_29 (by decide) (fun _ => ?_) (fun h => absurd (by decide) h)
        refine lv_iconst (v := 1) hx hb dX5_setClock_36 (by decide) ?_
        refine k_callVi (as := [.int 1]) (rest := []) (b := (β 0)) (ci := 7) (q0 := 2) F hW (met_X5_goesOn l D cA β c0 c1 wr th N R Fr inc 1) rfl ML_X5_93 IM_X5_goesOn SE_X5_goesOn IN_X5 CO_X5_goesOn hdV_X5_goesOn rfl rfl ⟨(Nat.le_of_ble_eq_true rfl), (Nat.le_of_ble_eq_true rfl)⟩ rfl rfl (rfl) rfl rfl hl.1 (Nat.le_of_ble_eq_true rfl) dX5_setClock_37 ⟨(Nat.le_of_ble_eq_true rfl), (Nat.le_of_ble_eq_true rfl)⟩ (fun r_69 u H locs hw hW => ?_)
        subst hw
        refine lv_if_ne (tgt := 45) hx hb dX5_setClock_40 (by decide) (fun h => absurd (by decide) h) (fun _ => ?_)
        refine lv_iconst (v := 0) hx hb dX5_setClock_43 (by decide) ?_
        have hop : op_setClock (N, R, Fr, inc) p0 p1 p2 = (1, 0, (N, R, Fr, inc)) := by simp [op_setClock, hq_62, hq_65, hq_68]
        exact k_iret () F (hW.eq (by rw [hop]; rfl)) (by rw [hop]) dX5_setClock_44 (Nat.le_of_ble_eq_true rfl) (Nat.le_of_ble_eq_true rfl)
      · refine lv_if_eq (tgt := 36) hx hb dX5_setClock_29 (by decide) (fun h => absurd h (by decide)) (fun _ => ?_)
        refine lv_iconst (v := 0) hx hb dX5_setClock_32 (by decide) ?_
        refine lv_goto (tgt := 37) hx hb dX5_setClock_33 (by decide) ?_
        refine k_callVi (as := [.int 0]) (rest := []) (b := (β 0)) (ci := 7) (q0 := 2) F hW (met_X5_goesOn l D cA β c0 c1 wr th N R Fr inc 0) rfl ML_X5_93 IM_X5_goesOn SE_X5_goesOn IN_X5 CO_X5_goesOn hdV_X5_goesOn rfl rfl ⟨(Nat.le_of_ble_eq_true rfl), (Nat.le_of_ble_eq_true rfl)⟩ rfl rfl (rfl) rfl rfl hl.1 (Nat.le_of_ble_eq_true rfl) dX5_setClock_37 ⟨(Nat.le_of_ble_eq_true rfl), (Nat.le_of_ble_eq_true rfl)⟩ (fun r_70 u H locs hw hW => ?_)
        subst hw
        refine lv_if_ne (tgt := 45) hx hb dX5_setClock_40 (by decide) (fun _ => ?_) (fun h => absurd h (by decide))
        refine lv_aload_n hx hb dX5_setClock_45 rfl (lv_at hl 0 rfl) ?_
        refine k_get (v := .int (R 0 1 0)) F hW inX5 rfl 2 rfl rfl 20 (by decide) FL_X5_52 rfl rfl dX5_setClock_46 ?_
        refine lv_istore (lv' := [(4, .int (R 0 1 0)), (0, .ref (β 0)), (1, .int p0), (2, .int p1), (3, .int p2)]) hx hb dX5_setClock_49 hl (by decide) rfl (fun ls hl => ?_)
        refine lv_aload_n hx hb dX5_setClock_51 rfl (lv_at hl 1 rfl) ?_
        refine lv_iload_n hx hb dX5_setClock_52 rfl (lv_at hl 2 rfl) ?_
        refine k_put F hW inX5 tyX5_ok nmX5 rfl 2 rfl rfl 20 (by decide) FL_X5_52 rfl rfl rfl rfl rfl (Nat.le_of_ble_eq_true rfl) (mWd cA β c0 c1 wr 0 (N, up3 R 0 1 0 p0, Fr, inc)) rfl dX5_setClock_53 (fun H locs hW => ?_)
        refine lv_aload_n hx hb dX5_setClock_56 rfl (lv_at hl 1 rfl) ?_
        refine lv_iload_n hx hb dX5_setClock_57 rfl (lv_at hl 3 rfl) ?_
        refine k_put F hW inX5 tyX5_ok nmX5 rfl 2 rfl rfl 21 (by decide) FL_X5_56 rfl rfl rfl rfl rfl (Nat.le_of_ble_eq_true rfl) (mWd cA β c0 c1 wr 0 (N, up3 (up3 R 0 1 0 p0) 0 2 0 p1, Fr, inc)) rfl dX5_setClock_58 (fun H locs hW => ?_)
        refine lv_aload_n hx hb dX5_setClock_61 rfl (lv_at hl 1 rfl) ?_
        refine lv_iload_n hx hb dX5_setClock_62 rfl (lv_at hl 4 rfl) ?_
        refine k_put F hW inX5 tyX5_ok nmX5 rfl 2 rfl rfl 22 (by decide) FL_X5_145 rfl rfl rfl rfl rfl (Nat.le_of_ble_eq_true rfl) (mWd cA β c0 c1 wr 0 (N, up3 (up3 (up3 R 0 1 0 p0) 0 2 0 p1) 0 3 0 p2, Fr, inc)) rfl dX5_setClock_63 (fun H locs hW => ?_)
        refine lv_iload hx hb dX5_setClock_66 (lv_at hl 0 rfl) ?_
        have hop : op_setClock (N, R, Fr, inc) p0 p1 p2 = (0, (R 0 1 0), (N, up3 (up3 (up3 R 0 1 0 p0) 0 2 0 p1) 0 3 0 p2, Fr, inc)) := by simp [op_setClock, hq_62, hq_65, hq_68]
        exact k_iret () F (hW.eq (by rw [hop]; rfl)) (by rw [hop]) dX5_setClock_68 (Nat.le_of_ble_eq_true rfl) (Nat.le_of_ble_eq_true rfl)

set_option maxHeartbeats 4000000 in
set_option maxRecDepth 100000 in
theorem met_X5_buyerOf (l : Launch) (D : va_G) (cA : Nat → ClassId) (β : Nat → Nat) (c0 c1 : Nat × va_E) (wr : va_W) (th : Int32) (N : Nat → Nat → Nat) (R : Nat → Nat → Nat → Int32) (Fr : Nat → UInt32) (inc : Int64) (p0 : Int32) (hN : N 0 1 ≤ 20) : MetI l yX5_buyerOf (.code yX5_buyerOf cX5_buyerOf 2 (some .int) :: LW) ({ frames := 2, cells := 0, slots := 0, locals := 43 }) D cA (mWd cA β c0 c1 wr th (N, R, Fr, inc)) [.ref (β 0), .int p0] (fun r (_ : Unit) => r = (op_buyerOf (N, R, Fr, inc) p0).2.1) (fun _ => mWd cA β c0 c1 wr (nI (op_buyerOf (N, R, Fr, inc) p0).1) (op_buyerOf (N, R, Fr, inc) p0).2.2) 0 0 := by
  refine k_bodyI (by decide) (Nat.le_of_ble_eq_true rfl) (fun p e s m args below meth c ls F hW hl => ?_)
  obtain ⟨hx, hb, hr, hml, hown, hts, hlocks, hname⟩ := id F
  have hl : lv_has ls 2 [(0, .ref (β 0)), (1, .int p0)] := hl
  refine lv_aload_n hx hb dX5_buyerOf_0 rfl (lv_at hl 0 rfl) ?_
  refine lv_aload_n hx hb dX5_buyerOf_1 rfl (lv_at hl 0 rfl) ?_
  refine lv_iload_n hx hb dX5_buyerOf_2 rfl (lv_at hl 1 rfl) ?_
  refine k_callVi (as := [.int p0]) (rest := [.ref (β 0)]) (b := (β 0)) (ci := 7) (q0 := 2) F hW (met_X5_isLot l D cA β c0 c1 wr th N R Fr inc p0) rfl ML_X5_110 IM_X5_isLot SE_X5_isLot IN_X5 CO_X5_isLot hdV_X5_isLot rfl rfl ⟨(Nat.le_of_ble_eq_true rfl), (Nat.le_of_ble_eq_true rfl)⟩ rfl rfl (rfl) rfl rfl hl.1 (Nat.le_of_ble_eq_true rfl) dX5_buyerOf_3 ⟨(Nat.le_of_ble_eq_true rfl), (Nat.le_of_ble_eq_true rfl)⟩ (fun r_71 u H locs hw hW => ?_)
  subst hw
  cases hq_72 : isIx (N 0 1) p0
  · refine lv_if_eq (tgt := 19) hx hb dX5_buyerOf_6 (by decide) (fun _ => ?_) (fun h => absurd (by decide) h)
    refine lv_iconst (v := 1) hx hb dX5_buyerOf_19 (by decide) ?_
    refine lv_goto (tgt := 24) hx hb dX5_buyerOf_20 (by decide) ?_
    refine k_callVi (as := [.int 1]) (rest := []) (b := (β 0)) (ci := 7) (q0 := 2) F hW (met_X5_goesOn l D cA β c0 c1 wr th N R Fr inc 1) rfl ML_X5_93 IM_X5_goesOn SE_X5_goesOn IN_X5 CO_X5_goesOn hdV_X5_goesOn rfl rfl ⟨(Nat.le_of_ble_eq_true rfl), (Nat.le_of_ble_eq_true rfl)⟩ rfl rfl (rfl) rfl rfl hl.1 (Nat.le_of_ble_eq_true rfl) dX5_buyerOf_24 ⟨(Nat.le_of_ble_eq_true rfl), (Nat.le_of_ble_eq_true rfl)⟩ (fun r_73 u H locs hw hW => ?_)
    subst hw
    refine lv_if_eq (tgt := 39) hx hb dX5_buyerOf_27 (by decide) (fun _ => ?_) (fun h => absurd (by decide) h)
    refine lv_iconst (v := 0) hx hb dX5_buyerOf_39 (by decide) ?_
    have hop : op_buyerOf (N, R, Fr, inc) p0 = (1, 0, (N, R, Fr, inc)) := by simp [op_buyerOf, hq_72]
    exact k_iret () F (hW.eq (by rw [hop]; rfl)) (by rw [hop]) dX5_buyerOf_40 (Nat.le_of_ble_eq_true rfl) (Nat.le_of_ble_eq_true rfl)
  · refine lv_if_eq (tgt := 19) hx hb dX5_buyerOf_6 (by decide) (fun h => absurd h (by decide)) (fun _ => ?_)
    refine lv_aload_n hx hb dX5_buyerOf_9 rfl (lv_at hl 0 rfl) ?_
    refine k_get (v := .ref (β 10)) F hW inX5 rfl 2 rfl rfl 14 (by decide) FL_X5_40 rfl rfl dX5_buyerOf_10 ?_
    refine lv_iload_n hx hb dX5_buyerOf_13 rfl (lv_at hl 1 rfl) ?_
    refine k_iald (v := R 11 (ix p0) 0) F hW 12 rfl (in1 hq_72 hN (by decide)) (rfl) dX5_buyerOf_14 ?_
    refine lv_iconst (v := (-1)) hx hb dX5_buyerOf_15 (by decide) ?_
    refine lv_icmp_ne (tgt := 23) hx hb dX5_buyerOf_16 (by decide) (fun h_n => ?_) (fun h_n => ?_)
    · refine lv_iconst (v := 0) hx hb dX5_buyerOf_23 (by decide) ?_
      refine k_callVi (as := [.int 0]) (rest := []) (b := (β 0)) (ci := 7) (q0 := 2) F hW (met_X5_goesOn l D cA β c0 c1 wr th N R Fr inc 0) rfl ML_X5_93 IM_X5_goesOn SE_X5_goesOn IN_X5 CO_X5_goesOn hdV_X5_goesOn rfl rfl ⟨(Nat.le_of_ble_eq_true rfl), (Nat.le_of_ble_eq_true rfl)⟩ rfl rfl (rfl) rfl rfl hl.1 (Nat.le_of_ble_eq_true rfl) dX5_buyerOf_24 ⟨(Nat.le_of_ble_eq_true rfl), (Nat.le_of_ble_eq_true rfl)⟩ (fun r_74 u H locs hw hW => ?_)
      subst hw
      refine lv_if_eq (tgt := 39) hx hb dX5_buyerOf_27 (by decide) (fun h => absurd h (by decide)) (fun _ => ?_)
      refine lv_aload_n hx hb dX5_buyerOf_30 rfl (lv_at hl 0 rfl) ?_
      refine k_get (v := .ref (β 10)) F hW inX5 rfl 2 rfl rfl 14 (by decide) FL_X5_40 rfl rfl dX5_buyerOf_31 ?_
      refine lv_iload_n hx hb dX5_buyerOf_34 rfl (lv_at hl 1 rfl) ?_
      refine k_iald (v := R 11 (ix p0) 0) F hW 12 rfl (in1 hq_72 hN (by decide)) (rfl) dX5_buyerOf_35 ?_
      refine lv_goto (tgt := 40) hx hb dX5_buyerOf_36 (by decide) ?_
      have hop : op_buyerOf (N, R, Fr, inc) p0 = (0, (R 11 (ix p0) 0), (N, R, Fr, inc)) := by simp [op_buyerOf, hq_72, h_n]
      exact k_iret () F (hW.eq (by rw [hop]; rfl)) (by rw [hop]) dX5_buyerOf_40 (Nat.le_of_ble_eq_true rfl) (Nat.le_of_ble_eq_true rfl)
    · refine lv_iconst (v := 1) hx hb dX5_buyerOf_19 (by decide) ?_
      refine lv_goto (tgt := 24) hx hb dX5_buyerOf_20 (by decide) ?_
      refine k_callVi (as := [.int 1]) (rest := []) (b := (β 0)) (ci := 7) (q0 := 2) F hW (met_X5_goesOn l D cA β c0 c1 wr th N R Fr inc 1) rfl ML_X5_93 IM_X5_goesOn SE_X5_goesOn IN_X5 CO_X5_goesOn hdV_X5_goesOn rfl rfl ⟨(Nat.le_of_ble_eq_true rfl), (Nat.le_of_ble_eq_true rfl)⟩ rfl rfl (rfl) rfl rfl hl.1 (Nat.le_of_ble_eq_true rfl) dX5_buyerOf_24 ⟨(Nat.le_of_ble_eq_true rfl), (Nat.le_of_ble_eq_true rfl)⟩ (fun r_75 u H locs hw hW => ?_)
      subst hw
      refine lv_if_eq (tgt := 39) hx hb dX5_buyerOf_27 (by decide) (fun _ => ?_) (fun h => absurd (by decide) h)
      refine lv_iconst (v := 0) hx hb dX5_buyerOf_39 (by decide) ?_
      have hop : op_buyerOf (N, R, Fr, inc) p0 = (1, 0, (N, R, Fr, inc)) := by simp [op_buyerOf, hq_72, h_n]
      exact k_iret () F (hW.eq (by rw [hop]; rfl)) (by rw [hop]) dX5_buyerOf_40 (Nat.le_of_ble_eq_true rfl) (Nat.le_of_ble_eq_true rfl)

set_option maxHeartbeats 4000000 in
set_option maxRecDepth 100000 in
theorem met_X5_addTruck (l : Launch) (D : va_G) (cA : Nat → ClassId) (β : Nat → Nat) (c0 c1 : Nat × va_E) (wr : va_W) (th : Int32) (N : Nat → Nat → Nat) (R : Nat → Nat → Nat → Int32) (Fr : Nat → UInt32) (inc : Int64) (p0 p1 p2 : Int32) (hN : N 0 3 ≤ 4) (hz2 : p2 = 0 ∨ p2 = 1) : MetI l yX5_addTruck (.code yX5_addTruck cX5_addTruck 5 (some .int) :: LW) ({ frames := 1, cells := 0, slots := 0, locals := 22 }) D cA (mWd cA β c0 c1 wr th (N, R, Fr, inc)) [.ref (β 0), .int p0, .int p1, .int p2] (fun r (_ : Unit) => r = (op_addTruck (N, R, Fr, inc) p0 p1 p2).2.1) (fun _ => mWd cA β c0 c1 wr (nI (op_addTruck (N, R, Fr, inc) p0 p1 p2).1) (op_addTruck (N, R, Fr, inc) p0 p1 p2).2.2) 0 0 := by
  refine k_bodyI (by decide) (Nat.le_of_ble_eq_true rfl) (fun p e s m args below meth c ls F hW hl => ?_)
  obtain ⟨hx, hb, hr, hml, hown, hts, hlocks, hname⟩ := id F
  have hl : lv_has ls 5 [(0, .ref (β 0)), (1, .int p0), (2, .int p1), (3, .int p2)] := hl
  refine lv_iload_n hx hb dX5_addTruck_0 rfl (lv_at hl 1 rfl) ?_
  refine lv_aload_n hx hb dX5_addTruck_1 rfl (lv_at hl 0 rfl) ?_
  refine k_get (v := .int (nI (N 0 5))) F hW inX5 rfl 2 rfl rfl 16 (by decide) FL_X5_135 rfl rfl dX5_addTruck_2 ?_
  refine lv_iconst (v := 1) hx hb dX5_addTruck_5 (by decide) ?_
  refine lv_iadd hx hb dX5_addTruck_6 ?_
  refine lv_sipush (v := 1000) hx hb dX5_addTruck_7 (by decide) ?_
  refine k_callSi (as := [.int p0, .int ((nI (N 0 5)) + 1), .int 1000]) (rest := []) F hW (met_X5_in l D cA _ p0 ((nI (N 0 5)) + 1) 1000) rfl ML_X5_80 ST_X5_in IN_X5 CO_X5_in hdS_X5_in rfl rfl ⟨(Nat.le_of_ble_eq_true rfl), (Nat.le_of_ble_eq_true rfl)⟩ rfl rfl hl.1 (Nat.le_of_ble_eq_true rfl) dX5_addTruck_10 ⟨(Nat.le_of_ble_eq_true rfl), (Nat.le_of_ble_eq_true rfl)⟩ (fun r_76 u H locs hw hW => ?_)
  subst hw
  cases hq_77 : wi p0 ((nI (N 0 5)) + 1) 1000
  · refine lv_if_eq (tgt := 28) hx hb dX5_addTruck_13 (by decide) (fun _ => ?_) (fun h => absurd (by decide) h)
    refine lv_iconst (v := 1) hx hb dX5_addTruck_28 (by decide) ?_
    refine lv_goto (tgt := 33) hx hb dX5_addTruck_29 (by decide) ?_
    refine lv_istore (lv' := [(4, .int 1), (0, .ref (β 0)), (1, .int p0), (2, .int p1), (3, .int p2)]) hx hb dX5_addTruck_33 hl (by decide) rfl (fun ls hl => ?_)
    refine lv_aload_n hx hb dX5_addTruck_35 rfl (lv_at hl 1 rfl) ?_
    refine lv_iload hx hb dX5_addTruck_36 (lv_at hl 0 rfl) ?_
    refine lv_if_eq (tgt := 45) hx hb dX5_addTruck_38 (by decide) (fun h => absurd h (by decide)) (fun _ => ?_)
    refine lv_iconst (v := 1) hx hb dX5_addTruck_41 (by decide) ?_
    refine lv_goto (tgt := 58) hx hb dX5_addTruck_42 (by decide) ?_
    refine k_callVi (as := [.int 1]) (rest := []) (b := (β 0)) (ci := 7) (q0 := 2) F hW (met_X5_goesOn l D cA β c0 c1 wr th N R Fr inc 1) rfl ML_X5_93 IM_X5_goesOn SE_X5_goesOn IN_X5 CO_X5_goesOn hdV_X5_goesOn rfl rfl ⟨(Nat.le_of_ble_eq_true rfl), (Nat.le_of_ble_eq_true rfl)⟩ rfl rfl (rfl) rfl rfl hl.1 (Nat.le_of_ble_eq_true rfl) dX5_addTruck_58 ⟨(Nat.le_of_ble_eq_true rfl), (Nat.le_of_ble_eq_true rfl)⟩ (fun r_78 u H locs hw hW => ?_)
    subst hw
    refine lv_if_ne (tgt := 66) hx hb dX5_addTruck_61 (by decide) (fun h => absurd (by decide) h) (fun _ => ?_)
    refine lv_iconst (v := 0) hx hb dX5_addTruck_64 (by decide) ?_
    have hop : op_addTruck (N, R, Fr, inc) p0 p1 p2 = (1, 0, (N, R, Fr, inc)) := by simp [op_addTruck, hq_77]
    exact k_iret () F (hW.eq (by rw [hop]; rfl)) (by rw [hop]) dX5_addTruck_65 (Nat.le_of_ble_eq_true rfl) (Nat.le_of_ble_eq_true rfl)
  · refine lv_if_eq (tgt := 28) hx hb dX5_addTruck_13 (by decide) (fun h => absurd h (by decide)) (fun _ => ?_)
    refine lv_iload_n hx hb dX5_addTruck_16 rfl (lv_at hl 2 rfl) ?_
    refine lv_bipush (v := 100) hx hb dX5_addTruck_17 (by decide) ?_
    refine lv_sipush (v := 9999) hx hb dX5_addTruck_19 (by decide) ?_
    refine k_callSi (as := [.int p1, .int 100, .int 9999]) (rest := []) F hW (met_X5_in l D cA _ p1 100 9999) rfl ML_X5_80 ST_X5_in IN_X5 CO_X5_in hdS_X5_in rfl rfl ⟨(Nat.le_of_ble_eq_true rfl), (Nat.le_of_ble_eq_true rfl)⟩ rfl rfl hl.1 (Nat.le_of_ble_eq_true rfl) dX5_addTruck_22 ⟨(Nat.le_of_ble_eq_true rfl), (Nat.le_of_ble_eq_true rfl)⟩ (fun r_79 u H locs hw hW => ?_)
    subst hw
    cases hq_80 : wi p1 100 9999
    · refine lv_if_ne (tgt := 32) hx hb dX5_addTruck_25 (by decide) (fun h => absurd (by decide) h) (fun _ => ?_)
      refine lv_iconst (v := 1) hx hb dX5_addTruck_28 (by decide) ?_
      refine lv_goto (tgt := 33) hx hb dX5_addTruck_29 (by decide) ?_
      refine lv_istore (lv' := [(4, .int 1), (0, .ref (β 0)), (1, .int p0), (2, .int p1), (3, .int p2)]) hx hb dX5_addTruck_33 hl (by decide) rfl (fun ls hl => ?_)
      refine lv_aload_n hx hb dX5_addTruck_35 rfl (lv_at hl 1 rfl) ?_
      refine lv_iload hx hb dX5_addTruck_36 (lv_at hl 0 rfl) ?_
      refine lv_if_eq (tgt := 45) hx hb dX5_addTruck_38 (by decide) (fun h => absurd h (by decide)) (fun _ => ?_)
      refine lv_iconst (v := 1) hx hb dX5_addTruck_41 (by decide) ?_
      refine lv_goto (tgt := 58) hx hb dX5_addTruck_42 (by decide) ?_
      refine k_callVi (as := [.int 1]) (rest := []) (b := (β 0)) (ci := 7) (q0 := 2) F hW (met_X5_goesOn l D cA β c0 c1 wr th N R Fr inc 1) rfl ML_X5_93 IM_X5_goesOn SE_X5_goesOn IN_X5 CO_X5_goesOn hdV_X5_goesOn rfl rfl ⟨(Nat.le_of_ble_eq_true rfl), (Nat.le_of_ble_eq_true rfl)⟩ rfl rfl (rfl) rfl rfl hl.1 (Nat.le_of_ble_eq_true rfl) dX5_addTruck_58 ⟨(Nat.le_of_ble_eq_true rfl), (Nat.le_of_ble_eq_true rfl)⟩ (fun r_81 u H locs hw hW => ?_)
      subst hw
      refine lv_if_ne (tgt := 66) hx hb dX5_addTruck_61 (by decide) (fun h => absurd (by decide) h) (fun _ => ?_)
      refine lv_iconst (v := 0) hx hb dX5_addTruck_64 (by decide) ?_
      have hop : op_addTruck (N, R, Fr, inc) p0 p1 p2 = (1, 0, (N, R, Fr, inc)) := by simp [op_addTruck, hq_77, hq_80]
      exact k_iret () F (hW.eq (by rw [hop]; rfl)) (by rw [hop]) dX5_addTruck_65 (Nat.le_of_ble_eq_true rfl) (Nat.le_of_ble_eq_true rfl)
    · refine lv_if_ne (tgt := 32) hx hb dX5_addTruck_25 (by decide) (fun _ => ?_) (fun h => absurd h (by decide))
      refine lv_iconst (v := 0) hx hb dX5_addTruck_32 (by decide) ?_
      refine lv_istore (lv' := [(4, .int 0), (0, .ref (β 0)), (1, .int p0), (2, .int p1), (3, .int p2)]) hx hb dX5_addTruck_33 hl (by decide) rfl (fun ls hl => ?_)
      refine lv_aload_n hx hb dX5_addTruck_35 rfl (lv_at hl 1 rfl) ?_
      refine lv_iload hx hb dX5_addTruck_36 (lv_at hl 0 rfl) ?_
      refine lv_if_eq (tgt := 45) hx hb dX5_addTruck_38 (by decide) (fun _ => ?_) (fun h => absurd (by decide) h)
      refine lv_aload_n hx hb dX5_addTruck_45 rfl (lv_at hl 1 rfl) ?_
      refine k_get (v := .int (nI (N 0 3))) F hW inX5 rfl 2 rfl rfl 23 (by decide) FL_X5_90 rfl rfl dX5_addTruck_46 ?_
      refine lv_iconst (v := 4) hx hb dX5_addTruck_49 (by decide) ?_
      refine lv_icmp_ne (tgt := 57) hx hb dX5_addTruck_50 (by decide) (fun h_n => ?_) (fun h_n => ?_)
      · have h_n : ¬ N 0 3 = 4 := fun q => h_n (by rw [q]; rfl)
        refine lv_iconst (v := 0) hx hb dX5_addTruck_57 (by decide) ?_
        refine k_callVi (as := [.int 0]) (rest := []) (b := (β 0)) (ci := 7) (q0 := 2) F hW (met_X5_goesOn l D cA β c0 c1 wr th N R Fr inc 0) rfl ML_X5_93 IM_X5_goesOn SE_X5_goesOn IN_X5 CO_X5_goesOn hdV_X5_goesOn rfl rfl ⟨(Nat.le_of_ble_eq_true rfl), (Nat.le_of_ble_eq_true rfl)⟩ rfl rfl (rfl) rfl rfl hl.1 (Nat.le_of_ble_eq_true rfl) dX5_addTruck_58 ⟨(Nat.le_of_ble_eq_true rfl), (Nat.le_of_ble_eq_true rfl)⟩ (fun r_82 u H locs hw hW => ?_)
        subst hw
        refine lv_if_ne (tgt := 66) hx hb dX5_addTruck_61 (by decide) (fun _ => ?_) (fun h => absurd h (by decide))
        refine lv_aload_n hx hb dX5_addTruck_66 rfl (lv_at hl 1 rfl) ?_
        refine k_get (v := .ref (β 14)) F hW inX5 rfl 2 rfl rfl 24 (by decide) FL_X5_59 rfl rfl dX5_addTruck_67 ?_
        refine lv_aload_n hx hb dX5_addTruck_70 rfl (lv_at hl 1 rfl) ?_
        refine k_get (v := .int (nI (N 0 3))) F hW inX5 rfl 2 rfl rfl 23 (by decide) FL_X5_90 rfl rfl dX5_addTruck_71 ?_
        refine lv_iload_n hx hb dX5_addTruck_74 rfl (lv_at hl 2 rfl) ?_
        have hlt : N 0 3 < 4 := by omega
        refine k_iast F hW 16 rfl (vp_in_nI hlt (by decide)) (mWd cA β c0 c1 wr 0 (N, up3 R 15 (N 0 3) 0 p0, Fr, inc)) (by rw [nI_clamp (by omega), u1 R 15]; rfl) dX5_addTruck_75 (fun H locs hW => ?_)
        refine lv_aload_n hx hb dX5_addTruck_76 rfl (lv_at hl 1 rfl) ?_
        refine k_get (v := .ref (β 15)) F hW inX5 rfl 2 rfl rfl 25 (by decide) FL_X5_62 rfl rfl dX5_addTruck_77 ?_
        refine lv_aload_n hx hb dX5_addTruck_80 rfl (lv_at hl 1 rfl) ?_
        refine k_get (v := .int (nI (N 0 3))) F hW inX5 rfl 2 rfl rfl 23 (by decide) FL_X5_90 rfl rfl dX5_addTruck_81 ?_
        refine lv_iload_n hx hb dX5_addTruck_84 rfl (lv_at hl 3 rfl) ?_
        refine k_iast F hW 17 rfl (vp_in_nI hlt (by decide)) (mWd cA β c0 c1 wr 0 (N, up3 (up3 R 15 (N 0 3) 0 p0) 17 (N 0 3) 0 p1, Fr, inc)) (by rw [nI_clamp (by omega), u1 (up3 R 15 (N 0 3) 0 p0) 17]; rfl) dX5_addTruck_85 (fun H locs hW => ?_)
        refine lv_aload_n hx hb dX5_addTruck_86 rfl (lv_at hl 1 rfl) ?_
        refine k_get (v := .ref (β 16)) F hW inX5 rfl 2 rfl rfl 26 (by decide) FL_X5_65 rfl rfl dX5_addTruck_87 ?_
        refine lv_aload_n hx hb dX5_addTruck_90 rfl (lv_at hl 1 rfl) ?_
        refine k_get (v := .int (nI (N 0 3))) F hW inX5 rfl 2 rfl rfl 23 (by decide) FL_X5_90 rfl rfl dX5_addTruck_91 ?_
        refine lv_iload_n hx hb dX5_addTruck_94 rfl (lv_at hl 4 rfl) ?_
        refine k_zast F hW 18 rfl (vp_in_nI hlt (by decide)) (z01 hz2) (mWd cA β c0 c1 wr 0 (N, up3 (up3 (up3 R 15 (N 0 3) 0 p0) 17 (N 0 3) 0 p1) 16 (N 0 3) 0 p2, Fr, inc)) (by rw [nI_clamp (by omega), u1 (up3 (up3 R 15 (N 0 3) 0 p0) 17 (N 0 3) 0 p1) 16]; rfl) dX5_addTruck_95 (fun H locs hW => ?_)
        refine lv_aload_n hx hb dX5_addTruck_96 rfl (lv_at hl 1 rfl) ?_
        refine lv_dup hx hb dX5_addTruck_97 rfl ?_
        refine k_get (v := .int (nI (N 0 3))) F hW inX5 rfl 2 rfl rfl 23 (by decide) FL_X5_90 rfl rfl dX5_addTruck_98 ?_
        refine lv_iconst (v := 1) hx hb dX5_addTruck_101 (by decide) ?_
        refine lv_iadd hx hb dX5_addTruck_102 ?_
        refine lv_topi (fun x_83 ex_83 => ?_)
        obtain rfl : x_83 = nI (N 0 3 + 1) := ex_83.trans (nI_1 _)
        refine k_put F hW inX5 tyX5_ok nmX5 rfl 2 rfl rfl 23 (by decide) FL_X5_90 rfl rfl rfl rfl rfl (Nat.le_of_ble_eq_true rfl) (mWd cA β c0 c1 wr 0 (up2 N 0 3 (N 0 3 + 1), up3 (up3 (up3 R 15 (N 0 3) 0 p0) 17 (N 0 3) 0 p1) 16 (N 0 3) 0 p2, Fr, inc)) rfl dX5_addTruck_103 (fun H locs hW => ?_)
        refine lv_aload_n hx hb dX5_addTruck_106 rfl (lv_at hl 1 rfl) ?_
        refine k_get (v := .int (nI (N 0 3 + 1))) F hW inX5 rfl 2 rfl rfl 23 (by decide) FL_X5_90 rfl rfl dX5_addTruck_107 ?_
        refine lv_iconst (v := 1) hx hb dX5_addTruck_110 (by decide) ?_
        refine lv_isub hx hb dX5_addTruck_111 ?_
        refine lv_topi (fun x_84 ex_84 => ?_)
        obtain rfl : x_84 = nI (N 0 3) := ex_84.trans (nI_pred _)
        have hop : op_addTruck (N, R, Fr, inc) p0 p1 p2 = (0, nI (N 0 3), (up2 (up2 N 0 3 (N 0 3 + 1)) 2 3 (N 0 3 + 1), up3 (up3 (up3 R 15 (N 0 3) 0 p0) 17 (N 0 3) 0 p1) 16 (N 0 3) 0 p2, Fr, inc)) := by simp [op_addTruck, hq_77, hq_80, h_n]
        exact k_iret () F (hW.eq (by rw [hop]; rfl)) (by rw [hop]) dX5_addTruck_112 (Nat.le_of_ble_eq_true rfl) (Nat.le_of_ble_eq_true rfl)
      · have h_n : N 0 3 = 4 := (nI_eq (by omega) (by decide)).mp h_n
        refine lv_iconst (v := 2) hx hb dX5_addTruck_53 (by decide) ?_
        refine lv_goto (tgt := 58) hx hb dX5_addTruck_54 (by decide) ?_
        refine k_callVi (as := [.int 2]) (rest := []) (b := (β 0)) (ci := 7) (q0 := 2) F hW (met_X5_goesOn l D cA β c0 c1 wr th N R Fr inc 2) rfl ML_X5_93 IM_X5_goesOn SE_X5_goesOn IN_X5 CO_X5_goesOn hdV_X5_goesOn rfl rfl ⟨(Nat.le_of_ble_eq_true rfl), (Nat.le_of_ble_eq_true rfl)⟩ rfl rfl (rfl) rfl rfl hl.1 (Nat.le_of_ble_eq_true rfl) dX5_addTruck_58 ⟨(Nat.le_of_ble_eq_true rfl), (Nat.le_of_ble_eq_true rfl)⟩ (fun r_85 u H locs hw hW => ?_)
        subst hw
        refine lv_if_ne (tgt := 66) hx hb dX5_addTruck_61 (by decide) (fun h => absurd (by decide) h) (fun _ => ?_)
        refine lv_iconst (v := 0) hx hb dX5_addTruck_64 (by decide) ?_
        have hop : op_addTruck (N, R, Fr, inc) p0 p1 p2 = (2, 0, (N, R, Fr, inc)) := by simp [op_addTruck, hq_77, hq_80, h_n]
        exact k_iret () F (hW.eq (by rw [hop]; rfl)) (by rw [hop]) dX5_addTruck_65 (Nat.le_of_ble_eq_true rfl) (Nat.le_of_ble_eq_true rfl)
end
section
set_option maxHeartbeats 4000000 in
set_option maxRecDepth 100000 in
theorem met_X5_quotaAt (l : Launch) (D : va_G) (cA : Nat → ClassId) (β : Nat → Nat) (c0 c1 : Nat × va_E) (wr : va_W) (th : Int32) (N : Nat → Nat → Nat) (R : Nat → Nat → Nat → Int32) (Fr : Nat → UInt32) (inc : Int64) (p0 p1 p2 : Int32) (hN : N 0 0 ≤ 6) (hN4 : N 0 4 ≤ 19) : MetI l yX5_quotaAt (.code yX5_quotaAt cX5_quotaAt 5 (some .int) :: LW) ({ frames := 2, cells := 0, slots := 0, locals := 43 }) D cA (mWd cA β c0 c1 wr th (N, R, Fr, inc)) [.ref (β 0), .int p0, .int p1, .int p2] (fun r (_ : Unit) => r = (op_quotaAt (N, R, Fr, inc) p0 p1 p2).2.1) (fun _ => mWd cA β c0 c1 wr (nI (op_quotaAt (N, R, Fr, inc) p0 p1 p2).1) (op_quotaAt (N, R, Fr, inc) p0 p1 p2).2.2) 0 0 := by
  refine k_bodyI (by decide) (Nat.le_of_ble_eq_true rfl) (fun p e s m args below meth c ls F hW hl => ?_)
  obtain ⟨hx, hb, hr, hml, hown, hts, hlocks, hname⟩ := id F
  have hl : lv_has ls 5 [(0, .ref (β 0)), (1, .int p0), (2, .int p1), (3, .int p2)] := hl
  refine lv_aload_n hx hb dX5_quotaAt_0 rfl (lv_at hl 0 rfl) ?_
  refine lv_iload_n hx hb dX5_quotaAt_1 rfl (lv_at hl 1 rfl) ?_
  refine k_callVi (as := [.int p0]) (rest := []) (b := (β 0)) (ci := 7) (q0 := 2) F hW (met_X5_isBoat l D cA β c0 c1 wr th N R Fr inc p0) rfl ML_X5_100 IM_X5_isBoat SE_X5_isBoat IN_X5 CO_X5_isBoat hdV_X5_isBoat rfl rfl ⟨(Nat.le_of_ble_eq_true rfl), (Nat.le_of_ble_eq_true rfl)⟩ rfl rfl (rfl) rfl rfl hl.1 (Nat.le_of_ble_eq_true rfl) dX5_quotaAt_2 ⟨(Nat.le_of_ble_eq_true rfl), (Nat.le_of_ble_eq_true rfl)⟩ (fun r_86 u H locs hw hW => ?_)
  subst hw
  cases hq_87 : isIx (N 0 0) p0
  · refine lv_if_ne (tgt := 12) hx hb dX5_quotaAt_5 (by decide) (fun h => absurd (by decide) h) (fun _ => ?_)
    refine lv_iconst (v := 1) hx hb dX5_quotaAt_8 (by decide) ?_
    refine lv_goto (tgt := 42) hx hb dX5_quotaAt_9 (by decide) ?_
    refine lv_istore (lv' := [(4, .int 1), (0, .ref (β 0)), (1, .int p0), (2, .int p1), (3, .int p2)]) hx hb dX5_quotaAt_42 hl (by decide) rfl (fun ls hl => ?_)
    refine lv_aload_n hx hb dX5_quotaAt_44 rfl (lv_at hl 1 rfl) ?_
    refine lv_iload hx hb dX5_quotaAt_45 (lv_at hl 0 rfl) ?_
    refine k_callVi (as := [.int 1]) (rest := []) (b := (β 0)) (ci := 7) (q0 := 2) F hW (met_X5_goesOn l D cA β c0 c1 wr th N R Fr inc 1) rfl ML_X5_93 IM_X5_goesOn SE_X5_goesOn IN_X5 CO_X5_goesOn hdV_X5_goesOn rfl rfl ⟨(Nat.le_of_ble_eq_true rfl), (Nat.le_of_ble_eq_true rfl)⟩ rfl rfl (rfl) rfl rfl hl.1 (Nat.le_of_ble_eq_true rfl) dX5_quotaAt_47 ⟨(Nat.le_of_ble_eq_true rfl), (Nat.le_of_ble_eq_true rfl)⟩ (fun r_88 u H locs hw hW => ?_)
    subst hw
    refine lv_if_eq (tgt := 71) hx hb dX5_quotaAt_50 (by decide) (fun _ => ?_) (fun h => absurd (by decide) h)
    refine lv_iconst (v := 0) hx hb dX5_quotaAt_71 (by decide) ?_
    have hop : op_quotaAt (N, R, Fr, inc) p0 p1 p2 = (1, 0, (N, R, Fr, inc)) := by simp [op_quotaAt, hq_87]
    exact k_iret () F (hW.eq (by rw [hop]; rfl)) (by rw [hop]) dX5_quotaAt_72 (Nat.le_of_ble_eq_true rfl) (Nat.le_of_ble_eq_true rfl)
  · refine lv_if_ne (tgt := 12) hx hb dX5_quotaAt_5 (by decide) (fun _ => ?_) (fun h => absurd h (by decide))
    refine lv_iload_n hx hb dX5_quotaAt_12 rfl (lv_at hl 2 rfl) ?_
    refine k_callSi (as := [.int p1]) (rest := []) F hW (met_X5_isSpecies l D cA _ p1) rfl ML_X5_97 ST_X5_isSpecies IN_X5 CO_X5_isSpecies hdS_X5_isSpecies rfl rfl ⟨(Nat.le_of_ble_eq_true rfl), (Nat.le_of_ble_eq_true rfl)⟩ rfl rfl hl.1 (Nat.le_of_ble_eq_true rfl) dX5_quotaAt_13 ⟨(Nat.le_of_ble_eq_true rfl), (Nat.le_of_ble_eq_true rfl)⟩ (fun r_89 u H locs hw hW => ?_)
    subst hw
    cases hq_90 : wi p1 0 3
    · refine lv_if_ne (tgt := 23) hx hb dX5_quotaAt_16 (by decide) (fun h => absurd (by decide) h) (fun _ => ?_)
      refine lv_iconst (v := 2) hx hb dX5_quotaAt_19 (by decide) ?_
      refine lv_goto (tgt := 42) hx hb dX5_quotaAt_20 (by decide) ?_
      refine lv_istore (lv' := [(4, .int 2), (0, .ref (β 0)), (1, .int p0), (2, .int p1), (3, .int p2)]) hx hb dX5_quotaAt_42 hl (by decide) rfl (fun ls hl => ?_)
      refine lv_aload_n hx hb dX5_quotaAt_44 rfl (lv_at hl 1 rfl) ?_
      refine lv_iload hx hb dX5_quotaAt_45 (lv_at hl 0 rfl) ?_
      refine k_callVi (as := [.int 2]) (rest := []) (b := (β 0)) (ci := 7) (q0 := 2) F hW (met_X5_goesOn l D cA β c0 c1 wr th N R Fr inc 2) rfl ML_X5_93 IM_X5_goesOn SE_X5_goesOn IN_X5 CO_X5_goesOn hdV_X5_goesOn rfl rfl ⟨(Nat.le_of_ble_eq_true rfl), (Nat.le_of_ble_eq_true rfl)⟩ rfl rfl (rfl) rfl rfl hl.1 (Nat.le_of_ble_eq_true rfl) dX5_quotaAt_47 ⟨(Nat.le_of_ble_eq_true rfl), (Nat.le_of_ble_eq_true rfl)⟩ (fun r_91 u H locs hw hW => ?_)
      subst hw
      refine lv_if_eq (tgt := 71) hx hb dX5_quotaAt_50 (by decide) (fun _ => ?_) (fun h => absurd (by decide) h)
      refine lv_iconst (v := 0) hx hb dX5_quotaAt_71 (by decide) ?_
      have hop : op_quotaAt (N, R, Fr, inc) p0 p1 p2 = (2, 0, (N, R, Fr, inc)) := by simp [op_quotaAt, hq_87, hq_90]
      exact k_iret () F (hW.eq (by rw [hop]; rfl)) (by rw [hop]) dX5_quotaAt_72 (Nat.le_of_ble_eq_true rfl) (Nat.le_of_ble_eq_true rfl)
    · refine lv_if_ne (tgt := 23) hx hb dX5_quotaAt_16 (by decide) (fun _ => ?_) (fun h => absurd h (by decide))
      refine lv_iload_n hx hb dX5_quotaAt_23 rfl (lv_at hl 3 rfl) ?_
      refine lv_iconst (v := 0) hx hb dX5_quotaAt_24 (by decide) ?_
      refine lv_aload_n hx hb dX5_quotaAt_25 rfl (lv_at hl 0 rfl) ?_
      refine k_get (v := .int (nI (N 0 4))) F hW inX5 rfl 2 rfl rfl 4 (by decide) FL_X5_107 rfl rfl dX5_quotaAt_26 ?_
      refine lv_iconst (v := 1) hx hb dX5_quotaAt_29 (by decide) ?_
      refine lv_isub hx hb dX5_quotaAt_30 ?_
      refine k_callSi (as := [.int p2, .int 0, .int ((nI (N 0 4)) - 1)]) (rest := []) F hW (met_X5_in l D cA _ p2 0 ((nI (N 0 4)) - 1)) rfl ML_X5_80 ST_X5_in IN_X5 CO_X5_in hdS_X5_in rfl rfl ⟨(Nat.le_of_ble_eq_true rfl), (Nat.le_of_ble_eq_true rfl)⟩ rfl rfl hl.1 (Nat.le_of_ble_eq_true rfl) dX5_quotaAt_31 ⟨(Nat.le_of_ble_eq_true rfl), (Nat.le_of_ble_eq_true rfl)⟩ (fun r_92 u H locs hw hW => ?_)
      subst hw
      rw [show wi p2 0 ((nI (N 0 4)) - 1) = isIx (N 0 4) p2 from rfl]
      cases hq_93 : isIx (N 0 4) p2
      · refine lv_if_ne (tgt := 41) hx hb dX5_quotaAt_34 (by decide) (fun h => absurd (by decide) h) (fun _ => ?_)
        refine lv_iconst (v := 3) hx hb dX5_quotaAt_37 (by decide) ?_
        refine lv_goto (tgt := 42) hx hb dX5_quotaAt_38 (by decide) ?_
        refine lv_istore (lv' := [(4, .int 3), (0, .ref (β 0)), (1, .int p0), (2, .int p1), (3, .int p2)]) hx hb dX5_quotaAt_42 hl (by decide) rfl (fun ls hl => ?_)
        refine lv_aload_n hx hb dX5_quotaAt_44 rfl (lv_at hl 1 rfl) ?_
        refine lv_iload hx hb dX5_quotaAt_45 (lv_at hl 0 rfl) ?_
        refine k_callVi (as := [.int 3]) (rest := []) (b := (β 0)) (ci := 7) (q0 := 2) F hW (met_X5_goesOn l D cA β c0 c1 wr th N R Fr inc 3) rfl ML_X5_93 IM_X5_goesOn SE_X5_goesOn IN_X5 CO_X5_goesOn hdV_X5_goesOn rfl rfl ⟨(Nat.le_of_ble_eq_true rfl), (Nat.le_of_ble_eq_true rfl)⟩ rfl rfl (rfl) rfl rfl hl.1 (Nat.le_of_ble_eq_true rfl) dX5_quotaAt_47 ⟨(Nat.le_of_ble_eq_true rfl), (Nat.le_of_ble_eq_true rfl)⟩ (fun r_94 u H locs hw hW => ?_)
        subst hw
        refine lv_if_eq (tgt := 71) hx hb dX5_quotaAt_50 (by decide) (fun _ => ?_) (fun h => absurd (by decide) h)
        refine lv_iconst (v := 0) hx hb dX5_quotaAt_71 (by decide) ?_
        have hop : op_quotaAt (N, R, Fr, inc) p0 p1 p2 = (3, 0, (N, R, Fr, inc)) := by simp [op_quotaAt, hq_87, hq_90, hq_93]
        exact k_iret () F (hW.eq (by rw [hop]; rfl)) (by rw [hop]) dX5_quotaAt_72 (Nat.le_of_ble_eq_true rfl) (Nat.le_of_ble_eq_true rfl)
      · refine lv_if_ne (tgt := 41) hx hb dX5_quotaAt_34 (by decide) (fun _ => ?_) (fun h => absurd h (by decide))
        refine lv_iconst (v := 0) hx hb dX5_quotaAt_41 (by decide) ?_
        refine lv_istore (lv' := [(4, .int 0), (0, .ref (β 0)), (1, .int p0), (2, .int p1), (3, .int p2)]) hx hb dX5_quotaAt_42 hl (by decide) rfl (fun ls hl => ?_)
        refine lv_aload_n hx hb dX5_quotaAt_44 rfl (lv_at hl 1 rfl) ?_
        refine lv_iload hx hb dX5_quotaAt_45 (lv_at hl 0 rfl) ?_
        refine k_callVi (as := [.int 0]) (rest := []) (b := (β 0)) (ci := 7) (q0 := 2) F hW (met_X5_goesOn l D cA β c0 c1 wr th N R Fr inc 0) rfl ML_X5_93 IM_X5_goesOn SE_X5_goesOn IN_X5 CO_X5_goesOn hdV_X5_goesOn rfl rfl ⟨(Nat.le_of_ble_eq_true rfl), (Nat.le_of_ble_eq_true rfl)⟩ rfl rfl (rfl) rfl rfl hl.1 (Nat.le_of_ble_eq_true rfl) dX5_quotaAt_47 ⟨(Nat.le_of_ble_eq_true rfl), (Nat.le_of_ble_eq_true rfl)⟩ (fun r_95 u H locs hw hW => ?_)
        subst hw
        refine lv_if_eq (tgt := 71) hx hb dX5_quotaAt_50 (by decide) (fun h => absurd h (by decide)) (fun _ => ?_)
        refine lv_aload_n hx hb dX5_quotaAt_53 rfl (lv_at hl 1 rfl) ?_
        refine k_get (v := .ref (β 2)) F hW inX5 rfl 2 rfl rfl 3 (by decide) FL_X5_13 rfl rfl dX5_quotaAt_54 ?_
        refine lv_bipush (v := 24) hx hb dX5_quotaAt_57 (by decide) ?_
        refine lv_iload_n hx hb dX5_quotaAt_59 rfl (lv_at hl 4 rfl) ?_
        refine lv_imul hx hb dX5_quotaAt_60 ?_
        refine lv_iconst (v := 4) hx hb dX5_quotaAt_61 (by decide) ?_
        refine lv_iload_n hx hb dX5_quotaAt_62 rfl (lv_at hl 2 rfl) ?_
        refine lv_imul hx hb dX5_quotaAt_63 ?_
        refine lv_iadd hx hb dX5_quotaAt_64 ?_
        refine lv_iload_n hx hb dX5_quotaAt_65 rfl (lv_at hl 3 rfl) ?_
        refine lv_iadd hx hb dX5_quotaAt_66 ?_
        refine k_iald (v := R 2 (ix p2) (4 * ix p0 + ix p1)) F hW 4 rfl (in24 hq_93 hN4 hq_87 hN hq_90) (v24 (f := R 2) hq_93 hN4 hq_87 hN hq_90) dX5_quotaAt_67 ?_
        refine lv_goto (tgt := 72) hx hb dX5_quotaAt_68 (by decide) ?_
        have hop : op_quotaAt (N, R, Fr, inc) p0 p1 p2 = (0, (R 2 (ix p2) (4 * ix p0 + ix p1)), (N, R, Fr, inc)) := by simp [op_quotaAt, hq_87, hq_90, hq_93]
        exact k_iret () F (hW.eq (by rw [hop]; rfl)) (by rw [hop]) dX5_quotaAt_72 (Nat.le_of_ble_eq_true rfl) (Nat.le_of_ble_eq_true rfl)

set_option maxHeartbeats 4000000 in
set_option maxRecDepth 100000 in
theorem met_X5_ice (l : Launch) (D : va_G) (cA : Nat → ClassId) (β : Nat → Nat) (c0 c1 : Nat × va_E) (wr : va_W) (th : Int32) (N : Nat → Nat → Nat) (R : Nat → Nat → Nat → Int32) (Fr : Nat → UInt32) (inc : Int64) (p0 p1 : Int32) (hN : N 0 1 ≤ 20) : MetI l yX5_ice (.code yX5_ice cX5_ice 4 (some .int) :: LW) ({ frames := 2, cells := 0, slots := 0, locals := 43 }) D cA (mWd cA β c0 c1 wr th (N, R, Fr, inc)) [.ref (β 0), .int p0, .int p1] (fun r (_ : Unit) => r = (op_ice (N, R, Fr, inc) p0 p1).2.1) (fun _ => mWd cA β c0 c1 wr (nI (op_ice (N, R, Fr, inc) p0 p1).1) (op_ice (N, R, Fr, inc) p0 p1).2.2) 0 0 := by
  refine k_bodyI (by decide) (Nat.le_of_ble_eq_true rfl) (fun p e s m args below meth c ls F hW hl => ?_)
  obtain ⟨hx, hb, hr, hml, hown, hts, hlocks, hname⟩ := id F
  have hl : lv_has ls 4 [(0, .ref (β 0)), (1, .int p0), (2, .int p1)] := hl
  refine lv_aload_n hx hb dX5_ice_0 rfl (lv_at hl 0 rfl) ?_
  refine lv_iload_n hx hb dX5_ice_1 rfl (lv_at hl 1 rfl) ?_
  refine k_callVi (as := [.int p0]) (rest := []) (b := (β 0)) (ci := 7) (q0 := 2) F hW (met_X5_isLot l D cA β c0 c1 wr th N R Fr inc p0) rfl ML_X5_110 IM_X5_isLot SE_X5_isLot IN_X5 CO_X5_isLot hdV_X5_isLot rfl rfl ⟨(Nat.le_of_ble_eq_true rfl), (Nat.le_of_ble_eq_true rfl)⟩ rfl rfl (rfl) rfl rfl hl.1 (Nat.le_of_ble_eq_true rfl) dX5_ice_2 ⟨(Nat.le_of_ble_eq_true rfl), (Nat.le_of_ble_eq_true rfl)⟩ (fun r_96 u H locs hw hW => ?_)
  subst hw
  cases hq_97 : isIx (N 0 1) p0
  · refine lv_if_ne (tgt := 12) hx hb dX5_ice_5 (by decide) (fun h => absurd (by decide) h) (fun _ => ?_)
    refine lv_iconst (v := 1) hx hb dX5_ice_8 (by decide) ?_
    refine lv_goto (tgt := 54) hx hb dX5_ice_9 (by decide) ?_
    refine lv_istore_n (lv' := [(3, .int 1), (0, .ref (β 0)), (1, .int p0), (2, .int p1)]) hx hb dX5_ice_54 rfl hl (by decide) rfl (fun ls hl => ?_)
    refine lv_aload_n hx hb dX5_ice_55 rfl (lv_at hl 1 rfl) ?_
    refine lv_iload_n hx hb dX5_ice_56 rfl (lv_at hl 0 rfl) ?_
    refine k_callVi (as := [.int 1]) (rest := []) (b := (β 0)) (ci := 7) (q0 := 2) F hW (met_X5_goesOn l D cA β c0 c1 wr th N R Fr inc 1) rfl ML_X5_93 IM_X5_goesOn SE_X5_goesOn IN_X5 CO_X5_goesOn hdV_X5_goesOn rfl rfl ⟨(Nat.le_of_ble_eq_true rfl), (Nat.le_of_ble_eq_true rfl)⟩ rfl rfl (rfl) rfl rfl hl.1 (Nat.le_of_ble_eq_true rfl) dX5_ice_57 ⟨(Nat.le_of_ble_eq_true rfl), (Nat.le_of_ble_eq_true rfl)⟩ (fun r_98 u H locs hw hW => ?_)
    subst hw
    refine lv_if_ne (tgt := 65) hx hb dX5_ice_60 (by decide) (fun h => absurd (by decide) h) (fun _ => ?_)
    refine lv_iconst (v := 0) hx hb dX5_ice_63 (by decide) ?_
    have hop : op_ice (N, R, Fr, inc) p0 p1 = (1, 0, (N, R, Fr, inc)) := by simp [op_ice, hq_97]
    exact k_iret () F (hW.eq (by rw [hop]; rfl)) (by rw [hop]) dX5_ice_64 (Nat.le_of_ble_eq_true rfl) (Nat.le_of_ble_eq_true rfl)
  · refine lv_if_ne (tgt := 12) hx hb dX5_ice_5 (by decide) (fun _ => ?_) (fun h => absurd h (by decide))
    refine lv_iload_n hx hb dX5_ice_12 rfl (lv_at hl 2 rfl) ?_
    refine lv_iconst (v := 1) hx hb dX5_ice_13 (by decide) ?_
    refine lv_sipush (v := 999) hx hb dX5_ice_14 (by decide) ?_
    refine k_callSi (as := [.int p1, .int 1, .int 999]) (rest := []) F hW (met_X5_in l D cA _ p1 1 999) rfl ML_X5_80 ST_X5_in IN_X5 CO_X5_in hdS_X5_in rfl rfl ⟨(Nat.le_of_ble_eq_true rfl), (Nat.le_of_ble_eq_true rfl)⟩ rfl rfl hl.1 (Nat.le_of_ble_eq_true rfl) dX5_ice_17 ⟨(Nat.le_of_ble_eq_true rfl), (Nat.le_of_ble_eq_true rfl)⟩ (fun r_99 u H locs hw hW => ?_)
    subst hw
    cases hq_100 : wi p1 1 999
    · refine lv_if_ne (tgt := 27) hx hb dX5_ice_20 (by decide) (fun h => absurd (by decide) h) (fun _ => ?_)
      refine lv_iconst (v := 2) hx hb dX5_ice_23 (by decide) ?_
      refine lv_goto (tgt := 54) hx hb dX5_ice_24 (by decide) ?_
      refine lv_istore_n (lv' := [(3, .int 2), (0, .ref (β 0)), (1, .int p0), (2, .int p1)]) hx hb dX5_ice_54 rfl hl (by decide) rfl (fun ls hl => ?_)
      refine lv_aload_n hx hb dX5_ice_55 rfl (lv_at hl 1 rfl) ?_
      refine lv_iload_n hx hb dX5_ice_56 rfl (lv_at hl 0 rfl) ?_
      refine k_callVi (as := [.int 2]) (rest := []) (b := (β 0)) (ci := 7) (q0 := 2) F hW (met_X5_goesOn l D cA β c0 c1 wr th N R Fr inc 2) rfl ML_X5_93 IM_X5_goesOn SE_X5_goesOn IN_X5 CO_X5_goesOn hdV_X5_goesOn rfl rfl ⟨(Nat.le_of_ble_eq_true rfl), (Nat.le_of_ble_eq_true rfl)⟩ rfl rfl (rfl) rfl rfl hl.1 (Nat.le_of_ble_eq_true rfl) dX5_ice_57 ⟨(Nat.le_of_ble_eq_true rfl), (Nat.le_of_ble_eq_true rfl)⟩ (fun r_101 u H locs hw hW => ?_)
      subst hw
      refine lv_if_ne (tgt := 65) hx hb dX5_ice_60 (by decide) (fun h => absurd (by decide) h) (fun _ => ?_)
      refine lv_iconst (v := 0) hx hb dX5_ice_63 (by decide) ?_
      have hop : op_ice (N, R, Fr, inc) p0 p1 = (2, 0, (N, R, Fr, inc)) := by simp [op_ice, hq_97, hq_100]
      exact k_iret () F (hW.eq (by rw [hop]; rfl)) (by rw [hop]) dX5_ice_64 (Nat.le_of_ble_eq_true rfl) (Nat.le_of_ble_eq_true rfl)
    · refine lv_if_ne (tgt := 27) hx hb dX5_ice_20 (by decide) (fun _ => ?_) (fun h => absurd h (by decide))
      refine lv_aload_n hx hb dX5_ice_27 rfl (lv_at hl 0 rfl) ?_
      refine k_get (v := .ref (β 7)) F hW inX5 rfl 2 rfl rfl 11 (by decide) FL_X5_29 rfl rfl dX5_ice_28 ?_
      refine lv_iload_n hx hb dX5_ice_31 rfl (lv_at hl 1 rfl) ?_
      refine k_cald (v := R 9 (ix p0) 0) F hW 9 rfl (in1 hq_97 hN (by decide)) (rfl) dX5_ice_32 ?_
      refine lv_bipush (v := 100) hx hb dX5_ice_33 (by decide) ?_
      refine lv_icmp_eq (tgt := 49) hx hb dX5_ice_35 (by decide) (fun h_a => ?_) (fun h_a => ?_)
      · refine lv_iconst (v := 3) hx hb dX5_ice_49 (by decide) ?_
        refine lv_goto (tgt := 54) hx hb dX5_ice_50 (by decide) ?_
        refine lv_istore_n (lv' := [(3, .int 3), (0, .ref (β 0)), (1, .int p0), (2, .int p1)]) hx hb dX5_ice_54 rfl hl (by decide) rfl (fun ls hl => ?_)
        refine lv_aload_n hx hb dX5_ice_55 rfl (lv_at hl 1 rfl) ?_
        refine lv_iload_n hx hb dX5_ice_56 rfl (lv_at hl 0 rfl) ?_
        refine k_callVi (as := [.int 3]) (rest := []) (b := (β 0)) (ci := 7) (q0 := 2) F hW (met_X5_goesOn l D cA β c0 c1 wr th N R Fr inc 3) rfl ML_X5_93 IM_X5_goesOn SE_X5_goesOn IN_X5 CO_X5_goesOn hdV_X5_goesOn rfl rfl ⟨(Nat.le_of_ble_eq_true rfl), (Nat.le_of_ble_eq_true rfl)⟩ rfl rfl (rfl) rfl rfl hl.1 (Nat.le_of_ble_eq_true rfl) dX5_ice_57 ⟨(Nat.le_of_ble_eq_true rfl), (Nat.le_of_ble_eq_true rfl)⟩ (fun r_102 u H locs hw hW => ?_)
        subst hw
        refine lv_if_ne (tgt := 65) hx hb dX5_ice_60 (by decide) (fun h => absurd (by decide) h) (fun _ => ?_)
        refine lv_iconst (v := 0) hx hb dX5_ice_63 (by decide) ?_
        have hop : op_ice (N, R, Fr, inc) p0 p1 = (3, 0, (N, R, Fr, inc)) := by simp [op_ice, hq_97, hq_100, h_a]
        exact k_iret () F (hW.eq (by rw [hop]; rfl)) (by rw [hop]) dX5_ice_64 (Nat.le_of_ble_eq_true rfl) (Nat.le_of_ble_eq_true rfl)
      · refine lv_aload_n hx hb dX5_ice_38 rfl (lv_at hl 0 rfl) ?_
        refine k_get (v := .ref (β 7)) F hW inX5 rfl 2 rfl rfl 11 (by decide) FL_X5_29 rfl rfl dX5_ice_39 ?_
        refine lv_iload_n hx hb dX5_ice_42 rfl (lv_at hl 1 rfl) ?_
        refine k_cald (v := R 9 (ix p0) 0) F hW 9 rfl (in1 hq_97 hN (by decide)) (rfl) dX5_ice_43 ?_
        refine lv_bipush (v := 120) hx hb dX5_ice_44 (by decide) ?_
        refine lv_icmp_ne (tgt := 53) hx hb dX5_ice_46 (by decide) (fun h_b => ?_) (fun h_b => ?_)
        · refine lv_iconst (v := 0) hx hb dX5_ice_53 (by decide) ?_
          refine lv_istore_n (lv' := [(3, .int 0), (0, .ref (β 0)), (1, .int p0), (2, .int p1)]) hx hb dX5_ice_54 rfl hl (by decide) rfl (fun ls hl => ?_)
          refine lv_aload_n hx hb dX5_ice_55 rfl (lv_at hl 1 rfl) ?_
          refine lv_iload_n hx hb dX5_ice_56 rfl (lv_at hl 0 rfl) ?_
          refine k_callVi (as := [.int 0]) (rest := []) (b := (β 0)) (ci := 7) (q0 := 2) F hW (met_X5_goesOn l D cA β c0 c1 wr th N R Fr inc 0) rfl ML_X5_93 IM_X5_goesOn SE_X5_goesOn IN_X5 CO_X5_goesOn hdV_X5_goesOn rfl rfl ⟨(Nat.le_of_ble_eq_true rfl), (Nat.le_of_ble_eq_true rfl)⟩ rfl rfl (rfl) rfl rfl hl.1 (Nat.le_of_ble_eq_true rfl) dX5_ice_57 ⟨(Nat.le_of_ble_eq_true rfl), (Nat.le_of_ble_eq_true rfl)⟩ (fun r_103 u H locs hw hW => ?_)
          subst hw
          refine lv_if_ne (tgt := 65) hx hb dX5_ice_60 (by decide) (fun _ => ?_) (fun h => absurd h (by decide))
          refine lv_aload_n hx hb dX5_ice_65 rfl (lv_at hl 1 rfl) ?_
          refine k_get (v := .ref (β 9)) F hW inX5 rfl 2 rfl rfl 13 (by decide) FL_X5_37 rfl rfl dX5_ice_66 ?_
          refine lv_iload_n hx hb dX5_ice_69 rfl (lv_at hl 2 rfl) ?_
          refine lv_dup2_11 hx hb dX5_ice_70 rfl rfl ?_
          refine k_iald (v := R 10 (ix p0) 0) F hW 11 rfl (in1 hq_97 hN (by decide)) (rfl) dX5_ice_71 ?_
          refine lv_iload_n hx hb dX5_ice_72 rfl (lv_at hl 3 rfl) ?_
          refine lv_iadd hx hb dX5_ice_73 ?_
          refine k_iast F hW 11 rfl (in1 hq_97 hN (by decide)) (mWd cA β c0 c1 wr 0 (N, up3 R 10 (ix p0) 0 (R 10 (ix p0) 0 + p1), Fr, inc)) (by rw [u1' R 10 (ix p0) p0 _ rfl]; rfl) dX5_ice_74 (fun H locs hW => ?_)
          refine lv_aload_n hx hb dX5_ice_75 rfl (lv_at hl 1 rfl) ?_
          refine k_get (v := .ref (β 9)) F hW inX5 rfl 2 rfl rfl 13 (by decide) FL_X5_37 rfl rfl dX5_ice_76 ?_
          refine lv_iload_n hx hb dX5_ice_79 rfl (lv_at hl 2 rfl) ?_
          refine k_iald (v := R 10 (ix p0) 0 + p1) F hW 11 rfl (in1 hq_97 hN (by decide)) (by simp [up3, ix]) dX5_ice_80 ?_
          have hop : op_ice (N, R, Fr, inc) p0 p1 = (0, (R 10 (ix p0) 0 + p1), (N, up3 R 10 (ix p0) 0 (R 10 (ix p0) 0 + p1), Fr, inc)) := by simp [op_ice, hq_97, hq_100, h_a, h_b]
          exact k_iret () F (hW.eq (by rw [hop]; rfl)) (by rw [hop]) dX5_ice_81 (Nat.le_of_ble_eq_true rfl) (Nat.le_of_ble_eq_true rfl)
        · refine lv_iconst (v := 3) hx hb dX5_ice_49 (by decide) ?_
          refine lv_goto (tgt := 54) hx hb dX5_ice_50 (by decide) ?_
          refine lv_istore_n (lv' := [(3, .int 3), (0, .ref (β 0)), (1, .int p0), (2, .int p1)]) hx hb dX5_ice_54 rfl hl (by decide) rfl (fun ls hl => ?_)
          refine lv_aload_n hx hb dX5_ice_55 rfl (lv_at hl 1 rfl) ?_
          refine lv_iload_n hx hb dX5_ice_56 rfl (lv_at hl 0 rfl) ?_
          refine k_callVi (as := [.int 3]) (rest := []) (b := (β 0)) (ci := 7) (q0 := 2) F hW (met_X5_goesOn l D cA β c0 c1 wr th N R Fr inc 3) rfl ML_X5_93 IM_X5_goesOn SE_X5_goesOn IN_X5 CO_X5_goesOn hdV_X5_goesOn rfl rfl ⟨(Nat.le_of_ble_eq_true rfl), (Nat.le_of_ble_eq_true rfl)⟩ rfl rfl (rfl) rfl rfl hl.1 (Nat.le_of_ble_eq_true rfl) dX5_ice_57 ⟨(Nat.le_of_ble_eq_true rfl), (Nat.le_of_ble_eq_true rfl)⟩ (fun r_104 u H locs hw hW => ?_)
          subst hw
          refine lv_if_ne (tgt := 65) hx hb dX5_ice_60 (by decide) (fun h => absurd (by decide) h) (fun _ => ?_)
          refine lv_iconst (v := 0) hx hb dX5_ice_63 (by decide) ?_
          have hop : op_ice (N, R, Fr, inc) p0 p1 = (3, 0, (N, R, Fr, inc)) := by simp [op_ice, hq_97, hq_100, h_a, h_b]
          exact k_iret () F (hW.eq (by rw [hop]; rfl)) (by rw [hop]) dX5_ice_64 (Nat.le_of_ble_eq_true rfl) (Nat.le_of_ble_eq_true rfl)

set_option maxHeartbeats 4000000 in
set_option maxRecDepth 100000 in
theorem met_X5_moveQuota (l : Launch) (D : va_G) (cA : Nat → ClassId) (β : Nat → Nat) (c0 c1 : Nat × va_E) (wr : va_W) (th : Int32) (N : Nat → Nat → Nat) (R : Nat → Nat → Nat → Int32) (Fr : Nat → UInt32) (inc : Int64) (p0 p1 p2 p3 : Int32) (hN : N 0 0 ≤ 6) : MetI l yX5_moveQuota (.code yX5_moveQuota cX5_moveQuota 6 (some .int) :: LW) ({ frames := 2, cells := 0, slots := 0, locals := 43 }) D cA (mWd cA β c0 c1 wr th (N, R, Fr, inc)) [.ref (β 0), .int p0, .int p1, .int p2, .int p3] (fun r (_ : Unit) => r = (op_moveQuota (N, R, Fr, inc) p0 p1 p2 p3).2.1) (fun _ => mWd cA β c0 c1 wr (nI (op_moveQuota (N, R, Fr, inc) p0 p1 p2 p3).1) (op_moveQuota (N, R, Fr, inc) p0 p1 p2 p3).2.2) 0 0 := by
  refine k_bodyI (by decide) (Nat.le_of_ble_eq_true rfl) (fun p e s m args below meth c ls F hW hl => ?_)
  obtain ⟨hx, hb, hr, hml, hown, hts, hlocks, hname⟩ := id F
  have hl : lv_has ls 6 [(0, .ref (β 0)), (1, .int p0), (2, .int p1), (3, .int p2), (4, .int p3)] := hl
  refine lv_aload_n hx hb dX5_moveQuota_0 rfl (lv_at hl 0 rfl) ?_
  refine lv_iload_n hx hb dX5_moveQuota_1 rfl (lv_at hl 1 rfl) ?_
  refine k_callVi (as := [.int p0]) (rest := []) (b := (β 0)) (ci := 7) (q0 := 2) F hW (met_X5_isBoat l D cA β c0 c1 wr th N R Fr inc p0) rfl ML_X5_100 IM_X5_isBoat SE_X5_isBoat IN_X5 CO_X5_isBoat hdV_X5_isBoat rfl rfl ⟨(Nat.le_of_ble_eq_true rfl), (Nat.le_of_ble_eq_true rfl)⟩ rfl rfl (rfl) rfl rfl hl.1 (Nat.le_of_ble_eq_true rfl) dX5_moveQuota_2 ⟨(Nat.le_of_ble_eq_true rfl), (Nat.le_of_ble_eq_true rfl)⟩ (fun r_105 u H locs hw hW => ?_)
  subst hw
  cases hq_106 : isIx (N 0 0) p0
  · refine lv_if_eq (tgt := 16) hx hb dX5_moveQuota_5 (by decide) (fun _ => ?_) (fun h => absurd (by decide) h)
    refine lv_iconst (v := 1) hx hb dX5_moveQuota_16 (by decide) ?_
    refine lv_goto (tgt := 68) hx hb dX5_moveQuota_17 (by decide) ?_
    refine lv_istore (lv' := [(5, .int 1), (0, .ref (β 0)), (1, .int p0), (2, .int p1), (3, .int p2), (4, .int p3)]) hx hb dX5_moveQuota_68 hl (by decide) rfl (fun ls hl => ?_)
    refine lv_aload_n hx hb dX5_moveQuota_70 rfl (lv_at hl 1 rfl) ?_
    refine lv_iload hx hb dX5_moveQuota_71 (lv_at hl 0 rfl) ?_
    refine k_callVi (as := [.int 1]) (rest := []) (b := (β 0)) (ci := 7) (q0 := 2) F hW (met_X5_goesOn l D cA β c0 c1 wr th N R Fr inc 1) rfl ML_X5_93 IM_X5_goesOn SE_X5_goesOn IN_X5 CO_X5_goesOn hdV_X5_goesOn rfl rfl ⟨(Nat.le_of_ble_eq_true rfl), (Nat.le_of_ble_eq_true rfl)⟩ rfl rfl (rfl) rfl rfl hl.1 (Nat.le_of_ble_eq_true rfl) dX5_moveQuota_73 ⟨(Nat.le_of_ble_eq_true rfl), (Nat.le_of_ble_eq_true rfl)⟩ (fun r_107 u H locs hw hW => ?_)
    subst hw
    refine lv_if_ne (tgt := 81) hx hb dX5_moveQuota_76 (by decide) (fun h => absurd (by decide) h) (fun _ => ?_)
    refine lv_iconst (v := 0) hx hb dX5_moveQuota_79 (by decide) ?_
    have hop : op_moveQuota (N, R, Fr, inc) p0 p1 p2 p3 = (1, 0, (N, R, Fr, inc)) := by simp [op_moveQuota, hq_106]
    exact k_iret () F (hW.eq (by rw [hop]; rfl)) (by rw [hop]) dX5_moveQuota_80 (Nat.le_of_ble_eq_true rfl) (Nat.le_of_ble_eq_true rfl)
  · refine lv_if_eq (tgt := 16) hx hb dX5_moveQuota_5 (by decide) (fun h => absurd h (by decide)) (fun _ => ?_)
    refine lv_aload_n hx hb dX5_moveQuota_8 rfl (lv_at hl 0 rfl) ?_
    refine lv_iload_n hx hb dX5_moveQuota_9 rfl (lv_at hl 2 rfl) ?_
    refine k_callVi (as := [.int p1]) (rest := []) (b := (β 0)) (ci := 7) (q0 := 2) F hW (met_X5_isBoat l D cA β c0 c1 wr th N R Fr inc p1) rfl ML_X5_100 IM_X5_isBoat SE_X5_isBoat IN_X5 CO_X5_isBoat hdV_X5_isBoat rfl rfl ⟨(Nat.le_of_ble_eq_true rfl), (Nat.le_of_ble_eq_true rfl)⟩ rfl rfl (rfl) rfl rfl hl.1 (Nat.le_of_ble_eq_true rfl) dX5_moveQuota_10 ⟨(Nat.le_of_ble_eq_true rfl), (Nat.le_of_ble_eq_true rfl)⟩ (fun r_108 u H locs hw hW => ?_)
    subst hw
    cases hq_109 : isIx (N 0 0) p1
    · refine lv_if_ne (tgt := 20) hx hb dX5_moveQuota_13 (by decide) (fun h => absurd (by decide) h) (fun _ => ?_)
      refine lv_iconst (v := 1) hx hb dX5_moveQuota_16 (by decide) ?_
      refine lv_goto (tgt := 68) hx hb dX5_moveQuota_17 (by decide) ?_
      refine lv_istore (lv' := [(5, .int 1), (0, .ref (β 0)), (1, .int p0), (2, .int p1), (3, .int p2), (4, .int p3)]) hx hb dX5_moveQuota_68 hl (by decide) rfl (fun ls hl => ?_)
      refine lv_aload_n hx hb dX5_moveQuota_70 rfl (lv_at hl 1 rfl) ?_
      refine lv_iload hx hb dX5_moveQuota_71 (lv_at hl 0 rfl) ?_
      refine k_callVi (as := [.int 1]) (rest := []) (b := (β 0)) (ci := 7) (q0 := 2) F hW (met_X5_goesOn l D cA β c0 c1 wr th N R Fr inc 1) rfl ML_X5_93 IM_X5_goesOn SE_X5_goesOn IN_X5 CO_X5_goesOn hdV_X5_goesOn rfl rfl ⟨(Nat.le_of_ble_eq_true rfl), (Nat.le_of_ble_eq_true rfl)⟩ rfl rfl (rfl) rfl rfl hl.1 (Nat.le_of_ble_eq_true rfl) dX5_moveQuota_73 ⟨(Nat.le_of_ble_eq_true rfl), (Nat.le_of_ble_eq_true rfl)⟩ (fun r_110 u H locs hw hW => ?_)
      subst hw
      refine lv_if_ne (tgt := 81) hx hb dX5_moveQuota_76 (by decide) (fun h => absurd (by decide) h) (fun _ => ?_)
      refine lv_iconst (v := 0) hx hb dX5_moveQuota_79 (by decide) ?_
      have hop : op_moveQuota (N, R, Fr, inc) p0 p1 p2 p3 = (1, 0, (N, R, Fr, inc)) := by simp [op_moveQuota, hq_106, hq_109]
      exact k_iret () F (hW.eq (by rw [hop]; rfl)) (by rw [hop]) dX5_moveQuota_80 (Nat.le_of_ble_eq_true rfl) (Nat.le_of_ble_eq_true rfl)
    · refine lv_if_ne (tgt := 20) hx hb dX5_moveQuota_13 (by decide) (fun _ => ?_) (fun h => absurd h (by decide))
      refine lv_iload_n hx hb dX5_moveQuota_20 rfl (lv_at hl 1 rfl) ?_
      refine lv_iload_n hx hb dX5_moveQuota_21 rfl (lv_at hl 2 rfl) ?_
      refine lv_icmp_eq (tgt := 44) hx hb dX5_moveQuota_22 (by decide) (fun h_e => ?_) (fun h_e => ?_)
      · refine lv_iconst (v := 2) hx hb dX5_moveQuota_44 (by decide) ?_
        refine lv_goto (tgt := 68) hx hb dX5_moveQuota_45 (by decide) ?_
        refine lv_istore (lv' := [(5, .int 2), (0, .ref (β 0)), (1, .int p0), (2, .int p1), (3, .int p2), (4, .int p3)]) hx hb dX5_moveQuota_68 hl (by decide) rfl (fun ls hl => ?_)
        refine lv_aload_n hx hb dX5_moveQuota_70 rfl (lv_at hl 1 rfl) ?_
        refine lv_iload hx hb dX5_moveQuota_71 (lv_at hl 0 rfl) ?_
        refine k_callVi (as := [.int 2]) (rest := []) (b := (β 0)) (ci := 7) (q0 := 2) F hW (met_X5_goesOn l D cA β c0 c1 wr th N R Fr inc 2) rfl ML_X5_93 IM_X5_goesOn SE_X5_goesOn IN_X5 CO_X5_goesOn hdV_X5_goesOn rfl rfl ⟨(Nat.le_of_ble_eq_true rfl), (Nat.le_of_ble_eq_true rfl)⟩ rfl rfl (rfl) rfl rfl hl.1 (Nat.le_of_ble_eq_true rfl) dX5_moveQuota_73 ⟨(Nat.le_of_ble_eq_true rfl), (Nat.le_of_ble_eq_true rfl)⟩ (fun r_111 u H locs hw hW => ?_)
        subst hw
        refine lv_if_ne (tgt := 81) hx hb dX5_moveQuota_76 (by decide) (fun h => absurd (by decide) h) (fun _ => ?_)
        refine lv_iconst (v := 0) hx hb dX5_moveQuota_79 (by decide) ?_
        have hop : op_moveQuota (N, R, Fr, inc) p0 p1 p2 p3 = (2, 0, (N, R, Fr, inc)) := by simp [op_moveQuota, hq_106, hq_109, h_e]
        exact k_iret () F (hW.eq (by rw [hop]; rfl)) (by rw [hop]) dX5_moveQuota_80 (Nat.le_of_ble_eq_true rfl) (Nat.le_of_ble_eq_true rfl)
      · refine lv_iload_n hx hb dX5_moveQuota_25 rfl (lv_at hl 3 rfl) ?_
        refine k_callSi (as := [.int p2]) (rest := []) F hW (met_X5_isSpecies l D cA _ p2) rfl ML_X5_97 ST_X5_isSpecies IN_X5 CO_X5_isSpecies hdS_X5_isSpecies rfl rfl ⟨(Nat.le_of_ble_eq_true rfl), (Nat.le_of_ble_eq_true rfl)⟩ rfl rfl hl.1 (Nat.le_of_ble_eq_true rfl) dX5_moveQuota_26 ⟨(Nat.le_of_ble_eq_true rfl), (Nat.le_of_ble_eq_true rfl)⟩ (fun r_112 u H locs hw hW => ?_)
        subst hw
        cases hq_113 : wi p2 0 3
        · refine lv_if_eq (tgt := 44) hx hb dX5_moveQuota_29 (by decide) (fun _ => ?_) (fun h => absurd (by decide) h)
          refine lv_iconst (v := 2) hx hb dX5_moveQuota_44 (by decide) ?_
          refine lv_goto (tgt := 68) hx hb dX5_moveQuota_45 (by decide) ?_
          refine lv_istore (lv' := [(5, .int 2), (0, .ref (β 0)), (1, .int p0), (2, .int p1), (3, .int p2), (4, .int p3)]) hx hb dX5_moveQuota_68 hl (by decide) rfl (fun ls hl => ?_)
          refine lv_aload_n hx hb dX5_moveQuota_70 rfl (lv_at hl 1 rfl) ?_
          refine lv_iload hx hb dX5_moveQuota_71 (lv_at hl 0 rfl) ?_
          refine k_callVi (as := [.int 2]) (rest := []) (b := (β 0)) (ci := 7) (q0 := 2) F hW (met_X5_goesOn l D cA β c0 c1 wr th N R Fr inc 2) rfl ML_X5_93 IM_X5_goesOn SE_X5_goesOn IN_X5 CO_X5_goesOn hdV_X5_goesOn rfl rfl ⟨(Nat.le_of_ble_eq_true rfl), (Nat.le_of_ble_eq_true rfl)⟩ rfl rfl (rfl) rfl rfl hl.1 (Nat.le_of_ble_eq_true rfl) dX5_moveQuota_73 ⟨(Nat.le_of_ble_eq_true rfl), (Nat.le_of_ble_eq_true rfl)⟩ (fun r_114 u H locs hw hW => ?_)
          subst hw
          refine lv_if_ne (tgt := 81) hx hb dX5_moveQuota_76 (by decide) (fun h => absurd (by decide) h) (fun _ => ?_)
          refine lv_iconst (v := 0) hx hb dX5_moveQuota_79 (by decide) ?_
          have hop : op_moveQuota (N, R, Fr, inc) p0 p1 p2 p3 = (2, 0, (N, R, Fr, inc)) := by simp [op_moveQuota, hq_106, hq_109, h_e, hq_113]
          exact k_iret () F (hW.eq (by rw [hop]; rfl)) (by rw [hop]) dX5_moveQuota_80 (Nat.le_of_ble_eq_true rfl) (Nat.le_of_ble_eq_true rfl)
        · refine lv_if_eq (tgt := 44) hx hb dX5_moveQuota_29 (by decide) (fun h => absurd h (by decide)) (fun _ => ?_)
          refine lv_iload hx hb dX5_moveQuota_32 (lv_at hl 4 rfl) ?_
          refine lv_iconst (v := 1) hx hb dX5_moveQuota_34 (by decide) ?_
          refine lv_sipush (v := 9999) hx hb dX5_moveQuota_35 (by decide) ?_
          refine k_callSi (as := [.int p3, .int 1, .int 9999]) (rest := []) F hW (met_X5_in l D cA _ p3 1 9999) rfl ML_X5_80 ST_X5_in IN_X5 CO_X5_in hdS_X5_in rfl rfl ⟨(Nat.le_of_ble_eq_true rfl), (Nat.le_of_ble_eq_true rfl)⟩ rfl rfl hl.1 (Nat.le_of_ble_eq_true rfl) dX5_moveQuota_38 ⟨(Nat.le_of_ble_eq_true rfl), (Nat.le_of_ble_eq_true rfl)⟩ (fun r_115 u H locs hw hW => ?_)
          subst hw
          cases hq_116 : wi p3 1 9999
          · refine lv_if_ne (tgt := 48) hx hb dX5_moveQuota_41 (by decide) (fun h => absurd (by decide) h) (fun _ => ?_)
            refine lv_iconst (v := 2) hx hb dX5_moveQuota_44 (by decide) ?_
            refine lv_goto (tgt := 68) hx hb dX5_moveQuota_45 (by decide) ?_
            refine lv_istore (lv' := [(5, .int 2), (0, .ref (β 0)), (1, .int p0), (2, .int p1), (3, .int p2), (4, .int p3)]) hx hb dX5_moveQuota_68 hl (by decide) rfl (fun ls hl => ?_)
            refine lv_aload_n hx hb dX5_moveQuota_70 rfl (lv_at hl 1 rfl) ?_
            refine lv_iload hx hb dX5_moveQuota_71 (lv_at hl 0 rfl) ?_
            refine k_callVi (as := [.int 2]) (rest := []) (b := (β 0)) (ci := 7) (q0 := 2) F hW (met_X5_goesOn l D cA β c0 c1 wr th N R Fr inc 2) rfl ML_X5_93 IM_X5_goesOn SE_X5_goesOn IN_X5 CO_X5_goesOn hdV_X5_goesOn rfl rfl ⟨(Nat.le_of_ble_eq_true rfl), (Nat.le_of_ble_eq_true rfl)⟩ rfl rfl (rfl) rfl rfl hl.1 (Nat.le_of_ble_eq_true rfl) dX5_moveQuota_73 ⟨(Nat.le_of_ble_eq_true rfl), (Nat.le_of_ble_eq_true rfl)⟩ (fun r_117 u H locs hw hW => ?_)
            subst hw
            refine lv_if_ne (tgt := 81) hx hb dX5_moveQuota_76 (by decide) (fun h => absurd (by decide) h) (fun _ => ?_)
            refine lv_iconst (v := 0) hx hb dX5_moveQuota_79 (by decide) ?_
            have hop : op_moveQuota (N, R, Fr, inc) p0 p1 p2 p3 = (2, 0, (N, R, Fr, inc)) := by simp [op_moveQuota, hq_106, hq_109, h_e, hq_113, hq_116]
            exact k_iret () F (hW.eq (by rw [hop]; rfl)) (by rw [hop]) dX5_moveQuota_80 (Nat.le_of_ble_eq_true rfl) (Nat.le_of_ble_eq_true rfl)
          · refine lv_if_ne (tgt := 48) hx hb dX5_moveQuota_41 (by decide) (fun _ => ?_) (fun h => absurd h (by decide))
            refine lv_aload_n hx hb dX5_moveQuota_48 rfl (lv_at hl 0 rfl) ?_
            refine k_get (v := .ref (β 1)) F hW inX5 rfl 2 rfl rfl 2 (by decide) FL_X5_9 rfl rfl dX5_moveQuota_49 ?_
            refine lv_iconst (v := 4) hx hb dX5_moveQuota_52 (by decide) ?_
            refine lv_iload_n hx hb dX5_moveQuota_53 rfl (lv_at hl 1 rfl) ?_
            refine lv_imul hx hb dX5_moveQuota_54 ?_
            refine lv_iload_n hx hb dX5_moveQuota_55 rfl (lv_at hl 3 rfl) ?_
            refine lv_iadd hx hb dX5_moveQuota_56 ?_
            refine k_iald (v := R 1 (ix p0) (ix p2)) F hW 3 rfl (in4 hq_106 (by omega) hq_113 (by omega) (by decide)) (v4 (f := R 1) hq_106 (by omega) hq_113) dX5_moveQuota_57 ?_
            refine lv_iload hx hb dX5_moveQuota_58 (lv_at hl 4 rfl) ?_
            refine lv_icmp_ge (tgt := 67) hx hb dX5_moveQuota_60 (by decide) (fun h_c => ?_) (fun h_c => ?_)
            · have h_d : ¬ R 1 (ix p0) (ix p2) < p3 := Int32.not_lt.mpr h_c
              refine lv_iconst (v := 0) hx hb dX5_moveQuota_67 (by decide) ?_
              refine lv_istore (lv' := [(5, .int 0), (0, .ref (β 0)), (1, .int p0), (2, .int p1), (3, .int p2), (4, .int p3)]) hx hb dX5_moveQuota_68 hl (by decide) rfl (fun ls hl => ?_)
              refine lv_aload_n hx hb dX5_moveQuota_70 rfl (lv_at hl 1 rfl) ?_
              refine lv_iload hx hb dX5_moveQuota_71 (lv_at hl 0 rfl) ?_
              refine k_callVi (as := [.int 0]) (rest := []) (b := (β 0)) (ci := 7) (q0 := 2) F hW (met_X5_goesOn l D cA β c0 c1 wr th N R Fr inc 0) rfl ML_X5_93 IM_X5_goesOn SE_X5_goesOn IN_X5 CO_X5_goesOn hdV_X5_goesOn rfl rfl ⟨(Nat.le_of_ble_eq_true rfl), (Nat.le_of_ble_eq_true rfl)⟩ rfl rfl (rfl) rfl rfl hl.1 (Nat.le_of_ble_eq_true rfl) dX5_moveQuota_73 ⟨(Nat.le_of_ble_eq_true rfl), (Nat.le_of_ble_eq_true rfl)⟩ (fun r_118 u H locs hw hW => ?_)
              subst hw
              refine lv_if_ne (tgt := 81) hx hb dX5_moveQuota_76 (by decide) (fun _ => ?_) (fun h => absurd h (by decide))
              refine lv_aload_n hx hb dX5_moveQuota_81 rfl (lv_at hl 1 rfl) ?_
              refine k_get (v := .ref (β 1)) F hW inX5 rfl 2 rfl rfl 2 (by decide) FL_X5_9 rfl rfl dX5_moveQuota_82 ?_
              refine lv_iconst (v := 4) hx hb dX5_moveQuota_85 (by decide) ?_
              refine lv_iload_n hx hb dX5_moveQuota_86 rfl (lv_at hl 2 rfl) ?_
              refine lv_imul hx hb dX5_moveQuota_87 ?_
              refine lv_iload_n hx hb dX5_moveQuota_88 rfl (lv_at hl 4 rfl) ?_
              refine lv_iadd hx hb dX5_moveQuota_89 ?_
              refine lv_dup2_11 hx hb dX5_moveQuota_90 rfl rfl ?_
              refine k_iald (v := R 1 (ix p0) (ix p2)) F hW 3 rfl (in4 hq_106 (by omega) hq_113 (by omega) (by decide)) (v4 (f := R 1) hq_106 (by omega) hq_113) dX5_moveQuota_91 ?_
              refine lv_iload hx hb dX5_moveQuota_92 (lv_at hl 5 rfl) ?_
              refine lv_isub hx hb dX5_moveQuota_94 ?_
              refine k_iast F hW 3 rfl (in4 hq_106 (by omega) hq_113 (by omega) (by decide)) (mWd cA β c0 c1 wr 0 (N, up3 R 1 (ix p0) (ix p2) (R 1 (ix p0) (ix p2) - p3), Fr, inc)) (by rw [ud4 R 1 _ hq_106 (by omega) hq_113]; rfl) dX5_moveQuota_95 (fun H locs hW => ?_)
              have h_x := ix_ne hq_106 hq_109 (by omega) h_e
              refine lv_aload_n hx hb dX5_moveQuota_96 rfl (lv_at hl 1 rfl) ?_
              refine k_get (v := .ref (β 1)) F hW inX5 rfl 2 rfl rfl 2 (by decide) FL_X5_9 rfl rfl dX5_moveQuota_97 ?_
              refine lv_iconst (v := 4) hx hb dX5_moveQuota_100 (by decide) ?_
              refine lv_iload_n hx hb dX5_moveQuota_101 rfl (lv_at hl 3 rfl) ?_
              refine lv_imul hx hb dX5_moveQuota_102 ?_
              refine lv_iload_n hx hb dX5_moveQuota_103 rfl (lv_at hl 4 rfl) ?_
              refine lv_iadd hx hb dX5_moveQuota_104 ?_
              refine lv_dup2_11 hx hb dX5_moveQuota_105 rfl rfl ?_
              refine k_iald (v := R 1 (ix p1) (ix p2)) F hW 3 rfl (in4 hq_109 (by omega) hq_113 (by omega) (by decide)) ((v4 (f := (up3 R 1 (ix p0) (ix p2) (R 1 (ix p0) (ix p2) - p3)) 1) hq_109 (by omega) hq_113).trans (by simp [up3, h_x])) dX5_moveQuota_106 ?_
              refine lv_iload hx hb dX5_moveQuota_107 (lv_at hl 5 rfl) ?_
              refine lv_iadd hx hb dX5_moveQuota_109 ?_
              refine k_iast F hW 3 rfl (in4 hq_109 (by omega) hq_113 (by omega) (by decide)) (mWd cA β c0 c1 wr 0 (N, up3 (up3 R 1 (ix p0) (ix p2) (R 1 (ix p0) (ix p2) - p3)) 1 (ix p1) (ix p2) (R 1 (ix p1) (ix p2) + p3), Fr, inc)) (by rw [ud4 (up3 R 1 (ix p0) (ix p2) (R 1 (ix p0) (ix p2) - p3)) 1 _ hq_109 (by omega) hq_113]; rfl) dX5_moveQuota_110 (fun H locs hW => ?_)
              refine lv_aload_n hx hb dX5_moveQuota_111 rfl (lv_at hl 1 rfl) ?_
              refine k_get (v := .ref (β 1)) F hW inX5 rfl 2 rfl rfl 2 (by decide) FL_X5_9 rfl rfl dX5_moveQuota_112 ?_
              refine lv_iconst (v := 4) hx hb dX5_moveQuota_115 (by decide) ?_
              refine lv_iload_n hx hb dX5_moveQuota_116 rfl (lv_at hl 2 rfl) ?_
              refine lv_imul hx hb dX5_moveQuota_117 ?_
              refine lv_iload_n hx hb dX5_moveQuota_118 rfl (lv_at hl 4 rfl) ?_
              refine lv_iadd hx hb dX5_moveQuota_119 ?_
              refine k_iald (v := R 1 (ix p0) (ix p2) - p3) F hW 3 rfl (in4 hq_106 (by omega) hq_113 (by omega) (by decide)) ((v4 (f := (up3 (up3 R 1 (ix p0) (ix p2) (R 1 (ix p0) (ix p2) - p3)) 1 (ix p1) (ix p2) (R 1 (ix p1) (ix p2) + p3)) 1) hq_106 (by omega) hq_113).trans (by simp [up3, Ne.symm h_x])) dX5_moveQuota_120 ?_
              have hop : op_moveQuota (N, R, Fr, inc) p0 p1 p2 p3 = (0, R 1 (ix p0) (ix p2) - p3, (N, up3 (up3 (up3 (up3 R 1 (ix p0) (ix p2) (R 1 (ix p0) (ix p2) - p3)) 1 (ix p1) (ix p2) (R 1 (ix p1) (ix p2) + p3)) 3 (ix p0) (ix p2) (R 3 (ix p0) (ix p2) - p3)) 3 (ix p1) (ix p2) (R 3 (ix p1) (ix p2) + p3), Fr, inc)) := by simp [op_moveQuota, hq_106, hq_109, h_e, hq_113, hq_116, h_d]
              exact k_iret () F (hW.eq (by rw [hop]; exact ((mWd_r3 ..).trans (mWd_r3 ..)).symm)) (by rw [hop]) dX5_moveQuota_121 (Nat.le_of_ble_eq_true rfl) (Nat.le_of_ble_eq_true rfl)
            · have h_d : R 1 (ix p0) (ix p2) < p3 := Int32.not_le.mp h_c
              refine lv_iconst (v := 3) hx hb dX5_moveQuota_63 (by decide) ?_
              refine lv_goto (tgt := 68) hx hb dX5_moveQuota_64 (by decide) ?_
              refine lv_istore (lv' := [(5, .int 3), (0, .ref (β 0)), (1, .int p0), (2, .int p1), (3, .int p2), (4, .int p3)]) hx hb dX5_moveQuota_68 hl (by decide) rfl (fun ls hl => ?_)
              refine lv_aload_n hx hb dX5_moveQuota_70 rfl (lv_at hl 1 rfl) ?_
              refine lv_iload hx hb dX5_moveQuota_71 (lv_at hl 0 rfl) ?_
              refine k_callVi (as := [.int 3]) (rest := []) (b := (β 0)) (ci := 7) (q0 := 2) F hW (met_X5_goesOn l D cA β c0 c1 wr th N R Fr inc 3) rfl ML_X5_93 IM_X5_goesOn SE_X5_goesOn IN_X5 CO_X5_goesOn hdV_X5_goesOn rfl rfl ⟨(Nat.le_of_ble_eq_true rfl), (Nat.le_of_ble_eq_true rfl)⟩ rfl rfl (rfl) rfl rfl hl.1 (Nat.le_of_ble_eq_true rfl) dX5_moveQuota_73 ⟨(Nat.le_of_ble_eq_true rfl), (Nat.le_of_ble_eq_true rfl)⟩ (fun r_119 u H locs hw hW => ?_)
              subst hw
              refine lv_if_ne (tgt := 81) hx hb dX5_moveQuota_76 (by decide) (fun h => absurd (by decide) h) (fun _ => ?_)
              refine lv_iconst (v := 0) hx hb dX5_moveQuota_79 (by decide) ?_
              have hop : op_moveQuota (N, R, Fr, inc) p0 p1 p2 p3 = (3, 0, (N, R, Fr, inc)) := by simp [op_moveQuota, hq_106, hq_109, h_e, hq_113, hq_116, h_d]
              exact k_iret () F (hW.eq (by rw [hop]; rfl)) (by rw [hop]) dX5_moveQuota_80 (Nat.le_of_ble_eq_true rfl) (Nat.le_of_ble_eq_true rfl)

set_option maxHeartbeats 4000000 in
set_option maxRecDepth 100000 in
theorem met_X5_lotOn (l : Launch) (D : va_G) (cA : Nat → ClassId) (β : Nat → Nat) (c0 c1 : Nat × va_E) (wr : va_W) (th : Int32) (N : Nat → Nat → Nat) (R : Nat → Nat → Nat → Int32) (Fr : Nat → UInt32) (inc : Int64) (p0 p1 : Int32) (hN : N 0 3 ≤ 4) (hN1 : ∀ t, N 1 t ≤ 5) : MetI l yX5_lotOn (.code yX5_lotOn cX5_lotOn 4 (some .int) :: LW) ({ frames := 2, cells := 0, slots := 0, locals := 43 }) D cA (mWd cA β c0 c1 wr th (N, R, Fr, inc)) [.ref (β 0), .int p0, .int p1] (fun r (_ : Unit) => r = (op_lotOn (N, R, Fr, inc) p0 p1).2.1) (fun _ => mWd cA β c0 c1 wr (nI (op_lotOn (N, R, Fr, inc) p0 p1).1) (op_lotOn (N, R, Fr, inc) p0 p1).2.2) 0 0 := by
  refine k_bodyI (by decide) (Nat.le_of_ble_eq_true rfl) (fun p e s m args below meth c ls F hW hl => ?_)
  obtain ⟨hx, hb, hr, hml, hown, hts, hlocks, hname⟩ := id F
  have hl : lv_has ls 4 [(0, .ref (β 0)), (1, .int p0), (2, .int p1)] := hl
  refine lv_aload_n hx hb dX5_lotOn_0 rfl (lv_at hl 0 rfl) ?_
  refine lv_iload_n hx hb dX5_lotOn_1 rfl (lv_at hl 1 rfl) ?_
  refine k_callVi (as := [.int p0]) (rest := []) (b := (β 0)) (ci := 7) (q0 := 2) F hW (met_X5_isTruck l D cA β c0 c1 wr th N R Fr inc p0) rfl ML_X5_166 IM_X5_isTruck SE_X5_isTruck IN_X5 CO_X5_isTruck hdV_X5_isTruck rfl rfl ⟨(Nat.le_of_ble_eq_true rfl), (Nat.le_of_ble_eq_true rfl)⟩ rfl rfl (rfl) rfl rfl hl.1 (Nat.le_of_ble_eq_true rfl) dX5_lotOn_2 ⟨(Nat.le_of_ble_eq_true rfl), (Nat.le_of_ble_eq_true rfl)⟩ (fun r_120 u H locs hw hW => ?_)
  subst hw
  cases hq_121 : isIx (N 0 3) p0
  · refine lv_if_ne (tgt := 12) hx hb dX5_lotOn_5 (by decide) (fun h => absurd (by decide) h) (fun _ => ?_)
    refine lv_iconst (v := 1) hx hb dX5_lotOn_8 (by decide) ?_
    refine lv_goto (tgt := 13) hx hb dX5_lotOn_9 (by decide) ?_
    refine lv_istore_n (lv' := [(3, .int 1), (0, .ref (β 0)), (1, .int p0), (2, .int p1)]) hx hb dX5_lotOn_13 rfl hl (by decide) rfl (fun ls hl => ?_)
    refine lv_iload_n hx hb dX5_lotOn_14 rfl (lv_at hl 0 rfl) ?_
    refine lv_if_ne (tgt := 38) hx hb dX5_lotOn_15 (by decide) (fun _ => ?_) (fun h => absurd h (by decide))
    refine lv_iload_n hx hb dX5_lotOn_38 rfl (lv_at hl 0 rfl) ?_
    refine lv_istore_n (lv' := [(3, .int 1), (0, .ref (β 0)), (1, .int p0), (2, .int p1)]) hx hb dX5_lotOn_39 rfl hl (by decide) rfl (fun ls hl => ?_)
    refine lv_aload_n hx hb dX5_lotOn_40 rfl (lv_at hl 1 rfl) ?_
    refine lv_iload_n hx hb dX5_lotOn_41 rfl (lv_at hl 0 rfl) ?_
    refine k_callVi (as := [.int 1]) (rest := []) (b := (β 0)) (ci := 7) (q0 := 2) F hW (met_X5_goesOn l D cA β c0 c1 wr th N R Fr inc 1) rfl ML_X5_93 IM_X5_goesOn SE_X5_goesOn IN_X5 CO_X5_goesOn hdV_X5_goesOn rfl rfl ⟨(Nat.le_of_ble_eq_true rfl), (Nat.le_of_ble_eq_true rfl)⟩ rfl rfl (rfl) rfl rfl hl.1 (Nat.le_of_ble_eq_true rfl) dX5_lotOn_42 ⟨(Nat.le_of_ble_eq_true rfl), (Nat.le_of_ble_eq_true rfl)⟩ (fun r_122 u H locs hw hW => ?_)
    subst hw
    refine lv_if_eq (tgt := 61) hx hb dX5_lotOn_45 (by decide) (fun _ => ?_) (fun h => absurd (by decide) h)
    refine lv_iconst (v := 0) hx hb dX5_lotOn_61 (by decide) ?_
    have hop : op_lotOn (N, R, Fr, inc) p0 p1 = (1, 0, (N, R, Fr, inc)) := by simp [op_lotOn, hq_121]
    exact k_iret () F (hW.eq (by rw [hop]; rfl)) (by rw [hop]) dX5_lotOn_62 (Nat.le_of_ble_eq_true rfl) (Nat.le_of_ble_eq_true rfl)
  · refine lv_if_ne (tgt := 12) hx hb dX5_lotOn_5 (by decide) (fun _ => ?_) (fun h => absurd h (by decide))
    refine lv_iconst (v := 0) hx hb dX5_lotOn_12 (by decide) ?_
    refine lv_istore_n (lv' := [(3, .int 0), (0, .ref (β 0)), (1, .int p0), (2, .int p1)]) hx hb dX5_lotOn_13 rfl hl (by decide) rfl (fun ls hl => ?_)
    refine lv_iload_n hx hb dX5_lotOn_14 rfl (lv_at hl 0 rfl) ?_
    refine lv_if_ne (tgt := 38) hx hb dX5_lotOn_15 (by decide) (fun h => absurd (by decide) h) (fun _ => ?_)
    refine lv_iload_n hx hb dX5_lotOn_18 rfl (lv_at hl 3 rfl) ?_
    refine lv_iconst (v := 0) hx hb dX5_lotOn_19 (by decide) ?_
    refine lv_aload_n hx hb dX5_lotOn_20 rfl (lv_at hl 1 rfl) ?_
    refine k_get (v := .ref (β 17)) F hW inX5 rfl 2 rfl rfl 27 (by decide) FL_X5_68 rfl rfl dX5_lotOn_21 ?_
    refine lv_iload_n hx hb dX5_lotOn_24 rfl (lv_at hl 2 rfl) ?_
    refine k_iald (v := nI (N 1 (ix p0))) F hW 19 rfl (in1 hq_121 hN (by decide)) (rfl) dX5_lotOn_25 ?_
    refine lv_iconst (v := 1) hx hb dX5_lotOn_26 (by decide) ?_
    refine lv_isub hx hb dX5_lotOn_27 ?_
    refine k_callSi (as := [.int p1, .int 0, .int ((nI (N 1 (ix p0))) - 1)]) (rest := []) F hW (met_X5_in l D cA _ p1 0 ((nI (N 1 (ix p0))) - 1)) rfl ML_X5_80 ST_X5_in IN_X5 CO_X5_in hdS_X5_in rfl rfl ⟨(Nat.le_of_ble_eq_true rfl), (Nat.le_of_ble_eq_true rfl)⟩ rfl rfl hl.1 (Nat.le_of_ble_eq_true rfl) dX5_lotOn_28 ⟨(Nat.le_of_ble_eq_true rfl), (Nat.le_of_ble_eq_true rfl)⟩ (fun r_123 u H locs hw hW => ?_)
    subst hw
    rw [show wi p1 0 ((nI (N 1 (ix p0))) - 1) = isIx (N 1 (ix p0)) p1 from rfl]
    cases hq_124 : isIx (N 1 (ix p0)) p1
    · refine lv_if_ne (tgt := 38) hx hb dX5_lotOn_31 (by decide) (fun h => absurd (by decide) h) (fun _ => ?_)
      refine lv_iconst (v := 2) hx hb dX5_lotOn_34 (by decide) ?_
      refine lv_goto (tgt := 39) hx hb dX5_lotOn_35 (by decide) ?_
      refine lv_istore_n (lv' := [(3, .int 2), (0, .ref (β 0)), (1, .int p0), (2, .int p1)]) hx hb dX5_lotOn_39 rfl hl (by decide) rfl (fun ls hl => ?_)
      refine lv_aload_n hx hb dX5_lotOn_40 rfl (lv_at hl 1 rfl) ?_
      refine lv_iload_n hx hb dX5_lotOn_41 rfl (lv_at hl 0 rfl) ?_
      refine k_callVi (as := [.int 2]) (rest := []) (b := (β 0)) (ci := 7) (q0 := 2) F hW (met_X5_goesOn l D cA β c0 c1 wr th N R Fr inc 2) rfl ML_X5_93 IM_X5_goesOn SE_X5_goesOn IN_X5 CO_X5_goesOn hdV_X5_goesOn rfl rfl ⟨(Nat.le_of_ble_eq_true rfl), (Nat.le_of_ble_eq_true rfl)⟩ rfl rfl (rfl) rfl rfl hl.1 (Nat.le_of_ble_eq_true rfl) dX5_lotOn_42 ⟨(Nat.le_of_ble_eq_true rfl), (Nat.le_of_ble_eq_true rfl)⟩ (fun r_125 u H locs hw hW => ?_)
      subst hw
      refine lv_if_eq (tgt := 61) hx hb dX5_lotOn_45 (by decide) (fun _ => ?_) (fun h => absurd (by decide) h)
      refine lv_iconst (v := 0) hx hb dX5_lotOn_61 (by decide) ?_
      have hop : op_lotOn (N, R, Fr, inc) p0 p1 = (2, 0, (N, R, Fr, inc)) := by simp [op_lotOn, hq_121, hq_124]
      exact k_iret () F (hW.eq (by rw [hop]; rfl)) (by rw [hop]) dX5_lotOn_62 (Nat.le_of_ble_eq_true rfl) (Nat.le_of_ble_eq_true rfl)
    · refine lv_if_ne (tgt := 38) hx hb dX5_lotOn_31 (by decide) (fun _ => ?_) (fun h => absurd h (by decide))
      refine lv_iload_n hx hb dX5_lotOn_38 rfl (lv_at hl 0 rfl) ?_
      refine lv_istore_n (lv' := [(3, .int 0), (0, .ref (β 0)), (1, .int p0), (2, .int p1)]) hx hb dX5_lotOn_39 rfl hl (by decide) rfl (fun ls hl => ?_)
      refine lv_aload_n hx hb dX5_lotOn_40 rfl (lv_at hl 1 rfl) ?_
      refine lv_iload_n hx hb dX5_lotOn_41 rfl (lv_at hl 0 rfl) ?_
      refine k_callVi (as := [.int 0]) (rest := []) (b := (β 0)) (ci := 7) (q0 := 2) F hW (met_X5_goesOn l D cA β c0 c1 wr th N R Fr inc 0) rfl ML_X5_93 IM_X5_goesOn SE_X5_goesOn IN_X5 CO_X5_goesOn hdV_X5_goesOn rfl rfl ⟨(Nat.le_of_ble_eq_true rfl), (Nat.le_of_ble_eq_true rfl)⟩ rfl rfl (rfl) rfl rfl hl.1 (Nat.le_of_ble_eq_true rfl) dX5_lotOn_42 ⟨(Nat.le_of_ble_eq_true rfl), (Nat.le_of_ble_eq_true rfl)⟩ (fun r_126 u H locs hw hW => ?_)
      subst hw
      refine lv_if_eq (tgt := 61) hx hb dX5_lotOn_45 (by decide) (fun h => absurd h (by decide)) (fun _ => ?_)
      refine lv_aload_n hx hb dX5_lotOn_48 rfl (lv_at hl 1 rfl) ?_
      refine k_get (v := .ref (β 18)) F hW inX5 rfl 2 rfl rfl 28 (by decide) FL_X5_71 rfl rfl dX5_lotOn_49 ?_
      refine lv_iconst (v := 5) hx hb dX5_lotOn_52 (by decide) ?_
      refine lv_iload_n hx hb dX5_lotOn_53 rfl (lv_at hl 2 rfl) ?_
      refine lv_imul hx hb dX5_lotOn_54 ?_
      refine lv_iload_n hx hb dX5_lotOn_55 rfl (lv_at hl 3 rfl) ?_
      refine lv_iadd hx hb dX5_lotOn_56 ?_
      refine k_iald (v := R 18 (ix p0) (ix p1)) F hW 20 rfl (in5' hq_121 hN hq_124 (hN1 _)) (v5' (f := R 18) hq_121 hN hq_124 (hN1 _)) dX5_lotOn_57 ?_
      refine lv_goto (tgt := 62) hx hb dX5_lotOn_58 (by decide) ?_
      have hop : op_lotOn (N, R, Fr, inc) p0 p1 = (0, (R 18 (ix p0) (ix p1)), (N, R, Fr, inc)) := by simp [op_lotOn, hq_121, hq_124]
      exact k_iret () F (hW.eq (by rw [hop]; rfl)) (by rw [hop]) dX5_lotOn_62 (Nat.le_of_ble_eq_true rfl) (Nat.le_of_ble_eq_true rfl)

set_option maxHeartbeats 4000000 in
set_option maxRecDepth 100000 in
theorem met_X5_iceFor (l : Launch) (D : va_G) (cA : Nat → ClassId) (β : Nat → Nat) (c0 c1 : Nat × va_E) (wr : va_W) (th : Int32) (N : Nat → Nat → Nat) (R : Nat → Nat → Nat → Int32) (Fr : Nat → UInt32) (inc : Int64) (v : Int32) (hN : N 0 1 ≤ 20) (hv : isIx (N 0 1) v = true) : MetI l yX5_iceFor (.code yX5_iceFor cX5_iceFor 2 (some .int) :: LW) ({ frames := 0, cells := 0, slots := 0, locals := 0 }) D cA (mWd cA β c0 c1 wr th (N, R, Fr, inc)) [.ref (β 0), .int v] (fun r (_ : Unit) => r = iceFor (R 7 (ix v) 0)) (fun _ => mWd cA β c0 c1 wr th (N, R, Fr, inc)) 0 0 := by
  refine k_bodyI (by decide) (Nat.le_of_ble_eq_true rfl) (fun p e s m args below meth c ls F hW hl => ?_)
  obtain ⟨hx, hb, hr, hml, hown, hts, hlocks, hname⟩ := id F
  have hl : lv_has ls 2 [(0, .ref (β 0)), (1, .int v)] := hl
  refine lv_aload_n hx hb dX5_iceFor_0 rfl (lv_at hl 0 rfl) ?_
  refine k_get (v := .ref (β 5)) F hW inX5 rfl 2 rfl rfl 9 (by decide) FL_X5_22 rfl rfl dX5_iceFor_1 ?_
  refine lv_iload_n hx hb dX5_iceFor_4 rfl (lv_at hl 1 rfl) ?_
  refine k_iald (v := R 7 (ix v) 0) F hW 7 rfl (in1 hv hN (by decide)) (rfl) dX5_iceFor_5 ?_
  refine lv_bipush (v := 9) hx hb dX5_iceFor_6 (by decide) ?_
  refine lv_iadd hx hb dX5_iceFor_8 ?_
  refine lv_bipush (v := 10) hx hb dX5_iceFor_9 (by decide) ?_
  refine lv_idiv hx hb dX5_iceFor_11 (by decide) ?_
  exact k_iret () F (hW) (rfl) dX5_iceFor_12 (Nat.le_of_ble_eq_true rfl) (Nat.le_of_ble_eq_true rfl)

set_option maxHeartbeats 4000000 in
set_option maxRecDepth 100000 in
theorem met_X5_iceLasts (l : Launch) (D : va_G) (cA : Nat → ClassId) (β : Nat → Nat) (c0 c1 : Nat × va_E) (wr : va_W) (th : Int32) (N : Nat → Nat → Nat) (R : Nat → Nat → Nat → Int32) (Fr : Nat → UInt32) (inc : Int64) (p0 : Int32) (hN : N 0 1 ≤ 20) (hwt : ∀ j, j < N 0 1 → wOK (R 7 j 0)) : MetI l yX5_iceLasts (.code yX5_iceLasts cX5_iceLasts 2 (some .int) :: LW) ({ frames := 2, cells := 0, slots := 0, locals := 43 }) D cA (mWd cA β c0 c1 wr th (N, R, Fr, inc)) [.ref (β 0), .int p0] (fun r (_ : Unit) => r = (op_iceLasts (N, R, Fr, inc) p0).2.1) (fun _ => mWd cA β c0 c1 wr (nI (op_iceLasts (N, R, Fr, inc) p0).1) (op_iceLasts (N, R, Fr, inc) p0).2.2) 0 0 := by
  refine k_bodyI (by decide) (Nat.le_of_ble_eq_true rfl) (fun p e s m args below meth c ls F hW hl => ?_)
  obtain ⟨hx, hb, hr, hml, hown, hts, hlocks, hname⟩ := id F
  have hl : lv_has ls 2 [(0, .ref (β 0)), (1, .int p0)] := hl
  refine lv_aload_n hx hb dX5_iceLasts_0 rfl (lv_at hl 0 rfl) ?_
  refine lv_aload_n hx hb dX5_iceLasts_1 rfl (lv_at hl 0 rfl) ?_
  refine lv_iload_n hx hb dX5_iceLasts_2 rfl (lv_at hl 1 rfl) ?_
  refine k_callVi (as := [.int p0]) (rest := [.ref (β 0)]) (b := (β 0)) (ci := 7) (q0 := 2) F hW (met_X5_isLot l D cA β c0 c1 wr th N R Fr inc p0) rfl ML_X5_110 IM_X5_isLot SE_X5_isLot IN_X5 CO_X5_isLot hdV_X5_isLot rfl rfl ⟨(Nat.le_of_ble_eq_true rfl), (Nat.le_of_ble_eq_true rfl)⟩ rfl rfl (rfl) rfl rfl hl.1 (Nat.le_of_ble_eq_true rfl) dX5_iceLasts_3 ⟨(Nat.le_of_ble_eq_true rfl), (Nat.le_of_ble_eq_true rfl)⟩ (fun r_127 u H locs hw hW => ?_)
  subst hw
  cases hq_128 : isIx (N 0 1) p0
  · refine lv_if_eq (tgt := 13) hx hb dX5_iceLasts_6 (by decide) (fun _ => ?_) (fun h => absurd (by decide) h)
    refine lv_iconst (v := 1) hx hb dX5_iceLasts_13 (by decide) ?_
    refine k_callVi (as := [.int 1]) (rest := []) (b := (β 0)) (ci := 7) (q0 := 2) F hW (met_X5_goesOn l D cA β c0 c1 wr th N R Fr inc 1) rfl ML_X5_93 IM_X5_goesOn SE_X5_goesOn IN_X5 CO_X5_goesOn hdV_X5_goesOn rfl rfl ⟨(Nat.le_of_ble_eq_true rfl), (Nat.le_of_ble_eq_true rfl)⟩ rfl rfl (rfl) rfl rfl hl.1 (Nat.le_of_ble_eq_true rfl) dX5_iceLasts_14 ⟨(Nat.le_of_ble_eq_true rfl), (Nat.le_of_ble_eq_true rfl)⟩ (fun r_129 u H locs hw hW => ?_)
    subst hw
    refine lv_if_eq (tgt := 35) hx hb dX5_iceLasts_17 (by decide) (fun _ => ?_) (fun h => absurd (by decide) h)
    refine lv_iconst (v := 0) hx hb dX5_iceLasts_35 (by decide) ?_
    have hop : op_iceLasts (N, R, Fr, inc) p0 = (1, 0, (N, R, Fr, inc)) := by simp [op_iceLasts, hq_128]
    exact k_iret () F (hW.eq (by rw [hop]; rfl)) (by rw [hop]) dX5_iceLasts_36 (Nat.le_of_ble_eq_true rfl) (Nat.le_of_ble_eq_true rfl)
  · refine lv_if_eq (tgt := 13) hx hb dX5_iceLasts_6 (by decide) (fun h => absurd h (by decide)) (fun _ => ?_)
    refine lv_iconst (v := 0) hx hb dX5_iceLasts_9 (by decide) ?_
    refine lv_goto (tgt := 14) hx hb dX5_iceLasts_10 (by decide) ?_
    refine k_callVi (as := [.int 0]) (rest := []) (b := (β 0)) (ci := 7) (q0 := 2) F hW (met_X5_goesOn l D cA β c0 c1 wr th N R Fr inc 0) rfl ML_X5_93 IM_X5_goesOn SE_X5_goesOn IN_X5 CO_X5_goesOn hdV_X5_goesOn rfl rfl ⟨(Nat.le_of_ble_eq_true rfl), (Nat.le_of_ble_eq_true rfl)⟩ rfl rfl (rfl) rfl rfl hl.1 (Nat.le_of_ble_eq_true rfl) dX5_iceLasts_14 ⟨(Nat.le_of_ble_eq_true rfl), (Nat.le_of_ble_eq_true rfl)⟩ (fun r_130 u H locs hw hW => ?_)
    subst hw
    refine lv_if_eq (tgt := 35) hx hb dX5_iceLasts_17 (by decide) (fun h => absurd h (by decide)) (fun _ => ?_)
    refine lv_aload_n hx hb dX5_iceLasts_20 rfl (lv_at hl 0 rfl) ?_
    refine k_get (v := .ref (β 9)) F hW inX5 rfl 2 rfl rfl 13 (by decide) FL_X5_37 rfl rfl dX5_iceLasts_21 ?_
    refine lv_iload_n hx hb dX5_iceLasts_24 rfl (lv_at hl 1 rfl) ?_
    refine k_iald (v := R 10 (ix p0) 0) F hW 11 rfl (in1 hq_128 hN (by decide)) (rfl) dX5_iceLasts_25 ?_
    refine lv_aload_n hx hb dX5_iceLasts_26 rfl (lv_at hl 0 rfl) ?_
    refine lv_iload_n hx hb dX5_iceLasts_27 rfl (lv_at hl 1 rfl) ?_
    refine k_callVi (as := [.int p0]) (rest := [.int (R 10 (ix p0) 0)]) (b := (β 0)) (ci := 7) (q0 := 2) F hW (met_X5_iceFor l D cA β c0 c1 wr 0 N R Fr inc p0 hN hq_128) rfl ML_X5_119 IM_X5_iceFor SE_X5_iceFor IN_X5 CO_X5_iceFor hdV_X5_iceFor rfl rfl ⟨(Nat.le_of_ble_eq_true rfl), (Nat.le_of_ble_eq_true rfl)⟩ rfl rfl (rfl) rfl rfl hl.1 (Nat.le_of_ble_eq_true rfl) dX5_iceLasts_28 ⟨(Nat.le_of_ble_eq_true rfl), (Nat.le_of_ble_eq_true rfl)⟩ (fun r_131 u H locs hw hW => ?_)
    subst hw
    refine lv_idiv hx hb dX5_iceLasts_31 (iceFor_ne (hwt _ (ix_lt hq_128 (by omega)).1)) ?_
    refine lv_goto (tgt := 36) hx hb dX5_iceLasts_32 (by decide) ?_
    have hop : op_iceLasts (N, R, Fr, inc) p0 = (0, (R 10 (ix p0) 0 / iceFor (R 7 (ix p0) 0)), (N, R, Fr, inc)) := by simp [op_iceLasts, hq_128]
    exact k_iret () F (hW.eq (by rw [hop]; rfl)) (by rw [hop]) dX5_iceLasts_36 (Nat.le_of_ble_eq_true rfl) (Nat.le_of_ble_eq_true rfl)

set_option maxHeartbeats 4000000 in
set_option maxRecDepth 100000 in
theorem met_X5_stateOf (l : Launch) (D : va_G) (cA : Nat → ClassId) (β : Nat → Nat) (c0 c1 : Nat × va_E) (wr : va_W) (th : Int32) (N : Nat → Nat → Nat) (R : Nat → Nat → Nat → Int32) (Fr : Nat → UInt32) (inc : Int64) (p0 : Int32) (hN : N 0 1 ≤ 20) (hst : ∀ j, j < N 0 1 → st5 (R 9 j 0)) : MetI l yX5_stateOf (.code yX5_stateOf cX5_stateOf 2 (some .char) :: LW) ({ frames := 2, cells := 0, slots := 0, locals := 43 }) D cA (mWd cA β c0 c1 wr th (N, R, Fr, inc)) [.ref (β 0), .int p0] (fun r (_ : Unit) => r = (op_lot 9 (N, R, Fr, inc) p0).2.1) (fun _ => mWd cA β c0 c1 wr (nI (op_lot 9 (N, R, Fr, inc) p0).1) (op_lot 9 (N, R, Fr, inc) p0).2.2) 0 0 := by
  refine k_bodyI (by decide) (Nat.le_of_ble_eq_true rfl) (fun p e s m args below meth c ls F hW hl => ?_)
  obtain ⟨hx, hb, hr, hml, hown, hts, hlocks, hname⟩ := id F
  have hl : lv_has ls 2 [(0, .ref (β 0)), (1, .int p0)] := hl
  refine lv_aload_n hx hb dX5_stateOf_0 rfl (lv_at hl 0 rfl) ?_
  refine lv_aload_n hx hb dX5_stateOf_1 rfl (lv_at hl 0 rfl) ?_
  refine lv_iload_n hx hb dX5_stateOf_2 rfl (lv_at hl 1 rfl) ?_
  refine k_callVi (as := [.int p0]) (rest := [.ref (β 0)]) (b := (β 0)) (ci := 7) (q0 := 2) F hW (met_X5_isLot l D cA β c0 c1 wr th N R Fr inc p0) rfl ML_X5_110 IM_X5_isLot SE_X5_isLot IN_X5 CO_X5_isLot hdV_X5_isLot rfl rfl ⟨(Nat.le_of_ble_eq_true rfl), (Nat.le_of_ble_eq_true rfl)⟩ rfl rfl (rfl) rfl rfl hl.1 (Nat.le_of_ble_eq_true rfl) dX5_stateOf_3 ⟨(Nat.le_of_ble_eq_true rfl), (Nat.le_of_ble_eq_true rfl)⟩ (fun r_132 u H locs hw hW => ?_)
  subst hw
  cases hq_133 : isIx (N 0 1) p0
  · refine lv_if_eq (tgt := 13) hx hb dX5_stateOf_6 (by decide) (fun _ => ?_) (fun h => absurd (by decide) h)
    refine lv_iconst (v := 1) hx hb dX5_stateOf_13 (by decide) ?_
    refine k_callVi (as := [.int 1]) (rest := []) (b := (β 0)) (ci := 7) (q0 := 2) F hW (met_X5_goesOn l D cA β c0 c1 wr th N R Fr inc 1) rfl ML_X5_93 IM_X5_goesOn SE_X5_goesOn IN_X5 CO_X5_goesOn hdV_X5_goesOn rfl rfl ⟨(Nat.le_of_ble_eq_true rfl), (Nat.le_of_ble_eq_true rfl)⟩ rfl rfl (rfl) rfl rfl hl.1 (Nat.le_of_ble_eq_true rfl) dX5_stateOf_14 ⟨(Nat.le_of_ble_eq_true rfl), (Nat.le_of_ble_eq_true rfl)⟩ (fun r_134 u H locs hw hW => ?_)
    subst hw
    refine lv_if_eq (tgt := 29) hx hb dX5_stateOf_17 (by decide) (fun _ => ?_) (fun h => absurd (by decide) h)
    refine lv_iconst (v := 0) hx hb dX5_stateOf_29 (by decide) ?_
    have hop : op_lot 9 (N, R, Fr, inc) p0 = (1, 0, (N, R, Fr, inc)) := by simp [op_lot, hq_133]
    exact k_zret () F (by first | rfl | exact hz) (hW.eq (by rw [hop]; rfl)) (by rw [hop]) dX5_stateOf_30 (Nat.le_of_ble_eq_true rfl) (Nat.le_of_ble_eq_true rfl)
  · refine lv_if_eq (tgt := 13) hx hb dX5_stateOf_6 (by decide) (fun h => absurd h (by decide)) (fun _ => ?_)
    refine lv_iconst (v := 0) hx hb dX5_stateOf_9 (by decide) ?_
    refine lv_goto (tgt := 14) hx hb dX5_stateOf_10 (by decide) ?_
    refine k_callVi (as := [.int 0]) (rest := []) (b := (β 0)) (ci := 7) (q0 := 2) F hW (met_X5_goesOn l D cA β c0 c1 wr th N R Fr inc 0) rfl ML_X5_93 IM_X5_goesOn SE_X5_goesOn IN_X5 CO_X5_goesOn hdV_X5_goesOn rfl rfl ⟨(Nat.le_of_ble_eq_true rfl), (Nat.le_of_ble_eq_true rfl)⟩ rfl rfl (rfl) rfl rfl hl.1 (Nat.le_of_ble_eq_true rfl) dX5_stateOf_14 ⟨(Nat.le_of_ble_eq_true rfl), (Nat.le_of_ble_eq_true rfl)⟩ (fun r_135 u H locs hw hW => ?_)
    subst hw
    refine lv_if_eq (tgt := 29) hx hb dX5_stateOf_17 (by decide) (fun h => absurd h (by decide)) (fun _ => ?_)
    refine lv_aload_n hx hb dX5_stateOf_20 rfl (lv_at hl 0 rfl) ?_
    refine k_get (v := .ref (β 7)) F hW inX5 rfl 2 rfl rfl 11 (by decide) FL_X5_29 rfl rfl dX5_stateOf_21 ?_
    refine lv_iload_n hx hb dX5_stateOf_24 rfl (lv_at hl 1 rfl) ?_
    have hz := stN (hst _ (ix_lt hq_133 (by omega)).1)
    refine k_cald (v := R 9 (ix p0) 0) F hW 9 rfl (in1 hq_133 hN (by decide)) (rfl) dX5_stateOf_25 ?_
    refine lv_goto (tgt := 30) hx hb dX5_stateOf_26 (by decide) ?_
    have hop : op_lot 9 (N, R, Fr, inc) p0 = (0, (R 9 (ix p0) 0), (N, R, Fr, inc)) := by simp [op_lot, hq_133]
    exact k_zret () F (by first | rfl | exact hz) (hW.eq (by rw [hop]; rfl)) (by rw [hop]) dX5_stateOf_30 (Nat.le_of_ble_eq_true rfl) (Nat.le_of_ble_eq_true rfl)

set_option maxHeartbeats 4000000 in
set_option maxRecDepth 100000 in
theorem met_X5_fresh (l : Launch) (D : va_G) (cA : Nat → ClassId) (β : Nat → Nat) (c0 c1 : Nat × va_E) (wr : va_W) (th : Int32) (N : Nat → Nat → Nat) (R : Nat → Nat → Nat → Int32) (Fr : Nat → UInt32) (inc : Int64) (p0 : Int32) (hN : N 0 1 ≤ 20) : MetF l yX5_fresh (.code yX5_fresh cX5_fresh 2 (some .float) :: LW) ({ frames := 2, cells := 0, slots := 0, locals := 43 }) D cA (mWd cA β c0 c1 wr th (N, R, Fr, inc)) [.ref (β 0), .int p0] (fun r (_ : Unit) => r = (op_fresh (N, R, Fr, inc) p0).2.1) (fun _ => mWd cA β c0 c1 wr (nI (op_fresh (N, R, Fr, inc) p0).1) (op_fresh (N, R, Fr, inc) p0).2.2) 0 0 := by
  refine k_bodyF (by decide) (Nat.le_of_ble_eq_true rfl) (fun p e s m args below meth c ls F hW hl => ?_)
  obtain ⟨hx, hb, hr, hml, hown, hts, hlocks, hname⟩ := id F
  have hl : lv_has ls 2 [(0, .ref (β 0)), (1, .int p0)] := hl
  refine lv_aload_n hx hb dX5_fresh_0 rfl (lv_at hl 0 rfl) ?_
  refine lv_aload_n hx hb dX5_fresh_1 rfl (lv_at hl 0 rfl) ?_
  refine lv_iload_n hx hb dX5_fresh_2 rfl (lv_at hl 1 rfl) ?_
  refine k_callVi (as := [.int p0]) (rest := [.ref (β 0)]) (b := (β 0)) (ci := 7) (q0 := 2) F hW (met_X5_isLot l D cA β c0 c1 wr th N R Fr inc p0) rfl ML_X5_110 IM_X5_isLot SE_X5_isLot IN_X5 CO_X5_isLot hdV_X5_isLot rfl rfl ⟨(Nat.le_of_ble_eq_true rfl), (Nat.le_of_ble_eq_true rfl)⟩ rfl rfl (rfl) rfl rfl hl.1 (Nat.le_of_ble_eq_true rfl) dX5_fresh_3 ⟨(Nat.le_of_ble_eq_true rfl), (Nat.le_of_ble_eq_true rfl)⟩ (fun r_136 u H locs hw hW => ?_)
  subst hw
  cases hq_137 : isIx (N 0 1) p0
  · refine lv_if_eq (tgt := 13) hx hb dX5_fresh_6 (by decide) (fun _ => ?_) (fun h => absurd (by decide) h)
    refine lv_iconst (v := 1) hx hb dX5_fresh_13 (by decide) ?_
    refine k_callVi (as := [.int 1]) (rest := []) (b := (β 0)) (ci := 7) (q0 := 2) F hW (met_X5_goesOn l D cA β c0 c1 wr th N R Fr inc 1) rfl ML_X5_93 IM_X5_goesOn SE_X5_goesOn IN_X5 CO_X5_goesOn hdV_X5_goesOn rfl rfl ⟨(Nat.le_of_ble_eq_true rfl), (Nat.le_of_ble_eq_true rfl)⟩ rfl rfl (rfl) rfl rfl hl.1 (Nat.le_of_ble_eq_true rfl) dX5_fresh_14 ⟨(Nat.le_of_ble_eq_true rfl), (Nat.le_of_ble_eq_true rfl)⟩ (fun r_138 u H locs hw hW => ?_)
    subst hw
    refine lv_if_eq (tgt := 29) hx hb dX5_fresh_17 (by decide) (fun _ => ?_) (fun h => absurd (by decide) h)
    refine lv_fconst0 hx hb dX5_fresh_29 ?_
    have hop : op_fresh (N, R, Fr, inc) p0 = (1, FP.fconst0, (N, R, Fr, inc)) := by simp [op_fresh, hq_137, show FP.fconst0 = 0 from rfl]
    exact k_fret () F (hW.eq (by rw [hop]; rfl)) (by rw [hop]) dX5_fresh_30 (Nat.le_of_ble_eq_true rfl) (Nat.le_of_ble_eq_true rfl)
  · refine lv_if_eq (tgt := 13) hx hb dX5_fresh_6 (by decide) (fun h => absurd h (by decide)) (fun _ => ?_)
    refine lv_iconst (v := 0) hx hb dX5_fresh_9 (by decide) ?_
    refine lv_goto (tgt := 14) hx hb dX5_fresh_10 (by decide) ?_
    refine k_callVi (as := [.int 0]) (rest := []) (b := (β 0)) (ci := 7) (q0 := 2) F hW (met_X5_goesOn l D cA β c0 c1 wr th N R Fr inc 0) rfl ML_X5_93 IM_X5_goesOn SE_X5_goesOn IN_X5 CO_X5_goesOn hdV_X5_goesOn rfl rfl ⟨(Nat.le_of_ble_eq_true rfl), (Nat.le_of_ble_eq_true rfl)⟩ rfl rfl (rfl) rfl rfl hl.1 (Nat.le_of_ble_eq_true rfl) dX5_fresh_14 ⟨(Nat.le_of_ble_eq_true rfl), (Nat.le_of_ble_eq_true rfl)⟩ (fun r_139 u H locs hw hW => ?_)
    subst hw
    refine lv_if_eq (tgt := 29) hx hb dX5_fresh_17 (by decide) (fun h => absurd h (by decide)) (fun _ => ?_)
    refine lv_aload_n hx hb dX5_fresh_20 rfl (lv_at hl 0 rfl) ?_
    refine k_get (v := .ref (β 8)) F hW inX5 rfl 2 rfl rfl 12 (by decide) FL_X5_33 rfl rfl dX5_fresh_21 ?_
    refine lv_iload_n hx hb dX5_fresh_24 rfl (lv_at hl 1 rfl) ?_
    refine k_fald (v := Fr (ix p0)) F hW 10 rfl (in1 hq_137 hN (by decide)) (rfl) dX5_fresh_25 ?_
    refine lv_goto (tgt := 30) hx hb dX5_fresh_26 (by decide) ?_
    have hop : op_fresh (N, R, Fr, inc) p0 = (0, (Fr (ix p0)), (N, R, Fr, inc)) := by simp [op_fresh, hq_137, show FP.fconst0 = 0 from rfl]
    exact k_fret () F (hW.eq (by rw [hop]; rfl)) (by rw [hop]) dX5_fresh_30 (Nat.le_of_ble_eq_true rfl) (Nat.le_of_ble_eq_true rfl)

set_option maxHeartbeats 4000000 in
set_option maxRecDepth 100000 in
theorem met_X5_beyond (l : Launch) (D : va_G) (cA : Nat → ClassId) (β : Nat → Nat) (c0 c1 : Nat × va_E) (wr : va_W) (th : Int32) (N : Nat → Nat → Nat) (R : Nat → Nat → Nat → Int32) (Fr : Nat → UInt32) (inc : Int64) : MetI l yX5_beyond (.code yX5_beyond cX5_beyond 1 (some .int) :: LW) ({ frames := 0, cells := 0, slots := 0, locals := 0 }) D cA (mWd cA β c0 c1 wr th (N, R, Fr, inc)) [.ref (β 0)] (fun r (_ : Unit) => r = R 0 0 0) (fun _ => mWd cA β c0 c1 wr 0 (N, R, Fr, inc)) 0 0 := by
  refine k_bodyI (by decide) (Nat.le_of_ble_eq_true rfl) (fun p e s m args below meth c ls F hW hl => ?_)
  obtain ⟨hx, hb, hr, hml, hown, hts, hlocks, hname⟩ := id F
  have hl : lv_has ls 1 [(0, .ref (β 0))] := hl
  refine lv_aload_n hx hb dX5_beyond_0 rfl (lv_at hl 0 rfl) ?_
  refine lv_iconst (v := 0) hx hb dX5_beyond_1 (by decide) ?_
  refine k_put F hW inX5 tyX5_ok nmX5 rfl 2 rfl rfl 0 (by decide) FL_X5_74 rfl rfl rfl rfl rfl (Nat.le_of_ble_eq_true rfl) (mWd cA β c0 c1 wr 0 (N, R, Fr, inc)) rfl dX5_beyond_2 (fun H locs hW => ?_)
  refine lv_aload_n hx hb dX5_beyond_5 rfl (lv_at hl 0 rfl) ?_
  refine k_get (v := .int (R 0 0 0)) F hW inX5 rfl 2 rfl rfl 5 (by decide) FL_X5_103 rfl rfl dX5_beyond_6 ?_
  exact k_iret () F (hW) (rfl) dX5_beyond_9 (Nat.le_of_ble_eq_true rfl) (Nat.le_of_ble_eq_true rfl)

set_option maxHeartbeats 4000000 in
set_option maxRecDepth 100000 in
theorem met_X5_time (l : Launch) (D : va_G) (cA : Nat → ClassId) (β : Nat → Nat) (c0 c1 : Nat × va_E) (wr : va_W) (th : Int32) (N : Nat → Nat → Nat) (R : Nat → Nat → Nat → Int32) (Fr : Nat → UInt32) (inc : Int64) : MetI l yX5_time (.code yX5_time cX5_time 1 (some .int) :: LW) ({ frames := 0, cells := 0, slots := 0, locals := 0 }) D cA (mWd cA β c0 c1 wr th (N, R, Fr, inc)) [.ref (β 0)] (fun r (_ : Unit) => r = nI (N 0 5)) (fun _ => mWd cA β c0 c1 wr 0 (N, R, Fr, inc)) 0 0 := by
  refine k_bodyI (by decide) (Nat.le_of_ble_eq_true rfl) (fun p e s m args below meth c ls F hW hl => ?_)
  obtain ⟨hx, hb, hr, hml, hown, hts, hlocks, hname⟩ := id F
  have hl : lv_has ls 1 [(0, .ref (β 0))] := hl
  refine lv_aload_n hx hb dX5_time_0 rfl (lv_at hl 0 rfl) ?_
  refine lv_iconst (v := 0) hx hb dX5_time_1 (by decide) ?_
  refine k_put F hW inX5 tyX5_ok nmX5 rfl 2 rfl rfl 0 (by decide) FL_X5_74 rfl rfl rfl rfl rfl (Nat.le_of_ble_eq_true rfl) (mWd cA β c0 c1 wr 0 (N, R, Fr, inc)) rfl dX5_time_2 (fun H locs hW => ?_)
  refine lv_aload_n hx hb dX5_time_5 rfl (lv_at hl 0 rfl) ?_
  refine k_get (v := .int (nI (N 0 5))) F hW inX5 rfl 2 rfl rfl 16 (by decide) FL_X5_135 rfl rfl dX5_time_6 ?_
  exact k_iret () F (hW) (rfl) dX5_time_9 (Nat.le_of_ble_eq_true rfl) (Nat.le_of_ble_eq_true rfl)

set_option maxHeartbeats 4000000 in
set_option maxRecDepth 100000 in
theorem met_X5_income (l : Launch) (D : va_G) (cA : Nat → ClassId) (β : Nat → Nat) (c0 c1 : Nat × va_E) (wr : va_W) (th : Int32) (N : Nat → Nat → Nat) (R : Nat → Nat → Nat → Int32) (Fr : Nat → UInt32) (inc : Int64) : MetL l yX5_income (.code yX5_income cX5_income 1 (some .long) :: LW) ({ frames := 0, cells := 0, slots := 0, locals := 0 }) D cA (mWd cA β c0 c1 wr th (N, R, Fr, inc)) [.ref (β 0)] (fun r (_ : Unit) => r = inc) (fun _ => mWd cA β c0 c1 wr 0 (N, R, Fr, inc)) 0 0 := by
  refine k_bodyL (by decide) (Nat.le_of_ble_eq_true rfl) (fun p e s m args below meth c ls F hW hl => ?_)
  obtain ⟨hx, hb, hr, hml, hown, hts, hlocks, hname⟩ := id F
  have hl : lv_has ls 1 [(0, .ref (β 0))] := hl
  refine lv_aload_n hx hb dX5_income_0 rfl (lv_at hl 0 rfl) ?_
  refine lv_iconst (v := 0) hx hb dX5_income_1 (by decide) ?_
  refine k_put F hW inX5 tyX5_ok nmX5 rfl 2 rfl rfl 0 (by decide) FL_X5_74 rfl rfl rfl rfl rfl (Nat.le_of_ble_eq_true rfl) (mWd cA β c0 c1 wr 0 (N, R, Fr, inc)) rfl dX5_income_2 (fun H locs hW => ?_)
  refine lv_aload_n hx hb dX5_income_5 rfl (lv_at hl 0 rfl) ?_
  refine k_get (v := .long inc) F hW inX5 rfl 2 rfl rfl 29 (by decide) FL_X5_127 rfl rfl dX5_income_6 ?_
  exact k_lret () F (hW) (rfl) dX5_income_9 (Nat.le_of_ble_eq_true rfl) (Nat.le_of_ble_eq_true rfl)

set_option maxHeartbeats 4000000 in
set_option maxRecDepth 100000 in
theorem met_X5_incomeByLots (l : Launch) (D : va_G) (cA : Nat → ClassId) (β : Nat → Nat) (c0 c1 : Nat × va_E) (wr : va_W) (th : Int32) (N : Nat → Nat → Nat) (R : Nat → Nat → Nat → Int32) (Fr : Nat → UInt32) (inc : Int64) : MetL l yX5_incomeByLots (.code yX5_incomeByLots cX5_incomeByLots 1 (some .long) :: LW) ({ frames := 0, cells := 0, slots := 0, locals := 0 }) D cA (mWd cA β c0 c1 wr th (N, R, Fr, inc)) [.ref (β 0)] (fun r (_ : Unit) => r = inc) (fun _ => mWd cA β c0 c1 wr 0 (N, R, Fr, inc)) 0 0 := by
  refine k_bodyL (by decide) (Nat.le_of_ble_eq_true rfl) (fun p e s m args below meth c ls F hW hl => ?_)
  obtain ⟨hx, hb, hr, hml, hown, hts, hlocks, hname⟩ := id F
  have hl : lv_has ls 1 [(0, .ref (β 0))] := hl
  refine lv_aload_n hx hb dX5_incomeByLots_0 rfl (lv_at hl 0 rfl) ?_
  refine lv_iconst (v := 0) hx hb dX5_incomeByLots_1 (by decide) ?_
  refine k_put F hW inX5 tyX5_ok nmX5 rfl 2 rfl rfl 0 (by decide) FL_X5_74 rfl rfl rfl rfl rfl (Nat.le_of_ble_eq_true rfl) (mWd cA β c0 c1 wr 0 (N, R, Fr, inc)) rfl dX5_incomeByLots_2 (fun H locs hW => ?_)
  refine lv_aload_n hx hb dX5_incomeByLots_5 rfl (lv_at hl 0 rfl) ?_
  refine k_get (v := .long inc) F hW inX5 rfl 2 rfl rfl 29 (by decide) FL_X5_127 rfl rfl dX5_incomeByLots_6 ?_
  exact k_lret () F (hW) (rfl) dX5_incomeByLots_9 (Nat.le_of_ble_eq_true rfl) (Nat.le_of_ble_eq_true rfl)

set_option maxHeartbeats 4000000 in
set_option maxRecDepth 100000 in
theorem met_X5_isSound (l : Launch) (D : va_G) (cA : Nat → ClassId) (β : Nat → Nat) (c0 c1 : Nat × va_E) (wr : va_W) (th : Int32) (N : Nat → Nat → Nat) (R : Nat → Nat → Nat → Int32) (Fr : Nat → UInt32) (inc : Int64) : MetI l yX5_isSound (.code yX5_isSound cX5_isSound 1 (some .boolean) :: LW) ({ frames := 0, cells := 0, slots := 0, locals := 0 }) D cA (mWd cA β c0 c1 wr th (N, R, Fr, inc)) [.ref (β 0)] (fun r (_ : Unit) => r = 1) (fun _ => mWd cA β c0 c1 wr 0 (N, R, Fr, inc)) 0 0 := by
  refine k_bodyI (by decide) (Nat.le_of_ble_eq_true rfl) (fun p e s m args below meth c ls F hW hl => ?_)
  obtain ⟨hx, hb, hr, hml, hown, hts, hlocks, hname⟩ := id F
  have hl : lv_has ls 1 [(0, .ref (β 0))] := hl
  refine lv_aload_n hx hb dX5_isSound_0 rfl (lv_at hl 0 rfl) ?_
  refine lv_iconst (v := 0) hx hb dX5_isSound_1 (by decide) ?_
  refine k_put F hW inX5 tyX5_ok nmX5 rfl 2 rfl rfl 0 (by decide) FL_X5_74 rfl rfl rfl rfl rfl (Nat.le_of_ble_eq_true rfl) (mWd cA β c0 c1 wr 0 (N, R, Fr, inc)) rfl dX5_isSound_2 (fun H locs hW => ?_)
  refine lv_iconst (v := 1) hx hb dX5_isSound_5 (by decide) ?_
  exact k_zret () F (rfl) (hW) (rfl) dX5_isSound_6 (Nat.le_of_ble_eq_true rfl) (Nat.le_of_ble_eq_true rfl)

set_option maxHeartbeats 4000000 in
set_option maxRecDepth 100000 in
theorem met_X5_isSold (l : Launch) (D : va_G) (cA : Nat → ClassId) (β : Nat → Nat) (c0 c1 : Nat × va_E) (wr : va_W) (th : Int32) (N : Nat → Nat → Nat) (R : Nat → Nat → Nat → Int32) (Fr : Nat → UInt32) (inc : Int64) (v : Int32) (hN : N 0 1 ≤ 20) (hv : isIx (N 0 1) v = true) : MetI l yX5_isSold (.code yX5_isSold cX5_isSold 2 (some .boolean) :: LW) ({ frames := 0, cells := 0, slots := 0, locals := 0 }) D cA (mWd cA β c0 c1 wr th (N, R, Fr, inc)) [.ref (β 0), .int v] (fun r (_ : Unit) => r = b2i (isSold R (ix v))) (fun _ => mWd cA β c0 c1 wr th (N, R, Fr, inc)) 0 0 := by
  refine k_bodyI (by decide) (Nat.le_of_ble_eq_true rfl) (fun p e s m args below meth c ls F hW hl => ?_)
  obtain ⟨hx, hb, hr, hml, hown, hts, hlocks, hname⟩ := id F
  have hl : lv_has ls 2 [(0, .ref (β 0)), (1, .int v)] := hl
  refine lv_aload_n hx hb dX5_isSold_0 rfl (lv_at hl 0 rfl) ?_
  refine k_get (v := .ref (β 7)) F hW inX5 rfl 2 rfl rfl 11 (by decide) FL_X5_29 rfl rfl dX5_isSold_1 ?_
  refine lv_iload_n hx hb dX5_isSold_4 rfl (lv_at hl 1 rfl) ?_
  refine k_cald (v := R 9 (ix v) 0) F hW 9 rfl (in1 hv hN (by decide)) (rfl) dX5_isSold_5 ?_
  refine lv_bipush (v := 115) hx hb dX5_isSold_6 (by decide) ?_
  refine lv_icmp_eq (tgt := 33) hx hb dX5_isSold_8 (by decide) (fun h_a => ?_) (fun h_a => ?_)
  · refine lv_iconst (v := 1) hx hb dX5_isSold_33 (by decide) ?_
    refine lv_goto (tgt := 38) hx hb dX5_isSold_34 (by decide) ?_
    exact k_zret () F (by rfl) (hW) (by simp [isSold, b2i, h_a]) dX5_isSold_38 (Nat.le_of_ble_eq_true rfl) (Nat.le_of_ble_eq_true rfl)
  · refine lv_aload_n hx hb dX5_isSold_11 rfl (lv_at hl 0 rfl) ?_
    refine k_get (v := .ref (β 7)) F hW inX5 rfl 2 rfl rfl 11 (by decide) FL_X5_29 rfl rfl dX5_isSold_12 ?_
    refine lv_iload_n hx hb dX5_isSold_15 rfl (lv_at hl 1 rfl) ?_
    refine k_cald (v := R 9 (ix v) 0) F hW 9 rfl (in1 hv hN (by decide)) (rfl) dX5_isSold_16 ?_
    refine lv_bipush (v := 108) hx hb dX5_isSold_17 (by decide) ?_
    refine lv_icmp_eq (tgt := 33) hx hb dX5_isSold_19 (by decide) (fun h_b => ?_) (fun h_b => ?_)
    · refine lv_iconst (v := 1) hx hb dX5_isSold_33 (by decide) ?_
      refine lv_goto (tgt := 38) hx hb dX5_isSold_34 (by decide) ?_
      exact k_zret () F (by rfl) (hW) (by simp [isSold, b2i, h_a, h_b]) dX5_isSold_38 (Nat.le_of_ble_eq_true rfl) (Nat.le_of_ble_eq_true rfl)
    · refine lv_aload_n hx hb dX5_isSold_22 rfl (lv_at hl 0 rfl) ?_
      refine k_get (v := .ref (β 7)) F hW inX5 rfl 2 rfl rfl 11 (by decide) FL_X5_29 rfl rfl dX5_isSold_23 ?_
      refine lv_iload_n hx hb dX5_isSold_26 rfl (lv_at hl 1 rfl) ?_
      refine k_cald (v := R 9 (ix v) 0) F hW 9 rfl (in1 hv hN (by decide)) (rfl) dX5_isSold_27 ?_
      refine lv_bipush (v := 100) hx hb dX5_isSold_28 (by decide) ?_
      refine lv_icmp_ne (tgt := 37) hx hb dX5_isSold_30 (by decide) (fun h_d => ?_) (fun h_d => ?_)
      · refine lv_iconst (v := 0) hx hb dX5_isSold_37 (by decide) ?_
        exact k_zret () F (by rfl) (hW) (by simp [isSold, b2i, h_a, h_b, h_d]) dX5_isSold_38 (Nat.le_of_ble_eq_true rfl) (Nat.le_of_ble_eq_true rfl)
      · refine lv_iconst (v := 1) hx hb dX5_isSold_33 (by decide) ?_
        refine lv_goto (tgt := 38) hx hb dX5_isSold_34 (by decide) ?_
        exact k_zret () F (by rfl) (hW) (by simp [isSold, b2i, h_a, h_b, h_d]) dX5_isSold_38 (Nat.le_of_ble_eq_true rfl) (Nat.le_of_ble_eq_true rfl)
end
