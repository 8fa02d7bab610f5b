/-! The codes of the operations; what does not return changes nothing -/
theorem fault_le3 {N : Nat → Nat → Nat} {R : Nat → Nat → Nat → Int32} {Fr : Nat → UInt32} {p : Int32} : faultOf N R Fr p ≤ 3 := by
  unfold faultOf
  split
  · omega
  · split
    · split <;> omega
    · omega
theorem ce_addBoat (N : Nat → Nat → Nat) (R : Nat → Nat → Nat → Int32) (Fr : Nat → UInt32) (inc : Int64) (p0 p1 p2 p3 : Int32) : (op_addBoat (N, R, Fr, inc) p0 p1 p2 p3).1 ≤ 2 ∧ (¬ (op_addBoat (N, R, Fr, inc) p0 p1 p2 p3).1 = 0 → (op_addBoat (N, R, Fr, inc) p0 p1 p2 p3).2.2 = (N, R, Fr, inc)) := by
  simp only [op_addBoat]
  repeat' split
  all_goals first | exact ⟨Nat.le_of_ble_eq_true rfl, fun _ => rfl⟩ | exact ⟨Nat.le_of_ble_eq_true rfl, fun h => absurd rfl h⟩
theorem n2_addBoat (N : Nat → Nat → Nat) (R : Nat → Nat → Nat → Int32) (Fr : Nat → UInt32) (inc : Int64) (p0 p1 p2 p3 : Int32) : (op_addBoat (N, R, Fr, inc) p0 p1 p2 p3).1 = 0 → (op_addBoat (N, R, Fr, inc) p0 p1 p2 p3).2.2.1 2 = (up2 N 2 0 (N 0 0 + 1)) 2 := by
  simp only [op_addBoat]
  repeat' split
  all_goals first | (intro h; simp at h; done) | (intro _; funext i; simp [up2])
theorem ce_land (N : Nat → Nat → Nat) (R : Nat → Nat → Nat → Int32) (Fr : Nat → UInt32) (inc : Int64) (p0 p1 p2 p3 p4 : Int32) : (op_land (N, R, Fr, inc) p0 p1 p2 p3 p4).1 ≤ 4 ∧ (¬ (op_land (N, R, Fr, inc) p0 p1 p2 p3 p4).1 = 0 → (op_land (N, R, Fr, inc) p0 p1 p2 p3 p4).2.2 = (N, R, Fr, inc)) := by
  simp only [op_land]
  repeat' split
  all_goals first | exact ⟨Nat.le_of_ble_eq_true rfl, fun _ => rfl⟩ | exact ⟨Nat.le_of_ble_eq_true rfl, fun h => absurd rfl h⟩
theorem n2_land (N : Nat → Nat → Nat) (R : Nat → Nat → Nat → Int32) (Fr : Nat → UInt32) (inc : Int64) (p0 p1 p2 p3 p4 : Int32) : (op_land (N, R, Fr, inc) p0 p1 p2 p3 p4).1 = 0 → (op_land (N, R, Fr, inc) p0 p1 p2 p3 p4).2.2.1 2 = (up2 N 2 1 (N 0 1 + 1)) 2 := by
  simp only [op_land]
  repeat' split
  all_goals first | (intro h; simp at h; done) | (intro _; funext i; simp [up2])
theorem ce_moveQuota (N : Nat → Nat → Nat) (R : Nat → Nat → Nat → Int32) (Fr : Nat → UInt32) (inc : Int64) (p0 p1 p2 p3 : Int32) : (op_moveQuota (N, R, Fr, inc) p0 p1 p2 p3).1 ≤ 3 ∧ (¬ (op_moveQuota (N, R, Fr, inc) p0 p1 p2 p3).1 = 0 → (op_moveQuota (N, R, Fr, inc) p0 p1 p2 p3).2.2 = (N, R, Fr, inc)) := by
  simp only [op_moveQuota]
  repeat' split
  all_goals first | exact ⟨Nat.le_of_ble_eq_true rfl, fun _ => rfl⟩ | exact ⟨Nat.le_of_ble_eq_true rfl, fun h => absurd rfl h⟩
theorem n2_moveQuota (N : Nat → Nat → Nat) (R : Nat → Nat → Nat → Int32) (Fr : Nat → UInt32) (inc : Int64) (p0 p1 p2 p3 : Int32) : (op_moveQuota (N, R, Fr, inc) p0 p1 p2 p3).2.2.1 2 = N 2 := by
  simp only [op_moveQuota]
  repeat' split
  all_goals first | rfl | (funext i; simp [up2])
theorem ce_quota (N : Nat → Nat → Nat) (R : Nat → Nat → Nat → Int32) (Fr : Nat → UInt32) (inc : Int64) (p0 p1 : Int32) : (op_quota (N, R, Fr, inc) p0 p1).1 ≤ 2 ∧ (¬ (op_quota (N, R, Fr, inc) p0 p1).1 = 0 → (op_quota (N, R, Fr, inc) p0 p1).2.2 = (N, R, Fr, inc)) := by
  simp only [op_quota]
  repeat' split
  all_goals first | exact ⟨Nat.le_of_ble_eq_true rfl, fun _ => rfl⟩ | exact ⟨Nat.le_of_ble_eq_true rfl, fun h => absurd rfl h⟩
theorem n2_quota (N : Nat → Nat → Nat) (R : Nat → Nat → Nat → Int32) (Fr : Nat → UInt32) (inc : Int64) (p0 p1 : Int32) : (op_quota (N, R, Fr, inc) p0 p1).2.2.1 2 = N 2 := by
  simp only [op_quota]
  repeat' split
  all_goals first | rfl | (funext i; simp [up2])
theorem ce_quotaAt (N : Nat → Nat → Nat) (R : Nat → Nat → Nat → Int32) (Fr : Nat → UInt32) (inc : Int64) (p0 p1 p2 : Int32) : (op_quotaAt (N, R, Fr, inc) p0 p1 p2).1 ≤ 3 ∧ (¬ (op_quotaAt (N, R, Fr, inc) p0 p1 p2).1 = 0 → (op_quotaAt (N, R, Fr, inc) p0 p1 p2).2.2 = (N, R, Fr, inc)) := by
  simp only [op_quotaAt]
  repeat' split
  all_goals first | exact ⟨Nat.le_of_ble_eq_true rfl, fun _ => rfl⟩ | exact ⟨Nat.le_of_ble_eq_true rfl, fun h => absurd rfl h⟩
theorem n2_quotaAt (N : Nat → Nat → Nat) (R : Nat → Nat → Nat → Int32) (Fr : Nat → UInt32) (inc : Int64) (p0 p1 p2 : Int32) : (op_quotaAt (N, R, Fr, inc) p0 p1 p2).2.2.1 2 = N 2 := by
  simp only [op_quotaAt]
  repeat' split
  all_goals first | rfl | (funext i; simp [up2])
theorem ce_endDay (N : Nat → Nat → Nat) (R : Nat → Nat → Nat → Int32) (Fr : Nat → UInt32) (inc : Int64) : (op_endDay (N, R, Fr, inc)).1 ≤ 1 ∧ (¬ (op_endDay (N, R, Fr, inc)).1 = 0 → (op_endDay (N, R, Fr, inc)).2.2 = (N, R, Fr, inc)) := by
  simp only [op_endDay]
  repeat' split
  all_goals first | exact ⟨Nat.le_of_ble_eq_true rfl, fun _ => rfl⟩ | exact ⟨Nat.le_of_ble_eq_true rfl, fun h => absurd rfl h⟩
theorem n2_endDay (N : Nat → Nat → Nat) (R : Nat → Nat → Nat → Int32) (Fr : Nat → UInt32) (inc : Int64) : (op_endDay (N, R, Fr, inc)).2.2.1 2 = N 2 := by
  simp only [op_endDay]
  repeat' split
  all_goals first | rfl | (funext i; simp [up2])
theorem ce_lot (k : Nat) (N : Nat → Nat → Nat) (R : Nat → Nat → Nat → Int32) (Fr : Nat → UInt32) (inc : Int64) (p0 : Int32) : (op_lot k (N, R, Fr, inc) p0).1 ≤ 1 ∧ (¬ (op_lot k (N, R, Fr, inc) p0).1 = 0 → (op_lot k (N, R, Fr, inc) p0).2.2 = (N, R, Fr, inc)) := by
  simp only [op_lot]
  repeat' split
  all_goals first | exact ⟨Nat.le_of_ble_eq_true rfl, fun _ => rfl⟩ | exact ⟨Nat.le_of_ble_eq_true rfl, fun h => absurd rfl h⟩
theorem n2_lot (k : Nat) (N : Nat → Nat → Nat) (R : Nat → Nat → Nat → Int32) (Fr : Nat → UInt32) (inc : Int64) (p0 : Int32) : (op_lot k (N, R, Fr, inc) p0).2.2.1 2 = N 2 := by
  simp only [op_lot]
  repeat' split
  all_goals first | rfl | (funext i; simp [up2])
theorem ce_fresh (N : Nat → Nat → Nat) (R : Nat → Nat → Nat → Int32) (Fr : Nat → UInt32) (inc : Int64) (p0 : Int32) : (op_fresh (N, R, Fr, inc) p0).1 ≤ 1 ∧ (¬ (op_fresh (N, R, Fr, inc) p0).1 = 0 → (op_fresh (N, R, Fr, inc) p0).2.2 = (N, R, Fr, inc)) := by
  simp only [op_fresh]
  repeat' split
  all_goals first | exact ⟨Nat.le_of_ble_eq_true rfl, fun _ => rfl⟩ | exact ⟨Nat.le_of_ble_eq_true rfl, fun h => absurd rfl h⟩
theorem n2_fresh (N : Nat → Nat → Nat) (R : Nat → Nat → Nat → Int32) (Fr : Nat → UInt32) (inc : Int64) (p0 : Int32) : (op_fresh (N, R, Fr, inc) p0).2.2.1 2 = N 2 := by
  simp only [op_fresh]
  repeat' split
  all_goals first | rfl | (funext i; simp [up2])
theorem ce_freshBits (N : Nat → Nat → Nat) (R : Nat → Nat → Nat → Int32) (Fr : Nat → UInt32) (inc : Int64) (p0 : Int32) : (op_freshBits (N, R, Fr, inc) p0).1 ≤ 1 ∧ (¬ (op_freshBits (N, R, Fr, inc) p0).1 = 0 → (op_freshBits (N, R, Fr, inc) p0).2.2 = (N, R, Fr, inc)) := by
  simp only [op_freshBits]
  repeat' split
  all_goals first | exact ⟨Nat.le_of_ble_eq_true rfl, fun _ => rfl⟩ | exact ⟨Nat.le_of_ble_eq_true rfl, fun h => absurd rfl h⟩
theorem n2_freshBits (N : Nat → Nat → Nat) (R : Nat → Nat → Nat → Int32) (Fr : Nat → UInt32) (inc : Int64) (p0 : Int32) : (op_freshBits (N, R, Fr, inc) p0).2.2.1 2 = N 2 := by
  simp only [op_freshBits]
  repeat' split
  all_goals first | rfl | (funext i; simp [up2])
theorem ce_ice (N : Nat → Nat → Nat) (R : Nat → Nat → Nat → Int32) (Fr : Nat → UInt32) (inc : Int64) (p0 p1 : Int32) : (op_ice (N, R, Fr, inc) p0 p1).1 ≤ 3 ∧ (¬ (op_ice (N, R, Fr, inc) p0 p1).1 = 0 → (op_ice (N, R, Fr, inc) p0 p1).2.2 = (N, R, Fr, inc)) := by
  simp only [op_ice]
  repeat' split
  all_goals first | exact ⟨Nat.le_of_ble_eq_true rfl, fun _ => rfl⟩ | exact ⟨Nat.le_of_ble_eq_true rfl, fun h => absurd rfl h⟩
theorem n2_ice (N : Nat → Nat → Nat) (R : Nat → Nat → Nat → Int32) (Fr : Nat → UInt32) (inc : Int64) (p0 p1 : Int32) : (op_ice (N, R, Fr, inc) p0 p1).2.2.1 2 = N 2 := by
  simp only [op_ice]
  repeat' split
  all_goals first | rfl | (funext i; simp [up2])
theorem ce_iceLasts (N : Nat → Nat → Nat) (R : Nat → Nat → Nat → Int32) (Fr : Nat → UInt32) (inc : Int64) (p0 : Int32) : (op_iceLasts (N, R, Fr, inc) p0).1 ≤ 1 ∧ (¬ (op_iceLasts (N, R, Fr, inc) p0).1 = 0 → (op_iceLasts (N, R, Fr, inc) p0).2.2 = (N, R, Fr, inc)) := by
  simp only [op_iceLasts]
  repeat' split
  all_goals first | exact ⟨Nat.le_of_ble_eq_true rfl, fun _ => rfl⟩ | exact ⟨Nat.le_of_ble_eq_true rfl, fun h => absurd rfl h⟩
theorem n2_iceLasts (N : Nat → Nat → Nat) (R : Nat → Nat → Nat → Int32) (Fr : Nat → UInt32) (inc : Int64) (p0 : Int32) : (op_iceLasts (N, R, Fr, inc) p0).2.2.1 2 = N 2 := by
  simp only [op_iceLasts]
  repeat' split
  all_goals first | rfl | (funext i; simp [up2])
theorem ce_addBuyer (N : Nat → Nat → Nat) (R : Nat → Nat → Nat → Int32) (Fr : Nat → UInt32) (inc : Int64) (p0 : Int32) : (op_addBuyer (N, R, Fr, inc) p0).1 ≤ 2 ∧ (¬ (op_addBuyer (N, R, Fr, inc) p0).1 = 0 → (op_addBuyer (N, R, Fr, inc) p0).2.2 = (N, R, Fr, inc)) := by
  simp only [op_addBuyer]
  repeat' split
  all_goals first | exact ⟨Nat.le_of_ble_eq_true rfl, fun _ => rfl⟩ | exact ⟨Nat.le_of_ble_eq_true rfl, fun h => absurd rfl h⟩
theorem n2_addBuyer (N : Nat → Nat → Nat) (R : Nat → Nat → Nat → Int32) (Fr : Nat → UInt32) (inc : Int64) (p0 : Int32) : (op_addBuyer (N, R, Fr, inc) p0).1 = 0 → (op_addBuyer (N, R, Fr, inc) p0).2.2.1 2 = (up2 N 2 2 (N 0 2 + 1)) 2 := by
  simp only [op_addBuyer]
  repeat' split
  all_goals first | (intro h; simp at h; done) | (intro _; funext i; simp [up2])
theorem ce_setLimit (N : Nat → Nat → Nat) (R : Nat → Nat → Nat → Int32) (Fr : Nat → UInt32) (inc : Int64) (p0 p1 p2 : Int32) : (op_setLimit (N, R, Fr, inc) p0 p1 p2).1 ≤ 2 ∧ (¬ (op_setLimit (N, R, Fr, inc) p0 p1 p2).1 = 0 → (op_setLimit (N, R, Fr, inc) p0 p1 p2).2.2 = (N, R, Fr, inc)) := by
  simp only [op_setLimit]
  repeat' split
  all_goals first | exact ⟨Nat.le_of_ble_eq_true rfl, fun _ => rfl⟩ | exact ⟨Nat.le_of_ble_eq_true rfl, fun h => absurd rfl h⟩
theorem n2_setLimit (N : Nat → Nat → Nat) (R : Nat → Nat → Nat → Int32) (Fr : Nat → UInt32) (inc : Int64) (p0 p1 p2 : Int32) : (op_setLimit (N, R, Fr, inc) p0 p1 p2).2.2.1 2 = N 2 := by
  simp only [op_setLimit]
  repeat' split
  all_goals first | rfl | (funext i; simp [up2])
theorem ce_budget (N : Nat → Nat → Nat) (R : Nat → Nat → Nat → Int32) (Fr : Nat → UInt32) (inc : Int64) (p0 : Int32) : (op_budget (N, R, Fr, inc) p0).1 ≤ 1 ∧ (¬ (op_budget (N, R, Fr, inc) p0).1 = 0 → (op_budget (N, R, Fr, inc) p0).2.2 = (N, R, Fr, inc)) := by
  simp only [op_budget]
  repeat' split
  all_goals first | exact ⟨Nat.le_of_ble_eq_true rfl, fun _ => rfl⟩ | exact ⟨Nat.le_of_ble_eq_true rfl, fun h => absurd rfl h⟩
theorem n2_budget (N : Nat → Nat → Nat) (R : Nat → Nat → Nat → Int32) (Fr : Nat → UInt32) (inc : Int64) (p0 : Int32) : (op_budget (N, R, Fr, inc) p0).2.2.1 2 = N 2 := by
  simp only [op_budget]
  repeat' split
  all_goals first | rfl | (funext i; simp [up2])
theorem ce_setClock (N : Nat → Nat → Nat) (R : Nat → Nat → Nat → Int32) (Fr : Nat → UInt32) (inc : Int64) (p0 p1 p2 : Int32) : (op_setClock (N, R, Fr, inc) p0 p1 p2).1 ≤ 1 ∧ (¬ (op_setClock (N, R, Fr, inc) p0 p1 p2).1 = 0 → (op_setClock (N, R, Fr, inc) p0 p1 p2).2.2 = (N, R, Fr, inc)) := by
  simp only [op_setClock]
  repeat' split
  all_goals first | exact ⟨Nat.le_of_ble_eq_true rfl, fun _ => rfl⟩ | exact ⟨Nat.le_of_ble_eq_true rfl, fun h => absurd rfl h⟩
theorem n2_setClock (N : Nat → Nat → Nat) (R : Nat → Nat → Nat → Int32) (Fr : Nat → UInt32) (inc : Int64) (p0 p1 p2 : Int32) : (op_setClock (N, R, Fr, inc) p0 p1 p2).2.2.1 2 = N 2 := by
  simp only [op_setClock]
  repeat' split
  all_goals first | rfl | (funext i; simp [up2])
theorem ce_offer (N : Nat → Nat → Nat) (R : Nat → Nat → Nat → Int32) (Fr : Nat → UInt32) (inc : Int64) (p0 p1 : Int32) : (op_offer (N, R, Fr, inc) p0 p1).1 ≤ 2 ∧ (¬ (op_offer (N, R, Fr, inc) p0 p1).1 = 0 → (op_offer (N, R, Fr, inc) p0 p1).2.2 = (N, R, Fr, inc)) := by
  simp only [op_offer]
  repeat' split
  all_goals first | exact ⟨Nat.le_of_ble_eq_true rfl, fun _ => rfl⟩ | exact ⟨Nat.le_of_ble_eq_true rfl, fun h => absurd rfl h⟩
theorem n2_offer (N : Nat → Nat → Nat) (R : Nat → Nat → Nat → Int32) (Fr : Nat → UInt32) (inc : Int64) (p0 p1 : Int32) : (op_offer (N, R, Fr, inc) p0 p1).2.2.1 2 = N 2 := by
  simp only [op_offer]
  repeat' split
  all_goals first | rfl | (funext i; simp [up2])
theorem ce_price (N : Nat → Nat → Nat) (R : Nat → Nat → Nat → Int32) (Fr : Nat → UInt32) (inc : Int64) (p0 : Int32) : (op_price (N, R, Fr, inc) p0).1 ≤ 3 ∧ (¬ (op_price (N, R, Fr, inc) p0).1 = 0 → (op_price (N, R, Fr, inc) p0).2.2 = (N, R, Fr, inc)) := by
  simp only [op_price]
  split
  · exact ⟨Nat.zero_le _, fun h => absurd rfl h⟩
  · exact ⟨fault_le3, fun _ => rfl⟩
theorem n2_price (N : Nat → Nat → Nat) (R : Nat → Nat → Nat → Int32) (Fr : Nat → UInt32) (inc : Int64) (p0 : Int32) : (op_price (N, R, Fr, inc) p0).2.2.1 2 = N 2 := by
  simp only [op_price]
  repeat' split
  all_goals first | rfl | (funext i; simp [up2])
theorem ce_sell (N : Nat → Nat → Nat) (R : Nat → Nat → Nat → Int32) (Fr : Nat → UInt32) (inc : Int64) (p0 : Int32) : (op_sell (N, R, Fr, inc) p0).1 ≤ 3 ∧ (¬ (op_sell (N, R, Fr, inc) p0).1 = 0 → (op_sell (N, R, Fr, inc) p0).2.2 = (N, R, Fr, inc)) := by
  simp only [op_sell]
  split
  · exact ⟨Nat.zero_le _, fun h => absurd rfl h⟩
  · exact ⟨fault_le3, fun _ => rfl⟩
theorem n2_sell (N : Nat → Nat → Nat) (R : Nat → Nat → Nat → Int32) (Fr : Nat → UInt32) (inc : Int64) (p0 : Int32) : (op_sell (N, R, Fr, inc) p0).2.2.1 2 = N 2 := by
  simp only [op_sell]
  repeat' split
  all_goals first | rfl | (funext i; simp [up2])
theorem ce_buyerOf (N : Nat → Nat → Nat) (R : Nat → Nat → Nat → Int32) (Fr : Nat → UInt32) (inc : Int64) (p0 : Int32) : (op_buyerOf (N, R, Fr, inc) p0).1 ≤ 1 ∧ (¬ (op_buyerOf (N, R, Fr, inc) p0).1 = 0 → (op_buyerOf (N, R, Fr, inc) p0).2.2 = (N, R, Fr, inc)) := by
  simp only [op_buyerOf]
  repeat' split
  all_goals first | exact ⟨Nat.le_of_ble_eq_true rfl, fun _ => rfl⟩ | exact ⟨Nat.le_of_ble_eq_true rfl, fun h => absurd rfl h⟩
theorem n2_buyerOf (N : Nat → Nat → Nat) (R : Nat → Nat → Nat → Int32) (Fr : Nat → UInt32) (inc : Int64) (p0 : Int32) : (op_buyerOf (N, R, Fr, inc) p0).2.2.1 2 = N 2 := by
  simp only [op_buyerOf]
  repeat' split
  all_goals first | rfl | (funext i; simp [up2])
theorem ce_addTruck (N : Nat → Nat → Nat) (R : Nat → Nat → Nat → Int32) (Fr : Nat → UInt32) (inc : Int64) (p0 p1 p2 : Int32) : (op_addTruck (N, R, Fr, inc) p0 p1 p2).1 ≤ 2 ∧ (¬ (op_addTruck (N, R, Fr, inc) p0 p1 p2).1 = 0 → (op_addTruck (N, R, Fr, inc) p0 p1 p2).2.2 = (N, R, Fr, inc)) := by
  simp only [op_addTruck]
  repeat' split
  all_goals first | exact ⟨Nat.le_of_ble_eq_true rfl, fun _ => rfl⟩ | exact ⟨Nat.le_of_ble_eq_true rfl, fun h => absurd rfl h⟩
theorem n2_addTruck (N : Nat → Nat → Nat) (R : Nat → Nat → Nat → Int32) (Fr : Nat → UInt32) (inc : Int64) (p0 p1 p2 : Int32) : (op_addTruck (N, R, Fr, inc) p0 p1 p2).1 = 0 → (op_addTruck (N, R, Fr, inc) p0 p1 p2).2.2.1 2 = (up2 N 2 3 (N 0 3 + 1)) 2 := by
  simp only [op_addTruck]
  repeat' split
  all_goals first | (intro h; simp at h; done) | (intro _; funext i; simp [up2])
theorem ce_load (N : Nat → Nat → Nat) (R : Nat → Nat → Nat → Int32) (Fr : Nat → UInt32) (inc : Int64) (p0 p1 : Int32) : (op_load (N, R, Fr, inc) p0 p1).1 ≤ 4 ∧ (¬ (op_load (N, R, Fr, inc) p0 p1).1 = 0 → (op_load (N, R, Fr, inc) p0 p1).2.2 = (N, R, Fr, inc)) := by
  simp only [op_load]
  repeat' split
  all_goals first | exact ⟨Nat.le_of_ble_eq_true rfl, fun _ => rfl⟩ | exact ⟨Nat.le_of_ble_eq_true rfl, fun h => absurd rfl h⟩
theorem n2_load (N : Nat → Nat → Nat) (R : Nat → Nat → Nat → Int32) (Fr : Nat → UInt32) (inc : Int64) (p0 p1 : Int32) : (op_load (N, R, Fr, inc) p0 p1).2.2.1 2 = N 2 := by
  simp only [op_load]
  repeat' split
  all_goals first | rfl | (funext i; simp [up2])
theorem ce_lotOn (N : Nat → Nat → Nat) (R : Nat → Nat → Nat → Int32) (Fr : Nat → UInt32) (inc : Int64) (p0 p1 : Int32) : (op_lotOn (N, R, Fr, inc) p0 p1).1 ≤ 2 ∧ (¬ (op_lotOn (N, R, Fr, inc) p0 p1).1 = 0 → (op_lotOn (N, R, Fr, inc) p0 p1).2.2 = (N, R, Fr, inc)) := by
  simp only [op_lotOn]
  repeat' split
  all_goals first | exact ⟨Nat.le_of_ble_eq_true rfl, fun _ => rfl⟩ | exact ⟨Nat.le_of_ble_eq_true rfl, fun h => absurd rfl h⟩
theorem n2_lotOn (N : Nat → Nat → Nat) (R : Nat → Nat → Nat → Int32) (Fr : Nat → UInt32) (inc : Int64) (p0 p1 : Int32) : (op_lotOn (N, R, Fr, inc) p0 p1).2.2.1 2 = N 2 := by
  simp only [op_lotOn]
  repeat' split
  all_goals first | rfl | (funext i; simp [up2])
theorem ce_soldShare (N : Nat → Nat → Nat) (R : Nat → Nat → Nat → Int32) (Fr : Nat → UInt32) (inc : Int64) : (op_soldShare (N, R, Fr, inc)).1 ≤ 1 ∧ (¬ (op_soldShare (N, R, Fr, inc)).1 = 0 → (op_soldShare (N, R, Fr, inc)).2.2 = (N, R, Fr, inc)) := by
  simp only [op_soldShare]
  repeat' split
  all_goals first | exact ⟨Nat.le_of_ble_eq_true rfl, fun _ => rfl⟩ | exact ⟨Nat.le_of_ble_eq_true rfl, fun h => absurd rfl h⟩
theorem n2_soldShare (N : Nat → Nat → Nat) (R : Nat → Nat → Nat → Int32) (Fr : Nat → UInt32) (inc : Int64) : (op_soldShare (N, R, Fr, inc)).2.2.1 2 = N 2 := by
  simp only [op_soldShare]
  repeat' split
  all_goals first | rfl | (funext i; simp [up2])
theorem ce_meanPrice (N : Nat → Nat → Nat) (R : Nat → Nat → Nat → Int32) (Fr : Nat → UInt32) (inc : Int64) : (op_meanPrice (N, R, Fr, inc)).1 ≤ 1 ∧ (¬ (op_meanPrice (N, R, Fr, inc)).1 = 0 → (op_meanPrice (N, R, Fr, inc)).2.2 = (N, R, Fr, inc)) := by
  simp only [op_meanPrice]
  repeat' split
  all_goals first | exact ⟨Nat.le_of_ble_eq_true rfl, fun _ => rfl⟩ | exact ⟨Nat.le_of_ble_eq_true rfl, fun h => absurd rfl h⟩
theorem n2_meanPrice (N : Nat → Nat → Nat) (R : Nat → Nat → Nat → Int32) (Fr : Nat → UInt32) (inc : Int64) : (op_meanPrice (N, R, Fr, inc)).2.2.1 2 = N 2 := by
  simp only [op_meanPrice]
  repeat' split
  all_goals first | rfl | (funext i; simp [up2])
theorem ce_meanBits (N : Nat → Nat → Nat) (R : Nat → Nat → Nat → Int32) (Fr : Nat → UInt32) (inc : Int64) : (op_meanBits (N, R, Fr, inc)).1 ≤ 1 ∧ (¬ (op_meanBits (N, R, Fr, inc)).1 = 0 → (op_meanBits (N, R, Fr, inc)).2.2 = (N, R, Fr, inc)) := by
  simp only [op_meanBits]
  repeat' split
  all_goals first | exact ⟨Nat.le_of_ble_eq_true rfl, fun _ => rfl⟩ | exact ⟨Nat.le_of_ble_eq_true rfl, fun h => absurd rfl h⟩
theorem n2_meanBits (N : Nat → Nat → Nat) (R : Nat → Nat → Nat → Int32) (Fr : Nat → UInt32) (inc : Int64) : (op_meanBits (N, R, Fr, inc)).2.2.1 2 = N 2 := by
  simp only [op_meanBits]
  repeat' split
  all_goals first | rfl | (funext i; simp [up2])
