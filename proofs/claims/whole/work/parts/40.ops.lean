/-! What each call answers: (code, answer, next state); code 0: it returns -/
def ix (v : Int32) : Nat := v.toNatClampNeg
def op_addBoat : St → Int32 → Int32 → Int32 → Int32 → Nat × Int32 × St := fun (N, R, Fr, inc) p0 p1 p2 p3 =>
  if (wi p0 0 9999 && wi p1 0 9999 && wi p2 0 9999 && wi p3 0 9999) = false then (1, 0, (N, R, Fr, inc)) else if N 0 0 = 6 then (2, 0, (N, R, Fr, inc)) else
  (0, nI (N 0 0), (up2 (up2 N 0 0 (N 0 0 + 1)) 2 0 (N 0 0 + 1), up3 (up3 (up3 (up3 (up3 (up3 (up3 (up3 R 1 (N 0 0) 0 p0) 1 (N 0 0) 1 p1) 1 (N 0 0) 2 p2) 1 (N 0 0) 3 p3) 3 (N 0 0) 0 p0) 3 (N 0 0) 1 p1) 3 (N 0 0) 2 p2) 3 (N 0 0) 3 p3, Fr, inc))
def landed (kg left : Int32) : Int32 := if kg < left then kg else left
def op_land : St → Int32 → Int32 → Int32 → Int32 → Int32 → Nat × Int32 × St := fun (N, R, Fr, inc) p0 p1 p2 p3 p4 =>
  if isIx (N 0 0) p0 = false then (1, 0, (N, R, Fr, inc)) else if (wi p1 0 3 && wi p2 0 2 && wi p3 1 2000) = false then (2, 0, (N, R, Fr, inc)) else if N 0 1 = 20 then (3, 0, (N, R, Fr, inc)) else if R 1 (ix p0) (ix p1) = 0 then (4, 0, (N, R, Fr, inc)) else
  (0, nI (N 0 1), (up2 (up2 N 0 1 (N 0 1 + 1)) 2 1 (N 0 1 + 1), up3 (up3 (up3 (up3 (up3 (up3 (up3 (up3 (up3 R 1 (ix p0) (ix p1) (R 1 (ix p0) (ix p1) - landed p3 (R 1 (ix p0) (ix p1)))) 0 0 0 (R 0 0 0 + (p3 - landed p3 (R 1 (ix p0) (ix p1))))) 5 (N 0 1) 0 p1) 6 (N 0 1) 0 p2) 7 (N 0 1) 0 (landed p3 (R 1 (ix p0) (ix p1)))) 8 (N 0 1) 0 p4) 9 (N 0 1) 0 102) 11 (N 0 1) 0 (-1)) 4 (N 0 1) 0 p0, vf_upd Fr (N 0 1) 1120403456, inc))
def op_moveQuota : St → Int32 → Int32 → Int32 → Int32 → Nat × Int32 × St := fun (N, R, Fr, inc) p0 p1 p2 p3 =>
  if (isIx (N 0 0) p0 && isIx (N 0 0) p1) = false then (1, 0, (N, R, Fr, inc)) else if p0 = p1 ∨ (wi p2 0 3 && wi p3 1 9999) = false then (2, 0, (N, R, Fr, inc)) else if R 1 (ix p0) (ix p2) < p3 then (3, 0, (N, R, Fr, inc)) else
  (0, R 1 (ix p0) (ix p2) - p3, (N, up3 (up3 (up3 (up3 R 1 (ix p0) (ix p2) (R 1 (ix p0) (ix p2) - p3)) 1 (ix p1) (ix p2) (R 1 (ix p1) (ix p2) + p3)) 3 (ix p0) (ix p2) (R 3 (ix p0) (ix p2) - p3)) 3 (ix p1) (ix p2) (R 3 (ix p1) (ix p2) + p3), Fr, inc))
def op_quota : St → Int32 → Int32 → Nat × Int32 × St := fun (N, R, Fr, inc) p0 p1 =>
  if isIx (N 0 0) p0 = false then (1, 0, (N, R, Fr, inc)) else if wi p1 0 3 = false then (2, 0, (N, R, Fr, inc)) else (0, R 1 (ix p0) (ix p1), (N, R, Fr, inc))
def op_quotaAt : St → Int32 → Int32 → Int32 → Nat × Int32 × St := fun (N, R, Fr, inc) p0 p1 p2 =>
  if isIx (N 0 0) p0 = false then (1, 0, (N, R, Fr, inc)) else if wi p1 0 3 = false then (2, 0, (N, R, Fr, inc)) else if isIx (N 0 4) p2 = false then (3, 0, (N, R, Fr, inc)) else (0, R 2 (ix p2) (4 * ix p0 + ix p1), (N, R, Fr, inc))
/-- day d's row, the first n numbers written -/
def wrote (R : Nat → Nat → Nat → Int32) (d n : Nat) : Nat → Nat → Nat → Int32 := fun k i j => if k = 2 ∧ i = d ∧ j < n then R 1 (j / 4) (j % 4) else R k i j
def op_endDay : St → Nat × Int32 × St := fun (N, R, Fr, inc) =>
  if N 0 4 = 19 then (1, 0, (N, R, Fr, inc)) else (0, nI (N 0 4 + 1), (up2 N 0 4 (N 0 4 + 1), wrote R (N 0 4) 24, Fr, inc))
def op_lot (k : Nat) : St → Int32 → Nat × Int32 × St := fun (N, R, Fr, inc) p0 =>
  if isIx (N 0 1) p0 = false then (1, 0, (N, R, Fr, inc)) else (0, R k (ix p0) 0, (N, R, Fr, inc))
def op_fresh : St → Int32 → Nat × UInt32 × St := fun (N, R, Fr, inc) p0 =>
  if isIx (N 0 1) p0 = false then (1, 0, (N, R, Fr, inc)) else (0, Fr (ix p0), (N, R, Fr, inc))
def op_freshBits : St → Int32 → Nat × Int32 × St := fun (N, R, Fr, inc) p0 =>
  if isIx (N 0 1) p0 = false then (1, 0, (N, R, Fr, inc)) else (0, (Fr (ix p0)).toInt32, (N, R, Fr, inc))
def op_ice : St → Int32 → Int32 → Nat × Int32 × St := fun (N, R, Fr, inc) p0 p1 =>
  if isIx (N 0 1) p0 = false then (1, 0, (N, R, Fr, inc)) else if wi p1 1 999 = false then (2, 0, (N, R, Fr, inc)) else if R 9 (ix p0) 0 = 100 ∨ R 9 (ix p0) 0 = 120 then (3, 0, (N, R, Fr, inc)) else
  (0, R 10 (ix p0) 0 + p1, (N, up3 R 10 (ix p0) 0 (R 10 (ix p0) 0 + p1), Fr, inc))
def iceFor (w : Int32) : Int32 := (w + 9) / 10
def op_iceLasts : St → Int32 → Nat × Int32 × St := fun (N, R, Fr, inc) p0 =>
  if isIx (N 0 1) p0 = false then (1, 0, (N, R, Fr, inc)) else (0, R 10 (ix p0) 0 / iceFor (R 7 (ix p0) 0), (N, R, Fr, inc))
def op_addBuyer : St → Int32 → Nat × Int32 × St := fun (N, R, Fr, inc) p0 =>
  if wi p0 0 1000000 = false then (1, 0, (N, R, Fr, inc)) else if N 0 2 = 5 then (2, 0, (N, R, Fr, inc)) else
  (0, nI (N 0 2), (up2 (up2 N 0 2 (N 0 2 + 1)) 2 2 (N 0 2 + 1), up3 R 13 (N 0 2) 0 p0, Fr, inc))
def op_setLimit : St → Int32 → Int32 → Int32 → Nat × Int32 × St := fun (N, R, Fr, inc) p0 p1 p2 =>
  if isIx (N 0 2) p0 = false then (1, 0, (N, R, Fr, inc)) else if (wi p1 0 3 && wi p2 0 9999) = false then (2, 0, (N, R, Fr, inc)) else
  (0, R 14 (ix p0) (ix p1), (N, up3 R 14 (ix p0) (ix p1) p2, Fr, inc))
def op_budget : St → Int32 → Nat × Int32 × St := fun (N, R, Fr, inc) p0 =>
  if isIx (N 0 2) p0 = false then (1, 0, (N, R, Fr, inc)) else (0, R 13 (ix p0) 0, (N, R, Fr, inc))
def op_setClock : St → Int32 → Int32 → Int32 → Nat × Int32 × St := fun (N, R, Fr, inc) p0 p1 p2 =>
  if (wi p0 1 9999 && wi p1 1 500 && wi p2 0 p0) = false then (1, 0, (N, R, Fr, inc)) else (0, R 0 1 0, (N, up3 (up3 (up3 R 0 1 0 p0) 0 2 0 p1) 0 3 0 p2, Fr, inc))
/-- the offer for a lot: limit, size, freshness -/
def offerV (lim sz : Int32) (fr : UInt32) : Int32 := FP.d2i (FP.ddiv (FP.dmul (FP.ddiv (FP.i2d (lim * (100 + 10 * sz))) 4636737291354636288) (FP.f2d fr)) 4636737291354636288)
def offerOf (R : Nat → Nat → Nat → Int32) (Fr : Nat → UInt32) (u j : Nat) : Int32 := offerV (R 14 u (ix (R 5 j 0))) (R 6 j 0) (Fr j)
def op_offer : St → Int32 → Int32 → Nat × Int32 × St := fun (N, R, Fr, inc) p0 p1 =>
  if isIx (N 0 2) p0 = false then (1, 0, (N, R, Fr, inc)) else if isIx (N 0 1) p1 = false then (2, 0, (N, R, Fr, inc)) else (0, offerOf R Fr (ix p0) (ix p1), (N, R, Fr, inc))
/-- buyer b can take lot j at a price -/
def can (R : Nat → Nat → Nat → Int32) (Fr : Nat → UInt32) (j : Nat) (price : Int32) (b : Nat) : Bool := decide (price ≤ offerOf R Fr b j) && decide (price * R 7 j 0 ≤ R 13 b 0)
/-- the best of the first n buyers: its number + 1, or 0 -/
def best (R : Nat → Nat → Nat → Int32) (Fr : Nat → UInt32) (j : Nat) (price : Int32) : Nat → Nat
  | 0 => 0
  | n + 1 => if can R Fr j price n && (decide (best R Fr j price n = 0) || decide (offerOf R Fr (best R Fr j price n - 1) j < offerOf R Fr n j)) then n + 1 else best R Fr j price n
def takes (N : Nat → Nat → Nat) (R : Nat → Nat → Nat → Int32) (Fr : Nat → UInt32) (j : Nat) (price : Int32) : Int32 := nI (best R Fr j price (N 0 2)) - 1
/-- the clock from a price on, at most n falls: the price of the sale, or -1 -/
def fallsN (N : Nat → Nat → Nat) (R : Nat → Nat → Nat → Int32) (Fr : Nat → UInt32) (j : Nat) : Nat → Int32 → Int32
  | 0, _ => -1
  | n + 1, price => if R 0 3 0 ≤ price ∧ 0 ≤ price then (if best R Fr j price (N 0 2) = 0 then fallsN N R Fr j n (price - R 0 2 0) else price) else -1
def falls (N : Nat → Nat → Nat) (R : Nat → Nat → Nat → Int32) (Fr : Nat → UInt32) (j : Nat) : Int32 := fallsN N R Fr j 10001 (R 0 1 0)
def faultOf (N : Nat → Nat → Nat) (R : Nat → Nat → Nat → Int32) (Fr : Nat → UInt32) (p0 : Int32) : Nat := if isIx (N 0 1) p0 = false then 1 else if R 9 (ix p0) 0 = 102 then (if falls N R Fr (ix p0) = -1 then 3 else 0) else 2
def op_price : St → Int32 → Nat × Int32 × St := fun (N, R, Fr, inc) p0 =>
  if faultOf N R Fr p0 = 0 then (0, falls N R Fr (ix p0), (N, R, Fr, inc)) else (faultOf N R Fr p0, 0, (N, R, Fr, inc))
def op_sell : St → Int32 → Nat × Int32 × St := fun (N, R, Fr, inc) p0 =>
  if faultOf N R Fr p0 = 0 then (0, takes N R Fr (ix p0) (falls N R Fr (ix p0)),
    (N, up3 (up3 (up3 (up3 R 11 (ix p0) 0 (takes N R Fr (ix p0) (falls N R Fr (ix p0)))) 12 (ix p0) 0 (falls N R Fr (ix p0) * R 7 (ix p0) 0)) 13 (ix (takes N R Fr (ix p0) (falls N R Fr (ix p0)))) 0 (R 13 (ix (takes N R Fr (ix p0) (falls N R Fr (ix p0)))) 0 - falls N R Fr (ix p0) * R 7 (ix p0) 0)) 9 (ix p0) 0 115, Fr, inc + (falls N R Fr (ix p0) * R 7 (ix p0) 0).toInt64))
  else (faultOf N R Fr p0, 0, (N, R, Fr, inc))
def op_buyerOf : St → Int32 → Nat × Int32 × St := fun (N, R, Fr, inc) p0 =>
  if isIx (N 0 1) p0 = false then (1, 0, (N, R, Fr, inc)) else if R 11 (ix p0) 0 = -1 then (1, 0, (N, R, Fr, inc)) else (0, R 11 (ix p0) 0, (N, R, Fr, inc))
def op_addTruck : St → Int32 → Int32 → Int32 → Nat × Int32 × St := fun (N, R, Fr, inc) p0 p1 p2 =>
  if (wi p0 (nI (N 0 5) + 1) 1000 && wi p1 100 9999) = false then (1, 0, (N, R, Fr, inc)) else if N 0 3 = 4 then (2, 0, (N, R, Fr, inc)) else
  (0, nI (N 0 3), (up2 (up2 N 0 3 (N 0 3 + 1)) 2 3 (N 0 3 + 1), up3 (up3 (up3 R 15 (N 0 3) 0 p0) 17 (N 0 3) 0 p1) 16 (N 0 3) 0 p2, Fr, inc))
def op_load : St → Int32 → Int32 → Nat × Int32 × St := fun (N, R, Fr, inc) p0 p1 =>
  if isIx (N 0 1) p0 = false then (1, 0, (N, R, Fr, inc)) else if isIx (N 0 3) p1 = false then (2, 0, (N, R, Fr, inc)) else
  if ¬ R 9 (ix p0) 0 = 115 ∨ R 15 (ix p1) 0 ≤ nI (N 0 5) ∨ N 1 (ix p1) = 5 ∨ R 17 (ix p1) 0 < R 7 (ix p0) 0 then (3, 0, (N, R, Fr, inc)) else
  if ¬ R 16 (ix p1) 0 = 0 ∧ R 8 (ix p0) 0 = 0 then (4, 0, (N, R, Fr, inc)) else
  (0, R 17 (ix p1) 0 - R 7 (ix p0) 0, (up2 (up2 N 1 (ix p1) (N 1 (ix p1) + 1)) 3 (ix p1) (N 1 (ix p1) + 1), up3 (up3 (up3 R 9 (ix p0) 0 108) 18 (ix p1) (N 1 (ix p1)) p0) 17 (ix p1) 0 (R 17 (ix p1) 0 - R 7 (ix p0) 0), Fr, inc))
def op_lotOn : St → Int32 → Int32 → Nat × Int32 × St := fun (N, R, Fr, inc) p0 p1 =>
  if isIx (N 0 3) p0 = false then (1, 0, (N, R, Fr, inc)) else if isIx (N 1 (ix p0)) p1 = false then (2, 0, (N, R, Fr, inc)) else (0, R 18 (ix p0) (ix p1), (N, R, Fr, inc))
/-- sums over the first n lots of the weights of those that p takes -/
def wsum (R : Nat → Nat → Nat → Int32) (p : Nat → Bool) : Nat → Int32
  | 0 => 0
  | n + 1 => wsum R p n + (if p n then R 7 n 0 else 0)
def isSold (R : Nat → Nat → Nat → Int32) (j : Nat) : Bool := decide (R 9 j 0 = 115) || decide (R 9 j 0 = 108) || decide (R 9 j 0 = 100)
def isBad (R : Nat → Nat → Nat → Int32) (j : Nat) : Bool := decide (R 9 j 0 = 120)
def op_soldShare : St → Nat × UInt32 × St := fun (N, R, Fr, inc) =>
  if N 0 1 = 0 then (1, 0, (N, R, Fr, inc)) else (0, FP.fdiv (FP.i2f (wsum R (isSold R) (N 0 1))) (FP.i2f (wsum R (fun _ => true) (N 0 1))), (N, R, Fr, inc))
def meanOf (N : Nat → Nat → Nat) (R : Nat → Nat → Nat → Int32) (inc : Int64) : UInt64 := FP.ddiv (FP.l2d inc) (FP.i2d (wsum R (isSold R) (N 0 1)))
def op_meanPrice : St → Nat × UInt64 × St := fun (N, R, Fr, inc) =>
  if wsum R (isSold R) (N 0 1) = 0 then (1, 0, (N, R, Fr, inc)) else (0, meanOf N R inc, (N, R, Fr, inc))
def op_meanBits : St → Nat × Int64 × St := fun (N, R, Fr, inc) =>
  if wsum R (isSold R) (N 0 1) = 0 then (1, 0, (N, R, Fr, inc)) else (0, (meanOf N R inc).toInt64, (N, R, Fr, inc))
/-- a lot grows older by one tick -/
def ageR (R : Nat → Nat → Nat → Int32) (Fr : Nat → UInt32) (j : Nat) : (Nat → Nat → Nat → Int32) × (Nat → UInt32) :=
  if ¬ (R 9 j 0 = 102 ∨ R 9 j 0 = 115 ∨ R 9 j 0 = 108) then (R, Fr) else
  if iceFor (R 7 j 0) ≤ R 10 j 0 then
    (up3 (up3 R 10 j 0 (R 10 j 0 - iceFor (R 7 j 0))) 9 j 0 (if R 9 j 0 = 102 ∧ FP.fcmp (FP.fmul (Fr j) 1065269330) 1106247680 = some .lt then 120 else R 9 j 0), vf_upd Fr j (FP.fmul (Fr j) 1065269330))
  else (up3 R 9 j 0 (if R 9 j 0 = 102 ∧ FP.fcmp (FP.fmul (Fr j) 1065017672) 1106247680 = some .lt then 120 else R 9 j 0), vf_upd Fr j (FP.fmul (Fr j) 1065017672))
def agesR (R : Nat → Nat → Nat → Int32) (Fr : Nat → UInt32) : Nat → (Nat → Nat → Nat → Int32) × (Nat → UInt32)
  | 0 => (R, Fr)
  | n + 1 => ageR (agesR R Fr n).1 (agesR R Fr n).2 n
/-- a lot is delivered -/
def delR (Fr : Nat → UInt32) (j : Nat) : (Nat → Nat → Nat → Int32) × Int64 → (Nat → Nat → Nat → Int32) × Int64 := fun (R, inc) =>
  if FP.fcmp (Fr j) 1116471296 = some .lt then
    (up3 (up3 (up3 R 9 j 0 100) 12 j 0 (R 12 j 0 - backV (R 12 j 0) (Fr j))) 13 (ix (R 11 j 0)) 0 (R 13 (ix (R 11 j 0)) 0 + backV (R 12 j 0) (Fr j)), inc - (backV (R 12 j 0) (Fr j)).toInt64)
  else (up3 R 9 j 0 100, inc)
/-- the first n lots of truck t are delivered -/
def delsR (Fr : Nat → UInt32) (t : Nat) : Nat → (Nat → Nat → Nat → Int32) × Int64 → (Nat → Nat → Nat → Int32) × Int64
  | 0, x => x
  | n + 1, x => delR Fr (ix ((delsR Fr t n x).1 18 t n)) (delsR Fr t n x)
/-- the first n trucks, at a time: which leave -/
def leaveR (N : Nat → Nat → Nat) (Fr : Nat → UInt32) (now : Int32) : Nat → (Nat → Nat → Nat → Int32) × Int64 → (Nat → Nat → Nat → Int32) × Int64
  | 0, x => x
  | n + 1, x => if (leaveR N Fr now n x).1 15 n 0 = now then delsR Fr n (N 1 n) (leaveR N Fr now n x) else leaveR N Fr now n x
def leaveN (R : Nat → Nat → Nat → Int32) (now : Int32) : Nat → Nat
  | 0 => 0
  | n + 1 => leaveN R now n + (if R 15 n 0 = now then 1 else 0)
def op_tick : St → Nat × Int32 × St := fun (N, R, Fr, inc) =>
  (0, nI (leaveN R (nI (N 0 5 + 1)) (N 0 3)), (up2 N 0 5 (N 0 5 + 1), (leaveR N (agesR R Fr (N 0 1)).2 (nI (N 0 5 + 1)) (N 0 3) ((agesR R Fr (N 0 1)).1, inc)).1, (agesR R Fr (N 0 1)).2, (leaveR N (agesR R Fr (N 0 1)).2 (nI (N 0 5 + 1)) (N 0 3) ((agesR R Fr (N 0 1)).1, inc)).2))
theorem ix_nI {j : Nat} (h : j < 2 ^ 31) : ix (nI j) = j := nI_clamp h
theorem ixc (n : Nat) (p : Int32) (hn : n < 2 ^ 31) : isIx n p = false ∨ ∃ j : Nat, j < n ∧ p = nI j ∧ ix p = j ∧ isIx n p = true := by
  cases hq : isIx n p
  · exact Or.inl rfl
  · refine Or.inr ?_
    simp only [isIx, wi, Bool.and_eq_true, decide_eq_true_eq] at hq
    obtain ⟨h0, h1⟩ := hq
    rcases Nat.eq_zero_or_pos n with rfl | hp
    · exact absurd (Int32.le_trans h0 h1) (by decide)
    · obtain ⟨j, hj, rfl⟩ := nI_of (x := p) (Int32.not_lt.mpr h0)
      rw [show nI n - 1 = nI (n - 1) from by rw [← nI_pred (n - 1), Nat.sub_add_cancel hp]] at h1
      have := (nI_leI hj (by omega)).mp h1
      exact ⟨j, by omega, rfl, nI_clamp hj, rfl⟩
theorem isIx_t {n j : Nat} (h : j < n) (hn : n < 2 ^ 31) : isIx n (nI j) = true := by
  simp only [isIx, wi, Bool.and_eq_true, decide_eq_true_eq]
  refine ⟨nI_pos' (by omega), ?_⟩
  rw [show nI n - 1 = nI (n - 1) from by rw [← nI_pred (n - 1), Nat.sub_add_cancel (by omega)]]
  exact nI_le (by omega) (by omega)
theorem isIx_f {n j : Nat} (h : n ≤ j) (hj : j < 2 ^ 31) : isIx n (nI j) = false := by
  rcases ixc n (nI j) (by omega) with q | ⟨k, hk, e, -, -⟩
  · exact q
  · have := (nI_eq hj (by omega)).mp e
    omega
theorem isIx_neg {n : Nat} {v : Int32} (h : v < 0) : isIx n v = false := by
  have a : ¬ (0 : Int32) ≤ v := Int32.not_le.mpr h
  simp [isIx, wi, a]
/-- a number between small bounds is one of the naturals between them -/
theorem wi_nat {v : Int32} {a b : Nat} (hb : b < 2 ^ 31) (hab : a ≤ b) (h : wi v (nI a) (nI b) = true) : ∃ k : Nat, a ≤ k ∧ k ≤ b ∧ v = nI k ∧ ix v = k := by
  simp only [wi, Bool.and_eq_true, decide_eq_true_eq] at h
  obtain ⟨h0, h1⟩ := h
  have h2 : (0 : Int32) ≤ v := Int32.le_trans (nI_pos' (by omega)) h0
  obtain ⟨j, hj, rfl⟩ := nI_of (x := v) (Int32.not_lt.mpr h2)
  exact ⟨j, (nI_leI (by omega) hj).mp h0, (nI_leI hj hb).mp h1, rfl, nI_clamp hj⟩
theorem ix4 (b k : Nat) : 4 * nI b + nI k = nI (4 * b + k) := by rw [show (4 : Int32) = nI 4 from rfl, pk_mul, nI_add]
theorem ix5 (b k : Nat) : 5 * nI b + nI k = nI (5 * b + k) := by rw [show (5 : Int32) = nI 5 from rfl, pk_mul, nI_add]
theorem q4 {f : Nat → Nat → Int32} {b k : Nat} (hk : k < 4) (hb : 4 * b + k < 2 ^ 31) : (fun k => f (k / 4) (k % 4)) (nI (4 * b + k)).toNatClampNeg = f b k := by
  rw [nI_clamp hb]
  show f ((4 * b + k) / 4) ((4 * b + k) % 4) = f b k
  rw [show (4 * b + k) / 4 = b by omega, show (4 * b + k) % 4 = k by omega]
theorem q5 {f : Nat → Nat → Int32} {b k : Nat} (hk : k < 5) (hb : 5 * b + k < 2 ^ 31) : (fun k => f (k / 5) (k % 5)) (nI (5 * b + k)).toNatClampNeg = f b k := by
  rw [nI_clamp hb]
  show f ((5 * b + k) / 5) ((5 * b + k) % 5) = f b k
  rw [show (5 * b + k) / 5 = b by omega, show (5 * b + k) % 5 = k by omega]
theorem q24 {f : Nat → Nat → Int32} {b k : Nat} (hk : k < 24) (hb : 24 * b + k < 2 ^ 31) : (fun k => f (k / 24) (k % 24)) (nI (24 * b + k)).toNatClampNeg = f b k := by
  rw [nI_clamp hb]
  show f ((24 * b + k) / 24) ((24 * b + k) % 24) = f b k
  rw [show (24 * b + k) / 24 = b by omega, show (24 * b + k) % 24 = k by omega]
/-- what a store does to the registers -/
theorem u1 (R : Nat → Nat → Nat → Int32) (k i : Nat) (v : Int32) : upd (fun j => R k j 0) i v = fun j => up3 R k i 0 v k j 0 := by
  funext j
  simp [upd, up3]
theorem ud (c : Nat) (R : Nat → Nat → Nat → Int32) (k b s : Nat) (v : Int32) (hs : s < c) : upd (fun x => R k (x / c) (x % c)) (c * b + s) v = fun x => up3 R k b s v k (x / c) (x % c) := by
  funext x
  simp only [upd, up3]
  by_cases h : x = c * b + s
  · have h1 : x / c = b := by rw [h, Nat.mul_add_div (by omega), Nat.div_eq_of_lt hs, Nat.add_zero]
    have h2 : x % c = s := by rw [h, Nat.mul_add_mod, Nat.mod_eq_of_lt hs]
    rw [if_pos h, if_pos ⟨trivial, h1, h2⟩]
  · rw [if_neg h, if_neg]
    rintro ⟨-, h1, h2⟩
    exact h (by rw [← h1, ← h2]; exact (Nat.div_add_mod x c).symm)
theorem ix_lt {n : Nat} {p : Int32} (h : isIx n p = true) (hn : n < 2 ^ 31) : ix p < n ∧ p = nI (ix p) := by
  rcases ixc n p hn with q | ⟨j, hj, e, ej, -⟩
  · rw [q] at h; cases h
  · rw [ej]; exact ⟨hj, e⟩
theorem wi_lt {p : Int32} {b : Nat} (hb : b < 2 ^ 31) (h : wi p 0 (nI b) = true) : ix p ≤ b ∧ p = nI (ix p) := by
  obtain ⟨k, -, h1, h2, h3⟩ := wi_nat (a := 0) hb (Nat.zero_le _) h
  rw [h3]; exact ⟨h1, h2⟩
theorem in1 {n L : Nat} {p : Int32} (h : isIx n p = true) (hn : n ≤ L) (hL : L < 2 ^ 31) : vp_in p L := by
  obtain ⟨h1, h2⟩ := ix_lt h (by omega)
  rw [h2]; exact vp_in_nI (by omega) hL
theorem cl4 {n : Nat} {p q : Int32} (h : isIx n p = true) (hn : n ≤ 20) (h2 : wi q 0 3 = true) : 4 * p + q = nI (4 * ix p + ix q) ∧ (4 * p + q).toNatClampNeg = 4 * ix p + ix q ∧ ix q < 4 ∧ ix p < n := by
  obtain ⟨a1, a2⟩ := ix_lt h (by omega)
  obtain ⟨b1, b2⟩ := wi_lt (b := 3) (by decide) h2
  have e : 4 * p + q = nI (4 * ix p + ix q) := by rw [a2, b2, ix4, ← a2, ← b2]
  exact ⟨e, by rw [e]; exact nI_clamp (by omega), by omega, a1⟩
theorem in4 {n L : Nat} {p q : Int32} (h : isIx n p = true) (hn : n ≤ 20) (h2 : wi q 0 3 = true) (hL : 4 * n ≤ L) (hL2 : L < 2 ^ 31) : vp_in (4 * p + q) L := by
  obtain ⟨e, -, h3, h4⟩ := cl4 h hn h2
  rw [e]; exact vp_in_nI (by omega) hL2
theorem v4 {n : Nat} {p q : Int32} {f : Nat → Nat → Int32} (h : isIx n p = true) (hn : n ≤ 20) (h2 : wi q 0 3 = true) : (fun k => f (k / 4) (k % 4)) (4 * p + q).toNatClampNeg = f (ix p) (ix q) := by
  obtain ⟨-, e, h3, h4⟩ := cl4 h hn h2
  rw [e]
  show f ((4 * ix p + ix q) / 4) ((4 * ix p + ix q) % 4) = _
  rw [show (4 * ix p + ix q) / 4 = ix p by omega, show (4 * ix p + ix q) % 4 = ix q by omega]
theorem ud4 {n : Nat} {p q : Int32} (R : Nat → Nat → Nat → Int32) (k : Nat) (v : Int32) (h : isIx n p = true) (hn : n ≤ 20) (h2 : wi q 0 3 = true) : upd (fun x => R k (x / 4) (x % 4)) (4 * p + q).toNatClampNeg v = fun x => up3 R k (ix p) (ix q) v k (x / 4) (x % 4) := by
  obtain ⟨-, e, h3, h4⟩ := cl4 h hn h2
  rw [e]; exact ud 4 R k (ix p) (ix q) v h3
theorem u1' (R : Nat → Nat → Nat → Int32) (k i : Nat) (p v : Int32) (h : p.toNatClampNeg = i) : upd (fun j => R k j 0) p.toNatClampNeg v = fun j => up3 R k i 0 v k j 0 := by rw [h]; exact u1 R k i v
theorem uN (N : Nat → Nat → Nat) (i v : Nat) : upd (fun t => nI (N 1 t)) i (nI v) = fun t => nI (up2 N 1 i v 1 t) := by
  funext t
  simp only [upd, up2]
  by_cases h : t = i
  · simp [h]
  · simp [h]
theorem cl5 {n k : Nat} {p : Int32} (h : isIx n p = true) (hn : n ≤ 4) (hk : k < 5) : 5 * p + nI k = nI (5 * ix p + k) ∧ (5 * p + nI k).toNatClampNeg = 5 * ix p + k ∧ ix p < n := by
  obtain ⟨a1, a2⟩ := ix_lt h (by omega)
  have e : 5 * p + nI k = nI (5 * ix p + k) := by rw [a2, ix5, ← a2]
  exact ⟨e, by rw [e]; exact nI_clamp (by omega), a1⟩
theorem in5 {n k : Nat} {p : Int32} (h : isIx n p = true) (hn : n ≤ 4) (hk : k < 5) : vp_in (5 * p + nI k) 20 := by
  obtain ⟨e, -, h4⟩ := cl5 h hn hk
  rw [e]; exact vp_in_nI (by omega) (by decide)
theorem v5 {n k : Nat} {p : Int32} {f : Nat → Nat → Int32} (h : isIx n p = true) (hn : n ≤ 4) (hk : k < 5) : (fun k => f (k / 5) (k % 5)) (5 * p + nI k).toNatClampNeg = f (ix p) k := by
  obtain ⟨-, e, h4⟩ := cl5 h hn hk
  rw [e]
  show f ((5 * ix p + k) / 5) ((5 * ix p + k) % 5) = _
  rw [show (5 * ix p + k) / 5 = ix p by omega, show (5 * ix p + k) % 5 = k by omega]
theorem ud5 {n k : Nat} {p : Int32} (R : Nat → Nat → Nat → Int32) (v : Int32) (h : isIx n p = true) (hn : n ≤ 4) (hk : k < 5) : upd (fun x => R 18 (x / 5) (x % 5)) (5 * p + nI k).toNatClampNeg v = fun x => up3 R 18 (ix p) k v 18 (x / 5) (x % 5) := by
  obtain ⟨-, e, h4⟩ := cl5 h hn hk
  rw [e]; exact ud 5 R 18 (ix p) k v hk
theorem in5' {n m : Nat} {p q : Int32} (h : isIx n p = true) (hn : n ≤ 4) (h2 : isIx m q = true) (hm : m ≤ 5) : vp_in (5 * p + q) 20 := by
  obtain ⟨a1, a2⟩ := ix_lt h2 (by omega)
  rw [a2]; exact in5 h hn (by omega)
theorem v5' {n m : Nat} {p q : Int32} {f : Nat → Nat → Int32} (h : isIx n p = true) (hn : n ≤ 4) (h2 : isIx m q = true) (hm : m ≤ 5) : (fun k => f (k / 5) (k % 5)) (5 * p + q).toNatClampNeg = f (ix p) (ix q) := by
  obtain ⟨a1, a2⟩ := ix_lt h2 (by omega)
  rw [a2]; rw [v5 h hn (by omega), ← a2]
theorem cl24 {n m : Nat} {d p q : Int32} (hd : isIx m d = true) (hm : m ≤ 19) (h : isIx n p = true) (hn : n ≤ 6) (h2 : wi q 0 3 = true) : 24 * d + 4 * p + q = nI (24 * ix d + (4 * ix p + ix q)) ∧ (24 * d + 4 * p + q).toNatClampNeg = 24 * ix d + (4 * ix p + ix q) ∧ 4 * ix p + ix q < 24 ∧ ix d < m := by
  obtain ⟨a1, a2⟩ := ix_lt hd (by omega)
  obtain ⟨b1, b2, b3, b4⟩ := cl4 h (by omega) h2
  have e : 24 * d + 4 * p + q = nI (24 * ix d + (4 * ix p + ix q)) := by
    rw [Int32.add_assoc, b1]
    rw [show 24 * d = nI (24 * ix d) by rw [a2, show (24 : Int32) = nI 24 from rfl, pk_mul, ← a2], nI_add]
  exact ⟨e, by rw [e]; exact nI_clamp (by omega), by omega, a1⟩
theorem in24 {n m : Nat} {d p q : Int32} (hd : isIx m d = true) (hm : m ≤ 19) (h : isIx n p = true) (hn : n ≤ 6) (h2 : wi q 0 3 = true) : vp_in (24 * d + 4 * p + q) 480 := by
  obtain ⟨e, -, h3, h4⟩ := cl24 hd hm h hn h2
  rw [e]; exact vp_in_nI (by omega) (by decide)
theorem v24 {n m : Nat} {d p q : Int32} {f : Nat → Nat → Int32} (hd : isIx m d = true) (hm : m ≤ 19) (h : isIx n p = true) (hn : n ≤ 6) (h2 : wi q 0 3 = true) : (fun k => f (k / 24) (k % 24)) (24 * d + 4 * p + q).toNatClampNeg = f (ix d) (4 * ix p + ix q) := by
  obtain ⟨-, e, h3, h4⟩ := cl24 hd hm h hn h2
  rw [e]
  show f ((24 * ix d + (4 * ix p + ix q)) / 24) ((24 * ix d + (4 * ix p + ix q)) % 24) = _
  rw [show (24 * ix d + (4 * ix p + ix q)) / 24 = ix d by omega, show (24 * ix d + (4 * ix p + ix q)) % 24 = 4 * ix p + ix q by omega]
/-- a lot's state is one of five -/
def st5 (x : Int32) : Prop := x = 102 ∨ x = 115 ∨ x = 108 ∨ x = 100 ∨ x = 120
theorem stN {x : Int32} (h : st5 x) : narrow .char (.int x) = .int x := by rcases h with rfl | rfl | rfl | rfl | rfl <;> rfl
theorem stV {x : Int32} (h : st5 x) : vp_nar .char x = x := by rcases h with rfl | rfl | rfl | rfl | rfl <;> rfl
/-- a weight that a lot may have -/
def wOK (x : Int32) : Prop := ∃ w : Nat, 1 ≤ w ∧ w ≤ 2000 ∧ x = nI w
theorem iceFor_nI (w : Nat) (h : w ≤ 2000) : iceFor (nI w) = nI ((w + 9) / 10) := by
  unfold iceFor
  rw [show (9 : Int32) = nI 9 from rfl, nI_add, show (10 : Int32) = nI 10 from rfl, pk_div (by omega) (by omega) (by omega)]
theorem iceFor_ne {x : Int32} (h : wOK x) : ¬ iceFor x = 0 := by
  obtain ⟨w, h1, h2, rfl⟩ := h
  rw [iceFor_nI w h2]
  exact nI_ne0 (by omega) (by omega)
theorem ix_ne {n : Nat} {p q : Int32} (h : isIx n p = true) (h2 : isIx n q = true) (hn : n ≤ 20) (hne : ¬ p = q) : ¬ ix q = ix p := by
  obtain ⟨a1, a2⟩ := ix_lt h (by omega)
  obtain ⟨b1, b2⟩ := ix_lt h2 (by omega)
  intro e
  exact hne (by rw [a2, b2, e])
theorem mWd_r3 (cA : Nat → ClassId) (β : Nat → Nat) (c0 c1 : Nat × va_E) (wr : va_W) (th : Int32) (N : Nat → Nat → Nat) (R : Nat → Nat → Nat → Int32) (Fr : Nat → UInt32) (inc : Int64) (i j : Nat) (v : Int32) : mWd cA β c0 c1 wr th (N, up3 R 3 i j v, Fr, inc) = mWd cA β c0 c1 wr th (N, R, Fr, inc) := rfl
theorem mWd_n2 (cA : Nat → ClassId) (β : Nat → Nat) (c0 c1 : Nat × va_E) (wr : va_W) (th : Int32) (N : Nat → Nat → Nat) (R : Nat → Nat → Nat → Int32) (Fr : Nat → UInt32) (inc : Int64) (i v : Nat) : mWd cA β c0 c1 wr th (up2 N 2 i v, R, Fr, inc) = mWd cA β c0 c1 wr th (N, R, Fr, inc) := rfl
theorem mWd_n3 (cA : Nat → ClassId) (β : Nat → Nat) (c0 c1 : Nat × va_E) (wr : va_W) (th : Int32) (N : Nat → Nat → Nat) (R : Nat → Nat → Nat → Int32) (Fr : Nat → UInt32) (inc : Int64) (i v : Nat) : mWd cA β c0 c1 wr th (up2 N 3 i v, R, Fr, inc) = mWd cA β c0 c1 wr th (N, R, Fr, inc) := rfl
/-- what holds of a lot that stands in the rows -/
def lotOK (R : Nat → Nat → Nat → Int32) (Fr : Nat → UInt32) (j : Nat) : Prop := wi (R 5 j 0) 0 3 = true ∧ wi (R 6 j 0) 0 2 = true ∧ wOK (R 7 j 0) ∧ st5 (R 9 j 0) ∧ fo (Fr j) ∧ (R 8 j 0 = 0 ∨ R 8 j 0 = 1)
theorem best_le (R : Nat → Nat → Nat → Int32) (Fr : Nat → UInt32) (j : Nat) (p : Int32) (n : Nat) : best R Fr j p n ≤ n := by
  induction n with
  | zero => exact Nat.le_refl _
  | succ n ih =>
    simp only [best]
    split
    · exact Nat.le_refl _
    · omega
theorem nI_neg1 {b : Nat} (h : b < 2 ^ 31) : ¬ nI b = -1 := fun q => absurd (nI_pos' h) (by rw [q]; decide)
section KLOOP
variable {p : Program} {l : Launch} {e : Env} {R : Room} {s : State} {m : MethodId} {args : Array Value} {below : List Frame} {meth : Method} {c : Code} {H : Heap} {locs : List Loc} {ls : Array Slot} {cells slots : Nat} {Q : State → Prop}
theorem k_ind {P : Nat → Heap → List Loc → Array Slot → Prop} {pc : Nat} {rest : List Value} (h : ∀ k : Nat, (∀ k' : Nat, k' < k → ∀ {H : Heap} {locs : List Loc} {ls : Array Slot}, P k' H locs ls → W p l e R s m args below meth c H locs cells slots Q (F0 m pc ls rest)) → ∀ (H : Heap) (locs : List Loc) (ls : Array Slot), P k H locs ls → W p l e R s m args below meth c H locs cells slots Q (F0 m pc ls rest)) (k : Nat) (h0 : P k H locs ls) : W p l e R s m args below meth c H locs cells slots Q (F0 m pc ls rest) := by
  revert H locs ls
  induction k using Nat.strongRecOn with
  | ind k ih => exact fun {H locs ls} h0 => h k (fun k' hk _ _ _ h1 => ih k' hk h1) H locs ls h0
end KLOOP
