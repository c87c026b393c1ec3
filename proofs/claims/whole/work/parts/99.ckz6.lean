/-! room in a vessel: the class's sums of ints against the reference's sums of longs -/
theorem nI_64 {n : Nat} (h : n < 2 ^ 31) : (nI n).toInt64 = Int64.ofNat n := Int64.toInt_inj.mp (by
  rw [Int32.toInt_toInt64, nI_toInt h, Int64.toInt_ofNat_of_lt (by omega)])
theorem of64_lt {a b : Nat} (ha : a < 2 ^ 62) (hb : b < 2 ^ 62) : Int64.ofNat a < Int64.ofNat b ↔ a < b := by
  rw [Int64.lt_iff_toInt_lt, Int64.toInt_ofNat_of_lt (by omega), Int64.toInt_ofNat_of_lt (by omega)]
  omega
theorem nI_ofL {x : Int32} (h : ¬ x < 0) (hx : x ≤ 100000) : ∃ n, n ≤ 100000 ∧ x = nI n := by
  have a : ¬ x.toInt < (0 : Int32).toInt := fun z => h (Int32.lt_iff_toInt_lt.mpr z)
  have b := Int32.le_iff_toInt_le.mp hx
  have e0 : (0 : Int32).toInt = 0 := by decide
  have e1 : (100000 : Int32).toInt = 100000 := by decide
  refine ⟨x.toInt.toNat, by omega, Int32.toInt_inj.mp ?_⟩
  rw [nI_toInt (by omega)]
  omega
/-- what the class answers to hasRoomFor -/
def rmI (C : cw_C) (a : Nat) (x y : Int32) : Int32 := if cI C 9 a 2 < cI C 9 a 3 + x then 0 else if 100000 < cI C 9 a 4 + y then 0 else 1
theorem room_eq {C : cw_C} {M : mw_S} {a w t z xn yn : Nat} (c2 : cI C 9 a 2 = M.2.2.1 50 a) (c3 : cI C 9 a 3 = M.2.2.1 51 a) (c4 : cI C 9 a 4 = M.2.2.1 52 a) (e1 : M.2.2.1 51 a = nI w) (e2 : M.2.2.1 52 a = nI t) (e3 : M.2.2.1 50 a = nI z) (hw : w ≤ 10000) (ht : t ≤ 100000) (hz : z ≤ 10000) (hx : xn ≤ 100000) (hy : yn ≤ 100000) : rmI C a (nI xn) (nI yn) = sp_room M a (nI xn).toInt64 (nI yn).toInt64 := by
  unfold rmI sp_room
  rw [c2, c3, c4, e1, e2, e3, nI_add, nI_add, nI_64 (show w < 2 ^ 31 by omega), nI_64 (show t < 2 ^ 31 by omega), nI_64 (show z < 2 ^ 31 by omega), nI_64 (show xn < 2 ^ 31 by omega), nI_64 (show yn < 2 ^ 31 by omega), ← Int64.ofNat_add, ← Int64.ofNat_add]
  have q1 : (0 < lg_cmp (Int64.ofNat (w + xn)) (Int64.ofNat z)) ↔ nI z < nI (w + xn) := by rw [lg_cmp_gt, of64_lt (by omega) (by omega), nI_ltI (by omega) (by omega)]
  have q2 : (0 < lg_cmp (Int64.ofNat (t + yn)) 100000) ↔ 100000 < nI (t + yn) := by
    rw [lg_cmp_gt, show (100000 : Int64) = Int64.ofNat 100000 by decide, of64_lt (by omega) (by omega), show (100000 : Int32) = nI 100000 by decide, nI_ltI (by omega) (by omega)]
  by_cases z1 : nI z < nI (w + xn)
  · rw [if_pos z1, if_pos (q1.mpr z1)]
  · rw [if_neg z1, if_neg (fun y => z1 (q1.mp y))]
    by_cases z2 : 100000 < nI (t + yn)
    · rw [if_pos z2, if_pos (q2.mpr z2)]
    · rw [if_neg z2, if_neg (fun y => z2 (q2.mp y))]
theorem vh_ok {G : mm_G} {L : Nat × Nat} {d : Nat} {h h0 : mm_H} {ad : Nat → Nat → Nat} {C : cw_C} {a : Nat} {x y : Int32} (n9 : a < cN C 9) (hC : cw ad h0 C h) : mm_Ok G mX9_hasRoomFor L d [.ref (ad 9 a), .int x, .int y] h (fun r h1 => h1 = h ∧ r = some (.int (rmI C a x y))) := ok_X9_hasRoomFor (hC.1 9 a (by decide) n9)
