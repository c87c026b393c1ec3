theorem x4_stS {G : mm_G} {L : Nat × Nat} {d : Nat} {h : mm_H} {h0 : mm_H} {ad : Nat → Nat → Nat} {C : cw_C} {M : mw_S} {ab : Nat → Option Nat} {k j : Nat} {ho pk : Int32} (hkf : kf_ok ab (k + 1)) (hk50 : k < 50) (n4 : k < cN C 4) (n21 : k < cN C 21) (hS : ∀ i, i < k → kSt ad C M ab i) (hb : ∀ g, g < cN C 1 → bdR ad C M g) (h1 : cN C 1 = kg M) (hg : kg M < 2 ^ 30) (hB : ∀ i, i < k + 1 → hBm M i) (hk0 : cL C 4 k 0 = M.2.2.2.1 100 k) (hk11 : cR C 4 k 11 = some (ad 21 k)) (hkH : kdH ad C M k) (hV5 : ho = M.2.2.1 5 k) (hV7 : pk = M.2.2.1 7 k) (hab : ab k = some j) (hC : cw ad h0 C h) : mm_Ok G mX4_settle L (d + 2) [.ref (ad 4 k), .int (nI k), .ref (ad 4 j), .int ho, .int pk] h (fun r h1 => ∃ C2, cw ad h0 C2 h1 ∧ h1.2 = h.2 ∧ r = none ∧ stF C C2 M k ∧ kSt ad C2 M ab k) := by
  refine mm_Ok.of [(0, .ref (ad 4 k)), (1, .int (nI k)), (2, .ref (ad 4 j)), (3, .int ho), (4, .int pk)] rfl kX4_settle.2.2.2.2.2 rfl (fun A => ?_)
  have hjk : j < k := hkf k j (Nat.lt_succ_self k) hab
  refine mm_aload_n (pc := 0) dX4_settle_0 rfl (by first | trivial | assumption | exact mm_isr_rf _) ?_
  refine mm_iload_n (pc := 1) dX4_settle_1 rfl ?_
  refine cw_pi (pc := 2) 4 _ 4 hC (rfl) rfl (n4) dX4_settle_2 (pl_X4_19 _) rfl rfl (rfl) (rfl) (fun h2 hC e2 => ?_)
  refine mm_aload_n (pc := 5) dX4_settle_5 rfl (by first | trivial | assumption | exact mm_isr_rf _) ?_
  refine mm_aload_n (pc := 6) dX4_settle_6 rfl (by first | trivial | assumption | exact mm_isr_rf _) ?_
  refine cw_prS (pc := 7) 4 _ 5 hC (rfl) rfl ((by rw [cw_sI_N]; exact n4)) dX4_settle_7 (pl_X4_22 _) rfl rfl (fun h7 hC e7 => ?_)
  refine mm_aload_n (pc := 10) dX4_settle_10 rfl (by first | trivial | assumption | exact mm_isr_rf _) ?_
  refine mm_iload_n (pc := 11) dX4_settle_11 rfl ?_
  refine cw_pi (pc := 12) 4 _ 6 hC (rfl) rfl ((by rw [cw_sR_N, cw_sI_N]; exact n4)) dX4_settle_12 (pl_X4_26 _) rfl rfl (rfl) (rfl) (fun h12 hC e12 => ?_)
  refine mm_aload_n (pc := 15) dX4_settle_15 rfl (by first | trivial | assumption | exact mm_isr_rf _) ?_
  refine mm_iload (pc := 16) dX4_settle_16 rfl ?_
  refine cw_pi (pc := 18) 4 _ 7 hC (rfl) rfl ((by rw [cw_sI_N, cw_sR_N, cw_sI_N]; exact n4)) dX4_settle_18 (pl_X4_29 _) rfl rfl (rfl) (rfl) (fun h18 hC e18 => ?_)
  refine mm_aload_n (pc := 21) dX4_settle_21 rfl (by first | trivial | assumption | exact mm_isr_rf _) ?_
  refine mm_aload_n (pc := 22) dX4_settle_22 rfl (by first | trivial | assumption | exact mm_isr_rf _) ?_
  refine mm_ifnonnull (pc := 23) (tgt := 30) dX4_settle_23 (by decide) (by first | trivial | assumption | exact mm_isr_rf _) (fun a23 c23 => ?_) (fun c23 => by cases c23)
  refine mm_aload_n (pc := 30) dX4_settle_30 rfl (by first | trivial | assumption | exact mm_isr_rf _) ?_
  refine cw_gi (pc := 31) 4 j 8 hC (rfl) rfl ((by rw [cw_sI_N, cw_sI_N, cw_sR_N, cw_sI_N]; omega)) dX4_settle_31 fl_X4_32 rfl rfl rfl ?_
  refine mm_topi _ (show cI (cw_sI (cw_sI (cw_sR (cw_sI C 4 k 4 (nI k)) 4 k 5 (some (ad 4 j))) 4 k 6 ho) 4 k 7 pk) 4 j 8 = nI (kdep ab (ab j)) by rw [cI_sI_n (by omega), cI_sI_n (by omega), cI_sR, cI_sI_n (by omega)]; exact (hS j hjk).1.2.2.2.2.2.1) ?_
  refine mm_iconst (pc := 34) (v := 1) dX4_settle_34 (by decide) ?_
  refine mm_iadd (pc := 35) dX4_settle_35 ?_
  refine cw_pi (pc := 36) 4 _ 8 hC (rfl) rfl ((by rw [cw_sI_N, cw_sI_N, cw_sR_N, cw_sI_N]; exact n4)) dX4_settle_36 (pl_X4_32 _) rfl rfl (rfl) (rfl) (fun h36 hC e36 => ?_)
  refine mm_iconst (pc := 39) (v := 0) dX4_settle_39 (by decide) ?_
  refine mm_istore (pc := 40) dX4_settle_40 rfl (Nat.le_of_ble_eq_true rfl) ?_
  have hF : stF C (cw_sI (cw_sI (cw_sI (cw_sR (cw_sI C 4 k 4 (nI k)) 4 k 5 (some (ad 4 j))) 4 k 6 ho) 4 k 7 pk) 4 k 8 (nI (kdep ab (ab j)) + 1)) M k := (((((stF.refl C M k).sI (by decide)).sR).sI (by decide)).sI (by decide)).sI (by decide)
  refine mm_post (fun r_ h_ z_ => ?_) (mm_weakK (st_loop (d := d) hkf hk50 n4 n21 hS hb h1 hg hB 6 0 (cw_sI (cw_sI (cw_sI (cw_sR (cw_sI C 4 k 4 (nI k)) 4 k 5 (some (ad 4 j))) 4 k 6 ho) 4 k 7 pk) 4 k 8 (nI (kdep ab (ab j)) + 1)) h36 rfl hC hF ?_ (fun q' hq' => absurd hq' (Nat.not_lt_zero q'))) (And.intro rfl (And.intro rfl trivial)))
  · obtain ⟨C2, z1, z2, z3⟩ := z_
    exact ⟨C2, z1, by rw [z2, e36, e18, e12, e7, e2], z3⟩
  · refine ⟨?_, ?_, ?_, ?_, ?_, ?_, ?_, ?_⟩
    · rw [cL_sI, cL_sI, cL_sI, cL_sR, cL_sI]; exact hk0
    · rw [cI_sI_n (by omega), cI_sI_n (by omega), cI_sI_n (by omega), cI_sR, cI_sI_e]
    · rw [cR_sI, cR_sI, cR_sI, cR_sR_e, hab]; rfl
    · rw [cI_sI_n (by omega), cI_sI_n (by omega), cI_sI_e]; exact hV5
    · rw [cI_sI_n (by omega), cI_sI_e]; exact hV7
    · rw [cI_sI_e, hab, kdep_some hkf (by omega) (by omega)]; exact nI_add _ 1
    · rw [cR_sI, cR_sI, cR_sI, cR_sR_n (by omega), cR_sI]; exact hk11
    · exact hkH.same ((cw_sI_o (by decide)).trans ((cw_sI_o (by decide)).trans ((cw_sI_o (by decide)).trans ((cw_sR_o (by decide)).trans (cw_sI_o (by decide)))))) (by rw [cw_sI_N, cw_sI_N, cw_sI_N, cw_sR_N, cw_sI_N])

theorem x4_stN {G : mm_G} {L : Nat × Nat} {d : Nat} {h : mm_H} {h0 : mm_H} {ad : Nat → Nat → Nat} {C : cw_C} {M : mw_S} {ab : Nat → Option Nat} {k : Nat} {ho pk : Int32} (hkf : kf_ok ab (k + 1)) (hk50 : k < 50) (n4 : k < cN C 4) (n21 : k < cN C 21) (hS : ∀ i, i < k → kSt ad C M ab i) (hb : ∀ g, g < cN C 1 → bdR ad C M g) (h1 : cN C 1 = kg M) (hg : kg M < 2 ^ 30) (hB : ∀ i, i < k + 1 → hBm M i) (hk0 : cL C 4 k 0 = M.2.2.2.1 100 k) (hk11 : cR C 4 k 11 = some (ad 21 k)) (hkH : kdH ad C M k) (hV5 : ho = M.2.2.1 5 k) (hV7 : pk = M.2.2.1 7 k) (hab : ab k = none) (hC : cw ad h0 C h) : mm_Ok G mX4_settle L (d + 2) [.ref (ad 4 k), .int (nI k), .null, .int ho, .int pk] h (fun r h1 => ∃ C2, cw ad h0 C2 h1 ∧ h1.2 = h.2 ∧ r = none ∧ stF C C2 M k ∧ kSt ad C2 M ab k) := by
  refine mm_Ok.of [(0, .ref (ad 4 k)), (1, .int (nI k)), (2, .null), (3, .int ho), (4, .int pk)] rfl kX4_settle.2.2.2.2.2 rfl (fun A => ?_)
  refine mm_aload_n (pc := 0) dX4_settle_0 rfl (by first | trivial | assumption | exact mm_isr_rf _) ?_
  refine mm_iload_n (pc := 1) dX4_settle_1 rfl ?_
  refine cw_pi (pc := 2) 4 _ 4 hC (rfl) rfl (n4) dX4_settle_2 (pl_X4_19 _) rfl rfl (rfl) (rfl) (fun h2 hC e2 => ?_)
  refine mm_aload_n (pc := 5) dX4_settle_5 rfl (by first | trivial | assumption | exact mm_isr_rf _) ?_
  refine mm_aload_n (pc := 6) dX4_settle_6 rfl (by first | trivial | assumption | exact mm_isr_rf _) ?_
  refine cw_pr (pc := 7) (x := none) 4 _ 5 hC (rfl) rfl ((by rw [cw_sI_N]; exact n4)) dX4_settle_7 (pl_X4_22 _) rfl rfl (rfl) (fun h7 hC e7 => ?_)
  refine mm_aload_n (pc := 10) dX4_settle_10 rfl (by first | trivial | assumption | exact mm_isr_rf _) ?_
  refine mm_iload_n (pc := 11) dX4_settle_11 rfl ?_
  refine cw_pi (pc := 12) 4 _ 6 hC (rfl) rfl ((by rw [cw_sR_N, cw_sI_N]; exact n4)) dX4_settle_12 (pl_X4_26 _) rfl rfl (rfl) (rfl) (fun h12 hC e12 => ?_)
  refine mm_aload_n (pc := 15) dX4_settle_15 rfl (by first | trivial | assumption | exact mm_isr_rf _) ?_
  refine mm_iload (pc := 16) dX4_settle_16 rfl ?_
  refine cw_pi (pc := 18) 4 _ 7 hC (rfl) rfl ((by rw [cw_sI_N, cw_sR_N, cw_sI_N]; exact n4)) dX4_settle_18 (pl_X4_29 _) rfl rfl (rfl) (rfl) (fun h18 hC e18 => ?_)
  refine mm_aload_n (pc := 21) dX4_settle_21 rfl (by first | trivial | assumption | exact mm_isr_rf _) ?_
  refine mm_aload_n (pc := 22) dX4_settle_22 rfl (by first | trivial | assumption | exact mm_isr_rf _) ?_
  refine mm_ifnonnull (pc := 23) (tgt := 30) dX4_settle_23 (by decide) (by first | trivial | assumption | exact mm_isr_rf _) (fun a23 c23 => by cases c23) (fun c23 => ?_)
  refine mm_iconst (pc := 26) (v := 0) dX4_settle_26 (by decide) ?_
  refine mm_goto (pc := 27) (tgt := 36) dX4_settle_27 (by decide) ?_
  refine cw_pi (pc := 36) 4 _ 8 hC (rfl) rfl ((by rw [cw_sI_N, cw_sI_N, cw_sR_N, cw_sI_N]; exact n4)) dX4_settle_36 (pl_X4_32 _) rfl rfl (rfl) (rfl) (fun h36 hC e36 => ?_)
  refine mm_iconst (pc := 39) (v := 0) dX4_settle_39 (by decide) ?_
  refine mm_istore (pc := 40) dX4_settle_40 rfl (Nat.le_of_ble_eq_true rfl) ?_
  have hF : stF C (cw_sI (cw_sI (cw_sI (cw_sR (cw_sI C 4 k 4 (nI k)) 4 k 5 none) 4 k 6 ho) 4 k 7 pk) 4 k 8 0) M k := (((((stF.refl C M k).sI (by decide)).sR).sI (by decide)).sI (by decide)).sI (by decide)
  refine mm_post (fun r_ h_ z_ => ?_) (mm_weakK (st_loop (d := d) hkf hk50 n4 n21 hS hb h1 hg hB 6 0 (cw_sI (cw_sI (cw_sI (cw_sR (cw_sI C 4 k 4 (nI k)) 4 k 5 none) 4 k 6 ho) 4 k 7 pk) 4 k 8 0) h36 rfl hC hF ?_ (fun q' hq' => absurd hq' (Nat.not_lt_zero q'))) (And.intro rfl (And.intro rfl trivial)))
  · obtain ⟨C2, z1, z2, z3⟩ := z_
    exact ⟨C2, z1, by rw [z2, e36, e18, e12, e7, e2], z3⟩
  · refine ⟨?_, ?_, ?_, ?_, ?_, ?_, ?_, ?_⟩
    · rw [cL_sI, cL_sI, cL_sI, cL_sR, cL_sI]; exact hk0
    · rw [cI_sI_n (by omega), cI_sI_n (by omega), cI_sI_n (by omega), cI_sR, cI_sI_e]
    · rw [cR_sI, cR_sI, cR_sI, cR_sR_e, hab]; rfl
    · rw [cI_sI_n (by omega), cI_sI_n (by omega), cI_sI_e]; exact hV5
    · rw [cI_sI_n (by omega), cI_sI_e]; exact hV7
    · rw [cI_sI_e, hab]; rfl
    · rw [cR_sI, cR_sI, cR_sI, cR_sR_n (by omega), cR_sI]; exact hk11
    · exact hkH.same ((cw_sI_o (by decide)).trans ((cw_sI_o (by decide)).trans ((cw_sI_o (by decide)).trans ((cw_sR_o (by decide)).trans (cw_sI_o (by decide)))))) (by rw [cw_sI_N, cw_sI_N, cw_sI_N, cw_sR_N, cw_sI_N])

theorem x4_settle {G : mm_G} {L : Nat × Nat} {d : Nat} {h : mm_H} {h0 : mm_H} {ad : Nat → Nat → Nat} {C : cw_C} {M : mw_S} {ab : Nat → Option Nat} {k : Nat} {ho pk : Int32} (hkf : kf_ok ab (k + 1)) (hk50 : k < 50) (n4 : k < cN C 4) (n21 : k < cN C 21) (hS : ∀ i, i < k → kSt ad C M ab i) (hb : ∀ g, g < cN C 1 → bdR ad C M g) (h1 : cN C 1 = kg M) (hg : kg M < 2 ^ 30) (hB : ∀ i, i < k + 1 → hBm M i) (hk0 : cL C 4 k 0 = M.2.2.2.1 100 k) (hk11 : cR C 4 k 11 = some (ad 21 k)) (hkH : kdH ad C M k) (hV5 : ho = M.2.2.1 5 k) (hV7 : pk = M.2.2.1 7 k) (hC : cw ad h0 C h) : mm_Ok G mX4_settle L (d + 2) [.ref (ad 4 k), .int (nI k), va_rf ((ab k).map (ad 4)), .int ho, .int pk] h (fun r h1 => ∃ C2, cw ad h0 C2 h1 ∧ h1.2 = h.2 ∧ r = none ∧ stF C C2 M k ∧ kSt ad C2 M ab k) := by
  cases hab : ab k with
  | none => exact x4_stN hkf hk50 n4 n21 hS hb h1 hg hB hk0 hk11 hkH hV5 hV7 hab hC
  | some j => exact x4_stS hkf hk50 n4 n21 hS hb h1 hg hB hk0 hk11 hkH hV5 hV7 hab hC

