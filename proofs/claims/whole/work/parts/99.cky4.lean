theorem ch_j {G : mm_G} {L : Nat × Nat} {d : Nat} {h : mm_H} {h0 : mm_H} {ad : Nat → Nat → Nat} {C : cw_C} {M : mw_S} {ab : Nat → Option Nat} {nk np : Nat} {j q i : Int32} (hG : rlG ad C M ab nk np) (hj : sp_in j (nI nk) = 0) (hC : cw ad h0 C h) : mm_Ok G mX11_chosen L (d + 4) [.ref (ad 11 0), .int j, .int q, .int i] h (fun r h1 => gP ad h0 C h (sp_chosen M ab j q i) r h1) := by
  refine mm_Ok.of [(0, .ref (ad 11 0)), (1, .int j), (2, .int q), (3, .int i)] rfl kX11_chosen.2.2.2.2.2 rfl (fun A => ?_)
  obtain ⟨hR, hE, ⟨n11, n13⟩, f3, f9, s3, s19⟩ := id hG
  have n7 := hR.1.1
  have hk40 := hR.2.1.1
  refine mm_aload_n (pc := 0) dX11_chosen_0 rfl (by first | trivial | assumption | exact mm_isr_rf _) ?_
  refine cw_grS (pc := 1) 11 _ 3 hC (rfl) rfl (n11) dX11_chosen_1 fl_X11_23 rfl rfl rfl (f3) ?_
  refine mm_iload_n (pc := 4) dX11_chosen_4 rfl ?_
  refine mm_callV (pc := 5) (As := [_]) (kd := ?kd_5_1) (fs := ?fs_5_1) dX11_chosen_5 vl_X11_139 (ka_no hR hj hC) ?hc_5_1 ?hk_5_1 rfl rfl (Nat.le_of_ble_eq_true rfl) ?_; (case hc_5_1 => exact cw_cell (f := 7) hC rfl rfl n7); (case hk_5_1 => rfl)
  rintro _ _ ⟨rfl, rfl⟩
  refine mm_astore (pc := 8) dX11_chosen_8 (by first | trivial | assumption | exact mm_isr_rf _) rfl (Nat.le_of_ble_eq_true rfl) ?_
  refine mm_aload_n (pc := 10) dX11_chosen_10 rfl (by first | trivial | assumption | exact mm_isr_rf _) ?_
  refine cw_grS (pc := 11) 11 _ 3 hC (rfl) rfl (n11) dX11_chosen_11 fl_X11_23 rfl rfl rfl (f3) ?_
  refine mm_iload_n (pc := 14) dX11_chosen_14 rfl ?_
  refine mm_callV (pc := 15) (As := [_]) (kd := ?kd_15_2) (fs := ?fs_15_2) dX11_chosen_15 vl_X11_139 (ka_any hR hC) ?hc_15_2 ?hk_15_2 rfl rfl (Nat.le_of_ble_eq_true rfl) ?_; (case hc_15_2 => exact cw_cell (f := 7) hC rfl rfl n7); (case hk_15_2 => rfl)
  rintro _ _ ⟨rfl, o_, rfl⟩
  refine mm_astore (pc := 18) dX11_chosen_18 (by first | trivial | assumption | exact mm_isr_rf _) rfl (Nat.le_of_ble_eq_true rfl) ?_
  refine mm_aload (pc := 20) dX11_chosen_20 rfl (by first | trivial | assumption | exact mm_isr_rf _) ?_
  refine mm_ifnull (pc := 22) (tgt := 37) dX11_chosen_22 (by decide) (by first | trivial | assumption | exact mm_isr_rf _) (fun c22 => ?_) (fun a22 c22 => by cases c22)
  refine mm_aload_n (pc := 37) dX11_chosen_37 rfl (by first | trivial | assumption | exact mm_isr_rf _) ?_
  refine mm_iconst (pc := 38) (v := (-1)) dX11_chosen_38 (by decide) ?_
  refine mm_callV (pc := 39) (As := [_]) (kd := ?kd_39_3) (fs := ?fs_39_3) dX11_chosen_39 vl_X11_96 (tl_ok (c := 1) n11 n13 f9 rfl (by decide) (by decide) hC) ?hc_39_3 ?hk_39_3 rfl rfl (Nat.le_of_ble_eq_true rfl) ?_; (case hc_39_3 => exact cw_cell (f := 11) hC rfl rfl n11); (case hk_39_3 => rfl)
  rintro _ h39 ⟨hC, e39, rfl⟩
  refine mm_iret (pc := 42) dX11_chosen_42 rfl ?_
  exact gP_no hC e39 (by unfold sp_chosen; rw [s3]; by_cases z : sp_in i (nI nk) = 0; (rw [if_pos z]; rfl); (rw [if_neg z, if_pos hj]; rfl)) (by decide)

theorem ch_i {G : mm_G} {L : Nat × Nat} {d : Nat} {h : mm_H} {h0 : mm_H} {ad : Nat → Nat → Nat} {C : cw_C} {M : mw_S} {ab : Nat → Option Nat} {nk np : Nat} {q i : Int32} {j : Nat} (hG : rlG ad C M ab nk np) (hj : j < nk) (hi : sp_in i (nI nk) = 0) (hC : cw ad h0 C h) : mm_Ok G mX11_chosen L (d + 4) [.ref (ad 11 0), .int (nI j), .int q, .int i] h (fun r h1 => gP ad h0 C h (sp_chosen M ab (nI j) q i) r h1) := by
  refine mm_Ok.of [(0, .ref (ad 11 0)), (1, .int (nI j)), (2, .int q), (3, .int i)] rfl kX11_chosen.2.2.2.2.2 rfl (fun A => ?_)
  obtain ⟨hR, hE, ⟨n11, n13⟩, f3, f9, s3, s19⟩ := id hG
  have n7 := hR.1.1
  have hk40 := hR.2.1.1
  have hjn : ¬ sp_in (nI j) (M.1 3) = 0 := by rw [s3]; exact sp_in_k hj (by omega)
  have n4j : j < cN C 4 := by have := hR.1.2.2.2.1; omega
  have ej : (nI j).toNatClampNeg = j := nI_clamp (by omega)
  refine mm_aload_n (pc := 0) dX11_chosen_0 rfl (by first | trivial | assumption | exact mm_isr_rf _) ?_
  refine cw_grS (pc := 1) 11 _ 3 hC (rfl) rfl (n11) dX11_chosen_1 fl_X11_23 rfl rfl rfl (f3) ?_
  refine mm_iload_n (pc := 4) dX11_chosen_4 rfl ?_
  refine mm_callV (pc := 5) (As := [_]) (kd := ?kd_5_4) (fs := ?fs_5_4) dX11_chosen_5 vl_X11_139 (ka_in (k := j) hR hj hC) ?hc_5_4 ?hk_5_4 rfl rfl (Nat.le_of_ble_eq_true rfl) ?_; (case hc_5_4 => exact cw_cell (f := 7) hC rfl rfl n7); (case hk_5_4 => rfl)
  rintro _ _ ⟨rfl, rfl⟩
  refine mm_astore (pc := 8) dX11_chosen_8 (by first | trivial | assumption | exact mm_isr_rf _) rfl (Nat.le_of_ble_eq_true rfl) ?_
  refine mm_aload_n (pc := 10) dX11_chosen_10 rfl (by first | trivial | assumption | exact mm_isr_rf _) ?_
  refine cw_grS (pc := 11) 11 _ 3 hC (rfl) rfl (n11) dX11_chosen_11 fl_X11_23 rfl rfl rfl (f3) ?_
  refine mm_iload_n (pc := 14) dX11_chosen_14 rfl ?_
  refine mm_callV (pc := 15) (As := [_]) (kd := ?kd_15_5) (fs := ?fs_15_5) dX11_chosen_15 vl_X11_139 (ka_no hR hi hC) ?hc_15_5 ?hk_15_5 rfl rfl (Nat.le_of_ble_eq_true rfl) ?_; (case hc_15_5 => exact cw_cell (f := 7) hC rfl rfl n7); (case hk_15_5 => rfl)
  rintro _ _ ⟨rfl, rfl⟩
  refine mm_astore (pc := 18) dX11_chosen_18 (by first | trivial | assumption | exact mm_isr_rf _) rfl (Nat.le_of_ble_eq_true rfl) ?_
  refine mm_aload (pc := 20) dX11_chosen_20 rfl (by first | trivial | assumption | exact mm_isr_rf _) ?_
  refine mm_ifnull (pc := 22) (tgt := 37) dX11_chosen_22 (by decide) (by first | trivial | assumption | exact mm_isr_rf _) (fun c22 => by cases c22) (fun a22 c22 => ?_)
  refine mm_aload (pc := 25) dX11_chosen_25 rfl (by first | trivial | assumption | exact mm_isr_rf _) ?_
  refine mm_ifnull (pc := 27) (tgt := 37) dX11_chosen_27 (by decide) (by first | trivial | assumption | exact mm_isr_rf _) (fun c27 => ?_) (fun a27 c27 => by cases c27)
  refine mm_aload_n (pc := 37) dX11_chosen_37 rfl (by first | trivial | assumption | exact mm_isr_rf _) ?_
  refine mm_iconst (pc := 38) (v := (-1)) dX11_chosen_38 (by decide) ?_
  refine mm_callV (pc := 39) (As := [_]) (kd := ?kd_39_6) (fs := ?fs_39_6) dX11_chosen_39 vl_X11_96 (tl_ok (c := 1) n11 n13 f9 rfl (by decide) (by decide) hC) ?hc_39_6 ?hk_39_6 rfl rfl (Nat.le_of_ble_eq_true rfl) ?_; (case hc_39_6 => exact cw_cell (f := 11) hC rfl rfl n11); (case hk_39_6 => rfl)
  rintro _ h39 ⟨hC, e39, rfl⟩
  refine mm_iret (pc := 42) dX11_chosen_42 rfl ?_
  exact gP_no hC e39 (by unfold sp_chosen; rw [s3, if_pos hi]; rfl) (by decide)

theorem ch_q {G : mm_G} {L : Nat × Nat} {d : Nat} {h : mm_H} {h0 : mm_H} {ad : Nat → Nat → Nat} {C : cw_C} {M : mw_S} {ab : Nat → Option Nat} {nk np : Nat} {q : Int32} {k j : Nat} (hG : rlG ad C M ab nk np) (hk : k < nk) (hj : j < nk) (hq : sp_in q 6 = 0) (hC : cw ad h0 C h) : mm_Ok G mX11_chosen L (d + 4) [.ref (ad 11 0), .int (nI j), .int q, .int (nI k)] h (fun r h1 => gP ad h0 C h (sp_chosen M ab (nI j) q (nI k)) r h1) := by
  refine mm_Ok.of [(0, .ref (ad 11 0)), (1, .int (nI j)), (2, .int q), (3, .int (nI k))] rfl kX11_chosen.2.2.2.2.2 rfl (fun A => ?_)
  obtain ⟨hR, hE, ⟨n11, n13⟩, f3, f9, s3, s19⟩ := id hG
  have n7 := hR.1.1
  have hk40 := hR.2.1.1
  have hin : ¬ sp_in (nI k) (M.1 3) = 0 := by rw [s3]; exact sp_in_k hk (by omega)
  have n4 : k < cN C 4 := by have := hR.1.2.2.2.1; omega
  have ek : (nI k).toNatClampNeg = k := nI_clamp (by omega)
  have habk : cR C 4 k 5 = (ab k).map (ad 4) := (hE.2.1 k hk).1.2.2.1
  have hjn : ¬ sp_in (nI j) (M.1 3) = 0 := by rw [s3]; exact sp_in_k hj (by omega)
  have n4j : j < cN C 4 := by have := hR.1.2.2.2.1; omega
  have ej : (nI j).toNatClampNeg = j := nI_clamp (by omega)
  refine mm_aload_n (pc := 0) dX11_chosen_0 rfl (by first | trivial | assumption | exact mm_isr_rf _) ?_
  refine cw_grS (pc := 1) 11 _ 3 hC (rfl) rfl (n11) dX11_chosen_1 fl_X11_23 rfl rfl rfl (f3) ?_
  refine mm_iload_n (pc := 4) dX11_chosen_4 rfl ?_
  refine mm_callV (pc := 5) (As := [_]) (kd := ?kd_5_7) (fs := ?fs_5_7) dX11_chosen_5 vl_X11_139 (ka_in (k := j) hR hj hC) ?hc_5_7 ?hk_5_7 rfl rfl (Nat.le_of_ble_eq_true rfl) ?_; (case hc_5_7 => exact cw_cell (f := 7) hC rfl rfl n7); (case hk_5_7 => rfl)
  rintro _ _ ⟨rfl, rfl⟩
  refine mm_astore (pc := 8) dX11_chosen_8 (by first | trivial | assumption | exact mm_isr_rf _) rfl (Nat.le_of_ble_eq_true rfl) ?_
  refine mm_aload_n (pc := 10) dX11_chosen_10 rfl (by first | trivial | assumption | exact mm_isr_rf _) ?_
  refine cw_grS (pc := 11) 11 _ 3 hC (rfl) rfl (n11) dX11_chosen_11 fl_X11_23 rfl rfl rfl (f3) ?_
  refine mm_iload_n (pc := 14) dX11_chosen_14 rfl ?_
  refine mm_callV (pc := 15) (As := [_]) (kd := ?kd_15_8) (fs := ?fs_15_8) dX11_chosen_15 vl_X11_139 (ka_in (k := k) hR hk hC) ?hc_15_8 ?hk_15_8 rfl rfl (Nat.le_of_ble_eq_true rfl) ?_; (case hc_15_8 => exact cw_cell (f := 7) hC rfl rfl n7); (case hk_15_8 => rfl)
  rintro _ _ ⟨rfl, rfl⟩
  refine mm_astore (pc := 18) dX11_chosen_18 (by first | trivial | assumption | exact mm_isr_rf _) rfl (Nat.le_of_ble_eq_true rfl) ?_
  refine mm_aload (pc := 20) dX11_chosen_20 rfl (by first | trivial | assumption | exact mm_isr_rf _) ?_
  refine mm_ifnull (pc := 22) (tgt := 37) dX11_chosen_22 (by decide) (by first | trivial | assumption | exact mm_isr_rf _) (fun c22 => by cases c22) (fun a22 c22 => ?_)
  refine mm_aload (pc := 25) dX11_chosen_25 rfl (by first | trivial | assumption | exact mm_isr_rf _) ?_
  refine mm_ifnull (pc := 27) (tgt := 37) dX11_chosen_27 (by decide) (by first | trivial | assumption | exact mm_isr_rf _) (fun c27 => by cases c27) (fun a27 c27 => ?_)
  refine mm_iload_n (pc := 30) dX11_chosen_30 rfl ?_
  refine mm_callS (pc := 31) (As := [_]) dX11_chosen_31 sl_X11_163 (ok_X11_isHook) rfl rfl (Nat.le_of_ble_eq_true rfl) ?_
  rintro _ _ ⟨rfl, rfl⟩
  refine mm_if_ne (pc := 34) (tgt := 43) dX11_chosen_34 (by decide) (fun c34 => absurd hq c34) (fun c34 => ?_)
  refine mm_aload_n (pc := 37) dX11_chosen_37 rfl (by first | trivial | assumption | exact mm_isr_rf _) ?_
  refine mm_iconst (pc := 38) (v := (-1)) dX11_chosen_38 (by decide) ?_
  refine mm_callV (pc := 39) (As := [_]) (kd := ?kd_39_9) (fs := ?fs_39_9) dX11_chosen_39 vl_X11_96 (tl_ok (c := 1) n11 n13 f9 rfl (by decide) (by decide) hC) ?hc_39_9 ?hk_39_9 rfl rfl (Nat.le_of_ble_eq_true rfl) ?_; (case hc_39_9 => exact cw_cell (f := 11) hC rfl rfl n11); (case hk_39_9 => rfl)
  rintro _ h39 ⟨hC, e39, rfl⟩
  refine mm_iret (pc := 42) dX11_chosen_42 rfl ?_
  exact gP_no hC e39 (by unfold sp_chosen; rw [if_neg hin, if_neg hjn, if_pos hq]; rfl) (by decide)

theorem ch_m {G : mm_G} {L : Nat × Nat} {d : Nat} {h : mm_H} {h0 : mm_H} {ad : Nat → Nat → Nat} {C : cw_C} {M : mw_S} {ab : Nat → Option Nat} {nk np : Nat} {k q j : Nat} (hG : rlG ad C M ab nk np) (hk : k < nk) (hj : j < nk) (hq : q < 6) (hhj : rm_has M q j = false) (hC : cw ad h0 C h) : mm_Ok G mX11_chosen L (d + 4) [.ref (ad 11 0), .int (nI j), .int (nI q), .int (nI k)] h (fun r h1 => gP ad h0 C h (sp_chosen M ab (nI j) (nI q) (nI k)) r h1) := by
  refine mm_Ok.of [(0, .ref (ad 11 0)), (1, .int (nI j)), (2, .int (nI q)), (3, .int (nI k))] rfl kX11_chosen.2.2.2.2.2 rfl (fun A => ?_)
  obtain ⟨hR, hE, ⟨n11, n13⟩, f3, f9, s3, s19⟩ := id hG
  have n7 := hR.1.1
  have hk40 := hR.2.1.1
  have hin : ¬ sp_in (nI k) (M.1 3) = 0 := by rw [s3]; exact sp_in_k hk (by omega)
  have n4 : k < cN C 4 := by have := hR.1.2.2.2.1; omega
  have ek : (nI k).toNatClampNeg = k := nI_clamp (by omega)
  have habk : cR C 4 k 5 = (ab k).map (ad 4) := (hE.2.1 k hk).1.2.2.1
  have hq6 : ¬ sp_in (nI q) 6 = 0 := sp_in_k (n := 6) hq (by decide)
  have eq_ : (nI q).toNatClampNeg = q := nI_clamp (by omega)
  have hjn : ¬ sp_in (nI j) (M.1 3) = 0 := by rw [s3]; exact sp_in_k hj (by omega)
  have n4j : j < cN C 4 := by have := hR.1.2.2.2.1; omega
  have ej : (nI j).toNatClampNeg = j := nI_clamp (by omega)
  refine mm_aload_n (pc := 0) dX11_chosen_0 rfl (by first | trivial | assumption | exact mm_isr_rf _) ?_
  refine cw_grS (pc := 1) 11 _ 3 hC (rfl) rfl (n11) dX11_chosen_1 fl_X11_23 rfl rfl rfl (f3) ?_
  refine mm_iload_n (pc := 4) dX11_chosen_4 rfl ?_
  refine mm_callV (pc := 5) (As := [_]) (kd := ?kd_5_10) (fs := ?fs_5_10) dX11_chosen_5 vl_X11_139 (ka_in (k := j) hR hj hC) ?hc_5_10 ?hk_5_10 rfl rfl (Nat.le_of_ble_eq_true rfl) ?_; (case hc_5_10 => exact cw_cell (f := 7) hC rfl rfl n7); (case hk_5_10 => rfl)
  rintro _ _ ⟨rfl, rfl⟩
  refine mm_astore (pc := 8) dX11_chosen_8 (by first | trivial | assumption | exact mm_isr_rf _) rfl (Nat.le_of_ble_eq_true rfl) ?_
  refine mm_aload_n (pc := 10) dX11_chosen_10 rfl (by first | trivial | assumption | exact mm_isr_rf _) ?_
  refine cw_grS (pc := 11) 11 _ 3 hC (rfl) rfl (n11) dX11_chosen_11 fl_X11_23 rfl rfl rfl (f3) ?_
  refine mm_iload_n (pc := 14) dX11_chosen_14 rfl ?_
  refine mm_callV (pc := 15) (As := [_]) (kd := ?kd_15_11) (fs := ?fs_15_11) dX11_chosen_15 vl_X11_139 (ka_in (k := k) hR hk hC) ?hc_15_11 ?hk_15_11 rfl rfl (Nat.le_of_ble_eq_true rfl) ?_; (case hc_15_11 => exact cw_cell (f := 7) hC rfl rfl n7); (case hk_15_11 => rfl)
  rintro _ _ ⟨rfl, rfl⟩
  refine mm_astore (pc := 18) dX11_chosen_18 (by first | trivial | assumption | exact mm_isr_rf _) rfl (Nat.le_of_ble_eq_true rfl) ?_
  refine mm_aload (pc := 20) dX11_chosen_20 rfl (by first | trivial | assumption | exact mm_isr_rf _) ?_
  refine mm_ifnull (pc := 22) (tgt := 37) dX11_chosen_22 (by decide) (by first | trivial | assumption | exact mm_isr_rf _) (fun c22 => by cases c22) (fun a22 c22 => ?_)
  refine mm_aload (pc := 25) dX11_chosen_25 rfl (by first | trivial | assumption | exact mm_isr_rf _) ?_
  refine mm_ifnull (pc := 27) (tgt := 37) dX11_chosen_27 (by decide) (by first | trivial | assumption | exact mm_isr_rf _) (fun c27 => by cases c27) (fun a27 c27 => ?_)
  refine mm_iload_n (pc := 30) dX11_chosen_30 rfl ?_
  refine mm_callS (pc := 31) (As := [_]) dX11_chosen_31 sl_X11_163 (ok_X11_isHook) rfl rfl (Nat.le_of_ble_eq_true rfl) ?_
  rintro _ _ ⟨rfl, rfl⟩
  refine mm_if_ne (pc := 34) (tgt := 43) dX11_chosen_34 (by decide) (fun c34 => ?_) (fun c34 => absurd c34 hq6)
  refine mm_aload (pc := 43) dX11_chosen_43 rfl (by first | trivial | assumption | exact mm_isr_rf _) ?_
  refine mm_aload (pc := 45) dX11_chosen_45 rfl (by first | trivial | assumption | exact mm_isr_rf _) ?_
  refine mm_iload_n (pc := 47) dX11_chosen_47 rfl ?_
  refine mm_callV (pc := 48) (As := [_]) (kd := ?kd_48_12) (fs := ?fs_48_12) dX11_chosen_48 vl_X11_80 (ck_bo hE hC hj hq) ?hc_48_12 ?hk_48_12 rfl rfl (Nat.le_of_ble_eq_true rfl) ?_; (case hc_48_12 => exact cw_cell (f := 4) hC rfl rfl n4j); (case hk_48_12 => rfl)
  rintro _ _ ⟨rfl, rfl⟩
  rw [show xbo ad M j q = none from if_neg (by rw [hhj]; decide)]
  refine mm_callV (pc := 51) (As := [_]) (kd := ?kd_51_13) (fs := ?fs_51_13) dX11_chosen_51 vl_X11_180 (ok_X4_chooseN) ?hc_51_13 ?hk_51_13 rfl rfl (Nat.le_of_ble_eq_true rfl) ?_; (case hc_51_13 => exact cw_cell (f := 4) hC rfl rfl n4); (case hk_51_13 => rfl)
  rintro _ _ ⟨rfl, rfl⟩
  refine mm_astore (pc := 54) dX11_chosen_54 (by first | trivial | assumption | exact mm_isr_rf _) rfl (Nat.le_of_ble_eq_true rfl) ?_
  refine mm_aload (pc := 56) dX11_chosen_56 rfl (by first | trivial | assumption | exact mm_isr_rf _) ?_
  refine mm_ifnonnull (pc := 58) (tgt := 70) dX11_chosen_58 (by decide) (by first | trivial | assumption | exact mm_isr_rf _) (fun a58 c58 => by cases c58) (fun c58 => ?_)
  refine mm_aload_n (pc := 61) dX11_chosen_61 rfl (by first | trivial | assumption | exact mm_isr_rf _) ?_
  refine mm_bipush (pc := 62) (v := (-2)) dX11_chosen_62 (by decide) ?_
  refine mm_callV (pc := 64) (As := [_]) (kd := ?kd_64_14) (fs := ?fs_64_14) dX11_chosen_64 vl_X11_96 (tl_ok (c := 2) n11 n13 f9 rfl (by decide) (by decide) hC) ?hc_64_14 ?hk_64_14 rfl rfl (Nat.le_of_ble_eq_true rfl) ?_; (case hc_64_14 => exact cw_cell (f := 11) hC rfl rfl n11); (case hk_64_14 => rfl)
  rintro _ h64 ⟨hC, e64, rfl⟩
  refine mm_goto (pc := 67) (tgt := 78) dX11_chosen_67 (by decide) ?_
  refine mm_iret (pc := 78) dX11_chosen_78 rfl ?_
  exact gP_no hC e64 (by unfold sp_chosen; rw [if_neg hin, if_neg hjn, if_neg hq6, ej, eq_, hhj]; rfl) (by decide)

theorem ch_n {G : mm_G} {L : Nat × Nat} {d : Nat} {h : mm_H} {h0 : mm_H} {ad : Nat → Nat → Nat} {C : cw_C} {M : mw_S} {ab : Nat → Option Nat} {nk np : Nat} {k q j : Nat} (hG : rlG ad C M ab nk np) (hk : k < nk) (hj : j < nk) (hq : q < 6) (hhj : rm_has M q j = true) (hx : cho M ab k q j = none) (hC : cw ad h0 C h) : mm_Ok G mX11_chosen L (d + 4) [.ref (ad 11 0), .int (nI j), .int (nI q), .int (nI k)] h (fun r h1 => gP ad h0 C h (sp_chosen M ab (nI j) (nI q) (nI k)) r h1) := by
  refine mm_Ok.of [(0, .ref (ad 11 0)), (1, .int (nI j)), (2, .int (nI q)), (3, .int (nI k))] rfl kX11_chosen.2.2.2.2.2 rfl (fun A => ?_)
  obtain ⟨hR, hE, ⟨n11, n13⟩, f3, f9, s3, s19⟩ := id hG
  have n7 := hR.1.1
  have hk40 := hR.2.1.1
  have hin : ¬ sp_in (nI k) (M.1 3) = 0 := by rw [s3]; exact sp_in_k hk (by omega)
  have n4 : k < cN C 4 := by have := hR.1.2.2.2.1; omega
  have ek : (nI k).toNatClampNeg = k := nI_clamp (by omega)
  have habk : cR C 4 k 5 = (ab k).map (ad 4) := (hE.2.1 k hk).1.2.2.1
  have hq6 : ¬ sp_in (nI q) 6 = 0 := sp_in_k (n := 6) hq (by decide)
  have eq_ : (nI q).toNatClampNeg = q := nI_clamp (by omega)
  have hjn : ¬ sp_in (nI j) (M.1 3) = 0 := by rw [s3]; exact sp_in_k hj (by omega)
  have n4j : j < cN C 4 := by have := hR.1.2.2.2.1; omega
  have ej : (nI j).toNatClampNeg = j := nI_clamp (by omega)
  have h63 : nk ≤ 63 := by omega
  have hsp : sp_chosen M ab (nI j) (nI q) (nI k) = (match cho M ab k q j with | none => sp_no | some x => (nI x, 0)) := by
    unfold sp_chosen
    rw [if_neg hin, if_neg hjn, if_neg hq6, ek, ej, eq_, hhj]
    show (if nI k = nI j then (oI (cho M ab k q j), 0) else if bI (kfind ab (fun x => Nat.beq x j) (ab k)).isSome = 0 then sp_no else (oI (cho M ab k q j), 0)) = _
    by_cases e : k = j
    · obtain ⟨x, hx⟩ := cho_hit (M := M) (q := q) hE.1.1 h63 hk (show Ae ab k j from Or.inl e)
      rw [if_pos (by rw [e]), hx]; rfl
    · rw [if_neg (nI_ne e (by omega) (by omega))]
      cases y : (kfind ab (fun x => Nat.beq x j) (ab k)).isSome with
      | true =>
        obtain ⟨x, hx⟩ := cho_hit (M := M) (q := q) hE.1.1 h63 hk (show Ae ab k j from Or.inr ((kfind_An hE.1.1 h63 j (k + 1) k (Nat.lt_succ_self k) hk).mp y))
        rw [hx]; rfl
      | false =>
        cases z : cho M ab k q j with
        | none => rfl
        | some x =>
          rcases (cho_sat hE.1.1 h63 hk hhj z).2.2 with w | w
          · exact absurd w e
          · rw [(kfind_An hE.1.1 h63 j (k + 1) k (Nat.lt_succ_self k) hk).mpr w] at y; cases y
  refine mm_aload_n (pc := 0) dX11_chosen_0 rfl (by first | trivial | assumption | exact mm_isr_rf _) ?_
  refine cw_grS (pc := 1) 11 _ 3 hC (rfl) rfl (n11) dX11_chosen_1 fl_X11_23 rfl rfl rfl (f3) ?_
  refine mm_iload_n (pc := 4) dX11_chosen_4 rfl ?_
  refine mm_callV (pc := 5) (As := [_]) (kd := ?kd_5_15) (fs := ?fs_5_15) dX11_chosen_5 vl_X11_139 (ka_in (k := j) hR hj hC) ?hc_5_15 ?hk_5_15 rfl rfl (Nat.le_of_ble_eq_true rfl) ?_; (case hc_5_15 => exact cw_cell (f := 7) hC rfl rfl n7); (case hk_5_15 => rfl)
  rintro _ _ ⟨rfl, rfl⟩
  refine mm_astore (pc := 8) dX11_chosen_8 (by first | trivial | assumption | exact mm_isr_rf _) rfl (Nat.le_of_ble_eq_true rfl) ?_
  refine mm_aload_n (pc := 10) dX11_chosen_10 rfl (by first | trivial | assumption | exact mm_isr_rf _) ?_
  refine cw_grS (pc := 11) 11 _ 3 hC (rfl) rfl (n11) dX11_chosen_11 fl_X11_23 rfl rfl rfl (f3) ?_
  refine mm_iload_n (pc := 14) dX11_chosen_14 rfl ?_
  refine mm_callV (pc := 15) (As := [_]) (kd := ?kd_15_16) (fs := ?fs_15_16) dX11_chosen_15 vl_X11_139 (ka_in (k := k) hR hk hC) ?hc_15_16 ?hk_15_16 rfl rfl (Nat.le_of_ble_eq_true rfl) ?_; (case hc_15_16 => exact cw_cell (f := 7) hC rfl rfl n7); (case hk_15_16 => rfl)
  rintro _ _ ⟨rfl, rfl⟩
  refine mm_astore (pc := 18) dX11_chosen_18 (by first | trivial | assumption | exact mm_isr_rf _) rfl (Nat.le_of_ble_eq_true rfl) ?_
  refine mm_aload (pc := 20) dX11_chosen_20 rfl (by first | trivial | assumption | exact mm_isr_rf _) ?_
  refine mm_ifnull (pc := 22) (tgt := 37) dX11_chosen_22 (by decide) (by first | trivial | assumption | exact mm_isr_rf _) (fun c22 => by cases c22) (fun a22 c22 => ?_)
  refine mm_aload (pc := 25) dX11_chosen_25 rfl (by first | trivial | assumption | exact mm_isr_rf _) ?_
  refine mm_ifnull (pc := 27) (tgt := 37) dX11_chosen_27 (by decide) (by first | trivial | assumption | exact mm_isr_rf _) (fun c27 => by cases c27) (fun a27 c27 => ?_)
  refine mm_iload_n (pc := 30) dX11_chosen_30 rfl ?_
  refine mm_callS (pc := 31) (As := [_]) dX11_chosen_31 sl_X11_163 (ok_X11_isHook) rfl rfl (Nat.le_of_ble_eq_true rfl) ?_
  rintro _ _ ⟨rfl, rfl⟩
  refine mm_if_ne (pc := 34) (tgt := 43) dX11_chosen_34 (by decide) (fun c34 => ?_) (fun c34 => absurd c34 hq6)
  refine mm_aload (pc := 43) dX11_chosen_43 rfl (by first | trivial | assumption | exact mm_isr_rf _) ?_
  refine mm_aload (pc := 45) dX11_chosen_45 rfl (by first | trivial | assumption | exact mm_isr_rf _) ?_
  refine mm_iload_n (pc := 47) dX11_chosen_47 rfl ?_
  refine mm_callV (pc := 48) (As := [_]) (kd := ?kd_48_17) (fs := ?fs_48_17) dX11_chosen_48 vl_X11_80 (ck_bo hE hC hj hq) ?hc_48_17 ?hk_48_17 rfl rfl (Nat.le_of_ble_eq_true rfl) ?_; (case hc_48_17 => exact cw_cell (f := 4) hC rfl rfl n4j); (case hk_48_17 => rfl)
  rintro _ _ ⟨rfl, rfl⟩
  rw [show xbo ad M j q = some (ad 1 (gb M j q)) from if_pos hhj]
  refine mm_callV (pc := 51) (As := [_]) (kd := ?kd_51_18) (fs := ?fs_51_18) dX11_chosen_51 vl_X11_180 (ck_cho (d := d + 1) hE hC hk hq hj hhj) ?hc_51_18 ?hk_51_18 rfl rfl (Nat.le_of_ble_eq_true rfl) ?_; (case hc_51_18 => exact cw_cell (f := 4) hC rfl rfl n4); (case hk_51_18 => rfl)
  rintro _ _ ⟨rfl, rfl⟩
  rw [hx]
  refine mm_astore (pc := 54) dX11_chosen_54 (by first | trivial | assumption | exact mm_isr_rf _) rfl (Nat.le_of_ble_eq_true rfl) ?_
  refine mm_aload (pc := 56) dX11_chosen_56 rfl (by first | trivial | assumption | exact mm_isr_rf _) ?_
  refine mm_ifnonnull (pc := 58) (tgt := 70) dX11_chosen_58 (by decide) (by first | trivial | assumption | exact mm_isr_rf _) (fun a58 c58 => by cases c58) (fun c58 => ?_)
  refine mm_aload_n (pc := 61) dX11_chosen_61 rfl (by first | trivial | assumption | exact mm_isr_rf _) ?_
  refine mm_bipush (pc := 62) (v := (-2)) dX11_chosen_62 (by decide) ?_
  refine mm_callV (pc := 64) (As := [_]) (kd := ?kd_64_19) (fs := ?fs_64_19) dX11_chosen_64 vl_X11_96 (tl_ok (c := 2) n11 n13 f9 rfl (by decide) (by decide) hC) ?hc_64_19 ?hk_64_19 rfl rfl (Nat.le_of_ble_eq_true rfl) ?_; (case hc_64_19 => exact cw_cell (f := 11) hC rfl rfl n11); (case hk_64_19 => rfl)
  rintro _ h64 ⟨hC, e64, rfl⟩
  refine mm_goto (pc := 67) (tgt := 78) dX11_chosen_67 (by decide) ?_
  refine mm_iret (pc := 78) dX11_chosen_78 rfl ?_
  exact gP_no hC e64 (by rw [hsp, hx]; rfl) (by decide)

theorem ch_s {G : mm_G} {L : Nat × Nat} {d : Nat} {h : mm_H} {h0 : mm_H} {ad : Nat → Nat → Nat} {C : cw_C} {M : mw_S} {ab : Nat → Option Nat} {nk np : Nat} {x : Nat} {k q j : Nat} (hG : rlG ad C M ab nk np) (hk : k < nk) (hj : j < nk) (hq : q < 6) (hhj : rm_has M q j = true) (hx : cho M ab k q j = some x) (hC : cw ad h0 C h) : mm_Ok G mX11_chosen L (d + 4) [.ref (ad 11 0), .int (nI j), .int (nI q), .int (nI k)] h (fun r h1 => gP ad h0 C h (sp_chosen M ab (nI j) (nI q) (nI k)) r h1) := by
  refine mm_Ok.of [(0, .ref (ad 11 0)), (1, .int (nI j)), (2, .int (nI q)), (3, .int (nI k))] rfl kX11_chosen.2.2.2.2.2 rfl (fun A => ?_)
  obtain ⟨hR, hE, ⟨n11, n13⟩, f3, f9, s3, s19⟩ := id hG
  have n7 := hR.1.1
  have hk40 := hR.2.1.1
  have hin : ¬ sp_in (nI k) (M.1 3) = 0 := by rw [s3]; exact sp_in_k hk (by omega)
  have n4 : k < cN C 4 := by have := hR.1.2.2.2.1; omega
  have ek : (nI k).toNatClampNeg = k := nI_clamp (by omega)
  have habk : cR C 4 k 5 = (ab k).map (ad 4) := (hE.2.1 k hk).1.2.2.1
  have hq6 : ¬ sp_in (nI q) 6 = 0 := sp_in_k (n := 6) hq (by decide)
  have eq_ : (nI q).toNatClampNeg = q := nI_clamp (by omega)
  have hjn : ¬ sp_in (nI j) (M.1 3) = 0 := by rw [s3]; exact sp_in_k hj (by omega)
  have n4j : j < cN C 4 := by have := hR.1.2.2.2.1; omega
  have ej : (nI j).toNatClampNeg = j := nI_clamp (by omega)
  have h63 : nk ≤ 63 := by omega
  have hsp : sp_chosen M ab (nI j) (nI q) (nI k) = (match cho M ab k q j with | none => sp_no | some x => (nI x, 0)) := by
    unfold sp_chosen
    rw [if_neg hin, if_neg hjn, if_neg hq6, ek, ej, eq_, hhj]
    show (if nI k = nI j then (oI (cho M ab k q j), 0) else if bI (kfind ab (fun x => Nat.beq x j) (ab k)).isSome = 0 then sp_no else (oI (cho M ab k q j), 0)) = _
    by_cases e : k = j
    · obtain ⟨x, hx⟩ := cho_hit (M := M) (q := q) hE.1.1 h63 hk (show Ae ab k j from Or.inl e)
      rw [if_pos (by rw [e]), hx]; rfl
    · rw [if_neg (nI_ne e (by omega) (by omega))]
      cases y : (kfind ab (fun x => Nat.beq x j) (ab k)).isSome with
      | true =>
        obtain ⟨x, hx⟩ := cho_hit (M := M) (q := q) hE.1.1 h63 hk (show Ae ab k j from Or.inr ((kfind_An hE.1.1 h63 j (k + 1) k (Nat.lt_succ_self k) hk).mp y))
        rw [hx]; rfl
      | false =>
        cases z : cho M ab k q j with
        | none => rfl
        | some x =>
          rcases (cho_sat hE.1.1 h63 hk hhj z).2.2 with w | w
          · exact absurd w e
          · rw [(kfind_An hE.1.1 h63 j (k + 1) k (Nat.lt_succ_self k) hk).mpr w] at y; cases y
  obtain ⟨hxn, hxh, -⟩ := cho_sat hE.1.1 h63 hk hhj hx
  obtain ⟨g1, g2, g3, g4, -⟩ := fnd_body hE hxn hq hxh
  refine mm_aload_n (pc := 0) dX11_chosen_0 rfl (by first | trivial | assumption | exact mm_isr_rf _) ?_
  refine cw_grS (pc := 1) 11 _ 3 hC (rfl) rfl (n11) dX11_chosen_1 fl_X11_23 rfl rfl rfl (f3) ?_
  refine mm_iload_n (pc := 4) dX11_chosen_4 rfl ?_
  refine mm_callV (pc := 5) (As := [_]) (kd := ?kd_5_20) (fs := ?fs_5_20) dX11_chosen_5 vl_X11_139 (ka_in (k := j) hR hj hC) ?hc_5_20 ?hk_5_20 rfl rfl (Nat.le_of_ble_eq_true rfl) ?_; (case hc_5_20 => exact cw_cell (f := 7) hC rfl rfl n7); (case hk_5_20 => rfl)
  rintro _ _ ⟨rfl, rfl⟩
  refine mm_astore (pc := 8) dX11_chosen_8 (by first | trivial | assumption | exact mm_isr_rf _) rfl (Nat.le_of_ble_eq_true rfl) ?_
  refine mm_aload_n (pc := 10) dX11_chosen_10 rfl (by first | trivial | assumption | exact mm_isr_rf _) ?_
  refine cw_grS (pc := 11) 11 _ 3 hC (rfl) rfl (n11) dX11_chosen_11 fl_X11_23 rfl rfl rfl (f3) ?_
  refine mm_iload_n (pc := 14) dX11_chosen_14 rfl ?_
  refine mm_callV (pc := 15) (As := [_]) (kd := ?kd_15_21) (fs := ?fs_15_21) dX11_chosen_15 vl_X11_139 (ka_in (k := k) hR hk hC) ?hc_15_21 ?hk_15_21 rfl rfl (Nat.le_of_ble_eq_true rfl) ?_; (case hc_15_21 => exact cw_cell (f := 7) hC rfl rfl n7); (case hk_15_21 => rfl)
  rintro _ _ ⟨rfl, rfl⟩
  refine mm_astore (pc := 18) dX11_chosen_18 (by first | trivial | assumption | exact mm_isr_rf _) rfl (Nat.le_of_ble_eq_true rfl) ?_
  refine mm_aload (pc := 20) dX11_chosen_20 rfl (by first | trivial | assumption | exact mm_isr_rf _) ?_
  refine mm_ifnull (pc := 22) (tgt := 37) dX11_chosen_22 (by decide) (by first | trivial | assumption | exact mm_isr_rf _) (fun c22 => by cases c22) (fun a22 c22 => ?_)
  refine mm_aload (pc := 25) dX11_chosen_25 rfl (by first | trivial | assumption | exact mm_isr_rf _) ?_
  refine mm_ifnull (pc := 27) (tgt := 37) dX11_chosen_27 (by decide) (by first | trivial | assumption | exact mm_isr_rf _) (fun c27 => by cases c27) (fun a27 c27 => ?_)
  refine mm_iload_n (pc := 30) dX11_chosen_30 rfl ?_
  refine mm_callS (pc := 31) (As := [_]) dX11_chosen_31 sl_X11_163 (ok_X11_isHook) rfl rfl (Nat.le_of_ble_eq_true rfl) ?_
  rintro _ _ ⟨rfl, rfl⟩
  refine mm_if_ne (pc := 34) (tgt := 43) dX11_chosen_34 (by decide) (fun c34 => ?_) (fun c34 => absurd c34 hq6)
  refine mm_aload (pc := 43) dX11_chosen_43 rfl (by first | trivial | assumption | exact mm_isr_rf _) ?_
  refine mm_aload (pc := 45) dX11_chosen_45 rfl (by first | trivial | assumption | exact mm_isr_rf _) ?_
  refine mm_iload_n (pc := 47) dX11_chosen_47 rfl ?_
  refine mm_callV (pc := 48) (As := [_]) (kd := ?kd_48_22) (fs := ?fs_48_22) dX11_chosen_48 vl_X11_80 (ck_bo hE hC hj hq) ?hc_48_22 ?hk_48_22 rfl rfl (Nat.le_of_ble_eq_true rfl) ?_; (case hc_48_22 => exact cw_cell (f := 4) hC rfl rfl n4j); (case hk_48_22 => rfl)
  rintro _ _ ⟨rfl, rfl⟩
  rw [show xbo ad M j q = some (ad 1 (gb M j q)) from if_pos hhj]
  refine mm_callV (pc := 51) (As := [_]) (kd := ?kd_51_23) (fs := ?fs_51_23) dX11_chosen_51 vl_X11_180 (ck_cho (d := d + 1) hE hC hk hq hj hhj) ?hc_51_23 ?hk_51_23 rfl rfl (Nat.le_of_ble_eq_true rfl) ?_; (case hc_51_23 => exact cw_cell (f := 4) hC rfl rfl n4); (case hk_51_23 => rfl)
  rintro _ _ ⟨rfl, rfl⟩
  rw [hx]
  refine mm_astore (pc := 54) dX11_chosen_54 (by first | trivial | assumption | exact mm_isr_rf _) rfl (Nat.le_of_ble_eq_true rfl) ?_
  refine mm_aload (pc := 56) dX11_chosen_56 rfl (by first | trivial | assumption | exact mm_isr_rf _) ?_
  refine mm_ifnonnull (pc := 58) (tgt := 70) dX11_chosen_58 (by decide) (by first | trivial | assumption | exact mm_isr_rf _) (fun a58 c58 => ?_) (fun c58 => by cases c58)
  refine mm_aload (pc := 70) dX11_chosen_70 rfl (by first | trivial | assumption | exact mm_isr_rf _) ?_
  refine cw_grS (pc := 72) 1 (gb M x q) 0 hC (rfl) rfl (g1) dX11_chosen_72 fl_X11_184 rfl rfl rfl (g2) ?_
  refine cw_gi (pc := 75) 4 x 4 hC (rfl) rfl (g4) dX11_chosen_75 fl_X11_150 rfl rfl rfl ?_
  refine mm_iret (pc := 78) dX11_chosen_78 rfl ?_
  exact gP_ok hC (by rw [hsp, hx, g3])

theorem ch_ok {G : mm_G} {L : Nat × Nat} {d : Nat} {h : mm_H} {h0 : mm_H} {ad : Nat → Nat → Nat} {C : cw_C} {M : mw_S} {ab : Nat → Option Nat} {nk np : Nat} {j q i : Int32} (hG : rlG ad C M ab nk np) (hC : cw ad h0 C h) : mm_Ok G mX11_chosen L (d + 4) [.ref (ad 11 0), .int j, .int q, .int i] h (fun r h1 => gP ad h0 C h (sp_chosen M ab j q i) r h1) := by
  have h40 := hG.1.2.1.1
  by_cases hj : sp_in j (nI nk) = 0
  · exact ch_j hG hj hC
  · obtain ⟨jj, hjj, rfl⟩ := sp_in_of hj rfl (by omega)
    by_cases hi : sp_in i (nI nk) = 0
    · exact ch_i hG hjj hi hC
    · obtain ⟨k, hk, rfl⟩ := sp_in_of hi rfl (by omega)
      by_cases hq : sp_in q 6 = 0
      · exact ch_q hG hk hjj hq hC
      · obtain ⟨qq, hqq, rfl⟩ := sp_in_of (n := 6) hq rfl (by decide)
        cases hg : rm_has M qq jj with
        | false => exact ch_m hG hk hjj hqq hg hC
        | true =>
          cases hx : cho M ab k qq jj with
          | none => exact ch_n hG hk hjj hqq hg hx hC
          | some x => exact ch_s hG hk hjj hqq hg hx hC

theorem hb_loop {G : mm_G} {L : Nat × Nat} {d : Nat} {h h0 : mm_H} {A : Nat → Prop} {ad : Nat → Nat → Nat} {C : cw_C} {M : mw_S} {k : Nat} (n4 : k < cN C 4) (n21 : k < cN C 21) (h11 : cR C 4 k 11 = some (ad 21 k)) (hH : kdH ad C M k) (hN : cN C 1 < 2 ^ 30) (hC : cw ad h0 C h) : ∀ (v t : Nat), t + v = 6 → mm_Run G mX4_hookBits A L d 4 [(2, .int (nI t)), (1, .int (sp_bits M k t)), (0, .ref (ad 4 k))] [] h (fun r h1 => h1 = h ∧ r = some (.int (sp_bits M k 6))) := by
  intro v
  induction v with
  | zero =>
    intro t ht
    obtain rfl : t = 6 := by omega
    refine mm_iload_n (pc := 4) dX4_hookBits_4 rfl ?_
    refine mm_bipush (pc := 5) (v := 6) dX4_hookBits_5 (by decide) ?_
    refine mm_icmp_ge (pc := 7) (tgt := 31) dX4_hookBits_7 (by decide) (fun c7 => ?_) (fun c7 => absurd (by decide) c7)
    refine mm_iload_n (pc := 31) dX4_hookBits_31 rfl ?_
    refine mm_iret (pc := 32) dX4_hookBits_32 rfl ?_
    exact ⟨rfl, rfl⟩
  | succ v ih =>
    intro t ht
    have hO := hH.o hN (show t < 6 by omega)
    cases hh : rm_has M t k with
    | false =>
      have hv : cR C 21 k t = none := by rw [hO]; unfold xbo; rw [hh]; rfl
      refine mm_iload_n (pc := 4) dX4_hookBits_4 rfl ?_
      refine mm_bipush (pc := 5) (v := 6) dX4_hookBits_5 (by decide) ?_
      refine mm_icmp_ge (pc := 7) (tgt := 31) dX4_hookBits_7 (by decide) (fun c7 => absurd c7 (nI_ge (b := 6) (by omega) (by decide))) (fun c7 => ?_)
      refine mm_aload_n (pc := 10) dX4_hookBits_10 rfl (by first | trivial | assumption | exact mm_isr_rf _) ?_
      refine cw_grS (pc := 11) 4 k 11 hC (rfl) rfl (n4) dX4_hookBits_11 fl_X4_44 rfl rfl rfl (h11) ?_
      refine mm_iload_n (pc := 14) dX4_hookBits_14 rfl ?_
      refine cw_aald (pc := 15) (v := .null) 21 k t hC (rfl) rfl (n21) dX4_hookBits_15 rfl rfl rfl (by first | with_reducible rfl | assumption | rfl) (by show t < 6; omega) (by omega) rfl (congrArg va_rf hv) ?_
      refine mm_ifnull (pc := 16) (tgt := 25) dX4_hookBits_16 (by decide) (by first | trivial | assumption | exact mm_isr_rf _) (fun c16 => ?_) (fun a16 c16 => by cases c16)
      refine mm_iinc (pc := 25) dX4_hookBits_25 rfl rfl rfl (Nat.le_of_ble_eq_true rfl) ?_
      refine mm_goto (pc := 28) (tgt := 4) dX4_hookBits_28 (by decide) ?_
      exact mm_weakK (ih (t + 1) (by omega)) (And.intro (by rw [← nI_1]; rfl) (And.intro (by rw [sp_bits_s, hh]; first | rfl | exact congrArg (fun z => some (Value.int z)) (Int32.or_zero).symm) (And.intro rfl trivial)))
    | true =>
      have hv : cR C 21 k t = some (ad 1 (gb M k t)) := by rw [hO]; unfold xbo; rw [if_pos hh]
      refine mm_iload_n (pc := 4) dX4_hookBits_4 rfl ?_
      refine mm_bipush (pc := 5) (v := 6) dX4_hookBits_5 (by decide) ?_
      refine mm_icmp_ge (pc := 7) (tgt := 31) dX4_hookBits_7 (by decide) (fun c7 => absurd c7 (nI_ge (b := 6) (by omega) (by decide))) (fun c7 => ?_)
      refine mm_aload_n (pc := 10) dX4_hookBits_10 rfl (by first | trivial | assumption | exact mm_isr_rf _) ?_
      refine cw_grS (pc := 11) 4 k 11 hC (rfl) rfl (n4) dX4_hookBits_11 fl_X4_44 rfl rfl rfl (h11) ?_
      refine mm_iload_n (pc := 14) dX4_hookBits_14 rfl ?_
      refine cw_aald (pc := 15) (v := (.ref (ad 1 (gb M k t)))) 21 k t hC (rfl) rfl (n21) dX4_hookBits_15 rfl rfl rfl (by first | with_reducible rfl | assumption | rfl) (by show t < 6; omega) (by omega) rfl (congrArg va_rf hv) ?_
      refine mm_ifnull (pc := 16) (tgt := 25) dX4_hookBits_16 (by decide) (by first | trivial | assumption | exact mm_isr_rf _) (fun c16 => by cases c16) (fun a16 c16 => ?_)
      refine mm_iload_n (pc := 19) dX4_hookBits_19 rfl ?_
      refine mm_iconst (pc := 20) (v := 1) dX4_hookBits_20 (by decide) ?_
      refine mm_iload_n (pc := 21) dX4_hookBits_21 rfl ?_
      refine mm_ishl (pc := 22) dX4_hookBits_22 ?_
      refine mm_ior (pc := 23) dX4_hookBits_23 ?_
      refine mm_istore_n (pc := 24) dX4_hookBits_24 rfl (Nat.le_of_ble_eq_true rfl) ?_
      refine mm_iinc (pc := 25) dX4_hookBits_25 rfl rfl rfl (Nat.le_of_ble_eq_true rfl) ?_
      refine mm_goto (pc := 28) (tgt := 4) dX4_hookBits_28 (by decide) ?_
      exact mm_weakK (ih (t + 1) (by omega)) (And.intro (by rw [← nI_1]; rfl) (And.intro (by rw [sp_bits_s, hh]; first | rfl | exact congrArg (fun z => some (Value.int z)) (Int32.or_zero).symm) (And.intro rfl trivial)))
theorem ck_hb {G : mm_G} {L : Nat × Nat} {d : Nat} {h h0 : mm_H} {ad : Nat → Nat → Nat} {C : cw_C} {M : mw_S} {ab : Nat → Option Nat} {n k : Nat} (hE : ckE ad C M ab n) (hC : cw ad h0 C h) (hk : k < n) : mm_Ok G mX4_hookBits L d [.ref (ad 4 k)] h (fun r h1 => h1 = h ∧ r = some (.int (sp_bits M k 6))) := by
  refine mm_Ok.of [(0, .ref (ad 4 k))] rfl kX4_hookBits.2.2.2.2.2 rfl (fun A => ?_)
  have a := hE.1.2.2.1
  have b := hE.1.2.2.2
  obtain ⟨-, -, -, -, -, -, k11, kH⟩ := (hE.2.1 k hk).1
  refine mm_iconst (pc := 0) (v := 0) dX4_hookBits_0 (by decide) ?_
  refine mm_istore_n (pc := 1) dX4_hookBits_1 rfl (Nat.le_of_ble_eq_true rfl) ?_
  refine mm_iconst (pc := 2) (v := 0) dX4_hookBits_2 (by decide) ?_
  refine mm_istore_n (pc := 3) dX4_hookBits_3 rfl (Nat.le_of_ble_eq_true rfl) ?_
  exact mm_weakK (hb_loop (by omega) (by omega) k11 kH (by rw [hE.2.2.2.1.1]; exact hE.2.2.2.1.2) hC 6 0 rfl) (And.intro rfl (And.intro rfl (And.intro rfl trivial)))
theorem kd_no {G : mm_G} {L : Nat × Nat} {d : Nat} {h : mm_H} {h0 : mm_H} {ad : Nat → Nat → Nat} {C : cw_C} {M : mw_S} {ab : Nat → Option Nat} {nk np : Nat} {i w : Int32} (hG : rlG ad C M ab nk np) (hi : sp_in i (nI nk) = 0) (hC : cw ad h0 C h) : mm_Ok G mX11_kind L (d + 2) [.ref (ad 11 0), .int i, .int w] h (fun r h1 => gP ad h0 C h (sp_kind M ab i w) r h1) := by
  refine mm_Ok.of [(0, .ref (ad 11 0)), (1, .int i), (2, .int w)] rfl kX11_kind.2.2.2.2.2 rfl (fun A => ?_)
  obtain ⟨hR, hE, ⟨n11, n13⟩, f3, f9, s3, s19⟩ := id hG
  have n7 := hR.1.1
  have hk40 := hR.2.1.1
  refine mm_aload_n (pc := 0) dX11_kind_0 rfl (by first | trivial | assumption | exact mm_isr_rf _) ?_
  refine cw_grS (pc := 1) 11 _ 3 hC (rfl) rfl (n11) dX11_kind_1 fl_X11_23 rfl rfl rfl (f3) ?_
  refine mm_iload_n (pc := 4) dX11_kind_4 rfl ?_
  refine mm_callV (pc := 5) (As := [_]) (kd := ?kd_5_24) (fs := ?fs_5_24) dX11_kind_5 vl_X11_139 (ka_no hR hi hC) ?hc_5_24 ?hk_5_24 rfl rfl (Nat.le_of_ble_eq_true rfl) ?_; (case hc_5_24 => exact cw_cell (f := 7) hC rfl rfl n7); (case hk_5_24 => rfl)
  rintro _ _ ⟨rfl, rfl⟩
  refine mm_astore_n (pc := 8) dX11_kind_8 (by first | trivial | assumption | exact mm_isr_rf _) rfl (Nat.le_of_ble_eq_true rfl) ?_
  refine mm_aload_n (pc := 9) dX11_kind_9 rfl (by first | trivial | assumption | exact mm_isr_rf _) ?_
  refine mm_ifnonnull (pc := 10) (tgt := 19) dX11_kind_10 (by decide) (by first | trivial | assumption | exact mm_isr_rf _) (fun a10 c10 => by cases c10) (fun c10 => ?_)
  refine mm_aload_n (pc := 13) dX11_kind_13 rfl (by first | trivial | assumption | exact mm_isr_rf _) ?_
  refine mm_iconst (pc := 14) (v := (-1)) dX11_kind_14 (by decide) ?_
  refine mm_callV (pc := 15) (As := [_]) (kd := ?kd_15_25) (fs := ?fs_15_25) dX11_kind_15 vl_X11_96 (tl_ok (c := 1) n11 n13 f9 rfl (by decide) (by decide) hC) ?hc_15_25 ?hk_15_25 rfl rfl (Nat.le_of_ble_eq_true rfl) ?_; (case hc_15_25 => exact cw_cell (f := 11) hC rfl rfl n11); (case hk_15_25 => rfl)
  rintro _ h15 ⟨hC, e15, rfl⟩
  refine mm_iret (pc := 18) dX11_kind_18 rfl ?_
  exact gP_no hC e15 (by unfold sp_kind; rw [s3, if_pos hi]; rfl) (by decide)

theorem kd_n {G : mm_G} {L : Nat × Nat} {d : Nat} {h : mm_H} {h0 : mm_H} {ad : Nat → Nat → Nat} {C : cw_C} {M : mw_S} {ab : Nat → Option Nat} {nk np : Nat} {w : Int32} {k : Nat} (hG : rlG ad C M ab nk np) (hT : rm_T M nk ab) (hk : k < nk) (ha : ab k = none) (hC : cw ad h0 C h) : mm_Ok G mX11_kind L (d + 2) [.ref (ad 11 0), .int (nI k), .int w] h (fun r h1 => gP ad h0 C h (sp_kind M ab (nI k) w) r h1) := by
  refine mm_Ok.of [(0, .ref (ad 11 0)), (1, .int (nI k)), (2, .int w)] rfl kX11_kind.2.2.2.2.2 rfl (fun A => ?_)
  obtain ⟨hR, hE, ⟨n11, n13⟩, f3, f9, s3, s19⟩ := id hG
  have n7 := hR.1.1
  have hk40 := hR.2.1.1
  have hin : ¬ sp_in (nI k) (M.1 3) = 0 := by rw [s3]; exact sp_in_k hk (by omega)
  have n4 : k < cN C 4 := by have := hR.1.2.2.2.1; omega
  have ek : (nI k).toNatClampNeg = k := nI_clamp (by omega)
  have habk : cR C 4 k 5 = (ab k).map (ad 4) := (hE.2.1 k hk).1.2.2.1
  obtain ⟨⟨-, k4, k5, k6_, k7, k8, -, -⟩, -⟩ := hE.2.1 k hk
  have h6 := hT.2.2 k hk
  refine mm_aload_n (pc := 0) dX11_kind_0 rfl (by first | trivial | assumption | exact mm_isr_rf _) ?_
  refine cw_grS (pc := 1) 11 _ 3 hC (rfl) rfl (n11) dX11_kind_1 fl_X11_23 rfl rfl rfl (f3) ?_
  refine mm_iload_n (pc := 4) dX11_kind_4 rfl ?_
  refine mm_callV (pc := 5) (As := [_]) (kd := ?kd_5_26) (fs := ?fs_5_26) dX11_kind_5 vl_X11_139 (ka_in (k := k) hR hk hC) ?hc_5_26 ?hk_5_26 rfl rfl (Nat.le_of_ble_eq_true rfl) ?_; (case hc_5_26 => exact cw_cell (f := 7) hC rfl rfl n7); (case hk_5_26 => rfl)
  rintro _ _ ⟨rfl, rfl⟩
  refine mm_astore_n (pc := 8) dX11_kind_8 (by first | trivial | assumption | exact mm_isr_rf _) rfl (Nat.le_of_ble_eq_true rfl) ?_
  refine mm_aload_n (pc := 9) dX11_kind_9 rfl (by first | trivial | assumption | exact mm_isr_rf _) ?_
  refine mm_ifnonnull (pc := 10) (tgt := 19) dX11_kind_10 (by decide) (by first | trivial | assumption | exact mm_isr_rf _) (fun a10 c10 => ?_) (fun c10 => by cases c10)
  refine mm_iload_n (pc := 19) dX11_kind_19 rfl ?_
  refine mm_sw (pc := 20) [56, 61, 81, 86, 91] 96 dX11_kind_20 (by decide) (by decide) (by decide) (fun i_ t_ ht_ hx_ => ?_) (fun c20 => ?_)
  · match i_, ht_ with
    | 0, ht_ =>
      cases ht_
      have c20 := mm_swe (v := 0) hx_ (by decide)
      refine mm_aload_n (pc := 56) dX11_kind_56 rfl (by first | trivial | assumption | exact mm_isr_rf _) ?_
      refine cw_gi (pc := 57) 4 k 6 hC (rfl) rfl (n4) dX11_kind_57 fl_X11_143 rfl rfl rfl ?_
      refine mm_iret (pc := 60) dX11_kind_60 rfl ?_
      subst c20
      exact gP_ok hC (by unfold sp_kind; rw [if_neg hin, if_neg (by decide), if_pos (by decide), ek, if_pos rfl, k6_])
    | 1, ht_ =>
      cases ht_
      have c20 := mm_swe (v := 1) hx_ (by decide)
      refine mm_aload_n (pc := 61) dX11_kind_61 rfl (by first | trivial | assumption | exact mm_isr_rf _) ?_
      refine cw_grN (pc := 62) 4 k 5 hC (rfl) rfl (n4) dX11_kind_62 fl_X11_146 rfl rfl rfl ((k5.trans (by rw [ha]; rfl))) ?_
      refine mm_ifnonnull (pc := 65) (tgt := 73) dX11_kind_65 (by decide) (by first | trivial | assumption | exact mm_isr_rf _) (fun a65 c65 => by cases c65) (fun c65 => ?_)
      refine mm_bipush (pc := 68) (v := (-7)) dX11_kind_68 (by decide) ?_
      refine mm_goto (pc := 70) (tgt := 80) dX11_kind_70 (by decide) ?_
      refine mm_iret (pc := 80) dX11_kind_80 rfl ?_
      subst c20
      exact gP_ok hC (by unfold sp_kind; rw [if_neg hin, if_neg (by decide), if_pos (by decide), ek, if_neg (by decide), if_pos rfl, h6, ha]; rfl)
    | 2, ht_ =>
      cases ht_
      have c20 := mm_swe (v := 2) hx_ (by decide)
      refine mm_aload_n (pc := 81) dX11_kind_81 rfl (by first | trivial | assumption | exact mm_isr_rf _) ?_
      refine cw_gi (pc := 82) 4 k 7 hC (rfl) rfl (n4) dX11_kind_82 fl_X11_153 rfl rfl rfl ?_
      refine mm_iret (pc := 85) dX11_kind_85 rfl ?_
      subst c20
      exact gP_ok hC (by unfold sp_kind; rw [if_neg hin, if_neg (by decide), if_pos (by decide), ek, if_neg (by decide), if_neg (by decide), if_pos rfl, k7])
    | 3, ht_ =>
      cases ht_
      have c20 := mm_swe (v := 3) hx_ (by decide)
      refine mm_aload_n (pc := 86) dX11_kind_86 rfl (by first | trivial | assumption | exact mm_isr_rf _) ?_
      refine mm_callV (pc := 87) (As := []) (kd := ?kd_87_27) (fs := ?fs_87_27) dX11_kind_87 vl_X11_156 (ck_hb hE hC hk) ?hc_87_27 ?hk_87_27 rfl rfl (Nat.le_of_ble_eq_true rfl) ?_; (case hc_87_27 => exact cw_cell (f := 4) hC rfl rfl n4); (case hk_87_27 => rfl)
      rintro _ _ ⟨rfl, rfl⟩
      refine mm_iret (pc := 90) dX11_kind_90 rfl ?_
      subst c20
      exact gP_ok hC (by unfold sp_kind; rw [if_neg hin, if_neg (by decide), if_pos (by decide), ek, if_neg (by decide), if_neg (by decide), if_neg (by decide), if_pos rfl])
    | 4, ht_ =>
      cases ht_
      have c20 := mm_swe (v := 4) hx_ (by decide)
      refine mm_aload_n (pc := 91) dX11_kind_91 rfl (by first | trivial | assumption | exact mm_isr_rf _) ?_
      refine cw_gi (pc := 92) 4 k 8 hC (rfl) rfl (n4) dX11_kind_92 fl_X11_160 rfl rfl rfl ?_
      refine mm_iret (pc := 95) dX11_kind_95 rfl ?_
      subst c20
      exact gP_ok hC (by unfold sp_kind; rw [if_neg hin, if_neg (by decide), if_pos (by decide), ek, if_neg (by decide), if_neg (by decide), if_neg (by decide), if_neg (by decide), k8])
    | n_ + 5, ht_ => cases ht_
  · refine mm_aload_n (pc := 96) dX11_kind_96 rfl (by first | trivial | assumption | exact mm_isr_rf _) ?_
    refine mm_iconst (pc := 97) (v := (-1)) dX11_kind_97 (by decide) ?_
    refine mm_callV (pc := 98) (As := [_]) (kd := ?kd_98_28) (fs := ?fs_98_28) dX11_kind_98 vl_X11_96 (tl_ok (c := 1) n11 n13 f9 rfl (by decide) (by decide) hC) ?hc_98_28 ?hk_98_28 rfl rfl (Nat.le_of_ble_eq_true rfl) ?_; (case hc_98_28 => exact cw_cell (f := 11) hC rfl rfl n11); (case hk_98_28 => rfl)
    rintro _ h98 ⟨hC, e98, rfl⟩
    refine mm_iret (pc := 101) dX11_kind_101 rfl ?_
    have hw0 : ¬ w < 0 → ¬ w ≤ 4 := fun a b => by
      have n0 : ¬ w.toInt = 0 := c20 0 (by decide)
      have n1 : ¬ w.toInt = 1 := c20 1 (by decide)
      have n2 : ¬ w.toInt = 2 := c20 2 (by decide)
      have n3 : ¬ w.toInt = 3 := c20 3 (by decide)
      have n4_ : ¬ w.toInt = 4 := c20 4 (by decide)
      have a1 : ¬ w.toInt < (0 : Int32).toInt := fun z => a (Int32.lt_iff_toInt_lt.mpr z)
      have b1 := Int32.le_iff_toInt_le.mp b
      have e0 : (0 : Int32).toInt = 0 := by decide
      have e4 : (4 : Int32).toInt = 4 := by decide
      omega
    exact gP_no hC e98 (by unfold sp_kind; rw [if_neg hin]; by_cases z : w < 0; (rw [if_pos z]; rfl); (rw [if_neg z, if_neg (hw0 z)]; rfl)) (by decide)

theorem kd_s {G : mm_G} {L : Nat × Nat} {d : Nat} {h : mm_H} {h0 : mm_H} {ad : Nat → Nat → Nat} {C : cw_C} {M : mw_S} {ab : Nat → Option Nat} {nk np : Nat} {w : Int32} {k : Nat} (hG : rlG ad C M ab nk np) (hT : rm_T M nk ab) (hk : k < nk) {a : Nat} (ha : ab k = some a) (hC : cw ad h0 C h) : mm_Ok G mX11_kind L (d + 2) [.ref (ad 11 0), .int (nI k), .int w] h (fun r h1 => gP ad h0 C h (sp_kind M ab (nI k) w) r h1) := by
  refine mm_Ok.of [(0, .ref (ad 11 0)), (1, .int (nI k)), (2, .int w)] rfl kX11_kind.2.2.2.2.2 rfl (fun A => ?_)
  obtain ⟨hR, hE, ⟨n11, n13⟩, f3, f9, s3, s19⟩ := id hG
  have n7 := hR.1.1
  have hk40 := hR.2.1.1
  have hin : ¬ sp_in (nI k) (M.1 3) = 0 := by rw [s3]; exact sp_in_k hk (by omega)
  have n4 : k < cN C 4 := by have := hR.1.2.2.2.1; omega
  have ek : (nI k).toNatClampNeg = k := nI_clamp (by omega)
  have habk : cR C 4 k 5 = (ab k).map (ad 4) := (hE.2.1 k hk).1.2.2.1
  obtain ⟨⟨-, k4, k5, k6_, k7, k8, -, -⟩, -⟩ := hE.2.1 k hk
  have h6 := hT.2.2 k hk
  have hal : a < k := hE.1.1 k a hk ha
  have ha_ : a < nk := by omega
  have na : a < cN C 4 := by omega
  refine mm_aload_n (pc := 0) dX11_kind_0 rfl (by first | trivial | assumption | exact mm_isr_rf _) ?_
  refine cw_grS (pc := 1) 11 _ 3 hC (rfl) rfl (n11) dX11_kind_1 fl_X11_23 rfl rfl rfl (f3) ?_
  refine mm_iload_n (pc := 4) dX11_kind_4 rfl ?_
  refine mm_callV (pc := 5) (As := [_]) (kd := ?kd_5_29) (fs := ?fs_5_29) dX11_kind_5 vl_X11_139 (ka_in (k := k) hR hk hC) ?hc_5_29 ?hk_5_29 rfl rfl (Nat.le_of_ble_eq_true rfl) ?_; (case hc_5_29 => exact cw_cell (f := 7) hC rfl rfl n7); (case hk_5_29 => rfl)
  rintro _ _ ⟨rfl, rfl⟩
  refine mm_astore_n (pc := 8) dX11_kind_8 (by first | trivial | assumption | exact mm_isr_rf _) rfl (Nat.le_of_ble_eq_true rfl) ?_
  refine mm_aload_n (pc := 9) dX11_kind_9 rfl (by first | trivial | assumption | exact mm_isr_rf _) ?_
  refine mm_ifnonnull (pc := 10) (tgt := 19) dX11_kind_10 (by decide) (by first | trivial | assumption | exact mm_isr_rf _) (fun a10 c10 => ?_) (fun c10 => by cases c10)
  refine mm_iload_n (pc := 19) dX11_kind_19 rfl ?_
  refine mm_sw (pc := 20) [56, 61, 81, 86, 91] 96 dX11_kind_20 (by decide) (by decide) (by decide) (fun i_ t_ ht_ hx_ => ?_) (fun c20 => ?_)
  · match i_, ht_ with
    | 0, ht_ =>
      cases ht_
      have c20 := mm_swe (v := 0) hx_ (by decide)
      refine mm_aload_n (pc := 56) dX11_kind_56 rfl (by first | trivial | assumption | exact mm_isr_rf _) ?_
      refine cw_gi (pc := 57) 4 k 6 hC (rfl) rfl (n4) dX11_kind_57 fl_X11_143 rfl rfl rfl ?_
      refine mm_iret (pc := 60) dX11_kind_60 rfl ?_
      subst c20
      exact gP_ok hC (by unfold sp_kind; rw [if_neg hin, if_neg (by decide), if_pos (by decide), ek, if_pos rfl, k6_])
    | 1, ht_ =>
      cases ht_
      have c20 := mm_swe (v := 1) hx_ (by decide)
      refine mm_aload_n (pc := 61) dX11_kind_61 rfl (by first | trivial | assumption | exact mm_isr_rf _) ?_
      refine cw_grS (pc := 62) 4 k 5 hC (rfl) rfl (n4) dX11_kind_62 fl_X11_146 rfl rfl rfl ((k5.trans (by rw [ha]; rfl))) ?_
      refine mm_ifnonnull (pc := 65) (tgt := 73) dX11_kind_65 (by decide) (by first | trivial | assumption | exact mm_isr_rf _) (fun a65 c65 => ?_) (fun c65 => by cases c65)
      refine mm_aload_n (pc := 73) dX11_kind_73 rfl (by first | trivial | assumption | exact mm_isr_rf _) ?_
      refine cw_grS (pc := 74) 4 k 5 hC (rfl) rfl (n4) dX11_kind_74 fl_X11_146 rfl rfl rfl ((k5.trans (by rw [ha]; rfl))) ?_
      refine cw_gi (pc := 77) 4 a 4 hC (rfl) rfl (na) dX11_kind_77 fl_X11_150 rfl rfl rfl ?_
      refine mm_iret (pc := 80) dX11_kind_80 rfl ?_
      subst c20
      exact gP_ok hC (by unfold sp_kind; rw [if_neg hin, if_neg (by decide), if_pos (by decide), ek, if_neg (by decide), if_pos rfl, h6, ha, (hE.2.1 a ha_).1.2.1, if_pos (show 0 ≤ oI (some a) from Int32.not_lt.mp (nI_pos (by omega)))]; rfl)
    | 2, ht_ =>
      cases ht_
      have c20 := mm_swe (v := 2) hx_ (by decide)
      refine mm_aload_n (pc := 81) dX11_kind_81 rfl (by first | trivial | assumption | exact mm_isr_rf _) ?_
      refine cw_gi (pc := 82) 4 k 7 hC (rfl) rfl (n4) dX11_kind_82 fl_X11_153 rfl rfl rfl ?_
      refine mm_iret (pc := 85) dX11_kind_85 rfl ?_
      subst c20
      exact gP_ok hC (by unfold sp_kind; rw [if_neg hin, if_neg (by decide), if_pos (by decide), ek, if_neg (by decide), if_neg (by decide), if_pos rfl, k7])
    | 3, ht_ =>
      cases ht_
      have c20 := mm_swe (v := 3) hx_ (by decide)
      refine mm_aload_n (pc := 86) dX11_kind_86 rfl (by first | trivial | assumption | exact mm_isr_rf _) ?_
      refine mm_callV (pc := 87) (As := []) (kd := ?kd_87_30) (fs := ?fs_87_30) dX11_kind_87 vl_X11_156 (ck_hb hE hC hk) ?hc_87_30 ?hk_87_30 rfl rfl (Nat.le_of_ble_eq_true rfl) ?_; (case hc_87_30 => exact cw_cell (f := 4) hC rfl rfl n4); (case hk_87_30 => rfl)
      rintro _ _ ⟨rfl, rfl⟩
      refine mm_iret (pc := 90) dX11_kind_90 rfl ?_
      subst c20
      exact gP_ok hC (by unfold sp_kind; rw [if_neg hin, if_neg (by decide), if_pos (by decide), ek, if_neg (by decide), if_neg (by decide), if_neg (by decide), if_pos rfl])
    | 4, ht_ =>
      cases ht_
      have c20 := mm_swe (v := 4) hx_ (by decide)
      refine mm_aload_n (pc := 91) dX11_kind_91 rfl (by first | trivial | assumption | exact mm_isr_rf _) ?_
      refine cw_gi (pc := 92) 4 k 8 hC (rfl) rfl (n4) dX11_kind_92 fl_X11_160 rfl rfl rfl ?_
      refine mm_iret (pc := 95) dX11_kind_95 rfl ?_
      subst c20
      exact gP_ok hC (by unfold sp_kind; rw [if_neg hin, if_neg (by decide), if_pos (by decide), ek, if_neg (by decide), if_neg (by decide), if_neg (by decide), if_neg (by decide), k8])
    | n_ + 5, ht_ => cases ht_
  · refine mm_aload_n (pc := 96) dX11_kind_96 rfl (by first | trivial | assumption | exact mm_isr_rf _) ?_
    refine mm_iconst (pc := 97) (v := (-1)) dX11_kind_97 (by decide) ?_
    refine mm_callV (pc := 98) (As := [_]) (kd := ?kd_98_31) (fs := ?fs_98_31) dX11_kind_98 vl_X11_96 (tl_ok (c := 1) n11 n13 f9 rfl (by decide) (by decide) hC) ?hc_98_31 ?hk_98_31 rfl rfl (Nat.le_of_ble_eq_true rfl) ?_; (case hc_98_31 => exact cw_cell (f := 11) hC rfl rfl n11); (case hk_98_31 => rfl)
    rintro _ h98 ⟨hC, e98, rfl⟩
    refine mm_iret (pc := 101) dX11_kind_101 rfl ?_
    have hw0 : ¬ w < 0 → ¬ w ≤ 4 := fun a b => by
      have n0 : ¬ w.toInt = 0 := c20 0 (by decide)
      have n1 : ¬ w.toInt = 1 := c20 1 (by decide)
      have n2 : ¬ w.toInt = 2 := c20 2 (by decide)
      have n3 : ¬ w.toInt = 3 := c20 3 (by decide)
      have n4_ : ¬ w.toInt = 4 := c20 4 (by decide)
      have a1 : ¬ w.toInt < (0 : Int32).toInt := fun z => a (Int32.lt_iff_toInt_lt.mpr z)
      have b1 := Int32.le_iff_toInt_le.mp b
      have e0 : (0 : Int32).toInt = 0 := by decide
      have e4 : (4 : Int32).toInt = 4 := by decide
      omega
    exact gP_no hC e98 (by unfold sp_kind; rw [if_neg hin]; by_cases z : w < 0; (rw [if_pos z]; rfl); (rw [if_neg z, if_neg (hw0 z)]; rfl)) (by decide)

theorem kd_ok {G : mm_G} {L : Nat × Nat} {d : Nat} {h : mm_H} {h0 : mm_H} {ad : Nat → Nat → Nat} {C : cw_C} {M : mw_S} {ab : Nat → Option Nat} {nk np : Nat} {i w : Int32} (hG : rlG ad C M ab nk np) (hT : rm_T M nk ab) (hC : cw ad h0 C h) : mm_Ok G mX11_kind L (d + 2) [.ref (ad 11 0), .int i, .int w] h (fun r h1 => gP ad h0 C h (sp_kind M ab i w) r h1) := by
  by_cases hi : sp_in i (nI nk) = 0
  · exact kd_no hG hi hC
  · obtain ⟨k, hk, rfl⟩ := sp_in_of hi rfl (by have := hG.1.2.1.1; omega)
    cases ha : ab k with
    | none => exact kd_n hG hT hk ha hC
    | some a => exact kd_s hG hT hk ha hC

