theorem vs_any {G : mm_G} {L : Nat × Nat} {d : Nat} {h h0 : mm_H} {ad : Nat → Nat → Nat} {C : cw_C} {M : mw_S} {nk na : Nat} {i : Int32} (hv : vsR ad C M nk na) (hC : cw ad h0 C h) : mm_Ok G mX11_vesselAt L d [.ref (ad 11 0), .int i] h (fun r h1 => h1 = h ∧ ∃ o : Option Nat, r = some (va_rf o)) := by
  by_cases hi : sp_in i (nI na) = 0
  · exact mm_Ok.post (va_no hv hi hC) (fun r h1 z => ⟨z.1, none, z.2⟩)
  · obtain ⟨k, hk, rfl⟩ := sp_in_of hi rfl (by have := hv.2.1; omega)
    exact mm_Ok.post (va_in hv hk hC) (fun r h1 z => ⟨z.1, some (ad 9 k), z.2⟩)
/-- the heat that goes with a part of the water -/
theorem ho_ok {G : mm_G} {L : Nat × Nat} {d : Nat} {h h0 : mm_H} {ad : Nat → Nat → Nat} {C : cw_C} {M : mw_S} {a : Nat} {x : Int32} (n9 : a < cN C 9) (c3 : cI C 9 a 3 = M.2.2.1 51 a) (c4 : cI C 9 a 4 = M.2.2.1 52 a) (x1 : ¬ x < 1) (x2 : x ≤ M.2.2.1 51 a) (hC : cw ad h0 C h) : mm_Ok G mX9_heatOf L d [.ref (ad 9 a), .int x] h (fun r h1 => h1 = h ∧ r = some (.int (sp_part M a x))) := by
  have hz : ¬ (M.2.2.1 51 a).toInt64 = 0 := mw_pos64 x1 x2
  refine mm_Ok.post (ok_X9_heatOf (hC.1 9 a (by decide) n9) (by show ¬ (cI C 9 a 3).toInt64 = 0; rw [c3]; exact hz)) ?_
  rintro r h1 ⟨e, z⟩
  refine ⟨e, z.trans ?_⟩
  show some (Value.int (if cI C 9 a 3 = 0 then 0 else ((cI C 9 a 4).toInt64 * x.toInt64 / (cI C 9 a 3).toInt64).toInt32)) = _
  rw [c3, c4, if_neg (fun y => hz (by rw [y]; rfl))]
  rfl

theorem pr_i {G : mm_G} {L : Nat × Nat} {d : Nat} {h : mm_H} {h0 : mm_H} {ad : Nat → Nat → Nat} {C : cw_C} {M : mw_S} {ab : Nat → Option Nat} {nk np : Nat} {i j x : Int32} (hG : rlG ad C M ab nk np) {na : Nat} (hv : vsR ad C M nk na) (hi : sp_in i (nI na) = 0) (hC : cw ad h0 C h) : mm_Ok G mX11_pour L (d + 2) [.ref (ad 11 0), .int i, .int j, .int x] h (fun r h1 => gP ad h0 C h (-1, 1) r h1) := by
  refine mm_Ok.of [(0, .ref (ad 11 0)), (1, .int i), (2, .int j), (3, .int x)] rfl kX11_pour.2.2.2.2.2 rfl (fun A => ?_)
  obtain ⟨hR, hE, ⟨n11, n13⟩, f3, f9, s3, s19⟩ := id hG
  have n7 := hR.1.1
  have hk40 := hR.2.1.1
  refine mm_aload_n (pc := 0) dX11_pour_0 rfl (by first | trivial | assumption | exact mm_isr_rf _) ?_
  refine mm_iload_n (pc := 1) dX11_pour_1 rfl ?_
  refine mm_callV (pc := 2) (As := [_]) (kd := ?kd_2_1) (fs := ?fs_2_1) dX11_pour_2 vl_X11_200 (va_no hv hi hC) ?hc_2_1 ?hk_2_1 rfl rfl (Nat.le_of_ble_eq_true rfl) ?_; (case hc_2_1 => exact cw_cell (f := 11) hC rfl rfl n11); (case hk_2_1 => rfl)
  rintro _ _ ⟨rfl, rfl⟩
  refine mm_astore (pc := 5) dX11_pour_5 (by first | trivial | assumption | exact mm_isr_rf _) rfl (Nat.le_of_ble_eq_true rfl) ?_
  refine mm_aload_n (pc := 7) dX11_pour_7 rfl (by first | trivial | assumption | exact mm_isr_rf _) ?_
  refine mm_iload_n (pc := 8) dX11_pour_8 rfl ?_
  refine mm_callV (pc := 9) (As := [_]) (kd := ?kd_9_2) (fs := ?fs_9_2) dX11_pour_9 vl_X11_200 (vs_any hv hC) ?hc_9_2 ?hk_9_2 rfl rfl (Nat.le_of_ble_eq_true rfl) ?_; (case hc_9_2 => exact cw_cell (f := 11) hC rfl rfl n11); (case hk_9_2 => rfl)
  rintro _ _ ⟨rfl, o_, rfl⟩
  refine mm_astore (pc := 12) dX11_pour_12 (by first | trivial | assumption | exact mm_isr_rf _) rfl (Nat.le_of_ble_eq_true rfl) ?_
  refine mm_aload (pc := 14) dX11_pour_14 rfl (by first | trivial | assumption | exact mm_isr_rf _) ?_
  refine mm_ifnull (pc := 16) (tgt := 43) dX11_pour_16 (by decide) (by first | trivial | assumption | exact mm_isr_rf _) (fun c16 => ?_) (fun a16 c16 => by cases c16)
  refine mm_aload_n (pc := 43) dX11_pour_43 rfl (by first | trivial | assumption | exact mm_isr_rf _) ?_
  refine mm_iconst (pc := 44) (v := (-1)) dX11_pour_44 (by decide) ?_
  refine mm_callV (pc := 45) (As := [_]) (kd := ?kd_45_3) (fs := ?fs_45_3) dX11_pour_45 vl_X11_96 (tl_ok (c := 1) n11 n13 f9 rfl (by decide) (by decide) hC) ?hc_45_3 ?hk_45_3 rfl rfl (Nat.le_of_ble_eq_true rfl) ?_; (case hc_45_3 => exact cw_cell (f := 11) hC rfl rfl n11); (case hk_45_3 => rfl)
  rintro _ h45 ⟨hC, e45, rfl⟩
  refine mm_iret (pc := 48) dX11_pour_48 rfl ?_
  exact gP_no hC e45 (by rfl) (by decide)

theorem pr_j {G : mm_G} {L : Nat × Nat} {d : Nat} {h : mm_H} {h0 : mm_H} {ad : Nat → Nat → Nat} {C : cw_C} {M : mw_S} {ab : Nat → Option Nat} {nk np : Nat} {j x : Int32} {a : Nat} (hG : rlG ad C M ab nk np) {na : Nat} (hv : vsR ad C M nk na) (ha : a < na) (hj : sp_in j (nI na) = 0) (hC : cw ad h0 C h) : mm_Ok G mX11_pour L (d + 2) [.ref (ad 11 0), .int (nI a), .int j, .int x] h (fun r h1 => gP ad h0 C h (-1, 1) r h1) := by
  refine mm_Ok.of [(0, .ref (ad 11 0)), (1, .int (nI a)), (2, .int j), (3, .int x)] rfl kX11_pour.2.2.2.2.2 rfl (fun A => ?_)
  obtain ⟨hR, hE, ⟨n11, n13⟩, f3, f9, s3, s19⟩ := id hG
  have n7 := hR.1.1
  have hk40 := hR.2.1.1
  refine mm_aload_n (pc := 0) dX11_pour_0 rfl (by first | trivial | assumption | exact mm_isr_rf _) ?_
  refine mm_iload_n (pc := 1) dX11_pour_1 rfl ?_
  refine mm_callV (pc := 2) (As := [_]) (kd := ?kd_2_4) (fs := ?fs_2_4) dX11_pour_2 vl_X11_200 (va_in (i := a) hv ha hC) ?hc_2_4 ?hk_2_4 rfl rfl (Nat.le_of_ble_eq_true rfl) ?_; (case hc_2_4 => exact cw_cell (f := 11) hC rfl rfl n11); (case hk_2_4 => rfl)
  rintro _ _ ⟨rfl, rfl⟩
  refine mm_astore (pc := 5) dX11_pour_5 (by first | trivial | assumption | exact mm_isr_rf _) rfl (Nat.le_of_ble_eq_true rfl) ?_
  refine mm_aload_n (pc := 7) dX11_pour_7 rfl (by first | trivial | assumption | exact mm_isr_rf _) ?_
  refine mm_iload_n (pc := 8) dX11_pour_8 rfl ?_
  refine mm_callV (pc := 9) (As := [_]) (kd := ?kd_9_5) (fs := ?fs_9_5) dX11_pour_9 vl_X11_200 (va_no hv hj hC) ?hc_9_5 ?hk_9_5 rfl rfl (Nat.le_of_ble_eq_true rfl) ?_; (case hc_9_5 => exact cw_cell (f := 11) hC rfl rfl n11); (case hk_9_5 => rfl)
  rintro _ _ ⟨rfl, rfl⟩
  refine mm_astore (pc := 12) dX11_pour_12 (by first | trivial | assumption | exact mm_isr_rf _) rfl (Nat.le_of_ble_eq_true rfl) ?_
  refine mm_aload (pc := 14) dX11_pour_14 rfl (by first | trivial | assumption | exact mm_isr_rf _) ?_
  refine mm_ifnull (pc := 16) (tgt := 43) dX11_pour_16 (by decide) (by first | trivial | assumption | exact mm_isr_rf _) (fun c16 => by cases c16) (fun a16 c16 => ?_)
  refine mm_aload (pc := 19) dX11_pour_19 rfl (by first | trivial | assumption | exact mm_isr_rf _) ?_
  refine mm_ifnull (pc := 21) (tgt := 43) dX11_pour_21 (by decide) (by first | trivial | assumption | exact mm_isr_rf _) (fun c21 => ?_) (fun a21 c21 => by cases c21)
  refine mm_aload_n (pc := 43) dX11_pour_43 rfl (by first | trivial | assumption | exact mm_isr_rf _) ?_
  refine mm_iconst (pc := 44) (v := (-1)) dX11_pour_44 (by decide) ?_
  refine mm_callV (pc := 45) (As := [_]) (kd := ?kd_45_6) (fs := ?fs_45_6) dX11_pour_45 vl_X11_96 (tl_ok (c := 1) n11 n13 f9 rfl (by decide) (by decide) hC) ?hc_45_6 ?hk_45_6 rfl rfl (Nat.le_of_ble_eq_true rfl) ?_; (case hc_45_6 => exact cw_cell (f := 11) hC rfl rfl n11); (case hk_45_6 => rfl)
  rintro _ h45 ⟨hC, e45, rfl⟩
  refine mm_iret (pc := 48) dX11_pour_48 rfl ?_
  exact gP_no hC e45 (by rfl) (by decide)

theorem pr_e {G : mm_G} {L : Nat × Nat} {d : Nat} {h : mm_H} {h0 : mm_H} {ad : Nat → Nat → Nat} {C : cw_C} {M : mw_S} {ab : Nat → Option Nat} {nk np : Nat} {x : Int32} {a : Nat} (hG : rlG ad C M ab nk np) {na : Nat} (hv : vsR ad C M nk na) (ha : a < na) (hC : cw ad h0 C h) : mm_Ok G mX11_pour L (d + 2) [.ref (ad 11 0), .int (nI a), .int (nI a), .int x] h (fun r h1 => gP ad h0 C h (-1, 1) r h1) := by
  refine mm_Ok.of [(0, .ref (ad 11 0)), (1, .int (nI a)), (2, .int (nI a)), (3, .int x)] rfl kX11_pour.2.2.2.2.2 rfl (fun A => ?_)
  obtain ⟨hR, hE, ⟨n11, n13⟩, f3, f9, s3, s19⟩ := id hG
  have n7 := hR.1.1
  have hk40 := hR.2.1.1
  refine mm_aload_n (pc := 0) dX11_pour_0 rfl (by first | trivial | assumption | exact mm_isr_rf _) ?_
  refine mm_iload_n (pc := 1) dX11_pour_1 rfl ?_
  refine mm_callV (pc := 2) (As := [_]) (kd := ?kd_2_7) (fs := ?fs_2_7) dX11_pour_2 vl_X11_200 (va_in (i := a) hv ha hC) ?hc_2_7 ?hk_2_7 rfl rfl (Nat.le_of_ble_eq_true rfl) ?_; (case hc_2_7 => exact cw_cell (f := 11) hC rfl rfl n11); (case hk_2_7 => rfl)
  rintro _ _ ⟨rfl, rfl⟩
  refine mm_astore (pc := 5) dX11_pour_5 (by first | trivial | assumption | exact mm_isr_rf _) rfl (Nat.le_of_ble_eq_true rfl) ?_
  refine mm_aload_n (pc := 7) dX11_pour_7 rfl (by first | trivial | assumption | exact mm_isr_rf _) ?_
  refine mm_iload_n (pc := 8) dX11_pour_8 rfl ?_
  refine mm_callV (pc := 9) (As := [_]) (kd := ?kd_9_8) (fs := ?fs_9_8) dX11_pour_9 vl_X11_200 (va_in (i := a) hv ha hC) ?hc_9_8 ?hk_9_8 rfl rfl (Nat.le_of_ble_eq_true rfl) ?_; (case hc_9_8 => exact cw_cell (f := 11) hC rfl rfl n11); (case hk_9_8 => rfl)
  rintro _ _ ⟨rfl, rfl⟩
  refine mm_astore (pc := 12) dX11_pour_12 (by first | trivial | assumption | exact mm_isr_rf _) rfl (Nat.le_of_ble_eq_true rfl) ?_
  refine mm_aload (pc := 14) dX11_pour_14 rfl (by first | trivial | assumption | exact mm_isr_rf _) ?_
  refine mm_ifnull (pc := 16) (tgt := 43) dX11_pour_16 (by decide) (by first | trivial | assumption | exact mm_isr_rf _) (fun c16 => by cases c16) (fun a16 c16 => ?_)
  refine mm_aload (pc := 19) dX11_pour_19 rfl (by first | trivial | assumption | exact mm_isr_rf _) ?_
  refine mm_ifnull (pc := 21) (tgt := 43) dX11_pour_21 (by decide) (by first | trivial | assumption | exact mm_isr_rf _) (fun c21 => by cases c21) (fun a21 c21 => ?_)
  refine mm_iload_n (pc := 24) dX11_pour_24 rfl ?_
  refine mm_iload_n (pc := 25) dX11_pour_25 rfl ?_
  refine mm_icmp_eq (pc := 26) (tgt := 43) dX11_pour_26 (by decide) (fun c26 => ?_) (fun c26 => absurd rfl c26)
  refine mm_aload_n (pc := 43) dX11_pour_43 rfl (by first | trivial | assumption | exact mm_isr_rf _) ?_
  refine mm_iconst (pc := 44) (v := (-1)) dX11_pour_44 (by decide) ?_
  refine mm_callV (pc := 45) (As := [_]) (kd := ?kd_45_9) (fs := ?fs_45_9) dX11_pour_45 vl_X11_96 (tl_ok (c := 1) n11 n13 f9 rfl (by decide) (by decide) hC) ?hc_45_9 ?hk_45_9 rfl rfl (Nat.le_of_ble_eq_true rfl) ?_; (case hc_45_9 => exact cw_cell (f := 11) hC rfl rfl n11); (case hk_45_9 => rfl)
  rintro _ h45 ⟨hC, e45, rfl⟩
  refine mm_iret (pc := 48) dX11_pour_48 rfl ?_
  exact gP_no hC e45 (by rfl) (by decide)

theorem pr_lo {G : mm_G} {L : Nat × Nat} {d : Nat} {h : mm_H} {h0 : mm_H} {ad : Nat → Nat → Nat} {C : cw_C} {M : mw_S} {ab : Nat → Option Nat} {nk np : Nat} {x : Int32} {a b : Nat} (hG : rlG ad C M ab nk np) {na : Nat} (hv : vsR ad C M nk na) (ha : a < na) (hb : b < na) (hab : ¬ a = b) (x1 : x < 1) (hC : cw ad h0 C h) : mm_Ok G mX11_pour L (d + 2) [.ref (ad 11 0), .int (nI a), .int (nI b), .int x] h (fun r h1 => gP ad h0 C h (-1, 1) r h1) := by
  refine mm_Ok.of [(0, .ref (ad 11 0)), (1, .int (nI a)), (2, .int (nI b)), (3, .int x)] rfl kX11_pour.2.2.2.2.2 rfl (fun A => ?_)
  obtain ⟨hR, hE, ⟨n11, n13⟩, f3, f9, s3, s19⟩ := id hG
  have n7 := hR.1.1
  have hk40 := hR.2.1.1
  have na9 : a < cN C 9 := by have := hv.1.2.2; omega
  have nb9 : b < cN C 9 := by have := hv.1.2.2; omega
  have h20 := hv.2.1
  obtain ⟨-, -, -, -, p5, p6⟩ := hv.2.2.2.2.2 a ha
  refine mm_aload_n (pc := 0) dX11_pour_0 rfl (by first | trivial | assumption | exact mm_isr_rf _) ?_
  refine mm_iload_n (pc := 1) dX11_pour_1 rfl ?_
  refine mm_callV (pc := 2) (As := [_]) (kd := ?kd_2_10) (fs := ?fs_2_10) dX11_pour_2 vl_X11_200 (va_in (i := a) hv ha hC) ?hc_2_10 ?hk_2_10 rfl rfl (Nat.le_of_ble_eq_true rfl) ?_; (case hc_2_10 => exact cw_cell (f := 11) hC rfl rfl n11); (case hk_2_10 => rfl)
  rintro _ _ ⟨rfl, rfl⟩
  refine mm_astore (pc := 5) dX11_pour_5 (by first | trivial | assumption | exact mm_isr_rf _) rfl (Nat.le_of_ble_eq_true rfl) ?_
  refine mm_aload_n (pc := 7) dX11_pour_7 rfl (by first | trivial | assumption | exact mm_isr_rf _) ?_
  refine mm_iload_n (pc := 8) dX11_pour_8 rfl ?_
  refine mm_callV (pc := 9) (As := [_]) (kd := ?kd_9_11) (fs := ?fs_9_11) dX11_pour_9 vl_X11_200 (va_in (i := b) hv hb hC) ?hc_9_11 ?hk_9_11 rfl rfl (Nat.le_of_ble_eq_true rfl) ?_; (case hc_9_11 => exact cw_cell (f := 11) hC rfl rfl n11); (case hk_9_11 => rfl)
  rintro _ _ ⟨rfl, rfl⟩
  refine mm_astore (pc := 12) dX11_pour_12 (by first | trivial | assumption | exact mm_isr_rf _) rfl (Nat.le_of_ble_eq_true rfl) ?_
  refine mm_aload (pc := 14) dX11_pour_14 rfl (by first | trivial | assumption | exact mm_isr_rf _) ?_
  refine mm_ifnull (pc := 16) (tgt := 43) dX11_pour_16 (by decide) (by first | trivial | assumption | exact mm_isr_rf _) (fun c16 => by cases c16) (fun a16 c16 => ?_)
  refine mm_aload (pc := 19) dX11_pour_19 rfl (by first | trivial | assumption | exact mm_isr_rf _) ?_
  refine mm_ifnull (pc := 21) (tgt := 43) dX11_pour_21 (by decide) (by first | trivial | assumption | exact mm_isr_rf _) (fun c21 => by cases c21) (fun a21 c21 => ?_)
  refine mm_iload_n (pc := 24) dX11_pour_24 rfl ?_
  refine mm_iload_n (pc := 25) dX11_pour_25 rfl ?_
  refine mm_icmp_eq (pc := 26) (tgt := 43) dX11_pour_26 (by decide) (fun c26 => absurd c26 (nI_ne hab (by omega) (by omega))) (fun c26 => ?_)
  refine mm_iload_n (pc := 29) dX11_pour_29 rfl ?_
  refine mm_iconst (pc := 30) (v := 1) dX11_pour_30 (by decide) ?_
  refine mm_icmp_lt (pc := 31) (tgt := 43) dX11_pour_31 (by decide) (fun c31 => ?_) (fun c31 => absurd x1 c31)
  refine mm_aload_n (pc := 43) dX11_pour_43 rfl (by first | trivial | assumption | exact mm_isr_rf _) ?_
  refine mm_iconst (pc := 44) (v := (-1)) dX11_pour_44 (by decide) ?_
  refine mm_callV (pc := 45) (As := [_]) (kd := ?kd_45_12) (fs := ?fs_45_12) dX11_pour_45 vl_X11_96 (tl_ok (c := 1) n11 n13 f9 rfl (by decide) (by decide) hC) ?hc_45_12 ?hk_45_12 rfl rfl (Nat.le_of_ble_eq_true rfl) ?_; (case hc_45_12 => exact cw_cell (f := 11) hC rfl rfl n11); (case hk_45_12 => rfl)
  rintro _ h45 ⟨hC, e45, rfl⟩
  refine mm_iret (pc := 48) dX11_pour_48 rfl ?_
  exact gP_no hC e45 (by rfl) (by decide)

theorem pr_hi {G : mm_G} {L : Nat × Nat} {d : Nat} {h : mm_H} {h0 : mm_H} {ad : Nat → Nat → Nat} {C : cw_C} {M : mw_S} {ab : Nat → Option Nat} {nk np : Nat} {x : Int32} {a b : Nat} (hG : rlG ad C M ab nk np) {na : Nat} (hv : vsR ad C M nk na) (ha : a < na) (hb : b < na) (hab : ¬ a = b) (x1 : ¬ x < 1) (x2 : ¬ x ≤ M.2.2.1 51 a) (hC : cw ad h0 C h) : mm_Ok G mX11_pour L (d + 2) [.ref (ad 11 0), .int (nI a), .int (nI b), .int x] h (fun r h1 => gP ad h0 C h (-1, 1) r h1) := by
  refine mm_Ok.of [(0, .ref (ad 11 0)), (1, .int (nI a)), (2, .int (nI b)), (3, .int x)] rfl kX11_pour.2.2.2.2.2 rfl (fun A => ?_)
  obtain ⟨hR, hE, ⟨n11, n13⟩, f3, f9, s3, s19⟩ := id hG
  have n7 := hR.1.1
  have hk40 := hR.2.1.1
  have na9 : a < cN C 9 := by have := hv.1.2.2; omega
  have nb9 : b < cN C 9 := by have := hv.1.2.2; omega
  have h20 := hv.2.1
  obtain ⟨-, -, -, -, p5, p6⟩ := hv.2.2.2.2.2 a ha
  refine mm_aload_n (pc := 0) dX11_pour_0 rfl (by first | trivial | assumption | exact mm_isr_rf _) ?_
  refine mm_iload_n (pc := 1) dX11_pour_1 rfl ?_
  refine mm_callV (pc := 2) (As := [_]) (kd := ?kd_2_13) (fs := ?fs_2_13) dX11_pour_2 vl_X11_200 (va_in (i := a) hv ha hC) ?hc_2_13 ?hk_2_13 rfl rfl (Nat.le_of_ble_eq_true rfl) ?_; (case hc_2_13 => exact cw_cell (f := 11) hC rfl rfl n11); (case hk_2_13 => rfl)
  rintro _ _ ⟨rfl, rfl⟩
  refine mm_astore (pc := 5) dX11_pour_5 (by first | trivial | assumption | exact mm_isr_rf _) rfl (Nat.le_of_ble_eq_true rfl) ?_
  refine mm_aload_n (pc := 7) dX11_pour_7 rfl (by first | trivial | assumption | exact mm_isr_rf _) ?_
  refine mm_iload_n (pc := 8) dX11_pour_8 rfl ?_
  refine mm_callV (pc := 9) (As := [_]) (kd := ?kd_9_14) (fs := ?fs_9_14) dX11_pour_9 vl_X11_200 (va_in (i := b) hv hb hC) ?hc_9_14 ?hk_9_14 rfl rfl (Nat.le_of_ble_eq_true rfl) ?_; (case hc_9_14 => exact cw_cell (f := 11) hC rfl rfl n11); (case hk_9_14 => rfl)
  rintro _ _ ⟨rfl, rfl⟩
  refine mm_astore (pc := 12) dX11_pour_12 (by first | trivial | assumption | exact mm_isr_rf _) rfl (Nat.le_of_ble_eq_true rfl) ?_
  refine mm_aload (pc := 14) dX11_pour_14 rfl (by first | trivial | assumption | exact mm_isr_rf _) ?_
  refine mm_ifnull (pc := 16) (tgt := 43) dX11_pour_16 (by decide) (by first | trivial | assumption | exact mm_isr_rf _) (fun c16 => by cases c16) (fun a16 c16 => ?_)
  refine mm_aload (pc := 19) dX11_pour_19 rfl (by first | trivial | assumption | exact mm_isr_rf _) ?_
  refine mm_ifnull (pc := 21) (tgt := 43) dX11_pour_21 (by decide) (by first | trivial | assumption | exact mm_isr_rf _) (fun c21 => by cases c21) (fun a21 c21 => ?_)
  refine mm_iload_n (pc := 24) dX11_pour_24 rfl ?_
  refine mm_iload_n (pc := 25) dX11_pour_25 rfl ?_
  refine mm_icmp_eq (pc := 26) (tgt := 43) dX11_pour_26 (by decide) (fun c26 => absurd c26 (nI_ne hab (by omega) (by omega))) (fun c26 => ?_)
  refine mm_iload_n (pc := 29) dX11_pour_29 rfl ?_
  refine mm_iconst (pc := 30) (v := 1) dX11_pour_30 (by decide) ?_
  refine mm_icmp_lt (pc := 31) (tgt := 43) dX11_pour_31 (by decide) (fun c31 => absurd c31 x1) (fun c31 => ?_)
  refine mm_iload_n (pc := 34) dX11_pour_34 rfl ?_
  refine mm_aload (pc := 35) dX11_pour_35 rfl (by first | trivial | assumption | exact mm_isr_rf _) ?_
  refine cw_gi (pc := 37) 9 a 3 hC (rfl) rfl (na9) dX11_pour_37 fl_X11_208 rfl rfl rfl ?_
  refine mm_topi _ p5 ?_
  refine mm_icmp_le (pc := 40) (tgt := 49) dX11_pour_40 (by decide) (fun c40 => absurd c40 x2) (fun c40 => ?_)
  refine mm_aload_n (pc := 43) dX11_pour_43 rfl (by first | trivial | assumption | exact mm_isr_rf _) ?_
  refine mm_iconst (pc := 44) (v := (-1)) dX11_pour_44 (by decide) ?_
  refine mm_callV (pc := 45) (As := [_]) (kd := ?kd_45_15) (fs := ?fs_45_15) dX11_pour_45 vl_X11_96 (tl_ok (c := 1) n11 n13 f9 rfl (by decide) (by decide) hC) ?hc_45_15 ?hk_45_15 rfl rfl (Nat.le_of_ble_eq_true rfl) ?_; (case hc_45_15 => exact cw_cell (f := 11) hC rfl rfl n11); (case hk_45_15 => rfl)
  rintro _ h45 ⟨hC, e45, rfl⟩
  refine mm_iret (pc := 48) dX11_pour_48 rfl ?_
  exact gP_no hC e45 (by rfl) (by decide)

theorem pr_full {G : mm_G} {L : Nat × Nat} {d : Nat} {h : mm_H} {h0 : mm_H} {ad : Nat → Nat → Nat} {C : cw_C} {M : mw_S} {ab : Nat → Option Nat} {nk np : Nat} {x : Int32} {a b : Nat} (hG : rlG ad C M ab nk np) {na : Nat} (hv : vsR ad C M nk na) (ha : a < na) (hb : b < na) (hab : ¬ a = b) (x1 : ¬ x < 1) (x2 : x ≤ M.2.2.1 51 a) (hr : rmI C b x (sp_part M a x) = 0) (hC : cw ad h0 C h) : mm_Ok G mX11_pour L (d + 2) [.ref (ad 11 0), .int (nI a), .int (nI b), .int x] h (fun r h1 => gP ad h0 C h (-3, 3) r h1) := by
  refine mm_Ok.of [(0, .ref (ad 11 0)), (1, .int (nI a)), (2, .int (nI b)), (3, .int x)] rfl kX11_pour.2.2.2.2.2 rfl (fun A => ?_)
  obtain ⟨hR, hE, ⟨n11, n13⟩, f3, f9, s3, s19⟩ := id hG
  have n7 := hR.1.1
  have hk40 := hR.2.1.1
  have na9 : a < cN C 9 := by have := hv.1.2.2; omega
  have nb9 : b < cN C 9 := by have := hv.1.2.2; omega
  have h20 := hv.2.1
  obtain ⟨-, -, -, -, p5, p6⟩ := hv.2.2.2.2.2 a ha
  refine mm_aload_n (pc := 0) dX11_pour_0 rfl (by first | trivial | assumption | exact mm_isr_rf _) ?_
  refine mm_iload_n (pc := 1) dX11_pour_1 rfl ?_
  refine mm_callV (pc := 2) (As := [_]) (kd := ?kd_2_16) (fs := ?fs_2_16) dX11_pour_2 vl_X11_200 (va_in (i := a) hv ha hC) ?hc_2_16 ?hk_2_16 rfl rfl (Nat.le_of_ble_eq_true rfl) ?_; (case hc_2_16 => exact cw_cell (f := 11) hC rfl rfl n11); (case hk_2_16 => rfl)
  rintro _ _ ⟨rfl, rfl⟩
  refine mm_astore (pc := 5) dX11_pour_5 (by first | trivial | assumption | exact mm_isr_rf _) rfl (Nat.le_of_ble_eq_true rfl) ?_
  refine mm_aload_n (pc := 7) dX11_pour_7 rfl (by first | trivial | assumption | exact mm_isr_rf _) ?_
  refine mm_iload_n (pc := 8) dX11_pour_8 rfl ?_
  refine mm_callV (pc := 9) (As := [_]) (kd := ?kd_9_17) (fs := ?fs_9_17) dX11_pour_9 vl_X11_200 (va_in (i := b) hv hb hC) ?hc_9_17 ?hk_9_17 rfl rfl (Nat.le_of_ble_eq_true rfl) ?_; (case hc_9_17 => exact cw_cell (f := 11) hC rfl rfl n11); (case hk_9_17 => rfl)
  rintro _ _ ⟨rfl, rfl⟩
  refine mm_astore (pc := 12) dX11_pour_12 (by first | trivial | assumption | exact mm_isr_rf _) rfl (Nat.le_of_ble_eq_true rfl) ?_
  refine mm_aload (pc := 14) dX11_pour_14 rfl (by first | trivial | assumption | exact mm_isr_rf _) ?_
  refine mm_ifnull (pc := 16) (tgt := 43) dX11_pour_16 (by decide) (by first | trivial | assumption | exact mm_isr_rf _) (fun c16 => by cases c16) (fun a16 c16 => ?_)
  refine mm_aload (pc := 19) dX11_pour_19 rfl (by first | trivial | assumption | exact mm_isr_rf _) ?_
  refine mm_ifnull (pc := 21) (tgt := 43) dX11_pour_21 (by decide) (by first | trivial | assumption | exact mm_isr_rf _) (fun c21 => by cases c21) (fun a21 c21 => ?_)
  refine mm_iload_n (pc := 24) dX11_pour_24 rfl ?_
  refine mm_iload_n (pc := 25) dX11_pour_25 rfl ?_
  refine mm_icmp_eq (pc := 26) (tgt := 43) dX11_pour_26 (by decide) (fun c26 => absurd c26 (nI_ne hab (by omega) (by omega))) (fun c26 => ?_)
  refine mm_iload_n (pc := 29) dX11_pour_29 rfl ?_
  refine mm_iconst (pc := 30) (v := 1) dX11_pour_30 (by decide) ?_
  refine mm_icmp_lt (pc := 31) (tgt := 43) dX11_pour_31 (by decide) (fun c31 => absurd c31 x1) (fun c31 => ?_)
  refine mm_iload_n (pc := 34) dX11_pour_34 rfl ?_
  refine mm_aload (pc := 35) dX11_pour_35 rfl (by first | trivial | assumption | exact mm_isr_rf _) ?_
  refine cw_gi (pc := 37) 9 a 3 hC (rfl) rfl (na9) dX11_pour_37 fl_X11_208 rfl rfl rfl ?_
  refine mm_topi _ p5 ?_
  refine mm_icmp_le (pc := 40) (tgt := 49) dX11_pour_40 (by decide) (fun c40 => ?_) (fun c40 => absurd x2 c40)
  refine mm_aload (pc := 49) dX11_pour_49 rfl (by first | trivial | assumption | exact mm_isr_rf _) ?_
  refine mm_iload_n (pc := 51) dX11_pour_51 rfl ?_
  refine mm_callV (pc := 52) (As := [_]) (kd := ?kd_52_18) (fs := ?fs_52_18) dX11_pour_52 vl_X11_221 (ho_ok na9 p5 p6 x1 x2 hC) ?hc_52_18 ?hk_52_18 rfl rfl (Nat.le_of_ble_eq_true rfl) ?_; (case hc_52_18 => exact cw_cell (f := 9) hC rfl rfl na9); (case hk_52_18 => rfl)
  rintro _ _ ⟨rfl, rfl⟩
  refine mm_istore (pc := 55) dX11_pour_55 rfl (Nat.le_of_ble_eq_true rfl) ?_
  refine mm_aload (pc := 57) dX11_pour_57 rfl (by first | trivial | assumption | exact mm_isr_rf _) ?_
  refine mm_iload_n (pc := 59) dX11_pour_59 rfl ?_
  refine mm_iload (pc := 60) dX11_pour_60 rfl ?_
  refine mm_callV (pc := 62) (As := [_, _]) (kd := ?kd_62_19) (fs := ?fs_62_19) dX11_pour_62 vl_X11_205 (vh_ok nb9 hC) ?hc_62_19 ?hk_62_19 rfl rfl (Nat.le_of_ble_eq_true rfl) ?_; (case hc_62_19 => exact cw_cell (f := 9) hC rfl rfl nb9); (case hk_62_19 => rfl)
  rintro _ _ ⟨rfl, rfl⟩
  refine mm_if_eq (pc := 65) (tgt := 80) dX11_pour_65 (by decide) (fun c65 => ?_) (fun c65 => absurd hr c65)
  refine mm_aload_n (pc := 80) dX11_pour_80 rfl (by first | trivial | assumption | exact mm_isr_rf _) ?_
  refine mm_bipush (pc := 81) (v := (-3)) dX11_pour_81 (by decide) ?_
  refine mm_callV (pc := 83) (As := [_]) (kd := ?kd_83_20) (fs := ?fs_83_20) dX11_pour_83 vl_X11_96 (tl_ok (c := 3) n11 n13 f9 rfl (by decide) (by decide) hC) ?hc_83_20 ?hk_83_20 rfl rfl (Nat.le_of_ble_eq_true rfl) ?_; (case hc_83_20 => exact cw_cell (f := 11) hC rfl rfl n11); (case hk_83_20 => rfl)
  rintro _ h83 ⟨hC, e83, rfl⟩
  refine mm_iret (pc := 86) dX11_pour_86 rfl ?_
  exact gP_no hC e83 (by rfl) (by decide)

