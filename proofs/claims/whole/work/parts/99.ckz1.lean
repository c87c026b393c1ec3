theorem mk_no {G : mm_G} {L : Nat × Nat} {d : Nat} {h : mm_H} {h0 : mm_H} {ad : Nat → Nat → Nat} {C : cw_C} {M : mw_S} {ab : Nat → Option Nat} {nk np : Nat} {i s : Int32} (hG : rlG ad C M ab nk np) (hi : sp_in i (nI nk) = 0) (hC : cw ad h0 C h) : mm_Ok G mX11_make L (d + 2) [.ref (ad 11 0), .int i, .int s] h (fun r h1 => gP ad h0 C h (-1, 1) r h1) := by
  refine mm_Ok.of [(0, .ref (ad 11 0)), (1, .int i), (2, .int s)] rfl kX11_make.2.2.2.2.2 rfl (fun A => ?_)
  obtain ⟨hR, hE, ⟨n11, n13⟩, f3, f9, s3, s19⟩ := id hG
  have n7 := hR.1.1
  have hk40 := hR.2.1.1
  refine mm_aload_n (pc := 0) dX11_make_0 rfl (by first | trivial | assumption | exact mm_isr_rf _) ?_
  refine cw_grS (pc := 1) 11 _ 3 hC (rfl) rfl (n11) dX11_make_1 fl_X11_23 rfl rfl rfl (f3) ?_
  refine mm_iload_n (pc := 4) dX11_make_4 rfl ?_
  refine mm_callV (pc := 5) (As := [_]) (kd := ?kd_5_1) (fs := ?fs_5_1) dX11_make_5 vl_X11_139 (ka_no hR hi hC) ?hc_5_1 ?hk_5_1 rfl rfl (Nat.le_of_ble_eq_true rfl) ?_; (case hc_5_1 => exact cw_cell (f := 7) hC rfl rfl n7); (case hk_5_1 => rfl)
  rintro _ _ ⟨rfl, rfl⟩
  refine mm_astore_n (pc := 8) dX11_make_8 (by first | trivial | assumption | exact mm_isr_rf _) rfl (Nat.le_of_ble_eq_true rfl) ?_
  refine mm_aload_n (pc := 9) dX11_make_9 rfl (by first | trivial | assumption | exact mm_isr_rf _) ?_
  refine mm_ifnull (pc := 10) (tgt := 24) dX11_make_10 (by decide) (by first | trivial | assumption | exact mm_isr_rf _) (fun c10 => ?_) (fun a10 c10 => by cases c10)
  refine mm_aload_n (pc := 24) dX11_make_24 rfl (by first | trivial | assumption | exact mm_isr_rf _) ?_
  refine mm_iconst (pc := 25) (v := (-1)) dX11_make_25 (by decide) ?_
  refine mm_callV (pc := 26) (As := [_]) (kd := ?kd_26_2) (fs := ?fs_26_2) dX11_make_26 vl_X11_96 (tl_ok (c := 1) n11 n13 f9 rfl (by decide) (by decide) hC) ?hc_26_2 ?hk_26_2 rfl rfl (Nat.le_of_ble_eq_true rfl) ?_; (case hc_26_2 => exact cw_cell (f := 11) hC rfl rfl n11); (case hk_26_2 => rfl)
  rintro _ h26 ⟨hC, e26, rfl⟩
  refine mm_iret (pc := 29) dX11_make_29 rfl ?_
  exact gP_no hC e26 (by rfl) (by decide)

theorem mk_lo {G : mm_G} {L : Nat × Nat} {d : Nat} {h : mm_H} {h0 : mm_H} {ad : Nat → Nat → Nat} {C : cw_C} {M : mw_S} {ab : Nat → Option Nat} {nk np : Nat} {s : Int32} {k : Nat} (hG : rlG ad C M ab nk np) (hk : k < nk) (hs : s < 0) (hC : cw ad h0 C h) : mm_Ok G mX11_make L (d + 2) [.ref (ad 11 0), .int (nI k), .int s] h (fun r h1 => gP ad h0 C h (-1, 1) r h1) := by
  refine mm_Ok.of [(0, .ref (ad 11 0)), (1, .int (nI k)), (2, .int s)] rfl kX11_make.2.2.2.2.2 rfl (fun A => ?_)
  obtain ⟨hR, hE, ⟨n11, n13⟩, f3, f9, s3, s19⟩ := id hG
  have n7 := hR.1.1
  have hk40 := hR.2.1.1
  have hin : ¬ sp_in (nI k) (M.1 3) = 0 := by rw [s3]; exact sp_in_k hk (by omega)
  have n4 : k < cN C 4 := by have := hR.1.2.2.2.1; omega
  have ek : (nI k).toNatClampNeg = k := nI_clamp (by omega)
  have habk : cR C 4 k 5 = (ab k).map (ad 4) := (hE.2.1 k hk).1.2.2.1
  refine mm_aload_n (pc := 0) dX11_make_0 rfl (by first | trivial | assumption | exact mm_isr_rf _) ?_
  refine cw_grS (pc := 1) 11 _ 3 hC (rfl) rfl (n11) dX11_make_1 fl_X11_23 rfl rfl rfl (f3) ?_
  refine mm_iload_n (pc := 4) dX11_make_4 rfl ?_
  refine mm_callV (pc := 5) (As := [_]) (kd := ?kd_5_3) (fs := ?fs_5_3) dX11_make_5 vl_X11_139 (ka_in (k := k) hR hk hC) ?hc_5_3 ?hk_5_3 rfl rfl (Nat.le_of_ble_eq_true rfl) ?_; (case hc_5_3 => exact cw_cell (f := 7) hC rfl rfl n7); (case hk_5_3 => rfl)
  rintro _ _ ⟨rfl, rfl⟩
  refine mm_astore_n (pc := 8) dX11_make_8 (by first | trivial | assumption | exact mm_isr_rf _) rfl (Nat.le_of_ble_eq_true rfl) ?_
  refine mm_aload_n (pc := 9) dX11_make_9 rfl (by first | trivial | assumption | exact mm_isr_rf _) ?_
  refine mm_ifnull (pc := 10) (tgt := 24) dX11_make_10 (by decide) (by first | trivial | assumption | exact mm_isr_rf _) (fun c10 => by cases c10) (fun a10 c10 => ?_)
  refine mm_iload_n (pc := 13) dX11_make_13 rfl ?_
  refine mm_if_lt (pc := 14) (tgt := 24) dX11_make_14 (by decide) (fun c14 => ?_) (fun c14 => absurd hs c14)
  refine mm_aload_n (pc := 24) dX11_make_24 rfl (by first | trivial | assumption | exact mm_isr_rf _) ?_
  refine mm_iconst (pc := 25) (v := (-1)) dX11_make_25 (by decide) ?_
  refine mm_callV (pc := 26) (As := [_]) (kd := ?kd_26_4) (fs := ?fs_26_4) dX11_make_26 vl_X11_96 (tl_ok (c := 1) n11 n13 f9 rfl (by decide) (by decide) hC) ?hc_26_4 ?hk_26_4 rfl rfl (Nat.le_of_ble_eq_true rfl) ?_; (case hc_26_4 => exact cw_cell (f := 11) hC rfl rfl n11); (case hk_26_4 => rfl)
  rintro _ h26 ⟨hC, e26, rfl⟩
  refine mm_iret (pc := 29) dX11_make_29 rfl ?_
  exact gP_no hC e26 (by rfl) (by decide)

theorem mk_hi {G : mm_G} {L : Nat × Nat} {d : Nat} {h : mm_H} {h0 : mm_H} {ad : Nat → Nat → Nat} {C : cw_C} {M : mw_S} {ab : Nat → Option Nat} {nk np : Nat} {s : Int32} {k : Nat} (hG : rlG ad C M ab nk np) (hk : k < nk) (hs : ¬ s < 0) (ht : ¬ s ≤ 10000) (hC : cw ad h0 C h) : mm_Ok G mX11_make L (d + 2) [.ref (ad 11 0), .int (nI k), .int s] h (fun r h1 => gP ad h0 C h (-1, 1) r h1) := by
  refine mm_Ok.of [(0, .ref (ad 11 0)), (1, .int (nI k)), (2, .int s)] rfl kX11_make.2.2.2.2.2 rfl (fun A => ?_)
  obtain ⟨hR, hE, ⟨n11, n13⟩, f3, f9, s3, s19⟩ := id hG
  have n7 := hR.1.1
  have hk40 := hR.2.1.1
  have hin : ¬ sp_in (nI k) (M.1 3) = 0 := by rw [s3]; exact sp_in_k hk (by omega)
  have n4 : k < cN C 4 := by have := hR.1.2.2.2.1; omega
  have ek : (nI k).toNatClampNeg = k := nI_clamp (by omega)
  have habk : cR C 4 k 5 = (ab k).map (ad 4) := (hE.2.1 k hk).1.2.2.1
  refine mm_aload_n (pc := 0) dX11_make_0 rfl (by first | trivial | assumption | exact mm_isr_rf _) ?_
  refine cw_grS (pc := 1) 11 _ 3 hC (rfl) rfl (n11) dX11_make_1 fl_X11_23 rfl rfl rfl (f3) ?_
  refine mm_iload_n (pc := 4) dX11_make_4 rfl ?_
  refine mm_callV (pc := 5) (As := [_]) (kd := ?kd_5_5) (fs := ?fs_5_5) dX11_make_5 vl_X11_139 (ka_in (k := k) hR hk hC) ?hc_5_5 ?hk_5_5 rfl rfl (Nat.le_of_ble_eq_true rfl) ?_; (case hc_5_5 => exact cw_cell (f := 7) hC rfl rfl n7); (case hk_5_5 => rfl)
  rintro _ _ ⟨rfl, rfl⟩
  refine mm_astore_n (pc := 8) dX11_make_8 (by first | trivial | assumption | exact mm_isr_rf _) rfl (Nat.le_of_ble_eq_true rfl) ?_
  refine mm_aload_n (pc := 9) dX11_make_9 rfl (by first | trivial | assumption | exact mm_isr_rf _) ?_
  refine mm_ifnull (pc := 10) (tgt := 24) dX11_make_10 (by decide) (by first | trivial | assumption | exact mm_isr_rf _) (fun c10 => by cases c10) (fun a10 c10 => ?_)
  refine mm_iload_n (pc := 13) dX11_make_13 rfl ?_
  refine mm_if_lt (pc := 14) (tgt := 24) dX11_make_14 (by decide) (fun c14 => absurd c14 hs) (fun c14 => ?_)
  refine mm_iload_n (pc := 17) dX11_make_17 rfl ?_
  refine mm_sipush (pc := 18) (v := 10000) dX11_make_18 (by decide) ?_
  refine mm_icmp_le (pc := 21) (tgt := 30) dX11_make_21 (by decide) (fun c21 => absurd c21 ht) (fun c21 => ?_)
  refine mm_aload_n (pc := 24) dX11_make_24 rfl (by first | trivial | assumption | exact mm_isr_rf _) ?_
  refine mm_iconst (pc := 25) (v := (-1)) dX11_make_25 (by decide) ?_
  refine mm_callV (pc := 26) (As := [_]) (kd := ?kd_26_6) (fs := ?fs_26_6) dX11_make_26 vl_X11_96 (tl_ok (c := 1) n11 n13 f9 rfl (by decide) (by decide) hC) ?hc_26_6 ?hk_26_6 rfl rfl (Nat.le_of_ble_eq_true rfl) ?_; (case hc_26_6 => exact cw_cell (f := 11) hC rfl rfl n11); (case hk_26_6 => rfl)
  rintro _ h26 ⟨hC, e26, rfl⟩
  refine mm_iret (pc := 29) dX11_make_29 rfl ?_
  exact gP_no hC e26 (by rfl) (by decide)

theorem mk_gone {G : mm_G} {L : Nat × Nat} {d : Nat} {h : mm_H} {h0 : mm_H} {ad : Nat → Nat → Nat} {C : cw_C} {M : mw_S} {ab : Nat → Option Nat} {nk np : Nat} {s : Int32} {k : Nat} (hG : rlG ad C M ab nk np) {na : Nat} (hv : vsR ad C M nk na) (hk : k < nk) (hs : ¬ s < 0) (ht : s ≤ 10000) {p : Nat} (hp : p < np) (h7 : M.2.2.1 7 k = nI p) (hz : ¬ M.2.2.1 22 p = 0) (hC : cw ad h0 C h) : mm_Ok G mX11_make L (d + 2) [.ref (ad 11 0), .int (nI k), .int s] h (fun r h1 => gP ad h0 C h (-4, 4) r h1) := by
  refine mm_Ok.of [(0, .ref (ad 11 0)), (1, .int (nI k)), (2, .int s)] rfl kX11_make.2.2.2.2.2 rfl (fun A => ?_)
  obtain ⟨hR, hE, ⟨n11, n13⟩, f3, f9, s3, s19⟩ := id hG
  have n7 := hR.1.1
  have hk40 := hR.2.1.1
  obtain ⟨⟨v11, n16, n9⟩, hn20, v0, v1, s48, hV⟩ := id hv
  have hin : ¬ sp_in (nI k) (M.1 3) = 0 := by rw [s3]; exact sp_in_k hk (by omega)
  have n4 : k < cN C 4 := by have := hR.1.2.2.2.1; omega
  have ek : (nI k).toNatClampNeg = k := nI_clamp (by omega)
  have habk : cR C 4 k 5 = (ab k).map (ad 4) := (hE.2.1 k hk).1.2.2.1
  have k7 : cI C 4 k 7 = M.2.2.1 7 k := (hE.2.1 k hk).1.2.2.2.2.1
  have n5 : p < cN C 5 := by have := hR.1.2.2.2.2; omega
  have e22 : cI C 5 p 5 = M.2.2.1 22 p := (hR.2.2.2.2.2.2.2.2 p hp).2.2.2
  refine mm_aload_n (pc := 0) dX11_make_0 rfl (by first | trivial | assumption | exact mm_isr_rf _) ?_
  refine cw_grS (pc := 1) 11 _ 3 hC (rfl) rfl (n11) dX11_make_1 fl_X11_23 rfl rfl rfl (f3) ?_
  refine mm_iload_n (pc := 4) dX11_make_4 rfl ?_
  refine mm_callV (pc := 5) (As := [_]) (kd := ?kd_5_7) (fs := ?fs_5_7) dX11_make_5 vl_X11_139 (ka_in (k := k) hR hk hC) ?hc_5_7 ?hk_5_7 rfl rfl (Nat.le_of_ble_eq_true rfl) ?_; (case hc_5_7 => exact cw_cell (f := 7) hC rfl rfl n7); (case hk_5_7 => rfl)
  rintro _ _ ⟨rfl, rfl⟩
  refine mm_astore_n (pc := 8) dX11_make_8 (by first | trivial | assumption | exact mm_isr_rf _) rfl (Nat.le_of_ble_eq_true rfl) ?_
  refine mm_aload_n (pc := 9) dX11_make_9 rfl (by first | trivial | assumption | exact mm_isr_rf _) ?_
  refine mm_ifnull (pc := 10) (tgt := 24) dX11_make_10 (by decide) (by first | trivial | assumption | exact mm_isr_rf _) (fun c10 => by cases c10) (fun a10 c10 => ?_)
  refine mm_iload_n (pc := 13) dX11_make_13 rfl ?_
  refine mm_if_lt (pc := 14) (tgt := 24) dX11_make_14 (by decide) (fun c14 => absurd c14 hs) (fun c14 => ?_)
  refine mm_iload_n (pc := 17) dX11_make_17 rfl ?_
  refine mm_sipush (pc := 18) (v := 10000) dX11_make_18 (by decide) ?_
  refine mm_icmp_le (pc := 21) (tgt := 30) dX11_make_21 (by decide) (fun c21 => ?_) (fun c21 => absurd ht c21)
  refine mm_aload_n (pc := 30) dX11_make_30 rfl (by first | trivial | assumption | exact mm_isr_rf _) ?_
  refine cw_grS (pc := 31) 11 _ 3 hC (rfl) rfl (n11) dX11_make_31 fl_X11_23 rfl rfl rfl (f3) ?_
  refine mm_aload_n (pc := 34) dX11_make_34 rfl (by first | trivial | assumption | exact mm_isr_rf _) ?_
  refine cw_gi (pc := 35) 4 k 7 hC (rfl) rfl (n4) dX11_make_35 fl_X11_153 rfl rfl rfl ?_
  refine mm_topi _ (k7.trans h7) ?_
  refine mm_callV (pc := 38) (As := [_]) (kd := ?kd_38_8) (fs := ?fs_38_8) dX11_make_38 vl_X11_129 (pa_in (p := p) hR hp hC) ?hc_38_8 ?hk_38_8 rfl rfl (Nat.le_of_ble_eq_true rfl) ?_; (case hc_38_8 => exact cw_cell (f := 7) hC rfl rfl n7); (case hk_38_8 => rfl)
  rintro _ _ ⟨rfl, rfl⟩
  refine mm_astore (pc := 41) dX11_make_41 (by first | trivial | assumption | exact mm_isr_rf _) rfl (Nat.le_of_ble_eq_true rfl) ?_
  refine mm_aload (pc := 43) dX11_make_43 rfl (by first | trivial | assumption | exact mm_isr_rf _) ?_
  refine mm_ifnull (pc := 45) (tgt := 63) dX11_make_45 (by decide) (by first | trivial | assumption | exact mm_isr_rf _) (fun c45 => by cases c45) (fun a45 c45 => ?_)
  refine mm_aload (pc := 48) dX11_make_48 rfl (by first | trivial | assumption | exact mm_isr_rf _) ?_
  refine cw_gi (pc := 50) 5 p 5 hC (rfl) rfl (n5) dX11_make_50 fl_X11_133 rfl rfl rfl ?_
  refine mm_topi _ e22 ?_
  refine mm_if_eq (pc := 53) (tgt := 63) dX11_make_53 (by decide) (fun c53 => absurd c53 hz) (fun c53 => ?_)
  refine mm_aload_n (pc := 56) dX11_make_56 rfl (by first | trivial | assumption | exact mm_isr_rf _) ?_
  refine mm_bipush (pc := 57) (v := (-4)) dX11_make_57 (by decide) ?_
  refine mm_callV (pc := 59) (As := [_]) (kd := ?kd_59_9) (fs := ?fs_59_9) dX11_make_59 vl_X11_96 (tl_ok (c := 4) n11 n13 f9 rfl (by decide) (by decide) hC) ?hc_59_9 ?hk_59_9 rfl rfl (Nat.le_of_ble_eq_true rfl) ?_; (case hc_59_9 => exact cw_cell (f := 11) hC rfl rfl n11); (case hk_59_9 => rfl)
  rintro _ h59 ⟨hC, e59, rfl⟩
  refine mm_iret (pc := 62) dX11_make_62 rfl ?_
  exact gP_no hC e59 (by rfl) (by decide)

theorem mk_fullN {G : mm_G} {L : Nat × Nat} {d : Nat} {h : mm_H} {h0 : mm_H} {ad : Nat → Nat → Nat} {C : cw_C} {M : mw_S} {ab : Nat → Option Nat} {nk np : Nat} {s : Int32} {k : Nat} (hG : rlG ad C M ab nk np) {na : Nat} (hv : vsR ad C M nk na) (hk : k < nk) (hs : ¬ s < 0) (ht : s ≤ 10000) (h7 : sp_in (M.2.2.1 7 k) (nI np) = 0) (hn : na = 20) (hC : cw ad h0 C h) : mm_Ok G mX11_make L (d + 2) [.ref (ad 11 0), .int (nI k), .int s] h (fun r h1 => gP ad h0 C h (-3, 3) r h1) := by
  refine mm_Ok.of [(0, .ref (ad 11 0)), (1, .int (nI k)), (2, .int s)] rfl kX11_make.2.2.2.2.2 rfl (fun A => ?_)
  obtain ⟨hR, hE, ⟨n11, n13⟩, f3, f9, s3, s19⟩ := id hG
  have n7 := hR.1.1
  have hk40 := hR.2.1.1
  obtain ⟨⟨v11, n16, n9⟩, hn20, v0, v1, s48, hV⟩ := id hv
  have hin : ¬ sp_in (nI k) (M.1 3) = 0 := by rw [s3]; exact sp_in_k hk (by omega)
  have n4 : k < cN C 4 := by have := hR.1.2.2.2.1; omega
  have ek : (nI k).toNatClampNeg = k := nI_clamp (by omega)
  have habk : cR C 4 k 5 = (ab k).map (ad 4) := (hE.2.1 k hk).1.2.2.1
  have k7 : cI C 4 k 7 = M.2.2.1 7 k := (hE.2.1 k hk).1.2.2.2.2.1
  subst hn
  refine mm_aload_n (pc := 0) dX11_make_0 rfl (by first | trivial | assumption | exact mm_isr_rf _) ?_
  refine cw_grS (pc := 1) 11 _ 3 hC (rfl) rfl (n11) dX11_make_1 fl_X11_23 rfl rfl rfl (f3) ?_
  refine mm_iload_n (pc := 4) dX11_make_4 rfl ?_
  refine mm_callV (pc := 5) (As := [_]) (kd := ?kd_5_10) (fs := ?fs_5_10) dX11_make_5 vl_X11_139 (ka_in (k := k) hR hk hC) ?hc_5_10 ?hk_5_10 rfl rfl (Nat.le_of_ble_eq_true rfl) ?_; (case hc_5_10 => exact cw_cell (f := 7) hC rfl rfl n7); (case hk_5_10 => rfl)
  rintro _ _ ⟨rfl, rfl⟩
  refine mm_astore_n (pc := 8) dX11_make_8 (by first | trivial | assumption | exact mm_isr_rf _) rfl (Nat.le_of_ble_eq_true rfl) ?_
  refine mm_aload_n (pc := 9) dX11_make_9 rfl (by first | trivial | assumption | exact mm_isr_rf _) ?_
  refine mm_ifnull (pc := 10) (tgt := 24) dX11_make_10 (by decide) (by first | trivial | assumption | exact mm_isr_rf _) (fun c10 => by cases c10) (fun a10 c10 => ?_)
  refine mm_iload_n (pc := 13) dX11_make_13 rfl ?_
  refine mm_if_lt (pc := 14) (tgt := 24) dX11_make_14 (by decide) (fun c14 => absurd c14 hs) (fun c14 => ?_)
  refine mm_iload_n (pc := 17) dX11_make_17 rfl ?_
  refine mm_sipush (pc := 18) (v := 10000) dX11_make_18 (by decide) ?_
  refine mm_icmp_le (pc := 21) (tgt := 30) dX11_make_21 (by decide) (fun c21 => ?_) (fun c21 => absurd ht c21)
  refine mm_aload_n (pc := 30) dX11_make_30 rfl (by first | trivial | assumption | exact mm_isr_rf _) ?_
  refine cw_grS (pc := 31) 11 _ 3 hC (rfl) rfl (n11) dX11_make_31 fl_X11_23 rfl rfl rfl (f3) ?_
  refine mm_aload_n (pc := 34) dX11_make_34 rfl (by first | trivial | assumption | exact mm_isr_rf _) ?_
  refine cw_gi (pc := 35) 4 k 7 hC (rfl) rfl (n4) dX11_make_35 fl_X11_153 rfl rfl rfl ?_
  refine mm_topi _ k7 ?_
  refine mm_callV (pc := 38) (As := [_]) (kd := ?kd_38_11) (fs := ?fs_38_11) dX11_make_38 vl_X11_129 (pa_no hR h7 hC) ?hc_38_11 ?hk_38_11 rfl rfl (Nat.le_of_ble_eq_true rfl) ?_; (case hc_38_11 => exact cw_cell (f := 7) hC rfl rfl n7); (case hk_38_11 => rfl)
  rintro _ _ ⟨rfl, rfl⟩
  refine mm_astore (pc := 41) dX11_make_41 (by first | trivial | assumption | exact mm_isr_rf _) rfl (Nat.le_of_ble_eq_true rfl) ?_
  refine mm_aload (pc := 43) dX11_make_43 rfl (by first | trivial | assumption | exact mm_isr_rf _) ?_
  refine mm_ifnull (pc := 45) (tgt := 63) dX11_make_45 (by decide) (by first | trivial | assumption | exact mm_isr_rf _) (fun c45 => ?_) (fun a45 c45 => by cases c45)
  refine mm_aload_n (pc := 63) dX11_make_63 rfl (by first | trivial | assumption | exact mm_isr_rf _) ?_
  refine cw_gi (pc := 64) 11 _ 5 hC (rfl) rfl (n11) dX11_make_64 fl_X11_33 rfl rfl rfl ?_
  refine mm_topi _ v1 ?_
  refine mm_aload_n (pc := 67) dX11_make_67 rfl (by first | trivial | assumption | exact mm_isr_rf _) ?_
  refine cw_grS (pc := 68) 11 _ 4 hC (rfl) rfl (n11) dX11_make_68 fl_X11_29 rfl rfl rfl (v0) ?_
  refine cw_alen (pc := 71) 16 _ hC (rfl) rfl (n16) dX11_make_71 rfl rfl ?_
  refine mm_icmp_lt (pc := 72) (tgt := 82) dX11_make_72 (by decide) (fun c72 => absurd c72 (Int32.not_lt.mpr (by decide))) (fun c72 => ?_)
  refine mm_aload_n (pc := 75) dX11_make_75 rfl (by first | trivial | assumption | exact mm_isr_rf _) ?_
  refine mm_bipush (pc := 76) (v := (-3)) dX11_make_76 (by decide) ?_
  refine mm_callV (pc := 78) (As := [_]) (kd := ?kd_78_12) (fs := ?fs_78_12) dX11_make_78 vl_X11_96 (tl_ok (c := 3) n11 n13 f9 rfl (by decide) (by decide) hC) ?hc_78_12 ?hk_78_12 rfl rfl (Nat.le_of_ble_eq_true rfl) ?_; (case hc_78_12 => exact cw_cell (f := 11) hC rfl rfl n11); (case hk_78_12 => rfl)
  rintro _ h78 ⟨hC, e78, rfl⟩
  refine mm_iret (pc := 81) dX11_make_81 rfl ?_
  exact gP_no hC e78 (by rfl) (by decide)

theorem mk_fullP {G : mm_G} {L : Nat × Nat} {d : Nat} {h : mm_H} {h0 : mm_H} {ad : Nat → Nat → Nat} {C : cw_C} {M : mw_S} {ab : Nat → Option Nat} {nk np : Nat} {s : Int32} {k : Nat} (hG : rlG ad C M ab nk np) {na : Nat} (hv : vsR ad C M nk na) (hk : k < nk) (hs : ¬ s < 0) (ht : s ≤ 10000) {p : Nat} (hp : p < np) (h7 : M.2.2.1 7 k = nI p) (hz : M.2.2.1 22 p = 0) (hn : na = 20) (hC : cw ad h0 C h) : mm_Ok G mX11_make L (d + 2) [.ref (ad 11 0), .int (nI k), .int s] h (fun r h1 => gP ad h0 C h (-3, 3) r h1) := by
  refine mm_Ok.of [(0, .ref (ad 11 0)), (1, .int (nI k)), (2, .int s)] rfl kX11_make.2.2.2.2.2 rfl (fun A => ?_)
  obtain ⟨hR, hE, ⟨n11, n13⟩, f3, f9, s3, s19⟩ := id hG
  have n7 := hR.1.1
  have hk40 := hR.2.1.1
  obtain ⟨⟨v11, n16, n9⟩, hn20, v0, v1, s48, hV⟩ := id hv
  have hin : ¬ sp_in (nI k) (M.1 3) = 0 := by rw [s3]; exact sp_in_k hk (by omega)
  have n4 : k < cN C 4 := by have := hR.1.2.2.2.1; omega
  have ek : (nI k).toNatClampNeg = k := nI_clamp (by omega)
  have habk : cR C 4 k 5 = (ab k).map (ad 4) := (hE.2.1 k hk).1.2.2.1
  have k7 : cI C 4 k 7 = M.2.2.1 7 k := (hE.2.1 k hk).1.2.2.2.2.1
  have n5 : p < cN C 5 := by have := hR.1.2.2.2.2; omega
  have e22 : cI C 5 p 5 = M.2.2.1 22 p := (hR.2.2.2.2.2.2.2.2 p hp).2.2.2
  subst hn
  refine mm_aload_n (pc := 0) dX11_make_0 rfl (by first | trivial | assumption | exact mm_isr_rf _) ?_
  refine cw_grS (pc := 1) 11 _ 3 hC (rfl) rfl (n11) dX11_make_1 fl_X11_23 rfl rfl rfl (f3) ?_
  refine mm_iload_n (pc := 4) dX11_make_4 rfl ?_
  refine mm_callV (pc := 5) (As := [_]) (kd := ?kd_5_13) (fs := ?fs_5_13) dX11_make_5 vl_X11_139 (ka_in (k := k) hR hk hC) ?hc_5_13 ?hk_5_13 rfl rfl (Nat.le_of_ble_eq_true rfl) ?_; (case hc_5_13 => exact cw_cell (f := 7) hC rfl rfl n7); (case hk_5_13 => rfl)
  rintro _ _ ⟨rfl, rfl⟩
  refine mm_astore_n (pc := 8) dX11_make_8 (by first | trivial | assumption | exact mm_isr_rf _) rfl (Nat.le_of_ble_eq_true rfl) ?_
  refine mm_aload_n (pc := 9) dX11_make_9 rfl (by first | trivial | assumption | exact mm_isr_rf _) ?_
  refine mm_ifnull (pc := 10) (tgt := 24) dX11_make_10 (by decide) (by first | trivial | assumption | exact mm_isr_rf _) (fun c10 => by cases c10) (fun a10 c10 => ?_)
  refine mm_iload_n (pc := 13) dX11_make_13 rfl ?_
  refine mm_if_lt (pc := 14) (tgt := 24) dX11_make_14 (by decide) (fun c14 => absurd c14 hs) (fun c14 => ?_)
  refine mm_iload_n (pc := 17) dX11_make_17 rfl ?_
  refine mm_sipush (pc := 18) (v := 10000) dX11_make_18 (by decide) ?_
  refine mm_icmp_le (pc := 21) (tgt := 30) dX11_make_21 (by decide) (fun c21 => ?_) (fun c21 => absurd ht c21)
  refine mm_aload_n (pc := 30) dX11_make_30 rfl (by first | trivial | assumption | exact mm_isr_rf _) ?_
  refine cw_grS (pc := 31) 11 _ 3 hC (rfl) rfl (n11) dX11_make_31 fl_X11_23 rfl rfl rfl (f3) ?_
  refine mm_aload_n (pc := 34) dX11_make_34 rfl (by first | trivial | assumption | exact mm_isr_rf _) ?_
  refine cw_gi (pc := 35) 4 k 7 hC (rfl) rfl (n4) dX11_make_35 fl_X11_153 rfl rfl rfl ?_
  refine mm_topi _ (k7.trans h7) ?_
  refine mm_callV (pc := 38) (As := [_]) (kd := ?kd_38_14) (fs := ?fs_38_14) dX11_make_38 vl_X11_129 (pa_in (p := p) hR hp hC) ?hc_38_14 ?hk_38_14 rfl rfl (Nat.le_of_ble_eq_true rfl) ?_; (case hc_38_14 => exact cw_cell (f := 7) hC rfl rfl n7); (case hk_38_14 => rfl)
  rintro _ _ ⟨rfl, rfl⟩
  refine mm_astore (pc := 41) dX11_make_41 (by first | trivial | assumption | exact mm_isr_rf _) rfl (Nat.le_of_ble_eq_true rfl) ?_
  refine mm_aload (pc := 43) dX11_make_43 rfl (by first | trivial | assumption | exact mm_isr_rf _) ?_
  refine mm_ifnull (pc := 45) (tgt := 63) dX11_make_45 (by decide) (by first | trivial | assumption | exact mm_isr_rf _) (fun c45 => by cases c45) (fun a45 c45 => ?_)
  refine mm_aload (pc := 48) dX11_make_48 rfl (by first | trivial | assumption | exact mm_isr_rf _) ?_
  refine cw_gi (pc := 50) 5 p 5 hC (rfl) rfl (n5) dX11_make_50 fl_X11_133 rfl rfl rfl ?_
  refine mm_topi _ e22 ?_
  refine mm_if_eq (pc := 53) (tgt := 63) dX11_make_53 (by decide) (fun c53 => ?_) (fun c53 => absurd hz c53)
  refine mm_aload_n (pc := 63) dX11_make_63 rfl (by first | trivial | assumption | exact mm_isr_rf _) ?_
  refine cw_gi (pc := 64) 11 _ 5 hC (rfl) rfl (n11) dX11_make_64 fl_X11_33 rfl rfl rfl ?_
  refine mm_topi _ v1 ?_
  refine mm_aload_n (pc := 67) dX11_make_67 rfl (by first | trivial | assumption | exact mm_isr_rf _) ?_
  refine cw_grS (pc := 68) 11 _ 4 hC (rfl) rfl (n11) dX11_make_68 fl_X11_29 rfl rfl rfl (v0) ?_
  refine cw_alen (pc := 71) 16 _ hC (rfl) rfl (n16) dX11_make_71 rfl rfl ?_
  refine mm_icmp_lt (pc := 72) (tgt := 82) dX11_make_72 (by decide) (fun c72 => absurd c72 (Int32.not_lt.mpr (by decide))) (fun c72 => ?_)
  refine mm_aload_n (pc := 75) dX11_make_75 rfl (by first | trivial | assumption | exact mm_isr_rf _) ?_
  refine mm_bipush (pc := 76) (v := (-3)) dX11_make_76 (by decide) ?_
  refine mm_callV (pc := 78) (As := [_]) (kd := ?kd_78_15) (fs := ?fs_78_15) dX11_make_78 vl_X11_96 (tl_ok (c := 3) n11 n13 f9 rfl (by decide) (by decide) hC) ?hc_78_15 ?hk_78_15 rfl rfl (Nat.le_of_ble_eq_true rfl) ?_; (case hc_78_15 => exact cw_cell (f := 11) hC rfl rfl n11); (case hk_78_15 => rfl)
  rintro _ h78 ⟨hC, e78, rfl⟩
  refine mm_iret (pc := 81) dX11_make_81 rfl ?_
  exact gP_no hC e78 (by rfl) (by decide)

