theorem et_ok {G : mm_G} {L : Nat × Nat} {d : Nat} {h : mm_H} {h0 : mm_H} {ad : Nat → Nat → Nat} {C : cw_C} {ne e : Nat} (n11 : 0 < cN C 11) (n17 : 0 < cN C 17) (n3 : e < cN C 3) (z7 : cR C 11 0 7 = some (ad 17 0)) (z8 : cI C 11 0 8 = nI ne) (hn : ne < 512) (hC : cw ad h0 C h) : mm_Ok G mX11_enter L (d) [.ref (ad 11 0), .ref (ad 3 e)] h (fun r h1 => cw ad h0 (cw_sI (cw_sR C 17 0 ne (some (ad 3 e))) 11 0 8 (nI (ne + 1))) h1 ∧ h1.2 = h.2 ∧ r = none) := by
  refine mm_Ok.of [(0, .ref (ad 11 0)), (1, .ref (ad 3 e))] rfl kX11_enter.2.2.2.2.2 rfl (fun A => ?_)
  refine mm_aload_n (pc := 0) dX11_enter_0 rfl (by first | trivial | assumption | exact mm_isr_rf _) ?_
  refine cw_gi (pc := 1) 11 _ 8 hC (rfl) rfl (n11) dX11_enter_1 fl_X11_49 rfl rfl rfl ?_
  refine mm_topi _ z8 ?_
  refine mm_aload_n (pc := 4) dX11_enter_4 rfl (by first | trivial | assumption | exact mm_isr_rf _) ?_
  refine cw_grS (pc := 5) 11 _ 7 hC (rfl) rfl (n11) dX11_enter_5 fl_X11_45 rfl rfl rfl (z7) ?_
  refine cw_alen (pc := 8) 17 _ hC (rfl) rfl (n17) dX11_enter_8 rfl rfl ?_
  refine mm_icmp_ge (pc := 9) (tgt := 32) dX11_enter_9 (by decide) (fun c9 => absurd c9 (nI_ge (b := (512 : Nat)) hn (by decide))) (fun c9 => ?_)
  refine mm_aload_n (pc := 12) dX11_enter_12 rfl (by first | trivial | assumption | exact mm_isr_rf _) ?_
  refine cw_grS (pc := 13) 11 _ 7 hC (rfl) rfl (n11) dX11_enter_13 fl_X11_45 rfl rfl rfl (z7) ?_
  refine mm_aload_n (pc := 16) dX11_enter_16 rfl (by first | trivial | assumption | exact mm_isr_rf _) ?_
  refine cw_gi (pc := 17) 11 _ 8 hC (rfl) rfl (n11) dX11_enter_17 fl_X11_49 rfl rfl rfl ?_
  refine mm_topi _ z8 ?_
  refine mm_aload_n (pc := 20) dX11_enter_20 rfl (by first | trivial | assumption | exact mm_isr_rf _) ?_
  refine cw_aast (pc := 21) 17 0 ne hC (rfl) rfl (n17) dX11_enter_21 rfl rfl (cw_cell (f := 3) hC rfl rfl n3) rfl rfl (by first | with_reducible rfl | assumption | rfl) (by show ne < 512; exact hn) (by omega) rfl (fun h21 hC e21 => ?_)
  refine mm_aload_n (pc := 22) dX11_enter_22 rfl (by first | trivial | assumption | exact mm_isr_rf _) ?_
  refine mm_dup (pc := 23) dX11_enter_23 rfl ?_
  refine cw_gi (pc := 24) 11 _ 8 hC (rfl) rfl ((by rw [cw_sR_N]; exact n11)) dX11_enter_24 fl_X11_49 rfl rfl rfl ?_
  refine mm_topi _ (show _ = nI ne from (cI_o (cw_sR_o (by decide))).trans z8) ?_
  refine mm_iconst (pc := 27) (v := 1) dX11_enter_27 (by decide) ?_
  refine mm_iadd (pc := 28) dX11_enter_28 ?_
  refine mm_topi _ (show nI ne + 1 = nI (ne + 1) from nI_add ne 1) ?_
  refine cw_pi (pc := 29) 11 _ 8 hC (rfl) rfl ((by rw [cw_sR_N]; exact n11)) dX11_enter_29 (pl_X11_49 _) rfl rfl (rfl) (rfl) (fun h29 hC e29 => ?_)
  refine mm_vret (pc := 32) dX11_enter_32 rfl ?_
  exact ⟨hC, by rw [e29, e21], rfl⟩

/-- an entry was made and entered -/
def etC (ad : Nat → Nat → Nat) (C : cw_C) (ne : Nat) (I : Nat → Int32) (Rr : Nat → Option Nat) (x : Nat) : cw_C := cw_sI (cw_sR (cw_row (cw_new C 3) 3 ne I (fun _ => 0) Rr) 17 0 ne (some (cw_ad ad C 3 x 3 ne))) 11 0 8 (nI (ne + 1))

theorem cg_no {G : mm_G} {L : Nat × Nat} {d : Nat} {h : mm_H} {h0 : mm_H} {ad : Nat → Nat → Nat} {C : cw_C} {M : mw_S} {ab : Nat → Option Nat} {nk np : Nat} {i w x : Int32} (hG : rlG ad C M ab nk np) {na : Nat} (hv : vsR ad C M nk na) (hi : sp_in i (nI na) = 0) (hC : cw ad h0 C h) : mm_Ok G mX11_charge L (d + 2) [.ref (ad 11 0), .int i, .int w, .int x] h (fun r h1 => gP ad h0 C h (-1, 1) r h1) := by
  refine mm_Ok.of [(0, .ref (ad 11 0)), (1, .int i), (2, .int w), (3, .int x)] rfl kX11_charge.2.2.2.2.2 rfl (fun A => ?_)
  obtain ⟨hR, hE, ⟨n11, n13⟩, f3, f9, s3, s19⟩ := id hG
  have n7 := hR.1.1
  have hk40 := hR.2.1.1
  refine mm_aload_n (pc := 0) dX11_charge_0 rfl (by first | trivial | assumption | exact mm_isr_rf _) ?_
  refine mm_iload_n (pc := 1) dX11_charge_1 rfl ?_
  refine mm_callV (pc := 2) (As := [_]) (kd := ?kd_2_1) (fs := ?fs_2_1) dX11_charge_2 vl_X11_200 (va_no hv hi hC) ?hc_2_1 ?hk_2_1 rfl rfl (Nat.le_of_ble_eq_true rfl) ?_; (case hc_2_1 => exact cw_cell (f := 11) hC rfl rfl n11); (case hk_2_1 => rfl)
  rintro _ _ ⟨rfl, rfl⟩
  refine mm_astore (pc := 5) dX11_charge_5 (by first | trivial | assumption | exact mm_isr_rf _) rfl (Nat.le_of_ble_eq_true rfl) ?_
  refine mm_aload (pc := 7) dX11_charge_7 rfl (by first | trivial | assumption | exact mm_isr_rf _) ?_
  refine mm_ifnull (pc := 9) (tgt := 32) dX11_charge_9 (by decide) (by first | trivial | assumption | exact mm_isr_rf _) (fun c9 => ?_) (fun a9 c9 => by cases c9)
  refine mm_aload_n (pc := 32) dX11_charge_32 rfl (by first | trivial | assumption | exact mm_isr_rf _) ?_
  refine mm_iconst (pc := 33) (v := (-1)) dX11_charge_33 (by decide) ?_
  refine mm_callV (pc := 34) (As := [_]) (kd := ?kd_34_2) (fs := ?fs_34_2) dX11_charge_34 vl_X11_96 (tl_ok (c := 1) n11 n13 f9 rfl (by decide) (by decide) hC) ?hc_34_2 ?hk_34_2 rfl rfl (Nat.le_of_ble_eq_true rfl) ?_; (case hc_34_2 => exact cw_cell (f := 11) hC rfl rfl n11); (case hk_34_2 => rfl)
  rintro _ h34 ⟨hC, e34, rfl⟩
  refine mm_iret (pc := 37) dX11_charge_37 rfl ?_
  exact gP_no hC e34 (by rfl) (by decide)

theorem cg_bad {G : mm_G} {L : Nat × Nat} {d : Nat} {h : mm_H} {h0 : mm_H} {ad : Nat → Nat → Nat} {C : cw_C} {M : mw_S} {ab : Nat → Option Nat} {nk np : Nat} {w x : Int32} {i : Nat} (hG : rlG ad C M ab nk np) {na : Nat} (hv : vsR ad C M nk na) (hi : i < na) (hb : w < 0 ∨ x < 0 ∨ 100000 < w ∨ ¬ x ≤ 100000) (hC : cw ad h0 C h) : mm_Ok G mX11_charge L (d + 2) [.ref (ad 11 0), .int (nI i), .int w, .int x] h (fun r h1 => gP ad h0 C h (-1, 1) r h1) := by
  refine mm_Ok.of [(0, .ref (ad 11 0)), (1, .int (nI i)), (2, .int w), (3, .int x)] rfl kX11_charge.2.2.2.2.2 rfl (fun A => ?_)
  obtain ⟨hR, hE, ⟨n11, n13⟩, f3, f9, s3, s19⟩ := id hG
  have n7 := hR.1.1
  have hk40 := hR.2.1.1
  refine mm_aload_n (pc := 0) dX11_charge_0 rfl (by first | trivial | assumption | exact mm_isr_rf _) ?_
  refine mm_iload_n (pc := 1) dX11_charge_1 rfl ?_
  refine mm_callV (pc := 2) (As := [_]) (kd := ?kd_2_3) (fs := ?fs_2_3) dX11_charge_2 vl_X11_200 (va_in (i := i) hv hi hC) ?hc_2_3 ?hk_2_3 rfl rfl (Nat.le_of_ble_eq_true rfl) ?_; (case hc_2_3 => exact cw_cell (f := 11) hC rfl rfl n11); (case hk_2_3 => rfl)
  rintro _ _ ⟨rfl, rfl⟩
  refine mm_astore (pc := 5) dX11_charge_5 (by first | trivial | assumption | exact mm_isr_rf _) rfl (Nat.le_of_ble_eq_true rfl) ?_
  refine mm_aload (pc := 7) dX11_charge_7 rfl (by first | trivial | assumption | exact mm_isr_rf _) ?_
  refine mm_ifnull (pc := 9) (tgt := 32) dX11_charge_9 (by decide) (by first | trivial | assumption | exact mm_isr_rf _) (fun c9 => by cases c9) (fun a9 c9 => ?_)
  refine mm_iload_n (pc := 12) dX11_charge_12 rfl ?_
  refine mm_if_lt (pc := 13) (tgt := 32) dX11_charge_13 (by decide) (fun c13 => ?_) (fun c13 => ?_)
  · refine mm_aload_n (pc := 32) dX11_charge_32 rfl (by first | trivial | assumption | exact mm_isr_rf _) ?_
    refine mm_iconst (pc := 33) (v := (-1)) dX11_charge_33 (by decide) ?_
    refine mm_callV (pc := 34) (As := [_]) (kd := ?kd_34_4) (fs := ?fs_34_4) dX11_charge_34 vl_X11_96 (tl_ok (c := 1) n11 n13 f9 rfl (by decide) (by decide) hC) ?hc_34_4 ?hk_34_4 rfl rfl (Nat.le_of_ble_eq_true rfl) ?_; (case hc_34_4 => exact cw_cell (f := 11) hC rfl rfl n11); (case hk_34_4 => rfl)
    rintro _ h34 ⟨hC, e34, rfl⟩
    refine mm_iret (pc := 37) dX11_charge_37 rfl ?_
    exact gP_no hC e34 (by rfl) (by decide)
  · refine mm_iload_n (pc := 16) dX11_charge_16 rfl ?_
    refine mm_ldc (pc := 17) dX11_charge_17 cn_X11_204 ?_
    refine mm_icmp_gt (pc := 19) (tgt := 32) dX11_charge_19 (by decide) (fun c19 => ?_) (fun c19 => ?_)
    · refine mm_aload_n (pc := 32) dX11_charge_32 rfl (by first | trivial | assumption | exact mm_isr_rf _) ?_
      refine mm_iconst (pc := 33) (v := (-1)) dX11_charge_33 (by decide) ?_
      refine mm_callV (pc := 34) (As := [_]) (kd := ?kd_34_5) (fs := ?fs_34_5) dX11_charge_34 vl_X11_96 (tl_ok (c := 1) n11 n13 f9 rfl (by decide) (by decide) hC) ?hc_34_5 ?hk_34_5 rfl rfl (Nat.le_of_ble_eq_true rfl) ?_; (case hc_34_5 => exact cw_cell (f := 11) hC rfl rfl n11); (case hk_34_5 => rfl)
      rintro _ h34 ⟨hC, e34, rfl⟩
      refine mm_iret (pc := 37) dX11_charge_37 rfl ?_
      exact gP_no hC e34 (by rfl) (by decide)
    · refine mm_iload_n (pc := 22) dX11_charge_22 rfl ?_
      refine mm_if_lt (pc := 23) (tgt := 32) dX11_charge_23 (by decide) (fun c23 => ?_) (fun c23 => ?_)
      · refine mm_aload_n (pc := 32) dX11_charge_32 rfl (by first | trivial | assumption | exact mm_isr_rf _) ?_
        refine mm_iconst (pc := 33) (v := (-1)) dX11_charge_33 (by decide) ?_
        refine mm_callV (pc := 34) (As := [_]) (kd := ?kd_34_6) (fs := ?fs_34_6) dX11_charge_34 vl_X11_96 (tl_ok (c := 1) n11 n13 f9 rfl (by decide) (by decide) hC) ?hc_34_6 ?hk_34_6 rfl rfl (Nat.le_of_ble_eq_true rfl) ?_; (case hc_34_6 => exact cw_cell (f := 11) hC rfl rfl n11); (case hk_34_6 => rfl)
        rintro _ h34 ⟨hC, e34, rfl⟩
        refine mm_iret (pc := 37) dX11_charge_37 rfl ?_
        exact gP_no hC e34 (by rfl) (by decide)
      · refine mm_iload_n (pc := 26) dX11_charge_26 rfl ?_
        refine mm_ldc (pc := 27) dX11_charge_27 cn_X11_204 ?_
        refine mm_icmp_le (pc := 29) (tgt := 38) dX11_charge_29 (by decide) (fun c29 => absurd c29 (fun z => hb.elim c13 (fun y => y.elim c23 (fun y => y.elim c19 (fun y => y z))))) (fun c29 => ?_)
        refine mm_aload_n (pc := 32) dX11_charge_32 rfl (by first | trivial | assumption | exact mm_isr_rf _) ?_
        refine mm_iconst (pc := 33) (v := (-1)) dX11_charge_33 (by decide) ?_
        refine mm_callV (pc := 34) (As := [_]) (kd := ?kd_34_7) (fs := ?fs_34_7) dX11_charge_34 vl_X11_96 (tl_ok (c := 1) n11 n13 f9 rfl (by decide) (by decide) hC) ?hc_34_7 ?hk_34_7 rfl rfl (Nat.le_of_ble_eq_true rfl) ?_; (case hc_34_7 => exact cw_cell (f := 11) hC rfl rfl n11); (case hk_34_7 => rfl)
        rintro _ h34 ⟨hC, e34, rfl⟩
        refine mm_iret (pc := 37) dX11_charge_37 rfl ?_
        exact gP_no hC e34 (by rfl) (by decide)

theorem cg_full {G : mm_G} {L : Nat × Nat} {d : Nat} {h : mm_H} {h0 : mm_H} {ad : Nat → Nat → Nat} {C : cw_C} {M : mw_S} {ab : Nat → Option Nat} {nk np : Nat} {w x : Int32} {i : Nat} (hG : rlG ad C M ab nk np) {na : Nat} (hv : vsR ad C M nk na) (hi : i < na) (w0 : ¬ w < 0) (x0 : ¬ x < 0) (w1 : ¬ 100000 < w) (x1 : x ≤ 100000) (hr : rmI C i w x = 0) (hC : cw ad h0 C h) : mm_Ok G mX11_charge L (d + 2) [.ref (ad 11 0), .int (nI i), .int w, .int x] h (fun r h1 => gP ad h0 C h (-3, 3) r h1) := by
  refine mm_Ok.of [(0, .ref (ad 11 0)), (1, .int (nI i)), (2, .int w), (3, .int x)] rfl kX11_charge.2.2.2.2.2 rfl (fun A => ?_)
  obtain ⟨hR, hE, ⟨n11, n13⟩, f3, f9, s3, s19⟩ := id hG
  have n7 := hR.1.1
  have hk40 := hR.2.1.1
  have ni : i < cN C 9 := by have := hv.1.2.2; omega
  refine mm_aload_n (pc := 0) dX11_charge_0 rfl (by first | trivial | assumption | exact mm_isr_rf _) ?_
  refine mm_iload_n (pc := 1) dX11_charge_1 rfl ?_
  refine mm_callV (pc := 2) (As := [_]) (kd := ?kd_2_8) (fs := ?fs_2_8) dX11_charge_2 vl_X11_200 (va_in (i := i) hv hi hC) ?hc_2_8 ?hk_2_8 rfl rfl (Nat.le_of_ble_eq_true rfl) ?_; (case hc_2_8 => exact cw_cell (f := 11) hC rfl rfl n11); (case hk_2_8 => rfl)
  rintro _ _ ⟨rfl, rfl⟩
  refine mm_astore (pc := 5) dX11_charge_5 (by first | trivial | assumption | exact mm_isr_rf _) rfl (Nat.le_of_ble_eq_true rfl) ?_
  refine mm_aload (pc := 7) dX11_charge_7 rfl (by first | trivial | assumption | exact mm_isr_rf _) ?_
  refine mm_ifnull (pc := 9) (tgt := 32) dX11_charge_9 (by decide) (by first | trivial | assumption | exact mm_isr_rf _) (fun c9 => by cases c9) (fun a9 c9 => ?_)
  refine mm_iload_n (pc := 12) dX11_charge_12 rfl ?_
  refine mm_if_lt (pc := 13) (tgt := 32) dX11_charge_13 (by decide) (fun c13 => absurd c13 w0) (fun c13 => ?_)
  refine mm_iload_n (pc := 16) dX11_charge_16 rfl ?_
  refine mm_ldc (pc := 17) dX11_charge_17 cn_X11_204 ?_
  refine mm_icmp_gt (pc := 19) (tgt := 32) dX11_charge_19 (by decide) (fun c19 => absurd c19 w1) (fun c19 => ?_)
  refine mm_iload_n (pc := 22) dX11_charge_22 rfl ?_
  refine mm_if_lt (pc := 23) (tgt := 32) dX11_charge_23 (by decide) (fun c23 => absurd c23 x0) (fun c23 => ?_)
  refine mm_iload_n (pc := 26) dX11_charge_26 rfl ?_
  refine mm_ldc (pc := 27) dX11_charge_27 cn_X11_204 ?_
  refine mm_icmp_le (pc := 29) (tgt := 38) dX11_charge_29 (by decide) (fun c29 => ?_) (fun c29 => absurd x1 c29)
  refine mm_aload (pc := 38) dX11_charge_38 rfl (by first | trivial | assumption | exact mm_isr_rf _) ?_
  refine mm_iload_n (pc := 40) dX11_charge_40 rfl ?_
  refine mm_iload_n (pc := 41) dX11_charge_41 rfl ?_
  refine mm_callV (pc := 42) (As := [_, _]) (kd := ?kd_42_9) (fs := ?fs_42_9) dX11_charge_42 vl_X11_205 (vh_ok ni hC) ?hc_42_9 ?hk_42_9 rfl rfl (Nat.le_of_ble_eq_true rfl) ?_; (case hc_42_9 => exact cw_cell (f := 9) hC rfl rfl ni); (case hk_42_9 => rfl)
  rintro _ _ ⟨rfl, rfl⟩
  refine mm_if_eq (pc := 45) (tgt := 60) dX11_charge_45 (by decide) (fun c45 => ?_) (fun c45 => absurd hr c45)
  refine mm_aload_n (pc := 60) dX11_charge_60 rfl (by first | trivial | assumption | exact mm_isr_rf _) ?_
  refine mm_bipush (pc := 61) (v := (-3)) dX11_charge_61 (by decide) ?_
  refine mm_callV (pc := 63) (As := [_]) (kd := ?kd_63_10) (fs := ?fs_63_10) dX11_charge_63 vl_X11_96 (tl_ok (c := 3) n11 n13 f9 rfl (by decide) (by decide) hC) ?hc_63_10 ?hk_63_10 rfl rfl (Nat.le_of_ble_eq_true rfl) ?_; (case hc_63_10 => exact cw_cell (f := 11) hC rfl rfl n11); (case hk_63_10 => rfl)
  rintro _ h63 ⟨hC, e63, rfl⟩
  refine mm_iret (pc := 66) dX11_charge_66 rfl ?_
  exact gP_no hC e63 (by rfl) (by decide)

