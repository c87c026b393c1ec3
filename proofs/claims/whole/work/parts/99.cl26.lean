theorem ac_no {G : mm_G} {L : Nat × Nat} {d : Nat} {h : mm_H} {h0 : mm_H} {ad : Nat → Nat → Nat} {C : cw_C} {M : mw_S} {ab : Nat → Option Nat} {nk np : Nat} {i a : Int32} (hG : rlG ad C M ab nk np) {na : Nat} (hv : vsR ad C M nk na) (hi : sp_in i (nI na) = 0) (hC : cw ad h0 C h) : mm_Ok G mX11_act L (d + 2) [.ref (ad 11 0), .int i, .int a] h (fun r h1 => gP ad h0 C h (-1, 1) r h1) := by
  refine mm_Ok.of [(0, .ref (ad 11 0)), (1, .int i), (2, .int a)] rfl kX11_act.2.2.2.2.2 rfl (fun A => ?_)
  obtain ⟨hR, hE, ⟨n11, n13⟩, f3, f9, s3, s19⟩ := id hG
  have n7 := hR.1.1
  have hk40 := hR.2.1.1
  refine mm_aload_n (pc := 0) dX11_act_0 rfl (by first | trivial | assumption | exact mm_isr_rf _) ?_
  refine mm_iload_n (pc := 1) dX11_act_1 rfl ?_
  refine mm_callV (pc := 2) (As := [_]) (kd := ?kd_2_1) (fs := ?fs_2_1) dX11_act_2 vl_X11_200 (va_no hv hi hC) ?hc_2_1 ?hk_2_1 rfl rfl (Nat.le_of_ble_eq_true rfl) ?_; (case hc_2_1 => exact cw_cell (f := 11) hC rfl rfl n11); (case hk_2_1 => rfl)
  rintro _ _ ⟨rfl, rfl⟩
  refine mm_astore_n (pc := 5) dX11_act_5 (by first | trivial | assumption | exact mm_isr_rf _) rfl (Nat.le_of_ble_eq_true rfl) ?_
  refine mm_aload_n (pc := 6) dX11_act_6 rfl (by first | trivial | assumption | exact mm_isr_rf _) ?_
  refine cw_grS (pc := 7) 11 _ 3 hC (rfl) rfl (n11) dX11_act_7 fl_X11_23 rfl rfl rfl (f3) ?_
  refine mm_iconst (pc := 10) (v := 0) dX11_act_10 (by decide) ?_
  refine mm_callV (pc := 11) (As := [_]) (kd := ?kd_11_2) (fs := ?fs_11_2) dX11_act_11 vl_X11_139 (ka_any (i := 0) hR hC) ?hc_11_2 ?hk_11_2 rfl rfl (Nat.le_of_ble_eq_true rfl) ?_; (case hc_11_2 => exact cw_cell (f := 7) hC rfl rfl n7); (case hk_11_2 => rfl)
  rintro _ _ ⟨rfl, o_, rfl⟩
  refine mm_astore (pc := 14) dX11_act_14 (by first | trivial | assumption | exact mm_isr_rf _) rfl (Nat.le_of_ble_eq_true rfl) ?_
  refine mm_aload_n (pc := 16) dX11_act_16 rfl (by first | trivial | assumption | exact mm_isr_rf _) ?_
  refine mm_ifnull (pc := 17) (tgt := 36) dX11_act_17 (by decide) (by first | trivial | assumption | exact mm_isr_rf _) (fun c17 => ?_) (fun a17 c17 => by cases c17)
  refine mm_aload_n (pc := 36) dX11_act_36 rfl (by first | trivial | assumption | exact mm_isr_rf _) ?_
  refine mm_iconst (pc := 37) (v := (-1)) dX11_act_37 (by decide) ?_
  refine mm_callV (pc := 38) (As := [_]) (kd := ?kd_38_3) (fs := ?fs_38_3) dX11_act_38 vl_X11_96 (tl_ok (c := 1) n11 n13 f9 rfl (by decide) (by decide) hC) ?hc_38_3 ?hk_38_3 rfl rfl (Nat.le_of_ble_eq_true rfl) ?_; (case hc_38_3 => exact cw_cell (f := 11) hC rfl rfl n11); (case hk_38_3 => rfl)
  rintro _ h38 ⟨hC, e38, rfl⟩
  refine mm_iret (pc := 41) dX11_act_41 rfl ?_
  exact gP_no hC e38 (by rfl) (by decide)

theorem ac_lo {G : mm_G} {L : Nat × Nat} {d : Nat} {h : mm_H} {h0 : mm_H} {ad : Nat → Nat → Nat} {C : cw_C} {M : mw_S} {ab : Nat → Option Nat} {nk np : Nat} {a : Int32} {i : Nat} (hG : rlG ad C M ab nk np) {na : Nat} (hv : vsR ad C M nk na) (hi : i < na) (h0k : 0 < nk) (ha : a < 0) (hC : cw ad h0 C h) : mm_Ok G mX11_act L (d + 2) [.ref (ad 11 0), .int (nI i), .int a] h (fun r h1 => gP ad h0 C h (-1, 1) r h1) := by
  refine mm_Ok.of [(0, .ref (ad 11 0)), (1, .int (nI i)), (2, .int a)] rfl kX11_act.2.2.2.2.2 rfl (fun A => ?_)
  obtain ⟨hR, hE, ⟨n11, n13⟩, f3, f9, s3, s19⟩ := id hG
  have n7 := hR.1.1
  have hk40 := hR.2.1.1
  refine mm_aload_n (pc := 0) dX11_act_0 rfl (by first | trivial | assumption | exact mm_isr_rf _) ?_
  refine mm_iload_n (pc := 1) dX11_act_1 rfl ?_
  refine mm_callV (pc := 2) (As := [_]) (kd := ?kd_2_4) (fs := ?fs_2_4) dX11_act_2 vl_X11_200 (va_in (i := i) hv hi hC) ?hc_2_4 ?hk_2_4 rfl rfl (Nat.le_of_ble_eq_true rfl) ?_; (case hc_2_4 => exact cw_cell (f := 11) hC rfl rfl n11); (case hk_2_4 => rfl)
  rintro _ _ ⟨rfl, rfl⟩
  refine mm_astore_n (pc := 5) dX11_act_5 (by first | trivial | assumption | exact mm_isr_rf _) rfl (Nat.le_of_ble_eq_true rfl) ?_
  refine mm_aload_n (pc := 6) dX11_act_6 rfl (by first | trivial | assumption | exact mm_isr_rf _) ?_
  refine cw_grS (pc := 7) 11 _ 3 hC (rfl) rfl (n11) dX11_act_7 fl_X11_23 rfl rfl rfl (f3) ?_
  refine mm_iconst (pc := 10) (v := 0) dX11_act_10 (by decide) ?_
  refine mm_callV (pc := 11) (As := [_]) (kd := ?kd_11_5) (fs := ?fs_11_5) dX11_act_11 vl_X11_139 (ka_in (k := 0) hR h0k hC) ?hc_11_5 ?hk_11_5 rfl rfl (Nat.le_of_ble_eq_true rfl) ?_; (case hc_11_5 => exact cw_cell (f := 7) hC rfl rfl n7); (case hk_11_5 => rfl)
  rintro _ _ ⟨rfl, rfl⟩
  refine mm_astore (pc := 14) dX11_act_14 (by first | trivial | assumption | exact mm_isr_rf _) rfl (Nat.le_of_ble_eq_true rfl) ?_
  refine mm_aload_n (pc := 16) dX11_act_16 rfl (by first | trivial | assumption | exact mm_isr_rf _) ?_
  refine mm_ifnull (pc := 17) (tgt := 36) dX11_act_17 (by decide) (by first | trivial | assumption | exact mm_isr_rf _) (fun c17 => by cases c17) (fun a17 c17 => ?_)
  refine mm_aload (pc := 20) dX11_act_20 rfl (by first | trivial | assumption | exact mm_isr_rf _) ?_
  refine mm_ifnull (pc := 22) (tgt := 36) dX11_act_22 (by decide) (by first | trivial | assumption | exact mm_isr_rf _) (fun c22 => by cases c22) (fun a22 c22 => ?_)
  refine mm_iload_n (pc := 25) dX11_act_25 rfl ?_
  refine mm_if_lt (pc := 26) (tgt := 36) dX11_act_26 (by decide) (fun c26 => ?_) (fun c26 => absurd ha c26)
  refine mm_aload_n (pc := 36) dX11_act_36 rfl (by first | trivial | assumption | exact mm_isr_rf _) ?_
  refine mm_iconst (pc := 37) (v := (-1)) dX11_act_37 (by decide) ?_
  refine mm_callV (pc := 38) (As := [_]) (kd := ?kd_38_6) (fs := ?fs_38_6) dX11_act_38 vl_X11_96 (tl_ok (c := 1) n11 n13 f9 rfl (by decide) (by decide) hC) ?hc_38_6 ?hk_38_6 rfl rfl (Nat.le_of_ble_eq_true rfl) ?_; (case hc_38_6 => exact cw_cell (f := 11) hC rfl rfl n11); (case hk_38_6 => rfl)
  rintro _ h38 ⟨hC, e38, rfl⟩
  refine mm_iret (pc := 41) dX11_act_41 rfl ?_
  exact gP_no hC e38 (by rfl) (by decide)

theorem ac_hi {G : mm_G} {L : Nat × Nat} {d : Nat} {h : mm_H} {h0 : mm_H} {ad : Nat → Nat → Nat} {C : cw_C} {M : mw_S} {ab : Nat → Option Nat} {nk np : Nat} {a : Int32} {i : Nat} (hG : rlG ad C M ab nk np) {na : Nat} (hv : vsR ad C M nk na) (hi : i < na) (h0k : 0 < nk) (ha : ¬ a < 0) (hb : ¬ a ≤ 999) (hC : cw ad h0 C h) : mm_Ok G mX11_act L (d + 2) [.ref (ad 11 0), .int (nI i), .int a] h (fun r h1 => gP ad h0 C h (-1, 1) r h1) := by
  refine mm_Ok.of [(0, .ref (ad 11 0)), (1, .int (nI i)), (2, .int a)] rfl kX11_act.2.2.2.2.2 rfl (fun A => ?_)
  obtain ⟨hR, hE, ⟨n11, n13⟩, f3, f9, s3, s19⟩ := id hG
  have n7 := hR.1.1
  have hk40 := hR.2.1.1
  refine mm_aload_n (pc := 0) dX11_act_0 rfl (by first | trivial | assumption | exact mm_isr_rf _) ?_
  refine mm_iload_n (pc := 1) dX11_act_1 rfl ?_
  refine mm_callV (pc := 2) (As := [_]) (kd := ?kd_2_7) (fs := ?fs_2_7) dX11_act_2 vl_X11_200 (va_in (i := i) hv hi hC) ?hc_2_7 ?hk_2_7 rfl rfl (Nat.le_of_ble_eq_true rfl) ?_; (case hc_2_7 => exact cw_cell (f := 11) hC rfl rfl n11); (case hk_2_7 => rfl)
  rintro _ _ ⟨rfl, rfl⟩
  refine mm_astore_n (pc := 5) dX11_act_5 (by first | trivial | assumption | exact mm_isr_rf _) rfl (Nat.le_of_ble_eq_true rfl) ?_
  refine mm_aload_n (pc := 6) dX11_act_6 rfl (by first | trivial | assumption | exact mm_isr_rf _) ?_
  refine cw_grS (pc := 7) 11 _ 3 hC (rfl) rfl (n11) dX11_act_7 fl_X11_23 rfl rfl rfl (f3) ?_
  refine mm_iconst (pc := 10) (v := 0) dX11_act_10 (by decide) ?_
  refine mm_callV (pc := 11) (As := [_]) (kd := ?kd_11_8) (fs := ?fs_11_8) dX11_act_11 vl_X11_139 (ka_in (k := 0) hR h0k hC) ?hc_11_8 ?hk_11_8 rfl rfl (Nat.le_of_ble_eq_true rfl) ?_; (case hc_11_8 => exact cw_cell (f := 7) hC rfl rfl n7); (case hk_11_8 => rfl)
  rintro _ _ ⟨rfl, rfl⟩
  refine mm_astore (pc := 14) dX11_act_14 (by first | trivial | assumption | exact mm_isr_rf _) rfl (Nat.le_of_ble_eq_true rfl) ?_
  refine mm_aload_n (pc := 16) dX11_act_16 rfl (by first | trivial | assumption | exact mm_isr_rf _) ?_
  refine mm_ifnull (pc := 17) (tgt := 36) dX11_act_17 (by decide) (by first | trivial | assumption | exact mm_isr_rf _) (fun c17 => by cases c17) (fun a17 c17 => ?_)
  refine mm_aload (pc := 20) dX11_act_20 rfl (by first | trivial | assumption | exact mm_isr_rf _) ?_
  refine mm_ifnull (pc := 22) (tgt := 36) dX11_act_22 (by decide) (by first | trivial | assumption | exact mm_isr_rf _) (fun c22 => by cases c22) (fun a22 c22 => ?_)
  refine mm_iload_n (pc := 25) dX11_act_25 rfl ?_
  refine mm_if_lt (pc := 26) (tgt := 36) dX11_act_26 (by decide) (fun c26 => absurd c26 ha) (fun c26 => ?_)
  refine mm_iload_n (pc := 29) dX11_act_29 rfl ?_
  refine mm_sipush (pc := 30) (v := 999) dX11_act_30 (by decide) ?_
  refine mm_icmp_le (pc := 33) (tgt := 42) dX11_act_33 (by decide) (fun c33 => absurd c33 hb) (fun c33 => ?_)
  refine mm_aload_n (pc := 36) dX11_act_36 rfl (by first | trivial | assumption | exact mm_isr_rf _) ?_
  refine mm_iconst (pc := 37) (v := (-1)) dX11_act_37 (by decide) ?_
  refine mm_callV (pc := 38) (As := [_]) (kd := ?kd_38_9) (fs := ?fs_38_9) dX11_act_38 vl_X11_96 (tl_ok (c := 1) n11 n13 f9 rfl (by decide) (by decide) hC) ?hc_38_9 ?hk_38_9 rfl rfl (Nat.le_of_ble_eq_true rfl) ?_; (case hc_38_9 => exact cw_cell (f := 11) hC rfl rfl n11); (case hk_38_9 => rfl)
  rintro _ h38 ⟨hC, e38, rfl⟩
  refine mm_iret (pc := 41) dX11_act_41 rfl ?_
  exact gP_no hC e38 (by rfl) (by decide)

/-- what act enters -/
def acI (x p q s : Int32) (j : Nat) : Int32 := [0, 0, 0, x, p, q, s].getD j 0
def egA (ad : Nat → Nat → Nat) (h0 : mm_H) (C : cw_C) (h : mm_H) (ne a : Nat) (x : Int32) (r : Option Value) (h1 : mm_H) : Prop := r = some (.int 0) ∧ cw (cw_ad ad C 3 h.2.1) h0 (etC ad C ne (acI x (cI C 8 0 4) (cI C 8 0 5) (cI C 8 0 6)) (chR (cw_ad ad C 3 h.2.1 9 a)) h.2.1) h1 ∧ h1.2 = (h.2.1 + 1, h.2.2 + 7)

theorem ac_91 {G : mm_G} {L : Nat × Nat} {d : Nat} {A : Nat → Prop} {h h0 : mm_H} {ad : Nat → Nat → Nat} {C : cw_C} {ne a : Nat} {x : Int32} (h3N : cN C 3 = ne) (hn : ne < 512) (n11 : 0 < cN C 11) (n17 : 0 < cN C 17) (n9 : a < cN C 9) (n8 : 0 < cN C 8) (z7 : cR C 11 0 7 = some (ad 17 0)) (z8 : cI C 11 0 8 = nI ne) (t6 : cR C 11 0 6 = some (ad 8 0)) (hL1 : h.2.1 + 1 ≤ L.1) (hL2 : h.2.2 + 7 ≤ L.2) (hC : cw ad h0 C h) : mm_Run G mX11_act A L (d + 2) 91 [(0, .ref (ad 11 0)), (2, .int x), (3, .ref (ad 9 a)), (7, .int 0)] [] h (egA ad h0 C h ne a x) := by
  refine mm_aload_n (pc := 91) dX11_act_91 rfl (by first | trivial | assumption | exact mm_isr_rf _) ?_
  refine mm_new (pc := 92) dX11_act_92 nl_X11_43 (hL1) (hL2) ?_
  have hC := hC.new 3 (by decide) rfl rfl
  have en : cw_ad ad C 3 h.2.1 3 ne = h.2.1 := by rw [← h3N]; exact cw_ad_n
  have e11 : cw_ad ad C 3 h.2.1 11 0 = ad 11 0 := cw_ad_o n11
  have e9 : cw_ad ad C 3 h.2.1 9 a = ad 9 a := cw_ad_o n9
  have e17 : cw_ad ad C 3 h.2.1 17 0 = ad 17 0 := cw_ad_o n17
  rw [← en, ← e11, ← e9]
  have m3 : ne < cN (cw_new C 3) 3 := by rw [show cN (cw_new C 3) 3 = cN C 3 + 1 from cN_ext]; omega
  have m11 : 0 < cN (cw_new C 3) 11 := by rw [show cN (cw_new C 3) 11 = cN C 11 from cN_ext_o (by decide)]; exact n11
  have m17 : 0 < cN (cw_new C 3) 17 := by rw [show cN (cw_new C 3) 17 = cN C 17 from cN_ext_o (by decide)]; exact n17
  have m9 : a < cN (cw_new C 3) 9 := by rw [show cN (cw_new C 3) 9 = cN C 9 from cN_ext_o (by decide)]; exact n9
  have e8 : cw_ad ad C 3 h.2.1 8 0 = ad 8 0 := cw_ad_o n8
  have m8 : 0 < cN (cw_new C 3) 8 := by rw [show cN (cw_new C 3) 8 = cN C 8 from cN_ext_o (by decide)]; exact n8
  have q6 : cR (cw_new C 3) 11 0 6 = some (cw_ad ad C 3 h.2.1 8 0) := by rw [cR_o (show cw_new C 3 11 = C 11 from cw_ext_o (by decide)), e8]; exact t6
  refine mm_dup (pc := 95) dX11_act_95 rfl ?_
  refine mm_iconst (pc := 96) (v := 0) dX11_act_96 (by decide) ?_
  refine mm_aload_n (pc := 97) dX11_act_97 rfl (by first | trivial | assumption | exact mm_isr_rf _) ?_
  refine mm_null (pc := 98) dX11_act_98 ?_
  refine mm_iload_n (pc := 99) dX11_act_99 rfl ?_
  refine mm_aload_n (pc := 100) dX11_act_100 rfl (by first | trivial | assumption | exact mm_isr_rf _) ?_
  refine cw_grS (pc := 101) 11 _ 6 hC (rfl) rfl (m11) dX11_act_101 fl_X11_39 rfl rfl rfl (q6) ?_
  refine cw_gi (pc := 104) 8 _ 4 hC (rfl) rfl (m8) dX11_act_104 fl_X11_228 rfl rfl rfl ?_
  refine mm_topi _ (show _ = cI C 8 0 4 from cI_o (cw_ext_o (by decide))) ?_
  refine mm_aload_n (pc := 107) dX11_act_107 rfl (by first | trivial | assumption | exact mm_isr_rf _) ?_
  refine cw_grS (pc := 108) 11 _ 6 hC (rfl) rfl (m11) dX11_act_108 fl_X11_39 rfl rfl rfl (q6) ?_
  refine cw_gi (pc := 111) 8 _ 5 hC (rfl) rfl (m8) dX11_act_111 fl_X11_231 rfl rfl rfl ?_
  refine mm_topi _ (show _ = cI C 8 0 5 from cI_o (cw_ext_o (by decide))) ?_
  refine mm_aload_n (pc := 114) dX11_act_114 rfl (by first | trivial | assumption | exact mm_isr_rf _) ?_
  refine cw_grS (pc := 115) 11 _ 6 hC (rfl) rfl (m11) dX11_act_115 fl_X11_39 rfl rfl rfl (q6) ?_
  refine cw_gi (pc := 118) 8 _ 6 hC (rfl) rfl (m8) dX11_act_118 fl_X11_234 rfl rfl rfl ?_
  refine mm_topi _ (show _ = cI C 8 0 6 from cI_o (cw_ext_o (by decide))) ?_
  refine mm_callI (pc := 121) (As := [_, _, _, _, _, _, _]) dX11_act_121 il_X11_214 (ok_X3_initN (cw_cell (f := 3) hC rfl rfl m3)) rfl rfl (Nat.le_of_ble_eq_true rfl) ?_
  rintro _ h121 ⟨rfl, e121⟩
  have hC := hC.row 3 ne (by decide) m3 (acI x (cI C 8 0 4) (cI C 8 0 5) (cI C 8 0 6)) (fun _ => 0) (chR (cw_ad ad C 3 h.2.1 9 a)) e121
  have s121 : h121.2 = (h.2.1 + 1, h.2.2 + 7) := by rw [e121]; rfl
  have ro : ∀ f, ¬ f = 3 → (cw_row (cw_new C 3) 3 ne (acI x (cI C 8 0 4) (cI C 8 0 5) (cI C 8 0 6)) (fun _ => 0) (chR (cw_ad ad C 3 h.2.1 9 a))) f = C f := fun f hf => (cw_row_o hf).trans (cw_ext_o hf)
  have r7 : cR (cw_row (cw_new C 3) 3 ne (acI x (cI C 8 0 4) (cI C 8 0 5) (cI C 8 0 6)) (fun _ => 0) (chR (cw_ad ad C 3 h.2.1 9 a))) 11 0 7 = some (cw_ad ad C 3 h.2.1 17 0) := by rw [cR_o (ro 11 (by decide)), e17]; exact z7
  have r8 : cI (cw_row (cw_new C 3) 3 ne (acI x (cI C 8 0 4) (cI C 8 0 5) (cI C 8 0 6)) (fun _ => 0) (chR (cw_ad ad C 3 h.2.1 9 a))) 11 0 8 = nI ne := by rw [cI_o (ro 11 (by decide))]; exact z8
  have m11 : 0 < cN (cw_row (cw_new C 3) 3 ne (acI x (cI C 8 0 4) (cI C 8 0 5) (cI C 8 0 6)) (fun _ => 0) (chR (cw_ad ad C 3 h.2.1 9 a))) 11 := by rw [cw_row_N]; exact m11
  have m17 : 0 < cN (cw_row (cw_new C 3) 3 ne (acI x (cI C 8 0 4) (cI C 8 0 5) (cI C 8 0 6)) (fun _ => 0) (chR (cw_ad ad C 3 h.2.1 9 a))) 17 := by rw [cw_row_N]; exact m17
  have m3 : ne < cN (cw_row (cw_new C 3) 3 ne (acI x (cI C 8 0 4) (cI C 8 0 5) (cI C 8 0 6)) (fun _ => 0) (chR (cw_ad ad C 3 h.2.1 9 a))) 3 := by rw [cw_row_N]; exact m3
  have m9 : a < cN (cw_row (cw_new C 3) 3 ne (acI x (cI C 8 0 4) (cI C 8 0 5) (cI C 8 0 6)) (fun _ => 0) (chR (cw_ad ad C 3 h.2.1 9 a))) 9 := by rw [cw_row_N]; exact m9
  refine mm_callV (pc := 124) (As := [_]) (kd := ?kd_124_10) (fs := ?fs_124_10) dX11_act_124 vl_X11_217 (et_ok (e := ne) m11 m17 m3 r7 r8 hn hC) ?hc_124_10 ?hk_124_10 rfl rfl (Nat.le_of_ble_eq_true rfl) ?_; (case hc_124_10 => exact cw_cell (f := 11) hC rfl rfl m11); (case hk_124_10 => rfl)
  rintro _ h124 ⟨hC, s124, rfl⟩
  refine mm_goto (pc := 127) (tgt := 142) dX11_act_127 (by decide) ?_
  refine mm_iload (pc := 142) dX11_act_142 rfl ?_
  refine mm_iret (pc := 144) dX11_act_144 rfl ?_
  exact ⟨rfl, hC, by rw [s124, s121]⟩

/-- what an act leaves -/
def acP (ad : Nat → Nat → Nat) (h0 : mm_H) (C : cw_C) (h : mm_H) (ab : Nat → Option Nat) (nk K ne a : Nat) (B : rB_T) (x : Int32) (F : Int32 × Int32 × mw_S) (r : Option Value) (h1 : mm_H) : Prop := ∃ C' T, r = some (.int (wy F.1)) ∧ T ≤ 400 ∧ rX ad C' F.2.2 ab nk a K B T ∧ rF a C C' ∧ (cI C' 8 0 0 = if F.1 = 1 ∨ F.1 = 2 then F.2.1 else 0) ∧ ((F.1 = 0 ∧ cw (cw_ad ad C' 3 h.2.1) h0 (etC ad C' ne (acI x (cI C' 8 0 4) (cI C' 8 0 5) (cI C' 8 0 6)) (chR (ad 9 a)) h.2.1) h1 ∧ h1.2 = (h.2.1 + 1, h.2.2 + 7)) ∨ (¬ F.1 = 0 ∧ cw ad h0 (cw_sI (cw_sI C' 9 a 3 (cI C 9 a 3)) 9 a 4 (cI C 9 a 4)) h1 ∧ h1.2 = h.2))

theorem ac_yes {G : mm_G} {L : Nat × Nat} {d : Nat} {h : mm_H} {h0 : mm_H} {ad : Nat → Nat → Nat} {C : cw_C} {M : mw_S} {ab : Nat → Option Nat} {nk np : Nat} {x : Int32} {a : Nat} (hG : rlG ad C M ab nk np) {na : Nat} (hv : vsR ad C M nk na) {ne nA e : Nat} {oK oQ : Nat → Nat} {K : Nat} {B : rB_T} {M0 : mw_S} (ha : a < na) (h0k : 0 < nk) (a0 : ¬ x < 0) (a1 : x ≤ 999) (he : enR ad C M na ne) (h3N : cN C 3 = ne) (hn : ne < 512) (t6 : cR C 11 0 6 = some (ad 8 0)) (n8 : 0 < cN C 8) (H : rHy ad ab nk nA oK oQ a K B 0 400 M0 (cw_sI (bgC C (ad 9 a) x) 8 0 13 1) 0 0 0) (h0K : Ae ab K 0) (hH : rn_H M0) (hF : (fl0 ab (rnH ab M0 0)).1 = 0 ∨ (fl0 ab (rnH ab M0 0)).1 = 1 ∨ (fl0 ab (rnH ab M0 0)).1 = 2 ∨ (fl0 ab (rnH ab M0 0)).1 = 3) (hd : 201 ≤ d) (hL1 : h.2.1 + 1 ≤ L.1) (hL2 : h.2.2 + 7 ≤ L.2) (hC : cw ad h0 C h) : mm_Ok G mX11_act L (d + 2) [.ref (ad 11 0), .int (nI a), .int x] h (fun r h1 => acP ad h0 C h ab nk K ne a B x (fl0 ab (rnH ab M0 0)) r h1) := by
  refine mm_Ok.of [(0, .ref (ad 11 0)), (1, .int (nI a)), (2, .int x)] rfl kX11_act.2.2.2.2.2 rfl (fun A => ?_)
  obtain ⟨hR, hE, ⟨n11, n13⟩, f3, f9, s3, s19⟩ := id hG
  have n7 := hR.1.1
  have hk40 := hR.2.1.1
  obtain ⟨⟨n17, n3⟩, hn512, z7, z8, s54, hN⟩ := id he
  have ni : a < cN C 9 := by have := hv.1.2.2; omega
  refine mm_aload_n (pc := 0) dX11_act_0 rfl (by first | trivial | assumption | exact mm_isr_rf _) ?_
  refine mm_iload_n (pc := 1) dX11_act_1 rfl ?_
  refine mm_callV (pc := 2) (As := [_]) (kd := ?kd_2_11) (fs := ?fs_2_11) dX11_act_2 vl_X11_200 (va_in (i := a) hv ha hC) ?hc_2_11 ?hk_2_11 rfl rfl (Nat.le_of_ble_eq_true rfl) ?_; (case hc_2_11 => exact cw_cell (f := 11) hC rfl rfl n11); (case hk_2_11 => rfl)
  rintro _ h2 ⟨rfl, rfl⟩
  refine mm_astore_n (pc := 5) dX11_act_5 (by first | trivial | assumption | exact mm_isr_rf _) rfl (Nat.le_of_ble_eq_true rfl) ?_
  refine mm_aload_n (pc := 6) dX11_act_6 rfl (by first | trivial | assumption | exact mm_isr_rf _) ?_
  refine cw_grS (pc := 7) 11 _ 3 hC (rfl) rfl (n11) dX11_act_7 fl_X11_23 rfl rfl rfl (f3) ?_
  refine mm_iconst (pc := 10) (v := 0) dX11_act_10 (by decide) ?_
  refine mm_callV (pc := 11) (As := [_]) (kd := ?kd_11_12) (fs := ?fs_11_12) dX11_act_11 vl_X11_139 (ka_in (k := 0) hR h0k hC) ?hc_11_12 ?hk_11_12 rfl rfl (Nat.le_of_ble_eq_true rfl) ?_; (case hc_11_12 => exact cw_cell (f := 7) hC rfl rfl n7); (case hk_11_12 => rfl)
  rintro _ h_q ⟨rfl, rfl⟩
  refine mm_astore (pc := 14) dX11_act_14 (by first | trivial | assumption | exact mm_isr_rf _) rfl (Nat.le_of_ble_eq_true rfl) ?_
  refine mm_aload_n (pc := 16) dX11_act_16 rfl (by first | trivial | assumption | exact mm_isr_rf _) ?_
  refine mm_ifnull (pc := 17) (tgt := 36) dX11_act_17 (by decide) (by first | trivial | assumption | exact mm_isr_rf _) (fun c17 => by cases c17) (fun a17 c17 => ?_)
  refine mm_aload (pc := 20) dX11_act_20 rfl (by first | trivial | assumption | exact mm_isr_rf _) ?_
  refine mm_ifnull (pc := 22) (tgt := 36) dX11_act_22 (by decide) (by first | trivial | assumption | exact mm_isr_rf _) (fun c22 => by cases c22) (fun a22 c22 => ?_)
  refine mm_iload_n (pc := 25) dX11_act_25 rfl ?_
  refine mm_if_lt (pc := 26) (tgt := 36) dX11_act_26 (by decide) (fun c26 => absurd c26 a0) (fun c26 => ?_)
  refine mm_iload_n (pc := 29) dX11_act_29 rfl ?_
  refine mm_sipush (pc := 30) (v := 999) dX11_act_30 (by decide) ?_
  refine mm_icmp_le (pc := 33) (tgt := 42) dX11_act_33 (by decide) (fun c33 => ?_) (fun c33 => absurd a1 c33)
  refine mm_aload_n (pc := 42) dX11_act_42 rfl (by first | trivial | assumption | exact mm_isr_rf _) ?_
  refine cw_gi (pc := 43) 11 _ 8 hC (rfl) rfl (n11) dX11_act_43 fl_X11_49 rfl rfl rfl ?_
  refine mm_topi _ z8 ?_
  refine mm_aload_n (pc := 46) dX11_act_46 rfl (by first | trivial | assumption | exact mm_isr_rf _) ?_
  refine cw_grS (pc := 47) 11 _ 7 hC (rfl) rfl (n11) dX11_act_47 fl_X11_45 rfl rfl rfl (z7) ?_
  refine cw_alen (pc := 50) 17 _ hC (rfl) rfl (n17) dX11_act_50 rfl rfl ?_
  refine mm_icmp_lt (pc := 51) (tgt := 61) dX11_act_51 (by decide) (fun c51 => ?_) (fun c51 => absurd (nI_lt (b := 512) hn (by decide)) c51)
  refine mm_aload_n (pc := 61) dX11_act_61 rfl (by first | trivial | assumption | exact mm_isr_rf _) ?_
  refine cw_gi (pc := 62) 9 a 3 hC (rfl) rfl (ni) dX11_act_62 fl_X11_208 rfl rfl rfl ?_
  refine mm_istore (pc := 65) dX11_act_65 rfl (Nat.le_of_ble_eq_true rfl) ?_
  refine mm_aload_n (pc := 67) dX11_act_67 rfl (by first | trivial | assumption | exact mm_isr_rf _) ?_
  refine cw_gi (pc := 68) 9 a 4 hC (rfl) rfl (ni) dX11_act_68 fl_X11_211 rfl rfl rfl ?_
  refine mm_istore (pc := 71) dX11_act_71 rfl (Nat.le_of_ble_eq_true rfl) ?_
  refine mm_aload_n (pc := 73) dX11_act_73 rfl (by first | trivial | assumption | exact mm_isr_rf _) ?_
  refine cw_grS (pc := 74) 11 _ 6 hC (rfl) rfl (n11) dX11_act_74 fl_X11_39 rfl rfl rfl (t6) ?_
  refine mm_aload (pc := 77) dX11_act_77 rfl (by first | trivial | assumption | exact mm_isr_rf _) ?_
  refine mm_aload_n (pc := 79) dX11_act_79 rfl (by first | trivial | assumption | exact mm_isr_rf _) ?_
  refine mm_iload_n (pc := 80) dX11_act_80 rfl ?_
  refine mm_callV (pc := 81) (As := [_, _, _]) (kd := ?kd_81_13) (fs := ?fs_81_13) dX11_act_81 vl_X11_224 (fo_ok n8 H h0K hH (by omega) hC) ?hc_81_13 ?hk_81_13 rfl rfl (Nat.le_of_ble_eq_true rfl) ?_; (case hc_81_13 => exact cw_cell (f := 8) hC rfl rfl n8); (case hk_81_13 => rfl)
  rintro _ h81 ⟨C5, T5, hC5, s5, rfl, w2, x5, f5, z5⟩
  have hC := hC5
  have m9 : a < cN C5 9 := x5.n9
  refine mm_istore (pc := 84) dX11_act_84 rfl (Nat.le_of_ble_eq_true rfl) ?_
  refine mm_iload (pc := 86) dX11_act_86 rfl ?_
  refine mm_if_ne (pc := 88) (tgt := 130) dX11_act_88 (by decide) (fun c88 => ?_) (fun c88 => ?_)
  · refine mm_aload_n (pc := 130) dX11_act_130 rfl (by first | trivial | assumption | exact mm_isr_rf _) ?_
    refine mm_iload (pc := 131) dX11_act_131 rfl ?_
    refine cw_pi (pc := 133) 9 a 3 hC (rfl) rfl (m9) dX11_act_133 (pl_X11_208 _) rfl rfl (rfl) (rfl) (fun h133 hC e133 => ?_)
    refine mm_aload_n (pc := 136) dX11_act_136 rfl (by first | trivial | assumption | exact mm_isr_rf _) ?_
    refine mm_iload (pc := 137) dX11_act_137 rfl ?_
    refine cw_pi (pc := 139) 9 a 4 hC (rfl) rfl ((by rw [cw_sI_N]; exact m9)) dX11_act_139 (pl_X11_211 _) rfl rfl (rfl) (rfl) (fun h139 hC e139 => ?_)
    refine mm_iload (pc := 142) dX11_act_142 rfl ?_
    refine mm_iret (pc := 144) dX11_act_144 rfl ?_
    exact ⟨C5, T5, rfl, w2, x5, f5, z5, Or.inr ⟨fun z => c88 (by rw [z]; rfl), hC, by rw [e139, e133, s5]⟩⟩
  · have e0 := (wy_2 hF).2.1.mp c88
    rw [show wy (fl0 ab (rnH ab M0 0)).1 = 0 from c88]
    refine mm_post (fun r_ h_ z_ => ?_) (mm_weakK (ac_91 (d := d) (C := C5) (ne := ne) (x := x) (by rw [f5.N rfl]; exact h3N) hn (by rw [f5.N rfl]; exact n11) (by rw [f5.N rfl]; exact n17) m9 x5.n8 (by rw [nD_R f5.1 rfl]; exact z7) (by rw [nD_I f5.1 rfl]; exact z8) (by rw [nD_R f5.1 rfl]; exact t6) (by rw [s5]; exact hL1) (by rw [s5]; exact hL2) hC) (And.intro rfl (And.intro rfl (And.intro rfl (And.intro rfl trivial)))))
    obtain ⟨y1, y2, y3⟩ := z_
    rw [s5] at y2 y3
    rw [show cw_ad ad C5 3 h_q.2.1 9 a = ad 9 a from cw_ad_o m9] at y2
    exact ⟨C5, T5, by rw [y1, e0]; rfl, w2, x5, f5, z5, Or.inl ⟨e0, y2, y3⟩⟩

