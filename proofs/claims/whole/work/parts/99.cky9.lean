theorem pa_in {G : mm_G} {L : Nat × Nat} {d : Nat} {h : mm_H} {h0 : mm_H} {ad : Nat → Nat → Nat} {C : cw_C} {M : mw_S} {nk np : Nat} {p : Nat} (hR : rgR ad C M nk np) (hp : p < np) (hC : cw ad h0 C h) : mm_Ok G mX7_packAt L (d) [.ref (ad 7 0), .int (nI p)] h (fun r h1 => h1 = h ∧ r = some (.ref (ad 5 p))) := by
  refine mm_Ok.of [(0, .ref (ad 7 0)), (1, .int (nI p))] rfl kX7_packAt.2.2.2.2.2 rfl (fun A => ?_)
  obtain ⟨⟨n7, n18, n19, h4, h5⟩, ⟨hk40, hp12⟩, r0, r1, r2, r3, r4, hK, hP⟩ := hR
  refine mm_iload_n (pc := 0) dX7_packAt_0 rfl ?_
  refine mm_if_lt (pc := 1) (tgt := 30) dX7_packAt_1 (by decide) (fun c1 => absurd c1 (nI_pos (by omega))) (fun c1 => ?_)
  refine mm_iload_n (pc := 4) dX7_packAt_4 rfl ?_
  refine mm_aload_n (pc := 5) dX7_packAt_5 rfl (by first | trivial | assumption | exact mm_isr_rf _) ?_
  refine cw_gi (pc := 6) 7 _ 3 hC (rfl) rfl (n7) dX7_packAt_6 fl_X7_27 rfl rfl rfl ?_
  refine mm_topi _ r3 ?_
  refine mm_icmp_ge (pc := 9) (tgt := 30) dX7_packAt_9 (by decide) (fun c9 => absurd c9 (nI_ge hp (by omega))) (fun c9 => ?_)
  refine mm_iload_n (pc := 12) dX7_packAt_12 rfl ?_
  refine mm_aload_n (pc := 13) dX7_packAt_13 rfl (by first | trivial | assumption | exact mm_isr_rf _) ?_
  refine cw_grS (pc := 14) 7 _ 2 hC (rfl) rfl (n7) dX7_packAt_14 fl_X7_23 rfl rfl rfl (r2) ?_
  refine cw_alen (pc := 17) 19 _ hC (rfl) rfl (n19) dX7_packAt_17 rfl rfl ?_
  refine mm_icmp_ge (pc := 18) (tgt := 30) dX7_packAt_18 (by decide) (fun c18 => absurd c18 (nI_ge (b := (12 : Nat)) (by omega) (by decide))) (fun c18 => ?_)
  refine mm_aload_n (pc := 21) dX7_packAt_21 rfl (by first | trivial | assumption | exact mm_isr_rf _) ?_
  refine cw_grS (pc := 22) 7 _ 2 hC (rfl) rfl (n7) dX7_packAt_22 fl_X7_23 rfl rfl rfl (r2) ?_
  refine mm_iload_n (pc := 25) dX7_packAt_25 rfl ?_
  refine cw_aald (pc := 26) (v := (.ref (ad 5 p))) 19 0 p hC (rfl) rfl (n19) dX7_packAt_26 rfl rfl rfl (by first | with_reducible rfl | assumption | rfl) (by show p < 12; omega) (by omega) rfl (by rw [(hP p hp).1]; rfl) ?_
  refine mm_goto (pc := 27) (tgt := 31) dX7_packAt_27 (by decide) ?_
  refine mm_aret (pc := 31) dX7_packAt_31 rfl (Or.inl ⟨_, rfl⟩) (by first | trivial | assumption | exact mm_isr_rf _) ?_
  exact ⟨rfl, rfl⟩

theorem pa_no {G : mm_G} {L : Nat × Nat} {d : Nat} {h : mm_H} {h0 : mm_H} {ad : Nat → Nat → Nat} {C : cw_C} {M : mw_S} {nk np : Nat} {i : Int32} (hR : rgR ad C M nk np) (hi : sp_in i (nI np) = 0) (hC : cw ad h0 C h) : mm_Ok G mX7_packAt L (d) [.ref (ad 7 0), .int i] h (fun r h1 => h1 = h ∧ r = some .null) := by
  refine mm_Ok.of [(0, .ref (ad 7 0)), (1, .int i)] rfl kX7_packAt.2.2.2.2.2 rfl (fun A => ?_)
  obtain ⟨⟨n7, n18, n19, h4, h5⟩, ⟨hk40, hp12⟩, r0, r1, r2, r3, r4, hK, hP⟩ := hR
  refine mm_iload_n (pc := 0) dX7_packAt_0 rfl ?_
  refine mm_if_lt (pc := 1) (tgt := 30) dX7_packAt_1 (by decide) (fun c1 => ?_) (fun c1 => ?_)
  · refine mm_null (pc := 30) dX7_packAt_30 ?_
    refine mm_aret (pc := 31) dX7_packAt_31 rfl (Or.inl ⟨_, rfl⟩) (by first | trivial | assumption | exact mm_isr_rf _) ?_
    exact ⟨rfl, rfl⟩
  · refine mm_iload_n (pc := 4) dX7_packAt_4 rfl ?_
    refine mm_aload_n (pc := 5) dX7_packAt_5 rfl (by first | trivial | assumption | exact mm_isr_rf _) ?_
    refine cw_gi (pc := 6) 7 _ 3 hC (rfl) rfl (n7) dX7_packAt_6 fl_X7_27 rfl rfl rfl ?_
    refine mm_topi _ r3 ?_
    refine mm_icmp_ge (pc := 9) (tgt := 30) dX7_packAt_9 (by decide) (fun c9 => ?_) (fun c9 => absurd (by unfold sp_in at hi; rw [if_neg c1] at hi; by_cases z : nI np ≤ i; exact z; rw [if_neg z] at hi; exact absurd hi (by decide)) c9)
    refine mm_null (pc := 30) dX7_packAt_30 ?_
    refine mm_aret (pc := 31) dX7_packAt_31 rfl (Or.inl ⟨_, rfl⟩) (by first | trivial | assumption | exact mm_isr_rf _) ?_
    exact ⟨rfl, rfl⟩

theorem rt_no {G : mm_G} {L : Nat × Nat} {d : Nat} {h : mm_H} {h0 : mm_H} {ad : Nat → Nat → Nat} {C : cw_C} {M : mw_S} {ab : Nat → Option Nat} {nk np : Nat} {i : Int32} (hG : rlG ad C M ab nk np) (hi : sp_in i (nI np) = 0) (hC : cw ad h0 C h) : mm_Ok G mX11_retire L (d + 2) [.ref (ad 11 0), .int i] h (fun r h1 => gP ad h0 C h (-1, 1) r h1) := by
  refine mm_Ok.of [(0, .ref (ad 11 0)), (1, .int i)] rfl kX11_retire.2.2.2.2.2 rfl (fun A => ?_)
  obtain ⟨hR, hE, ⟨n11, n13⟩, f3, f9, s3, s19⟩ := id hG
  have n7 := hR.1.1
  have hk40 := hR.2.1.1
  refine mm_aload_n (pc := 0) dX11_retire_0 rfl (by first | trivial | assumption | exact mm_isr_rf _) ?_
  refine cw_grS (pc := 1) 11 _ 3 hC (rfl) rfl (n11) dX11_retire_1 fl_X11_23 rfl rfl rfl (f3) ?_
  refine mm_iload_n (pc := 4) dX11_retire_4 rfl ?_
  refine mm_callV (pc := 5) (As := [_]) (kd := ?kd_5_1) (fs := ?fs_5_1) dX11_retire_5 vl_X11_129 (pa_no hR hi hC) ?hc_5_1 ?hk_5_1 rfl rfl (Nat.le_of_ble_eq_true rfl) ?_; (case hc_5_1 => exact cw_cell (f := 7) hC rfl rfl n7); (case hk_5_1 => rfl)
  rintro _ _ ⟨rfl, rfl⟩
  refine mm_astore_n (pc := 8) dX11_retire_8 (by first | trivial | assumption | exact mm_isr_rf _) rfl (Nat.le_of_ble_eq_true rfl) ?_
  refine mm_aload_n (pc := 9) dX11_retire_9 rfl (by first | trivial | assumption | exact mm_isr_rf _) ?_
  refine mm_ifnonnull (pc := 10) (tgt := 19) dX11_retire_10 (by decide) (by first | trivial | assumption | exact mm_isr_rf _) (fun a10 c10 => by cases c10) (fun c10 => ?_)
  refine mm_aload_n (pc := 13) dX11_retire_13 rfl (by first | trivial | assumption | exact mm_isr_rf _) ?_
  refine mm_iconst (pc := 14) (v := (-1)) dX11_retire_14 (by decide) ?_
  refine mm_callV (pc := 15) (As := [_]) (kd := ?kd_15_2) (fs := ?fs_15_2) dX11_retire_15 vl_X11_96 (tl_ok (c := 1) n11 n13 f9 rfl (by decide) (by decide) hC) ?hc_15_2 ?hk_15_2 rfl rfl (Nat.le_of_ble_eq_true rfl) ?_; (case hc_15_2 => exact cw_cell (f := 11) hC rfl rfl n11); (case hk_15_2 => rfl)
  rintro _ h15 ⟨hC, e15, rfl⟩
  refine mm_iret (pc := 18) dX11_retire_18 rfl ?_
  exact gP_no hC e15 (by rfl) (by decide)

theorem rt_0 {G : mm_G} {L : Nat × Nat} {d : Nat} {h : mm_H} {h0 : mm_H} {ad : Nat → Nat → Nat} {C : cw_C} {M : mw_S} {ab : Nat → Option Nat} {nk np : Nat} {p : Nat} (hG : rlG ad C M ab nk np) (hp : p < np) (hz : ¬ M.2.2.1 22 p = 0) (hC : cw ad h0 C h) : mm_Ok G mX11_retire L (d + 2) [.ref (ad 11 0), .int (nI p)] h (fun r h1 => gP ad h0 C h (0, 0) r h1) := by
  refine mm_Ok.of [(0, .ref (ad 11 0)), (1, .int (nI p))] rfl kX11_retire.2.2.2.2.2 rfl (fun A => ?_)
  obtain ⟨hR, hE, ⟨n11, n13⟩, f3, f9, s3, s19⟩ := id hG
  have n7 := hR.1.1
  have hk40 := hR.2.1.1
  have n5 : p < cN C 5 := by have := hR.1.2.2.2.2; omega
  have e22 : cI C 5 p 5 = M.2.2.1 22 p := (hR.2.2.2.2.2.2.2.2 p hp).2.2.2
  refine mm_aload_n (pc := 0) dX11_retire_0 rfl (by first | trivial | assumption | exact mm_isr_rf _) ?_
  refine cw_grS (pc := 1) 11 _ 3 hC (rfl) rfl (n11) dX11_retire_1 fl_X11_23 rfl rfl rfl (f3) ?_
  refine mm_iload_n (pc := 4) dX11_retire_4 rfl ?_
  refine mm_callV (pc := 5) (As := [_]) (kd := ?kd_5_3) (fs := ?fs_5_3) dX11_retire_5 vl_X11_129 (pa_in (p := p) hR hp hC) ?hc_5_3 ?hk_5_3 rfl rfl (Nat.le_of_ble_eq_true rfl) ?_; (case hc_5_3 => exact cw_cell (f := 7) hC rfl rfl n7); (case hk_5_3 => rfl)
  rintro _ _ ⟨rfl, rfl⟩
  refine mm_astore_n (pc := 8) dX11_retire_8 (by first | trivial | assumption | exact mm_isr_rf _) rfl (Nat.le_of_ble_eq_true rfl) ?_
  refine mm_aload_n (pc := 9) dX11_retire_9 rfl (by first | trivial | assumption | exact mm_isr_rf _) ?_
  refine mm_ifnonnull (pc := 10) (tgt := 19) dX11_retire_10 (by decide) (by first | trivial | assumption | exact mm_isr_rf _) (fun a10 c10 => ?_) (fun c10 => by cases c10)
  refine mm_aload_n (pc := 19) dX11_retire_19 rfl (by first | trivial | assumption | exact mm_isr_rf _) ?_
  refine cw_gi (pc := 20) 5 p 5 hC (rfl) rfl (n5) dX11_retire_20 fl_X11_133 rfl rfl rfl ?_
  refine mm_topi _ e22 ?_
  refine mm_if_eq (pc := 23) (tgt := 28) dX11_retire_23 (by decide) (fun c23 => absurd c23 hz) (fun c23 => ?_)
  refine mm_iconst (pc := 26) (v := 0) dX11_retire_26 (by decide) ?_
  refine mm_iret (pc := 27) dX11_retire_27 rfl ?_
  exact gP_ok hC rfl

theorem rt_1 {G : mm_G} {L : Nat × Nat} {d : Nat} {h : mm_H} {h0 : mm_H} {ad : Nat → Nat → Nat} {C : cw_C} {M : mw_S} {ab : Nat → Option Nat} {nk np : Nat} {p : Nat} (hG : rlG ad C M ab nk np) (hp : p < np) (hz : M.2.2.1 22 p = 0) (hC : cw ad h0 C h) : mm_Ok G mX11_retire L (d + 2) [.ref (ad 11 0), .int (nI p)] h (fun r h1 => r = some (.int 1) ∧ cw ad h0 (cw_sI C 5 p 5 1) h1 ∧ h1.2 = h.2) := by
  refine mm_Ok.of [(0, .ref (ad 11 0)), (1, .int (nI p))] rfl kX11_retire.2.2.2.2.2 rfl (fun A => ?_)
  obtain ⟨hR, hE, ⟨n11, n13⟩, f3, f9, s3, s19⟩ := id hG
  have n7 := hR.1.1
  have hk40 := hR.2.1.1
  have n5 : p < cN C 5 := by have := hR.1.2.2.2.2; omega
  have e22 : cI C 5 p 5 = M.2.2.1 22 p := (hR.2.2.2.2.2.2.2.2 p hp).2.2.2
  refine mm_aload_n (pc := 0) dX11_retire_0 rfl (by first | trivial | assumption | exact mm_isr_rf _) ?_
  refine cw_grS (pc := 1) 11 _ 3 hC (rfl) rfl (n11) dX11_retire_1 fl_X11_23 rfl rfl rfl (f3) ?_
  refine mm_iload_n (pc := 4) dX11_retire_4 rfl ?_
  refine mm_callV (pc := 5) (As := [_]) (kd := ?kd_5_4) (fs := ?fs_5_4) dX11_retire_5 vl_X11_129 (pa_in (p := p) hR hp hC) ?hc_5_4 ?hk_5_4 rfl rfl (Nat.le_of_ble_eq_true rfl) ?_; (case hc_5_4 => exact cw_cell (f := 7) hC rfl rfl n7); (case hk_5_4 => rfl)
  rintro _ _ ⟨rfl, rfl⟩
  refine mm_astore_n (pc := 8) dX11_retire_8 (by first | trivial | assumption | exact mm_isr_rf _) rfl (Nat.le_of_ble_eq_true rfl) ?_
  refine mm_aload_n (pc := 9) dX11_retire_9 rfl (by first | trivial | assumption | exact mm_isr_rf _) ?_
  refine mm_ifnonnull (pc := 10) (tgt := 19) dX11_retire_10 (by decide) (by first | trivial | assumption | exact mm_isr_rf _) (fun a10 c10 => ?_) (fun c10 => by cases c10)
  refine mm_aload_n (pc := 19) dX11_retire_19 rfl (by first | trivial | assumption | exact mm_isr_rf _) ?_
  refine cw_gi (pc := 20) 5 p 5 hC (rfl) rfl (n5) dX11_retire_20 fl_X11_133 rfl rfl rfl ?_
  refine mm_topi _ e22 ?_
  refine mm_if_eq (pc := 23) (tgt := 28) dX11_retire_23 (by decide) (fun c23 => ?_) (fun c23 => absurd hz c23)
  refine mm_aload_n (pc := 28) dX11_retire_28 rfl (by first | trivial | assumption | exact mm_isr_rf _) ?_
  refine mm_iconst (pc := 29) (v := 1) dX11_retire_29 (by decide) ?_
  refine cw_pi (pc := 30) 5 p 5 hC (rfl) rfl (n5) dX11_retire_30 (pl_X11_133 _) rfl rfl (rfl) (rfl) (fun h30 hC e30 => ?_)
  refine mm_iconst (pc := 33) (v := 1) dX11_retire_33 (by decide) ?_
  refine mm_iret (pc := 34) dX11_retire_34 rfl ?_
  exact ⟨rfl, hC, by rw [e30]⟩

