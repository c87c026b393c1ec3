theorem sd_ok {G : mm_G} {L : Nat × Nat} {d : Nat} {h : mm_H} {h0 : mm_H} {ad : Nat → Nat → Nat} {C : cw_C} {M : mw_S} {ab : Nat → Option Nat} {nk np : Nat} {nb nt : Nat} {i : Int32} (hG : rlG ad C M ab nk np) (hr : rnR ad C M nb nt) (hC : cw ad h0 C h) : mm_Ok G mX11_said L (d + 2) [.ref (ad 11 0), .int i] h (fun r h1 => gP ad h0 C h (sp_said M i) r h1) := by
  by_cases hi : sp_in i (nI nt) = 0
  · exact sd_no hG hr hi hC
  · obtain ⟨k, hk, rfl⟩ := sp_in_of hi rfl (by have := hr.2.1.2; omega)
    exact sd_in hG hr hk hC

theorem ra_no {G : mm_G} {L : Nat × Nat} {d : Nat} {h : mm_H} {h0 : mm_H} {ad : Nat → Nat → Nat} {C : cw_C} {M : mw_S} {ab : Nat → Option Nat} {nk np : Nat} {i w : Int32} (hG : rlG ad C M ab nk np) {nb nt : Nat} (hr : rnR ad C M nb nt) (hi : sp_in i (nI nb) = 0) (hC : cw ad h0 C h) : mm_Ok G mX11_ran L (d + 2) [.ref (ad 11 0), .int i, .int w] h (fun r h1 => gP ad h0 C h (sp_ran M i w) r h1) := by
  refine mm_Ok.of [(0, .ref (ad 11 0)), (1, .int i), (2, .int w)] rfl kX11_ran.2.2.2.2.2 rfl (fun A => ?_)
  obtain ⟨hR, hE, ⟨n11, n13⟩, f3, f9, s3, s19⟩ := id hG
  have n7 := hR.1.1
  have hk40 := hR.2.1.1
  obtain ⟨⟨n8, n14, n15⟩, ⟨nb4, nt4⟩, q6, ⟨t0, t1, t2, t3⟩, ⟨s68, s72⟩, ⟨y7, y8, y9, y10⟩, hB, hT⟩ := id hr
  have m0 : 0 < cN C 14 := by omega
  have m1 : 1 < cN C 14 := by omega
  have m2 : 2 < cN C 14 := by omega
  refine mm_iload_n (pc := 0) dX11_ran_0 rfl ?_
  refine mm_if_lt (pc := 1) (tgt := 27) dX11_ran_1 (by decide) (fun c1 => ?_) (fun c1 => ?_)
  · refine mm_aload_n (pc := 27) dX11_ran_27 rfl (by first | trivial | assumption | exact mm_isr_rf _) ?_
    refine mm_iconst (pc := 28) (v := (-1)) dX11_ran_28 (by decide) ?_
    refine mm_callV (pc := 29) (As := [_]) (kd := ?kd_29_1) (fs := ?fs_29_1) dX11_ran_29 vl_X11_96 (tl_ok (c := 1) n11 n13 f9 rfl (by decide) (by decide) hC) ?hc_29_1 ?hk_29_1 rfl rfl (Nat.le_of_ble_eq_true rfl) ?_; (case hc_29_1 => exact cw_cell (f := 11) hC rfl rfl n11); (case hk_29_1 => rfl)
    rintro _ h29 ⟨hC, e29, rfl⟩
    refine mm_iret (pc := 32) dX11_ran_32 rfl ?_
    exact gP_no hC e29 (by unfold sp_ran; first | (rw [if_pos c1]; rfl) | (rw [if_neg c1, s68, if_pos c12]; rfl)) (by decide)
  · refine mm_iload_n (pc := 4) dX11_ran_4 rfl ?_
    refine mm_aload_n (pc := 5) dX11_ran_5 rfl (by first | trivial | assumption | exact mm_isr_rf _) ?_
    refine cw_grS (pc := 6) 11 _ 6 hC (rfl) rfl (n11) dX11_ran_6 fl_X11_39 rfl rfl rfl (q6) ?_
    refine cw_gi (pc := 9) 8 _ 1 hC (rfl) rfl (n8) dX11_ran_9 fl_X11_238 rfl rfl rfl ?_
    refine mm_topi _ (t1.trans s68) ?_
    refine mm_icmp_ge (pc := 12) (tgt := 27) dX11_ran_12 (by decide) (fun c12 => ?_) (fun c12 => absurd (by unfold sp_in at hi; rw [if_neg c1] at hi; by_cases z : nI nb ≤ i; exact z; rw [if_neg z] at hi; exact absurd hi (by decide)) c12)
    refine mm_aload_n (pc := 27) dX11_ran_27 rfl (by first | trivial | assumption | exact mm_isr_rf _) ?_
    refine mm_iconst (pc := 28) (v := (-1)) dX11_ran_28 (by decide) ?_
    refine mm_callV (pc := 29) (As := [_]) (kd := ?kd_29_2) (fs := ?fs_29_2) dX11_ran_29 vl_X11_96 (tl_ok (c := 1) n11 n13 f9 rfl (by decide) (by decide) hC) ?hc_29_2 ?hk_29_2 rfl rfl (Nat.le_of_ble_eq_true rfl) ?_; (case hc_29_2 => exact cw_cell (f := 11) hC rfl rfl n11); (case hk_29_2 => rfl)
    rintro _ h29 ⟨hC, e29, rfl⟩
    refine mm_iret (pc := 32) dX11_ran_32 rfl ?_
    exact gP_no hC e29 (by unfold sp_ran; first | (rw [if_pos c1]; rfl) | (rw [if_neg c1, s68, if_pos c12]; rfl)) (by decide)

theorem ra_in {G : mm_G} {L : Nat × Nat} {d : Nat} {h : mm_H} {h0 : mm_H} {ad : Nat → Nat → Nat} {C : cw_C} {M : mw_S} {ab : Nat → Option Nat} {nk np : Nat} {w : Int32} {i : Nat} (hG : rlG ad C M ab nk np) {nb nt : Nat} (hr : rnR ad C M nb nt) (hi : i < nb) (hC : cw ad h0 C h) : mm_Ok G mX11_ran L (d + 2) [.ref (ad 11 0), .int (nI i), .int w] h (fun r h1 => gP ad h0 C h (sp_ran M (nI i) w) r h1) := by
  refine mm_Ok.of [(0, .ref (ad 11 0)), (1, .int (nI i)), (2, .int w)] rfl kX11_ran.2.2.2.2.2 rfl (fun A => ?_)
  obtain ⟨hR, hE, ⟨n11, n13⟩, f3, f9, s3, s19⟩ := id hG
  have n7 := hR.1.1
  have hk40 := hR.2.1.1
  obtain ⟨⟨n8, n14, n15⟩, ⟨nb4, nt4⟩, q6, ⟨t0, t1, t2, t3⟩, ⟨s68, s72⟩, ⟨y7, y8, y9, y10⟩, hB, hT⟩ := id hr
  have m0 : 0 < cN C 14 := by omega
  have m1 : 1 < cN C 14 := by omega
  have m2 : 2 < cN C 14 := by omega
  refine mm_iload_n (pc := 0) dX11_ran_0 rfl ?_
  refine mm_if_lt (pc := 1) (tgt := 27) dX11_ran_1 (by decide) (fun c1 => absurd c1 (nI_pos (by omega))) (fun c1 => ?_)
  refine mm_iload_n (pc := 4) dX11_ran_4 rfl ?_
  refine mm_aload_n (pc := 5) dX11_ran_5 rfl (by first | trivial | assumption | exact mm_isr_rf _) ?_
  refine cw_grS (pc := 6) 11 _ 6 hC (rfl) rfl (n11) dX11_ran_6 fl_X11_39 rfl rfl rfl (q6) ?_
  refine cw_gi (pc := 9) 8 _ 1 hC (rfl) rfl (n8) dX11_ran_9 fl_X11_238 rfl rfl rfl ?_
  refine mm_topi _ (t1.trans s68) ?_
  refine mm_icmp_ge (pc := 12) (tgt := 27) dX11_ran_12 (by decide) (fun c12 => absurd c12 (nI_ge hi (by omega))) (fun c12 => ?_)
  refine mm_iload_n (pc := 15) dX11_ran_15 rfl ?_
  refine mm_aload_n (pc := 16) dX11_ran_16 rfl (by first | trivial | assumption | exact mm_isr_rf _) ?_
  refine cw_grS (pc := 17) 11 _ 6 hC (rfl) rfl (n11) dX11_ran_17 fl_X11_39 rfl rfl rfl (q6) ?_
  refine cw_grS (pc := 20) 8 _ 7 hC (rfl) rfl (n8) dX11_ran_20 fl_X11_247 rfl rfl rfl (y7) ?_
  refine cw_alen (pc := 23) 14 0 hC (rfl) rfl (m0) dX11_ran_23 rfl rfl ?_
  refine mm_icmp_lt (pc := 24) (tgt := 33) dX11_ran_24 (by decide) (fun c24 => ?_) (fun c24 => absurd (nI_lt (b := 406) (by omega) (by decide)) c24)
  refine mm_iload_n (pc := 33) dX11_ran_33 rfl ?_
  refine mm_sw (pc := 34) [60, 70, 80] 90 dX11_ran_34 (by decide) (by decide) (by decide) (fun i_ t_ ht_ hx_ => ?_) (fun c34 => ?_)
  · match i_, ht_ with
    | 0, ht_ =>
      cases ht_
      have c34 := mm_swe (v := 0) hx_ (by decide)
      refine mm_aload_n (pc := 60) dX11_ran_60 rfl (by first | trivial | assumption | exact mm_isr_rf _) ?_
      refine cw_grS (pc := 61) 11 _ 6 hC (rfl) rfl (n11) dX11_ran_61 fl_X11_39 rfl rfl rfl (q6) ?_
      refine cw_grS (pc := 64) 8 _ 7 hC (rfl) rfl (n8) dX11_ran_64 fl_X11_247 rfl rfl rfl (y7) ?_
      refine mm_iload_n (pc := 67) dX11_ran_67 rfl ?_
      refine cw_iald (pc := 68) 14 0 i hC (rfl) rfl (m0) dX11_ran_68 rfl (by first | with_reducible rfl | assumption | rfl) (by show i < 406; omega) (by omega) rfl ?_
      refine mm_iret (pc := 69) dX11_ran_69 rfl ?_
      subst c34
      exact gP_ok hC (by unfold sp_ran; rw [if_neg c1, s68, if_neg c12, if_neg (by decide), if_pos (by decide), nI_clamp (by omega), if_pos rfl, (hB i hi).1])
    | 1, ht_ =>
      cases ht_
      have c34 := mm_swe (v := 1) hx_ (by decide)
      refine mm_aload_n (pc := 70) dX11_ran_70 rfl (by first | trivial | assumption | exact mm_isr_rf _) ?_
      refine cw_grS (pc := 71) 11 _ 6 hC (rfl) rfl (n11) dX11_ran_71 fl_X11_39 rfl rfl rfl (q6) ?_
      refine cw_grS (pc := 74) 8 _ 8 hC (rfl) rfl (n8) dX11_ran_74 fl_X11_250 rfl rfl rfl (y8) ?_
      refine mm_iload_n (pc := 77) dX11_ran_77 rfl ?_
      refine cw_iald (pc := 78) 14 1 i hC (rfl) rfl (m1) dX11_ran_78 rfl (by first | with_reducible rfl | assumption | rfl) (by show i < 406; omega) (by omega) rfl ?_
      refine mm_iret (pc := 79) dX11_ran_79 rfl ?_
      subst c34
      exact gP_ok hC (by unfold sp_ran; rw [if_neg c1, s68, if_neg c12, if_neg (by decide), if_pos (by decide), nI_clamp (by omega), if_neg (by decide), if_pos rfl, (hB i hi).2.1])
    | 2, ht_ =>
      cases ht_
      have c34 := mm_swe (v := 2) hx_ (by decide)
      refine mm_aload_n (pc := 80) dX11_ran_80 rfl (by first | trivial | assumption | exact mm_isr_rf _) ?_
      refine cw_grS (pc := 81) 11 _ 6 hC (rfl) rfl (n11) dX11_ran_81 fl_X11_39 rfl rfl rfl (q6) ?_
      refine cw_grS (pc := 84) 8 _ 9 hC (rfl) rfl (n8) dX11_ran_84 fl_X11_253 rfl rfl rfl (y9) ?_
      refine mm_iload_n (pc := 87) dX11_ran_87 rfl ?_
      refine cw_iald (pc := 88) 14 2 i hC (rfl) rfl (m2) dX11_ran_88 rfl (by first | with_reducible rfl | assumption | rfl) (by show i < 406; omega) (by omega) rfl ?_
      refine mm_iret (pc := 89) dX11_ran_89 rfl ?_
      subst c34
      exact gP_ok hC (by unfold sp_ran; rw [if_neg c1, s68, if_neg c12, if_neg (by decide), if_pos (by decide), nI_clamp (by omega), if_neg (by decide), if_neg (by decide), (hB i hi).2.2])
    | n_ + 3, ht_ => cases ht_
  · refine mm_aload_n (pc := 90) dX11_ran_90 rfl (by first | trivial | assumption | exact mm_isr_rf _) ?_
    refine mm_iconst (pc := 91) (v := (-1)) dX11_ran_91 (by decide) ?_
    refine mm_callV (pc := 92) (As := [_]) (kd := ?kd_92_3) (fs := ?fs_92_3) dX11_ran_92 vl_X11_96 (tl_ok (c := 1) n11 n13 f9 rfl (by decide) (by decide) hC) ?hc_92_3 ?hk_92_3 rfl rfl (Nat.le_of_ble_eq_true rfl) ?_; (case hc_92_3 => exact cw_cell (f := 11) hC rfl rfl n11); (case hk_92_3 => rfl)
    rintro _ h92 ⟨hC, e92, rfl⟩
    refine mm_iret (pc := 95) dX11_ran_95 rfl ?_
    have hw0 : ¬ w < 0 → ¬ w ≤ 2 := sw_out (m := 2) (by decide) c34
    exact gP_no hC e92 (by unfold sp_ran; rw [if_neg c1, s68, if_neg c12]; by_cases z : w < 0; (rw [if_pos z]; rfl); (rw [if_neg z, if_neg (hw0 z)]; rfl)) (by decide)

theorem ran_ok {G : mm_G} {L : Nat × Nat} {d : Nat} {h : mm_H} {h0 : mm_H} {ad : Nat → Nat → Nat} {C : cw_C} {M : mw_S} {ab : Nat → Option Nat} {nk np : Nat} {nb nt : Nat} {i w : Int32} (hG : rlG ad C M ab nk np) (hr : rnR ad C M nb nt) (hC : cw ad h0 C h) : mm_Ok G mX11_ran L (d + 2) [.ref (ad 11 0), .int i, .int w] h (fun r h1 => gP ad h0 C h (sp_ran M i w) r h1) := by
  by_cases hi : sp_in i (nI nb) = 0
  · exact ra_no hG hr hi hC
  · obtain ⟨k, hk, rfl⟩ := sp_in_of hi rfl (by have := hr.2.1.1; omega)
    exact ra_in hG hr hk hC

/-- the records -/
def enR (ad : Nat → Nat → Nat) (C : cw_C) (M : mw_S) (na ne : Nat) : Prop := (0 < cN C 17 ∧ ne ≤ cN C 3) ∧ ne ≤ 512 ∧ cR C 11 0 7 = some (ad 17 0) ∧ cI C 11 0 8 = nI ne ∧ M.1 54 = nI ne ∧ ∀ i, i < ne → cR C 17 0 i = some (ad 3 i) ∧ cI C 3 i 0 = M.2.2.1 55 i ∧ (∃ v, v < na ∧ M.2.2.1 56 i = nI v ∧ cR C 3 i 1 = some (ad 9 v)) ∧ cI C 3 i 3 = M.2.2.1 57 i

theorem rc_no {G : mm_G} {L : Nat × Nat} {d : Nat} {h : mm_H} {h0 : mm_H} {ad : Nat → Nat → Nat} {C : cw_C} {M : mw_S} {ab : Nat → Option Nat} {nk np : Nat} {i w : Int32} (hG : rlG ad C M ab nk np) {na : Nat} (hv : vsR ad C M nk na) {ne : Nat} (he : enR ad C M na ne) (hi : sp_in i (nI ne) = 0) (hC : cw ad h0 C h) : mm_Ok G mX11_record L (d + 2) [.ref (ad 11 0), .int i, .int w] h (fun r h1 => gP ad h0 C h (sp_record M i w) r h1) := by
  refine mm_Ok.of [(0, .ref (ad 11 0)), (1, .int i), (2, .int w)] rfl kX11_record.2.2.2.2.2 rfl (fun A => ?_)
  obtain ⟨hR, hE, ⟨n11, n13⟩, f3, f9, s3, s19⟩ := id hG
  have n7 := hR.1.1
  have hk40 := hR.2.1.1
  obtain ⟨⟨v11, n16, n9⟩, hn20, v0, v1, s48, hV⟩ := id hv
  obtain ⟨⟨n17, n3⟩, hn512, z7, z8, s54, hN⟩ := id he
  refine mm_iload_n (pc := 0) dX11_record_0 rfl ?_
  refine mm_if_lt (pc := 1) (tgt := 30) dX11_record_1 (by decide) (fun c1 => ?_) (fun c1 => ?_)
  · refine mm_aload_n (pc := 30) dX11_record_30 rfl (by first | trivial | assumption | exact mm_isr_rf _) ?_
    refine mm_iconst (pc := 31) (v := (-1)) dX11_record_31 (by decide) ?_
    refine mm_callV (pc := 32) (As := [_]) (kd := ?kd_32_4) (fs := ?fs_32_4) dX11_record_32 vl_X11_96 (tl_ok (c := 1) n11 n13 f9 rfl (by decide) (by decide) hC) ?hc_32_4 ?hk_32_4 rfl rfl (Nat.le_of_ble_eq_true rfl) ?_; (case hc_32_4 => exact cw_cell (f := 11) hC rfl rfl n11); (case hk_32_4 => rfl)
    rintro _ h32 ⟨hC, e32, rfl⟩
    refine mm_iret (pc := 35) dX11_record_35 rfl ?_
    exact gP_no hC e32 (by unfold sp_record; first | (rw [if_pos c1]; rfl) | (rw [if_neg c1, s54, if_pos c9]; rfl)) (by decide)
  · refine mm_iload_n (pc := 4) dX11_record_4 rfl ?_
    refine mm_aload_n (pc := 5) dX11_record_5 rfl (by first | trivial | assumption | exact mm_isr_rf _) ?_
    refine cw_gi (pc := 6) 11 _ 8 hC (rfl) rfl (n11) dX11_record_6 fl_X11_49 rfl rfl rfl ?_
    refine mm_topi _ z8 ?_
    refine mm_icmp_ge (pc := 9) (tgt := 30) dX11_record_9 (by decide) (fun c9 => ?_) (fun c9 => absurd (by unfold sp_in at hi; rw [if_neg c1] at hi; by_cases z : nI ne ≤ i; exact z; rw [if_neg z] at hi; exact absurd hi (by decide)) c9)
    refine mm_aload_n (pc := 30) dX11_record_30 rfl (by first | trivial | assumption | exact mm_isr_rf _) ?_
    refine mm_iconst (pc := 31) (v := (-1)) dX11_record_31 (by decide) ?_
    refine mm_callV (pc := 32) (As := [_]) (kd := ?kd_32_5) (fs := ?fs_32_5) dX11_record_32 vl_X11_96 (tl_ok (c := 1) n11 n13 f9 rfl (by decide) (by decide) hC) ?hc_32_5 ?hk_32_5 rfl rfl (Nat.le_of_ble_eq_true rfl) ?_; (case hc_32_5 => exact cw_cell (f := 11) hC rfl rfl n11); (case hk_32_5 => rfl)
    rintro _ h32 ⟨hC, e32, rfl⟩
    refine mm_iret (pc := 35) dX11_record_35 rfl ?_
    exact gP_no hC e32 (by unfold sp_record; first | (rw [if_pos c1]; rfl) | (rw [if_neg c1, s54, if_pos c9]; rfl)) (by decide)

theorem rc_in {G : mm_G} {L : Nat × Nat} {d : Nat} {h : mm_H} {h0 : mm_H} {ad : Nat → Nat → Nat} {C : cw_C} {M : mw_S} {ab : Nat → Option Nat} {nk np : Nat} {w : Int32} {i : Nat} (hG : rlG ad C M ab nk np) {na : Nat} (hv : vsR ad C M nk na) {ne : Nat} (he : enR ad C M na ne) (hi : i < ne) (hC : cw ad h0 C h) : mm_Ok G mX11_record L (d + 2) [.ref (ad 11 0), .int (nI i), .int w] h (fun r h1 => gP ad h0 C h (sp_record M (nI i) w) r h1) := by
  refine mm_Ok.of [(0, .ref (ad 11 0)), (1, .int (nI i)), (2, .int w)] rfl kX11_record.2.2.2.2.2 rfl (fun A => ?_)
  obtain ⟨hR, hE, ⟨n11, n13⟩, f3, f9, s3, s19⟩ := id hG
  have n7 := hR.1.1
  have hk40 := hR.2.1.1
  obtain ⟨⟨v11, n16, n9⟩, hn20, v0, v1, s48, hV⟩ := id hv
  obtain ⟨⟨n17, n3⟩, hn512, z7, z8, s54, hN⟩ := id he
  obtain ⟨p0, p1, ⟨v, hvn, p2, p3⟩, p4⟩ := hN i hi
  have ni : i < cN C 3 := by omega
  have nv : v < cN C 9 := by omega
  have pv := (hV v hvn).2.1
  refine mm_iload_n (pc := 0) dX11_record_0 rfl ?_
  refine mm_if_lt (pc := 1) (tgt := 30) dX11_record_1 (by decide) (fun c1 => absurd c1 (nI_pos (by omega))) (fun c1 => ?_)
  refine mm_iload_n (pc := 4) dX11_record_4 rfl ?_
  refine mm_aload_n (pc := 5) dX11_record_5 rfl (by first | trivial | assumption | exact mm_isr_rf _) ?_
  refine cw_gi (pc := 6) 11 _ 8 hC (rfl) rfl (n11) dX11_record_6 fl_X11_49 rfl rfl rfl ?_
  refine mm_topi _ z8 ?_
  refine mm_icmp_ge (pc := 9) (tgt := 30) dX11_record_9 (by decide) (fun c9 => absurd c9 (nI_ge hi (by omega))) (fun c9 => ?_)
  refine mm_iload_n (pc := 12) dX11_record_12 rfl ?_
  refine mm_aload_n (pc := 13) dX11_record_13 rfl (by first | trivial | assumption | exact mm_isr_rf _) ?_
  refine cw_grS (pc := 14) 11 _ 7 hC (rfl) rfl (n11) dX11_record_14 fl_X11_45 rfl rfl rfl (z7) ?_
  refine cw_alen (pc := 17) 17 _ hC (rfl) rfl (n17) dX11_record_17 rfl rfl ?_
  refine mm_icmp_ge (pc := 18) (tgt := 30) dX11_record_18 (by decide) (fun c18 => absurd c18 (nI_ge (b := (512 : Nat)) (by omega) (by decide))) (fun c18 => ?_)
  refine mm_aload_n (pc := 21) dX11_record_21 rfl (by first | trivial | assumption | exact mm_isr_rf _) ?_
  refine cw_grS (pc := 22) 11 _ 7 hC (rfl) rfl (n11) dX11_record_22 fl_X11_45 rfl rfl rfl (z7) ?_
  refine mm_iload_n (pc := 25) dX11_record_25 rfl ?_
  refine cw_aald (pc := 26) (v := (.ref (ad 3 i))) 17 0 i hC (rfl) rfl (n17) dX11_record_26 rfl rfl rfl (by first | with_reducible rfl | assumption | rfl) (by show i < 512; omega) (by omega) rfl (by rw [p0]; rfl) ?_
  refine mm_ifnonnull (pc := 27) (tgt := 36) dX11_record_27 (by decide) (by first | trivial | assumption | exact mm_isr_rf _) (fun a27 c27 => ?_) (fun c27 => by cases c27)
  refine mm_iload_n (pc := 36) dX11_record_36 rfl ?_
  refine mm_sw (pc := 37) [64, 74, 87] 97 dX11_record_37 (by decide) (by decide) (by decide) (fun i_ t_ ht_ hx_ => ?_) (fun c37 => ?_)
  · match i_, ht_ with
    | 0, ht_ =>
      cases ht_
      have c37 := mm_swe (v := 0) hx_ (by decide)
      refine mm_aload_n (pc := 64) dX11_record_64 rfl (by first | trivial | assumption | exact mm_isr_rf _) ?_
      refine cw_grS (pc := 65) 11 _ 7 hC (rfl) rfl (n11) dX11_record_65 fl_X11_45 rfl rfl rfl (z7) ?_
      refine mm_iload_n (pc := 68) dX11_record_68 rfl ?_
      refine cw_aald (pc := 69) (v := (.ref (ad 3 i))) 17 0 i hC (rfl) rfl (n17) dX11_record_69 rfl rfl rfl (by first | with_reducible rfl | assumption | rfl) (by show i < 512; omega) (by omega) rfl (by rw [p0]; rfl) ?_
      refine cw_gi (pc := 70) 3 i 0 hC (rfl) rfl (ni) dX11_record_70 fl_X11_271 rfl rfl rfl ?_
      refine mm_iret (pc := 73) dX11_record_73 rfl ?_
      subst c37
      exact gP_ok hC (by unfold sp_record; rw [if_neg c1, s54, if_neg c9, if_neg (by decide), if_pos (by decide), nI_clamp (by omega), if_pos rfl, p1])
    | 1, ht_ =>
      cases ht_
      have c37 := mm_swe (v := 1) hx_ (by decide)
      refine mm_aload_n (pc := 74) dX11_record_74 rfl (by first | trivial | assumption | exact mm_isr_rf _) ?_
      refine cw_grS (pc := 75) 11 _ 7 hC (rfl) rfl (n11) dX11_record_75 fl_X11_45 rfl rfl rfl (z7) ?_
      refine mm_iload_n (pc := 78) dX11_record_78 rfl ?_
      refine cw_aald (pc := 79) (v := (.ref (ad 3 i))) 17 0 i hC (rfl) rfl (n17) dX11_record_79 rfl rfl rfl (by first | with_reducible rfl | assumption | rfl) (by show i < 512; omega) (by omega) rfl (by rw [p0]; rfl) ?_
      refine cw_grS (pc := 80) 3 i 1 hC (rfl) rfl (ni) dX11_record_80 fl_X11_274 rfl rfl rfl (p3) ?_
      refine cw_gi (pc := 83) 9 v 0 hC (rfl) rfl (nv) dX11_record_83 fl_X11_278 rfl rfl rfl ?_
      refine mm_iret (pc := 86) dX11_record_86 rfl ?_
      subst c37
      exact gP_ok hC (by unfold sp_record; rw [if_neg c1, s54, if_neg c9, if_neg (by decide), if_pos (by decide), nI_clamp (by omega), if_neg (by decide), if_pos rfl, p2, pv])
    | 2, ht_ =>
      cases ht_
      have c37 := mm_swe (v := 2) hx_ (by decide)
      refine mm_aload_n (pc := 87) dX11_record_87 rfl (by first | trivial | assumption | exact mm_isr_rf _) ?_
      refine cw_grS (pc := 88) 11 _ 7 hC (rfl) rfl (n11) dX11_record_88 fl_X11_45 rfl rfl rfl (z7) ?_
      refine mm_iload_n (pc := 91) dX11_record_91 rfl ?_
      refine cw_aald (pc := 92) (v := (.ref (ad 3 i))) 17 0 i hC (rfl) rfl (n17) dX11_record_92 rfl rfl rfl (by first | with_reducible rfl | assumption | rfl) (by show i < 512; omega) (by omega) rfl (by rw [p0]; rfl) ?_
      refine cw_gi (pc := 93) 3 i 3 hC (rfl) rfl (ni) dX11_record_93 fl_X11_279 rfl rfl rfl ?_
      refine mm_iret (pc := 96) dX11_record_96 rfl ?_
      subst c37
      exact gP_ok hC (by unfold sp_record; rw [if_neg c1, s54, if_neg c9, if_neg (by decide), if_pos (by decide), nI_clamp (by omega), if_neg (by decide), if_neg (by decide), p4])
    | n_ + 3, ht_ => cases ht_
  · refine mm_aload_n (pc := 97) dX11_record_97 rfl (by first | trivial | assumption | exact mm_isr_rf _) ?_
    refine mm_iconst (pc := 98) (v := (-1)) dX11_record_98 (by decide) ?_
    refine mm_callV (pc := 99) (As := [_]) (kd := ?kd_99_6) (fs := ?fs_99_6) dX11_record_99 vl_X11_96 (tl_ok (c := 1) n11 n13 f9 rfl (by decide) (by decide) hC) ?hc_99_6 ?hk_99_6 rfl rfl (Nat.le_of_ble_eq_true rfl) ?_; (case hc_99_6 => exact cw_cell (f := 11) hC rfl rfl n11); (case hk_99_6 => rfl)
    rintro _ h99 ⟨hC, e99, rfl⟩
    refine mm_iret (pc := 102) dX11_record_102 rfl ?_
    have hw0 : ¬ w < 0 → ¬ w ≤ 2 := sw_out (m := 2) (by decide) c37
    exact gP_no hC e99 (by unfold sp_record; rw [if_neg c1, s54, if_neg c9]; by_cases z : w < 0; (rw [if_pos z]; rfl); (rw [if_neg z, if_neg (hw0 z)]; rfl)) (by decide)

theorem rc_ok {G : mm_G} {L : Nat × Nat} {d : Nat} {h : mm_H} {h0 : mm_H} {ad : Nat → Nat → Nat} {C : cw_C} {M : mw_S} {ab : Nat → Option Nat} {nk np : Nat} {na ne : Nat} {i w : Int32} (hG : rlG ad C M ab nk np) (hv : vsR ad C M nk na) (he : enR ad C M na ne) (hC : cw ad h0 C h) : mm_Ok G mX11_record L (d + 2) [.ref (ad 11 0), .int i, .int w] h (fun r h1 => gP ad h0 C h (sp_record M i w) r h1) := by
  by_cases hi : sp_in i (nI ne) = 0
  · exact rc_no hG hv he hi hC
  · obtain ⟨k, hk, rfl⟩ := sp_in_of hi rfl (by have := he.2.1; omega)
    exact rc_in hG hv he hk hC

theorem gt_m1 {x : Int32} (h : 0 ≤ x) : -1 < x := by
  have a := Int32.le_iff_toInt_le.mp h
  have e0 : (0 : Int32).toInt = 0 := by decide
  have e1 : (-1 : Int32).toInt = -1 := by decide
  exact Int32.lt_iff_toInt_lt.mpr (by omega)
theorem le_m1 {x : Int32} (h : ¬ 0 ≤ x) : ¬ -1 < x := fun z => h (by
  have a := Int32.lt_iff_toInt_lt.mp z
  have e0 : (0 : Int32).toInt = 0 := by decide
  have e1 : (-1 : Int32).toInt = -1 := by decide
  exact Int32.le_iff_toInt_le.mpr (by omega))
theorem fd_c {x : Int32} (hx : ¬ 0 ≤ x) (hy : ¬ x < -4) : ∃ c, -x = nI c ∧ 1 ≤ c ∧ c ≤ 4 := by
  have a : ¬ (0 : Int32).toInt ≤ x.toInt := fun z => hx (Int32.le_iff_toInt_le.mpr z)
  have b : ¬ x.toInt < (-4 : Int32).toInt := fun z => hy (Int32.lt_iff_toInt_lt.mpr z)
  have e0 : (0 : Int32).toInt = 0 := by decide
  have e4 : (-4 : Int32).toInt = -4 := by decide
  have h : x.toInt = -1 ∨ x.toInt = -2 ∨ x.toInt = -3 ∨ x.toInt = -4 := by omega
  rcases h with z | z | z | z
  · rw [mm_swe (v := -1) z (by decide)]; exact ⟨1, by decide, by decide, by decide⟩
  · rw [mm_swe (v := -2) z (by decide)]; exact ⟨2, by decide, by decide, by decide⟩
  · rw [mm_swe (v := -3) z (by decide)]; exact ⟨3, by decide, by decide, by decide⟩
  · rw [mm_swe (v := -4) z (by decide)]; exact ⟨4, by decide, by decide, by decide⟩

theorem fd_hi {G : mm_G} {L : Nat × Nat} {d : Nat} {h : mm_H} {h0 : mm_H} {ad : Nat → Nat → Nat} {C : cw_C} {M : mw_S} {ab : Nat → Option Nat} {nk np : Nat} {x : Int32} (hG : rlG ad C M ab nk np) (hx : 0 ≤ x) (hC : cw ad h0 C h) : mm_Ok G mX11_found L (d + 2) [.ref (ad 11 0), .int x] h (fun r h1 => gP ad h0 C h (sp_found M x) r h1) := by
  refine mm_Ok.of [(0, .ref (ad 11 0)), (1, .int x)] rfl kX11_found.2.2.2.2.2 rfl (fun A => ?_)
  obtain ⟨hR, hE, ⟨n11, n13⟩, f3, f9, s3, s19⟩ := id hG
  have n7 := hR.1.1
  have hk40 := hR.2.1.1
  refine mm_iload_n (pc := 0) dX11_found_0 rfl ?_
  refine mm_iconst (pc := 1) (v := (-1)) dX11_found_1 (by decide) ?_
  refine mm_icmp_gt (pc := 2) (tgt := 11) dX11_found_2 (by decide) (fun c2 => ?_) (fun c2 => absurd (gt_m1 hx) c2)
  refine mm_aload_n (pc := 11) dX11_found_11 rfl (by first | trivial | assumption | exact mm_isr_rf _) ?_
  refine mm_iconst (pc := 12) (v := (-1)) dX11_found_12 (by decide) ?_
  refine mm_callV (pc := 13) (As := [_]) (kd := ?kd_13_7) (fs := ?fs_13_7) dX11_found_13 vl_X11_96 (tl_ok (c := 1) n11 n13 f9 rfl (by decide) (by decide) hC) ?hc_13_7 ?hk_13_7 rfl rfl (Nat.le_of_ble_eq_true rfl) ?_; (case hc_13_7 => exact cw_cell (f := 11) hC rfl rfl n11); (case hk_13_7 => rfl)
  rintro _ h13 ⟨hC, e13, rfl⟩
  refine mm_iret (pc := 16) dX11_found_16 rfl ?_
  exact gP_no hC e13 (by unfold sp_found; rw [if_pos hx]; rfl) (by decide)

theorem fd_lo {G : mm_G} {L : Nat × Nat} {d : Nat} {h : mm_H} {h0 : mm_H} {ad : Nat → Nat → Nat} {C : cw_C} {M : mw_S} {ab : Nat → Option Nat} {nk np : Nat} {x : Int32} (hG : rlG ad C M ab nk np) (hx : ¬ 0 ≤ x) (hy : x < -4) (hC : cw ad h0 C h) : mm_Ok G mX11_found L (d + 2) [.ref (ad 11 0), .int x] h (fun r h1 => gP ad h0 C h (sp_found M x) r h1) := by
  refine mm_Ok.of [(0, .ref (ad 11 0)), (1, .int x)] rfl kX11_found.2.2.2.2.2 rfl (fun A => ?_)
  obtain ⟨hR, hE, ⟨n11, n13⟩, f3, f9, s3, s19⟩ := id hG
  have n7 := hR.1.1
  have hk40 := hR.2.1.1
  refine mm_iload_n (pc := 0) dX11_found_0 rfl ?_
  refine mm_iconst (pc := 1) (v := (-1)) dX11_found_1 (by decide) ?_
  refine mm_icmp_gt (pc := 2) (tgt := 11) dX11_found_2 (by decide) (fun c2 => absurd c2 (le_m1 hx)) (fun c2 => ?_)
  refine mm_iload_n (pc := 5) dX11_found_5 rfl ?_
  refine mm_bipush (pc := 6) (v := (-4)) dX11_found_6 (by decide) ?_
  refine mm_icmp_ge (pc := 8) (tgt := 17) dX11_found_8 (by decide) (fun c8 => absurd c8 (Int32.not_le.mpr hy)) (fun c8 => ?_)
  refine mm_aload_n (pc := 11) dX11_found_11 rfl (by first | trivial | assumption | exact mm_isr_rf _) ?_
  refine mm_iconst (pc := 12) (v := (-1)) dX11_found_12 (by decide) ?_
  refine mm_callV (pc := 13) (As := [_]) (kd := ?kd_13_8) (fs := ?fs_13_8) dX11_found_13 vl_X11_96 (tl_ok (c := 1) n11 n13 f9 rfl (by decide) (by decide) hC) ?hc_13_8 ?hk_13_8 rfl rfl (Nat.le_of_ble_eq_true rfl) ?_; (case hc_13_8 => exact cw_cell (f := 11) hC rfl rfl n11); (case hk_13_8 => rfl)
  rintro _ h13 ⟨hC, e13, rfl⟩
  refine mm_iret (pc := 16) dX11_found_16 rfl ?_
  exact gP_no hC e13 (by unfold sp_found; rw [if_neg hx, if_pos hy]; rfl) (by decide)

theorem fd_in {G : mm_G} {L : Nat × Nat} {d : Nat} {h : mm_H} {h0 : mm_H} {ad : Nat → Nat → Nat} {C : cw_C} {M : mw_S} {ab : Nat → Option Nat} {nk np : Nat} {x : Int32} {c : Nat} (hG : rlG ad C M ab nk np) (h2 : ∀ c, 1 ≤ c → c ≤ 4 → cI C 13 0 c = M.2.2.1 2 c) (hx : ¬ 0 ≤ x) (hy : ¬ x < -4) (hc : -x = nI c) (c1 : 1 ≤ c) (c4 : c ≤ 4) (hC : cw ad h0 C h) : mm_Ok G mX11_found L (d + 2) [.ref (ad 11 0), .int x] h (fun r h1 => gP ad h0 C h (sp_found M x) r h1) := by
  refine mm_Ok.of [(0, .ref (ad 11 0)), (1, .int x)] rfl kX11_found.2.2.2.2.2 rfl (fun A => ?_)
  obtain ⟨hR, hE, ⟨n11, n13⟩, f3, f9, s3, s19⟩ := id hG
  have n7 := hR.1.1
  have hk40 := hR.2.1.1
  refine mm_iload_n (pc := 0) dX11_found_0 rfl ?_
  refine mm_iconst (pc := 1) (v := (-1)) dX11_found_1 (by decide) ?_
  refine mm_icmp_gt (pc := 2) (tgt := 11) dX11_found_2 (by decide) (fun c2 => absurd c2 (le_m1 hx)) (fun c2 => ?_)
  refine mm_iload_n (pc := 5) dX11_found_5 rfl ?_
  refine mm_bipush (pc := 6) (v := (-4)) dX11_found_6 (by decide) ?_
  refine mm_icmp_ge (pc := 8) (tgt := 17) dX11_found_8 (by decide) (fun c8 => ?_) (fun c8 => absurd (Int32.not_lt.mp hy) c8)
  refine mm_aload_n (pc := 17) dX11_found_17 rfl (by first | trivial | assumption | exact mm_isr_rf _) ?_
  refine cw_grS (pc := 18) 11 _ 9 hC (rfl) rfl (n11) dX11_found_18 fl_X11_52 rfl rfl rfl (f9) ?_
  refine mm_iload_n (pc := 21) dX11_found_21 rfl ?_
  refine mm_ineg (pc := 22) dX11_found_22 ?_
  refine mm_topi _ hc ?_
  refine cw_iald (pc := 23) 13 0 c hC (rfl) rfl (n13) dX11_found_23 rfl (by first | with_reducible rfl | assumption | rfl) (by show c < 5; omega) (by omega) rfl ?_
  refine mm_iret (pc := 24) dX11_found_24 rfl ?_
  exact gP_ok hC (by unfold sp_found; rw [if_neg hx, if_neg hy, hc, nI_clamp (by omega), h2 c c1 c4])

theorem fd_ok {G : mm_G} {L : Nat × Nat} {d : Nat} {h : mm_H} {h0 : mm_H} {ad : Nat → Nat → Nat} {C : cw_C} {M : mw_S} {ab : Nat → Option Nat} {nk np : Nat} {x : Int32} (hG : rlG ad C M ab nk np) (h2 : ∀ c, 1 ≤ c → c ≤ 4 → cI C 13 0 c = M.2.2.1 2 c) (hC : cw ad h0 C h) : mm_Ok G mX11_found L (d + 2) [.ref (ad 11 0), .int x] h (fun r h1 => gP ad h0 C h (sp_found M x) r h1) := by
  by_cases hx : 0 ≤ x
  · exact fd_hi hG hx hC
  · by_cases hy : x < -4
    · exact fd_lo hG hx hy hC
    · obtain ⟨c, a, b, e⟩ := fd_c hx hy
      exact fd_in hG h2 hx hy a b e hC

