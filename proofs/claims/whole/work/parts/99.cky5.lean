/-- the vessels -/
def vsR (ad : Nat → Nat → Nat) (C : cw_C) (M : mw_S) (nk na : Nat) : Prop := (0 < cN C 11 ∧ 0 < cN C 16 ∧ na ≤ cN C 9) ∧ na ≤ 20 ∧ cR C 11 0 4 = some (ad 16 0) ∧ cI C 11 0 5 = nI na ∧ M.1 48 = nI na ∧ ∀ i, i < na → cR C 16 0 i = some (ad 9 i) ∧ cI C 9 i 0 = nI i ∧ (∃ k, k < nk ∧ M.2.2.1 49 i = nI k ∧ cR C 9 i 1 = some (ad 4 k)) ∧ cI C 9 i 2 = M.2.2.1 50 i ∧ cI C 9 i 3 = M.2.2.1 51 i ∧ cI C 9 i 4 = M.2.2.1 52 i
/-- the tale of the latest act -/
def rnR (ad : Nat → Nat → Nat) (C : cw_C) (M : mw_S) (nb nt : Nat) : Prop := (0 < cN C 8 ∧ 3 ≤ cN C 14 ∧ 0 < cN C 15) ∧ (nb ≤ 406 ∧ nt ≤ 400) ∧ cR C 11 0 6 = some (ad 8 0) ∧ (cI C 8 0 0 = M.1 66 ∧ cI C 8 0 1 = M.1 68 ∧ cI C 8 0 2 = M.1 72 ∧ cI C 8 0 3 = M.1 67) ∧ (M.1 68 = nI nb ∧ M.1 72 = nI nt) ∧ (cR C 8 0 7 = some (ad 14 0) ∧ cR C 8 0 8 = some (ad 14 1) ∧ cR C 8 0 9 = some (ad 14 2) ∧ cR C 8 0 10 = some (ad 15 0)) ∧ (∀ i, i < nb → cI C 14 0 i = M.2.2.1 69 i ∧ cI C 14 1 i = M.2.2.1 70 i ∧ cI C 14 2 i = M.2.2.1 71 i) ∧ ∀ i, i < nt → cI C 15 0 i = M.2.2.1 73 i
theorem sw_out {w c : Int32} {m : Nat} (hc : c.toInt = m) (h : ∀ i : Nat, i < m + 1 → ¬ w.toInt = 0 + i) (h0 : ¬ w < 0) : ¬ w ≤ c := fun b => by
  have a1 : ¬ w.toInt < (0 : Int32).toInt := fun z => h0 (Int32.lt_iff_toInt_lt.mpr z)
  have b1 := Int32.le_iff_toInt_le.mp b
  have e0 : (0 : Int32).toInt = 0 := by decide
  exact h w.toInt.toNat (by omega) (by omega)

theorem va_in {G : mm_G} {L : Nat × Nat} {d : Nat} {h : mm_H} {h0 : mm_H} {ad : Nat → Nat → Nat} {C : cw_C} {M : mw_S} {nk na : Nat} {i : Nat} (hv : vsR ad C M nk na) (hi : i < na) (hC : cw ad h0 C h) : mm_Ok G mX11_vesselAt L (d) [.ref (ad 11 0), .int (nI i)] h (fun r h1 => h1 = h ∧ r = some (.ref (ad 9 i))) := by
  refine mm_Ok.of [(0, .ref (ad 11 0)), (1, .int (nI i))] rfl kX11_vesselAt.2.2.2.2.2 rfl (fun A => ?_)
  obtain ⟨⟨n11, n16, n9⟩, hn20, v0, v1, s48, hV⟩ := hv
  refine mm_iload_n (pc := 0) dX11_vesselAt_0 rfl ?_
  refine mm_if_lt (pc := 1) (tgt := 30) dX11_vesselAt_1 (by decide) (fun c1 => absurd c1 (nI_pos (by omega))) (fun c1 => ?_)
  refine mm_iload_n (pc := 4) dX11_vesselAt_4 rfl ?_
  refine mm_aload_n (pc := 5) dX11_vesselAt_5 rfl (by first | trivial | assumption | exact mm_isr_rf _) ?_
  refine cw_gi (pc := 6) 11 _ 5 hC (rfl) rfl (n11) dX11_vesselAt_6 fl_X11_33 rfl rfl rfl ?_
  refine mm_topi _ v1 ?_
  refine mm_icmp_ge (pc := 9) (tgt := 30) dX11_vesselAt_9 (by decide) (fun c9 => absurd c9 (nI_ge hi (by omega))) (fun c9 => ?_)
  refine mm_iload_n (pc := 12) dX11_vesselAt_12 rfl ?_
  refine mm_aload_n (pc := 13) dX11_vesselAt_13 rfl (by first | trivial | assumption | exact mm_isr_rf _) ?_
  refine cw_grS (pc := 14) 11 _ 4 hC (rfl) rfl (n11) dX11_vesselAt_14 fl_X11_29 rfl rfl rfl (v0) ?_
  refine cw_alen (pc := 17) 16 _ hC (rfl) rfl (n16) dX11_vesselAt_17 rfl rfl ?_
  refine mm_icmp_ge (pc := 18) (tgt := 30) dX11_vesselAt_18 (by decide) (fun c18 => absurd c18 (nI_ge (b := (20 : Nat)) (by omega) (by decide))) (fun c18 => ?_)
  refine mm_aload_n (pc := 21) dX11_vesselAt_21 rfl (by first | trivial | assumption | exact mm_isr_rf _) ?_
  refine cw_grS (pc := 22) 11 _ 4 hC (rfl) rfl (n11) dX11_vesselAt_22 fl_X11_29 rfl rfl rfl (v0) ?_
  refine mm_iload_n (pc := 25) dX11_vesselAt_25 rfl ?_
  refine cw_aald (pc := 26) (v := (.ref (ad 9 i))) 16 0 i hC (rfl) rfl (n16) dX11_vesselAt_26 rfl rfl rfl (by first | with_reducible rfl | assumption | rfl) (by show i < 20; omega) (by omega) rfl (by rw [(hV i hi).1]; rfl) ?_
  refine mm_goto (pc := 27) (tgt := 31) dX11_vesselAt_27 (by decide) ?_
  refine mm_aret (pc := 31) dX11_vesselAt_31 rfl (Or.inl ⟨_, rfl⟩) (by first | trivial | assumption | exact mm_isr_rf _) ?_
  exact ⟨rfl, rfl⟩

theorem va_no {G : mm_G} {L : Nat × Nat} {d : Nat} {h : mm_H} {h0 : mm_H} {ad : Nat → Nat → Nat} {C : cw_C} {M : mw_S} {nk na : Nat} {i : Int32} (hv : vsR ad C M nk na) (hi : sp_in i (nI na) = 0) (hC : cw ad h0 C h) : mm_Ok G mX11_vesselAt L (d) [.ref (ad 11 0), .int i] h (fun r h1 => h1 = h ∧ r = some .null) := by
  refine mm_Ok.of [(0, .ref (ad 11 0)), (1, .int i)] rfl kX11_vesselAt.2.2.2.2.2 rfl (fun A => ?_)
  obtain ⟨⟨n11, n16, n9⟩, hn20, v0, v1, s48, hV⟩ := hv
  refine mm_iload_n (pc := 0) dX11_vesselAt_0 rfl ?_
  refine mm_if_lt (pc := 1) (tgt := 30) dX11_vesselAt_1 (by decide) (fun c1 => ?_) (fun c1 => ?_)
  · refine mm_null (pc := 30) dX11_vesselAt_30 ?_
    refine mm_aret (pc := 31) dX11_vesselAt_31 rfl (Or.inl ⟨_, rfl⟩) (by first | trivial | assumption | exact mm_isr_rf _) ?_
    exact ⟨rfl, rfl⟩
  · refine mm_iload_n (pc := 4) dX11_vesselAt_4 rfl ?_
    refine mm_aload_n (pc := 5) dX11_vesselAt_5 rfl (by first | trivial | assumption | exact mm_isr_rf _) ?_
    refine cw_gi (pc := 6) 11 _ 5 hC (rfl) rfl (n11) dX11_vesselAt_6 fl_X11_33 rfl rfl rfl ?_
    refine mm_topi _ v1 ?_
    refine mm_icmp_ge (pc := 9) (tgt := 30) dX11_vesselAt_9 (by decide) (fun c9 => ?_) (fun c9 => absurd (by unfold sp_in at hi; rw [if_neg c1] at hi; by_cases z : nI na ≤ i; exact z; rw [if_neg z] at hi; exact absurd hi (by decide)) c9)
    refine mm_null (pc := 30) dX11_vesselAt_30 ?_
    refine mm_aret (pc := 31) dX11_vesselAt_31 rfl (Or.inl ⟨_, rfl⟩) (by first | trivial | assumption | exact mm_isr_rf _) ?_
    exact ⟨rfl, rfl⟩

theorem ap_no {G : mm_G} {L : Nat × Nat} {d : Nat} {h : mm_H} {h0 : mm_H} {ad : Nat → Nat → Nat} {C : cw_C} {M : mw_S} {ab : Nat → Option Nat} {nk np : Nat} {i w : Int32} (hG : rlG ad C M ab nk np) {na : Nat} (hv : vsR ad C M nk na) (hi : sp_in i (nI na) = 0) (hC : cw ad h0 C h) : mm_Ok G mX11_apparatus L (d + 2) [.ref (ad 11 0), .int i, .int w] h (fun r h1 => gP ad h0 C h (sp_apparatus M i w) r h1) := by
  refine mm_Ok.of [(0, .ref (ad 11 0)), (1, .int i), (2, .int w)] rfl kX11_apparatus.2.2.2.2.2 rfl (fun A => ?_)
  obtain ⟨hR, hE, ⟨n11, n13⟩, f3, f9, s3, s19⟩ := id hG
  have n7 := hR.1.1
  have hk40 := hR.2.1.1
  obtain ⟨⟨v11, n16, n9⟩, hn20, v0, v1, s48, hV⟩ := id hv
  refine mm_aload_n (pc := 0) dX11_apparatus_0 rfl (by first | trivial | assumption | exact mm_isr_rf _) ?_
  refine mm_iload_n (pc := 1) dX11_apparatus_1 rfl ?_
  refine mm_callV (pc := 2) (As := [_]) (kd := ?kd_2_1) (fs := ?fs_2_1) dX11_apparatus_2 vl_X11_200 (va_no hv hi hC) ?hc_2_1 ?hk_2_1 rfl rfl (Nat.le_of_ble_eq_true rfl) ?_; (case hc_2_1 => exact cw_cell (f := 11) hC rfl rfl n11); (case hk_2_1 => rfl)
  rintro _ _ ⟨rfl, rfl⟩
  refine mm_astore_n (pc := 5) dX11_apparatus_5 (by first | trivial | assumption | exact mm_isr_rf _) rfl (Nat.le_of_ble_eq_true rfl) ?_
  refine mm_aload_n (pc := 6) dX11_apparatus_6 rfl (by first | trivial | assumption | exact mm_isr_rf _) ?_
  refine mm_ifnonnull (pc := 7) (tgt := 16) dX11_apparatus_7 (by decide) (by first | trivial | assumption | exact mm_isr_rf _) (fun a7 c7 => by cases c7) (fun c7 => ?_)
  refine mm_aload_n (pc := 10) dX11_apparatus_10 rfl (by first | trivial | assumption | exact mm_isr_rf _) ?_
  refine mm_iconst (pc := 11) (v := (-1)) dX11_apparatus_11 (by decide) ?_
  refine mm_callV (pc := 12) (As := [_]) (kd := ?kd_12_2) (fs := ?fs_12_2) dX11_apparatus_12 vl_X11_96 (tl_ok (c := 1) n11 n13 f9 rfl (by decide) (by decide) hC) ?hc_12_2 ?hk_12_2 rfl rfl (Nat.le_of_ble_eq_true rfl) ?_; (case hc_12_2 => exact cw_cell (f := 11) hC rfl rfl n11); (case hk_12_2 => rfl)
  rintro _ h12 ⟨hC, e12, rfl⟩
  refine mm_iret (pc := 15) dX11_apparatus_15 rfl ?_
  exact gP_no hC e12 (by unfold sp_apparatus; rw [s48, if_pos hi]; rfl) (by decide)

theorem ap_in {G : mm_G} {L : Nat × Nat} {d : Nat} {h : mm_H} {h0 : mm_H} {ad : Nat → Nat → Nat} {C : cw_C} {M : mw_S} {ab : Nat → Option Nat} {nk np : Nat} {w : Int32} {i : Nat} (hG : rlG ad C M ab nk np) {na : Nat} (hv : vsR ad C M nk na) (hi : i < na) (hC : cw ad h0 C h) : mm_Ok G mX11_apparatus L (d + 2) [.ref (ad 11 0), .int (nI i), .int w] h (fun r h1 => gP ad h0 C h (sp_apparatus M (nI i) w) r h1) := by
  refine mm_Ok.of [(0, .ref (ad 11 0)), (1, .int (nI i)), (2, .int w)] rfl kX11_apparatus.2.2.2.2.2 rfl (fun A => ?_)
  obtain ⟨hR, hE, ⟨n11, n13⟩, f3, f9, s3, s19⟩ := id hG
  have n7 := hR.1.1
  have hk40 := hR.2.1.1
  obtain ⟨⟨v11, n16, n9⟩, hn20, v0, v1, s48, hV⟩ := id hv
  obtain ⟨p0, p1, ⟨k, hk, p2, p3⟩, p4, p5, p6⟩ := hV i hi
  have hin : ¬ sp_in (nI i) (M.1 48) = 0 := by rw [s48]; exact sp_in_k hi (by omega)
  have ei : (nI i).toNatClampNeg = i := nI_clamp (by omega)
  have ni : i < cN C 9 := by omega
  have nk4 : k < cN C 4 := by have := hR.1.2.2.2.1; omega
  have k4 : cI C 4 k 4 = nI k := (hE.2.1 k hk).1.2.1
  refine mm_aload_n (pc := 0) dX11_apparatus_0 rfl (by first | trivial | assumption | exact mm_isr_rf _) ?_
  refine mm_iload_n (pc := 1) dX11_apparatus_1 rfl ?_
  refine mm_callV (pc := 2) (As := [_]) (kd := ?kd_2_3) (fs := ?fs_2_3) dX11_apparatus_2 vl_X11_200 (va_in (i := i) hv hi hC) ?hc_2_3 ?hk_2_3 rfl rfl (Nat.le_of_ble_eq_true rfl) ?_; (case hc_2_3 => exact cw_cell (f := 11) hC rfl rfl n11); (case hk_2_3 => rfl)
  rintro _ _ ⟨rfl, rfl⟩
  refine mm_astore_n (pc := 5) dX11_apparatus_5 (by first | trivial | assumption | exact mm_isr_rf _) rfl (Nat.le_of_ble_eq_true rfl) ?_
  refine mm_aload_n (pc := 6) dX11_apparatus_6 rfl (by first | trivial | assumption | exact mm_isr_rf _) ?_
  refine mm_ifnonnull (pc := 7) (tgt := 16) dX11_apparatus_7 (by decide) (by first | trivial | assumption | exact mm_isr_rf _) (fun a7 c7 => ?_) (fun c7 => by cases c7)
  refine mm_iload_n (pc := 16) dX11_apparatus_16 rfl ?_
  refine mm_sw (pc := 17) [48, 56, 61, 66] 71 dX11_apparatus_17 (by decide) (by decide) (by decide) (fun i_ t_ ht_ hx_ => ?_) (fun c17 => ?_)
  · match i_, ht_ with
    | 0, ht_ =>
      cases ht_
      have c17 := mm_swe (v := 0) hx_ (by decide)
      refine mm_aload_n (pc := 48) dX11_apparatus_48 rfl (by first | trivial | assumption | exact mm_isr_rf _) ?_
      refine cw_grS (pc := 49) 9 i 1 hC (rfl) rfl (ni) dX11_apparatus_49 fl_X11_259 rfl rfl rfl (p3) ?_
      refine cw_gi (pc := 52) 4 k 4 hC (rfl) rfl (nk4) dX11_apparatus_52 fl_X11_150 rfl rfl rfl ?_
      refine mm_iret (pc := 55) dX11_apparatus_55 rfl ?_
      subst c17
      exact gP_ok hC (by unfold sp_apparatus; rw [if_neg hin, if_neg (by decide), if_pos (by decide), ei, if_pos rfl, p2, k4])
    | 1, ht_ =>
      cases ht_
      have c17 := mm_swe (v := 1) hx_ (by decide)
      refine mm_aload_n (pc := 56) dX11_apparatus_56 rfl (by first | trivial | assumption | exact mm_isr_rf _) ?_
      refine cw_gi (pc := 57) 9 i 2 hC (rfl) rfl (ni) dX11_apparatus_57 fl_X11_260 rfl rfl rfl ?_
      refine mm_iret (pc := 60) dX11_apparatus_60 rfl ?_
      subst c17
      exact gP_ok hC (by unfold sp_apparatus; rw [if_neg hin, if_neg (by decide), if_pos (by decide), ei, if_neg (by decide), if_pos rfl, p4])
    | 2, ht_ =>
      cases ht_
      have c17 := mm_swe (v := 2) hx_ (by decide)
      refine mm_aload_n (pc := 61) dX11_apparatus_61 rfl (by first | trivial | assumption | exact mm_isr_rf _) ?_
      refine cw_gi (pc := 62) 9 i 3 hC (rfl) rfl (ni) dX11_apparatus_62 fl_X11_208 rfl rfl rfl ?_
      refine mm_iret (pc := 65) dX11_apparatus_65 rfl ?_
      subst c17
      exact gP_ok hC (by unfold sp_apparatus; rw [if_neg hin, if_neg (by decide), if_pos (by decide), ei, if_neg (by decide), if_neg (by decide), if_pos rfl, p5])
    | 3, ht_ =>
      cases ht_
      have c17 := mm_swe (v := 3) hx_ (by decide)
      refine mm_aload_n (pc := 66) dX11_apparatus_66 rfl (by first | trivial | assumption | exact mm_isr_rf _) ?_
      refine cw_gi (pc := 67) 9 i 4 hC (rfl) rfl (ni) dX11_apparatus_67 fl_X11_211 rfl rfl rfl ?_
      refine mm_iret (pc := 70) dX11_apparatus_70 rfl ?_
      subst c17
      exact gP_ok hC (by unfold sp_apparatus; rw [if_neg hin, if_neg (by decide), if_pos (by decide), ei, if_neg (by decide), if_neg (by decide), if_neg (by decide), p6])
    | n_ + 4, ht_ => cases ht_
  · refine mm_aload_n (pc := 71) dX11_apparatus_71 rfl (by first | trivial | assumption | exact mm_isr_rf _) ?_
    refine mm_iconst (pc := 72) (v := (-1)) dX11_apparatus_72 (by decide) ?_
    refine mm_callV (pc := 73) (As := [_]) (kd := ?kd_73_4) (fs := ?fs_73_4) dX11_apparatus_73 vl_X11_96 (tl_ok (c := 1) n11 n13 f9 rfl (by decide) (by decide) hC) ?hc_73_4 ?hk_73_4 rfl rfl (Nat.le_of_ble_eq_true rfl) ?_; (case hc_73_4 => exact cw_cell (f := 11) hC rfl rfl n11); (case hk_73_4 => rfl)
    rintro _ h73 ⟨hC, e73, rfl⟩
    refine mm_iret (pc := 76) dX11_apparatus_76 rfl ?_
    have hw0 : ¬ w < 0 → ¬ w ≤ 3 := sw_out (m := 3) (by decide) c17
    exact gP_no hC e73 (by unfold sp_apparatus; rw [if_neg hin]; by_cases z : w < 0; (rw [if_pos z]; rfl); (rw [if_neg z, if_neg (hw0 z)]; rfl)) (by decide)

theorem ap_ok_ {G : mm_G} {L : Nat × Nat} {d : Nat} {h : mm_H} {h0 : mm_H} {ad : Nat → Nat → Nat} {C : cw_C} {M : mw_S} {ab : Nat → Option Nat} {nk np : Nat} {na : Nat} {i w : Int32} (hG : rlG ad C M ab nk np) (hv : vsR ad C M nk na) (hC : cw ad h0 C h) : mm_Ok G mX11_apparatus L (d + 2) [.ref (ad 11 0), .int i, .int w] h (fun r h1 => gP ad h0 C h (sp_apparatus M i w) r h1) := by
  by_cases hi : sp_in i (nI na) = 0
  · exact ap_no hG hv hi hC
  · obtain ⟨k, hk, rfl⟩ := sp_in_of hi rfl (by have := hv.2.1; omega)
    exact ap_in hG hv hk hC

theorem ct_ok {G : mm_G} {L : Nat × Nat} {d : Nat} {h : mm_H} {h0 : mm_H} {ad : Nat → Nat → Nat} {C : cw_C} {M : mw_S} {ab : Nat → Option Nat} {nk np : Nat} {w : Int32} (hG : rlG ad C M ab nk np) {na : Nat} (hv : vsR ad C M nk na) (h8 : cI C 11 0 8 = M.1 54) (hC : cw ad h0 C h) : mm_Ok G mX11_count L (d + 2) [.ref (ad 11 0), .int w] h (fun r h1 => gP ad h0 C h (sp_count M w) r h1) := by
  refine mm_Ok.of [(0, .ref (ad 11 0)), (1, .int w)] rfl kX11_count.2.2.2.2.2 rfl (fun A => ?_)
  obtain ⟨hR, hE, ⟨n11, n13⟩, f3, f9, s3, s19⟩ := id hG
  have n7 := hR.1.1
  have hk40 := hR.2.1.1
  obtain ⟨⟨v11, n16, n9⟩, hn20, v0, v1, s48, hV⟩ := id hv
  have r1 : cI C 7 0 1 = nI nk := hR.2.2.2.1
  have r3 : cI C 7 0 3 = nI np := hR.2.2.2.2.2.1
  refine mm_iload_n (pc := 0) dX11_count_0 rfl ?_
  refine mm_sw (pc := 1) [32, 40, 48, 53] 58 dX11_count_1 (by decide) (by decide) (by decide) (fun i_ t_ ht_ hx_ => ?_) (fun c1 => ?_)
  · match i_, ht_ with
    | 0, ht_ =>
      cases ht_
      have c1 := mm_swe (v := 0) hx_ (by decide)
      refine mm_aload_n (pc := 32) dX11_count_32 rfl (by first | trivial | assumption | exact mm_isr_rf _) ?_
      refine cw_grS (pc := 33) 11 _ 3 hC (rfl) rfl (n11) dX11_count_33 fl_X11_23 rfl rfl rfl (f3) ?_
      refine cw_gi (pc := 36) 7 _ 1 hC (rfl) rfl (n7) dX11_count_36 fl_X11_191 rfl rfl rfl ?_
      refine mm_iret (pc := 39) dX11_count_39 rfl ?_
      subst c1
      exact gP_ok hC (by unfold sp_count; rw [if_pos rfl, s3, r1])
    | 1, ht_ =>
      cases ht_
      have c1 := mm_swe (v := 1) hx_ (by decide)
      refine mm_aload_n (pc := 40) dX11_count_40 rfl (by first | trivial | assumption | exact mm_isr_rf _) ?_
      refine cw_grS (pc := 41) 11 _ 3 hC (rfl) rfl (n11) dX11_count_41 fl_X11_23 rfl rfl rfl (f3) ?_
      refine cw_gi (pc := 44) 7 _ 3 hC (rfl) rfl (n7) dX11_count_44 fl_X11_194 rfl rfl rfl ?_
      refine mm_iret (pc := 47) dX11_count_47 rfl ?_
      subst c1
      exact gP_ok hC (by unfold sp_count; rw [if_neg (by decide), if_pos rfl, s19, r3])
    | 2, ht_ =>
      cases ht_
      have c1 := mm_swe (v := 2) hx_ (by decide)
      refine mm_aload_n (pc := 48) dX11_count_48 rfl (by first | trivial | assumption | exact mm_isr_rf _) ?_
      refine cw_gi (pc := 49) 11 _ 5 hC (rfl) rfl (n11) dX11_count_49 fl_X11_33 rfl rfl rfl ?_
      refine mm_iret (pc := 52) dX11_count_52 rfl ?_
      subst c1
      exact gP_ok hC (by unfold sp_count; rw [if_neg (by decide), if_neg (by decide), if_pos rfl, s48, v1])
    | 3, ht_ =>
      cases ht_
      have c1 := mm_swe (v := 3) hx_ (by decide)
      refine mm_aload_n (pc := 53) dX11_count_53 rfl (by first | trivial | assumption | exact mm_isr_rf _) ?_
      refine cw_gi (pc := 54) 11 _ 8 hC (rfl) rfl (n11) dX11_count_54 fl_X11_49 rfl rfl rfl ?_
      refine mm_iret (pc := 57) dX11_count_57 rfl ?_
      subst c1
      exact gP_ok hC (by unfold sp_count; rw [if_neg (by decide), if_neg (by decide), if_neg (by decide), if_pos rfl, h8])
    | n_ + 4, ht_ => cases ht_
  · refine mm_aload_n (pc := 58) dX11_count_58 rfl (by first | trivial | assumption | exact mm_isr_rf _) ?_
    refine mm_iconst (pc := 59) (v := (-1)) dX11_count_59 (by decide) ?_
    refine mm_callV (pc := 60) (As := [_]) (kd := ?kd_60_5) (fs := ?fs_60_5) dX11_count_60 vl_X11_96 (tl_ok (c := 1) n11 n13 f9 rfl (by decide) (by decide) hC) ?hc_60_5 ?hk_60_5 rfl rfl (Nat.le_of_ble_eq_true rfl) ?_; (case hc_60_5 => exact cw_cell (f := 11) hC rfl rfl n11); (case hk_60_5 => rfl)
    rintro _ h60 ⟨hC, e60, rfl⟩
    refine mm_iret (pc := 63) dX11_count_63 rfl ?_
    exact gP_no hC e60 (by unfold sp_count; rw [if_neg (mm_swn (v := 0) (c1 0 (by decide)) (by decide)), if_neg (mm_swn (v := 1) (c1 1 (by decide)) (by decide)), if_neg (mm_swn (v := 2) (c1 2 (by decide)) (by decide)), if_neg (mm_swn (v := 3) (c1 3 (by decide)) (by decide))]; rfl) (by decide)

theorem oc_ok {G : mm_G} {L : Nat × Nat} {d : Nat} {h : mm_H} {h0 : mm_H} {ad : Nat → Nat → Nat} {C : cw_C} {M : mw_S} {ab : Nat → Option Nat} {nk np : Nat} {w : Int32} (hG : rlG ad C M ab nk np) {nb nt : Nat} (hr : rnR ad C M nb nt)  (hC : cw ad h0 C h) : mm_Ok G mX11_outcome L (d + 2) [.ref (ad 11 0), .int w] h (fun r h1 => gP ad h0 C h (sp_outcome M w) r h1) := by
  refine mm_Ok.of [(0, .ref (ad 11 0)), (1, .int w)] rfl kX11_outcome.2.2.2.2.2 rfl (fun A => ?_)
  obtain ⟨hR, hE, ⟨n11, n13⟩, f3, f9, s3, s19⟩ := id hG
  have n7 := hR.1.1
  have hk40 := hR.2.1.1
  obtain ⟨⟨n8, n14, n15⟩, ⟨nb4, nt4⟩, q6, ⟨t0, t1, t2, t3⟩, ⟨s68, s72⟩, ⟨y7, y8, y9, y10⟩, hB, hT⟩ := id hr
  have m0 : 0 < cN C 14 := by omega
  have m1 : 1 < cN C 14 := by omega
  have m2 : 2 < cN C 14 := by omega
  refine mm_iload_n (pc := 0) dX11_outcome_0 rfl ?_
  refine mm_sw (pc := 1) [32, 40, 48, 56] 64 dX11_outcome_1 (by decide) (by decide) (by decide) (fun i_ t_ ht_ hx_ => ?_) (fun c1 => ?_)
  · match i_, ht_ with
    | 0, ht_ =>
      cases ht_
      have c1 := mm_swe (v := 0) hx_ (by decide)
      refine mm_aload_n (pc := 32) dX11_outcome_32 rfl (by first | trivial | assumption | exact mm_isr_rf _) ?_
      refine cw_grS (pc := 33) 11 _ 6 hC (rfl) rfl (n11) dX11_outcome_33 fl_X11_39 rfl rfl rfl (q6) ?_
      refine cw_gi (pc := 36) 8 _ 0 hC (rfl) rfl (n8) dX11_outcome_36 fl_X11_237 rfl rfl rfl ?_
      refine mm_iret (pc := 39) dX11_outcome_39 rfl ?_
      subst c1
      exact gP_ok hC (by unfold sp_outcome; rw [if_pos rfl, t0])
    | 1, ht_ =>
      cases ht_
      have c1 := mm_swe (v := 1) hx_ (by decide)
      refine mm_aload_n (pc := 40) dX11_outcome_40 rfl (by first | trivial | assumption | exact mm_isr_rf _) ?_
      refine cw_grS (pc := 41) 11 _ 6 hC (rfl) rfl (n11) dX11_outcome_41 fl_X11_39 rfl rfl rfl (q6) ?_
      refine cw_gi (pc := 44) 8 _ 1 hC (rfl) rfl (n8) dX11_outcome_44 fl_X11_238 rfl rfl rfl ?_
      refine mm_iret (pc := 47) dX11_outcome_47 rfl ?_
      subst c1
      exact gP_ok hC (by unfold sp_outcome; rw [if_neg (by decide), if_pos rfl, t1])
    | 2, ht_ =>
      cases ht_
      have c1 := mm_swe (v := 2) hx_ (by decide)
      refine mm_aload_n (pc := 48) dX11_outcome_48 rfl (by first | trivial | assumption | exact mm_isr_rf _) ?_
      refine cw_grS (pc := 49) 11 _ 6 hC (rfl) rfl (n11) dX11_outcome_49 fl_X11_39 rfl rfl rfl (q6) ?_
      refine cw_gi (pc := 52) 8 _ 2 hC (rfl) rfl (n8) dX11_outcome_52 fl_X11_241 rfl rfl rfl ?_
      refine mm_iret (pc := 55) dX11_outcome_55 rfl ?_
      subst c1
      exact gP_ok hC (by unfold sp_outcome; rw [if_neg (by decide), if_neg (by decide), if_pos rfl, t2])
    | 3, ht_ =>
      cases ht_
      have c1 := mm_swe (v := 3) hx_ (by decide)
      refine mm_aload_n (pc := 56) dX11_outcome_56 rfl (by first | trivial | assumption | exact mm_isr_rf _) ?_
      refine cw_grS (pc := 57) 11 _ 6 hC (rfl) rfl (n11) dX11_outcome_57 fl_X11_39 rfl rfl rfl (q6) ?_
      refine cw_gi (pc := 60) 8 _ 3 hC (rfl) rfl (n8) dX11_outcome_60 fl_X11_244 rfl rfl rfl ?_
      refine mm_iret (pc := 63) dX11_outcome_63 rfl ?_
      subst c1
      exact gP_ok hC (by unfold sp_outcome; rw [if_neg (by decide), if_neg (by decide), if_neg (by decide), if_pos rfl, t3])
    | n_ + 4, ht_ => cases ht_
  · refine mm_aload_n (pc := 64) dX11_outcome_64 rfl (by first | trivial | assumption | exact mm_isr_rf _) ?_
    refine mm_iconst (pc := 65) (v := (-1)) dX11_outcome_65 (by decide) ?_
    refine mm_callV (pc := 66) (As := [_]) (kd := ?kd_66_6) (fs := ?fs_66_6) dX11_outcome_66 vl_X11_96 (tl_ok (c := 1) n11 n13 f9 rfl (by decide) (by decide) hC) ?hc_66_6 ?hk_66_6 rfl rfl (Nat.le_of_ble_eq_true rfl) ?_; (case hc_66_6 => exact cw_cell (f := 11) hC rfl rfl n11); (case hk_66_6 => rfl)
    rintro _ h66 ⟨hC, e66, rfl⟩
    refine mm_iret (pc := 69) dX11_outcome_69 rfl ?_
    exact gP_no hC e66 (by unfold sp_outcome; rw [if_neg (mm_swn (v := 0) (c1 0 (by decide)) (by decide)), if_neg (mm_swn (v := 1) (c1 1 (by decide)) (by decide)), if_neg (mm_swn (v := 2) (c1 2 (by decide)) (by decide)), if_neg (mm_swn (v := 3) (c1 3 (by decide)) (by decide))]; rfl) (by decide)

theorem sd_no {G : mm_G} {L : Nat × Nat} {d : Nat} {h : mm_H} {h0 : mm_H} {ad : Nat → Nat → Nat} {C : cw_C} {M : mw_S} {ab : Nat → Option Nat} {nk np : Nat} {i : Int32} (hG : rlG ad C M ab nk np) {nb nt : Nat} (hr : rnR ad C M nb nt) (hi : sp_in i (nI nt) = 0) (hC : cw ad h0 C h) : mm_Ok G mX11_said L (d + 2) [.ref (ad 11 0), .int i] h (fun r h1 => gP ad h0 C h (sp_said M i) r h1) := by
  refine mm_Ok.of [(0, .ref (ad 11 0)), (1, .int i)] rfl kX11_said.2.2.2.2.2 rfl (fun A => ?_)
  obtain ⟨hR, hE, ⟨n11, n13⟩, f3, f9, s3, s19⟩ := id hG
  have n7 := hR.1.1
  have hk40 := hR.2.1.1
  obtain ⟨⟨n8, n14, n15⟩, ⟨nb4, nt4⟩, q6, ⟨t0, t1, t2, t3⟩, ⟨s68, s72⟩, ⟨y7, y8, y9, y10⟩, hB, hT⟩ := id hr
  have m0 : 0 < cN C 14 := by omega
  have m1 : 1 < cN C 14 := by omega
  have m2 : 2 < cN C 14 := by omega
  refine mm_iload_n (pc := 0) dX11_said_0 rfl ?_
  refine mm_if_lt (pc := 1) (tgt := 27) dX11_said_1 (by decide) (fun c1 => ?_) (fun c1 => ?_)
  · refine mm_aload_n (pc := 27) dX11_said_27 rfl (by first | trivial | assumption | exact mm_isr_rf _) ?_
    refine mm_iconst (pc := 28) (v := (-1)) dX11_said_28 (by decide) ?_
    refine mm_callV (pc := 29) (As := [_]) (kd := ?kd_29_7) (fs := ?fs_29_7) dX11_said_29 vl_X11_96 (tl_ok (c := 1) n11 n13 f9 rfl (by decide) (by decide) hC) ?hc_29_7 ?hk_29_7 rfl rfl (Nat.le_of_ble_eq_true rfl) ?_; (case hc_29_7 => exact cw_cell (f := 11) hC rfl rfl n11); (case hk_29_7 => rfl)
    rintro _ h29 ⟨hC, e29, rfl⟩
    refine mm_iret (pc := 32) dX11_said_32 rfl ?_
    exact gP_no hC e29 (by unfold sp_said; first | (rw [if_pos c1]; rfl) | (rw [if_neg c1, s72, if_pos c12]; rfl)) (by decide)
  · refine mm_iload_n (pc := 4) dX11_said_4 rfl ?_
    refine mm_aload_n (pc := 5) dX11_said_5 rfl (by first | trivial | assumption | exact mm_isr_rf _) ?_
    refine cw_grS (pc := 6) 11 _ 6 hC (rfl) rfl (n11) dX11_said_6 fl_X11_39 rfl rfl rfl (q6) ?_
    refine cw_gi (pc := 9) 8 _ 2 hC (rfl) rfl (n8) dX11_said_9 fl_X11_241 rfl rfl rfl ?_
    refine mm_topi _ (t2.trans s72) ?_
    refine mm_icmp_ge (pc := 12) (tgt := 27) dX11_said_12 (by decide) (fun c12 => ?_) (fun c12 => absurd (by unfold sp_in at hi; rw [if_neg c1] at hi; by_cases z : nI nt ≤ i; exact z; rw [if_neg z] at hi; exact absurd hi (by decide)) c12)
    refine mm_aload_n (pc := 27) dX11_said_27 rfl (by first | trivial | assumption | exact mm_isr_rf _) ?_
    refine mm_iconst (pc := 28) (v := (-1)) dX11_said_28 (by decide) ?_
    refine mm_callV (pc := 29) (As := [_]) (kd := ?kd_29_8) (fs := ?fs_29_8) dX11_said_29 vl_X11_96 (tl_ok (c := 1) n11 n13 f9 rfl (by decide) (by decide) hC) ?hc_29_8 ?hk_29_8 rfl rfl (Nat.le_of_ble_eq_true rfl) ?_; (case hc_29_8 => exact cw_cell (f := 11) hC rfl rfl n11); (case hk_29_8 => rfl)
    rintro _ h29 ⟨hC, e29, rfl⟩
    refine mm_iret (pc := 32) dX11_said_32 rfl ?_
    exact gP_no hC e29 (by unfold sp_said; first | (rw [if_pos c1]; rfl) | (rw [if_neg c1, s72, if_pos c12]; rfl)) (by decide)

theorem sd_in {G : mm_G} {L : Nat × Nat} {d : Nat} {h : mm_H} {h0 : mm_H} {ad : Nat → Nat → Nat} {C : cw_C} {M : mw_S} {ab : Nat → Option Nat} {nk np : Nat} {i : Nat} (hG : rlG ad C M ab nk np) {nb nt : Nat} (hr : rnR ad C M nb nt) (hi : i < nt) (hC : cw ad h0 C h) : mm_Ok G mX11_said L (d + 2) [.ref (ad 11 0), .int (nI i)] h (fun r h1 => gP ad h0 C h (sp_said M (nI i)) r h1) := by
  refine mm_Ok.of [(0, .ref (ad 11 0)), (1, .int (nI i))] rfl kX11_said.2.2.2.2.2 rfl (fun A => ?_)
  obtain ⟨hR, hE, ⟨n11, n13⟩, f3, f9, s3, s19⟩ := id hG
  have n7 := hR.1.1
  have hk40 := hR.2.1.1
  obtain ⟨⟨n8, n14, n15⟩, ⟨nb4, nt4⟩, q6, ⟨t0, t1, t2, t3⟩, ⟨s68, s72⟩, ⟨y7, y8, y9, y10⟩, hB, hT⟩ := id hr
  have m0 : 0 < cN C 14 := by omega
  have m1 : 1 < cN C 14 := by omega
  have m2 : 2 < cN C 14 := by omega
  refine mm_iload_n (pc := 0) dX11_said_0 rfl ?_
  refine mm_if_lt (pc := 1) (tgt := 27) dX11_said_1 (by decide) (fun c1 => absurd c1 (nI_pos (by omega))) (fun c1 => ?_)
  refine mm_iload_n (pc := 4) dX11_said_4 rfl ?_
  refine mm_aload_n (pc := 5) dX11_said_5 rfl (by first | trivial | assumption | exact mm_isr_rf _) ?_
  refine cw_grS (pc := 6) 11 _ 6 hC (rfl) rfl (n11) dX11_said_6 fl_X11_39 rfl rfl rfl (q6) ?_
  refine cw_gi (pc := 9) 8 _ 2 hC (rfl) rfl (n8) dX11_said_9 fl_X11_241 rfl rfl rfl ?_
  refine mm_topi _ (t2.trans s72) ?_
  refine mm_icmp_ge (pc := 12) (tgt := 27) dX11_said_12 (by decide) (fun c12 => absurd c12 (nI_ge hi (by omega))) (fun c12 => ?_)
  refine mm_iload_n (pc := 15) dX11_said_15 rfl ?_
  refine mm_aload_n (pc := 16) dX11_said_16 rfl (by first | trivial | assumption | exact mm_isr_rf _) ?_
  refine cw_grS (pc := 17) 11 _ 6 hC (rfl) rfl (n11) dX11_said_17 fl_X11_39 rfl rfl rfl (q6) ?_
  refine cw_grS (pc := 20) 8 _ 10 hC (rfl) rfl (n8) dX11_said_20 fl_X11_256 rfl rfl rfl (y10) ?_
  refine cw_alen (pc := 23) 15 _ hC (rfl) rfl (n15) dX11_said_23 rfl rfl ?_
  refine mm_icmp_lt (pc := 24) (tgt := 33) dX11_said_24 (by decide) (fun c24 => ?_) (fun c24 => absurd (nI_lt (b := 400) (by omega) (by decide)) c24)
  refine mm_aload_n (pc := 33) dX11_said_33 rfl (by first | trivial | assumption | exact mm_isr_rf _) ?_
  refine cw_grS (pc := 34) 11 _ 6 hC (rfl) rfl (n11) dX11_said_34 fl_X11_39 rfl rfl rfl (q6) ?_
  refine cw_grS (pc := 37) 8 _ 10 hC (rfl) rfl (n8) dX11_said_37 fl_X11_256 rfl rfl rfl (y10) ?_
  refine mm_iload_n (pc := 40) dX11_said_40 rfl ?_
  refine cw_iald (pc := 41) 15 0 i hC (rfl) rfl (n15) dX11_said_41 rfl (by first | with_reducible rfl | assumption | rfl) (by show i < 400; omega) (by omega) rfl ?_
  refine mm_iret (pc := 42) dX11_said_42 rfl ?_
  exact gP_ok hC (by unfold sp_said; rw [if_neg c1, s72, if_neg c12, nI_clamp (by omega), hT i hi])

