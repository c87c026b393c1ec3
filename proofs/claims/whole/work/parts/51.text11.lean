theorem rk_91 {G : mm_G} {L : Nat × Nat} {d : Nat} {hb h : mm_H} {m : Nat} {ad : Nat → Nat} {tb : Nat → Nat} {n a0 k : Nat} {u : Nat → Nat → Option Nat} {x : Option Nat} {A : Nat → Prop} {M : mw_S} {t : Nat} (hL : LT G m ad hb) (hk : k < 50) (hI : pI tb n a0 M t) (hN : nmT m ad hb (mUN u x M) 4 100 k) (hL1 : h.2.1 + 12 ≤ L.1) (hL2 : h.2.2 + 98 ≤ L.2) (hW : mw_W m ad hb (mUN u x (kM2 tb n k M t)) h) (Q : Option Value → mm_H → Prop) (hQ : (∀ r h2, (mw_W m ad hb (mUN u x (pK3 tb n k (pT tb n (pw tb n (kM2 tb n k M t) (t + 1)) (t + 1 + 1) 26)).2.1) h2 ∧ h2.2.1 ≤ h.2.1 + 12 ∧ h2.2.2 ≤ h.2.2 + 98 ∧ r = some (.int (pK3 tb n k (pT tb n (pw tb n (kM2 tb n k M t) (t + 1)) (t + 1 + 1) 26)).1)) → Q r h2)) : mm_Run G mX12_readKind A L (d + 30) 91 [(1, .int (nI k)), (0, .ref m)] [] h Q := by
  have hI2 : pI tb n a0 (kM2 tb n k M t) (t + 1) := hI.w.knm
  have hI3 : pI tb n a0 (pw tb n (kM2 tb n k M t) (t + 1)) (t + 1 + 1) := hI2.w
  have hI4 : pI tb n a0 (kM4 tb n k M t) (t + 1 + 1 + 1) := hI3.w
  have hN4 : nmT m ad hb (mUN u x (kM4 tb n k M t)) 4 100 k := hN.same (fun i _ => rfl) (fun i hi => by
    show (kM2 tb n k M t).2.2.2.1 100 i = _
    unfold kM2
    rw [rm_knm_W]
    exact mw_u2_ne _ _ (by omega))
  refine mm_aload_n (pc := 91) dX12_readKind_91 rfl (by first | trivial | assumption | exact mm_isr_rf _) ?_
  refine mm_callV (pc := 92) (As := []) (kd := ?kd_92_1) (fs := ?fs_92_1) dX12_readKind_92 vl_X12_284 (ok_wordC (M := mUN u x (kM2 tb n k M t)) (t := t + 1) hI2.U.1 hW) ?hc_92_1 ?hk_92_1 rfl rfl (Nat.le_of_ble_eq_true rfl) ?_; (case hc_92_1 => exact hW.1); (case hk_92_1 => rfl)
  rintro _ h92 ⟨hW, e92, rfl⟩
  refine mm_aload_n (pc := 95) dX12_readKind_95 rfl (by first | trivial | assumption | exact mm_isr_rf _) ?_
  refine mm_ldcSw (pc := 96) (i := 17) dX12_readKind_96 rfl ?_
  refine mm_callV (pc := 99) (As := [_]) (kd := ?kd_99_2) (fs := ?fs_99_2) dX12_readKind_99 vl_X12_302 (ok_takeC (M := mUN u x (pw tb n (kM2 tb n k M t) (t + 1))) (t := (t + 1 + 1)) hI3.U.1 hI3.2.1 hL 17 26 (w := [117, 110, 100, 101, 114]) (by decide +kernel) (by decide +kernel) hW) ?hc_99_2 ?hk_99_2 rfl rfl (Nat.le_of_ble_eq_true rfl) ?_; (case hc_99_2 => exact hW.1); (case hk_99_2 => rfl)
  rintro _ h99 ⟨hW, e99, rfl⟩
  rw [pT_U] at hW ⊢
  refine mm_if_eq (pc := 102) (tgt := 112) dX12_readKind_102 (by decide) (fun c102 => ?_) (fun c102 => ?_)
  · have c102 : (pT tb n (pw tb n (kM2 tb n k M t) (t + 1)) (t + 1 + 1) 26).1 = 0 := c102
    have n102 : ¬ cd tb n (t + 1 + 1) = 26 := by
      intro z
      have z2 : (1 : Int32) = 0 := by
        have z3 := c102
        unfold pT at z3
        rw [if_pos z] at z3
        exact z3
      exact absurd z2 (by decide)
    have e102 : (pT tb n (pw tb n (kM2 tb n k M t) (t + 1)) (t + 1 + 1) 26) = (0, pf tb n (pw tb n (kM2 tb n k M t) (t + 1)) (t + 1 + 1), (t + 1 + 1)) := by unfold pT; rw [if_neg n102]
    rw [e102] at hW
    have hf0 : (mUN u x (pf tb n (pw tb n (kM2 tb n k M t) (t + 1)) (t + 1 + 1))).1 30 = 0 := rfl
    refine mm_aload_n (pc := 112) dX12_readKind_112 rfl (by first | trivial | assumption | exact mm_isr_rf _) ?_
    refine mm_aload_n (pc := 113) dX12_readKind_113 rfl (by first | trivial | assumption | exact mm_isr_rf _) ?_
    refine mw_gets (pc := 114) 27 hW dX12_readKind_114 fl_X12_212 rfl rfl ?_
    refine mm_callV (pc := 117) (As := [_]) (kd := ?kd_117_3) (fs := ?fs_117_3) dX12_readKind_117 vl_X12_281 (ok_X12_fails0 hf0 hW) ?hc_117_3 ?hk_117_3 rfl rfl (Nat.le_of_ble_eq_true rfl) ?_; (case hc_117_3 => exact hW.1); (case hk_117_3 => rfl)
    rintro _ h117 ⟨hW, e117, rfl⟩
    refine mm_zret (pc := 120) dX12_readKind_120 rfl (by first | rfl | decide) ?_
    refine hQ _ _ ?_
    unfold pK3
    rw [if_pos c102]
    exact ⟨by rw [e102]; exact hW, by rw [e117, e99, e92]; omega, by rw [e117, e99, e92]; omega, by rw [c102]⟩
  · have c102 : ¬ (pT tb n (pw tb n (kM2 tb n k M t) (t + 1)) (t + 1 + 1) 26).1 = 0 := c102
    have y102 : cd tb n (t + 1 + 1) = 26 := Classical.not_not.mp (fun z => c102 (by unfold pT; rw [if_neg z]))
    have hTK : (pT tb n (pw tb n (kM2 tb n k M t) (t + 1)) (t + 1 + 1) 26) = (1, (kM4 tb n k M t), (t + 1 + 1 + 1)) := by unfold pT; rw [if_pos y102]; rfl
    rw [hTK] at hW
    have hW : mw_W m ad hb (mUN u x (kM4 tb n k M t)) h99 := hW
    refine mm_aload_n (pc := 105) dX12_readKind_105 rfl (by first | trivial | assumption | exact mm_isr_rf _) ?_
    refine mm_callV (pc := 106) (As := []) (kd := ?kd_106_4) (fs := ?fs_106_4) dX12_readKind_106 vl_X12_305 (ok_isName (M := mUN u x (kM4 tb n k M t)) (t := (t + 1 + 1 + 1)) hI4.U.1 hL (by rw [e99, e92]; omega) (by rw [e99, e92]; omega) hW) ?hc_106_4 ?hk_106_4 rfl rfl (Nat.le_of_ble_eq_true rfl) ?_; (case hc_106_4 => exact hW.1); (case hk_106_4 => rfl)
    rintro _ h106 ⟨rfl, x106, b106, s106⟩
    rw [e99, e92] at b106 s106
    have hW := hW.ext x106
    refine mm_if_ne (pc := 109) (tgt := 121) dX12_readKind_109 (by decide) (fun c109 => ?_) (fun c109 => ?_)
    · have y109 := bI_n c109
      have hk3 := ((tkC_2 hI4.1.c).mp y109).1
      have lt3 : ltr (wo tb n (t + 1 + 1 + 1)) := ⟨wo_asc hk3, (wo_len8 hk3).1⟩
      refine mm_aload_n (pc := 121) dX12_readKind_121 rfl (by first | trivial | assumption | exact mm_isr_rf _) ?_
      refine mw_geta (pc := 122) 6 hW dX12_readKind_122 fl_X12_26 rfl rfl ?_
      refine mm_iload_n (pc := 125) dX12_readKind_125 rfl ?_
      refine mm_aload_n (pc := 126) dX12_readKind_126 rfl (by first | trivial | assumption | exact mm_isr_rf _) ?_
      refine mm_aload_n (pc := 127) dX12_readKind_127 rfl (by first | trivial | assumption | exact mm_isr_rf _) ?_
      refine mm_callV (pc := 128) (As := []) (kd := ?kd_128_5) (fs := ?fs_128_5) dX12_readKind_128 vl_X12_254 (ok_toldC (M := mUN u x (kM4 tb n k M t)) (t := (t + 1 + 1 + 1)) hI4.U.1 hk3 (by omega) (by omega) hW) ?hc_128_5 ?hk_128_5 rfl rfl (Nat.le_of_ble_eq_true rfl) ?_; (case hc_128_5 => exact hW.1); (case hk_128_5 => rfl)
      rintro _ h128 ⟨a128, rfl, s128, x128, b128, t128, -⟩
      have hW := hW.ext x128
      refine mm_iload_n (pc := 131) dX12_readKind_131 rfl ?_
      refine mm_callV (pc := 132) (As := [_, _]) (kd := ?kd_132_6) (fs := ?fs_132_6) dX12_readKind_132 vl_X12_342 (ok_kindOf (M := mUN u x (kM4 tb n k M t)) (bs := wo tb n (t + 1 + 1 + 1)) (k := k) (hN4.keep hW) s128 lt3 (by omega) hW) ?hc_132_6 ?hk_132_6 rfl rfl (Nat.le_of_ble_eq_true rfl) ?_; (case hc_132_6 => exact hW.1); (case hk_132_6 => rfl)
      rintro _ _ ⟨rfl, rfl⟩
      refine mw_iast (pc := 135) 6 k hW dX12_readKind_135 rfl rfl (by first | with_reducible rfl | assumption | rfl) (by show _ < 50; omega) (by omega) (fun h135 hW e135 => ?_)
      refine mm_aload_n (pc := 136) dX12_readKind_136 rfl (by first | trivial | assumption | exact mm_isr_rf _) ?_
      refine mw_geta (pc := 137) 6 hW dX12_readKind_137 fl_X12_26 rfl rfl ?_
      refine mm_iload_n (pc := 140) dX12_readKind_140 rfl ?_
      refine mw_iald (pc := 141) 6 k hW dX12_readKind_141 rfl rfl (by first | with_reducible rfl | assumption | rfl) (by show _ < 50; omega) (by omega) ?_
      refine mm_topi (oI (kfi ((kM4 tb n k M t).2.2.2.1 100) (spL (wo tb n (t + 1 + 1 + 1))) k)) (mw_u2_eq _ _ _ _) ?_
      refine mm_if_ge (pc := 142) (tgt := 154) dX12_readKind_142 (by decide) (fun c142 => ?_) (fun c142 => ?_)
      · have hb1 : h135.2.1 ≤ h.2.1 + 12 := by rw [e135]; omega
        have hb2 : h135.2.2 ≤ h.2.2 + 98 := by rw [e135]; omega
        refine mm_weakK (rk_154 (u := u) (x := x) (M := (kM4 tb n k M t)) (t := (t + 1 + 1 + 1)) (p := qs tb n (t + 1 + 1 + 1)) (ab := (kfi ((kM4 tb n k M t).2.2.2.1 100) (spL (wo tb n (t + 1 + 1 + 1))) k)) (w := (spL (wo tb n (t + 1 + 1 + 1)))) hL hk hI4 (by rw [if_neg (fun z => by rw [z] at c142; exact absurd c142 (by decide))]; exact hW) Q ?_) (And.intro rfl (And.intro rfl trivial))
        rintro r h2 ⟨w1, w2, w3⟩
        refine hQ _ _ ?_
        unfold pK3
        rw [if_neg c102, hTK]
        unfold pK4
        rw [if_pos y109]
        exact ⟨w1, by rw [w2]; exact hb1, by rw [w2]; exact hb2, w3⟩
      · refine mm_aload_n (pc := 145) dX12_readKind_145 rfl (by first | trivial | assumption | exact mm_isr_rf _) ?_
        refine mm_iconst (pc := 146) (v := 2) dX12_readKind_146 (by decide) ?_
        refine mm_aload_n (pc := 147) dX12_readKind_147 rfl (by first | trivial | assumption | exact mm_isr_rf _) ?_
        refine mw_gets (pc := 148) 27 hW dX12_readKind_148 fl_X12_212 rfl rfl ?_
        refine mm_callV (pc := 151) (As := [_, _]) (kd := ?kd_151_7) (fs := ?fs_151_7) dX12_readKind_151 vl_X12_333 (ok_X12_faulty hW) ?hc_151_7 ?hk_151_7 rfl rfl (Nat.le_of_ble_eq_true rfl) ?_; (case hc_151_7 => exact hW.1); (case hk_151_7 => rfl)
        rintro _ h151 ⟨hW, e151, rfl⟩
        have hb1 : h151.2.1 ≤ h.2.1 + 12 := by rw [e151, e135]; omega
        have hb2 : h151.2.2 ≤ h.2.2 + 98 := by rw [e151, e135]; omega
        refine mm_weakK (rk_154 (u := u) (x := x) (M := (kM4 tb n k M t)) (t := (t + 1 + 1 + 1)) (p := qs tb n (t + 1 + 1 + 1)) (ab := (kfi ((kM4 tb n k M t).2.2.2.1 100) (spL (wo tb n (t + 1 + 1 + 1))) k)) (w := (spL (wo tb n (t + 1 + 1 + 1)))) hL hk hI4 (by rw [if_pos ((oI_lt (kfi_lt (by omega))).mp (Int32.not_le.mp c142)), ← rm_faulty_U]; exact hW) Q ?_) (And.intro rfl (And.intro rfl trivial))
        rintro r h2 ⟨w1, w2, w3⟩
        refine hQ _ _ ?_
        unfold pK3
        rw [if_neg c102, hTK]
        unfold pK4
        rw [if_pos y109]
        exact ⟨w1, by rw [w2]; exact hb1, by rw [w2]; exact hb2, w3⟩
    · have n109 := bI_d.mp c109
      refine mm_aload_n (pc := 112) dX12_readKind_112 rfl (by first | trivial | assumption | exact mm_isr_rf _) ?_
      refine mm_aload_n (pc := 113) dX12_readKind_113 rfl (by first | trivial | assumption | exact mm_isr_rf _) ?_
      refine mw_gets (pc := 114) 27 hW dX12_readKind_114 fl_X12_212 rfl rfl ?_
      refine mm_callV (pc := 117) (As := [_]) (kd := ?kd_117_8) (fs := ?fs_117_8) dX12_readKind_117 vl_X12_281 (ok_failC (M := mUN u x (kM4 tb n k M t)) (t := (t + 1 + 1 + 1)) hI4.U.1 hI4.2.1 hW) ?hc_117_8 ?hk_117_8 rfl rfl (Nat.le_of_ble_eq_true rfl) ?_; (case hc_117_8 => exact hW.1); (case hk_117_8 => rfl)
      rintro _ h117 ⟨hW, e117, rfl⟩
      refine mm_zret (pc := 120) dX12_readKind_120 rfl (by first | rfl | decide) ?_
      refine hQ _ _ ?_
      unfold pK3
      rw [if_neg c102, hTK]
      unfold pK4
      rw [if_neg n109]
      exact ⟨hW, by rw [e117]; omega, by rw [e117]; omega, rfl⟩

theorem ok_readKind {G : mm_G} {L : Nat × Nat} {d : Nat} {h : mm_H} {m : Nat} {ad : Nat → Nat} {tb : Nat → Nat} {n a0 nk nn t : Nat} {M : mw_S} (hI : pI tb n a0 M t) (hs3 : M.1 3 = nI nk) (hnk : nk ≤ 40) (hs35 : M.1 35 = nI nn) (hnn : nn ≤ 10) (hN : nmT m ad h M 4 100 (nk + nn)) (hL : LT G m ad h) (hL1 : h.2.1 + 24 ≤ L.1) (hL2 : h.2.2 + 196 ≤ L.2) (hW : mw_W m ad h M h) : mm_Ok G mX12_readKind L (d + 30) [.ref m] h (fun r h1 => ∃ u, mw_W m ad h (mUN u M.2.1 (pKind tb n M t).2.1) h1 ∧ h1.2.1 ≤ h.2.1 + 24 ∧ h1.2.2 ≤ h.2.2 + 196 ∧ r = some (.int (pKind tb n M t).1) ∧ (∀ j i, ¬ (j = 4 ∧ i = nk + nn) → u j i = M.2.2.2.2 j i) ∧ (¬ (pKind tb n M t).1 = 0 → ∃ a, u 4 (nk + nn) = some a ∧ sO m ad h1 a ((wo tb n (t + 1)).map nI) ∧ ltr (wo tb n (t + 1)))) := by
  refine mm_Ok.of [(0, .ref m)] rfl kX12_readKind.2.2.2.2.2 rfl (fun A => ?_)
  refine mm_aload_n (pc := 0) dX12_readKind_0 rfl (by first | trivial | assumption | exact mm_isr_rf _) ?_
  refine mm_ldcSw (pc := 1) (i := 16) dX12_readKind_1 rfl ?_
  refine mm_callV (pc := 4) (As := [_]) (kd := ?kd_4_9) (fs := ?fs_4_9) dX12_readKind_4 vl_X12_263 (ok_isC hI.1 hL 16 25 (w := [107, 105, 110, 100]) (by decide +kernel) (by decide +kernel) hW) ?hc_4_9 ?hk_4_9 rfl rfl (Nat.le_of_ble_eq_true rfl) ?_; (case hc_4_9 => exact hW.1); (case hk_4_9 => rfl)
  rintro _ _ ⟨rfl, rfl⟩
  refine mm_if_eq (pc := 7) (tgt := 19) dX12_readKind_7 (by decide) (fun c7 => ?_) (fun c7 => ?_)
  · have n7 := bI_d.mp c7
    refine mm_aload_n (pc := 19) dX12_readKind_19 rfl (by first | trivial | assumption | exact mm_isr_rf _) ?_
    refine mm_aload_n (pc := 20) dX12_readKind_20 rfl (by first | trivial | assumption | exact mm_isr_rf _) ?_
    refine mw_gets (pc := 21) 27 hW dX12_readKind_21 fl_X12_212 rfl rfl ?_
    refine mm_callV (pc := 24) (As := [_]) (kd := ?kd_24_10) (fs := ?fs_24_10) dX12_readKind_24 vl_X12_281 (ok_failC hI.1 hI.2.1 hW) ?hc_24_10 ?hk_24_10 rfl rfl (Nat.le_of_ble_eq_true rfl) ?_; (case hc_24_10 => exact hW.1); (case hk_24_10 => rfl)
    rintro _ h24 ⟨hW, e24, rfl⟩
    refine mm_zret (pc := 27) dX12_readKind_27 rfl (by first | rfl | decide) ?_
    unfold pKind
    rw [if_neg n7]
    exact ⟨M.2.2.2.2, hW, by rw [e24]; omega, by rw [e24]; omega, rfl, fun _ _ _ => rfl, fun z => absurd rfl z⟩
  · have y7 := bI_n c7
    refine mm_aload_n (pc := 10) dX12_readKind_10 rfl (by first | trivial | assumption | exact mm_isr_rf _) ?_
    refine mw_gets (pc := 11) 35 hW dX12_readKind_11 fl_X12_339 rfl rfl ?_
    refine mm_bipush (pc := 14) (v := 10) dX12_readKind_14 (by decide) ?_
    refine mm_icmp_ne (pc := 16) (tgt := 28) dX12_readKind_16 (by decide) (fun c16 => ?_) (fun c16 => ?_)
    · have hnn10 : nn < 10 := by
        rcases Nat.lt_or_ge nn 10 with z | z
        · exact z
        · exact absurd (by rw [hs35, show nn = 10 by omega]; decide) c16
      have hI1 := hI.w
      refine mm_aload_n (pc := 28) dX12_readKind_28 rfl (by first | trivial | assumption | exact mm_isr_rf _) ?_
      refine mm_callV (pc := 29) (As := []) (kd := ?kd_29_11) (fs := ?fs_29_11) dX12_readKind_29 vl_X12_284 (ok_wordC hI.1 hW) ?hc_29_11 ?hk_29_11 rfl rfl (Nat.le_of_ble_eq_true rfl) ?_; (case hc_29_11 => exact hW.1); (case hk_29_11 => rfl)
      rintro _ h29 ⟨hW, e29, rfl⟩
      refine mm_aload_n (pc := 32) dX12_readKind_32 rfl (by first | trivial | assumption | exact mm_isr_rf _) ?_
      refine mm_callV (pc := 33) (As := []) (kd := ?kd_33_12) (fs := ?fs_33_12) dX12_readKind_33 vl_X12_305 (ok_isName (M := pw tb n M t) (t := t + 1) hI1.1 hL (by rw [e29]; omega) (by rw [e29]; omega) hW) ?hc_33_12 ?hk_33_12 rfl rfl (Nat.le_of_ble_eq_true rfl) ?_; (case hc_33_12 => exact hW.1); (case hk_33_12 => rfl)
      rintro _ h33 ⟨rfl, x33, b33, s33⟩
      rw [e29] at b33 s33
      have hW := hW.ext x33
      refine mm_if_ne (pc := 36) (tgt := 48) dX12_readKind_36 (by decide) (fun c36 => ?_) (fun c36 => ?_)
      · have y36 := bI_n c36
        have hk1 := ((tkC_2 hI1.1.c).mp y36).1
        have lt1 : ltr (wo tb n (t + 1)) := ⟨wo_asc hk1, (wo_len8 hk1).1⟩
        have hR : (pKind tb n M t) = pK3 tb n (nk + nn) (pT tb n (pw tb n (kM2 tb n (nk + nn) M t) (t + 1)) (t + 1 + 1) 26) := by
          unfold pKind
          rw [if_pos y7, if_neg c16, show (M.1 3 + M.1 35).toNatClampNeg = nk + nn by rw [hs3, hs35, nI_add, nI_clamp (by omega)]]
          unfold pK2
          rw [if_pos y36]
          rfl
        refine mm_aload_n (pc := 48) dX12_readKind_48 rfl (by first | trivial | assumption | exact mm_isr_rf _) ?_
        refine mw_gets (pc := 49) 3 hW dX12_readKind_49 fl_X12_180 rfl rfl ?_
        refine mm_aload_n (pc := 52) dX12_readKind_52 rfl (by first | trivial | assumption | exact mm_isr_rf _) ?_
        refine mw_gets (pc := 53) 35 hW dX12_readKind_53 fl_X12_339 rfl rfl ?_
        refine mm_iadd (pc := 56) dX12_readKind_56 ?_
        refine mm_topi (nI (nk + nn)) (show M.1 3 + M.1 35 = _ by rw [hs3, hs35, nI_add]) ?_
        refine mm_istore_n (pc := 57) dX12_readKind_57 rfl (Nat.le_of_ble_eq_true rfl) ?_
        refine mm_aload_n (pc := 58) dX12_readKind_58 rfl (by first | trivial | assumption | exact mm_isr_rf _) ?_
        refine mw_geta (pc := 59) 4 hW dX12_readKind_59 fl_X12_19 rfl rfl ?_
        refine mm_iload_n (pc := 62) dX12_readKind_62 rfl ?_
        refine mm_aload_n (pc := 63) dX12_readKind_63 rfl (by first | trivial | assumption | exact mm_isr_rf _) ?_
        refine mm_callV (pc := 64) (As := []) (kd := ?kd_64_13) (fs := ?fs_64_13) dX12_readKind_64 vl_X12_254 (ok_toldC (M := pw tb n M t) (t := t + 1) hI1.1 hk1 (by omega) (by omega) hW) ?hc_64_13 ?hk_64_13 rfl rfl (Nat.le_of_ble_eq_true rfl) ?_; (case hc_64_13 => exact hW.1); (case hk_64_13 => rfl)
        rintro _ h64 ⟨a64, rfl, s64, x64, b64, t64, n64⟩
        have so64 : sO m ad h64 a64 ((wo tb n (t + 1)).map nI) := sO.new hW n64 (by rw [List.length_map]; have := lt1.2; omega)
        have hW64 := hW.ext x64
        have hN64 : nmT m ad h64 (mUN (mw_setU (pw tb n M t) 4 (nk + nn) (some a64)).2.2.2.2 M.2.1 M) 4 100 (nk + nn) := (hN.keep hW64).same (fun i hi => mw_u2_ne _ _ (by omega)) (fun i _ => rfl)
        have hL64 := hL.re hW64
        have hW := hW64.re
        obtain ⟨v64, c64, -⟩ := n64
        refine mw_aast (pc := 67) 4 (nk + nn) hW dX12_readKind_67 rfl rfl (c64) (rfl) (by first | with_reducible rfl | assumption | rfl) (by show _ < 50; omega) (by omega) (fun h67 hW e67 => ?_)
        refine mm_aload_n (pc := 68) dX12_readKind_68 rfl (by first | trivial | assumption | exact mm_isr_rf _) ?_
        refine mm_aload_n (pc := 69) dX12_readKind_69 rfl (by first | trivial | assumption | exact mm_isr_rf _) ?_
        refine mw_geta (pc := 70) 4 hW dX12_readKind_70 fl_X12_19 rfl rfl ?_
        refine mm_iload_n (pc := 73) dX12_readKind_73 rfl ?_
        refine mw_aald (pc := 74) 4 (nk + nn) hW dX12_readKind_74 rfl rfl (by first | with_reducible rfl | assumption | rfl) (by show _ < 50; omega) (by omega) ?_
        rw [show (mw_setU (pw tb n M t) 4 (nk + nn) (some a64)).2.2.2.2 4 (nk + nn) = some a64 from mw_u2_eq _ _ _ _]
        show mm_Run _ _ _ _ _ _ _ (.ref a64 :: _) _ _
        refine mm_iload_n (pc := 75) dX12_readKind_75 rfl ?_
        refine mm_callV (pc := 76) (As := [_, _]) (kd := ?kd_76_14) (fs := ?fs_76_14) dX12_readKind_76 vl_X12_342 (ok_kindOf (M := mw_setU (pw tb n M t) 4 (nk + nn) (some a64)) (bs := wo tb n (t + 1)) (k := nk + nn) ((hN64.same (fun i _ => rfl) (fun i _ => rfl)).keep hW) (so64.keep hW).t lt1 (by omega) hW) ?hc_76_14 ?hk_76_14 rfl rfl (Nat.le_of_ble_eq_true rfl) ?_; (case hc_76_14 => exact hW.1); (case hk_76_14 => rfl)
        rintro _ _ ⟨rfl, rfl⟩
        have hW := (hW.gW (j := 100) (i := nk + nn) (x := spL (wo tb n (t + 1))) rfl).gh (j := 90) (i := nk + nn) (x := nI (qs tb n (t + 1))) rfl
        refine mm_if_lt (pc := 79) (tgt := 91) dX12_readKind_79 (by decide) (fun c79 => ?_) (fun c79 => ?_)
        · have c79 : oI (kfi ((pw tb n M t).2.2.2.1 100) (spL (wo tb n (t + 1))) (nk + nn)) < 0 := c79
          refine mm_weakK (rk_91 (hb := h64) (k := nk + nn) (u := (mw_setU (pw tb n M t) 4 (nk + nn) (some a64)).2.2.2.2) (x := M.2.1) (M := M) (t := t) hL64 (by omega) hI hN64 (by rw [e67]; omega) (by rw [e67]; omega) (by unfold kM2 rm_knm; rw [if_pos ((oI_lt (kfi_lt (by omega))).mp c79)]; exact hW) _ ?_) (And.intro rfl (And.intro rfl trivial))
          rintro r h2 ⟨w1, w2, w3, w4⟩
          refine ⟨(mw_setU (pw tb n M t) 4 (nk + nn) (some a64)).2.2.2.2, hW64.trans ?_, by rw [e67] at w2; omega, by rw [e67] at w3; omega, ?_, fun j i hji => mw_u2_ne _ _ hji, fun _ => ⟨a64, mw_u2_eq _ _ _ _, so64.keep w1, lt1⟩⟩
          · rw [hR]; exact w1
          · rw [hR]; exact w4
        · have c79 : ¬ oI (kfi ((pw tb n M t).2.2.2.1 100) (spL (wo tb n (t + 1))) (nk + nn)) < 0 := c79
          refine mm_aload_n (pc := 82) dX12_readKind_82 rfl (by first | trivial | assumption | exact mm_isr_rf _) ?_
          refine mm_iconst (pc := 83) (v := 2) dX12_readKind_83 (by decide) ?_
          refine mm_aload_n (pc := 84) dX12_readKind_84 rfl (by first | trivial | assumption | exact mm_isr_rf _) ?_
          refine mw_gets (pc := 85) 27 hW dX12_readKind_85 fl_X12_212 rfl rfl ?_
          refine mm_callV (pc := 88) (As := [_, _]) (kd := ?kd_88_15) (fs := ?fs_88_15) dX12_readKind_88 vl_X12_333 (ok_X12_faulty hW) ?hc_88_15 ?hk_88_15 rfl rfl (Nat.le_of_ble_eq_true rfl) ?_; (case hc_88_15 => exact hW.1); (case hk_88_15 => rfl)
          rintro _ h88 ⟨hW, e88, rfl⟩
          refine mm_weakK (rk_91 (hb := h64) (k := nk + nn) (u := (mw_setU (pw tb n M t) 4 (nk + nn) (some a64)).2.2.2.2) (x := M.2.1) (M := M) (t := t) hL64 (by omega) hI hN64 (by rw [e88, e67]; omega) (by rw [e88, e67]; omega) (by unfold kM2 rm_knm; rw [if_neg (fun z => by rw [z] at c79; exact absurd (show oI none < 0 by decide) c79), ← rm_faulty_U]; exact hW) _ ?_) (And.intro rfl (And.intro rfl trivial))
          rintro r h2 ⟨w1, w2, w3, w4⟩
          refine ⟨(mw_setU (pw tb n M t) 4 (nk + nn) (some a64)).2.2.2.2, hW64.trans ?_, by rw [e88, e67] at w2; omega, by rw [e88, e67] at w3; omega, ?_, fun j i hji => mw_u2_ne _ _ hji, fun _ => ⟨a64, mw_u2_eq _ _ _ _, so64.keep w1, lt1⟩⟩
          · rw [hR]; exact w1
          · rw [hR]; exact w4
      · have n36 := bI_d.mp c36
        refine mm_aload_n (pc := 39) dX12_readKind_39 rfl (by first | trivial | assumption | exact mm_isr_rf _) ?_
        refine mm_aload_n (pc := 40) dX12_readKind_40 rfl (by first | trivial | assumption | exact mm_isr_rf _) ?_
        refine mw_gets (pc := 41) 27 hW dX12_readKind_41 fl_X12_212 rfl rfl ?_
        refine mm_callV (pc := 44) (As := [_]) (kd := ?kd_44_16) (fs := ?fs_44_16) dX12_readKind_44 vl_X12_281 (ok_failC (M := pw tb n M t) (t := t + 1) hI1.1 hI1.2.1 hW) ?hc_44_16 ?hk_44_16 rfl rfl (Nat.le_of_ble_eq_true rfl) ?_; (case hc_44_16 => exact hW.1); (case hk_44_16 => rfl)
        rintro _ h44 ⟨hW, e44, rfl⟩
        refine mm_zret (pc := 47) dX12_readKind_47 rfl (by first | rfl | decide) ?_
        unfold pKind
        rw [if_pos y7, if_neg c16]
        unfold pK2
        rw [if_neg n36]
        exact ⟨M.2.2.2.2, hW, by rw [e44]; omega, by rw [e44]; omega, rfl, fun _ _ _ => rfl, fun z => absurd rfl z⟩
    · refine mm_aload_n (pc := 19) dX12_readKind_19 rfl (by first | trivial | assumption | exact mm_isr_rf _) ?_
      refine mm_aload_n (pc := 20) dX12_readKind_20 rfl (by first | trivial | assumption | exact mm_isr_rf _) ?_
      refine mw_gets (pc := 21) 27 hW dX12_readKind_21 fl_X12_212 rfl rfl ?_
      refine mm_callV (pc := 24) (As := [_]) (kd := ?kd_24_17) (fs := ?fs_24_17) dX12_readKind_24 vl_X12_281 (ok_failC hI.1 hI.2.1 hW) ?hc_24_17 ?hk_24_17 rfl rfl (Nat.le_of_ble_eq_true rfl) ?_; (case hc_24_17 => exact hW.1); (case hk_24_17 => rfl)
      rintro _ h24 ⟨hW, e24, rfl⟩
      refine mm_zret (pc := 27) dX12_readKind_27 rfl (by first | rfl | decide) ?_
      unfold pKind
      rw [if_pos y7, if_pos c16]
      exact ⟨M.2.2.2.2, hW, by rw [e24]; omega, by rw [e24]; omega, rfl, fun _ _ _ => rfl, fun z => absurd rfl z⟩

