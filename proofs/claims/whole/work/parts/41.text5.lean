/-! actions of the reference -/
def rk_B (G : mm_G) (L : Nat × Nat) (m : Nat) (ad : Nat → Nat) (h0 : mm_H) (tb : Nat → Nat) (n a0 k q f deep D : Nat) : Prop :=
  ∀ (M : mw_S) (h : mm_H) (t : Nat), pI tb n a0 M t → n - qs tb n t ≤ f → mw_W m ad h0 M h → mm_Ok G mX12_readActions L D [.ref m, .int (nI k), .int (nI q), .int (nI deep)] h (fun r h1 => mw_W m ad h0 (pB tb n (pL tb n k q f) M t deep).2.1 h1 ∧ h1.2 = h.2 ∧ r = some (.int (pB tb n (pL tb n k q f) M t deep).1))

theorem ok_readParts {G : mm_G} {L : Nat × Nat} {h0 : mm_H} {m : Nat} {ad : Nat → Nat} {tb : Nat → Nat} {n a0 k q : Nat} {f d deep x t : Nat} {M : mw_S} {h : mm_H} (rec_ : ∀ j, rk_B G L m ad h0 tb n a0 k q f (deep + 1) (d + 7 + j)) (hI : pI tb n a0 M t) (hf : n - qs tb n t ≤ f) (hx : x < 4000) (hL : LT G m ad h0) (hW : mw_W m ad h0 M h) : mm_Ok G mX12_readParts L (d + 8) [.ref m, .int (nI x), .int (nI k), .int (nI q), .int (nI deep)] h (fun r h1 => mw_W m ad h0 (pPt tb n (pL tb n k q f) M t x deep).2.1 h1 ∧ h1.2 = h.2 ∧ r = some (.int (pPt tb n (pL tb n k q f) M t x deep).1)) := by
  refine mm_Ok.of [(0, .ref m), (1, .int (nI x)), (2, .int (nI k)), (3, .int (nI q)), (4, .int (nI deep))] rfl kX12_readParts.2.2.2.2.2 rfl (fun A => ?_)
  refine mm_aload_n (pc := 0) dX12_readParts_0 rfl (by first | trivial | assumption | exact mm_isr_rf _) ?_
  refine mw_geta (pc := 1) 16 hW dX12_readParts_1 fl_X12_54 rfl rfl ?_
  refine mm_iload_n (pc := 4) dX12_readParts_4 rfl ?_
  refine mm_aload_n (pc := 5) dX12_readParts_5 rfl (by first | trivial | assumption | exact mm_isr_rf _) ?_
  refine mm_iload_n (pc := 6) dX12_readParts_6 rfl ?_
  refine mm_iload_n (pc := 7) dX12_readParts_7 rfl ?_
  refine mm_iload (pc := 8) dX12_readParts_8 rfl ?_
  refine mm_iconst (pc := 10) (v := 1) dX12_readParts_10 (by decide) ?_
  refine mm_iadd (pc := 11) dX12_readParts_11 ?_
  refine mm_topi _ (nI_1 deep) ?_
  refine mm_callV (pc := 12) (As := [_, _, _]) (kd := ?kd_12_1) (fs := ?fs_12_1) dX12_readParts_12 vl_X12_365 (rec_ 0 M _ t hI hf hW) ?hc_12_1 ?hk_12_1 rfl rfl (Nat.le_of_ble_eq_true rfl) ?_; (case hc_12_1 => exact hW.1); (case hk_12_1 => rfl)
  rintro _ h12 ⟨hW, e12, rfl⟩
  refine mw_iast (pc := 15) 16 x hW dX12_readParts_15 rfl rfl (by first | with_reducible rfl | assumption | rfl) (by show _ < 4000; omega) (by omega) (fun h15 hW e15 => ?_)
  refine mm_aload_n (pc := 16) dX12_readParts_16 rfl (by first | trivial | assumption | exact mm_isr_rf _) ?_
  refine mw_geta (pc := 17) 16 hW dX12_readParts_17 fl_X12_54 rfl rfl ?_
  refine mm_iload_n (pc := 20) dX12_readParts_20 rfl ?_
  refine mw_iald (pc := 21) 16 x hW dX12_readParts_21 rfl rfl (by first | with_reducible rfl | assumption | rfl) (by show _ < 4000; omega) (by omega) ?_
  refine mm_topi (pB tb n (pL tb n k q f) M t (deep + 1)).1 (mw_u2_eq _ _ _ _) ?_
  refine mm_bipush (pc := 22) (v := (-2)) dX12_readParts_22 (by decide) ?_
  refine mm_icmp_ne (pc := 24) (tgt := 29) dX12_readParts_24 (by decide) (fun c24 => ?_) (fun c24 => ?_)
  · obtain ⟨g1, gt1⟩ := (pB_post (pL_post k q f) hI hf (deep + 1)).resolve_left c24
    have hq1 := qs_le_of (tb := tb) (n := n) gt1
    have hq2 := qs_le_of (tb := tb) (n := n) (show t ≤ t + 1 by omega)
    have g1p := (g1.sV (j := 16) (k := x) (x := (pB tb n (pL tb n k q f) M t (deep + 1)).1) rfl)
    refine mm_aload_n (pc := 29) dX12_readParts_29 rfl (by first | trivial | assumption | exact mm_isr_rf _) ?_
    refine mw_geta (pc := 30) 14 hW dX12_readParts_30 fl_X12_48 rfl rfl ?_
    refine mm_iload_n (pc := 33) dX12_readParts_33 rfl ?_
    refine mw_iald (pc := 34) 14 x hW dX12_readParts_34 rfl rfl (by first | with_reducible rfl | assumption | rfl) (by show _ < 4000; omega) (by omega) ?_
    refine mm_bipush (pc := 35) (v := 10) dX12_readParts_35 (by decide) ?_
    refine mm_icmp_eq (pc := 37) (tgt := 50) dX12_readParts_37 (by decide) (fun c37 => ?_) (fun c37 => ?_)
    · refine mm_iconst (pc := 50) (v := 1) dX12_readParts_50 (by decide) ?_
      refine mm_goto (pc := 51) (tgt := 55) dX12_readParts_51 (by decide) ?_
      refine mm_istore (pc := 55) dX12_readParts_55 rfl (Nat.le_of_ble_eq_true rfl) ?_
      refine mm_iload (pc := 57) dX12_readParts_57 rfl ?_
      refine mm_if_eq (pc := 59) (tgt := 91) dX12_readParts_59 (by decide) (fun c59 => absurd c59 (by decide)) (fun c59 => ?_)
      refine mm_aload_n (pc := 62) dX12_readParts_62 rfl (by first | trivial | assumption | exact mm_isr_rf _) ?_
      refine mm_aload_n (pc := 63) dX12_readParts_63 rfl (by first | trivial | assumption | exact mm_isr_rf _) ?_
      refine mw_geta (pc := 64) 14 hW dX12_readParts_64 fl_X12_48 rfl rfl ?_
      refine mm_iload_n (pc := 67) dX12_readParts_67 rfl ?_
      refine mw_iald (pc := 68) 14 x hW dX12_readParts_68 rfl rfl (by first | with_reducible rfl | assumption | rfl) (by show _ < 4000; omega) (by omega) ?_
      refine mm_bipush (pc := 69) (v := 10) dX12_readParts_69 (by decide) ?_
      refine mm_icmp_ne (pc := 71) (tgt := 80) dX12_readParts_71 (by decide) (fun c71 => absurd c37 c71) (fun c71 => ?_)
      refine mm_ldcSw (pc := 74) (i := 40) dX12_readParts_74 rfl ?_
      refine mm_goto (pc := 77) (tgt := 83) dX12_readParts_77 (by decide) ?_
      refine mm_callV (pc := 83) (As := [_]) (kd := ?kd_83_2) (fs := ?fs_83_2) dX12_readParts_83 vl_X12_302 (ok_takeC g1p.1 g1p.2.1 hL 40 31 (w := [114, 101, 115, 99, 117, 101]) (by decide +kernel) (by decide +kernel) hW) ?hc_83_2 ?hk_83_2 rfl rfl (Nat.le_of_ble_eq_true rfl) ?_; (case hc_83_2 => exact hW.1); (case hk_83_2 => rfl)
      rintro _ h83 ⟨hW, e83, rfl⟩
      refine mm_if_ne (pc := 86) (tgt := 91) dX12_readParts_86 (by decide) (fun c86 => ?_) (fun c86 => ?_)
      · obtain ⟨-, -, g2, gt2⟩ := (pT_post (g1.sV (j := 16) (k := x) (x := (pB tb n (pL tb n k q f) M t (deep + 1)).1) rfl) 31).resolve_left (fun z => c86 z.1)
        have := qs_le_of (tb := tb) (n := n) gt2
        have := qs_le_of (tb := tb) (n := n) (show (pB tb n (pL tb n k q f) M t (deep + 1)).2.2 ≤ (pB tb n (pL tb n k q f) M t (deep + 1)).2.2 + 1 by omega)
        refine mm_aload_n (pc := 91) dX12_readParts_91 rfl (by first | trivial | assumption | exact mm_isr_rf _) ?_
        refine mw_geta (pc := 92) 17 hW dX12_readParts_92 fl_X12_57 rfl rfl ?_
        refine mm_iload_n (pc := 95) dX12_readParts_95 rfl ?_
        refine mm_iload (pc := 96) dX12_readParts_96 rfl ?_
        refine mm_if_eq (pc := 98) (tgt := 114) dX12_readParts_98 (by decide) (fun c98 => absurd c98 (by decide)) (fun c98 => ?_)
        refine mm_aload_n (pc := 101) dX12_readParts_101 rfl (by first | trivial | assumption | exact mm_isr_rf _) ?_
        refine mm_iload_n (pc := 102) dX12_readParts_102 rfl ?_
        refine mm_iload_n (pc := 103) dX12_readParts_103 rfl ?_
        refine mm_iload (pc := 104) dX12_readParts_104 rfl ?_
        refine mm_iconst (pc := 106) (v := 1) dX12_readParts_106 (by decide) ?_
        refine mm_iadd (pc := 107) dX12_readParts_107 ?_
        refine mm_topi _ (nI_1 deep) ?_
        refine mm_callV (pc := 108) (As := [_, _, _]) (kd := ?kd_108_3) (fs := ?fs_108_3) dX12_readParts_108 vl_X12_365 (rec_ 0 (pT tb n (mw_setV (pB tb n (pL tb n k q f) M t (deep + 1)).2.1 16 x (pB tb n (pL tb n k q f) M t (deep + 1)).1) (pB tb n (pL tb n k q f) M t (deep + 1)).2.2 31).2.1 _ (pT tb n (mw_setV (pB tb n (pL tb n k q f) M t (deep + 1)).2.1 16 x (pB tb n (pL tb n k q f) M t (deep + 1)).1) (pB tb n (pL tb n k q f) M t (deep + 1)).2.2 31).2.2 g2 (by omega) hW) ?hc_108_3 ?hk_108_3 rfl rfl (Nat.le_of_ble_eq_true rfl) ?_; (case hc_108_3 => exact hW.1); (case hk_108_3 => rfl)
        rintro _ h108 ⟨hW, e108, rfl⟩
        refine mm_goto (pc := 111) (tgt := 115) dX12_readParts_111 (by decide) ?_
        refine mw_iast (pc := 115) 17 x hW dX12_readParts_115 rfl rfl (by first | with_reducible rfl | assumption | rfl) (by show _ < 4000; omega) (by omega) (fun h115 hW e115 => ?_)
        refine mm_aload_n (pc := 116) dX12_readParts_116 rfl (by first | trivial | assumption | exact mm_isr_rf _) ?_
        refine mw_geta (pc := 117) 17 hW dX12_readParts_117 fl_X12_57 rfl rfl ?_
        refine mm_iload_n (pc := 120) dX12_readParts_120 rfl ?_
        refine mw_iald (pc := 121) 17 x hW dX12_readParts_121 rfl rfl (by first | with_reducible rfl | assumption | rfl) (by show _ < 4000; omega) (by omega) ?_
        refine mm_bipush (pc := 122) (v := (-2)) dX12_readParts_122 (by decide) ?_
        refine mm_icmp_eq (pc := 124) (tgt := 131) dX12_readParts_124 (by decide) (fun c124 => ?_) (fun c124 => ?_)
        · refine mm_iconst (pc := 131) (v := 0) dX12_readParts_131 (by decide) ?_
          refine mm_zret (pc := 132) dX12_readParts_132 rfl (by first | rfl | decide) ?_
          rw [show (mw_setV (pB tb n (pL tb n k q f) (pT tb n (mw_setV (pB tb n (pL tb n k q f) M t (deep + 1)).2.1 16 x (pB tb n (pL tb n k q f) M t (deep + 1)).1) (pB tb n (pL tb n k q f) M t (deep + 1)).2.2 31).2.1 (pT tb n (mw_setV (pB tb n (pL tb n k q f) M t (deep + 1)).2.1 16 x (pB tb n (pL tb n k q f) M t (deep + 1)).1) (pB tb n (pL tb n k q f) M t (deep + 1)).2.2 31).2.2 (deep + 1)).2.1 17 x (pB tb n (pL tb n k q f) (pT tb n (mw_setV (pB tb n (pL tb n k q f) M t (deep + 1)).2.1 16 x (pB tb n (pL tb n k q f) M t (deep + 1)).1) (pB tb n (pL tb n k q f) M t (deep + 1)).2.2 31).2.1 (pT tb n (mw_setV (pB tb n (pL tb n k q f) M t (deep + 1)).2.1 16 x (pB tb n (pL tb n k q f) M t (deep + 1)).1) (pB tb n (pL tb n k q f) M t (deep + 1)).2.2 31).2.2 (deep + 1)).1).2.2.1 17 x = (pB tb n (pL tb n k q f) (pT tb n (mw_setV (pB tb n (pL tb n k q f) M t (deep + 1)).2.1 16 x (pB tb n (pL tb n k q f) M t (deep + 1)).1) (pB tb n (pL tb n k q f) M t (deep + 1)).2.2 31).2.1 (pT tb n (mw_setV (pB tb n (pL tb n k q f) M t (deep + 1)).2.1 16 x (pB tb n (pL tb n k q f) M t (deep + 1)).1) (pB tb n (pL tb n k q f) M t (deep + 1)).2.2 31).2.2 (deep + 1)).1 from mw_u2_eq _ _ _ _] at c124
          unfold pPt pPt1
          rw [if_neg c24]
          unfold pO
          rw [if_pos c37]
          unfold pO1
          rw [if_neg c86]
          unfold pO2
          rw [if_pos c124]
          exact ⟨hW, by rw [e115, e108, e83, e15, e12], rfl⟩
        · refine mm_iconst (pc := 127) (v := 1) dX12_readParts_127 (by decide) ?_
          refine mm_goto (pc := 128) (tgt := 132) dX12_readParts_128 (by decide) ?_
          refine mm_zret (pc := 132) dX12_readParts_132 rfl (by first | rfl | decide) ?_
          rw [show (mw_setV (pB tb n (pL tb n k q f) (pT tb n (mw_setV (pB tb n (pL tb n k q f) M t (deep + 1)).2.1 16 x (pB tb n (pL tb n k q f) M t (deep + 1)).1) (pB tb n (pL tb n k q f) M t (deep + 1)).2.2 31).2.1 (pT tb n (mw_setV (pB tb n (pL tb n k q f) M t (deep + 1)).2.1 16 x (pB tb n (pL tb n k q f) M t (deep + 1)).1) (pB tb n (pL tb n k q f) M t (deep + 1)).2.2 31).2.2 (deep + 1)).2.1 17 x (pB tb n (pL tb n k q f) (pT tb n (mw_setV (pB tb n (pL tb n k q f) M t (deep + 1)).2.1 16 x (pB tb n (pL tb n k q f) M t (deep + 1)).1) (pB tb n (pL tb n k q f) M t (deep + 1)).2.2 31).2.1 (pT tb n (mw_setV (pB tb n (pL tb n k q f) M t (deep + 1)).2.1 16 x (pB tb n (pL tb n k q f) M t (deep + 1)).1) (pB tb n (pL tb n k q f) M t (deep + 1)).2.2 31).2.2 (deep + 1)).1).2.2.1 17 x = (pB tb n (pL tb n k q f) (pT tb n (mw_setV (pB tb n (pL tb n k q f) M t (deep + 1)).2.1 16 x (pB tb n (pL tb n k q f) M t (deep + 1)).1) (pB tb n (pL tb n k q f) M t (deep + 1)).2.2 31).2.1 (pT tb n (mw_setV (pB tb n (pL tb n k q f) M t (deep + 1)).2.1 16 x (pB tb n (pL tb n k q f) M t (deep + 1)).1) (pB tb n (pL tb n k q f) M t (deep + 1)).2.2 31).2.2 (deep + 1)).1 from mw_u2_eq _ _ _ _] at c124
          unfold pPt pPt1
          rw [if_neg c24]
          unfold pO
          rw [if_pos c37]
          unfold pO1
          rw [if_neg c86]
          unfold pO2
          rw [if_neg c124]
          exact ⟨hW, by rw [e115, e108, e83, e15, e12], rfl⟩
      · refine mm_iconst (pc := 89) (v := 0) dX12_readParts_89 (by decide) ?_
        refine mm_zret (pc := 90) dX12_readParts_90 rfl (by first | rfl | decide) ?_
        unfold pPt pPt1
        rw [if_neg c24]
        unfold pO
        rw [if_pos c37]
        unfold pO1
        rw [if_pos c86]
        exact ⟨hW, by rw [e83, e15, e12], by rw [c86]⟩
    · refine mm_aload_n (pc := 40) dX12_readParts_40 rfl (by first | trivial | assumption | exact mm_isr_rf _) ?_
      refine mm_ldcSw (pc := 41) (i := 39) dX12_readParts_41 rfl ?_
      refine mm_callV (pc := 44) (As := [_]) (kd := ?kd_44_4) (fs := ?fs_44_4) dX12_readParts_44 vl_X12_263 (ok_isC g1p.1 hL 39 30 (w := [101, 108, 115, 101]) (by decide +kernel) (by decide +kernel) hW) ?hc_44_4 ?hk_44_4 rfl rfl (Nat.le_of_ble_eq_true rfl) ?_; (case hc_44_4 => exact hW.1); (case hk_44_4 => rfl)
      rintro _ _ ⟨rfl, rfl⟩
      refine mm_if_eq (pc := 47) (tgt := 54) dX12_readParts_47 (by decide) (fun c47 => ?_) (fun c47 => ?_)
      · have n47 := bI_d.mp c47
        refine mm_iconst (pc := 54) (v := 0) dX12_readParts_54 (by decide) ?_
        refine mm_istore (pc := 55) dX12_readParts_55 rfl (Nat.le_of_ble_eq_true rfl) ?_
        refine mm_iload (pc := 57) dX12_readParts_57 rfl ?_
        refine mm_if_eq (pc := 59) (tgt := 91) dX12_readParts_59 (by decide) (fun c59 => ?_) (fun c59 => absurd rfl c59)
        refine mm_aload_n (pc := 91) dX12_readParts_91 rfl (by first | trivial | assumption | exact mm_isr_rf _) ?_
        refine mw_geta (pc := 92) 17 hW dX12_readParts_92 fl_X12_57 rfl rfl ?_
        refine mm_iload_n (pc := 95) dX12_readParts_95 rfl ?_
        refine mm_iload (pc := 96) dX12_readParts_96 rfl ?_
        refine mm_if_eq (pc := 98) (tgt := 114) dX12_readParts_98 (by decide) (fun c98 => ?_) (fun c98 => absurd rfl c98)
        refine mm_iconst (pc := 114) (v := (-1)) dX12_readParts_114 (by decide) ?_
        refine mw_iast (pc := 115) 17 x hW dX12_readParts_115 rfl rfl (by first | with_reducible rfl | assumption | rfl) (by show _ < 4000; omega) (by omega) (fun h115 hW e115 => ?_)
        refine mm_aload_n (pc := 116) dX12_readParts_116 rfl (by first | trivial | assumption | exact mm_isr_rf _) ?_
        refine mw_geta (pc := 117) 17 hW dX12_readParts_117 fl_X12_57 rfl rfl ?_
        refine mm_iload_n (pc := 120) dX12_readParts_120 rfl ?_
        refine mw_iald (pc := 121) 17 x hW dX12_readParts_121 rfl rfl (by first | with_reducible rfl | assumption | rfl) (by show _ < 4000; omega) (by omega) ?_
        refine mm_bipush (pc := 122) (v := (-2)) dX12_readParts_122 (by decide) ?_
        refine mm_icmp_eq (pc := 124) (tgt := 131) dX12_readParts_124 (by decide) (fun c124 => absurd c124 (by rw [show (mw_setV (mw_setV (pB tb n (pL tb n k q f) M t (deep + 1)).2.1 16 x (pB tb n (pL tb n k q f) M t (deep + 1)).1) 17 x (-1)).2.2.1 17 x = -1 from mw_u2_eq _ _ _ _]; decide)) (fun c124 => ?_)
        refine mm_iconst (pc := 127) (v := 1) dX12_readParts_127 (by decide) ?_
        refine mm_goto (pc := 128) (tgt := 132) dX12_readParts_128 (by decide) ?_
        refine mm_zret (pc := 132) dX12_readParts_132 rfl (by first | rfl | decide) ?_
        unfold pPt pPt1
        rw [if_neg c24]
        unfold pO
        rw [if_neg c37, if_neg n47]
        exact ⟨hW, by rw [e115, e15, e12], rfl⟩
      · have y47 := bI_n c47
        refine mm_iconst (pc := 50) (v := 1) dX12_readParts_50 (by decide) ?_
        refine mm_goto (pc := 51) (tgt := 55) dX12_readParts_51 (by decide) ?_
        refine mm_istore (pc := 55) dX12_readParts_55 rfl (Nat.le_of_ble_eq_true rfl) ?_
        refine mm_iload (pc := 57) dX12_readParts_57 rfl ?_
        refine mm_if_eq (pc := 59) (tgt := 91) dX12_readParts_59 (by decide) (fun c59 => absurd c59 (by decide)) (fun c59 => ?_)
        refine mm_aload_n (pc := 62) dX12_readParts_62 rfl (by first | trivial | assumption | exact mm_isr_rf _) ?_
        refine mm_aload_n (pc := 63) dX12_readParts_63 rfl (by first | trivial | assumption | exact mm_isr_rf _) ?_
        refine mw_geta (pc := 64) 14 hW dX12_readParts_64 fl_X12_48 rfl rfl ?_
        refine mm_iload_n (pc := 67) dX12_readParts_67 rfl ?_
        refine mw_iald (pc := 68) 14 x hW dX12_readParts_68 rfl rfl (by first | with_reducible rfl | assumption | rfl) (by show _ < 4000; omega) (by omega) ?_
        refine mm_bipush (pc := 69) (v := 10) dX12_readParts_69 (by decide) ?_
        refine mm_icmp_ne (pc := 71) (tgt := 80) dX12_readParts_71 (by decide) (fun c71 => ?_) (fun c71 => absurd c71 c37)
        refine mm_ldcSw (pc := 80) (i := 39) dX12_readParts_80 rfl ?_
        refine mm_callV (pc := 83) (As := [_]) (kd := ?kd_83_5) (fs := ?fs_83_5) dX12_readParts_83 vl_X12_302 (ok_takeC g1p.1 g1p.2.1 hL 39 30 (w := [101, 108, 115, 101]) (by decide +kernel) (by decide +kernel) hW) ?hc_83_5 ?hk_83_5 rfl rfl (Nat.le_of_ble_eq_true rfl) ?_; (case hc_83_5 => exact hW.1); (case hk_83_5 => rfl)
        rintro _ h83 ⟨hW, e83, rfl⟩
        refine mm_if_ne (pc := 86) (tgt := 91) dX12_readParts_86 (by decide) (fun c86 => ?_) (fun c86 => ?_)
        · obtain ⟨-, -, g2, gt2⟩ := (pT_post (g1.sV (j := 16) (k := x) (x := (pB tb n (pL tb n k q f) M t (deep + 1)).1) rfl) 30).resolve_left (fun z => c86 z.1)
          have := qs_le_of (tb := tb) (n := n) gt2
          have := qs_le_of (tb := tb) (n := n) (show (pB tb n (pL tb n k q f) M t (deep + 1)).2.2 ≤ (pB tb n (pL tb n k q f) M t (deep + 1)).2.2 + 1 by omega)
          refine mm_aload_n (pc := 91) dX12_readParts_91 rfl (by first | trivial | assumption | exact mm_isr_rf _) ?_
          refine mw_geta (pc := 92) 17 hW dX12_readParts_92 fl_X12_57 rfl rfl ?_
          refine mm_iload_n (pc := 95) dX12_readParts_95 rfl ?_
          refine mm_iload (pc := 96) dX12_readParts_96 rfl ?_
          refine mm_if_eq (pc := 98) (tgt := 114) dX12_readParts_98 (by decide) (fun c98 => absurd c98 (by decide)) (fun c98 => ?_)
          refine mm_aload_n (pc := 101) dX12_readParts_101 rfl (by first | trivial | assumption | exact mm_isr_rf _) ?_
          refine mm_iload_n (pc := 102) dX12_readParts_102 rfl ?_
          refine mm_iload_n (pc := 103) dX12_readParts_103 rfl ?_
          refine mm_iload (pc := 104) dX12_readParts_104 rfl ?_
          refine mm_iconst (pc := 106) (v := 1) dX12_readParts_106 (by decide) ?_
          refine mm_iadd (pc := 107) dX12_readParts_107 ?_
          refine mm_topi _ (nI_1 deep) ?_
          refine mm_callV (pc := 108) (As := [_, _, _]) (kd := ?kd_108_6) (fs := ?fs_108_6) dX12_readParts_108 vl_X12_365 (rec_ 0 (pT tb n (mw_setV (pB tb n (pL tb n k q f) M t (deep + 1)).2.1 16 x (pB tb n (pL tb n k q f) M t (deep + 1)).1) (pB tb n (pL tb n k q f) M t (deep + 1)).2.2 30).2.1 _ (pT tb n (mw_setV (pB tb n (pL tb n k q f) M t (deep + 1)).2.1 16 x (pB tb n (pL tb n k q f) M t (deep + 1)).1) (pB tb n (pL tb n k q f) M t (deep + 1)).2.2 30).2.2 g2 (by omega) hW) ?hc_108_6 ?hk_108_6 rfl rfl (Nat.le_of_ble_eq_true rfl) ?_; (case hc_108_6 => exact hW.1); (case hk_108_6 => rfl)
          rintro _ h108 ⟨hW, e108, rfl⟩
          refine mm_goto (pc := 111) (tgt := 115) dX12_readParts_111 (by decide) ?_
          refine mw_iast (pc := 115) 17 x hW dX12_readParts_115 rfl rfl (by first | with_reducible rfl | assumption | rfl) (by show _ < 4000; omega) (by omega) (fun h115 hW e115 => ?_)
          refine mm_aload_n (pc := 116) dX12_readParts_116 rfl (by first | trivial | assumption | exact mm_isr_rf _) ?_
          refine mw_geta (pc := 117) 17 hW dX12_readParts_117 fl_X12_57 rfl rfl ?_
          refine mm_iload_n (pc := 120) dX12_readParts_120 rfl ?_
          refine mw_iald (pc := 121) 17 x hW dX12_readParts_121 rfl rfl (by first | with_reducible rfl | assumption | rfl) (by show _ < 4000; omega) (by omega) ?_
          refine mm_bipush (pc := 122) (v := (-2)) dX12_readParts_122 (by decide) ?_
          refine mm_icmp_eq (pc := 124) (tgt := 131) dX12_readParts_124 (by decide) (fun c124 => ?_) (fun c124 => ?_)
          · refine mm_iconst (pc := 131) (v := 0) dX12_readParts_131 (by decide) ?_
            refine mm_zret (pc := 132) dX12_readParts_132 rfl (by first | rfl | decide) ?_
            rw [show (mw_setV (pB tb n (pL tb n k q f) (pT tb n (mw_setV (pB tb n (pL tb n k q f) M t (deep + 1)).2.1 16 x (pB tb n (pL tb n k q f) M t (deep + 1)).1) (pB tb n (pL tb n k q f) M t (deep + 1)).2.2 30).2.1 (pT tb n (mw_setV (pB tb n (pL tb n k q f) M t (deep + 1)).2.1 16 x (pB tb n (pL tb n k q f) M t (deep + 1)).1) (pB tb n (pL tb n k q f) M t (deep + 1)).2.2 30).2.2 (deep + 1)).2.1 17 x (pB tb n (pL tb n k q f) (pT tb n (mw_setV (pB tb n (pL tb n k q f) M t (deep + 1)).2.1 16 x (pB tb n (pL tb n k q f) M t (deep + 1)).1) (pB tb n (pL tb n k q f) M t (deep + 1)).2.2 30).2.1 (pT tb n (mw_setV (pB tb n (pL tb n k q f) M t (deep + 1)).2.1 16 x (pB tb n (pL tb n k q f) M t (deep + 1)).1) (pB tb n (pL tb n k q f) M t (deep + 1)).2.2 30).2.2 (deep + 1)).1).2.2.1 17 x = (pB tb n (pL tb n k q f) (pT tb n (mw_setV (pB tb n (pL tb n k q f) M t (deep + 1)).2.1 16 x (pB tb n (pL tb n k q f) M t (deep + 1)).1) (pB tb n (pL tb n k q f) M t (deep + 1)).2.2 30).2.1 (pT tb n (mw_setV (pB tb n (pL tb n k q f) M t (deep + 1)).2.1 16 x (pB tb n (pL tb n k q f) M t (deep + 1)).1) (pB tb n (pL tb n k q f) M t (deep + 1)).2.2 30).2.2 (deep + 1)).1 from mw_u2_eq _ _ _ _] at c124
            unfold pPt pPt1
            rw [if_neg c24]
            unfold pO
            rw [if_neg c37, if_pos y47]
            unfold pO1
            rw [if_neg c86]
            unfold pO2
            rw [if_pos c124]
            exact ⟨hW, by rw [e115, e108, e83, e15, e12], rfl⟩
          · refine mm_iconst (pc := 127) (v := 1) dX12_readParts_127 (by decide) ?_
            refine mm_goto (pc := 128) (tgt := 132) dX12_readParts_128 (by decide) ?_
            refine mm_zret (pc := 132) dX12_readParts_132 rfl (by first | rfl | decide) ?_
            rw [show (mw_setV (pB tb n (pL tb n k q f) (pT tb n (mw_setV (pB tb n (pL tb n k q f) M t (deep + 1)).2.1 16 x (pB tb n (pL tb n k q f) M t (deep + 1)).1) (pB tb n (pL tb n k q f) M t (deep + 1)).2.2 30).2.1 (pT tb n (mw_setV (pB tb n (pL tb n k q f) M t (deep + 1)).2.1 16 x (pB tb n (pL tb n k q f) M t (deep + 1)).1) (pB tb n (pL tb n k q f) M t (deep + 1)).2.2 30).2.2 (deep + 1)).2.1 17 x (pB tb n (pL tb n k q f) (pT tb n (mw_setV (pB tb n (pL tb n k q f) M t (deep + 1)).2.1 16 x (pB tb n (pL tb n k q f) M t (deep + 1)).1) (pB tb n (pL tb n k q f) M t (deep + 1)).2.2 30).2.1 (pT tb n (mw_setV (pB tb n (pL tb n k q f) M t (deep + 1)).2.1 16 x (pB tb n (pL tb n k q f) M t (deep + 1)).1) (pB tb n (pL tb n k q f) M t (deep + 1)).2.2 30).2.2 (deep + 1)).1).2.2.1 17 x = (pB tb n (pL tb n k q f) (pT tb n (mw_setV (pB tb n (pL tb n k q f) M t (deep + 1)).2.1 16 x (pB tb n (pL tb n k q f) M t (deep + 1)).1) (pB tb n (pL tb n k q f) M t (deep + 1)).2.2 30).2.1 (pT tb n (mw_setV (pB tb n (pL tb n k q f) M t (deep + 1)).2.1 16 x (pB tb n (pL tb n k q f) M t (deep + 1)).1) (pB tb n (pL tb n k q f) M t (deep + 1)).2.2 30).2.2 (deep + 1)).1 from mw_u2_eq _ _ _ _] at c124
            unfold pPt pPt1
            rw [if_neg c24]
            unfold pO
            rw [if_neg c37, if_pos y47]
            unfold pO1
            rw [if_neg c86]
            unfold pO2
            rw [if_neg c124]
            exact ⟨hW, by rw [e115, e108, e83, e15, e12], rfl⟩
        · refine mm_iconst (pc := 89) (v := 0) dX12_readParts_89 (by decide) ?_
          refine mm_zret (pc := 90) dX12_readParts_90 rfl (by first | rfl | decide) ?_
          unfold pPt pPt1
          rw [if_neg c24]
          unfold pO
          rw [if_neg c37, if_pos y47]
          unfold pO1
          rw [if_pos c86]
          exact ⟨hW, by rw [e83, e15, e12], by rw [c86]⟩
  · refine mm_iconst (pc := 27) (v := 0) dX12_readParts_27 (by decide) ?_
    refine mm_zret (pc := 28) dX12_readParts_28 rfl (by first | rfl | decide) ?_
    unfold pPt pPt1
    rw [if_pos c24]
    exact ⟨hW, by rw [e15, e12], rfl⟩

