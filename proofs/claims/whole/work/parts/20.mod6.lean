def sp_no : Int32 × Nat := (-2, 2)
def sp_body (M : mw_S) (i q w : Int32) : Int32 × Nat := if sp_in i (M.1 3) = 0 then sp_bad else if sp_in q 6 = 0 then sp_bad else if w < 0 then sp_bad else if w ≤ 2 then (if bI (rm_has M q.toNatClampNeg i.toNatClampNeg) = 0 then sp_no else if w = 0 then (M.2.2.1 9 (6 * i.toNatClampNeg + q.toNatClampNeg), 0) else if w = 1 then (if M.2.2.1 10 (6 * i.toNatClampNeg + q.toNatClampNeg) = 0 then (0, 0) else (1, 0)) else (M.2.2.1 12 (6 * i.toNatClampNeg + q.toNatClampNeg), 0)) else sp_bad
noncomputable def sp_overrides (M : mw_S) (ab : Nat → Option Nat) (i q j : Int32) : Int32 × Nat := if sp_in i (M.1 3) = 0 then sp_bad else if sp_in j (M.1 3) = 0 then sp_bad else if sp_in q 6 = 0 then sp_bad else if bI (rm_has M q.toNatClampNeg i.toNatClampNeg) = 0 then sp_no else if bI (rm_has M q.toNatClampNeg j.toNatClampNeg) = 0 then sp_no else (bI (ovB ab (rm_E M q.toNatClampNeg) i.toNatClampNeg j.toNatClampNeg), 0)
noncomputable def sp_chosen (M : mw_S) (ab : Nat → Option Nat) (j q i : Int32) : Int32 × Nat := if sp_in i (M.1 3) = 0 then sp_bad else if sp_in j (M.1 3) = 0 then sp_bad else if sp_in q 6 = 0 then sp_bad else if bI (rm_has M q.toNatClampNeg j.toNatClampNeg) = 0 then sp_no else
  if i = j then (oI (kfind ab (fun x => Nat.beq x j.toNatClampNeg || (rm_has M q.toNatClampNeg x && ovB ab (rm_E M q.toNatClampNeg) x j.toNatClampNeg)) (some i.toNatClampNeg)), 0) else if bI (kfind ab (fun x => Nat.beq x j.toNatClampNeg) (ab i.toNatClampNeg)).isSome = 0 then sp_no else (oI (kfind ab (fun x => Nat.beq x j.toNatClampNeg || (rm_has M q.toNatClampNeg x && ovB ab (rm_E M q.toNatClampNeg) x j.toNatClampNeg)) (some i.toNatClampNeg)), 0)
def sp_resolvedR (r : Option Nat) : Int32 × Nat := match r with
  | none => sp_no
  | some x => (nI x, 0)
def sp_resolved (M : mw_S) (ab : Nat → Option Nat) (i q z : Int32) : Int32 × Nat := if sp_in i (M.1 3) = 0 then sp_bad else if sp_in q 6 = 0 then sp_bad else sp_resolvedR (kfind ab (fun x => rm_has M q.toNatClampNeg x && (Nat.beq x i.toNatClampNeg || rm_sees M q.toNatClampNeg i.toNatClampNeg x)) (if z = 0 then some i.toNatClampNeg else ab i.toNatClampNeg))

theorem ok_X12_body_ {G : mm_G} {L : Nat × Nat} {d : Nat} {h h0 : mm_H} {m : Nat} {ad : Nat → Nat} {M : mw_S} {i q w : Int32} {nk : Nat} (hs : M.1 3 = nI nk) (hn : nk ≤ 50) (hW : mw_W m ad h0 M h) : mm_Ok G mX12_body_ L (d + 1) [.ref m, .int i, .int q, .int w] h (fun r h1 => mw_W m ad h0 (rm_ans M (sp_body M i q w).2) h1 ∧ h1.2 = h.2 ∧ r = some (.int (sp_body M i q w).1)) := by
  refine mm_Ok.of [(0, .ref m), (1, .int i), (2, .int q), (3, .int w)] rfl kX12_body_.2.2.2.2.2 rfl (fun A => ?_)
  refine mm_aload_n (pc := 0) dX12_body__0 rfl (by first | trivial | assumption | exact mm_isr_rf _) ?_
  refine mm_iload_n (pc := 1) dX12_body__1 rfl ?_
  refine mm_callV (pc := 2) (As := [_]) (kd := ?kd_2) (fs := ?fs_2) dX12_body__2 vl_X12_428 (ok_X12_isKind hW) ?hc_2 ?hk_2 rfl rfl (Nat.le_of_ble_eq_true rfl) ?_; (case hc_2 => exact hW.1); (case hk_2 => rfl)
  rintro _ _ ⟨rfl, rfl⟩
  refine mm_if_eq (pc := 5) (tgt := 24) dX12_body__5 (by decide) (fun c5 => ?_) (fun c5 => ?_)
  · refine mm_aload_n (pc := 24) dX12_body__24 rfl (by first | trivial | assumption | exact mm_isr_rf _) ?_
    refine mm_iconst (pc := 25) (v := (-1)) dX12_body__25 (by decide) ?_
    refine mm_callV (pc := 26) (As := [_]) (kd := ?kd_26) (fs := ?fs_26) dX12_body__26 vl_X12_189 (ok_X12_answer (x := -1) (c := 1) (by decide) (by decide) (by decide) hW) ?hc_26 ?hk_26 rfl rfl (Nat.le_of_ble_eq_true rfl) ?_; (case hc_26 => exact hW.1); (case hk_26 => rfl)
    rintro _ h_ ⟨hW, e_, rfl⟩
    refine mm_iret (pc := 29) dX12_body__29 rfl ?_
    unfold sp_body
    rw [if_pos c5]
    exact ⟨hW, e_, rfl⟩
  · refine mm_iload_n (pc := 8) dX12_body__8 rfl ?_
    refine mm_callS (pc := 9) (As := [_]) dX12_body__9 sl_X12_431 (ok_X12_isHook) rfl rfl (Nat.le_of_ble_eq_true rfl) ?_
    rintro _ _ ⟨rfl, rfl⟩
    refine mm_if_eq (pc := 12) (tgt := 24) dX12_body__12 (by decide) (fun c12 => ?_) (fun c12 => ?_)
    · refine mm_aload_n (pc := 24) dX12_body__24 rfl (by first | trivial | assumption | exact mm_isr_rf _) ?_
      refine mm_iconst (pc := 25) (v := (-1)) dX12_body__25 (by decide) ?_
      refine mm_callV (pc := 26) (As := [_]) (kd := ?kd_26) (fs := ?fs_26) dX12_body__26 vl_X12_189 (ok_X12_answer (x := -1) (c := 1) (by decide) (by decide) (by decide) hW) ?hc_26 ?hk_26 rfl rfl (Nat.le_of_ble_eq_true rfl) ?_; (case hc_26 => exact hW.1); (case hk_26 => rfl)
      rintro _ h_ ⟨hW, e_, rfl⟩
      refine mm_iret (pc := 29) dX12_body__29 rfl ?_
      unfold sp_body
      rw [if_neg c5, if_pos c12]
      exact ⟨hW, e_, rfl⟩
    · refine mm_iload_n (pc := 15) dX12_body__15 rfl ?_
      refine mm_if_lt (pc := 16) (tgt := 24) dX12_body__16 (by decide) (fun c16 => ?_) (fun c16 => ?_)
      · refine mm_aload_n (pc := 24) dX12_body__24 rfl (by first | trivial | assumption | exact mm_isr_rf _) ?_
        refine mm_iconst (pc := 25) (v := (-1)) dX12_body__25 (by decide) ?_
        refine mm_callV (pc := 26) (As := [_]) (kd := ?kd_26) (fs := ?fs_26) dX12_body__26 vl_X12_189 (ok_X12_answer (x := -1) (c := 1) (by decide) (by decide) (by decide) hW) ?hc_26 ?hk_26 rfl rfl (Nat.le_of_ble_eq_true rfl) ?_; (case hc_26 => exact hW.1); (case hk_26 => rfl)
        rintro _ h_ ⟨hW, e_, rfl⟩
        refine mm_iret (pc := 29) dX12_body__29 rfl ?_
        unfold sp_body
        rw [if_neg c5, if_neg c12, if_pos c16]
        exact ⟨hW, e_, rfl⟩
      · refine mm_iload_n (pc := 19) dX12_body__19 rfl ?_
        refine mm_iconst (pc := 20) (v := 2) dX12_body__20 (by decide) ?_
        refine mm_icmp_le (pc := 21) (tgt := 30) dX12_body__21 (by decide) (fun c21 => ?_) (fun c21 => ?_)
        · obtain ⟨k_, hk_, rfl⟩ := sp_in_of c5 hs (by omega)
          obtain ⟨q_, hq_, rfl⟩ := sp_in_of c12 (show (6 : Int32) = nI 6 by decide) (by decide)
          refine mm_aload_n (pc := 30) dX12_body__30 rfl (by first | trivial | assumption | exact mm_isr_rf _) ?_
          refine mm_iload_n (pc := 31) dX12_body__31 rfl ?_
          refine mm_iload_n (pc := 32) dX12_body__32 rfl ?_
          refine mm_callV (pc := 33) (As := [_, _]) (kd := ?kd_33) (fs := ?fs_33) dX12_body__33 vl_X12_196 (ok_X12_hasBody (k := k_) (j := q_) (by omega) hq_ hW) ?hc_33 ?hk_33 rfl rfl (Nat.le_of_ble_eq_true rfl) ?_; (case hc_33 => exact hW.1); (case hk_33 => rfl)
          rintro _ _ ⟨rfl, rfl⟩
          refine mm_if_ne (pc := 36) (tgt := 46) dX12_body__36 (by decide) (fun c36 => ?_) (fun c36 => ?_)
          · refine mm_bipush (pc := 46) (v := 6) dX12_body__46 (by decide) ?_
            refine mm_iload_n (pc := 48) dX12_body__48 rfl ?_
            refine mm_imul (pc := 49) dX12_body__49 ?_
            refine mm_iload_n (pc := 50) dX12_body__50 rfl ?_
            refine mm_iadd (pc := 51) dX12_body__51 ?_
            refine mm_topi _ (mw_ix k_ q_) ?_
            refine mm_istore (pc := 52) dX12_body__52 rfl (Nat.le_of_ble_eq_true rfl) ?_
            refine mm_iload_n (pc := 54) dX12_body__54 rfl ?_
            refine mm_if_ne (pc := 55) (tgt := 68) dX12_body__55 (by decide) (fun c55 => ?_) (fun c55 => ?_)
            · refine mm_iload_n (pc := 68) dX12_body__68 rfl ?_
              refine mm_iconst (pc := 69) (v := 1) dX12_body__69 (by decide) ?_
              refine mm_icmp_ne (pc := 70) (tgt := 91) dX12_body__70 (by decide) (fun c70 => ?_) (fun c70 => ?_)
              · refine mm_aload_n (pc := 91) dX12_body__91 rfl (by first | trivial | assumption | exact mm_isr_rf _) ?_
                refine mw_geta (pc := 92) 12 hW dX12_body__92 fl_X12_45 rfl rfl ?_
                refine mm_iload (pc := 95) dX12_body__95 rfl ?_
                refine mw_iald (pc := 97) 12 (6 * k_ + q_) hW dX12_body__97 rfl rfl (by first | with_reducible rfl | assumption | rfl) (by show _ < 300; omega) (by omega) ?_
                refine mm_iret (pc := 98) dX12_body__98 rfl ?_
                unfold sp_body
                rw [nI_clamp (show k_ < 2 ^ 31 by omega), nI_clamp (show q_ < 2 ^ 31 by omega)]
                rw [if_neg c5, if_neg c12, if_neg c16, if_pos c21, if_neg c36, if_neg c55, if_neg c70]
                exact ⟨hW, rfl, rfl⟩
              · refine mm_aload_n (pc := 73) dX12_body__73 rfl (by first | trivial | assumption | exact mm_isr_rf _) ?_
                refine mw_geta (pc := 74) 10 hW dX12_body__74 fl_X12_39 rfl rfl ?_
                refine mm_iload (pc := 77) dX12_body__77 rfl ?_
                refine mw_zald (pc := 79) 10 (6 * k_ + q_) hW dX12_body__79 rfl rfl (by first | with_reducible rfl | assumption | rfl) (by show _ < 300; omega) (by omega) ?_
                refine mm_if_eq (pc := 80) (tgt := 87) dX12_body__80 (by decide) (fun c80 => ?_) (fun c80 => ?_)
                · refine mm_iconst (pc := 87) (v := 0) dX12_body__87 (by decide) ?_
                  refine mm_goto (pc := 88) (tgt := 98) dX12_body__88 (by decide) ?_
                  refine mm_iret (pc := 98) dX12_body__98 rfl ?_
                  unfold sp_body
                  rw [nI_clamp (show k_ < 2 ^ 31 by omega), nI_clamp (show q_ < 2 ^ 31 by omega)]
                  rw [if_neg c5, if_neg c12, if_neg c16, if_pos c21, if_neg c36, if_neg c55, if_pos c70, if_pos c80]
                  exact ⟨hW, rfl, rfl⟩
                · refine mm_iconst (pc := 83) (v := 1) dX12_body__83 (by decide) ?_
                  refine mm_goto (pc := 84) (tgt := 98) dX12_body__84 (by decide) ?_
                  refine mm_iret (pc := 98) dX12_body__98 rfl ?_
                  unfold sp_body
                  rw [nI_clamp (show k_ < 2 ^ 31 by omega), nI_clamp (show q_ < 2 ^ 31 by omega)]
                  rw [if_neg c5, if_neg c12, if_neg c16, if_pos c21, if_neg c36, if_neg c55, if_pos c70, if_neg c80]
                  exact ⟨hW, rfl, rfl⟩
            · refine mm_aload_n (pc := 58) dX12_body__58 rfl (by first | trivial | assumption | exact mm_isr_rf _) ?_
              refine mw_geta (pc := 59) 9 hW dX12_body__59 fl_X12_36 rfl rfl ?_
              refine mm_iload (pc := 62) dX12_body__62 rfl ?_
              refine mw_iald (pc := 64) 9 (6 * k_ + q_) hW dX12_body__64 rfl rfl (by first | with_reducible rfl | assumption | rfl) (by show _ < 300; omega) (by omega) ?_
              refine mm_goto (pc := 65) (tgt := 98) dX12_body__65 (by decide) ?_
              refine mm_iret (pc := 98) dX12_body__98 rfl ?_
              unfold sp_body
              rw [nI_clamp (show k_ < 2 ^ 31 by omega), nI_clamp (show q_ < 2 ^ 31 by omega)]
              rw [if_neg c5, if_neg c12, if_neg c16, if_pos c21, if_neg c36, if_pos c55]
              exact ⟨hW, rfl, rfl⟩
          · refine mm_aload_n (pc := 39) dX12_body__39 rfl (by first | trivial | assumption | exact mm_isr_rf _) ?_
            refine mm_bipush (pc := 40) (v := (-2)) dX12_body__40 (by decide) ?_
            refine mm_callV (pc := 42) (As := [_]) (kd := ?kd_42) (fs := ?fs_42) dX12_body__42 vl_X12_189 (ok_X12_answer (x := -2) (c := 2) (by decide) (by decide) (by decide) hW) ?hc_42 ?hk_42 rfl rfl (Nat.le_of_ble_eq_true rfl) ?_; (case hc_42 => exact hW.1); (case hk_42 => rfl)
            rintro _ h_ ⟨hW, e_, rfl⟩
            refine mm_iret (pc := 45) dX12_body__45 rfl ?_
            unfold sp_body
            rw [nI_clamp (show k_ < 2 ^ 31 by omega), nI_clamp (show q_ < 2 ^ 31 by omega)]
            rw [if_neg c5, if_neg c12, if_neg c16, if_pos c21, if_pos c36]
            exact ⟨hW, e_, rfl⟩
        · refine mm_aload_n (pc := 24) dX12_body__24 rfl (by first | trivial | assumption | exact mm_isr_rf _) ?_
          refine mm_iconst (pc := 25) (v := (-1)) dX12_body__25 (by decide) ?_
          refine mm_callV (pc := 26) (As := [_]) (kd := ?kd_26) (fs := ?fs_26) dX12_body__26 vl_X12_189 (ok_X12_answer (x := -1) (c := 1) (by decide) (by decide) (by decide) hW) ?hc_26 ?hk_26 rfl rfl (Nat.le_of_ble_eq_true rfl) ?_; (case hc_26 => exact hW.1); (case hk_26 => rfl)
          rintro _ h_ ⟨hW, e_, rfl⟩
          refine mm_iret (pc := 29) dX12_body__29 rfl ?_
          unfold sp_body
          rw [if_neg c5, if_neg c12, if_neg c16, if_neg c21]
          exact ⟨hW, e_, rfl⟩

theorem ok_X12_overrides {G : mm_G} {L : Nat × Nat} {d : Nat} {h h0 : mm_H} {m : Nat} {ad : Nat → Nat} {M : mw_S} {i q j : Int32} {nk : Nat} {ab : Nat → Option Nat} (hs : M.1 3 = nI nk) (hT : rm_T M nk ab) (hW : mw_W m ad h0 M h) : mm_Ok G mX12_overrides L (d + 2) [.ref m, .int i, .int q, .int j] h (fun r h1 => (∃ g, mw_W m ad h0 (rm_ans (mw_r25 M g) (sp_overrides M ab i q j).2) h1) ∧ h1.2 = h.2 ∧ r = some (.int (sp_overrides M ab i q j).1)) := by
  refine mm_Ok.of [(0, .ref m), (1, .int i), (2, .int q), (3, .int j)] rfl kX12_overrides.2.2.2.2.2 rfl (fun A => ?_)
  have hn := hT.2.1
  refine mm_aload_n (pc := 0) dX12_overrides_0 rfl (by first | trivial | assumption | exact mm_isr_rf _) ?_
  refine mm_iload_n (pc := 1) dX12_overrides_1 rfl ?_
  refine mm_callV (pc := 2) (As := [_]) (kd := ?kd_2) (fs := ?fs_2) dX12_overrides_2 vl_X12_428 (ok_X12_isKind hW) ?hc_2 ?hk_2 rfl rfl (Nat.le_of_ble_eq_true rfl) ?_; (case hc_2 => exact hW.1); (case hk_2 => rfl)
  rintro _ _ ⟨rfl, rfl⟩
  refine mm_if_eq (pc := 5) (tgt := 23) dX12_overrides_5 (by decide) (fun c5 => ?_) (fun c5 => ?_)
  · refine mm_aload_n (pc := 23) dX12_overrides_23 rfl (by first | trivial | assumption | exact mm_isr_rf _) ?_
    refine mm_iconst (pc := 24) (v := (-1)) dX12_overrides_24 (by decide) ?_
    refine mm_callV (pc := 25) (As := [_]) (kd := ?kd_25) (fs := ?fs_25) dX12_overrides_25 vl_X12_189 (ok_X12_answer (x := -1) (c := 1) (by decide) (by decide) (by decide) hW) ?hc_25 ?hk_25 rfl rfl (Nat.le_of_ble_eq_true rfl) ?_; (case hc_25 => exact hW.1); (case hk_25 => rfl)
    rintro _ h_ ⟨hW, e_, rfl⟩
    refine mm_iret (pc := 28) dX12_overrides_28 rfl ?_
    unfold sp_overrides
    rw [if_pos c5]
    exact ⟨⟨M.2.2.1 25, by rw [mw_r25_self]; exact hW⟩, e_, rfl⟩
  · refine mm_aload_n (pc := 8) dX12_overrides_8 rfl (by first | trivial | assumption | exact mm_isr_rf _) ?_
    refine mm_iload_n (pc := 9) dX12_overrides_9 rfl ?_
    refine mm_callV (pc := 10) (As := [_]) (kd := ?kd_10) (fs := ?fs_10) dX12_overrides_10 vl_X12_428 (ok_X12_isKind hW) ?hc_10 ?hk_10 rfl rfl (Nat.le_of_ble_eq_true rfl) ?_; (case hc_10 => exact hW.1); (case hk_10 => rfl)
    rintro _ _ ⟨rfl, rfl⟩
    refine mm_if_eq (pc := 13) (tgt := 23) dX12_overrides_13 (by decide) (fun c13 => ?_) (fun c13 => ?_)
    · refine mm_aload_n (pc := 23) dX12_overrides_23 rfl (by first | trivial | assumption | exact mm_isr_rf _) ?_
      refine mm_iconst (pc := 24) (v := (-1)) dX12_overrides_24 (by decide) ?_
      refine mm_callV (pc := 25) (As := [_]) (kd := ?kd_25) (fs := ?fs_25) dX12_overrides_25 vl_X12_189 (ok_X12_answer (x := -1) (c := 1) (by decide) (by decide) (by decide) hW) ?hc_25 ?hk_25 rfl rfl (Nat.le_of_ble_eq_true rfl) ?_; (case hc_25 => exact hW.1); (case hk_25 => rfl)
      rintro _ h_ ⟨hW, e_, rfl⟩
      refine mm_iret (pc := 28) dX12_overrides_28 rfl ?_
      unfold sp_overrides
      rw [if_neg c5, if_pos c13]
      exact ⟨⟨M.2.2.1 25, by rw [mw_r25_self]; exact hW⟩, e_, rfl⟩
    · refine mm_iload_n (pc := 16) dX12_overrides_16 rfl ?_
      refine mm_callS (pc := 17) (As := [_]) dX12_overrides_17 sl_X12_431 (ok_X12_isHook) rfl rfl (Nat.le_of_ble_eq_true rfl) ?_
      rintro _ _ ⟨rfl, rfl⟩
      refine mm_if_ne (pc := 20) (tgt := 29) dX12_overrides_20 (by decide) (fun c20 => ?_) (fun c20 => ?_)
      · obtain ⟨k_, hk_, rfl⟩ := sp_in_of c5 hs (by omega)
        obtain ⟨j_, hj_, rfl⟩ := sp_in_of c13 hs (by omega)
        obtain ⟨q_, hq_, rfl⟩ := sp_in_of c20 (show (6 : Int32) = nI 6 by decide) (by decide)
        refine mm_aload_n (pc := 29) dX12_overrides_29 rfl (by first | trivial | assumption | exact mm_isr_rf _) ?_
        refine mm_iload_n (pc := 30) dX12_overrides_30 rfl ?_
        refine mm_iload_n (pc := 31) dX12_overrides_31 rfl ?_
        refine mm_callV (pc := 32) (As := [_, _]) (kd := ?kd_32) (fs := ?fs_32) dX12_overrides_32 vl_X12_196 (ok_X12_hasBody (k := k_) (j := q_) (by omega) hq_ hW) ?hc_32 ?hk_32 rfl rfl (Nat.le_of_ble_eq_true rfl) ?_; (case hc_32 => exact hW.1); (case hk_32 => rfl)
        rintro _ _ ⟨rfl, rfl⟩
        refine mm_if_eq (pc := 35) (tgt := 47) dX12_overrides_35 (by decide) (fun c35 => ?_) (fun c35 => ?_)
        · refine mm_aload_n (pc := 47) dX12_overrides_47 rfl (by first | trivial | assumption | exact mm_isr_rf _) ?_
          refine mm_bipush (pc := 48) (v := (-2)) dX12_overrides_48 (by decide) ?_
          refine mm_callV (pc := 50) (As := [_]) (kd := ?kd_50) (fs := ?fs_50) dX12_overrides_50 vl_X12_189 (ok_X12_answer (x := -2) (c := 2) (by decide) (by decide) (by decide) hW) ?hc_50 ?hk_50 rfl rfl (Nat.le_of_ble_eq_true rfl) ?_; (case hc_50 => exact hW.1); (case hk_50 => rfl)
          rintro _ h_ ⟨hW, e_, rfl⟩
          refine mm_iret (pc := 53) dX12_overrides_53 rfl ?_
          unfold sp_overrides
          rw [nI_clamp (show k_ < 2 ^ 31 by omega), nI_clamp (show q_ < 2 ^ 31 by omega), nI_clamp (show j_ < 2 ^ 31 by omega)]
          rw [if_neg c5, if_neg c13, if_neg c20, if_pos c35]
          exact ⟨⟨M.2.2.1 25, by rw [mw_r25_self]; exact hW⟩, e_, rfl⟩
        · refine mm_aload_n (pc := 38) dX12_overrides_38 rfl (by first | trivial | assumption | exact mm_isr_rf _) ?_
          refine mm_iload_n (pc := 39) dX12_overrides_39 rfl ?_
          refine mm_iload_n (pc := 40) dX12_overrides_40 rfl ?_
          refine mm_callV (pc := 41) (As := [_, _]) (kd := ?kd_41) (fs := ?fs_41) dX12_overrides_41 vl_X12_196 (ok_X12_hasBody (k := j_) (j := q_) (by omega) hq_ hW) ?hc_41 ?hk_41 rfl rfl (Nat.le_of_ble_eq_true rfl) ?_; (case hc_41 => exact hW.1); (case hk_41 => rfl)
          rintro _ _ ⟨rfl, rfl⟩
          refine mm_if_ne (pc := 44) (tgt := 54) dX12_overrides_44 (by decide) (fun c44 => ?_) (fun c44 => ?_)
          · refine mm_aload_n (pc := 54) dX12_overrides_54 rfl (by first | trivial | assumption | exact mm_isr_rf _) ?_
            refine mm_iload_n (pc := 55) dX12_overrides_55 rfl ?_
            refine mm_iload_n (pc := 56) dX12_overrides_56 rfl ?_
            refine mm_iload_n (pc := 57) dX12_overrides_57 rfl ?_
            refine mm_callV (pc := 58) (As := [_, _, _]) (kd := ?kd_58) (fs := ?fs_58) dX12_overrides_58 vl_X12_203 (ok_X12_isOver hT hk_ hq_ hj_ hW) ?hc_58 ?hk_58 rfl rfl (Nat.le_of_ble_eq_true rfl) ?_; (case hc_58 => exact hW.1); (case hk_58 => rfl)
            rintro _ h58 ⟨g58, hW, e58, rfl⟩
            refine mm_if_eq (pc := 61) (tgt := 68) dX12_overrides_61 (by decide) (fun c61 => ?_) (fun c61 => ?_)
            · refine mm_iconst (pc := 68) (v := 0) dX12_overrides_68 (by decide) ?_
              refine mm_iret (pc := 69) dX12_overrides_69 rfl ?_
              have hh : rm_has M q_ k_ = true := by
                cases hz : rm_has M q_ k_ with
                | true => rfl
                | false => exact absurd (bI_eq0.mpr hz) c35
              rw [hh, Bool.true_and] at c61
              unfold sp_overrides
              rw [nI_clamp (show k_ < 2 ^ 31 by omega), nI_clamp (show q_ < 2 ^ 31 by omega), nI_clamp (show j_ < 2 ^ 31 by omega)]
              rw [if_neg c5, if_neg c13, if_neg c20, if_neg c35, if_neg c44, c61]
              exact ⟨⟨g58, hW⟩, e58, rfl⟩
            · refine mm_iconst (pc := 64) (v := 1) dX12_overrides_64 (by decide) ?_
              refine mm_goto (pc := 65) (tgt := 69) dX12_overrides_65 (by decide) ?_
              refine mm_iret (pc := 69) dX12_overrides_69 rfl ?_
              have hh : rm_has M q_ k_ = true := by
                cases hz : rm_has M q_ k_ with
                | true => rfl
                | false => exact absurd (bI_eq0.mpr hz) c35
              rw [hh, Bool.true_and] at c61
              have ho : ovB ab (rm_E M q_) k_ j_ = true := by
                cases hz : ovB ab (rm_E M q_) k_ j_ with
                | true => rfl
                | false => exact absurd (bI_eq0.mpr hz) c61
              unfold sp_overrides
              rw [nI_clamp (show k_ < 2 ^ 31 by omega), nI_clamp (show q_ < 2 ^ 31 by omega), nI_clamp (show j_ < 2 ^ 31 by omega)]
              rw [if_neg c5, if_neg c13, if_neg c20, if_neg c35, if_neg c44, ho]
              exact ⟨⟨g58, hW⟩, e58, rfl⟩
          · refine mm_aload_n (pc := 47) dX12_overrides_47 rfl (by first | trivial | assumption | exact mm_isr_rf _) ?_
            refine mm_bipush (pc := 48) (v := (-2)) dX12_overrides_48 (by decide) ?_
            refine mm_callV (pc := 50) (As := [_]) (kd := ?kd_50) (fs := ?fs_50) dX12_overrides_50 vl_X12_189 (ok_X12_answer (x := -2) (c := 2) (by decide) (by decide) (by decide) hW) ?hc_50 ?hk_50 rfl rfl (Nat.le_of_ble_eq_true rfl) ?_; (case hc_50 => exact hW.1); (case hk_50 => rfl)
            rintro _ h_ ⟨hW, e_, rfl⟩
            refine mm_iret (pc := 53) dX12_overrides_53 rfl ?_
            unfold sp_overrides
            rw [nI_clamp (show k_ < 2 ^ 31 by omega), nI_clamp (show q_ < 2 ^ 31 by omega), nI_clamp (show j_ < 2 ^ 31 by omega)]
            rw [if_neg c5, if_neg c13, if_neg c20, if_neg c35, if_pos c44]
            exact ⟨⟨M.2.2.1 25, by rw [mw_r25_self]; exact hW⟩, e_, rfl⟩
      · refine mm_aload_n (pc := 23) dX12_overrides_23 rfl (by first | trivial | assumption | exact mm_isr_rf _) ?_
        refine mm_iconst (pc := 24) (v := (-1)) dX12_overrides_24 (by decide) ?_
        refine mm_callV (pc := 25) (As := [_]) (kd := ?kd_25) (fs := ?fs_25) dX12_overrides_25 vl_X12_189 (ok_X12_answer (x := -1) (c := 1) (by decide) (by decide) (by decide) hW) ?hc_25 ?hk_25 rfl rfl (Nat.le_of_ble_eq_true rfl) ?_; (case hc_25 => exact hW.1); (case hk_25 => rfl)
        rintro _ h_ ⟨hW, e_, rfl⟩
        refine mm_iret (pc := 28) dX12_overrides_28 rfl ?_
        unfold sp_overrides
        rw [if_neg c5, if_neg c13, if_pos c20]
        exact ⟨⟨M.2.2.1 25, by rw [mw_r25_self]; exact hW⟩, e_, rfl⟩

theorem ok_X12_chosen {G : mm_G} {L : Nat × Nat} {d : Nat} {h h0 : mm_H} {m : Nat} {ad : Nat → Nat} {M : mw_S} {j q i : Int32} {nk : Nat} {ab : Nat → Option Nat} (hs : M.1 3 = nI nk) (hT : rm_T M nk ab) (hW : mw_W m ad h0 M h) : mm_Ok G mX12_chosen L (d + 3) [.ref m, .int j, .int q, .int i] h (fun r h1 => (∃ g, mw_W m ad h0 (rm_ans (mw_r25 M g) (sp_chosen M ab j q i).2) h1) ∧ h1.2 = h.2 ∧ r = some (.int (sp_chosen M ab j q i).1)) := by
  refine mm_Ok.of [(0, .ref m), (1, .int j), (2, .int q), (3, .int i)] rfl kX12_chosen.2.2.2.2.2 rfl (fun A => ?_)
  have hn := hT.2.1
  refine mm_aload_n (pc := 0) dX12_chosen_0 rfl (by first | trivial | assumption | exact mm_isr_rf _) ?_
  refine mm_iload_n (pc := 1) dX12_chosen_1 rfl ?_
  refine mm_callV (pc := 2) (As := [_]) (kd := ?kd_2) (fs := ?fs_2) dX12_chosen_2 vl_X12_428 (ok_X12_isKind hW) ?hc_2 ?hk_2 rfl rfl (Nat.le_of_ble_eq_true rfl) ?_; (case hc_2 => exact hW.1); (case hk_2 => rfl)
  rintro _ _ ⟨rfl, rfl⟩
  refine mm_if_eq (pc := 5) (tgt := 23) dX12_chosen_5 (by decide) (fun c5 => ?_) (fun c5 => ?_)
  · refine mm_aload_n (pc := 23) dX12_chosen_23 rfl (by first | trivial | assumption | exact mm_isr_rf _) ?_
    refine mm_iconst (pc := 24) (v := (-1)) dX12_chosen_24 (by decide) ?_
    refine mm_callV (pc := 25) (As := [_]) (kd := ?kd_25) (fs := ?fs_25) dX12_chosen_25 vl_X12_189 (ok_X12_answer (x := -1) (c := 1) (by decide) (by decide) (by decide) hW) ?hc_25 ?hk_25 rfl rfl (Nat.le_of_ble_eq_true rfl) ?_; (case hc_25 => exact hW.1); (case hk_25 => rfl)
    rintro _ h_ ⟨hW, e_, rfl⟩
    refine mm_iret (pc := 28) dX12_chosen_28 rfl ?_
    unfold sp_chosen
    rw [if_pos c5]
    exact ⟨⟨M.2.2.1 25, by rw [mw_r25_self]; exact hW⟩, e_, rfl⟩
  · refine mm_aload_n (pc := 8) dX12_chosen_8 rfl (by first | trivial | assumption | exact mm_isr_rf _) ?_
    refine mm_iload_n (pc := 9) dX12_chosen_9 rfl ?_
    refine mm_callV (pc := 10) (As := [_]) (kd := ?kd_10) (fs := ?fs_10) dX12_chosen_10 vl_X12_428 (ok_X12_isKind hW) ?hc_10 ?hk_10 rfl rfl (Nat.le_of_ble_eq_true rfl) ?_; (case hc_10 => exact hW.1); (case hk_10 => rfl)
    rintro _ _ ⟨rfl, rfl⟩
    refine mm_if_eq (pc := 13) (tgt := 23) dX12_chosen_13 (by decide) (fun c13 => ?_) (fun c13 => ?_)
    · refine mm_aload_n (pc := 23) dX12_chosen_23 rfl (by first | trivial | assumption | exact mm_isr_rf _) ?_
      refine mm_iconst (pc := 24) (v := (-1)) dX12_chosen_24 (by decide) ?_
      refine mm_callV (pc := 25) (As := [_]) (kd := ?kd_25) (fs := ?fs_25) dX12_chosen_25 vl_X12_189 (ok_X12_answer (x := -1) (c := 1) (by decide) (by decide) (by decide) hW) ?hc_25 ?hk_25 rfl rfl (Nat.le_of_ble_eq_true rfl) ?_; (case hc_25 => exact hW.1); (case hk_25 => rfl)
      rintro _ h_ ⟨hW, e_, rfl⟩
      refine mm_iret (pc := 28) dX12_chosen_28 rfl ?_
      unfold sp_chosen
      rw [if_neg c5, if_pos c13]
      exact ⟨⟨M.2.2.1 25, by rw [mw_r25_self]; exact hW⟩, e_, rfl⟩
    · refine mm_iload_n (pc := 16) dX12_chosen_16 rfl ?_
      refine mm_callS (pc := 17) (As := [_]) dX12_chosen_17 sl_X12_431 (ok_X12_isHook) rfl rfl (Nat.le_of_ble_eq_true rfl) ?_
      rintro _ _ ⟨rfl, rfl⟩
      refine mm_if_ne (pc := 20) (tgt := 29) dX12_chosen_20 (by decide) (fun c20 => ?_) (fun c20 => ?_)
      · obtain ⟨k_, hk_, rfl⟩ := sp_in_of c5 hs (by omega)
        obtain ⟨j_, hj_, rfl⟩ := sp_in_of c13 hs (by omega)
        obtain ⟨q_, hq_, rfl⟩ := sp_in_of c20 (show (6 : Int32) = nI 6 by decide) (by decide)
        refine mm_aload_n (pc := 29) dX12_chosen_29 rfl (by first | trivial | assumption | exact mm_isr_rf _) ?_
        refine mm_iload_n (pc := 30) dX12_chosen_30 rfl ?_
        refine mm_iload_n (pc := 31) dX12_chosen_31 rfl ?_
        refine mm_callV (pc := 32) (As := [_, _]) (kd := ?kd_32) (fs := ?fs_32) dX12_chosen_32 vl_X12_196 (ok_X12_hasBody (k := j_) (j := q_) (by omega) hq_ hW) ?hc_32 ?hk_32 rfl rfl (Nat.le_of_ble_eq_true rfl) ?_; (case hc_32 => exact hW.1); (case hk_32 => rfl)
        rintro _ _ ⟨rfl, rfl⟩
        refine mm_if_eq (pc := 35) (tgt := 52) dX12_chosen_35 (by decide) (fun c35 => ?_) (fun c35 => ?_)
        · refine mm_aload_n (pc := 52) dX12_chosen_52 rfl (by first | trivial | assumption | exact mm_isr_rf _) ?_
          refine mm_bipush (pc := 53) (v := (-2)) dX12_chosen_53 (by decide) ?_
          refine mm_callV (pc := 55) (As := [_]) (kd := ?kd_55) (fs := ?fs_55) dX12_chosen_55 vl_X12_189 (ok_X12_answer (x := -2) (c := 2) (by decide) (by decide) (by decide) hW) ?hc_55 ?hk_55 rfl rfl (Nat.le_of_ble_eq_true rfl) ?_; (case hc_55 => exact hW.1); (case hk_55 => rfl)
          rintro _ h_ ⟨hW, e_, rfl⟩
          refine mm_iret (pc := 58) dX12_chosen_58 rfl ?_
          unfold sp_chosen
          rw [nI_clamp (show k_ < 2 ^ 31 by omega), nI_clamp (show q_ < 2 ^ 31 by omega), nI_clamp (show j_ < 2 ^ 31 by omega)]
          rw [if_neg c5, if_neg c13, if_neg c20, if_pos c35]
          exact ⟨⟨M.2.2.1 25, by rw [mw_r25_self]; exact hW⟩, e_, rfl⟩
        · refine mm_iload_n (pc := 38) dX12_chosen_38 rfl ?_
          refine mm_iload_n (pc := 39) dX12_chosen_39 rfl ?_
          refine mm_icmp_eq (pc := 40) (tgt := 59) dX12_chosen_40 (by decide) (fun c40 => ?_) (fun c40 => ?_)
          · refine mm_aload_n (pc := 59) dX12_chosen_59 rfl (by first | trivial | assumption | exact mm_isr_rf _) ?_
            refine mm_iload_n (pc := 60) dX12_chosen_60 rfl ?_
            refine mm_iload_n (pc := 61) dX12_chosen_61 rfl ?_
            refine mm_iload_n (pc := 62) dX12_chosen_62 rfl ?_
            refine mm_callV (pc := 63) (As := [_, _, _]) (kd := ?kd_63) (fs := ?fs_63) dX12_chosen_63 vl_X12_434 (ok_X12_choose (k := k_) (q := q_) (j := j_) hT hk_ hq_ (Or.inl ((nI_eq (by omega) (by omega)).mp c40)) hW) ?hc_63 ?hk_63 rfl rfl (Nat.le_of_ble_eq_true rfl) ?_; (case hc_63 => exact hW.1); (case hk_63 => rfl)
            rintro _ h63 ⟨g63, hW, e63, rfl⟩
            refine mm_iret (pc := 66) dX12_chosen_66 rfl ?_
            unfold sp_chosen
            rw [nI_clamp (show k_ < 2 ^ 31 by omega), nI_clamp (show q_ < 2 ^ 31 by omega), nI_clamp (show j_ < 2 ^ 31 by omega)]
            rw [if_neg c5, if_neg c13, if_neg c20, if_neg c35, if_pos c40]
            exact ⟨⟨g63, hW⟩, e63, rfl⟩
          · refine mm_aload_n (pc := 43) dX12_chosen_43 rfl (by first | trivial | assumption | exact mm_isr_rf _) ?_
            refine mm_iload_n (pc := 44) dX12_chosen_44 rfl ?_
            refine mm_iload_n (pc := 45) dX12_chosen_45 rfl ?_
            refine mm_callV (pc := 46) (As := [_, _]) (kd := ?kd_46) (fs := ?fs_46) dX12_chosen_46 vl_X12_192 (ok_X12_isUnder (k := k_) (j := j_) hT hk_ (by omega) hW) ?hc_46 ?hk_46 rfl rfl (Nat.le_of_ble_eq_true rfl) ?_; (case hc_46 => exact hW.1); (case hk_46 => rfl)
            rintro _ _ ⟨rfl, rfl⟩
            refine mm_if_ne (pc := 49) (tgt := 59) dX12_chosen_49 (by decide) (fun c49 => ?_) (fun c49 => ?_)
            · refine mm_aload_n (pc := 59) dX12_chosen_59 rfl (by first | trivial | assumption | exact mm_isr_rf _) ?_
              refine mm_iload_n (pc := 60) dX12_chosen_60 rfl ?_
              refine mm_iload_n (pc := 61) dX12_chosen_61 rfl ?_
              refine mm_iload_n (pc := 62) dX12_chosen_62 rfl ?_
              refine mm_callV (pc := 63) (As := [_, _, _]) (kd := ?kd_63) (fs := ?fs_63) dX12_chosen_63 vl_X12_434 (ok_X12_choose (k := k_) (q := q_) (j := j_) hT hk_ hq_ (Or.inr ((kfind_An hT.1 (by omega) j_ (k_ + 1) k_ (by omega) hk_).mp (by cases hz : (kfind ab (fun x => Nat.beq x j_) (ab k_)).isSome with
  | true => rfl
  | false => exact absurd (bI_eq0.mpr hz) c49))) hW) ?hc_63 ?hk_63 rfl rfl (Nat.le_of_ble_eq_true rfl) ?_; (case hc_63 => exact hW.1); (case hk_63 => rfl)
              rintro _ h63 ⟨g63, hW, e63, rfl⟩
              refine mm_iret (pc := 66) dX12_chosen_66 rfl ?_
              unfold sp_chosen
              rw [nI_clamp (show k_ < 2 ^ 31 by omega), nI_clamp (show q_ < 2 ^ 31 by omega), nI_clamp (show j_ < 2 ^ 31 by omega)]
              rw [if_neg c5, if_neg c13, if_neg c20, if_neg c35, if_neg c40, if_neg c49]
              exact ⟨⟨g63, hW⟩, e63, rfl⟩
            · refine mm_aload_n (pc := 52) dX12_chosen_52 rfl (by first | trivial | assumption | exact mm_isr_rf _) ?_
              refine mm_bipush (pc := 53) (v := (-2)) dX12_chosen_53 (by decide) ?_
              refine mm_callV (pc := 55) (As := [_]) (kd := ?kd_55) (fs := ?fs_55) dX12_chosen_55 vl_X12_189 (ok_X12_answer (x := -2) (c := 2) (by decide) (by decide) (by decide) hW) ?hc_55 ?hk_55 rfl rfl (Nat.le_of_ble_eq_true rfl) ?_; (case hc_55 => exact hW.1); (case hk_55 => rfl)
              rintro _ h_ ⟨hW, e_, rfl⟩
              refine mm_iret (pc := 58) dX12_chosen_58 rfl ?_
              unfold sp_chosen
              rw [nI_clamp (show k_ < 2 ^ 31 by omega), nI_clamp (show q_ < 2 ^ 31 by omega), nI_clamp (show j_ < 2 ^ 31 by omega)]
              rw [if_neg c5, if_neg c13, if_neg c20, if_neg c35, if_neg c40, if_pos c49]
              exact ⟨⟨M.2.2.1 25, by rw [mw_r25_self]; exact hW⟩, e_, rfl⟩
      · refine mm_aload_n (pc := 23) dX12_chosen_23 rfl (by first | trivial | assumption | exact mm_isr_rf _) ?_
        refine mm_iconst (pc := 24) (v := (-1)) dX12_chosen_24 (by decide) ?_
        refine mm_callV (pc := 25) (As := [_]) (kd := ?kd_25) (fs := ?fs_25) dX12_chosen_25 vl_X12_189 (ok_X12_answer (x := -1) (c := 1) (by decide) (by decide) (by decide) hW) ?hc_25 ?hk_25 rfl rfl (Nat.le_of_ble_eq_true rfl) ?_; (case hc_25 => exact hW.1); (case hk_25 => rfl)
        rintro _ h_ ⟨hW, e_, rfl⟩
        refine mm_iret (pc := 28) dX12_chosen_28 rfl ?_
        unfold sp_chosen
        rw [if_neg c5, if_neg c13, if_pos c20]
        exact ⟨⟨M.2.2.1 25, by rw [mw_r25_self]; exact hW⟩, e_, rfl⟩

theorem up_lt {M : mw_S} {n k : Nat} {ab : Nat → Option Nat} (hT : rm_T M n ab) (hk : k < n) : kf_lt n (ab k) := by
  cases hx : ab k with
  | none => trivial
  | some z => exact Nat.lt_trans (hT.1 k z hk hx) hk

theorem ok_X12_resolved {G : mm_G} {L : Nat × Nat} {d : Nat} {h h0 : mm_H} {m : Nat} {ad : Nat → Nat} {M : mw_S} {i q z : Int32} {nk : Nat} {ab : Nat → Option Nat} (hs : M.1 3 = nI nk) (hT : rm_T M nk ab) (hW : mw_W m ad h0 M h) : mm_Ok G mX12_resolved L (d + 2) [.ref m, .int i, .int q, .int z] h (fun r h1 => mw_W m ad h0 (rm_ans M (sp_resolved M ab i q z).2) h1 ∧ h1.2 = h.2 ∧ r = some (.int (sp_resolved M ab i q z).1)) := by
  refine mm_Ok.of [(0, .ref m), (1, .int i), (2, .int q), (3, .int z)] rfl kX12_resolved.2.2.2.2.2 rfl (fun A => ?_)
  have hn := hT.2.1
  refine mm_aload_n (pc := 0) dX12_resolved_0 rfl (by first | trivial | assumption | exact mm_isr_rf _) ?_
  refine mm_iload_n (pc := 1) dX12_resolved_1 rfl ?_
  refine mm_callV (pc := 2) (As := [_]) (kd := ?kd_2) (fs := ?fs_2) dX12_resolved_2 vl_X12_428 (ok_X12_isKind hW) ?hc_2 ?hk_2 rfl rfl (Nat.le_of_ble_eq_true rfl) ?_; (case hc_2 => exact hW.1); (case hk_2 => rfl)
  rintro _ _ ⟨rfl, rfl⟩
  refine mm_if_eq (pc := 5) (tgt := 15) dX12_resolved_5 (by decide) (fun c5 => ?_) (fun c5 => ?_)
  · refine mm_aload_n (pc := 15) dX12_resolved_15 rfl (by first | trivial | assumption | exact mm_isr_rf _) ?_
    refine mm_iconst (pc := 16) (v := (-1)) dX12_resolved_16 (by decide) ?_
    refine mm_callV (pc := 17) (As := [_]) (kd := ?kd_17) (fs := ?fs_17) dX12_resolved_17 vl_X12_189 (ok_X12_answer (x := -1) (c := 1) (by decide) (by decide) (by decide) hW) ?hc_17 ?hk_17 rfl rfl (Nat.le_of_ble_eq_true rfl) ?_; (case hc_17 => exact hW.1); (case hk_17 => rfl)
    rintro _ h_ ⟨hW, e_, rfl⟩
    refine mm_iret (pc := 20) dX12_resolved_20 rfl ?_
    unfold sp_resolved
    rw [if_pos c5]
    exact ⟨hW, e_, rfl⟩
  · refine mm_iload_n (pc := 8) dX12_resolved_8 rfl ?_
    refine mm_callS (pc := 9) (As := [_]) dX12_resolved_9 sl_X12_431 (ok_X12_isHook) rfl rfl (Nat.le_of_ble_eq_true rfl) ?_
    rintro _ _ ⟨rfl, rfl⟩
    refine mm_if_ne (pc := 12) (tgt := 21) dX12_resolved_12 (by decide) (fun c12 => ?_) (fun c12 => ?_)
    · obtain ⟨k_, hk_, rfl⟩ := sp_in_of c5 hs (by omega)
      obtain ⟨q_, hq_, rfl⟩ := sp_in_of c12 (show (6 : Int32) = nI 6 by decide) (by decide)
      refine mm_aload_n (pc := 21) dX12_resolved_21 rfl (by first | trivial | assumption | exact mm_isr_rf _) ?_
      refine mm_iload_n (pc := 22) dX12_resolved_22 rfl ?_
      refine mm_iload_n (pc := 23) dX12_resolved_23 rfl ?_
      refine mm_iload_n (pc := 24) dX12_resolved_24 rfl ?_
      refine mm_if_eq (pc := 25) (tgt := 37) dX12_resolved_25 (by decide) (fun c25 => ?_) (fun c25 => ?_)
      · refine mm_iload_n (pc := 37) dX12_resolved_37 rfl ?_
        refine mm_callV (pc := 38) (As := [_, _, _]) (kd := ?kd_38) (fs := ?fs_38) dX12_resolved_38 vl_X12_419 (ok_X12_find (k := k_) (j := q_) (c0 := (some k_)) hT hk_ hq_ hk_ hW) ?hc_38 ?hk_38 rfl rfl (Nat.le_of_ble_eq_true rfl) ?_; (case hc_38 => exact hW.1); (case hk_38 => rfl)
        rintro _ _ ⟨rfl, rfl⟩
        refine mm_istore (pc := 41) dX12_resolved_41 rfl (Nat.le_of_ble_eq_true rfl) ?_
        refine mm_iload (pc := 43) dX12_resolved_43 rfl ?_
        refine mm_if_ge (pc := 45) (tgt := 57) dX12_resolved_45 (by decide) (fun c45 => ?_) (fun c45 => ?_)
        · refine mm_iload (pc := 57) dX12_resolved_57 rfl ?_
          refine mm_iret (pc := 59) dX12_resolved_59 rfl ?_
          unfold sp_resolved
          rw [nI_clamp (show k_ < 2 ^ 31 by omega), nI_clamp (show q_ < 2 ^ 31 by omega)]
          rw [if_neg c5, if_neg c12, if_pos c25]
          cases hr : kfind ab (fun x => rm_has M q_ x && (Nat.beq x k_ || rm_sees M q_ k_ x)) (some k_) with
          | none => rw [hr] at c45; exact absurd c45 (by decide)
          | some x => exact ⟨hW, rfl, rfl⟩
        · refine mm_aload_n (pc := 48) dX12_resolved_48 rfl (by first | trivial | assumption | exact mm_isr_rf _) ?_
          refine mm_bipush (pc := 49) (v := (-2)) dX12_resolved_49 (by decide) ?_
          refine mm_callV (pc := 51) (As := [_]) (kd := ?kd_51) (fs := ?fs_51) dX12_resolved_51 vl_X12_189 (ok_X12_answer (x := -2) (c := 2) (by decide) (by decide) (by decide) hW) ?hc_51 ?hk_51 rfl rfl (Nat.le_of_ble_eq_true rfl) ?_; (case hc_51 => exact hW.1); (case hk_51 => rfl)
          rintro _ h_ ⟨hW, e_, rfl⟩
          refine mm_goto (pc := 54) (tgt := 59) dX12_resolved_54 (by decide) ?_
          refine mm_iret (pc := 59) dX12_resolved_59 rfl ?_
          unfold sp_resolved
          rw [nI_clamp (show k_ < 2 ^ 31 by omega), nI_clamp (show q_ < 2 ^ 31 by omega)]
          rw [if_neg c5, if_neg c12, if_pos c25]
          cases hr : kfind ab (fun x => rm_has M q_ x && (Nat.beq x k_ || rm_sees M q_ k_ x)) (some k_) with
          | none => exact ⟨hW, e_, rfl⟩
          | some x =>
            have hx := (kfind_sat hT.1 (by omega) nk _ x (show kf_lt nk (some k_) from hk_) (show kf_lt nk (some k_) from hk_) hr).2.1
            rw [hr] at c45
            exact absurd (nI_pos' (by omega)) c45
      · refine mm_aload_n (pc := 28) dX12_resolved_28 rfl (by first | trivial | assumption | exact mm_isr_rf _) ?_
        refine mw_geta (pc := 29) 6 hW dX12_resolved_29 fl_X12_26 rfl rfl ?_
        refine mm_iload_n (pc := 32) dX12_resolved_32 rfl ?_
        refine mw_iald (pc := 33) 6 k_ hW dX12_resolved_33 rfl rfl (by first | with_reducible rfl | assumption | rfl) (by show _ < 50; omega) (by omega) ?_
        refine mm_topi _ (hT.2.2 k_ hk_) ?_
        refine mm_goto (pc := 34) (tgt := 38) dX12_resolved_34 (by decide) ?_
        refine mm_callV (pc := 38) (As := [_, _, _]) (kd := ?kd_38) (fs := ?fs_38) dX12_resolved_38 vl_X12_419 (ok_X12_find (k := k_) (j := q_) (c0 := (ab k_)) hT hk_ hq_ (up_lt hT hk_) hW) ?hc_38 ?hk_38 rfl rfl (Nat.le_of_ble_eq_true rfl) ?_; (case hc_38 => exact hW.1); (case hk_38 => rfl)
        rintro _ _ ⟨rfl, rfl⟩
        refine mm_istore (pc := 41) dX12_resolved_41 rfl (Nat.le_of_ble_eq_true rfl) ?_
        refine mm_iload (pc := 43) dX12_resolved_43 rfl ?_
        refine mm_if_ge (pc := 45) (tgt := 57) dX12_resolved_45 (by decide) (fun c45 => ?_) (fun c45 => ?_)
        · refine mm_iload (pc := 57) dX12_resolved_57 rfl ?_
          refine mm_iret (pc := 59) dX12_resolved_59 rfl ?_
          unfold sp_resolved
          rw [nI_clamp (show k_ < 2 ^ 31 by omega), nI_clamp (show q_ < 2 ^ 31 by omega)]
          rw [if_neg c5, if_neg c12, if_neg c25]
          cases hr : kfind ab (fun x => rm_has M q_ x && (Nat.beq x k_ || rm_sees M q_ k_ x)) (ab k_) with
          | none => rw [hr] at c45; exact absurd c45 (by decide)
          | some x => exact ⟨hW, rfl, rfl⟩
        · refine mm_aload_n (pc := 48) dX12_resolved_48 rfl (by first | trivial | assumption | exact mm_isr_rf _) ?_
          refine mm_bipush (pc := 49) (v := (-2)) dX12_resolved_49 (by decide) ?_
          refine mm_callV (pc := 51) (As := [_]) (kd := ?kd_51) (fs := ?fs_51) dX12_resolved_51 vl_X12_189 (ok_X12_answer (x := -2) (c := 2) (by decide) (by decide) (by decide) hW) ?hc_51 ?hk_51 rfl rfl (Nat.le_of_ble_eq_true rfl) ?_; (case hc_51 => exact hW.1); (case hk_51 => rfl)
          rintro _ h_ ⟨hW, e_, rfl⟩
          refine mm_goto (pc := 54) (tgt := 59) dX12_resolved_54 (by decide) ?_
          refine mm_iret (pc := 59) dX12_resolved_59 rfl ?_
          unfold sp_resolved
          rw [nI_clamp (show k_ < 2 ^ 31 by omega), nI_clamp (show q_ < 2 ^ 31 by omega)]
          rw [if_neg c5, if_neg c12, if_neg c25]
          cases hr : kfind ab (fun x => rm_has M q_ x && (Nat.beq x k_ || rm_sees M q_ k_ x)) (ab k_) with
          | none => exact ⟨hW, e_, rfl⟩
          | some x =>
            have hx := (kfind_sat hT.1 (by omega) nk _ x (up_lt hT hk_) (up_lt hT hk_) hr).2.1
            rw [hr] at c45
            exact absurd (nI_pos' (by omega)) c45
    · refine mm_aload_n (pc := 15) dX12_resolved_15 rfl (by first | trivial | assumption | exact mm_isr_rf _) ?_
      refine mm_iconst (pc := 16) (v := (-1)) dX12_resolved_16 (by decide) ?_
      refine mm_callV (pc := 17) (As := [_]) (kd := ?kd_17) (fs := ?fs_17) dX12_resolved_17 vl_X12_189 (ok_X12_answer (x := -1) (c := 1) (by decide) (by decide) (by decide) hW) ?hc_17 ?hk_17 rfl rfl (Nat.le_of_ble_eq_true rfl) ?_; (case hc_17 => exact hW.1); (case hk_17 => rfl)
      rintro _ h_ ⟨hW, e_, rfl⟩
      refine mm_iret (pc := 20) dX12_resolved_20 rfl ?_
      unfold sp_resolved
      rw [if_neg c5, if_pos c12]
      exact ⟨hW, e_, rfl⟩

/-- how many kinds there are on the way up -/
def kdp (ab : Nat → Option Nat) : Nat → Option Nat → Nat
  | 0, _ => 0
  | _ + 1, none => 0
  | f + 1, some x => kdp ab f (ab x) + 1
theorem kdp_fuel {ab : Nat → Option Nat} {n : Nat} (hab : kf_ok ab n) : ∀ (f : Nat) (c : Option Nat), kf_lt f c → kf_lt n c → ∀ g, f ≤ g → kdp ab g c = kdp ab f c := by
  intro f
  induction f with
  | zero =>
    intro c h1 h2 g _
    cases c with
    | none => cases g <;> rfl
    | some x => exact absurd h1 (Nat.not_lt_zero x)
  | succ f ih =>
    intro c h1 h2 g hg
    cases c with
    | none => cases g <;> rfl
    | some x =>
      obtain ⟨g, rfl⟩ : ∃ g', g = g' + 1 := ⟨g - 1, by omega⟩
      show kdp ab g (ab x) + 1 = kdp ab f (ab x) + 1
      have h1 : x < f + 1 := h1
      have h2 : x < n := h2
      cases hx : ab x with
      | none => rw [show kdp ab g none = kdp ab f none by cases g <;> cases f <;> rfl]
      | some z =>
        have hz := hab x z h2 hx
        rw [ih (some z) (show z < f by omega) (show z < n by omega) g (by omega)]
def kdep (ab : Nat → Option Nat) (c : Option Nat) : Nat := kdp ab 64 c
theorem kdep_some {ab : Nat → Option Nat} {n x : Nat} (hab : kf_ok ab n) (hn : n ≤ 63) (hx : x < n) : kdep ab (some x) = kdep ab (ab x) + 1 := by
  show kdp ab 63 (ab x) + 1 = kdp ab 64 (ab x) + 1
  have h1 : kf_lt x (ab x) := by
    cases h : ab x with
    | none => trivial
    | some z => exact hab x z hx h
  have h2 : kf_lt n (ab x) := by
    cases h : ab x with
    | none => trivial
    | some z => exact Nat.lt_trans (hab x z hx h) hx
  rw [kdp_fuel hab x _ h1 h2 63 (by omega), kdp_fuel hab x _ h1 h2 64 (by omega)]
def sp_bits (M : mw_S) (k : Nat) : Nat → Int32
  | 0 => 0
  | t + 1 => sp_bits M k t ||| (if bI (rm_has M t k) = 0 then 0 else (1 : Int32) <<< (nI t &&& 31))
theorem sp_bits_s (M : mw_S) (k t : Nat) : sp_bits M k (t + 1) = sp_bits M k t ||| (if bI (rm_has M t k) = 0 then 0 else (1 : Int32) <<< (nI t &&& 31)) := rfl
def sp_kind (M : mw_S) (ab : Nat → Option Nat) (i w : Int32) : Int32 × Nat := if sp_in i (M.1 3) = 0 then sp_bad else if w < 0 then sp_bad else if w ≤ 4 then (if w = 0 then (M.2.2.1 5 i.toNatClampNeg, 0) else if w = 1 then (if 0 ≤ M.2.2.1 6 i.toNatClampNeg then (M.2.2.1 6 i.toNatClampNeg, 0) else (-7, 0)) else if w = 2 then (M.2.2.1 7 i.toNatClampNeg, 0) else if w = 3 then (sp_bits M i.toNatClampNeg 6, 0) else (nI (kdep ab (ab i.toNatClampNeg)), 0)) else sp_bad

theorem ok_X12_kind {G : mm_G} {L : Nat × Nat} {d : Nat} {h h0 : mm_H} {m : Nat} {ad : Nat → Nat} {M : mw_S} {i w : Int32} {nk : Nat} {ab : Nat → Option Nat} (hs : M.1 3 = nI nk) (hT : rm_T M nk ab) (hW : mw_W m ad h0 M h) : mm_Ok G mX12_kind L (d + 1) [.ref m, .int i, .int w] h (fun r h1 => mw_W m ad h0 (rm_ans M (sp_kind M ab i w).2) h1 ∧ h1.2 = h.2 ∧ r = some (.int (sp_kind M ab i w).1)) := by
  refine mm_Ok.of [(0, .ref m), (1, .int i), (2, .int w)] rfl kX12_kind.2.2.2.2.2 rfl (fun A => ?_)
  have hn := hT.2.1
  have lpB_ : ∀ (k_ : Nat), k_ < nk → ¬ sp_in (nI k_) (M.1 3) = 0 → ¬ w < 0 → w ≤ 4 → w = 3 → ∀ (v t : Nat), t + v = 6 → mm_Run G mX12_kind A L (d + 1) 94 [(4, .int (nI t)), (3, .int (sp_bits M k_ t)), (0, .ref m), (1, .int (nI k_))] [] h (fun r h1 => mw_W m ad h0 (rm_ans M (sp_kind M ab (nI k_) w).2) h1 ∧ h1.2 = h.2 ∧ r = some (.int (sp_kind M ab (nI k_) w).1)) := by
    intro k_ hk_ c5 c9 c14 c26 v
    induction v with
    | zero =>
      intro t ht
      obtain rfl : t = 6 := by omega
      refine mm_iload (pc := 94) dX12_kind_94 rfl ?_
      refine mm_bipush (pc := 96) (v := 6) dX12_kind_96 (by decide) ?_
      refine mm_icmp_ge (pc := 98) (tgt := 128) dX12_kind_98 (by decide) (fun c98 => ?_) (fun c98 => absurd (by decide) c98)
      refine mm_iload_n (pc := 128) dX12_kind_128 rfl ?_
      refine mm_iret (pc := 129) dX12_kind_129 rfl ?_
      unfold sp_kind
      rw [nI_clamp (show k_ < 2 ^ 31 by omega), if_neg c5, if_neg c9, if_pos c14, if_neg (show ¬ w = 0 by rw [c26]; decide), if_neg (show ¬ w = 1 by rw [c26]; decide), if_neg (show ¬ w = 2 by rw [c26]; decide), if_pos c26]
      exact ⟨hW, rfl, rfl⟩
    | succ v ih =>
      intro t ht
      refine mm_iload (pc := 94) dX12_kind_94 rfl ?_
      refine mm_bipush (pc := 96) (v := 6) dX12_kind_96 (by decide) ?_
      refine mm_icmp_ge (pc := 98) (tgt := 128) dX12_kind_98 (by decide) (fun c98 => absurd c98 (nI_ge (b := 6) (by omega) (by decide))) (fun c98 => ?_)
      refine mm_iload_n (pc := 101) dX12_kind_101 rfl ?_
      refine mm_aload_n (pc := 102) dX12_kind_102 rfl (by first | trivial | assumption | exact mm_isr_rf _) ?_
      refine mm_iload_n (pc := 103) dX12_kind_103 rfl ?_
      refine mm_iload (pc := 104) dX12_kind_104 rfl ?_
      refine mm_callV (pc := 106) (As := [_, _]) (kd := ?kd_106) (fs := ?fs_106) dX12_kind_106 vl_X12_196 (ok_X12_hasBody (k := k_) (j := t) (by omega) (by omega) hW) ?hc_106 ?hk_106 rfl rfl (Nat.le_of_ble_eq_true rfl) ?_; (case hc_106 => exact hW.1); (case hk_106 => rfl)
      rintro _ _ ⟨rfl, rfl⟩
      refine mm_if_eq (pc := 109) (tgt := 119) dX12_kind_109 (by decide) (fun c109 => ?_) (fun c109 => ?_)
      · refine mm_iconst (pc := 119) (v := 0) dX12_kind_119 (by decide) ?_
        refine mm_ior (pc := 120) dX12_kind_120 ?_
        refine mm_istore_n (pc := 121) dX12_kind_121 rfl (Nat.le_of_ble_eq_true rfl) ?_
        refine mm_iinc (pc := 122) dX12_kind_122 rfl rfl rfl (Nat.le_of_ble_eq_true rfl) ?_
        refine mm_goto (pc := 125) (tgt := 94) dX12_kind_125 (by decide) ?_
        exact mm_weakK (ih (t + 1) (by omega)) (And.intro (by rw [← nI_1]; rfl) (And.intro (by rw [sp_bits_s, if_pos c109]; rfl) (And.intro rfl (And.intro rfl trivial))))
      · refine mm_iconst (pc := 112) (v := 1) dX12_kind_112 (by decide) ?_
        refine mm_iload (pc := 113) dX12_kind_113 rfl ?_
        refine mm_ishl (pc := 115) dX12_kind_115 ?_
        refine mm_goto (pc := 116) (tgt := 120) dX12_kind_116 (by decide) ?_
        refine mm_ior (pc := 120) dX12_kind_120 ?_
        refine mm_istore_n (pc := 121) dX12_kind_121 rfl (Nat.le_of_ble_eq_true rfl) ?_
        refine mm_iinc (pc := 122) dX12_kind_122 rfl rfl rfl (Nat.le_of_ble_eq_true rfl) ?_
        refine mm_goto (pc := 125) (tgt := 94) dX12_kind_125 (by decide) ?_
        exact mm_weakK (ih (t + 1) (by omega)) (And.intro (by rw [← nI_1]; rfl) (And.intro (by rw [sp_bits_s, if_neg c109]; rfl) (And.intro rfl (And.intro rfl trivial))))
  have lpD_ : ∀ (k_ : Nat), k_ < nk → ¬ sp_in (nI k_) (M.1 3) = 0 → ¬ w < 0 → w ≤ 4 → ¬ w = 0 → ¬ w = 1 → ¬ w = 2 → ¬ w = 3 → ∀ (f : Nat) (c : Option Nat), kf_lt f c → kf_lt nk c → ∀ (s : Nat), s + kdep ab c = kdep ab (ab k_) → mm_Run G mX12_kind A L (d + 1) 138 [(4, .int (oI c)), (3, .int (nI s)), (0, .ref m)] [] h (fun r h1 => mw_W m ad h0 (rm_ans M (sp_kind M ab (nI k_) w).2) h1 ∧ h1.2 = h.2 ∧ r = some (.int (sp_kind M ab (nI k_) w).1)) := by
    intro k_ hk_ c5 c9 c14 w0 w1 w2 w3 f
    induction f with
    | zero =>
      intro c h1 h2 s he
      cases c with
      | none =>
        refine mm_iload (pc := 138) dX12_kind_138 rfl ?_
        refine mm_if_lt (pc := 140) (tgt := 158) dX12_kind_140 (by decide) (fun c140 => ?_) (fun c140 => absurd oI_neg c140)
        refine mm_iload_n (pc := 158) dX12_kind_158 rfl ?_
        refine mm_iret (pc := 159) dX12_kind_159 rfl ?_
        have he : s = kdep ab (ab k_) := he
        unfold sp_kind
        rw [nI_clamp (show k_ < 2 ^ 31 by omega), if_neg c5, if_neg c9, if_pos c14, if_neg w0, if_neg w1, if_neg w2, if_neg w3, he]
        exact ⟨hW, rfl, rfl⟩
      | some x => exact absurd h1 (Nat.not_lt_zero x)
    | succ f ih =>
      intro c h1 h2 s he
      cases c with
      | none =>
        refine mm_iload (pc := 138) dX12_kind_138 rfl ?_
        refine mm_if_lt (pc := 140) (tgt := 158) dX12_kind_140 (by decide) (fun c140 => ?_) (fun c140 => absurd oI_neg c140)
        refine mm_iload_n (pc := 158) dX12_kind_158 rfl ?_
        refine mm_iret (pc := 159) dX12_kind_159 rfl ?_
        have he : s = kdep ab (ab k_) := he
        unfold sp_kind
        rw [nI_clamp (show k_ < 2 ^ 31 by omega), if_neg c5, if_neg c9, if_pos c14, if_neg w0, if_neg w1, if_neg w2, if_neg w3, he]
        exact ⟨hW, rfl, rfl⟩
      | some x =>
        have h1 : x < f + 1 := h1
        have h2 : x < nk := h2
        have hs2 := kdep_some hT.1 (by omega) h2
        refine mm_iload (pc := 138) dX12_kind_138 rfl ?_
        refine mm_if_lt (pc := 140) (tgt := 158) dX12_kind_140 (by decide) (fun c140 => absurd c140 (oI_pos (by omega))) (fun c140 => ?_)
        refine mm_iinc (pc := 143) dX12_kind_143 rfl rfl rfl (Nat.le_of_ble_eq_true rfl) ?_
        refine mm_aload_n (pc := 146) dX12_kind_146 rfl (by first | trivial | assumption | exact mm_isr_rf _) ?_
        refine mw_geta (pc := 147) 6 hW dX12_kind_147 fl_X12_26 rfl rfl ?_
        refine mm_iload (pc := 150) dX12_kind_150 rfl ?_
        refine mw_iald (pc := 152) 6 x hW dX12_kind_152 rfl rfl (by first | with_reducible rfl | assumption | rfl) (by show _ < 50; omega) (by omega) ?_
        refine mm_topi _ (hT.2.2 x h2) ?_
        refine mm_istore (pc := 153) dX12_kind_153 rfl (Nat.le_of_ble_eq_true rfl) ?_
        refine mm_goto (pc := 155) (tgt := 138) dX12_kind_155 (by decide) ?_
        refine mm_weakK (ih (ab x) ?_ ?_ (s + 1) (by omega)) (And.intro rfl (And.intro (by rw [← nI_1]; rfl) (And.intro rfl trivial)))
        · cases hx : ab x with
          | none => trivial
          | some z => exact Nat.lt_of_lt_of_le (hT.1 x z h2 hx) (by omega)
        · exact up_lt hT h2
  refine mm_aload_n (pc := 0) dX12_kind_0 rfl (by first | trivial | assumption | exact mm_isr_rf _) ?_
  refine mm_iload_n (pc := 1) dX12_kind_1 rfl ?_
  refine mm_callV (pc := 2) (As := [_]) (kd := ?kd_2) (fs := ?fs_2) dX12_kind_2 vl_X12_428 (ok_X12_isKind hW) ?hc_2 ?hk_2 rfl rfl (Nat.le_of_ble_eq_true rfl) ?_; (case hc_2 => exact hW.1); (case hk_2 => rfl)
  rintro _ _ ⟨rfl, rfl⟩
  refine mm_if_eq (pc := 5) (tgt := 17) dX12_kind_5 (by decide) (fun c5 => ?_) (fun c5 => ?_)
  · refine mm_aload_n (pc := 17) dX12_kind_17 rfl (by first | trivial | assumption | exact mm_isr_rf _) ?_
    refine mm_iconst (pc := 18) (v := (-1)) dX12_kind_18 (by decide) ?_
    refine mm_callV (pc := 19) (As := [_]) (kd := ?kd_19) (fs := ?fs_19) dX12_kind_19 vl_X12_189 (ok_X12_answer (x := -1) (c := 1) (by decide) (by decide) (by decide) hW) ?hc_19 ?hk_19 rfl rfl (Nat.le_of_ble_eq_true rfl) ?_; (case hc_19 => exact hW.1); (case hk_19 => rfl)
    rintro _ h_ ⟨hW, e_, rfl⟩
    refine mm_iret (pc := 22) dX12_kind_22 rfl ?_
    unfold sp_kind
    rw [if_pos c5]
    exact ⟨hW, e_, rfl⟩
  · refine mm_iload_n (pc := 8) dX12_kind_8 rfl ?_
    refine mm_if_lt (pc := 9) (tgt := 17) dX12_kind_9 (by decide) (fun c9 => ?_) (fun c9 => ?_)
    · refine mm_aload_n (pc := 17) dX12_kind_17 rfl (by first | trivial | assumption | exact mm_isr_rf _) ?_
      refine mm_iconst (pc := 18) (v := (-1)) dX12_kind_18 (by decide) ?_
      refine mm_callV (pc := 19) (As := [_]) (kd := ?kd_19) (fs := ?fs_19) dX12_kind_19 vl_X12_189 (ok_X12_answer (x := -1) (c := 1) (by decide) (by decide) (by decide) hW) ?hc_19 ?hk_19 rfl rfl (Nat.le_of_ble_eq_true rfl) ?_; (case hc_19 => exact hW.1); (case hk_19 => rfl)
      rintro _ h_ ⟨hW, e_, rfl⟩
      refine mm_iret (pc := 22) dX12_kind_22 rfl ?_
      unfold sp_kind
      rw [if_neg c5, if_pos c9]
      exact ⟨hW, e_, rfl⟩
    · refine mm_iload_n (pc := 12) dX12_kind_12 rfl ?_
      refine mm_iconst (pc := 13) (v := 4) dX12_kind_13 (by decide) ?_
      refine mm_icmp_le (pc := 14) (tgt := 23) dX12_kind_14 (by decide) (fun c14 => ?_) (fun c14 => ?_)
      · obtain ⟨k_, hk_, rfl⟩ := sp_in_of c5 hs (by omega)
        refine mm_iconst (pc := 23) (v := 0) dX12_kind_23 (by decide) ?_
        refine mm_istore_n (pc := 24) dX12_kind_24 rfl (Nat.le_of_ble_eq_true rfl) ?_
        refine mm_iload_n (pc := 25) dX12_kind_25 rfl ?_
        refine mm_sw (pc := 26) [56, 63, 84, 91] 130 dX12_kind_26 (by decide) (by decide) (by decide) (fun i_ t_ ht_ hx_ => ?_) (fun c26 => ?_)
        · match i_, ht_ with
          | 0, ht_ =>
            cases ht_
            have c26 := mm_swe (v := 0) hx_ (by decide)
            refine mm_aload_n (pc := 56) dX12_kind_56 rfl (by first | trivial | assumption | exact mm_isr_rf _) ?_
            refine mw_geta (pc := 57) 5 hW dX12_kind_57 fl_X12_23 rfl rfl ?_
            refine mm_iload_n (pc := 60) dX12_kind_60 rfl ?_
            refine mw_iald (pc := 61) 5 k_ hW dX12_kind_61 rfl rfl (by first | with_reducible rfl | assumption | rfl) (by show _ < 50; omega) (by omega) ?_
            refine mm_iret (pc := 62) dX12_kind_62 rfl ?_
            unfold sp_kind
            rw [nI_clamp (show k_ < 2 ^ 31 by omega), if_neg c5, if_neg c9, if_pos c14, if_pos c26]
            exact ⟨hW, rfl, rfl⟩
          | 1, ht_ =>
            cases ht_
            have c26 := mm_swe (v := 1) hx_ (by decide)
            refine mm_aload_n (pc := 63) dX12_kind_63 rfl (by first | trivial | assumption | exact mm_isr_rf _) ?_
            refine mw_geta (pc := 64) 6 hW dX12_kind_64 fl_X12_26 rfl rfl ?_
            refine mm_iload_n (pc := 67) dX12_kind_67 rfl ?_
            refine mw_iald (pc := 68) 6 k_ hW dX12_kind_68 rfl rfl (by first | with_reducible rfl | assumption | rfl) (by show _ < 50; omega) (by omega) ?_
            refine mm_if_ge (pc := 69) (tgt := 77) dX12_kind_69 (by decide) (fun c69 => ?_) (fun c69 => ?_)
            · refine mm_aload_n (pc := 77) dX12_kind_77 rfl (by first | trivial | assumption | exact mm_isr_rf _) ?_
              refine mw_geta (pc := 78) 6 hW dX12_kind_78 fl_X12_26 rfl rfl ?_
              refine mm_iload_n (pc := 81) dX12_kind_81 rfl ?_
              refine mw_iald (pc := 82) 6 k_ hW dX12_kind_82 rfl rfl (by first | with_reducible rfl | assumption | rfl) (by show _ < 50; omega) (by omega) ?_
              refine mm_iret (pc := 83) dX12_kind_83 rfl ?_
              unfold sp_kind
              rw [nI_clamp (show k_ < 2 ^ 31 by omega), if_neg c5, if_neg c9, if_pos c14, if_neg (show ¬ w = 0 by rw [c26]; decide), if_pos c26, if_pos c69]
              exact ⟨hW, rfl, rfl⟩
            · refine mm_bipush (pc := 72) (v := (-7)) dX12_kind_72 (by decide) ?_
              refine mm_goto (pc := 74) (tgt := 83) dX12_kind_74 (by decide) ?_
              refine mm_iret (pc := 83) dX12_kind_83 rfl ?_
              unfold sp_kind
              rw [nI_clamp (show k_ < 2 ^ 31 by omega), if_neg c5, if_neg c9, if_pos c14, if_neg (show ¬ w = 0 by rw [c26]; decide), if_pos c26, if_neg c69]
              exact ⟨hW, rfl, rfl⟩
          | 2, ht_ =>
            cases ht_
            have c26 := mm_swe (v := 2) hx_ (by decide)
            refine mm_aload_n (pc := 84) dX12_kind_84 rfl (by first | trivial | assumption | exact mm_isr_rf _) ?_
            refine mw_geta (pc := 85) 7 hW dX12_kind_85 fl_X12_29 rfl rfl ?_
            refine mm_iload_n (pc := 88) dX12_kind_88 rfl ?_
            refine mw_iald (pc := 89) 7 k_ hW dX12_kind_89 rfl rfl (by first | with_reducible rfl | assumption | rfl) (by show _ < 50; omega) (by omega) ?_
            refine mm_iret (pc := 90) dX12_kind_90 rfl ?_
            unfold sp_kind
            rw [nI_clamp (show k_ < 2 ^ 31 by omega), if_neg c5, if_neg c9, if_pos c14, if_neg (show ¬ w = 0 by rw [c26]; decide), if_neg (show ¬ w = 1 by rw [c26]; decide), if_pos c26]
            exact ⟨hW, rfl, rfl⟩
          | 3, ht_ =>
            cases ht_
            have c26 := mm_swe (v := 3) hx_ (by decide)
            refine mm_iconst (pc := 91) (v := 0) dX12_kind_91 (by decide) ?_
            refine mm_istore (pc := 92) dX12_kind_92 rfl (Nat.le_of_ble_eq_true rfl) ?_
            exact mm_weakK (lpB_ k_ hk_ c5 c9 c14 c26 6 0 (by omega)) (And.intro rfl (And.intro rfl (And.intro rfl (And.intro rfl trivial))))
          | n_ + 4, ht_ => cases ht_
        · have w0 : ¬ w = 0 := mm_swn (c26 0 (by decide)) (by decide)
          have w1 : ¬ w = 1 := mm_swn (c26 1 (by decide)) (by decide)
          have w2 : ¬ w = 2 := mm_swn (c26 2 (by decide)) (by decide)
          have w3 : ¬ w = 3 := mm_swn (c26 3 (by decide)) (by decide)
          refine mm_aload_n (pc := 130) dX12_kind_130 rfl (by first | trivial | assumption | exact mm_isr_rf _) ?_
          refine mw_geta (pc := 131) 6 hW dX12_kind_131 fl_X12_26 rfl rfl ?_
          refine mm_iload_n (pc := 134) dX12_kind_134 rfl ?_
          refine mw_iald (pc := 135) 6 k_ hW dX12_kind_135 rfl rfl (by first | with_reducible rfl | assumption | rfl) (by show _ < 50; omega) (by omega) ?_
          refine mm_topi _ (hT.2.2 k_ hk_) ?_
          refine mm_istore (pc := 136) dX12_kind_136 rfl (Nat.le_of_ble_eq_true rfl) ?_
          exact mm_weakK (lpD_ k_ hk_ c5 c9 c14 w0 w1 w2 w3 nk (ab k_) (up_lt hT hk_) (up_lt hT hk_) 0 (Nat.zero_add _)) (And.intro rfl (And.intro rfl (And.intro rfl trivial)))
      · refine mm_aload_n (pc := 17) dX12_kind_17 rfl (by first | trivial | assumption | exact mm_isr_rf _) ?_
        refine mm_iconst (pc := 18) (v := (-1)) dX12_kind_18 (by decide) ?_
        refine mm_callV (pc := 19) (As := [_]) (kd := ?kd_19) (fs := ?fs_19) dX12_kind_19 vl_X12_189 (ok_X12_answer (x := -1) (c := 1) (by decide) (by decide) (by decide) hW) ?hc_19 ?hk_19 rfl rfl (Nat.le_of_ble_eq_true rfl) ?_; (case hc_19 => exact hW.1); (case hk_19 => rfl)
        rintro _ h_ ⟨hW, e_, rfl⟩
        refine mm_iret (pc := 22) dX12_kind_22 rfl ?_
        unfold sp_kind
        rw [if_neg c5, if_neg c9, if_neg c14]
        exact ⟨hW, e_, rfl⟩

