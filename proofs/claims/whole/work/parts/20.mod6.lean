def sp_no : Int32 × Nat := (-2, 2)
def sp_body (M : mw_S) (i q w : Int32) : Int32 × Nat := if sp_in i (M.1 3) = 0 then sp_bad else if sp_in q 6 = 0 then sp_bad else if w < 0 then sp_bad else if w ≤ 2 then (if bI (rm_has M q.toNatClampNeg i.toNatClampNeg) = 0 then sp_no else if w = 0 then (M.2.2.1 9 (6 * i.toNatClampNeg + q.toNatClampNeg), 0) else if w = 1 then (if M.2.2.1 10 (6 * i.toNatClampNeg + q.toNatClampNeg) = 0 then (0, 0) else (1, 0)) else (M.2.2.1 12 (6 * i.toNatClampNeg + q.toNatClampNeg), 0)) else sp_bad
noncomputable def sp_overrides (M : mw_S) (ab : Nat → Option Nat) (i q j : Int32) : Int32 × Nat := if sp_in i (M.1 3) = 0 then sp_bad else if sp_in j (M.1 3) = 0 then sp_bad else if sp_in q 6 = 0 then sp_bad else if bI (rm_has M q.toNatClampNeg i.toNatClampNeg) = 0 then sp_no else if bI (rm_has M q.toNatClampNeg j.toNatClampNeg) = 0 then sp_no else (bI (ovB ab (rm_E M q.toNatClampNeg) i.toNatClampNeg j.toNatClampNeg), 0)
noncomputable def sp_chosen (M : mw_S) (ab : Nat → Option Nat) (j q i : Int32) : Int32 × Nat := if sp_in i (M.1 3) = 0 then sp_bad else if sp_in j (M.1 3) = 0 then sp_bad else if sp_in q 6 = 0 then sp_bad else if bI (rm_has M q.toNatClampNeg j.toNatClampNeg) = 0 then sp_no else
  if i = j then (oI (kfind ab (fun x => Nat.beq x j.toNatClampNeg || (rm_has M q.toNatClampNeg x && ovB ab (rm_E M q.toNatClampNeg) x j.toNatClampNeg)) (some i.toNatClampNeg)), 0) else if bI (kfind ab (fun x => Nat.beq x j.toNatClampNeg) (ab i.toNatClampNeg)).isSome = 0 then sp_no else (oI (kfind ab (fun x => Nat.beq x j.toNatClampNeg || (rm_has M q.toNatClampNeg x && ovB ab (rm_E M q.toNatClampNeg) x j.toNatClampNeg)) (some i.toNatClampNeg)), 0)
def sp_resolvedR (r : Option Nat) : Int32 × Nat := match r with
  | none => sp_no
  | some x => (nI x, 0)
def sp_resolved (M : mw_S) (ab : Nat → Option Nat) (i q z : Int32) : Int32 × Nat := if sp_in i (M.1 3) = 0 then sp_bad else if sp_in q 6 = 0 then sp_bad else sp_resolvedR (kfind ab (fun x => rm_has M q.toNatClampNeg x && (Nat.beq x i.toNatClampNeg || rm_sees M q.toNatClampNeg i.toNatClampNeg x)) (if z = 0 then some i.toNatClampNeg else ab i.toNatClampNeg))

theorem ok_X12_body_ {G : mm_G} {L : Nat × Nat} {d : Nat} {h h0 : mm_H} {m : Nat} {ad : Nat → Nat} {M : mw_S} {i q w : Int32} {nk : Nat} (hs : M.1 3 = nI nk) (hn : nk ≤ 50) (hW : mw_W m ad h0 M h) : mm_Ok G mX12_body_ L (d + 1) [.ref m, .int i, .int q, .int w] h (fun r h1 => mw_W m ad h0 (rm_ans M (sp_body M i q w).2) h1 ∧ h1.2 = h.2 ∧ r = some (.int (sp_body M i q w).1)) := by
  refine mm_Ok.of [(0, .ref m), (1, .int i), (2, .int q), (3, .int w)] rfl kX12_body_.2.2.2.2.2 rfl (fun A => ?_)
  refine mm_aload_n (pc := 0) dX12_body__0 rfl (by first | trivial | assumption | exact mm_isr_rf _) ?_
  refine mm_iload_n (pc := 1) dX12_body__1 rfl ?_
  refine mm_callV (pc := 2) (As := [_]) (kd := ?kd_2) (fs := ?fs_2) dX12_body__2 vl_X12_428 (ok_X12_isKind hW) ?hc_2 ?hk_2 rfl rfl (Nat.le_of_ble_eq_true rfl) ?_; (case hc_2 => exact hW.1); (case hk_2 => rfl)
  rintro _ _ ⟨rfl, rfl⟩
  refine mm_if_eq (pc := 5) (tgt := 24) dX12_body__5 (by decide) (fun c5 => ?_) (fun c5 => ?_)
  · refine mm_aload_n (pc := 24) dX12_body__24 rfl (by first | trivial | assumption | exact mm_isr_rf _) ?_
    refine mm_iconst (pc := 25) (v := (-1)) dX12_body__25 (by decide) ?_
    refine mm_callV (pc := 26) (As := [_]) (kd := ?kd_26) (fs := ?fs_26) dX12_body__26 vl_X12_189 (ok_X12_answer (x := -1) (c := 1) (by decide) (by decide) (by decide) hW) ?hc_26 ?hk_26 rfl rfl (Nat.le_of_ble_eq_true rfl) ?_; (case hc_26 => exact hW.1); (case hk_26 => rfl)
    rintro _ h_ ⟨hW, e_, rfl⟩
    refine mm_iret (pc := 29) dX12_body__29 rfl ?_
    unfold sp_body
    rw [if_pos c5]
    exact ⟨hW, e_, rfl⟩
  · refine mm_iload_n (pc := 8) dX12_body__8 rfl ?_
    refine mm_callS (pc := 9) (As := [_]) dX12_body__9 sl_X12_431 (ok_X12_isHook) rfl rfl (Nat.le_of_ble_eq_true rfl) ?_
    rintro _ _ ⟨rfl, rfl⟩
    refine mm_if_eq (pc := 12) (tgt := 24) dX12_body__12 (by decide) (fun c12 => ?_) (fun c12 => ?_)
    · refine mm_aload_n (pc := 24) dX12_body__24 rfl (by first | trivial | assumption | exact mm_isr_rf _) ?_
      refine mm_iconst (pc := 25) (v := (-1)) dX12_body__25 (by decide) ?_
      refine mm_callV (pc := 26) (As := [_]) (kd := ?kd_26) (fs := ?fs_26) dX12_body__26 vl_X12_189 (ok_X12_answer (x := -1) (c := 1) (by decide) (by decide) (by decide) hW) ?hc_26 ?hk_26 rfl rfl (Nat.le_of_ble_eq_true rfl) ?_; (case hc_26 => exact hW.1); (case hk_26 => rfl)
      rintro _ h_ ⟨hW, e_, rfl⟩
      refine mm_iret (pc := 29) dX12_body__29 rfl ?_
      unfold sp_body
      rw [if_neg c5, if_pos c12]
      exact ⟨hW, e_, rfl⟩
    · refine mm_iload_n (pc := 15) dX12_body__15 rfl ?_
      refine mm_if_lt (pc := 16) (tgt := 24) dX12_body__16 (by decide) (fun c16 => ?_) (fun c16 => ?_)
      · refine mm_aload_n (pc := 24) dX12_body__24 rfl (by first | trivial | assumption | exact mm_isr_rf _) ?_
        refine mm_iconst (pc := 25) (v := (-1)) dX12_body__25 (by decide) ?_
        refine mm_callV (pc := 26) (As := [_]) (kd := ?kd_26) (fs := ?fs_26) dX12_body__26 vl_X12_189 (ok_X12_answer (x := -1) (c := 1) (by decide) (by decide) (by decide) hW) ?hc_26 ?hk_26 rfl rfl (Nat.le_of_ble_eq_true rfl) ?_; (case hc_26 => exact hW.1); (case hk_26 => rfl)
        rintro _ h_ ⟨hW, e_, rfl⟩
        refine mm_iret (pc := 29) dX12_body__29 rfl ?_
        unfold sp_body
        rw [if_neg c5, if_neg c12, if_pos c16]
        exact ⟨hW, e_, rfl⟩
      · refine mm_iload_n (pc := 19) dX12_body__19 rfl ?_
        refine mm_iconst (pc := 20) (v := 2) dX12_body__20 (by decide) ?_
        refine mm_icmp_le (pc := 21) (tgt := 30) dX12_body__21 (by decide) (fun c21 => ?_) (fun c21 => ?_)
        · obtain ⟨k_, hk_, rfl⟩ := sp_in_of c5 hs (by omega)
          obtain ⟨q_, hq_, rfl⟩ := sp_in_of c12 (show (6 : Int32) = nI 6 by decide) (by decide)
          refine mm_aload_n (pc := 30) dX12_body__30 rfl (by first | trivial | assumption | exact mm_isr_rf _) ?_
          refine mm_iload_n (pc := 31) dX12_body__31 rfl ?_
          refine mm_iload_n (pc := 32) dX12_body__32 rfl ?_
          refine mm_callV (pc := 33) (As := [_, _]) (kd := ?kd_33) (fs := ?fs_33) dX12_body__33 vl_X12_196 (ok_X12_hasBody (k := k_) (j := q_) (by omega) hq_ hW) ?hc_33 ?hk_33 rfl rfl (Nat.le_of_ble_eq_true rfl) ?_; (case hc_33 => exact hW.1); (case hk_33 => rfl)
          rintro _ _ ⟨rfl, rfl⟩
          refine mm_if_ne (pc := 36) (tgt := 46) dX12_body__36 (by decide) (fun c36 => ?_) (fun c36 => ?_)
          · refine mm_bipush (pc := 46) (v := 6) dX12_body__46 (by decide) ?_
            refine mm_iload_n (pc := 48) dX12_body__48 rfl ?_
            refine mm_imul (pc := 49) dX12_body__49 ?_
            refine mm_iload_n (pc := 50) dX12_body__50 rfl ?_
            refine mm_iadd (pc := 51) dX12_body__51 ?_
            refine mm_topi _ (mw_ix k_ q_) ?_
            refine mm_istore (pc := 52) dX12_body__52 rfl (Nat.le_of_ble_eq_true rfl) ?_
            refine mm_iload_n (pc := 54) dX12_body__54 rfl ?_
            refine mm_if_ne (pc := 55) (tgt := 68) dX12_body__55 (by decide) (fun c55 => ?_) (fun c55 => ?_)
            · refine mm_iload_n (pc := 68) dX12_body__68 rfl ?_
              refine mm_iconst (pc := 69) (v := 1) dX12_body__69 (by decide) ?_
              refine mm_icmp_ne (pc := 70) (tgt := 91) dX12_body__70 (by decide) (fun c70 => ?_) (fun c70 => ?_)
              · refine mm_aload_n (pc := 91) dX12_body__91 rfl (by first | trivial | assumption | exact mm_isr_rf _) ?_
                refine mw_geta (pc := 92) 12 hW dX12_body__92 fl_X12_45 rfl rfl ?_
                refine mm_iload (pc := 95) dX12_body__95 rfl ?_
                refine mw_iald (pc := 97) 12 (6 * k_ + q_) hW dX12_body__97 rfl rfl (by first | with_reducible rfl | assumption | rfl) (by show _ < 300; omega) (by omega) ?_
                refine mm_iret (pc := 98) dX12_body__98 rfl ?_
                unfold sp_body
                rw [nI_clamp (show k_ < 2 ^ 31 by omega), nI_clamp (show q_ < 2 ^ 31 by omega)]
                rw [if_neg c5, if_neg c12, if_neg c16, if_pos c21, if_neg c36, if_neg c55, if_neg c70]
                exact ⟨hW, rfl, rfl⟩
              · refine mm_aload_n (pc := 73) dX12_body__73 rfl (by first | trivial | assumption | exact mm_isr_rf _) ?_
                refine mw_geta (pc := 74) 10 hW dX12_body__74 fl_X12_39 rfl rfl ?_
                refine mm_iload (pc := 77) dX12_body__77 rfl ?_
                refine mw_zald (pc := 79) 10 (6 * k_ + q_) hW dX12_body__79 rfl rfl (by first | with_reducible rfl | assumption | rfl) (by show _ < 300; omega) (by omega) ?_
                refine mm_if_eq (pc := 80) (tgt := 87) dX12_body__80 (by decide) (fun c80 => ?_) (fun c80 => ?_)
                · refine mm_iconst (pc := 87) (v := 0) dX12_body__87 (by decide) ?_
                  refine mm_goto (pc := 88) (tgt := 98) dX12_body__88 (by decide) ?_
                  refine mm_iret (pc := 98) dX12_body__98 rfl ?_
                  unfold sp_body
                  rw [nI_clamp (show k_ < 2 ^ 31 by omega), nI_clamp (show q_ < 2 ^ 31 by omega)]
                  rw [if_neg c5, if_neg c12, if_neg c16, if_pos c21, if_neg c36, if_neg c55, if_pos c70, if_pos c80]
                  exact ⟨hW, rfl, rfl⟩
                · refine mm_iconst (pc := 83) (v := 1) dX12_body__83 (by decide) ?_
                  refine mm_goto (pc := 84) (tgt := 98) dX12_body__84 (by decide) ?_
                  refine mm_iret (pc := 98) dX12_body__98 rfl ?_
                  unfold sp_body
                  rw [nI_clamp (show k_ < 2 ^ 31 by omega), nI_clamp (show q_ < 2 ^ 31 by omega)]
                  rw [if_neg c5, if_neg c12, if_neg c16, if_pos c21, if_neg c36, if_neg c55, if_pos c70, if_neg c80]
                  exact ⟨hW, rfl, rfl⟩
            · refine mm_aload_n (pc := 58) dX12_body__58 rfl (by first | trivial | assumption | exact mm_isr_rf _) ?_
              refine mw_geta (pc := 59) 9 hW dX12_body__59 fl_X12_36 rfl rfl ?_
              refine mm_iload (pc := 62) dX12_body__62 rfl ?_
              refine mw_iald (pc := 64) 9 (6 * k_ + q_) hW dX12_body__64 rfl rfl (by first | with_reducible rfl | assumption | rfl) (by show _ < 300; omega) (by omega) ?_
              refine mm_goto (pc := 65) (tgt := 98) dX12_body__65 (by decide) ?_
              refine mm_iret (pc := 98) dX12_body__98 rfl ?_
              unfold sp_body
              rw [nI_clamp (show k_ < 2 ^ 31 by omega), nI_clamp (show q_ < 2 ^ 31 by omega)]
              rw [if_neg c5, if_neg c12, if_neg c16, if_pos c21, if_neg c36, if_pos c55]
              exact ⟨hW, rfl, rfl⟩
          · refine mm_aload_n (pc := 39) dX12_body__39 rfl (by first | trivial | assumption | exact mm_isr_rf _) ?_
            refine mm_bipush (pc := 40) (v := (-2)) dX12_body__40 (by decide) ?_
            refine mm_callV (pc := 42) (As := [_]) (kd := ?kd_42) (fs := ?fs_42) dX12_body__42 vl_X12_189 (ok_X12_answer (x := -2) (c := 2) (by decide) (by decide) (by decide) hW) ?hc_42 ?hk_42 rfl rfl (Nat.le_of_ble_eq_true rfl) ?_; (case hc_42 => exact hW.1); (case hk_42 => rfl)
            rintro _ h_ ⟨hW, e_, rfl⟩
            refine mm_iret (pc := 45) dX12_body__45 rfl ?_
            unfold sp_body
            rw [nI_clamp (show k_ < 2 ^ 31 by omega), nI_clamp (show q_ < 2 ^ 31 by omega)]
            rw [if_neg c5, if_neg c12, if_neg c16, if_pos c21, if_pos c36]
            exact ⟨hW, e_, rfl⟩
        · refine mm_aload_n (pc := 24) dX12_body__24 rfl (by first | trivial | assumption | exact mm_isr_rf _) ?_
          refine mm_iconst (pc := 25) (v := (-1)) dX12_body__25 (by decide) ?_
          refine mm_callV (pc := 26) (As := [_]) (kd := ?kd_26) (fs := ?fs_26) dX12_body__26 vl_X12_189 (ok_X12_answer (x := -1) (c := 1) (by decide) (by decide) (by decide) hW) ?hc_26 ?hk_26 rfl rfl (Nat.le_of_ble_eq_true rfl) ?_; (case hc_26 => exact hW.1); (case hk_26 => rfl)
          rintro _ h_ ⟨hW, e_, rfl⟩
          refine mm_iret (pc := 29) dX12_body__29 rfl ?_
          unfold sp_body
          rw [if_neg c5, if_neg c12, if_neg c16, if_neg c21]
          exact ⟨hW, e_, rfl⟩

theorem ok_X12_overrides {G : mm_G} {L : Nat × Nat} {d : Nat} {h h0 : mm_H} {m : Nat} {ad : Nat → Nat} {M : mw_S} {i q j : Int32} {nk : Nat} {ab : Nat → Option Nat} (hs : M.1 3 = nI nk) (hT : rm_T M nk ab) (hW : mw_W m ad h0 M h) : mm_Ok G mX12_overrides L (d + 2) [.ref m, .int i, .int q, .int j] h (fun r h1 => (∃ g, mw_W m ad h0 (rm_ans (mw_r25 M g) (sp_overrides M ab i q j).2) h1) ∧ h1.2 = h.2 ∧ r = some (.int (sp_overrides M ab i q j).1)) := by
  refine mm_Ok.of [(0, .ref m), (1, .int i), (2, .int q), (3, .int j)] rfl kX12_overrides.2.2.2.2.2 rfl (fun A => ?_)
  have hn := hT.2.1
  refine mm_aload_n (pc := 0) dX12_overrides_0 rfl (by first | trivial | assumption | exact mm_isr_rf _) ?_
  refine mm_iload_n (pc := 1) dX12_overrides_1 rfl ?_
  refine mm_callV (pc := 2) (As := [_]) (kd := ?kd_2) (fs := ?fs_2) dX12_overrides_2 vl_X12_428 (ok_X12_isKind hW) ?hc_2 ?hk_2 rfl rfl (Nat.le_of_ble_eq_true rfl) ?_; (case hc_2 => exact hW.1); (case hk_2 => rfl)
  rintro _ _ ⟨rfl, rfl⟩
  refine mm_if_eq (pc := 5) (tgt := 23) dX12_overrides_5 (by decide) (fun c5 => ?_) (fun c5 => ?_)
  · refine mm_aload_n (pc := 23) dX12_overrides_23 rfl (by first | trivial | assumption | exact mm_isr_rf _) ?_
    refine mm_iconst (pc := 24) (v := (-1)) dX12_overrides_24 (by decide) ?_
    refine mm_callV (pc := 25) (As := [_]) (kd := ?kd_25) (fs := ?fs_25) dX12_overrides_25 vl_X12_189 (ok_X12_answer (x := -1) (c := 1) (by decide) (by decide) (by decide) hW) ?hc_25 ?hk_25 rfl rfl (Nat.le_of_ble_eq_true rfl) ?_; (case hc_25 => exact hW.1); (case hk_25 => rfl)
    rintro _ h_ ⟨hW, e_, rfl⟩
    refine mm_iret (pc := 28) dX12_overrides_28 rfl ?_
    unfold sp_overrides
    rw [if_pos c5]
    exact ⟨⟨M.2.2.1 25, by rw [mw_r25_self]; exact hW⟩, e_, rfl⟩
  · refine mm_aload_n (pc := 8) dX12_overrides_8 rfl (by first | trivial | assumption | exact mm_isr_rf _) ?_
    refine mm_iload_n (pc := 9) dX12_overrides_9 rfl ?_
    refine mm_callV (pc := 10) (As := [_]) (kd := ?kd_10) (fs := ?fs_10) dX12_overrides_10 vl_X12_428 (ok_X12_isKind hW) ?hc_10 ?hk_10 rfl rfl (Nat.le_of_ble_eq_true rfl) ?_; (case hc_10 => exact hW.1); (case hk_10 => rfl)
    rintro _ _ ⟨rfl, rfl⟩
    refine mm_if_eq (pc := 13) (tgt := 23) dX12_overrides_13 (by decide) (fun c13 => ?_) (fun c13 => ?_)
    · refine mm_aload_n (pc := 23) dX12_overrides_23 rfl (by first | trivial | assumption | exact mm_isr_rf _) ?_
      refine mm_iconst (pc := 24) (v := (-1)) dX12_overrides_24 (by decide) ?_
      refine mm_callV (pc := 25) (As := [_]) (kd := ?kd_25) (fs := ?fs_25) dX12_overrides_25 vl_X12_189 (ok_X12_answer (x := -1) (c := 1) (by decide) (by decide) (by decide) hW) ?hc_25 ?hk_25 rfl rfl (Nat.le_of_ble_eq_true rfl) ?_; (case hc_25 => exact hW.1); (case hk_25 => rfl)
      rintro _ h_ ⟨hW, e_, rfl⟩
      refine mm_iret (pc := 28) dX12_overrides_28 rfl ?_
      unfold sp_overrides
      rw [if_neg c5, if_pos c13]
      exact ⟨⟨M.2.2.1 25, by rw [mw_r25_self]; exact hW⟩, e_, rfl⟩
    · refine mm_iload_n (pc := 16) dX12_overrides_16 rfl ?_
      refine mm_callS (pc := 17) (As := [_]) dX12_overrides_17 sl_X12_431 (ok_X12_isHook) rfl rfl (Nat.le_of_ble_eq_true rfl) ?_
      rintro _ _ ⟨rfl, rfl⟩
      refine mm_if_ne (pc := 20) (tgt := 29) dX12_overrides_20 (by decide) (fun c20 => ?_) (fun c20 => ?_)
      · obtain ⟨k_, hk_, rfl⟩ := sp_in_of c5 hs (by omega)
        obtain ⟨j_, hj_, rfl⟩ := sp_in_of c13 hs (by omega)
        obtain ⟨q_, hq_, rfl⟩ := sp_in_of c20 (show (6 : Int32) = nI 6 by decide) (by decide)
        refine mm_aload_n (pc := 29) dX12_overrides_29 rfl (by first | trivial | assumption | exact mm_isr_rf _) ?_
        refine mm_iload_n (pc := 30) dX12_overrides_30 rfl ?_
        refine mm_iload_n (pc := 31) dX12_overrides_31 rfl ?_
        refine mm_callV (pc := 32) (As := [_, _]) (kd := ?kd_32) (fs := ?fs_32) dX12_overrides_32 vl_X12_196 (ok_X12_hasBody (k := k_) (j := q_) (by omega) hq_ hW) ?hc_32 ?hk_32 rfl rfl (Nat.le_of_ble_eq_true rfl) ?_; (case hc_32 => exact hW.1); (case hk_32 => rfl)
        rintro _ _ ⟨rfl, rfl⟩
        refine mm_if_eq (pc := 35) (tgt := 47) dX12_overrides_35 (by decide) (fun c35 => ?_) (fun c35 => ?_)
        · refine mm_aload_n (pc := 47) dX12_overrides_47 rfl (by first | trivial | assumption | exact mm_isr_rf _) ?_
          refine mm_bipush (pc := 48) (v := (-2)) dX12_overrides_48 (by decide) ?_
          refine mm_callV (pc := 50) (As := [_]) (kd := ?kd_50) (fs := ?fs_50) dX12_overrides_50 vl_X12_189 (ok_X12_answer (x := -2) (c := 2) (by decide) (by decide) (by decide) hW) ?hc_50 ?hk_50 rfl rfl (Nat.le_of_ble_eq_true rfl) ?_; (case hc_50 => exact hW.1); (case hk_50 => rfl)
          rintro _ h_ ⟨hW, e_, rfl⟩
          refine mm_iret (pc := 53) dX12_overrides_53 rfl ?_
          unfold sp_overrides
          rw [nI_clamp (show k_ < 2 ^ 31 by omega), nI_clamp (show q_ < 2 ^ 31 by omega), nI_clamp (show j_ < 2 ^ 31 by omega)]
          rw [if_neg c5, if_neg c13, if_neg c20, if_pos c35]
          exact ⟨⟨M.2.2.1 25, by rw [mw_r25_self]; exact hW⟩, e_, rfl⟩
        · refine mm_aload_n (pc := 38) dX12_overrides_38 rfl (by first | trivial | assumption | exact mm_isr_rf _) ?_
          refine mm_iload_n (pc := 39) dX12_overrides_39 rfl ?_
          refine mm_iload_n (pc := 40) dX12_overrides_40 rfl ?_
          refine mm_callV (pc := 41) (As := [_, _]) (kd := ?kd_41) (fs := ?fs_41) dX12_overrides_41 vl_X12_196 (ok_X12_hasBody (k := j_) (j := q_) (by omega) hq_ hW) ?hc_41 ?hk_41 rfl rfl (Nat.le_of_ble_eq_true rfl) ?_; (case hc_41 => exact hW.1); (case hk_41 => rfl)
          rintro _ _ ⟨rfl, rfl⟩
          refine mm_if_ne (pc := 44) (tgt := 54) dX12_overrides_44 (by decide) (fun c44 => ?_) (fun c44 => ?_)
          · refine mm_aload_n (pc := 54) dX12_overrides_54 rfl (by first | trivial | assumption | exact mm_isr_rf _) ?_
            refine mm_iload_n (pc := 55) dX12_overrides_55 rfl ?_
            refine mm_iload_n (pc := 56) dX12_overrides_56 rfl ?_
            refine mm_iload_n (pc := 57) dX12_overrides_57 rfl ?_
            refine mm_callV (pc := 58) (As := [_, _, _]) (kd := ?kd_58) (fs := ?fs_58) dX12_overrides_58 vl_X12_203 (ok_X12_isOver hT hk_ hq_ hj_ hW) ?hc_58 ?hk_58 rfl rfl (Nat.le_of_ble_eq_true rfl) ?_; (case hc_58 => exact hW.1); (case hk_58 => rfl)
            rintro _ h58 ⟨g58, hW, e58, rfl⟩
            refine mm_if_eq (pc := 61) (tgt := 68) dX12_overrides_61 (by decide) (fun c61 => ?_) (fun c61 => ?_)
            · refine mm_iconst (pc := 68) (v := 0) dX12_overrides_68 (by decide) ?_
              refine mm_iret (pc := 69) dX12_overrides_69 rfl ?_
              have hh : rm_has M q_ k_ = true := by
                cases hz : rm_has M q_ k_ with
                | true => rfl
                | false => exact absurd (bI_eq0.mpr hz) c35
              rw [hh, Bool.true_and] at c61
              unfold sp_overrides
              rw [nI_clamp (show k_ < 2 ^ 31 by omega), nI_clamp (show q_ < 2 ^ 31 by omega), nI_clamp (show j_ < 2 ^ 31 by omega)]
              rw [if_neg c5, if_neg c13, if_neg c20, if_neg c35, if_neg c44, c61]
              exact ⟨⟨g58, hW⟩, e58, rfl⟩
            · refine mm_iconst (pc := 64) (v := 1) dX12_overrides_64 (by decide) ?_
              refine mm_goto (pc := 65) (tgt := 69) dX12_overrides_65 (by decide) ?_
              refine mm_iret (pc := 69) dX12_overrides_69 rfl ?_
              have hh : rm_has M q_ k_ = true := by
                cases hz : rm_has M q_ k_ with
                | true => rfl
                | false => exact absurd (bI_eq0.mpr hz) c35
              rw [hh, Bool.true_and] at c61
              have ho : ovB ab (rm_E M q_) k_ j_ = true := by
                cases hz : ovB ab (rm_E M q_) k_ j_ with
                | true => rfl
                | false => exact absurd (bI_eq0.mpr hz) c61
              unfold sp_overrides
              rw [nI_clamp (show k_ < 2 ^ 31 by omega), nI_clamp (show q_ < 2 ^ 31 by omega), nI_clamp (show j_ < 2 ^ 31 by omega)]
              rw [if_neg c5, if_neg c13, if_neg c20, if_neg c35, if_neg c44, ho]
              exact ⟨⟨g58, hW⟩, e58, rfl⟩
          · refine mm_aload_n (pc := 47) dX12_overrides_47 rfl (by first | trivial | assumption | exact mm_isr_rf _) ?_
            refine mm_bipush (pc := 48) (v := (-2)) dX12_overrides_48 (by decide) ?_
            refine mm_callV (pc := 50) (As := [_]) (kd := ?kd_50) (fs := ?fs_50) dX12_overrides_50 vl_X12_189 (ok_X12_answer (x := -2) (c := 2) (by decide) (by decide) (by decide) hW) ?hc_50 ?hk_50 rfl rfl (Nat.le_of_ble_eq_true rfl) ?_; (case hc_50 => exact hW.1); (case hk_50 => rfl)
            rintro _ h_ ⟨hW, e_, rfl⟩
            refine mm_iret (pc := 53) dX12_overrides_53 rfl ?_
            unfold sp_overrides
            rw [nI_clamp (show k_ < 2 ^ 31 by omega), nI_clamp (show q_ < 2 ^ 31 by omega), nI_clamp (show j_ < 2 ^ 31 by omega)]
            rw [if_neg c5, if_neg c13, if_neg c20, if_neg c35, if_pos c44]
            exact ⟨⟨M.2.2.1 25, by rw [mw_r25_self]; exact hW⟩, e_, rfl⟩
      · refine mm_aload_n (pc := 23) dX12_overrides_23 rfl (by first | trivial | assumption | exact mm_isr_rf _) ?_
        refine mm_iconst (pc := 24) (v := (-1)) dX12_overrides_24 (by decide) ?_
        refine mm_callV (pc := 25) (As := [_]) (kd := ?kd_25) (fs := ?fs_25) dX12_overrides_25 vl_X12_189 (ok_X12_answer (x := -1) (c := 1) (by decide) (by decide) (by decide) hW) ?hc_25 ?hk_25 rfl rfl (Nat.le_of_ble_eq_true rfl) ?_; (case hc_25 => exact hW.1); (case hk_25 => rfl)
        rintro _ h_ ⟨hW, e_, rfl⟩
        refine mm_iret (pc := 28) dX12_overrides_28 rfl ?_
        unfold sp_overrides
        rw [if_neg c5, if_neg c13, if_pos c20]
        exact ⟨⟨M.2.2.1 25, by rw [mw_r25_self]; exact hW⟩, e_, rfl⟩

