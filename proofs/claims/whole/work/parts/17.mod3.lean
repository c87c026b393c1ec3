/-! what each reading call answers, by the reference's memory: the answer, and the finding that is counted (0: none) -/
def rm_ans (M : mw_S) (c : Nat) : mw_S := if c = 0 then M else mw_setV M 2 c (M.2.2.1 2 c + 1)
def sp_bad : Int32 × Nat := (-1, 1)
def sp_count (M : mw_S) (w : Int32) : Int32 × Nat := if w = 0 then (M.1 3, 0) else if w = 1 then (M.1 19, 0) else if w = 2 then (M.1 48, 0) else if w = 3 then (M.1 54, 0) else sp_bad
def sp_outcome (M : mw_S) (w : Int32) : Int32 × Nat := if w = 0 then (M.1 66, 0) else if w = 1 then (M.1 68, 0) else if w = 2 then (M.1 72, 0) else if w = 3 then (M.1 67, 0) else sp_bad
def sp_said (M : mw_S) (i : Int32) : Int32 × Nat := if i < 0 then sp_bad else if M.1 72 ≤ i then sp_bad else (M.2.2.1 73 i.toNatClampNeg, 0)
def sp_ran (M : mw_S) (i w : Int32) : Int32 × Nat := if i < 0 then sp_bad else if M.1 68 ≤ i then sp_bad else if w < 0 then sp_bad else if w ≤ 2 then (if w = 0 then (M.2.2.1 69 i.toNatClampNeg, 0) else if w = 1 then (M.2.2.1 70 i.toNatClampNeg, 0) else (M.2.2.1 71 i.toNatClampNeg, 0)) else sp_bad
def sp_record (M : mw_S) (i w : Int32) : Int32 × Nat := if i < 0 then sp_bad else if M.1 54 ≤ i then sp_bad else if w < 0 then sp_bad else if w ≤ 2 then (if w = 0 then (M.2.2.1 55 i.toNatClampNeg, 0) else if w = 1 then (M.2.2.1 56 i.toNatClampNeg, 0) else (M.2.2.1 57 i.toNatClampNeg, 0)) else sp_bad
def sp_in (i s : Int32) : Int32 := if i < 0 then 0 else if s ≤ i then 0 else 1
def sp_apparatus (M : mw_S) (i w : Int32) : Int32 × Nat := if sp_in i (M.1 48) = 0 then sp_bad else if w < 0 then sp_bad else if w ≤ 3 then (if w = 0 then (M.2.2.1 49 i.toNatClampNeg, 0) else if w = 1 then (M.2.2.1 50 i.toNatClampNeg, 0) else if w = 2 then (M.2.2.1 51 i.toNatClampNeg, 0) else (M.2.2.1 52 i.toNatClampNeg, 0)) else sp_bad
theorem ix_of {x s : Int32} {n : Nat} (h0 : ¬ x < 0) (h1 : ¬ s ≤ x) (hs : s = nI n) (hn : n < 2 ^ 31) : ∃ k, k < n ∧ x = nI k := by
  subst hs
  rcases pk_ix x hn with h | h | h
  · exact absurd h h0
  · exact absurd h h1
  · exact h
theorem sp_in_of {x s : Int32} {n : Nat} (h : ¬ sp_in x s = 0) (hs : s = nI n) (hn : n < 2 ^ 31) : ∃ k, k < n ∧ x = nI k := by
  unfold sp_in at h
  by_cases h0 : x < 0
  · rw [if_pos h0] at h; exact absurd rfl h
  · rw [if_neg h0] at h
    by_cases h1 : s ≤ x
    · rw [if_pos h1] at h; exact absurd rfl h
    · exact ix_of h0 h1 hs hn
theorem sp_in_z (x s : Int32) : narrow .boolean (.int (sp_in x s)) = .int (sp_in x s) := by
  unfold sp_in
  split
  · rfl
  · split <;> rfl

theorem ok_X12_count {G : mm_G} {L : Nat × Nat} {d : Nat} {h h0 : mm_H} {m : Nat} {ad : Nat → Nat} {M : mw_S} {w : Int32} (hW : mw_W m ad h0 M h) : mm_Ok G mX12_count L (d + 1) [.ref m, .int w] h (fun r h1 => mw_W m ad h0 (rm_ans M (sp_count M w).2) h1 ∧ h1.2 = h.2 ∧ r = some (.int (sp_count M w).1)) := by
  refine mm_Ok.of [(0, .ref m), (1, .int w)] rfl kX12_count.2.2.2.2.2 rfl (fun A => ?_)
  refine mm_iload_n (pc := 0) dX12_count_0 rfl ?_
  refine mm_if_ne (pc := 1) (tgt := 11) dX12_count_1 (by decide) (fun c1 => ?_) (fun c1 => ?_)
  · refine mm_iload_n (pc := 11) dX12_count_11 rfl ?_
    refine mm_iconst (pc := 12) (v := 1) dX12_count_12 (by decide) ?_
    refine mm_icmp_ne (pc := 13) (tgt := 23) dX12_count_13 (by decide) (fun c13 => ?_) (fun c13 => ?_)
    · refine mm_iload_n (pc := 23) dX12_count_23 rfl ?_
      refine mm_iconst (pc := 24) (v := 2) dX12_count_24 (by decide) ?_
      refine mm_icmp_ne (pc := 25) (tgt := 35) dX12_count_25 (by decide) (fun c25 => ?_) (fun c25 => ?_)
      · refine mm_iload_n (pc := 35) dX12_count_35 rfl ?_
        refine mm_iconst (pc := 36) (v := 3) dX12_count_36 (by decide) ?_
        refine mm_icmp_ne (pc := 37) (tgt := 47) dX12_count_37 (by decide) (fun c37 => ?_) (fun c37 => ?_)
        · refine mm_aload_n (pc := 47) dX12_count_47 rfl (by first | trivial | assumption | exact mm_isr_rf _) ?_
          refine mm_iconst (pc := 48) (v := (-1)) dX12_count_48 (by decide) ?_
          refine mm_callV (pc := 49) (As := [_]) (kd := ?kd_49) (fs := ?fs_49) dX12_count_49 vl_X12_189 (ok_X12_answer (x := -1) (c := 1) (by decide) (by decide) (by decide) hW) ?hc_49 ?hk_49 rfl rfl (Nat.le_of_ble_eq_true rfl) ?_; (case hc_49 => exact hW.1); (case hk_49 => rfl)
          rintro _ h_ ⟨hW, e_, rfl⟩
          refine mm_iret (pc := 52) dX12_count_52 rfl ?_
          unfold sp_count
          rw [if_neg c1, if_neg c13, if_neg c25, if_neg c37]
          exact ⟨hW, e_, rfl⟩
        · refine mm_aload_n (pc := 40) dX12_count_40 rfl (by first | trivial | assumption | exact mm_isr_rf _) ?_
          refine mw_gets (pc := 41) 54 hW dX12_count_41 fl_X12_440 rfl rfl ?_
          refine mm_goto (pc := 44) (tgt := 52) dX12_count_44 (by decide) ?_
          refine mm_iret (pc := 52) dX12_count_52 rfl ?_
          unfold sp_count
          rw [if_neg c1, if_neg c13, if_neg c25, if_pos c37]
          exact ⟨hW, rfl, rfl⟩
      · refine mm_aload_n (pc := 28) dX12_count_28 rfl (by first | trivial | assumption | exact mm_isr_rf _) ?_
        refine mw_gets (pc := 29) 48 hW dX12_count_29 fl_X12_437 rfl rfl ?_
        refine mm_goto (pc := 32) (tgt := 52) dX12_count_32 (by decide) ?_
        refine mm_iret (pc := 52) dX12_count_52 rfl ?_
        unfold sp_count
        rw [if_neg c1, if_neg c13, if_pos c25]
        exact ⟨hW, rfl, rfl⟩
    · refine mm_aload_n (pc := 16) dX12_count_16 rfl (by first | trivial | assumption | exact mm_isr_rf _) ?_
      refine mw_gets (pc := 17) 19 hW dX12_count_17 fl_X12_330 rfl rfl ?_
      refine mm_goto (pc := 20) (tgt := 52) dX12_count_20 (by decide) ?_
      refine mm_iret (pc := 52) dX12_count_52 rfl ?_
      unfold sp_count
      rw [if_neg c1, if_pos c13]
      exact ⟨hW, rfl, rfl⟩
  · refine mm_aload_n (pc := 4) dX12_count_4 rfl (by first | trivial | assumption | exact mm_isr_rf _) ?_
    refine mw_gets (pc := 5) 3 hW dX12_count_5 fl_X12_180 rfl rfl ?_
    refine mm_goto (pc := 8) (tgt := 52) dX12_count_8 (by decide) ?_
    refine mm_iret (pc := 52) dX12_count_52 rfl ?_
    unfold sp_count
    rw [if_pos c1]
    exact ⟨hW, rfl, rfl⟩

theorem ok_X12_outcome {G : mm_G} {L : Nat × Nat} {d : Nat} {h h0 : mm_H} {m : Nat} {ad : Nat → Nat} {M : mw_S} {w : Int32} (hW : mw_W m ad h0 M h) : mm_Ok G mX12_outcome L (d + 1) [.ref m, .int w] h (fun r h1 => mw_W m ad h0 (rm_ans M (sp_outcome M w).2) h1 ∧ h1.2 = h.2 ∧ r = some (.int (sp_outcome M w).1)) := by
  refine mm_Ok.of [(0, .ref m), (1, .int w)] rfl kX12_outcome.2.2.2.2.2 rfl (fun A => ?_)
  refine mm_iload_n (pc := 0) dX12_outcome_0 rfl ?_
  refine mm_if_ne (pc := 1) (tgt := 11) dX12_outcome_1 (by decide) (fun c1 => ?_) (fun c1 => ?_)
  · refine mm_iload_n (pc := 11) dX12_outcome_11 rfl ?_
    refine mm_iconst (pc := 12) (v := 1) dX12_outcome_12 (by decide) ?_
    refine mm_icmp_ne (pc := 13) (tgt := 23) dX12_outcome_13 (by decide) (fun c13 => ?_) (fun c13 => ?_)
    · refine mm_iload_n (pc := 23) dX12_outcome_23 rfl ?_
      refine mm_iconst (pc := 24) (v := 2) dX12_outcome_24 (by decide) ?_
      refine mm_icmp_ne (pc := 25) (tgt := 35) dX12_outcome_25 (by decide) (fun c25 => ?_) (fun c25 => ?_)
      · refine mm_iload_n (pc := 35) dX12_outcome_35 rfl ?_
        refine mm_iconst (pc := 36) (v := 3) dX12_outcome_36 (by decide) ?_
        refine mm_icmp_ne (pc := 37) (tgt := 47) dX12_outcome_37 (by decide) (fun c37 => ?_) (fun c37 => ?_)
        · refine mm_aload_n (pc := 47) dX12_outcome_47 rfl (by first | trivial | assumption | exact mm_isr_rf _) ?_
          refine mm_iconst (pc := 48) (v := (-1)) dX12_outcome_48 (by decide) ?_
          refine mm_callV (pc := 49) (As := [_]) (kd := ?kd_49) (fs := ?fs_49) dX12_outcome_49 vl_X12_189 (ok_X12_answer (x := -1) (c := 1) (by decide) (by decide) (by decide) hW) ?hc_49 ?hk_49 rfl rfl (Nat.le_of_ble_eq_true rfl) ?_; (case hc_49 => exact hW.1); (case hk_49 => rfl)
          rintro _ h_ ⟨hW, e_, rfl⟩
          refine mm_iret (pc := 52) dX12_outcome_52 rfl ?_
          unfold sp_outcome
          rw [if_neg c1, if_neg c13, if_neg c25, if_neg c37]
          exact ⟨hW, e_, rfl⟩
        · refine mm_aload_n (pc := 40) dX12_outcome_40 rfl (by first | trivial | assumption | exact mm_isr_rf _) ?_
          refine mw_gets (pc := 41) 67 hW dX12_outcome_41 fl_X12_467 rfl rfl ?_
          refine mm_goto (pc := 44) (tgt := 52) dX12_outcome_44 (by decide) ?_
          refine mm_iret (pc := 52) dX12_outcome_52 rfl ?_
          unfold sp_outcome
          rw [if_neg c1, if_neg c13, if_neg c25, if_pos c37]
          exact ⟨hW, rfl, rfl⟩
      · refine mm_aload_n (pc := 28) dX12_outcome_28 rfl (by first | trivial | assumption | exact mm_isr_rf _) ?_
        refine mw_gets (pc := 29) 72 hW dX12_outcome_29 fl_X12_482 rfl rfl ?_
        refine mm_goto (pc := 32) (tgt := 52) dX12_outcome_32 (by decide) ?_
        refine mm_iret (pc := 52) dX12_outcome_52 rfl ?_
        unfold sp_outcome
        rw [if_neg c1, if_neg c13, if_pos c25]
        exact ⟨hW, rfl, rfl⟩
    · refine mm_aload_n (pc := 16) dX12_outcome_16 rfl (by first | trivial | assumption | exact mm_isr_rf _) ?_
      refine mw_gets (pc := 17) 68 hW dX12_outcome_17 fl_X12_461 rfl rfl ?_
      refine mm_goto (pc := 20) (tgt := 52) dX12_outcome_20 (by decide) ?_
      refine mm_iret (pc := 52) dX12_outcome_52 rfl ?_
      unfold sp_outcome
      rw [if_neg c1, if_pos c13]
      exact ⟨hW, rfl, rfl⟩
  · refine mm_aload_n (pc := 4) dX12_outcome_4 rfl (by first | trivial | assumption | exact mm_isr_rf _) ?_
    refine mw_gets (pc := 5) 66 hW dX12_outcome_5 fl_X12_493 rfl rfl ?_
    refine mm_goto (pc := 8) (tgt := 52) dX12_outcome_8 (by decide) ?_
    refine mm_iret (pc := 52) dX12_outcome_52 rfl ?_
    unfold sp_outcome
    rw [if_pos c1]
    exact ⟨hW, rfl, rfl⟩

theorem ok_X12_said {G : mm_G} {L : Nat × Nat} {d : Nat} {h h0 : mm_H} {m : Nat} {ad : Nat → Nat} {M : mw_S} {i : Int32} {n : Nat} (hs : M.1 72 = nI n) (hn : n ≤ 500) (hW : mw_W m ad h0 M h) : mm_Ok G mX12_said L (d + 1) [.ref m, .int i] h (fun r h1 => mw_W m ad h0 (rm_ans M (sp_said M i).2) h1 ∧ h1.2 = h.2 ∧ r = some (.int (sp_said M i).1)) := by
  refine mm_Ok.of [(0, .ref m), (1, .int i)] rfl kX12_said.2.2.2.2.2 rfl (fun A => ?_)
  refine mm_iload_n (pc := 0) dX12_said_0 rfl ?_
  refine mm_if_lt (pc := 1) (tgt := 21) dX12_said_1 (by decide) (fun c1 => ?_) (fun c1 => ?_)
  · refine mm_aload_n (pc := 21) dX12_said_21 rfl (by first | trivial | assumption | exact mm_isr_rf _) ?_
    refine mm_iconst (pc := 22) (v := (-1)) dX12_said_22 (by decide) ?_
    refine mm_callV (pc := 23) (As := [_]) (kd := ?kd_23) (fs := ?fs_23) dX12_said_23 vl_X12_189 (ok_X12_answer (x := -1) (c := 1) (by decide) (by decide) (by decide) hW) ?hc_23 ?hk_23 rfl rfl (Nat.le_of_ble_eq_true rfl) ?_; (case hc_23 => exact hW.1); (case hk_23 => rfl)
    rintro _ h_ ⟨hW, e_, rfl⟩
    refine mm_iret (pc := 26) dX12_said_26 rfl ?_
    unfold sp_said
    rw [if_pos c1]
    exact ⟨hW, e_, rfl⟩
  · refine mm_iload_n (pc := 4) dX12_said_4 rfl ?_
    refine mm_aload_n (pc := 5) dX12_said_5 rfl (by first | trivial | assumption | exact mm_isr_rf _) ?_
    refine mw_gets (pc := 6) 72 hW dX12_said_6 fl_X12_482 rfl rfl ?_
    refine mm_icmp_ge (pc := 9) (tgt := 21) dX12_said_9 (by decide) (fun c9 => ?_) (fun c9 => ?_)
    · refine mm_aload_n (pc := 21) dX12_said_21 rfl (by first | trivial | assumption | exact mm_isr_rf _) ?_
      refine mm_iconst (pc := 22) (v := (-1)) dX12_said_22 (by decide) ?_
      refine mm_callV (pc := 23) (As := [_]) (kd := ?kd_23) (fs := ?fs_23) dX12_said_23 vl_X12_189 (ok_X12_answer (x := -1) (c := 1) (by decide) (by decide) (by decide) hW) ?hc_23 ?hk_23 rfl rfl (Nat.le_of_ble_eq_true rfl) ?_; (case hc_23 => exact hW.1); (case hk_23 => rfl)
      rintro _ h_ ⟨hW, e_, rfl⟩
      refine mm_iret (pc := 26) dX12_said_26 rfl ?_
      unfold sp_said
      rw [if_neg c1, if_pos c9]
      exact ⟨hW, e_, rfl⟩
    · obtain ⟨k_, hk_, rfl⟩ := ix_of c1 c9 hs (by omega)
      refine mm_aload_n (pc := 12) dX12_said_12 rfl (by first | trivial | assumption | exact mm_isr_rf _) ?_
      refine mw_geta (pc := 13) 73 hW dX12_said_13 fl_X12_152 rfl rfl ?_
      refine mm_iload_n (pc := 16) dX12_said_16 rfl ?_
      refine mw_iald (pc := 17) 73 k_ hW dX12_said_17 rfl rfl (by first | with_reducible rfl | assumption | rfl) (by show _ < 500; omega) (by omega) ?_
      refine mm_goto (pc := 18) (tgt := 26) dX12_said_18 (by decide) ?_
      refine mm_iret (pc := 26) dX12_said_26 rfl ?_
      unfold sp_said
      rw [if_neg c1, if_neg c9]
      rw [nI_clamp (by omega)]
      exact ⟨hW, rfl, rfl⟩

theorem ok_X12_ran {G : mm_G} {L : Nat × Nat} {d : Nat} {h h0 : mm_H} {m : Nat} {ad : Nat → Nat} {M : mw_S} {i w : Int32} {n : Nat} (hs : M.1 68 = nI n) (hn : n ≤ 500) (hW : mw_W m ad h0 M h) : mm_Ok G mX12_ran L (d + 1) [.ref m, .int i, .int w] h (fun r h1 => mw_W m ad h0 (rm_ans M (sp_ran M i w).2) h1 ∧ h1.2 = h.2 ∧ r = some (.int (sp_ran M i w).1)) := by
  refine mm_Ok.of [(0, .ref m), (1, .int i), (2, .int w)] rfl kX12_ran.2.2.2.2.2 rfl (fun A => ?_)
  refine mm_iload_n (pc := 0) dX12_ran_0 rfl ?_
  refine mm_if_lt (pc := 1) (tgt := 21) dX12_ran_1 (by decide) (fun c1 => ?_) (fun c1 => ?_)
  · refine mm_aload_n (pc := 21) dX12_ran_21 rfl (by first | trivial | assumption | exact mm_isr_rf _) ?_
    refine mm_iconst (pc := 22) (v := (-1)) dX12_ran_22 (by decide) ?_
    refine mm_callV (pc := 23) (As := [_]) (kd := ?kd_23) (fs := ?fs_23) dX12_ran_23 vl_X12_189 (ok_X12_answer (x := -1) (c := 1) (by decide) (by decide) (by decide) hW) ?hc_23 ?hk_23 rfl rfl (Nat.le_of_ble_eq_true rfl) ?_; (case hc_23 => exact hW.1); (case hk_23 => rfl)
    rintro _ h_ ⟨hW, e_, rfl⟩
    refine mm_iret (pc := 26) dX12_ran_26 rfl ?_
    unfold sp_ran
    rw [if_pos c1]
    exact ⟨hW, e_, rfl⟩
  · refine mm_iload_n (pc := 4) dX12_ran_4 rfl ?_
    refine mm_aload_n (pc := 5) dX12_ran_5 rfl (by first | trivial | assumption | exact mm_isr_rf _) ?_
    refine mw_gets (pc := 6) 68 hW dX12_ran_6 fl_X12_461 rfl rfl ?_
    refine mm_icmp_ge (pc := 9) (tgt := 21) dX12_ran_9 (by decide) (fun c9 => ?_) (fun c9 => ?_)
    · refine mm_aload_n (pc := 21) dX12_ran_21 rfl (by first | trivial | assumption | exact mm_isr_rf _) ?_
      refine mm_iconst (pc := 22) (v := (-1)) dX12_ran_22 (by decide) ?_
      refine mm_callV (pc := 23) (As := [_]) (kd := ?kd_23) (fs := ?fs_23) dX12_ran_23 vl_X12_189 (ok_X12_answer (x := -1) (c := 1) (by decide) (by decide) (by decide) hW) ?hc_23 ?hk_23 rfl rfl (Nat.le_of_ble_eq_true rfl) ?_; (case hc_23 => exact hW.1); (case hk_23 => rfl)
      rintro _ h_ ⟨hW, e_, rfl⟩
      refine mm_iret (pc := 26) dX12_ran_26 rfl ?_
      unfold sp_ran
      rw [if_neg c1, if_pos c9]
      exact ⟨hW, e_, rfl⟩
    · refine mm_iload_n (pc := 12) dX12_ran_12 rfl ?_
      refine mm_if_lt (pc := 13) (tgt := 21) dX12_ran_13 (by decide) (fun c13 => ?_) (fun c13 => ?_)
      · refine mm_aload_n (pc := 21) dX12_ran_21 rfl (by first | trivial | assumption | exact mm_isr_rf _) ?_
        refine mm_iconst (pc := 22) (v := (-1)) dX12_ran_22 (by decide) ?_
        refine mm_callV (pc := 23) (As := [_]) (kd := ?kd_23) (fs := ?fs_23) dX12_ran_23 vl_X12_189 (ok_X12_answer (x := -1) (c := 1) (by decide) (by decide) (by decide) hW) ?hc_23 ?hk_23 rfl rfl (Nat.le_of_ble_eq_true rfl) ?_; (case hc_23 => exact hW.1); (case hk_23 => rfl)
        rintro _ h_ ⟨hW, e_, rfl⟩
        refine mm_iret (pc := 26) dX12_ran_26 rfl ?_
        unfold sp_ran
        rw [if_neg c1, if_neg c9, if_pos c13]
        exact ⟨hW, e_, rfl⟩
      · refine mm_iload_n (pc := 16) dX12_ran_16 rfl ?_
        refine mm_iconst (pc := 17) (v := 2) dX12_ran_17 (by decide) ?_
        refine mm_icmp_le (pc := 18) (tgt := 27) dX12_ran_18 (by decide) (fun c18 => ?_) (fun c18 => ?_)
        · obtain ⟨k_, hk_, rfl⟩ := ix_of c1 c9 hs (by omega)
          refine mm_iload_n (pc := 27) dX12_ran_27 rfl ?_
          refine mm_if_ne (pc := 28) (tgt := 40) dX12_ran_28 (by decide) (fun c28 => ?_) (fun c28 => ?_)
          · refine mm_iload_n (pc := 40) dX12_ran_40 rfl ?_
            refine mm_iconst (pc := 41) (v := 1) dX12_ran_41 (by decide) ?_
            refine mm_icmp_ne (pc := 42) (tgt := 54) dX12_ran_42 (by decide) (fun c42 => ?_) (fun c42 => ?_)
            · refine mm_aload_n (pc := 54) dX12_ran_54 rfl (by first | trivial | assumption | exact mm_isr_rf _) ?_
              refine mw_geta (pc := 55) 71 hW dX12_ran_55 fl_X12_149 rfl rfl ?_
              refine mm_iload_n (pc := 58) dX12_ran_58 rfl ?_
              refine mw_iald (pc := 59) 71 k_ hW dX12_ran_59 rfl rfl (by first | with_reducible rfl | assumption | rfl) (by show _ < 500; omega) (by omega) ?_
              refine mm_iret (pc := 60) dX12_ran_60 rfl ?_
              unfold sp_ran
              rw [if_neg c1, if_neg c9, if_neg c13, if_pos c18, if_neg c28, if_neg c42]
              rw [nI_clamp (by omega)]
              exact ⟨hW, rfl, rfl⟩
            · refine mm_aload_n (pc := 45) dX12_ran_45 rfl (by first | trivial | assumption | exact mm_isr_rf _) ?_
              refine mw_geta (pc := 46) 70 hW dX12_ran_46 fl_X12_146 rfl rfl ?_
              refine mm_iload_n (pc := 49) dX12_ran_49 rfl ?_
              refine mw_iald (pc := 50) 70 k_ hW dX12_ran_50 rfl rfl (by first | with_reducible rfl | assumption | rfl) (by show _ < 500; omega) (by omega) ?_
              refine mm_goto (pc := 51) (tgt := 60) dX12_ran_51 (by decide) ?_
              refine mm_iret (pc := 60) dX12_ran_60 rfl ?_
              unfold sp_ran
              rw [if_neg c1, if_neg c9, if_neg c13, if_pos c18, if_neg c28, if_pos c42]
              rw [nI_clamp (by omega)]
              exact ⟨hW, rfl, rfl⟩
          · refine mm_aload_n (pc := 31) dX12_ran_31 rfl (by first | trivial | assumption | exact mm_isr_rf _) ?_
            refine mw_geta (pc := 32) 69 hW dX12_ran_32 fl_X12_143 rfl rfl ?_
            refine mm_iload_n (pc := 35) dX12_ran_35 rfl ?_
            refine mw_iald (pc := 36) 69 k_ hW dX12_ran_36 rfl rfl (by first | with_reducible rfl | assumption | rfl) (by show _ < 500; omega) (by omega) ?_
            refine mm_goto (pc := 37) (tgt := 60) dX12_ran_37 (by decide) ?_
            refine mm_iret (pc := 60) dX12_ran_60 rfl ?_
            unfold sp_ran
            rw [if_neg c1, if_neg c9, if_neg c13, if_pos c18, if_pos c28]
            rw [nI_clamp (by omega)]
            exact ⟨hW, rfl, rfl⟩
        · refine mm_aload_n (pc := 21) dX12_ran_21 rfl (by first | trivial | assumption | exact mm_isr_rf _) ?_
          refine mm_iconst (pc := 22) (v := (-1)) dX12_ran_22 (by decide) ?_
          refine mm_callV (pc := 23) (As := [_]) (kd := ?kd_23) (fs := ?fs_23) dX12_ran_23 vl_X12_189 (ok_X12_answer (x := -1) (c := 1) (by decide) (by decide) (by decide) hW) ?hc_23 ?hk_23 rfl rfl (Nat.le_of_ble_eq_true rfl) ?_; (case hc_23 => exact hW.1); (case hk_23 => rfl)
          rintro _ h_ ⟨hW, e_, rfl⟩
          refine mm_iret (pc := 26) dX12_ran_26 rfl ?_
          unfold sp_ran
          rw [if_neg c1, if_neg c9, if_neg c13, if_neg c18]
          exact ⟨hW, e_, rfl⟩

theorem ok_X12_record {G : mm_G} {L : Nat × Nat} {d : Nat} {h h0 : mm_H} {m : Nat} {ad : Nat → Nat} {M : mw_S} {i w : Int32} {n : Nat} (hs : M.1 54 = nI n) (hn : n ≤ 600) (hW : mw_W m ad h0 M h) : mm_Ok G mX12_record L (d + 1) [.ref m, .int i, .int w] h (fun r h1 => mw_W m ad h0 (rm_ans M (sp_record M i w).2) h1 ∧ h1.2 = h.2 ∧ r = some (.int (sp_record M i w).1)) := by
  refine mm_Ok.of [(0, .ref m), (1, .int i), (2, .int w)] rfl kX12_record.2.2.2.2.2 rfl (fun A => ?_)
  refine mm_iload_n (pc := 0) dX12_record_0 rfl ?_
  refine mm_if_lt (pc := 1) (tgt := 21) dX12_record_1 (by decide) (fun c1 => ?_) (fun c1 => ?_)
  · refine mm_aload_n (pc := 21) dX12_record_21 rfl (by first | trivial | assumption | exact mm_isr_rf _) ?_
    refine mm_iconst (pc := 22) (v := (-1)) dX12_record_22 (by decide) ?_
    refine mm_callV (pc := 23) (As := [_]) (kd := ?kd_23) (fs := ?fs_23) dX12_record_23 vl_X12_189 (ok_X12_answer (x := -1) (c := 1) (by decide) (by decide) (by decide) hW) ?hc_23 ?hk_23 rfl rfl (Nat.le_of_ble_eq_true rfl) ?_; (case hc_23 => exact hW.1); (case hk_23 => rfl)
    rintro _ h_ ⟨hW, e_, rfl⟩
    refine mm_iret (pc := 26) dX12_record_26 rfl ?_
    unfold sp_record
    rw [if_pos c1]
    exact ⟨hW, e_, rfl⟩
  · refine mm_iload_n (pc := 4) dX12_record_4 rfl ?_
    refine mm_aload_n (pc := 5) dX12_record_5 rfl (by first | trivial | assumption | exact mm_isr_rf _) ?_
    refine mw_gets (pc := 6) 54 hW dX12_record_6 fl_X12_440 rfl rfl ?_
    refine mm_icmp_ge (pc := 9) (tgt := 21) dX12_record_9 (by decide) (fun c9 => ?_) (fun c9 => ?_)
    · refine mm_aload_n (pc := 21) dX12_record_21 rfl (by first | trivial | assumption | exact mm_isr_rf _) ?_
      refine mm_iconst (pc := 22) (v := (-1)) dX12_record_22 (by decide) ?_
      refine mm_callV (pc := 23) (As := [_]) (kd := ?kd_23) (fs := ?fs_23) dX12_record_23 vl_X12_189 (ok_X12_answer (x := -1) (c := 1) (by decide) (by decide) (by decide) hW) ?hc_23 ?hk_23 rfl rfl (Nat.le_of_ble_eq_true rfl) ?_; (case hc_23 => exact hW.1); (case hk_23 => rfl)
      rintro _ h_ ⟨hW, e_, rfl⟩
      refine mm_iret (pc := 26) dX12_record_26 rfl ?_
      unfold sp_record
      rw [if_neg c1, if_pos c9]
      exact ⟨hW, e_, rfl⟩
    · refine mm_iload_n (pc := 12) dX12_record_12 rfl ?_
      refine mm_if_lt (pc := 13) (tgt := 21) dX12_record_13 (by decide) (fun c13 => ?_) (fun c13 => ?_)
      · refine mm_aload_n (pc := 21) dX12_record_21 rfl (by first | trivial | assumption | exact mm_isr_rf _) ?_
        refine mm_iconst (pc := 22) (v := (-1)) dX12_record_22 (by decide) ?_
        refine mm_callV (pc := 23) (As := [_]) (kd := ?kd_23) (fs := ?fs_23) dX12_record_23 vl_X12_189 (ok_X12_answer (x := -1) (c := 1) (by decide) (by decide) (by decide) hW) ?hc_23 ?hk_23 rfl rfl (Nat.le_of_ble_eq_true rfl) ?_; (case hc_23 => exact hW.1); (case hk_23 => rfl)
        rintro _ h_ ⟨hW, e_, rfl⟩
        refine mm_iret (pc := 26) dX12_record_26 rfl ?_
        unfold sp_record
        rw [if_neg c1, if_neg c9, if_pos c13]
        exact ⟨hW, e_, rfl⟩
      · refine mm_iload_n (pc := 16) dX12_record_16 rfl ?_
        refine mm_iconst (pc := 17) (v := 2) dX12_record_17 (by decide) ?_
        refine mm_icmp_le (pc := 18) (tgt := 27) dX12_record_18 (by decide) (fun c18 => ?_) (fun c18 => ?_)
        · obtain ⟨k_, hk_, rfl⟩ := ix_of c1 c9 hs (by omega)
          refine mm_iload_n (pc := 27) dX12_record_27 rfl ?_
          refine mm_if_ne (pc := 28) (tgt := 40) dX12_record_28 (by decide) (fun c28 => ?_) (fun c28 => ?_)
          · refine mm_iload_n (pc := 40) dX12_record_40 rfl ?_
            refine mm_iconst (pc := 41) (v := 1) dX12_record_41 (by decide) ?_
            refine mm_icmp_ne (pc := 42) (tgt := 54) dX12_record_42 (by decide) (fun c42 => ?_) (fun c42 => ?_)
            · refine mm_aload_n (pc := 54) dX12_record_54 rfl (by first | trivial | assumption | exact mm_isr_rf _) ?_
              refine mw_geta (pc := 55) 57 hW dX12_record_55 fl_X12_131 rfl rfl ?_
              refine mm_iload_n (pc := 58) dX12_record_58 rfl ?_
              refine mw_iald (pc := 59) 57 k_ hW dX12_record_59 rfl rfl (by first | with_reducible rfl | assumption | rfl) (by show _ < 600; omega) (by omega) ?_
              refine mm_iret (pc := 60) dX12_record_60 rfl ?_
              unfold sp_record
              rw [if_neg c1, if_neg c9, if_neg c13, if_pos c18, if_neg c28, if_neg c42]
              rw [nI_clamp (by omega)]
              exact ⟨hW, rfl, rfl⟩
            · refine mm_aload_n (pc := 45) dX12_record_45 rfl (by first | trivial | assumption | exact mm_isr_rf _) ?_
              refine mw_geta (pc := 46) 56 hW dX12_record_46 fl_X12_128 rfl rfl ?_
              refine mm_iload_n (pc := 49) dX12_record_49 rfl ?_
              refine mw_iald (pc := 50) 56 k_ hW dX12_record_50 rfl rfl (by first | with_reducible rfl | assumption | rfl) (by show _ < 600; omega) (by omega) ?_
              refine mm_goto (pc := 51) (tgt := 60) dX12_record_51 (by decide) ?_
              refine mm_iret (pc := 60) dX12_record_60 rfl ?_
              unfold sp_record
              rw [if_neg c1, if_neg c9, if_neg c13, if_pos c18, if_neg c28, if_pos c42]
              rw [nI_clamp (by omega)]
              exact ⟨hW, rfl, rfl⟩
          · refine mm_aload_n (pc := 31) dX12_record_31 rfl (by first | trivial | assumption | exact mm_isr_rf _) ?_
            refine mw_geta (pc := 32) 55 hW dX12_record_32 fl_X12_125 rfl rfl ?_
            refine mm_iload_n (pc := 35) dX12_record_35 rfl ?_
            refine mw_iald (pc := 36) 55 k_ hW dX12_record_36 rfl rfl (by first | with_reducible rfl | assumption | rfl) (by show _ < 600; omega) (by omega) ?_
            refine mm_goto (pc := 37) (tgt := 60) dX12_record_37 (by decide) ?_
            refine mm_iret (pc := 60) dX12_record_60 rfl ?_
            unfold sp_record
            rw [if_neg c1, if_neg c9, if_neg c13, if_pos c18, if_pos c28]
            rw [nI_clamp (by omega)]
            exact ⟨hW, rfl, rfl⟩
        · refine mm_aload_n (pc := 21) dX12_record_21 rfl (by first | trivial | assumption | exact mm_isr_rf _) ?_
          refine mm_iconst (pc := 22) (v := (-1)) dX12_record_22 (by decide) ?_
          refine mm_callV (pc := 23) (As := [_]) (kd := ?kd_23) (fs := ?fs_23) dX12_record_23 vl_X12_189 (ok_X12_answer (x := -1) (c := 1) (by decide) (by decide) (by decide) hW) ?hc_23 ?hk_23 rfl rfl (Nat.le_of_ble_eq_true rfl) ?_; (case hc_23 => exact hW.1); (case hk_23 => rfl)
          rintro _ h_ ⟨hW, e_, rfl⟩
          refine mm_iret (pc := 26) dX12_record_26 rfl ?_
          unfold sp_record
          rw [if_neg c1, if_neg c9, if_neg c13, if_neg c18]
          exact ⟨hW, e_, rfl⟩

theorem ok_X12_isKind {G : mm_G} {L : Nat × Nat} {d : Nat} {h h0 : mm_H} {m : Nat} {ad : Nat → Nat} {M : mw_S} {i : Int32} (hW : mw_W m ad h0 M h) : mm_Ok G mX12_isKind L d [.ref m, .int i] h (fun r h1 => h1 = h ∧ r = some (.int (sp_in i (M.1 3)))) := by
  refine mm_Ok.of [(0, .ref m), (1, .int i)] rfl kX12_isKind.2.2.2.2.2 rfl (fun A => ?_)
  refine mm_iload_n (pc := 0) dX12_isKind_0 rfl ?_
  refine mm_if_lt (pc := 1) (tgt := 16) dX12_isKind_1 (by decide) (fun c1 => ?_) (fun c1 => ?_)
  · refine mm_iconst (pc := 16) (v := 0) dX12_isKind_16 (by decide) ?_
    refine mm_zret (pc := 17) dX12_isKind_17 rfl (by first | rfl | decide) ?_
    exact ⟨rfl, by unfold sp_in; rw [if_pos c1]⟩
  · refine mm_iload_n (pc := 4) dX12_isKind_4 rfl ?_
    refine mm_aload_n (pc := 5) dX12_isKind_5 rfl (by first | trivial | assumption | exact mm_isr_rf _) ?_
    refine mw_gets (pc := 6) 3 hW dX12_isKind_6 fl_X12_180 rfl rfl ?_
    refine mm_icmp_ge (pc := 9) (tgt := 16) dX12_isKind_9 (by decide) (fun c9 => ?_) (fun c9 => ?_)
    · refine mm_iconst (pc := 16) (v := 0) dX12_isKind_16 (by decide) ?_
      refine mm_zret (pc := 17) dX12_isKind_17 rfl (by first | rfl | decide) ?_
      exact ⟨rfl, by unfold sp_in; rw [if_neg c1, if_pos c9]⟩
    · refine mm_iconst (pc := 12) (v := 1) dX12_isKind_12 (by decide) ?_
      refine mm_goto (pc := 13) (tgt := 17) dX12_isKind_13 (by decide) ?_
      refine mm_zret (pc := 17) dX12_isKind_17 rfl (by first | rfl | decide) ?_
      exact ⟨rfl, by unfold sp_in; rw [if_neg c1, if_neg c9]⟩

theorem ok_X12_isApp {G : mm_G} {L : Nat × Nat} {d : Nat} {h h0 : mm_H} {m : Nat} {ad : Nat → Nat} {M : mw_S} {i : Int32} (hW : mw_W m ad h0 M h) : mm_Ok G mX12_isApp L d [.ref m, .int i] h (fun r h1 => h1 = h ∧ r = some (.int (sp_in i (M.1 48)))) := by
  refine mm_Ok.of [(0, .ref m), (1, .int i)] rfl kX12_isApp.2.2.2.2.2 rfl (fun A => ?_)
  refine mm_iload_n (pc := 0) dX12_isApp_0 rfl ?_
  refine mm_if_lt (pc := 1) (tgt := 16) dX12_isApp_1 (by decide) (fun c1 => ?_) (fun c1 => ?_)
  · refine mm_iconst (pc := 16) (v := 0) dX12_isApp_16 (by decide) ?_
    refine mm_zret (pc := 17) dX12_isApp_17 rfl (by first | rfl | decide) ?_
    exact ⟨rfl, by unfold sp_in; rw [if_pos c1]⟩
  · refine mm_iload_n (pc := 4) dX12_isApp_4 rfl ?_
    refine mm_aload_n (pc := 5) dX12_isApp_5 rfl (by first | trivial | assumption | exact mm_isr_rf _) ?_
    refine mw_gets (pc := 6) 48 hW dX12_isApp_6 fl_X12_437 rfl rfl ?_
    refine mm_icmp_ge (pc := 9) (tgt := 16) dX12_isApp_9 (by decide) (fun c9 => ?_) (fun c9 => ?_)
    · refine mm_iconst (pc := 16) (v := 0) dX12_isApp_16 (by decide) ?_
      refine mm_zret (pc := 17) dX12_isApp_17 rfl (by first | rfl | decide) ?_
      exact ⟨rfl, by unfold sp_in; rw [if_neg c1, if_pos c9]⟩
    · refine mm_iconst (pc := 12) (v := 1) dX12_isApp_12 (by decide) ?_
      refine mm_goto (pc := 13) (tgt := 17) dX12_isApp_13 (by decide) ?_
      refine mm_zret (pc := 17) dX12_isApp_17 rfl (by first | rfl | decide) ?_
      exact ⟨rfl, by unfold sp_in; rw [if_neg c1, if_neg c9]⟩

theorem ok_X12_isHook {G : mm_G} {L : Nat × Nat} {d : Nat} {h : mm_H} {i : Int32} : mm_Ok G mX12_isHook L d [.int i] h (fun r h1 => h1 = h ∧ r = some (.int (sp_in i 6))) := by
  refine mm_Ok.of [(0, .int i)] rfl kX12_isHook.2.2.2.2.2 rfl (fun A => ?_)
  refine mm_iload_n (pc := 0) dX12_isHook_0 rfl ?_
  refine mm_if_lt (pc := 1) (tgt := 14) dX12_isHook_1 (by decide) (fun c1 => ?_) (fun c1 => ?_)
  · refine mm_iconst (pc := 14) (v := 0) dX12_isHook_14 (by decide) ?_
    refine mm_zret (pc := 15) dX12_isHook_15 rfl (by first | rfl | decide) ?_
    exact ⟨rfl, by unfold sp_in; rw [if_pos c1]⟩
  · refine mm_iload_n (pc := 4) dX12_isHook_4 rfl ?_
    refine mm_bipush (pc := 5) (v := 6) dX12_isHook_5 (by decide) ?_
    refine mm_icmp_ge (pc := 7) (tgt := 14) dX12_isHook_7 (by decide) (fun c7 => ?_) (fun c7 => ?_)
    · refine mm_iconst (pc := 14) (v := 0) dX12_isHook_14 (by decide) ?_
      refine mm_zret (pc := 15) dX12_isHook_15 rfl (by first | rfl | decide) ?_
      exact ⟨rfl, by unfold sp_in; rw [if_neg c1, if_pos c7]⟩
    · refine mm_iconst (pc := 10) (v := 1) dX12_isHook_10 (by decide) ?_
      refine mm_goto (pc := 11) (tgt := 15) dX12_isHook_11 (by decide) ?_
      refine mm_zret (pc := 15) dX12_isHook_15 rfl (by first | rfl | decide) ?_
      exact ⟨rfl, by unfold sp_in; rw [if_neg c1, if_neg c7]⟩

theorem ok_X12_apparatus {G : mm_G} {L : Nat × Nat} {d : Nat} {h h0 : mm_H} {m : Nat} {ad : Nat → Nat} {M : mw_S} {i w : Int32} {n : Nat} (hs : M.1 48 = nI n) (hn : n ≤ 20) (hW : mw_W m ad h0 M h) : mm_Ok G mX12_apparatus L (d + 1) [.ref m, .int i, .int w] h (fun r h1 => mw_W m ad h0 (rm_ans M (sp_apparatus M i w).2) h1 ∧ h1.2 = h.2 ∧ r = some (.int (sp_apparatus M i w).1)) := by
  refine mm_Ok.of [(0, .ref m), (1, .int i), (2, .int w)] rfl kX12_apparatus.2.2.2.2.2 rfl (fun A => ?_)
  refine mm_aload_n (pc := 0) dX12_apparatus_0 rfl (by first | trivial | assumption | exact mm_isr_rf _) ?_
  refine mm_iload_n (pc := 1) dX12_apparatus_1 rfl ?_
  refine mm_callV (pc := 2) (As := [_]) (kd := ?kd_2) (fs := ?fs_2) dX12_apparatus_2 vl_X12_445 (ok_X12_isApp hW) ?hc_2 ?hk_2 rfl rfl (Nat.le_of_ble_eq_true rfl) ?_; (case hc_2 => exact hW.1); (case hk_2 => rfl)
  rintro _ _ ⟨rfl, rfl⟩
  refine mm_if_eq (pc := 5) (tgt := 17) dX12_apparatus_5 (by decide) (fun c5 => ?_) (fun c5 => ?_)
  · refine mm_aload_n (pc := 17) dX12_apparatus_17 rfl (by first | trivial | assumption | exact mm_isr_rf _) ?_
    refine mm_iconst (pc := 18) (v := (-1)) dX12_apparatus_18 (by decide) ?_
    refine mm_callV (pc := 19) (As := [_]) (kd := ?kd_19) (fs := ?fs_19) dX12_apparatus_19 vl_X12_189 (ok_X12_answer (x := -1) (c := 1) (by decide) (by decide) (by decide) hW) ?hc_19 ?hk_19 rfl rfl (Nat.le_of_ble_eq_true rfl) ?_; (case hc_19 => exact hW.1); (case hk_19 => rfl)
    rintro _ h_ ⟨hW, e_, rfl⟩
    refine mm_iret (pc := 22) dX12_apparatus_22 rfl ?_
    unfold sp_apparatus
    rw [if_pos c5]
    exact ⟨hW, e_, rfl⟩
  · refine mm_iload_n (pc := 8) dX12_apparatus_8 rfl ?_
    refine mm_if_lt (pc := 9) (tgt := 17) dX12_apparatus_9 (by decide) (fun c9 => ?_) (fun c9 => ?_)
    · refine mm_aload_n (pc := 17) dX12_apparatus_17 rfl (by first | trivial | assumption | exact mm_isr_rf _) ?_
      refine mm_iconst (pc := 18) (v := (-1)) dX12_apparatus_18 (by decide) ?_
      refine mm_callV (pc := 19) (As := [_]) (kd := ?kd_19) (fs := ?fs_19) dX12_apparatus_19 vl_X12_189 (ok_X12_answer (x := -1) (c := 1) (by decide) (by decide) (by decide) hW) ?hc_19 ?hk_19 rfl rfl (Nat.le_of_ble_eq_true rfl) ?_; (case hc_19 => exact hW.1); (case hk_19 => rfl)
      rintro _ h_ ⟨hW, e_, rfl⟩
      refine mm_iret (pc := 22) dX12_apparatus_22 rfl ?_
      unfold sp_apparatus
      rw [if_neg c5, if_pos c9]
      exact ⟨hW, e_, rfl⟩
    · refine mm_iload_n (pc := 12) dX12_apparatus_12 rfl ?_
      refine mm_iconst (pc := 13) (v := 3) dX12_apparatus_13 (by decide) ?_
      refine mm_icmp_le (pc := 14) (tgt := 23) dX12_apparatus_14 (by decide) (fun c14 => ?_) (fun c14 => ?_)
      · obtain ⟨k_, hk_, rfl⟩ := sp_in_of c5 hs (by omega)
        refine mm_iload_n (pc := 23) dX12_apparatus_23 rfl ?_
        refine mm_if_ne (pc := 24) (tgt := 36) dX12_apparatus_24 (by decide) (fun c24 => ?_) (fun c24 => ?_)
        · refine mm_iload_n (pc := 36) dX12_apparatus_36 rfl ?_
          refine mm_iconst (pc := 37) (v := 1) dX12_apparatus_37 (by decide) ?_
          refine mm_icmp_ne (pc := 38) (tgt := 50) dX12_apparatus_38 (by decide) (fun c38 => ?_) (fun c38 => ?_)
          · refine mm_iload_n (pc := 50) dX12_apparatus_50 rfl ?_
            refine mm_iconst (pc := 51) (v := 2) dX12_apparatus_51 (by decide) ?_
            refine mm_icmp_ne (pc := 52) (tgt := 64) dX12_apparatus_52 (by decide) (fun c52 => ?_) (fun c52 => ?_)
            · refine mm_aload_n (pc := 64) dX12_apparatus_64 rfl (by first | trivial | assumption | exact mm_isr_rf _) ?_
              refine mw_geta (pc := 65) 52 hW dX12_apparatus_65 fl_X12_118 rfl rfl ?_
              refine mm_iload_n (pc := 68) dX12_apparatus_68 rfl ?_
              refine mw_iald (pc := 69) 52 k_ hW dX12_apparatus_69 rfl rfl (by first | with_reducible rfl | assumption | rfl) (by show _ < 20; omega) (by omega) ?_
              refine mm_iret (pc := 70) dX12_apparatus_70 rfl ?_
              unfold sp_apparatus
              rw [if_neg c5, if_neg c9, if_pos c14, if_neg c24, if_neg c38, if_neg c52]
              rw [nI_clamp (by omega)]
              exact ⟨hW, rfl, rfl⟩
            · refine mm_aload_n (pc := 55) dX12_apparatus_55 rfl (by first | trivial | assumption | exact mm_isr_rf _) ?_
              refine mw_geta (pc := 56) 51 hW dX12_apparatus_56 fl_X12_115 rfl rfl ?_
              refine mm_iload_n (pc := 59) dX12_apparatus_59 rfl ?_
              refine mw_iald (pc := 60) 51 k_ hW dX12_apparatus_60 rfl rfl (by first | with_reducible rfl | assumption | rfl) (by show _ < 20; omega) (by omega) ?_
              refine mm_goto (pc := 61) (tgt := 70) dX12_apparatus_61 (by decide) ?_
              refine mm_iret (pc := 70) dX12_apparatus_70 rfl ?_
              unfold sp_apparatus
              rw [if_neg c5, if_neg c9, if_pos c14, if_neg c24, if_neg c38, if_pos c52]
              rw [nI_clamp (by omega)]
              exact ⟨hW, rfl, rfl⟩
          · refine mm_aload_n (pc := 41) dX12_apparatus_41 rfl (by first | trivial | assumption | exact mm_isr_rf _) ?_
            refine mw_geta (pc := 42) 50 hW dX12_apparatus_42 fl_X12_112 rfl rfl ?_
            refine mm_iload_n (pc := 45) dX12_apparatus_45 rfl ?_
            refine mw_iald (pc := 46) 50 k_ hW dX12_apparatus_46 rfl rfl (by first | with_reducible rfl | assumption | rfl) (by show _ < 20; omega) (by omega) ?_
            refine mm_goto (pc := 47) (tgt := 70) dX12_apparatus_47 (by decide) ?_
            refine mm_iret (pc := 70) dX12_apparatus_70 rfl ?_
            unfold sp_apparatus
            rw [if_neg c5, if_neg c9, if_pos c14, if_neg c24, if_pos c38]
            rw [nI_clamp (by omega)]
            exact ⟨hW, rfl, rfl⟩
        · refine mm_aload_n (pc := 27) dX12_apparatus_27 rfl (by first | trivial | assumption | exact mm_isr_rf _) ?_
          refine mw_geta (pc := 28) 49 hW dX12_apparatus_28 fl_X12_109 rfl rfl ?_
          refine mm_iload_n (pc := 31) dX12_apparatus_31 rfl ?_
          refine mw_iald (pc := 32) 49 k_ hW dX12_apparatus_32 rfl rfl (by first | with_reducible rfl | assumption | rfl) (by show _ < 20; omega) (by omega) ?_
          refine mm_goto (pc := 33) (tgt := 70) dX12_apparatus_33 (by decide) ?_
          refine mm_iret (pc := 70) dX12_apparatus_70 rfl ?_
          unfold sp_apparatus
          rw [if_neg c5, if_neg c9, if_pos c14, if_pos c24]
          rw [nI_clamp (by omega)]
          exact ⟨hW, rfl, rfl⟩
      · refine mm_aload_n (pc := 17) dX12_apparatus_17 rfl (by first | trivial | assumption | exact mm_isr_rf _) ?_
        refine mm_iconst (pc := 18) (v := (-1)) dX12_apparatus_18 (by decide) ?_
        refine mm_callV (pc := 19) (As := [_]) (kd := ?kd_19) (fs := ?fs_19) dX12_apparatus_19 vl_X12_189 (ok_X12_answer (x := -1) (c := 1) (by decide) (by decide) (by decide) hW) ?hc_19 ?hk_19 rfl rfl (Nat.le_of_ble_eq_true rfl) ?_; (case hc_19 => exact hW.1); (case hk_19 => rfl)
        rintro _ h_ ⟨hW, e_, rfl⟩
        refine mm_iret (pc := 22) dX12_apparatus_22 rfl ?_
        unfold sp_apparatus
        rw [if_neg c5, if_neg c9, if_neg c14]
        exact ⟨hW, e_, rfl⟩

