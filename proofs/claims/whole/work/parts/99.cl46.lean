/-! both calls of a case, method by method -/
section ANS
variable {M : mw_S} {c : Nat} {g : Nat → Int32}
theorem ans_U : (rm_ans M c).2.2.2.2 = M.2.2.2.2 := by unfold rm_ans; split <;> rfl
theorem ans_W : (rm_ans M c).2.2.2.1 = M.2.2.2.1 := by unfold rm_ans; split <;> rfl
theorem ans_S : (rm_ans M c).1 = M.1 := by unfold rm_ans; split <;> rfl
theorem ans_r25 : rm_ans (mw_r25 M g) c = mw_r25 (rm_ans M c) g := by
  unfold rm_ans
  split
  · rfl
  · exact r25_setV M g c _ (by decide)
end ANS

theorem T_kind {G : mm_G} {L B : Nat × Nat} {m b xa k : Nat} {am : Nat → Nat} {scr : List Value} {h : mm_H} {i w : Int32} (I : INV G m am b scr xa B k h) (hk : k < 512) (hL1 : B.1 + 330 * k + 400 ≤ L.1) (hL2 : B.2 + 2460 * k + 3000 ≤ L.2) : TWO G m am b scr xa B k L mX11_kind mX12_kind [.int i, .int w] h := by
  obtain ⟨M, ab, nk, np, hM, hPX, n, hn, hn8, hb1, hb2⟩ := I
  obtain ⟨ad_, C_, na, ne, nb, nt, H_, -, -, RR, -⟩ := id hM
  have h20 := RR.v.2.1
  have s48 : M.1 48 = nI na := RR.v.2.2.2.2.1
  have s54 : M.1 54 = nI ne := RR.e.2.2.2.2.1
  have hk40 := RR.rg.2.1.1
  have hb4 : (sp_kind M ab i w).2 ≤ 4 := by
    unfold sp_kind
    repeat' split
    all_goals exact Nat.le_of_ble_eq_true rfl
  refine two_s (v := .int (sp_kind M ab i w).1) (M' := rm_ans M (sp_kind M ab i w).2) (n' := n) hM hn hb1 hb2 hL1 hL2 (fun ad C na ne nb nt H h' R hC l1 l2 => ?_) (fun h' hW => ?_) hPX.ans ans_U (fun j _ => by rw [ans_W]) (by rw [ans_S]; exact hn) (by omega) hn8
  · exact mm_Ok.post (kd_ok R.g R.t hC) (fun r h1 z => z.aft R hb4)
  · refine mm_Ok.post (ok_X12_kind RR.s.1 RR.t hW) (fun r h1 z => ?_)
    exact ⟨⟨_, by rw [mw_r25_self]; exact z.1⟩, z.2.1, z.2.2⟩

theorem T_body {G : mm_G} {L B : Nat × Nat} {m b xa k : Nat} {am : Nat → Nat} {scr : List Value} {h : mm_H} {i q w : Int32} (I : INV G m am b scr xa B k h) (hk : k < 512) (hL1 : B.1 + 330 * k + 400 ≤ L.1) (hL2 : B.2 + 2460 * k + 3000 ≤ L.2) : TWO G m am b scr xa B k L mX11_body mX12_body_ [.int i, .int q, .int w] h := by
  obtain ⟨M, ab, nk, np, hM, hPX, n, hn, hn8, hb1, hb2⟩ := I
  obtain ⟨ad_, C_, na, ne, nb, nt, H_, -, -, RR, -⟩ := id hM
  have h20 := RR.v.2.1
  have s48 : M.1 48 = nI na := RR.v.2.2.2.2.1
  have s54 : M.1 54 = nI ne := RR.e.2.2.2.2.1
  have hk40 := RR.rg.2.1.1
  have hb4 : (sp_body M i q w).2 ≤ 4 := by
    unfold sp_body
    repeat' split
    all_goals exact Nat.le_of_ble_eq_true rfl
  refine two_s (v := .int (sp_body M i q w).1) (M' := rm_ans M (sp_body M i q w).2) (n' := n) hM hn hb1 hb2 hL1 hL2 (fun ad C na ne nb nt H h' R hC l1 l2 => ?_) (fun h' hW => ?_) hPX.ans ans_U (fun j _ => by rw [ans_W]) (by rw [ans_S]; exact hn) (by omega) hn8
  · exact mm_Ok.post (bd_ok R.g hC) (fun r h1 z => z.aft R hb4)
  · refine mm_Ok.post (ok_X12_body_ RR.s.1 (by omega) hW) (fun r h1 z => ?_)
    exact ⟨⟨_, by rw [mw_r25_self]; exact z.1⟩, z.2.1, z.2.2⟩

theorem T_overrides {G : mm_G} {L B : Nat × Nat} {m b xa k : Nat} {am : Nat → Nat} {scr : List Value} {h : mm_H} {i q w : Int32} (I : INV G m am b scr xa B k h) (hk : k < 512) (hL1 : B.1 + 330 * k + 400 ≤ L.1) (hL2 : B.2 + 2460 * k + 3000 ≤ L.2) : TWO G m am b scr xa B k L mX11_overrides mX12_overrides [.int i, .int q, .int w] h := by
  obtain ⟨M, ab, nk, np, hM, hPX, n, hn, hn8, hb1, hb2⟩ := I
  obtain ⟨ad_, C_, na, ne, nb, nt, H_, -, -, RR, -⟩ := id hM
  have h20 := RR.v.2.1
  have s48 : M.1 48 = nI na := RR.v.2.2.2.2.1
  have s54 : M.1 54 = nI ne := RR.e.2.2.2.2.1
  have hk40 := RR.rg.2.1.1
  have hb4 : (sp_overrides M ab i q w).2 ≤ 4 := by
    unfold sp_overrides
    repeat' split
    all_goals exact Nat.le_of_ble_eq_true rfl
  refine two_s (v := .int (sp_overrides M ab i q w).1) (M' := rm_ans M (sp_overrides M ab i q w).2) (n' := n) hM hn hb1 hb2 hL1 hL2 (fun ad C na ne nb nt H h' R hC l1 l2 => ?_) (fun h' hW => ?_) hPX.ans ans_U (fun j _ => by rw [ans_W]) (by rw [ans_S]; exact hn) (by omega) hn8
  · exact mm_Ok.post (ov_ok R.g hC) (fun r h1 z => z.aft R hb4)
  · refine mm_Ok.post (ok_X12_overrides RR.s.1 RR.t hW) (fun r h1 z => ?_)
    obtain ⟨⟨g, z1⟩, z2, z3⟩ := z
    exact ⟨⟨g, by rw [← ans_r25]; exact z1⟩, z2, z3⟩

theorem T_chosen {G : mm_G} {L B : Nat × Nat} {m b xa k : Nat} {am : Nat → Nat} {scr : List Value} {h : mm_H} {i q w : Int32} (I : INV G m am b scr xa B k h) (hk : k < 512) (hL1 : B.1 + 330 * k + 400 ≤ L.1) (hL2 : B.2 + 2460 * k + 3000 ≤ L.2) : TWO G m am b scr xa B k L mX11_chosen mX12_chosen [.int i, .int q, .int w] h := by
  obtain ⟨M, ab, nk, np, hM, hPX, n, hn, hn8, hb1, hb2⟩ := I
  obtain ⟨ad_, C_, na, ne, nb, nt, H_, -, -, RR, -⟩ := id hM
  have h20 := RR.v.2.1
  have s48 : M.1 48 = nI na := RR.v.2.2.2.2.1
  have s54 : M.1 54 = nI ne := RR.e.2.2.2.2.1
  have hk40 := RR.rg.2.1.1
  have hb4 : (sp_chosen M ab i q w).2 ≤ 4 := by
    unfold sp_chosen
    repeat' split
    all_goals exact Nat.le_of_ble_eq_true rfl
  refine two_s (v := .int (sp_chosen M ab i q w).1) (M' := rm_ans M (sp_chosen M ab i q w).2) (n' := n) hM hn hb1 hb2 hL1 hL2 (fun ad C na ne nb nt H h' R hC l1 l2 => ?_) (fun h' hW => ?_) hPX.ans ans_U (fun j _ => by rw [ans_W]) (by rw [ans_S]; exact hn) (by omega) hn8
  · exact mm_Ok.post (ch_ok R.g hC) (fun r h1 z => z.aft R hb4)
  · refine mm_Ok.post (ok_X12_chosen RR.s.1 RR.t hW) (fun r h1 z => ?_)
    obtain ⟨⟨g, z1⟩, z2, z3⟩ := z
    exact ⟨⟨g, by rw [← ans_r25]; exact z1⟩, z2, z3⟩

theorem T_resolved {G : mm_G} {L B : Nat × Nat} {m b xa k : Nat} {am : Nat → Nat} {scr : List Value} {h : mm_H} {i q w : Int32} (I : INV G m am b scr xa B k h) (hk : k < 512) (hL1 : B.1 + 330 * k + 400 ≤ L.1) (hL2 : B.2 + 2460 * k + 3000 ≤ L.2) : TWO G m am b scr xa B k L mX11_resolved mX12_resolved [.int i, .int q, .int w] h := by
  obtain ⟨M, ab, nk, np, hM, hPX, n, hn, hn8, hb1, hb2⟩ := I
  obtain ⟨ad_, C_, na, ne, nb, nt, H_, -, -, RR, -⟩ := id hM
  have h20 := RR.v.2.1
  have s48 : M.1 48 = nI na := RR.v.2.2.2.2.1
  have s54 : M.1 54 = nI ne := RR.e.2.2.2.2.1
  have hk40 := RR.rg.2.1.1
  have hb4 : (sp_resolved M ab i q w).2 ≤ 4 := by
    unfold sp_resolved sp_resolvedR
    repeat' split
    all_goals exact Nat.le_of_ble_eq_true rfl
  refine two_s (v := .int (sp_resolved M ab i q w).1) (M' := rm_ans M (sp_resolved M ab i q w).2) (n' := n) hM hn hb1 hb2 hL1 hL2 (fun ad C na ne nb nt H h' R hC l1 l2 => ?_) (fun h' hW => ?_) hPX.ans ans_U (fun j _ => by rw [ans_W]) (by rw [ans_S]; exact hn) (by omega) hn8
  · exact mm_Ok.post (rs_ok R.g hC) (fun r h1 z => z.aft R hb4)
  · refine mm_Ok.post (ok_X12_resolved RR.s.1 RR.t hW) (fun r h1 z => ?_)
    exact ⟨⟨_, by rw [mw_r25_self]; exact z.1⟩, z.2.1, z.2.2⟩

theorem T_count {G : mm_G} {L B : Nat × Nat} {m b xa k : Nat} {am : Nat → Nat} {scr : List Value} {h : mm_H} {w : Int32} (I : INV G m am b scr xa B k h) (hk : k < 512) (hL1 : B.1 + 330 * k + 400 ≤ L.1) (hL2 : B.2 + 2460 * k + 3000 ≤ L.2) : TWO G m am b scr xa B k L mX11_count mX12_count [.int w] h := by
  obtain ⟨M, ab, nk, np, hM, hPX, n, hn, hn8, hb1, hb2⟩ := I
  obtain ⟨ad_, C_, na, ne, nb, nt, H_, -, -, RR, -⟩ := id hM
  have h20 := RR.v.2.1
  have s48 : M.1 48 = nI na := RR.v.2.2.2.2.1
  have s54 : M.1 54 = nI ne := RR.e.2.2.2.2.1
  have hk40 := RR.rg.2.1.1
  have hb4 : (sp_count M w).2 ≤ 4 := by
    unfold sp_count
    repeat' split
    all_goals exact Nat.le_of_ble_eq_true rfl
  refine two_s (v := .int (sp_count M w).1) (M' := rm_ans M (sp_count M w).2) (n' := n) hM hn hb1 hb2 hL1 hL2 (fun ad C na ne nb nt H h' R hC l1 l2 => ?_) (fun h' hW => ?_) hPX.ans ans_U (fun j _ => by rw [ans_W]) (by rw [ans_S]; exact hn) (by omega) hn8
  · exact mm_Ok.post (ct_ok R.g R.v (R.e.2.2.2.1.trans R.e.2.2.2.2.1.symm) hC) (fun r h1 z => z.aft R hb4)
  · refine mm_Ok.post (ok_X12_count hW) (fun r h1 z => ?_)
    exact ⟨⟨_, by rw [mw_r25_self]; exact z.1⟩, z.2.1, z.2.2⟩

theorem T_outcome {G : mm_G} {L B : Nat × Nat} {m b xa k : Nat} {am : Nat → Nat} {scr : List Value} {h : mm_H} {w : Int32} (I : INV G m am b scr xa B k h) (hk : k < 512) (hL1 : B.1 + 330 * k + 400 ≤ L.1) (hL2 : B.2 + 2460 * k + 3000 ≤ L.2) : TWO G m am b scr xa B k L mX11_outcome mX12_outcome [.int w] h := by
  obtain ⟨M, ab, nk, np, hM, hPX, n, hn, hn8, hb1, hb2⟩ := I
  obtain ⟨ad_, C_, na, ne, nb, nt, H_, -, -, RR, -⟩ := id hM
  have h20 := RR.v.2.1
  have s48 : M.1 48 = nI na := RR.v.2.2.2.2.1
  have s54 : M.1 54 = nI ne := RR.e.2.2.2.2.1
  have hk40 := RR.rg.2.1.1
  have hb4 : (sp_outcome M w).2 ≤ 4 := by
    unfold sp_outcome
    repeat' split
    all_goals exact Nat.le_of_ble_eq_true rfl
  refine two_s (v := .int (sp_outcome M w).1) (M' := rm_ans M (sp_outcome M w).2) (n' := n) hM hn hb1 hb2 hL1 hL2 (fun ad C na ne nb nt H h' R hC l1 l2 => ?_) (fun h' hW => ?_) hPX.ans ans_U (fun j _ => by rw [ans_W]) (by rw [ans_S]; exact hn) (by omega) hn8
  · exact mm_Ok.post (oc_ok R.g R.r hC) (fun r h1 z => z.aft R hb4)
  · refine mm_Ok.post (ok_X12_outcome hW) (fun r h1 z => ?_)
    exact ⟨⟨_, by rw [mw_r25_self]; exact z.1⟩, z.2.1, z.2.2⟩

theorem T_ran {G : mm_G} {L B : Nat × Nat} {m b xa k : Nat} {am : Nat → Nat} {scr : List Value} {h : mm_H} {i w : Int32} (I : INV G m am b scr xa B k h) (hk : k < 512) (hL1 : B.1 + 330 * k + 400 ≤ L.1) (hL2 : B.2 + 2460 * k + 3000 ≤ L.2) : TWO G m am b scr xa B k L mX11_ran mX12_ran [.int i, .int w] h := by
  obtain ⟨M, ab, nk, np, hM, hPX, n, hn, hn8, hb1, hb2⟩ := I
  obtain ⟨ad_, C_, na, ne, nb, nt, H_, -, -, RR, -⟩ := id hM
  have h20 := RR.v.2.1
  have s48 : M.1 48 = nI na := RR.v.2.2.2.2.1
  have s54 : M.1 54 = nI ne := RR.e.2.2.2.2.1
  have hk40 := RR.rg.2.1.1
  have hb4 : (sp_ran M i w).2 ≤ 4 := by
    unfold sp_ran
    repeat' split
    all_goals exact Nat.le_of_ble_eq_true rfl
  refine two_s (v := .int (sp_ran M i w).1) (M' := rm_ans M (sp_ran M i w).2) (n' := n) hM hn hb1 hb2 hL1 hL2 (fun ad C na ne nb nt H h' R hC l1 l2 => ?_) (fun h' hW => ?_) hPX.ans ans_U (fun j _ => by rw [ans_W]) (by rw [ans_S]; exact hn) (by omega) hn8
  · exact mm_Ok.post (ran_ok R.g R.r hC) (fun r h1 z => z.aft R hb4)
  · refine mm_Ok.post (ok_X12_ran RR.r.2.2.2.2.1.1 (by have := RR.r.2.1.1; omega) hW) (fun r h1 z => ?_)
    exact ⟨⟨_, by rw [mw_r25_self]; exact z.1⟩, z.2.1, z.2.2⟩

theorem T_said {G : mm_G} {L B : Nat × Nat} {m b xa k : Nat} {am : Nat → Nat} {scr : List Value} {h : mm_H} {i : Int32} (I : INV G m am b scr xa B k h) (hk : k < 512) (hL1 : B.1 + 330 * k + 400 ≤ L.1) (hL2 : B.2 + 2460 * k + 3000 ≤ L.2) : TWO G m am b scr xa B k L mX11_said mX12_said [.int i] h := by
  obtain ⟨M, ab, nk, np, hM, hPX, n, hn, hn8, hb1, hb2⟩ := I
  obtain ⟨ad_, C_, na, ne, nb, nt, H_, -, -, RR, -⟩ := id hM
  have h20 := RR.v.2.1
  have s48 : M.1 48 = nI na := RR.v.2.2.2.2.1
  have s54 : M.1 54 = nI ne := RR.e.2.2.2.2.1
  have hk40 := RR.rg.2.1.1
  have hb4 : (sp_said M i).2 ≤ 4 := by
    unfold sp_said
    repeat' split
    all_goals exact Nat.le_of_ble_eq_true rfl
  refine two_s (v := .int (sp_said M i).1) (M' := rm_ans M (sp_said M i).2) (n' := n) hM hn hb1 hb2 hL1 hL2 (fun ad C na ne nb nt H h' R hC l1 l2 => ?_) (fun h' hW => ?_) hPX.ans ans_U (fun j _ => by rw [ans_W]) (by rw [ans_S]; exact hn) (by omega) hn8
  · exact mm_Ok.post (sd_ok R.g R.r hC) (fun r h1 z => z.aft R hb4)
  · refine mm_Ok.post (ok_X12_said RR.r.2.2.2.2.1.2 (by have := RR.r.2.1.2; omega) hW) (fun r h1 z => ?_)
    exact ⟨⟨_, by rw [mw_r25_self]; exact z.1⟩, z.2.1, z.2.2⟩

theorem T_apparatus {G : mm_G} {L B : Nat × Nat} {m b xa k : Nat} {am : Nat → Nat} {scr : List Value} {h : mm_H} {i w : Int32} (I : INV G m am b scr xa B k h) (hk : k < 512) (hL1 : B.1 + 330 * k + 400 ≤ L.1) (hL2 : B.2 + 2460 * k + 3000 ≤ L.2) : TWO G m am b scr xa B k L mX11_apparatus mX12_apparatus [.int i, .int w] h := by
  obtain ⟨M, ab, nk, np, hM, hPX, n, hn, hn8, hb1, hb2⟩ := I
  obtain ⟨ad_, C_, na, ne, nb, nt, H_, -, -, RR, -⟩ := id hM
  have h20 := RR.v.2.1
  have s48 : M.1 48 = nI na := RR.v.2.2.2.2.1
  have s54 : M.1 54 = nI ne := RR.e.2.2.2.2.1
  have hk40 := RR.rg.2.1.1
  have hb4 : (sp_apparatus M i w).2 ≤ 4 := by
    unfold sp_apparatus
    repeat' split
    all_goals exact Nat.le_of_ble_eq_true rfl
  refine two_s (v := .int (sp_apparatus M i w).1) (M' := rm_ans M (sp_apparatus M i w).2) (n' := n) hM hn hb1 hb2 hL1 hL2 (fun ad C na ne nb nt H h' R hC l1 l2 => ?_) (fun h' hW => ?_) hPX.ans ans_U (fun j _ => by rw [ans_W]) (by rw [ans_S]; exact hn) (by omega) hn8
  · exact mm_Ok.post (ap_ok_ R.g R.v hC) (fun r h1 z => z.aft R hb4)
  · refine mm_Ok.post (ok_X12_apparatus s48 h20 hW) (fun r h1 z => ?_)
    exact ⟨⟨_, by rw [mw_r25_self]; exact z.1⟩, z.2.1, z.2.2⟩

theorem T_record {G : mm_G} {L B : Nat × Nat} {m b xa k : Nat} {am : Nat → Nat} {scr : List Value} {h : mm_H} {i w : Int32} (I : INV G m am b scr xa B k h) (hk : k < 512) (hL1 : B.1 + 330 * k + 400 ≤ L.1) (hL2 : B.2 + 2460 * k + 3000 ≤ L.2) : TWO G m am b scr xa B k L mX11_record mX12_record [.int i, .int w] h := by
  obtain ⟨M, ab, nk, np, hM, hPX, n, hn, hn8, hb1, hb2⟩ := I
  obtain ⟨ad_, C_, na, ne, nb, nt, H_, -, -, RR, -⟩ := id hM
  have h20 := RR.v.2.1
  have s48 : M.1 48 = nI na := RR.v.2.2.2.2.1
  have s54 : M.1 54 = nI ne := RR.e.2.2.2.2.1
  have hk40 := RR.rg.2.1.1
  have hb4 : (sp_record M i w).2 ≤ 4 := by
    unfold sp_record
    repeat' split
    all_goals exact Nat.le_of_ble_eq_true rfl
  refine two_s (v := .int (sp_record M i w).1) (M' := rm_ans M (sp_record M i w).2) (n' := n) hM hn hb1 hb2 hL1 hL2 (fun ad C na ne nb nt H h' R hC l1 l2 => ?_) (fun h' hW => ?_) hPX.ans ans_U (fun j _ => by rw [ans_W]) (by rw [ans_S]; exact hn) (by omega) hn8
  · exact mm_Ok.post (rc_ok R.g R.v R.e hC) (fun r h1 z => z.aft R hb4)
  · refine mm_Ok.post (ok_X12_record s54 (by have := RR.e.2.1; omega) hW) (fun r h1 z => ?_)
    exact ⟨⟨_, by rw [mw_r25_self]; exact z.1⟩, z.2.1, z.2.2⟩

theorem T_found {G : mm_G} {L B : Nat × Nat} {m b xa k : Nat} {am : Nat → Nat} {scr : List Value} {h : mm_H} {x : Int32} (I : INV G m am b scr xa B k h) (hk : k < 512) (hL1 : B.1 + 330 * k + 400 ≤ L.1) (hL2 : B.2 + 2460 * k + 3000 ≤ L.2) : TWO G m am b scr xa B k L mX11_found mX12_found [.int x] h := by
  obtain ⟨M, ab, nk, np, hM, hPX, n, hn, hn8, hb1, hb2⟩ := I
  obtain ⟨ad_, C_, na, ne, nb, nt, H_, -, -, RR, -⟩ := id hM
  have h20 := RR.v.2.1
  have s48 : M.1 48 = nI na := RR.v.2.2.2.2.1
  have s54 : M.1 54 = nI ne := RR.e.2.2.2.2.1
  have hk40 := RR.rg.2.1.1
  have hb4 : (sp_found M x).2 ≤ 4 := by
    unfold sp_found
    repeat' split
    all_goals exact Nat.le_of_ble_eq_true rfl
  refine two_s (v := .int (sp_found M x).1) (M' := rm_ans M (sp_found M x).2) (n' := n) hM hn hb1 hb2 hL1 hL2 (fun ad C na ne nb nt H h' R hC l1 l2 => ?_) (fun h' hW => ?_) hPX.ans ans_U (fun j _ => by rw [ans_W]) (by rw [ans_S]; exact hn) (by omega) hn8
  · exact mm_Ok.post (fd_ok R.g R.o.2.2.2.2.2.2.1 hC) (fun r h1 z => z.aft R hb4)
  · refine mm_Ok.post (ok_X12_found hW) (fun r h1 z => ?_)
    exact ⟨⟨_, by rw [mw_r25_self]; exact z.1⟩, z.2.1, z.2.2⟩

