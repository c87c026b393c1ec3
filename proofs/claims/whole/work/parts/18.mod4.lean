theorem mw_neg4 {x : Int32} (h0 : ¬ 0 ≤ x) (h4 : ¬ x < -4) : ∃ c, c < 5 ∧ -x = nI c := by
  rw [Int32.le_iff_toInt_le, Int32.toInt_zero] at h0
  rw [Int32.lt_iff_toInt_lt, show (-4 : Int32).toInt = -4 by decide] at h4
  have e : x = -1 ∨ x = -2 ∨ x = -3 ∨ x = -4 := by
    rw [← Int32.toInt_inj, ← Int32.toInt_inj, ← Int32.toInt_inj, ← Int32.toInt_inj, show (-1 : Int32).toInt = -1 by decide, show (-2 : Int32).toInt = -2 by decide, show (-3 : Int32).toInt = -3 by decide, show (-4 : Int32).toInt = -4 by decide]
    omega
  rcases e with rfl | rfl | rfl | rfl
  · exact ⟨1, by decide, by decide⟩
  · exact ⟨2, by decide, by decide⟩
  · exact ⟨3, by decide, by decide⟩
  · exact ⟨4, by decide, by decide⟩
def sp_found (M : mw_S) (x : Int32) : Int32 × Nat := if 0 ≤ x then sp_bad else if x < -4 then sp_bad else (M.2.2.1 2 (-x).toNatClampNeg, 0)
theorem mw_i4 {s z : Int32} {n c : Nat} (hs : s = nI n) (hz : z = nI c) : 4 * s + z = nI (4 * n + c) := by rw [hs, hz, show (4 : Int32) = nI 4 by decide, pk_mul, nI_add]
theorem mw_i40 {s : Int32} {n : Nat} (hs : s = nI n) : 4 * s = nI (4 * n) := by rw [hs, show (4 : Int32) = nI 4 by decide, pk_mul]
theorem mw_i5 {s z : Int32} {n c : Nat} (hs : s = nI n) (hz : z = nI c) : 5 * s + z = nI (5 * n + c) := by rw [hs, hz, show (5 : Int32) = nI 5 by decide, pk_mul, nI_add]

theorem ok_X12_place {G : mm_G} {L : Nat × Nat} {d : Nat} {h h0 : mm_H} {m : Nat} {ad : Nat → Nat} {M : mw_S}  (hW : mw_W m ad h0 M h) : mm_Ok G mX12_place L (d) [.ref m] h (fun r h1 => h1 = h ∧ r = some (.int (M.1 24))) := by
  refine mm_Ok.of [(0, .ref m)] rfl kX12_place.2.2.2.2.2 rfl (fun A => ?_)
  refine mm_aload_n (pc := 0) dX12_place_0 rfl (by first | trivial | assumption | exact mm_isr_rf _) ?_
  refine mw_gets (pc := 1) 24 hW dX12_place_1 fl_X12_76 rfl rfl ?_
  refine mm_iret (pc := 4) dX12_place_4 rfl ?_
  exact ⟨rfl, rfl⟩

theorem ok_X12_found {G : mm_G} {L : Nat × Nat} {d : Nat} {h h0 : mm_H} {m : Nat} {ad : Nat → Nat} {M : mw_S} {x : Int32} (hW : mw_W m ad h0 M h) : mm_Ok G mX12_found L (d + 1) [.ref m, .int x] h (fun r h1 => mw_W m ad h0 (rm_ans M (sp_found M x).2) h1 ∧ h1.2 = h.2 ∧ r = some (.int (sp_found M x).1)) := by
  refine mm_Ok.of [(0, .ref m), (1, .int x)] rfl kX12_found.2.2.2.2.2 rfl (fun A => ?_)
  refine mm_iload_n (pc := 0) dX12_found_0 rfl ?_
  refine mm_if_ge (pc := 1) (tgt := 20) dX12_found_1 (by decide) (fun c1 => ?_) (fun c1 => ?_)
  · refine mm_aload_n (pc := 20) dX12_found_20 rfl (by first | trivial | assumption | exact mm_isr_rf _) ?_
    refine mm_iconst (pc := 21) (v := (-1)) dX12_found_21 (by decide) ?_
    refine mm_callV (pc := 22) (As := [_]) (kd := ?kd_22_1) (fs := ?fs_22_1) dX12_found_22 vl_X12_189 (ok_X12_answer (x := -1) (c := 1) (by decide) (by decide) (by decide) hW) ?hc_22_1 ?hk_22_1 rfl rfl (Nat.le_of_ble_eq_true rfl) ?_; (case hc_22_1 => exact hW.1); (case hk_22_1 => rfl)
    rintro _ h_ ⟨hW, e_, rfl⟩
    refine mm_iret (pc := 25) dX12_found_25 rfl ?_
    unfold sp_found
    rw [if_pos c1]
    exact ⟨hW, e_, rfl⟩
  · refine mm_iload_n (pc := 4) dX12_found_4 rfl ?_
    refine mm_bipush (pc := 5) (v := (-4)) dX12_found_5 (by decide) ?_
    refine mm_icmp_lt (pc := 7) (tgt := 20) dX12_found_7 (by decide) (fun c7 => ?_) (fun c7 => ?_)
    · refine mm_aload_n (pc := 20) dX12_found_20 rfl (by first | trivial | assumption | exact mm_isr_rf _) ?_
      refine mm_iconst (pc := 21) (v := (-1)) dX12_found_21 (by decide) ?_
      refine mm_callV (pc := 22) (As := [_]) (kd := ?kd_22_2) (fs := ?fs_22_2) dX12_found_22 vl_X12_189 (ok_X12_answer (x := -1) (c := 1) (by decide) (by decide) (by decide) hW) ?hc_22_2 ?hk_22_2 rfl rfl (Nat.le_of_ble_eq_true rfl) ?_; (case hc_22_2 => exact hW.1); (case hk_22_2 => rfl)
      rintro _ h_ ⟨hW, e_, rfl⟩
      refine mm_iret (pc := 25) dX12_found_25 rfl ?_
      unfold sp_found
      rw [if_neg c1, if_pos c7]
      exact ⟨hW, e_, rfl⟩
    · obtain ⟨c_, hc_, hn_⟩ := mw_neg4 c1 c7
      refine mm_aload_n (pc := 10) dX12_found_10 rfl (by first | trivial | assumption | exact mm_isr_rf _) ?_
      refine mw_geta (pc := 11) 2 hW dX12_found_11 fl_X12_13 rfl rfl ?_
      refine mm_iload_n (pc := 14) dX12_found_14 rfl ?_
      refine mm_ineg (pc := 15) dX12_found_15 ?_
      refine mw_iald (pc := 16) 2 c_ hW dX12_found_16 rfl rfl (by first | with_reducible rfl | assumption | rfl) (by show _ < 5; omega) (by omega) ?_
      refine mm_goto (pc := 17) (tgt := 25) dX12_found_17 (by decide) ?_
      refine mm_iret (pc := 25) dX12_found_25 rfl ?_
      unfold sp_found
      rw [if_neg c1, if_neg c7]
      rw [hn_, nI_clamp (by omega)]
      exact ⟨hW, rfl, rfl⟩

theorem ok_X12_rank {G : mm_G} {L : Nat × Nat} {d : Nat} {h : mm_H} {x : Int32} : mm_Ok G mX12_rank L (d) [.int x] h (fun r h1 => h1 = h ∧ r = some (.int (if x = 5 then 4 else if x = 4 then 5 else x))) := by
  refine mm_Ok.of [(0, .int x)] rfl kX12_rank.2.2.2.2.2 rfl (fun A => ?_)
  refine mm_iload_n (pc := 0) dX12_rank_0 rfl ?_
  refine mm_iconst (pc := 1) (v := 5) dX12_rank_1 (by decide) ?_
  refine mm_icmp_ne (pc := 2) (tgt := 9) dX12_rank_2 (by decide) (fun c2 => ?_) (fun c2 => ?_)
  · refine mm_iload_n (pc := 9) dX12_rank_9 rfl ?_
    refine mm_iconst (pc := 10) (v := 4) dX12_rank_10 (by decide) ?_
    refine mm_icmp_ne (pc := 11) (tgt := 18) dX12_rank_11 (by decide) (fun c11 => ?_) (fun c11 => ?_)
    · refine mm_iload_n (pc := 18) dX12_rank_18 rfl ?_
      refine mm_iret (pc := 19) dX12_rank_19 rfl ?_
      exact ⟨rfl, by rw [if_neg c2, if_neg c11]⟩
    · refine mm_iconst (pc := 14) (v := 5) dX12_rank_14 (by decide) ?_
      refine mm_goto (pc := 15) (tgt := 19) dX12_rank_15 (by decide) ?_
      refine mm_iret (pc := 19) dX12_rank_19 rfl ?_
      exact ⟨rfl, by rw [if_neg c2, if_pos c11]⟩
  · refine mm_iconst (pc := 5) (v := 4) dX12_rank_5 (by decide) ?_
    refine mm_goto (pc := 6) (tgt := 19) dX12_rank_6 (by decide) ?_
    refine mm_iret (pc := 19) dX12_rank_19 rfl ?_
    exact ⟨rfl, by rw [if_pos c2]⟩

theorem ok_X12_isLetter {G : mm_G} {L : Nat × Nat} {d : Nat} {h : mm_H} {x : Int32} : mm_Ok G mX12_isLetter L (d) [.int x] h (fun r h1 => h1 = h ∧ r = some (.int (if x < 97 then 0 else if 122 < x then 0 else 1))) := by
  refine mm_Ok.of [(0, .int x)] rfl kX12_isLetter.2.2.2.2.2 rfl (fun A => ?_)
  refine mm_iload_n (pc := 0) dX12_isLetter_0 rfl ?_
  refine mm_bipush (pc := 1) (v := 97) dX12_isLetter_1 (by decide) ?_
  refine mm_icmp_lt (pc := 3) (tgt := 16) dX12_isLetter_3 (by decide) (fun c3 => ?_) (fun c3 => ?_)
  · refine mm_iconst (pc := 16) (v := 0) dX12_isLetter_16 (by decide) ?_
    refine mm_zret (pc := 17) dX12_isLetter_17 rfl (by first | rfl | decide) ?_
    exact ⟨rfl, by rw [if_pos c3]⟩
  · refine mm_iload_n (pc := 6) dX12_isLetter_6 rfl ?_
    refine mm_bipush (pc := 7) (v := 122) dX12_isLetter_7 (by decide) ?_
    refine mm_icmp_gt (pc := 9) (tgt := 16) dX12_isLetter_9 (by decide) (fun c9 => ?_) (fun c9 => ?_)
    · refine mm_iconst (pc := 16) (v := 0) dX12_isLetter_16 (by decide) ?_
      refine mm_zret (pc := 17) dX12_isLetter_17 rfl (by first | rfl | decide) ?_
      exact ⟨rfl, by rw [if_neg c3, if_pos c9]⟩
    · refine mm_iconst (pc := 12) (v := 1) dX12_isLetter_12 (by decide) ?_
      refine mm_goto (pc := 13) (tgt := 17) dX12_isLetter_13 (by decide) ?_
      refine mm_zret (pc := 17) dX12_isLetter_17 rfl (by first | rfl | decide) ?_
      exact ⟨rfl, by rw [if_neg c3, if_neg c9]⟩

theorem ok_X12_isFigure {G : mm_G} {L : Nat × Nat} {d : Nat} {h : mm_H} {x : Int32} : mm_Ok G mX12_isFigure L (d) [.int x] h (fun r h1 => h1 = h ∧ r = some (.int (if x < 48 then 0 else if 57 < x then 0 else 1))) := by
  refine mm_Ok.of [(0, .int x)] rfl kX12_isFigure.2.2.2.2.2 rfl (fun A => ?_)
  refine mm_iload_n (pc := 0) dX12_isFigure_0 rfl ?_
  refine mm_bipush (pc := 1) (v := 48) dX12_isFigure_1 (by decide) ?_
  refine mm_icmp_lt (pc := 3) (tgt := 16) dX12_isFigure_3 (by decide) (fun c3 => ?_) (fun c3 => ?_)
  · refine mm_iconst (pc := 16) (v := 0) dX12_isFigure_16 (by decide) ?_
    refine mm_zret (pc := 17) dX12_isFigure_17 rfl (by first | rfl | decide) ?_
    exact ⟨rfl, by rw [if_pos c3]⟩
  · refine mm_iload_n (pc := 6) dX12_isFigure_6 rfl ?_
    refine mm_bipush (pc := 7) (v := 57) dX12_isFigure_7 (by decide) ?_
    refine mm_icmp_gt (pc := 9) (tgt := 16) dX12_isFigure_9 (by decide) (fun c9 => ?_) (fun c9 => ?_)
    · refine mm_iconst (pc := 16) (v := 0) dX12_isFigure_16 (by decide) ?_
      refine mm_zret (pc := 17) dX12_isFigure_17 rfl (by first | rfl | decide) ?_
      exact ⟨rfl, by rw [if_neg c3, if_pos c9]⟩
    · refine mm_iconst (pc := 12) (v := 1) dX12_isFigure_12 (by decide) ?_
      refine mm_goto (pc := 13) (tgt := 17) dX12_isFigure_13 (by decide) ?_
      refine mm_zret (pc := 17) dX12_isFigure_17 rfl (by first | rfl | decide) ?_
      exact ⟨rfl, by rw [if_neg c3, if_neg c9]⟩

theorem ok_X12_byteAt {G : mm_G} {L : Nat × Nat} {d : Nat} {h h0 : mm_H} {m : Nat} {ad : Nat → Nat} {M : mw_S} {p n : Nat} (hs : M.1 1 = nI n) (hn : n ≤ 800) (hp : p ≤ 800) (hW : mw_W m ad h0 M h) : mm_Ok G mX12_byteAt L (d) [.ref m, .int (nI p)] h (fun r h1 => h1 = h ∧ r = some (.int (if M.1 1 ≤ nI p then -1 else M.2.2.1 0 p &&& 255))) := by
  refine mm_Ok.of [(0, .ref m), (1, .int (nI p))] rfl kX12_byteAt.2.2.2.2.2 rfl (fun A => ?_)
  refine mm_iload_n (pc := 0) dX12_byteAt_0 rfl ?_
  refine mm_aload_n (pc := 1) dX12_byteAt_1 rfl (by first | trivial | assumption | exact mm_isr_rf _) ?_
  refine mw_gets (pc := 2) 1 hW dX12_byteAt_2 fl_X12_186 rfl rfl ?_
  refine mm_icmp_ge (pc := 5) (tgt := 21) dX12_byteAt_5 (by decide) (fun c5 => ?_) (fun c5 => ?_)
  · refine mm_iconst (pc := 21) (v := (-1)) dX12_byteAt_21 (by decide) ?_
    refine mm_iret (pc := 22) dX12_byteAt_22 rfl ?_
    exact ⟨rfl, by rw [if_pos c5]⟩
  · have hlt : p < n := by
      rcases Nat.lt_or_ge p n with q | q
      · exact q
      · exact absurd (by rw [hs]; exact nI_le q (by omega)) c5
    refine mm_aload_n (pc := 8) dX12_byteAt_8 rfl (by first | trivial | assumption | exact mm_isr_rf _) ?_
    refine mw_geta (pc := 9) 0 hW dX12_byteAt_9 fl_X12_9 rfl rfl ?_
    refine mm_iload_n (pc := 12) dX12_byteAt_12 rfl ?_
    refine mw_bald (pc := 13) 0 p hW dX12_byteAt_13 rfl rfl (by first | with_reducible rfl | assumption | rfl) (by show _ < 800; omega) (by omega) ?_
    refine mm_sipush (pc := 14) (v := 255) dX12_byteAt_14 (by decide) ?_
    refine mm_iand (pc := 17) dX12_byteAt_17 ?_
    refine mm_goto (pc := 18) (tgt := 22) dX12_byteAt_18 (by decide) ?_
    refine mm_iret (pc := 22) dX12_byteAt_22 rfl ?_
    exact ⟨rfl, by rw [if_neg c5]⟩

theorem ok_X12_fails1 {G : mm_G} {L : Nat × Nat} {d : Nat} {h h0 : mm_H} {m : Nat} {ad : Nat → Nat} {M : mw_S} {x : Int32} (hz : M.1 30 = 1) (hW : mw_W m ad h0 M h) : mm_Ok G mX12_fails L (d) [.ref m, .int x] h (fun r h1 => mw_W m ad h0 (mw_setS (mw_setS M 30 0) 24 x) h1 ∧ h1.2 = h.2 ∧ r = some (.int 0)) := by
  refine mm_Ok.of [(0, .ref m), (1, .int x)] rfl kX12_fails.2.2.2.2.2 rfl (fun A => ?_)
  refine mm_aload_n (pc := 0) dX12_fails_0 rfl (by first | trivial | assumption | exact mm_isr_rf _) ?_
  refine mw_gets (pc := 1) 30 hW dX12_fails_1 fl_X12_277 rfl rfl ?_
  refine mm_if_eq (pc := 4) (tgt := 17) dX12_fails_4 (by decide) (fun c4 => absurd c4 (by rw [hz]; decide)) (fun c4 => ?_)
  refine mm_aload_n (pc := 7) dX12_fails_7 rfl (by first | trivial | assumption | exact mm_isr_rf _) ?_
  refine mm_iconst (pc := 8) (v := 0) dX12_fails_8 (by decide) ?_
  refine mw_putZ (pc := 9) 30 hW dX12_fails_9 (pl_X12_277 _) rfl (by first | exact Or.inl rfl | exact Or.inr rfl | assumption) (fun h9 hW e9 => ?_)
  refine mm_aload_n (pc := 12) dX12_fails_12 rfl (by first | trivial | assumption | exact mm_isr_rf _) ?_
  refine mm_iload_n (pc := 13) dX12_fails_13 rfl ?_
  refine mw_put (pc := 14) 24 hW dX12_fails_14 (pl_X12_76 _) rfl (fun h14 hW e14 => ?_)
  refine mm_iconst (pc := 17) (v := 0) dX12_fails_17 (by decide) ?_
  refine mm_zret (pc := 18) dX12_fails_18 rfl (by first | rfl | decide) ?_
  exact ⟨hW, by rw [e14, e9], rfl⟩

theorem ok_X12_fails0 {G : mm_G} {L : Nat × Nat} {d : Nat} {h h0 : mm_H} {m : Nat} {ad : Nat → Nat} {M : mw_S} {x : Int32} (hz : M.1 30 = 0) (hW : mw_W m ad h0 M h) : mm_Ok G mX12_fails L (d) [.ref m, .int x] h (fun r h1 => mw_W m ad h0 (M) h1 ∧ h1.2 = h.2 ∧ r = some (.int 0)) := by
  refine mm_Ok.of [(0, .ref m), (1, .int x)] rfl kX12_fails.2.2.2.2.2 rfl (fun A => ?_)
  refine mm_aload_n (pc := 0) dX12_fails_0 rfl (by first | trivial | assumption | exact mm_isr_rf _) ?_
  refine mw_gets (pc := 1) 30 hW dX12_fails_1 fl_X12_277 rfl rfl ?_
  refine mm_if_eq (pc := 4) (tgt := 17) dX12_fails_4 (by decide) (fun c4 => ?_) (fun c4 => absurd hz c4)
  refine mm_iconst (pc := 17) (v := 0) dX12_fails_17 (by decide) ?_
  refine mm_zret (pc := 18) dX12_fails_18 rfl (by first | rfl | decide) ?_
  exact ⟨hW, rfl, rfl⟩

theorem ok_X12_fails_ {G : mm_G} {L : Nat × Nat} {d : Nat} {h h0 : mm_H} {m : Nat} {ad : Nat → Nat} {M : mw_S} {x y1 : Int32} (hW : mw_W m ad h0 M h) : mm_Ok G mX12_fails_ L (d) [.ref m, .int x, .int y1] h (fun r h1 => mw_W m ad h0 (mw_setS M 64 x) h1 ∧ h1.2 = h.2 ∧ r = some (.int y1)) := by
  refine mm_Ok.of [(0, .ref m), (1, .int x), (2, .int y1)] rfl kX12_fails_.2.2.2.2.2 rfl (fun A => ?_)
  refine mm_aload_n (pc := 0) dX12_fails__0 rfl (by first | trivial | assumption | exact mm_isr_rf _) ?_
  refine mm_iload_n (pc := 1) dX12_fails__1 rfl ?_
  refine mw_put (pc := 2) 64 hW dX12_fails__2 (pl_X12_456 _) rfl (fun h2 hW e2 => ?_)
  refine mm_iload_n (pc := 5) dX12_fails__5 rfl ?_
  refine mm_iret (pc := 6) dX12_fails__6 rfl ?_
  exact ⟨hW, by rw [e2], rfl⟩

def rm_action (M : mw_S) (a : Nat) (op x : Int32) : mw_S := mw_setS (mw_setV (mw_setV (mw_setV (mw_setV (mw_setV M 14 a op) 15 a x) 16 a (-1)) 17 a (-1)) 18 a (-1)) 13 (nI (a + 1))
theorem ok_X12_action {G : mm_G} {L : Nat × Nat} {d : Nat} {h h0 : mm_H} {m : Nat} {ad : Nat → Nat} {M : mw_S} {op x : Int32} {a : Nat} (hs : M.1 13 = nI a) (ha : a < 4000) (hW : mw_W m ad h0 M h) : mm_Ok G mX12_action L (d) [.ref m, .int op, .int x] h (fun r h1 => mw_W m ad h0 (rm_action M a op x) h1 ∧ h1.2 = h.2 ∧ r = some (.int (nI a))) := by
  refine mm_Ok.of [(0, .ref m), (1, .int op), (2, .int x)] rfl kX12_action.2.2.2.2.2 rfl (fun A => ?_)
  refine mm_aload_n (pc := 0) dX12_action_0 rfl (by first | trivial | assumption | exact mm_isr_rf _) ?_
  refine mw_geta (pc := 1) 14 hW dX12_action_1 fl_X12_48 rfl rfl ?_
  refine mm_aload_n (pc := 4) dX12_action_4 rfl (by first | trivial | assumption | exact mm_isr_rf _) ?_
  refine mw_gets (pc := 5) 13 hW dX12_action_5 fl_X12_183 rfl rfl ?_
  refine mm_iload_n (pc := 8) dX12_action_8 rfl ?_
  refine mw_iast (pc := 9) 14 _ hW dX12_action_9 rfl rfl (by first | with_reducible rfl | assumption | rfl) (by show _ < 4000; omega) (by omega) (fun h9 hW e9 => ?_)
  refine mm_aload_n (pc := 10) dX12_action_10 rfl (by first | trivial | assumption | exact mm_isr_rf _) ?_
  refine mw_geta (pc := 11) 15 hW dX12_action_11 fl_X12_51 rfl rfl ?_
  refine mm_aload_n (pc := 14) dX12_action_14 rfl (by first | trivial | assumption | exact mm_isr_rf _) ?_
  refine mw_gets (pc := 15) 13 hW dX12_action_15 fl_X12_183 rfl rfl ?_
  refine mm_iload_n (pc := 18) dX12_action_18 rfl ?_
  refine mw_iast (pc := 19) 15 _ hW dX12_action_19 rfl rfl (by first | with_reducible rfl | assumption | rfl) (by show _ < 4000; omega) (by omega) (fun h19 hW e19 => ?_)
  refine mm_aload_n (pc := 20) dX12_action_20 rfl (by first | trivial | assumption | exact mm_isr_rf _) ?_
  refine mw_geta (pc := 21) 16 hW dX12_action_21 fl_X12_54 rfl rfl ?_
  refine mm_aload_n (pc := 24) dX12_action_24 rfl (by first | trivial | assumption | exact mm_isr_rf _) ?_
  refine mw_gets (pc := 25) 13 hW dX12_action_25 fl_X12_183 rfl rfl ?_
  refine mm_iconst (pc := 28) (v := (-1)) dX12_action_28 (by decide) ?_
  refine mw_iast (pc := 29) 16 _ hW dX12_action_29 rfl rfl (by first | with_reducible rfl | assumption | rfl) (by show _ < 4000; omega) (by omega) (fun h29 hW e29 => ?_)
  refine mm_aload_n (pc := 30) dX12_action_30 rfl (by first | trivial | assumption | exact mm_isr_rf _) ?_
  refine mw_geta (pc := 31) 17 hW dX12_action_31 fl_X12_57 rfl rfl ?_
  refine mm_aload_n (pc := 34) dX12_action_34 rfl (by first | trivial | assumption | exact mm_isr_rf _) ?_
  refine mw_gets (pc := 35) 13 hW dX12_action_35 fl_X12_183 rfl rfl ?_
  refine mm_iconst (pc := 38) (v := (-1)) dX12_action_38 (by decide) ?_
  refine mw_iast (pc := 39) 17 _ hW dX12_action_39 rfl rfl (by first | with_reducible rfl | assumption | rfl) (by show _ < 4000; omega) (by omega) (fun h39 hW e39 => ?_)
  refine mm_aload_n (pc := 40) dX12_action_40 rfl (by first | trivial | assumption | exact mm_isr_rf _) ?_
  refine mw_geta (pc := 41) 18 hW dX12_action_41 fl_X12_60 rfl rfl ?_
  refine mm_aload_n (pc := 44) dX12_action_44 rfl (by first | trivial | assumption | exact mm_isr_rf _) ?_
  refine mw_gets (pc := 45) 13 hW dX12_action_45 fl_X12_183 rfl rfl ?_
  refine mm_iconst (pc := 48) (v := (-1)) dX12_action_48 (by decide) ?_
  refine mw_iast (pc := 49) 18 _ hW dX12_action_49 rfl rfl (by first | with_reducible rfl | assumption | rfl) (by show _ < 4000; omega) (by omega) (fun h49 hW e49 => ?_)
  refine mm_aload_n (pc := 50) dX12_action_50 rfl (by first | trivial | assumption | exact mm_isr_rf _) ?_
  refine mm_dup (pc := 51) dX12_action_51 rfl ?_
  refine mw_gets (pc := 52) 13 hW dX12_action_52 fl_X12_183 rfl rfl ?_
  refine mm_iconst (pc := 55) (v := 1) dX12_action_55 (by decide) ?_
  refine mm_iadd (pc := 56) dX12_action_56 ?_
  refine mm_topi _ (show M.1 13 + 1 = nI (a + 1) by rw [hs, nI_1]) ?_
  refine mw_put (pc := 57) 13 hW dX12_action_57 (pl_X12_183 _) rfl (fun h57 hW e57 => ?_)
  refine mm_aload_n (pc := 60) dX12_action_60 rfl (by first | trivial | assumption | exact mm_isr_rf _) ?_
  refine mw_gets (pc := 61) 13 hW dX12_action_61 fl_X12_183 rfl rfl ?_
  refine mm_iconst (pc := 64) (v := 1) dX12_action_64 (by decide) ?_
  refine mm_isub (pc := 65) dX12_action_65 ?_
  refine mm_topi _ (nI_pred a) ?_
  refine mm_iret (pc := 66) dX12_action_66 rfl ?_
  exact ⟨hW, by rw [e57, e49, e39, e29, e19, e9], rfl⟩

theorem ok_X12_say {G : mm_G} {L : Nat × Nat} {d : Nat} {h h0 : mm_H} {m : Nat} {ad : Nat → Nat} {M : mw_S} {x : Int32} {a : Nat} (hs : M.1 13 = nI a) (ha : a < 4000) (hW : mw_W m ad h0 M h) : mm_Ok G mX12_say L (d + 1) [.ref m, .int x] h (fun r h1 => mw_W m ad h0 (rm_action M a 3 x) h1 ∧ h1.2 = h.2 ∧ r = some (.int (nI a))) := by
  refine mm_Ok.of [(0, .ref m), (1, .int x)] rfl kX12_say.2.2.2.2.2 rfl (fun A => ?_)
  refine mm_aload_n (pc := 0) dX12_say_0 rfl (by first | trivial | assumption | exact mm_isr_rf _) ?_
  refine mm_iconst (pc := 1) (v := 3) dX12_say_1 (by decide) ?_
  refine mm_iload_n (pc := 2) dX12_say_2 rfl ?_
  refine mm_callV (pc := 3) (As := [_, _]) (kd := ?kd_3_3) (fs := ?fs_3_3) dX12_say_3 vl_X12_171 (ok_X12_action hs ha hW) ?hc_3_3 ?hk_3_3 rfl rfl (Nat.le_of_ble_eq_true rfl) ?_; (case hc_3_3 => exact hW.1); (case hk_3_3 => rfl)
  rintro _ h_ ⟨hW, e_, rfl⟩
  refine mm_iret (pc := 6) dX12_say_6 rfl ?_
  exact ⟨hW, e_, rfl⟩

theorem ok_X12_two {G : mm_G} {L : Nat × Nat} {d : Nat} {h h0 : mm_H} {m : Nat} {ad : Nat → Nat} {M : mw_S} {a b : Nat} (ha : a < 4000) (hW : mw_W m ad h0 M h) : mm_Ok G mX12_two L (d) [.ref m, .int (nI a), .int (nI b)] h (fun r h1 => mw_W m ad h0 (mw_setV M 18 a (nI b)) h1 ∧ h1.2 = h.2 ∧ r = some (.int (nI a))) := by
  refine mm_Ok.of [(0, .ref m), (1, .int (nI a)), (2, .int (nI b))] rfl kX12_two.2.2.2.2.2 rfl (fun A => ?_)
  refine mm_aload_n (pc := 0) dX12_two_0 rfl (by first | trivial | assumption | exact mm_isr_rf _) ?_
  refine mw_geta (pc := 1) 18 hW dX12_two_1 fl_X12_60 rfl rfl ?_
  refine mm_iload_n (pc := 4) dX12_two_4 rfl ?_
  refine mm_iload_n (pc := 5) dX12_two_5 rfl ?_
  refine mw_iast (pc := 6) 18 _ hW dX12_two_6 rfl rfl (by first | with_reducible rfl | assumption | rfl) (by show _ < 4000; omega) (by omega) (fun h6 hW e6 => ?_)
  refine mm_iload_n (pc := 7) dX12_two_7 rfl ?_
  refine mm_iret (pc := 8) dX12_two_8 rfl ?_
  exact ⟨hW, by rw [e6], rfl⟩

def rm_use (M : mw_S) (n : Nat) (k hk op c : Int32) : mw_S := mw_setS (mw_setV (mw_setV (mw_setV (mw_setV (mw_setV M 42 n k) 43 n hk) 44 n op) 45 n c) 46 n (M.1 27)) 41 (nI (n + 1))
theorem ok_X12_use {G : mm_G} {L : Nat × Nat} {d : Nat} {h h0 : mm_H} {m : Nat} {ad : Nat → Nat} {M : mw_S} {k hk op c : Int32} {n : Nat} (hs : M.1 41 = nI n) (hn : n < 700) (hW : mw_W m ad h0 M h) : mm_Ok G mX12_use L (d) [.ref m, .int k, .int hk, .int op, .int c] h (fun r h1 => mw_W m ad h0 (rm_use M n k hk op c) h1 ∧ h1.2 = h.2 ∧ r = none) := by
  refine mm_Ok.of [(0, .ref m), (1, .int k), (2, .int hk), (3, .int op), (4, .int c)] rfl kX12_use.2.2.2.2.2 rfl (fun A => ?_)
  refine mm_aload_n (pc := 0) dX12_use_0 rfl (by first | trivial | assumption | exact mm_isr_rf _) ?_
  refine mw_geta (pc := 1) 42 hW dX12_use_1 fl_X12_94 rfl rfl ?_
  refine mm_aload_n (pc := 4) dX12_use_4 rfl (by first | trivial | assumption | exact mm_isr_rf _) ?_
  refine mw_gets (pc := 5) 41 hW dX12_use_5 fl_X12_390 rfl rfl ?_
  refine mm_iload_n (pc := 8) dX12_use_8 rfl ?_
  refine mw_iast (pc := 9) 42 _ hW dX12_use_9 rfl rfl (by first | with_reducible rfl | assumption | rfl) (by show _ < 700; omega) (by omega) (fun h9 hW e9 => ?_)
  refine mm_aload_n (pc := 10) dX12_use_10 rfl (by first | trivial | assumption | exact mm_isr_rf _) ?_
  refine mw_geta (pc := 11) 43 hW dX12_use_11 fl_X12_97 rfl rfl ?_
  refine mm_aload_n (pc := 14) dX12_use_14 rfl (by first | trivial | assumption | exact mm_isr_rf _) ?_
  refine mw_gets (pc := 15) 41 hW dX12_use_15 fl_X12_390 rfl rfl ?_
  refine mm_iload_n (pc := 18) dX12_use_18 rfl ?_
  refine mw_iast (pc := 19) 43 _ hW dX12_use_19 rfl rfl (by first | with_reducible rfl | assumption | rfl) (by show _ < 700; omega) (by omega) (fun h19 hW e19 => ?_)
  refine mm_aload_n (pc := 20) dX12_use_20 rfl (by first | trivial | assumption | exact mm_isr_rf _) ?_
  refine mw_geta (pc := 21) 44 hW dX12_use_21 fl_X12_100 rfl rfl ?_
  refine mm_aload_n (pc := 24) dX12_use_24 rfl (by first | trivial | assumption | exact mm_isr_rf _) ?_
  refine mw_gets (pc := 25) 41 hW dX12_use_25 fl_X12_390 rfl rfl ?_
  refine mm_iload_n (pc := 28) dX12_use_28 rfl ?_
  refine mw_iast (pc := 29) 44 _ hW dX12_use_29 rfl rfl (by first | with_reducible rfl | assumption | rfl) (by show _ < 700; omega) (by omega) (fun h29 hW e29 => ?_)
  refine mm_aload_n (pc := 30) dX12_use_30 rfl (by first | trivial | assumption | exact mm_isr_rf _) ?_
  refine mw_geta (pc := 31) 45 hW dX12_use_31 fl_X12_103 rfl rfl ?_
  refine mm_aload_n (pc := 34) dX12_use_34 rfl (by first | trivial | assumption | exact mm_isr_rf _) ?_
  refine mw_gets (pc := 35) 41 hW dX12_use_35 fl_X12_390 rfl rfl ?_
  refine mm_iload (pc := 38) dX12_use_38 rfl ?_
  refine mw_iast (pc := 40) 45 _ hW dX12_use_40 rfl rfl (by first | with_reducible rfl | assumption | rfl) (by show _ < 700; omega) (by omega) (fun h40 hW e40 => ?_)
  refine mm_aload_n (pc := 41) dX12_use_41 rfl (by first | trivial | assumption | exact mm_isr_rf _) ?_
  refine mw_geta (pc := 42) 46 hW dX12_use_42 fl_X12_106 rfl rfl ?_
  refine mm_aload_n (pc := 45) dX12_use_45 rfl (by first | trivial | assumption | exact mm_isr_rf _) ?_
  refine mw_gets (pc := 46) 41 hW dX12_use_46 fl_X12_390 rfl rfl ?_
  refine mm_aload_n (pc := 49) dX12_use_49 rfl (by first | trivial | assumption | exact mm_isr_rf _) ?_
  refine mw_gets (pc := 50) 27 hW dX12_use_50 fl_X12_212 rfl rfl ?_
  refine mw_iast (pc := 53) 46 _ hW dX12_use_53 rfl rfl (by first | with_reducible rfl | assumption | rfl) (by show _ < 700; omega) (by omega) (fun h53 hW e53 => ?_)
  refine mm_aload_n (pc := 54) dX12_use_54 rfl (by first | trivial | assumption | exact mm_isr_rf _) ?_
  refine mm_dup (pc := 55) dX12_use_55 rfl ?_
  refine mw_gets (pc := 56) 41 hW dX12_use_56 fl_X12_390 rfl rfl ?_
  refine mm_iconst (pc := 59) (v := 1) dX12_use_59 (by decide) ?_
  refine mm_iadd (pc := 60) dX12_use_60 ?_
  refine mm_topi _ (show M.1 41 + 1 = nI (n + 1) by rw [hs, nI_1]) ?_
  refine mw_put (pc := 61) 41 hW dX12_use_61 (pl_X12_390 _) rfl (fun h61 hW e61 => ?_)
  refine mm_vret (pc := 64) dX12_use_64 rfl ?_
  exact ⟨hW, by rw [e61, e53, e40, e29, e19, e9], rfl⟩

def rm_body (M : mw_S) (i : Nat) (r l f n : Int32) : mw_S := mw_setV (mw_setV (mw_setV (mw_setV (mw_setV M 8 i 1) 9 i r) 10 i l) 11 i f) 12 i n
theorem ok_X12_body {G : mm_G} {L : Nat × Nat} {d : Nat} {h h0 : mm_H} {m : Nat} {ad : Nat → Nat} {M : mw_S} {k q : Nat} {r1 l f n : Int32} (hk : k < 50) (hq : q < 6) (hl : l = 0 ∨ l = 1) (hW : mw_W m ad h0 M h) : mm_Ok G mX12_body L (d) [.ref m, .int (nI k), .int (nI q), .int r1, .int l, .int f, .int n] h (fun r h1 => mw_W m ad h0 (rm_body M (6 * k + q) r1 l f n) h1 ∧ h1.2 = h.2 ∧ r = none) := by
  refine mm_Ok.of [(0, .ref m), (1, .int (nI k)), (2, .int (nI q)), (3, .int r1), (4, .int l), (5, .int f), (6, .int n)] rfl kX12_body.2.2.2.2.2 rfl (fun A => ?_)
  refine mm_bipush (pc := 0) (v := 6) dX12_body_0 (by decide) ?_
  refine mm_iload_n (pc := 2) dX12_body_2 rfl ?_
  refine mm_imul (pc := 3) dX12_body_3 ?_
  refine mm_iload_n (pc := 4) dX12_body_4 rfl ?_
  refine mm_iadd (pc := 5) dX12_body_5 ?_
  refine mm_topi _ (mw_ix k q) ?_
  refine mm_istore (pc := 6) dX12_body_6 rfl (Nat.le_of_ble_eq_true rfl) ?_
  refine mm_aload_n (pc := 8) dX12_body_8 rfl (by first | trivial | assumption | exact mm_isr_rf _) ?_
  refine mw_geta (pc := 9) 8 hW dX12_body_9 fl_X12_32 rfl rfl ?_
  refine mm_iload (pc := 12) dX12_body_12 rfl ?_
  refine mm_iconst (pc := 14) (v := 1) dX12_body_14 (by decide) ?_
  refine mw_zast (pc := 15) 8 _ hW dX12_body_15 rfl rfl (by first | with_reducible rfl | assumption | rfl) (by show _ < 300; omega) (by omega) (by first | exact Or.inl rfl | exact Or.inr rfl | assumption) (fun h15 hW e15 => ?_)
  refine mm_aload_n (pc := 16) dX12_body_16 rfl (by first | trivial | assumption | exact mm_isr_rf _) ?_
  refine mw_geta (pc := 17) 9 hW dX12_body_17 fl_X12_36 rfl rfl ?_
  refine mm_iload (pc := 20) dX12_body_20 rfl ?_
  refine mm_iload_n (pc := 22) dX12_body_22 rfl ?_
  refine mw_iast (pc := 23) 9 _ hW dX12_body_23 rfl rfl (by first | with_reducible rfl | assumption | rfl) (by show _ < 300; omega) (by omega) (fun h23 hW e23 => ?_)
  refine mm_aload_n (pc := 24) dX12_body_24 rfl (by first | trivial | assumption | exact mm_isr_rf _) ?_
  refine mw_geta (pc := 25) 10 hW dX12_body_25 fl_X12_39 rfl rfl ?_
  refine mm_iload (pc := 28) dX12_body_28 rfl ?_
  refine mm_iload (pc := 30) dX12_body_30 rfl ?_
  refine mw_zast (pc := 32) 10 _ hW dX12_body_32 rfl rfl (by first | with_reducible rfl | assumption | rfl) (by show _ < 300; omega) (by omega) (by first | exact Or.inl rfl | exact Or.inr rfl | assumption) (fun h32 hW e32 => ?_)
  refine mm_aload_n (pc := 33) dX12_body_33 rfl (by first | trivial | assumption | exact mm_isr_rf _) ?_
  refine mw_geta (pc := 34) 11 hW dX12_body_34 fl_X12_42 rfl rfl ?_
  refine mm_iload (pc := 37) dX12_body_37 rfl ?_
  refine mm_iload (pc := 39) dX12_body_39 rfl ?_
  refine mw_iast (pc := 41) 11 _ hW dX12_body_41 rfl rfl (by first | with_reducible rfl | assumption | rfl) (by show _ < 300; omega) (by omega) (fun h41 hW e41 => ?_)
  refine mm_aload_n (pc := 42) dX12_body_42 rfl (by first | trivial | assumption | exact mm_isr_rf _) ?_
  refine mw_geta (pc := 43) 12 hW dX12_body_43 fl_X12_45 rfl rfl ?_
  refine mm_iload (pc := 46) dX12_body_46 rfl ?_
  refine mm_iload (pc := 48) dX12_body_48 rfl ?_
  refine mw_iast (pc := 50) 12 _ hW dX12_body_50 rfl rfl (by first | with_reducible rfl | assumption | rfl) (by show _ < 300; omega) (by omega) (fun h50 hW e50 => ?_)
  refine mm_vret (pc := 51) dX12_body_51 rfl ?_
  exact ⟨hW, by rw [e50, e41, e32, e23, e15], rfl⟩

theorem ok_X12_isRoom {G : mm_G} {L : Nat × Nat} {d : Nat} {h h0 : mm_H} {m : Nat} {ad : Nat → Nat} {M : mw_S} {a : Nat} {x y1 : Int64} (ha : a < 20) (hW : mw_W m ad h0 M h) : mm_Ok G mX12_isRoom L (d) [.ref m, .int (nI a), .long x, .long y1] h (fun r h1 => h1 = h ∧ r = some (.int (if 0 < lg_cmp ((M.2.2.1 51 a).toInt64 + x) (M.2.2.1 50 a).toInt64 then 0 else if 0 < lg_cmp ((M.2.2.1 52 a).toInt64 + y1) 100000 then 0 else 1))) := by
  refine mm_Ok.of [(0, .ref m), (1, .int (nI a)), (2, .long x), (4, .long y1)] rfl kX12_isRoom.2.2.2.2.2 rfl (fun A => ?_)
  refine mm_aload_n (pc := 0) dX12_isRoom_0 rfl (by first | trivial | assumption | exact mm_isr_rf _) ?_
  refine mw_geta (pc := 1) 51 hW dX12_isRoom_1 fl_X12_115 rfl rfl ?_
  refine mm_iload_n (pc := 4) dX12_isRoom_4 rfl ?_
  refine mw_iald (pc := 5) 51 _ hW dX12_isRoom_5 rfl rfl (by first | with_reducible rfl | assumption | rfl) (by show _ < 20; omega) (by omega) ?_
  refine mm_i2l (pc := 6) dX12_isRoom_6 ?_
  refine mm_lload_n (pc := 7) dX12_isRoom_7 rfl ?_
  refine mm_ladd (pc := 8) dX12_isRoom_8 ?_
  refine mm_aload_n (pc := 9) dX12_isRoom_9 rfl (by first | trivial | assumption | exact mm_isr_rf _) ?_
  refine mw_geta (pc := 10) 50 hW dX12_isRoom_10 fl_X12_112 rfl rfl ?_
  refine mm_iload_n (pc := 13) dX12_isRoom_13 rfl ?_
  refine mw_iald (pc := 14) 50 _ hW dX12_isRoom_14 rfl rfl (by first | with_reducible rfl | assumption | rfl) (by show _ < 20; omega) (by omega) ?_
  refine mm_i2l (pc := 15) dX12_isRoom_15 ?_
  refine mm_lcmp (pc := 16) dX12_isRoom_16 ?_
  refine mm_if_gt (pc := 17) (tgt := 41) dX12_isRoom_17 (by decide) (fun c17 => ?_) (fun c17 => ?_)
  · refine mm_iconst (pc := 41) (v := 0) dX12_isRoom_41 (by decide) ?_
    refine mm_zret (pc := 42) dX12_isRoom_42 rfl (by first | rfl | decide) ?_
    exact ⟨rfl, by rw [if_pos c17]⟩
  · refine mm_aload_n (pc := 20) dX12_isRoom_20 rfl (by first | trivial | assumption | exact mm_isr_rf _) ?_
    refine mw_geta (pc := 21) 52 hW dX12_isRoom_21 fl_X12_118 rfl rfl ?_
    refine mm_iload_n (pc := 24) dX12_isRoom_24 rfl ?_
    refine mw_iald (pc := 25) 52 _ hW dX12_isRoom_25 rfl rfl (by first | with_reducible rfl | assumption | rfl) (by show _ < 20; omega) (by omega) ?_
    refine mm_i2l (pc := 26) dX12_isRoom_26 ?_
    refine mm_lload (pc := 27) dX12_isRoom_27 rfl ?_
    refine mm_ladd (pc := 29) dX12_isRoom_29 ?_
    refine mm_ldc2 (pc := 30) dX12_isRoom_30 cn_X12_443 ?_
    refine mm_lcmp (pc := 33) dX12_isRoom_33 ?_
    refine mm_if_gt (pc := 34) (tgt := 41) dX12_isRoom_34 (by decide) (fun c34 => ?_) (fun c34 => ?_)
    · refine mm_iconst (pc := 41) (v := 0) dX12_isRoom_41 (by decide) ?_
      refine mm_zret (pc := 42) dX12_isRoom_42 rfl (by first | rfl | decide) ?_
      exact ⟨rfl, by rw [if_neg c17, if_pos c34]⟩
    · refine mm_iconst (pc := 37) (v := 1) dX12_isRoom_37 (by decide) ?_
      refine mm_goto (pc := 38) (tgt := 42) dX12_isRoom_38 (by decide) ?_
      refine mm_zret (pc := 42) dX12_isRoom_42 rfl (by first | rfl | decide) ?_
      exact ⟨rfl, by rw [if_neg c17, if_neg c34]⟩

theorem ok_X12_retire {G : mm_G} {L : Nat × Nat} {d : Nat} {h h0 : mm_H} {m : Nat} {ad : Nat → Nat} {M : mw_S} {i : Nat} {n : Nat} (hs : M.1 19 = nI n) (hn : n ≤ 12) (hi : i < n) (hW : mw_W m ad h0 M h) : mm_Ok G mX12_retire L (d) [.ref m, .int (nI i)] h (fun r h1 => mw_W m ad h0 (mw_setV M 22 i 1) h1 ∧ h1.2 = h.2 ∧ r = some (.int (if M.2.2.1 22 i = 0 then 1 else 0))) := by
  refine mm_Ok.of [(0, .ref m), (1, .int (nI i))] rfl kX12_retire.2.2.2.2.2 rfl (fun A => ?_)
  refine mm_iload_n (pc := 0) dX12_retire_0 rfl ?_
  refine mm_if_lt (pc := 1) (tgt := 12) dX12_retire_1 (by decide) (fun c1 => absurd c1 (nI_pos (by omega))) (fun c1 => ?_)
  refine mm_iload_n (pc := 4) dX12_retire_4 rfl ?_
  refine mm_aload_n (pc := 5) dX12_retire_5 rfl (by first | trivial | assumption | exact mm_isr_rf _) ?_
  refine mw_gets (pc := 6) 19 hW dX12_retire_6 fl_X12_330 rfl rfl ?_
  refine mm_icmp_lt (pc := 9) (tgt := 18) dX12_retire_9 (by decide) (fun c9 => ?_) (fun c9 => absurd (by rw [hs]; exact nI_lt hi (by omega)) c9)
  refine mm_aload_n (pc := 18) dX12_retire_18 rfl (by first | trivial | assumption | exact mm_isr_rf _) ?_
  refine mw_geta (pc := 19) 22 hW dX12_retire_19 fl_X12_69 rfl rfl ?_
  refine mm_iload_n (pc := 22) dX12_retire_22 rfl ?_
  refine mw_zald (pc := 23) 22 _ hW dX12_retire_23 rfl rfl (by first | with_reducible rfl | assumption | rfl) (by show _ < 12; omega) (by omega) ?_
  refine mm_if_eq (pc := 24) (tgt := 31) dX12_retire_24 (by decide) (fun c24 => ?_) (fun c24 => ?_)
  · refine mm_iconst (pc := 31) (v := 1) dX12_retire_31 (by decide) ?_
    refine mm_istore_n (pc := 32) dX12_retire_32 rfl (Nat.le_of_ble_eq_true rfl) ?_
    refine mm_aload_n (pc := 33) dX12_retire_33 rfl (by first | trivial | assumption | exact mm_isr_rf _) ?_
    refine mw_geta (pc := 34) 22 hW dX12_retire_34 fl_X12_69 rfl rfl ?_
    refine mm_iload_n (pc := 37) dX12_retire_37 rfl ?_
    refine mm_iconst (pc := 38) (v := 1) dX12_retire_38 (by decide) ?_
    refine mw_zast (pc := 39) 22 _ hW dX12_retire_39 rfl rfl (by first | with_reducible rfl | assumption | rfl) (by show _ < 12; omega) (by omega) (by first | exact Or.inl rfl | exact Or.inr rfl | assumption) (fun h39 hW e39 => ?_)
    refine mm_iload_n (pc := 40) dX12_retire_40 rfl ?_
    refine mm_iret (pc := 41) dX12_retire_41 rfl ?_
    exact ⟨hW, by rw [e39], by first | rw [if_pos c24] | rw [if_neg c24]⟩
  · refine mm_iconst (pc := 27) (v := 0) dX12_retire_27 (by decide) ?_
    refine mm_goto (pc := 28) (tgt := 32) dX12_retire_28 (by decide) ?_
    refine mm_istore_n (pc := 32) dX12_retire_32 rfl (Nat.le_of_ble_eq_true rfl) ?_
    refine mm_aload_n (pc := 33) dX12_retire_33 rfl (by first | trivial | assumption | exact mm_isr_rf _) ?_
    refine mw_geta (pc := 34) 22 hW dX12_retire_34 fl_X12_69 rfl rfl ?_
    refine mm_iload_n (pc := 37) dX12_retire_37 rfl ?_
    refine mm_iconst (pc := 38) (v := 1) dX12_retire_38 (by decide) ?_
    refine mw_zast (pc := 39) 22 _ hW dX12_retire_39 rfl rfl (by first | with_reducible rfl | assumption | rfl) (by show _ < 12; omega) (by omega) (by first | exact Or.inl rfl | exact Or.inr rfl | assumption) (fun h39 hW e39 => ?_)
    refine mm_iload_n (pc := 40) dX12_retire_40 rfl ?_
    refine mm_iret (pc := 41) dX12_retire_41 rfl ?_
    exact ⟨hW, by rw [e39], by first | rw [if_pos c24] | rw [if_neg c24]⟩

theorem ok_X12_retireB {G : mm_G} {L : Nat × Nat} {d : Nat} {h h0 : mm_H} {m : Nat} {ad : Nat → Nat} {M : mw_S} {x : Int32} {n : Nat} (hs : M.1 19 = nI n) (hx : x < 0 ∨ ¬ x < nI n) (hW : mw_W m ad h0 M h) : mm_Ok G mX12_retire L (d + 1) [.ref m, .int x] h (fun r h1 => mw_W m ad h0 (rm_ans M 1) h1 ∧ h1.2 = h.2 ∧ r = some (.int (-1))) := by
  refine mm_Ok.of [(0, .ref m), (1, .int x)] rfl kX12_retire.2.2.2.2.2 rfl (fun A => ?_)
  refine mm_iload_n (pc := 0) dX12_retire_0 rfl ?_
  refine mm_if_lt (pc := 1) (tgt := 12) dX12_retire_1 (by decide) (fun c1 => ?_) (fun c1 => ?_)
  · refine mm_aload_n (pc := 12) dX12_retire_12 rfl (by first | trivial | assumption | exact mm_isr_rf _) ?_
    refine mm_iconst (pc := 13) (v := (-1)) dX12_retire_13 (by decide) ?_
    refine mm_callV (pc := 14) (As := [_]) (kd := ?kd_14_4) (fs := ?fs_14_4) dX12_retire_14 vl_X12_189 (ok_X12_answer (x := -1) (c := 1) (by decide) (by decide) (by decide) hW) ?hc_14_4 ?hk_14_4 rfl rfl (Nat.le_of_ble_eq_true rfl) ?_; (case hc_14_4 => exact hW.1); (case hk_14_4 => rfl)
    rintro _ h_ ⟨hW, e_, rfl⟩
    refine mm_iret (pc := 17) dX12_retire_17 rfl ?_
    exact ⟨hW, e_, rfl⟩
  · refine mm_iload_n (pc := 4) dX12_retire_4 rfl ?_
    refine mm_aload_n (pc := 5) dX12_retire_5 rfl (by first | trivial | assumption | exact mm_isr_rf _) ?_
    refine mw_gets (pc := 6) 19 hW dX12_retire_6 fl_X12_330 rfl rfl ?_
    refine mm_icmp_lt (pc := 9) (tgt := 18) dX12_retire_9 (by decide) (fun c9 => absurd c9 (by rw [hs]; exact hx.resolve_left c1)) (fun c9 => ?_)
    refine mm_aload_n (pc := 12) dX12_retire_12 rfl (by first | trivial | assumption | exact mm_isr_rf _) ?_
    refine mm_iconst (pc := 13) (v := (-1)) dX12_retire_13 (by decide) ?_
    refine mm_callV (pc := 14) (As := [_]) (kd := ?kd_14_5) (fs := ?fs_14_5) dX12_retire_14 vl_X12_189 (ok_X12_answer (x := -1) (c := 1) (by decide) (by decide) (by decide) hW) ?hc_14_5 ?hk_14_5 rfl rfl (Nat.le_of_ble_eq_true rfl) ?_; (case hc_14_5 => exact hW.1); (case hk_14_5 => rfl)
    rintro _ h_ ⟨hW, e_, rfl⟩
    refine mm_iret (pc := 17) dX12_retire_17 rfl ?_
    exact ⟨hW, e_, rfl⟩

