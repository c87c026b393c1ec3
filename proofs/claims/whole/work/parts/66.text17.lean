/-! feed of the reference -/
/-- byte k of a long, as an int -/
def fdB (w : Int64) (k : Nat) : Int32 := (w >>> (((8 : Int32) * nI k).toInt64 &&& 63)).toInt32.toInt8.toInt32
def fdM (M : mw_S) (w : Int64) (n : Nat) : Nat → mw_S
  | 0 => M
  | k + 1 => mw_setS (mw_setV (fdM M w n k) 0 (n + k) (fdB w k)) 1 (nI (n + k + 1))
theorem fdM_1 (M : mw_S) (w : Int64) (n : Nat) : ∀ k, M.1 1 = nI n → (fdM M w n k).1 1 = nI (n + k) := by
  intro k h
  cases k with
  | zero => exact h
  | succ k => rfl
theorem i8n (x : Int32) : narrow .byte (.int x.toInt8.toInt32) = .int x.toInt8.toInt32 := by
  show Value.int _ = _
  simp

theorem ok_feed {G : mm_G} {L : Nat × Nat} {d : Nat} {h h0 : mm_H} {m : Nat} {ad : Nat → Nat} {M : mw_S} {w : Int64} {n k_ : Nat} (hs : M.1 1 = nI n) (hk1 : 1 ≤ k_) (hk8 : k_ ≤ 8) (hk : n + k_ ≤ 800) (hW : mw_W m ad h0 M h) : mm_Ok G mX12_feed L (d + 1) [.ref m, .long w, .int (nI k_)] h (fun r h1 => mw_W m ad h0 (fdM M w n k_) h1 ∧ h1.2 = h.2 ∧ r = some (.int (nI (n + k_)))) := by
  refine mm_Ok.of [(0, .ref m), (1, .long w), (3, .int (nI k_))] rfl kX12_feed.2.2.2.2.2 rfl (fun A => ?_)
  have lp_ : ∀ (v i : Nat), i + v = k_ → ∀ h1 : mm_H, mw_W m ad h0 (fdM M w n i) h1 → h1.2 = h.2 → mm_Run G mX12_feed A L (d + 1) 48 [(4, .int (nI i)), (0, .ref m), (1, .long w), (3, .int (nI k_))] [] h1 (fun r h1 => mw_W m ad h0 (fdM M w n k_) h1 ∧ h1.2 = h.2 ∧ r = some (.int (nI (n + k_)))) := by
    intro v
    induction v with
    | zero =>
      intro i hi h1 hW eh
      refine mm_iload (pc := 48) dX12_feed_48 rfl ?_
      refine mm_iload_n (pc := 50) dX12_feed_50 rfl ?_
      refine mm_icmp_ge (pc := 51) (tgt := 88) dX12_feed_51 (by decide) (fun c51 => ?_) (fun c51 => absurd (by rw [show i = k_ by omega]; exact Int32.le_refl _) c51)
      refine mm_aload_n (pc := 88) dX12_feed_88 rfl (by first | trivial | assumption | exact mm_isr_rf _) ?_
      refine mw_gets (pc := 89) 1 hW dX12_feed_89 fl_X12_186 rfl rfl ?_
      refine mm_iret (pc := 92) dX12_feed_92 rfl ?_
      exact ⟨by rw [show k_ = i by omega]; exact hW, eh, by rw [fdM_1 M w n i hs, show k_ = i by omega]⟩
    | succ v ih =>
      intro i hi h1 hW eh
      refine mm_iload (pc := 48) dX12_feed_48 rfl ?_
      refine mm_iload_n (pc := 50) dX12_feed_50 rfl ?_
      refine mm_icmp_ge (pc := 51) (tgt := 88) dX12_feed_51 (by decide) (fun c51 => absurd c51 (nI_ge (by omega) (by omega))) (fun c51 => ?_)
      refine mm_aload_n (pc := 54) dX12_feed_54 rfl (by first | trivial | assumption | exact mm_isr_rf _) ?_
      refine mw_geta (pc := 55) 0 hW dX12_feed_55 fl_X12_9 rfl rfl ?_
      refine mm_aload_n (pc := 58) dX12_feed_58 rfl (by first | trivial | assumption | exact mm_isr_rf _) ?_
      refine mw_gets (pc := 59) 1 hW dX12_feed_59 fl_X12_186 rfl rfl ?_
      refine mm_lload_n (pc := 62) dX12_feed_62 rfl ?_
      refine mm_bipush (pc := 63) (v := 8) dX12_feed_63 (by decide) ?_
      refine mm_iload (pc := 65) dX12_feed_65 rfl ?_
      refine mm_imul (pc := 67) dX12_feed_67 ?_
      refine mm_lshr (pc := 68) dX12_feed_68 ?_
      refine mm_l2i (pc := 69) dX12_feed_69 ?_
      refine mm_i2b (pc := 70) dX12_feed_70 ?_
      refine mw_bast (pc := 71) 0 (n + i) hW dX12_feed_71 rfl rfl (fdM_1 M w n i hs) (by show _ < 800; omega) (by omega) (i8n _) (fun h71 hW e71 => ?_)
      refine mm_aload_n (pc := 72) dX12_feed_72 rfl (by first | trivial | assumption | exact mm_isr_rf _) ?_
      refine mm_dup (pc := 73) dX12_feed_73 rfl ?_
      refine mw_gets (pc := 74) 1 hW dX12_feed_74 fl_X12_186 rfl rfl ?_
      refine mm_iconst (pc := 77) (v := 1) dX12_feed_77 (by decide) ?_
      refine mm_iadd (pc := 78) dX12_feed_78 ?_
      refine mw_put (pc := 79) 1 hW dX12_feed_79 (pl_X12_186 _) rfl (fun h79 hW e79 => ?_)
      refine mm_iinc (pc := 82) dX12_feed_82 rfl rfl rfl (Nat.le_of_ble_eq_true rfl) ?_
      refine mm_goto (pc := 85) (tgt := 48) dX12_feed_85 (by decide) ?_
      have hW : mw_W m ad h0 (fdM M w n (i + 1)) h79 := by
        have e_ : (fdM M w n i).1 1 + 1 = nI (n + i + 1) := by rw [fdM_1 M w n i hs, nI_1]
        show mw_W m ad h0 (mw_setS (mw_setV (fdM M w n i) 0 (n + i) (fdB w i)) 1 (nI (n + i + 1))) h79
        rw [← e_]
        exact hW
      exact mm_weakK (ih (i + 1) (by omega) h79 hW (by rw [e79, e71, eh])) (And.intro (by rw [← nI_1]; rfl) (And.intro rfl (And.intro rfl (And.intro rfl trivial))))
  refine mm_iload_n (pc := 0) dX12_feed_0 rfl ?_
  refine mm_iconst (pc := 1) (v := 1) dX12_feed_1 (by decide) ?_
  refine mm_icmp_lt (pc := 2) (tgt := 23) dX12_feed_2 (by decide) (fun c2 => absurd c2 (nI_nlt (b := 1) hk1 (by omega))) (fun c2 => ?_)
  refine mm_iload_n (pc := 5) dX12_feed_5 rfl ?_
  refine mm_bipush (pc := 6) (v := 8) dX12_feed_6 (by decide) ?_
  refine mm_icmp_gt (pc := 8) (tgt := 23) dX12_feed_8 (by decide) (fun c8 => absurd c8 (show ¬ nI 8 < nI k_ from nI_nlt (by omega) (by decide))) (fun c8 => ?_)
  refine mm_aload_n (pc := 11) dX12_feed_11 rfl (by first | trivial | assumption | exact mm_isr_rf _) ?_
  refine mw_gets (pc := 12) 1 hW dX12_feed_12 fl_X12_186 rfl rfl ?_
  refine mm_iload_n (pc := 15) dX12_feed_15 rfl ?_
  refine mm_iadd (pc := 16) dX12_feed_16 ?_
  refine mm_sipush (pc := 17) (v := 800) dX12_feed_17 (by decide) ?_
  refine mm_icmp_le (pc := 20) (tgt := 45) dX12_feed_20 (by decide) (fun c20 => ?_) (fun c20 => absurd (show M.1 1 + nI k_ ≤ 800 by rw [hs, nI_add]; exact nI_le (b := 800) hk (by decide)) c20)
  refine mm_iconst (pc := 45) (v := 0) dX12_feed_45 (by decide) ?_
  refine mm_istore (pc := 46) dX12_feed_46 rfl (Nat.le_of_ble_eq_true rfl) ?_
  exact mm_weakK (lp_ k_ 0 (by omega) h hW rfl) (And.intro rfl (And.intro rfl (And.intro rfl (And.intro rfl trivial))))

theorem ok_feedB {G : mm_G} {L : Nat × Nat} {d : Nat} {h h0 : mm_H} {m : Nat} {ad : Nat → Nat} {M : mw_S} {w : Int64} {x_ : Int32} (hx : x_ < 1) (hW : mw_W m ad h0 M h) : mm_Ok G mX12_feed L (d + 1) [.ref m, .long w, .int x_] h (fun r h1 => mw_W m ad h0 (rm_ans M 1) h1 ∧ h1.2 = h.2 ∧ r = some (.int (-1))) := by
  refine mm_Ok.of [(0, .ref m), (1, .long w), (3, .int x_)] rfl kX12_feed.2.2.2.2.2 rfl (fun A => ?_)
  refine mm_iload_n (pc := 0) dX12_feed_0 rfl ?_
  refine mm_iconst (pc := 1) (v := 1) dX12_feed_1 (by decide) ?_
  refine mm_icmp_lt (pc := 2) (tgt := 23) dX12_feed_2 (by decide) (fun c2 => ?_) (fun c2 => absurd hx c2)
  refine mm_aload_n (pc := 23) dX12_feed_23 rfl (by first | trivial | assumption | exact mm_isr_rf _) ?_
  refine mm_iload_n (pc := 24) dX12_feed_24 rfl ?_
  refine mm_iconst (pc := 25) (v := 1) dX12_feed_25 (by decide) ?_
  refine mm_icmp_lt (pc := 26) (tgt := 35) dX12_feed_26 (by decide) (fun c26 => ?_) (fun c26 => absurd hx c26)
  refine mm_iconst (pc := 35) (v := (-1)) dX12_feed_35 (by decide) ?_
  refine mm_goto (pc := 36) (tgt := 41) dX12_feed_36 (by decide) ?_
  refine mm_callV (pc := 41) (As := [_]) (kd := ?kd_41_1) (fs := ?fs_41_1) dX12_feed_41 vl_X12_189 (ok_X12_answer (x := -1) (c := 1) (by decide) (by decide) (by decide) hW) ?hc_41_1 ?hk_41_1 rfl rfl (Nat.le_of_ble_eq_true rfl) ?_; (case hc_41_1 => exact hW.1); (case hk_41_1 => rfl)
  rintro _ h_ ⟨hW, e_, rfl⟩
  refine mm_iret (pc := 44) dX12_feed_44 rfl ?_
  exact ⟨hW, e_, rfl⟩

theorem ok_feedC {G : mm_G} {L : Nat × Nat} {d : Nat} {h h0 : mm_H} {m : Nat} {ad : Nat → Nat} {M : mw_S} {w : Int64} {x_ : Int32} (hx : ¬ x_ < 1) (hx8 : (8 : Int32) < x_) (hW : mw_W m ad h0 M h) : mm_Ok G mX12_feed L (d + 1) [.ref m, .long w, .int x_] h (fun r h1 => mw_W m ad h0 (rm_ans M 1) h1 ∧ h1.2 = h.2 ∧ r = some (.int (-1))) := by
  refine mm_Ok.of [(0, .ref m), (1, .long w), (3, .int x_)] rfl kX12_feed.2.2.2.2.2 rfl (fun A => ?_)
  refine mm_iload_n (pc := 0) dX12_feed_0 rfl ?_
  refine mm_iconst (pc := 1) (v := 1) dX12_feed_1 (by decide) ?_
  refine mm_icmp_lt (pc := 2) (tgt := 23) dX12_feed_2 (by decide) (fun c2 => absurd c2 hx) (fun c2 => ?_)
  refine mm_iload_n (pc := 5) dX12_feed_5 rfl ?_
  refine mm_bipush (pc := 6) (v := 8) dX12_feed_6 (by decide) ?_
  refine mm_icmp_gt (pc := 8) (tgt := 23) dX12_feed_8 (by decide) (fun c8 => ?_) (fun c8 => absurd hx8 c8)
  refine mm_aload_n (pc := 23) dX12_feed_23 rfl (by first | trivial | assumption | exact mm_isr_rf _) ?_
  refine mm_iload_n (pc := 24) dX12_feed_24 rfl ?_
  refine mm_iconst (pc := 25) (v := 1) dX12_feed_25 (by decide) ?_
  refine mm_icmp_lt (pc := 26) (tgt := 35) dX12_feed_26 (by decide) (fun c26 => absurd c26 hx) (fun c26 => ?_)
  refine mm_iload_n (pc := 29) dX12_feed_29 rfl ?_
  refine mm_bipush (pc := 30) (v := 8) dX12_feed_30 (by decide) ?_
  refine mm_icmp_le (pc := 32) (tgt := 39) dX12_feed_32 (by decide) (fun c32 => absurd c32 (Int32.not_le.mpr hx8)) (fun c32 => ?_)
  refine mm_iconst (pc := 35) (v := (-1)) dX12_feed_35 (by decide) ?_
  refine mm_goto (pc := 36) (tgt := 41) dX12_feed_36 (by decide) ?_
  refine mm_callV (pc := 41) (As := [_]) (kd := ?kd_41_2) (fs := ?fs_41_2) dX12_feed_41 vl_X12_189 (ok_X12_answer (x := -1) (c := 1) (by decide) (by decide) (by decide) hW) ?hc_41_2 ?hk_41_2 rfl rfl (Nat.le_of_ble_eq_true rfl) ?_; (case hc_41_2 => exact hW.1); (case hk_41_2 => rfl)
  rintro _ h_ ⟨hW, e_, rfl⟩
  refine mm_iret (pc := 44) dX12_feed_44 rfl ?_
  exact ⟨hW, e_, rfl⟩

theorem ok_feedF {G : mm_G} {L : Nat × Nat} {d : Nat} {h h0 : mm_H} {m : Nat} {ad : Nat → Nat} {M : mw_S} {w : Int64} {n k_ : Nat} (hs : M.1 1 = nI n) (hn : n ≤ 800) (hk1 : 1 ≤ k_) (hk8 : k_ ≤ 8) (hk : 800 < n + k_) (hW : mw_W m ad h0 M h) : mm_Ok G mX12_feed L (d + 1) [.ref m, .long w, .int (nI k_)] h (fun r h1 => mw_W m ad h0 (rm_ans M 3) h1 ∧ h1.2 = h.2 ∧ r = some (.int (-3))) := by
  refine mm_Ok.of [(0, .ref m), (1, .long w), (3, .int (nI k_))] rfl kX12_feed.2.2.2.2.2 rfl (fun A => ?_)
  refine mm_iload_n (pc := 0) dX12_feed_0 rfl ?_
  refine mm_iconst (pc := 1) (v := 1) dX12_feed_1 (by decide) ?_
  refine mm_icmp_lt (pc := 2) (tgt := 23) dX12_feed_2 (by decide) (fun c2 => absurd c2 (nI_nlt (b := 1) hk1 (by omega))) (fun c2 => ?_)
  refine mm_iload_n (pc := 5) dX12_feed_5 rfl ?_
  refine mm_bipush (pc := 6) (v := 8) dX12_feed_6 (by decide) ?_
  refine mm_icmp_gt (pc := 8) (tgt := 23) dX12_feed_8 (by decide) (fun c8 => absurd c8 (show ¬ nI 8 < nI k_ from nI_nlt (by omega) (by decide))) (fun c8 => ?_)
  refine mm_aload_n (pc := 11) dX12_feed_11 rfl (by first | trivial | assumption | exact mm_isr_rf _) ?_
  refine mw_gets (pc := 12) 1 hW dX12_feed_12 fl_X12_186 rfl rfl ?_
  refine mm_iload_n (pc := 15) dX12_feed_15 rfl ?_
  refine mm_iadd (pc := 16) dX12_feed_16 ?_
  refine mm_sipush (pc := 17) (v := 800) dX12_feed_17 (by decide) ?_
  refine mm_icmp_le (pc := 20) (tgt := 45) dX12_feed_20 (by decide) (fun c20 => absurd c20 (show ¬ M.1 1 + nI k_ ≤ 800 by rw [hs, nI_add]; exact Int32.not_le.mpr (nI_lt (a := 800) hk (by omega)))) (fun c20 => ?_)
  refine mm_aload_n (pc := 23) dX12_feed_23 rfl (by first | trivial | assumption | exact mm_isr_rf _) ?_
  refine mm_iload_n (pc := 24) dX12_feed_24 rfl ?_
  refine mm_iconst (pc := 25) (v := 1) dX12_feed_25 (by decide) ?_
  refine mm_icmp_lt (pc := 26) (tgt := 35) dX12_feed_26 (by decide) (fun c26 => absurd c26 (nI_nlt (b := 1) hk1 (by omega))) (fun c26 => ?_)
  refine mm_iload_n (pc := 29) dX12_feed_29 rfl ?_
  refine mm_bipush (pc := 30) (v := 8) dX12_feed_30 (by decide) ?_
  refine mm_icmp_le (pc := 32) (tgt := 39) dX12_feed_32 (by decide) (fun c32 => ?_) (fun c32 => absurd (show nI k_ ≤ nI 8 from nI_le (by omega) (by decide)) c32)
  refine mm_bipush (pc := 39) (v := (-3)) dX12_feed_39 (by decide) ?_
  refine mm_callV (pc := 41) (As := [_]) (kd := ?kd_41_3) (fs := ?fs_41_3) dX12_feed_41 vl_X12_189 (ok_X12_answer (x := -3) (c := 3) (by decide) (by decide) (by decide) hW) ?hc_41_3 ?hk_41_3 rfl rfl (Nat.le_of_ble_eq_true rfl) ?_; (case hc_41_3 => exact hW.1); (case hk_41_3 => rfl)
  rintro _ h_ ⟨hW, e_, rfl⟩
  refine mm_iret (pc := 44) dX12_feed_44 rfl ?_
  exact ⟨hW, e_, rfl⟩

