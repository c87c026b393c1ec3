def sp_rank (x : Int32) : Int32 := if x = 5 then 4 else if x = 4 then 5 else x
def rm_faulty (M : mw_S) (f p : Int32) : mw_S := if M.1 31 = 0 then mw_setS (mw_setS M 31 f) 32 p else if p < M.1 32 then mw_setS (mw_setS M 31 f) 32 p else if p = M.1 32 then (if sp_rank (M.1 31) ≤ sp_rank f then M else mw_setS (mw_setS M 31 f) 32 p) else M

theorem ok_X12_faulty {G : mm_G} {L : Nat × Nat} {d : Nat} {h h0 : mm_H} {m : Nat} {ad : Nat → Nat} {M : mw_S} {f p : Int32} (hW : mw_W m ad h0 M h) : mm_Ok G mX12_faulty L (d + 1) [.ref m, .int f, .int p] h (fun r h1 => mw_W m ad h0 (rm_faulty M f p) h1 ∧ h1.2 = h.2 ∧ r = none) := by
  refine mm_Ok.of [(0, .ref m), (1, .int f), (2, .int p)] rfl kX12_faulty.2.2.2.2.2 rfl (fun A => ?_)
  refine mm_aload_n (pc := 0) dX12_faulty_0 rfl (by first | trivial | assumption | exact mm_isr_rf _) ?_
  refine mw_gets (pc := 1) 31 hW dX12_faulty_1 fl_X12_287 rfl rfl ?_
  refine mm_if_eq (pc := 4) (tgt := 37) dX12_faulty_4 (by decide) (fun c4 => ?_) (fun c4 => ?_)
  · refine mm_aload_n (pc := 37) dX12_faulty_37 rfl (by first | trivial | assumption | exact mm_isr_rf _) ?_
    refine mm_iload_n (pc := 38) dX12_faulty_38 rfl ?_
    refine mw_put (pc := 39) 31 hW dX12_faulty_39 (pl_X12_287 _) rfl (fun h39 hW e39 => ?_)
    refine mm_aload_n (pc := 42) dX12_faulty_42 rfl (by first | trivial | assumption | exact mm_isr_rf _) ?_
    refine mm_iload_n (pc := 43) dX12_faulty_43 rfl ?_
    refine mw_put (pc := 44) 32 hW dX12_faulty_44 (pl_X12_290 _) rfl (fun h44 hW e44 => ?_)
    refine mm_vret (pc := 47) dX12_faulty_47 rfl ?_
    unfold rm_faulty sp_rank
    rw [if_pos c4]
    exact ⟨hW, by rw [e44, e39], rfl⟩
  · refine mm_iload_n (pc := 7) dX12_faulty_7 rfl ?_
    refine mm_aload_n (pc := 8) dX12_faulty_8 rfl (by first | trivial | assumption | exact mm_isr_rf _) ?_
    refine mw_gets (pc := 9) 32 hW dX12_faulty_9 fl_X12_290 rfl rfl ?_
    refine mm_icmp_lt (pc := 12) (tgt := 37) dX12_faulty_12 (by decide) (fun c12 => ?_) (fun c12 => ?_)
    · refine mm_aload_n (pc := 37) dX12_faulty_37 rfl (by first | trivial | assumption | exact mm_isr_rf _) ?_
      refine mm_iload_n (pc := 38) dX12_faulty_38 rfl ?_
      refine mw_put (pc := 39) 31 hW dX12_faulty_39 (pl_X12_287 _) rfl (fun h39 hW e39 => ?_)
      refine mm_aload_n (pc := 42) dX12_faulty_42 rfl (by first | trivial | assumption | exact mm_isr_rf _) ?_
      refine mm_iload_n (pc := 43) dX12_faulty_43 rfl ?_
      refine mw_put (pc := 44) 32 hW dX12_faulty_44 (pl_X12_290 _) rfl (fun h44 hW e44 => ?_)
      refine mm_vret (pc := 47) dX12_faulty_47 rfl ?_
      unfold rm_faulty sp_rank
      rw [if_neg c4, if_pos c12]
      exact ⟨hW, by rw [e44, e39], rfl⟩
    · refine mm_iload_n (pc := 15) dX12_faulty_15 rfl ?_
      refine mm_aload_n (pc := 16) dX12_faulty_16 rfl (by first | trivial | assumption | exact mm_isr_rf _) ?_
      refine mw_gets (pc := 17) 32 hW dX12_faulty_17 fl_X12_290 rfl rfl ?_
      refine mm_icmp_ne (pc := 20) (tgt := 47) dX12_faulty_20 (by decide) (fun c20 => ?_) (fun c20 => ?_)
      · refine mm_vret (pc := 47) dX12_faulty_47 rfl ?_
        unfold rm_faulty sp_rank
        rw [if_neg c4, if_neg c12, if_neg c20]
        exact ⟨hW, rfl, rfl⟩
      · refine mm_iload_n (pc := 23) dX12_faulty_23 rfl ?_
        refine mm_callS (pc := 24) (As := [_]) dX12_faulty_24 sl_X12_293 (ok_X12_rank) rfl rfl (Nat.le_of_ble_eq_true rfl) ?_
        rintro _ _ ⟨rfl, rfl⟩
        refine mm_aload_n (pc := 27) dX12_faulty_27 rfl (by first | trivial | assumption | exact mm_isr_rf _) ?_
        refine mw_gets (pc := 28) 31 hW dX12_faulty_28 fl_X12_287 rfl rfl ?_
        refine mm_callS (pc := 31) (As := [_]) dX12_faulty_31 sl_X12_293 (ok_X12_rank) rfl rfl (Nat.le_of_ble_eq_true rfl) ?_
        rintro _ _ ⟨rfl, rfl⟩
        refine mm_icmp_ge (pc := 34) (tgt := 47) dX12_faulty_34 (by decide) (fun c34 => ?_) (fun c34 => ?_)
        · refine mm_vret (pc := 47) dX12_faulty_47 rfl ?_
          unfold rm_faulty sp_rank
          rw [if_neg c4, if_neg c12, if_pos c20, if_pos c34]
          exact ⟨hW, rfl, rfl⟩
        · refine mm_aload_n (pc := 37) dX12_faulty_37 rfl (by first | trivial | assumption | exact mm_isr_rf _) ?_
          refine mm_iload_n (pc := 38) dX12_faulty_38 rfl ?_
          refine mw_put (pc := 39) 31 hW dX12_faulty_39 (pl_X12_287 _) rfl (fun h39 hW e39 => ?_)
          refine mm_aload_n (pc := 42) dX12_faulty_42 rfl (by first | trivial | assumption | exact mm_isr_rf _) ?_
          refine mm_iload_n (pc := 43) dX12_faulty_43 rfl ?_
          refine mw_put (pc := 44) 32 hW dX12_faulty_44 (pl_X12_290 _) rfl (fun h44 hW e44 => ?_)
          refine mm_vret (pc := 47) dX12_faulty_47 rfl ?_
          unfold rm_faulty sp_rank
          rw [if_neg c4, if_neg c12, if_pos c20, if_neg c34]
          exact ⟨hW, by rw [e44, e39], rfl⟩

def sp_sumTo (f : Nat → Int32) : Nat → Int64
  | 0 => 0
  | n + 1 => sp_sumTo f n + (f n).toInt64
def sp_all (M : mw_S) (na : Nat) (w : Int32) : Int64 × Nat := if w < 0 then (-1, 1) else if w ≤ 6 then (if w = 0 then (sp_sumTo (M.2.2.1 51) na, 0) else if w = 4 then (sp_sumTo (M.2.2.1 52) na, 0) else if 4 ≤ w then (M.2.2.2.1 53 (w - 2).toNatClampNeg, 0) else (M.2.2.2.1 53 (w - 1).toNatClampNeg, 0)) else (-1, 1)

theorem ok_X12_all {G : mm_G} {L : Nat × Nat} {d : Nat} {h h0 : mm_H} {m : Nat} {ad : Nat → Nat} {M : mw_S} {w : Int32} {na : Nat} (hs : M.1 48 = nI na) (hn : na ≤ 20) (hW : mw_W m ad h0 M h) : mm_Ok G mX12_all L (d + 1) [.ref m, .int w] h (fun r h1 => mw_W m ad h0 (rm_ans M (sp_all M na w).2) h1 ∧ h1.2 = h.2 ∧ r = some (.long (sp_all M na w).1)) := by
  refine mm_Ok.of [(0, .ref m), (1, .int w)] rfl kX12_all.2.2.2.2.2 rfl (fun A => ?_)
  have lpA_ : ¬ w < 0 → w ≤ 6 → w = 0 → ∀ (v t : Nat), t + v = na → mm_Run G mX12_all A L (d + 1) 22 [(4, .int (nI t)), (2, .long (sp_sumTo (M.2.2.1 51) t)), (0, .ref m), (1, .int w)] [] h (fun r h1 => mw_W m ad h0 (rm_ans M (sp_all M na w).2) h1 ∧ h1.2 = h.2 ∧ r = some (.long (sp_all M na w).1)) := by
    intro c1 c7 hw v
    induction v with
    | zero =>
      intro t ht
      obtain rfl : t = na := by omega
      refine mm_iload (pc := 22) dX12_all_22 rfl ?_
      refine mm_aload_n (pc := 24) dX12_all_24 rfl (by first | trivial | assumption | exact mm_isr_rf _) ?_
      refine mw_gets (pc := 25) 48 hW dX12_all_25 fl_X12_437 rfl rfl ?_
      refine mm_icmp_ge (pc := 28) (tgt := 72) dX12_all_28 (by decide) (fun c28 => ?_) (fun c28 => absurd (by rw [hs]; exact Int32.le_refl _) c28)
      refine mm_iload_n (pc := 72) dX12_all_72 rfl ?_
      refine mm_if_eq (pc := 73) (tgt := 81) dX12_all_73 (by decide) (fun c73 => ?_) (fun c73 => absurd hw c73)
      refine mm_lload_n (pc := 81) dX12_all_81 rfl ?_
      refine mm_goto (pc := 82) (tgt := 109) dX12_all_82 (by decide) ?_
      refine mm_lret (pc := 109) dX12_all_109 rfl ?_
      unfold sp_all
      rw [if_neg c1, if_pos c7, if_pos hw]
      exact ⟨hW, rfl, rfl⟩
    | succ v ih =>
      intro t ht
      refine mm_iload (pc := 22) dX12_all_22 rfl ?_
      refine mm_aload_n (pc := 24) dX12_all_24 rfl (by first | trivial | assumption | exact mm_isr_rf _) ?_
      refine mw_gets (pc := 25) 48 hW dX12_all_25 fl_X12_437 rfl rfl ?_
      refine mm_icmp_ge (pc := 28) (tgt := 72) dX12_all_28 (by decide) (fun c28 => absurd c28 (by rw [hs]; exact nI_ge (by omega) (by omega))) (fun c28 => ?_)
      refine mm_iload_n (pc := 31) dX12_all_31 rfl ?_
      refine mm_if_eq (pc := 32) (tgt := 40) dX12_all_32 (by decide) (fun c32 => ?_) (fun c32 => absurd hw c32)
      refine mm_lload_n (pc := 40) dX12_all_40 rfl ?_
      refine mm_iload_n (pc := 41) dX12_all_41 rfl ?_
      refine mm_if_ne (pc := 42) (tgt := 56) dX12_all_42 (by decide) (fun c42 => absurd hw c42) (fun c42 => ?_)
      refine mm_aload_n (pc := 45) dX12_all_45 rfl (by first | trivial | assumption | exact mm_isr_rf _) ?_
      refine mw_geta (pc := 46) 51 hW dX12_all_46 fl_X12_115 rfl rfl ?_
      refine mm_iload (pc := 49) dX12_all_49 rfl ?_
      refine mw_iald (pc := 51) 51 t hW dX12_all_51 rfl rfl (by first | with_reducible rfl | assumption | rfl) (by show _ < 20; omega) (by omega) ?_
      refine mm_i2l (pc := 52) dX12_all_52 ?_
      refine mm_goto (pc := 53) (tgt := 64) dX12_all_53 (by decide) ?_
      refine mm_ladd (pc := 64) dX12_all_64 ?_
      refine mm_lstore_n (pc := 65) dX12_all_65 rfl rfl (Nat.le_of_ble_eq_true rfl) ?_
      refine mm_iinc (pc := 66) dX12_all_66 rfl rfl rfl (Nat.le_of_ble_eq_true rfl) ?_
      refine mm_goto (pc := 69) (tgt := 22) dX12_all_69 (by decide) ?_
      exact mm_weakK (ih (t + 1) (by omega)) (And.intro (by rw [← nI_1]; rfl) (And.intro rfl (And.intro rfl (And.intro rfl trivial))))
  have lpB_ : ¬ w < 0 → w ≤ 6 → ¬ w = 0 → w = 4 → ∀ (v t : Nat), t + v = na → mm_Run G mX12_all A L (d + 1) 22 [(4, .int (nI t)), (2, .long (sp_sumTo (M.2.2.1 52) t)), (0, .ref m), (1, .int w)] [] h (fun r h1 => mw_W m ad h0 (rm_ans M (sp_all M na w).2) h1 ∧ h1.2 = h.2 ∧ r = some (.long (sp_all M na w).1)) := by
    intro c1 c7 hw0 hw v
    induction v with
    | zero =>
      intro t ht
      obtain rfl : t = na := by omega
      refine mm_iload (pc := 22) dX12_all_22 rfl ?_
      refine mm_aload_n (pc := 24) dX12_all_24 rfl (by first | trivial | assumption | exact mm_isr_rf _) ?_
      refine mw_gets (pc := 25) 48 hW dX12_all_25 fl_X12_437 rfl rfl ?_
      refine mm_icmp_ge (pc := 28) (tgt := 72) dX12_all_28 (by decide) (fun c28 => ?_) (fun c28 => absurd (by rw [hs]; exact Int32.le_refl _) c28)
      refine mm_iload_n (pc := 72) dX12_all_72 rfl ?_
      refine mm_if_eq (pc := 73) (tgt := 81) dX12_all_73 (by decide) (fun c73 => absurd c73 hw0) (fun c73 => ?_)
      refine mm_iload_n (pc := 76) dX12_all_76 rfl ?_
      refine mm_iconst (pc := 77) (v := 4) dX12_all_77 (by decide) ?_
      refine mm_icmp_ne (pc := 78) (tgt := 85) dX12_all_78 (by decide) (fun c78 => absurd hw c78) (fun c78 => ?_)
      refine mm_lload_n (pc := 81) dX12_all_81 rfl ?_
      refine mm_goto (pc := 82) (tgt := 109) dX12_all_82 (by decide) ?_
      refine mm_lret (pc := 109) dX12_all_109 rfl ?_
      unfold sp_all
      rw [if_neg c1, if_pos c7, if_neg hw0, if_pos hw]
      exact ⟨hW, rfl, rfl⟩
    | succ v ih =>
      intro t ht
      refine mm_iload (pc := 22) dX12_all_22 rfl ?_
      refine mm_aload_n (pc := 24) dX12_all_24 rfl (by first | trivial | assumption | exact mm_isr_rf _) ?_
      refine mw_gets (pc := 25) 48 hW dX12_all_25 fl_X12_437 rfl rfl ?_
      refine mm_icmp_ge (pc := 28) (tgt := 72) dX12_all_28 (by decide) (fun c28 => absurd c28 (by rw [hs]; exact nI_ge (by omega) (by omega))) (fun c28 => ?_)
      refine mm_iload_n (pc := 31) dX12_all_31 rfl ?_
      refine mm_if_eq (pc := 32) (tgt := 40) dX12_all_32 (by decide) (fun c32 => absurd c32 hw0) (fun c32 => ?_)
      refine mm_iload_n (pc := 35) dX12_all_35 rfl ?_
      refine mm_iconst (pc := 36) (v := 4) dX12_all_36 (by decide) ?_
      refine mm_icmp_ne (pc := 37) (tgt := 72) dX12_all_37 (by decide) (fun c37 => absurd hw c37) (fun c37 => ?_)
      refine mm_lload_n (pc := 40) dX12_all_40 rfl ?_
      refine mm_iload_n (pc := 41) dX12_all_41 rfl ?_
      refine mm_if_ne (pc := 42) (tgt := 56) dX12_all_42 (by decide) (fun c42 => ?_) (fun c42 => absurd c42 hw0)
      refine mm_aload_n (pc := 56) dX12_all_56 rfl (by first | trivial | assumption | exact mm_isr_rf _) ?_
      refine mw_geta (pc := 57) 52 hW dX12_all_57 fl_X12_118 rfl rfl ?_
      refine mm_iload (pc := 60) dX12_all_60 rfl ?_
      refine mw_iald (pc := 62) 52 t hW dX12_all_62 rfl rfl (by first | with_reducible rfl | assumption | rfl) (by show _ < 20; omega) (by omega) ?_
      refine mm_i2l (pc := 63) dX12_all_63 ?_
      refine mm_ladd (pc := 64) dX12_all_64 ?_
      refine mm_lstore_n (pc := 65) dX12_all_65 rfl rfl (Nat.le_of_ble_eq_true rfl) ?_
      refine mm_iinc (pc := 66) dX12_all_66 rfl rfl rfl (Nat.le_of_ble_eq_true rfl) ?_
      refine mm_goto (pc := 69) (tgt := 22) dX12_all_69 (by decide) ?_
      exact mm_weakK (ih (t + 1) (by omega)) (And.intro (by rw [← nI_1]; rfl) (And.intro rfl (And.intro rfl (And.intro rfl trivial))))
  have lpO_ : ¬ w < 0 → w ≤ 6 → ¬ w = 0 → ¬ w = 4 → mm_Run G mX12_all A L (d + 1) 22 [(4, .int 0), (2, .long 0), (0, .ref m), (1, .int w)] [] h (fun r h1 => mw_W m ad h0 (rm_ans M (sp_all M na w).2) h1 ∧ h1.2 = h.2 ∧ r = some (.long (sp_all M na w).1)) := by
    intro c1 c7 hw0 hw
    obtain ⟨q_, hq_, rfl⟩ := nI_of2 (n := 6) (by decide) c1 c7
    have hq0 : 1 ≤ q_ := by
      rcases Nat.eq_zero_or_pos q_ with e | e
      · subst e; exact absurd rfl hw0
      · exact e
    refine mm_iload (pc := 22) dX12_all_22 rfl ?_
    refine mm_aload_n (pc := 24) dX12_all_24 rfl (by first | trivial | assumption | exact mm_isr_rf _) ?_
    refine mw_gets (pc := 25) 48 hW dX12_all_25 fl_X12_437 rfl rfl ?_
    refine mm_icmp_ge (pc := 28) (tgt := 72) dX12_all_28 (by decide) (fun c28 => ?_) (fun c28 => ?_)
    · refine mm_iload_n (pc := 72) dX12_all_72 rfl ?_
      refine mm_if_eq (pc := 73) (tgt := 81) dX12_all_73 (by decide) (fun c73 => absurd c73 hw0) (fun c73 => ?_)
      refine mm_iload_n (pc := 76) dX12_all_76 rfl ?_
      refine mm_iconst (pc := 77) (v := 4) dX12_all_77 (by decide) ?_
      refine mm_icmp_ne (pc := 78) (tgt := 85) dX12_all_78 (by decide) (fun c78 => ?_) (fun c78 => absurd c78 hw)
      refine mm_iload_n (pc := 85) dX12_all_85 rfl ?_
      refine mm_iconst (pc := 86) (v := 4) dX12_all_86 (by decide) ?_
      refine mm_icmp_ge (pc := 87) (tgt := 101) dX12_all_87 (by decide) (fun c87 => ?_) (fun c87 => ?_)
      · refine mm_aload_n (pc := 101) dX12_all_101 rfl (by first | trivial | assumption | exact mm_isr_rf _) ?_
        refine mw_geta (pc := 102) 53 hW dX12_all_102 fl_X12_121 rfl rfl ?_
        refine mm_iload_n (pc := 105) dX12_all_105 rfl ?_
        refine mm_iconst (pc := 106) (v := 2) dX12_all_106 (by decide) ?_
        have h4_ : 4 ≤ q_ := (nI_leI (a := 4) (by decide) (by omega)).mp c87
        obtain ⟨z_, rfl⟩ : ∃ z, q_ = z + 2 := ⟨q_ - 2, by omega⟩
        refine mm_isub (pc := 107) dX12_all_107 ?_
        refine mm_topi _ (show nI (z_ + 2) - 2 = nI z_ by rw [← nI_add, show nI 2 = 2 by decide, Int32.add_sub_cancel]) ?_
        refine mw_lald (pc := 108) 53 z_ hW dX12_all_108 rfl rfl (by first | with_reducible rfl | assumption | rfl) (by show _ < 5; omega) (by omega) ?_
        refine mm_lret (pc := 109) dX12_all_109 rfl ?_
        unfold sp_all
        rw [if_neg c1, if_pos c7, if_neg hw0, if_neg hw]
        first
          | rw [if_pos c87, show nI (z_ + 2) - 2 = nI z_ by rw [← nI_add, show nI 2 = 2 by decide, Int32.add_sub_cancel], nI_clamp (by omega)]
          | rw [if_neg c87, nI_pred z_, nI_clamp (by omega)]
        exact ⟨hW, rfl, rfl⟩
      · refine mm_aload_n (pc := 90) dX12_all_90 rfl (by first | trivial | assumption | exact mm_isr_rf _) ?_
        refine mw_geta (pc := 91) 53 hW dX12_all_91 fl_X12_121 rfl rfl ?_
        refine mm_iload_n (pc := 94) dX12_all_94 rfl ?_
        refine mm_iconst (pc := 95) (v := 1) dX12_all_95 (by decide) ?_
        have h3_ : q_ < 4 := by
          rcases Nat.lt_or_ge q_ 4 with z | z
          · exact z
          · exact absurd (nI_le (a := 4) z (by omega)) c87
        obtain ⟨z_, rfl⟩ : ∃ z, q_ = z + 1 := ⟨q_ - 1, by omega⟩
        refine mm_isub (pc := 96) dX12_all_96 ?_
        refine mm_topi _ (nI_pred z_) ?_
        refine mw_lald (pc := 97) 53 z_ hW dX12_all_97 rfl rfl (by first | with_reducible rfl | assumption | rfl) (by show _ < 5; omega) (by omega) ?_
        refine mm_goto (pc := 98) (tgt := 109) dX12_all_98 (by decide) ?_
        refine mm_lret (pc := 109) dX12_all_109 rfl ?_
        unfold sp_all
        rw [if_neg c1, if_pos c7, if_neg hw0, if_neg hw]
        first
          | rw [if_pos c87, show nI (z_ + 2) - 2 = nI z_ by rw [← nI_add, show nI 2 = 2 by decide, Int32.add_sub_cancel], nI_clamp (by omega)]
          | rw [if_neg c87, nI_pred z_, nI_clamp (by omega)]
        exact ⟨hW, rfl, rfl⟩
    · refine mm_iload_n (pc := 31) dX12_all_31 rfl ?_
      refine mm_if_eq (pc := 32) (tgt := 40) dX12_all_32 (by decide) (fun c32 => absurd c32 hw0) (fun c32 => ?_)
      refine mm_iload_n (pc := 35) dX12_all_35 rfl ?_
      refine mm_iconst (pc := 36) (v := 4) dX12_all_36 (by decide) ?_
      refine mm_icmp_ne (pc := 37) (tgt := 72) dX12_all_37 (by decide) (fun c37 => ?_) (fun c37 => absurd c37 hw)
      refine mm_iload_n (pc := 72) dX12_all_72 rfl ?_
      refine mm_if_eq (pc := 73) (tgt := 81) dX12_all_73 (by decide) (fun c73 => absurd c73 hw0) (fun c73 => ?_)
      refine mm_iload_n (pc := 76) dX12_all_76 rfl ?_
      refine mm_iconst (pc := 77) (v := 4) dX12_all_77 (by decide) ?_
      refine mm_icmp_ne (pc := 78) (tgt := 85) dX12_all_78 (by decide) (fun c78 => ?_) (fun c78 => absurd c78 hw)
      refine mm_iload_n (pc := 85) dX12_all_85 rfl ?_
      refine mm_iconst (pc := 86) (v := 4) dX12_all_86 (by decide) ?_
      refine mm_icmp_ge (pc := 87) (tgt := 101) dX12_all_87 (by decide) (fun c87 => ?_) (fun c87 => ?_)
      · refine mm_aload_n (pc := 101) dX12_all_101 rfl (by first | trivial | assumption | exact mm_isr_rf _) ?_
        refine mw_geta (pc := 102) 53 hW dX12_all_102 fl_X12_121 rfl rfl ?_
        refine mm_iload_n (pc := 105) dX12_all_105 rfl ?_
        refine mm_iconst (pc := 106) (v := 2) dX12_all_106 (by decide) ?_
        have h4_ : 4 ≤ q_ := (nI_leI (a := 4) (by decide) (by omega)).mp c87
        obtain ⟨z_, rfl⟩ : ∃ z, q_ = z + 2 := ⟨q_ - 2, by omega⟩
        refine mm_isub (pc := 107) dX12_all_107 ?_
        refine mm_topi _ (show nI (z_ + 2) - 2 = nI z_ by rw [← nI_add, show nI 2 = 2 by decide, Int32.add_sub_cancel]) ?_
        refine mw_lald (pc := 108) 53 z_ hW dX12_all_108 rfl rfl (by first | with_reducible rfl | assumption | rfl) (by show _ < 5; omega) (by omega) ?_
        refine mm_lret (pc := 109) dX12_all_109 rfl ?_
        unfold sp_all
        rw [if_neg c1, if_pos c7, if_neg hw0, if_neg hw]
        first
          | rw [if_pos c87, show nI (z_ + 2) - 2 = nI z_ by rw [← nI_add, show nI 2 = 2 by decide, Int32.add_sub_cancel], nI_clamp (by omega)]
          | rw [if_neg c87, nI_pred z_, nI_clamp (by omega)]
        exact ⟨hW, rfl, rfl⟩
      · refine mm_aload_n (pc := 90) dX12_all_90 rfl (by first | trivial | assumption | exact mm_isr_rf _) ?_
        refine mw_geta (pc := 91) 53 hW dX12_all_91 fl_X12_121 rfl rfl ?_
        refine mm_iload_n (pc := 94) dX12_all_94 rfl ?_
        refine mm_iconst (pc := 95) (v := 1) dX12_all_95 (by decide) ?_
        have h3_ : q_ < 4 := by
          rcases Nat.lt_or_ge q_ 4 with z | z
          · exact z
          · exact absurd (nI_le (a := 4) z (by omega)) c87
        obtain ⟨z_, rfl⟩ : ∃ z, q_ = z + 1 := ⟨q_ - 1, by omega⟩
        refine mm_isub (pc := 96) dX12_all_96 ?_
        refine mm_topi _ (nI_pred z_) ?_
        refine mw_lald (pc := 97) 53 z_ hW dX12_all_97 rfl rfl (by first | with_reducible rfl | assumption | rfl) (by show _ < 5; omega) (by omega) ?_
        refine mm_goto (pc := 98) (tgt := 109) dX12_all_98 (by decide) ?_
        refine mm_lret (pc := 109) dX12_all_109 rfl ?_
        unfold sp_all
        rw [if_neg c1, if_pos c7, if_neg hw0, if_neg hw]
        first
          | rw [if_pos c87, show nI (z_ + 2) - 2 = nI z_ by rw [← nI_add, show nI 2 = 2 by decide, Int32.add_sub_cancel], nI_clamp (by omega)]
          | rw [if_neg c87, nI_pred z_, nI_clamp (by omega)]
        exact ⟨hW, rfl, rfl⟩
  refine mm_iload_n (pc := 0) dX12_all_0 rfl ?_
  refine mm_if_lt (pc := 1) (tgt := 10) dX12_all_1 (by decide) (fun c1 => ?_) (fun c1 => ?_)
  · refine mm_aload_n (pc := 10) dX12_all_10 rfl (by first | trivial | assumption | exact mm_isr_rf _) ?_
    refine mm_iconst (pc := 11) (v := (-1)) dX12_all_11 (by decide) ?_
    refine mm_callV (pc := 12) (As := [_]) (kd := ?kd_12) (fs := ?fs_12) dX12_all_12 vl_X12_189 (ok_X12_answer (x := -1) (c := 1) (by decide) (by decide) (by decide) hW) ?hc_12 ?hk_12 rfl rfl (Nat.le_of_ble_eq_true rfl) ?_; (case hc_12 => exact hW.1); (case hk_12 => rfl)
    rintro _ h_ ⟨hW, e_, rfl⟩
    refine mm_i2l (pc := 15) dX12_all_15 ?_
    refine mm_lret (pc := 16) dX12_all_16 rfl ?_
    unfold sp_all
    rw [if_pos c1]
    exact ⟨hW, e_, rfl⟩
  · refine mm_iload_n (pc := 4) dX12_all_4 rfl ?_
    refine mm_bipush (pc := 5) (v := 6) dX12_all_5 (by decide) ?_
    refine mm_icmp_le (pc := 7) (tgt := 17) dX12_all_7 (by decide) (fun c7 => ?_) (fun c7 => ?_)
    · refine mm_lconst (pc := 17) (v := 0) dX12_all_17 (by decide) ?_
      refine mm_lstore_n (pc := 18) dX12_all_18 rfl rfl (Nat.le_of_ble_eq_true rfl) ?_
      refine mm_iconst (pc := 19) (v := 0) dX12_all_19 (by decide) ?_
      refine mm_istore (pc := 20) dX12_all_20 rfl (Nat.le_of_ble_eq_true rfl) ?_
      by_cases hw0 : w = 0
      · exact mm_weakK (lpA_ c1 c7 hw0 na 0 (by omega)) (And.intro rfl (And.intro rfl (And.intro rfl (And.intro rfl trivial))))
      · by_cases hw : w = 4
        · exact mm_weakK (lpB_ c1 c7 hw0 hw na 0 (by omega)) (And.intro rfl (And.intro rfl (And.intro rfl (And.intro rfl trivial))))
        · exact mm_weakK (lpO_ c1 c7 hw0 hw) (And.intro rfl (And.intro rfl (And.intro rfl (And.intro rfl trivial))))
    · refine mm_aload_n (pc := 10) dX12_all_10 rfl (by first | trivial | assumption | exact mm_isr_rf _) ?_
      refine mm_iconst (pc := 11) (v := (-1)) dX12_all_11 (by decide) ?_
      refine mm_callV (pc := 12) (As := [_]) (kd := ?kd_12) (fs := ?fs_12) dX12_all_12 vl_X12_189 (ok_X12_answer (x := -1) (c := 1) (by decide) (by decide) (by decide) hW) ?hc_12 ?hk_12 rfl rfl (Nat.le_of_ble_eq_true rfl) ?_; (case hc_12 => exact hW.1); (case hk_12 => rfl)
      rintro _ h_ ⟨hW, e_, rfl⟩
      refine mm_i2l (pc := 15) dX12_all_15 ?_
      refine mm_lret (pc := 16) dX12_all_16 rfl ?_
      unfold sp_all
      rw [if_neg c1, if_neg c7]
      exact ⟨hW, e_, rfl⟩

theorem ok_X12_runMatter {G : mm_G} {L : Nat × Nat} {d : Nat} {h h0 : mm_H} {m : Nat} {ad : Nat → Nat} {M : mw_S} {w x : Int32} {app : Nat} (hs : M.1 61 = nI app) (ha : app < 20) (hW : mw_W m ad h0 M h) : mm_Ok G mX12_runMatter L (d + 1) [.ref m, .int w, .int x] h (fun r h1 => mw_W m ad h0 (rnM M w x).2 h1 ∧ h1.2 = h.2 ∧ r = some (.int (rnM M w x).1)) := by
  refine mm_Ok.of [(0, .ref m), (1, .int w), (2, .int x)] rfl kX12_runMatter.2.2.2.2.2 rfl (fun A => ?_)
  have hap : rn_app M = app := by unfold rn_app; rw [hs, nI_clamp (by omega)]
  refine mm_iload_n (pc := 0) dX12_runMatter_0 rfl ?_
  refine mm_iconst (pc := 1) (v := 4) dX12_runMatter_1 (by decide) ?_
  refine mm_icmp_ne (pc := 2) (tgt := 64) dX12_runMatter_2 (by decide) (fun c2 => ?_) (fun c2 => ?_)
  · refine mm_iload_n (pc := 64) dX12_runMatter_64 rfl ?_
    refine mm_iconst (pc := 65) (v := 5) dX12_runMatter_65 (by decide) ?_
    refine mm_icmp_ne (pc := 66) (tgt := 118) dX12_runMatter_66 (by decide) (fun c66 => ?_) (fun c66 => ?_)
    · refine mm_aload_n (pc := 118) dX12_runMatter_118 rfl (by first | trivial | assumption | exact mm_isr_rf _) ?_
      refine mw_geta (pc := 119) 52 hW dX12_runMatter_119 fl_X12_118 rfl rfl ?_
      refine mm_aload_n (pc := 122) dX12_runMatter_122 rfl (by first | trivial | assumption | exact mm_isr_rf _) ?_
      refine mw_gets (pc := 123) 61 hW dX12_runMatter_123 fl_X12_479 rfl rfl ?_
      refine mw_iald (pc := 126) 52 app hW dX12_runMatter_126 rfl rfl (hs) (by show _ < 20; omega) (by omega) ?_
      refine mm_iload_n (pc := 127) dX12_runMatter_127 rfl ?_
      refine mm_iadd (pc := 128) dX12_runMatter_128 ?_
      refine mm_ldc_w (pc := 129) dX12_runMatter_129 cn_X12_448 ?_
      refine mm_icmp_le (pc := 132) (tgt := 144) dX12_runMatter_132 (by decide) (fun c132 => ?_) (fun c132 => ?_)
      · refine mm_aload_n (pc := 144) dX12_runMatter_144 rfl (by first | trivial | assumption | exact mm_isr_rf _) ?_
        refine mw_geta (pc := 145) 52 hW dX12_runMatter_145 fl_X12_118 rfl rfl ?_
        refine mm_aload_n (pc := 148) dX12_runMatter_148 rfl (by first | trivial | assumption | exact mm_isr_rf _) ?_
        refine mw_gets (pc := 149) 61 hW dX12_runMatter_149 fl_X12_479 rfl rfl ?_
        refine mm_dup2 (pc := 152) dX12_runMatter_152 rfl rfl ?_
        refine mw_iald (pc := 153) 52 app hW dX12_runMatter_153 rfl rfl (hs) (by show _ < 20; omega) (by omega) ?_
        refine mm_iload_n (pc := 154) dX12_runMatter_154 rfl ?_
        refine mm_iadd (pc := 155) dX12_runMatter_155 ?_
        refine mw_iast (pc := 156) 52 app hW dX12_runMatter_156 rfl rfl (hs) (by show _ < 20; omega) (by omega) (fun h156 hW e156 => ?_)
        refine mm_aload_n (pc := 157) dX12_runMatter_157 rfl (by first | trivial | assumption | exact mm_isr_rf _) ?_
        refine mw_geta (pc := 158) 53 hW dX12_runMatter_158 fl_X12_121 rfl rfl ?_
        refine mm_iconst (pc := 161) (v := 4) dX12_runMatter_161 (by decide) ?_
        refine mm_dup2 (pc := 162) dX12_runMatter_162 rfl rfl ?_
        refine mw_lald (pc := 163) 53 4 hW dX12_runMatter_163 rfl rfl (by decide) (by show _ < 5; omega) (by omega) ?_
        refine mm_iload_n (pc := 164) dX12_runMatter_164 rfl ?_
        refine mm_i2l (pc := 165) dX12_runMatter_165 ?_
        refine mm_ladd (pc := 166) dX12_runMatter_166 ?_
        refine mw_last (pc := 167) 53 4 hW dX12_runMatter_167 rfl rfl (by decide) (by show _ < 5; omega) (by omega) (fun h167 hW e167 => ?_)
        refine mm_iconst (pc := 168) (v := 0) dX12_runMatter_168 (by decide) ?_
        refine mm_iret (pc := 169) dX12_runMatter_169 rfl ?_
        unfold rnM
        rw [hap]
        rw [if_neg c2, if_neg c66, if_pos c132]
        exact ⟨hW, by rw [e167, e156], rfl⟩
      · refine mm_aload_n (pc := 135) dX12_runMatter_135 rfl (by first | trivial | assumption | exact mm_isr_rf _) ?_
        refine mm_sipush (pc := 136) (v := 1002) dX12_runMatter_136 (by decide) ?_
        refine mm_iconst (pc := 139) (v := 1) dX12_runMatter_139 (by decide) ?_
        refine mm_callV (pc := 140) (As := [_, _]) (kd := ?kd_140) (fs := ?fs_140) dX12_runMatter_140 vl_X12_488 (ok_X12_fails_ hW) ?hc_140 ?hk_140 rfl rfl (Nat.le_of_ble_eq_true rfl) ?_; (case hc_140 => exact hW.1); (case hk_140 => rfl)
        rintro _ h_ ⟨hW, e_, rfl⟩
        refine mm_iret (pc := 143) dX12_runMatter_143 rfl ?_
        unfold rnM
        rw [hap]
        rw [if_neg c2, if_neg c66, if_neg c132]
        exact ⟨hW, e_, rfl⟩
    · refine mm_iload_n (pc := 69) dX12_runMatter_69 rfl ?_
      refine mm_aload_n (pc := 70) dX12_runMatter_70 rfl (by first | trivial | assumption | exact mm_isr_rf _) ?_
      refine mw_geta (pc := 71) 51 hW dX12_runMatter_71 fl_X12_115 rfl rfl ?_
      refine mm_aload_n (pc := 74) dX12_runMatter_74 rfl (by first | trivial | assumption | exact mm_isr_rf _) ?_
      refine mw_gets (pc := 75) 61 hW dX12_runMatter_75 fl_X12_479 rfl rfl ?_
      refine mw_iald (pc := 78) 51 app hW dX12_runMatter_78 rfl rfl (hs) (by show _ < 20; omega) (by omega) ?_
      refine mm_icmp_le (pc := 79) (tgt := 91) dX12_runMatter_79 (by decide) (fun c79 => ?_) (fun c79 => ?_)
      · refine mm_aload_n (pc := 91) dX12_runMatter_91 rfl (by first | trivial | assumption | exact mm_isr_rf _) ?_
        refine mw_geta (pc := 92) 51 hW dX12_runMatter_92 fl_X12_115 rfl rfl ?_
        refine mm_aload_n (pc := 95) dX12_runMatter_95 rfl (by first | trivial | assumption | exact mm_isr_rf _) ?_
        refine mw_gets (pc := 96) 61 hW dX12_runMatter_96 fl_X12_479 rfl rfl ?_
        refine mm_dup2 (pc := 99) dX12_runMatter_99 rfl rfl ?_
        refine mw_iald (pc := 100) 51 app hW dX12_runMatter_100 rfl rfl (hs) (by show _ < 20; omega) (by omega) ?_
        refine mm_iload_n (pc := 101) dX12_runMatter_101 rfl ?_
        refine mm_isub (pc := 102) dX12_runMatter_102 ?_
        refine mw_iast (pc := 103) 51 app hW dX12_runMatter_103 rfl rfl (hs) (by show _ < 20; omega) (by omega) (fun h103 hW e103 => ?_)
        refine mm_aload_n (pc := 104) dX12_runMatter_104 rfl (by first | trivial | assumption | exact mm_isr_rf _) ?_
        refine mw_geta (pc := 105) 53 hW dX12_runMatter_105 fl_X12_121 rfl rfl ?_
        refine mm_iconst (pc := 108) (v := 2) dX12_runMatter_108 (by decide) ?_
        refine mm_dup2 (pc := 109) dX12_runMatter_109 rfl rfl ?_
        refine mw_lald (pc := 110) 53 2 hW dX12_runMatter_110 rfl rfl (by decide) (by show _ < 5; omega) (by omega) ?_
        refine mm_iload_n (pc := 111) dX12_runMatter_111 rfl ?_
        refine mm_i2l (pc := 112) dX12_runMatter_112 ?_
        refine mm_ladd (pc := 113) dX12_runMatter_113 ?_
        refine mw_last (pc := 114) 53 2 hW dX12_runMatter_114 rfl rfl (by decide) (by show _ < 5; omega) (by omega) (fun h114 hW e114 => ?_)
        refine mm_goto (pc := 115) (tgt := 168) dX12_runMatter_115 (by decide) ?_
        refine mm_iconst (pc := 168) (v := 0) dX12_runMatter_168 (by decide) ?_
        refine mm_iret (pc := 169) dX12_runMatter_169 rfl ?_
        unfold rnM
        rw [hap]
        rw [if_neg c2, if_pos c66, if_pos c79]
        exact ⟨hW, by rw [e114, e103], rfl⟩
      · refine mm_aload_n (pc := 82) dX12_runMatter_82 rfl (by first | trivial | assumption | exact mm_isr_rf _) ?_
        refine mm_sipush (pc := 83) (v := 1000) dX12_runMatter_83 (by decide) ?_
        refine mm_iconst (pc := 86) (v := 1) dX12_runMatter_86 (by decide) ?_
        refine mm_callV (pc := 87) (As := [_, _]) (kd := ?kd_87) (fs := ?fs_87) dX12_runMatter_87 vl_X12_488 (ok_X12_fails_ hW) ?hc_87 ?hk_87 rfl rfl (Nat.le_of_ble_eq_true rfl) ?_; (case hc_87 => exact hW.1); (case hk_87 => rfl)
        rintro _ h_ ⟨hW, e_, rfl⟩
        refine mm_iret (pc := 90) dX12_runMatter_90 rfl ?_
        unfold rnM
        rw [hap]
        rw [if_neg c2, if_pos c66, if_neg c79]
        exact ⟨hW, e_, rfl⟩
  · refine mm_aload_n (pc := 5) dX12_runMatter_5 rfl (by first | trivial | assumption | exact mm_isr_rf _) ?_
    refine mw_geta (pc := 6) 51 hW dX12_runMatter_6 fl_X12_115 rfl rfl ?_
    refine mm_aload_n (pc := 9) dX12_runMatter_9 rfl (by first | trivial | assumption | exact mm_isr_rf _) ?_
    refine mw_gets (pc := 10) 61 hW dX12_runMatter_10 fl_X12_479 rfl rfl ?_
    refine mw_iald (pc := 13) 51 app hW dX12_runMatter_13 rfl rfl (hs) (by show _ < 20; omega) (by omega) ?_
    refine mm_iload_n (pc := 14) dX12_runMatter_14 rfl ?_
    refine mm_iadd (pc := 15) dX12_runMatter_15 ?_
    refine mm_aload_n (pc := 16) dX12_runMatter_16 rfl (by first | trivial | assumption | exact mm_isr_rf _) ?_
    refine mw_geta (pc := 17) 50 hW dX12_runMatter_17 fl_X12_112 rfl rfl ?_
    refine mm_aload_n (pc := 20) dX12_runMatter_20 rfl (by first | trivial | assumption | exact mm_isr_rf _) ?_
    refine mw_gets (pc := 21) 61 hW dX12_runMatter_21 fl_X12_479 rfl rfl ?_
    refine mw_iald (pc := 24) 50 app hW dX12_runMatter_24 rfl rfl (hs) (by show _ < 20; omega) (by omega) ?_
    refine mm_icmp_le (pc := 25) (tgt := 37) dX12_runMatter_25 (by decide) (fun c25 => ?_) (fun c25 => ?_)
    · refine mm_aload_n (pc := 37) dX12_runMatter_37 rfl (by first | trivial | assumption | exact mm_isr_rf _) ?_
      refine mw_geta (pc := 38) 51 hW dX12_runMatter_38 fl_X12_115 rfl rfl ?_
      refine mm_aload_n (pc := 41) dX12_runMatter_41 rfl (by first | trivial | assumption | exact mm_isr_rf _) ?_
      refine mw_gets (pc := 42) 61 hW dX12_runMatter_42 fl_X12_479 rfl rfl ?_
      refine mm_dup2 (pc := 45) dX12_runMatter_45 rfl rfl ?_
      refine mw_iald (pc := 46) 51 app hW dX12_runMatter_46 rfl rfl (hs) (by show _ < 20; omega) (by omega) ?_
      refine mm_iload_n (pc := 47) dX12_runMatter_47 rfl ?_
      refine mm_iadd (pc := 48) dX12_runMatter_48 ?_
      refine mw_iast (pc := 49) 51 app hW dX12_runMatter_49 rfl rfl (hs) (by show _ < 20; omega) (by omega) (fun h49 hW e49 => ?_)
      refine mm_aload_n (pc := 50) dX12_runMatter_50 rfl (by first | trivial | assumption | exact mm_isr_rf _) ?_
      refine mw_geta (pc := 51) 53 hW dX12_runMatter_51 fl_X12_121 rfl rfl ?_
      refine mm_iconst (pc := 54) (v := 1) dX12_runMatter_54 (by decide) ?_
      refine mm_dup2 (pc := 55) dX12_runMatter_55 rfl rfl ?_
      refine mw_lald (pc := 56) 53 1 hW dX12_runMatter_56 rfl rfl (by decide) (by show _ < 5; omega) (by omega) ?_
      refine mm_iload_n (pc := 57) dX12_runMatter_57 rfl ?_
      refine mm_i2l (pc := 58) dX12_runMatter_58 ?_
      refine mm_ladd (pc := 59) dX12_runMatter_59 ?_
      refine mw_last (pc := 60) 53 1 hW dX12_runMatter_60 rfl rfl (by decide) (by show _ < 5; omega) (by omega) (fun h60 hW e60 => ?_)
      refine mm_goto (pc := 61) (tgt := 168) dX12_runMatter_61 (by decide) ?_
      refine mm_iconst (pc := 168) (v := 0) dX12_runMatter_168 (by decide) ?_
      refine mm_iret (pc := 169) dX12_runMatter_169 rfl ?_
      unfold rnM
      rw [hap]
      rw [if_pos c2, if_pos c25]
      exact ⟨hW, by rw [e60, e49], rfl⟩
    · refine mm_aload_n (pc := 28) dX12_runMatter_28 rfl (by first | trivial | assumption | exact mm_isr_rf _) ?_
      refine mm_sipush (pc := 29) (v := 1001) dX12_runMatter_29 (by decide) ?_
      refine mm_iconst (pc := 32) (v := 1) dX12_runMatter_32 (by decide) ?_
      refine mm_callV (pc := 33) (As := [_, _]) (kd := ?kd_33) (fs := ?fs_33) dX12_runMatter_33 vl_X12_488 (ok_X12_fails_ hW) ?hc_33 ?hk_33 rfl rfl (Nat.le_of_ble_eq_true rfl) ?_; (case hc_33 => exact hW.1); (case hk_33 => rfl)
      rintro _ h_ ⟨hW, e_, rfl⟩
      refine mm_iret (pc := 36) dX12_runMatter_36 rfl ?_
      unfold rnM
      rw [hap]
      rw [if_pos c2, if_neg c25]
      exact ⟨hW, e_, rfl⟩

def rk_R (G : mm_G) (L : Nat × Nat) (m : Nat) (ad : Nat → Nat) (h0 : mm_H) (ab : Nat → Option Nat) (nk na : Nat) (oK oQ : Nat → Nat) (app K e n D : Nat) : Prop :=
  ∀ (M : mw_S) (h : mm_H) (x : Int32) (k q t u : Nat), rn_G M nk na ab oK oQ app K → rn_I M e t u → 400 ≤ t + n → rm_lk na oK oQ k q x → k < nk → q < 6 → Ae ab K k → mw_W m ad h0 M h →
    mm_Ok G mX12_runAll L D [.ref m, .int x, .int (nI k), .int (nI q)] h (fun r h1 => ∃ g, mw_W m ad h0 (mw_r25 (rnA ab n M x k q).2 g) h1 ∧ h1.2 = h.2 ∧ r = some (.int (rnA ab n M x k q).1))
theorem mw_Wg {m : Nat} {ad : Nat → Nat} {h0 h : mm_H} {M : mw_S} (hW : mw_W m ad h0 M h) : ∃ g, mw_W m ad h0 (mw_r25 M g) h := ⟨M.2.2.1 25, by rw [mw_r25_self]; exact hW⟩
theorem rn_G_r25 {M : mw_S} {nk na app K : Nat} {ab : Nat → Option Nat} {oK oQ : Nat → Nat} (f : Nat → Int32) (g : rn_G M nk na ab oK oQ app K) : rn_G (mw_r25 M f) nk na ab oK oQ app K := g
theorem rn_I_r25 {M : mw_S} {e t u : Nat} (f : Nat → Int32) (g : rn_I M e t u) : rn_I (mw_r25 M f) e t u := g

theorem ok_X12_runBody {G : mm_G} {L : Nat × Nat} {d : Nat} {h h0 : mm_H} {m : Nat} {ad : Nat → Nat} {M : mw_S} {ab : Nat → Option Nat} {nk na : Nat} {oK oQ : Nat → Nat} {app K e n t u : Nat} (rec_ : ∀ j, rk_R G L m ad h0 ab nk na oK oQ app K e n (d + 1 + j)) (g_ : rn_G M nk na ab oK oQ app K) (hI : rn_I M e t u) (hn : 400 ≤ t + n) (hr : ∃ r, M.1 68 = nI r ∧ r + 1 ≤ t + e) {k q : Nat} (hk : k < nk) (hq : q < 6) (hh : rm_has M q k = true) (hK : Ae ab K k) (hW : mw_W m ad h0 M h) : mm_Ok G mX12_runBody L (d + 2) [.ref m, .int (nI k), .int (nI q)] h (fun r h1 => ∃ g, mw_W m ad h0 (mw_r25 (rnB (rnA ab n) M k q).2 g) h1 ∧ h1.2 = h.2 ∧ r = some (.int (rnB (rnA ab n) M k q).1)) := by
  refine mm_Ok.of [(0, .ref m), (1, .int (nI k)), (2, .int (nI q))] rfl kX12_runBody.2.2.2.2.2 rfl (fun A => ?_)
  obtain ⟨r_, hr1, hr3⟩ := hr
  have hr : ∃ r, M.1 68 = nI r ∧ r + 1 ≤ t + e := ⟨r_, hr1, hr3⟩
  have ht4 := hI.1.2
  have he6 := hI.2.2.2.2.1
  have hk50 := g_.1.2.1
  have hr2 : (M.1 68).toNatClampNeg = r_ := by rw [hr1, nI_clamp (by omega)]
  refine mm_aload_n (pc := 0) dX12_runBody_0 rfl (by first | trivial | assumption | exact mm_isr_rf _) ?_
  refine mw_gets (pc := 1) 65 hW dX12_runBody_1 fl_X12_458 rfl rfl ?_
  refine mm_bipush (pc := 4) (v := 12) dX12_runBody_4 (by decide) ?_
  refine mm_icmp_ne (pc := 6) (tgt := 11) dX12_runBody_6 (by decide) (fun c6 => ?_) (fun c6 => ?_)
  · have hu12 : u < 12 := by
      rcases Nat.lt_or_ge u 12 with z | z
      · exact z
      · exact absurd (by rw [hI.2.1.1, show u = 12 by have := hI.2.1.2; omega]; decide) c6
    refine mm_aload_n (pc := 11) dX12_runBody_11 rfl (by first | trivial | assumption | exact mm_isr_rf _) ?_
    refine mw_geta (pc := 12) 69 hW dX12_runBody_12 fl_X12_143 rfl rfl ?_
    refine mm_aload_n (pc := 15) dX12_runBody_15 rfl (by first | trivial | assumption | exact mm_isr_rf _) ?_
    refine mw_gets (pc := 16) 68 hW dX12_runBody_16 fl_X12_461 rfl rfl ?_
    refine mm_iload_n (pc := 19) dX12_runBody_19 rfl ?_
    refine mw_iast (pc := 20) 69 r_ hW dX12_runBody_20 rfl rfl (hr1) (by show _ < 500; omega) (by omega) (fun h20 hW e20 => ?_)
    refine mm_aload_n (pc := 21) dX12_runBody_21 rfl (by first | trivial | assumption | exact mm_isr_rf _) ?_
    refine mw_geta (pc := 22) 70 hW dX12_runBody_22 fl_X12_146 rfl rfl ?_
    refine mm_aload_n (pc := 25) dX12_runBody_25 rfl (by first | trivial | assumption | exact mm_isr_rf _) ?_
    refine mw_gets (pc := 26) 68 hW dX12_runBody_26 fl_X12_461 rfl rfl ?_
    refine mm_iload_n (pc := 29) dX12_runBody_29 rfl ?_
    refine mw_iast (pc := 30) 70 r_ hW dX12_runBody_30 rfl rfl (hr1) (by show _ < 500; omega) (by omega) (fun h30 hW e30 => ?_)
    refine mm_aload_n (pc := 31) dX12_runBody_31 rfl (by first | trivial | assumption | exact mm_isr_rf _) ?_
    refine mw_geta (pc := 32) 71 hW dX12_runBody_32 fl_X12_149 rfl rfl ?_
    refine mm_aload_n (pc := 35) dX12_runBody_35 rfl (by first | trivial | assumption | exact mm_isr_rf _) ?_
    refine mw_gets (pc := 36) 68 hW dX12_runBody_36 fl_X12_461 rfl rfl ?_
    refine mm_aload_n (pc := 39) dX12_runBody_39 rfl (by first | trivial | assumption | exact mm_isr_rf _) ?_
    refine mw_gets (pc := 40) 65 hW dX12_runBody_40 fl_X12_458 rfl rfl ?_
    refine mw_iast (pc := 43) 71 r_ hW dX12_runBody_43 rfl rfl (hr1) (by show _ < 500; omega) (by omega) (fun h43 hW e43 => ?_)
    refine mm_aload_n (pc := 44) dX12_runBody_44 rfl (by first | trivial | assumption | exact mm_isr_rf _) ?_
    refine mm_dup (pc := 45) dX12_runBody_45 rfl ?_
    refine mw_gets (pc := 46) 68 hW dX12_runBody_46 fl_X12_461 rfl rfl ?_
    refine mm_iconst (pc := 49) (v := 1) dX12_runBody_49 (by decide) ?_
    refine mm_iadd (pc := 50) dX12_runBody_50 ?_
    refine mw_put (pc := 51) 68 hW dX12_runBody_51 (pl_X12_461 _) rfl (fun h51 hW e51 => ?_)
    refine mm_aload_n (pc := 54) dX12_runBody_54 rfl (by first | trivial | assumption | exact mm_isr_rf _) ?_
    refine mm_dup (pc := 55) dX12_runBody_55 rfl ?_
    refine mw_gets (pc := 56) 65 hW dX12_runBody_56 fl_X12_458 rfl rfl ?_
    refine mm_iconst (pc := 59) (v := 1) dX12_runBody_59 (by decide) ?_
    refine mm_iadd (pc := 60) dX12_runBody_60 ?_
    refine mw_put (pc := 61) 65 hW dX12_runBody_61 (pl_X12_458 _) rfl (fun h61 hW e61 => ?_)
    have hW2 : mw_W m ad h0 (rm_ent M k q) h61 := by
      unfold rm_ent
      rw [hr2]
      exact hW
    refine mm_aload_n (pc := 64) dX12_runBody_64 rfl (by first | trivial | assumption | exact mm_isr_rf _) ?_
    refine mm_aload_n (pc := 65) dX12_runBody_65 rfl (by first | trivial | assumption | exact mm_isr_rf _) ?_
    refine mw_geta (pc := 66) 11 hW dX12_runBody_66 fl_X12_42 rfl rfl ?_
    refine mm_bipush (pc := 69) (v := 6) dX12_runBody_69 (by decide) ?_
    refine mm_iload_n (pc := 71) dX12_runBody_71 rfl ?_
    refine mm_imul (pc := 72) dX12_runBody_72 ?_
    refine mm_iload_n (pc := 73) dX12_runBody_73 rfl ?_
    refine mm_iadd (pc := 74) dX12_runBody_74 ?_
    refine mw_iald (pc := 75) 11 (6 * k + q) hW dX12_runBody_75 rfl rfl (mw_ix k q) (by show _ < 300; omega) (by omega) ?_
    refine mm_topi _ (show _ = M.2.2.1 11 (6 * k + q) from rfl) ?_
    refine mm_iload_n (pc := 76) dX12_runBody_76 rfl ?_
    refine mm_iload_n (pc := 77) dX12_runBody_77 rfl ?_
    refine mm_callV (pc := 78) (As := [_, _, _]) (kd := ?kd_78) (fs := ?fs_78) dX12_runBody_78 vl_X12_464 (rec_ 0 (rm_ent M k q) h61 (M.2.2.1 11 (6 * k + q)) k q t (u + 1) (rn_ent_G g_) (rn_ent_I hI hr hu12) hn (g_.2.1.2.2 k q hk hq hh) hk hq hK hW2) ?hc_78 ?hk_78 rfl rfl (Nat.le_of_ble_eq_true rfl) ?_; (case hc_78 => exact hW.1); (case hk_78 => rfl)
    rintro _ h78 ⟨g78, hW, e78, rfl⟩
    refine mm_istore_n (pc := 81) dX12_runBody_81 rfl (Nat.le_of_ble_eq_true rfl) ?_
    refine mm_aload_n (pc := 82) dX12_runBody_82 rfl (by first | trivial | assumption | exact mm_isr_rf _) ?_
    refine mm_dup (pc := 83) dX12_runBody_83 rfl ?_
    refine mw_gets (pc := 84) 65 hW dX12_runBody_84 fl_X12_458 rfl rfl ?_
    refine mm_iconst (pc := 87) (v := 1) dX12_runBody_87 (by decide) ?_
    refine mm_isub (pc := 88) dX12_runBody_88 ?_
    refine mw_put (pc := 89) 65 hW dX12_runBody_89 (pl_X12_458 _) rfl (fun h89 hW e89 => ?_)
    refine mm_iload_n (pc := 92) dX12_runBody_92 rfl ?_
    refine mm_iret (pc := 93) dX12_runBody_93 rfl ?_
    unfold rnB
    rw [if_neg c6]
    exact ⟨g78, hW, by rw [e89, e78, e61, e51, e43, e30, e20], rfl⟩
  · refine mm_iconst (pc := 9) (v := 3) dX12_runBody_9 (by decide) ?_
    refine mm_iret (pc := 10) dX12_runBody_10 rfl ?_
    unfold rnB
    rw [if_pos c6]
    obtain ⟨gg_, hW⟩ := mw_Wg hW
    exact ⟨gg_, hW, rfl, rfl⟩

theorem ok_X12_run {G : mm_G} {L : Nat × Nat} {d : Nat} {h h0 : mm_H} {m : Nat} {ad : Nat → Nat} {M : mw_S} {ab : Nat → Option Nat} {nk na : Nat} {oK oQ : Nat → Nat} {app K e n t u : Nat} (rec_ : ∀ j, rk_R G L m ad h0 ab nk na oK oQ app K e n (d + 1 + j)) (g_ : rn_G M nk na ab oK oQ app K) (hI : rn_I M e t u) (hn : 400 ≤ t + n) (hr : ∃ r, M.1 68 = nI r ∧ r + 1 ≤ t + e) (hs : ∃ s, M.1 72 = nI s ∧ s + 1 ≤ t) {x : Nat} (hx : x < na) (hK : Ae ab K (oK x)) (hW : mw_W m ad h0 M h) : mm_Ok G mX12_run L (d + 3) [.ref m, .int (nI x), .int (nI (oK x)), .int (nI (oQ x))] h (fun r h1 => ∃ g, mw_W m ad h0 (mw_r25 (rnS ab (rnA ab n) M x (oK x) (oQ x)).2 g) h1 ∧ h1.2 = h.2 ∧ r = some (.int (rnS ab (rnA ab n) M x (oK x) (oQ x)).1)) := by
  refine mm_Ok.of [(0, .ref m), (1, .int (nI x)), (2, .int (nI (oK x))), (3, .int (nI (oQ x)))] rfl kX12_run.2.2.2.2.2 rfl (fun A => ?_)
  have hT := g_.1
  have hA := g_.2.1.2.1 x hx
  have hna := g_.2.1.1
  have hk50 := hT.2.1
  have ht4 := hI.1.2
  have ha20 := g_.2.2.1.2
  obtain ⟨s_, hs1, hs2⟩ := hs
  have lp_ : mm_Run G mX12_run A L (d + 3) 23 [(0, .ref m), (1, .int (nI x)), (2, .int (nI (oK x))), (3, .int (nI (oQ x)))] [.int (rn_n M x)] h (fun r h1 => ∃ g, mw_W m ad h0 (mw_r25 (rnS ab (rnA ab n) M x (oK x) (oQ x)).2 g) h1 ∧ h1.2 = h.2 ∧ r = some (.int (rnS ab (rnA ab n) M x (oK x) (oQ x)).1)) := by
    refine mm_istore (pc := 23) dX12_run_23 rfl (Nat.le_of_ble_eq_true rfl) ?_
    refine mm_aload_n (pc := 25) dX12_run_25 rfl (by first | trivial | assumption | exact mm_isr_rf _) ?_
    refine mw_geta (pc := 26) 14 hW dX12_run_26 fl_X12_48 rfl rfl ?_
    refine mm_iload_n (pc := 29) dX12_run_29 rfl ?_
    refine mw_iald (pc := 30) 14 x hW dX12_run_30 rfl rfl (by first | with_reducible rfl | assumption | rfl) (by show _ < 4000; omega) (by omega) ?_
    refine mm_sw (pc := 31) [80, 98, 128, 151, 151, 151, 164, 172, 201] 232 dX12_run_31 (by decide) (by decide) (by decide) (fun i_ t_ ht_ hx_ => ?_) (fun c31 => ?_)
    · match i_, ht_ with
      | 0, ht_ =>
        cases ht_
        have c31 := mm_swe (v := 1) hx_ (by decide)
        obtain ⟨j_, f1, f2, f3, f4⟩ := rn_up g_ hx hK c31
        refine mm_aload_n (pc := 80) dX12_run_80 rfl (by first | trivial | assumption | exact mm_isr_rf _) ?_
        refine mm_aload_n (pc := 81) dX12_run_81 rfl (by first | trivial | assumption | exact mm_isr_rf _) ?_
        refine mm_iload_n (pc := 82) dX12_run_82 rfl ?_
        refine mm_iload_n (pc := 83) dX12_run_83 rfl ?_
        refine mm_aload_n (pc := 84) dX12_run_84 rfl (by first | trivial | assumption | exact mm_isr_rf _) ?_
        refine mw_geta (pc := 85) 6 hW dX12_run_85 fl_X12_26 rfl rfl ?_
        refine mm_iload_n (pc := 88) dX12_run_88 rfl ?_
        refine mw_iald (pc := 89) 6 (oK x) hW dX12_run_89 rfl rfl (by first | with_reducible rfl | assumption | rfl) (by show _ < 50; omega) (by omega) ?_
        refine mm_topi _ (hT.2.2 (oK x) hA.1.1) ?_
        refine mm_callV (pc := 90) (As := [_, _, _]) (kd := ?kd_90) (fs := ?fs_90) dX12_run_90 vl_X12_419 (ok_X12_find (k := oK x) (j := oQ x) (c0 := ab (oK x)) hT hA.1.1 hA.1.2.1 (up_lt hT hA.1.1) hW) ?hc_90 ?hk_90 rfl rfl (Nat.le_of_ble_eq_true rfl) ?_; (case hc_90 => exact hW.1); (case hk_90 => rfl)
        rintro _ _ ⟨rfl, rfl⟩
        refine mm_topi _ (show oI (rn_fnd M ab (oK x) (oQ x) (ab (oK x))) = nI j_ by rw [f1]; rfl) ?_
        refine mm_iload_n (pc := 93) dX12_run_93 rfl ?_
        refine mm_callV (pc := 94) (As := [_, _]) (kd := ?kd_94) (fs := ?fs_94) dX12_run_94 vl_X12_476 (ok_X12_runBody rec_ g_ hI hn hr f2 hA.1.2.1 f3 f4 hW) ?hc_94 ?hk_94 rfl rfl (Nat.le_of_ble_eq_true rfl) ?_; (case hc_94 => exact hW.1); (case hk_94 => rfl)
        rintro _ h94 ⟨g94, hW, e94, rfl⟩
        refine mm_iret (pc := 97) dX12_run_97 rfl ?_
        unfold rnS
        rw [if_pos c31, f1]
        exact ⟨g94, hW, e94, rfl⟩
      | 1, ht_ =>
        cases ht_
        have c31 := mm_swe (v := 2) hx_ (by decide)
        obtain ⟨c_, i_1, j_, hc_, e1, e2, f1, fi, fh, fa, f5, f6, f7, f8⟩ := rn_call g_ hx hK c31
        rw [e1]
        refine mm_aload_n (pc := 98) dX12_run_98 rfl (by first | trivial | assumption | exact mm_isr_rf _) ?_
        refine mm_aload_n (pc := 99) dX12_run_99 rfl (by first | trivial | assumption | exact mm_isr_rf _) ?_
        refine mm_aload_n (pc := 100) dX12_run_100 rfl (by first | trivial | assumption | exact mm_isr_rf _) ?_
        refine mm_iload_n (pc := 101) dX12_run_101 rfl ?_
        refine mm_iload (pc := 102) dX12_run_102 rfl ?_
        refine mm_iload_n (pc := 104) dX12_run_104 rfl ?_
        refine mm_callV (pc := 105) (As := [_, _, _]) (kd := ?kd_105) (fs := ?fs_105) dX12_run_105 vl_X12_419 (ok_X12_find (k := oK x) (j := c_) (c0 := some (oK x)) hT hA.1.1 hc_ hA.1.1 hW) ?hc_105 ?hk_105 rfl rfl (Nat.le_of_ble_eq_true rfl) ?_; (case hc_105 => exact hW.1); (case hk_105 => rfl)
        rintro _ _ ⟨rfl, rfl⟩
        refine mm_topi _ (show oI (rn_fnd M ab (oK x) c_ (some (oK x))) = nI i_1 by rw [f1]; rfl) ?_
        refine mm_iload (pc := 108) dX12_run_108 rfl ?_
        refine mm_aload_n (pc := 110) dX12_run_110 rfl (by first | trivial | assumption | exact mm_isr_rf _) ?_
        refine mw_geta (pc := 111) 49 hW dX12_run_111 fl_X12_109 rfl rfl ?_
        refine mm_aload_n (pc := 114) dX12_run_114 rfl (by first | trivial | assumption | exact mm_isr_rf _) ?_
        refine mw_gets (pc := 115) 61 hW dX12_run_115 fl_X12_479 rfl rfl ?_
        refine mw_iald (pc := 118) 49 app hW dX12_run_118 rfl rfl (g_.2.2.1.1) (by show _ < 20; omega) (by omega) ?_
        refine mm_topi _ g_.2.2.2.1.1 ?_
        refine mm_callV (pc := 119) (As := [_, _, _]) (kd := ?kd_119) (fs := ?fs_119) dX12_run_119 vl_X12_434 (ok_X12_choose (k := K) (q := c_) (j := i_1) hT g_.2.2.2.1.2 hc_ fa hW) ?hc_119 ?hk_119 rfl rfl (Nat.le_of_ble_eq_true rfl) ?_; (case hc_119 => exact hW.1); (case hk_119 => rfl)
        rintro _ h119 ⟨g119, hW, e119, rfl⟩
        refine mm_topi _ (show oI (rn_cho M ab i_1 c_ K) = nI j_ by rw [f5]; rfl) ?_
        refine mm_iload (pc := 122) dX12_run_122 rfl ?_
        refine mm_callV (pc := 124) (As := [_, _]) (kd := ?kd_124) (fs := ?fs_124) dX12_run_124 vl_X12_476 (ok_X12_runBody (M := mw_r25 M g119) rec_ (rn_G_r25 g119 g_) (rn_I_r25 g119 hI) hn hr f6 hc_ f7 f8 hW) ?hc_124 ?hk_124 rfl rfl (Nat.le_of_ble_eq_true rfl) ?_; (case hc_124 => exact hW.1); (case hk_124 => rfl)
        rintro _ h124 ⟨g124, hW, e124, rfl⟩
        refine mm_iret (pc := 127) dX12_run_127 rfl ?_
        unfold rnS
        rw [if_neg (show ¬ M.2.2.1 14 x = 1 by rw [c31]; decide), if_pos c31, e1, nI_clamp (show c_ < 2 ^ 31 by omega), f1, e2]
        rw [rnB_r25 (rnA_r25 ab n)] at hW ⊢
        rw [show (rp (rnB (rnA ab n) M j_ c_) g119).2 = mw_r25 (rnB (rnA ab n) M j_ c_).2 g119 from rfl, mw_r25_r25] at hW
        show ∃ g, mw_W m ad h0 (mw_r25 (rnU (rnA ab n) M (rn_cho M ab i_1 c_ K) c_).2 g) _ ∧ _ ∧ _ = some (Value.int (rnU (rnA ab n) M (rn_cho M ab i_1 c_ K) c_).1)
        rw [f5]
        exact ⟨g124, hW, by rw [e124, e119], rfl⟩
      | 2, ht_ =>
        cases ht_
        have c31 := mm_swe (v := 3) hx_ (by decide)
        refine mm_aload_n (pc := 128) dX12_run_128 rfl (by first | trivial | assumption | exact mm_isr_rf _) ?_
        refine mw_geta (pc := 129) 73 hW dX12_run_129 fl_X12_152 rfl rfl ?_
        refine mm_aload_n (pc := 132) dX12_run_132 rfl (by first | trivial | assumption | exact mm_isr_rf _) ?_
        refine mw_gets (pc := 133) 72 hW dX12_run_133 fl_X12_482 rfl rfl ?_
        refine mm_iload (pc := 136) dX12_run_136 rfl ?_
        refine mw_iast (pc := 138) 73 s_ hW dX12_run_138 rfl rfl (hs1) (by show _ < 500; omega) (by omega) (fun h138 hW e138 => ?_)
        refine mm_aload_n (pc := 139) dX12_run_139 rfl (by first | trivial | assumption | exact mm_isr_rf _) ?_
        refine mm_dup (pc := 140) dX12_run_140 rfl ?_
        refine mw_gets (pc := 141) 72 hW dX12_run_141 fl_X12_482 rfl rfl ?_
        refine mm_iconst (pc := 144) (v := 1) dX12_run_144 (by decide) ?_
        refine mm_iadd (pc := 145) dX12_run_145 ?_
        refine mw_put (pc := 146) 72 hW dX12_run_146 (pl_X12_482 _) rfl (fun h146 hW e146 => ?_)
        refine mm_iconst (pc := 149) (v := 0) dX12_run_149 (by decide) ?_
        refine mm_iret (pc := 150) dX12_run_150 rfl ?_
        unfold rnS
        rw [if_neg (show ¬ M.2.2.1 14 x = 1 by rw [c31]; decide), if_neg (show ¬ M.2.2.1 14 x = 2 by rw [c31]; decide), if_pos c31, show (M.1 72).toNatClampNeg = s_ by rw [hs1, nI_clamp (by omega)]]
        obtain ⟨gg_, hW⟩ := mw_Wg hW
        exact ⟨gg_, hW, by rw [e146, e138], rfl⟩
      | 3, ht_ =>
        cases ht_
        have c31 := mm_swe (v := 4) hx_ (by decide)
        refine mm_aload_n (pc := 151) dX12_run_151 rfl (by first | trivial | assumption | exact mm_isr_rf _) ?_
        refine mm_aload_n (pc := 152) dX12_run_152 rfl (by first | trivial | assumption | exact mm_isr_rf _) ?_
        refine mw_geta (pc := 153) 14 hW dX12_run_153 fl_X12_48 rfl rfl ?_
        refine mm_iload_n (pc := 156) dX12_run_156 rfl ?_
        refine mw_iald (pc := 157) 14 x hW dX12_run_157 rfl rfl (by first | with_reducible rfl | assumption | rfl) (by show _ < 4000; omega) (by omega) ?_
        refine mm_topi _ c31 ?_
        refine mm_iload (pc := 158) dX12_run_158 rfl ?_
        refine mm_callV (pc := 160) (As := [_, _]) (kd := ?kd_160) (fs := ?fs_160) dX12_run_160 vl_X12_485 (ok_X12_runMatter (w := 4) g_.2.2.1.1 g_.2.2.1.2 hW) ?hc_160 ?hk_160 rfl rfl (Nat.le_of_ble_eq_true rfl) ?_; (case hc_160 => exact hW.1); (case hk_160 => rfl)
        rintro _ h160 ⟨hW, e160, rfl⟩
        refine mm_iret (pc := 163) dX12_run_163 rfl ?_
        unfold rnS
        rw [if_neg (show ¬ M.2.2.1 14 x = 1 by rw [c31]; decide), if_neg (show ¬ M.2.2.1 14 x = 2 by rw [c31]; decide), if_neg (show ¬ M.2.2.1 14 x = 3 by rw [c31]; decide), if_pos c31]
        obtain ⟨gg_, hW⟩ := mw_Wg hW
        exact ⟨gg_, hW, e160, rfl⟩
      | 4, ht_ =>
        cases ht_
        have c31 := mm_swe (v := 5) hx_ (by decide)
        refine mm_aload_n (pc := 151) dX12_run_151 rfl (by first | trivial | assumption | exact mm_isr_rf _) ?_
        refine mm_aload_n (pc := 152) dX12_run_152 rfl (by first | trivial | assumption | exact mm_isr_rf _) ?_
        refine mw_geta (pc := 153) 14 hW dX12_run_153 fl_X12_48 rfl rfl ?_
        refine mm_iload_n (pc := 156) dX12_run_156 rfl ?_
        refine mw_iald (pc := 157) 14 x hW dX12_run_157 rfl rfl (by first | with_reducible rfl | assumption | rfl) (by show _ < 4000; omega) (by omega) ?_
        refine mm_topi _ c31 ?_
        refine mm_iload (pc := 158) dX12_run_158 rfl ?_
        refine mm_callV (pc := 160) (As := [_, _]) (kd := ?kd_160) (fs := ?fs_160) dX12_run_160 vl_X12_485 (ok_X12_runMatter (w := 5) g_.2.2.1.1 g_.2.2.1.2 hW) ?hc_160 ?hk_160 rfl rfl (Nat.le_of_ble_eq_true rfl) ?_; (case hc_160 => exact hW.1); (case hk_160 => rfl)
        rintro _ h160 ⟨hW, e160, rfl⟩
        refine mm_iret (pc := 163) dX12_run_163 rfl ?_
        unfold rnS
        rw [if_neg (show ¬ M.2.2.1 14 x = 1 by rw [c31]; decide), if_neg (show ¬ M.2.2.1 14 x = 2 by rw [c31]; decide), if_neg (show ¬ M.2.2.1 14 x = 3 by rw [c31]; decide), if_neg (show ¬ M.2.2.1 14 x = 4 by rw [c31]; decide), if_pos c31]
        obtain ⟨gg_, hW⟩ := mw_Wg hW
        exact ⟨gg_, hW, e160, rfl⟩
      | 5, ht_ =>
        cases ht_
        have c31 := mm_swe (v := 6) hx_ (by decide)
        refine mm_aload_n (pc := 151) dX12_run_151 rfl (by first | trivial | assumption | exact mm_isr_rf _) ?_
        refine mm_aload_n (pc := 152) dX12_run_152 rfl (by first | trivial | assumption | exact mm_isr_rf _) ?_
        refine mw_geta (pc := 153) 14 hW dX12_run_153 fl_X12_48 rfl rfl ?_
        refine mm_iload_n (pc := 156) dX12_run_156 rfl ?_
        refine mw_iald (pc := 157) 14 x hW dX12_run_157 rfl rfl (by first | with_reducible rfl | assumption | rfl) (by show _ < 4000; omega) (by omega) ?_
        refine mm_topi _ c31 ?_
        refine mm_iload (pc := 158) dX12_run_158 rfl ?_
        refine mm_callV (pc := 160) (As := [_, _]) (kd := ?kd_160) (fs := ?fs_160) dX12_run_160 vl_X12_485 (ok_X12_runMatter (w := 6) g_.2.2.1.1 g_.2.2.1.2 hW) ?hc_160 ?hk_160 rfl rfl (Nat.le_of_ble_eq_true rfl) ?_; (case hc_160 => exact hW.1); (case hk_160 => rfl)
        rintro _ h160 ⟨hW, e160, rfl⟩
        refine mm_iret (pc := 163) dX12_run_163 rfl ?_
        unfold rnS
        rw [if_neg (show ¬ M.2.2.1 14 x = 1 by rw [c31]; decide), if_neg (show ¬ M.2.2.1 14 x = 2 by rw [c31]; decide), if_neg (show ¬ M.2.2.1 14 x = 3 by rw [c31]; decide), if_neg (show ¬ M.2.2.1 14 x = 4 by rw [c31]; decide), if_neg (show ¬ M.2.2.1 14 x = 5 by rw [c31]; decide), if_pos c31]
        obtain ⟨gg_, hW⟩ := mw_Wg hW
        exact ⟨gg_, hW, e160, rfl⟩
      | 6, ht_ =>
        cases ht_
        have c31 := mm_swe (v := 7) hx_ (by decide)
        refine mm_aload_n (pc := 164) dX12_run_164 rfl (by first | trivial | assumption | exact mm_isr_rf _) ?_
        refine mm_iload (pc := 165) dX12_run_165 rfl ?_
        refine mm_iconst (pc := 167) (v := 1) dX12_run_167 (by decide) ?_
        refine mm_callV (pc := 168) (As := [_, _]) (kd := ?kd_168) (fs := ?fs_168) dX12_run_168 vl_X12_488 (ok_X12_fails_ hW) ?hc_168 ?hk_168 rfl rfl (Nat.le_of_ble_eq_true rfl) ?_; (case hc_168 => exact hW.1); (case hk_168 => rfl)
        rintro _ h_ ⟨hW, e_, rfl⟩
        refine mm_iret (pc := 171) dX12_run_171 rfl ?_
        unfold rnS
        rw [if_neg (show ¬ M.2.2.1 14 x = 1 by rw [c31]; decide), if_neg (show ¬ M.2.2.1 14 x = 2 by rw [c31]; decide), if_neg (show ¬ M.2.2.1 14 x = 3 by rw [c31]; decide), if_neg (show ¬ M.2.2.1 14 x = 4 by rw [c31]; decide), if_neg (show ¬ M.2.2.1 14 x = 5 by rw [c31]; decide), if_neg (show ¬ M.2.2.1 14 x = 6 by rw [c31]; decide), if_pos c31]
        obtain ⟨gg_, hW⟩ := mw_Wg hW
        exact ⟨gg_, hW, e_, rfl⟩
      | 7, ht_ =>
        cases ht_
        have c31 := mm_swe (v := 8) hx_ (by decide)
        refine mm_aload_n (pc := 172) dX12_run_172 rfl (by first | trivial | assumption | exact mm_isr_rf _) ?_
        refine mw_gets (pc := 173) 63 hW dX12_run_173 fl_X12_490 rfl rfl ?_
        refine mm_if_eq (pc := 176) (tgt := 189) dX12_run_176 (by decide) (fun c176 => ?_) (fun c176 => ?_)
        · refine mm_aload_n (pc := 189) dX12_run_189 rfl (by first | trivial | assumption | exact mm_isr_rf _) ?_
          refine mm_iload (pc := 190) dX12_run_190 rfl ?_
          refine mm_sipush (pc := 192) (v := 2000) dX12_run_192 (by decide) ?_
          refine mm_iadd (pc := 195) dX12_run_195 ?_
          refine mm_iconst (pc := 196) (v := 1) dX12_run_196 (by decide) ?_
          refine mm_callV (pc := 197) (As := [_, _]) (kd := ?kd_197) (fs := ?fs_197) dX12_run_197 vl_X12_488 (ok_X12_fails_ hW) ?hc_197 ?hk_197 rfl rfl (Nat.le_of_ble_eq_true rfl) ?_; (case hc_197 => exact hW.1); (case hk_197 => rfl)
          rintro _ h_ ⟨hW, e_, rfl⟩
          refine mm_iret (pc := 200) dX12_run_200 rfl ?_
          unfold rnS
          rw [if_neg (show ¬ M.2.2.1 14 x = 1 by rw [c31]; decide), if_neg (show ¬ M.2.2.1 14 x = 2 by rw [c31]; decide), if_neg (show ¬ M.2.2.1 14 x = 3 by rw [c31]; decide), if_neg (show ¬ M.2.2.1 14 x = 4 by rw [c31]; decide), if_neg (show ¬ M.2.2.1 14 x = 5 by rw [c31]; decide), if_neg (show ¬ M.2.2.1 14 x = 6 by rw [c31]; decide), if_neg (show ¬ M.2.2.1 14 x = 7 by rw [c31]; decide), if_pos c31, if_pos c176]
          obtain ⟨gg_, hW⟩ := mw_Wg hW
          exact ⟨gg_, hW, e_, rfl⟩
        · refine mm_aload_n (pc := 179) dX12_run_179 rfl (by first | trivial | assumption | exact mm_isr_rf _) ?_
          refine mm_iload (pc := 180) dX12_run_180 rfl ?_
          refine mm_iconst (pc := 182) (v := 2) dX12_run_182 (by decide) ?_
          refine mm_callV (pc := 183) (As := [_, _]) (kd := ?kd_183) (fs := ?fs_183) dX12_run_183 vl_X12_488 (ok_X12_fails_ hW) ?hc_183 ?hk_183 rfl rfl (Nat.le_of_ble_eq_true rfl) ?_; (case hc_183 => exact hW.1); (case hk_183 => rfl)
          rintro _ h_ ⟨hW, e_, rfl⟩
          refine mm_goto (pc := 186) (tgt := 200) dX12_run_186 (by decide) ?_
          refine mm_iret (pc := 200) dX12_run_200 rfl ?_
          unfold rnS
          rw [if_neg (show ¬ M.2.2.1 14 x = 1 by rw [c31]; decide), if_neg (show ¬ M.2.2.1 14 x = 2 by rw [c31]; decide), if_neg (show ¬ M.2.2.1 14 x = 3 by rw [c31]; decide), if_neg (show ¬ M.2.2.1 14 x = 4 by rw [c31]; decide), if_neg (show ¬ M.2.2.1 14 x = 5 by rw [c31]; decide), if_neg (show ¬ M.2.2.1 14 x = 6 by rw [c31]; decide), if_neg (show ¬ M.2.2.1 14 x = 7 by rw [c31]; decide), if_pos c31, if_neg c176]
          obtain ⟨gg_, hW⟩ := mw_Wg hW
          exact ⟨gg_, hW, e_, rfl⟩
      | 8, ht_ =>
        cases ht_
        have c31 := mm_swe (v := 9) hx_ (by decide)
        refine mm_aload_n (pc := 201) dX12_run_201 rfl (by first | trivial | assumption | exact mm_isr_rf _) ?_
        refine mm_aload_n (pc := 202) dX12_run_202 rfl (by first | trivial | assumption | exact mm_isr_rf _) ?_
        refine mw_gets (pc := 203) 62 hW dX12_run_203 fl_X12_473 rfl rfl ?_
        refine mm_iload (pc := 206) dX12_run_206 rfl ?_
        refine mm_icmp_ge (pc := 208) (tgt := 220) dX12_run_208 (by decide) (fun c208 => ?_) (fun c208 => ?_)
        · refine mm_aload_n (pc := 220) dX12_run_220 rfl (by first | trivial | assumption | exact mm_isr_rf _) ?_
          refine mw_geta (pc := 221) 17 hW dX12_run_221 fl_X12_57 rfl rfl ?_
          refine mm_iload_n (pc := 224) dX12_run_224 rfl ?_
          refine mw_iald (pc := 225) 17 x hW dX12_run_225 rfl rfl (by first | with_reducible rfl | assumption | rfl) (by show _ < 4000; omega) (by omega) ?_
          refine mm_iload_n (pc := 226) dX12_run_226 rfl ?_
          refine mm_iload_n (pc := 227) dX12_run_227 rfl ?_
          refine mm_callV (pc := 228) (As := [_, _, _]) (kd := ?kd_228) (fs := ?fs_228) dX12_run_228 vl_X12_464 (rec_ 1 M _ (M.2.2.1 17 x) (oK x) (oQ x) t u g_ hI hn hA.2.2.2.2.1 hA.1.1 hA.1.2.1 hK hW) ?hc_228 ?hk_228 rfl rfl (Nat.le_of_ble_eq_true rfl) ?_; (case hc_228 => exact hW.1); (case hk_228 => rfl)
          rintro _ h228 ⟨g228, hW, e228, rfl⟩
          refine mm_iret (pc := 231) dX12_run_231 rfl ?_
          unfold rnS
          rw [if_neg (show ¬ M.2.2.1 14 x = 1 by rw [c31]; decide), if_neg (show ¬ M.2.2.1 14 x = 2 by rw [c31]; decide), if_neg (show ¬ M.2.2.1 14 x = 3 by rw [c31]; decide), if_neg (show ¬ M.2.2.1 14 x = 4 by rw [c31]; decide), if_neg (show ¬ M.2.2.1 14 x = 5 by rw [c31]; decide), if_neg (show ¬ M.2.2.1 14 x = 6 by rw [c31]; decide), if_neg (show ¬ M.2.2.1 14 x = 7 by rw [c31]; decide), if_neg (show ¬ M.2.2.1 14 x = 8 by rw [c31]; decide), if_pos c31, if_neg (Int32.not_lt.mpr c208)]
          exact ⟨g228, hW, e228, rfl⟩
        · refine mm_aload_n (pc := 211) dX12_run_211 rfl (by first | trivial | assumption | exact mm_isr_rf _) ?_
          refine mw_geta (pc := 212) 16 hW dX12_run_212 fl_X12_54 rfl rfl ?_
          refine mm_iload_n (pc := 215) dX12_run_215 rfl ?_
          refine mw_iald (pc := 216) 16 x hW dX12_run_216 rfl rfl (by first | with_reducible rfl | assumption | rfl) (by show _ < 4000; omega) (by omega) ?_
          refine mm_goto (pc := 217) (tgt := 226) dX12_run_217 (by decide) ?_
          refine mm_iload_n (pc := 226) dX12_run_226 rfl ?_
          refine mm_iload_n (pc := 227) dX12_run_227 rfl ?_
          refine mm_callV (pc := 228) (As := [_, _, _]) (kd := ?kd_228) (fs := ?fs_228) dX12_run_228 vl_X12_464 (rec_ 1 M _ (M.2.2.1 16 x) (oK x) (oQ x) t u g_ hI hn hA.2.2.2.1 hA.1.1 hA.1.2.1 hK hW) ?hc_228 ?hk_228 rfl rfl (Nat.le_of_ble_eq_true rfl) ?_; (case hc_228 => exact hW.1); (case hk_228 => rfl)
          rintro _ h228 ⟨g228, hW, e228, rfl⟩
          refine mm_iret (pc := 231) dX12_run_231 rfl ?_
          unfold rnS
          rw [if_neg (show ¬ M.2.2.1 14 x = 1 by rw [c31]; decide), if_neg (show ¬ M.2.2.1 14 x = 2 by rw [c31]; decide), if_neg (show ¬ M.2.2.1 14 x = 3 by rw [c31]; decide), if_neg (show ¬ M.2.2.1 14 x = 4 by rw [c31]; decide), if_neg (show ¬ M.2.2.1 14 x = 5 by rw [c31]; decide), if_neg (show ¬ M.2.2.1 14 x = 6 by rw [c31]; decide), if_neg (show ¬ M.2.2.1 14 x = 7 by rw [c31]; decide), if_neg (show ¬ M.2.2.1 14 x = 8 by rw [c31]; decide), if_pos c31, if_pos (Int32.not_le.mp c208)]
          exact ⟨g228, hW, e228, rfl⟩
      | n_ + 9, ht_ => cases ht_
    · have w1 : ¬ M.2.2.1 14 x = 1 := mm_swn (c31 0 (by decide)) (by decide)
      have w2 : ¬ M.2.2.1 14 x = 2 := mm_swn (c31 1 (by decide)) (by decide)
      have w3 : ¬ M.2.2.1 14 x = 3 := mm_swn (c31 2 (by decide)) (by decide)
      have w4 : ¬ M.2.2.1 14 x = 4 := mm_swn (c31 3 (by decide)) (by decide)
      have w5 : ¬ M.2.2.1 14 x = 5 := mm_swn (c31 4 (by decide)) (by decide)
      have w6 : ¬ M.2.2.1 14 x = 6 := mm_swn (c31 5 (by decide)) (by decide)
      have w7 : ¬ M.2.2.1 14 x = 7 := mm_swn (c31 6 (by decide)) (by decide)
      have w8 : ¬ M.2.2.1 14 x = 8 := mm_swn (c31 7 (by decide)) (by decide)
      have w9 : ¬ M.2.2.1 14 x = 9 := mm_swn (c31 8 (by decide)) (by decide)
      refine mm_aload_n (pc := 232) dX12_run_232 rfl (by first | trivial | assumption | exact mm_isr_rf _) ?_
      refine mm_aload_n (pc := 233) dX12_run_233 rfl (by first | trivial | assumption | exact mm_isr_rf _) ?_
      refine mw_geta (pc := 234) 16 hW dX12_run_234 fl_X12_54 rfl rfl ?_
      refine mm_iload_n (pc := 237) dX12_run_237 rfl ?_
      refine mw_iald (pc := 238) 16 x hW dX12_run_238 rfl rfl (by first | with_reducible rfl | assumption | rfl) (by show _ < 4000; omega) (by omega) ?_
      refine mm_iload_n (pc := 239) dX12_run_239 rfl ?_
      refine mm_iload_n (pc := 240) dX12_run_240 rfl ?_
      refine mm_callV (pc := 241) (As := [_, _, _]) (kd := ?kd_241) (fs := ?fs_241) dX12_run_241 vl_X12_464 (rec_ 1 M _ (M.2.2.1 16 x) (oK x) (oQ x) t u g_ hI hn hA.2.2.2.1 hA.1.1 hA.1.2.1 hK hW) ?hc_241 ?hk_241 rfl rfl (Nat.le_of_ble_eq_true rfl) ?_; (case hc_241 => exact hW.1); (case hk_241 => rfl)
      rintro _ h241 ⟨g241, hW, e241, rfl⟩
      refine mm_istore (pc := 244) dX12_run_244 rfl (Nat.le_of_ble_eq_true rfl) ?_
      refine mm_iload (pc := 246) dX12_run_246 rfl ?_
      refine mm_iconst (pc := 248) (v := 1) dX12_run_248 (by decide) ?_
      refine mm_icmp_ne (pc := 249) (tgt := 267) dX12_run_249 (by decide) (fun c249 => ?_) (fun c249 => ?_)
      · refine mm_iload (pc := 267) dX12_run_267 rfl ?_
        refine mm_iret (pc := 269) dX12_run_269 rfl ?_
        unfold rnS
        rw [if_neg w1, if_neg w2, if_neg w3, if_neg w4, if_neg w5, if_neg w6, if_neg w7, if_neg w8, if_neg w9]
        unfold rnT
        rw [if_neg c249]
        exact ⟨g241, hW, e241, rfl⟩
      · obtain ⟨s1_, ⟨t1_, ht1_, hI1_⟩, -⟩ := rnA_post n M (M.2.2.1 16 x) (oK x) (oQ x) t u g_ hI hn hA.2.2.2.1 hA.1.1 hA.1.2.1 hK
        have g1_ := rn_G.same s1_ g_
        refine mm_aload_n (pc := 252) dX12_run_252 rfl (by first | trivial | assumption | exact mm_isr_rf _) ?_
        refine mm_aload_n (pc := 253) dX12_run_253 rfl (by first | trivial | assumption | exact mm_isr_rf _) ?_
        refine mw_geta (pc := 254) 17 hW dX12_run_254 fl_X12_57 rfl rfl ?_
        refine mm_iload_n (pc := 257) dX12_run_257 rfl ?_
        refine mw_iald (pc := 258) 17 x hW dX12_run_258 rfl rfl (by first | with_reducible rfl | assumption | rfl) (by show _ < 4000; omega) (by omega) ?_
        refine mm_iload_n (pc := 259) dX12_run_259 rfl ?_
        refine mm_iload_n (pc := 260) dX12_run_260 rfl ?_
        refine mm_callV (pc := 261) (As := [_, _, _]) (kd := ?kd_261) (fs := ?fs_261) dX12_run_261 vl_X12_464 (rec_ 1 (mw_r25 (rnA ab n M (M.2.2.1 16 x) (oK x) (oQ x)).2 g241) h241 ((rnA ab n M (M.2.2.1 16 x) (oK x) (oQ x)).2.2.2.1 17 x) (oK x) (oQ x) t1_ u (rn_G_r25 g241 g1_) (rn_I_r25 g241 hI1_) (by omega) (g1_.2.1.2.1 x hx).2.2.2.2.1 hA.1.1 hA.1.2.1 hK hW) ?hc_261 ?hk_261 rfl rfl (Nat.le_of_ble_eq_true rfl) ?_; (case hc_261 => exact hW.1); (case hk_261 => rfl)
        rintro _ h261 ⟨g261, hW, e261, rfl⟩
        refine mm_goto (pc := 264) (tgt := 269) dX12_run_264 (by decide) ?_
        refine mm_iret (pc := 269) dX12_run_269 rfl ?_
        unfold rnS
        rw [if_neg w1, if_neg w2, if_neg w3, if_neg w4, if_neg w5, if_neg w6, if_neg w7, if_neg w8, if_neg w9]
        unfold rnT
        rw [if_pos c249]
        rw [rnA_r25 ab n] at hW ⊢
        rw [show (rp (rnA ab n (rnA ab n M (M.2.2.1 16 x) (oK x) (oQ x)).2 ((rnA ab n M (M.2.2.1 16 x) (oK x) (oQ x)).2.2.2.1 17 x) (oK x) (oQ x)) g241).2 = mw_r25 _ g241 from rfl, mw_r25_r25] at hW
        exact ⟨g261, hW, by rw [e261, e241], rfl⟩
  refine mm_aload_n (pc := 0) dX12_run_0 rfl (by first | trivial | assumption | exact mm_isr_rf _) ?_
  refine mw_geta (pc := 1) 15 hW dX12_run_1 fl_X12_51 rfl rfl ?_
  refine mm_iload_n (pc := 4) dX12_run_4 rfl ?_
  refine mw_iald (pc := 5) 15 x hW dX12_run_5 rfl rfl (by first | with_reducible rfl | assumption | rfl) (by show _ < 4000; omega) (by omega) ?_
  refine mm_iconst (pc := 6) (v := (-1)) dX12_run_6 (by decide) ?_
  refine mm_icmp_ne (pc := 7) (tgt := 17) dX12_run_7 (by decide) (fun c7 => ?_) (fun c7 => ?_)
  · refine mm_aload_n (pc := 17) dX12_run_17 rfl (by first | trivial | assumption | exact mm_isr_rf _) ?_
    refine mw_geta (pc := 18) 15 hW dX12_run_18 fl_X12_51 rfl rfl ?_
    refine mm_iload_n (pc := 21) dX12_run_21 rfl ?_
    refine mw_iald (pc := 22) 15 x hW dX12_run_22 rfl rfl (by first | with_reducible rfl | assumption | rfl) (by show _ < 4000; omega) (by omega) ?_
    refine mm_topi _ (show _ = rn_n M x by unfold rn_n; first | rw [if_pos c7] | rw [if_neg c7]) ?_
    exact mm_weakK lp_ (And.intro rfl (And.intro rfl (And.intro rfl (And.intro rfl trivial))))
  · refine mm_aload_n (pc := 10) dX12_run_10 rfl (by first | trivial | assumption | exact mm_isr_rf _) ?_
    refine mw_gets (pc := 11) 62 hW dX12_run_11 fl_X12_473 rfl rfl ?_
    refine mm_goto (pc := 14) (tgt := 23) dX12_run_14 (by decide) ?_
    refine mm_topi _ (show _ = rn_n M x by unfold rn_n; first | rw [if_pos c7] | rw [if_neg c7]) ?_
    exact mm_weakK lp_ (And.intro rfl (And.intro rfl (And.intro rfl (And.intro rfl trivial))))

