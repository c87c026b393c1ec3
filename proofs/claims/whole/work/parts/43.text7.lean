theorem rk_Lb {G : mm_G} {L : Nat × Nat} {h0 : mm_H} {m : Nat} {ad : Nat → Nat} {tb : Nat → Nat} {n a0 k q : Nat} {f : Nat} (hL : LT G m ad h0) (S_ : ∀ (e d deep : Nat), deep + e = 7 → deep ≤ 6 → ∀ (A : Nat → Prop) (M : mw_S) (h : mm_H) (t : Nat) (hd tl : Int32), pI tb n a0 M t → n - qs tb n t < f → (tl = -1 ∨ ∃ y, y < 4000 ∧ tl = nI y) → mw_W m ad h0 M h → ∀ Q : Option Value → mm_H → Prop, (∀ r h1, (mw_W m ad h0 (pL tb n k q f M t deep hd tl).2.1 h1 ∧ h1.2 = h.2 ∧ r = some (.int (pL tb n k q f M t deep hd tl).1)) → Q r h1) → mm_Run G mX12_readActions A L (d + 3 * e + 10) 38 [(4, .int hd), (5, .int tl), (0, .ref m), (1, .int (nI k)), (2, .int (nI q)), (3, .int (nI deep))] [] h Q) : ∀ (e d deep : Nat), deep + e = 7 → rk_B G L m ad h0 tb n a0 k q f deep (d + 3 * e + 10) := by
  intro e d deep he M h t hI hf hW
  refine mm_Ok.of [(0, .ref m), (1, .int (nI k)), (2, .int (nI q)), (3, .int (nI deep))] rfl kX12_readActions.2.2.2.2.2 rfl (fun A => ?_)
  refine mm_aload_n (pc := 0) dX12_readActions_0 rfl (by first | trivial | assumption | exact mm_isr_rf _) ?_
  refine mm_ldcSw (pc := 1) (i := 15) dX12_readActions_1 rfl ?_
  refine mm_callV (pc := 4) (As := [_]) (kd := ?kd_4_1) (fs := ?fs_4_1) dX12_readActions_4 vl_X12_263 (ok_isC hI.1 hL 15 4 (w := [123]) (by decide +kernel) (by decide +kernel) hW) ?hc_4_1 ?hk_4_1 rfl rfl (Nat.le_of_ble_eq_true rfl) ?_; (case hc_4_1 => exact hW.1); (case hk_4_1 => rfl)
  rintro _ _ ⟨rfl, rfl⟩
  refine mm_if_eq (pc := 7) (tgt := 16) dX12_readActions_7 (by decide) (fun c7 => ?_) (fun c7 => ?_)
  · have n7 := bI_d.mp c7
    refine mm_aload_n (pc := 16) dX12_readActions_16 rfl (by first | trivial | assumption | exact mm_isr_rf _) ?_
    refine mm_aload_n (pc := 17) dX12_readActions_17 rfl (by first | trivial | assumption | exact mm_isr_rf _) ?_
    refine mw_gets (pc := 18) 27 hW dX12_readActions_18 fl_X12_212 rfl rfl ?_
    refine mm_callV (pc := 21) (As := [_]) (kd := ?kd_21_2) (fs := ?fs_21_2) dX12_readActions_21 vl_X12_281 (ok_failC hI.1 hI.2.1 hW) ?hc_21_2 ?hk_21_2 rfl rfl (Nat.le_of_ble_eq_true rfl) ?_; (case hc_21_2 => exact hW.1); (case hk_21_2 => rfl)
    rintro _ h21 ⟨hW, e21, rfl⟩
    refine mm_pop (pc := 24) dX12_readActions_24 rfl ?_
    refine mm_bipush (pc := 25) (v := (-2)) dX12_readActions_25 (by decide) ?_
    refine mm_iret (pc := 27) dX12_readActions_27 rfl ?_
    unfold pB
    rw [if_neg (fun z => n7 z.1)]
    exact ⟨hW, e21, rfl⟩
  · have y7 := bI_n c7
    refine mm_iload_n (pc := 10) dX12_readActions_10 rfl ?_
    refine mm_bipush (pc := 11) (v := 6) dX12_readActions_11 (by decide) ?_
    refine mm_icmp_le (pc := 13) (tgt := 28) dX12_readActions_13 (by decide) (fun c13 => ?_) (fun c13 => ?_)
    · refine mm_aload_n (pc := 28) dX12_readActions_28 rfl (by first | trivial | assumption | exact mm_isr_rf _) ?_
      refine mm_callV (pc := 29) (As := []) (kd := ?kd_29_3) (fs := ?fs_29_3) dX12_readActions_29 vl_X12_284 (ok_wordC hI.1 hW) ?hc_29_3 ?hk_29_3 rfl rfl (Nat.le_of_ble_eq_true rfl) ?_; (case hc_29_3 => exact hW.1); (case hk_29_3 => rfl)
      rintro _ h29 ⟨hW, e29, rfl⟩
      refine mm_iconst (pc := 32) (v := (-1)) dX12_readActions_32 (by decide) ?_
      refine mm_istore (pc := 33) dX12_readActions_33 rfl (Nat.le_of_ble_eq_true rfl) ?_
      refine mm_iconst (pc := 35) (v := (-1)) dX12_readActions_35 (by decide) ?_
      refine mm_istore (pc := 36) dX12_readActions_36 rfl (Nat.le_of_ble_eq_true rfl) ?_
      have hd6 : deep ≤ 6 := (nI_leI (b := 6) (by omega) (by decide)).mp c13
      have hq5 := (qs_lt (tb := tb) (n := n) (t := t) (by omega)).2.1
      have hq6 := qs_le (tb := tb) (n := n) (t + 1)
      refine mm_weakK (S_ e d deep he hd6 A (pw tb n M t) h29 (t + 1) (-1) (-1) hI.w (by omega) (Or.inl rfl) hW _ ?_) (And.intro rfl (And.intro rfl (And.intro rfl (And.intro rfl (And.intro rfl (And.intro rfl trivial))))))
      rintro r h1 ⟨w1, w2, w3⟩
      unfold pB
      rw [if_pos ⟨y7, hd6⟩]
      exact ⟨w1, by rw [w2, e29], w3⟩
    · refine mm_aload_n (pc := 16) dX12_readActions_16 rfl (by first | trivial | assumption | exact mm_isr_rf _) ?_
      refine mm_aload_n (pc := 17) dX12_readActions_17 rfl (by first | trivial | assumption | exact mm_isr_rf _) ?_
      refine mw_gets (pc := 18) 27 hW dX12_readActions_18 fl_X12_212 rfl rfl ?_
      refine mm_callV (pc := 21) (As := [_]) (kd := ?kd_21_4) (fs := ?fs_21_4) dX12_readActions_21 vl_X12_281 (ok_failC hI.1 hI.2.1 hW) ?hc_21_4 ?hk_21_4 rfl rfl (Nat.le_of_ble_eq_true rfl) ?_; (case hc_21_4 => exact hW.1); (case hk_21_4 => rfl)
      rintro _ h21 ⟨hW, e21, rfl⟩
      refine mm_pop (pc := 24) dX12_readActions_24 rfl ?_
      refine mm_bipush (pc := 25) (v := (-2)) dX12_readActions_25 (by decide) ?_
      refine mm_iret (pc := 27) dX12_readActions_27 rfl ?_
      unfold pB
      rw [if_neg (fun z => c13 (nI_le (b := 6) z.2 (by decide)))]
      exact ⟨hW, e21, rfl⟩
theorem rk_L {G : mm_G} {L : Nat × Nat} {h0 : mm_H} {m : Nat} {ad : Nat → Nat} {tb : Nat → Nat} {n a0 k q : Nat} (hL : LT G m ad h0) : ∀ f, ∀ (e d deep : Nat), deep + e = 7 → deep ≤ 6 → ∀ (A : Nat → Prop) (M : mw_S) (h : mm_H) (t : Nat) (hd tl : Int32), pI tb n a0 M t → n - qs tb n t < f → (tl = -1 ∨ ∃ y, y < 4000 ∧ tl = nI y) → mw_W m ad h0 M h → ∀ Q : Option Value → mm_H → Prop, (∀ r h1, (mw_W m ad h0 (pL tb n k q f M t deep hd tl).2.1 h1 ∧ h1.2 = h.2 ∧ r = some (.int (pL tb n k q f M t deep hd tl).1)) → Q r h1) → mm_Run G mX12_readActions A L (d + 3 * e + 10) 38 [(4, .int hd), (5, .int tl), (0, .ref m), (1, .int (nI k)), (2, .int (nI q)), (3, .int (nI deep))] [] h Q := by
  intro f
  induction f with
  | zero => intro e d deep he hd6 A M h t hd tl hI hf; omega
  | succ f ih =>
    intro e d deep he hd6 A M h t hd tl hI hf htl hW Q hQ
    have rec2_ : ∀ j, rk_B G L m ad h0 tb n a0 k q f (deep + 1) (d + 3 * e + 7 + j) := by
      intro j
      obtain ⟨e', rfl⟩ : ∃ e', e = e' + 1 := ⟨e - 1, by omega⟩
      rw [show d + 3 * (e' + 1) + 7 + j = (d + j) + 3 * e' + 10 by omega]
      exact rk_Lb hL ih e' (d + j) (deep + 1) (by omega)
    rcases htl with rfl | ⟨y, hy, rfl⟩
    ·
      refine mm_aload_n (pc := 38) dX12_readActions_38 rfl (by first | trivial | assumption | exact mm_isr_rf _) ?_
      refine mm_ldcSw (pc := 39) (i := 18) dX12_readActions_39 rfl ?_
      refine mm_callV (pc := 42) (As := [_]) (kd := ?kd_42_5) (fs := ?fs_42_5) dX12_readActions_42 vl_X12_263 (ok_isC hI.1 hL 18 5 (w := [125]) (by decide +kernel) (by decide +kernel) hW) ?hc_42_5 ?hk_42_5 rfl rfl (Nat.le_of_ble_eq_true rfl) ?_; (case hc_42_5 => exact hW.1); (case hk_42_5 => rfl)
      rintro _ _ ⟨rfl, rfl⟩
      refine mm_if_ne (pc := 45) (tgt := 93) dX12_readActions_45 (by decide) (fun c45 => ?_) (fun c45 => ?_)
      · have y45 := bI_n c45
        refine mm_aload_n (pc := 93) dX12_readActions_93 rfl (by first | trivial | assumption | exact mm_isr_rf _) ?_
        refine mm_callV (pc := 94) (As := []) (kd := ?kd_94_6) (fs := ?fs_94_6) dX12_readActions_94 vl_X12_284 (ok_wordC hI.1 hW) ?hc_94_6 ?hk_94_6 rfl rfl (Nat.le_of_ble_eq_true rfl) ?_; (case hc_94_6 => exact hW.1); (case hk_94_6 => rfl)
        rintro _ h94 ⟨hW, e94, rfl⟩
        refine mm_iload (pc := 97) dX12_readActions_97 rfl ?_
        refine mm_iret (pc := 99) dX12_readActions_99 rfl ?_
        refine hQ _ _ ?_
        show mw_W m ad h0 (if cd tb n t = 5 then (hd, pw tb n M t, t + 1) else pN (pL tb n k q f) deep hd (-1) (pA tb n (pL tb n k q f) k q M t deep)).2.1 _ ∧ _ ∧ _ = some (Value.int (if cd tb n t = 5 then (hd, pw tb n M t, t + 1) else pN (pL tb n k q f) deep hd (-1) (pA tb n (pL tb n k q f) k q M t deep)).1)
        rw [if_pos y45]
        exact ⟨hW, e94, rfl⟩
      · have n45 := bI_d.mp c45
        refine mm_aload_n (pc := 48) dX12_readActions_48 rfl (by first | trivial | assumption | exact mm_isr_rf _) ?_
        refine mm_iload_n (pc := 49) dX12_readActions_49 rfl ?_
        refine mm_iload_n (pc := 50) dX12_readActions_50 rfl ?_
        refine mm_iload_n (pc := 51) dX12_readActions_51 rfl ?_
        refine mm_callV (pc := 52) (As := [_, _, _]) (kd := ?kd_52_7) (fs := ?fs_52_7) dX12_readActions_52 vl_X12_369 (ok_readAction (d := d + 3 * e) (deep := deep) rec2_ hI (by omega) hL hW) ?hc_52_7 ?hk_52_7 rfl rfl (Nat.le_of_ble_eq_true rfl) ?_; (case hc_52_7 => exact hW.1); (case hk_52_7 => rfl)
        rintro _ h52 ⟨hW, e52, rfl⟩
        refine mm_istore (pc := 55) dX12_readActions_55 rfl (Nat.le_of_ble_eq_true rfl) ?_
        refine mm_iload (pc := 57) dX12_readActions_57 rfl ?_
        refine mm_if_ge (pc := 59) (tgt := 65) dX12_readActions_59 (by decide) (fun c59 => ?_) (fun c59 => ?_)
        · refine mm_iload (pc := 65) dX12_readActions_65 rfl ?_
          refine mm_if_ge (pc := 67) (tgt := 77) dX12_readActions_67 (by decide) (fun c67 => absurd c67 (by decide)) (fun c67 => ?_)
          refine mm_iload (pc := 70) dX12_readActions_70 rfl ?_
          refine mm_istore (pc := 72) dX12_readActions_72 rfl (Nat.le_of_ble_eq_true rfl) ?_
          refine mm_goto (pc := 74) (tgt := 86) dX12_readActions_74 (by decide) ?_
          refine mm_iload (pc := 86) dX12_readActions_86 rfl ?_
          refine mm_istore (pc := 88) dX12_readActions_88 rfl (Nat.le_of_ble_eq_true rfl) ?_
          refine mm_goto (pc := 90) (tgt := 38) dX12_readActions_90 (by decide) ?_
          obtain ⟨a, a1, a2, a3, ⟨g, gt⟩, hlt⟩ := (pA_post (k := k) (q := q) (deep := deep) (pL_post k q f) hI (by omega)).resolve_left (fun z => by rw [z] at c59; exact absurd c59 (by decide))
          have hq3 := qs_le_of (tb := tb) (n := n) gt
          have hq4 := qs_le (tb := tb) (n := n) (pA tb n (pL tb n k q f) k q M t deep).2.2
          refine mm_weakK (ih e d deep he hd6 A (pA tb n (pL tb n k q f) k q M t deep).2.1 h52 (pA tb n (pL tb n k q f) k q M t deep).2.2 (pA tb n (pL tb n k q f) k q M t deep).1 (pA tb n (pL tb n k q f) k q M t deep).1 g (by omega) (Or.inr ⟨a, a2, a3⟩) hW Q ?_) (And.intro rfl (And.intro rfl (And.intro rfl (And.intro rfl (And.intro rfl (And.intro rfl trivial))))))
          rintro r h1 ⟨w1, w2, w3⟩
          refine hQ _ _ ?_
          show mw_W m ad h0 (if cd tb n t = 5 then (hd, pw tb n M t, t + 1) else pN (pL tb n k q f) deep hd (-1) (pA tb n (pL tb n k q f) k q M t deep)).2.1 _ ∧ _ ∧ _ = some (Value.int (if cd tb n t = 5 then (hd, pw tb n M t, t + 1) else pN (pL tb n k q f) deep hd (-1) (pA tb n (pL tb n k q f) k q M t deep)).1)
          rw [if_neg n45]
          unfold pN
          rw [if_pos c59, if_pos (by decide)]
          exact ⟨w1, by rw [w2, e52], w3⟩
        · refine mm_bipush (pc := 62) (v := (-2)) dX12_readActions_62 (by decide) ?_
          refine mm_iret (pc := 64) dX12_readActions_64 rfl ?_
          refine hQ _ _ ?_
          show mw_W m ad h0 (if cd tb n t = 5 then (hd, pw tb n M t, t + 1) else pN (pL tb n k q f) deep hd (-1) (pA tb n (pL tb n k q f) k q M t deep)).2.1 _ ∧ _ ∧ _ = some (Value.int (if cd tb n t = 5 then (hd, pw tb n M t, t + 1) else pN (pL tb n k q f) deep hd (-1) (pA tb n (pL tb n k q f) k q M t deep)).1)
          rw [if_neg n45]
          unfold pN
          rw [if_neg c59]
          exact ⟨hW, e52, rfl⟩
    ·
      refine mm_aload_n (pc := 38) dX12_readActions_38 rfl (by first | trivial | assumption | exact mm_isr_rf _) ?_
      refine mm_ldcSw (pc := 39) (i := 18) dX12_readActions_39 rfl ?_
      refine mm_callV (pc := 42) (As := [_]) (kd := ?kd_42_8) (fs := ?fs_42_8) dX12_readActions_42 vl_X12_263 (ok_isC hI.1 hL 18 5 (w := [125]) (by decide +kernel) (by decide +kernel) hW) ?hc_42_8 ?hk_42_8 rfl rfl (Nat.le_of_ble_eq_true rfl) ?_; (case hc_42_8 => exact hW.1); (case hk_42_8 => rfl)
      rintro _ _ ⟨rfl, rfl⟩
      refine mm_if_ne (pc := 45) (tgt := 93) dX12_readActions_45 (by decide) (fun c45 => ?_) (fun c45 => ?_)
      · have y45 := bI_n c45
        refine mm_aload_n (pc := 93) dX12_readActions_93 rfl (by first | trivial | assumption | exact mm_isr_rf _) ?_
        refine mm_callV (pc := 94) (As := []) (kd := ?kd_94_9) (fs := ?fs_94_9) dX12_readActions_94 vl_X12_284 (ok_wordC hI.1 hW) ?hc_94_9 ?hk_94_9 rfl rfl (Nat.le_of_ble_eq_true rfl) ?_; (case hc_94_9 => exact hW.1); (case hk_94_9 => rfl)
        rintro _ h94 ⟨hW, e94, rfl⟩
        refine mm_iload (pc := 97) dX12_readActions_97 rfl ?_
        refine mm_iret (pc := 99) dX12_readActions_99 rfl ?_
        refine hQ _ _ ?_
        show mw_W m ad h0 (if cd tb n t = 5 then (hd, pw tb n M t, t + 1) else pN (pL tb n k q f) deep hd (nI y) (pA tb n (pL tb n k q f) k q M t deep)).2.1 _ ∧ _ ∧ _ = some (Value.int (if cd tb n t = 5 then (hd, pw tb n M t, t + 1) else pN (pL tb n k q f) deep hd (nI y) (pA tb n (pL tb n k q f) k q M t deep)).1)
        rw [if_pos y45]
        exact ⟨hW, e94, rfl⟩
      · have n45 := bI_d.mp c45
        refine mm_aload_n (pc := 48) dX12_readActions_48 rfl (by first | trivial | assumption | exact mm_isr_rf _) ?_
        refine mm_iload_n (pc := 49) dX12_readActions_49 rfl ?_
        refine mm_iload_n (pc := 50) dX12_readActions_50 rfl ?_
        refine mm_iload_n (pc := 51) dX12_readActions_51 rfl ?_
        refine mm_callV (pc := 52) (As := [_, _, _]) (kd := ?kd_52_10) (fs := ?fs_52_10) dX12_readActions_52 vl_X12_369 (ok_readAction (d := d + 3 * e) (deep := deep) rec2_ hI (by omega) hL hW) ?hc_52_10 ?hk_52_10 rfl rfl (Nat.le_of_ble_eq_true rfl) ?_; (case hc_52_10 => exact hW.1); (case hk_52_10 => rfl)
        rintro _ h52 ⟨hW, e52, rfl⟩
        refine mm_istore (pc := 55) dX12_readActions_55 rfl (Nat.le_of_ble_eq_true rfl) ?_
        refine mm_iload (pc := 57) dX12_readActions_57 rfl ?_
        refine mm_if_ge (pc := 59) (tgt := 65) dX12_readActions_59 (by decide) (fun c59 => ?_) (fun c59 => ?_)
        · refine mm_iload (pc := 65) dX12_readActions_65 rfl ?_
          refine mm_if_ge (pc := 67) (tgt := 77) dX12_readActions_67 (by decide) (fun c67 => ?_) (fun c67 => absurd (nI_pos' (by omega)) c67)
          refine mm_aload_n (pc := 77) dX12_readActions_77 rfl (by first | trivial | assumption | exact mm_isr_rf _) ?_
          refine mw_geta (pc := 78) 18 hW dX12_readActions_78 fl_X12_60 rfl rfl ?_
          refine mm_iload (pc := 81) dX12_readActions_81 rfl ?_
          refine mm_iload (pc := 83) dX12_readActions_83 rfl ?_
          refine mw_iast (pc := 85) 18 y hW dX12_readActions_85 rfl rfl (by first | with_reducible rfl | assumption | rfl) (by show _ < 4000; omega) (by omega) (fun h85 hW e85 => ?_)
          refine mm_iload (pc := 86) dX12_readActions_86 rfl ?_
          refine mm_istore (pc := 88) dX12_readActions_88 rfl (Nat.le_of_ble_eq_true rfl) ?_
          refine mm_goto (pc := 90) (tgt := 38) dX12_readActions_90 (by decide) ?_
          obtain ⟨a, a1, a2, a3, ⟨g, gt⟩, hlt⟩ := (pA_post (k := k) (q := q) (deep := deep) (pL_post k q f) hI (by omega)).resolve_left (fun z => by rw [z] at c59; exact absurd c59 (by decide))
          have hq3 := qs_le_of (tb := tb) (n := n) gt
          have hq4 := qs_le (tb := tb) (n := n) (pA tb n (pL tb n k q f) k q M t deep).2.2
          refine mm_weakK (ih e d deep he hd6 A (mw_setV (pA tb n (pL tb n k q f) k q M t deep).2.1 18 y (pA tb n (pL tb n k q f) k q M t deep).1) h85 (pA tb n (pL tb n k q f) k q M t deep).2.2 hd (pA tb n (pL tb n k q f) k q M t deep).1 (g.sV rfl) (by omega) (Or.inr ⟨a, a2, a3⟩) hW Q ?_) (And.intro rfl (And.intro rfl (And.intro rfl (And.intro rfl (And.intro rfl (And.intro rfl trivial))))))
          rintro r h1 ⟨w1, w2, w3⟩
          refine hQ _ _ ?_
          show mw_W m ad h0 (if cd tb n t = 5 then (hd, pw tb n M t, t + 1) else pN (pL tb n k q f) deep hd (nI y) (pA tb n (pL tb n k q f) k q M t deep)).2.1 _ ∧ _ ∧ _ = some (Value.int (if cd tb n t = 5 then (hd, pw tb n M t, t + 1) else pN (pL tb n k q f) deep hd (nI y) (pA tb n (pL tb n k q f) k q M t deep)).1)
          rw [if_neg n45]
          unfold pN
          rw [if_pos c59, if_neg (nI_pos (by omega)), nI_clamp (by omega)]
          exact ⟨w1, by rw [w2, e85, e52], w3⟩
        · refine mm_bipush (pc := 62) (v := (-2)) dX12_readActions_62 (by decide) ?_
          refine mm_iret (pc := 64) dX12_readActions_64 rfl ?_
          refine hQ _ _ ?_
          show mw_W m ad h0 (if cd tb n t = 5 then (hd, pw tb n M t, t + 1) else pN (pL tb n k q f) deep hd (nI y) (pA tb n (pL tb n k q f) k q M t deep)).2.1 _ ∧ _ ∧ _ = some (Value.int (if cd tb n t = 5 then (hd, pw tb n M t, t + 1) else pN (pL tb n k q f) deep hd (nI y) (pA tb n (pL tb n k q f) k q M t deep)).1)
          rw [if_neg n45]
          unfold pN
          rw [if_neg c59]
          exact ⟨hW, e52, rfl⟩
theorem ok_readActions {G : mm_G} {L : Nat × Nat} {h0 : mm_H} {m : Nat} {ad : Nat → Nat} {tb : Nat → Nat} {n a0 k q : Nat} {d : Nat} (hL : LT G m ad h0) (f deep : Nat) (hd : 1 ≤ deep ∧ deep ≤ 7) : rk_B G L m ad h0 tb n a0 k q f deep (d + 28) := by
  obtain ⟨e, he⟩ : ∃ e, deep + e = 7 := ⟨7 - deep, by omega⟩
  obtain ⟨x, hx⟩ : ∃ x, d + 28 = x + 3 * e + 10 := ⟨d + 18 - 3 * e, by omega⟩
  rw [hx]
  exact rk_Lb hL (rk_L hL f) e x deep he

