/-! words of the reference by their numbers -/
theorem bt_eq {a c : Nat} (ha : a < 256) (hc : c < 128) : bt a = nI c ↔ a = c := by
  obtain ⟨h1, h2, h3⟩ := bt_f a ha
  rcases Nat.lt_or_ge a 128 with z | z
  · rw [h2 z, nI_eq (by omega) (by omega)]
  · refine ⟨fun e => absurd (show nI c < 0 by rw [← e]; exact h3 z) (nI_pos (by omega)), fun e => by omega⟩
theorem map_bt : ∀ {xs w : List Nat}, (∀ c ∈ xs, c < 256) → (∀ c ∈ w, c < 128) → (xs.map bt = w.map nI ↔ xs = w) := by
  intro xs
  induction xs with
  | nil =>
    intro w _ _
    cases w with
    | nil => exact ⟨fun _ => rfl, fun _ => rfl⟩
    | cons c w => exact ⟨fun h => (by cases h), fun h => (by cases h)⟩
  | cons x xs ih =>
    intro w hx hw
    cases w with
    | nil => exact ⟨fun h => (by cases h), fun h => (by cases h)⟩
    | cons c w =>
      have h1 := bt_eq (hx x List.mem_cons_self) (hw c List.mem_cons_self)
      have h2 := ih (w := w) (fun z hz => hx z (List.mem_cons_of_mem _ hz)) (fun z hz => hw z (List.mem_cons_of_mem _ hz))
      rw [List.map_cons, List.map_cons, List.cons.injEq, List.cons.injEq, h1, h2]
theorem wd_wn {M : mw_S} {tb : Nat → Nat} (h : tp M tb) (f t : Nat) : wd M f t = (wn tb f t).map bt := by
  unfold wd wn
  rw [List.map_map]
  exact List.map_congr_left (fun i _ => (h (f + i)).2)
theorem wn_mem {tb : Nat → Nat} {f t c : Nat} (h : c ∈ wn tb f t) : ∃ i, f ≤ i ∧ i < t ∧ c = tb i := by
  obtain ⟨i, hi, rfl⟩ := List.mem_map.mp h
  have := List.mem_range.mp hi
  exact ⟨f + i, by omega, by omega, rfl⟩
theorem tkA_asc : ∀ e ∈ tkA, ∀ c ∈ e.1, c < 128 := by decide +kernel
theorem bI_n {p : Prop} [Decidable p] (h : ¬ bI (decide p) = 0) : p := by
  rcases Decidable.em p with z | z
  · exact z
  · exact absurd (bI_d.mpr z) h
theorem map_nI_asc {w : List Nat} (h : ∀ c ∈ w, c < 128) : ascs (w.map nI) := by
  intro c hc
  obtain ⟨x, hx, rfl⟩ := List.mem_map.mp hc
  exact ⟨x, h x hx, rfl⟩
section TXC
variable {G : mm_G} {L : Nat × Nat} {d : Nat} {h h0 : mm_H} {m : Nat} {ad : Nat → Nat} {M : mw_S} {tb : Nat → Nat} {n t : Nat}
theorem ok_isC (hP : pP tb n M t) (hL : LT G m ad h0) (i c : Nat) {w : List Nat} (hi : mm_litb[i]? = some (w.map nI)) (hm : (w, c) ∈ tkA) (hW : mw_W m ad h0 M h) : mm_Ok G mX12_is L (d + 4) [.ref m, .ref (G.2.2.2.2.1 i)] h (fun r h1 => h1 = h ∧ r = some (.int (bI (decide (cd tb n t = c))))) := by
  refine (ok_X12_is (f := qs tb n t) (t := qe tb n t) hP.2.2.2.2.1 hP.2.2.2.2.2.1 (qe_b t).1 (by have := (qe_b (tb := tb) (n := n) t).2; have := hP.2.1; omega) (hL.at hW hi) (mm_lit_asc hi).2 hW).post ?_
  rintro r h1 ⟨rfl, rfl⟩
  refine ⟨rfl, ?_⟩
  have e1 : ∀ j, j ≤ 4 → (M.1 29 = nI j ↔ tkK tb n (qs tb n t) = j) := fun j hj => by
    rw [hP.2.2.2.2.2.2]
    exact nI_eq (by have := tkK_lt tb n (qs tb n t); omega) (by omega)
  have key : ((M.1 29 = 2 ∨ M.1 29 = 4) ∧ wd M (qs tb n t) (qe tb n t) = w.map nI) ↔ cd tb n t = c := by
    rw [show (M.1 29 = 2) = (M.1 29 = nI 2) from rfl, show (M.1 29 = 4) = (M.1 29 = nI 4) from rfl, e1 2 (by omega), e1 4 (by omega), wd_wn hP.2.2.1, map_bt (fun x hx => by obtain ⟨i, -, -, rfl⟩ := wn_mem hx; exact hP.c i) (tkA_asc _ hm)]
    exact tkC_iff hm
  rw [decide_eq_decide.mpr key]
theorem ok_wordC (hP : pP tb n M t) (hW : mw_W m ad h0 M h) : mm_Ok G mX12_word L (d + 1) [.ref m] h (fun r h1 => mw_W m ad h0 (pw tb n M t) h1 ∧ h1.2 = h.2 ∧ r = none) :=
  ok_X12_word hP.1 (by have := hP.2.1; omega) hP.2.2.2.1 (qe_b t).2 hP.2.2.1 rfl hW
theorem ok_failC (hP : pP tb n M t) (h30 : M.1 30 = 1) (hW : mw_W m ad h0 M h) : mm_Ok G mX12_fails L d [.ref m, .int (M.1 27)] h (fun r h1 => mw_W m ad h0 (pf tb n M t) h1 ∧ h1.2 = h.2 ∧ r = some (.int 0)) := by
  rw [hP.2.2.2.2.1]
  exact ok_X12_fails1 h30 hW

theorem ok_takeC (hP : pP tb n M t) (h30 : M.1 30 = 1) (hL : LT G m ad h0) (i c : Nat) {w : List Nat} (hi : mm_litb[i]? = some (w.map nI)) (hm : (w, c) ∈ tkA) (hW : mw_W m ad h0 M h) : mm_Ok G mX12_take L (d + 5) [.ref m, .ref (G.2.2.2.2.1 i)] h (fun r h1 => mw_W m ad h0 (pT tb n M t c).2.1 h1 ∧ h1.2 = h.2 ∧ r = some (.int (pT tb n M t c).1)) := by
  refine mm_Ok.of [(0, .ref m), (1, .ref (G.2.2.2.2.1 i))] rfl kX12_take.2.2.2.2.2 rfl (fun A => ?_)
  refine mm_aload_n (pc := 0) dX12_take_0 rfl (by first | trivial | assumption | exact mm_isr_rf _) ?_
  refine mm_aload_n (pc := 1) dX12_take_1 rfl (by first | trivial | assumption | exact mm_isr_rf _) ?_
  refine mm_callV (pc := 2) (As := [_]) (kd := ?kd_2_1) (fs := ?fs_2_1) dX12_take_2 vl_X12_263 (ok_isC hP hL i c hi hm hW) ?hc_2_1 ?hk_2_1 rfl rfl (Nat.le_of_ble_eq_true rfl) ?_; (case hc_2_1 => exact hW.1); (case hk_2_1 => rfl)
  rintro _ _ ⟨rfl, rfl⟩
  refine mm_if_ne (pc := 5) (tgt := 17) dX12_take_5 (by decide) (fun c5 => ?_) (fun c5 => ?_)
  · refine mm_aload_n (pc := 17) dX12_take_17 rfl (by first | trivial | assumption | exact mm_isr_rf _) ?_
    refine mm_callV (pc := 18) (As := []) (kd := ?kd_18_2) (fs := ?fs_18_2) dX12_take_18 vl_X12_284 (ok_wordC hP hW) ?hc_18_2 ?hk_18_2 rfl rfl (Nat.le_of_ble_eq_true rfl) ?_; (case hc_18_2 => exact hW.1); (case hk_18_2 => rfl)
    rintro _ h18 ⟨hW, e18, rfl⟩
    refine mm_iconst (pc := 21) (v := 1) dX12_take_21 (by decide) ?_
    refine mm_zret (pc := 22) dX12_take_22 rfl (by first | rfl | decide) ?_
    unfold pT
    rw [if_pos (bI_n c5)]
    exact ⟨hW, e18, rfl⟩
  · refine mm_aload_n (pc := 8) dX12_take_8 rfl (by first | trivial | assumption | exact mm_isr_rf _) ?_
    refine mm_aload_n (pc := 9) dX12_take_9 rfl (by first | trivial | assumption | exact mm_isr_rf _) ?_
    refine mw_gets (pc := 10) 27 hW dX12_take_10 fl_X12_212 rfl rfl ?_
    refine mm_callV (pc := 13) (As := [_]) (kd := ?kd_13_3) (fs := ?fs_13_3) dX12_take_13 vl_X12_281 (ok_failC hP h30 hW) ?hc_13_3 ?hk_13_3 rfl rfl (Nat.le_of_ble_eq_true rfl) ?_; (case hc_13_3 => exact hW.1); (case hk_13_3 => rfl)
    rintro _ h13 ⟨hW, e13, rfl⟩
    refine mm_zret (pc := 16) dX12_take_16 rfl (by first | rfl | decide) ?_
    unfold pT
    rw [if_neg (bI_d.mp c5)]
    exact ⟨hW, e13, rfl⟩

theorem ok_hookC (hP : pP tb n M t) (hL : LT G m ad h0) (hW : mw_W m ad h0 M h) : mm_Ok G mX12_hook L (d + 5) [.ref m] h (fun r h1 => h1 = h ∧ r = some (.int (hkI (cd tb n t)))) := by
  refine mm_Ok.of [(0, .ref m)] rfl kX12_hook.2.2.2.2.2 rfl (fun A => ?_)
  refine mm_aload_n (pc := 0) dX12_hook_0 rfl (by first | trivial | assumption | exact mm_isr_rf _) ?_
  refine mm_ldcSw (pc := 1) (i := 22) dX12_hook_1 rfl ?_
  refine mm_callV (pc := 4) (As := [_]) (kd := ?kd_4_4) (fs := ?fs_4_4) dX12_hook_4 vl_X12_263 (ok_isC hP hL 22 7 (w := [99, 104, 101, 99, 107]) (by decide +kernel) (by decide +kernel) hW) ?hc_4_4 ?hk_4_4 rfl rfl (Nat.le_of_ble_eq_true rfl) ?_; (case hc_4_4 => exact hW.1); (case hk_4_4 => rfl)
  rintro _ _ ⟨rfl, rfl⟩
  refine mm_if_eq (pc := 7) (tgt := 14) dX12_hook_7 (by decide) (fun c7 => ?_) (fun c7 => ?_)
  · have n7 := bI_d.mp c7
    refine mm_aload_n (pc := 14) dX12_hook_14 rfl (by first | trivial | assumption | exact mm_isr_rf _) ?_
    refine mm_ldcSw (pc := 15) (i := 23) dX12_hook_15 rfl ?_
    refine mm_callV (pc := 18) (As := [_]) (kd := ?kd_18_5) (fs := ?fs_18_5) dX12_hook_18 vl_X12_263 (ok_isC hP hL 23 8 (w := [98, 101, 102, 111, 114, 101]) (by decide +kernel) (by decide +kernel) hW) ?hc_18_5 ?hk_18_5 rfl rfl (Nat.le_of_ble_eq_true rfl) ?_; (case hc_18_5 => exact hW.1); (case hk_18_5 => rfl)
    rintro _ _ ⟨rfl, rfl⟩
    refine mm_if_eq (pc := 21) (tgt := 28) dX12_hook_21 (by decide) (fun c21 => ?_) (fun c21 => ?_)
    · have n21 := bI_d.mp c21
      refine mm_aload_n (pc := 28) dX12_hook_28 rfl (by first | trivial | assumption | exact mm_isr_rf _) ?_
      refine mm_ldcSw (pc := 29) (i := 24) dX12_hook_29 rfl ?_
      refine mm_callV (pc := 32) (As := [_]) (kd := ?kd_32_6) (fs := ?fs_32_6) dX12_hook_32 vl_X12_263 (ok_isC hP hL 24 9 (w := [115, 116, 101, 112]) (by decide +kernel) (by decide +kernel) hW) ?hc_32_6 ?hk_32_6 rfl rfl (Nat.le_of_ble_eq_true rfl) ?_; (case hc_32_6 => exact hW.1); (case hk_32_6 => rfl)
      rintro _ _ ⟨rfl, rfl⟩
      refine mm_if_eq (pc := 35) (tgt := 42) dX12_hook_35 (by decide) (fun c35 => ?_) (fun c35 => ?_)
      · have n35 := bI_d.mp c35
        refine mm_aload_n (pc := 42) dX12_hook_42 rfl (by first | trivial | assumption | exact mm_isr_rf _) ?_
        refine mm_ldcSw (pc := 43) (i := 25) dX12_hook_43 rfl ?_
        refine mm_callV (pc := 46) (As := [_]) (kd := ?kd_46_7) (fs := ?fs_46_7) dX12_hook_46 vl_X12_263 (ok_isC hP hL 25 10 (w := [97, 102, 116, 101, 114]) (by decide +kernel) (by decide +kernel) hW) ?hc_46_7 ?hk_46_7 rfl rfl (Nat.le_of_ble_eq_true rfl) ?_; (case hc_46_7 => exact hW.1); (case hk_46_7 => rfl)
        rintro _ _ ⟨rfl, rfl⟩
        refine mm_if_eq (pc := 49) (tgt := 56) dX12_hook_49 (by decide) (fun c49 => ?_) (fun c49 => ?_)
        · have n49 := bI_d.mp c49
          refine mm_aload_n (pc := 56) dX12_hook_56 rfl (by first | trivial | assumption | exact mm_isr_rf _) ?_
          refine mm_ldcSw (pc := 57) (i := 26) dX12_hook_57 rfl ?_
          refine mm_callV (pc := 60) (As := [_]) (kd := ?kd_60_8) (fs := ?fs_60_8) dX12_hook_60 vl_X12_263 (ok_isC hP hL 26 11 (w := [110, 111, 116, 101]) (by decide +kernel) (by decide +kernel) hW) ?hc_60_8 ?hk_60_8 rfl rfl (Nat.le_of_ble_eq_true rfl) ?_; (case hc_60_8 => exact hW.1); (case hk_60_8 => rfl)
          rintro _ _ ⟨rfl, rfl⟩
          refine mm_if_eq (pc := 63) (tgt := 70) dX12_hook_63 (by decide) (fun c63 => ?_) (fun c63 => ?_)
          · have n63 := bI_d.mp c63
            refine mm_aload_n (pc := 70) dX12_hook_70 rfl (by first | trivial | assumption | exact mm_isr_rf _) ?_
            refine mm_ldcSw (pc := 71) (i := 27) dX12_hook_71 rfl ?_
            refine mm_callV (pc := 74) (As := [_]) (kd := ?kd_74_9) (fs := ?fs_74_9) dX12_hook_74 vl_X12_263 (ok_isC hP hL 27 12 (w := [99, 108, 111, 115, 101]) (by decide +kernel) (by decide +kernel) hW) ?hc_74_9 ?hk_74_9 rfl rfl (Nat.le_of_ble_eq_true rfl) ?_; (case hc_74_9 => exact hW.1); (case hk_74_9 => rfl)
            rintro _ _ ⟨rfl, rfl⟩
            refine mm_if_eq (pc := 77) (tgt := 84) dX12_hook_77 (by decide) (fun c77 => ?_) (fun c77 => ?_)
            · have n77 := bI_d.mp c77
              refine mm_iconst (pc := 84) (v := (-1)) dX12_hook_84 (by decide) ?_
              refine mm_iret (pc := 85) dX12_hook_85 rfl ?_
              exact ⟨rfl, by unfold hkI; rw [if_neg (by omega)]⟩
            · have y77 := bI_n c77
              refine mm_iconst (pc := 80) (v := 5) dX12_hook_80 (by decide) ?_
              refine mm_goto (pc := 81) (tgt := 85) dX12_hook_81 (by decide) ?_
              refine mm_iret (pc := 85) dX12_hook_85 rfl ?_
              exact ⟨rfl, by rw [y77]; rfl⟩
          · have y63 := bI_n c63
            refine mm_iconst (pc := 66) (v := 4) dX12_hook_66 (by decide) ?_
            refine mm_goto (pc := 67) (tgt := 85) dX12_hook_67 (by decide) ?_
            refine mm_iret (pc := 85) dX12_hook_85 rfl ?_
            exact ⟨rfl, by rw [y63]; rfl⟩
        · have y49 := bI_n c49
          refine mm_iconst (pc := 52) (v := 3) dX12_hook_52 (by decide) ?_
          refine mm_goto (pc := 53) (tgt := 85) dX12_hook_53 (by decide) ?_
          refine mm_iret (pc := 85) dX12_hook_85 rfl ?_
          exact ⟨rfl, by rw [y49]; rfl⟩
      · have y35 := bI_n c35
        refine mm_iconst (pc := 38) (v := 2) dX12_hook_38 (by decide) ?_
        refine mm_goto (pc := 39) (tgt := 85) dX12_hook_39 (by decide) ?_
        refine mm_iret (pc := 85) dX12_hook_85 rfl ?_
        exact ⟨rfl, by rw [y35]; rfl⟩
    · have y21 := bI_n c21
      refine mm_iconst (pc := 24) (v := 1) dX12_hook_24 (by decide) ?_
      refine mm_goto (pc := 25) (tgt := 85) dX12_hook_25 (by decide) ?_
      refine mm_iret (pc := 85) dX12_hook_85 rfl ?_
      exact ⟨rfl, by rw [y21]; rfl⟩
  · have y7 := bI_n c7
    refine mm_iconst (pc := 10) (v := 0) dX12_hook_10 (by decide) ?_
    refine mm_goto (pc := 11) (tgt := 85) dX12_hook_11 (by decide) ?_
    refine mm_iret (pc := 85) dX12_hook_85 rfl ?_
    exact ⟨rfl, by rw [y7]; rfl⟩

theorem ok_opC (hP : pP tb n M t) (hL : LT G m ad h0) (hW : mw_W m ad h0 M h) : mm_Ok G mX12_op L (d + 5) [.ref m] h (fun r h1 => h1 = h ∧ r = some (.int (opI (cd tb n t)))) := by
  refine mm_Ok.of [(0, .ref m)] rfl kX12_op.2.2.2.2.2 rfl (fun A => ?_)
  refine mm_aload_n (pc := 0) dX12_op_0 rfl (by first | trivial | assumption | exact mm_isr_rf _) ?_
  refine mm_ldcSw (pc := 1) (i := 28) dX12_op_1 rfl ?_
  refine mm_callV (pc := 4) (As := [_]) (kd := ?kd_4_10) (fs := ?fs_4_10) dX12_op_4 vl_X12_263 (ok_isC hP hL 28 13 (w := [117, 112]) (by decide +kernel) (by decide +kernel) hW) ?hc_4_10 ?hk_4_10 rfl rfl (Nat.le_of_ble_eq_true rfl) ?_; (case hc_4_10 => exact hW.1); (case hk_4_10 => rfl)
  rintro _ _ ⟨rfl, rfl⟩
  refine mm_if_eq (pc := 7) (tgt := 14) dX12_op_7 (by decide) (fun c7 => ?_) (fun c7 => ?_)
  · have n7 := bI_d.mp c7
    refine mm_aload_n (pc := 14) dX12_op_14 rfl (by first | trivial | assumption | exact mm_isr_rf _) ?_
    refine mm_ldcSw (pc := 15) (i := 29) dX12_op_15 rfl ?_
    refine mm_callV (pc := 18) (As := [_]) (kd := ?kd_18_11) (fs := ?fs_18_11) dX12_op_18 vl_X12_263 (ok_isC hP hL 29 14 (w := [99, 97, 108, 108]) (by decide +kernel) (by decide +kernel) hW) ?hc_18_11 ?hk_18_11 rfl rfl (Nat.le_of_ble_eq_true rfl) ?_; (case hc_18_11 => exact hW.1); (case hk_18_11 => rfl)
    rintro _ _ ⟨rfl, rfl⟩
    refine mm_if_eq (pc := 21) (tgt := 28) dX12_op_21 (by decide) (fun c21 => ?_) (fun c21 => ?_)
    · have n21 := bI_d.mp c21
      refine mm_aload_n (pc := 28) dX12_op_28 rfl (by first | trivial | assumption | exact mm_isr_rf _) ?_
      refine mm_ldcSw (pc := 29) (i := 30) dX12_op_29 rfl ?_
      refine mm_callV (pc := 32) (As := [_]) (kd := ?kd_32_12) (fs := ?fs_32_12) dX12_op_32 vl_X12_263 (ok_isC hP hL 30 15 (w := [115, 97, 121]) (by decide +kernel) (by decide +kernel) hW) ?hc_32_12 ?hk_32_12 rfl rfl (Nat.le_of_ble_eq_true rfl) ?_; (case hc_32_12 => exact hW.1); (case hk_32_12 => rfl)
      rintro _ _ ⟨rfl, rfl⟩
      refine mm_if_eq (pc := 35) (tgt := 42) dX12_op_35 (by decide) (fun c35 => ?_) (fun c35 => ?_)
      · have n35 := bI_d.mp c35
        refine mm_aload_n (pc := 42) dX12_op_42 rfl (by first | trivial | assumption | exact mm_isr_rf _) ?_
        refine mm_ldcSw (pc := 43) (i := 31) dX12_op_43 rfl ?_
        refine mm_callV (pc := 46) (As := [_]) (kd := ?kd_46_13) (fs := ?fs_46_13) dX12_op_46 vl_X12_263 (ok_isC hP hL 31 16 (w := [97, 100, 100]) (by decide +kernel) (by decide +kernel) hW) ?hc_46_13 ?hk_46_13 rfl rfl (Nat.le_of_ble_eq_true rfl) ?_; (case hc_46_13 => exact hW.1); (case hk_46_13 => rfl)
        rintro _ _ ⟨rfl, rfl⟩
        refine mm_if_eq (pc := 49) (tgt := 56) dX12_op_49 (by decide) (fun c49 => ?_) (fun c49 => ?_)
        · have n49 := bI_d.mp c49
          refine mm_aload_n (pc := 56) dX12_op_56 rfl (by first | trivial | assumption | exact mm_isr_rf _) ?_
          refine mm_ldcSw (pc := 57) (i := 32) dX12_op_57 rfl ?_
          refine mm_callV (pc := 60) (As := [_]) (kd := ?kd_60_14) (fs := ?fs_60_14) dX12_op_60 vl_X12_263 (ok_isC hP hL 32 17 (w := [116, 97, 107, 101]) (by decide +kernel) (by decide +kernel) hW) ?hc_60_14 ?hk_60_14 rfl rfl (Nat.le_of_ble_eq_true rfl) ?_; (case hc_60_14 => exact hW.1); (case hk_60_14 => rfl)
          rintro _ _ ⟨rfl, rfl⟩
          refine mm_if_eq (pc := 63) (tgt := 70) dX12_op_63 (by decide) (fun c63 => ?_) (fun c63 => ?_)
          · have n63 := bI_d.mp c63
            refine mm_aload_n (pc := 70) dX12_op_70 rfl (by first | trivial | assumption | exact mm_isr_rf _) ?_
            refine mm_ldcSw (pc := 71) (i := 33) dX12_op_71 rfl ?_
            refine mm_callV (pc := 74) (As := [_]) (kd := ?kd_74_15) (fs := ?fs_74_15) dX12_op_74 vl_X12_263 (ok_isC hP hL 33 18 (w := [119, 97, 114, 109]) (by decide +kernel) (by decide +kernel) hW) ?hc_74_15 ?hk_74_15 rfl rfl (Nat.le_of_ble_eq_true rfl) ?_; (case hc_74_15 => exact hW.1); (case hk_74_15 => rfl)
            rintro _ _ ⟨rfl, rfl⟩
            refine mm_if_eq (pc := 77) (tgt := 85) dX12_op_77 (by decide) (fun c77 => ?_) (fun c77 => ?_)
            · have n77 := bI_d.mp c77
              refine mm_aload_n (pc := 85) dX12_op_85 rfl (by first | trivial | assumption | exact mm_isr_rf _) ?_
              refine mm_ldcSw (pc := 86) (i := 34) dX12_op_86 rfl ?_
              refine mm_callV (pc := 89) (As := [_]) (kd := ?kd_89_16) (fs := ?fs_89_16) dX12_op_89 vl_X12_263 (ok_isC hP hL 34 19 (w := [102, 97, 105, 108]) (by decide +kernel) (by decide +kernel) hW) ?hc_89_16 ?hk_89_16 rfl rfl (Nat.le_of_ble_eq_true rfl) ?_; (case hc_89_16 => exact hW.1); (case hk_89_16 => rfl)
              rintro _ _ ⟨rfl, rfl⟩
              refine mm_if_eq (pc := 92) (tgt := 100) dX12_op_92 (by decide) (fun c92 => ?_) (fun c92 => ?_)
              · have n92 := bI_d.mp c92
                refine mm_aload_n (pc := 100) dX12_op_100 rfl (by first | trivial | assumption | exact mm_isr_rf _) ?_
                refine mm_ldcSw (pc := 101) (i := 35) dX12_op_101 rfl ?_
                refine mm_callV (pc := 104) (As := [_]) (kd := ?kd_104_17) (fs := ?fs_104_17) dX12_op_104 vl_X12_263 (ok_isC hP hL 35 20 (w := [114, 101, 102, 117, 115, 101]) (by decide +kernel) (by decide +kernel) hW) ?hc_104_17 ?hk_104_17 rfl rfl (Nat.le_of_ble_eq_true rfl) ?_; (case hc_104_17 => exact hW.1); (case hk_104_17 => rfl)
                rintro _ _ ⟨rfl, rfl⟩
                refine mm_if_eq (pc := 107) (tgt := 115) dX12_op_107 (by decide) (fun c107 => ?_) (fun c107 => ?_)
                · have n107 := bI_d.mp c107
                  refine mm_aload_n (pc := 115) dX12_op_115 rfl (by first | trivial | assumption | exact mm_isr_rf _) ?_
                  refine mm_ldcSw (pc := 116) (i := 36) dX12_op_116 rfl ?_
                  refine mm_callV (pc := 119) (As := [_]) (kd := ?kd_119_18) (fs := ?fs_119_18) dX12_op_119 vl_X12_263 (ok_isC hP hL 36 21 (w := [108, 101, 115, 115]) (by decide +kernel) (by decide +kernel) hW) ?hc_119_18 ?hk_119_18 rfl rfl (Nat.le_of_ble_eq_true rfl) ?_; (case hc_119_18 => exact hW.1); (case hk_119_18 => rfl)
                  rintro _ _ ⟨rfl, rfl⟩
                  refine mm_if_eq (pc := 122) (tgt := 130) dX12_op_122 (by decide) (fun c122 => ?_) (fun c122 => ?_)
                  · have n122 := bI_d.mp c122
                    refine mm_aload_n (pc := 130) dX12_op_130 rfl (by first | trivial | assumption | exact mm_isr_rf _) ?_
                    refine mm_ldcSw (pc := 131) (i := 37) dX12_op_131 rfl ?_
                    refine mm_callV (pc := 134) (As := [_]) (kd := ?kd_134_19) (fs := ?fs_134_19) dX12_op_134 vl_X12_263 (ok_isC hP hL 37 22 (w := [116, 114, 121]) (by decide +kernel) (by decide +kernel) hW) ?hc_134_19 ?hk_134_19 rfl rfl (Nat.le_of_ble_eq_true rfl) ?_; (case hc_134_19 => exact hW.1); (case hk_134_19 => rfl)
                    rintro _ _ ⟨rfl, rfl⟩
                    refine mm_if_eq (pc := 137) (tgt := 145) dX12_op_137 (by decide) (fun c137 => ?_) (fun c137 => ?_)
                    · have n137 := bI_d.mp c137
                      refine mm_iconst (pc := 145) (v := 0) dX12_op_145 (by decide) ?_
                      refine mm_iret (pc := 146) dX12_op_146 rfl ?_
                      exact ⟨rfl, by unfold opI; rw [if_neg (by omega)]⟩
                    · have y137 := bI_n c137
                      refine mm_bipush (pc := 140) (v := 10) dX12_op_140 (by decide) ?_
                      refine mm_goto (pc := 142) (tgt := 146) dX12_op_142 (by decide) ?_
                      refine mm_iret (pc := 146) dX12_op_146 rfl ?_
                      exact ⟨rfl, by rw [y137]; rfl⟩
                  · have y122 := bI_n c122
                    refine mm_bipush (pc := 125) (v := 9) dX12_op_125 (by decide) ?_
                    refine mm_goto (pc := 127) (tgt := 146) dX12_op_127 (by decide) ?_
                    refine mm_iret (pc := 146) dX12_op_146 rfl ?_
                    exact ⟨rfl, by rw [y122]; rfl⟩
                · have y107 := bI_n c107
                  refine mm_bipush (pc := 110) (v := 8) dX12_op_110 (by decide) ?_
                  refine mm_goto (pc := 112) (tgt := 146) dX12_op_112 (by decide) ?_
                  refine mm_iret (pc := 146) dX12_op_146 rfl ?_
                  exact ⟨rfl, by rw [y107]; rfl⟩
              · have y92 := bI_n c92
                refine mm_bipush (pc := 95) (v := 7) dX12_op_95 (by decide) ?_
                refine mm_goto (pc := 97) (tgt := 146) dX12_op_97 (by decide) ?_
                refine mm_iret (pc := 146) dX12_op_146 rfl ?_
                exact ⟨rfl, by rw [y92]; rfl⟩
            · have y77 := bI_n c77
              refine mm_bipush (pc := 80) (v := 6) dX12_op_80 (by decide) ?_
              refine mm_goto (pc := 82) (tgt := 146) dX12_op_82 (by decide) ?_
              refine mm_iret (pc := 146) dX12_op_146 rfl ?_
              exact ⟨rfl, by rw [y77]; rfl⟩
          · have y63 := bI_n c63
            refine mm_iconst (pc := 66) (v := 5) dX12_op_66 (by decide) ?_
            refine mm_goto (pc := 67) (tgt := 146) dX12_op_67 (by decide) ?_
            refine mm_iret (pc := 146) dX12_op_146 rfl ?_
            exact ⟨rfl, by rw [y63]; rfl⟩
        · have y49 := bI_n c49
          refine mm_iconst (pc := 52) (v := 4) dX12_op_52 (by decide) ?_
          refine mm_goto (pc := 53) (tgt := 146) dX12_op_53 (by decide) ?_
          refine mm_iret (pc := 146) dX12_op_146 rfl ?_
          exact ⟨rfl, by rw [y49]; rfl⟩
      · have y35 := bI_n c35
        refine mm_iconst (pc := 38) (v := 3) dX12_op_38 (by decide) ?_
        refine mm_goto (pc := 39) (tgt := 146) dX12_op_39 (by decide) ?_
        refine mm_iret (pc := 146) dX12_op_146 rfl ?_
        exact ⟨rfl, by rw [y35]; rfl⟩
    · have y21 := bI_n c21
      refine mm_iconst (pc := 24) (v := 2) dX12_op_24 (by decide) ?_
      refine mm_goto (pc := 25) (tgt := 146) dX12_op_25 (by decide) ?_
      refine mm_iret (pc := 146) dX12_op_146 rfl ?_
      exact ⟨rfl, by rw [y21]; rfl⟩
  · have y7 := bI_n c7
    refine mm_iconst (pc := 10) (v := 1) dX12_op_10 (by decide) ?_
    refine mm_goto (pc := 11) (tgt := 146) dX12_op_11 (by decide) ?_
    refine mm_iret (pc := 146) dX12_op_146 rfl ?_
    exact ⟨rfl, by rw [y7]; rfl⟩
end TXC

