/-! the class's checker: a kind -/
def kFl (M : mw_S) (ab : Nat → Option Nat) (k : Nat) (x p : Int32) : Prop := (¬ kfi (M.2.2.2.1 100) (M.2.2.2.1 100 k) k = none ∧ x = 2 ∧ p = M.2.2.1 90 k) ∨ (kfi (M.2.2.2.1 100) (M.2.2.2.1 100 k) k = none ∧ ab k = none ∧ x = 2 ∧ p = M.2.2.1 91 k) ∨ (kfi (M.2.2.2.1 100) (M.2.2.2.1 100 k) k = none ∧ ¬ ab k = none ∧ bF M ab k (zG M k) (zE M k) x p)
/-- what a kind's check leaves: settled or untouched -/
def ckF (C C1 : cw_C) (M : mw_S) (k : Nat) : Prop := ∃ Cm, stF C Cm M k ∧ k2 Cm C1
def kPo (ad : Nat → Nat → Nat) (h0 : mm_H) (C : cw_C) (h : mm_H) (M : mw_S) (ab : Nat → Option Nat) (k : Nat) (r : Option Value) (h1 : mm_H) : Prop := r = none ∧ ∃ C1, cw ad h0 C1 h1 ∧ ckF C C1 M k ∧ h1.2 = h.2 ∧ kFl M ab k (cI C1 2 0 0) (cI C1 2 0 1) ∧ (cI C1 2 0 0 = 0 → ckE ad C1 M ab (k + 1))
theorem ckE.next {ad : Nat → Nat → Nat} {C Cm : cw_C} {M : mw_S} {ab : Nat → Option Nat} {k : Nat} (hE : ckE ad C M ab k) (y : stF C Cm M k) (hs : kSt ad Cm M ab k) (hkf : kf_ok ab (k + 1)) (hk : k < 50) (n4 : k < cN C 4) (n21 : k < cN C 21) (hB : hBm M k) : ckE ad Cm M ab (k + 1) := by
  obtain ⟨⟨a1, a2, a3, a4⟩, b, c, ⟨d1, d2⟩, e, f⟩ := hE
  refine ⟨⟨hkf, by omega, by rw [y.2.1]; omega, by rw [y.2.1]; omega⟩, fun i hi => ?_, fun g hg => (c g (by rw [← y.2.1]; exact hg)).st y, ⟨by rw [y.2.1]; exact d1, d2⟩, fun i hi => ?_, f.same (y.1 0 (by decide) (by decide)) (fun _ _ => rfl) rfl rfl rfl rfl rfl rfl rfl⟩
  · by_cases z : i = k
    · rw [z]; exact hs
    · exact (b i (by omega)).st y z (e i (by omega)) d2
  · by_cases z : i = k
    · rw [z]; exact hB
    · exact e i (by omega)

theorem ckk_ok {G : mm_G} {L : Nat × Nat} {d : Nat} {h : mm_H} {h0 : mm_H} {ad : Nat → Nat → Nat} {C : cw_C} {M : mw_S} {ab : Nat → Option Nat} {nk np nn a : Nat} (hE : ckE ad C M ab (nk + a)) (hR : rgR ad C M nk np) (hD : pkD ad C np nn) (hA : ∀ i, i < nn → cR C 20 np i = some (ad 4 (nk + i))) (hnm : ∀ i, i < nk + nn → i < cN C 4 ∧ cL C 4 i 0 = M.2.2.2.1 100 i) (hnn : nn ≤ 10) (n2 : 0 < cN C 2) (h22 : cR C 2 0 2 = some (ad 7 0)) (h23 : cR C 2 0 3 = some (ad 5 np)) (h00 : cI C 2 0 0 = 0) (ha : a < nn) (hF : kdF ad C M (nk + a) (zE M (nk + a))) (n21 : nk + a < cN C 21) (hab : ab (nk + a) = kfi (M.2.2.2.1 100) (M.2.2.2.1 103 (nk + a)) (nk + a)) (hkf : kf_ok ab (nk + a + 1)) (hB : hBm M (nk + a)) (hbo : ∀ g, zG M (nk + a) ≤ g → g < zE M (nk + a) → bOk M (nk + a) g) (hb10 : ∀ i, M.2.2.1 10 i = 0 ∨ M.2.2.1 10 i = 1) (hho : cI C 5 np 4 = M.2.2.1 5 (nk + a)) (hpk : M.2.2.1 7 (nk + a) = nI np) (hC : cw ad h0 C h) : mm_Ok G mX2_checkKind L (d + 10) [.ref (ad 2 0), .ref (ad 4 (nk + a)), .int (nI a)] h (fun r h1 => kPo ad h0 C h M ab (nk + a) r h1) := by
  refine mm_Ok.of [(0, .ref (ad 2 0)), (1, .ref (ad 4 (nk + a))), (2, .int (nI a))] rfl kX2_checkKind.2.2.2.2.2 rfl (fun A => ?_)
  have hk40 := hR.2.1.1
  have n4 : nk + a < cN C 4 := (hnm (nk + a) (by omega)).1
  have n7 := hR.1.1
  have hk50 : nk + a < 50 := by omega
  refine mm_aload_n (pc := 0) dX2_checkKind_0 rfl (by first | trivial | assumption | exact mm_isr_rf _) ?_
  refine mm_aload_n (pc := 1) dX2_checkKind_1 rfl (by first | trivial | assumption | exact mm_isr_rf _) ?_
  refine cw_gl (pc := 2) 4 (nk + a) 0 hC (rfl) rfl (n4) dX2_checkKind_2 fl_X2_66 rfl rfl rfl ?_
  rw [hF.1.1]
  refine mm_iload_n (pc := 5) dX2_checkKind_5 rfl ?_
  refine mm_callV (pc := 6) (As := [_, _]) (kd := ?kd_6_1) (fs := ?fs_6_1) dX2_checkKind_6 vl_X2_71 (ckn_ok (d := d + 8) hR hD hA hnm hnn n2 h22 h23 hC (by omega)) ?hc_6_1 ?hk_6_1 rfl rfl (Nat.le_of_ble_eq_true rfl) ?_; (case hc_6_1 => exact cw_cell (f := 2) hC rfl rfl n2); (case hk_6_1 => rfl)
  rintro _ _ ⟨rfl, rfl⟩
  refine mm_ifnull (pc := 9) (tgt := 22) dX2_checkKind_9 (by decide) (by first | trivial | assumption | exact mm_isr_rf _) (fun c9 => ?_) (fun a9 c9 => ?_)
  · have hn1 : kfi (M.2.2.2.1 100) (M.2.2.2.1 100 (nk + a)) (nk + a) = none := by
      cases z : kfi (M.2.2.2.1 100) (M.2.2.2.1 100 (nk + a)) (nk + a) with
      | none => rfl
      | some x => rw [z] at c9; cases c9
    refine mm_aload_n (pc := 22) dX2_checkKind_22 rfl (by first | trivial | assumption | exact mm_isr_rf _) ?_
    refine mm_aload_n (pc := 23) dX2_checkKind_23 rfl (by first | trivial | assumption | exact mm_isr_rf _) ?_
    refine cw_gl (pc := 24) 4 (nk + a) 2 hC (rfl) rfl (n4) dX2_checkKind_24 fl_X2_78 rfl rfl rfl ?_
    rw [hF.1.2.2.1]
    refine mm_iload_n (pc := 27) dX2_checkKind_27 rfl ?_
    refine mm_callV (pc := 28) (As := [_, _]) (kd := ?kd_28_2) (fs := ?fs_28_2) dX2_checkKind_28 vl_X2_71 (ckn_ok (d := d + 8) hR hD hA hnm hnn n2 h22 h23 hC (by omega)) ?hc_28_2 ?hk_28_2 rfl rfl (Nat.le_of_ble_eq_true rfl) ?_; (case hc_28_2 => exact cw_cell (f := 2) hC rfl rfl n2); (case hk_28_2 => rfl)
    rintro _ _ ⟨rfl, rfl⟩
    rw [← hab]
    refine mm_astore_n (pc := 31) dX2_checkKind_31 (by first | trivial | assumption | exact mm_isr_rf _) rfl (Nat.le_of_ble_eq_true rfl) ?_
    refine mm_aload_n (pc := 32) dX2_checkKind_32 rfl (by first | trivial | assumption | exact mm_isr_rf _) ?_
    refine mm_ifnonnull (pc := 33) (tgt := 46) dX2_checkKind_33 (by decide) (by first | trivial | assumption | exact mm_isr_rf _) (fun a33 c33 => ?_) (fun c33 => ?_)
    · have hn2 : ¬ ab (nk + a) = none := fun z => by rw [z] at c33; cases c33
      refine mm_aload_n (pc := 46) dX2_checkKind_46 rfl (by first | trivial | assumption | exact mm_isr_rf _) ?_
      refine mm_aload_n (pc := 47) dX2_checkKind_47 rfl (by first | trivial | assumption | exact mm_isr_rf _) ?_
      refine cw_grS (pc := 48) 2 _ 2 hC (rfl) rfl (n2) dX2_checkKind_48 fl_X2_18 rfl rfl rfl (h22) ?_
      refine cw_gi (pc := 51) 7 0 1 hC (rfl) rfl (n7) dX2_checkKind_51 fl_X2_84 rfl rfl rfl ?_
      refine mm_topi _ hR.2.2.2.1 ?_
      refine mm_iload_n (pc := 54) dX2_checkKind_54 rfl ?_
      refine mm_iadd (pc := 55) dX2_checkKind_55 ?_
      refine mm_topi _ (nI_add nk a) ?_
      refine mm_aload_n (pc := 56) dX2_checkKind_56 rfl (by first | trivial | assumption | exact mm_isr_rf _) ?_
      refine mm_aload_n (pc := 57) dX2_checkKind_57 rfl (by first | trivial | assumption | exact mm_isr_rf _) ?_
      refine cw_grS (pc := 58) 2 _ 3 hC (rfl) rfl (n2) dX2_checkKind_58 fl_X2_22 rfl rfl rfl (h23) ?_
      refine cw_gi (pc := 61) 5 np 4 hC (rfl) rfl (hD.1) dX2_checkKind_61 fl_X2_45 rfl rfl rfl ?_
      refine mm_topi _ hho ?_
      refine mm_aload_n (pc := 64) dX2_checkKind_64 rfl (by first | trivial | assumption | exact mm_isr_rf _) ?_
      refine cw_grS (pc := 65) 2 _ 2 hC (rfl) rfl (n2) dX2_checkKind_65 fl_X2_18 rfl rfl rfl (h22) ?_
      refine cw_gi (pc := 68) 7 0 3 hC (rfl) rfl (n7) dX2_checkKind_68 fl_X2_85 rfl rfl rfl ?_
      refine mm_topi _ hR.2.2.2.2.2.1 ?_
      refine mm_callV (pc := 71) (As := [_, _, _, _]) (kd := ?kd_71_3) (fs := ?fs_71_3) dX2_checkKind_71 vl_X2_88 (x4_settle (d := d + 7) (ab := ab) (M := M) hkf hk50 n4 n21 hE.2.1 hE.2.2.1 hE.2.2.2.1.1 hE.2.2.2.1.2 (fun i hi => by
    by_cases z : i = nk + a
    · rw [z]; exact hB
    · exact hE.2.2.2.2.1 i (by omega)) hF.1.1 hF.2.1 hF.2.2.1 rfl hpk.symm hC) ?hc_71_4 ?hk_71_4 rfl rfl (Nat.le_of_ble_eq_true rfl) ?_; (case hc_71_4 => exact cw_cell (f := 4) hC rfl rfl n4); (case hk_71_4 => rfl)
      rintro _ h71 ⟨C1, hC, e71, rfl, hst, hks⟩
      have hE1 := hE.next hst hks hkf hk50 n4 n21 hB
      have z2 : C1 2 = C 2 := hst.1 2 (by decide) (by decide)
      have m2_ : 0 < cN C1 2 := by rw [hst.2.1]; exact n2
      have n4 : nk + a < cN C1 4 := by rw [hst.2.1]; exact n4
      have h9 : cR C1 4 (nk + a) 9 = (if zG M (nk + a) < zE M (nk + a) then some (ad 1 (zG M (nk + a))) else none) := by rw [(hst.2.2.2.2.2.2 9 (by omega)).2]; exact hF.2.2.2.2.1
      refine mm_aload_n (pc := 74) dX2_checkKind_74 rfl (by first | trivial | assumption | exact mm_isr_rf _) ?_
      refine cw_gr (pc := 75) 4 (nk + a) 9 hC (rfl) rfl (n4) dX2_checkKind_75 fl_X2_92 rfl rfl rfl rfl ?_
      refine mm_astore (pc := 78) dX2_checkKind_78 (mm_isr_rf _) (by cases ab (nk + a) <;> rfl) (Nat.le_of_ble_eq_true rfl) ?_
      refine mm_post (fun r_ h_ z_ => ?_) (mm_weakK (ckb_loop (d := d) (g0 := zG M (nk + a)) hb10 hbo (by rw [← hE.2.2.2.1.1]; exact hF.2.2.2.1.2) (zE M (nk + a) - zG M (nk + a)) (zG M (nk + a)) C1 h71 (by have := hF.2.2.2.1.1; omega) (Nat.le_refl _) hE1 m2_ (by rw [cI_o z2]; exact h00) (fun g' z1 z2 => by rw [(hst.2.2.1 g' 8).2]; exact hF.2.2.2.2.2 g' z1 z2) hC) (And.intro rfl (And.intro (congrArg some (congrArg va_rf h9)) trivial)))
      obtain ⟨a_, C3, b_, c_, d_, f_⟩ := z_
      exact ⟨a_, C3, b_, ⟨C1, hst, c_⟩, by rw [d_, e71], Or.inr (Or.inr ⟨hn1, hn2, f_⟩), fun _ => hE1.k2 c_⟩
    · have hn2 : ab (nk + a) = none := by
        cases z : ab (nk + a) with
        | none => rfl
        | some x => rw [z] at c33; cases c33
      refine mm_aload_n (pc := 36) dX2_checkKind_36 rfl (by first | trivial | assumption | exact mm_isr_rf _) ?_
      refine mm_iconst (pc := 37) (v := 2) dX2_checkKind_37 (by decide) ?_
      refine mm_aload_n (pc := 38) dX2_checkKind_38 rfl (by first | trivial | assumption | exact mm_isr_rf _) ?_
      refine cw_gi (pc := 39) 4 (nk + a) 3 hC (rfl) rfl (n4) dX2_checkKind_39 fl_X2_81 rfl rfl rfl ?_
      refine mm_topi _ hF.1.2.2.2 ?_
      refine mm_callV (pc := 42) (As := [_, _]) (kd := ?kd_42_5) (fs := ?fs_42_5) dX2_checkKind_42 vl_X2_51 (ck_bl n2 h00 (by decide) hC) ?hc_42_5 ?hk_42_5 rfl rfl (Nat.le_of_ble_eq_true rfl) ?_; (case hc_42_5 => exact cw_cell (f := 2) hC rfl rfl n2); (case hk_42_5 => rfl)
      rintro _ h42 ⟨rfl, C1, hC, y2, e_, hx, hp⟩
      refine mm_vret (pc := 45) dX2_checkKind_45 rfl ?_
      exact ⟨rfl, C1, hC, ⟨C, stF.refl C M (nk + a), y2⟩, e_, Or.inr (Or.inl ⟨hn1, hn2, hx, hp⟩), fun z => by rw [hx] at z; exact absurd z (by decide)⟩
  · have hn1 : ¬ kfi (M.2.2.2.1 100) (M.2.2.2.1 100 (nk + a)) (nk + a) = none := fun z => by rw [z] at c9; cases c9
    refine mm_aload_n (pc := 12) dX2_checkKind_12 rfl (by first | trivial | assumption | exact mm_isr_rf _) ?_
    refine mm_iconst (pc := 13) (v := 2) dX2_checkKind_13 (by decide) ?_
    refine mm_aload_n (pc := 14) dX2_checkKind_14 rfl (by first | trivial | assumption | exact mm_isr_rf _) ?_
    refine cw_gi (pc := 15) 4 (nk + a) 1 hC (rfl) rfl (n4) dX2_checkKind_15 fl_X2_75 rfl rfl rfl ?_
    refine mm_topi _ hF.1.2.1 ?_
    refine mm_callV (pc := 18) (As := [_, _]) (kd := ?kd_18_6) (fs := ?fs_18_6) dX2_checkKind_18 vl_X2_51 (ck_bl n2 h00 (by decide) hC) ?hc_18_6 ?hk_18_6 rfl rfl (Nat.le_of_ble_eq_true rfl) ?_; (case hc_18_6 => exact cw_cell (f := 2) hC rfl rfl n2); (case hk_18_6 => rfl)
    rintro _ h18 ⟨rfl, C1, hC, y2, e_, hx, hp⟩
    refine mm_vret (pc := 21) dX2_checkKind_21 rfl ?_
    exact ⟨rfl, C1, hC, ⟨C, stF.refl C M (nk + a), y2⟩, e_, Or.inl ⟨hn1, hx, hp⟩, fun z => by rw [hx] at z; exact absurd z (by decide)⟩

