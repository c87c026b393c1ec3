def qF (N : Nat → Nat) (ad adS : Nat → Nat → Nat) (h0 : mm_H) (CS : cw_C) (h : mm_H) (M : mw_S) (ab : Nat → Option Nat) (nk nn np : Nat) (ho : Int32) (r : Option Value) (h1 : mm_H) : Prop := r = none ∧ ∃ C1, cw ad h0 C1 h1 ∧ oK N adS CS ad C1 ∧ h1.2 = h.2 ∧ 0 < cN C1 2 ∧ dF np CS C1 ∧ ((ho < 0 ∧ cI C1 2 0 0 = 2 ∧ cI C1 2 0 1 = M.1 100) ∨ (0 ≤ ho ∧ ksF M ab nk (nk + nn) (cI C1 2 0 0) (cI C1 2 0 1) ∧ (cI C1 2 0 0 = 0 → pvC ad C1 M ab nk nn np nn ho)))
/-- the pack's class side, before its check -/
def pvD (ad : Nat → Nat → Nat) (C : cw_C) (M : mw_S) (ab : Nat → Option Nat) (nk nn np : Nat) : Prop := ckE ad C M ab nk ∧ rgR ad C M nk np ∧ pkD ad C np nn ∧ (∀ i, i < nn → cR C 20 np i = some (ad 4 (nk + i))) ∧ (∀ i, i < nk + nn → i < cN C 4 ∧ i < cN C 21 ∧ cL C 4 i 0 = M.2.2.2.1 100 i) ∧ (0 < cN C 2 ∧ cR C 2 0 2 = some (ad 7 0) ∧ cR C 2 0 3 = some (ad 5 np)) ∧ (∀ i, nk ≤ i → i < nk + nn → kdF ad C M i (zE M i))
theorem pvD.home {ad : Nat → Nat → Nat} {C : cw_C} {M : mw_S} {ab : Nat → Option Nat} {nk nn np : Nat} {ho : Int32} (h : pvD ad C M ab nk nn np) (h01 : cI C 2 0 1 = -1) : pvC ad (cw_sI C 5 np 4 ho) M ab nk nn np 0 ho := by
  obtain ⟨p1, p2, p3, p4, p5, ⟨q1, q2, q3⟩, p7⟩ := h
  have o : ∀ f, ¬ f = 5 → cw_sI C 5 np 4 ho f = C f := fun f hf => cw_sI_o hf
  refine ⟨p1.same (o 0 (by decide)) (o 1 (by decide)) (o 4 (by decide)) (o 21 (by decide)), p2.to (o 7 (by decide)) (o 18 (by decide)) (o 19 (by decide)) (by rw [cw_sI_N]; exact Nat.le_refl _) (by rw [cw_sI_N]; exact Nat.le_refl _) (fun i _ => cL_sI) (fun p hp => ⟨cL_sI, cI_sI_n (by omega), cI_sI_n (by omega)⟩), ⟨by rw [cw_sI_N]; exact p3.1, by rw [cw_sI_N]; exact p3.2.1, by rw [cR_sI]; exact p3.2.2.1, by rw [cI_sI_n (by omega)]; exact p3.2.2.2⟩, fun i hi => by rw [cR_sI]; exact p4 i hi, fun i hi => by rw [cw_sI_N, cw_sI_N, cL_sI]; exact p5 i hi, ⟨by rw [cw_sI_N]; exact q1, by rw [cR_sI]; exact q2, by rw [cR_sI]; exact q3⟩, fun i h1 h2 => ?_, cI_sI_e, by rw [cI_sI_n (by omega)]; exact h01⟩
  exact (p7 i (by omega) h2).mono (fun j => cI_o (o 4 (by decide))) (fun j => cL_o (o 4 (by decide))) (fun j => cR_o (o 4 (by decide))) (fun j => cR_o (o 21 (by decide))) (by rw [cw_sI_N]; exact Nat.le_refl _) (fun _ _ => rfl) rfl (fun g _ _ => cR_o (o 1 (by decide))) (fun _ _ => rfl) (fun _ _ => rfl) (fun _ _ => ⟨rfl, rfl⟩)

theorem cp_40 {G : mm_G} {L : Nat × Nat} {d : Nat} {h : mm_H} {h0 : mm_H} {N : Nat → Nat} {ad adS : Nat → Nat → Nat} {C CS : cw_C} {M : mw_S} {ab : Nat → Option Nat} {nk nn np : Nat} {A : Nat → Prop} {ho : Int32} (hpl : ho < 0 → cI C 5 np 3 = M.1 100) (hV : 0 ≤ ho → pvR M ab nk nn np ho) (hN4 : N 4 ≤ nk) (hN2 : N 2 = 0) (hN5 : N 5 ≤ np) (hN1 : ∀ g, g < N 1 → yK M g < nk) (hpv : pvD ad C M ab nk nn np) (h00 : cI C 2 0 0 = 0) (h01 : cI C 2 0 1 = -1) (hok : oK N adS CS ad C) (hCS : dF np CS C) (hC : cw ad h0 C h) : mm_Run G mX2_checkPack A L (d + 11) 40 [(0, .ref (ad 2 0))] [.int ho, .ref (ad 5 np)] h (fun r h1 => qF N ad adS h0 CS h M ab nk nn np ho r h1) := by
  obtain ⟨-, -, hD, -, -, ⟨n2, h22, h23⟩, -⟩ := id hpv
  refine cw_pi (pc := 40) 5 np 4 hC (rfl) rfl (hpv.2.2.1.1) dX2_checkPack_40 (pl_X2_45 _) rfl rfl (rfl) (rfl) (fun h40 hC e40 => ?_)
  have hpc := hpv.home (ho := ho) h01
  have hok1 := hok.sI (j := 4) (x := ho) (i := np) (f := 5) hN5
  have hCS1 : dF np CS (cw_sI C 5 np 4 ho) := ⟨fun f a1 a2 a4 a5 => (cw_sI_o a5).trans (hCS.1 f a1 a2 a4 a5), fun j => cL_sI.trans (hCS.2.1 j), fun j hj => (cI_sI_n (fun z => hj z.2.2)).trans (hCS.2.2 j hj)⟩
  have h00b : cI (cw_sI C 5 np 4 ho) 2 0 0 = 0 := by rw [cI_sI_n (by omega)]; exact h00
  have hpl1 : ho < 0 → cI (cw_sI C 5 np 4 ho) 5 np 3 = M.1 100 := fun z => by rw [cI_sI_n (by omega)]; exact hpl z
  generalize cw_sI C 5 np 4 ho = C1 at *
  obtain ⟨hE, hR, hD, hA, hnm, ⟨n2, h22, h23⟩, hkd, hho, hpl_⟩ := id hpc
  refine mm_aload_n (pc := 43) dX2_checkPack_43 rfl (by first | trivial | assumption | exact mm_isr_rf _) ?_
  refine cw_grS (pc := 44) 2 _ 3 hC (rfl) rfl (n2) dX2_checkPack_44 fl_X2_22 rfl rfl rfl (h23) ?_
  refine cw_gi (pc := 47) 5 np 4 hC (rfl) rfl (hD.1) dX2_checkPack_47 fl_X2_45 rfl rfl rfl ?_
  refine mm_topi _ hho ?_
  refine mm_if_ge (pc := 50) (tgt := 65) dX2_checkPack_50 (by decide) (fun c50 => ?_) (fun c50 => ?_)
  · have hp0 : 0 ≤ ho := c50
    refine mm_iconst (pc := 65) (v := 0) dX2_checkPack_65 (by decide) ?_
    refine mm_istore_n (pc := 66) dX2_checkPack_66 rfl (Nat.le_of_ble_eq_true rfl) ?_
    refine mm_post (fun r_ h_ z_ => ?_) (mm_weakK (cp_loop (d := d) (hV hp0) hN4 hN2 hN1 nn 0 C1 h40 (by omega) hpc h00b hok1 hCS1 hC) (And.intro rfl (And.intro rfl trivial)))
    obtain ⟨a_, C3, b_, c_, d_, e_, f_, g_, i_⟩ := z_
    exact ⟨a_, C3, b_, c_, by rw [d_, e40], g_, e_, Or.inr ⟨hp0, f_, i_⟩⟩
  · have hp0 : ho < 0 := Int32.not_le.mp c50
    refine mm_aload_n (pc := 53) dX2_checkPack_53 rfl (by first | trivial | assumption | exact mm_isr_rf _) ?_
    refine mm_iconst (pc := 54) (v := 2) dX2_checkPack_54 (by decide) ?_
    refine mm_aload_n (pc := 55) dX2_checkPack_55 rfl (by first | trivial | assumption | exact mm_isr_rf _) ?_
    refine cw_grS (pc := 56) 2 _ 3 hC (rfl) rfl (n2) dX2_checkPack_56 fl_X2_22 rfl rfl rfl (h23) ?_
    refine cw_gi (pc := 59) 5 np 3 hC (rfl) rfl (hD.1) dX2_checkPack_59 fl_X2_48 rfl rfl rfl ?_
    refine mm_callV (pc := 62) (As := [_, _]) (kd := ?kd_62_1) (fs := ?fs_62_1) dX2_checkPack_62 vl_X2_51 (ck_bl n2 h00b (by decide) hC) ?hc_62_1 ?hk_62_1 rfl rfl (Nat.le_of_ble_eq_true rfl) ?_; (case hc_62_1 => exact cw_cell (f := 2) hC rfl rfl n2); (case hk_62_1 => rfl)
    rintro _ h62 ⟨rfl, C2, hC, y2, e_, hx, hp⟩
    refine mm_iconst (pc := 65) (v := 0) dX2_checkPack_65 (by decide) ?_
    refine mm_istore_n (pc := 66) dX2_checkPack_66 rfl (Nat.le_of_ble_eq_true rfl) ?_
    have hx3 : ¬ cI C2 2 0 0 = 0 := by rw [hx]; decide
    have e5 : C2 5 = C1 5 := (y2 5).1 (by decide)
    have hD2 : pkD ad C2 np nn := by unfold pkD; rw [(y2 5).2.1, (y2 20).2.1, cR_o e5, cI_o e5]; exact hD
    refine mm_post (fun r_ h_ z_ => ?_) (mm_weakK (cp_d67 (by rw [(y2 2).2.1]; exact n2) hx3 hD2 (by rw [(y2 2).2.2.1]; exact h23) hC) (And.intro rfl (And.intro rfl trivial)))
    obtain ⟨rfl, rfl⟩ := z_
    refine ⟨rfl, C2, hC, fun f => ?_, by rw [e_, e40], by rw [(y2 2).2.1]; exact n2, ⟨fun f a1 a2 a4 a5 => ((y2 f).1 a2).trans (hCS1.1 f a1 a2 a4 a5), fun j => (cL_o ((y2 5).1 (by decide))).trans (hCS1.2.1 j), fun j hj => (cI_o ((y2 5).1 (by decide))).trans (hCS1.2.2 j hj)⟩, Or.inl ⟨hp0, hx, hp.trans (hpl1 hp0)⟩⟩
    by_cases z : f = 2
    · subst z; exact ⟨by omega, fun i hi => by omega⟩
    · rw [(y2 f).2.1, (y2 f).1 z]; exact hok1 f

theorem cp_no {G : mm_G} {L : Nat × Nat} {d : Nat} {h : mm_H} {h0 : mm_H} {N : Nat → Nat} {ad adS : Nat → Nat → Nat} {C CS : cw_C} {M : mw_S} {ab : Nat → Option Nat} {nk nn np : Nat} (hj : cI C 5 np 1 = 0) (h23p : 0 ≤ M.1 23) (hV : 0 ≤ M.1 23 → pvR M ab nk nn np (M.1 23)) (hN4 : N 4 ≤ nk) (hN2 : N 2 = 0) (hN5 : N 5 ≤ np) (hN1 : ∀ g, g < N 1 → yK M g < nk) (hpv : pvD ad C M ab nk nn np) (h00 : cI C 2 0 0 = 0) (h01 : cI C 2 0 1 = -1) (hok : oK N adS CS ad C) (hCS : dF np CS C) (hC : cw ad h0 C h) : mm_Ok G mX2_checkPack L (d + 11) [.ref (ad 2 0)] h (fun r h1 => qF N ad adS h0 CS h M ab nk nn np (M.1 23) r h1) := by
  refine mm_Ok.of [(0, .ref (ad 2 0))] rfl kX2_checkPack.2.2.2.2.2 rfl (fun A => ?_)
  obtain ⟨hE, hR, hD, hA, hnm, ⟨n2, h22, h23⟩, hkd⟩ := id hpv
  have n7 := hR.1.1
  refine mm_aload_n (pc := 0) dX2_checkPack_0 rfl (by first | trivial | assumption | exact mm_isr_rf _) ?_
  refine cw_grS (pc := 1) 2 _ 3 hC (rfl) rfl (n2) dX2_checkPack_1 fl_X2_22 rfl rfl rfl (h23) ?_
  refine mm_aload_n (pc := 4) dX2_checkPack_4 rfl (by first | trivial | assumption | exact mm_isr_rf _) ?_
  refine cw_grS (pc := 5) 2 _ 3 hC (rfl) rfl (n2) dX2_checkPack_5 fl_X2_22 rfl rfl rfl (h23) ?_
  refine cw_gi (pc := 8) 5 np 1 hC (rfl) rfl (hD.1) dX2_checkPack_8 fl_X2_26 rfl rfl rfl ?_
  refine mm_topi _ hj ?_
  refine mm_if_eq (pc := 11) (tgt := 31) dX2_checkPack_11 (by decide) (fun c11 => ?_) (fun c11 => absurd rfl c11)
  refine mm_aload_n (pc := 31) dX2_checkPack_31 rfl (by first | trivial | assumption | exact mm_isr_rf _) ?_
  refine cw_grS (pc := 32) 2 _ 2 hC (rfl) rfl (n2) dX2_checkPack_32 fl_X2_18 rfl rfl rfl (h22) ?_
  refine cw_gi (pc := 35) 7 0 4 hC (rfl) rfl (n7) dX2_checkPack_35 fl_X2_42 rfl rfl rfl ?_
  refine mm_iconst (pc := 38) (v := 1) dX2_checkPack_38 (by decide) ?_
  refine mm_iadd (pc := 39) dX2_checkPack_39 ?_
  refine mm_topi _ hR.2.2.2.2.2.2.1 ?_
  exact mm_weakK (cp_40 (fun z => absurd z (Int32.not_lt.mpr h23p)) hV hN4 hN2 hN5 hN1 hpv h00 h01 hok hCS hC) (And.intro rfl trivial)

theorem cp_with {G : mm_G} {L : Nat × Nat} {d : Nat} {h : mm_H} {h0 : mm_H} {N : Nat → Nat} {ad adS : Nat → Nat → Nat} {C CS : cw_C} {M : mw_S} {ab : Nat → Option Nat} {nk nn np : Nat} (hlt : lt_ G h0) {w : Int64} (hj : cI C 5 np 1 = 1) (hw : cL C 5 np 2 = w) (h3p : cI C 5 np 3 = M.1 100) (hV : 0 ≤ hmI M np w → pvR M ab nk nn np (hmI M np w)) (hN4 : N 4 ≤ nk) (hN2 : N 2 = 0) (hN5 : N 5 ≤ np) (hN1 : ∀ g, g < N 1 → yK M g < nk) (hpv : pvD ad C M ab nk nn np) (h00 : cI C 2 0 0 = 0) (h01 : cI C 2 0 1 = -1) (hok : oK N adS CS ad C) (hCS : dF np CS C) (hC : cw ad h0 C h) : mm_Ok G mX2_checkPack L (d + 11) [.ref (ad 2 0)] h (fun r h1 => qF N ad adS h0 CS h M ab nk nn np (hmI M np w) r h1) := by
  refine mm_Ok.of [(0, .ref (ad 2 0))] rfl kX2_checkPack.2.2.2.2.2 rfl (fun A => ?_)
  obtain ⟨hE, hR, hD, hA, hnm, ⟨n2, h22, h23⟩, hkd⟩ := id hpv
  have n7 := hR.1.1
  refine mm_aload_n (pc := 0) dX2_checkPack_0 rfl (by first | trivial | assumption | exact mm_isr_rf _) ?_
  refine cw_grS (pc := 1) 2 _ 3 hC (rfl) rfl (n2) dX2_checkPack_1 fl_X2_22 rfl rfl rfl (h23) ?_
  refine mm_aload_n (pc := 4) dX2_checkPack_4 rfl (by first | trivial | assumption | exact mm_isr_rf _) ?_
  refine cw_grS (pc := 5) 2 _ 3 hC (rfl) rfl (n2) dX2_checkPack_5 fl_X2_22 rfl rfl rfl (h23) ?_
  refine cw_gi (pc := 8) 5 np 1 hC (rfl) rfl (hD.1) dX2_checkPack_8 fl_X2_26 rfl rfl rfl ?_
  refine mm_topi _ hj ?_
  refine mm_if_eq (pc := 11) (tgt := 31) dX2_checkPack_11 (by decide) (fun c11 => absurd c11 (by decide)) (fun c11 => ?_)
  refine mm_aload_n (pc := 14) dX2_checkPack_14 rfl (by first | trivial | assumption | exact mm_isr_rf _) ?_
  refine cw_grS (pc := 15) 2 _ 2 hC (rfl) rfl (n2) dX2_checkPack_15 fl_X2_18 rfl rfl rfl (h22) ?_
  refine mm_aload_n (pc := 18) dX2_checkPack_18 rfl (by first | trivial | assumption | exact mm_isr_rf _) ?_
  refine cw_grS (pc := 19) 2 _ 3 hC (rfl) rfl (n2) dX2_checkPack_19 fl_X2_22 rfl rfl rfl (h23) ?_
  refine cw_gl (pc := 22) 5 np 2 hC (rfl) rfl (hD.1) dX2_checkPack_22 fl_X2_32 rfl rfl rfl ?_
  rw [hw]
  refine mm_callV (pc := 25) (As := [_]) (kd := ?kd_25_2) (fs := ?fs_25_2) dX2_checkPack_25 vl_X2_36 (hn_ok (d := d + 5) hR hlt hC) ?hc_25_2 ?hk_25_2 rfl rfl (Nat.le_of_ble_eq_true rfl) ?_; (case hc_25_2 => exact cw_cell (f := 7) hC rfl rfl n7); (case hk_25_2 => rfl)
  rintro _ _ ⟨rfl, rfl⟩
  refine mm_goto (pc := 28) (tgt := 40) dX2_checkPack_28 (by decide) ?_
  exact mm_weakK (cp_40 (fun _ => h3p) hV hN4 hN2 hN5 hN1 hpv h00 h01 hok hCS hC) (And.intro rfl trivial)

