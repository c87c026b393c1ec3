theorem bgC_N {C : cw_C} {v : Nat} {a : Int32} {f : Nat} : cN (bgC C v a) f = cN C f := by unfold bgC; rw [cw_sI_N, cw_sI_N, cw_sI_N, cw_sI_N, cw_sI_N, cw_sI_N, cw_sI_N, cw_sI_N, cw_sR_N]
theorem rF_bg {app : Nat} {C : cw_C} {v : Nat} {a : Int32} : rF app C (bgC C v a) := by
  have h1 : rF app C (cw_sR C 8 0 11 (some v)) := ⟨nD_sR rfl, fun _ _ => ⟨cI_o (cw_sR_o (by decide)), cI_o (cw_sR_o (by decide))⟩⟩
  exact (((((((h1.trans (rF_8 rfl)).trans (rF_8 rfl)).trans (rF_8 rfl)).trans (rF_8 rfl)).trans (rF_8 rfl)).trans (rF_8 rfl)).trans (rF_8 rfl)).trans (rF_8 rfl)

theorem fo_ok {G : mm_G} {L : Nat × Nat} {d : Nat} {h : mm_H} {h0 : mm_H} {ad : Nat → Nat → Nat} {ab : Nat → Option Nat} {nk na : Nat} {oK oQ : Nat → Nat} {app K : Nat} {B : rB_T} {C : cw_C} {M : mw_S} {a : Int32} (n8 : 0 < cN C 8) (H : rHy ad ab nk na oK oQ app K B 0 400 M (cw_sI (bgC C (ad 9 app) a) 8 0 13 1) 0 0 0) (h0K : Ae ab K 0) (hH : rn_H M) (hd : 201 ≤ d) (hC : cw ad h0 C h) : mm_Ok G mX8_follow L (d) [.ref (ad 8 0), .ref (ad 4 0), .ref (ad 9 app), .int a] h (fun r h1 => flP ad h0 h C ab nk app K B (fl0 ab (rnH ab M 0)) r h1) := by
  refine mm_Ok.of [(0, .ref (ad 8 0)), (1, .ref (ad 4 0)), (2, .ref (ad 9 app)), (3, .int a)] rfl kX8_follow.2.2.2.2.2 rfl (fun A => ?_)
  have hX := H.2.2.2.2.1
  have hK : K < nk := H.1.2.2.2.1.2
  have hnk : 0 < nk := Nat.lt_of_le_of_lt (Nat.zero_le _) hK
  have n4 : 0 < cN (cw_sI (bgC C (ad 9 app) a) 8 0 13 1) 4 := Nat.lt_of_lt_of_le hnk hX.1.1.2.2.1
  have hPP := rnH_post (q := 0) H.1 H.2.1 (by decide) h0K (by decide) (hH 0 (by decide))
  obtain ⟨d0, rfl⟩ : ∃ d0, d = d0 + 1 := ⟨d - 1, by omega⟩
  have hbo : ∀ h', cw ad h0 (cw_sI (bgC C (ad 9 app) a) 8 0 13 1) h' → mm_Ok G mX4_bodyOf L d0 [.ref (ad 4 0), .int 0] h' (fun r h1 => h1 = h' ∧ r = some (.ref (ad 1 (gb M 0 0)))) := by
    intro h' hC'
    refine mm_Ok.post (ck_bo (i := 0) (q := 0) hX.1 hC' hnk (by decide)) ?_
    rintro r h1 ⟨a, b⟩
    exact ⟨a, by rw [b]; unfold xbo; rw [if_pos (hH 0 (by decide))]; rfl⟩
  refine mm_aload_n (pc := 0) dX8_follow_0 rfl (by first | trivial | assumption | exact mm_isr_rf _) ?_
  refine mm_aload_n (pc := 1) dX8_follow_1 rfl (by first | trivial | assumption | exact mm_isr_rf _) ?_
  refine mm_iload_n (pc := 2) dX8_follow_2 rfl ?_
  refine mm_callV (pc := 3) (As := [_, _]) (kd := ?kd_3_1) (fs := ?fs_3_1) dX8_follow_3 vl_X8_57 (bg_ok n8 hC) ?hc_3_1 ?hk_3_1 rfl rfl (Nat.le_of_ble_eq_true rfl) ?_; (case hc_3_1 => exact cw_cell (f := 8) hC rfl rfl n8); (case hk_3_1 => rfl)
  rintro _ h3 ⟨hC, e3, rfl⟩
  refine mm_aload_n (pc := 6) dX8_follow_6 rfl (by first | trivial | assumption | exact mm_isr_rf _) ?_
  refine mm_iconst (pc := 7) (v := 1) dX8_follow_7 (by decide) ?_
  refine cw_pi (pc := 8) 8 _ 13 hC (rfl) rfl ((by rw [bgC_N]; exact n8)) dX8_follow_8 (pl_X8_53 _) rfl rfl (rfl) (rfl) (fun h8 hC e8 => ?_)
  refine mm_aload_n (pc := 11) dX8_follow_11 rfl (by first | trivial | assumption | exact mm_isr_rf _) ?_
  refine mm_aload_n (pc := 12) dX8_follow_12 rfl (by first | trivial | assumption | exact mm_isr_rf _) ?_
  refine mm_iconst (pc := 13) (v := 0) dX8_follow_13 (by decide) ?_
  refine mm_callV (pc := 14) (As := [_]) (kd := ?kd_14_2) (fs := ?fs_14_2) dX8_follow_14 vl_X8_61 (hbo _ hC) ?hc_14_2 ?hk_14_2 rfl rfl (Nat.le_of_ble_eq_true rfl) ?_; (case hc_14_2 => exact cw_cell (f := 4) hC rfl rfl n4); (case hk_14_2 => rfl)
  rintro _ _ ⟨rfl, rfl⟩
  refine mm_iconst (pc := 17) (v := 0) dX8_follow_17 (by decide) ?_
  refine mm_callV (pc := 18) (As := [_, _]) (kd := ?kd_18_3) (fs := ?fs_18_3) dX8_follow_18 vl_X8_67 (rh_ok H (by decide) h0K (by decide) (hH 0 (by decide)) (by omega) hC) ?hc_18_3 ?hk_18_3 rfl rfl (Nat.le_of_ble_eq_true rfl) ?_; (case hc_18_3 => exact cw_cell (f := 8) hC rfl rfl hX.n8); (case hk_18_3 => rfl)
  rintro _ h18 ⟨C5, T5, hC5, s5, rfl, ⟨w1, w2⟩, x5, f5, z5⟩
  have hC := hC5
  have n8 := x5.n8
  refine mm_istore (pc := 21) dX8_follow_21 rfl (Nat.le_of_ble_eq_true rfl) ?_
  refine mm_aload_n (pc := 23) dX8_follow_23 rfl (by first | trivial | assumption | exact mm_isr_rf _) ?_
  refine mm_iconst (pc := 24) (v := 0) dX8_follow_24 (by decide) ?_
  refine cw_pi (pc := 25) 8 _ 13 hC (rfl) rfl (n8) dX8_follow_25 (pl_X8_53 _) rfl rfl (rfl) (rfl) (fun h25 hC e25 => ?_)
  refine mm_iload (pc := 28) dX8_follow_28 rfl ?_
  refine mm_iconst (pc := 30) (v := 1) dX8_follow_30 (by decide) ?_
  refine mm_icmp_ne (pc := 31) (tgt := 37) dX8_follow_31 (by decide) (fun c31 => ?_) (fun c31 => ?_)
  · refine mm_iconst (pc := 37) (v := 1) dX8_follow_37 (by decide) ?_
    refine mm_istore (pc := 38) dX8_follow_38 rfl (Nat.le_of_ble_eq_true rfl) ?_
    have hw2 : ¬ (rnH ab M 0).1 = 2 := fun z => c31 ((wy_2 hPP.2.2).2.2.1.mpr z)
    have H5 := H.next hPP w1 w2 x5 f5
    have H6 : rHy ad ab nk na oK oQ app K B 1 400 (mw_setS (rnH ab M 0).2 63 0) (cw_sI C5 8 0 13 0) T5 0 T5 := ⟨H5.1, H5.2.1, H5.2.2.1, H5.2.2.2.1.of (fun _ _ _ _ _ _ _ _ => rfl), rX_63 x5, by rw [cw_sI_N]; exact H5.2.2.2.2.2⟩
    have hHn : rn_H (mw_setS (rnH ab M 0).2 63 0) := fun q' hq' => by
      have := hPP.1.has q' 0
      exact this.trans (hH q' hq')
    refine mm_post (fun r_ h_ z_ => ?_) (mm_weakK (fo_lp h0K hd 4 1 (rnH ab M 0).1 (cw_sI C5 8 0 13 0) (mw_setS (rnH ab M 0).2 63 0) T5 h25 rfl H6 hHn rfl hC hPP.2.2 hw2 (fun z => (cI_sI_n (by decide)).trans (z5 (Or.inl z)))) (And.intro rfl (And.intro rfl (And.intro rfl (And.intro rfl trivial)))))
    rw [show fl0 ab (rnH ab M 0) = fl70 ab (rnW ab 4 1 ((rnH ab M 0).1, (mw_setS (rnH ab M 0).2 63 0))) from if_neg hw2]
    exact z_.tr (by rw [e25, s5, e8, e3]) (((rF_bg.trans (rF_8 rfl)).trans f5).trans (rF_8 rfl))
  · refine mm_iload (pc := 34) dX8_follow_34 rfl ?_
    refine mm_iret (pc := 36) dX8_follow_36 rfl ?_
    have hc1 := (wy_2 hPP.2.2).2.2.1.mp c31
    rw [show fl0 ab (rnH ab M 0) = (2, (rnH ab M 0).2.1 64, (mw_setS (rnH ab M 0).2 63 0)) from if_pos hc1]
    exact ⟨_, T5, hC, (by rw [e25, s5, e8, e3]), by rw [hc1], w2, rX_63 x5, ((rF_bg.trans (rF_8 rfl)).trans f5).trans (rF_8 rfl), ((cI_sI_n (by decide)).trans (z5 (Or.inr hc1))).trans (if_pos (Or.inr rfl)).symm⟩

