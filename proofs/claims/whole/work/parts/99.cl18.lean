theorem fw_ok {G : mm_G} {L : Nat × Nat} {d : Nat} {h : mm_H} {h0 : mm_H} {ad : Nat → Nat → Nat} {C : cw_C} {x : Int32} (n8 : 0 < cN C 8) (hC : cw ad h0 C h) : mm_Ok G mX8_failWith L (d) [.ref (ad 8 0), .int x] h (fun r h1 => cw ad h0 (cw_sI C 8 0 0 x) h1 ∧ h1.2 = h.2 ∧ r = some (.int 2)) := by
  refine mm_Ok.of [(0, .ref (ad 8 0)), (1, .int x)] rfl kX8_failWith.2.2.2.2.2 rfl (fun A => ?_)
  refine mm_aload_n (pc := 0) dX8_failWith_0 rfl (by first | trivial | assumption | exact mm_isr_rf _) ?_
  refine mm_iload_n (pc := 1) dX8_failWith_1 rfl ?_
  refine cw_pi (pc := 2) 8 _ 0 hC (rfl) rfl (n8) dX8_failWith_2 (pl_X8_9 _) rfl rfl (rfl) (rfl) (fun h2 hC e2 => ?_)
  refine mm_iconst (pc := 5) (v := 2) dX8_failWith_5 (by decide) ?_
  refine mm_iret (pc := 6) dX8_failWith_6 rfl ?_
  exact ⟨hC, e2, rfl⟩

theorem sn_ok {G : mm_G} {L : Nat × Nat} {d : Nat} {h : mm_H} {h0 : mm_H} {ad : Nat → Nat → Nat} {C : cw_C} {x : Int32} {s : Nat} (n8 : 0 < cN C 8) (n15 : 0 < cN C 15) (r10 : cR C 8 0 10 = some (ad 15 0)) (s2 : cI C 8 0 2 = nI s) (hs : s < 400) (hC : cw ad h0 C h) : mm_Ok G mX8_sayNumber L (d) [.ref (ad 8 0), .int x] h (fun r h1 => cw ad h0 (cw_sI (cw_sI C 15 0 s x) 8 0 2 (cI C 8 0 2 + 1)) h1 ∧ h1.2 = h.2 ∧ r = some (.int 0)) := by
  refine mm_Ok.of [(0, .ref (ad 8 0)), (1, .int x)] rfl kX8_sayNumber.2.2.2.2.2 rfl (fun A => ?_)
  refine mm_aload_n (pc := 0) dX8_sayNumber_0 rfl (by first | trivial | assumption | exact mm_isr_rf _) ?_
  refine cw_gi (pc := 1) 8 _ 2 hC (rfl) rfl (n8) dX8_sayNumber_1 fl_X8_18 rfl rfl rfl ?_
  refine mm_topi _ s2 ?_
  refine mm_aload_n (pc := 4) dX8_sayNumber_4 rfl (by first | trivial | assumption | exact mm_isr_rf _) ?_
  refine cw_grS (pc := 5) 8 _ 10 hC (rfl) rfl (n8) dX8_sayNumber_5 fl_X8_43 rfl rfl rfl (r10) ?_
  refine cw_alen (pc := 8) 15 _ hC (rfl) rfl (n15) dX8_sayNumber_8 rfl rfl ?_
  refine mm_icmp_ge (pc := 9) (tgt := 32) dX8_sayNumber_9 (by decide) (fun c9 => absurd c9 (fun z => absurd ((nI_leI (a := 400) (by decide) (by omega)).mp z) (by omega))) (fun c9 => ?_)
  refine mm_aload_n (pc := 12) dX8_sayNumber_12 rfl (by first | trivial | assumption | exact mm_isr_rf _) ?_
  refine cw_grS (pc := 13) 8 _ 10 hC (rfl) rfl (n8) dX8_sayNumber_13 fl_X8_43 rfl rfl rfl (r10) ?_
  refine mm_aload_n (pc := 16) dX8_sayNumber_16 rfl (by first | trivial | assumption | exact mm_isr_rf _) ?_
  refine cw_gi (pc := 17) 8 _ 2 hC (rfl) rfl (n8) dX8_sayNumber_17 fl_X8_18 rfl rfl rfl ?_
  refine mm_topi _ s2 ?_
  refine mm_iload_n (pc := 20) dX8_sayNumber_20 rfl ?_
  refine cw_iast (pc := 21) 15 0 s hC (rfl) rfl (n15) dX8_sayNumber_21 rfl (by first | with_reducible rfl | assumption | rfl) (by show _ < 400; omega) (by omega) rfl (fun h21 hC e21 => ?_)
  refine mm_aload_n (pc := 22) dX8_sayNumber_22 rfl (by first | trivial | assumption | exact mm_isr_rf _) ?_
  refine mm_dup (pc := 23) dX8_sayNumber_23 rfl ?_
  refine cw_gi (pc := 24) 8 _ 2 hC (rfl) rfl ((by rw [cw_sI_N]; exact n8)) dX8_sayNumber_24 fl_X8_18 rfl rfl rfl ?_
  refine mm_topi _ (show _ = cI C 8 0 2 from cI_o (cw_sI_o (by decide))) ?_
  refine mm_iconst (pc := 27) (v := 1) dX8_sayNumber_27 (by decide) ?_
  refine mm_iadd (pc := 28) dX8_sayNumber_28 ?_
  refine cw_pi (pc := 29) 8 _ 2 hC (rfl) rfl ((by rw [cw_sI_N]; exact n8)) dX8_sayNumber_29 (pl_X8_18 _) rfl rfl (rfl) (rfl) (fun h29 hC e29 => ?_)
  refine mm_iconst (pc := 32) (v := 0) dX8_sayNumber_32 (by decide) ?_
  refine mm_iret (pc := 33) dX8_sayNumber_33 rfl ?_
  exact ⟨hC, by rw [e29, e21], rfl⟩

theorem aw_no {G : mm_G} {L : Nat × Nat} {d : Nat} {h : mm_H} {h0 : mm_H} {ad : Nat → Nat → Nat} {C : cw_C} {x : Int32} {app : Nat} (n8 : 0 < cN C 8) (n9 : app < cN C 9) (r11 : cR C 8 0 11 = some (ad 9 app)) (hr : rmI C app x 0 = 0) (hC : cw ad h0 C h) : mm_Ok G mX8_addWater L (d + 1) [.ref (ad 8 0), .int x] h (fun r h1 => cw ad h0 (cw_sI C 8 0 0 1001) h1 ∧ h1.2 = h.2 ∧ r = some (.int 2)) := by
  refine mm_Ok.of [(0, .ref (ad 8 0)), (1, .int x)] rfl kX8_addWater.2.2.2.2.2 rfl (fun A => ?_)
  refine mm_aload_n (pc := 0) dX8_addWater_0 rfl (by first | trivial | assumption | exact mm_isr_rf _) ?_
  refine cw_grS (pc := 1) 8 _ 11 hC (rfl) rfl (n8) dX8_addWater_1 fl_X8_46 rfl rfl rfl (r11) ?_
  refine mm_iload_n (pc := 4) dX8_addWater_4 rfl ?_
  refine mm_iconst (pc := 5) (v := 0) dX8_addWater_5 (by decide) ?_
  refine mm_callV (pc := 6) (As := [_, _]) (kd := ?kd_6_1) (fs := ?fs_6_1) dX8_addWater_6 vl_X8_143 (vh_ok n9 hC) ?hc_6_1 ?hk_6_1 rfl rfl (Nat.le_of_ble_eq_true rfl) ?_; (case hc_6_1 => exact cw_cell (f := 9) hC rfl rfl n9); (case hk_6_1 => rfl)
  rintro _ _ ⟨rfl, rfl⟩
  refine mm_if_ne (pc := 9) (tgt := 20) dX8_addWater_9 (by decide) (fun c9 => absurd hr c9) (fun c9 => ?_)
  refine mm_aload_n (pc := 12) dX8_addWater_12 rfl (by first | trivial | assumption | exact mm_isr_rf _) ?_
  refine mm_sipush (pc := 13) (v := 1001) dX8_addWater_13 (by decide) ?_
  refine mm_callV (pc := 16) (As := [_]) (kd := ?kd_16_2) (fs := ?fs_16_2) dX8_addWater_16 vl_X8_131 (fw_ok n8 hC) ?hc_16_2 ?hk_16_2 rfl rfl (Nat.le_of_ble_eq_true rfl) ?_; (case hc_16_2 => exact cw_cell (f := 8) hC rfl rfl n8); (case hk_16_2 => rfl)
  rintro _ h16 ⟨hC, e16, rfl⟩
  refine mm_iret (pc := 19) dX8_addWater_19 rfl ?_
  exact ⟨hC, e16, rfl⟩

theorem aw_yes {G : mm_G} {L : Nat × Nat} {d : Nat} {h : mm_H} {h0 : mm_H} {ad : Nat → Nat → Nat} {C : cw_C} {x : Int32} {app : Nat} (n8 : 0 < cN C 8) (n9 : app < cN C 9) (r11 : cR C 8 0 11 = some (ad 9 app)) (hr : ¬ rmI C app x 0 = 0) (hC : cw ad h0 C h) : mm_Ok G mX8_addWater L (d + 1) [.ref (ad 8 0), .int x] h (fun r h1 => cw ad h0 (cw_sI (cw_sI C 9 app 3 (cI C 9 app 3 + x)) 8 0 4 (cI C 8 0 4 + x)) h1 ∧ h1.2 = h.2 ∧ r = some (.int 0)) := by
  refine mm_Ok.of [(0, .ref (ad 8 0)), (1, .int x)] rfl kX8_addWater.2.2.2.2.2 rfl (fun A => ?_)
  refine mm_aload_n (pc := 0) dX8_addWater_0 rfl (by first | trivial | assumption | exact mm_isr_rf _) ?_
  refine cw_grS (pc := 1) 8 _ 11 hC (rfl) rfl (n8) dX8_addWater_1 fl_X8_46 rfl rfl rfl (r11) ?_
  refine mm_iload_n (pc := 4) dX8_addWater_4 rfl ?_
  refine mm_iconst (pc := 5) (v := 0) dX8_addWater_5 (by decide) ?_
  refine mm_callV (pc := 6) (As := [_, _]) (kd := ?kd_6_3) (fs := ?fs_6_3) dX8_addWater_6 vl_X8_143 (vh_ok n9 hC) ?hc_6_3 ?hk_6_3 rfl rfl (Nat.le_of_ble_eq_true rfl) ?_; (case hc_6_3 => exact cw_cell (f := 9) hC rfl rfl n9); (case hk_6_3 => rfl)
  rintro _ _ ⟨rfl, rfl⟩
  refine mm_if_ne (pc := 9) (tgt := 20) dX8_addWater_9 (by decide) (fun c9 => ?_) (fun c9 => absurd c9 hr)
  refine mm_aload_n (pc := 20) dX8_addWater_20 rfl (by first | trivial | assumption | exact mm_isr_rf _) ?_
  refine cw_grS (pc := 21) 8 _ 11 hC (rfl) rfl (n8) dX8_addWater_21 fl_X8_46 rfl rfl rfl (r11) ?_
  refine mm_dup (pc := 24) dX8_addWater_24 rfl ?_
  refine cw_gi (pc := 25) 9 app 3 hC (rfl) rfl (n9) dX8_addWater_25 fl_X8_147 rfl rfl rfl ?_
  refine mm_iload_n (pc := 28) dX8_addWater_28 rfl ?_
  refine mm_iadd (pc := 29) dX8_addWater_29 ?_
  refine cw_pi (pc := 30) 9 app 3 hC (rfl) rfl (n9) dX8_addWater_30 (pl_X8_147 _) rfl rfl (rfl) (rfl) (fun h30 hC e30 => ?_)
  refine mm_aload_n (pc := 33) dX8_addWater_33 rfl (by first | trivial | assumption | exact mm_isr_rf _) ?_
  refine mm_dup (pc := 34) dX8_addWater_34 rfl ?_
  refine cw_gi (pc := 35) 8 _ 4 hC (rfl) rfl ((by rw [cw_sI_N]; exact n8)) dX8_addWater_35 fl_X8_24 rfl rfl rfl ?_
  refine mm_topi _ (show _ = cI C 8 0 4 from cI_o (cw_sI_o (by decide))) ?_
  refine mm_iload_n (pc := 38) dX8_addWater_38 rfl ?_
  refine mm_iadd (pc := 39) dX8_addWater_39 ?_
  refine cw_pi (pc := 40) 8 _ 4 hC (rfl) rfl ((by rw [cw_sI_N]; exact n8)) dX8_addWater_40 (pl_X8_24 _) rfl rfl (rfl) (rfl) (fun h40 hC e40 => ?_)
  refine mm_iconst (pc := 43) (v := 0) dX8_addWater_43 (by decide) ?_
  refine mm_iret (pc := 44) dX8_addWater_44 rfl ?_
  exact ⟨hC, by rw [e40, e30], rfl⟩

theorem ah_no {G : mm_G} {L : Nat × Nat} {d : Nat} {h : mm_H} {h0 : mm_H} {ad : Nat → Nat → Nat} {C : cw_C} {x : Int32} {app : Nat} (n8 : 0 < cN C 8) (n9 : app < cN C 9) (r11 : cR C 8 0 11 = some (ad 9 app)) (hr : rmI C app 0 x = 0) (hC : cw ad h0 C h) : mm_Ok G mX8_addHeat L (d + 1) [.ref (ad 8 0), .int x] h (fun r h1 => cw ad h0 (cw_sI C 8 0 0 1002) h1 ∧ h1.2 = h.2 ∧ r = some (.int 2)) := by
  refine mm_Ok.of [(0, .ref (ad 8 0)), (1, .int x)] rfl kX8_addHeat.2.2.2.2.2 rfl (fun A => ?_)
  refine mm_aload_n (pc := 0) dX8_addHeat_0 rfl (by first | trivial | assumption | exact mm_isr_rf _) ?_
  refine cw_grS (pc := 1) 8 _ 11 hC (rfl) rfl (n8) dX8_addHeat_1 fl_X8_46 rfl rfl rfl (r11) ?_
  refine mm_iconst (pc := 4) (v := 0) dX8_addHeat_4 (by decide) ?_
  refine mm_iload_n (pc := 5) dX8_addHeat_5 rfl ?_
  refine mm_callV (pc := 6) (As := [_, _]) (kd := ?kd_6_4) (fs := ?fs_6_4) dX8_addHeat_6 vl_X8_143 (vh_ok n9 hC) ?hc_6_4 ?hk_6_4 rfl rfl (Nat.le_of_ble_eq_true rfl) ?_; (case hc_6_4 => exact cw_cell (f := 9) hC rfl rfl n9); (case hk_6_4 => rfl)
  rintro _ _ ⟨rfl, rfl⟩
  refine mm_if_ne (pc := 9) (tgt := 20) dX8_addHeat_9 (by decide) (fun c9 => absurd hr c9) (fun c9 => ?_)
  refine mm_aload_n (pc := 12) dX8_addHeat_12 rfl (by first | trivial | assumption | exact mm_isr_rf _) ?_
  refine mm_sipush (pc := 13) (v := 1002) dX8_addHeat_13 (by decide) ?_
  refine mm_callV (pc := 16) (As := [_]) (kd := ?kd_16_5) (fs := ?fs_16_5) dX8_addHeat_16 vl_X8_131 (fw_ok n8 hC) ?hc_16_5 ?hk_16_5 rfl rfl (Nat.le_of_ble_eq_true rfl) ?_; (case hc_16_5 => exact cw_cell (f := 8) hC rfl rfl n8); (case hk_16_5 => rfl)
  rintro _ h16 ⟨hC, e16, rfl⟩
  refine mm_iret (pc := 19) dX8_addHeat_19 rfl ?_
  exact ⟨hC, e16, rfl⟩

theorem ah_yes {G : mm_G} {L : Nat × Nat} {d : Nat} {h : mm_H} {h0 : mm_H} {ad : Nat → Nat → Nat} {C : cw_C} {x : Int32} {app : Nat} (n8 : 0 < cN C 8) (n9 : app < cN C 9) (r11 : cR C 8 0 11 = some (ad 9 app)) (hr : ¬ rmI C app 0 x = 0) (hC : cw ad h0 C h) : mm_Ok G mX8_addHeat L (d + 1) [.ref (ad 8 0), .int x] h (fun r h1 => cw ad h0 (cw_sI (cw_sI C 9 app 4 (cI C 9 app 4 + x)) 8 0 6 (cI C 8 0 6 + x)) h1 ∧ h1.2 = h.2 ∧ r = some (.int 0)) := by
  refine mm_Ok.of [(0, .ref (ad 8 0)), (1, .int x)] rfl kX8_addHeat.2.2.2.2.2 rfl (fun A => ?_)
  refine mm_aload_n (pc := 0) dX8_addHeat_0 rfl (by first | trivial | assumption | exact mm_isr_rf _) ?_
  refine cw_grS (pc := 1) 8 _ 11 hC (rfl) rfl (n8) dX8_addHeat_1 fl_X8_46 rfl rfl rfl (r11) ?_
  refine mm_iconst (pc := 4) (v := 0) dX8_addHeat_4 (by decide) ?_
  refine mm_iload_n (pc := 5) dX8_addHeat_5 rfl ?_
  refine mm_callV (pc := 6) (As := [_, _]) (kd := ?kd_6_6) (fs := ?fs_6_6) dX8_addHeat_6 vl_X8_143 (vh_ok n9 hC) ?hc_6_6 ?hk_6_6 rfl rfl (Nat.le_of_ble_eq_true rfl) ?_; (case hc_6_6 => exact cw_cell (f := 9) hC rfl rfl n9); (case hk_6_6 => rfl)
  rintro _ _ ⟨rfl, rfl⟩
  refine mm_if_ne (pc := 9) (tgt := 20) dX8_addHeat_9 (by decide) (fun c9 => ?_) (fun c9 => absurd c9 hr)
  refine mm_aload_n (pc := 20) dX8_addHeat_20 rfl (by first | trivial | assumption | exact mm_isr_rf _) ?_
  refine cw_grS (pc := 21) 8 _ 11 hC (rfl) rfl (n8) dX8_addHeat_21 fl_X8_46 rfl rfl rfl (r11) ?_
  refine mm_dup (pc := 24) dX8_addHeat_24 rfl ?_
  refine cw_gi (pc := 25) 9 app 4 hC (rfl) rfl (n9) dX8_addHeat_25 fl_X8_150 rfl rfl rfl ?_
  refine mm_iload_n (pc := 28) dX8_addHeat_28 rfl ?_
  refine mm_iadd (pc := 29) dX8_addHeat_29 ?_
  refine cw_pi (pc := 30) 9 app 4 hC (rfl) rfl (n9) dX8_addHeat_30 (pl_X8_150 _) rfl rfl (rfl) (rfl) (fun h30 hC e30 => ?_)
  refine mm_aload_n (pc := 33) dX8_addHeat_33 rfl (by first | trivial | assumption | exact mm_isr_rf _) ?_
  refine mm_dup (pc := 34) dX8_addHeat_34 rfl ?_
  refine cw_gi (pc := 35) 8 _ 6 hC (rfl) rfl ((by rw [cw_sI_N]; exact n8)) dX8_addHeat_35 fl_X8_30 rfl rfl rfl ?_
  refine mm_topi _ (show _ = cI C 8 0 6 from cI_o (cw_sI_o (by decide))) ?_
  refine mm_iload_n (pc := 38) dX8_addHeat_38 rfl ?_
  refine mm_iadd (pc := 39) dX8_addHeat_39 ?_
  refine cw_pi (pc := 40) 8 _ 6 hC (rfl) rfl ((by rw [cw_sI_N]; exact n8)) dX8_addHeat_40 (pl_X8_30 _) rfl rfl (rfl) (rfl) (fun h40 hC e40 => ?_)
  refine mm_iconst (pc := 43) (v := 0) dX8_addHeat_43 (by decide) ?_
  refine mm_iret (pc := 44) dX8_addHeat_44 rfl ?_
  exact ⟨hC, by rw [e40, e30], rfl⟩

theorem tw_no {G : mm_G} {L : Nat × Nat} {d : Nat} {h : mm_H} {h0 : mm_H} {ad : Nat → Nat → Nat} {C : cw_C} {x : Int32} {app : Nat} (n8 : 0 < cN C 8) (n9 : app < cN C 9) (r11 : cR C 8 0 11 = some (ad 9 app)) (hw : ¬ x ≤ cI C 9 app 3) (hC : cw ad h0 C h) : mm_Ok G mX8_takeWater L (d + 1) [.ref (ad 8 0), .int x] h (fun r h1 => cw ad h0 (cw_sI C 8 0 0 1000) h1 ∧ h1.2 = h.2 ∧ r = some (.int 2)) := by
  refine mm_Ok.of [(0, .ref (ad 8 0)), (1, .int x)] rfl kX8_takeWater.2.2.2.2.2 rfl (fun A => ?_)
  refine mm_iload_n (pc := 0) dX8_takeWater_0 rfl ?_
  refine mm_aload_n (pc := 1) dX8_takeWater_1 rfl (by first | trivial | assumption | exact mm_isr_rf _) ?_
  refine cw_grS (pc := 2) 8 _ 11 hC (rfl) rfl (n8) dX8_takeWater_2 fl_X8_46 rfl rfl rfl (r11) ?_
  refine cw_gi (pc := 5) 9 app 3 hC (rfl) rfl (n9) dX8_takeWater_5 fl_X8_147 rfl rfl rfl ?_
  refine mm_icmp_le (pc := 8) (tgt := 19) dX8_takeWater_8 (by decide) (fun c8 => absurd c8 hw) (fun c8 => ?_)
  refine mm_aload_n (pc := 11) dX8_takeWater_11 rfl (by first | trivial | assumption | exact mm_isr_rf _) ?_
  refine mm_sipush (pc := 12) (v := 1000) dX8_takeWater_12 (by decide) ?_
  refine mm_callV (pc := 15) (As := [_]) (kd := ?kd_15_7) (fs := ?fs_15_7) dX8_takeWater_15 vl_X8_131 (fw_ok n8 hC) ?hc_15_7 ?hk_15_7 rfl rfl (Nat.le_of_ble_eq_true rfl) ?_; (case hc_15_7 => exact cw_cell (f := 8) hC rfl rfl n8); (case hk_15_7 => rfl)
  rintro _ h15 ⟨hC, e15, rfl⟩
  refine mm_iret (pc := 18) dX8_takeWater_18 rfl ?_
  exact ⟨hC, e15, rfl⟩

theorem tw_yes {G : mm_G} {L : Nat × Nat} {d : Nat} {h : mm_H} {h0 : mm_H} {ad : Nat → Nat → Nat} {C : cw_C} {x : Int32} {app : Nat} (n8 : 0 < cN C 8) (n9 : app < cN C 9) (r11 : cR C 8 0 11 = some (ad 9 app)) (hw : x ≤ cI C 9 app 3) (hC : cw ad h0 C h) : mm_Ok G mX8_takeWater L (d + 1) [.ref (ad 8 0), .int x] h (fun r h1 => cw ad h0 (cw_sI (cw_sI C 9 app 3 (cI C 9 app 3 - x)) 8 0 5 (cI C 8 0 5 + x)) h1 ∧ h1.2 = h.2 ∧ r = some (.int 0)) := by
  refine mm_Ok.of [(0, .ref (ad 8 0)), (1, .int x)] rfl kX8_takeWater.2.2.2.2.2 rfl (fun A => ?_)
  refine mm_iload_n (pc := 0) dX8_takeWater_0 rfl ?_
  refine mm_aload_n (pc := 1) dX8_takeWater_1 rfl (by first | trivial | assumption | exact mm_isr_rf _) ?_
  refine cw_grS (pc := 2) 8 _ 11 hC (rfl) rfl (n8) dX8_takeWater_2 fl_X8_46 rfl rfl rfl (r11) ?_
  refine cw_gi (pc := 5) 9 app 3 hC (rfl) rfl (n9) dX8_takeWater_5 fl_X8_147 rfl rfl rfl ?_
  refine mm_icmp_le (pc := 8) (tgt := 19) dX8_takeWater_8 (by decide) (fun c8 => ?_) (fun c8 => absurd hw c8)
  refine mm_aload_n (pc := 19) dX8_takeWater_19 rfl (by first | trivial | assumption | exact mm_isr_rf _) ?_
  refine cw_grS (pc := 20) 8 _ 11 hC (rfl) rfl (n8) dX8_takeWater_20 fl_X8_46 rfl rfl rfl (r11) ?_
  refine mm_dup (pc := 23) dX8_takeWater_23 rfl ?_
  refine cw_gi (pc := 24) 9 app 3 hC (rfl) rfl (n9) dX8_takeWater_24 fl_X8_147 rfl rfl rfl ?_
  refine mm_iload_n (pc := 27) dX8_takeWater_27 rfl ?_
  refine mm_isub (pc := 28) dX8_takeWater_28 ?_
  refine cw_pi (pc := 29) 9 app 3 hC (rfl) rfl (n9) dX8_takeWater_29 (pl_X8_147 _) rfl rfl (rfl) (rfl) (fun h29 hC e29 => ?_)
  refine mm_aload_n (pc := 32) dX8_takeWater_32 rfl (by first | trivial | assumption | exact mm_isr_rf _) ?_
  refine mm_dup (pc := 33) dX8_takeWater_33 rfl ?_
  refine cw_gi (pc := 34) 8 _ 5 hC (rfl) rfl ((by rw [cw_sI_N]; exact n8)) dX8_takeWater_34 fl_X8_27 rfl rfl rfl ?_
  refine mm_topi _ (show _ = cI C 8 0 5 from cI_o (cw_sI_o (by decide))) ?_
  refine mm_iload_n (pc := 37) dX8_takeWater_37 rfl ?_
  refine mm_iadd (pc := 38) dX8_takeWater_38 ?_
  refine cw_pi (pc := 39) 8 _ 5 hC (rfl) rfl ((by rw [cw_sI_N]; exact n8)) dX8_takeWater_39 (pl_X8_27 _) rfl rfl (rfl) (rfl) (fun h39 hC e39 => ?_)
  refine mm_iconst (pc := 42) (v := 0) dX8_takeWater_42 (by decide) ?_
  refine mm_iret (pc := 43) dX8_takeWater_43 rfl ?_
  exact ⟨hC, by rw [e39, e29], rfl⟩

theorem rw_0 {G : mm_G} {L : Nat × Nat} {d : Nat} {h : mm_H} {h0 : mm_H} {ad : Nat → Nat → Nat} {C : cw_C} {x : Int32} (n8 : 0 < cN C 8) (h13 : cI C 8 0 13 = 0) (hC : cw ad h0 C h) : mm_Ok G mX8_refuseWith L (d + 1) [.ref (ad 8 0), .int x] h (fun r h1 => cw ad h0 (cw_sI C 8 0 0 (x + 2000)) h1 ∧ h1.2 = h.2 ∧ r = some (.int 2)) := by
  refine mm_Ok.of [(0, .ref (ad 8 0)), (1, .int x)] rfl kX8_refuseWith.2.2.2.2.2 rfl (fun A => ?_)
  refine mm_aload_n (pc := 0) dX8_refuseWith_0 rfl (by first | trivial | assumption | exact mm_isr_rf _) ?_
  refine cw_gi (pc := 1) 8 _ 13 hC (rfl) rfl (n8) dX8_refuseWith_1 fl_X8_53 rfl rfl rfl ?_
  refine mm_if_ne (pc := 4) (tgt := 17) dX8_refuseWith_4 (by decide) (fun c4 => absurd h13 c4) (fun c4 => ?_)
  refine mm_aload_n (pc := 7) dX8_refuseWith_7 rfl (by first | trivial | assumption | exact mm_isr_rf _) ?_
  refine mm_iload_n (pc := 8) dX8_refuseWith_8 rfl ?_
  refine mm_sipush (pc := 9) (v := 2000) dX8_refuseWith_9 (by decide) ?_
  refine mm_iadd (pc := 12) dX8_refuseWith_12 ?_
  refine mm_callV (pc := 13) (As := [_]) (kd := ?kd_13_8) (fs := ?fs_13_8) dX8_refuseWith_13 vl_X8_131 (fw_ok n8 hC) ?hc_13_8 ?hk_13_8 rfl rfl (Nat.le_of_ble_eq_true rfl) ?_; (case hc_13_8 => exact cw_cell (f := 8) hC rfl rfl n8); (case hk_13_8 => rfl)
  rintro _ h13_ ⟨hC, e13, rfl⟩
  refine mm_iret (pc := 16) dX8_refuseWith_16 rfl ?_
  exact ⟨hC, e13, rfl⟩

theorem rw_1 {G : mm_G} {L : Nat × Nat} {d : Nat} {h : mm_H} {h0 : mm_H} {ad : Nat → Nat → Nat} {C : cw_C} {x : Int32} (n8 : 0 < cN C 8) (h13 : ¬ cI C 8 0 13 = 0) (hC : cw ad h0 C h) : mm_Ok G mX8_refuseWith L (d + 1) [.ref (ad 8 0), .int x] h (fun r h1 => cw ad h0 (cw_sI C 8 0 0 x) h1 ∧ h1.2 = h.2 ∧ r = some (.int 1)) := by
  refine mm_Ok.of [(0, .ref (ad 8 0)), (1, .int x)] rfl kX8_refuseWith.2.2.2.2.2 rfl (fun A => ?_)
  refine mm_aload_n (pc := 0) dX8_refuseWith_0 rfl (by first | trivial | assumption | exact mm_isr_rf _) ?_
  refine cw_gi (pc := 1) 8 _ 13 hC (rfl) rfl (n8) dX8_refuseWith_1 fl_X8_53 rfl rfl rfl ?_
  refine mm_if_ne (pc := 4) (tgt := 17) dX8_refuseWith_4 (by decide) (fun c4 => ?_) (fun c4 => absurd c4 h13)
  refine mm_aload_n (pc := 17) dX8_refuseWith_17 rfl (by first | trivial | assumption | exact mm_isr_rf _) ?_
  refine mm_iload_n (pc := 18) dX8_refuseWith_18 rfl ?_
  refine cw_pi (pc := 19) 8 _ 0 hC (rfl) rfl (n8) dX8_refuseWith_19 (pl_X8_9 _) rfl rfl (rfl) (rfl) (fun h19 hC e19 => ?_)
  refine mm_iconst (pc := 22) (v := 1) dX8_refuseWith_22 (by decide) ?_
  refine mm_iret (pc := 23) dX8_refuseWith_23 rfl ?_
  exact ⟨hC, e19, rfl⟩

/-- a run begins -/
def bgC (C : cw_C) (v : Nat) (a : Int32) : cw_C := cw_sI (cw_sI (cw_sI (cw_sI (cw_sI (cw_sI (cw_sI (cw_sI (cw_sR C 8 0 11 (some v)) 8 0 12 a) 8 0 0 0) 8 0 1 0) 8 0 2 0) 8 0 3 0) 8 0 4 0) 8 0 5 0) 8 0 6 0

theorem bg_ok {G : mm_G} {L : Nat × Nat} {d : Nat} {h : mm_H} {h0 : mm_H} {ad : Nat → Nat → Nat} {C : cw_C} {x : Int32} {v : Nat} (n8 : 0 < cN C 8) (hC : cw ad h0 C h) : mm_Ok G mX8_begin L (d) [.ref (ad 8 0), .ref v, .int x] h (fun r h1 => cw ad h0 (bgC C v x) h1 ∧ h1.2 = h.2 ∧ r = none) := by
  refine mm_Ok.of [(0, .ref (ad 8 0)), (1, .ref v), (2, .int x)] rfl kX8_begin.2.2.2.2.2 rfl (fun A => ?_)
  refine mm_aload_n (pc := 0) dX8_begin_0 rfl (by first | trivial | assumption | exact mm_isr_rf _) ?_
  refine mm_aload_n (pc := 1) dX8_begin_1 rfl (by first | trivial | assumption | exact mm_isr_rf _) ?_
  refine cw_prS (pc := 2) 8 _ 11 hC (rfl) rfl (n8) dX8_begin_2 (pl_X8_46 _) rfl rfl (fun h2 hC e2 => ?_)
  refine mm_aload_n (pc := 5) dX8_begin_5 rfl (by first | trivial | assumption | exact mm_isr_rf _) ?_
  refine mm_iload_n (pc := 6) dX8_begin_6 rfl ?_
  refine cw_pi (pc := 7) 8 _ 12 hC (rfl) rfl ((by rw [cw_sR_N]; exact n8)) dX8_begin_7 (pl_X8_50 _) rfl rfl (rfl) (rfl) (fun h7 hC e7 => ?_)
  refine mm_aload_n (pc := 10) dX8_begin_10 rfl (by first | trivial | assumption | exact mm_isr_rf _) ?_
  refine mm_iconst (pc := 11) (v := 0) dX8_begin_11 (by decide) ?_
  refine cw_pi (pc := 12) 8 _ 0 hC (rfl) rfl ((by rw [cw_sI_N, cw_sR_N]; exact n8)) dX8_begin_12 (pl_X8_9 _) rfl rfl (rfl) (rfl) (fun h12 hC e12 => ?_)
  refine mm_aload_n (pc := 15) dX8_begin_15 rfl (by first | trivial | assumption | exact mm_isr_rf _) ?_
  refine mm_iconst (pc := 16) (v := 0) dX8_begin_16 (by decide) ?_
  refine cw_pi (pc := 17) 8 _ 1 hC (rfl) rfl ((by rw [cw_sI_N, cw_sI_N, cw_sR_N]; exact n8)) dX8_begin_17 (pl_X8_15 _) rfl rfl (rfl) (rfl) (fun h17 hC e17 => ?_)
  refine mm_aload_n (pc := 20) dX8_begin_20 rfl (by first | trivial | assumption | exact mm_isr_rf _) ?_
  refine mm_iconst (pc := 21) (v := 0) dX8_begin_21 (by decide) ?_
  refine cw_pi (pc := 22) 8 _ 2 hC (rfl) rfl ((by rw [cw_sI_N, cw_sI_N, cw_sI_N, cw_sR_N]; exact n8)) dX8_begin_22 (pl_X8_18 _) rfl rfl (rfl) (rfl) (fun h22 hC e22 => ?_)
  refine mm_aload_n (pc := 25) dX8_begin_25 rfl (by first | trivial | assumption | exact mm_isr_rf _) ?_
  refine mm_iconst (pc := 26) (v := 0) dX8_begin_26 (by decide) ?_
  refine cw_pi (pc := 27) 8 _ 3 hC (rfl) rfl ((by rw [cw_sI_N, cw_sI_N, cw_sI_N, cw_sI_N, cw_sR_N]; exact n8)) dX8_begin_27 (pl_X8_21 _) rfl rfl (rfl) (rfl) (fun h27 hC e27 => ?_)
  refine mm_aload_n (pc := 30) dX8_begin_30 rfl (by first | trivial | assumption | exact mm_isr_rf _) ?_
  refine mm_iconst (pc := 31) (v := 0) dX8_begin_31 (by decide) ?_
  refine cw_pi (pc := 32) 8 _ 4 hC (rfl) rfl ((by rw [cw_sI_N, cw_sI_N, cw_sI_N, cw_sI_N, cw_sI_N, cw_sR_N]; exact n8)) dX8_begin_32 (pl_X8_24 _) rfl rfl (rfl) (rfl) (fun h32 hC e32 => ?_)
  refine mm_aload_n (pc := 35) dX8_begin_35 rfl (by first | trivial | assumption | exact mm_isr_rf _) ?_
  refine mm_iconst (pc := 36) (v := 0) dX8_begin_36 (by decide) ?_
  refine cw_pi (pc := 37) 8 _ 5 hC (rfl) rfl ((by rw [cw_sI_N, cw_sI_N, cw_sI_N, cw_sI_N, cw_sI_N, cw_sI_N, cw_sR_N]; exact n8)) dX8_begin_37 (pl_X8_27 _) rfl rfl (rfl) (rfl) (fun h37 hC e37 => ?_)
  refine mm_aload_n (pc := 40) dX8_begin_40 rfl (by first | trivial | assumption | exact mm_isr_rf _) ?_
  refine mm_iconst (pc := 41) (v := 0) dX8_begin_41 (by decide) ?_
  refine cw_pi (pc := 42) 8 _ 6 hC (rfl) rfl ((by rw [cw_sI_N, cw_sI_N, cw_sI_N, cw_sI_N, cw_sI_N, cw_sI_N, cw_sI_N, cw_sR_N]; exact n8)) dX8_begin_42 (pl_X8_30 _) rfl rfl (rfl) (rfl) (fun h42 hC e42 => ?_)
  refine mm_vret (pc := 45) dX8_begin_45 rfl ?_
  exact ⟨hC, by rw [e42, e37, e32, e27, e22, e17, e12, e7, e2], rfl⟩

