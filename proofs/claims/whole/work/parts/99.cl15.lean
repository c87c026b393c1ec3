theorem tkV_o {C : cw_C} {e a f : Nat} (h : ¬ f = 9) : tkV C e a f = C f := (cw_sI_o h).trans (cw_sI_o h)
theorem tkV_N {C : cw_C} {e a f : Nat} : cN (tkV C e a) f = cN C f := by unfold tkV; rw [cw_sI_N, cw_sI_N]
theorem tkP_o {C : cw_C} {e a b f : Nat} (h : ¬ f = 9) : tkP C e a b f = C f := (cw_sI_o h).trans ((cw_sI_o h).trans (tkV_o h))
theorem tkP_N {C : cw_C} {e a b f : Nat} : cN (tkP C e a b) f = cN C f := by unfold tkP; rw [cw_sI_N, cw_sI_N, tkV_N]

theorem un_1 {G : mm_G} {L : Nat × Nat} {d : Nat} {h : mm_H} {h0 : mm_H} {ad : Nat → Nat → Nat} {C : cw_C} {M : mw_S} {ab : Nat → Option Nat} {nk np : Nat} {m a : Nat} (hG : rlG ad C M ab nk np) {na : Nat} (hv : vsR ad C M nk na) (he : enR ad C M na (m + 1)) (ha : a < na) (q1 : cR C 3 m 1 = some (ad 9 a)) (q2 : cR C 3 m 2 = none) (hC : cw ad h0 C h) : mm_Ok G mX11_undo L (d + 2) [.ref (ad 11 0)] h (fun r h1 => r = some (.int (nI m)) ∧ cw ad h0 (cw_sR (tkV (cw_sI C 11 0 8 (nI m)) m a) 17 0 m none) h1 ∧ h1.2 = h.2) := by
  refine mm_Ok.of [(0, .ref (ad 11 0))] rfl kX11_undo.2.2.2.2.2 rfl (fun A => ?_)
  obtain ⟨hR, hE, ⟨n11, n13⟩, f3, f9, s3, s19⟩ := id hG
  have n7 := hR.1.1
  have hk40 := hR.2.1.1
  obtain ⟨⟨v11, n16, n9⟩, hn20, v0, v1, s48, hV⟩ := id hv
  obtain ⟨⟨n17, n3⟩, hn512, z7, z8, s54, hN⟩ := id he
  have p0 := (hN m (Nat.lt_succ_self m)).1
  have n3m : m < cN C 3 := by omega
  have n9a : a < cN C 9 := by omega
  have y7 : cR (cw_sI C 11 0 8 (nI m)) 11 0 7 = some (ad 17 0) := by unfold cR; rw [cw_sI_f]; exact z7
  refine mm_aload_n (pc := 0) dX11_undo_0 rfl (by first | trivial | assumption | exact mm_isr_rf _) ?_
  refine cw_gi (pc := 1) 11 _ 8 hC (rfl) rfl (n11) dX11_undo_1 fl_X11_49 rfl rfl rfl ?_
  refine mm_topi _ z8 ?_
  refine mm_iconst (pc := 4) (v := 1) dX11_undo_4 (by decide) ?_
  refine mm_icmp_lt (pc := 5) (tgt := 34) dX11_undo_5 (by decide) (fun c5 => absurd c5 (fun z => absurd ((nI_ltI (b := 1) (by omega) (by decide)).mp z) (by omega))) (fun c5 => ?_)
  refine mm_aload_n (pc := 8) dX11_undo_8 rfl (by first | trivial | assumption | exact mm_isr_rf _) ?_
  refine cw_gi (pc := 9) 11 _ 8 hC (rfl) rfl (n11) dX11_undo_9 fl_X11_49 rfl rfl rfl ?_
  refine mm_topi _ z8 ?_
  refine mm_aload_n (pc := 12) dX11_undo_12 rfl (by first | trivial | assumption | exact mm_isr_rf _) ?_
  refine cw_grS (pc := 13) 11 _ 7 hC (rfl) rfl (n11) dX11_undo_13 fl_X11_45 rfl rfl rfl (z7) ?_
  refine cw_alen (pc := 16) 17 _ hC (rfl) rfl (n17) dX11_undo_16 rfl rfl ?_
  refine mm_icmp_gt (pc := 17) (tgt := 34) dX11_undo_17 (by decide) (fun c17 => absurd c17 (fun z => absurd ((nI_ltI (a := 512) (by decide) (by omega)).mp z) (by omega))) (fun c17 => ?_)
  refine mm_aload_n (pc := 20) dX11_undo_20 rfl (by first | trivial | assumption | exact mm_isr_rf _) ?_
  refine cw_grS (pc := 21) 11 _ 7 hC (rfl) rfl (n11) dX11_undo_21 fl_X11_45 rfl rfl rfl (z7) ?_
  refine mm_aload_n (pc := 24) dX11_undo_24 rfl (by first | trivial | assumption | exact mm_isr_rf _) ?_
  refine cw_gi (pc := 25) 11 _ 8 hC (rfl) rfl (n11) dX11_undo_25 fl_X11_49 rfl rfl rfl ?_
  refine mm_topi _ z8 ?_
  refine mm_iconst (pc := 28) (v := 1) dX11_undo_28 (by decide) ?_
  refine mm_isub (pc := 29) dX11_undo_29 ?_
  refine mm_topi _ nI_sub1 ?_
  refine cw_aald (pc := 30) (v := (.ref (ad 3 m))) 17 0 m hC (rfl) rfl (n17) dX11_undo_30 rfl rfl rfl (by first | with_reducible rfl | assumption | rfl) (by show m < 512; omega) (by omega) rfl (by rw [p0]; rfl) ?_
  refine mm_ifnonnull (pc := 31) (tgt := 41) dX11_undo_31 (by decide) (by first | trivial | assumption | exact mm_isr_rf _) (fun a31 c31 => ?_) (fun c31 => by cases c31)
  refine mm_aload_n (pc := 41) dX11_undo_41 rfl (by first | trivial | assumption | exact mm_isr_rf _) ?_
  refine mm_dup (pc := 42) dX11_undo_42 rfl ?_
  refine cw_gi (pc := 43) 11 _ 8 hC (rfl) rfl (n11) dX11_undo_43 fl_X11_49 rfl rfl rfl ?_
  refine mm_topi _ z8 ?_
  refine mm_iconst (pc := 46) (v := 1) dX11_undo_46 (by decide) ?_
  refine mm_isub (pc := 47) dX11_undo_47 ?_
  refine mm_topi _ nI_sub1 ?_
  refine cw_pi (pc := 48) 11 _ 8 hC (rfl) rfl (n11) dX11_undo_48 (pl_X11_49 _) rfl rfl (rfl) (rfl) (fun h48 hC e48 => ?_)
  refine mm_aload_n (pc := 51) dX11_undo_51 rfl (by first | trivial | assumption | exact mm_isr_rf _) ?_
  refine cw_grS (pc := 52) 11 _ 7 hC (rfl) rfl ((by rw [cw_sI_N]; exact n11)) dX11_undo_52 fl_X11_45 rfl rfl rfl (y7) ?_
  refine mm_aload_n (pc := 55) dX11_undo_55 rfl (by first | trivial | assumption | exact mm_isr_rf _) ?_
  refine cw_gi (pc := 56) 11 _ 8 hC (rfl) rfl ((by rw [cw_sI_N]; exact n11)) dX11_undo_56 fl_X11_49 rfl rfl rfl ?_
  refine mm_topi _ (show _ = nI m from cI_sI_e) ?_
  refine cw_aald (pc := 59) (v := (.ref (ad 3 m))) 17 0 m hC (rfl) rfl ((by rw [cw_sI_N]; exact n17)) dX11_undo_59 rfl rfl rfl (by first | with_reducible rfl | assumption | rfl) (by show m < 512; omega) (by omega) rfl (by rw [cR_o (cw_sI_o (by decide)), p0]; rfl) ?_
  refine mm_callV (pc := 60) (As := []) (kd := ?kd_60_1) (fs := ?fs_60_1) dX11_undo_60 vl_X11_282 (tb_1 (by rw [cw_sI_N]; exact n3m) (by rw [cw_sI_N]; exact n9a) ((cR_o (cw_sI_o (by decide))).trans q1) ((cR_o (cw_sI_o (by decide))).trans q2) hC) ?hc_60_1 ?hk_60_1 rfl rfl (Nat.le_of_ble_eq_true rfl) ?_; (case hc_60_1 => exact cw_cell (f := 3) hC rfl rfl (by rw [cw_sI_N]; exact n3m)); (case hk_60_1 => rfl)
  rintro _ h60 ⟨hC, s60, rfl⟩
  have w8 : cI (tkV (cw_sI C 11 0 8 (nI m)) m a) 11 0 8 = nI m := (cI_o (tkV_o (by decide))).trans cI_sI_e
  have w7 : cR (tkV (cw_sI C 11 0 8 (nI m)) m a) 11 0 7 = some (ad 17 0) := (cR_o (tkV_o (by decide))).trans y7
  have k11 : 0 < cN (tkV (cw_sI C 11 0 8 (nI m)) m a) 11 := by rw [tkV_N, cw_sI_N]; exact n11
  have k17 : 0 < cN (tkV (cw_sI C 11 0 8 (nI m)) m a) 17 := by rw [tkV_N, cw_sI_N]; exact n17
  refine mm_aload_n (pc := 63) dX11_undo_63 rfl (by first | trivial | assumption | exact mm_isr_rf _) ?_
  refine cw_grS (pc := 64) 11 _ 7 hC (rfl) rfl (k11) dX11_undo_64 fl_X11_45 rfl rfl rfl (w7) ?_
  refine mm_aload_n (pc := 67) dX11_undo_67 rfl (by first | trivial | assumption | exact mm_isr_rf _) ?_
  refine cw_gi (pc := 68) 11 _ 8 hC (rfl) rfl (k11) dX11_undo_68 fl_X11_49 rfl rfl rfl ?_
  refine mm_topi _ w8 ?_
  refine mm_null (pc := 71) dX11_undo_71 ?_
  refine cw_aastN (pc := 72) 17 0 m hC (rfl) rfl (k17) dX11_undo_72 rfl rfl (by first | with_reducible rfl | assumption | rfl) (by show m < 512; omega) (by omega) rfl (fun h72 hC e72 => ?_)
  refine mm_aload_n (pc := 73) dX11_undo_73 rfl (by first | trivial | assumption | exact mm_isr_rf _) ?_
  refine cw_gi (pc := 74) 11 _ 8 hC (rfl) rfl ((by rw [cw_sR_N]; exact k11)) dX11_undo_74 fl_X11_49 rfl rfl rfl ?_
  refine mm_topi _ ((cI_o (cw_sR_o (by decide))).trans w8) ?_
  refine mm_iret (pc := 77) dX11_undo_77 rfl ?_
  exact ⟨rfl, hC, by rw [e72, s60, e48]⟩

theorem un_2 {G : mm_G} {L : Nat × Nat} {d : Nat} {h : mm_H} {h0 : mm_H} {ad : Nat → Nat → Nat} {C : cw_C} {M : mw_S} {ab : Nat → Option Nat} {nk np : Nat} {m a b : Nat} (hG : rlG ad C M ab nk np) {na : Nat} (hv : vsR ad C M nk na) (he : enR ad C M na (m + 1)) (ha : a < na) (q1 : cR C 3 m 1 = some (ad 9 a)) (hb : b < na) (hab : ¬ a = b) (q2 : cR C 3 m 2 = some (ad 9 b)) (hC : cw ad h0 C h) : mm_Ok G mX11_undo L (d + 2) [.ref (ad 11 0)] h (fun r h1 => r = some (.int (nI m)) ∧ cw ad h0 (cw_sR (tkP (cw_sI C 11 0 8 (nI m)) m a b) 17 0 m none) h1 ∧ h1.2 = h.2) := by
  refine mm_Ok.of [(0, .ref (ad 11 0))] rfl kX11_undo.2.2.2.2.2 rfl (fun A => ?_)
  obtain ⟨hR, hE, ⟨n11, n13⟩, f3, f9, s3, s19⟩ := id hG
  have n7 := hR.1.1
  have hk40 := hR.2.1.1
  obtain ⟨⟨v11, n16, n9⟩, hn20, v0, v1, s48, hV⟩ := id hv
  obtain ⟨⟨n17, n3⟩, hn512, z7, z8, s54, hN⟩ := id he
  have p0 := (hN m (Nat.lt_succ_self m)).1
  have n3m : m < cN C 3 := by omega
  have n9a : a < cN C 9 := by omega
  have n9b : b < cN C 9 := by omega
  have y7 : cR (cw_sI C 11 0 8 (nI m)) 11 0 7 = some (ad 17 0) := by unfold cR; rw [cw_sI_f]; exact z7
  refine mm_aload_n (pc := 0) dX11_undo_0 rfl (by first | trivial | assumption | exact mm_isr_rf _) ?_
  refine cw_gi (pc := 1) 11 _ 8 hC (rfl) rfl (n11) dX11_undo_1 fl_X11_49 rfl rfl rfl ?_
  refine mm_topi _ z8 ?_
  refine mm_iconst (pc := 4) (v := 1) dX11_undo_4 (by decide) ?_
  refine mm_icmp_lt (pc := 5) (tgt := 34) dX11_undo_5 (by decide) (fun c5 => absurd c5 (fun z => absurd ((nI_ltI (b := 1) (by omega) (by decide)).mp z) (by omega))) (fun c5 => ?_)
  refine mm_aload_n (pc := 8) dX11_undo_8 rfl (by first | trivial | assumption | exact mm_isr_rf _) ?_
  refine cw_gi (pc := 9) 11 _ 8 hC (rfl) rfl (n11) dX11_undo_9 fl_X11_49 rfl rfl rfl ?_
  refine mm_topi _ z8 ?_
  refine mm_aload_n (pc := 12) dX11_undo_12 rfl (by first | trivial | assumption | exact mm_isr_rf _) ?_
  refine cw_grS (pc := 13) 11 _ 7 hC (rfl) rfl (n11) dX11_undo_13 fl_X11_45 rfl rfl rfl (z7) ?_
  refine cw_alen (pc := 16) 17 _ hC (rfl) rfl (n17) dX11_undo_16 rfl rfl ?_
  refine mm_icmp_gt (pc := 17) (tgt := 34) dX11_undo_17 (by decide) (fun c17 => absurd c17 (fun z => absurd ((nI_ltI (a := 512) (by decide) (by omega)).mp z) (by omega))) (fun c17 => ?_)
  refine mm_aload_n (pc := 20) dX11_undo_20 rfl (by first | trivial | assumption | exact mm_isr_rf _) ?_
  refine cw_grS (pc := 21) 11 _ 7 hC (rfl) rfl (n11) dX11_undo_21 fl_X11_45 rfl rfl rfl (z7) ?_
  refine mm_aload_n (pc := 24) dX11_undo_24 rfl (by first | trivial | assumption | exact mm_isr_rf _) ?_
  refine cw_gi (pc := 25) 11 _ 8 hC (rfl) rfl (n11) dX11_undo_25 fl_X11_49 rfl rfl rfl ?_
  refine mm_topi _ z8 ?_
  refine mm_iconst (pc := 28) (v := 1) dX11_undo_28 (by decide) ?_
  refine mm_isub (pc := 29) dX11_undo_29 ?_
  refine mm_topi _ nI_sub1 ?_
  refine cw_aald (pc := 30) (v := (.ref (ad 3 m))) 17 0 m hC (rfl) rfl (n17) dX11_undo_30 rfl rfl rfl (by first | with_reducible rfl | assumption | rfl) (by show m < 512; omega) (by omega) rfl (by rw [p0]; rfl) ?_
  refine mm_ifnonnull (pc := 31) (tgt := 41) dX11_undo_31 (by decide) (by first | trivial | assumption | exact mm_isr_rf _) (fun a31 c31 => ?_) (fun c31 => by cases c31)
  refine mm_aload_n (pc := 41) dX11_undo_41 rfl (by first | trivial | assumption | exact mm_isr_rf _) ?_
  refine mm_dup (pc := 42) dX11_undo_42 rfl ?_
  refine cw_gi (pc := 43) 11 _ 8 hC (rfl) rfl (n11) dX11_undo_43 fl_X11_49 rfl rfl rfl ?_
  refine mm_topi _ z8 ?_
  refine mm_iconst (pc := 46) (v := 1) dX11_undo_46 (by decide) ?_
  refine mm_isub (pc := 47) dX11_undo_47 ?_
  refine mm_topi _ nI_sub1 ?_
  refine cw_pi (pc := 48) 11 _ 8 hC (rfl) rfl (n11) dX11_undo_48 (pl_X11_49 _) rfl rfl (rfl) (rfl) (fun h48 hC e48 => ?_)
  refine mm_aload_n (pc := 51) dX11_undo_51 rfl (by first | trivial | assumption | exact mm_isr_rf _) ?_
  refine cw_grS (pc := 52) 11 _ 7 hC (rfl) rfl ((by rw [cw_sI_N]; exact n11)) dX11_undo_52 fl_X11_45 rfl rfl rfl (y7) ?_
  refine mm_aload_n (pc := 55) dX11_undo_55 rfl (by first | trivial | assumption | exact mm_isr_rf _) ?_
  refine cw_gi (pc := 56) 11 _ 8 hC (rfl) rfl ((by rw [cw_sI_N]; exact n11)) dX11_undo_56 fl_X11_49 rfl rfl rfl ?_
  refine mm_topi _ (show _ = nI m from cI_sI_e) ?_
  refine cw_aald (pc := 59) (v := (.ref (ad 3 m))) 17 0 m hC (rfl) rfl ((by rw [cw_sI_N]; exact n17)) dX11_undo_59 rfl rfl rfl (by first | with_reducible rfl | assumption | rfl) (by show m < 512; omega) (by omega) rfl (by rw [cR_o (cw_sI_o (by decide)), p0]; rfl) ?_
  refine mm_callV (pc := 60) (As := []) (kd := ?kd_60_2) (fs := ?fs_60_2) dX11_undo_60 vl_X11_282 (tb_2 (by rw [cw_sI_N]; exact n3m) (by rw [cw_sI_N]; exact n9a) (by rw [cw_sI_N]; exact n9b) hab ((cR_o (cw_sI_o (by decide))).trans q1) ((cR_o (cw_sI_o (by decide))).trans q2) hC) ?hc_60_2 ?hk_60_2 rfl rfl (Nat.le_of_ble_eq_true rfl) ?_; (case hc_60_2 => exact cw_cell (f := 3) hC rfl rfl (by rw [cw_sI_N]; exact n3m)); (case hk_60_2 => rfl)
  rintro _ h60 ⟨hC, s60, rfl⟩
  have w8 : cI (tkP (cw_sI C 11 0 8 (nI m)) m a b) 11 0 8 = nI m := (cI_o (tkP_o (by decide))).trans cI_sI_e
  have w7 : cR (tkP (cw_sI C 11 0 8 (nI m)) m a b) 11 0 7 = some (ad 17 0) := (cR_o (tkP_o (by decide))).trans y7
  have k11 : 0 < cN (tkP (cw_sI C 11 0 8 (nI m)) m a b) 11 := by rw [tkP_N, cw_sI_N]; exact n11
  have k17 : 0 < cN (tkP (cw_sI C 11 0 8 (nI m)) m a b) 17 := by rw [tkP_N, cw_sI_N]; exact n17
  refine mm_aload_n (pc := 63) dX11_undo_63 rfl (by first | trivial | assumption | exact mm_isr_rf _) ?_
  refine cw_grS (pc := 64) 11 _ 7 hC (rfl) rfl (k11) dX11_undo_64 fl_X11_45 rfl rfl rfl (w7) ?_
  refine mm_aload_n (pc := 67) dX11_undo_67 rfl (by first | trivial | assumption | exact mm_isr_rf _) ?_
  refine cw_gi (pc := 68) 11 _ 8 hC (rfl) rfl (k11) dX11_undo_68 fl_X11_49 rfl rfl rfl ?_
  refine mm_topi _ w8 ?_
  refine mm_null (pc := 71) dX11_undo_71 ?_
  refine cw_aastN (pc := 72) 17 0 m hC (rfl) rfl (k17) dX11_undo_72 rfl rfl (by first | with_reducible rfl | assumption | rfl) (by show m < 512; omega) (by omega) rfl (fun h72 hC e72 => ?_)
  refine mm_aload_n (pc := 73) dX11_undo_73 rfl (by first | trivial | assumption | exact mm_isr_rf _) ?_
  refine cw_gi (pc := 74) 11 _ 8 hC (rfl) rfl ((by rw [cw_sR_N]; exact k11)) dX11_undo_74 fl_X11_49 rfl rfl rfl ?_
  refine mm_topi _ ((cI_o (cw_sR_o (by decide))).trans w8) ?_
  refine mm_iret (pc := 77) dX11_undo_77 rfl ?_
  exact ⟨rfl, hC, by rw [e72, s60, e48]⟩

