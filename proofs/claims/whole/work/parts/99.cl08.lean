theorem pr_yes {G : mm_G} {L : Nat × Nat} {d : Nat} {h : mm_H} {h0 : mm_H} {ad : Nat → Nat → Nat} {C : cw_C} {M : mw_S} {ab : Nat → Option Nat} {nk np : Nat} {x : Int32} {a b : Nat} (hG : rlG ad C M ab nk np) {na : Nat} (hv : vsR ad C M nk na) (ha : a < na) (hb : b < na) (hab : ¬ a = b) {ne : Nat} (x1 : ¬ x < 1) (x2 : x ≤ M.2.2.1 51 a) (hr : ¬ rmI C b x (sp_part M a x) = 0) (he : enR ad C M na ne) (h3N : cN C 3 = ne) (hn : ne < 512) (hL1 : h.2.1 + 1 ≤ L.1) (hL2 : h.2.2 + 7 ≤ L.2) (hC : cw ad h0 C h) : mm_Ok G mX11_pour L (d + 2) [.ref (ad 11 0), .int (nI a), .int (nI b), .int x] h (fun r h1 => prY ad h0 C h ne a b x (sp_part M a x) r h1) := by
  refine mm_Ok.of [(0, .ref (ad 11 0)), (1, .int (nI a)), (2, .int (nI b)), (3, .int x)] rfl kX11_pour.2.2.2.2.2 rfl (fun A => ?_)
  obtain ⟨hR, hE, ⟨n11, n13⟩, f3, f9, s3, s19⟩ := id hG
  have n7 := hR.1.1
  have hk40 := hR.2.1.1
  have na9 : a < cN C 9 := by have := hv.1.2.2; omega
  have nb9 : b < cN C 9 := by have := hv.1.2.2; omega
  have h20 := hv.2.1
  obtain ⟨-, -, -, -, p5, p6⟩ := hv.2.2.2.2.2 a ha
  obtain ⟨⟨n17, n3⟩, hn512, z7, z8, s54, hN⟩ := id he
  refine mm_aload_n (pc := 0) dX11_pour_0 rfl (by first | trivial | assumption | exact mm_isr_rf _) ?_
  refine mm_iload_n (pc := 1) dX11_pour_1 rfl ?_
  refine mm_callV (pc := 2) (As := [_]) (kd := ?kd_2_1) (fs := ?fs_2_1) dX11_pour_2 vl_X11_200 (va_in (i := a) hv ha hC) ?hc_2_1 ?hk_2_1 rfl rfl (Nat.le_of_ble_eq_true rfl) ?_; (case hc_2_1 => exact cw_cell (f := 11) hC rfl rfl n11); (case hk_2_1 => rfl)
  rintro _ h2 ⟨rfl, rfl⟩
  refine mm_astore (pc := 5) dX11_pour_5 (by first | trivial | assumption | exact mm_isr_rf _) rfl (Nat.le_of_ble_eq_true rfl) ?_
  refine mm_aload_n (pc := 7) dX11_pour_7 rfl (by first | trivial | assumption | exact mm_isr_rf _) ?_
  refine mm_iload_n (pc := 8) dX11_pour_8 rfl ?_
  refine mm_callV (pc := 9) (As := [_]) (kd := ?kd_9_2) (fs := ?fs_9_2) dX11_pour_9 vl_X11_200 (va_in (i := b) hv hb hC) ?hc_9_2 ?hk_9_2 rfl rfl (Nat.le_of_ble_eq_true rfl) ?_; (case hc_9_2 => exact cw_cell (f := 11) hC rfl rfl n11); (case hk_9_2 => rfl)
  rintro _ h9 ⟨rfl, rfl⟩
  refine mm_astore (pc := 12) dX11_pour_12 (by first | trivial | assumption | exact mm_isr_rf _) rfl (Nat.le_of_ble_eq_true rfl) ?_
  refine mm_aload (pc := 14) dX11_pour_14 rfl (by first | trivial | assumption | exact mm_isr_rf _) ?_
  refine mm_ifnull (pc := 16) (tgt := 43) dX11_pour_16 (by decide) (by first | trivial | assumption | exact mm_isr_rf _) (fun c16 => by cases c16) (fun a16 c16 => ?_)
  refine mm_aload (pc := 19) dX11_pour_19 rfl (by first | trivial | assumption | exact mm_isr_rf _) ?_
  refine mm_ifnull (pc := 21) (tgt := 43) dX11_pour_21 (by decide) (by first | trivial | assumption | exact mm_isr_rf _) (fun c21 => by cases c21) (fun a21 c21 => ?_)
  refine mm_iload_n (pc := 24) dX11_pour_24 rfl ?_
  refine mm_iload_n (pc := 25) dX11_pour_25 rfl ?_
  refine mm_icmp_eq (pc := 26) (tgt := 43) dX11_pour_26 (by decide) (fun c26 => absurd c26 (nI_ne hab (by omega) (by omega))) (fun c26 => ?_)
  refine mm_iload_n (pc := 29) dX11_pour_29 rfl ?_
  refine mm_iconst (pc := 30) (v := 1) dX11_pour_30 (by decide) ?_
  refine mm_icmp_lt (pc := 31) (tgt := 43) dX11_pour_31 (by decide) (fun c31 => absurd c31 x1) (fun c31 => ?_)
  refine mm_iload_n (pc := 34) dX11_pour_34 rfl ?_
  refine mm_aload (pc := 35) dX11_pour_35 rfl (by first | trivial | assumption | exact mm_isr_rf _) ?_
  refine cw_gi (pc := 37) 9 a 3 hC (rfl) rfl (na9) dX11_pour_37 fl_X11_208 rfl rfl rfl ?_
  refine mm_topi _ p5 ?_
  refine mm_icmp_le (pc := 40) (tgt := 49) dX11_pour_40 (by decide) (fun c40 => ?_) (fun c40 => absurd x2 c40)
  refine mm_aload (pc := 49) dX11_pour_49 rfl (by first | trivial | assumption | exact mm_isr_rf _) ?_
  refine mm_iload_n (pc := 51) dX11_pour_51 rfl ?_
  refine mm_callV (pc := 52) (As := [_]) (kd := ?kd_52_3) (fs := ?fs_52_3) dX11_pour_52 vl_X11_221 (ho_ok na9 p5 p6 x1 x2 hC) ?hc_52_3 ?hk_52_3 rfl rfl (Nat.le_of_ble_eq_true rfl) ?_; (case hc_52_3 => exact cw_cell (f := 9) hC rfl rfl na9); (case hk_52_3 => rfl)
  rintro _ h52 ⟨rfl, rfl⟩
  refine mm_istore (pc := 55) dX11_pour_55 rfl (Nat.le_of_ble_eq_true rfl) ?_
  refine mm_aload (pc := 57) dX11_pour_57 rfl (by first | trivial | assumption | exact mm_isr_rf _) ?_
  refine mm_iload_n (pc := 59) dX11_pour_59 rfl ?_
  refine mm_iload (pc := 60) dX11_pour_60 rfl ?_
  refine mm_callV (pc := 62) (As := [_, _]) (kd := ?kd_62_4) (fs := ?fs_62_4) dX11_pour_62 vl_X11_205 (vh_ok nb9 hC) ?hc_62_4 ?hk_62_4 rfl rfl (Nat.le_of_ble_eq_true rfl) ?_; (case hc_62_4 => exact cw_cell (f := 9) hC rfl rfl nb9); (case hk_62_4 => rfl)
  rintro _ h62 ⟨rfl, rfl⟩
  refine mm_if_eq (pc := 65) (tgt := 80) dX11_pour_65 (by decide) (fun c65 => absurd c65 hr) (fun c65 => ?_)
  refine mm_aload_n (pc := 68) dX11_pour_68 rfl (by first | trivial | assumption | exact mm_isr_rf _) ?_
  refine cw_gi (pc := 69) 11 _ 8 hC (rfl) rfl (n11) dX11_pour_69 fl_X11_49 rfl rfl rfl ?_
  refine mm_topi _ z8 ?_
  refine mm_aload_n (pc := 72) dX11_pour_72 rfl (by first | trivial | assumption | exact mm_isr_rf _) ?_
  refine cw_grS (pc := 73) 11 _ 7 hC (rfl) rfl (n11) dX11_pour_73 fl_X11_45 rfl rfl rfl (z7) ?_
  refine cw_alen (pc := 76) 17 _ hC (rfl) rfl (n17) dX11_pour_76 rfl rfl ?_
  refine mm_icmp_lt (pc := 77) (tgt := 87) dX11_pour_77 (by decide) (fun c77 => ?_) (fun c77 => absurd (nI_lt (b := 512) hn (by decide)) c77)
  refine mm_aload (pc := 87) dX11_pour_87 rfl (by first | trivial | assumption | exact mm_isr_rf _) ?_
  refine mm_dup (pc := 89) dX11_pour_89 rfl ?_
  refine cw_gi (pc := 90) 9 a 3 hC (rfl) rfl (na9) dX11_pour_90 fl_X11_208 rfl rfl rfl ?_
  refine mm_iload_n (pc := 93) dX11_pour_93 rfl ?_
  refine mm_isub (pc := 94) dX11_pour_94 ?_
  refine cw_pi (pc := 95) 9 a 3 hC (rfl) rfl (na9) dX11_pour_95 (pl_X11_208 _) rfl rfl (rfl) (rfl) (fun h95 hC e95 => ?_)
  refine mm_aload (pc := 98) dX11_pour_98 rfl (by first | trivial | assumption | exact mm_isr_rf _) ?_
  refine mm_dup (pc := 100) dX11_pour_100 rfl ?_
  refine cw_gi (pc := 101) 9 a 4 hC (rfl) rfl ((by rw [cw_sI_N]; exact na9)) dX11_pour_101 fl_X11_211 rfl rfl rfl ?_
  refine mm_topi _ (show _ = cI C 9 a 4 from cI_sI_n (fun z => absurd z.2.2 (by decide))) ?_
  refine mm_iload (pc := 104) dX11_pour_104 rfl ?_
  refine mm_isub (pc := 106) dX11_pour_106 ?_
  refine cw_pi (pc := 107) 9 a 4 hC (rfl) rfl ((by rw [cw_sI_N]; exact na9)) dX11_pour_107 (pl_X11_211 _) rfl rfl (rfl) (rfl) (fun h107 hC e107 => ?_)
  refine mm_aload (pc := 110) dX11_pour_110 rfl (by first | trivial | assumption | exact mm_isr_rf _) ?_
  refine mm_dup (pc := 112) dX11_pour_112 rfl ?_
  refine cw_gi (pc := 113) 9 b 3 hC (rfl) rfl ((by rw [cw_sI_N, cw_sI_N]; exact nb9)) dX11_pour_113 fl_X11_208 rfl rfl rfl ?_
  refine mm_topi _ (show _ = cI C 9 b 3 from (cI_sI_n (fun z => hab z.2.1.symm)).trans (cI_sI_n (fun z => hab z.2.1.symm))) ?_
  refine mm_iload_n (pc := 116) dX11_pour_116 rfl ?_
  refine mm_iadd (pc := 117) dX11_pour_117 ?_
  refine cw_pi (pc := 118) 9 b 3 hC (rfl) rfl ((by rw [cw_sI_N, cw_sI_N]; exact nb9)) dX11_pour_118 (pl_X11_208 _) rfl rfl (rfl) (rfl) (fun h118 hC e118 => ?_)
  refine mm_aload (pc := 121) dX11_pour_121 rfl (by first | trivial | assumption | exact mm_isr_rf _) ?_
  refine mm_dup (pc := 123) dX11_pour_123 rfl ?_
  refine cw_gi (pc := 124) 9 b 4 hC (rfl) rfl ((by rw [cw_sI_N, cw_sI_N, cw_sI_N]; exact nb9)) dX11_pour_124 fl_X11_211 rfl rfl rfl ?_
  refine mm_topi _ (show _ = cI C 9 b 4 from (cI_sI_n (fun z => absurd z.2.2 (by decide))).trans ((cI_sI_n (fun z => hab z.2.1.symm)).trans (cI_sI_n (fun z => hab z.2.1.symm)))) ?_
  refine mm_iload (pc := 127) dX11_pour_127 rfl ?_
  refine mm_iadd (pc := 129) dX11_pour_129 ?_
  refine cw_pi (pc := 130) 9 b 4 hC (rfl) rfl ((by rw [cw_sI_N, cw_sI_N, cw_sI_N]; exact nb9)) dX11_pour_130 (pl_X11_211 _) rfl rfl (rfl) (rfl) (fun h130 hC e130 => ?_)
  have s130 : h130.2 = h62.2 := by rw [e130, e118, e107, e95]
  refine mm_post (fun r_ h_ z_ => ?_) (mm_weakK (pr_133 (d := d) (C := prV C a b x (sp_part M a x)) (ne := ne) (by rw [prV_N]; exact h3N) hn (by rw [prV_N]; exact n11) (by rw [prV_N]; exact n17) (by rw [prV_N]; exact na9) (by rw [prV_N]; exact nb9) (by rw [cR_o (prV_o (by decide))]; exact z7) (by rw [cI_o (prV_o (by decide))]; exact z8) (by rw [s130]; exact hL1) (by rw [s130]; exact hL2) hC) (And.intro rfl (And.intro rfl (And.intro rfl (And.intro rfl (And.intro rfl trivial))))))
  obtain ⟨z1, z2, z3⟩ := z_
  rw [s130] at z2 z3
  rw [show cw_ad ad (prV C a b x (sp_part M a x)) 3 h62.2.1 9 a = ad 9 a from cw_ad_o (by rw [prV_N]; exact na9), show cw_ad ad (prV C a b x (sp_part M a x)) 3 h62.2.1 9 b = ad 9 b from cw_ad_o (by rw [prV_N]; exact nb9)] at z2
  exact ⟨z1, z2, z3⟩

