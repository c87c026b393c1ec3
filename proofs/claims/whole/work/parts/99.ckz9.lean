/-- water and heat came into a vessel -/
def chV (C : cw_C) (a : Nat) (w x : Int32) : cw_C := cw_sI (cw_sI C 9 a 3 (cI C 9 a 3 + w)) 9 a 4 (cI C 9 a 4 + x)
theorem chV_o {C : cw_C} {a f : Nat} {w x : Int32} (h : ¬ f = 9) : chV C a w x f = C f := (cw_sI_o h).trans (cw_sI_o h)
theorem chV_N {C : cw_C} {a f : Nat} {w x : Int32} : cN (chV C a w x) f = cN C f := by unfold chV; rw [cw_sI_N, cw_sI_N]
theorem chV_3 {C : cw_C} {a : Nat} {w x : Int32} : cI (chV C a w x) 9 a 3 = cI C 9 a 3 + w := by unfold chV; rw [cI_sI_n (fun z => absurd z.2.2 (by decide)), cI_sI_e]
theorem chV_4 {C : cw_C} {a : Nat} {w x : Int32} : cI (chV C a w x) 9 a 4 = cI C 9 a 4 + x := by unfold chV; rw [cI_sI_e]
theorem chV_i {C : cw_C} {a i j : Nat} {w x : Int32} (h : ¬ i = a ∨ (¬ j = 3 ∧ ¬ j = 4)) : cI (chV C a w x) 9 i j = cI C 9 i j := by
  unfold chV
  rw [cI_sI_n (fun z => h.elim (fun y => y z.2.1) (fun y => y.2 z.2.2)), cI_sI_n (fun z => h.elim (fun y => y z.2.1) (fun y => y.1 z.2.2))]
theorem chV_R {C : cw_C} {a i j : Nat} {w x : Int32} : cR (chV C a w x) 9 i j = cR C 9 i j := by
  unfold chV cR
  rw [cw_sI_f, cw_sI_f]
def cgY (ad : Nat → Nat → Nat) (h0 : mm_H) (C : cw_C) (h : mm_H) (ne a : Nat) (w x : Int32) (r : Option Value) (h1 : mm_H) : Prop := r = some (.int (cI C 9 a 3 + w)) ∧ cw (cw_ad ad (chV C a w x) 3 h.2.1) h0 (etC ad (chV C a w x) ne (chI w x) (chR (ad 9 a)) h.2.1) h1 ∧ h1.2 = (h.2.1 + 1, h.2.2 + 7)

theorem cg_yes {G : mm_G} {L : Nat × Nat} {d : Nat} {h : mm_H} {h0 : mm_H} {ad : Nat → Nat → Nat} {C : cw_C} {M : mw_S} {ab : Nat → Option Nat} {nk np : Nat} {w x : Int32} {i : Nat} (hG : rlG ad C M ab nk np) {na : Nat} (hv : vsR ad C M nk na) (hi : i < na) (w0 : ¬ w < 0) (x0 : ¬ x < 0) (w1 : ¬ 100000 < w) (x1 : x ≤ 100000) {ne : Nat} (hr : ¬ rmI C i w x = 0) (he : enR ad C M na ne) (h3N : cN C 3 = ne) (hn : ne < 512) (hL1 : h.2.1 + 1 ≤ L.1) (hL2 : h.2.2 + 7 ≤ L.2) (hC : cw ad h0 C h) : mm_Ok G mX11_charge L (d + 2) [.ref (ad 11 0), .int (nI i), .int w, .int x] h (fun r h1 => cgY ad h0 C h ne i w x r h1) := by
  refine mm_Ok.of [(0, .ref (ad 11 0)), (1, .int (nI i)), (2, .int w), (3, .int x)] rfl kX11_charge.2.2.2.2.2 rfl (fun A => ?_)
  obtain ⟨hR, hE, ⟨n11, n13⟩, f3, f9, s3, s19⟩ := id hG
  have n7 := hR.1.1
  have hk40 := hR.2.1.1
  have ni : i < cN C 9 := by have := hv.1.2.2; omega
  obtain ⟨⟨n17, n3⟩, hn512, z7, z8, s54, hN⟩ := id he
  refine mm_aload_n (pc := 0) dX11_charge_0 rfl (by first | trivial | assumption | exact mm_isr_rf _) ?_
  refine mm_iload_n (pc := 1) dX11_charge_1 rfl ?_
  refine mm_callV (pc := 2) (As := [_]) (kd := ?kd_2_1) (fs := ?fs_2_1) dX11_charge_2 vl_X11_200 (va_in (i := i) hv hi hC) ?hc_2_1 ?hk_2_1 rfl rfl (Nat.le_of_ble_eq_true rfl) ?_; (case hc_2_1 => exact cw_cell (f := 11) hC rfl rfl n11); (case hk_2_1 => rfl)
  rintro _ h2 ⟨rfl, rfl⟩
  refine mm_astore (pc := 5) dX11_charge_5 (by first | trivial | assumption | exact mm_isr_rf _) rfl (Nat.le_of_ble_eq_true rfl) ?_
  refine mm_aload (pc := 7) dX11_charge_7 rfl (by first | trivial | assumption | exact mm_isr_rf _) ?_
  refine mm_ifnull (pc := 9) (tgt := 32) dX11_charge_9 (by decide) (by first | trivial | assumption | exact mm_isr_rf _) (fun c9 => by cases c9) (fun a9 c9 => ?_)
  refine mm_iload_n (pc := 12) dX11_charge_12 rfl ?_
  refine mm_if_lt (pc := 13) (tgt := 32) dX11_charge_13 (by decide) (fun c13 => absurd c13 w0) (fun c13 => ?_)
  refine mm_iload_n (pc := 16) dX11_charge_16 rfl ?_
  refine mm_ldc (pc := 17) dX11_charge_17 cn_X11_204 ?_
  refine mm_icmp_gt (pc := 19) (tgt := 32) dX11_charge_19 (by decide) (fun c19 => absurd c19 w1) (fun c19 => ?_)
  refine mm_iload_n (pc := 22) dX11_charge_22 rfl ?_
  refine mm_if_lt (pc := 23) (tgt := 32) dX11_charge_23 (by decide) (fun c23 => absurd c23 x0) (fun c23 => ?_)
  refine mm_iload_n (pc := 26) dX11_charge_26 rfl ?_
  refine mm_ldc (pc := 27) dX11_charge_27 cn_X11_204 ?_
  refine mm_icmp_le (pc := 29) (tgt := 38) dX11_charge_29 (by decide) (fun c29 => ?_) (fun c29 => absurd x1 c29)
  refine mm_aload (pc := 38) dX11_charge_38 rfl (by first | trivial | assumption | exact mm_isr_rf _) ?_
  refine mm_iload_n (pc := 40) dX11_charge_40 rfl ?_
  refine mm_iload_n (pc := 41) dX11_charge_41 rfl ?_
  refine mm_callV (pc := 42) (As := [_, _]) (kd := ?kd_42_2) (fs := ?fs_42_2) dX11_charge_42 vl_X11_205 (vh_ok ni hC) ?hc_42_2 ?hk_42_2 rfl rfl (Nat.le_of_ble_eq_true rfl) ?_; (case hc_42_2 => exact cw_cell (f := 9) hC rfl rfl ni); (case hk_42_2 => rfl)
  rintro _ h42 ⟨rfl, rfl⟩
  refine mm_if_eq (pc := 45) (tgt := 60) dX11_charge_45 (by decide) (fun c45 => absurd c45 hr) (fun c45 => ?_)
  refine mm_aload_n (pc := 48) dX11_charge_48 rfl (by first | trivial | assumption | exact mm_isr_rf _) ?_
  refine cw_gi (pc := 49) 11 _ 8 hC (rfl) rfl (n11) dX11_charge_49 fl_X11_49 rfl rfl rfl ?_
  refine mm_topi _ z8 ?_
  refine mm_aload_n (pc := 52) dX11_charge_52 rfl (by first | trivial | assumption | exact mm_isr_rf _) ?_
  refine cw_grS (pc := 53) 11 _ 7 hC (rfl) rfl (n11) dX11_charge_53 fl_X11_45 rfl rfl rfl (z7) ?_
  refine cw_alen (pc := 56) 17 _ hC (rfl) rfl (n17) dX11_charge_56 rfl rfl ?_
  refine mm_icmp_lt (pc := 57) (tgt := 67) dX11_charge_57 (by decide) (fun c57 => ?_) (fun c57 => absurd (nI_lt (b := 512) hn (by decide)) c57)
  refine mm_aload (pc := 67) dX11_charge_67 rfl (by first | trivial | assumption | exact mm_isr_rf _) ?_
  refine mm_dup (pc := 69) dX11_charge_69 rfl ?_
  refine cw_gi (pc := 70) 9 i 3 hC (rfl) rfl (ni) dX11_charge_70 fl_X11_208 rfl rfl rfl ?_
  refine mm_iload_n (pc := 73) dX11_charge_73 rfl ?_
  refine mm_iadd (pc := 74) dX11_charge_74 ?_
  refine cw_pi (pc := 75) 9 i 3 hC (rfl) rfl (ni) dX11_charge_75 (pl_X11_208 _) rfl rfl (rfl) (rfl) (fun h75 hC e75 => ?_)
  refine mm_aload (pc := 78) dX11_charge_78 rfl (by first | trivial | assumption | exact mm_isr_rf _) ?_
  refine mm_dup (pc := 80) dX11_charge_80 rfl ?_
  refine cw_gi (pc := 81) 9 i 4 hC (rfl) rfl ((by rw [cw_sI_N]; exact ni)) dX11_charge_81 fl_X11_211 rfl rfl rfl ?_
  refine mm_topi _ (show _ = cI C 9 i 4 from cI_sI_n (fun z => absurd z.2.2 (by decide))) ?_
  refine mm_iload_n (pc := 84) dX11_charge_84 rfl ?_
  refine mm_iadd (pc := 85) dX11_charge_85 ?_
  refine cw_pi (pc := 86) 9 i 4 hC (rfl) rfl ((by rw [cw_sI_N]; exact ni)) dX11_charge_86 (pl_X11_211 _) rfl rfl (rfl) (rfl) (fun h86 hC e86 => ?_)
  have s86 : h86.2 = h42.2 := by rw [e86, e75]
  refine mm_post (fun r_ h_ z_ => ?_) (mm_weakK (cg_89 (d := d) (C := chV C i w x) (ne := ne) (by rw [chV_N]; exact h3N) hn (by rw [chV_N]; exact n11) (by rw [chV_N]; exact n17) (by rw [chV_N]; exact ni) (by rw [cR_o (chV_o (by decide))]; exact z7) (by rw [cI_o (chV_o (by decide))]; exact z8) (by rw [s86]; exact hL1) (by rw [s86]; exact hL2) hC) (And.intro rfl (And.intro rfl (And.intro rfl (And.intro rfl trivial)))))
  obtain ⟨z1, z2, z3⟩ := z_
  rw [s86] at z2 z3
  rw [show cw_ad ad (chV C i w x) 3 h42.2.1 9 i = ad 9 i from cw_ad_o (by rw [chV_N]; exact ni)] at z2
  exact ⟨by rw [z1, chV_3], z2, z3⟩

