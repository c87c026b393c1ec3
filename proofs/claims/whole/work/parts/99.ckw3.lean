/-! the class's pack -/
theorem x6_init {G : mm_G} {L : Nat × Nat} {d : Nat} {h : mm_H} {h0 : mm_H} {ad : Nat → Nat → Nat} {C : cw_C} (n6 : 0 < cN C 6) (hL1 : h.2.1 + 1 ≤ L.1) (hL2 : h.2.2 + 5 ≤ L.2) (hC : cw ad h0 C h) : mm_Ok G mX6_init L (d + 2) [.ref (ad 6 0)] h (fun r h1 => ∃ x, cw ad h0 (cw_sR (cw_sI C 6 0 0 (-1)) 6 0 1 (some x)) h1 ∧ h1.2 = (h.2.1 + 1, h.2.2 + 5) ∧ r = none) := by
  refine mm_Ok.of [(0, .ref (ad 6 0))] rfl kX6_init.2.2.2.2.2 rfl (fun A => ?_)
  refine mm_aload_n (pc := 0) dX6_init_0 rfl (by first | trivial | assumption | exact mm_isr_rf _) ?_
  refine mm_objInit (pc := 1) dX6_init_1 ol_X6_3 mm_objI mm_objC (Nat.le_of_ble_eq_true rfl) ?_
  refine mm_aload_n (pc := 4) dX6_init_4 rfl (by first | trivial | assumption | exact mm_isr_rf _) ?_
  refine mm_iconst (pc := 5) (v := (-1)) dX6_init_5 (by decide) ?_
  refine cw_pi (pc := 6) 6 _ 0 hC (rfl) rfl (n6) dX6_init_6 (pl_X6_9 _) rfl rfl (rfl) (rfl) (fun h6 hC e6 => ?_)
  refine mm_aload_n (pc := 9) dX6_init_9 rfl (by first | trivial | assumption | exact mm_isr_rf _) ?_
  refine mm_new (pc := 10) dX6_init_10 nl_X6_15 ((by rw [e6]; exact hL1)) ((by rw [e6]; exact hL2)) ?_
  have hC0 := hC
  have hC := hC.keep (h' := mm_push h6 wd0) (fun a ha => mm_push_ne (Nat.ne_of_lt ha) rfl) (Nat.le_succ _) (Nat.le_add_right _ _)
  refine mm_dup (pc := 13) dX6_init_13 rfl ?_
  refine mm_iconst (pc := 14) (v := 0) dX6_init_14 (by decide) ?_
  refine mm_iconst (pc := 15) (v := 0) dX6_init_15 (by decide) ?_
  refine mm_iconst (pc := 16) (v := 0) dX6_init_16 (by decide) ?_
  refine mm_lconst (pc := 17) (v := 0) dX6_init_17 (by decide) ?_
  refine mm_callI (pc := 18) (As := [_, _, _, _]) dX6_init_18 il_X6_17 (ok_X10_init mm_push_eq) rfl rfl (Nat.le_of_ble_eq_true rfl) ?_
  rintro _ h18 ⟨rfl, e18⟩
  have s18 : h18.2 = (h.2.1 + 1, h.2.2 + 5) := by rw [e18]; show (h6.2.1 + 1, h6.2.2 + 5) = _; rw [e6]
  have hC := hC0.keep (h' := h18) (fun a ha => by rw [e18]; exact mm_set_ne (Nat.ne_of_lt ha) (mm_push_ne (Nat.ne_of_lt ha) rfl)) (by rw [s18, e6]; exact Nat.le_succ _) (by rw [s18, e6]; exact Nat.le_add_right _ _)
  refine cw_prS (pc := 21) 6 _ 1 hC (rfl) rfl ((by rw [cw_sI_N]; exact n6)) dX6_init_21 (pl_X6_20 _) rfl rfl (fun h21 hC e21 => ?_)
  refine mm_vret (pc := 24) dX6_init_24 rfl ?_
  exact ⟨_, hC, by rw [e21, s18], rfl⟩

theorem pk_20F {G : mm_G} {L : Nat × Nat} {d : Nat} {A : Nat → Prop} {h h0 : mm_H} {ad : Nat → Nat → Nat} {C : cw_C} {p x : Nat} (n11 : 0 < cN C 11) (n6 : 0 < cN C 6) (h60 : cI C 6 0 0 = nI p) (hp : p ≤ 800) (hC : cw ad h0 C h) : mm_Run G mX11_pack A L d 20 [(0, .ref (ad 11 0)), (1, .ref (ad 6 0))] [.ref x] h (fun r h1 => r = some (.int 1) ∧ cw ad h0 (cw_sI (cw_sI C 11 0 1 0) 11 0 2 (nI p)) h1 ∧ h1.2 = h.2) := by
  refine mm_astore_n (pc := 20) dX11_pack_20 (by first | trivial | assumption | exact mm_isr_rf _) rfl (Nat.le_of_ble_eq_true rfl) ?_
  refine mm_aload_n (pc := 21) dX11_pack_21 rfl (by first | trivial | assumption | exact mm_isr_rf _) ?_
  refine mm_iconst (pc := 22) (v := 0) dX11_pack_22 (by decide) ?_
  refine cw_pi (pc := 23) 11 _ 1 hC (rfl) rfl (n11) dX11_pack_23 (pl_X11_13 _) rfl rfl (rfl) (rfl) (fun h23 hC e23 => ?_)
  refine mm_aload_n (pc := 26) dX11_pack_26 rfl (by first | trivial | assumption | exact mm_isr_rf _) ?_
  refine mm_aload_n (pc := 27) dX11_pack_27 rfl (by first | trivial | assumption | exact mm_isr_rf _) ?_
  refine cw_gi (pc := 28) 6 0 0 hC (rfl) rfl ((by rw [cw_sI_N]; exact n6)) dX11_pack_28 fl_X11_106 rfl rfl rfl ?_
  refine mm_topi _ (show cI (cw_sI C 11 0 1 0) 6 0 0 = nI p by rw [cI_sI_n (by omega)]; exact h60) ?_
  refine cw_pi (pc := 31) 11 _ 2 hC (rfl) rfl ((by rw [cw_sI_N]; exact n11)) dX11_pack_31 (pl_X11_17 _) rfl rfl (rfl) (rfl) (fun h31 hC e31 => ?_)
  refine mm_aload_n (pc := 34) dX11_pack_34 rfl (by first | trivial | assumption | exact mm_isr_rf _) ?_
  refine cw_gi (pc := 35) 11 _ 2 hC (rfl) rfl ((by rw [cw_sI_N, cw_sI_N]; exact n11)) dX11_pack_35 fl_X11_17 rfl rfl rfl ?_
  refine mm_topi _ cI_sI_e ?_
  refine mm_if_lt (pc := 38) (tgt := 43) dX11_pack_38 (by decide) (fun c38 => absurd c38 (nI_pos (by omega))) (fun c38 => ?_)
  refine mm_iconst (pc := 41) (v := 1) dX11_pack_41 (by decide) ?_
  refine mm_iret (pc := 42) dX11_pack_42 rfl ?_
  exact ⟨rfl, hC, by rw [e31, e23]⟩

def ckN (ad : Nat → Nat → Nat) (C : cw_C) (np x : Nat) : cw_C := cw_row (cw_new C 2) 2 0 (fun j => [0, -1].getD j 0) (fun _ => 0) (fun j => [none, none, some (cw_ad ad C 2 x 7 0), some (cw_ad ad C 2 x 5 np)].getD j none)
theorem ckN_o {ad : Nat → Nat → Nat} {C : cw_C} {np x f : Nat} (h : ¬ f = 2) : ckN ad C np x f = C f := (cw_row_o h).trans (cw_ext_o h)

theorem pk_43 {G : mm_G} {L : Nat × Nat} {d : Nat} {A : Nat → Prop} {h h0 : mm_H} {ad : Nat → Nat → Nat} {C : cw_C} {np : Nat} {Q : Option Value → mm_H → Prop} (h2N : cN C 2 = 0) (n11 : 0 < cN C 11) (n5 : np < cN C 5) (n7 : 0 < cN C 7) (h3 : cR C 11 0 3 = some (ad 7 0)) (hL1 : h.2.1 + 1 ≤ L.1) (hL2 : h.2.2 + 4 ≤ L.2) (hC : cw ad h0 C h)
    (hk : ∀ (x : Nat) (h1 : mm_H), cw (cw_ad ad C 2 h.2.1) h0 (ckN ad C np h.2.1) h1 → h1.2 = (h.2.1 + 1, h.2.2 + 4) → mm_Run G mX11_pack A L (d + 2) 55 [(0, .ref (cw_ad ad C 2 h.2.1 11 0)), (2, .ref (cw_ad ad C 2 h.2.1 5 np))] [.ref (cw_ad ad C 2 h.2.1 2 0)] h1 Q) : mm_Run G mX11_pack A L (d + 2) 43 [(0, .ref (ad 11 0)), (2, .ref (ad 5 np))] [] h Q := by
  refine mm_new (pc := 43) dX11_pack_43 nl_X11_109 (hL1) (hL2) ?_
  have hC := hC.new 2 (by decide) rfl rfl
  have en : cw_ad ad C 2 h.2.1 2 0 = h.2.1 := by rw [← h2N]; exact cw_ad_n
  have e11 : cw_ad ad C 2 h.2.1 11 0 = ad 11 0 := cw_ad_o n11
  have e5 : cw_ad ad C 2 h.2.1 5 np = ad 5 np := cw_ad_o n5
  have e7 : cw_ad ad C 2 h.2.1 7 0 = ad 7 0 := cw_ad_o n7
  rw [← en, ← e11, ← e5]
  have m2 : 0 < cN (cw_new C 2) 2 := by rw [show cN (cw_new C 2) 2 = cN C 2 + 1 from cN_ext]; omega
  have m11 : 0 < cN (cw_new C 2) 11 := by rw [show cN (cw_new C 2) 11 = cN C 11 from cN_ext_o (by decide)]; exact n11
  refine mm_dup (pc := 46) dX11_pack_46 rfl ?_
  refine mm_aload_n (pc := 47) dX11_pack_47 rfl (by first | trivial | assumption | exact mm_isr_rf _) ?_
  refine cw_grS (pc := 48) 11 _ 3 hC (rfl) rfl (m11) dX11_pack_48 fl_X11_23 rfl rfl rfl ((show cR (cw_new C 2) 11 0 3 = some (cw_ad ad C 2 h.2.1 7 0) by rw [show cR (cw_new C 2) 11 0 3 = cR C 11 0 3 from cR_o (cw_ext_o (by decide)), e7]; exact h3)) ?_
  refine mm_aload_n (pc := 51) dX11_pack_51 rfl (by first | trivial | assumption | exact mm_isr_rf _) ?_
  refine mm_callI (pc := 52) (As := [_, _]) dX11_pack_52 il_X11_111 (ok_X2_init (cw_cell (f := 2) hC rfl rfl m2)) rfl rfl (Nat.le_of_ble_eq_true rfl) ?_
  rintro _ h52 ⟨rfl, e52⟩
  have hC := hC.row 2 0 (by decide) m2 (fun j => [0, -1].getD j 0) (fun _ => 0) (fun j => [none, none, some (cw_ad ad C 2 h.2.1 7 0), some (cw_ad ad C 2 h.2.1 5 np)].getD j none) e52
  have s52 : h52.2 = (h.2.1 + 1, h.2.2 + 4) := by rw [e52]; rfl
  exact mm_weakK (hk 0 h52 hC s52) (And.intro rfl (And.intro rfl trivial))

