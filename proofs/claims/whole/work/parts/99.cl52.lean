/-! the class's constructor: its small methods -/
def roH (i : Int32) : Int32 := if i = 0 then 0 else if i = 5 then 0 else if i = 4 then 2 else 1
def ahX (C : cw_C) (w : Nat) (x : Int32) : cw_C := cw_sI (aN C w 0) 0 (cN C 0) 2 x
def ah0 (C : cw_C) (w : Nat) (x : Int32) (g z : Nat) : cw_C := cw_sI (cw_sR (ahX C w x) 1 g 5 (some z)) 1 g 6 (cI (cw_sR (ahX C w x) 1 g 5 (some z)) 1 g 6 + 1)
def ah1 (C : cw_C) (w : Nat) (x : Int32) (g y z : Nat) : cw_C := cw_sI (cw_sR (ahX C w x) 0 y 5 (some z)) 1 g 6 (cI (cw_sR (ahX C w x) 0 y 5 (some z)) 1 g 6 + 1)
theorem ahX_N {C : cw_C} {w : Nat} {x : Int32} {f : Nat} : cN (ahX C w x) f = if f = 0 then cN C 0 + 1 else cN C f := by
  unfold ahX aN
  rw [cw_sI_N]
  by_cases e : f = 0
  · subst e; rw [if_pos rfl]; exact cN_ext
  · rw [if_neg e]; exact cN_ext_o e

theorem roH_ok {G : mm_G} {L : Nat × Nat} {d : Nat} {h : mm_H} {i : Int32} : mm_Ok G mX11_rightOfHouse L (d) [.int i] h (fun r h1 => h1 = h ∧ r = some (.int (roH i))) := by
  refine mm_Ok.of [(0, .int i)] rfl kX11_rightOfHouse.2.2.2.2.2 rfl (fun A => ?_)
  refine mm_iload_n (pc := 0) dX11_rightOfHouse_0 rfl ?_
  refine mm_if_eq (pc := 1) (tgt := 9) dX11_rightOfHouse_1 (by decide) (fun c1 => ?_) (fun c1 => ?_)
  · refine mm_iconst (pc := 9) (v := 0) dX11_rightOfHouse_9 (by decide) ?_
    refine mm_iret (pc := 10) dX11_rightOfHouse_10 rfl ?_
    exact ⟨rfl, by unfold roH; rw [if_pos c1]⟩
  · refine mm_iload_n (pc := 4) dX11_rightOfHouse_4 rfl ?_
    refine mm_iconst (pc := 5) (v := 5) dX11_rightOfHouse_5 (by decide) ?_
    refine mm_icmp_ne (pc := 6) (tgt := 11) dX11_rightOfHouse_6 (by decide) (fun c6 => ?_) (fun c6 => ?_)
    · refine mm_iload_n (pc := 11) dX11_rightOfHouse_11 rfl ?_
      refine mm_iconst (pc := 12) (v := 4) dX11_rightOfHouse_12 (by decide) ?_
      refine mm_icmp_ne (pc := 13) (tgt := 20) dX11_rightOfHouse_13 (by decide) (fun c13 => ?_) (fun c13 => ?_)
      · refine mm_iconst (pc := 20) (v := 1) dX11_rightOfHouse_20 (by decide) ?_
        refine mm_iret (pc := 21) dX11_rightOfHouse_21 rfl ?_
        exact ⟨rfl, by unfold roH; rw [if_neg c1, if_neg c6, if_neg c13]⟩
      · refine mm_iconst (pc := 16) (v := 2) dX11_rightOfHouse_16 (by decide) ?_
        refine mm_goto (pc := 17) (tgt := 21) dX11_rightOfHouse_17 (by decide) ?_
        refine mm_iret (pc := 21) dX11_rightOfHouse_21 rfl ?_
        exact ⟨rfl, by unfold roH; rw [if_neg c1, if_neg c6, if_pos c13]⟩
    · refine mm_iconst (pc := 9) (v := 0) dX11_rightOfHouse_9 (by decide) ?_
      refine mm_iret (pc := 10) dX11_rightOfHouse_10 rfl ?_
      exact ⟨rfl, by unfold roH; rw [if_neg c1, if_pos c6]⟩

theorem bo_w {G : mm_G} {L : Nat × Nat} {d : Nat} {h : mm_H} {h0 : mm_H} {ad : Nat → Nat → Nat} {C : cw_C} {k q : Nat} (n4 : k < cN C 4) (n21 : k < cN C 21) (hq : q < 6) (h11 : cR C 4 k 11 = some (ad 21 k)) (hC : cw ad h0 C h) : mm_Ok G mX4_bodyOf L (d) [.ref (ad 4 k), .int (nI q)] h (fun r h1 => h1 = h ∧ r = some (va_rf (cR C 21 k q))) := by
  refine mm_Ok.of [(0, .ref (ad 4 k)), (1, .int (nI q))] rfl kX4_bodyOf.2.2.2.2.2 rfl (fun A => ?_)
  refine mm_iload_n (pc := 0) dX4_bodyOf_0 rfl ?_
  refine mm_if_lt (pc := 1) (tgt := 22) dX4_bodyOf_1 (by decide) (fun c1 => absurd c1 (nI_pos (by omega))) (fun c1 => ?_)
  refine mm_iload_n (pc := 4) dX4_bodyOf_4 rfl ?_
  refine mm_aload_n (pc := 5) dX4_bodyOf_5 rfl (by first | trivial | assumption | exact mm_isr_rf _) ?_
  refine cw_grS (pc := 6) 4 _ 11 hC (rfl) rfl (n4) dX4_bodyOf_6 fl_X4_44 rfl rfl rfl (h11) ?_
  refine cw_alen (pc := 9) 21 k hC (rfl) rfl (n21) dX4_bodyOf_9 rfl rfl ?_
  refine mm_icmp_ge (pc := 10) (tgt := 22) dX4_bodyOf_10 (by decide) (fun c10 => absurd c10 (nI_ge (b := (6 : Nat)) hq (by decide))) (fun c10 => ?_)
  refine mm_aload_n (pc := 13) dX4_bodyOf_13 rfl (by first | trivial | assumption | exact mm_isr_rf _) ?_
  refine cw_grS (pc := 14) 4 _ 11 hC (rfl) rfl (n4) dX4_bodyOf_14 fl_X4_44 rfl rfl rfl (h11) ?_
  refine mm_iload_n (pc := 17) dX4_bodyOf_17 rfl ?_
  refine cw_aald (pc := 18) 21 k q hC (rfl) rfl (n21) dX4_bodyOf_18 rfl rfl rfl (by first | with_reducible rfl | assumption | rfl) (hq) (by omega) rfl (rfl) ?_
  refine mm_goto (pc := 19) (tgt := 23) dX4_bodyOf_19 (by decide) ?_
  refine mm_aret (pc := 23) dX4_bodyOf_23 rfl (Or.inl ⟨_, rfl⟩) (by first | trivial | assumption | exact mm_isr_rf _) ?_
  exact ⟨rfl, rfl⟩

theorem ah_0 {G : mm_G} {L : Nat × Nat} {d : Nat} {h : mm_H} {h0 : mm_H} {ad : Nat → Nat → Nat} {C : cw_C} {g w : Nat} {x : Int32} (n1 : g < cN C 1) (hL1 : h.2.1 + 1 ≤ L.1) (hL2 : h.2.2 + 6 ≤ L.2) (h5 : cR C 1 g 5 = none) (hC : cw ad h0 C h) : mm_Ok G mX11_addHouseAction L (d + 2) [.ref (ad 1 g), .int (nI w), .int x] h (fun r h1 => ∃ C1, cw (cw_ad ad C 0 h.2.1) h0 C1 h1 ∧ C1 = ah0 C w x g h.2.1 ∧ h1.2 = (h.2.1 + 1, h.2.2 + 6) ∧ r = none) := by
  refine mm_Ok.of [(0, .ref (ad 1 g)), (1, .int (nI w)), (2, .int x)] rfl kX11_addHouseAction.2.2.2.2.2 rfl (fun A => ?_)
  refine mm_aload_n (pc := 0) dX11_addHouseAction_0 rfl (by first | trivial | assumption | exact mm_isr_rf _) ?_
  refine mm_ifnonnull (pc := 1) (tgt := 5) dX11_addHouseAction_1 (by decide) (by first | trivial | assumption | exact mm_isr_rf _) (fun a1 c1 => ?_) (fun c1 => by cases c1)
  refine mm_new (pc := 5) dX11_addHouseAction_5 nl_X11_288 (by omega) (by show h.2.2 + 6 ≤ L.2; omega) ?_
  refine mm_dup (pc := 8) dX11_addHouseAction_8 rfl ?_
  refine mm_iload_n (pc := 9) dX11_addHouseAction_9 rfl ?_
  refine mm_iconst (pc := 10) (v := 0) dX11_addHouseAction_10 (by decide) ?_
  refine mm_callI (pc := 11) (As := [_, _]) dX11_addHouseAction_11 il_X11_290 (ok_X0_init mm_push_eq) rfl rfl (Nat.le_of_ble_eq_true rfl) ?_
  rintro _ h11 ⟨rfl, e11⟩
  have s11 : h11.2 = (h.2.1 + 1, h.2.2 + 6) := by rw [e11]; rfl
  have hC := aN_add (w := w) (p := 0) hC e11
  have en : cw_ad ad C 0 h.2.1 0 (cN C 0) = h.2.1 := cw_ad_n
  have e1 : cw_ad ad C 0 h.2.1 1 g = ad 1 g := cw_ad_o n1
  have m0 : cN C 0 < cN (aN C w 0) 0 := by unfold aN; rw [cN_ext]; omega
  have m1 : g < cN (ahX C w x) 1 := by rw [ahX_N, if_neg (by decide)]; exact n1
  have m1a : g < cN (aN C w 0) 1 := by unfold aN; rw [cN_ext_o (by decide)]; exact n1
  refine mm_astore_n (pc := 14) dX11_addHouseAction_14 (by first | trivial | assumption | exact mm_isr_rf _) rfl (Nat.le_of_ble_eq_true rfl) ?_
  refine mm_aload_n (pc := 15) dX11_addHouseAction_15 rfl (by first | trivial | assumption | exact mm_isr_rf _) ?_
  refine mm_iload_n (pc := 16) dX11_addHouseAction_16 rfl ?_
  refine cw_pi (pc := 17) 0 (cN C 0) 2 hC (en) rfl (m0) dX11_addHouseAction_17 (pl_X11_293 _) rfl rfl (rfl) (rfl) (fun h17 hC e17 => ?_)
  have hC : cw (cw_ad ad C 0 h.2.1) h0 (ahX C w x) h17 := hC
  have r5 : cR (ahX C w x) 1 g 5 = none := by unfold ahX aN; rw [cR_sI]; exact (cR_o (cw_ext_o (by decide))).trans h5
  refine mm_aload_n (pc := 20) dX11_addHouseAction_20 rfl (by first | trivial | assumption | exact mm_isr_rf _) ?_
  refine cw_grN (pc := 21) 1 g 5 hC (e1) rfl (m1) dX11_addHouseAction_21 fl_X11_294 rfl rfl rfl (r5) ?_
  refine mm_ifnonnull (pc := 24) (tgt := 35) dX11_addHouseAction_24 (by decide) (by first | trivial | assumption | exact mm_isr_rf _) (fun a24 c24 => by cases c24) (fun c24 => ?_)
  refine mm_aload_n (pc := 27) dX11_addHouseAction_27 rfl (by first | trivial | assumption | exact mm_isr_rf _) ?_
  refine mm_aload_n (pc := 28) dX11_addHouseAction_28 rfl (by first | trivial | assumption | exact mm_isr_rf _) ?_
  refine cw_prS (pc := 29) 1 g 5 hC (e1) rfl (m1) dX11_addHouseAction_29 (pl_X11_294 _) rfl rfl (fun h29 hC e29 => ?_)
  refine mm_goto (pc := 32) (tgt := 43) dX11_addHouseAction_32 (by decide) ?_
  refine mm_aload_n (pc := 43) dX11_addHouseAction_43 rfl (by first | trivial | assumption | exact mm_isr_rf _) ?_
  refine mm_dup (pc := 44) dX11_addHouseAction_44 rfl ?_
  refine cw_gi (pc := 45) 1 g 6 hC (e1) rfl ((by rw [cw_sR_N]; exact m1)) dX11_addHouseAction_45 fl_X11_173 rfl rfl rfl ?_
  refine mm_iconst (pc := 48) (v := 1) dX11_addHouseAction_48 (by decide) ?_
  refine mm_iadd (pc := 49) dX11_addHouseAction_49 ?_
  refine cw_pi (pc := 50) 1 g 6 hC (e1) rfl ((by rw [cw_sR_N]; exact m1)) dX11_addHouseAction_50 (pl_X11_173 _) rfl rfl (rfl) (rfl) (fun h50 hC e50 => ?_)
  refine mm_vret (pc := 53) dX11_addHouseAction_53 rfl ?_
  exact ⟨_, hC, rfl, by rw [e50, e29, e17, s11], rfl⟩

theorem ah_1 {G : mm_G} {L : Nat × Nat} {d : Nat} {h : mm_H} {h0 : mm_H} {ad : Nat → Nat → Nat} {C : cw_C} {g w y : Nat} {x : Int32} (n1 : g < cN C 1) (hL1 : h.2.1 + 1 ≤ L.1) (hL2 : h.2.2 + 6 ≤ L.2) (ny : y < cN C 0) (h5 : cR C 1 g 5 = some (ad 0 y)) (hC : cw ad h0 C h) : mm_Ok G mX11_addHouseAction L (d + 2) [.ref (ad 1 g), .int (nI w), .int x] h (fun r h1 => ∃ C1, cw (cw_ad ad C 0 h.2.1) h0 C1 h1 ∧ C1 = ah1 C w x g y h.2.1 ∧ h1.2 = (h.2.1 + 1, h.2.2 + 6) ∧ r = none) := by
  refine mm_Ok.of [(0, .ref (ad 1 g)), (1, .int (nI w)), (2, .int x)] rfl kX11_addHouseAction.2.2.2.2.2 rfl (fun A => ?_)
  refine mm_aload_n (pc := 0) dX11_addHouseAction_0 rfl (by first | trivial | assumption | exact mm_isr_rf _) ?_
  refine mm_ifnonnull (pc := 1) (tgt := 5) dX11_addHouseAction_1 (by decide) (by first | trivial | assumption | exact mm_isr_rf _) (fun a1 c1 => ?_) (fun c1 => by cases c1)
  refine mm_new (pc := 5) dX11_addHouseAction_5 nl_X11_288 (by omega) (by show h.2.2 + 6 ≤ L.2; omega) ?_
  refine mm_dup (pc := 8) dX11_addHouseAction_8 rfl ?_
  refine mm_iload_n (pc := 9) dX11_addHouseAction_9 rfl ?_
  refine mm_iconst (pc := 10) (v := 0) dX11_addHouseAction_10 (by decide) ?_
  refine mm_callI (pc := 11) (As := [_, _]) dX11_addHouseAction_11 il_X11_290 (ok_X0_init mm_push_eq) rfl rfl (Nat.le_of_ble_eq_true rfl) ?_
  rintro _ h11 ⟨rfl, e11⟩
  have s11 : h11.2 = (h.2.1 + 1, h.2.2 + 6) := by rw [e11]; rfl
  have hC := aN_add (w := w) (p := 0) hC e11
  have en : cw_ad ad C 0 h.2.1 0 (cN C 0) = h.2.1 := cw_ad_n
  have e1 : cw_ad ad C 0 h.2.1 1 g = ad 1 g := cw_ad_o n1
  have m0 : cN C 0 < cN (aN C w 0) 0 := by unfold aN; rw [cN_ext]; omega
  have m1 : g < cN (ahX C w x) 1 := by rw [ahX_N, if_neg (by decide)]; exact n1
  have m1a : g < cN (aN C w 0) 1 := by unfold aN; rw [cN_ext_o (by decide)]; exact n1
  refine mm_astore_n (pc := 14) dX11_addHouseAction_14 (by first | trivial | assumption | exact mm_isr_rf _) rfl (Nat.le_of_ble_eq_true rfl) ?_
  refine mm_aload_n (pc := 15) dX11_addHouseAction_15 rfl (by first | trivial | assumption | exact mm_isr_rf _) ?_
  refine mm_iload_n (pc := 16) dX11_addHouseAction_16 rfl ?_
  refine cw_pi (pc := 17) 0 (cN C 0) 2 hC (en) rfl (m0) dX11_addHouseAction_17 (pl_X11_293 _) rfl rfl (rfl) (rfl) (fun h17 hC e17 => ?_)
  have hC : cw (cw_ad ad C 0 h.2.1) h0 (ahX C w x) h17 := hC
  have r5 : cR (ahX C w x) 1 g 5 = some (ad 0 y) := by unfold ahX aN; rw [cR_sI]; exact (cR_o (cw_ext_o (by decide))).trans h5
  have e0 : cw_ad ad C 0 h.2.1 0 y = ad 0 y := cw_ad_o ny
  have my : y < cN (ahX C w x) 0 := by rw [ahX_N, if_pos rfl]; omega
  refine mm_aload_n (pc := 20) dX11_addHouseAction_20 rfl (by first | trivial | assumption | exact mm_isr_rf _) ?_
  refine cw_grS (pc := 21) 1 g 5 hC (e1) rfl (m1) dX11_addHouseAction_21 fl_X11_294 rfl rfl rfl (r5) ?_
  refine mm_ifnonnull (pc := 24) (tgt := 35) dX11_addHouseAction_24 (by decide) (by first | trivial | assumption | exact mm_isr_rf _) (fun a24 c24 => ?_) (fun c24 => by cases c24)
  refine mm_aload_n (pc := 35) dX11_addHouseAction_35 rfl (by first | trivial | assumption | exact mm_isr_rf _) ?_
  refine cw_grS (pc := 36) 1 g 5 hC (e1) rfl (m1) dX11_addHouseAction_36 fl_X11_294 rfl rfl rfl (r5) ?_
  refine mm_aload_n (pc := 39) dX11_addHouseAction_39 rfl (by first | trivial | assumption | exact mm_isr_rf _) ?_
  refine cw_prS (pc := 40) 0 y 5 hC (e0) rfl (my) dX11_addHouseAction_40 (pl_X11_298 _) rfl rfl (fun h40 hC e40 => ?_)
  refine mm_aload_n (pc := 43) dX11_addHouseAction_43 rfl (by first | trivial | assumption | exact mm_isr_rf _) ?_
  refine mm_dup (pc := 44) dX11_addHouseAction_44 rfl ?_
  refine cw_gi (pc := 45) 1 g 6 hC (e1) rfl ((by rw [cw_sR_N]; exact m1)) dX11_addHouseAction_45 fl_X11_173 rfl rfl rfl ?_
  refine mm_iconst (pc := 48) (v := 1) dX11_addHouseAction_48 (by decide) ?_
  refine mm_iadd (pc := 49) dX11_addHouseAction_49 ?_
  refine cw_pi (pc := 50) 1 g 6 hC (e1) rfl ((by rw [cw_sR_N]; exact m1)) dX11_addHouseAction_50 (pl_X11_173 _) rfl rfl (rfl) (rfl) (fun h50 hC e50 => ?_)
  refine mm_vret (pc := 53) dX11_addHouseAction_53 rfl ?_
  exact ⟨_, hC, rfl, by rw [e50, e40, e17, s11], rfl⟩

theorem x7_stN {G : mm_G} {L : Nat × Nat} {d : Nat} {h : mm_H} {h0 : mm_H} {ad : Nat → Nat → Nat} {C : cw_C} {M : mw_S} {ab : Nat → Option Nat} {k : Nat} {ho pk : Int32} (n7 : 0 < cN C 7) (n18 : 0 < cN C 18) (hk40 : k < 40) (r0 : cR C 7 0 0 = some (ad 18 0)) (r1 : cI C 7 0 1 = nI k) (hkf : kf_ok ab (k + 1)) (hk50 : k < 50) (n4 : k < cN C 4) (n21 : k < cN C 21) (hS : ∀ i, i < k → kSt ad C M ab i) (hb : ∀ g, g < cN C 1 → bdR ad C M g) (hN1 : cN C 1 = kg M) (hg : kg M < 2 ^ 30) (hB : ∀ i, i < k + 1 → hBm M i) (hk0 : cL C 4 k 0 = M.2.2.2.1 100 k) (hk11 : cR C 4 k 11 = some (ad 21 k)) (hkH : kdH ad C M k) (hV5 : ho = M.2.2.1 5 k) (hV7 : pk = M.2.2.1 7 k) (hab : ab k = none) (hC : cw ad h0 C h) : mm_Ok G mX7_settle L (d + 3) [.ref (ad 7 0), .ref (ad 4 k), .null, .int ho, .int pk] h (fun r h1 => ∃ C2, stF C C2 M k ∧ kSt ad C2 M ab k ∧ cw ad h0 (cw_sI (cw_sR C2 18 0 k (some (ad 4 k))) 7 0 1 (nI (k + 1))) h1 ∧ h1.2 = h.2 ∧ r = none) := by
  refine mm_Ok.of [(0, .ref (ad 7 0)), (1, .ref (ad 4 k)), (2, .null), (3, .int ho), (4, .int pk)] rfl kX7_settle.2.2.2.2.2 rfl (fun A => ?_)
  refine mm_aload_n (pc := 0) dX7_settle_0 rfl (by first | trivial | assumption | exact mm_isr_rf _) ?_
  refine mm_aload_n (pc := 1) dX7_settle_1 rfl (by first | trivial | assumption | exact mm_isr_rf _) ?_
  refine cw_gi (pc := 2) 7 _ 1 hC (rfl) rfl (n7) dX7_settle_2 fl_X7_17 rfl rfl rfl ?_
  refine mm_topi _ r1 ?_
  refine mm_aload_n (pc := 5) dX7_settle_5 rfl (by first | trivial | assumption | exact mm_isr_rf _) ?_
  refine mm_iload_n (pc := 6) dX7_settle_6 rfl ?_
  refine mm_iload (pc := 7) dX7_settle_7 rfl ?_
  refine mm_callV (pc := 9) (As := [_, _, _, _]) (kd := ?kd_9_1) (fs := ?fs_9_1) dX7_settle_9 vl_X7_66 (by have z_ := x4_settle (G := G) (L := L) (d := d) hkf hk50 n4 n21 hS hb hN1 hg hB hk0 hk11 hkH hV5 hV7 hC; rw [hab] at z_; exact z_) ?hc_9_1 ?hk_9_1 rfl rfl (Nat.le_of_ble_eq_true rfl) ?_; (case hc_9_1 => exact cw_cell (f := 4) hC rfl rfl n4); (case hk_9_1 => rfl)
  rintro _ h9 ⟨C2, hC, e9, rfl, hst, hkS⟩
  have n7 : 0 < cN C2 7 := by rw [hst.2.1]; exact n7
  have n18 : 0 < cN C2 18 := by rw [hst.2.1]; exact n18
  have n4 : k < cN C2 4 := by rw [hst.2.1]; exact n4
  have r0 : cR C2 7 0 0 = some (ad 18 0) := (cR_o (hst.1 7 (by decide) (by decide))).trans r0
  have r1 : cI C2 7 0 1 = nI k := (cI_o (hst.1 7 (by decide) (by decide))).trans r1
  refine mm_aload_n (pc := 12) dX7_settle_12 rfl (by first | trivial | assumption | exact mm_isr_rf _) ?_
  refine mm_aload_n (pc := 13) dX7_settle_13 rfl (by first | trivial | assumption | exact mm_isr_rf _) ?_
  refine mm_callV (pc := 14) (As := [_]) (kd := ?kd_14_2) (fs := ?fs_14_2) dX7_settle_14 vl_X7_59 (ap_ok n7 n18 n4 hk40 r0 r1 hC) ?hc_14_2 ?hk_14_2 rfl rfl (Nat.le_of_ble_eq_true rfl) ?_; (case hc_14_2 => exact cw_cell (f := 7) hC rfl rfl n7); (case hk_14_2 => rfl)
  rintro _ h14 ⟨hC, e14, rfl⟩
  refine mm_vret (pc := 17) dX7_settle_17 rfl ?_
  exact ⟨C2, hst, hkS, hC, by rw [e14, e9], rfl⟩

theorem x7_stS {G : mm_G} {L : Nat × Nat} {d : Nat} {h : mm_H} {h0 : mm_H} {ad : Nat → Nat → Nat} {C : cw_C} {M : mw_S} {ab : Nat → Option Nat} {k : Nat} {ho pk : Int32} (n7 : 0 < cN C 7) (n18 : 0 < cN C 18) (hk40 : k < 40) (r0 : cR C 7 0 0 = some (ad 18 0)) (r1 : cI C 7 0 1 = nI k) (hkf : kf_ok ab (k + 1)) (hk50 : k < 50) (n4 : k < cN C 4) (n21 : k < cN C 21) (hS : ∀ i, i < k → kSt ad C M ab i) (hb : ∀ g, g < cN C 1 → bdR ad C M g) (hN1 : cN C 1 = kg M) (hg : kg M < 2 ^ 30) (hB : ∀ i, i < k + 1 → hBm M i) (hk0 : cL C 4 k 0 = M.2.2.2.1 100 k) (hk11 : cR C 4 k 11 = some (ad 21 k)) (hkH : kdH ad C M k) (hV5 : ho = M.2.2.1 5 k) (hV7 : pk = M.2.2.1 7 k) {j : Nat} (hab : ab k = some j) (hC : cw ad h0 C h) : mm_Ok G mX7_settle L (d + 3) [.ref (ad 7 0), .ref (ad 4 k), .ref (ad 4 j), .int ho, .int pk] h (fun r h1 => ∃ C2, stF C C2 M k ∧ kSt ad C2 M ab k ∧ cw ad h0 (cw_sI (cw_sR C2 18 0 k (some (ad 4 k))) 7 0 1 (nI (k + 1))) h1 ∧ h1.2 = h.2 ∧ r = none) := by
  refine mm_Ok.of [(0, .ref (ad 7 0)), (1, .ref (ad 4 k)), (2, .ref (ad 4 j)), (3, .int ho), (4, .int pk)] rfl kX7_settle.2.2.2.2.2 rfl (fun A => ?_)
  refine mm_aload_n (pc := 0) dX7_settle_0 rfl (by first | trivial | assumption | exact mm_isr_rf _) ?_
  refine mm_aload_n (pc := 1) dX7_settle_1 rfl (by first | trivial | assumption | exact mm_isr_rf _) ?_
  refine cw_gi (pc := 2) 7 _ 1 hC (rfl) rfl (n7) dX7_settle_2 fl_X7_17 rfl rfl rfl ?_
  refine mm_topi _ r1 ?_
  refine mm_aload_n (pc := 5) dX7_settle_5 rfl (by first | trivial | assumption | exact mm_isr_rf _) ?_
  refine mm_iload_n (pc := 6) dX7_settle_6 rfl ?_
  refine mm_iload (pc := 7) dX7_settle_7 rfl ?_
  refine mm_callV (pc := 9) (As := [_, _, _, _]) (kd := ?kd_9_3) (fs := ?fs_9_3) dX7_settle_9 vl_X7_66 (by have z_ := x4_settle (G := G) (L := L) (d := d) hkf hk50 n4 n21 hS hb hN1 hg hB hk0 hk11 hkH hV5 hV7 hC; rw [hab] at z_; exact z_) ?hc_9_3 ?hk_9_3 rfl rfl (Nat.le_of_ble_eq_true rfl) ?_; (case hc_9_3 => exact cw_cell (f := 4) hC rfl rfl n4); (case hk_9_3 => rfl)
  rintro _ h9 ⟨C2, hC, e9, rfl, hst, hkS⟩
  have n7 : 0 < cN C2 7 := by rw [hst.2.1]; exact n7
  have n18 : 0 < cN C2 18 := by rw [hst.2.1]; exact n18
  have n4 : k < cN C2 4 := by rw [hst.2.1]; exact n4
  have r0 : cR C2 7 0 0 = some (ad 18 0) := (cR_o (hst.1 7 (by decide) (by decide))).trans r0
  have r1 : cI C2 7 0 1 = nI k := (cI_o (hst.1 7 (by decide) (by decide))).trans r1
  refine mm_aload_n (pc := 12) dX7_settle_12 rfl (by first | trivial | assumption | exact mm_isr_rf _) ?_
  refine mm_aload_n (pc := 13) dX7_settle_13 rfl (by first | trivial | assumption | exact mm_isr_rf _) ?_
  refine mm_callV (pc := 14) (As := [_]) (kd := ?kd_14_4) (fs := ?fs_14_4) dX7_settle_14 vl_X7_59 (ap_ok n7 n18 n4 hk40 r0 r1 hC) ?hc_14_4 ?hk_14_4 rfl rfl (Nat.le_of_ble_eq_true rfl) ?_; (case hc_14_4 => exact cw_cell (f := 7) hC rfl rfl n7); (case hk_14_4 => rfl)
  rintro _ h14 ⟨hC, e14, rfl⟩
  refine mm_vret (pc := 17) dX7_settle_17 rfl ?_
  exact ⟨C2, hst, hkS, hC, by rw [e14, e9], rfl⟩

