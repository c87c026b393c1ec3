/-- the contract of runActions, with fuel f -/
def RA_ (G : mm_G) (L : Nat × Nat) (h0 : mm_H) (ad : Nat → Nat → Nat) (ab : Nat → Option Nat) (nk na : Nat) (oK oQ : Nat → Nat) (app K : Nat) (B : rB_T) (e f : Nat) : Prop := ∀ (d u deep k q t : Nat) (x : Int32) (s z g : Nat) (C : cw_C) (M : mw_S) (h : mm_H) (o : Option Nat), rHy ad ab nk na oK oQ app K B e f M C t u t → bHy M ab nk K k q → gb M k q = g → rm_lk na oK oQ k q x → CV M k q deep x s z → z ≤ na → deep ≤ 6 → 16 * (12 - u) + 2 * (6 - deep) + 8 ≤ d → lkR ad na x o → cw ad h0 C h → mm_Ok G mX8_runActions L d [.ref (ad 8 0), .ref (ad 1 g), va_rf o, .int (nI u), .int (nI deep)] h (rO ad h0 h C ab nk app K B (rnA ab f M x k q))

theorem rb_12 {G : mm_G} {L : Nat × Nat} {d : Nat} {h : mm_H} {h0 : mm_H} {ad : Nat → Nat → Nat} {ab : Nat → Option Nat} {nk na : Nat} {oK oQ : Nat → Nat} {app K : Nat} {B : rB_T} {e f : Nat} {u k q t T g : Nat} {C : cw_C} {M : mw_S} (hRA : RA_ G L h0 ad ab nk na oK oQ app K B e f) (H : rHy ad ab nk na oK oQ app K B e f M C t u T) (hT : T ≤ t) (hr : ∃ r, M.1 68 = nI r ∧ r + 1 ≤ t + e) (hb : bHy M ab nk K k q) (hg : gb M k q = g) (hu : u = 12) (hC : cw ad h0 C h) : mm_Ok G mX8_runBody L (d) [.ref (ad 8 0), .ref (ad 1 g), .int (nI u)] h (fun r h1 => rO ad h0 h C ab nk app K B (rnB (rnA ab f) M k q) r h1) := by
  refine mm_Ok.of [(0, .ref (ad 8 0)), (1, .ref (ad 1 g)), (2, .int (nI u))] rfl kX8_runBody.2.2.2.2.2 rfl (fun A => ?_)
  refine mm_iload_n (pc := 0) dX8_runBody_0 rfl ?_
  refine mm_bipush (pc := 1) (v := 12) dX8_runBody_1 (by decide) ?_
  refine mm_icmp_ge (pc := 3) (tgt := 18) dX8_runBody_3 (by decide) (fun c3 => ?_) (fun c3 => absurd ((nI_leI (a := 12) (by decide) (by omega)).mpr (by omega)) c3)
  refine mm_iconst (pc := 18) (v := 3) dX8_runBody_18 (by decide) ?_
  refine mm_iret (pc := 19) dX8_runBody_19 rfl ?_
  rw [show rnB (rnA ab f) M k q = (3, M) from if_pos (by rw [H.2.1.2.1.1, hu]; rfl)]
  exact ⟨C, t, hC, rfl, rfl, H.2.1.1, H.2.2.2.2.1.more hT, rF.refl, fun y => by rcases y with y | y <;> exact absurd y (by show ¬ (3 : Int32) = _; decide)⟩

theorem rb_lt {G : mm_G} {L : Nat × Nat} {d : Nat} {h : mm_H} {h0 : mm_H} {ad : Nat → Nat → Nat} {ab : Nat → Option Nat} {nk na : Nat} {oK oQ : Nat → Nat} {app K : Nat} {B : rB_T} {e f : Nat} {u k q t T g : Nat} {C : cw_C} {M : mw_S} (hRA : RA_ G L h0 ad ab nk na oK oQ app K B e f) (H : rHy ad ab nk na oK oQ app K B e f M C t u T) (hT : T ≤ t) (hr : ∃ r, M.1 68 = nI r ∧ r + 1 ≤ t + e) (hb : bHy M ab nk K k q) (hg : gb M k q = g) (hu : u < 12) (hd : 16 * (12 - u) + 2 ≤ d) (hC : cw ad h0 C h) : mm_Ok G mX8_runBody L (d + 1) [.ref (ad 8 0), .ref (ad 1 g), .int (nI u)] h (fun r h1 => rO ad h0 h C ab nk app K B (rnB (rnA ab f) M k q) r h1) := by
  refine mm_Ok.of [(0, .ref (ad 8 0)), (1, .ref (ad 1 g)), (2, .int (nI u))] rfl kX8_runBody.2.2.2.2.2 rfl (fun A => ?_)
  obtain ⟨r, hr1, hr2⟩ := hr
  have he6 : e ≤ 6 := H.2.1.2.2.2.2.1
  have ht4 : t ≤ 400 := H.2.1.1.2
  have h65 : M.1 65 = nI u := H.2.1.2.1.1
  have h12 : ¬ M.1 65 = 12 := by rw [h65]; exact nI_ne (b := 12) (by omega) (by omega) (by decide)
  have hX := H.2.2.2.2.1
  obtain ⟨⟨n8, n9⟩, ⟨r7, r8, r9, r10⟩, r11, -⟩ := hX.2.1
  have n14 := hX.2.2.1.1.1
  have n14a : 0 < cN C 14 := by omega
  have n14b : 1 < cN C 14 := by omega
  have n14c : 2 < cN C 14 := by omega
  have b1 : cI C 8 0 1 = nI r := hX.2.2.1.2.1.1.trans hr1
  have hb0 := bfct hX.1 hb.1 hb.2.1 hb.2.2.1
  rw [hg] at hb0
  obtain ⟨n1, bk, bq, bl⟩ := hb0
  have n4 : k < cN C 4 := Nat.lt_of_lt_of_le hb.1 hX.1.1.2.2.1
  have k4 : cI C 4 k 4 = nI k := (hX.1.2.1 k hb.1).1.2.1
  obtain ⟨s, z, hz, hcv⟩ := H.2.2.2.1 k q hb.1 hb.2.1 hb.2.2.1
  have HH : rHy ad ab nk na oK oQ app K B e f (rm_ent M k q) (cw_sI (cw_sI (cw_sI (cw_sI C 14 0 r (nI k)) 14 1 r (nI q)) 14 2 r (nI u)) 8 0 1 (cI C 8 0 1 + 1)) t (u + 1) t := ⟨rn_ent_G H.1, rn_ent_I H.2.1 ⟨r, hr1, hr2⟩ hu, H.2.2.1, H.2.2.2.1.of ent_V2, (rX_ent hX hr1 (by omega) h65).more hT, by rw [cw_sI_N, cw_sI_N, cw_sI_N, cw_sI_N]; exact H.2.2.2.2.2⟩
  have lk : lkR ad na (M.2.2.1 11 (6 * k + q)) (cR (cw_sI (cw_sI (cw_sI (cw_sI C 14 0 r (nI k)) 14 1 r (nI q)) 14 2 r (nI u)) 8 0 1 (cI C 8 0 1 + 1)) 1 g 5) := by
    rw [show cR (cw_sI (cw_sI (cw_sI (cw_sI C 14 0 r (nI k)) 14 1 r (nI q)) 14 2 r (nI u)) 8 0 1 (cI C 8 0 1 + 1)) 1 g 5 = cR C 1 g 5 from ((cR_o (cw_sI_o (by decide))).trans ((cR_o (cw_sI_o (by decide))).trans ((cR_o (cw_sI_o (by decide))).trans ((cR_o (cw_sI_o (by decide))).trans rfl)))), ← H.2.2.2.2.2]; exact bl
  refine mm_iload_n (pc := 0) dX8_runBody_0 rfl ?_
  refine mm_bipush (pc := 1) (v := 12) dX8_runBody_1 (by decide) ?_
  refine mm_icmp_ge (pc := 3) (tgt := 18) dX8_runBody_3 (by decide) (fun c3 => absurd c3 (fun z => absurd ((nI_leI (a := 12) (by decide) (by omega)).mp z) (by omega))) (fun c3 => ?_)
  refine mm_aload_n (pc := 6) dX8_runBody_6 rfl (by first | trivial | assumption | exact mm_isr_rf _) ?_
  refine cw_gi (pc := 7) 8 _ 1 hC (rfl) rfl (n8) dX8_runBody_7 fl_X8_15 rfl rfl rfl ?_
  refine mm_topi _ b1 ?_
  refine mm_aload_n (pc := 10) dX8_runBody_10 rfl (by first | trivial | assumption | exact mm_isr_rf _) ?_
  refine cw_grS (pc := 11) 8 _ 7 hC (rfl) rfl (n8) dX8_runBody_11 fl_X8_33 rfl rfl rfl (r7) ?_
  refine cw_alen (pc := 14) 14 _ hC (rfl) rfl (n14a) dX8_runBody_14 rfl rfl ?_
  refine mm_icmp_lt (pc := 15) (tgt := 20) dX8_runBody_15 (by decide) (fun c15 => ?_) (fun c15 => absurd ((nI_ltI (b := 406) (by omega) (by decide)).mpr (by omega)) c15)
  refine mm_aload_n (pc := 20) dX8_runBody_20 rfl (by first | trivial | assumption | exact mm_isr_rf _) ?_
  refine mm_ifnonnull (pc := 21) (tgt := 26) dX8_runBody_21 (by decide) (by first | trivial | assumption | exact mm_isr_rf _) (fun a21 c21 => ?_) (fun c21 => by cases c21)
  refine mm_aload_n (pc := 26) dX8_runBody_26 rfl (by first | trivial | assumption | exact mm_isr_rf _) ?_
  refine cw_grS (pc := 27) 8 _ 7 hC (rfl) rfl (n8) dX8_runBody_27 fl_X8_33 rfl rfl rfl (r7) ?_
  refine mm_aload_n (pc := 30) dX8_runBody_30 rfl (by first | trivial | assumption | exact mm_isr_rf _) ?_
  refine cw_gi (pc := 31) 8 _ 1 hC (rfl) rfl (n8) dX8_runBody_31 fl_X8_15 rfl rfl rfl ?_
  refine mm_topi _ b1 ?_
  refine mm_aload_n (pc := 34) dX8_runBody_34 rfl (by first | trivial | assumption | exact mm_isr_rf _) ?_
  refine cw_grS (pc := 35) 1 g 0 hC (rfl) rfl (n1) dX8_runBody_35 fl_X8_84 rfl rfl rfl (bk) ?_
  refine cw_gi (pc := 38) 4 k 4 hC (rfl) rfl (n4) dX8_runBody_38 fl_X8_87 rfl rfl rfl ?_
  refine mm_topi _ k4 ?_
  refine cw_iast (pc := 41) 14 0 r hC (rfl) rfl (n14a) dX8_runBody_41 rfl (by first | with_reducible rfl | assumption | rfl) (by show _ < 406; omega) (by omega) rfl (fun h41 hC e41 => ?_)
  refine mm_aload_n (pc := 42) dX8_runBody_42 rfl (by first | trivial | assumption | exact mm_isr_rf _) ?_
  refine cw_grS (pc := 43) 8 _ 8 hC (rfl) rfl ((by rw [cw_sI_N]; exact n8)) dX8_runBody_43 fl_X8_37 rfl rfl rfl (((cR_o (cw_sI_o (by decide))).trans r8)) ?_
  refine mm_aload_n (pc := 46) dX8_runBody_46 rfl (by first | trivial | assumption | exact mm_isr_rf _) ?_
  refine cw_gi (pc := 47) 8 _ 1 hC (rfl) rfl ((by rw [cw_sI_N]; exact n8)) dX8_runBody_47 fl_X8_15 rfl rfl rfl ?_
  refine mm_topi _ ((cI_o (cw_sI_o (by decide))).trans b1) ?_
  refine mm_aload_n (pc := 50) dX8_runBody_50 rfl (by first | trivial | assumption | exact mm_isr_rf _) ?_
  refine cw_gi (pc := 51) 1 g 1 hC (rfl) rfl ((by rw [cw_sI_N]; exact n1)) dX8_runBody_51 fl_X8_88 rfl rfl rfl ?_
  refine mm_topi _ ((cI_o (cw_sI_o (by decide))).trans bq) ?_
  refine cw_iast (pc := 54) 14 1 r hC (rfl) rfl ((by rw [cw_sI_N]; exact n14b)) dX8_runBody_54 rfl (by first | with_reducible rfl | assumption | rfl) (by show _ < 406; omega) (by omega) rfl (fun h54 hC e54 => ?_)
  refine mm_aload_n (pc := 55) dX8_runBody_55 rfl (by first | trivial | assumption | exact mm_isr_rf _) ?_
  refine cw_grS (pc := 56) 8 _ 9 hC (rfl) rfl ((by rw [cw_sI_N, cw_sI_N]; exact n8)) dX8_runBody_56 fl_X8_40 rfl rfl rfl (((cR_o (cw_sI_o (by decide))).trans ((cR_o (cw_sI_o (by decide))).trans r9))) ?_
  refine mm_aload_n (pc := 59) dX8_runBody_59 rfl (by first | trivial | assumption | exact mm_isr_rf _) ?_
  refine cw_gi (pc := 60) 8 _ 1 hC (rfl) rfl ((by rw [cw_sI_N, cw_sI_N]; exact n8)) dX8_runBody_60 fl_X8_15 rfl rfl rfl ?_
  refine mm_topi _ ((cI_o (cw_sI_o (by decide))).trans ((cI_o (cw_sI_o (by decide))).trans b1)) ?_
  refine mm_iload_n (pc := 63) dX8_runBody_63 rfl ?_
  refine cw_iast (pc := 64) 14 2 r hC (rfl) rfl ((by rw [cw_sI_N, cw_sI_N]; exact n14c)) dX8_runBody_64 rfl (by first | with_reducible rfl | assumption | rfl) (by show _ < 406; omega) (by omega) rfl (fun h64 hC e64 => ?_)
  refine mm_aload_n (pc := 65) dX8_runBody_65 rfl (by first | trivial | assumption | exact mm_isr_rf _) ?_
  refine mm_dup (pc := 66) dX8_runBody_66 rfl ?_
  refine cw_gi (pc := 67) 8 _ 1 hC (rfl) rfl ((by rw [cw_sI_N, cw_sI_N, cw_sI_N]; exact n8)) dX8_runBody_67 fl_X8_15 rfl rfl rfl ?_
  refine mm_topi _ (show _ = cI C 8 0 1 from ((cI_o (cw_sI_o (by decide))).trans ((cI_o (cw_sI_o (by decide))).trans ((cI_o (cw_sI_o (by decide))).trans rfl)))) ?_
  refine mm_iconst (pc := 70) (v := 1) dX8_runBody_70 (by decide) ?_
  refine mm_iadd (pc := 71) dX8_runBody_71 ?_
  refine cw_pi (pc := 72) 8 _ 1 hC (rfl) rfl ((by rw [cw_sI_N, cw_sI_N, cw_sI_N]; exact n8)) dX8_runBody_72 (pl_X8_15 _) rfl rfl (rfl) (rfl) (fun h72 hC e72 => ?_)
  refine mm_aload_n (pc := 75) dX8_runBody_75 rfl (by first | trivial | assumption | exact mm_isr_rf _) ?_
  refine mm_aload_n (pc := 76) dX8_runBody_76 rfl (by first | trivial | assumption | exact mm_isr_rf _) ?_
  refine mm_aload_n (pc := 77) dX8_runBody_77 rfl (by first | trivial | assumption | exact mm_isr_rf _) ?_
  refine cw_gr (pc := 78) 1 g 5 hC (rfl) rfl ((by rw [cw_sI_N, cw_sI_N, cw_sI_N, cw_sI_N]; exact n1)) dX8_runBody_78 fl_X8_91 rfl rfl rfl rfl ?_
  refine mm_iload_n (pc := 81) dX8_runBody_81 rfl ?_
  refine mm_iconst (pc := 82) (v := 1) dX8_runBody_82 (by decide) ?_
  refine mm_iadd (pc := 83) dX8_runBody_83 ?_
  refine mm_topi _ nI_p1 ?_
  refine mm_iconst (pc := 84) (v := 1) dX8_runBody_84 (by decide) ?_
  refine mm_callV (pc := 85) (As := [_, _, _, _]) (kd := ?kd_85_1) (fs := ?fs_85_1) dX8_runBody_85 vl_X8_95 (hRA d (u + 1) 1 k q t (M.2.2.1 11 (6 * k + q)) s z g (cw_sI (cw_sI (cw_sI (cw_sI C 14 0 r (nI k)) 14 1 r (nI q)) 14 2 r (nI u)) 8 0 1 (cI C 8 0 1 + 1)) (rm_ent M k q) h72 _ HH (hb.of ent_V2) ((gb_v2 ent_V2).trans hg) (H.1.2.1.2.2 k q hb.1 hb.2.1 hb.2.2.1) (hcv.same (fun j i _ _ c => ent_V2 j i (by omega) (by omega) (by omega) (by omega) (by omega) (by omega))) hz (by omega) (by omega) lk hC) ?hc_85_1 ?hk_85_1 rfl rfl (Nat.le_of_ble_eq_true rfl) ?_; (case hc_85_1 => exact cw_cell (f := 8) hC rfl rfl (by rw [cw_sI_N, cw_sI_N, cw_sI_N, cw_sI_N]; exact n8)); (case hk_85_1 => rfl)
  rintro _ h85 ⟨C5, T5, hC5, s5, rfl, z1, z2, z3, z4⟩
  refine mm_iret (pc := 88) dX8_runBody_88 rfl ?_
  rw [show rnB (rnA ab f) M k q = ((rnA ab f (rm_ent M k q) (M.2.2.1 11 (6 * k + q)) k q).1, mw_setS (rnA ab f (rm_ent M k q) (M.2.2.1 11 (6 * k + q)) k q).2 65 ((rnA ab f (rm_ent M k q) (M.2.2.1 11 (6 * k + q)) k q).2.1 65 - 1)) from if_neg h12]
  exact ⟨C5, T5, hC5, by rw [s5, e72, e64, e54, e41], rfl, z1, rX_65 z2, (((rF_14.trans rF_14).trans rF_14).trans (rF_8 rfl)).trans z3, z4⟩

theorem rbo_ok {G : mm_G} {L : Nat × Nat} {d : Nat} {h : mm_H} {h0 : mm_H} {ad : Nat → Nat → Nat} {ab : Nat → Option Nat} {nk na : Nat} {oK oQ : Nat → Nat} {app K : Nat} {B : rB_T} {e f : Nat} {u k q t T g : Nat} {C : cw_C} {M : mw_S} (hRA : RA_ G L h0 ad ab nk na oK oQ app K B e f) (H : rHy ad ab nk na oK oQ app K B e f M C t u T) (hT : T ≤ t) (hr : ∃ r, M.1 68 = nI r ∧ r + 1 ≤ t + e) (hb : bHy M ab nk K k q) (hg : gb M k q = g) (hd : 16 * (12 - u) + 3 ≤ d) (hC : cw ad h0 C h) : mm_Ok G mX8_runBody L d [.ref (ad 8 0), .ref (ad 1 g), .int (nI u)] h (rO ad h0 h C ab nk app K B (rnB (rnA ab f) M k q)) := by
  by_cases hu : u < 12
  · obtain ⟨d', rfl⟩ : ∃ d', d = d' + 1 := ⟨d - 1, by omega⟩
    exact rb_lt hRA H hT hr hb hg hu (by omega) hC
  · exact rb_12 hRA H hT hr hb hg (by have := H.2.1.2.1.2; omega) hC

theorem rch_ok {G : mm_G} {L : Nat × Nat} {d : Nat} {h : mm_H} {d' : Nat} {h0 : mm_H} {ad : Nat → Nat → Nat} {ab : Nat → Option Nat} {nk na : Nat} {oK oQ : Nat → Nat} {app K : Nat} {B : rB_T} {e f : Nat} {u k q t T g : Nat} {C : cw_C} {M : mw_S} (hRA : RA_ G L h0 ad ab nk na oK oQ app K B e f) (H : rHy ad ab nk na oK oQ app K B e f M C t u T) (hT : T ≤ t) (hr : ∃ r, M.1 68 = nI r ∧ r + 1 ≤ t + e) (hb : bHy M ab nk K k q) (hg : gb M k q = g) (hd' : d = d' + 3) (hd : 16 * (12 - u) + 4 ≤ d) (hC : cw ad h0 C h) : mm_Ok G mX8_runChosen L (d) [.ref (ad 8 0), .ref (ad 1 g), .int (nI u)] h (fun r h1 => rO ad h0 h C ab nk app K B (rnU (rnA ab f) M (rn_cho M ab k q K) q) r h1) := by
  refine mm_Ok.of [(0, .ref (ad 8 0)), (1, .ref (ad 1 g)), (2, .int (nI u))] rfl kX8_runChosen.2.2.2.2.2 rfl (fun A => ?_)
  subst hd'
  have hX := H.2.2.2.2.1
  obtain ⟨⟨n8, n9⟩, -, r11, rK, -⟩ := hX.2.1
  have hK : K < nk := H.1.2.2.2.1.2
  have n4K : K < cN C 4 := Nat.lt_of_lt_of_le hK hX.1.1.2.2.1
  have h63 : nk ≤ 63 := by have := hX.1.1.2.1; omega
  obtain ⟨j, hj⟩ := cho_hit (M := M) (q := q) hX.1.1.1 h63 hK hb.2.2.2
  obtain ⟨j1, j2, -⟩ := cho_sat hX.1.1.1 h63 hK hb.2.2.1 hj
  have j3 : Ae ab K j := (Ae.at hX.1.1.1 h63 hK hj).1
  have hbj : bHy M ab nk K j q := ⟨j1, hb.2.1, j2, j3⟩
  have hch : mm_Ok G mX4_choose L (d' + 2) [.ref (ad 4 K), .ref (ad 1 g)] h (fun r h1 => h1 = h ∧ r = some (.ref (ad 1 (gb M j q)))) := by
    rw [← hg]
    refine mm_Ok.post (ck_cho hX.1 hC hK hb.2.1 hb.1 hb.2.2.1) ?_
    rintro r h1 ⟨a, b⟩
    exact ⟨a, by rw [b, hj]; rfl⟩
  have hj : rn_cho M ab k q K = some j := hj
  refine mm_aload_n (pc := 0) dX8_runChosen_0 rfl (by first | trivial | assumption | exact mm_isr_rf _) ?_
  refine mm_aload_n (pc := 1) dX8_runChosen_1 rfl (by first | trivial | assumption | exact mm_isr_rf _) ?_
  refine cw_grS (pc := 2) 8 _ 11 hC (rfl) rfl (n8) dX8_runChosen_2 fl_X8_46 rfl rfl rfl (r11) ?_
  refine cw_grS (pc := 5) 9 app 1 hC (rfl) rfl (n9) dX8_runChosen_5 fl_X8_71 rfl rfl rfl (rK) ?_
  refine mm_aload_n (pc := 8) dX8_runChosen_8 rfl (by first | trivial | assumption | exact mm_isr_rf _) ?_
  refine mm_callV (pc := 9) (As := [_]) (kd := ?kd_9_2) (fs := ?fs_9_2) dX8_runChosen_9 vl_X8_77 (hch) ?hc_9_2 ?hk_9_2 rfl rfl (Nat.le_of_ble_eq_true rfl) ?_; (case hc_9_2 => exact cw_cell (f := 4) hC rfl rfl n4K); (case hk_9_2 => rfl)
  rintro _ h9 ⟨rfl, rfl⟩
  refine mm_iload_n (pc := 12) dX8_runChosen_12 rfl ?_
  refine mm_callV (pc := 13) (As := [_, _]) (kd := ?kd_13_3) (fs := ?fs_13_3) dX8_runChosen_13 vl_X8_81 (rbo_ok hRA H hT hr hbj rfl (by omega) hC) ?hc_13_3 ?hk_13_3 rfl rfl (Nat.le_of_ble_eq_true rfl) ?_; (case hc_13_3 => exact cw_cell (f := 8) hC rfl rfl n8); (case hk_13_3 => rfl)
  rintro _ h13 ⟨C5, T5, hC5, s5, rfl, z5⟩
  refine mm_iret (pc := 16) dX8_runChosen_16 rfl ?_
  rw [hj]
  exact ⟨C5, T5, hC5, s5, rfl, z5⟩

