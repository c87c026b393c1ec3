theorem fnd_body {ad : Nat → Nat → Nat} {C : cw_C} {M : mw_S} {ab : Nat → Option Nat} {nk x q : Nat} (hE : ckE ad C M ab nk) (hx : x < nk) (hq : q < 6) (hh : rm_has M q x = true) : gb M x q < cN C 1 ∧ cR C 1 (gb M x q) 0 = some (ad 4 x) ∧ cI C 4 x 4 = nI x ∧ x < cN C 4 ∧ cI C 1 (gb M x q) 2 = M.2.2.1 9 (6 * x + q) ∧ cI C 1 (gb M x q) 3 = M.2.2.1 10 (6 * x + q) ∧ cI C 1 (gb M x q) 6 = M.2.2.1 12 (6 * x + q) ∧ cI C 1 (gb M x q) 1 = nI q := by
  have g := (hE.2.2.2.2.1 x hx).g hE.2.2.2.1.2 hq hh
  have l : gb M x q < cN C 1 := by rw [hE.2.2.2.1.1]; exact g.2.1
  have b := hE.2.2.1 _ l
  exact ⟨l, by rw [b.1, g.2.2.1], (hE.2.1 x hx).1.2.1, by have := hE.1.2.2.1; omega, by rw [b.2.2.2.1, g.2.2.2.2.1], by rw [b.2.2.2.2.1, g.2.2.2.2.2.1], by rw [b.2.2.2.2.2.2.2, g.2.2.2.2.2.2.2], by rw [b.2.2.1, g.2.2.2.1]⟩
theorem fnd_sat {ad : Nat → Nat → Nat} {C : cw_C} {M : mw_S} {ab : Nat → Option Nat} {nk x q k : Nat} {c0 : Option Nat} (hE : ckE ad C M ab nk) (hc : kf_lt nk c0) (hx : rn_fnd M ab k q c0 = some x) : x < nk ∧ rm_has M q x = true := by
  have s := kfind_sat hE.1.1 (by have := hE.1.2.1; omega) nk c0 x hc hc hx
  exact ⟨s.2.1, (Bool.and_eq_true_iff.mp s.1).1⟩
theorem sp_in_k {k n : Nat} (h : k < n) (hn : n < 2 ^ 31) : ¬ sp_in (nI k) (nI n) = 0 := by
  unfold sp_in; rw [if_neg (nI_pos (by omega)), if_neg (nI_ge h (by omega))]; decide

theorem rs_no {G : mm_G} {L : Nat × Nat} {d : Nat} {h : mm_H} {h0 : mm_H} {ad : Nat → Nat → Nat} {C : cw_C} {M : mw_S} {ab : Nat → Option Nat} {nk np : Nat} {z : Int32} {i q : Int32} (hG : rlG ad C M ab nk np) (hi : sp_in i (nI nk) = 0) (hC : cw ad h0 C h) : mm_Ok G mX11_resolved L (d + 3) [.ref (ad 11 0), .int i, .int q, .int z] h (fun r h1 => gP ad h0 C h (sp_resolved M ab i q z) r h1) := by
  refine mm_Ok.of [(0, .ref (ad 11 0)), (1, .int i), (2, .int q), (3, .int z)] rfl kX11_resolved.2.2.2.2.2 rfl (fun A => ?_)
  obtain ⟨hR, hE, ⟨n11, n13⟩, f3, f9, s3, s19⟩ := id hG
  have n7 := hR.1.1
  have hk40 := hR.2.1.1
  refine mm_aload_n (pc := 0) dX11_resolved_0 rfl (by first | trivial | assumption | exact mm_isr_rf _) ?_
  refine cw_grS (pc := 1) 11 _ 3 hC (rfl) rfl (n11) dX11_resolved_1 fl_X11_23 rfl rfl rfl (f3) ?_
  refine mm_iload_n (pc := 4) dX11_resolved_4 rfl ?_
  refine mm_callV (pc := 5) (As := [_]) (kd := ?kd_5_1) (fs := ?fs_5_1) dX11_resolved_5 vl_X11_139 (ka_no hR hi hC) ?hc_5_1 ?hk_5_1 rfl rfl (Nat.le_of_ble_eq_true rfl) ?_; (case hc_5_1 => exact cw_cell (f := 7) hC rfl rfl n7); (case hk_5_1 => rfl)
  rintro _ _ ⟨rfl, rfl⟩
  refine mm_astore (pc := 8) dX11_resolved_8 (by first | trivial | assumption | exact mm_isr_rf _) rfl (Nat.le_of_ble_eq_true rfl) ?_
  refine mm_aload (pc := 10) dX11_resolved_10 rfl (by first | trivial | assumption | exact mm_isr_rf _) ?_
  refine mm_ifnull (pc := 12) (tgt := 22) dX11_resolved_12 (by decide) (by first | trivial | assumption | exact mm_isr_rf _) (fun c12 => ?_) (fun a12 c12 => by cases c12)
  refine mm_aload_n (pc := 22) dX11_resolved_22 rfl (by first | trivial | assumption | exact mm_isr_rf _) ?_
  refine mm_iconst (pc := 23) (v := (-1)) dX11_resolved_23 (by decide) ?_
  refine mm_callV (pc := 24) (As := [_]) (kd := ?kd_24_2) (fs := ?fs_24_2) dX11_resolved_24 vl_X11_96 (tl_ok (c := 1) n11 n13 f9 rfl (by decide) (by decide) hC) ?hc_24_2 ?hk_24_2 rfl rfl (Nat.le_of_ble_eq_true rfl) ?_; (case hc_24_2 => exact cw_cell (f := 11) hC rfl rfl n11); (case hk_24_2 => rfl)
  rintro _ h24 ⟨hC, e24, rfl⟩
  refine mm_iret (pc := 27) dX11_resolved_27 rfl ?_
  exact gP_no hC e24 (by unfold sp_resolved; rw [s3, if_pos hi]; rfl) (by decide)

theorem rs_nq {G : mm_G} {L : Nat × Nat} {d : Nat} {h : mm_H} {h0 : mm_H} {ad : Nat → Nat → Nat} {C : cw_C} {M : mw_S} {ab : Nat → Option Nat} {nk np : Nat} {z : Int32} {q : Int32} {k : Nat} (hG : rlG ad C M ab nk np) (hk : k < nk) (hq : sp_in q 6 = 0) (hC : cw ad h0 C h) : mm_Ok G mX11_resolved L (d + 3) [.ref (ad 11 0), .int (nI k), .int q, .int z] h (fun r h1 => gP ad h0 C h (sp_resolved M ab (nI k) q z) r h1) := by
  refine mm_Ok.of [(0, .ref (ad 11 0)), (1, .int (nI k)), (2, .int q), (3, .int z)] rfl kX11_resolved.2.2.2.2.2 rfl (fun A => ?_)
  obtain ⟨hR, hE, ⟨n11, n13⟩, f3, f9, s3, s19⟩ := id hG
  have n7 := hR.1.1
  have hk40 := hR.2.1.1
  have hin : ¬ sp_in (nI k) (M.1 3) = 0 := by rw [s3]; exact sp_in_k hk (by omega)
  have n4 : k < cN C 4 := by have := hR.1.2.2.2.1; omega
  have ek : (nI k).toNatClampNeg = k := nI_clamp (by omega)
  have habk : cR C 4 k 5 = (ab k).map (ad 4) := (hE.2.1 k hk).1.2.2.1
  refine mm_aload_n (pc := 0) dX11_resolved_0 rfl (by first | trivial | assumption | exact mm_isr_rf _) ?_
  refine cw_grS (pc := 1) 11 _ 3 hC (rfl) rfl (n11) dX11_resolved_1 fl_X11_23 rfl rfl rfl (f3) ?_
  refine mm_iload_n (pc := 4) dX11_resolved_4 rfl ?_
  refine mm_callV (pc := 5) (As := [_]) (kd := ?kd_5_3) (fs := ?fs_5_3) dX11_resolved_5 vl_X11_139 (ka_in (k := k) hR hk hC) ?hc_5_3 ?hk_5_3 rfl rfl (Nat.le_of_ble_eq_true rfl) ?_; (case hc_5_3 => exact cw_cell (f := 7) hC rfl rfl n7); (case hk_5_3 => rfl)
  rintro _ _ ⟨rfl, rfl⟩
  refine mm_astore (pc := 8) dX11_resolved_8 (by first | trivial | assumption | exact mm_isr_rf _) rfl (Nat.le_of_ble_eq_true rfl) ?_
  refine mm_aload (pc := 10) dX11_resolved_10 rfl (by first | trivial | assumption | exact mm_isr_rf _) ?_
  refine mm_ifnull (pc := 12) (tgt := 22) dX11_resolved_12 (by decide) (by first | trivial | assumption | exact mm_isr_rf _) (fun c12 => by cases c12) (fun a12 c12 => ?_)
  refine mm_iload_n (pc := 15) dX11_resolved_15 rfl ?_
  refine mm_callS (pc := 16) (As := [_]) dX11_resolved_16 sl_X11_163 (ok_X11_isHook) rfl rfl (Nat.le_of_ble_eq_true rfl) ?_
  rintro _ _ ⟨rfl, rfl⟩
  refine mm_if_ne (pc := 19) (tgt := 28) dX11_resolved_19 (by decide) (fun c19 => absurd hq c19) (fun c19 => ?_)
  refine mm_aload_n (pc := 22) dX11_resolved_22 rfl (by first | trivial | assumption | exact mm_isr_rf _) ?_
  refine mm_iconst (pc := 23) (v := (-1)) dX11_resolved_23 (by decide) ?_
  refine mm_callV (pc := 24) (As := [_]) (kd := ?kd_24_4) (fs := ?fs_24_4) dX11_resolved_24 vl_X11_96 (tl_ok (c := 1) n11 n13 f9 rfl (by decide) (by decide) hC) ?hc_24_4 ?hk_24_4 rfl rfl (Nat.le_of_ble_eq_true rfl) ?_; (case hc_24_4 => exact cw_cell (f := 11) hC rfl rfl n11); (case hk_24_4 => rfl)
  rintro _ h24 ⟨hC, e24, rfl⟩
  refine mm_iret (pc := 27) dX11_resolved_27 rfl ?_
  exact gP_no hC e24 (by unfold sp_resolved; rw [if_neg hin, if_pos hq]; rfl) (by decide)

theorem rs_Tn {G : mm_G} {L : Nat × Nat} {d : Nat} {h : mm_H} {h0 : mm_H} {ad : Nat → Nat → Nat} {C : cw_C} {M : mw_S} {ab : Nat → Option Nat} {nk np : Nat} {z : Int32} {k q : Nat} (hG : rlG ad C M ab nk np) (hk : k < nk) (hq : q < 6) (hz : z = 0) (hx : rn_fnd M ab k q (some k) = none) (hC : cw ad h0 C h) : mm_Ok G mX11_resolved L (d + 3) [.ref (ad 11 0), .int (nI k), .int (nI q), .int z] h (fun r h1 => gP ad h0 C h (sp_resolved M ab (nI k) (nI q) z) r h1) := by
  refine mm_Ok.of [(0, .ref (ad 11 0)), (1, .int (nI k)), (2, .int (nI q)), (3, .int z)] rfl kX11_resolved.2.2.2.2.2 rfl (fun A => ?_)
  obtain ⟨hR, hE, ⟨n11, n13⟩, f3, f9, s3, s19⟩ := id hG
  have n7 := hR.1.1
  have hk40 := hR.2.1.1
  have hin : ¬ sp_in (nI k) (M.1 3) = 0 := by rw [s3]; exact sp_in_k hk (by omega)
  have n4 : k < cN C 4 := by have := hR.1.2.2.2.1; omega
  have ek : (nI k).toNatClampNeg = k := nI_clamp (by omega)
  have habk : cR C 4 k 5 = (ab k).map (ad 4) := (hE.2.1 k hk).1.2.2.1
  have hq6 : ¬ sp_in (nI q) 6 = 0 := sp_in_k (n := 6) hq (by decide)
  have eq_ : (nI q).toNatClampNeg = q := nI_clamp (by omega)
  have hrs : sp_resolved M ab (nI k) (nI q) z = sp_resolvedR (rn_fnd M ab k q (some k)) := by unfold sp_resolved; rw [if_neg hin, if_neg hq6, ek, eq_, if_pos hz]; rfl
  refine mm_aload_n (pc := 0) dX11_resolved_0 rfl (by first | trivial | assumption | exact mm_isr_rf _) ?_
  refine cw_grS (pc := 1) 11 _ 3 hC (rfl) rfl (n11) dX11_resolved_1 fl_X11_23 rfl rfl rfl (f3) ?_
  refine mm_iload_n (pc := 4) dX11_resolved_4 rfl ?_
  refine mm_callV (pc := 5) (As := [_]) (kd := ?kd_5_5) (fs := ?fs_5_5) dX11_resolved_5 vl_X11_139 (ka_in (k := k) hR hk hC) ?hc_5_5 ?hk_5_5 rfl rfl (Nat.le_of_ble_eq_true rfl) ?_; (case hc_5_5 => exact cw_cell (f := 7) hC rfl rfl n7); (case hk_5_5 => rfl)
  rintro _ _ ⟨rfl, rfl⟩
  refine mm_astore (pc := 8) dX11_resolved_8 (by first | trivial | assumption | exact mm_isr_rf _) rfl (Nat.le_of_ble_eq_true rfl) ?_
  refine mm_aload (pc := 10) dX11_resolved_10 rfl (by first | trivial | assumption | exact mm_isr_rf _) ?_
  refine mm_ifnull (pc := 12) (tgt := 22) dX11_resolved_12 (by decide) (by first | trivial | assumption | exact mm_isr_rf _) (fun c12 => by cases c12) (fun a12 c12 => ?_)
  refine mm_iload_n (pc := 15) dX11_resolved_15 rfl ?_
  refine mm_callS (pc := 16) (As := [_]) dX11_resolved_16 sl_X11_163 (ok_X11_isHook) rfl rfl (Nat.le_of_ble_eq_true rfl) ?_
  rintro _ _ ⟨rfl, rfl⟩
  refine mm_if_ne (pc := 19) (tgt := 28) dX11_resolved_19 (by decide) (fun c19 => ?_) (fun c19 => absurd c19 hq6)
  refine mm_aload (pc := 28) dX11_resolved_28 rfl (by first | trivial | assumption | exact mm_isr_rf _) ?_
  refine mm_iload_n (pc := 30) dX11_resolved_30 rfl ?_
  refine mm_iload_n (pc := 31) dX11_resolved_31 rfl ?_
  refine mm_if_eq (pc := 32) (tgt := 43) dX11_resolved_32 (by decide) (fun c32 => ?_) (fun c32 => absurd hz c32)
  refine mm_aload (pc := 43) dX11_resolved_43 rfl (by first | trivial | assumption | exact mm_isr_rf _) ?_
  refine mm_callV (pc := 45) (As := [_, _]) (kd := ?kd_45_6) (fs := ?fs_45_6) dX11_resolved_45 vl_X11_187 (ck_res (d := d + 1) (c0 := (some k)) hE hC hk hq hk) ?hc_45_6 ?hk_45_6 rfl rfl (Nat.le_of_ble_eq_true rfl) ?_; (case hc_45_6 => exact cw_cell (f := 4) hC rfl rfl n4); (case hk_45_6 => rfl)
  rintro _ _ ⟨rfl, rfl⟩
  rw [hx]
  refine mm_astore (pc := 48) dX11_resolved_48 (by first | trivial | assumption | exact mm_isr_rf _) rfl (Nat.le_of_ble_eq_true rfl) ?_
  refine mm_aload (pc := 50) dX11_resolved_50 rfl (by first | trivial | assumption | exact mm_isr_rf _) ?_
  refine mm_ifnonnull (pc := 52) (tgt := 64) dX11_resolved_52 (by decide) (by first | trivial | assumption | exact mm_isr_rf _) (fun a52 c52 => by cases c52) (fun c52 => ?_)
  refine mm_aload_n (pc := 55) dX11_resolved_55 rfl (by first | trivial | assumption | exact mm_isr_rf _) ?_
  refine mm_bipush (pc := 56) (v := (-2)) dX11_resolved_56 (by decide) ?_
  refine mm_callV (pc := 58) (As := [_]) (kd := ?kd_58_7) (fs := ?fs_58_7) dX11_resolved_58 vl_X11_96 (tl_ok (c := 2) n11 n13 f9 rfl (by decide) (by decide) hC) ?hc_58_7 ?hk_58_7 rfl rfl (Nat.le_of_ble_eq_true rfl) ?_; (case hc_58_7 => exact cw_cell (f := 11) hC rfl rfl n11); (case hk_58_7 => rfl)
  rintro _ h58 ⟨hC, e58, rfl⟩
  refine mm_goto (pc := 61) (tgt := 72) dX11_resolved_61 (by decide) ?_
  refine mm_iret (pc := 72) dX11_resolved_72 rfl ?_
  exact gP_no hC e58 (by rw [hrs, hx]; rfl) (by decide)

theorem rs_Ts {G : mm_G} {L : Nat × Nat} {d : Nat} {h : mm_H} {h0 : mm_H} {ad : Nat → Nat → Nat} {C : cw_C} {M : mw_S} {ab : Nat → Option Nat} {nk np : Nat} {z : Int32} {k q : Nat} (hG : rlG ad C M ab nk np) (hk : k < nk) (hq : q < 6) (hz : z = 0) {x : Nat} (hx : rn_fnd M ab k q (some k) = some x) (hC : cw ad h0 C h) : mm_Ok G mX11_resolved L (d + 3) [.ref (ad 11 0), .int (nI k), .int (nI q), .int z] h (fun r h1 => gP ad h0 C h (sp_resolved M ab (nI k) (nI q) z) r h1) := by
  refine mm_Ok.of [(0, .ref (ad 11 0)), (1, .int (nI k)), (2, .int (nI q)), (3, .int z)] rfl kX11_resolved.2.2.2.2.2 rfl (fun A => ?_)
  obtain ⟨hR, hE, ⟨n11, n13⟩, f3, f9, s3, s19⟩ := id hG
  have n7 := hR.1.1
  have hk40 := hR.2.1.1
  have hin : ¬ sp_in (nI k) (M.1 3) = 0 := by rw [s3]; exact sp_in_k hk (by omega)
  have n4 : k < cN C 4 := by have := hR.1.2.2.2.1; omega
  have ek : (nI k).toNatClampNeg = k := nI_clamp (by omega)
  have habk : cR C 4 k 5 = (ab k).map (ad 4) := (hE.2.1 k hk).1.2.2.1
  have hq6 : ¬ sp_in (nI q) 6 = 0 := sp_in_k (n := 6) hq (by decide)
  have eq_ : (nI q).toNatClampNeg = q := nI_clamp (by omega)
  obtain ⟨hxn, hxh⟩ := fnd_sat hE (c0 := (some k)) hk hx
  obtain ⟨g1, g2, g3, g4, -⟩ := fnd_body hE hxn hq hxh
  have hrs : sp_resolved M ab (nI k) (nI q) z = sp_resolvedR (rn_fnd M ab k q (some k)) := by unfold sp_resolved; rw [if_neg hin, if_neg hq6, ek, eq_, if_pos hz]; rfl
  refine mm_aload_n (pc := 0) dX11_resolved_0 rfl (by first | trivial | assumption | exact mm_isr_rf _) ?_
  refine cw_grS (pc := 1) 11 _ 3 hC (rfl) rfl (n11) dX11_resolved_1 fl_X11_23 rfl rfl rfl (f3) ?_
  refine mm_iload_n (pc := 4) dX11_resolved_4 rfl ?_
  refine mm_callV (pc := 5) (As := [_]) (kd := ?kd_5_8) (fs := ?fs_5_8) dX11_resolved_5 vl_X11_139 (ka_in (k := k) hR hk hC) ?hc_5_8 ?hk_5_8 rfl rfl (Nat.le_of_ble_eq_true rfl) ?_; (case hc_5_8 => exact cw_cell (f := 7) hC rfl rfl n7); (case hk_5_8 => rfl)
  rintro _ _ ⟨rfl, rfl⟩
  refine mm_astore (pc := 8) dX11_resolved_8 (by first | trivial | assumption | exact mm_isr_rf _) rfl (Nat.le_of_ble_eq_true rfl) ?_
  refine mm_aload (pc := 10) dX11_resolved_10 rfl (by first | trivial | assumption | exact mm_isr_rf _) ?_
  refine mm_ifnull (pc := 12) (tgt := 22) dX11_resolved_12 (by decide) (by first | trivial | assumption | exact mm_isr_rf _) (fun c12 => by cases c12) (fun a12 c12 => ?_)
  refine mm_iload_n (pc := 15) dX11_resolved_15 rfl ?_
  refine mm_callS (pc := 16) (As := [_]) dX11_resolved_16 sl_X11_163 (ok_X11_isHook) rfl rfl (Nat.le_of_ble_eq_true rfl) ?_
  rintro _ _ ⟨rfl, rfl⟩
  refine mm_if_ne (pc := 19) (tgt := 28) dX11_resolved_19 (by decide) (fun c19 => ?_) (fun c19 => absurd c19 hq6)
  refine mm_aload (pc := 28) dX11_resolved_28 rfl (by first | trivial | assumption | exact mm_isr_rf _) ?_
  refine mm_iload_n (pc := 30) dX11_resolved_30 rfl ?_
  refine mm_iload_n (pc := 31) dX11_resolved_31 rfl ?_
  refine mm_if_eq (pc := 32) (tgt := 43) dX11_resolved_32 (by decide) (fun c32 => ?_) (fun c32 => absurd hz c32)
  refine mm_aload (pc := 43) dX11_resolved_43 rfl (by first | trivial | assumption | exact mm_isr_rf _) ?_
  refine mm_callV (pc := 45) (As := [_, _]) (kd := ?kd_45_9) (fs := ?fs_45_9) dX11_resolved_45 vl_X11_187 (ck_res (d := d + 1) (c0 := (some k)) hE hC hk hq hk) ?hc_45_9 ?hk_45_9 rfl rfl (Nat.le_of_ble_eq_true rfl) ?_; (case hc_45_9 => exact cw_cell (f := 4) hC rfl rfl n4); (case hk_45_9 => rfl)
  rintro _ _ ⟨rfl, rfl⟩
  rw [hx]
  refine mm_astore (pc := 48) dX11_resolved_48 (by first | trivial | assumption | exact mm_isr_rf _) rfl (Nat.le_of_ble_eq_true rfl) ?_
  refine mm_aload (pc := 50) dX11_resolved_50 rfl (by first | trivial | assumption | exact mm_isr_rf _) ?_
  refine mm_ifnonnull (pc := 52) (tgt := 64) dX11_resolved_52 (by decide) (by first | trivial | assumption | exact mm_isr_rf _) (fun a52 c52 => ?_) (fun c52 => by cases c52)
  refine mm_aload (pc := 64) dX11_resolved_64 rfl (by first | trivial | assumption | exact mm_isr_rf _) ?_
  refine cw_grS (pc := 66) 1 (gb M x q) 0 hC (rfl) rfl (g1) dX11_resolved_66 fl_X11_184 rfl rfl rfl (g2) ?_
  refine cw_gi (pc := 69) 4 x 4 hC (rfl) rfl (g4) dX11_resolved_69 fl_X11_150 rfl rfl rfl ?_
  refine mm_iret (pc := 72) dX11_resolved_72 rfl ?_
  exact gP_ok hC (by rw [hrs, hx, g3]; rfl)

theorem rs_Fn {G : mm_G} {L : Nat × Nat} {d : Nat} {h : mm_H} {h0 : mm_H} {ad : Nat → Nat → Nat} {C : cw_C} {M : mw_S} {ab : Nat → Option Nat} {nk np : Nat} {z : Int32} {k q : Nat} (hG : rlG ad C M ab nk np) (hk : k < nk) (hq : q < 6) (hz : ¬ z = 0) (hx : rn_fnd M ab k q (ab k) = none) (hC : cw ad h0 C h) : mm_Ok G mX11_resolved L (d + 3) [.ref (ad 11 0), .int (nI k), .int (nI q), .int z] h (fun r h1 => gP ad h0 C h (sp_resolved M ab (nI k) (nI q) z) r h1) := by
  refine mm_Ok.of [(0, .ref (ad 11 0)), (1, .int (nI k)), (2, .int (nI q)), (3, .int z)] rfl kX11_resolved.2.2.2.2.2 rfl (fun A => ?_)
  obtain ⟨hR, hE, ⟨n11, n13⟩, f3, f9, s3, s19⟩ := id hG
  have n7 := hR.1.1
  have hk40 := hR.2.1.1
  have hin : ¬ sp_in (nI k) (M.1 3) = 0 := by rw [s3]; exact sp_in_k hk (by omega)
  have n4 : k < cN C 4 := by have := hR.1.2.2.2.1; omega
  have ek : (nI k).toNatClampNeg = k := nI_clamp (by omega)
  have habk : cR C 4 k 5 = (ab k).map (ad 4) := (hE.2.1 k hk).1.2.2.1
  have hq6 : ¬ sp_in (nI q) 6 = 0 := sp_in_k (n := 6) hq (by decide)
  have eq_ : (nI q).toNatClampNeg = q := nI_clamp (by omega)
  have hrs : sp_resolved M ab (nI k) (nI q) z = sp_resolvedR (rn_fnd M ab k q (ab k)) := by unfold sp_resolved; rw [if_neg hin, if_neg hq6, ek, eq_, if_neg hz]; rfl
  refine mm_aload_n (pc := 0) dX11_resolved_0 rfl (by first | trivial | assumption | exact mm_isr_rf _) ?_
  refine cw_grS (pc := 1) 11 _ 3 hC (rfl) rfl (n11) dX11_resolved_1 fl_X11_23 rfl rfl rfl (f3) ?_
  refine mm_iload_n (pc := 4) dX11_resolved_4 rfl ?_
  refine mm_callV (pc := 5) (As := [_]) (kd := ?kd_5_10) (fs := ?fs_5_10) dX11_resolved_5 vl_X11_139 (ka_in (k := k) hR hk hC) ?hc_5_10 ?hk_5_10 rfl rfl (Nat.le_of_ble_eq_true rfl) ?_; (case hc_5_10 => exact cw_cell (f := 7) hC rfl rfl n7); (case hk_5_10 => rfl)
  rintro _ _ ⟨rfl, rfl⟩
  refine mm_astore (pc := 8) dX11_resolved_8 (by first | trivial | assumption | exact mm_isr_rf _) rfl (Nat.le_of_ble_eq_true rfl) ?_
  refine mm_aload (pc := 10) dX11_resolved_10 rfl (by first | trivial | assumption | exact mm_isr_rf _) ?_
  refine mm_ifnull (pc := 12) (tgt := 22) dX11_resolved_12 (by decide) (by first | trivial | assumption | exact mm_isr_rf _) (fun c12 => by cases c12) (fun a12 c12 => ?_)
  refine mm_iload_n (pc := 15) dX11_resolved_15 rfl ?_
  refine mm_callS (pc := 16) (As := [_]) dX11_resolved_16 sl_X11_163 (ok_X11_isHook) rfl rfl (Nat.le_of_ble_eq_true rfl) ?_
  rintro _ _ ⟨rfl, rfl⟩
  refine mm_if_ne (pc := 19) (tgt := 28) dX11_resolved_19 (by decide) (fun c19 => ?_) (fun c19 => absurd c19 hq6)
  refine mm_aload (pc := 28) dX11_resolved_28 rfl (by first | trivial | assumption | exact mm_isr_rf _) ?_
  refine mm_iload_n (pc := 30) dX11_resolved_30 rfl ?_
  refine mm_iload_n (pc := 31) dX11_resolved_31 rfl ?_
  refine mm_if_eq (pc := 32) (tgt := 43) dX11_resolved_32 (by decide) (fun c32 => absurd c32 hz) (fun c32 => ?_)
  refine mm_aload (pc := 35) dX11_resolved_35 rfl (by first | trivial | assumption | exact mm_isr_rf _) ?_
  refine cw_gr (pc := 37) (v := va_rf ((ab k).map (ad 4))) 4 k 5 hC (rfl) rfl (n4) dX11_resolved_37 fl_X11_146 rfl rfl rfl (congrArg va_rf habk) ?_
  refine mm_goto (pc := 40) (tgt := 45) dX11_resolved_40 (by decide) ?_
  refine mm_callV (pc := 45) (As := [_, _]) (kd := ?kd_45_11) (fs := ?fs_45_11) dX11_resolved_45 vl_X11_187 (ck_res (d := d + 1) (c0 := (ab k)) hE hC hk hq (kf_ab hE.1.1 hk)) ?hc_45_11 ?hk_45_11 rfl rfl (Nat.le_of_ble_eq_true rfl) ?_; (case hc_45_11 => exact cw_cell (f := 4) hC rfl rfl n4); (case hk_45_11 => rfl)
  rintro _ _ ⟨rfl, rfl⟩
  rw [hx]
  refine mm_astore (pc := 48) dX11_resolved_48 (by first | trivial | assumption | exact mm_isr_rf _) rfl (Nat.le_of_ble_eq_true rfl) ?_
  refine mm_aload (pc := 50) dX11_resolved_50 rfl (by first | trivial | assumption | exact mm_isr_rf _) ?_
  refine mm_ifnonnull (pc := 52) (tgt := 64) dX11_resolved_52 (by decide) (by first | trivial | assumption | exact mm_isr_rf _) (fun a52 c52 => by cases c52) (fun c52 => ?_)
  refine mm_aload_n (pc := 55) dX11_resolved_55 rfl (by first | trivial | assumption | exact mm_isr_rf _) ?_
  refine mm_bipush (pc := 56) (v := (-2)) dX11_resolved_56 (by decide) ?_
  refine mm_callV (pc := 58) (As := [_]) (kd := ?kd_58_12) (fs := ?fs_58_12) dX11_resolved_58 vl_X11_96 (tl_ok (c := 2) n11 n13 f9 rfl (by decide) (by decide) hC) ?hc_58_12 ?hk_58_12 rfl rfl (Nat.le_of_ble_eq_true rfl) ?_; (case hc_58_12 => exact cw_cell (f := 11) hC rfl rfl n11); (case hk_58_12 => rfl)
  rintro _ h58 ⟨hC, e58, rfl⟩
  refine mm_goto (pc := 61) (tgt := 72) dX11_resolved_61 (by decide) ?_
  refine mm_iret (pc := 72) dX11_resolved_72 rfl ?_
  exact gP_no hC e58 (by rw [hrs, hx]; rfl) (by decide)

theorem rs_Fs {G : mm_G} {L : Nat × Nat} {d : Nat} {h : mm_H} {h0 : mm_H} {ad : Nat → Nat → Nat} {C : cw_C} {M : mw_S} {ab : Nat → Option Nat} {nk np : Nat} {z : Int32} {k q : Nat} (hG : rlG ad C M ab nk np) (hk : k < nk) (hq : q < 6) (hz : ¬ z = 0) {x : Nat} (hx : rn_fnd M ab k q (ab k) = some x) (hC : cw ad h0 C h) : mm_Ok G mX11_resolved L (d + 3) [.ref (ad 11 0), .int (nI k), .int (nI q), .int z] h (fun r h1 => gP ad h0 C h (sp_resolved M ab (nI k) (nI q) z) r h1) := by
  refine mm_Ok.of [(0, .ref (ad 11 0)), (1, .int (nI k)), (2, .int (nI q)), (3, .int z)] rfl kX11_resolved.2.2.2.2.2 rfl (fun A => ?_)
  obtain ⟨hR, hE, ⟨n11, n13⟩, f3, f9, s3, s19⟩ := id hG
  have n7 := hR.1.1
  have hk40 := hR.2.1.1
  have hin : ¬ sp_in (nI k) (M.1 3) = 0 := by rw [s3]; exact sp_in_k hk (by omega)
  have n4 : k < cN C 4 := by have := hR.1.2.2.2.1; omega
  have ek : (nI k).toNatClampNeg = k := nI_clamp (by omega)
  have habk : cR C 4 k 5 = (ab k).map (ad 4) := (hE.2.1 k hk).1.2.2.1
  have hq6 : ¬ sp_in (nI q) 6 = 0 := sp_in_k (n := 6) hq (by decide)
  have eq_ : (nI q).toNatClampNeg = q := nI_clamp (by omega)
  obtain ⟨hxn, hxh⟩ := fnd_sat hE (c0 := (ab k)) (kf_ab hE.1.1 hk) hx
  obtain ⟨g1, g2, g3, g4, -⟩ := fnd_body hE hxn hq hxh
  have hrs : sp_resolved M ab (nI k) (nI q) z = sp_resolvedR (rn_fnd M ab k q (ab k)) := by unfold sp_resolved; rw [if_neg hin, if_neg hq6, ek, eq_, if_neg hz]; rfl
  refine mm_aload_n (pc := 0) dX11_resolved_0 rfl (by first | trivial | assumption | exact mm_isr_rf _) ?_
  refine cw_grS (pc := 1) 11 _ 3 hC (rfl) rfl (n11) dX11_resolved_1 fl_X11_23 rfl rfl rfl (f3) ?_
  refine mm_iload_n (pc := 4) dX11_resolved_4 rfl ?_
  refine mm_callV (pc := 5) (As := [_]) (kd := ?kd_5_13) (fs := ?fs_5_13) dX11_resolved_5 vl_X11_139 (ka_in (k := k) hR hk hC) ?hc_5_13 ?hk_5_13 rfl rfl (Nat.le_of_ble_eq_true rfl) ?_; (case hc_5_13 => exact cw_cell (f := 7) hC rfl rfl n7); (case hk_5_13 => rfl)
  rintro _ _ ⟨rfl, rfl⟩
  refine mm_astore (pc := 8) dX11_resolved_8 (by first | trivial | assumption | exact mm_isr_rf _) rfl (Nat.le_of_ble_eq_true rfl) ?_
  refine mm_aload (pc := 10) dX11_resolved_10 rfl (by first | trivial | assumption | exact mm_isr_rf _) ?_
  refine mm_ifnull (pc := 12) (tgt := 22) dX11_resolved_12 (by decide) (by first | trivial | assumption | exact mm_isr_rf _) (fun c12 => by cases c12) (fun a12 c12 => ?_)
  refine mm_iload_n (pc := 15) dX11_resolved_15 rfl ?_
  refine mm_callS (pc := 16) (As := [_]) dX11_resolved_16 sl_X11_163 (ok_X11_isHook) rfl rfl (Nat.le_of_ble_eq_true rfl) ?_
  rintro _ _ ⟨rfl, rfl⟩
  refine mm_if_ne (pc := 19) (tgt := 28) dX11_resolved_19 (by decide) (fun c19 => ?_) (fun c19 => absurd c19 hq6)
  refine mm_aload (pc := 28) dX11_resolved_28 rfl (by first | trivial | assumption | exact mm_isr_rf _) ?_
  refine mm_iload_n (pc := 30) dX11_resolved_30 rfl ?_
  refine mm_iload_n (pc := 31) dX11_resolved_31 rfl ?_
  refine mm_if_eq (pc := 32) (tgt := 43) dX11_resolved_32 (by decide) (fun c32 => absurd c32 hz) (fun c32 => ?_)
  refine mm_aload (pc := 35) dX11_resolved_35 rfl (by first | trivial | assumption | exact mm_isr_rf _) ?_
  refine cw_gr (pc := 37) (v := va_rf ((ab k).map (ad 4))) 4 k 5 hC (rfl) rfl (n4) dX11_resolved_37 fl_X11_146 rfl rfl rfl (congrArg va_rf habk) ?_
  refine mm_goto (pc := 40) (tgt := 45) dX11_resolved_40 (by decide) ?_
  refine mm_callV (pc := 45) (As := [_, _]) (kd := ?kd_45_14) (fs := ?fs_45_14) dX11_resolved_45 vl_X11_187 (ck_res (d := d + 1) (c0 := (ab k)) hE hC hk hq (kf_ab hE.1.1 hk)) ?hc_45_14 ?hk_45_14 rfl rfl (Nat.le_of_ble_eq_true rfl) ?_; (case hc_45_14 => exact cw_cell (f := 4) hC rfl rfl n4); (case hk_45_14 => rfl)
  rintro _ _ ⟨rfl, rfl⟩
  rw [hx]
  refine mm_astore (pc := 48) dX11_resolved_48 (by first | trivial | assumption | exact mm_isr_rf _) rfl (Nat.le_of_ble_eq_true rfl) ?_
  refine mm_aload (pc := 50) dX11_resolved_50 rfl (by first | trivial | assumption | exact mm_isr_rf _) ?_
  refine mm_ifnonnull (pc := 52) (tgt := 64) dX11_resolved_52 (by decide) (by first | trivial | assumption | exact mm_isr_rf _) (fun a52 c52 => ?_) (fun c52 => by cases c52)
  refine mm_aload (pc := 64) dX11_resolved_64 rfl (by first | trivial | assumption | exact mm_isr_rf _) ?_
  refine cw_grS (pc := 66) 1 (gb M x q) 0 hC (rfl) rfl (g1) dX11_resolved_66 fl_X11_184 rfl rfl rfl (g2) ?_
  refine cw_gi (pc := 69) 4 x 4 hC (rfl) rfl (g4) dX11_resolved_69 fl_X11_150 rfl rfl rfl ?_
  refine mm_iret (pc := 72) dX11_resolved_72 rfl ?_
  exact gP_ok hC (by rw [hrs, hx, g3]; rfl)

theorem rs_ok {G : mm_G} {L : Nat × Nat} {d : Nat} {h : mm_H} {h0 : mm_H} {ad : Nat → Nat → Nat} {C : cw_C} {M : mw_S} {ab : Nat → Option Nat} {nk np : Nat} {i q z : Int32} (hG : rlG ad C M ab nk np) (hC : cw ad h0 C h) : mm_Ok G mX11_resolved L (d + 3) [.ref (ad 11 0), .int i, .int q, .int z] h (fun r h1 => gP ad h0 C h (sp_resolved M ab i q z) r h1) := by
  by_cases hi : sp_in i (nI nk) = 0
  · exact rs_no hG hi hC
  · obtain ⟨k, hk, rfl⟩ := sp_in_of hi rfl (by have := hG.1.2.1.1; omega)
    by_cases hq : sp_in q 6 = 0
    · exact rs_nq hG hk hq hC
    · obtain ⟨qq, hqq, rfl⟩ := sp_in_of (n := 6) hq rfl (by decide)
      by_cases hz : z = 0
      · cases hx : rn_fnd M ab k qq (some k) with
        | none => exact rs_Tn hG hk hqq hz hx hC
        | some x => exact rs_Ts hG hk hqq hz hx hC
      · cases hx : rn_fnd M ab k qq (ab k) with
        | none => exact rs_Fn hG hk hqq hz hx hC
        | some x => exact rs_Fs hG hk hqq hz hx hC

