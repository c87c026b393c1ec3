theorem kfind_cg {ab : Nat → Option Nat} {P P' : Nat → Bool} {n : Nat} (hab : kf_ok ab n) (hn : n ≤ 63) (hP : ∀ x, x < n → P x = P' x) : ∀ (f : Nat) (c : Option Nat), kf_lt f c → kf_lt n c → kfind ab P c = kfind ab P' c := by
  intro f
  induction f with
  | zero =>
    intro c hf hc
    cases c with
    | none => rfl
    | some x => exact absurd hf (Nat.not_lt_zero x)
  | succ f ih =>
    intro c hf hc
    cases c with
    | none => rfl
    | some x =>
      have hx : x < n := hc
      rw [kfind_some hab hn hx, kfind_some hab hn hx, hP x hx]
      have hl : kf_lt f (ab x) := by
        cases z : ab x with
        | none => trivial
        | some y => have := hab x y hx z; have hf : x < f + 1 := hf; show y < f; omega
      rw [ih (ab x) hl (kf_ab hab hx)]
/-- the body that is chosen -/
noncomputable def cho (M : mw_S) (ab : Nat → Option Nat) (k q j : Nat) : Option Nat := kfind ab (fun x => Nat.beq x j || (rm_has M q x && ovB ab (rm_E M q) x j)) (some k)
theorem cho_sat {M : mw_S} {ab : Nat → Option Nat} {n k q j x : Nat} (hab : kf_ok ab n) (hn : n ≤ 63) (hk : k < n) (hj : rm_has M q j = true) (h : cho M ab k q j = some x) : x < n ∧ rm_has M q x = true ∧ Ae ab k j := by
  obtain ⟨a, b, c⟩ := Ae.at hab hn hk h
  refine ⟨c, ?_⟩
  rcases Bool.or_eq_true_iff.mp b with z | z
  · have e := Nat.eq_of_beq_eq_true z
    rw [e]; exact ⟨hj, by rw [e] at a; exact a⟩
  · obtain ⟨z1, z2⟩ := Bool.and_eq_true_iff.mp z
    exact ⟨z1, a.trans (Or.inr (ovB_iff.mp z2).an)⟩
theorem cho_hit {M : mw_S} {ab : Nat → Option Nat} {n k q j : Nat} (hab : kf_ok ab n) (hn : n ≤ 63) (hk : k < n) (h : Ae ab k j) : ∃ x, cho M ab k q j = some x := kfind_hit hab hn (by rw [Bool.or_eq_true_iff]; exact Or.inl (Nat.beq_refl j)) (k + 1) k (Nat.lt_succ_self k) hk h
theorem ck_cho {G : mm_G} {L : Nat × Nat} {d : Nat} {h h0 : mm_H} {ad : Nat → Nat → Nat} {C : cw_C} {M : mw_S} {ab : Nat → Option Nat} {n k q j : Nat} (hE : ckE ad C M ab n) (hC : cw ad h0 C h) (hk : k < n) (hq : q < 6) (hj : j < n) (hw : rm_has M q j = true) : mm_Ok G mX4_choose L (d + 2) [.ref (ad 4 k), .ref (ad 1 (gb M j q))] h (fun r h1 => h1 = h ∧ r = some (va_rf ((cho M ab k q j).map (fun x => ad 1 (gb M x q))))) := by
  have h63 : n ≤ 63 := by have := hE.1.2.1; omega
  refine mm_Ok.post (ok_X4_choose (T := xkT ad C M ab) (hE.xk hC) hk hq hj (show xbo ad M j q = _ from if_pos hw)) ?_
  rintro r h1 ⟨a, b⟩
  refine ⟨a, ?_⟩
  rw [b]
  have e : kfind ab (fun x => (xbO (xkT ad C M ab) x q).isSome && (Nat.beq x j || xb (xov (xkT ad C M ab) x q) j)) (some k) = cho M ab k q j := by
    refine kfind_cg hE.1.1 h63 (fun x hx => ?_) n (some k) hk hk
    show ((xbo ad M x q).isSome && (Nat.beq x j || xb (cL C 1 (gb M x q) 7) j)) = (Nat.beq x j || (rm_has M q x && ovB ab (rm_E M q) x j))
    rw [xbo_is]
    cases z : rm_has M q x with
    | true => rw [(hE.2.1 x hx).2 q hq z j (by omega), Bool.true_and, Bool.true_and]
    | false =>
      cases y : Nat.beq x j with
      | false => rfl
      | true => rw [Nat.eq_of_beq_eq_true y, hw] at z; cases z
  show some (va_rf ((kfind ab _ (some k)).bind (fun x => xbo ad M x q))) = _
  rw [e]
  congr 2
  cases z : cho M ab k q j with
  | none => rfl
  | some x =>
    show xbo ad M x q = _
    unfold xbo
    rw [if_pos (cho_sat hE.1.1 h63 hk hw z).2.1]
    rfl
theorem ka_any {G : mm_G} {L : Nat × Nat} {d : Nat} {h h0 : mm_H} {ad : Nat → Nat → Nat} {C : cw_C} {M : mw_S} {nk np : Nat} {i : Int32} (hR : rgR ad C M nk np) (hC : cw ad h0 C h) : mm_Ok G mX7_kindAt L d [.ref (ad 7 0), .int i] h (fun r h1 => h1 = h ∧ ∃ o : Option Nat, r = some (va_rf o)) := by
  by_cases hi : sp_in i (nI nk) = 0
  · exact mm_Ok.post (ka_no hR hi hC) (fun r h1 z => ⟨z.1, none, z.2⟩)
  · obtain ⟨k, hk, rfl⟩ := sp_in_of hi rfl (by have := hR.2.1.1; omega)
    exact mm_Ok.post (ka_in hR hk hC) (fun r h1 z => ⟨z.1, some (ad 4 k), z.2⟩)

theorem bd_no {G : mm_G} {L : Nat × Nat} {d : Nat} {h : mm_H} {h0 : mm_H} {ad : Nat → Nat → Nat} {C : cw_C} {M : mw_S} {ab : Nat → Option Nat} {nk np : Nat} {i q w : Int32} (hG : rlG ad C M ab nk np) (hi : sp_in i (nI nk) = 0) (hC : cw ad h0 C h) : mm_Ok G mX11_body L (d + 2) [.ref (ad 11 0), .int i, .int q, .int w] h (fun r h1 => gP ad h0 C h (sp_body M i q w) r h1) := by
  refine mm_Ok.of [(0, .ref (ad 11 0)), (1, .int i), (2, .int q), (3, .int w)] rfl kX11_body.2.2.2.2.2 rfl (fun A => ?_)
  obtain ⟨hR, hE, ⟨n11, n13⟩, f3, f9, s3, s19⟩ := id hG
  have n7 := hR.1.1
  have hk40 := hR.2.1.1
  refine mm_aload_n (pc := 0) dX11_body_0 rfl (by first | trivial | assumption | exact mm_isr_rf _) ?_
  refine cw_grS (pc := 1) 11 _ 3 hC (rfl) rfl (n11) dX11_body_1 fl_X11_23 rfl rfl rfl (f3) ?_
  refine mm_iload_n (pc := 4) dX11_body_4 rfl ?_
  refine mm_callV (pc := 5) (As := [_]) (kd := ?kd_5_1) (fs := ?fs_5_1) dX11_body_5 vl_X11_139 (ka_no hR hi hC) ?hc_5_1 ?hk_5_1 rfl rfl (Nat.le_of_ble_eq_true rfl) ?_; (case hc_5_1 => exact cw_cell (f := 7) hC rfl rfl n7); (case hk_5_1 => rfl)
  rintro _ _ ⟨rfl, rfl⟩
  refine mm_astore (pc := 8) dX11_body_8 (by first | trivial | assumption | exact mm_isr_rf _) rfl (Nat.le_of_ble_eq_true rfl) ?_
  refine mm_aload (pc := 10) dX11_body_10 rfl (by first | trivial | assumption | exact mm_isr_rf _) ?_
  refine mm_ifnull (pc := 12) (tgt := 31) dX11_body_12 (by decide) (by first | trivial | assumption | exact mm_isr_rf _) (fun c12 => ?_) (fun a12 c12 => by cases c12)
  refine mm_aload_n (pc := 31) dX11_body_31 rfl (by first | trivial | assumption | exact mm_isr_rf _) ?_
  refine mm_iconst (pc := 32) (v := (-1)) dX11_body_32 (by decide) ?_
  refine mm_callV (pc := 33) (As := [_]) (kd := ?kd_33_2) (fs := ?fs_33_2) dX11_body_33 vl_X11_96 (tl_ok (c := 1) n11 n13 f9 rfl (by decide) (by decide) hC) ?hc_33_2 ?hk_33_2 rfl rfl (Nat.le_of_ble_eq_true rfl) ?_; (case hc_33_2 => exact cw_cell (f := 11) hC rfl rfl n11); (case hk_33_2 => rfl)
  rintro _ h33 ⟨hC, e33, rfl⟩
  refine mm_iret (pc := 36) dX11_body_36 rfl ?_
  exact gP_no hC e33 (by unfold sp_body; rw [s3, if_pos hi]; rfl) (by decide)

theorem bd_nq {G : mm_G} {L : Nat × Nat} {d : Nat} {h : mm_H} {h0 : mm_H} {ad : Nat → Nat → Nat} {C : cw_C} {M : mw_S} {ab : Nat → Option Nat} {nk np : Nat} {q w : Int32} {k : Nat} (hG : rlG ad C M ab nk np) (hk : k < nk) (hq : sp_in q 6 = 0) (hC : cw ad h0 C h) : mm_Ok G mX11_body L (d + 2) [.ref (ad 11 0), .int (nI k), .int q, .int w] h (fun r h1 => gP ad h0 C h (sp_body M (nI k) q w) r h1) := by
  refine mm_Ok.of [(0, .ref (ad 11 0)), (1, .int (nI k)), (2, .int q), (3, .int w)] rfl kX11_body.2.2.2.2.2 rfl (fun A => ?_)
  obtain ⟨hR, hE, ⟨n11, n13⟩, f3, f9, s3, s19⟩ := id hG
  have n7 := hR.1.1
  have hk40 := hR.2.1.1
  have hin : ¬ sp_in (nI k) (M.1 3) = 0 := by rw [s3]; exact sp_in_k hk (by omega)
  have n4 : k < cN C 4 := by have := hR.1.2.2.2.1; omega
  have ek : (nI k).toNatClampNeg = k := nI_clamp (by omega)
  have habk : cR C 4 k 5 = (ab k).map (ad 4) := (hE.2.1 k hk).1.2.2.1
  refine mm_aload_n (pc := 0) dX11_body_0 rfl (by first | trivial | assumption | exact mm_isr_rf _) ?_
  refine cw_grS (pc := 1) 11 _ 3 hC (rfl) rfl (n11) dX11_body_1 fl_X11_23 rfl rfl rfl (f3) ?_
  refine mm_iload_n (pc := 4) dX11_body_4 rfl ?_
  refine mm_callV (pc := 5) (As := [_]) (kd := ?kd_5_3) (fs := ?fs_5_3) dX11_body_5 vl_X11_139 (ka_in (k := k) hR hk hC) ?hc_5_3 ?hk_5_3 rfl rfl (Nat.le_of_ble_eq_true rfl) ?_; (case hc_5_3 => exact cw_cell (f := 7) hC rfl rfl n7); (case hk_5_3 => rfl)
  rintro _ _ ⟨rfl, rfl⟩
  refine mm_astore (pc := 8) dX11_body_8 (by first | trivial | assumption | exact mm_isr_rf _) rfl (Nat.le_of_ble_eq_true rfl) ?_
  refine mm_aload (pc := 10) dX11_body_10 rfl (by first | trivial | assumption | exact mm_isr_rf _) ?_
  refine mm_ifnull (pc := 12) (tgt := 31) dX11_body_12 (by decide) (by first | trivial | assumption | exact mm_isr_rf _) (fun c12 => by cases c12) (fun a12 c12 => ?_)
  refine mm_iload_n (pc := 15) dX11_body_15 rfl ?_
  refine mm_callS (pc := 16) (As := [_]) dX11_body_16 sl_X11_163 (ok_X11_isHook) rfl rfl (Nat.le_of_ble_eq_true rfl) ?_
  rintro _ _ ⟨rfl, rfl⟩
  refine mm_if_eq (pc := 19) (tgt := 31) dX11_body_19 (by decide) (fun c19 => ?_) (fun c19 => absurd hq c19)
  refine mm_aload_n (pc := 31) dX11_body_31 rfl (by first | trivial | assumption | exact mm_isr_rf _) ?_
  refine mm_iconst (pc := 32) (v := (-1)) dX11_body_32 (by decide) ?_
  refine mm_callV (pc := 33) (As := [_]) (kd := ?kd_33_4) (fs := ?fs_33_4) dX11_body_33 vl_X11_96 (tl_ok (c := 1) n11 n13 f9 rfl (by decide) (by decide) hC) ?hc_33_4 ?hk_33_4 rfl rfl (Nat.le_of_ble_eq_true rfl) ?_; (case hc_33_4 => exact cw_cell (f := 11) hC rfl rfl n11); (case hk_33_4 => rfl)
  rintro _ h33 ⟨hC, e33, rfl⟩
  refine mm_iret (pc := 36) dX11_body_36 rfl ?_
  exact gP_no hC e33 (by unfold sp_body; rw [if_neg hin, if_pos hq]; rfl) (by decide)

theorem bd_lo {G : mm_G} {L : Nat × Nat} {d : Nat} {h : mm_H} {h0 : mm_H} {ad : Nat → Nat → Nat} {C : cw_C} {M : mw_S} {ab : Nat → Option Nat} {nk np : Nat} {w : Int32} {k q : Nat} (hG : rlG ad C M ab nk np) (hk : k < nk) (hq : q < 6) (hw : w < 0) (hC : cw ad h0 C h) : mm_Ok G mX11_body L (d + 2) [.ref (ad 11 0), .int (nI k), .int (nI q), .int w] h (fun r h1 => gP ad h0 C h (sp_body M (nI k) (nI q) w) r h1) := by
  refine mm_Ok.of [(0, .ref (ad 11 0)), (1, .int (nI k)), (2, .int (nI q)), (3, .int w)] rfl kX11_body.2.2.2.2.2 rfl (fun A => ?_)
  obtain ⟨hR, hE, ⟨n11, n13⟩, f3, f9, s3, s19⟩ := id hG
  have n7 := hR.1.1
  have hk40 := hR.2.1.1
  have hin : ¬ sp_in (nI k) (M.1 3) = 0 := by rw [s3]; exact sp_in_k hk (by omega)
  have n4 : k < cN C 4 := by have := hR.1.2.2.2.1; omega
  have ek : (nI k).toNatClampNeg = k := nI_clamp (by omega)
  have habk : cR C 4 k 5 = (ab k).map (ad 4) := (hE.2.1 k hk).1.2.2.1
  have hq6 : ¬ sp_in (nI q) 6 = 0 := sp_in_k (n := 6) hq (by decide)
  have eq_ : (nI q).toNatClampNeg = q := nI_clamp (by omega)
  refine mm_aload_n (pc := 0) dX11_body_0 rfl (by first | trivial | assumption | exact mm_isr_rf _) ?_
  refine cw_grS (pc := 1) 11 _ 3 hC (rfl) rfl (n11) dX11_body_1 fl_X11_23 rfl rfl rfl (f3) ?_
  refine mm_iload_n (pc := 4) dX11_body_4 rfl ?_
  refine mm_callV (pc := 5) (As := [_]) (kd := ?kd_5_5) (fs := ?fs_5_5) dX11_body_5 vl_X11_139 (ka_in (k := k) hR hk hC) ?hc_5_5 ?hk_5_5 rfl rfl (Nat.le_of_ble_eq_true rfl) ?_; (case hc_5_5 => exact cw_cell (f := 7) hC rfl rfl n7); (case hk_5_5 => rfl)
  rintro _ _ ⟨rfl, rfl⟩
  refine mm_astore (pc := 8) dX11_body_8 (by first | trivial | assumption | exact mm_isr_rf _) rfl (Nat.le_of_ble_eq_true rfl) ?_
  refine mm_aload (pc := 10) dX11_body_10 rfl (by first | trivial | assumption | exact mm_isr_rf _) ?_
  refine mm_ifnull (pc := 12) (tgt := 31) dX11_body_12 (by decide) (by first | trivial | assumption | exact mm_isr_rf _) (fun c12 => by cases c12) (fun a12 c12 => ?_)
  refine mm_iload_n (pc := 15) dX11_body_15 rfl ?_
  refine mm_callS (pc := 16) (As := [_]) dX11_body_16 sl_X11_163 (ok_X11_isHook) rfl rfl (Nat.le_of_ble_eq_true rfl) ?_
  rintro _ _ ⟨rfl, rfl⟩
  refine mm_if_eq (pc := 19) (tgt := 31) dX11_body_19 (by decide) (fun c19 => absurd c19 hq6) (fun c19 => ?_)
  refine mm_iload_n (pc := 22) dX11_body_22 rfl ?_
  refine mm_if_lt (pc := 23) (tgt := 31) dX11_body_23 (by decide) (fun c23 => ?_) (fun c23 => absurd hw c23)
  refine mm_aload_n (pc := 31) dX11_body_31 rfl (by first | trivial | assumption | exact mm_isr_rf _) ?_
  refine mm_iconst (pc := 32) (v := (-1)) dX11_body_32 (by decide) ?_
  refine mm_callV (pc := 33) (As := [_]) (kd := ?kd_33_6) (fs := ?fs_33_6) dX11_body_33 vl_X11_96 (tl_ok (c := 1) n11 n13 f9 rfl (by decide) (by decide) hC) ?hc_33_6 ?hk_33_6 rfl rfl (Nat.le_of_ble_eq_true rfl) ?_; (case hc_33_6 => exact cw_cell (f := 11) hC rfl rfl n11); (case hk_33_6 => rfl)
  rintro _ h33 ⟨hC, e33, rfl⟩
  refine mm_iret (pc := 36) dX11_body_36 rfl ?_
  exact gP_no hC e33 (by unfold sp_body; rw [if_neg hin, if_neg hq6, if_pos hw]; rfl) (by decide)

theorem bd_hi {G : mm_G} {L : Nat × Nat} {d : Nat} {h : mm_H} {h0 : mm_H} {ad : Nat → Nat → Nat} {C : cw_C} {M : mw_S} {ab : Nat → Option Nat} {nk np : Nat} {w : Int32} {k q : Nat} (hG : rlG ad C M ab nk np) (hk : k < nk) (hq : q < 6) (hw : ¬ w < 0) (hv : ¬ w ≤ 2) (hC : cw ad h0 C h) : mm_Ok G mX11_body L (d + 2) [.ref (ad 11 0), .int (nI k), .int (nI q), .int w] h (fun r h1 => gP ad h0 C h (sp_body M (nI k) (nI q) w) r h1) := by
  refine mm_Ok.of [(0, .ref (ad 11 0)), (1, .int (nI k)), (2, .int (nI q)), (3, .int w)] rfl kX11_body.2.2.2.2.2 rfl (fun A => ?_)
  obtain ⟨hR, hE, ⟨n11, n13⟩, f3, f9, s3, s19⟩ := id hG
  have n7 := hR.1.1
  have hk40 := hR.2.1.1
  have hin : ¬ sp_in (nI k) (M.1 3) = 0 := by rw [s3]; exact sp_in_k hk (by omega)
  have n4 : k < cN C 4 := by have := hR.1.2.2.2.1; omega
  have ek : (nI k).toNatClampNeg = k := nI_clamp (by omega)
  have habk : cR C 4 k 5 = (ab k).map (ad 4) := (hE.2.1 k hk).1.2.2.1
  have hq6 : ¬ sp_in (nI q) 6 = 0 := sp_in_k (n := 6) hq (by decide)
  have eq_ : (nI q).toNatClampNeg = q := nI_clamp (by omega)
  refine mm_aload_n (pc := 0) dX11_body_0 rfl (by first | trivial | assumption | exact mm_isr_rf _) ?_
  refine cw_grS (pc := 1) 11 _ 3 hC (rfl) rfl (n11) dX11_body_1 fl_X11_23 rfl rfl rfl (f3) ?_
  refine mm_iload_n (pc := 4) dX11_body_4 rfl ?_
  refine mm_callV (pc := 5) (As := [_]) (kd := ?kd_5_7) (fs := ?fs_5_7) dX11_body_5 vl_X11_139 (ka_in (k := k) hR hk hC) ?hc_5_7 ?hk_5_7 rfl rfl (Nat.le_of_ble_eq_true rfl) ?_; (case hc_5_7 => exact cw_cell (f := 7) hC rfl rfl n7); (case hk_5_7 => rfl)
  rintro _ _ ⟨rfl, rfl⟩
  refine mm_astore (pc := 8) dX11_body_8 (by first | trivial | assumption | exact mm_isr_rf _) rfl (Nat.le_of_ble_eq_true rfl) ?_
  refine mm_aload (pc := 10) dX11_body_10 rfl (by first | trivial | assumption | exact mm_isr_rf _) ?_
  refine mm_ifnull (pc := 12) (tgt := 31) dX11_body_12 (by decide) (by first | trivial | assumption | exact mm_isr_rf _) (fun c12 => by cases c12) (fun a12 c12 => ?_)
  refine mm_iload_n (pc := 15) dX11_body_15 rfl ?_
  refine mm_callS (pc := 16) (As := [_]) dX11_body_16 sl_X11_163 (ok_X11_isHook) rfl rfl (Nat.le_of_ble_eq_true rfl) ?_
  rintro _ _ ⟨rfl, rfl⟩
  refine mm_if_eq (pc := 19) (tgt := 31) dX11_body_19 (by decide) (fun c19 => absurd c19 hq6) (fun c19 => ?_)
  refine mm_iload_n (pc := 22) dX11_body_22 rfl ?_
  refine mm_if_lt (pc := 23) (tgt := 31) dX11_body_23 (by decide) (fun c23 => absurd c23 hw) (fun c23 => ?_)
  refine mm_iload_n (pc := 26) dX11_body_26 rfl ?_
  refine mm_iconst (pc := 27) (v := 2) dX11_body_27 (by decide) ?_
  refine mm_icmp_le (pc := 28) (tgt := 37) dX11_body_28 (by decide) (fun c28 => absurd c28 hv) (fun c28 => ?_)
  refine mm_aload_n (pc := 31) dX11_body_31 rfl (by first | trivial | assumption | exact mm_isr_rf _) ?_
  refine mm_iconst (pc := 32) (v := (-1)) dX11_body_32 (by decide) ?_
  refine mm_callV (pc := 33) (As := [_]) (kd := ?kd_33_8) (fs := ?fs_33_8) dX11_body_33 vl_X11_96 (tl_ok (c := 1) n11 n13 f9 rfl (by decide) (by decide) hC) ?hc_33_8 ?hk_33_8 rfl rfl (Nat.le_of_ble_eq_true rfl) ?_; (case hc_33_8 => exact cw_cell (f := 11) hC rfl rfl n11); (case hk_33_8 => rfl)
  rintro _ h33 ⟨hC, e33, rfl⟩
  refine mm_iret (pc := 36) dX11_body_36 rfl ?_
  exact gP_no hC e33 (by unfold sp_body; rw [if_neg hin, if_neg hq6, if_neg hw, if_neg hv]; rfl) (by decide)

theorem bd_n {G : mm_G} {L : Nat × Nat} {d : Nat} {h : mm_H} {h0 : mm_H} {ad : Nat → Nat → Nat} {C : cw_C} {M : mw_S} {ab : Nat → Option Nat} {nk np : Nat} {w : Int32} {k q : Nat} (hG : rlG ad C M ab nk np) (hk : k < nk) (hq : q < 6) (hw : ¬ w < 0) (hv : w ≤ 2) (hhk : rm_has M q k = false) (hC : cw ad h0 C h) : mm_Ok G mX11_body L (d + 2) [.ref (ad 11 0), .int (nI k), .int (nI q), .int w] h (fun r h1 => gP ad h0 C h (sp_body M (nI k) (nI q) w) r h1) := by
  refine mm_Ok.of [(0, .ref (ad 11 0)), (1, .int (nI k)), (2, .int (nI q)), (3, .int w)] rfl kX11_body.2.2.2.2.2 rfl (fun A => ?_)
  obtain ⟨hR, hE, ⟨n11, n13⟩, f3, f9, s3, s19⟩ := id hG
  have n7 := hR.1.1
  have hk40 := hR.2.1.1
  have hin : ¬ sp_in (nI k) (M.1 3) = 0 := by rw [s3]; exact sp_in_k hk (by omega)
  have n4 : k < cN C 4 := by have := hR.1.2.2.2.1; omega
  have ek : (nI k).toNatClampNeg = k := nI_clamp (by omega)
  have habk : cR C 4 k 5 = (ab k).map (ad 4) := (hE.2.1 k hk).1.2.2.1
  have hq6 : ¬ sp_in (nI q) 6 = 0 := sp_in_k (n := 6) hq (by decide)
  have eq_ : (nI q).toNatClampNeg = q := nI_clamp (by omega)
  refine mm_aload_n (pc := 0) dX11_body_0 rfl (by first | trivial | assumption | exact mm_isr_rf _) ?_
  refine cw_grS (pc := 1) 11 _ 3 hC (rfl) rfl (n11) dX11_body_1 fl_X11_23 rfl rfl rfl (f3) ?_
  refine mm_iload_n (pc := 4) dX11_body_4 rfl ?_
  refine mm_callV (pc := 5) (As := [_]) (kd := ?kd_5_9) (fs := ?fs_5_9) dX11_body_5 vl_X11_139 (ka_in (k := k) hR hk hC) ?hc_5_9 ?hk_5_9 rfl rfl (Nat.le_of_ble_eq_true rfl) ?_; (case hc_5_9 => exact cw_cell (f := 7) hC rfl rfl n7); (case hk_5_9 => rfl)
  rintro _ _ ⟨rfl, rfl⟩
  refine mm_astore (pc := 8) dX11_body_8 (by first | trivial | assumption | exact mm_isr_rf _) rfl (Nat.le_of_ble_eq_true rfl) ?_
  refine mm_aload (pc := 10) dX11_body_10 rfl (by first | trivial | assumption | exact mm_isr_rf _) ?_
  refine mm_ifnull (pc := 12) (tgt := 31) dX11_body_12 (by decide) (by first | trivial | assumption | exact mm_isr_rf _) (fun c12 => by cases c12) (fun a12 c12 => ?_)
  refine mm_iload_n (pc := 15) dX11_body_15 rfl ?_
  refine mm_callS (pc := 16) (As := [_]) dX11_body_16 sl_X11_163 (ok_X11_isHook) rfl rfl (Nat.le_of_ble_eq_true rfl) ?_
  rintro _ _ ⟨rfl, rfl⟩
  refine mm_if_eq (pc := 19) (tgt := 31) dX11_body_19 (by decide) (fun c19 => absurd c19 hq6) (fun c19 => ?_)
  refine mm_iload_n (pc := 22) dX11_body_22 rfl ?_
  refine mm_if_lt (pc := 23) (tgt := 31) dX11_body_23 (by decide) (fun c23 => absurd c23 hw) (fun c23 => ?_)
  refine mm_iload_n (pc := 26) dX11_body_26 rfl ?_
  refine mm_iconst (pc := 27) (v := 2) dX11_body_27 (by decide) ?_
  refine mm_icmp_le (pc := 28) (tgt := 37) dX11_body_28 (by decide) (fun c28 => ?_) (fun c28 => absurd hv c28)
  refine mm_aload (pc := 37) dX11_body_37 rfl (by first | trivial | assumption | exact mm_isr_rf _) ?_
  refine mm_iload_n (pc := 39) dX11_body_39 rfl ?_
  refine mm_callV (pc := 40) (As := [_]) (kd := ?kd_40_10) (fs := ?fs_40_10) dX11_body_40 vl_X11_80 (ck_bo hE hC hk hq) ?hc_40_10 ?hk_40_10 rfl rfl (Nat.le_of_ble_eq_true rfl) ?_; (case hc_40_10 => exact cw_cell (f := 4) hC rfl rfl n4); (case hk_40_10 => rfl)
  rintro _ _ ⟨rfl, rfl⟩
  rw [show xbo ad M k q = none from if_neg (by rw [hhk]; decide)]
  refine mm_astore (pc := 43) dX11_body_43 (by first | trivial | assumption | exact mm_isr_rf _) rfl (Nat.le_of_ble_eq_true rfl) ?_
  refine mm_aload (pc := 45) dX11_body_45 rfl (by first | trivial | assumption | exact mm_isr_rf _) ?_
  refine mm_ifnonnull (pc := 47) (tgt := 57) dX11_body_47 (by decide) (by first | trivial | assumption | exact mm_isr_rf _) (fun a47 c47 => by cases c47) (fun c47 => ?_)
  refine mm_aload_n (pc := 50) dX11_body_50 rfl (by first | trivial | assumption | exact mm_isr_rf _) ?_
  refine mm_bipush (pc := 51) (v := (-2)) dX11_body_51 (by decide) ?_
  refine mm_callV (pc := 53) (As := [_]) (kd := ?kd_53_11) (fs := ?fs_53_11) dX11_body_53 vl_X11_96 (tl_ok (c := 2) n11 n13 f9 rfl (by decide) (by decide) hC) ?hc_53_11 ?hk_53_11 rfl rfl (Nat.le_of_ble_eq_true rfl) ?_; (case hc_53_11 => exact cw_cell (f := 11) hC rfl rfl n11); (case hk_53_11 => rfl)
  rintro _ h53 ⟨hC, e53, rfl⟩
  refine mm_iret (pc := 56) dX11_body_56 rfl ?_
  exact gP_no hC e53 (by unfold sp_body; rw [if_neg hin, if_neg hq6, if_neg hw, if_pos hv, ek, eq_, hhk]; rfl) (by decide)

theorem bd_0 {G : mm_G} {L : Nat × Nat} {d : Nat} {h : mm_H} {h0 : mm_H} {ad : Nat → Nat → Nat} {C : cw_C} {M : mw_S} {ab : Nat → Option Nat} {nk np : Nat} {w : Int32} {k q : Nat} (hG : rlG ad C M ab nk np) (hk : k < nk) (hq : q < 6) (hw : ¬ w < 0) (hv : w ≤ 2) (hhk : rm_has M q k = true) (h0_ : w = 0) (hC : cw ad h0 C h) : mm_Ok G mX11_body L (d + 2) [.ref (ad 11 0), .int (nI k), .int (nI q), .int w] h (fun r h1 => gP ad h0 C h (sp_body M (nI k) (nI q) w) r h1) := by
  refine mm_Ok.of [(0, .ref (ad 11 0)), (1, .int (nI k)), (2, .int (nI q)), (3, .int w)] rfl kX11_body.2.2.2.2.2 rfl (fun A => ?_)
  obtain ⟨hR, hE, ⟨n11, n13⟩, f3, f9, s3, s19⟩ := id hG
  have n7 := hR.1.1
  have hk40 := hR.2.1.1
  have hin : ¬ sp_in (nI k) (M.1 3) = 0 := by rw [s3]; exact sp_in_k hk (by omega)
  have n4 : k < cN C 4 := by have := hR.1.2.2.2.1; omega
  have ek : (nI k).toNatClampNeg = k := nI_clamp (by omega)
  have habk : cR C 4 k 5 = (ab k).map (ad 4) := (hE.2.1 k hk).1.2.2.1
  have hq6 : ¬ sp_in (nI q) 6 = 0 := sp_in_k (n := 6) hq (by decide)
  have eq_ : (nI q).toNatClampNeg = q := nI_clamp (by omega)
  obtain ⟨g1, g2, g3, g4, b2, b3, b6, -⟩ := fnd_body hE hk hq hhk
  have hsp : sp_body M (nI k) (nI q) w = if w = 0 then (M.2.2.1 9 (6 * k + q), 0) else if w = 1 then (if M.2.2.1 10 (6 * k + q) = 0 then (0, 0) else (1, 0)) else (M.2.2.1 12 (6 * k + q), 0) := by unfold sp_body; rw [if_neg hin, if_neg hq6, if_neg hw, if_pos hv, ek, eq_, hhk]; rfl
  refine mm_aload_n (pc := 0) dX11_body_0 rfl (by first | trivial | assumption | exact mm_isr_rf _) ?_
  refine cw_grS (pc := 1) 11 _ 3 hC (rfl) rfl (n11) dX11_body_1 fl_X11_23 rfl rfl rfl (f3) ?_
  refine mm_iload_n (pc := 4) dX11_body_4 rfl ?_
  refine mm_callV (pc := 5) (As := [_]) (kd := ?kd_5_12) (fs := ?fs_5_12) dX11_body_5 vl_X11_139 (ka_in (k := k) hR hk hC) ?hc_5_12 ?hk_5_12 rfl rfl (Nat.le_of_ble_eq_true rfl) ?_; (case hc_5_12 => exact cw_cell (f := 7) hC rfl rfl n7); (case hk_5_12 => rfl)
  rintro _ _ ⟨rfl, rfl⟩
  refine mm_astore (pc := 8) dX11_body_8 (by first | trivial | assumption | exact mm_isr_rf _) rfl (Nat.le_of_ble_eq_true rfl) ?_
  refine mm_aload (pc := 10) dX11_body_10 rfl (by first | trivial | assumption | exact mm_isr_rf _) ?_
  refine mm_ifnull (pc := 12) (tgt := 31) dX11_body_12 (by decide) (by first | trivial | assumption | exact mm_isr_rf _) (fun c12 => by cases c12) (fun a12 c12 => ?_)
  refine mm_iload_n (pc := 15) dX11_body_15 rfl ?_
  refine mm_callS (pc := 16) (As := [_]) dX11_body_16 sl_X11_163 (ok_X11_isHook) rfl rfl (Nat.le_of_ble_eq_true rfl) ?_
  rintro _ _ ⟨rfl, rfl⟩
  refine mm_if_eq (pc := 19) (tgt := 31) dX11_body_19 (by decide) (fun c19 => absurd c19 hq6) (fun c19 => ?_)
  refine mm_iload_n (pc := 22) dX11_body_22 rfl ?_
  refine mm_if_lt (pc := 23) (tgt := 31) dX11_body_23 (by decide) (fun c23 => absurd c23 hw) (fun c23 => ?_)
  refine mm_iload_n (pc := 26) dX11_body_26 rfl ?_
  refine mm_iconst (pc := 27) (v := 2) dX11_body_27 (by decide) ?_
  refine mm_icmp_le (pc := 28) (tgt := 37) dX11_body_28 (by decide) (fun c28 => ?_) (fun c28 => absurd hv c28)
  refine mm_aload (pc := 37) dX11_body_37 rfl (by first | trivial | assumption | exact mm_isr_rf _) ?_
  refine mm_iload_n (pc := 39) dX11_body_39 rfl ?_
  refine mm_callV (pc := 40) (As := [_]) (kd := ?kd_40_13) (fs := ?fs_40_13) dX11_body_40 vl_X11_80 (ck_bo hE hC hk hq) ?hc_40_13 ?hk_40_13 rfl rfl (Nat.le_of_ble_eq_true rfl) ?_; (case hc_40_13 => exact cw_cell (f := 4) hC rfl rfl n4); (case hk_40_13 => rfl)
  rintro _ _ ⟨rfl, rfl⟩
  rw [show xbo ad M k q = some (ad 1 (gb M k q)) from if_pos hhk]
  refine mm_astore (pc := 43) dX11_body_43 (by first | trivial | assumption | exact mm_isr_rf _) rfl (Nat.le_of_ble_eq_true rfl) ?_
  refine mm_aload (pc := 45) dX11_body_45 rfl (by first | trivial | assumption | exact mm_isr_rf _) ?_
  refine mm_ifnonnull (pc := 47) (tgt := 57) dX11_body_47 (by decide) (by first | trivial | assumption | exact mm_isr_rf _) (fun a47 c47 => ?_) (fun c47 => by cases c47)
  refine mm_iload_n (pc := 57) dX11_body_57 rfl ?_
  refine mm_if_ne (pc := 58) (tgt := 67) dX11_body_58 (by decide) (fun c58 => absurd h0_ c58) (fun c58 => ?_)
  refine mm_aload (pc := 61) dX11_body_61 rfl (by first | trivial | assumption | exact mm_isr_rf _) ?_
  refine cw_gi (pc := 63) 1 (gb M k q) 2 hC (rfl) rfl (g1) dX11_body_63 fl_X11_167 rfl rfl rfl ?_
  refine mm_iret (pc := 66) dX11_body_66 rfl ?_
  exact gP_ok hC (by rw [hsp, if_pos h0_, b2])

theorem bd_1 {G : mm_G} {L : Nat × Nat} {d : Nat} {h : mm_H} {h0 : mm_H} {ad : Nat → Nat → Nat} {C : cw_C} {M : mw_S} {ab : Nat → Option Nat} {nk np : Nat} {w : Int32} {k q : Nat} (hG : rlG ad C M ab nk np) (hk : k < nk) (hq : q < 6) (hw : ¬ w < 0) (hv : w ≤ 2) (hhk : rm_has M q k = true) (h0_ : ¬ w = 0) (h1_ : w = 1) (hC : cw ad h0 C h) : mm_Ok G mX11_body L (d + 2) [.ref (ad 11 0), .int (nI k), .int (nI q), .int w] h (fun r h1 => gP ad h0 C h (sp_body M (nI k) (nI q) w) r h1) := by
  refine mm_Ok.of [(0, .ref (ad 11 0)), (1, .int (nI k)), (2, .int (nI q)), (3, .int w)] rfl kX11_body.2.2.2.2.2 rfl (fun A => ?_)
  obtain ⟨hR, hE, ⟨n11, n13⟩, f3, f9, s3, s19⟩ := id hG
  have n7 := hR.1.1
  have hk40 := hR.2.1.1
  have hin : ¬ sp_in (nI k) (M.1 3) = 0 := by rw [s3]; exact sp_in_k hk (by omega)
  have n4 : k < cN C 4 := by have := hR.1.2.2.2.1; omega
  have ek : (nI k).toNatClampNeg = k := nI_clamp (by omega)
  have habk : cR C 4 k 5 = (ab k).map (ad 4) := (hE.2.1 k hk).1.2.2.1
  have hq6 : ¬ sp_in (nI q) 6 = 0 := sp_in_k (n := 6) hq (by decide)
  have eq_ : (nI q).toNatClampNeg = q := nI_clamp (by omega)
  obtain ⟨g1, g2, g3, g4, b2, b3, b6, -⟩ := fnd_body hE hk hq hhk
  have hsp : sp_body M (nI k) (nI q) w = if w = 0 then (M.2.2.1 9 (6 * k + q), 0) else if w = 1 then (if M.2.2.1 10 (6 * k + q) = 0 then (0, 0) else (1, 0)) else (M.2.2.1 12 (6 * k + q), 0) := by unfold sp_body; rw [if_neg hin, if_neg hq6, if_neg hw, if_pos hv, ek, eq_, hhk]; rfl
  refine mm_aload_n (pc := 0) dX11_body_0 rfl (by first | trivial | assumption | exact mm_isr_rf _) ?_
  refine cw_grS (pc := 1) 11 _ 3 hC (rfl) rfl (n11) dX11_body_1 fl_X11_23 rfl rfl rfl (f3) ?_
  refine mm_iload_n (pc := 4) dX11_body_4 rfl ?_
  refine mm_callV (pc := 5) (As := [_]) (kd := ?kd_5_14) (fs := ?fs_5_14) dX11_body_5 vl_X11_139 (ka_in (k := k) hR hk hC) ?hc_5_14 ?hk_5_14 rfl rfl (Nat.le_of_ble_eq_true rfl) ?_; (case hc_5_14 => exact cw_cell (f := 7) hC rfl rfl n7); (case hk_5_14 => rfl)
  rintro _ _ ⟨rfl, rfl⟩
  refine mm_astore (pc := 8) dX11_body_8 (by first | trivial | assumption | exact mm_isr_rf _) rfl (Nat.le_of_ble_eq_true rfl) ?_
  refine mm_aload (pc := 10) dX11_body_10 rfl (by first | trivial | assumption | exact mm_isr_rf _) ?_
  refine mm_ifnull (pc := 12) (tgt := 31) dX11_body_12 (by decide) (by first | trivial | assumption | exact mm_isr_rf _) (fun c12 => by cases c12) (fun a12 c12 => ?_)
  refine mm_iload_n (pc := 15) dX11_body_15 rfl ?_
  refine mm_callS (pc := 16) (As := [_]) dX11_body_16 sl_X11_163 (ok_X11_isHook) rfl rfl (Nat.le_of_ble_eq_true rfl) ?_
  rintro _ _ ⟨rfl, rfl⟩
  refine mm_if_eq (pc := 19) (tgt := 31) dX11_body_19 (by decide) (fun c19 => absurd c19 hq6) (fun c19 => ?_)
  refine mm_iload_n (pc := 22) dX11_body_22 rfl ?_
  refine mm_if_lt (pc := 23) (tgt := 31) dX11_body_23 (by decide) (fun c23 => absurd c23 hw) (fun c23 => ?_)
  refine mm_iload_n (pc := 26) dX11_body_26 rfl ?_
  refine mm_iconst (pc := 27) (v := 2) dX11_body_27 (by decide) ?_
  refine mm_icmp_le (pc := 28) (tgt := 37) dX11_body_28 (by decide) (fun c28 => ?_) (fun c28 => absurd hv c28)
  refine mm_aload (pc := 37) dX11_body_37 rfl (by first | trivial | assumption | exact mm_isr_rf _) ?_
  refine mm_iload_n (pc := 39) dX11_body_39 rfl ?_
  refine mm_callV (pc := 40) (As := [_]) (kd := ?kd_40_15) (fs := ?fs_40_15) dX11_body_40 vl_X11_80 (ck_bo hE hC hk hq) ?hc_40_15 ?hk_40_15 rfl rfl (Nat.le_of_ble_eq_true rfl) ?_; (case hc_40_15 => exact cw_cell (f := 4) hC rfl rfl n4); (case hk_40_15 => rfl)
  rintro _ _ ⟨rfl, rfl⟩
  rw [show xbo ad M k q = some (ad 1 (gb M k q)) from if_pos hhk]
  refine mm_astore (pc := 43) dX11_body_43 (by first | trivial | assumption | exact mm_isr_rf _) rfl (Nat.le_of_ble_eq_true rfl) ?_
  refine mm_aload (pc := 45) dX11_body_45 rfl (by first | trivial | assumption | exact mm_isr_rf _) ?_
  refine mm_ifnonnull (pc := 47) (tgt := 57) dX11_body_47 (by decide) (by first | trivial | assumption | exact mm_isr_rf _) (fun a47 c47 => ?_) (fun c47 => by cases c47)
  refine mm_iload_n (pc := 57) dX11_body_57 rfl ?_
  refine mm_if_ne (pc := 58) (tgt := 67) dX11_body_58 (by decide) (fun c58 => ?_) (fun c58 => absurd c58 h0_)
  refine mm_iload_n (pc := 67) dX11_body_67 rfl ?_
  refine mm_iconst (pc := 68) (v := 1) dX11_body_68 (by decide) ?_
  refine mm_icmp_ne (pc := 69) (tgt := 86) dX11_body_69 (by decide) (fun c69 => absurd h1_ c69) (fun c69 => ?_)
  refine mm_aload (pc := 72) dX11_body_72 rfl (by first | trivial | assumption | exact mm_isr_rf _) ?_
  refine cw_gi (pc := 74) 1 (gb M k q) 3 hC (rfl) rfl (g1) dX11_body_74 fl_X11_170 rfl rfl rfl ?_
  refine mm_if_eq (pc := 77) (tgt := 84) dX11_body_77 (by decide) (fun c77 => ?_) (fun c77 => ?_)
  · refine mm_iconst (pc := 84) (v := 0) dX11_body_84 (by decide) ?_
    refine mm_iret (pc := 85) dX11_body_85 rfl ?_
    first | exact gP_ok hC (by rw [hsp, if_neg h0_, if_pos h1_, ← b3, if_pos c77]) | exact gP_ok hC (by rw [hsp, if_neg h0_, if_pos h1_, ← b3, if_neg c77])
  · refine mm_iconst (pc := 80) (v := 1) dX11_body_80 (by decide) ?_
    refine mm_goto (pc := 81) (tgt := 85) dX11_body_81 (by decide) ?_
    refine mm_iret (pc := 85) dX11_body_85 rfl ?_
    first | exact gP_ok hC (by rw [hsp, if_neg h0_, if_pos h1_, ← b3, if_pos c77]) | exact gP_ok hC (by rw [hsp, if_neg h0_, if_pos h1_, ← b3, if_neg c77])

theorem bd_2 {G : mm_G} {L : Nat × Nat} {d : Nat} {h : mm_H} {h0 : mm_H} {ad : Nat → Nat → Nat} {C : cw_C} {M : mw_S} {ab : Nat → Option Nat} {nk np : Nat} {w : Int32} {k q : Nat} (hG : rlG ad C M ab nk np) (hk : k < nk) (hq : q < 6) (hw : ¬ w < 0) (hv : w ≤ 2) (hhk : rm_has M q k = true) (h0_ : ¬ w = 0) (h1_ : ¬ w = 1) (hC : cw ad h0 C h) : mm_Ok G mX11_body L (d + 2) [.ref (ad 11 0), .int (nI k), .int (nI q), .int w] h (fun r h1 => gP ad h0 C h (sp_body M (nI k) (nI q) w) r h1) := by
  refine mm_Ok.of [(0, .ref (ad 11 0)), (1, .int (nI k)), (2, .int (nI q)), (3, .int w)] rfl kX11_body.2.2.2.2.2 rfl (fun A => ?_)
  obtain ⟨hR, hE, ⟨n11, n13⟩, f3, f9, s3, s19⟩ := id hG
  have n7 := hR.1.1
  have hk40 := hR.2.1.1
  have hin : ¬ sp_in (nI k) (M.1 3) = 0 := by rw [s3]; exact sp_in_k hk (by omega)
  have n4 : k < cN C 4 := by have := hR.1.2.2.2.1; omega
  have ek : (nI k).toNatClampNeg = k := nI_clamp (by omega)
  have habk : cR C 4 k 5 = (ab k).map (ad 4) := (hE.2.1 k hk).1.2.2.1
  have hq6 : ¬ sp_in (nI q) 6 = 0 := sp_in_k (n := 6) hq (by decide)
  have eq_ : (nI q).toNatClampNeg = q := nI_clamp (by omega)
  obtain ⟨g1, g2, g3, g4, b2, b3, b6, -⟩ := fnd_body hE hk hq hhk
  have hsp : sp_body M (nI k) (nI q) w = if w = 0 then (M.2.2.1 9 (6 * k + q), 0) else if w = 1 then (if M.2.2.1 10 (6 * k + q) = 0 then (0, 0) else (1, 0)) else (M.2.2.1 12 (6 * k + q), 0) := by unfold sp_body; rw [if_neg hin, if_neg hq6, if_neg hw, if_pos hv, ek, eq_, hhk]; rfl
  refine mm_aload_n (pc := 0) dX11_body_0 rfl (by first | trivial | assumption | exact mm_isr_rf _) ?_
  refine cw_grS (pc := 1) 11 _ 3 hC (rfl) rfl (n11) dX11_body_1 fl_X11_23 rfl rfl rfl (f3) ?_
  refine mm_iload_n (pc := 4) dX11_body_4 rfl ?_
  refine mm_callV (pc := 5) (As := [_]) (kd := ?kd_5_16) (fs := ?fs_5_16) dX11_body_5 vl_X11_139 (ka_in (k := k) hR hk hC) ?hc_5_16 ?hk_5_16 rfl rfl (Nat.le_of_ble_eq_true rfl) ?_; (case hc_5_16 => exact cw_cell (f := 7) hC rfl rfl n7); (case hk_5_16 => rfl)
  rintro _ _ ⟨rfl, rfl⟩
  refine mm_astore (pc := 8) dX11_body_8 (by first | trivial | assumption | exact mm_isr_rf _) rfl (Nat.le_of_ble_eq_true rfl) ?_
  refine mm_aload (pc := 10) dX11_body_10 rfl (by first | trivial | assumption | exact mm_isr_rf _) ?_
  refine mm_ifnull (pc := 12) (tgt := 31) dX11_body_12 (by decide) (by first | trivial | assumption | exact mm_isr_rf _) (fun c12 => by cases c12) (fun a12 c12 => ?_)
  refine mm_iload_n (pc := 15) dX11_body_15 rfl ?_
  refine mm_callS (pc := 16) (As := [_]) dX11_body_16 sl_X11_163 (ok_X11_isHook) rfl rfl (Nat.le_of_ble_eq_true rfl) ?_
  rintro _ _ ⟨rfl, rfl⟩
  refine mm_if_eq (pc := 19) (tgt := 31) dX11_body_19 (by decide) (fun c19 => absurd c19 hq6) (fun c19 => ?_)
  refine mm_iload_n (pc := 22) dX11_body_22 rfl ?_
  refine mm_if_lt (pc := 23) (tgt := 31) dX11_body_23 (by decide) (fun c23 => absurd c23 hw) (fun c23 => ?_)
  refine mm_iload_n (pc := 26) dX11_body_26 rfl ?_
  refine mm_iconst (pc := 27) (v := 2) dX11_body_27 (by decide) ?_
  refine mm_icmp_le (pc := 28) (tgt := 37) dX11_body_28 (by decide) (fun c28 => ?_) (fun c28 => absurd hv c28)
  refine mm_aload (pc := 37) dX11_body_37 rfl (by first | trivial | assumption | exact mm_isr_rf _) ?_
  refine mm_iload_n (pc := 39) dX11_body_39 rfl ?_
  refine mm_callV (pc := 40) (As := [_]) (kd := ?kd_40_17) (fs := ?fs_40_17) dX11_body_40 vl_X11_80 (ck_bo hE hC hk hq) ?hc_40_17 ?hk_40_17 rfl rfl (Nat.le_of_ble_eq_true rfl) ?_; (case hc_40_17 => exact cw_cell (f := 4) hC rfl rfl n4); (case hk_40_17 => rfl)
  rintro _ _ ⟨rfl, rfl⟩
  rw [show xbo ad M k q = some (ad 1 (gb M k q)) from if_pos hhk]
  refine mm_astore (pc := 43) dX11_body_43 (by first | trivial | assumption | exact mm_isr_rf _) rfl (Nat.le_of_ble_eq_true rfl) ?_
  refine mm_aload (pc := 45) dX11_body_45 rfl (by first | trivial | assumption | exact mm_isr_rf _) ?_
  refine mm_ifnonnull (pc := 47) (tgt := 57) dX11_body_47 (by decide) (by first | trivial | assumption | exact mm_isr_rf _) (fun a47 c47 => ?_) (fun c47 => by cases c47)
  refine mm_iload_n (pc := 57) dX11_body_57 rfl ?_
  refine mm_if_ne (pc := 58) (tgt := 67) dX11_body_58 (by decide) (fun c58 => ?_) (fun c58 => absurd c58 h0_)
  refine mm_iload_n (pc := 67) dX11_body_67 rfl ?_
  refine mm_iconst (pc := 68) (v := 1) dX11_body_68 (by decide) ?_
  refine mm_icmp_ne (pc := 69) (tgt := 86) dX11_body_69 (by decide) (fun c69 => ?_) (fun c69 => absurd c69 h1_)
  refine mm_aload (pc := 86) dX11_body_86 rfl (by first | trivial | assumption | exact mm_isr_rf _) ?_
  refine cw_gi (pc := 88) 1 (gb M k q) 6 hC (rfl) rfl (g1) dX11_body_88 fl_X11_173 rfl rfl rfl ?_
  refine mm_iret (pc := 91) dX11_body_91 rfl ?_
  exact gP_ok hC (by rw [hsp, if_neg h0_, if_neg h1_, b6])

theorem bd_ok {G : mm_G} {L : Nat × Nat} {d : Nat} {h : mm_H} {h0 : mm_H} {ad : Nat → Nat → Nat} {C : cw_C} {M : mw_S} {ab : Nat → Option Nat} {nk np : Nat} {i q w : Int32} (hG : rlG ad C M ab nk np) (hC : cw ad h0 C h) : mm_Ok G mX11_body L (d + 2) [.ref (ad 11 0), .int i, .int q, .int w] h (fun r h1 => gP ad h0 C h (sp_body M i q w) r h1) := by
  by_cases hi : sp_in i (nI nk) = 0
  · exact bd_no hG hi hC
  · obtain ⟨k, hk, rfl⟩ := sp_in_of hi rfl (by have := hG.1.2.1.1; omega)
    by_cases hq : sp_in q 6 = 0
    · exact bd_nq hG hk hq hC
    · obtain ⟨qq, hqq, rfl⟩ := sp_in_of (n := 6) hq rfl (by decide)
      by_cases hw : w < 0
      · exact bd_lo hG hk hqq hw hC
      · by_cases hv : w ≤ 2
        · cases hh : rm_has M qq k with
          | false => exact bd_n hG hk hqq hw hv hh hC
          | true =>
            by_cases h0_ : w = 0
            · exact bd_0 hG hk hqq hw hv hh h0_ hC
            · by_cases h1_ : w = 1
              · exact bd_1 hG hk hqq hw hv hh h0_ h1_ hC
              · exact bd_2 hG hk hqq hw hv hh h0_ h1_ hC
        · exact bd_hi hG hk hqq hw hv hC

theorem ov_i {G : mm_G} {L : Nat × Nat} {d : Nat} {h : mm_H} {h0 : mm_H} {ad : Nat → Nat → Nat} {C : cw_C} {M : mw_S} {ab : Nat → Option Nat} {nk np : Nat} {i q j : Int32} (hG : rlG ad C M ab nk np) (hi : sp_in i (nI nk) = 0) (hC : cw ad h0 C h) : mm_Ok G mX11_overrides L (d + 3) [.ref (ad 11 0), .int i, .int q, .int j] h (fun r h1 => gP ad h0 C h (sp_overrides M ab i q j) r h1) := by
  refine mm_Ok.of [(0, .ref (ad 11 0)), (1, .int i), (2, .int q), (3, .int j)] rfl kX11_overrides.2.2.2.2.2 rfl (fun A => ?_)
  obtain ⟨hR, hE, ⟨n11, n13⟩, f3, f9, s3, s19⟩ := id hG
  have n7 := hR.1.1
  have hk40 := hR.2.1.1
  refine mm_aload_n (pc := 0) dX11_overrides_0 rfl (by first | trivial | assumption | exact mm_isr_rf _) ?_
  refine cw_grS (pc := 1) 11 _ 3 hC (rfl) rfl (n11) dX11_overrides_1 fl_X11_23 rfl rfl rfl (f3) ?_
  refine mm_iload_n (pc := 4) dX11_overrides_4 rfl ?_
  refine mm_callV (pc := 5) (As := [_]) (kd := ?kd_5_18) (fs := ?fs_5_18) dX11_overrides_5 vl_X11_139 (ka_no hR hi hC) ?hc_5_18 ?hk_5_18 rfl rfl (Nat.le_of_ble_eq_true rfl) ?_; (case hc_5_18 => exact cw_cell (f := 7) hC rfl rfl n7); (case hk_5_18 => rfl)
  rintro _ _ ⟨rfl, rfl⟩
  refine mm_astore (pc := 8) dX11_overrides_8 (by first | trivial | assumption | exact mm_isr_rf _) rfl (Nat.le_of_ble_eq_true rfl) ?_
  refine mm_aload_n (pc := 10) dX11_overrides_10 rfl (by first | trivial | assumption | exact mm_isr_rf _) ?_
  refine cw_grS (pc := 11) 11 _ 3 hC (rfl) rfl (n11) dX11_overrides_11 fl_X11_23 rfl rfl rfl (f3) ?_
  refine mm_iload_n (pc := 14) dX11_overrides_14 rfl ?_
  refine mm_callV (pc := 15) (As := [_]) (kd := ?kd_15_19) (fs := ?fs_15_19) dX11_overrides_15 vl_X11_139 (ka_any hR hC) ?hc_15_19 ?hk_15_19 rfl rfl (Nat.le_of_ble_eq_true rfl) ?_; (case hc_15_19 => exact cw_cell (f := 7) hC rfl rfl n7); (case hk_15_19 => rfl)
  rintro _ _ ⟨rfl, o_, rfl⟩
  refine mm_astore (pc := 18) dX11_overrides_18 (by first | trivial | assumption | exact mm_isr_rf _) rfl (Nat.le_of_ble_eq_true rfl) ?_
  refine mm_aload (pc := 20) dX11_overrides_20 rfl (by first | trivial | assumption | exact mm_isr_rf _) ?_
  refine mm_ifnull (pc := 22) (tgt := 37) dX11_overrides_22 (by decide) (by first | trivial | assumption | exact mm_isr_rf _) (fun c22 => ?_) (fun a22 c22 => by cases c22)
  refine mm_aload_n (pc := 37) dX11_overrides_37 rfl (by first | trivial | assumption | exact mm_isr_rf _) ?_
  refine mm_iconst (pc := 38) (v := (-1)) dX11_overrides_38 (by decide) ?_
  refine mm_callV (pc := 39) (As := [_]) (kd := ?kd_39_20) (fs := ?fs_39_20) dX11_overrides_39 vl_X11_96 (tl_ok (c := 1) n11 n13 f9 rfl (by decide) (by decide) hC) ?hc_39_20 ?hk_39_20 rfl rfl (Nat.le_of_ble_eq_true rfl) ?_; (case hc_39_20 => exact cw_cell (f := 11) hC rfl rfl n11); (case hk_39_20 => rfl)
  rintro _ h39 ⟨hC, e39, rfl⟩
  refine mm_iret (pc := 42) dX11_overrides_42 rfl ?_
  exact gP_no hC e39 (by unfold sp_overrides; rw [s3, if_pos hi]; rfl) (by decide)

theorem ov_j {G : mm_G} {L : Nat × Nat} {d : Nat} {h : mm_H} {h0 : mm_H} {ad : Nat → Nat → Nat} {C : cw_C} {M : mw_S} {ab : Nat → Option Nat} {nk np : Nat} {q j : Int32} {k : Nat} (hG : rlG ad C M ab nk np) (hk : k < nk) (hj : sp_in j (nI nk) = 0) (hC : cw ad h0 C h) : mm_Ok G mX11_overrides L (d + 3) [.ref (ad 11 0), .int (nI k), .int q, .int j] h (fun r h1 => gP ad h0 C h (sp_overrides M ab (nI k) q j) r h1) := by
  refine mm_Ok.of [(0, .ref (ad 11 0)), (1, .int (nI k)), (2, .int q), (3, .int j)] rfl kX11_overrides.2.2.2.2.2 rfl (fun A => ?_)
  obtain ⟨hR, hE, ⟨n11, n13⟩, f3, f9, s3, s19⟩ := id hG
  have n7 := hR.1.1
  have hk40 := hR.2.1.1
  have hin : ¬ sp_in (nI k) (M.1 3) = 0 := by rw [s3]; exact sp_in_k hk (by omega)
  have n4 : k < cN C 4 := by have := hR.1.2.2.2.1; omega
  have ek : (nI k).toNatClampNeg = k := nI_clamp (by omega)
  have habk : cR C 4 k 5 = (ab k).map (ad 4) := (hE.2.1 k hk).1.2.2.1
  refine mm_aload_n (pc := 0) dX11_overrides_0 rfl (by first | trivial | assumption | exact mm_isr_rf _) ?_
  refine cw_grS (pc := 1) 11 _ 3 hC (rfl) rfl (n11) dX11_overrides_1 fl_X11_23 rfl rfl rfl (f3) ?_
  refine mm_iload_n (pc := 4) dX11_overrides_4 rfl ?_
  refine mm_callV (pc := 5) (As := [_]) (kd := ?kd_5_21) (fs := ?fs_5_21) dX11_overrides_5 vl_X11_139 (ka_in (k := k) hR hk hC) ?hc_5_21 ?hk_5_21 rfl rfl (Nat.le_of_ble_eq_true rfl) ?_; (case hc_5_21 => exact cw_cell (f := 7) hC rfl rfl n7); (case hk_5_21 => rfl)
  rintro _ _ ⟨rfl, rfl⟩
  refine mm_astore (pc := 8) dX11_overrides_8 (by first | trivial | assumption | exact mm_isr_rf _) rfl (Nat.le_of_ble_eq_true rfl) ?_
  refine mm_aload_n (pc := 10) dX11_overrides_10 rfl (by first | trivial | assumption | exact mm_isr_rf _) ?_
  refine cw_grS (pc := 11) 11 _ 3 hC (rfl) rfl (n11) dX11_overrides_11 fl_X11_23 rfl rfl rfl (f3) ?_
  refine mm_iload_n (pc := 14) dX11_overrides_14 rfl ?_
  refine mm_callV (pc := 15) (As := [_]) (kd := ?kd_15_22) (fs := ?fs_15_22) dX11_overrides_15 vl_X11_139 (ka_no hR hj hC) ?hc_15_22 ?hk_15_22 rfl rfl (Nat.le_of_ble_eq_true rfl) ?_; (case hc_15_22 => exact cw_cell (f := 7) hC rfl rfl n7); (case hk_15_22 => rfl)
  rintro _ _ ⟨rfl, rfl⟩
  refine mm_astore (pc := 18) dX11_overrides_18 (by first | trivial | assumption | exact mm_isr_rf _) rfl (Nat.le_of_ble_eq_true rfl) ?_
  refine mm_aload (pc := 20) dX11_overrides_20 rfl (by first | trivial | assumption | exact mm_isr_rf _) ?_
  refine mm_ifnull (pc := 22) (tgt := 37) dX11_overrides_22 (by decide) (by first | trivial | assumption | exact mm_isr_rf _) (fun c22 => by cases c22) (fun a22 c22 => ?_)
  refine mm_aload (pc := 25) dX11_overrides_25 rfl (by first | trivial | assumption | exact mm_isr_rf _) ?_
  refine mm_ifnull (pc := 27) (tgt := 37) dX11_overrides_27 (by decide) (by first | trivial | assumption | exact mm_isr_rf _) (fun c27 => ?_) (fun a27 c27 => by cases c27)
  refine mm_aload_n (pc := 37) dX11_overrides_37 rfl (by first | trivial | assumption | exact mm_isr_rf _) ?_
  refine mm_iconst (pc := 38) (v := (-1)) dX11_overrides_38 (by decide) ?_
  refine mm_callV (pc := 39) (As := [_]) (kd := ?kd_39_23) (fs := ?fs_39_23) dX11_overrides_39 vl_X11_96 (tl_ok (c := 1) n11 n13 f9 rfl (by decide) (by decide) hC) ?hc_39_23 ?hk_39_23 rfl rfl (Nat.le_of_ble_eq_true rfl) ?_; (case hc_39_23 => exact cw_cell (f := 11) hC rfl rfl n11); (case hk_39_23 => rfl)
  rintro _ h39 ⟨hC, e39, rfl⟩
  refine mm_iret (pc := 42) dX11_overrides_42 rfl ?_
  exact gP_no hC e39 (by unfold sp_overrides; rw [if_neg hin, s3, if_pos hj]; rfl) (by decide)

theorem ov_q {G : mm_G} {L : Nat × Nat} {d : Nat} {h : mm_H} {h0 : mm_H} {ad : Nat → Nat → Nat} {C : cw_C} {M : mw_S} {ab : Nat → Option Nat} {nk np : Nat} {q : Int32} {k j : Nat} (hG : rlG ad C M ab nk np) (hk : k < nk) (hj : j < nk) (hq : sp_in q 6 = 0) (hC : cw ad h0 C h) : mm_Ok G mX11_overrides L (d + 3) [.ref (ad 11 0), .int (nI k), .int q, .int (nI j)] h (fun r h1 => gP ad h0 C h (sp_overrides M ab (nI k) q (nI j)) r h1) := by
  refine mm_Ok.of [(0, .ref (ad 11 0)), (1, .int (nI k)), (2, .int q), (3, .int (nI j))] rfl kX11_overrides.2.2.2.2.2 rfl (fun A => ?_)
  obtain ⟨hR, hE, ⟨n11, n13⟩, f3, f9, s3, s19⟩ := id hG
  have n7 := hR.1.1
  have hk40 := hR.2.1.1
  have hin : ¬ sp_in (nI k) (M.1 3) = 0 := by rw [s3]; exact sp_in_k hk (by omega)
  have n4 : k < cN C 4 := by have := hR.1.2.2.2.1; omega
  have ek : (nI k).toNatClampNeg = k := nI_clamp (by omega)
  have habk : cR C 4 k 5 = (ab k).map (ad 4) := (hE.2.1 k hk).1.2.2.1
  have hjn : ¬ sp_in (nI j) (M.1 3) = 0 := by rw [s3]; exact sp_in_k hj (by omega)
  have n4j : j < cN C 4 := by have := hR.1.2.2.2.1; omega
  have ej : (nI j).toNatClampNeg = j := nI_clamp (by omega)
  refine mm_aload_n (pc := 0) dX11_overrides_0 rfl (by first | trivial | assumption | exact mm_isr_rf _) ?_
  refine cw_grS (pc := 1) 11 _ 3 hC (rfl) rfl (n11) dX11_overrides_1 fl_X11_23 rfl rfl rfl (f3) ?_
  refine mm_iload_n (pc := 4) dX11_overrides_4 rfl ?_
  refine mm_callV (pc := 5) (As := [_]) (kd := ?kd_5_24) (fs := ?fs_5_24) dX11_overrides_5 vl_X11_139 (ka_in (k := k) hR hk hC) ?hc_5_24 ?hk_5_24 rfl rfl (Nat.le_of_ble_eq_true rfl) ?_; (case hc_5_24 => exact cw_cell (f := 7) hC rfl rfl n7); (case hk_5_24 => rfl)
  rintro _ _ ⟨rfl, rfl⟩
  refine mm_astore (pc := 8) dX11_overrides_8 (by first | trivial | assumption | exact mm_isr_rf _) rfl (Nat.le_of_ble_eq_true rfl) ?_
  refine mm_aload_n (pc := 10) dX11_overrides_10 rfl (by first | trivial | assumption | exact mm_isr_rf _) ?_
  refine cw_grS (pc := 11) 11 _ 3 hC (rfl) rfl (n11) dX11_overrides_11 fl_X11_23 rfl rfl rfl (f3) ?_
  refine mm_iload_n (pc := 14) dX11_overrides_14 rfl ?_
  refine mm_callV (pc := 15) (As := [_]) (kd := ?kd_15_25) (fs := ?fs_15_25) dX11_overrides_15 vl_X11_139 (ka_in (k := j) hR hj hC) ?hc_15_25 ?hk_15_25 rfl rfl (Nat.le_of_ble_eq_true rfl) ?_; (case hc_15_25 => exact cw_cell (f := 7) hC rfl rfl n7); (case hk_15_25 => rfl)
  rintro _ _ ⟨rfl, rfl⟩
  refine mm_astore (pc := 18) dX11_overrides_18 (by first | trivial | assumption | exact mm_isr_rf _) rfl (Nat.le_of_ble_eq_true rfl) ?_
  refine mm_aload (pc := 20) dX11_overrides_20 rfl (by first | trivial | assumption | exact mm_isr_rf _) ?_
  refine mm_ifnull (pc := 22) (tgt := 37) dX11_overrides_22 (by decide) (by first | trivial | assumption | exact mm_isr_rf _) (fun c22 => by cases c22) (fun a22 c22 => ?_)
  refine mm_aload (pc := 25) dX11_overrides_25 rfl (by first | trivial | assumption | exact mm_isr_rf _) ?_
  refine mm_ifnull (pc := 27) (tgt := 37) dX11_overrides_27 (by decide) (by first | trivial | assumption | exact mm_isr_rf _) (fun c27 => by cases c27) (fun a27 c27 => ?_)
  refine mm_iload_n (pc := 30) dX11_overrides_30 rfl ?_
  refine mm_callS (pc := 31) (As := [_]) dX11_overrides_31 sl_X11_163 (ok_X11_isHook) rfl rfl (Nat.le_of_ble_eq_true rfl) ?_
  rintro _ _ ⟨rfl, rfl⟩
  refine mm_if_ne (pc := 34) (tgt := 43) dX11_overrides_34 (by decide) (fun c34 => absurd hq c34) (fun c34 => ?_)
  refine mm_aload_n (pc := 37) dX11_overrides_37 rfl (by first | trivial | assumption | exact mm_isr_rf _) ?_
  refine mm_iconst (pc := 38) (v := (-1)) dX11_overrides_38 (by decide) ?_
  refine mm_callV (pc := 39) (As := [_]) (kd := ?kd_39_26) (fs := ?fs_39_26) dX11_overrides_39 vl_X11_96 (tl_ok (c := 1) n11 n13 f9 rfl (by decide) (by decide) hC) ?hc_39_26 ?hk_39_26 rfl rfl (Nat.le_of_ble_eq_true rfl) ?_; (case hc_39_26 => exact cw_cell (f := 11) hC rfl rfl n11); (case hk_39_26 => rfl)
  rintro _ h39 ⟨hC, e39, rfl⟩
  refine mm_iret (pc := 42) dX11_overrides_42 rfl ?_
  exact gP_no hC e39 (by unfold sp_overrides; rw [if_neg hin, if_neg hjn, if_pos hq]; rfl) (by decide)

theorem ov_n {G : mm_G} {L : Nat × Nat} {d : Nat} {h : mm_H} {h0 : mm_H} {ad : Nat → Nat → Nat} {C : cw_C} {M : mw_S} {ab : Nat → Option Nat} {nk np : Nat} {k q j : Nat} (hG : rlG ad C M ab nk np) (hk : k < nk) (hj : j < nk) (hq : q < 6) (hhk : rm_has M q k = false) (hC : cw ad h0 C h) : mm_Ok G mX11_overrides L (d + 3) [.ref (ad 11 0), .int (nI k), .int (nI q), .int (nI j)] h (fun r h1 => gP ad h0 C h (sp_overrides M ab (nI k) (nI q) (nI j)) r h1) := by
  refine mm_Ok.of [(0, .ref (ad 11 0)), (1, .int (nI k)), (2, .int (nI q)), (3, .int (nI j))] rfl kX11_overrides.2.2.2.2.2 rfl (fun A => ?_)
  obtain ⟨hR, hE, ⟨n11, n13⟩, f3, f9, s3, s19⟩ := id hG
  have n7 := hR.1.1
  have hk40 := hR.2.1.1
  have hin : ¬ sp_in (nI k) (M.1 3) = 0 := by rw [s3]; exact sp_in_k hk (by omega)
  have n4 : k < cN C 4 := by have := hR.1.2.2.2.1; omega
  have ek : (nI k).toNatClampNeg = k := nI_clamp (by omega)
  have habk : cR C 4 k 5 = (ab k).map (ad 4) := (hE.2.1 k hk).1.2.2.1
  have hq6 : ¬ sp_in (nI q) 6 = 0 := sp_in_k (n := 6) hq (by decide)
  have eq_ : (nI q).toNatClampNeg = q := nI_clamp (by omega)
  have hjn : ¬ sp_in (nI j) (M.1 3) = 0 := by rw [s3]; exact sp_in_k hj (by omega)
  have n4j : j < cN C 4 := by have := hR.1.2.2.2.1; omega
  have ej : (nI j).toNatClampNeg = j := nI_clamp (by omega)
  refine mm_aload_n (pc := 0) dX11_overrides_0 rfl (by first | trivial | assumption | exact mm_isr_rf _) ?_
  refine cw_grS (pc := 1) 11 _ 3 hC (rfl) rfl (n11) dX11_overrides_1 fl_X11_23 rfl rfl rfl (f3) ?_
  refine mm_iload_n (pc := 4) dX11_overrides_4 rfl ?_
  refine mm_callV (pc := 5) (As := [_]) (kd := ?kd_5_27) (fs := ?fs_5_27) dX11_overrides_5 vl_X11_139 (ka_in (k := k) hR hk hC) ?hc_5_27 ?hk_5_27 rfl rfl (Nat.le_of_ble_eq_true rfl) ?_; (case hc_5_27 => exact cw_cell (f := 7) hC rfl rfl n7); (case hk_5_27 => rfl)
  rintro _ _ ⟨rfl, rfl⟩
  refine mm_astore (pc := 8) dX11_overrides_8 (by first | trivial | assumption | exact mm_isr_rf _) rfl (Nat.le_of_ble_eq_true rfl) ?_
  refine mm_aload_n (pc := 10) dX11_overrides_10 rfl (by first | trivial | assumption | exact mm_isr_rf _) ?_
  refine cw_grS (pc := 11) 11 _ 3 hC (rfl) rfl (n11) dX11_overrides_11 fl_X11_23 rfl rfl rfl (f3) ?_
  refine mm_iload_n (pc := 14) dX11_overrides_14 rfl ?_
  refine mm_callV (pc := 15) (As := [_]) (kd := ?kd_15_28) (fs := ?fs_15_28) dX11_overrides_15 vl_X11_139 (ka_in (k := j) hR hj hC) ?hc_15_28 ?hk_15_28 rfl rfl (Nat.le_of_ble_eq_true rfl) ?_; (case hc_15_28 => exact cw_cell (f := 7) hC rfl rfl n7); (case hk_15_28 => rfl)
  rintro _ _ ⟨rfl, rfl⟩
  refine mm_astore (pc := 18) dX11_overrides_18 (by first | trivial | assumption | exact mm_isr_rf _) rfl (Nat.le_of_ble_eq_true rfl) ?_
  refine mm_aload (pc := 20) dX11_overrides_20 rfl (by first | trivial | assumption | exact mm_isr_rf _) ?_
  refine mm_ifnull (pc := 22) (tgt := 37) dX11_overrides_22 (by decide) (by first | trivial | assumption | exact mm_isr_rf _) (fun c22 => by cases c22) (fun a22 c22 => ?_)
  refine mm_aload (pc := 25) dX11_overrides_25 rfl (by first | trivial | assumption | exact mm_isr_rf _) ?_
  refine mm_ifnull (pc := 27) (tgt := 37) dX11_overrides_27 (by decide) (by first | trivial | assumption | exact mm_isr_rf _) (fun c27 => by cases c27) (fun a27 c27 => ?_)
  refine mm_iload_n (pc := 30) dX11_overrides_30 rfl ?_
  refine mm_callS (pc := 31) (As := [_]) dX11_overrides_31 sl_X11_163 (ok_X11_isHook) rfl rfl (Nat.le_of_ble_eq_true rfl) ?_
  rintro _ _ ⟨rfl, rfl⟩
  refine mm_if_ne (pc := 34) (tgt := 43) dX11_overrides_34 (by decide) (fun c34 => ?_) (fun c34 => absurd c34 hq6)
  refine mm_aload (pc := 43) dX11_overrides_43 rfl (by first | trivial | assumption | exact mm_isr_rf _) ?_
  refine mm_iload_n (pc := 45) dX11_overrides_45 rfl ?_
  refine mm_callV (pc := 46) (As := [_]) (kd := ?kd_46_29) (fs := ?fs_46_29) dX11_overrides_46 vl_X11_80 (ck_bo hE hC hk hq) ?hc_46_29 ?hk_46_29 rfl rfl (Nat.le_of_ble_eq_true rfl) ?_; (case hc_46_29 => exact cw_cell (f := 4) hC rfl rfl n4); (case hk_46_29 => rfl)
  rintro _ _ ⟨rfl, rfl⟩
  rw [show xbo ad M k q = none from if_neg (by rw [hhk]; decide)]
  refine mm_astore (pc := 49) dX11_overrides_49 (by first | trivial | assumption | exact mm_isr_rf _) rfl (Nat.le_of_ble_eq_true rfl) ?_
  refine mm_aload (pc := 51) dX11_overrides_51 rfl (by first | trivial | assumption | exact mm_isr_rf _) ?_
  refine mm_ifnull (pc := 53) (tgt := 65) dX11_overrides_53 (by decide) (by first | trivial | assumption | exact mm_isr_rf _) (fun c53 => ?_) (fun a53 c53 => by cases c53)
  refine mm_aload_n (pc := 65) dX11_overrides_65 rfl (by first | trivial | assumption | exact mm_isr_rf _) ?_
  refine mm_bipush (pc := 66) (v := (-2)) dX11_overrides_66 (by decide) ?_
  refine mm_callV (pc := 68) (As := [_]) (kd := ?kd_68_30) (fs := ?fs_68_30) dX11_overrides_68 vl_X11_96 (tl_ok (c := 2) n11 n13 f9 rfl (by decide) (by decide) hC) ?hc_68_30 ?hk_68_30 rfl rfl (Nat.le_of_ble_eq_true rfl) ?_; (case hc_68_30 => exact cw_cell (f := 11) hC rfl rfl n11); (case hk_68_30 => rfl)
  rintro _ h68 ⟨hC, e68, rfl⟩
  refine mm_iret (pc := 71) dX11_overrides_71 rfl ?_
  exact gP_no hC e68 (by unfold sp_overrides; rw [if_neg hin, if_neg hjn, if_neg hq6, ek, ej, eq_, hhk]; rfl) (by decide)

theorem ov_m {G : mm_G} {L : Nat × Nat} {d : Nat} {h : mm_H} {h0 : mm_H} {ad : Nat → Nat → Nat} {C : cw_C} {M : mw_S} {ab : Nat → Option Nat} {nk np : Nat} {k q j : Nat} (hG : rlG ad C M ab nk np) (hk : k < nk) (hj : j < nk) (hq : q < 6) (hhk : rm_has M q k = true) (hhj : rm_has M q j = false) (hC : cw ad h0 C h) : mm_Ok G mX11_overrides L (d + 3) [.ref (ad 11 0), .int (nI k), .int (nI q), .int (nI j)] h (fun r h1 => gP ad h0 C h (sp_overrides M ab (nI k) (nI q) (nI j)) r h1) := by
  refine mm_Ok.of [(0, .ref (ad 11 0)), (1, .int (nI k)), (2, .int (nI q)), (3, .int (nI j))] rfl kX11_overrides.2.2.2.2.2 rfl (fun A => ?_)
  obtain ⟨hR, hE, ⟨n11, n13⟩, f3, f9, s3, s19⟩ := id hG
  have n7 := hR.1.1
  have hk40 := hR.2.1.1
  have hin : ¬ sp_in (nI k) (M.1 3) = 0 := by rw [s3]; exact sp_in_k hk (by omega)
  have n4 : k < cN C 4 := by have := hR.1.2.2.2.1; omega
  have ek : (nI k).toNatClampNeg = k := nI_clamp (by omega)
  have habk : cR C 4 k 5 = (ab k).map (ad 4) := (hE.2.1 k hk).1.2.2.1
  have hq6 : ¬ sp_in (nI q) 6 = 0 := sp_in_k (n := 6) hq (by decide)
  have eq_ : (nI q).toNatClampNeg = q := nI_clamp (by omega)
  have hjn : ¬ sp_in (nI j) (M.1 3) = 0 := by rw [s3]; exact sp_in_k hj (by omega)
  have n4j : j < cN C 4 := by have := hR.1.2.2.2.1; omega
  have ej : (nI j).toNatClampNeg = j := nI_clamp (by omega)
  refine mm_aload_n (pc := 0) dX11_overrides_0 rfl (by first | trivial | assumption | exact mm_isr_rf _) ?_
  refine cw_grS (pc := 1) 11 _ 3 hC (rfl) rfl (n11) dX11_overrides_1 fl_X11_23 rfl rfl rfl (f3) ?_
  refine mm_iload_n (pc := 4) dX11_overrides_4 rfl ?_
  refine mm_callV (pc := 5) (As := [_]) (kd := ?kd_5_31) (fs := ?fs_5_31) dX11_overrides_5 vl_X11_139 (ka_in (k := k) hR hk hC) ?hc_5_31 ?hk_5_31 rfl rfl (Nat.le_of_ble_eq_true rfl) ?_; (case hc_5_31 => exact cw_cell (f := 7) hC rfl rfl n7); (case hk_5_31 => rfl)
  rintro _ _ ⟨rfl, rfl⟩
  refine mm_astore (pc := 8) dX11_overrides_8 (by first | trivial | assumption | exact mm_isr_rf _) rfl (Nat.le_of_ble_eq_true rfl) ?_
  refine mm_aload_n (pc := 10) dX11_overrides_10 rfl (by first | trivial | assumption | exact mm_isr_rf _) ?_
  refine cw_grS (pc := 11) 11 _ 3 hC (rfl) rfl (n11) dX11_overrides_11 fl_X11_23 rfl rfl rfl (f3) ?_
  refine mm_iload_n (pc := 14) dX11_overrides_14 rfl ?_
  refine mm_callV (pc := 15) (As := [_]) (kd := ?kd_15_32) (fs := ?fs_15_32) dX11_overrides_15 vl_X11_139 (ka_in (k := j) hR hj hC) ?hc_15_32 ?hk_15_32 rfl rfl (Nat.le_of_ble_eq_true rfl) ?_; (case hc_15_32 => exact cw_cell (f := 7) hC rfl rfl n7); (case hk_15_32 => rfl)
  rintro _ _ ⟨rfl, rfl⟩
  refine mm_astore (pc := 18) dX11_overrides_18 (by first | trivial | assumption | exact mm_isr_rf _) rfl (Nat.le_of_ble_eq_true rfl) ?_
  refine mm_aload (pc := 20) dX11_overrides_20 rfl (by first | trivial | assumption | exact mm_isr_rf _) ?_
  refine mm_ifnull (pc := 22) (tgt := 37) dX11_overrides_22 (by decide) (by first | trivial | assumption | exact mm_isr_rf _) (fun c22 => by cases c22) (fun a22 c22 => ?_)
  refine mm_aload (pc := 25) dX11_overrides_25 rfl (by first | trivial | assumption | exact mm_isr_rf _) ?_
  refine mm_ifnull (pc := 27) (tgt := 37) dX11_overrides_27 (by decide) (by first | trivial | assumption | exact mm_isr_rf _) (fun c27 => by cases c27) (fun a27 c27 => ?_)
  refine mm_iload_n (pc := 30) dX11_overrides_30 rfl ?_
  refine mm_callS (pc := 31) (As := [_]) dX11_overrides_31 sl_X11_163 (ok_X11_isHook) rfl rfl (Nat.le_of_ble_eq_true rfl) ?_
  rintro _ _ ⟨rfl, rfl⟩
  refine mm_if_ne (pc := 34) (tgt := 43) dX11_overrides_34 (by decide) (fun c34 => ?_) (fun c34 => absurd c34 hq6)
  refine mm_aload (pc := 43) dX11_overrides_43 rfl (by first | trivial | assumption | exact mm_isr_rf _) ?_
  refine mm_iload_n (pc := 45) dX11_overrides_45 rfl ?_
  refine mm_callV (pc := 46) (As := [_]) (kd := ?kd_46_33) (fs := ?fs_46_33) dX11_overrides_46 vl_X11_80 (ck_bo hE hC hk hq) ?hc_46_33 ?hk_46_33 rfl rfl (Nat.le_of_ble_eq_true rfl) ?_; (case hc_46_33 => exact cw_cell (f := 4) hC rfl rfl n4); (case hk_46_33 => rfl)
  rintro _ _ ⟨rfl, rfl⟩
  rw [show xbo ad M k q = some (ad 1 (gb M k q)) from if_pos hhk]
  refine mm_astore (pc := 49) dX11_overrides_49 (by first | trivial | assumption | exact mm_isr_rf _) rfl (Nat.le_of_ble_eq_true rfl) ?_
  refine mm_aload (pc := 51) dX11_overrides_51 rfl (by first | trivial | assumption | exact mm_isr_rf _) ?_
  refine mm_ifnull (pc := 53) (tgt := 65) dX11_overrides_53 (by decide) (by first | trivial | assumption | exact mm_isr_rf _) (fun c53 => by cases c53) (fun a53 c53 => ?_)
  refine mm_aload (pc := 56) dX11_overrides_56 rfl (by first | trivial | assumption | exact mm_isr_rf _) ?_
  refine mm_iload_n (pc := 58) dX11_overrides_58 rfl ?_
  refine mm_callV (pc := 59) (As := [_]) (kd := ?kd_59_34) (fs := ?fs_59_34) dX11_overrides_59 vl_X11_80 (ck_bo hE hC hj hq) ?hc_59_34 ?hk_59_34 rfl rfl (Nat.le_of_ble_eq_true rfl) ?_; (case hc_59_34 => exact cw_cell (f := 4) hC rfl rfl n4j); (case hk_59_34 => rfl)
  rintro _ _ ⟨rfl, rfl⟩
  rw [show xbo ad M j q = none from if_neg (by rw [hhj]; decide)]
  refine mm_ifnonnull (pc := 62) (tgt := 72) dX11_overrides_62 (by decide) (by first | trivial | assumption | exact mm_isr_rf _) (fun a62 c62 => by cases c62) (fun c62 => ?_)
  refine mm_aload_n (pc := 65) dX11_overrides_65 rfl (by first | trivial | assumption | exact mm_isr_rf _) ?_
  refine mm_bipush (pc := 66) (v := (-2)) dX11_overrides_66 (by decide) ?_
  refine mm_callV (pc := 68) (As := [_]) (kd := ?kd_68_35) (fs := ?fs_68_35) dX11_overrides_68 vl_X11_96 (tl_ok (c := 2) n11 n13 f9 rfl (by decide) (by decide) hC) ?hc_68_35 ?hk_68_35 rfl rfl (Nat.le_of_ble_eq_true rfl) ?_; (case hc_68_35 => exact cw_cell (f := 11) hC rfl rfl n11); (case hk_68_35 => rfl)
  rintro _ h68 ⟨hC, e68, rfl⟩
  refine mm_iret (pc := 71) dX11_overrides_71 rfl ?_
  exact gP_no hC e68 (by unfold sp_overrides; rw [if_neg hin, if_neg hjn, if_neg hq6, ek, ej, eq_, hhk, hhj]; rfl) (by decide)

theorem ov_s {G : mm_G} {L : Nat × Nat} {d : Nat} {h : mm_H} {h0 : mm_H} {ad : Nat → Nat → Nat} {C : cw_C} {M : mw_S} {ab : Nat → Option Nat} {nk np : Nat} {k q j : Nat} (hG : rlG ad C M ab nk np) (hk : k < nk) (hj : j < nk) (hq : q < 6) (hhk : rm_has M q k = true) (hhj : rm_has M q j = true) (hC : cw ad h0 C h) : mm_Ok G mX11_overrides L (d + 3) [.ref (ad 11 0), .int (nI k), .int (nI q), .int (nI j)] h (fun r h1 => gP ad h0 C h (sp_overrides M ab (nI k) (nI q) (nI j)) r h1) := by
  refine mm_Ok.of [(0, .ref (ad 11 0)), (1, .int (nI k)), (2, .int (nI q)), (3, .int (nI j))] rfl kX11_overrides.2.2.2.2.2 rfl (fun A => ?_)
  obtain ⟨hR, hE, ⟨n11, n13⟩, f3, f9, s3, s19⟩ := id hG
  have n7 := hR.1.1
  have hk40 := hR.2.1.1
  have hin : ¬ sp_in (nI k) (M.1 3) = 0 := by rw [s3]; exact sp_in_k hk (by omega)
  have n4 : k < cN C 4 := by have := hR.1.2.2.2.1; omega
  have ek : (nI k).toNatClampNeg = k := nI_clamp (by omega)
  have habk : cR C 4 k 5 = (ab k).map (ad 4) := (hE.2.1 k hk).1.2.2.1
  have hq6 : ¬ sp_in (nI q) 6 = 0 := sp_in_k (n := 6) hq (by decide)
  have eq_ : (nI q).toNatClampNeg = q := nI_clamp (by omega)
  have hjn : ¬ sp_in (nI j) (M.1 3) = 0 := by rw [s3]; exact sp_in_k hj (by omega)
  have n4j : j < cN C 4 := by have := hR.1.2.2.2.1; omega
  have ej : (nI j).toNatClampNeg = j := nI_clamp (by omega)
  obtain ⟨g1, g2, g3, g4, -⟩ := fnd_body hE hk hq hhk
  have hov : xb (cL C 1 (gb M k q) 7) j = ovB ab (rm_E M q) k j := (hE.2.1 k hk).2 q hq hhk j (by omega)
  have hsp : sp_overrides M ab (nI k) (nI q) (nI j) = (bI (xb (cL C 1 (gb M k q) 7) j), 0) := by rw [hov]; unfold sp_overrides; rw [if_neg hin, if_neg hjn, if_neg hq6, ek, ej, eq_, hhk, hhj]; rfl
  refine mm_aload_n (pc := 0) dX11_overrides_0 rfl (by first | trivial | assumption | exact mm_isr_rf _) ?_
  refine cw_grS (pc := 1) 11 _ 3 hC (rfl) rfl (n11) dX11_overrides_1 fl_X11_23 rfl rfl rfl (f3) ?_
  refine mm_iload_n (pc := 4) dX11_overrides_4 rfl ?_
  refine mm_callV (pc := 5) (As := [_]) (kd := ?kd_5_36) (fs := ?fs_5_36) dX11_overrides_5 vl_X11_139 (ka_in (k := k) hR hk hC) ?hc_5_36 ?hk_5_36 rfl rfl (Nat.le_of_ble_eq_true rfl) ?_; (case hc_5_36 => exact cw_cell (f := 7) hC rfl rfl n7); (case hk_5_36 => rfl)
  rintro _ _ ⟨rfl, rfl⟩
  refine mm_astore (pc := 8) dX11_overrides_8 (by first | trivial | assumption | exact mm_isr_rf _) rfl (Nat.le_of_ble_eq_true rfl) ?_
  refine mm_aload_n (pc := 10) dX11_overrides_10 rfl (by first | trivial | assumption | exact mm_isr_rf _) ?_
  refine cw_grS (pc := 11) 11 _ 3 hC (rfl) rfl (n11) dX11_overrides_11 fl_X11_23 rfl rfl rfl (f3) ?_
  refine mm_iload_n (pc := 14) dX11_overrides_14 rfl ?_
  refine mm_callV (pc := 15) (As := [_]) (kd := ?kd_15_37) (fs := ?fs_15_37) dX11_overrides_15 vl_X11_139 (ka_in (k := j) hR hj hC) ?hc_15_37 ?hk_15_37 rfl rfl (Nat.le_of_ble_eq_true rfl) ?_; (case hc_15_37 => exact cw_cell (f := 7) hC rfl rfl n7); (case hk_15_37 => rfl)
  rintro _ _ ⟨rfl, rfl⟩
  refine mm_astore (pc := 18) dX11_overrides_18 (by first | trivial | assumption | exact mm_isr_rf _) rfl (Nat.le_of_ble_eq_true rfl) ?_
  refine mm_aload (pc := 20) dX11_overrides_20 rfl (by first | trivial | assumption | exact mm_isr_rf _) ?_
  refine mm_ifnull (pc := 22) (tgt := 37) dX11_overrides_22 (by decide) (by first | trivial | assumption | exact mm_isr_rf _) (fun c22 => by cases c22) (fun a22 c22 => ?_)
  refine mm_aload (pc := 25) dX11_overrides_25 rfl (by first | trivial | assumption | exact mm_isr_rf _) ?_
  refine mm_ifnull (pc := 27) (tgt := 37) dX11_overrides_27 (by decide) (by first | trivial | assumption | exact mm_isr_rf _) (fun c27 => by cases c27) (fun a27 c27 => ?_)
  refine mm_iload_n (pc := 30) dX11_overrides_30 rfl ?_
  refine mm_callS (pc := 31) (As := [_]) dX11_overrides_31 sl_X11_163 (ok_X11_isHook) rfl rfl (Nat.le_of_ble_eq_true rfl) ?_
  rintro _ _ ⟨rfl, rfl⟩
  refine mm_if_ne (pc := 34) (tgt := 43) dX11_overrides_34 (by decide) (fun c34 => ?_) (fun c34 => absurd c34 hq6)
  refine mm_aload (pc := 43) dX11_overrides_43 rfl (by first | trivial | assumption | exact mm_isr_rf _) ?_
  refine mm_iload_n (pc := 45) dX11_overrides_45 rfl ?_
  refine mm_callV (pc := 46) (As := [_]) (kd := ?kd_46_38) (fs := ?fs_46_38) dX11_overrides_46 vl_X11_80 (ck_bo hE hC hk hq) ?hc_46_38 ?hk_46_38 rfl rfl (Nat.le_of_ble_eq_true rfl) ?_; (case hc_46_38 => exact cw_cell (f := 4) hC rfl rfl n4); (case hk_46_38 => rfl)
  rintro _ _ ⟨rfl, rfl⟩
  rw [show xbo ad M k q = some (ad 1 (gb M k q)) from if_pos hhk]
  refine mm_astore (pc := 49) dX11_overrides_49 (by first | trivial | assumption | exact mm_isr_rf _) rfl (Nat.le_of_ble_eq_true rfl) ?_
  refine mm_aload (pc := 51) dX11_overrides_51 rfl (by first | trivial | assumption | exact mm_isr_rf _) ?_
  refine mm_ifnull (pc := 53) (tgt := 65) dX11_overrides_53 (by decide) (by first | trivial | assumption | exact mm_isr_rf _) (fun c53 => by cases c53) (fun a53 c53 => ?_)
  refine mm_aload (pc := 56) dX11_overrides_56 rfl (by first | trivial | assumption | exact mm_isr_rf _) ?_
  refine mm_iload_n (pc := 58) dX11_overrides_58 rfl ?_
  refine mm_callV (pc := 59) (As := [_]) (kd := ?kd_59_39) (fs := ?fs_59_39) dX11_overrides_59 vl_X11_80 (ck_bo hE hC hj hq) ?hc_59_39 ?hk_59_39 rfl rfl (Nat.le_of_ble_eq_true rfl) ?_; (case hc_59_39 => exact cw_cell (f := 4) hC rfl rfl n4j); (case hk_59_39 => rfl)
  rintro _ _ ⟨rfl, rfl⟩
  rw [show xbo ad M j q = some (ad 1 (gb M j q)) from if_pos hhj]
  refine mm_ifnonnull (pc := 62) (tgt := 72) dX11_overrides_62 (by decide) (by first | trivial | assumption | exact mm_isr_rf _) (fun a62 c62 => ?_) (fun c62 => by cases c62)
  refine mm_aload (pc := 72) dX11_overrides_72 rfl (by first | trivial | assumption | exact mm_isr_rf _) ?_
  refine mm_aload (pc := 74) dX11_overrides_74 rfl (by first | trivial | assumption | exact mm_isr_rf _) ?_
  refine mm_callV (pc := 76) (As := [_]) (kd := ?kd_76_40) (fs := ?fs_76_40) dX11_overrides_76 vl_X11_176 (ck_sf (d := d + 1) hE hC hj g1) ?hc_76_40 ?hk_76_40 rfl rfl (Nat.le_of_ble_eq_true rfl) ?_; (case hc_76_40 => exact cw_cell (f := 1) hC rfl rfl g1); (case hk_76_40 => rfl)
  rintro _ _ ⟨rfl, rfl⟩
  refine mm_if_eq (pc := 79) (tgt := 86) dX11_overrides_79 (by decide) (fun c79 => ?_) (fun c79 => ?_)
  · refine mm_iconst (pc := 86) (v := 0) dX11_overrides_86 (by decide) ?_
    refine mm_iret (pc := 87) dX11_overrides_87 rfl ?_
    exact gP_ok hC (by rw [hsp]; cases z : xb (cL C 1 (gb M k q) 7) j <;> rw [z] at c79 <;> first | rfl | exact absurd c79 (by decide) | exact absurd rfl c79)
  · refine mm_iconst (pc := 82) (v := 1) dX11_overrides_82 (by decide) ?_
    refine mm_goto (pc := 83) (tgt := 87) dX11_overrides_83 (by decide) ?_
    refine mm_iret (pc := 87) dX11_overrides_87 rfl ?_
    exact gP_ok hC (by rw [hsp]; cases z : xb (cL C 1 (gb M k q) 7) j <;> rw [z] at c79 <;> first | rfl | exact absurd c79 (by decide) | exact absurd rfl c79)

theorem ov_ok {G : mm_G} {L : Nat × Nat} {d : Nat} {h : mm_H} {h0 : mm_H} {ad : Nat → Nat → Nat} {C : cw_C} {M : mw_S} {ab : Nat → Option Nat} {nk np : Nat} {i q j : Int32} (hG : rlG ad C M ab nk np) (hC : cw ad h0 C h) : mm_Ok G mX11_overrides L (d + 3) [.ref (ad 11 0), .int i, .int q, .int j] h (fun r h1 => gP ad h0 C h (sp_overrides M ab i q j) r h1) := by
  have h40 := hG.1.2.1.1
  by_cases hi : sp_in i (nI nk) = 0
  · exact ov_i hG hi hC
  · obtain ⟨k, hk, rfl⟩ := sp_in_of hi rfl (by omega)
    by_cases hj : sp_in j (nI nk) = 0
    · exact ov_j hG hk hj hC
    · obtain ⟨jj, hjj, rfl⟩ := sp_in_of hj rfl (by omega)
      by_cases hq : sp_in q 6 = 0
      · exact ov_q hG hk hjj hq hC
      · obtain ⟨qq, hqq, rfl⟩ := sp_in_of (n := 6) hq rfl (by decide)
        cases hh : rm_has M qq k with
        | false => exact ov_n hG hk hjj hqq hh hC
        | true =>
          cases hg : rm_has M qq jj with
          | false => exact ov_m hG hk hjj hqq hh hg hC
          | true => exact ov_s hG hk hjj hqq hh hg hC

