/-! the reference's constructor, its loop of six -/
def itM (M : mw_S) (i : Nat) (r_ : Int32) : mw_S := rm_body (rm_action M i 3 (nI i)) (6 * 0 + i) r_ 0 (nI i) 1

theorem it_0 {G : mm_G} {L : Nat × Nat} {d : Nat} {h h0 : mm_H} {m : Nat} {ad : Nat → Nat} {M : mw_S} {A : Nat → Prop} {Q : Option Value → mm_H → Prop} (hs : M.1 13 = nI 0) (hW : mw_W m ad h0 M h) (kk : ∀ h1 : mm_H, mw_W m ad h0 (itM M 0 0) h1 → h1.2 = h.2 → mm_Run G mX12_init A L (d + 2) 404 [(1, .int (nI 1)), (0, .ref m)] [] h1 Q) : mm_Run G mX12_init A L (d + 2) 404 [(1, .int (nI 0)), (0, .ref m)] [] h Q := by
  refine mm_iload_n (pc := 404) dX12_init_404 rfl ?_
  refine mm_bipush (pc := 405) (v := 6) dX12_init_405 (by decide) ?_
  refine mm_icmp_ge (pc := 407) (tgt := 452) dX12_init_407 (by decide) (fun c407 => absurd c407 (by decide)) (fun c407 => ?_)
  refine mm_aload_n (pc := 410) dX12_init_410 rfl (by first | trivial | assumption | exact mm_isr_rf _) ?_
  refine mm_iconst (pc := 411) (v := 0) dX12_init_411 (by decide) ?_
  refine mm_iload_n (pc := 412) dX12_init_412 rfl ?_
  refine mm_iload_n (pc := 413) dX12_init_413 rfl ?_
  refine mm_if_eq (pc := 414) (tgt := 422) dX12_init_414 (by decide) (fun c414 => ?_) (fun c414 => absurd (by decide) c414)
  refine mm_iconst (pc := 422) (v := 0) dX12_init_422 (by decide) ?_
  refine mm_goto (pc := 423) (tgt := 436) dX12_init_423 (by decide) ?_
  refine mm_iconst (pc := 436) (v := 0) dX12_init_436 (by decide) ?_
  refine mm_aload_n (pc := 437) dX12_init_437 rfl (by first | trivial | assumption | exact mm_isr_rf _) ?_
  refine mm_iload_n (pc := 438) dX12_init_438 rfl ?_
  refine mm_callV (pc := 439) (As := [_]) (kd := ?kd_439_1) (fs := ?fs_439_1) dX12_init_439 vl_X12_161 (ok_X12_say (a := 0) (x := nI 0) hs (by omega) hW) ?hc_439_1 ?hk_439_1 rfl rfl (Nat.le_of_ble_eq_true rfl) ?_; (case hc_439_1 => exact hW.1); (case hk_439_1 => rfl)
  rintro _ h_ ⟨hW, e_, rfl⟩
  refine mm_iconst (pc := 442) (v := 1) dX12_init_442 (by decide) ?_
  refine mm_callV (pc := 443) (As := [_, _, _, _, _, _]) (kd := ?kd_443_2) (fs := ?fs_443_2) dX12_init_443 vl_X12_165 (ok_X12_body (k := 0) (q := 0) (r1 := 0) (l := 0) (f := nI 0) (n := 1) (by omega) (by omega) (Or.inl rfl) hW) ?hc_443_2 ?hk_443_2 rfl rfl (Nat.le_of_ble_eq_true rfl) ?_; (case hc_443_2 => exact hW.1); (case hk_443_2 => rfl)
  rintro _ g_ ⟨hW, f_, rfl⟩
  refine mm_iinc (pc := 446) dX12_init_446 rfl rfl rfl (Nat.le_of_ble_eq_true rfl) ?_
  refine mm_goto (pc := 449) (tgt := 404) dX12_init_449 (by decide) ?_
  exact mm_weakK (kk g_ hW (by rw [f_, e_])) (And.intro rfl (And.intro rfl trivial))

theorem it_1 {G : mm_G} {L : Nat × Nat} {d : Nat} {h h0 : mm_H} {m : Nat} {ad : Nat → Nat} {M : mw_S} {A : Nat → Prop} {Q : Option Value → mm_H → Prop} (hs : M.1 13 = nI 1) (hW : mw_W m ad h0 M h) (kk : ∀ h1 : mm_H, mw_W m ad h0 (itM M 1 1) h1 → h1.2 = h.2 → mm_Run G mX12_init A L (d + 2) 404 [(1, .int (nI 2)), (0, .ref m)] [] h1 Q) : mm_Run G mX12_init A L (d + 2) 404 [(1, .int (nI 1)), (0, .ref m)] [] h Q := by
  refine mm_iload_n (pc := 404) dX12_init_404 rfl ?_
  refine mm_bipush (pc := 405) (v := 6) dX12_init_405 (by decide) ?_
  refine mm_icmp_ge (pc := 407) (tgt := 452) dX12_init_407 (by decide) (fun c407 => absurd c407 (by decide)) (fun c407 => ?_)
  refine mm_aload_n (pc := 410) dX12_init_410 rfl (by first | trivial | assumption | exact mm_isr_rf _) ?_
  refine mm_iconst (pc := 411) (v := 0) dX12_init_411 (by decide) ?_
  refine mm_iload_n (pc := 412) dX12_init_412 rfl ?_
  refine mm_iload_n (pc := 413) dX12_init_413 rfl ?_
  refine mm_if_eq (pc := 414) (tgt := 422) dX12_init_414 (by decide) (fun c414 => absurd c414 (by decide)) (fun c414 => ?_)
  refine mm_iload_n (pc := 417) dX12_init_417 rfl ?_
  refine mm_iconst (pc := 418) (v := 5) dX12_init_418 (by decide) ?_
  refine mm_icmp_ne (pc := 419) (tgt := 426) dX12_init_419 (by decide) (fun c419 => ?_) (fun c419 => absurd c419 (by decide))
  refine mm_iload_n (pc := 426) dX12_init_426 rfl ?_
  refine mm_iconst (pc := 427) (v := 4) dX12_init_427 (by decide) ?_
  refine mm_icmp_ne (pc := 428) (tgt := 435) dX12_init_428 (by decide) (fun c428 => ?_) (fun c428 => absurd c428 (by decide))
  refine mm_iconst (pc := 435) (v := 1) dX12_init_435 (by decide) ?_
  refine mm_iconst (pc := 436) (v := 0) dX12_init_436 (by decide) ?_
  refine mm_aload_n (pc := 437) dX12_init_437 rfl (by first | trivial | assumption | exact mm_isr_rf _) ?_
  refine mm_iload_n (pc := 438) dX12_init_438 rfl ?_
  refine mm_callV (pc := 439) (As := [_]) (kd := ?kd_439_3) (fs := ?fs_439_3) dX12_init_439 vl_X12_161 (ok_X12_say (a := 1) (x := nI 1) hs (by omega) hW) ?hc_439_3 ?hk_439_3 rfl rfl (Nat.le_of_ble_eq_true rfl) ?_; (case hc_439_3 => exact hW.1); (case hk_439_3 => rfl)
  rintro _ h_ ⟨hW, e_, rfl⟩
  refine mm_iconst (pc := 442) (v := 1) dX12_init_442 (by decide) ?_
  refine mm_callV (pc := 443) (As := [_, _, _, _, _, _]) (kd := ?kd_443_4) (fs := ?fs_443_4) dX12_init_443 vl_X12_165 (ok_X12_body (k := 0) (q := 1) (r1 := 1) (l := 0) (f := nI 1) (n := 1) (by omega) (by omega) (Or.inl rfl) hW) ?hc_443_4 ?hk_443_4 rfl rfl (Nat.le_of_ble_eq_true rfl) ?_; (case hc_443_4 => exact hW.1); (case hk_443_4 => rfl)
  rintro _ g_ ⟨hW, f_, rfl⟩
  refine mm_iinc (pc := 446) dX12_init_446 rfl rfl rfl (Nat.le_of_ble_eq_true rfl) ?_
  refine mm_goto (pc := 449) (tgt := 404) dX12_init_449 (by decide) ?_
  exact mm_weakK (kk g_ hW (by rw [f_, e_])) (And.intro rfl (And.intro rfl trivial))

theorem it_2 {G : mm_G} {L : Nat × Nat} {d : Nat} {h h0 : mm_H} {m : Nat} {ad : Nat → Nat} {M : mw_S} {A : Nat → Prop} {Q : Option Value → mm_H → Prop} (hs : M.1 13 = nI 2) (hW : mw_W m ad h0 M h) (kk : ∀ h1 : mm_H, mw_W m ad h0 (itM M 2 1) h1 → h1.2 = h.2 → mm_Run G mX12_init A L (d + 2) 404 [(1, .int (nI 3)), (0, .ref m)] [] h1 Q) : mm_Run G mX12_init A L (d + 2) 404 [(1, .int (nI 2)), (0, .ref m)] [] h Q := by
  refine mm_iload_n (pc := 404) dX12_init_404 rfl ?_
  refine mm_bipush (pc := 405) (v := 6) dX12_init_405 (by decide) ?_
  refine mm_icmp_ge (pc := 407) (tgt := 452) dX12_init_407 (by decide) (fun c407 => absurd c407 (by decide)) (fun c407 => ?_)
  refine mm_aload_n (pc := 410) dX12_init_410 rfl (by first | trivial | assumption | exact mm_isr_rf _) ?_
  refine mm_iconst (pc := 411) (v := 0) dX12_init_411 (by decide) ?_
  refine mm_iload_n (pc := 412) dX12_init_412 rfl ?_
  refine mm_iload_n (pc := 413) dX12_init_413 rfl ?_
  refine mm_if_eq (pc := 414) (tgt := 422) dX12_init_414 (by decide) (fun c414 => absurd c414 (by decide)) (fun c414 => ?_)
  refine mm_iload_n (pc := 417) dX12_init_417 rfl ?_
  refine mm_iconst (pc := 418) (v := 5) dX12_init_418 (by decide) ?_
  refine mm_icmp_ne (pc := 419) (tgt := 426) dX12_init_419 (by decide) (fun c419 => ?_) (fun c419 => absurd c419 (by decide))
  refine mm_iload_n (pc := 426) dX12_init_426 rfl ?_
  refine mm_iconst (pc := 427) (v := 4) dX12_init_427 (by decide) ?_
  refine mm_icmp_ne (pc := 428) (tgt := 435) dX12_init_428 (by decide) (fun c428 => ?_) (fun c428 => absurd c428 (by decide))
  refine mm_iconst (pc := 435) (v := 1) dX12_init_435 (by decide) ?_
  refine mm_iconst (pc := 436) (v := 0) dX12_init_436 (by decide) ?_
  refine mm_aload_n (pc := 437) dX12_init_437 rfl (by first | trivial | assumption | exact mm_isr_rf _) ?_
  refine mm_iload_n (pc := 438) dX12_init_438 rfl ?_
  refine mm_callV (pc := 439) (As := [_]) (kd := ?kd_439_5) (fs := ?fs_439_5) dX12_init_439 vl_X12_161 (ok_X12_say (a := 2) (x := nI 2) hs (by omega) hW) ?hc_439_5 ?hk_439_5 rfl rfl (Nat.le_of_ble_eq_true rfl) ?_; (case hc_439_5 => exact hW.1); (case hk_439_5 => rfl)
  rintro _ h_ ⟨hW, e_, rfl⟩
  refine mm_iconst (pc := 442) (v := 1) dX12_init_442 (by decide) ?_
  refine mm_callV (pc := 443) (As := [_, _, _, _, _, _]) (kd := ?kd_443_6) (fs := ?fs_443_6) dX12_init_443 vl_X12_165 (ok_X12_body (k := 0) (q := 2) (r1 := 1) (l := 0) (f := nI 2) (n := 1) (by omega) (by omega) (Or.inl rfl) hW) ?hc_443_6 ?hk_443_6 rfl rfl (Nat.le_of_ble_eq_true rfl) ?_; (case hc_443_6 => exact hW.1); (case hk_443_6 => rfl)
  rintro _ g_ ⟨hW, f_, rfl⟩
  refine mm_iinc (pc := 446) dX12_init_446 rfl rfl rfl (Nat.le_of_ble_eq_true rfl) ?_
  refine mm_goto (pc := 449) (tgt := 404) dX12_init_449 (by decide) ?_
  exact mm_weakK (kk g_ hW (by rw [f_, e_])) (And.intro rfl (And.intro rfl trivial))

theorem it_3 {G : mm_G} {L : Nat × Nat} {d : Nat} {h h0 : mm_H} {m : Nat} {ad : Nat → Nat} {M : mw_S} {A : Nat → Prop} {Q : Option Value → mm_H → Prop} (hs : M.1 13 = nI 3) (hW : mw_W m ad h0 M h) (kk : ∀ h1 : mm_H, mw_W m ad h0 (itM M 3 1) h1 → h1.2 = h.2 → mm_Run G mX12_init A L (d + 2) 404 [(1, .int (nI 4)), (0, .ref m)] [] h1 Q) : mm_Run G mX12_init A L (d + 2) 404 [(1, .int (nI 3)), (0, .ref m)] [] h Q := by
  refine mm_iload_n (pc := 404) dX12_init_404 rfl ?_
  refine mm_bipush (pc := 405) (v := 6) dX12_init_405 (by decide) ?_
  refine mm_icmp_ge (pc := 407) (tgt := 452) dX12_init_407 (by decide) (fun c407 => absurd c407 (by decide)) (fun c407 => ?_)
  refine mm_aload_n (pc := 410) dX12_init_410 rfl (by first | trivial | assumption | exact mm_isr_rf _) ?_
  refine mm_iconst (pc := 411) (v := 0) dX12_init_411 (by decide) ?_
  refine mm_iload_n (pc := 412) dX12_init_412 rfl ?_
  refine mm_iload_n (pc := 413) dX12_init_413 rfl ?_
  refine mm_if_eq (pc := 414) (tgt := 422) dX12_init_414 (by decide) (fun c414 => absurd c414 (by decide)) (fun c414 => ?_)
  refine mm_iload_n (pc := 417) dX12_init_417 rfl ?_
  refine mm_iconst (pc := 418) (v := 5) dX12_init_418 (by decide) ?_
  refine mm_icmp_ne (pc := 419) (tgt := 426) dX12_init_419 (by decide) (fun c419 => ?_) (fun c419 => absurd c419 (by decide))
  refine mm_iload_n (pc := 426) dX12_init_426 rfl ?_
  refine mm_iconst (pc := 427) (v := 4) dX12_init_427 (by decide) ?_
  refine mm_icmp_ne (pc := 428) (tgt := 435) dX12_init_428 (by decide) (fun c428 => ?_) (fun c428 => absurd c428 (by decide))
  refine mm_iconst (pc := 435) (v := 1) dX12_init_435 (by decide) ?_
  refine mm_iconst (pc := 436) (v := 0) dX12_init_436 (by decide) ?_
  refine mm_aload_n (pc := 437) dX12_init_437 rfl (by first | trivial | assumption | exact mm_isr_rf _) ?_
  refine mm_iload_n (pc := 438) dX12_init_438 rfl ?_
  refine mm_callV (pc := 439) (As := [_]) (kd := ?kd_439_7) (fs := ?fs_439_7) dX12_init_439 vl_X12_161 (ok_X12_say (a := 3) (x := nI 3) hs (by omega) hW) ?hc_439_7 ?hk_439_7 rfl rfl (Nat.le_of_ble_eq_true rfl) ?_; (case hc_439_7 => exact hW.1); (case hk_439_7 => rfl)
  rintro _ h_ ⟨hW, e_, rfl⟩
  refine mm_iconst (pc := 442) (v := 1) dX12_init_442 (by decide) ?_
  refine mm_callV (pc := 443) (As := [_, _, _, _, _, _]) (kd := ?kd_443_8) (fs := ?fs_443_8) dX12_init_443 vl_X12_165 (ok_X12_body (k := 0) (q := 3) (r1 := 1) (l := 0) (f := nI 3) (n := 1) (by omega) (by omega) (Or.inl rfl) hW) ?hc_443_8 ?hk_443_8 rfl rfl (Nat.le_of_ble_eq_true rfl) ?_; (case hc_443_8 => exact hW.1); (case hk_443_8 => rfl)
  rintro _ g_ ⟨hW, f_, rfl⟩
  refine mm_iinc (pc := 446) dX12_init_446 rfl rfl rfl (Nat.le_of_ble_eq_true rfl) ?_
  refine mm_goto (pc := 449) (tgt := 404) dX12_init_449 (by decide) ?_
  exact mm_weakK (kk g_ hW (by rw [f_, e_])) (And.intro rfl (And.intro rfl trivial))

theorem it_4 {G : mm_G} {L : Nat × Nat} {d : Nat} {h h0 : mm_H} {m : Nat} {ad : Nat → Nat} {M : mw_S} {A : Nat → Prop} {Q : Option Value → mm_H → Prop} (hs : M.1 13 = nI 4) (hW : mw_W m ad h0 M h) (kk : ∀ h1 : mm_H, mw_W m ad h0 (itM M 4 2) h1 → h1.2 = h.2 → mm_Run G mX12_init A L (d + 2) 404 [(1, .int (nI 5)), (0, .ref m)] [] h1 Q) : mm_Run G mX12_init A L (d + 2) 404 [(1, .int (nI 4)), (0, .ref m)] [] h Q := by
  refine mm_iload_n (pc := 404) dX12_init_404 rfl ?_
  refine mm_bipush (pc := 405) (v := 6) dX12_init_405 (by decide) ?_
  refine mm_icmp_ge (pc := 407) (tgt := 452) dX12_init_407 (by decide) (fun c407 => absurd c407 (by decide)) (fun c407 => ?_)
  refine mm_aload_n (pc := 410) dX12_init_410 rfl (by first | trivial | assumption | exact mm_isr_rf _) ?_
  refine mm_iconst (pc := 411) (v := 0) dX12_init_411 (by decide) ?_
  refine mm_iload_n (pc := 412) dX12_init_412 rfl ?_
  refine mm_iload_n (pc := 413) dX12_init_413 rfl ?_
  refine mm_if_eq (pc := 414) (tgt := 422) dX12_init_414 (by decide) (fun c414 => absurd c414 (by decide)) (fun c414 => ?_)
  refine mm_iload_n (pc := 417) dX12_init_417 rfl ?_
  refine mm_iconst (pc := 418) (v := 5) dX12_init_418 (by decide) ?_
  refine mm_icmp_ne (pc := 419) (tgt := 426) dX12_init_419 (by decide) (fun c419 => ?_) (fun c419 => absurd c419 (by decide))
  refine mm_iload_n (pc := 426) dX12_init_426 rfl ?_
  refine mm_iconst (pc := 427) (v := 4) dX12_init_427 (by decide) ?_
  refine mm_icmp_ne (pc := 428) (tgt := 435) dX12_init_428 (by decide) (fun c428 => absurd (by decide) c428) (fun c428 => ?_)
  refine mm_iconst (pc := 431) (v := 2) dX12_init_431 (by decide) ?_
  refine mm_goto (pc := 432) (tgt := 436) dX12_init_432 (by decide) ?_
  refine mm_iconst (pc := 436) (v := 0) dX12_init_436 (by decide) ?_
  refine mm_aload_n (pc := 437) dX12_init_437 rfl (by first | trivial | assumption | exact mm_isr_rf _) ?_
  refine mm_iload_n (pc := 438) dX12_init_438 rfl ?_
  refine mm_callV (pc := 439) (As := [_]) (kd := ?kd_439_9) (fs := ?fs_439_9) dX12_init_439 vl_X12_161 (ok_X12_say (a := 4) (x := nI 4) hs (by omega) hW) ?hc_439_9 ?hk_439_9 rfl rfl (Nat.le_of_ble_eq_true rfl) ?_; (case hc_439_9 => exact hW.1); (case hk_439_9 => rfl)
  rintro _ h_ ⟨hW, e_, rfl⟩
  refine mm_iconst (pc := 442) (v := 1) dX12_init_442 (by decide) ?_
  refine mm_callV (pc := 443) (As := [_, _, _, _, _, _]) (kd := ?kd_443_10) (fs := ?fs_443_10) dX12_init_443 vl_X12_165 (ok_X12_body (k := 0) (q := 4) (r1 := 2) (l := 0) (f := nI 4) (n := 1) (by omega) (by omega) (Or.inl rfl) hW) ?hc_443_10 ?hk_443_10 rfl rfl (Nat.le_of_ble_eq_true rfl) ?_; (case hc_443_10 => exact hW.1); (case hk_443_10 => rfl)
  rintro _ g_ ⟨hW, f_, rfl⟩
  refine mm_iinc (pc := 446) dX12_init_446 rfl rfl rfl (Nat.le_of_ble_eq_true rfl) ?_
  refine mm_goto (pc := 449) (tgt := 404) dX12_init_449 (by decide) ?_
  exact mm_weakK (kk g_ hW (by rw [f_, e_])) (And.intro rfl (And.intro rfl trivial))

theorem it_5 {G : mm_G} {L : Nat × Nat} {d : Nat} {h h0 : mm_H} {m : Nat} {ad : Nat → Nat} {M : mw_S} {A : Nat → Prop} {Q : Option Value → mm_H → Prop} (hs : M.1 13 = nI 5) (hW : mw_W m ad h0 M h) (kk : ∀ h1 : mm_H, mw_W m ad h0 (itM M 5 0) h1 → h1.2 = h.2 → mm_Run G mX12_init A L (d + 2) 404 [(1, .int (nI 6)), (0, .ref m)] [] h1 Q) : mm_Run G mX12_init A L (d + 2) 404 [(1, .int (nI 5)), (0, .ref m)] [] h Q := by
  refine mm_iload_n (pc := 404) dX12_init_404 rfl ?_
  refine mm_bipush (pc := 405) (v := 6) dX12_init_405 (by decide) ?_
  refine mm_icmp_ge (pc := 407) (tgt := 452) dX12_init_407 (by decide) (fun c407 => absurd c407 (by decide)) (fun c407 => ?_)
  refine mm_aload_n (pc := 410) dX12_init_410 rfl (by first | trivial | assumption | exact mm_isr_rf _) ?_
  refine mm_iconst (pc := 411) (v := 0) dX12_init_411 (by decide) ?_
  refine mm_iload_n (pc := 412) dX12_init_412 rfl ?_
  refine mm_iload_n (pc := 413) dX12_init_413 rfl ?_
  refine mm_if_eq (pc := 414) (tgt := 422) dX12_init_414 (by decide) (fun c414 => absurd c414 (by decide)) (fun c414 => ?_)
  refine mm_iload_n (pc := 417) dX12_init_417 rfl ?_
  refine mm_iconst (pc := 418) (v := 5) dX12_init_418 (by decide) ?_
  refine mm_icmp_ne (pc := 419) (tgt := 426) dX12_init_419 (by decide) (fun c419 => absurd (by decide) c419) (fun c419 => ?_)
  refine mm_iconst (pc := 422) (v := 0) dX12_init_422 (by decide) ?_
  refine mm_goto (pc := 423) (tgt := 436) dX12_init_423 (by decide) ?_
  refine mm_iconst (pc := 436) (v := 0) dX12_init_436 (by decide) ?_
  refine mm_aload_n (pc := 437) dX12_init_437 rfl (by first | trivial | assumption | exact mm_isr_rf _) ?_
  refine mm_iload_n (pc := 438) dX12_init_438 rfl ?_
  refine mm_callV (pc := 439) (As := [_]) (kd := ?kd_439_11) (fs := ?fs_439_11) dX12_init_439 vl_X12_161 (ok_X12_say (a := 5) (x := nI 5) hs (by omega) hW) ?hc_439_11 ?hk_439_11 rfl rfl (Nat.le_of_ble_eq_true rfl) ?_; (case hc_439_11 => exact hW.1); (case hk_439_11 => rfl)
  rintro _ h_ ⟨hW, e_, rfl⟩
  refine mm_iconst (pc := 442) (v := 1) dX12_init_442 (by decide) ?_
  refine mm_callV (pc := 443) (As := [_, _, _, _, _, _]) (kd := ?kd_443_12) (fs := ?fs_443_12) dX12_init_443 vl_X12_165 (ok_X12_body (k := 0) (q := 5) (r1 := 0) (l := 0) (f := nI 5) (n := 1) (by omega) (by omega) (Or.inl rfl) hW) ?hc_443_12 ?hk_443_12 rfl rfl (Nat.le_of_ble_eq_true rfl) ?_; (case hc_443_12 => exact hW.1); (case hk_443_12 => rfl)
  rintro _ g_ ⟨hW, f_, rfl⟩
  refine mm_iinc (pc := 446) dX12_init_446 rfl rfl rfl (Nat.le_of_ble_eq_true rfl) ?_
  refine mm_goto (pc := 449) (tgt := 404) dX12_init_449 (by decide) ?_
  exact mm_weakK (kk g_ hW (by rw [f_, e_])) (And.intro rfl (And.intro rfl trivial))

