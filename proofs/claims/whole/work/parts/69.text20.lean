/-! the reference's constructor behind its arrays: the three kinds of the house -/
def inA (M : mw_S) (a7 : Nat) : mw_S := itM (itM (itM (itM (itM (itM (bgM M 0 a7 (-1)) 0 0) 1 1) 2 1) 3 1) 4 2) 5 0
def inB (M : mw_S) (a8 : Nat) : mw_S := rm_body (mw_setV (rm_action (rm_action (bgM M 1 a8 0) 6 1 0) 7 3 14) 18 6 (nI 7)) (6 * 1 + 4) 2 0 (nI 6) 2
def inC (M : mw_S) (a9 : Nat) : mw_S := rm_body (mw_setV (rm_action (rm_action (bgM M 2 a9 1) 8 1 0) 9 4 1) 18 8 (nI 9)) (6 * 2 + 2) 1 1 (nI 8) 2

theorem in_tail {G : mm_G} {L : Nat × Nat} {d : Nat} {h h0 : mm_H} {m : Nat} {ad : Nat → Nat} {M : mw_S} {A : Nat → Prop} {Q : Option Value → mm_H → Prop} {i_ : Int32} {b8 b9 : List Int32} (hs1 : M.1 3 = nI 1) (hs13 : M.1 13 = nI 6) (s8 : sO m ad h0 (G.2.2.2.2.1 8) b8) (s9 : sO m ad h0 (G.2.2.2.2.1 9) b9) (hW : mw_W m ad h0 M h) (kk : ∀ h1 : mm_H, mw_W m ad h0 (inC (inB M (G.2.2.2.2.1 8)) (G.2.2.2.2.1 9)) h1 → h1.2 = h.2 → Q none h1) : mm_Run G mX12_init A L (d + 2) 452 [(1, .int i_), (0, .ref m)] [] h Q := by
  refine mm_aload_n (pc := 452) dX12_init_452 rfl (by first | trivial | assumption | exact mm_isr_rf _) ?_
  obtain ⟨_, _, _, _, c8, k8, -⟩ := s8.keep hW
  refine mm_ldcS (pc := 453) (i := 8) dX12_init_453 rfl ?_
  refine mm_iconst (pc := 455) (v := 0) dX12_init_455 (by decide) ?_
  refine mm_callV (pc := 456) (As := [_, _]) (kd := ?kd_456_1) (fs := ?fs_456_1) dX12_init_456 vl_X12_157 (ok_begin (nk := 1) (x := 0) hs1 (by omega) c8 k8 hW) ?hc_456_1 ?hk_456_1 rfl rfl (Nat.le_of_ble_eq_true rfl) ?_; (case hc_456_1 => exact hW.1); (case hk_456_1 => rfl)
  rintro _ h456_ ⟨hW, e456_, rfl⟩
  refine mm_aload_n (pc := 459) dX12_init_459 rfl (by first | trivial | assumption | exact mm_isr_rf _) ?_
  refine mm_iconst (pc := 460) (v := 1) dX12_init_460 (by decide) ?_
  refine mm_iconst (pc := 461) (v := 4) dX12_init_461 (by decide) ?_
  refine mm_iconst (pc := 462) (v := 2) dX12_init_462 (by decide) ?_
  refine mm_iconst (pc := 463) (v := 0) dX12_init_463 (by decide) ?_
  refine mm_aload_n (pc := 464) dX12_init_464 rfl (by first | trivial | assumption | exact mm_isr_rf _) ?_
  refine mm_aload_n (pc := 465) dX12_init_465 rfl (by first | trivial | assumption | exact mm_isr_rf _) ?_
  refine mm_iconst (pc := 466) (v := 1) dX12_init_466 (by decide) ?_
  refine mm_iconst (pc := 467) (v := 0) dX12_init_467 (by decide) ?_
  refine mm_callV (pc := 468) (As := [_, _]) (kd := ?kd_468_2) (fs := ?fs_468_2) dX12_init_468 vl_X12_171 (ok_X12_action (op := 1) (x := 0) (a := 6) (by first | rfl | assumption) (by omega) hW) ?hc_468_2 ?hk_468_2 rfl rfl (Nat.le_of_ble_eq_true rfl) ?_; (case hc_468_2 => exact hW.1); (case hk_468_2 => rfl)
  rintro _ h468_ ⟨hW, e468_, rfl⟩
  refine mm_aload_n (pc := 471) dX12_init_471 rfl (by first | trivial | assumption | exact mm_isr_rf _) ?_
  refine mm_bipush (pc := 472) (v := 14) dX12_init_472 (by decide) ?_
  refine mm_callV (pc := 474) (As := [_]) (kd := ?kd_474_3) (fs := ?fs_474_3) dX12_init_474 vl_X12_161 (ok_X12_say (a := 7) (x := 14) (by rfl) (by omega) hW) ?hc_474_3 ?hk_474_3 rfl rfl (Nat.le_of_ble_eq_true rfl) ?_; (case hc_474_3 => exact hW.1); (case hk_474_3 => rfl)
  rintro _ h474_ ⟨hW, e474_, rfl⟩
  refine mm_callV (pc := 477) (As := [_, _]) (kd := ?kd_477_4) (fs := ?fs_477_4) dX12_init_477 vl_X12_175 (ok_X12_two (a := 6) (b := 7) (by omega) hW) ?hc_477_4 ?hk_477_4 rfl rfl (Nat.le_of_ble_eq_true rfl) ?_; (case hc_477_4 => exact hW.1); (case hk_477_4 => rfl)
  rintro _ h477_ ⟨hW, e477_, rfl⟩
  refine mm_iconst (pc := 480) (v := 2) dX12_init_480 (by decide) ?_
  refine mm_callV (pc := 481) (As := [_, _, _, _, _, _]) (kd := ?kd_481_5) (fs := ?fs_481_5) dX12_init_481 vl_X12_165 (ok_X12_body (k := 1) (q := 4) (r1 := 2) (l := 0) (f := nI 6) (n := 2) (by omega) (by omega) (by first | exact Or.inl rfl | exact Or.inr rfl) hW) ?hc_481_5 ?hk_481_5 rfl rfl (Nat.le_of_ble_eq_true rfl) ?_; (case hc_481_5 => exact hW.1); (case hk_481_5 => rfl)
  rintro _ h481_ ⟨hW, e481_, rfl⟩
  refine mm_aload_n (pc := 484) dX12_init_484 rfl (by first | trivial | assumption | exact mm_isr_rf _) ?_
  have hs2 : (inB M (G.2.2.2.2.1 8)).1 3 = nI 2 := rfl
  obtain ⟨_, _, _, _, c9, k9, -⟩ := s9.keep hW
  refine mm_ldcS (pc := 485) (i := 9) dX12_init_485 rfl ?_
  refine mm_iconst (pc := 487) (v := 1) dX12_init_487 (by decide) ?_
  refine mm_callV (pc := 488) (As := [_, _]) (kd := ?kd_488_6) (fs := ?fs_488_6) dX12_init_488 vl_X12_157 (ok_begin (nk := 2) (x := 1) hs2 (by omega) c9 k9 hW) ?hc_488_6 ?hk_488_6 rfl rfl (Nat.le_of_ble_eq_true rfl) ?_; (case hc_488_6 => exact hW.1); (case hk_488_6 => rfl)
  rintro _ h488_ ⟨hW, e488_, rfl⟩
  refine mm_aload_n (pc := 491) dX12_init_491 rfl (by first | trivial | assumption | exact mm_isr_rf _) ?_
  refine mm_iconst (pc := 492) (v := 2) dX12_init_492 (by decide) ?_
  refine mm_iconst (pc := 493) (v := 2) dX12_init_493 (by decide) ?_
  refine mm_iconst (pc := 494) (v := 1) dX12_init_494 (by decide) ?_
  refine mm_iconst (pc := 495) (v := 1) dX12_init_495 (by decide) ?_
  refine mm_aload_n (pc := 496) dX12_init_496 rfl (by first | trivial | assumption | exact mm_isr_rf _) ?_
  refine mm_aload_n (pc := 497) dX12_init_497 rfl (by first | trivial | assumption | exact mm_isr_rf _) ?_
  refine mm_iconst (pc := 498) (v := 1) dX12_init_498 (by decide) ?_
  refine mm_iconst (pc := 499) (v := 0) dX12_init_499 (by decide) ?_
  refine mm_callV (pc := 500) (As := [_, _]) (kd := ?kd_500_7) (fs := ?fs_500_7) dX12_init_500 vl_X12_171 (ok_X12_action (op := 1) (x := 0) (a := 8) (by first | rfl | assumption) (by omega) hW) ?hc_500_7 ?hk_500_7 rfl rfl (Nat.le_of_ble_eq_true rfl) ?_; (case hc_500_7 => exact hW.1); (case hk_500_7 => rfl)
  rintro _ h500_ ⟨hW, e500_, rfl⟩
  refine mm_aload_n (pc := 503) dX12_init_503 rfl (by first | trivial | assumption | exact mm_isr_rf _) ?_
  refine mm_iconst (pc := 504) (v := 4) dX12_init_504 (by decide) ?_
  refine mm_iconst (pc := 505) (v := 1) dX12_init_505 (by decide) ?_
  refine mm_callV (pc := 506) (As := [_, _]) (kd := ?kd_506_8) (fs := ?fs_506_8) dX12_init_506 vl_X12_171 (ok_X12_action (op := 4) (x := 1) (a := 9) (by first | rfl | assumption) (by omega) hW) ?hc_506_8 ?hk_506_8 rfl rfl (Nat.le_of_ble_eq_true rfl) ?_; (case hc_506_8 => exact hW.1); (case hk_506_8 => rfl)
  rintro _ h506_ ⟨hW, e506_, rfl⟩
  refine mm_callV (pc := 509) (As := [_, _]) (kd := ?kd_509_9) (fs := ?fs_509_9) dX12_init_509 vl_X12_175 (ok_X12_two (a := 8) (b := 9) (by omega) hW) ?hc_509_9 ?hk_509_9 rfl rfl (Nat.le_of_ble_eq_true rfl) ?_; (case hc_509_9 => exact hW.1); (case hk_509_9 => rfl)
  rintro _ h509_ ⟨hW, e509_, rfl⟩
  refine mm_iconst (pc := 512) (v := 2) dX12_init_512 (by decide) ?_
  refine mm_callV (pc := 513) (As := [_, _, _, _, _, _]) (kd := ?kd_513_10) (fs := ?fs_513_10) dX12_init_513 vl_X12_165 (ok_X12_body (k := 2) (q := 2) (r1 := 1) (l := 1) (f := nI 8) (n := 2) (by omega) (by omega) (by first | exact Or.inl rfl | exact Or.inr rfl) hW) ?hc_513_10 ?hk_513_10 rfl rfl (Nat.le_of_ble_eq_true rfl) ?_; (case hc_513_10 => exact hW.1); (case hk_513_10 => rfl)
  rintro _ h513_ ⟨hW, e513_, rfl⟩
  refine mm_vret (pc := 516) dX12_init_516 rfl ?_
  exact kk _ hW (by rw [e513_, e509_, e506_, e500_, e488_, e481_, e477_, e474_, e468_, e456_])

