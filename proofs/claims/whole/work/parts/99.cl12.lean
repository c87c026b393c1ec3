theorem un_no {G : mm_G} {L : Nat × Nat} {d : Nat} {h : mm_H} {h0 : mm_H} {ad : Nat → Nat → Nat} {C : cw_C} {M : mw_S} {ab : Nat → Option Nat} {nk np : Nat} (hG : rlG ad C M ab nk np) {na : Nat} (hv : vsR ad C M nk na) {ne : Nat} (he : enR ad C M na ne) (h0e : ne = 0) (hC : cw ad h0 C h) : mm_Ok G mX11_undo L (d + 2) [.ref (ad 11 0)] h (fun r h1 => gP ad h0 C h (-2, 2) r h1) := by
  refine mm_Ok.of [(0, .ref (ad 11 0))] rfl kX11_undo.2.2.2.2.2 rfl (fun A => ?_)
  obtain ⟨hR, hE, ⟨n11, n13⟩, f3, f9, s3, s19⟩ := id hG
  have n7 := hR.1.1
  have hk40 := hR.2.1.1
  obtain ⟨⟨v11, n16, n9⟩, hn20, v0, v1, s48, hV⟩ := id hv
  obtain ⟨⟨n17, n3⟩, hn512, z7, z8, s54, hN⟩ := id he
  subst h0e
  refine mm_aload_n (pc := 0) dX11_undo_0 rfl (by first | trivial | assumption | exact mm_isr_rf _) ?_
  refine cw_gi (pc := 1) 11 _ 8 hC (rfl) rfl (n11) dX11_undo_1 fl_X11_49 rfl rfl rfl ?_
  refine mm_topi _ z8 ?_
  refine mm_iconst (pc := 4) (v := 1) dX11_undo_4 (by decide) ?_
  refine mm_icmp_lt (pc := 5) (tgt := 34) dX11_undo_5 (by decide) (fun c5 => ?_) (fun c5 => absurd (by decide) c5)
  refine mm_aload_n (pc := 34) dX11_undo_34 rfl (by first | trivial | assumption | exact mm_isr_rf _) ?_
  refine mm_bipush (pc := 35) (v := (-2)) dX11_undo_35 (by decide) ?_
  refine mm_callV (pc := 37) (As := [_]) (kd := ?kd_37_1) (fs := ?fs_37_1) dX11_undo_37 vl_X11_96 (tl_ok (c := 2) n11 n13 f9 rfl (by decide) (by decide) hC) ?hc_37_1 ?hk_37_1 rfl rfl (Nat.le_of_ble_eq_true rfl) ?_; (case hc_37_1 => exact cw_cell (f := 11) hC rfl rfl n11); (case hk_37_1 => rfl)
  rintro _ h37 ⟨hC, e37, rfl⟩
  refine mm_iret (pc := 40) dX11_undo_40 rfl ?_
  exact gP_no hC e37 (by rfl) (by decide)

theorem fe_lo {G : mm_G} {L : Nat × Nat} {d : Nat} {h : mm_H} {h0 : mm_H} {ad : Nat → Nat → Nat} {C : cw_C} {M : mw_S} {ab : Nat → Option Nat} {nk np : Nat} {w : Int64} {n : Int32} (hG : rlG ad C M ab nk np) (hn : n < 1) (hC : cw ad h0 C h) : mm_Ok G mX11_feed L (d + 2) [.ref (ad 11 0), .long w, .int n] h (fun r h1 => gP ad h0 C h (-1, 1) r h1) := by
  refine mm_Ok.of [(0, .ref (ad 11 0)), (1, .long w), (3, .int n)] rfl kX11_feed.2.2.2.2.2 rfl (fun A => ?_)
  obtain ⟨hR, hE, ⟨n11, n13⟩, f3, f9, s3, s19⟩ := id hG
  have n7 := hR.1.1
  have hk40 := hR.2.1.1
  refine mm_iload_n (pc := 0) dX11_feed_0 rfl ?_
  refine mm_iconst (pc := 1) (v := 1) dX11_feed_1 (by decide) ?_
  refine mm_icmp_lt (pc := 2) (tgt := 11) dX11_feed_2 (by decide) (fun c2 => ?_) (fun c2 => absurd hn c2)
  refine mm_aload_n (pc := 11) dX11_feed_11 rfl (by first | trivial | assumption | exact mm_isr_rf _) ?_
  refine mm_iconst (pc := 12) (v := (-1)) dX11_feed_12 (by decide) ?_
  refine mm_callV (pc := 13) (As := [_]) (kd := ?kd_13_2) (fs := ?fs_13_2) dX11_feed_13 vl_X11_96 (tl_ok (c := 1) n11 n13 f9 rfl (by decide) (by decide) hC) ?hc_13_2 ?hk_13_2 rfl rfl (Nat.le_of_ble_eq_true rfl) ?_; (case hc_13_2 => exact cw_cell (f := 11) hC rfl rfl n11); (case hk_13_2 => rfl)
  rintro _ h13 ⟨hC, e13, rfl⟩
  refine mm_iret (pc := 16) dX11_feed_16 rfl ?_
  exact gP_no hC e13 (by rfl) (by decide)

theorem fe_hi {G : mm_G} {L : Nat × Nat} {d : Nat} {h : mm_H} {h0 : mm_H} {ad : Nat → Nat → Nat} {C : cw_C} {M : mw_S} {ab : Nat → Option Nat} {nk np : Nat} {w : Int64} {n : Int32} (hG : rlG ad C M ab nk np) (hn : ¬ n < 1) (hm : ¬ n ≤ 8) (hC : cw ad h0 C h) : mm_Ok G mX11_feed L (d + 2) [.ref (ad 11 0), .long w, .int n] h (fun r h1 => gP ad h0 C h (-1, 1) r h1) := by
  refine mm_Ok.of [(0, .ref (ad 11 0)), (1, .long w), (3, .int n)] rfl kX11_feed.2.2.2.2.2 rfl (fun A => ?_)
  obtain ⟨hR, hE, ⟨n11, n13⟩, f3, f9, s3, s19⟩ := id hG
  have n7 := hR.1.1
  have hk40 := hR.2.1.1
  refine mm_iload_n (pc := 0) dX11_feed_0 rfl ?_
  refine mm_iconst (pc := 1) (v := 1) dX11_feed_1 (by decide) ?_
  refine mm_icmp_lt (pc := 2) (tgt := 11) dX11_feed_2 (by decide) (fun c2 => absurd c2 hn) (fun c2 => ?_)
  refine mm_iload_n (pc := 5) dX11_feed_5 rfl ?_
  refine mm_bipush (pc := 6) (v := 8) dX11_feed_6 (by decide) ?_
  refine mm_icmp_le (pc := 8) (tgt := 17) dX11_feed_8 (by decide) (fun c8 => absurd c8 hm) (fun c8 => ?_)
  refine mm_aload_n (pc := 11) dX11_feed_11 rfl (by first | trivial | assumption | exact mm_isr_rf _) ?_
  refine mm_iconst (pc := 12) (v := (-1)) dX11_feed_12 (by decide) ?_
  refine mm_callV (pc := 13) (As := [_]) (kd := ?kd_13_3) (fs := ?fs_13_3) dX11_feed_13 vl_X11_96 (tl_ok (c := 1) n11 n13 f9 rfl (by decide) (by decide) hC) ?hc_13_3 ?hk_13_3 rfl rfl (Nat.le_of_ble_eq_true rfl) ?_; (case hc_13_3 => exact cw_cell (f := 11) hC rfl rfl n11); (case hk_13_3 => rfl)
  rintro _ h13 ⟨hC, e13, rfl⟩
  refine mm_iret (pc := 16) dX11_feed_16 rfl ?_
  exact gP_no hC e13 (by rfl) (by decide)

