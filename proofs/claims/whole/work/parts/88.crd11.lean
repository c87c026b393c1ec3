theorem bQ.mono {N : Nat → Nat} {h0 : mm_H} {ad : Nat → Nat → Nat} {C C2 : cw_C} {B : Nat × Nat} {tb : Nat → Nat} {n nk k : Nat} {z : pr_T} {r : Option Value} {h1 : mm_H} (h : bQ N h0 ad C2 B tb n nk k z r h1) (o : oK N ad C ad C2) : bQ N h0 ad C B tb n nk k z r h1 := by
  obtain ⟨a, ad1, C1, b, c, e⟩ := h
  exact ⟨a, ad1, C1, b, o.trans c, e⟩

theorem rbd41 {A : Nat → Prop} {r : Int32} (hrr : r = 0 ∨ r = 1 ∨ r = 2) {G : mm_G} {L : Nat × Nat} {h0 : mm_H} {tb : Nat → Nat} {n a0 g0 nk d t k : Nat} {M : mw_S} {ad : Nat → Nat → Nat} {C : cw_C} {B : Nat × Nat} {N : Nat → Nat} {h : mm_H} (htb : ∀ i, tb i < 256) (hI : pI tb n a0 M t) (hg : gI tb n g0 M t) (hS : sKd ad C tb n nk M t k) (hk50 : k < 50) (hrm : rmB n B h (qs tb n t)) (hB1 : B.1 + 2 ≤ L.1) (hB2 : B.2 + 18 ≤ L.2) (hN1 : N 1 ≤ zG M k) (hN4 : N 4 ≤ k) (hN21 : N 21 ≤ k) (hN6 : N 6 = 0) (hNo : ∀ f, N f ≤ cN C f) (hC : cw ad h0 C h) : mm_Run G mX6_readBody A L (d + 17) 41 [(0, .ref (ad 6 0)), (1, .ref (ad 4 k)), (2, .int r)] [] h (bQ N h0 ad C B tb n nk k (pBd1 tb n k r M t)) := by
  have hr := hS.1.1
  have n6 := hr.1
  have hn7 := hI.n7
  have hn8 : n ≤ 800 := by omega
  refine mm_aload_n (pc := 41) dX6_readBody_41 rfl (by first | trivial | assumption | exact mm_isr_rf _) ?_
  refine mm_bipush (pc := 42) (v := 29) dX6_readBody_42 (by decide) ?_
  refine mm_callV (pc := 44) (As := [_]) (kd := ?kd_44_1) (fs := ?fs_44_1) dX6_readBody_44 vl_X6_39 (se_live (c := 29) (by decide) hr hn8 hC) ?hc_44_1 ?hk_44_1 rfl rfl (Nat.le_of_ble_eq_true rfl) ?_; (case hc_44_1 => exact cw_cell (f := 6) hC rfl rfl n6); (case hk_44_1 => rfl)
  rintro _ _ ⟨rfl, rfl⟩
  refine mm_istore_n (pc := 47) dX6_readBody_47 rfl (Nat.le_of_ble_eq_true rfl) ?_
  refine mm_iload_n (pc := 48) dX6_readBody_48 rfl ?_
  refine mm_if_eq (pc := 49) (tgt := 59) dX6_readBody_49 (by decide) (fun c49 => ?_) (fun c49 => ?_)
  · have hc_ : ¬ cd tb n t = 29 := bI_d.mp c49
    rw [show pBd1 tb n k r M t = pBd2 tb n k r 0 M t from if_neg hc_, decide_eq_false hc_]
    exact mm_weakK (rbd59 hrr (Or.inl rfl) htb hI hg hS hk50 hrm hB1 hB2 hN1 hN4 hN21 hN6 hNo hC) (And.intro rfl (And.intro rfl (And.intro rfl (And.intro rfl trivial))))
  · have hc_ : cd tb n t = 29 := bI_n c49
    refine mm_aload_n (pc := 52) dX6_readBody_52 rfl (by first | trivial | assumption | exact mm_isr_rf _) ?_
    refine mm_bipush (pc := 53) (v := 29) dX6_readBody_53 (by decide) ?_
    refine mm_callV (pc := 55) (As := [_]) (kd := ?kd_55_2) (fs := ?fs_55_2) dX6_readBody_55 vl_X6_31 (tk_ok (x := nI 29) hr hn8 hC (by rw [hc_]) (by omega)) ?hc_55_2 ?hk_55_2 rfl rfl (Nat.le_of_ble_eq_true rfl) ?_; (case hc_55_2 => exact cw_cell (f := 6) hC rfl rfl n6); (case hk_55_2 => rfl)
    rintro _ h55 ⟨C2, hC, k_, e_, hr2, rfl⟩
    refine mm_pop2 (pc := 58) dX6_readBody_58 rfl ?_
    rw [show pBd1 tb n k r M t = pBd2 tb n k r 1 (pw tb n M t) (t + 1) from if_pos hc_, decide_eq_true hc_]
    refine mm_post (fun r_ h_ z_ => bQ.mono z_ ((oK.refl hNo).six k_ hN6)) ?_
    exact mm_weakK (rbd59 hrr (Or.inr rfl) htb hI.w hg.w (hS.take k_ hr2) hk50 (hrm.mono (qs_le_of (Nat.le_succ t)) e_) hB1 hB2 hN1 hN4 hN21 hN6 (fun f => by rw [(k_ f).2]; exact hNo f) hC) (And.intro rfl (And.intro rfl (And.intro rfl (And.intro rfl trivial))))

theorem rbd_ok {G : mm_G} {L : Nat × Nat} {h0 : mm_H} {tb : Nat → Nat} {n a0 g0 nk d t k : Nat} {M : mw_S} {ad : Nat → Nat → Nat} {C : cw_C} {B : Nat × Nat} {N : Nat → Nat} {h : mm_H} (htb : ∀ i, tb i < 256) (hI : pI tb n a0 M t) (hg : gI tb n g0 M t) (hS : sKd ad C tb n nk M t k) (hk50 : k < 50) (hrm : rmB n B h (qs tb n t)) (hB1 : B.1 + 2 ≤ L.1) (hB2 : B.2 + 18 ≤ L.2) (hN1 : N 1 ≤ zG M k) (hN4 : N 4 ≤ k) (hN21 : N 21 ≤ k) (hN6 : N 6 = 0) (hNo : ∀ f, N f ≤ cN C f) (hC : cw ad h0 C h) : mm_Ok G mX6_readBody L (d + 17) [.ref (ad 6 0), .ref (ad 4 k)] h (fun r h1 => bQ N h0 ad C B tb n nk k (pBody tb n k M t) r h1) := by
  refine mm_Ok.of [(0, .ref (ad 6 0)), (1, .ref (ad 4 k))] rfl kX6_readBody.2.2.2.2.2 rfl (fun A => ?_)
  have hr := hS.1.1
  have n6 := hr.1
  have hn7 := hI.n7
  have hn8 : n ≤ 800 := by omega
  refine mm_iconst (pc := 0) (v := 2) dX6_readBody_0 (by decide) ?_
  refine mm_istore_n (pc := 1) dX6_readBody_1 rfl (Nat.le_of_ble_eq_true rfl) ?_
  refine mm_aload_n (pc := 2) dX6_readBody_2 rfl (by first | trivial | assumption | exact mm_isr_rf _) ?_
  refine mm_bipush (pc := 3) (v := 27) dX6_readBody_3 (by decide) ?_
  refine mm_callV (pc := 5) (As := [_]) (kd := ?kd_5_3) (fs := ?fs_5_3) dX6_readBody_5 vl_X6_39 (se_live (c := 27) (by decide) hr hn8 hC) ?hc_5_3 ?hk_5_3 rfl rfl (Nat.le_of_ble_eq_true rfl) ?_; (case hc_5_3 => exact cw_cell (f := 6) hC rfl rfl n6); (case hk_5_3 => rfl)
  rintro _ _ ⟨rfl, rfl⟩
  refine mm_if_eq (pc := 8) (tgt := 23) dX6_readBody_8 (by decide) (fun c8 => ?_) (fun c8 => ?_)
  · have hc7_ : ¬ cd tb n t = 27 := bI_d.mp c8
    refine mm_aload_n (pc := 23) dX6_readBody_23 rfl (by first | trivial | assumption | exact mm_isr_rf _) ?_
    refine mm_bipush (pc := 24) (v := 28) dX6_readBody_24 (by decide) ?_
    refine mm_callV (pc := 26) (As := [_]) (kd := ?kd_26_4) (fs := ?fs_26_4) dX6_readBody_26 vl_X6_39 (se_live (c := 28) (by decide) hr hn8 hC) ?hc_26_4 ?hk_26_4 rfl rfl (Nat.le_of_ble_eq_true rfl) ?_; (case hc_26_4 => exact cw_cell (f := 6) hC rfl rfl n6); (case hk_26_4 => rfl)
    rintro _ _ ⟨rfl, rfl⟩
    refine mm_if_eq (pc := 29) (tgt := 41) dX6_readBody_29 (by decide) (fun c29 => ?_) (fun c29 => ?_)
    · have hc_ : ¬ cd tb n t = 28 := bI_d.mp c29
      rw [show pBody tb n k M t = pBd1 tb n k 2 M t from (if_neg hc7_).trans (if_neg hc_)]
      exact mm_weakK (rbd41 (Or.inr (Or.inr rfl)) htb hI hg hS hk50 hrm hB1 hB2 hN1 hN4 hN21 hN6 hNo hC) (And.intro rfl (And.intro rfl (And.intro rfl trivial)))
    · have hc_ : cd tb n t = 28 := bI_n c29
      refine mm_aload_n (pc := 32) dX6_readBody_32 rfl (by first | trivial | assumption | exact mm_isr_rf _) ?_
      refine mm_bipush (pc := 33) (v := 28) dX6_readBody_33 (by decide) ?_
      refine mm_callV (pc := 35) (As := [_]) (kd := ?kd_35_5) (fs := ?fs_35_5) dX6_readBody_35 vl_X6_31 (tk_ok (x := nI 28) hr hn8 hC (by rw [hc_]) (by omega)) ?hc_35_5 ?hk_35_5 rfl rfl (Nat.le_of_ble_eq_true rfl) ?_; (case hc_35_5 => exact cw_cell (f := 6) hC rfl rfl n6); (case hk_35_5 => rfl)
      rintro _ h35 ⟨C2, hC, k_, e_, hr2, rfl⟩
      refine mm_pop2 (pc := 38) dX6_readBody_38 rfl ?_
      refine mm_iconst (pc := 39) (v := 1) dX6_readBody_39 (by decide) ?_
      refine mm_istore_n (pc := 40) dX6_readBody_40 rfl (Nat.le_of_ble_eq_true rfl) ?_
      rw [show pBody tb n k M t = pBd1 tb n k 1 (pw tb n M t) (t + 1) from (if_neg hc7_).trans (if_pos hc_)]
      refine mm_post (fun r_ h_ z_ => bQ.mono z_ ((oK.refl hNo).six k_ hN6)) ?_
      exact mm_weakK (rbd41 (Or.inr (Or.inl rfl)) htb hI.w hg.w (hS.take k_ hr2) hk50 (hrm.mono (qs_le_of (Nat.le_succ t)) e_) hB1 hB2 hN1 hN4 hN21 hN6 (fun f => by rw [(k_ f).2]; exact hNo f) hC) (And.intro rfl (And.intro rfl (And.intro rfl trivial)))
  · have hc_ : cd tb n t = 27 := bI_n c8
    refine mm_aload_n (pc := 11) dX6_readBody_11 rfl (by first | trivial | assumption | exact mm_isr_rf _) ?_
    refine mm_bipush (pc := 12) (v := 27) dX6_readBody_12 (by decide) ?_
    refine mm_callV (pc := 14) (As := [_]) (kd := ?kd_14_6) (fs := ?fs_14_6) dX6_readBody_14 vl_X6_31 (tk_ok (x := nI 27) hr hn8 hC (by rw [hc_]) (by omega)) ?hc_14_6 ?hk_14_6 rfl rfl (Nat.le_of_ble_eq_true rfl) ?_; (case hc_14_6 => exact cw_cell (f := 6) hC rfl rfl n6); (case hk_14_6 => rfl)
    rintro _ h14 ⟨C2, hC, k_, e_, hr2, rfl⟩
    refine mm_pop2 (pc := 17) dX6_readBody_17 rfl ?_
    refine mm_iconst (pc := 18) (v := 0) dX6_readBody_18 (by decide) ?_
    refine mm_istore_n (pc := 19) dX6_readBody_19 rfl (Nat.le_of_ble_eq_true rfl) ?_
    refine mm_goto (pc := 20) (tgt := 41) dX6_readBody_20 (by decide) ?_
    rw [show pBody tb n k M t = pBd1 tb n k 0 (pw tb n M t) (t + 1) from if_pos hc_]
    refine mm_post (fun r_ h_ z_ => bQ.mono z_ ((oK.refl hNo).six k_ hN6)) ?_
    exact mm_weakK (rbd41 (Or.inl rfl) htb hI.w hg.w (hS.take k_ hr2) hk50 (hrm.mono (qs_le_of (Nat.le_succ t)) e_) hB1 hB2 hN1 hN4 hN21 hN6 (fun f => by rw [(k_ f).2]; exact hNo f) hC) (And.intro rfl (And.intro rfl (And.intro rfl trivial)))

