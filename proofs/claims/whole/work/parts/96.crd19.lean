def pkB (h : mm_H) (n : Nat) : Nat × Nat := (h.2.1 + 2 * n + 3, h.2.2 + 14 * n + 23)
def pkP (N : Nat → Nat) (np f : Nat) : Nat := if f = 5 ∨ f = 20 then np + 1 else N f
/-- the memory behind the pack's name -/
def hM2 (tb : Nat → Nat) (n : Nat) (M : mw_S) : mw_S := mw_setS (mw_setS (pw tb n (mw_setW (pw tb n M 0) 102 0 (spL (wo tb n 1))) 1) 34 ((pw tb n M 0).1 23)) 101 0
/-- the memory behind the name that it joins -/
def hM3 (tb : Nat → Nat) (n np : Nat) (M : mw_S) : mw_S := pw tb n (rm_wgh (rm_with (pw tb n (hM2 tb n M) 2) np (spL (wo tb n 3))) (spL (wo tb n 3)) (qs tb n 3)) 3
theorem hM2_I {tb : Nat → Nat} {n a0 : Nat} {M : mw_S} (h : pI tb n a0 M 0) : pI tb n a0 (hM2 tb n M) 2 :=
  ((((h.w.same (M' := mw_setW (pw tb n M 0) 102 0 (spL (wo tb n 1))) rfl rfl).w).same2 (M' := mw_setS (pw tb n (mw_setW (pw tb n M 0) 102 0 (spL (wo tb n 1))) 1) 34 ((pw tb n M 0).1 23)) (fun j _ _ _ _ h34 _ _ _ _ _ => mw_u_ne _ _ h34) rfl)).sS rfl
theorem hM3_I {tb : Nat → Nat} {n a0 np : Nat} {M : mw_S} (h : pI tb n a0 M 0) : pI tb n a0 (hM3 tb n np M) 4 := (((hM2_I h).w.with_).wgh).w
theorem hM3_S {tb : Nat → Nat} {n np j : Nat} {M : mw_S} (h1 : ¬ j = 31) (h2 : ¬ j = 32) (h3 : ¬ j = 34) (h4 : ¬ j = 100) (h5 : ¬ j = 101) (h6 : ¬ (26 ≤ j ∧ j ≤ 29)) : (hM3 tb n np M).1 j = M.1 j := by
  have w : ∀ (X : mw_S) (t : Nat), (pw tb n X t).1 j = X.1 j := fun X t => by
    show mw_u (mw_u (mw_u (mw_u X.1 26 _) 27 _) 28 _) 29 _ j = _
    rw [mw_u_ne _ _ (by omega), mw_u_ne _ _ (by omega), mw_u_ne _ _ (by omega), mw_u_ne _ _ (by omega)]
  unfold hM3
  rw [w]
  show mw_u (mw_u (rm_with (pw tb n (hM2 tb n M) 2) np (spL (wo tb n 3))).1 100 _) 101 _ j = _
  rw [mw_u_ne _ _ h5, mw_u_ne _ _ h4, rm_with_1 h1 h2 h3, w]
  show mw_u (mw_u (pw tb n (mw_setW (pw tb n M 0) 102 0 (spL (wo tb n 1))) 1).1 34 _) 101 _ j = _
  rw [mw_u_ne _ _ h5, mw_u_ne _ _ h3, w]
  exact w M 0
theorem hM3_V {tb : Nat → Nat} {n np : Nat} {M : mw_S} : (hM3 tb n np M).2.2.1 = M.2.2.1 := by
  show (rm_with (pw tb n (hM2 tb n M) 2) np (spL (wo tb n 3))).2.2.1 = _
  rw [rm_with_2]
  rfl
theorem hM3_W {tb : Nat → Nat} {n np : Nat} {M : mw_S} : (hM3 tb n np M).2.2.2.1 = mw_u2 (mw_u2 M.2.2.2.1 102 0 (spL (wo tb n 1))) 104 0 (spL (wo tb n 3)) := by
  show mw_u2 (rm_with (pw tb n (hM2 tb n M) 2) np (spL (wo tb n 3))).2.2.2.1 104 0 _ = _
  rw [rm_with_2]
  rfl
theorem gI.to {tb : Nat → Nat} {n g0 t t' : Nat} {M M' : mw_S} (h : gI tb n g0 M t) (e : M'.1 111 = M.1 111) (ht : t ≤ t') : gI tb n g0 M' t' := by
  obtain ⟨a, x, b, c, d⟩ := h
  have := qs_le_of (tb := tb) (n := n) ht
  exact ⟨a, x, by rw [e]; exact b, c, by omega⟩

theorem rp_48 {G : mm_G} {L : Nat × Nat} {h0 : mm_H} {tb : Nat → Nat} {n a0 g0 nk np d : Nat} {ad adS : Nat → Nat → Nat} {C CS : cw_C} {M : mw_S} {B : Nat × Nat} {N P : Nat → Nat} {A : Nat → Prop} {h : mm_H} (htb : ∀ i, tb i < 256) (hnk : nk ≤ 40) (hB1 : B.1 + 2 ≤ L.1) (hB2 : B.2 + 18 ≤ L.2) (hP5 : P 5 = np + 1) (hP20 : P 20 = np + 1) (hP4 : P 4 ≤ nk) (hP21 : P 21 ≤ nk) (hP6 : P 6 = 0) (hPN : ∀ f, N f ≤ P f) (hN5 : N 5 ≤ np) (hN20 : N 20 ≤ np) (hI : pI tb n a0 M 0) (hg : gI tb n g0 M 0) (hS : sPk ad C tb n nk M 0 nk nk) (hpd : pkD ad C np 0) (hj0 : cI C 5 np 1 = 0) (hj5 : cI C 5 np 5 = 0) (h3 : M.1 3 = nI nk) (h35 : M.1 35 = 0) (h19 : M.1 19 = nI np) (hnp : np ≤ 12) (hrm : rmB n B h (qs tb n 0)) (hrs : h.2.1 ≤ B.1 ∧ h.2.2 ≤ B.2) (hPo : ∀ f, P f ≤ cN C f) (hok : oK N adS CS ad C) (h6 : ad 6 0 = adS 6 0) (hC : cw ad h0 C h) : mm_Run G mX6_readPack A L (d + 19) 48 [(0, .ref (ad 6 0)), (3, .ref (ad 5 np))] [] h (pQ N h0 adS CS B tb n nk np (pP0 tb n (pT tb n M 0 23))) := by
  have hr := hS.1
  have n6 := hr.1
  have hn7 := hI.n7
  have hn8 : n ≤ 800 := by omega
  refine mm_aload_n (pc := 48) dX6_readPack_48 rfl (by first | trivial | assumption | exact mm_isr_rf _) ?_
  refine mm_bipush (pc := 49) (v := 23) dX6_readPack_49 (by decide) ?_
  refine mm_callV (pc := 51) (As := [_]) (kd := ?kd_51_1) (fs := ?fs_51_1) dX6_readPack_51 vl_X6_31 (tk_any (c := 23) hr hn8 hC (by decide) (by decide)) ?hc_51_1 ?hk_51_1 rfl rfl (Nat.le_of_ble_eq_true rfl) ?_; (case hc_51_1 => exact cw_cell (f := 6) hC rfl rfl n6); (case hk_51_1 => rfl)
  rintro _ h51 ⟨C1, hC, k1, e1, ⟨v51, rfl, hv51⟩, ⟨c23, hr51⟩ | ⟨c23, hr51⟩⟩
  · have hz1 : pP0 tb n (pT tb n M 0 23) = pP1 tb n (pw tb n M 0) 1 := by unfold pT; rw [if_pos c23]; rfl
    rw [hz1]
    obtain ⟨n6, hf1, hnow, hrc, hwd⟩ := id hr51
    obtain ⟨n10, hw, -, -⟩ := hwd.at hrc
    have k1_ := k1
    have hpd := hpd.k6 k1
    have hok := hok.six k1 (by have := hPN 6; omega)
    refine mm_pop2 (pc := 54) dX6_readPack_54 rfl ?_
    refine mm_aload_n (pc := 55) dX6_readPack_55 rfl (by first | trivial | assumption | exact mm_isr_rf _) ?_
    refine mm_aload_n (pc := 56) dX6_readPack_56 rfl (by first | trivial | assumption | exact mm_isr_rf _) ?_
    refine mm_iconst (pc := 57) (v := 2) dX6_readPack_57 (by decide) ?_
    refine mm_callV (pc := 58) (As := [_]) (kd := ?kd_58_2) (fs := ?fs_58_2) dX6_readPack_58 vl_X6_31 (tk_any (c := 2) hr51 hn8 hC (by decide) (by decide)) ?hc_58_2 ?hk_58_2 rfl rfl (Nat.le_of_ble_eq_true rfl) ?_; (case hc_58_2 => exact cw_cell (f := 6) hC rfl rfl n6); (case hk_58_2 => rfl)
    rintro _ h58 ⟨C2, hC, k2, e2, ⟨v58, rfl, hv58⟩, ⟨c2, hr58⟩ | ⟨c2, hr58⟩⟩
    · have hz2 : pP1 tb n (pw tb n M 0) 1 = pP2 tb n (hM2 tb n M) 2 := if_pos c2
      rw [hz2]
      obtain rfl : v58 = spL (wo tb n 1) := by rw [hv58 c2]; exact hw.2.2.1 c2
      have hpd := hpd.k6 k2
      have hok := hok.six k2 (by have := hPN 6; omega)
      have n5 := hpd.1
      refine cw_pl (pc := 61) 5 np 0 hC (rfl) rfl (n5) dX6_readPack_61 (pl_X6_35 _) rfl rfl (fun h61 hC e61 => ?_)
      have hok := hok.sL (f := 5) (i := np) (j := 0) (x := spL (wo tb n 1)) hN5
      have hr61 : rL ad (cw_sL C2 5 np 0 (spL (wo tb n 1))) tb n 2 := hr58.same (ad' := ad) (C' := cw_sL C2 5 np 0 (spL (wo tb n 1))) (cw_sL_o (by decide)) (cw_sL_o (by decide)) (fun _ _ => rfl)
      have hpd : pkD ad (cw_sL C2 5 np 0 (spL (wo tb n 1))) np 0 := ⟨by rw [cw_sL_N]; exact hpd.1, by rw [cw_sL_N]; exact hpd.2.1, by rw [cR_sL]; exact hpd.2.2.1, by rw [cI_sL]; exact hpd.2.2.2⟩
      have q5 : C2 5 = C 5 := ((k2 5).1 (by decide)).trans ((k1 5).1 (by decide))
      have hj0 : cI (cw_sL C2 5 np 0 (spL (wo tb n 1))) 5 np 1 = 0 := by rw [cI_sL, cI_o q5]; exact hj0
      have hj5 : cI (cw_sL C2 5 np 0 (spL (wo tb n 1))) 5 np 5 = 0 := by rw [cI_sL, cI_o q5]; exact hj5
      have hjn : cL (cw_sL C2 5 np 0 (spL (wo tb n 1))) 5 np 0 = spL (wo tb n 1) := cL_sL_e
      have qo : ∀ f, ¬ f = 5 → ¬ f = 6 → cw_sL C2 5 np 0 (spL (wo tb n 1)) f = C f := fun f a b => (cw_sL_o a).trans (((k2 f).1 b).trans ((k1 f).1 b))
      have hPo : ∀ f, P f ≤ cN (cw_sL C2 5 np 0 (spL (wo tb n 1))) f := fun f => by rw [cw_sL_N, (k2 f).2, (k1 f).2]; exact hPo f
      have s61 : h61.2 = h.2 := by rw [e61, e2, e1]
      generalize cw_sL C2 5 np 0 (spL (wo tb n 1)) = C4 at *
      have n6 := hr61.1
      have n5 := hpd.1
      refine mm_aload_n (pc := 64) dX6_readPack_64 rfl (by first | trivial | assumption | exact mm_isr_rf _) ?_
      refine mm_bipush (pc := 65) (v := 24) dX6_readPack_65 (by decide) ?_
      refine mm_callV (pc := 67) (As := [_]) (kd := ?kd_67_3) (fs := ?fs_67_3) dX6_readPack_67 vl_X6_39 (se_live (c := 24) (by decide) hr61 hn8 hC) ?hc_67_3 ?hk_67_3 rfl rfl (Nat.le_of_ble_eq_true rfl) ?_; (case hc_67_3 => exact cw_cell (f := 6) hC rfl rfl n6); (case hk_67_3 => rfl)
      rintro _ _ ⟨rfl, rfl⟩
      refine mm_if_eq (pc := 70) (tgt := 105) dX6_readPack_70 (by decide) (fun c70 => ?_) (fun c70 => ?_)
      · have hc_ : ¬ cd tb n 2 = 24 := bI_d.mp c70
        have hz3 : pP2 tb n (hM2 tb n M) 2 = pP4 tb n (pT tb n (hM2 tb n M) 2 4) := if_neg hc_
        rw [hz3]
        have hS2 : sPk ad C4 tb n nk (hM2 tb n M) 2 (nk + 0) (nk + 0) := hS.same hr61 (qo 0 (by decide) (by decide)) (qo 1 (by decide) (by decide)) (qo 4 (by decide) (by decide)) (qo 21 (by decide) (by decide)) rfl rfl rfl (fun j hj => by rcases hj with rfl | rfl <;> rfl)
        have hpw : pkW ad C4 (hM2 tb n M) np 0 nk := ⟨hpd, hjn, hj0, fun z => absurd (show (0 : Int32) = 1 from z) (by decide), hj5, fun i hi => absurd hi (Nat.not_lt_zero i)⟩
        exact mm_weakK (rp_105 htb hnk hB1 hB2 hP5 hP20 hP4 hP21 hP6 hPN hN5 hN20 (hM2_I hI) (hg.to rfl (by decide)) hS2 hpw h3 h35 (hrm.mono (qs_le_of (by decide)) s61) hPo hok h6 hC) (And.intro rfl (And.intro rfl trivial))
      · have hc_ : cd tb n 2 = 24 := bI_n c70
        refine mm_aload_n (pc := 73) dX6_readPack_73 rfl (by first | trivial | assumption | exact mm_isr_rf _) ?_
        refine mm_bipush (pc := 74) (v := 24) dX6_readPack_74 (by decide) ?_
        refine mm_callV (pc := 76) (As := [_]) (kd := ?kd_76_4) (fs := ?fs_76_4) dX6_readPack_76 vl_X6_31 (tk_ok (x := nI 24) hr61 hn8 hC (by rw [hc_]) (by omega)) ?hc_76_4 ?hk_76_4 rfl rfl (Nat.le_of_ble_eq_true rfl) ?_; (case hc_76_4 => exact cw_cell (f := 6) hC rfl rfl n6); (case hk_76_4 => rfl)
        rintro _ h76 ⟨C5, hC, k5, e5, hr76, rfl⟩
        obtain ⟨n6, hf5, hnow, hrc, hwd⟩ := id hr76
        obtain ⟨n10, hw3, -, -⟩ := hwd.at hrc
        have hpd := hpd.k6 k5
        have hok := hok.six k5 (by have := hPN 6; omega)
        have n5 := hpd.1
        have z5 : C5 5 = C4 5 := (k5 5).1 (by decide)
        refine mm_pop2 (pc := 79) dX6_readPack_79 rfl ?_
        refine mm_aload_n (pc := 80) dX6_readPack_80 rfl (by first | trivial | assumption | exact mm_isr_rf _) ?_
        refine mm_iconst (pc := 81) (v := 1) dX6_readPack_81 (by decide) ?_
        refine cw_pi (pc := 82) 5 np 1 hC (rfl) rfl (n5) dX6_readPack_82 (pl_X6_43 _) rfl rfl (rfl) (rfl) (fun h82 hC e82 => ?_)
        refine mm_aload_n (pc := 85) dX6_readPack_85 rfl (by first | trivial | assumption | exact mm_isr_rf _) ?_
        refine mm_aload_n (pc := 86) dX6_readPack_86 rfl (by first | trivial | assumption | exact mm_isr_rf _) ?_
        refine cw_grS (pc := 87) 6 _ 1 hC (rfl) rfl ((by rw [cw_sI_N]; exact n6)) dX6_readPack_87 fl_X6_20 rfl rfl rfl (by rw [cR_sI]; exact hnow) ?_
        refine cw_gi (pc := 90) 10 3 1 hC (rfl) rfl ((by rw [cw_sI_N]; exact n10)) dX6_readPack_90 fl_X6_47 rfl rfl rfl ?_
        refine mm_topi _ (show cI (cw_sI C5 5 np 1 1) 10 3 1 = nI (qs tb n 3) by rw [cI_sI_n (by omega)]; exact hw3.2.1) ?_
        refine cw_pi (pc := 93) 5 np 3 hC (rfl) rfl ((by rw [cw_sI_N]; exact n5)) dX6_readPack_93 (pl_X6_50 _) rfl rfl (rfl) (rfl) (fun h93 hC e93 => ?_)
        have hok := (hok.sI (f := 5) (i := np) (j := 1) (x := 1) hN5).sI (f := 5) (i := np) (j := 3) (x := nI (qs tb n 3)) hN5
        have hr93 := (hr76.same (ad' := ad) (C' := cw_sI C5 5 np 1 1) (cw_sI_o (by decide)) (cw_sI_o (by decide)) (fun _ _ => rfl)).same (ad' := ad) (C' := cw_sI (cw_sI C5 5 np 1 1) 5 np 3 (nI (qs tb n 3))) (cw_sI_o (by decide)) (cw_sI_o (by decide)) (fun _ _ => rfl)
        have hpd : pkD ad (cw_sI (cw_sI C5 5 np 1 1) 5 np 3 (nI (qs tb n 3))) np 0 := ⟨by rw [cw_sI_N, cw_sI_N]; exact hpd.1, by rw [cw_sI_N, cw_sI_N]; exact hpd.2.1, by rw [cR_sI, cR_sI]; exact hpd.2.2.1, by rw [cI_sI_n (by omega), cI_sI_n (by omega)]; exact hpd.2.2.2⟩
        have hj0 : cI (cw_sI (cw_sI C5 5 np 1 1) 5 np 3 (nI (qs tb n 3))) 5 np 1 = 1 := by rw [cI_sI_n (by omega), cI_sI_e]
        have hj3 : cI (cw_sI (cw_sI C5 5 np 1 1) 5 np 3 (nI (qs tb n 3))) 5 np 3 = nI (qs tb n 3) := by rw [cI_sI_e]
        have hj5 : cI (cw_sI (cw_sI C5 5 np 1 1) 5 np 3 (nI (qs tb n 3))) 5 np 5 = 0 := by rw [cI_sI_n (by omega), cI_sI_n (by omega), cI_o z5]; exact hj5
        have hjn : cL (cw_sI (cw_sI C5 5 np 1 1) 5 np 3 (nI (qs tb n 3))) 5 np 0 = spL (wo tb n 1) := by rw [cL_sI, cL_sI, cL_o z5]; exact hjn
        have qo : ∀ f, ¬ f = 5 → ¬ f = 6 → cw_sI (cw_sI C5 5 np 1 1) 5 np 3 (nI (qs tb n 3)) f = C f := fun f a b => (cw_sI_o a).trans ((cw_sI_o a).trans (((k5 f).1 b).trans (qo f a b)))
        have q10 : cw_sI (cw_sI C5 5 np 1 1) 5 np 3 (nI (qs tb n 3)) 10 = C5 10 := (cw_sI_o (by decide)).trans (cw_sI_o (by decide))
        have hPo : ∀ f, P f ≤ cN (cw_sI (cw_sI C5 5 np 1 1) 5 np 3 (nI (qs tb n 3))) f := fun f => by rw [cw_sI_N, cw_sI_N, (k5 f).2]; exact hPo f
        have s93 : h93.2 = h.2 := by rw [e93, e82, e5, s61]
        generalize cw_sI (cw_sI C5 5 np 1 1) 5 np 3 (nI (qs tb n 3)) = C6 at *
        have n6 := hr93.1
        have hz3 : pP2 tb n (hM2 tb n M) 2 = pP3 tb n (pw tb n (hM2 tb n M) 2) 3 := if_pos hc_
        rw [hz3]
        refine mm_aload_n (pc := 96) dX6_readPack_96 rfl (by first | trivial | assumption | exact mm_isr_rf _) ?_
        refine mm_aload_n (pc := 97) dX6_readPack_97 rfl (by first | trivial | assumption | exact mm_isr_rf _) ?_
        refine mm_iconst (pc := 98) (v := 2) dX6_readPack_98 (by decide) ?_
        refine mm_callV (pc := 99) (As := [_]) (kd := ?kd_99_5) (fs := ?fs_99_5) dX6_readPack_99 vl_X6_31 (tk_any (c := 2) hr93 hn8 hC (by decide) (by decide)) ?hc_99_5 ?hk_99_5 rfl rfl (Nat.le_of_ble_eq_true rfl) ?_; (case hc_99_5 => exact cw_cell (f := 6) hC rfl rfl n6); (case hk_99_5 => rfl)
        rintro _ h99 ⟨C7, hC, k7, e7, ⟨v99, rfl, hv99⟩, ⟨c4, hr99⟩ | ⟨c4, hr99⟩⟩
        · obtain rfl : v99 = spL (wo tb n 3) := by rw [hv99 c4, cL_o q10]; exact hw3.2.2.1 c4
          have hpd := hpd.k6 k7
          have hok := hok.six k7 (by have := hPN 6; omega)
          have n5 := hpd.1
          have z7 : C7 5 = C6 5 := (k7 5).1 (by decide)
          have h19_ : (pw tb n (hM2 tb n M) 2).1 19 = nI np := h19
          have hz4 : pP3 tb n (pw tb n (hM2 tb n M) 2) 3 = pP4 tb n (pT tb n (hM3 tb n np M) 4 4) := by
            unfold pP3
            rw [if_pos c4, h19_, nI_clamp (by omega)]
            rfl
          rw [hz4]
          refine cw_pl (pc := 102) 5 np 2 hC (rfl) rfl (n5) dX6_readPack_102 (pl_X6_53 _) rfl rfl (fun h102 hC e102 => ?_)
          have hok := hok.sL (f := 5) (i := np) (j := 2) (x := spL (wo tb n 3)) hN5
          have hr102 := hr99.same (ad' := ad) (C' := cw_sL C7 5 np 2 (spL (wo tb n 3))) (cw_sL_o (by decide)) (cw_sL_o (by decide)) (fun _ _ => rfl)
          have qz : ∀ f, ¬ f = 5 → ¬ f = 6 → cw_sL C7 5 np 2 (spL (wo tb n 3)) f = C f := fun f a b => (cw_sL_o a).trans (((k7 f).1 b).trans (qo f a b))
          have hS2 : sPk ad (cw_sL C7 5 np 2 (spL (wo tb n 3))) tb n nk (hM3 tb n np M) 4 (nk + 0) (nk + 0) := hS.same hr102 (qz 0 (by decide) (by decide)) (qz 1 (by decide) (by decide)) (qz 4 (by decide) (by decide)) (qz 21 (by decide) (by decide)) (hM3_S (by decide) (by decide) (by decide) (by decide) (by decide) (by decide)) (hM3_S (by decide) (by decide) (by decide) (by decide) (by decide) (by decide)) hM3_V (fun j hj => by rw [hM3_W]; rcases hj with rfl | rfl <;> rfl)
          have hpw : pkW ad (cw_sL C7 5 np 2 (spL (wo tb n 3))) (hM3 tb n np M) np 0 nk := by
            refine ⟨⟨by rw [cw_sL_N]; exact hpd.1, by rw [cw_sL_N]; exact hpd.2.1, by rw [cR_sL]; exact hpd.2.2.1, by rw [cI_sL]; exact hpd.2.2.2⟩, ?_, ?_, fun _ => ⟨?_, ?_⟩, ?_, fun i hi => absurd hi (Nat.not_lt_zero i)⟩
            · rw [cL_sL_n (by omega), cL_o z7, hjn, hM3_W]; rfl
            · rw [cI_sL, cI_o z7, hj0]; rfl
            · rw [cL_sL_e, hM3_W]; rfl
            · rw [cI_sL, cI_o z7, hj3]; rfl
            · rw [cI_sL, cI_o z7]; exact hj5
          exact mm_weakK (rp_105 htb hnk hB1 hB2 hP5 hP20 hP4 hP21 hP6 hPN hN5 hN20 (hM3_I hI) (hg.to (hM3_S (by decide) (by decide) (by decide) (by decide) (by decide) (by decide)) (by decide)) hS2 hpw (by rw [hM3_S (by decide) (by decide) (by decide) (by decide) (by decide) (by decide)]; exact h3) (by rw [hM3_S (by decide) (by decide) (by decide) (by decide) (by decide) (by decide)]; exact h35) (hrm.mono (qs_le_of (by decide)) (by rw [e102, e7, s93])) (fun f => by rw [cw_sL_N, (k7 f).2]; exact hPo f) hok h6 hC) (And.intro rfl (And.intro rfl trivial))
        · have hz4 : pP3 tb n (pw tb n (hM2 tb n M) 2) 3 = (0, pf tb n (pw tb n (hM2 tb n M) 2) 3, 3) := if_neg c4
          rw [hz4]
          exact mm_weakK (rp_d102 (hpd.k6 k7) (by rw [(k7 4).2]; exact hPo 4) (fun f => by rw [(k7 f).2]; exact hPo f) hP5 hP20 hP4 hP21 hP6 hPN hN5 hN20 (by rw [e7, s93]; exact hrs) hB1 hB2 hr99 ⟨rfl, rfl⟩ (hok.six k7 (by have := hPN 6; omega)) h6 hC) (And.intro rfl (And.intro rfl trivial))
    · have hz2 : pP1 tb n (pw tb n M 0) 1 = (0, pf tb n (pw tb n M 0) 1, 1) := if_neg c2
      rw [hz2]
      exact mm_weakK (rp_d61 (hpd.k6 k2) (by rw [(k2 4).2, (k1 4).2]; exact hPo 4) (fun f => by rw [(k2 f).2, (k1 f).2]; exact hPo f) hP5 hP20 hP4 hP21 hP6 hPN hN5 hN20 (by rw [e2, e1]; exact hrs) hB1 hB2 hr58 ⟨rfl, rfl⟩ (hok.six k2 (by have := hPN 6; omega)) h6 hC) (And.intro rfl (And.intro rfl trivial))
  · have hzz : pP0 tb n (pT tb n M 0 23) = (0, pf tb n M 0, 0) := by unfold pT; rw [if_neg c23]; rfl
    rw [hzz]
    exact mm_weakK (rp_d54 (hpd.k6 k1) (by rw [(k1 4).2]; exact hPo 4) (fun f => by rw [(k1 f).2]; exact hPo f) hP5 hP20 hP4 hP21 hP6 hPN hN5 hN20 (by rw [e1]; exact hrs) hB1 hB2 hr51 ⟨rfl, rfl⟩ (hok.six k1 (by have := hPN 6; omega)) h6 hC) (And.intro rfl (And.intro rfl trivial))

theorem rp_ok {G : mm_G} {L : Nat × Nat} {d : Nat} {h : mm_H} {h0 : mm_H} {tb : Nat → Nat} {n nk np a0 g0 : Nat} {M : mw_S} {ad : Nat → Nat → Nat} {C : cw_C} {N : Nat → Nat} (htb : ∀ i, tb i < 256) (hTp : tpC C tb) (hlt : lt_ G h0) (hn7 : n ≤ 700) (h10 : cN C 10 = 0) (h6n : cN C 6 = 1) (h60 : cI C 6 0 0 = -1) (h5 : cN C 5 = np) (h20 : cN C 20 = np) (h4N : cN C 4 = nk) (h21N : cN C 21 = nk) (hA : aA ad C M) (h1N : cN C 1 = kg M) (hbd : ∀ g, g < cN C 1 → bdR ad C M g) (hI : pI tb n a0 (rm_word M tb n (qs tb n 0)) 0) (hg : gI tb n g0 (rm_word M tb n (qs tb n 0)) 0) (h3 : M.1 3 = nI nk) (h35 : M.1 35 = 0) (h19 : M.1 19 = nI np) (hnk : nk ≤ 40) (hnp : np ≤ 12) (hN : ∀ f, N f ≤ cN C f) (hN4 : N 4 ≤ nk) (hN21 : N 21 ≤ nk) (hN6 : N 6 = 0) (hN10 : N 10 = 0) (hL1 : h.2.1 + 2 * n + 5 ≤ L.1) (hL2 : h.2.2 + 14 * n + 41 ≤ L.2) (hC : cw ad h0 C h) : mm_Ok G mX6_readPack L (d + 19) [.ref (ad 6 0), .ref (ad 12 0), .int (nI n)] h (fun r h1 => pQ N h0 ad C (pkB h n) tb n nk np (pPack tb n M) r h1) := by
  refine mm_Ok.of [(0, .ref (ad 6 0)), (1, .ref (ad 12 0)), (2, .int (nI n))] rfl kX6_readPack.2.2.2.2.2 rfl (fun A => ?_)
  have n12 := hTp.2.1
  have hB1 : (pkB h n).1 + 2 ≤ L.1 := hL1
  have hB2 : (pkB h n).2 + 18 ≤ L.2 := hL2
  refine mm_new (pc := 0) dX6_readPack_0 nl_X6_24 (by omega) (by show h.2.2 + 8 ≤ L.2; omega) ?_
  have hC := hC.new 5 (by decide) rfl rfl
  have en : cw_ad ad C 5 h.2.1 5 np = h.2.1 := by rw [← h5]; exact cw_ad_n
  have e6 : cw_ad ad C 5 h.2.1 6 0 = ad 6 0 := cw_ad_o (by omega)
  have e12 : cw_ad ad C 5 h.2.1 12 0 = ad 12 0 := cw_ad_o n12
  rw [← en, ← e6, ← e12]
  have hokA : oK N ad C (cw_ad ad C 5 h.2.1) (cw_new C 5) := (oK.refl hN).ext
  have hA1 : ∀ f i, i < cN C f → cw_ad ad C 5 h.2.1 f i = ad f i := fun f i hi => cw_ad_o hi
  have n5 : np < cN (cw_new C 5) 5 := by rw [show cN (cw_new C 5) 5 = cN C 5 + 1 from cN_ext]; omega
  have hC5 : ∀ f, ¬ f = 5 → cw_new C 5 f = C f := fun f hf => cw_ext_o hf
  refine mm_dup (pc := 3) dX6_readPack_3 rfl ?_
  refine mm_callIN (pc := 4) (As := []) dX6_readPack_4 inl_X6_26 (x5_init n5 (show h.2.1 + 1 + 1 ≤ L.1 by omega) (show h.2.2 + 8 + 10 ≤ L.2 by omega) hC) rfl rfl (Nat.le_of_ble_eq_true rfl) ?_
  rintro _ h4 ⟨ad1, C1, hC, ha1, hpi, s4, rfl⟩
  have hokB := pIn.oK hokA hpi ha1 (by have := hN 5; omega)
  have c1 : ∀ f, ¬ f = 5 → ¬ f = 20 → C1 f = C f := fun f a b => (hpi.1 f a b).trans (hC5 f a)
  have m5 : np < cN C1 5 := by rw [hpi.2.1]; exact n5
  have m20 : np < cN C1 20 := by unfold cN; rw [hpi.2.2.1]; show np < cN (cw_ext (cw_new C 5) 20 _ _ _) 20; rw [cN_ext, cN_o (hC5 20 (by decide)), h20]; omega
  have hA2 : ∀ f i, i < cN C f → ad1 f i = ad f i := fun f i hi => (ha1 f i (Nat.lt_of_lt_of_le hi (by
    by_cases e : f = 5
    · subst e; rw [show cN (cw_new C 5) 5 = cN C 5 + 1 from cN_ext]; omega
    · rw [cN_o (hC5 f e)]; exact Nat.le_refl _))).trans (hA1 f i hi)
  have r6 : cR C1 5 np 6 = some (ad1 20 np) := by rw [hpi.2.2.2.2.2.2.1, cN_o (hC5 20 (by decide)), h20]
  rw [← ha1 5 np n5, ← ha1 6 0 (by rw [cN_o (hC5 6 (by decide))]; omega), ← ha1 12 0 (by rw [cN_o (hC5 12 (by decide))]; exact n12)]
  have s4 : h4.2 = (h.2.1 + 2, h.2.2 + 18) := by rw [s4]; rfl
  have n12 : 0 < cN C1 12 := by rw [cN_o (c1 12 (by decide) (by decide))]; exact n12
  have n6 : 0 < cN C1 6 := by rw [cN_o (c1 6 (by decide) (by decide))]; omega
  refine mm_astore_n (pc := 7) dX6_readPack_7 (by first | trivial | assumption | exact mm_isr_rf _) rfl (Nat.le_of_ble_eq_true rfl) ?_
  refine mm_iload_n (pc := 8) dX6_readPack_8 rfl ?_
  refine mm_sipush (pc := 9) (v := 700) dX6_readPack_9 (by decide) ?_
  refine mm_icmp_gt (pc := 12) (tgt := 21) dX6_readPack_12 (by decide) (fun c12 => absurd c12 (fun z => absurd ((nI_ltI (a := 700) (by decide) (by omega)).mp z) (by omega))) (fun c12 => ?_)
  refine mm_iload_n (pc := 15) dX6_readPack_15 rfl ?_
  refine mm_aload_n (pc := 16) dX6_readPack_16 rfl (by first | trivial | assumption | exact mm_isr_rf _) ?_
  refine cw_alen (pc := 17) 12 _ hC (rfl) rfl (n12) dX6_readPack_17 rfl rfl ?_
  refine mm_icmp_le (pc := 18) (tgt := 30) dX6_readPack_18 (by decide) (fun c18 => ?_) (fun c18 => absurd (nI_le (b := 800) (by omega) (by decide)) c18)
  refine mm_aload_n (pc := 30) dX6_readPack_30 rfl (by first | trivial | assumption | exact mm_isr_rf _) ?_
  refine mm_iload_n (pc := 31) dX6_readPack_31 rfl ?_
  refine mm_callS (pc := 32) (As := [_, _]) dX6_readPack_32 sl_X6_27 (ok_X10_chainOf (d := d + 9) (tb := tb) ⟨htb, n12, fun i hi => by rw [cI_o (c1 12 (by decide) (by decide))]; exact hTp.2.2 i hi⟩ hlt hn7 (by rw [cN_o (c1 10 (by decide) (by decide))]; exact h10) (by rw [s4]; show h.2.1 + 2 + n + 1 ≤ L.1; omega) (by rw [s4]; show h.2.2 + 18 + 5 * (n + 1) ≤ L.2; omega) hC) rfl rfl (Nat.le_of_ble_eq_true rfl) ?_
  rintro _ h32 ⟨ad2, C2, T, hC, ha2, hc2, hwI, hT0, hTe, hTn, s321, s322, rfl⟩
  have hokC := hokB.ten ha2 hc2 hN10
  rw [← ha2 6 0 (by decide), ← ha2 5 np (by decide)]
  have n6 : 0 < cN C2 6 := by rw [cN_o (hc2 6 (by decide))]; exact n6
  refine mm_astore (pc := 35) dX6_readPack_35 (by first | trivial | assumption | exact mm_isr_rf _) rfl (Nat.le_of_ble_eq_true rfl) ?_
  refine mm_aload (pc := 37) dX6_readPack_37 rfl (by first | trivial | assumption | exact mm_isr_rf _) ?_
  refine mm_ifnull (pc := 39) (tgt := 48) dX6_readPack_39 (by decide) (by first | trivial | assumption | exact mm_isr_rf _) (fun c39 => by cases c39) (fun a39 c39 => ?_)
  refine mm_aload_n (pc := 42) dX6_readPack_42 rfl (by first | trivial | assumption | exact mm_isr_rf _) ?_
  refine mm_aload (pc := 43) dX6_readPack_43 rfl (by first | trivial | assumption | exact mm_isr_rf _) ?_
  refine cw_prS (pc := 45) 6 _ 1 hC (rfl) rfl (n6) dX6_readPack_45 (pl_X6_20 _) rfl rfl (fun h45 hC e45 => ?_)
  have hokD := hokC.sR (f := 6) (i := 0) (j := 1) (x := some (ad2 10 0)) (by omega)
  have cc : ∀ f, ¬ f = 5 → ¬ f = 20 → ¬ f = 10 → ¬ f = 6 → cw_sR C2 6 0 1 (some (ad2 10 0)) f = C f := fun f a b c e => (cw_sR_o e).trans ((hc2 f c).trans (c1 f a b))
  have hAd : ∀ f i, ¬ f = 10 → i < cN C f → ad2 f i = ad f i := fun f i hf hi => (ha2 f i hf).trans (hA2 f i hi)
  have hr : rL ad2 (cw_sR C2 6 0 1 (some (ad2 10 0))) tb n 0 := by
    refine ⟨by rw [cw_sR_N]; exact n6, ?_, cR_sR_e, fun s hs => absurd hs (Nat.not_lt_zero s), ?_⟩
    · rw [cI_sR, cI_o (hc2 6 (by decide)), cI_o (c1 6 (by decide) (by decide))]; exact h60
    · exact WD.same ⟨T, hwI, hT0, hTe⟩ (cw_sR_o (by decide)) (fun _ _ => rfl)
  have k0 := cc 0 (by decide) (by decide) (by decide) (by decide)
  have k1 := cc 1 (by decide) (by decide) (by decide) (by decide)
  have k4 := cc 4 (by decide) (by decide) (by decide) (by decide)
  have k21 := cc 21 (by decide) (by decide) (by decide) (by decide)
  have hS : sPk ad2 (cw_sR C2 6 0 1 (some (ad2 10 0))) tb n nk (rm_word M tb n (qs tb n 0)) 0 nk nk := by
    refine ⟨hr, hA.same k0 (fun i hi => hAd 0 i (by decide) hi) rfl rfl rfl rfl rfl rfl rfl, by rw [cN_o k1]; exact h1N, fun g hg => ?_, ⟨by rw [cN_o k4]; exact h4N, by rw [cN_o k21]; exact h21N⟩, fun i i1 i2 => by omega⟩
    rw [cN_o k1] at hg
    exact (hbd g hg).mono (fun _ => cI_o k1) (fun _ _ => cR_o k1) (by rw [cN_o k4]; exact Nat.le_refl _) (fun i hi => hAd 4 i (by decide) hi) (by rw [cN_o k0]; exact Nat.le_refl _) (fun i hi => hAd 0 i (by decide) hi) (fun _ _ => rfl)
  have k5 : cw_sR C2 6 0 1 (some (ad2 10 0)) 5 = C1 5 := (cw_sR_o (by decide)).trans (hc2 5 (by decide))
  have k20 : cw_sR C2 6 0 1 (some (ad2 10 0)) 20 = C1 20 := (cw_sR_o (by decide)).trans (hc2 20 (by decide))
  have hpd : pkD ad2 (cw_sR C2 6 0 1 (some (ad2 10 0))) np 0 := ⟨by rw [cN_o k5]; exact m5, by rw [cN_o k20]; exact m20, by rw [cR_o k5, r6, ha2 20 np (by decide)], by rw [cI_o k5]; exact hpi.2.2.2.2.2.2.2⟩
  have hj0 : cI (cw_sR C2 6 0 1 (some (ad2 10 0))) 5 np 1 = 0 := by rw [cI_o k5]; exact hpi.2.2.2.2.1
  have hj5 : cI (cw_sR C2 6 0 1 (some (ad2 10 0))) 5 np 5 = 0 := by rw [cI_o k5]; exact hpi.2.2.2.2.2.1
  have h6e : ad2 6 0 = ad 6 0 := hAd 6 0 (by decide) (by omega)
  have hPo : ∀ f, pkP N np f ≤ cN (cw_sR C2 6 0 1 (some (ad2 10 0))) f := fun f => by
    unfold pkP
    by_cases e : f = 5 ∨ f = 20
    · rw [if_pos e]
      rcases e with rfl | rfl
      · have := hpd.1; omega
      · have := hpd.2.1; omega
    · rw [if_neg e]; exact (hokD f).1
  have hrm : rmB n (pkB h n) h45 (qs tb n 0) := by
    unfold rmB
    rw [e45, s321, s322, s4]
    show h.2.1 + 2 + T + (n - qs tb n 0) ≤ h.2.1 + 2 * n + 3 ∧ h.2.2 + 18 + 5 * T + 9 * (n - qs tb n 0) ≤ h.2.2 + 14 * n + 23
    omega
  have s45 : h45.2.1 ≤ (pkB h n).1 ∧ h45.2.2 ≤ (pkB h n).2 := by unfold rmB at hrm; omega
  generalize cw_sR C2 6 0 1 (some (ad2 10 0)) = C3 at *
  have hPN_ : ∀ f, N f ≤ pkP N np f := fun f => by
    unfold pkP
    by_cases e : f = 5 ∨ f = 20
    · rw [if_pos e]
      rcases e with rfl | rfl
      · have := hN 5; omega
      · have := hN 20; omega
    · rw [if_neg e]; exact Nat.le_refl _
  exact mm_weakK (rp_48 (d := d) (B := pkB h n) (P := pkP N np) htb hnk hB1 hB2 rfl rfl hN4 hN21 hN6 hPN_ (by have := hN 5; omega) (by have := hN 20; omega) hI hg hS hpd hj0 hj5 h3 h35 h19 hnp hrm s45 hPo hokD h6e hC) (And.intro rfl (And.intro rfl trivial))

