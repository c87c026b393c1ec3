theorem sKd.fin {ad : Nat → Nat → Nat} {C : cw_C} {tb : Nat → Nat} {n nk t k : Nat} {M : mw_S} (hS : sKd ad C tb n nk M t k) (h111 : M.1 111 = nI (kg M)) (hgb : kg M < 2 ^ 30) : sPk ad C tb n nk (mw_setV M 106 k (M.1 111)) t (k + 1) (k + 1) := by
  obtain ⟨⟨a1, a2, a3, a4, a5, a6⟩, a7, -, -⟩ := hS
  have eV : ∀ j i, ¬ (j = 106 ∧ i = k) → (mw_setV M 106 k (M.1 111)).2.2.1 j i = M.2.2.1 j i := fun j i h => mw_u2_ne _ _ h
  refine ⟨a1, a2.same rfl (fun _ _ => rfl) rfl (V_o (by decide)) (V_o (by decide)) (V_o (by decide)) (V_o (by decide)) (V_o (by decide)) (V_o (by decide)), a3, fun g hg => ?_, a5, fun i i1 i2 => ?_⟩
  · exact (a4 g hg).mono (fun _ => rfl) (fun _ _ => rfl) (Nat.le_refl _) (fun _ _ => rfl) (Nat.le_refl _) (fun _ _ => rfl) (fun j hj => eV j g (by omega))
  · by_cases e : i = k
    · subst e
      rw [show zE (mw_setV M 106 i (M.1 111)) i = cN C 1 by unfold zE; rw [V_e, h111, nI_clamp (by omega), a3]]
      exact a7.mono (fun _ => rfl) (fun _ => rfl) (fun _ => rfl) (fun _ => rfl) (Nat.le_refl _) (fun _ _ => rfl) rfl (fun _ _ _ => rfl) (fun _ _ => rfl) (fun j hj => eV j i (by omega)) (fun q hq => ⟨eV 8 _ (by omega), eV 97 _ (by omega)⟩)
    · rw [show zE (mw_setV M 106 k (M.1 111)) i = zE M i by unfold zE; rw [eV 106 i (by omega)]]
      exact (a6 i i1 (by omega)).mono (fun _ => rfl) (fun _ => rfl) (fun _ => rfl) (fun _ => rfl) (Nat.le_refl _) (fun _ _ => rfl) rfl (fun _ _ _ => rfl) (fun _ _ => rfl) (fun j hj => eV j i (by omega)) (fun q hq => ⟨eV 8 _ (by omega), eV 97 _ (by omega)⟩)
theorem pBody_no {tb : Nat → Nat} {n k t : Nat} {M : mw_S} (h1 : ¬ (7 ≤ cd tb n t ∧ cd tb n t < 13)) (h2 : ¬ (27 ≤ cd tb n t ∧ cd tb n t < 30)) : pBody tb n k M t = (0, pf tb n M t, t) := by
  unfold pBody pBd1 pBd2
  rw [if_neg (by omega), if_neg (by omega), if_neg (by omega), if_pos (by unfold hkI; rw [if_neg (by omega)]; decide)]

theorem rk_89 {G : mm_G} {L : Nat × Nat} {h0 : mm_H} {tb : Nat → Nat} {n nk d k : Nat} {adS : Nat → Nat → Nat} {CS : cw_C} {B : Nat × Nat} {N : Nat → Nat} {A : Nat → Prop} {ad : Nat → Nat → Nat} {C : cw_C} {M : mw_S} {t : Nat} {h : mm_H} {Z : pr_T} (hn8 : n ≤ 800) (hS : sKd ad C tb n nk M t k) (h111 : M.1 111 = nI (kg M)) (hgb : kg M < 2 ^ 30) (hz5 : cd tb n t = 5 → Z = (1, mw_setV (pw tb n M t) 106 k (M.1 111), t + 1)) (hz0 : ¬ cd tb n t = 5 → Z.1 = 0 ∧ Z.2.1.1 24 = nI (qs tb n t)) (hrm : rmB n B h (qs tb n t)) (hN6 : N 6 = 0) (hok : oK N adS CS ad C) (h6 : ad 6 0 = adS 6 0) (hC : cw ad h0 C h) : mm_Run G mX6_readKind A L (d + 18) 89 [(0, .ref (ad 6 0)), (2, .ref (ad 4 k))] [] h (kQ N h0 adS CS B tb n nk k Z) := by
  have hr := hS.1.1
  have n6 := hr.1
  have n4 : k < cN C 4 := by rw [hS.1.2.2.2.2.1.1]; omega
  refine mm_aload_n (pc := 89) dX6_readKind_89 rfl (by first | trivial | assumption | exact mm_isr_rf _) ?_
  refine mm_iconst (pc := 90) (v := 5) dX6_readKind_90 (by decide) ?_
  refine mm_callV (pc := 91) (As := [_]) (kd := ?kd_91_1) (fs := ?fs_91_1) dX6_readKind_91 vl_X6_31 (tk_any (c := 5) hr hn8 hC (by decide) (by decide)) ?hc_91_1 ?hk_91_1 rfl rfl (Nat.le_of_ble_eq_true rfl) ?_; (case hc_91_1 => exact cw_cell (f := 6) hC rfl rfl n6); (case hk_91_1 => rfl)
  rintro _ h91 ⟨C2, hC, k_, e_, ⟨v_, rfl, -⟩, ⟨cm, hr2⟩ | ⟨cm, hr2⟩⟩
  · skip
    refine mm_pop2 (pc := 94) dX6_readKind_94 rfl ?_
    refine mm_aload_n (pc := 95) dX6_readKind_95 rfl (by first | trivial | assumption | exact mm_isr_rf _) ?_
    refine mm_aret (pc := 96) dX6_readKind_96 rfl (Or.inl ⟨_, rfl⟩) (by first | trivial | assumption | exact mm_isr_rf _) ?_
    have hs2 := (hS.take k_ hr2).fin h111 hgb
    have z5_ := hz5 cm
    refine ⟨ad, C2, rfl, hC, hok.six k_ hN6, h6, by rw [(k_ 4).2]; exact n4, Or.inl ⟨?_, ?_, ?_⟩⟩
    · rw [z5_]; exact (show ¬ (1 : Int32) = 0 by decide)
    · rw [z5_]; exact hs2
    · rw [z5_]; exact hrm.mono (qs_le_of (Nat.le_succ t)) e_
  · skip
    refine mm_pop2 (pc := 94) dX6_readKind_94 rfl ?_
    refine mm_aload_n (pc := 95) dX6_readKind_95 rfl (by first | trivial | assumption | exact mm_isr_rf _) ?_
    refine mm_aret (pc := 96) dX6_readKind_96 rfl (Or.inl ⟨_, rfl⟩) (by first | trivial | assumption | exact mm_isr_rf _) ?_
    have z5_ := hz0 cm
    exact ⟨ad, C2, rfl, hC, hok.six k_ hN6, h6, by rw [(k_ 4).2]; exact n4, Or.inr ⟨z5_.1, qs tb n t, hr2, z5_.2, hrm.X (x := 0) (y := 0) (by decide) (by decide) e_⟩⟩

theorem rkc_loop {G : mm_G} {L : Nat × Nat} {h0 : mm_H} {tb : Nat → Nat} {n a0 g0 nk d k : Nat} {adS : Nat → Nat → Nat} {CS : cw_C} {B : Nat × Nat} {N : Nat → Nat} {A : Nat → Prop} (htb : ∀ i, tb i < 256) (hk50 : k < 50) (hB1 : B.1 + 2 ≤ L.1) (hB2 : B.2 + 18 ≤ L.2) (hN4 : N 4 ≤ k) (hN21 : N 21 ≤ k) (hN6 : N 6 = 0) : ∀ (f i : Nat) (ad : Nat → Nat → Nat) (C : cw_C) (M : mw_S) (t : Nat) (h : mm_H), pI tb n a0 M t → gI tb n g0 M t → sKd ad C tb n nk M t k → rmB n B h (qs tb n t) → N 1 ≤ zG M k → oK N adS CS ad C → ad 6 0 = adS 6 0 → i ≤ qs tb n t → n - qs tb n t < f → cw ad h0 C h → mm_Run G mX6_readKind A L (d + 18) 64 [(0, .ref (ad 6 0)), (2, .ref (ad 4 k)), (3, .int (nI i))] [] h (kQ N h0 adS CS B tb n nk k (pBs tb n k f M t)) := by
  intro f
  induction f with
  | zero => intro i ad C M t h hI hg hS hrm hN1 hok h6 hi hf; omega
  | succ f ih =>
    intro i ad C M t h hI hg hS hrm hN1 hok h6 hi hf hC
    have hr := hS.1.1
    have n6 := hr.1
    have n4 : k < cN C 4 := by rw [hS.1.2.2.2.2.1.1]; omega
    have hn7 := hI.n7
    have hn8 : n ≤ 800 := by omega
    have hqt := qs_le (tb := tb) (n := n) t
    have hgc := hg.c hn7
    refine mm_iload_n (pc := 64) dX6_readKind_64 rfl ?_
    refine mm_sipush (pc := 65) (v := 700) dX6_readKind_65 (by decide) ?_
    refine mm_icmp_ge (pc := 68) (tgt := 89) dX6_readKind_68 (by decide) (fun c68 => ?_) (fun c68 => ?_)
    · have hi7 := (nI_leI (a := 700) (by decide) (by omega)).mp c68
      have hcd : cd tb n t < 2 := Nat.not_le.mp (fun z => by have := (qs_lt (tb := tb) (n := n) (t := t) z).2.2; omega)
      have hzz : pBs tb n k (f + 1) M t = if cd tb n t = 5 then (1, mw_setV (pw tb n M t) 106 k (M.1 111), t + 1) else if (pBody tb n k M t).1 = 0 then pBody tb n k M t else pBs tb n k f (pBody tb n k M t).2.1 (pBody tb n k M t).2.2 := rfl
      refine mm_weakK (rk_89 hn8 hS hgc.1 hgc.2.2.2 (fun cm => by rw [hzz, if_pos cm]) (fun cm => ?_) hrm hN6 hok h6 hC) (And.intro rfl (And.intro rfl trivial))
      rw [hzz, if_neg cm, pBody_no (by omega) (by omega), if_pos rfl]
      exact ⟨rfl, rfl⟩
    · refine mm_aload_n (pc := 71) dX6_readKind_71 rfl (by first | trivial | assumption | exact mm_isr_rf _) ?_
      refine mm_callV (pc := 72) (As := []) (kd := ?kd_72_2) (fs := ?fs_72_2) dX6_readKind_72 vl_X6_75 (bb_live hr hn8 hC) ?hc_72_2 ?hk_72_2 rfl rfl (Nat.le_of_ble_eq_true rfl) ?_; (case hc_72_2 => exact cw_cell (f := 6) hC rfl rfl n6); (case hk_72_2 => rfl)
      rintro _ _ ⟨rfl, rfl⟩
      refine mm_if_eq (pc := 75) (tgt := 89) dX6_readKind_75 (by decide) (fun c75 => ?_) (fun c75 => ?_)
      · have hnb := bI_d.mp c75
        have hzz : pBs tb n k (f + 1) M t = if cd tb n t = 5 then (1, mw_setV (pw tb n M t) 106 k (M.1 111), t + 1) else if (pBody tb n k M t).1 = 0 then pBody tb n k M t else pBs tb n k f (pBody tb n k M t).2.1 (pBody tb n k M t).2.2 := rfl
        refine mm_weakK (rk_89 hn8 hS hgc.1 hgc.2.2.2 (fun cm => by rw [hzz, if_pos cm]) (fun cm => ?_) hrm hN6 hok h6 hC) (And.intro rfl (And.intro rfl trivial))
        rw [hzz, if_neg cm, pBody_no (fun z => hnb (Or.inl z)) (fun z => hnb (Or.inr z)), if_pos rfl]
        exact ⟨rfl, rfl⟩
      · have hnb := bI_n c75
        have hc5 : ¬ cd tb n t = 5 := by omega
        refine mm_aload_n (pc := 78) dX6_readKind_78 rfl (by first | trivial | assumption | exact mm_isr_rf _) ?_
        refine mm_aload_n (pc := 79) dX6_readKind_79 rfl (by first | trivial | assumption | exact mm_isr_rf _) ?_
        refine mm_callV (pc := 80) (As := [_]) (kd := ?kd_80_3) (fs := ?fs_80_3) dX6_readKind_80 vl_X6_79 (rbd_ok (d := d) htb hI hg hS hk50 hrm hB1 hB2 hN1 hN4 hN21 hN6 (fun f => (hok f).1) hC) ?hc_80_3 ?hk_80_3 rfl rfl (Nat.le_of_ble_eq_true rfl) ?_; (case hc_80_3 => exact cw_cell (f := 6) hC rfl rfl n6); (case hk_80_3 => rfl)
        rintro _ h80 ⟨rfl, ad1, C1, hC, ok1, ⟨e6, e4⟩, ⟨zne, sk1, rm1⟩ | ⟨zeq, p_, rd, pl, rx, n4b⟩⟩
        · rw [← e6, ← e4]
          have hpb := (pBody_post (k := k) hI).resolve_left zne
          have hzz : pBs tb n k (f + 1) M t = pBs tb n k f (pBody tb n k M t).2.1 (pBody tb n k M t).2.2 := (if_neg hc5).trans (if_neg zne)
          rw [hzz]
          obtain ⟨th_, q_, r_, l_, fx_⟩ := pBody_fx (k := k) hI hg zne
          have hzG : zG (pBody tb n k M t).2.1 k = zG M k := by unfold zG; rw [fx_.2.1.2.2.2 105 k (by unfold kbV; omega)]
          have hq1 := qs_lt (tb := tb) (n := n) (t := t) (by omega)
          have hq2 := qs_le_of (tb := tb) (n := n) hpb.2.1.2
          have hqn := qs_le (tb := tb) (n := n) (pBody tb n k M t).2.2
          refine mm_iinc (pc := 83) dX6_readKind_83 rfl rfl rfl (Nat.le_of_ble_eq_true rfl) ?_
          refine mm_goto (pc := 86) (tgt := 64) dX6_readKind_86 (by decide) ?_
          exact mm_weakK (ih (i + 1) ad1 C1 _ _ h80 hpb.2.1.1 (gI.body hI hg zne) sk1 rm1 (by rw [hzG]; exact hN1) (hok.trans ok1) (e6.trans h6) (by omega) (by omega) hC) (And.intro rfl (And.intro rfl (And.intro (congrArg (fun z => some (Value.int z)) (nI_add i 1)) trivial)))
        · rw [← e6, ← e4]
          have hzz : pBs tb n k (f + 1) M t = pBody tb n k M t := (if_neg hc5).trans (if_pos zeq)
          rw [hzz]
          refine mm_iinc (pc := 83) dX6_readKind_83 rfl rfl rfl (Nat.le_of_ble_eq_true rfl) ?_
          refine mm_goto (pc := 86) (tgt := 64) dX6_readKind_86 (by decide) ?_
          exact mm_weakK (rk_d64 (p := p_) n4b hN4 rd ⟨zeq, pl⟩ rx (hok.trans ok1) (e6.trans h6) hC) (And.intro rfl (And.intro rfl (And.intro rfl trivial)))

theorem rk_ok {G : mm_G} {L : Nat × Nat} {h0 : mm_H} {tb : Nat → Nat} {n a0 g0 nk d k t : Nat} {M : mw_S} {ad : Nat → Nat → Nat} {C : cw_C} {B : Nat × Nat} {N : Nat → Nat} {h : mm_H} (htb : ∀ i, tb i < 256) (hI : pI tb n a0 M t) (hg : gI tb n g0 M t) (hS : sPk ad C tb n nk M t k k) (hk35 : (M.1 3 + M.1 35).toNatClampNeg = k) (h35 : ¬ M.1 35 = 10) (hk50 : k < 50) (hrm : rmB n B h (qs tb n t)) (hB1 : B.1 + 2 ≤ L.1) (hB2 : B.2 + 18 ≤ L.2) (hN4 : N 4 ≤ k) (hN21 : N 21 ≤ k) (hN6 : N 6 = 0) (hNo : ∀ f, N f ≤ cN C f) (hC : cw ad h0 C h) : mm_Ok G mX6_readKind L (d + 18) [.ref (ad 6 0)] h (fun r h1 => kQ N h0 ad C B tb n nk k (pKind tb n M t) r h1) := by
  refine mm_Ok.of [(0, .ref (ad 6 0))] rfl kX6_readKind.2.2.2.2.2 rfl (fun A => ?_)
  have hr := hS.1
  have n6 := hr.1
  have hn7 := hI.n7
  have hn8 : n ≤ 800 := by omega
  have hgc := hg.c hn7
  have hu_ := hrm
  unfold rmB at hu_
  refine mm_aload_n (pc := 0) dX6_readKind_0 rfl (by first | trivial | assumption | exact mm_isr_rf _) ?_
  refine mm_bipush (pc := 1) (v := 25) dX6_readKind_1 (by decide) ?_
  refine mm_callV (pc := 3) (As := [_]) (kd := ?kd_3_4) (fs := ?fs_3_4) dX6_readKind_3 vl_X6_31 (tk_any (c := 25) hr hn8 hC (by decide) (by decide)) ?hc_3_4 ?hk_3_4 rfl rfl (Nat.le_of_ble_eq_true rfl) ?_; (case hc_3_4 => exact cw_cell (f := 6) hC rfl rfl n6); (case hk_3_4 => rfl)
  rintro _ h3 ⟨C0, hC, k0, e0, ⟨v0, rfl, -⟩, ⟨c25, hr0⟩ | ⟨c25, hr0⟩⟩
  · obtain ⟨n6, hf0, hnow, hrc, hwd⟩ := id hr0
    obtain ⟨n10, hw, -, -⟩ := hwd.at hrc
    have hS0 : sPk ad C0 tb n nk M (t + 1) k k := hS.same hr0 ((k0 0).1 (by decide)) ((k0 1).1 (by decide)) ((k0 4).1 (by decide)) ((k0 21).1 (by decide)) rfl rfl rfl (fun _ _ => rfl)
    have hk0 := hS0.2.2.2.2.1.1
    have hk1 := hS0.2.2.2.2.1.2
    have hok0 := (oK.refl (ad := ad) hNo).six k0 hN6
    have hL1 : h3.2.1 + 1 ≤ L.1 := by rw [e0]; omega
    have hL2 : h3.2.2 + 12 ≤ L.2 := by rw [e0]; omega
    refine mm_pop2 (pc := 6) dX6_readKind_6 rfl ?_
    refine mm_aload_n (pc := 7) dX6_readKind_7 rfl (by first | trivial | assumption | exact mm_isr_rf _) ?_
    refine cw_grS (pc := 8) 6 _ 1 hC (rfl) rfl (n6) dX6_readKind_8 fl_X6_20 rfl rfl rfl (hnow) ?_
    refine cw_gi (pc := 11) 10 (t + 1) 1 hC (rfl) rfl (n10) dX6_readKind_11 fl_X6_47 rfl rfl rfl ?_
    refine mm_topi _ hw.2.1 ?_
    refine mm_istore_n (pc := 14) dX6_readKind_14 rfl (Nat.le_of_ble_eq_true rfl) ?_
    refine mm_new (pc := 15) dX6_readKind_15 nl_X6_64 (hL1) (hL2) ?_
    have hC := hC.new 4 (by decide) rfl rfl
    have hr1 := hr0.same (ad' := cw_ad ad C0 4 h3.2.1) (C' := cw_new C0 4) (cw_ext_o (by decide)) (cw_ext_o (by decide)) (fun i hi => cw_ad_o hi)
    have en : cw_ad ad C0 4 h3.2.1 4 k = h3.2.1 := by rw [← hk0]; exact cw_ad_n
    have e6 : cw_ad ad C0 4 h3.2.1 6 0 = ad 6 0 := cw_ad_o n6
    rw [← en, ← e6]
    have hok1 : oK N ad C (cw_ad ad C0 4 h3.2.1) (cw_new C0 4) := hok0.ext
    have n6 := hr1.1
    have hL1 : h3.2.1 + 1 + 1 ≤ L.1 := by rw [e0]; omega
    have hL2 : h3.2.2 + 12 + 6 ≤ L.2 := by rw [e0]; omega
    refine mm_dup (pc := 18) dX6_readKind_18 rfl ?_
    refine mm_aload_n (pc := 19) dX6_readKind_19 rfl (by first | trivial | assumption | exact mm_isr_rf _) ?_
    refine mm_iconst (pc := 20) (v := 2) dX6_readKind_20 (by decide) ?_
    refine mm_callV (pc := 21) (As := [_]) (kd := ?kd_21_5) (fs := ?fs_21_5) dX6_readKind_21 vl_X6_31 (tk_any (c := 2) hr1 hn8 hC (by decide) (by decide)) ?hc_21_5 ?hk_21_5 rfl rfl (Nat.le_of_ble_eq_true rfl) ?_; (case hc_21_5 => exact cw_cell (f := 6) hC rfl rfl n6); (case hk_21_5 => rfl)
    rintro _ h21 ⟨C2, hC, k2, e2, ⟨v2, rfl, hv2⟩, ⟨c2, hr2⟩ | ⟨c2, hr2⟩⟩
    · have m4 : k < cN C2 4 := by rw [(k2 4).2, show cN (cw_new C0 4) 4 = cN C0 4 + 1 from cN_ext, hk0]; omega
      have n6 := hr2.1
      obtain rfl : v2 = spL (wo tb n (t + 1)) := by
        rw [hv2 c2, show cL (cw_new C0 4) 10 (t + 1) 3 = cL C0 10 (t + 1) 3 from cL_o (cw_ext_o (by decide))]
        exact hw.2.2.1 c2
      refine mm_iload_n (pc := 24) dX6_readKind_24 rfl ?_
      refine mm_callI (pc := 25) (As := [_, _]) dX6_readKind_25 il_X6_66 (x4_init m4 (by rw [e2]; exact hL1) (by rw [e2]; exact hL2) hC) rfl rfl (Nat.le_of_ble_eq_true rfl) ?_
      rintro _ h25 ⟨ad3, C3, hC, ha, hki, e25, rfl⟩
      have hok3 := kIn.oK (hok1.six k2 hN6) hki ha hN4
      have hkn := kNw_of hk0 hk1 k2 ha hki
      have hr3 := hr2.same (ad' := ad3) (C' := C3) (hki.1 6 (by decide) (by decide)) (hki.1 10 (by decide) (by decide)) (fun i hi => ha 10 i hi)
      have m4_ := m4
      have m4 : k < cN C3 4 := by rw [hki.2.1]; exact m4
      have e36 : ad3 6 0 = ad 6 0 := (ha 6 0 n6).trans e6
      rw [← ha 6 0 n6, ← ha 4 k m4_]
      have n6 := hr3.1
      have s25 : h25.2 = (h.2.1 + 2, h.2.2 + 18) := by rw [e25, e2]; show (h3.2.1 + 1 + 1, h3.2.2 + 12 + 6) = _; rw [e0]
      refine mm_astore_n (pc := 28) dX6_readKind_28 (by first | trivial | assumption | exact mm_isr_rf _) rfl (Nat.le_of_ble_eq_true rfl) ?_
      refine mm_aload_n (pc := 29) dX6_readKind_29 rfl (by first | trivial | assumption | exact mm_isr_rf _) ?_
      refine mm_bipush (pc := 30) (v := 26) dX6_readKind_30 (by decide) ?_
      refine mm_callV (pc := 32) (As := [_]) (kd := ?kd_32_6) (fs := ?fs_32_6) dX6_readKind_32 vl_X6_31 (tk_any (c := 26) hr3 hn8 hC (by decide) (by decide)) ?hc_32_6 ?hk_32_6 rfl rfl (Nat.le_of_ble_eq_true rfl) ?_; (case hc_32_6 => exact cw_cell (f := 6) hC rfl rfl n6); (case hk_32_6 => rfl)
      rintro _ h32 ⟨C4, hC, k4, e4, ⟨v32, rfl, hv32⟩, ⟨c3, hr32⟩ | ⟨c3, hr32⟩⟩
      · have hkn := hkn.six k4
        have m4 : k < cN C4 4 := by rw [(k4 4).2]; exact m4
        obtain ⟨n6, hf4, hnow, hrc, hwd⟩ := id hr32
        obtain ⟨n10, hw4, -, -⟩ := hwd.at hrc
        have hok4 := hok3.six k4 hN6
        refine mm_pop2 (pc := 35) dX6_readKind_35 rfl ?_
        refine mm_aload_n (pc := 36) dX6_readKind_36 rfl (by first | trivial | assumption | exact mm_isr_rf _) ?_
        refine mm_aload_n (pc := 37) dX6_readKind_37 rfl (by first | trivial | assumption | exact mm_isr_rf _) ?_
        refine cw_grS (pc := 38) 6 _ 1 hC (rfl) rfl (n6) dX6_readKind_38 fl_X6_20 rfl rfl rfl (hnow) ?_
        refine cw_gi (pc := 41) 10 (t + 1 + 1 + 1) 1 hC (rfl) rfl (n10) dX6_readKind_41 fl_X6_47 rfl rfl rfl ?_
        refine mm_topi _ hw4.2.1 ?_
        refine cw_pi (pc := 44) 4 k 3 hC (rfl) rfl (m4) dX6_readKind_44 (pl_X6_69 _) rfl rfl (rfl) (rfl) (fun h44 hC e44 => ?_)
        refine mm_aload_n (pc := 47) dX6_readKind_47 rfl (by first | trivial | assumption | exact mm_isr_rf _) ?_
        refine mm_aload_n (pc := 48) dX6_readKind_48 rfl (by first | trivial | assumption | exact mm_isr_rf _) ?_
        refine mm_iconst (pc := 49) (v := 2) dX6_readKind_49 (by decide) ?_
        refine mm_callV (pc := 50) (As := [_]) (kd := ?kd_50_7) (fs := ?fs_50_7) dX6_readKind_50 vl_X6_31 (tk_any (c := 2) (hr32.same (cw_sI_o (by decide)) (cw_sI_o (by decide)) (fun _ _ => rfl)) hn8 hC (by decide) (by decide)) ?hc_50_7 ?hk_50_7 rfl rfl (Nat.le_of_ble_eq_true rfl) ?_; (case hc_50_7 => exact cw_cell (f := 6) hC rfl rfl (by rw [cw_sI_N]; exact n6)); (case hk_50_7 => rfl)
        rintro _ h50 ⟨C5, hC, k5, e5, ⟨v50, rfl, hv50⟩, ⟨c4, hr50⟩ | ⟨c4, hr50⟩⟩
        · obtain rfl : v50 = spL (wo tb n (t + 1 + 1 + 1)) := by
            rw [hv50 c4, cL_sI]
            exact hw4.2.2.1 c4
          have hkn := (hkn.sI3 (x := nI (qs tb n (t + 1 + 1 + 1)))).six k5
          have m5 : k < cN C5 4 := by rw [(k5 4).2, cw_sI_N]; exact m4
          have n6 := hr50.1
          have hok5 := ((hok4.sI (f := 4) (j := 3) (x := nI (qs tb n (t + 1 + 1 + 1))) hN4)).six k5 hN6
          refine cw_pl (pc := 53) 4 k 2 hC (rfl) rfl (m5) dX6_readKind_53 (pl_X6_72 _) rfl rfl (fun h53 hC e53 => ?_)
          refine mm_aload_n (pc := 56) dX6_readKind_56 rfl (by first | trivial | assumption | exact mm_isr_rf _) ?_
          refine mm_iconst (pc := 57) (v := 4) dX6_readKind_57 (by decide) ?_
          refine mm_callV (pc := 58) (As := [_]) (kd := ?kd_58_8) (fs := ?fs_58_8) dX6_readKind_58 vl_X6_31 (tk_any (c := 4) (hr50.same (cw_sL_o (by decide)) (cw_sL_o (by decide)) (fun _ _ => rfl)) hn8 hC (by decide) (by decide)) ?hc_58_8 ?hk_58_8 rfl rfl (Nat.le_of_ble_eq_true rfl) ?_; (case hc_58_8 => exact cw_cell (f := 6) hC rfl rfl (by rw [cw_sL_N]; exact n6)); (case hk_58_8 => rfl)
          rintro _ h58 ⟨C6, hC, k6_, e6_, ⟨v58, rfl, hv58⟩, ⟨c5, hr58⟩ | ⟨c5, hr58⟩⟩
          · have hkn := (hkn.sL2 (x := spL (wo tb n (t + 1 + 1 + 1)))).six k6_
            have hok6 := (hok5.sL (f := 4) (j := 2) (x := spL (wo tb n (t + 1 + 1 + 1))) hN4).six k6_ hN6
            have hsk := sKd.head hS0 hI.kA_.1 hgc.1 hgc.2.2.2 hkn hr58
            have hh_ : kHd tb n M t := ⟨c25, h35, c2, c3, c4, c5⟩
            have hq1 := qs_lt (tb := tb) (n := n) (t := t) (by omega)
            have hq2 := qs_lt (tb := tb) (n := n) (t := t + 1) (by omega)
            have hq3 := qs_le_of (tb := tb) (n := n) (show t + 1 + 1 ≤ t + 1 + 1 + 1 + 1 + 1 by omega)
            have hqn := qs_le (tb := tb) (n := n) (t + 1 + 1 + 1 + 1 + 1)
            have hzk : zG (kM6 tb n k M t) k = kg M := by unfold zG; rw [(kM6_N hI.kA_.1 hgc.1).2.2.1, nI_clamp (by omega)]
            rw [pKind_ok hk35 hh_]
            refine mm_pop2 (pc := 61) dX6_readKind_61 rfl ?_
            refine mm_iconst (pc := 62) (v := 0) dX6_readKind_62 (by decide) ?_
            refine mm_istore_n (pc := 63) dX6_readKind_63 rfl (Nat.le_of_ble_eq_true rfl) ?_
            exact mm_weakK (rkc_loop htb hk50 hB1 hB2 hN4 hN21 hN6 (n + 1) 0 ad3 _ (kM6 tb n k M t) (t + 1 + 1 + 1 + 1 + 1) h58 hI.k6 (hg.k6) hsk (hrm.newK (by omega) hqn (by rw [e6_, e53, e5, e44, e4, s25])) (by rw [hzk, ← hS.2.2.1]; exact hNo 1) hok6 e36 (Nat.zero_le _) (by omega) hC) (And.intro rfl (And.intro rfl (And.intro rfl trivial)))
          · exact mm_weakK (rk_d61 (by rw [(k6_ 4).2, cw_sL_N]; exact m5) hN4 hr58 (pKd_5 c25 h35 c2 c3 c4 c5) (hrm.X (Nat.le_refl 2) (Nat.le_refl 18) (by rw [e6_, e53, e5, e44, e4, s25])) ((hok5.sL hN4).six k6_ hN6) e36 hC) (And.intro rfl (And.intro rfl trivial))
        · exact mm_weakK (rk_d53 (by rw [(k5 4).2, cw_sI_N]; exact m4) hN4 hr50 (pKd_4 c25 h35 c2 c3 c4) (hrm.X (Nat.le_refl 2) (Nat.le_refl 18) (by rw [e5, e44, e4, s25])) ((hok4.sI hN4).six k5 hN6) e36 hC) (And.intro rfl (And.intro rfl trivial))
      · exact mm_weakK (rk_d35 (by rw [(k4 4).2]; exact m4) hN4 hr32 (pKd_3 c25 h35 c2 c3) (hrm.X (Nat.le_refl 2) (Nat.le_refl 18) (by rw [e4, s25])) (hok3.six k4 hN6) e36 hC) (And.intro rfl (And.intro rfl trivial))
    · have m4 : k < cN C2 4 := by rw [(k2 4).2, show cN (cw_new C0 4) 4 = cN C0 4 + 1 from cN_ext, hk0]; omega
      exact mm_weakK (rk_d24 m4 hN4 hr2 (pKd_2 c25 h35 c2) (hok1.six k2 hN6) e6 hC (by rw [e2]; exact hL1) (by rw [e2]; exact hL2) (by rw [e2]; show h3.2.1 + 1 + 1 ≤ _ ∧ h3.2.2 + 12 + 6 ≤ _; rw [e0]; omega)) (And.intro rfl (And.intro rfl trivial))
  · exact rk_d6 ((cN_o ((k0 4).1 (by decide))).trans hS.2.2.2.2.1.1) hN4 hr0 (pKd_1 c25) (by rw [e0]; omega) hB1 hB2 ((oK.refl hNo).six k0 hN6) rfl hC

