theorem pkW_kind {P : Nat → Nat} {ad ad1 : Nat → Nat → Nat} {C C1 : cw_C} {tb : Nat → Nat} {n a0 g0 nk np nn t : Nat} {M : mw_S} (h : pkW ad C M np nn nk) (o : oK P ad C ad1 C1) (h5 : P 5 = np + 1) (h20 : P 20 = np + 1) (ha : ∀ i, i < nn → ad1 4 (nk + i) = ad 4 (nk + i)) (hI : pI tb n a0 M t) (hg : gI tb n g0 M t) (h3 : M.1 3 = nI nk) (h35 : M.1 35 = nI nn) (hnk : nk ≤ 40) (hnn : nn ≤ 10) (hr : ¬ (pKind tb n M t).1 = 0) : pkW ad1 C1 (pKind tb n M t).2.1 np nn nk := by
  obtain ⟨-, -, -, w, s, -⟩ := pKind_cnt hI hg h3 h35 hnk hnn hr
  have w := congrArg Prod.fst w
  refine h.oK o h5 h20 ha ?_ ?_ (s 101 (by unfold kbS kpS; omega) (by decide)) (s 100 (by unfold kbS kpS; omega) (by decide))
  · rw [w]
    show mw_u2 (mw_u2 M.2.2.2.1 100 (nk + nn) (spL (wo tb n (t + 1)))) 103 (nk + nn) (spL (wo tb n (t + 1 + 1 + 1))) 102 0 = _
    rw [mw_u2_ne _ _ (by omega), mw_u2_ne _ _ (by omega)]
  · rw [w]
    show mw_u2 (mw_u2 M.2.2.2.1 100 (nk + nn) (spL (wo tb n (t + 1)))) 103 (nk + nn) (spL (wo tb n (t + 1 + 1 + 1))) 104 0 = _
    rw [mw_u2_ne _ _ (by omega), mw_u2_ne _ _ (by omega)]

theorem rp_loop {G : mm_G} {L : Nat × Nat} {h0 : mm_H} {tb : Nat → Nat} {n a0 g0 nk np d : Nat} {adS : Nat → Nat → Nat} {CS : cw_C} {B : Nat × Nat} {N P : Nat → Nat} {A : Nat → Prop} (htb : ∀ i, tb i < 256) (hnk : nk ≤ 40) (hB1 : B.1 + 2 ≤ L.1) (hB2 : B.2 + 18 ≤ L.2) (hP5 : P 5 = np + 1) (hP20 : P 20 = np + 1) (hP4 : P 4 ≤ nk) (hP21 : P 21 ≤ nk) (hP6 : P 6 = 0) (hPN : ∀ f, N f ≤ P f) (hN5 : N 5 ≤ np) (hN20 : N 20 ≤ np) : ∀ (f nn : Nat) (ad : Nat → Nat → Nat) (C : cw_C) (M : mw_S) (t : Nat) (h : mm_H), pI tb n a0 M t → gI tb n g0 M t → sPk ad C tb n nk M t (nk + nn) (nk + nn) → pkW ad C M np nn nk → M.1 3 = nI nk → M.1 35 = nI nn → nn ≤ 10 → rmB n B h (qs tb n t) → (∀ f, P f ≤ cN C f) → oK N adS CS ad C → ad 6 0 = adS 6 0 → n - qs tb n t < f → cw ad h0 C h →  mm_Run G mX6_readPack A L (d + 19) 122 [(0, .ref (ad 6 0)), (3, .ref (ad 5 np)), (5, .int (nI nn))] [] h (pQ N h0 adS CS B tb n nk np (rst tb n f M t)) := by
  intro f
  induction f with
  | zero => intro nn ad C M t h hI hg hS hpw h3 h35 hnn hrm hPo hok h6 hf; omega
  | succ f ih =>
    intro nn ad C M t h hI hg hS hpw h3 h35 hnn hrm hPo hok h6 hf hC
    have hr := hS.1
    have n6 := hr.1
    have hn7 := hI.n7
    have hn8 : n ≤ 800 := by omega
    have hqt := qs_le (tb := tb) (n := n) t
    refine mm_iload (pc := 122) dX6_readPack_122 rfl ?_
    refine mm_bipush (pc := 124) (v := 10) dX6_readPack_124 (by decide) ?_
    refine mm_icmp_ge (pc := 126) (tgt := 152) dX6_readPack_126 (by decide) (fun c126 => ?_) (fun c126 => ?_)
    · have m10 : M.1 35 = 10 := by
        have := (nI_leI (a := 10) (by decide) (by omega)).mp c126
        rw [h35, show nn = 10 by omega]; rfl
      have hzz : rst tb n (f + 1) M t = if cd tb n t = 5 then pEnd tb n (pw tb n M t) (t + 1) else if (pKind tb n M t).1 = 0 then pKind tb n M t else rst tb n f (pKind tb n M t).2.1 (pKind tb n M t).2.2 := rfl
      refine mm_weakK (rp_152 hn8 hS hpw h35 hnn (by have := hPN 6; omega) hrm hok h6 hC (fun cm => by rw [hzz, if_pos cm]) (fun cm => ?_)) (And.intro rfl (And.intro rfl trivial))
      rw [hzz, if_neg cm, if_pos (pKd_0 (M := M) (t := t) (Or.inr m10)).1]
      exact pKd_0 (Or.inr m10)
    · have hnn10 : nn < 10 := Nat.not_le.mp (fun z => c126 (nI_le (a := 10) z (by omega)))
      refine mm_aload_n (pc := 129) dX6_readPack_129 rfl (by first | trivial | assumption | exact mm_isr_rf _) ?_
      refine mm_bipush (pc := 130) (v := 25) dX6_readPack_130 (by decide) ?_
      refine mm_callV (pc := 132) (As := [_]) (kd := ?kd_132_1) (fs := ?fs_132_1) dX6_readPack_132 vl_X6_39 (se_live (c := 25) (by decide) hr hn8 hC) ?hc_132_1 ?hk_132_1 rfl rfl (Nat.le_of_ble_eq_true rfl) ?_; (case hc_132_1 => exact cw_cell (f := 6) hC rfl rfl n6); (case hk_132_1 => rfl)
      rintro _ _ ⟨rfl, rfl⟩
      refine mm_if_eq (pc := 135) (tgt := 152) dX6_readPack_135 (by decide) (fun c135 => ?_) (fun c135 => ?_)
      · have hnb := bI_d.mp c135
        have hzz : rst tb n (f + 1) M t = if cd tb n t = 5 then pEnd tb n (pw tb n M t) (t + 1) else if (pKind tb n M t).1 = 0 then pKind tb n M t else rst tb n f (pKind tb n M t).2.1 (pKind tb n M t).2.2 := rfl
        refine mm_weakK (rp_152 hn8 hS hpw h35 hnn (by have := hPN 6; omega) hrm hok h6 hC (fun cm => by rw [hzz, if_pos cm]) (fun cm => ?_)) (And.intro rfl (And.intro rfl trivial))
        rw [hzz, if_neg cm, if_pos (pKd_0 (M := M) (t := t) (Or.inl hnb)).1]
        exact pKd_0 (Or.inl hnb)
      · have hnb := bI_n c135
        have h35n : ¬ M.1 35 = 10 := fun z => by have := (nI_eq (b := 10) (by omega) (by decide)).mp (h35.symm.trans z); omega
        have hk35 : (M.1 3 + M.1 35).toNatClampNeg = nk + nn := by rw [h3, h35, nI_add, nI_clamp (by omega)]
        have hQ5 : mw_u P 4 (nk + nn) 5 = np + 1 := (cu_ne (by decide)).trans hP5
        have hQ20 : mw_u P 4 (nk + nn) 20 = np + 1 := (cu_ne (by decide)).trans hP20
        have hQ6 : mw_u P 4 (nk + nn) 6 = 0 := (cu_ne (by decide)).trans hP6
        have hPQ : ∀ f, P f ≤ mw_u P 4 (nk + nn) f := fun f => by
          by_cases e : f = 4
          · rw [e, cu_eq]; omega
          · rw [cu_ne e]; exact Nat.le_refl _
        have hQN : ∀ f, N f ≤ mw_u P 4 (nk + nn) f := fun f => Nat.le_trans (hPN f) (hPQ f)
        have hQo : ∀ f, mw_u P 4 (nk + nn) f ≤ cN C f := fun f => by
          by_cases e : f = 4
          · rw [e, cu_eq, hS.2.2.2.2.1.1]; exact Nat.le_refl _
          · rw [cu_ne e]; exact hPo f
        refine mm_aload_n (pc := 138) dX6_readPack_138 rfl (by first | trivial | assumption | exact mm_isr_rf _) ?_
        refine mm_aload_n (pc := 139) dX6_readPack_139 rfl (by first | trivial | assumption | exact mm_isr_rf _) ?_
        refine mm_callV (pc := 140) (As := []) (kd := ?kd_140_2) (fs := ?fs_140_2) dX6_readPack_140 vl_X6_56 (rk_ok (d := d) (N := mw_u P 4 (nk + nn)) htb hI hg hS hk35 h35n (by omega) hrm hB1 hB2 (by rw [cu_eq]; exact Nat.le_refl _) (by rw [cu_ne (by decide)]; omega) hQ6 hQo hC) ?hc_140_2 ?hk_140_2 rfl rfl (Nat.le_of_ble_eq_true rfl) ?_; (case hc_140_2 => exact cw_cell (f := 6) hC rfl rfl n6); (case hk_140_2 => rfl)
        rintro _ h140 ⟨ad1, C1, e140, hC, ok1, e6, n4b, ⟨zne, sk1, rm1⟩ | ⟨zeq, p_, rd, pl, rx⟩⟩
        · cases e140
          have hpd1 := hpw.1.oK ok1 hQ5 hQ20
          have e5 : ad1 5 np = ad 5 np := ok1.A (by rw [hQ5]; omega)
          rw [← e6, ← e5]
          have hpw1 := pkW_kind hpw ok1 hQ5 hQ20 (fun i hi => ok1.A (f := 4) (by rw [cu_eq]; omega)) hI hg h3 h35 hnk hnn zne
          have hcnt := pKind_cnt hI hg h3 h35 hnk hnn zne
          have hpost := pKind_post hI zne
          have hq2 := qs_le_of (tb := tb) (n := n) hpost.2.2.1.2
          have hq1 := hpost.2.2.2
          have hqn := qs_le (tb := tb) (n := n) (pKind tb n M t).2.2
          have hzz : rst tb n (f + 1) M t = rst tb n f (pKind tb n M t).2.1 (pKind tb n M t).2.2 := (if_neg (by omega)).trans (if_neg zne)
          rw [hzz]
          refine mm_callV (pc := 143) (As := [_]) (kd := ?kd_143_3) (fs := ?fs_143_3) dX6_readPack_143 vl_X6_60 (x5_add (nn := nn) (k := nk + nn) hpd1.1 hpd1.2.1 n4b hpd1.2.2.1 hpd1.2.2.2 hnn10 hC) ?hc_143_3 ?hk_143_3 rfl rfl (Nat.le_of_ble_eq_true rfl) ?_; (case hc_143_3 => exact cw_cell (f := 5) hC rfl rfl hpd1.1); (case hk_143_3 => rfl)
          rintro _ h143 ⟨hC, e_, rfl⟩
          have hC : cw ad1 h0 (adC C1 ad1 np nn (nk + nn)) h143 := hC
          have hokA := ((hok.trans (ok1.le hQN)).sR (f := 20) (j := nn) (x := some (ad1 4 (nk + nn))) hN20).sI (f := 5) (j := 7) (x := nI (nn + 1)) hN5
          refine mm_iinc (pc := 146) dX6_readPack_146 rfl rfl rfl (Nat.le_of_ble_eq_true rfl) ?_
          refine mm_goto (pc := 149) (tgt := 122) dX6_readPack_149 (by decide) ?_
          exact mm_weakK (ih (nn + 1) ad1 _ _ _ h143 (hpost.2.2.1.1) hcnt.2.2.1 (sk1.same (sk1.1.same (adC_o (by decide) (by decide)) (adC_o (by decide) (by decide)) (fun _ _ => rfl)) (adC_o (by decide) (by decide)) (adC_o (by decide) (by decide)) (adC_o (by decide) (by decide)) (adC_o (by decide) (by decide)) rfl rfl rfl (fun _ _ => rfl)) hpw1.add (by rw [hcnt.2.2.2.2.1 3 (by unfold kbS kpS; omega) (by decide)]; exact h3) hcnt.1 (by omega) (rm1.mono (Nat.le_refl _) e_) (fun f => by rw [adC_N]; exact Nat.le_trans (hPQ f) (ok1 f).1) hokA (e6.trans h6) (by omega) hC) (And.intro rfl (And.intro rfl (And.intro (congrArg (fun z => some (Value.int z)) (nI_add nn 1)) trivial)))
        · cases e140
          have hpd1 := hpw.1.oK ok1 hQ5 hQ20
          have e5 : ad1 5 np = ad 5 np := ok1.A (by rw [hQ5]; omega)
          rw [← e6, ← e5]
          have hzz : rst tb n (f + 1) M t = pKind tb n M t := (if_neg (by omega)).trans (if_pos zeq)
          rw [hzz]
          refine mm_callV (pc := 143) (As := [_]) (kd := ?kd_143_4) (fs := ?fs_143_4) dX6_readPack_143 vl_X6_60 (x5_add (nn := nn) (k := nk + nn) hpd1.1 hpd1.2.1 n4b hpd1.2.2.1 hpd1.2.2.2 hnn10 hC) ?hc_143_4 ?hk_143_4 rfl rfl (Nat.le_of_ble_eq_true rfl) ?_; (case hc_143_4 => exact cw_cell (f := 5) hC rfl rfl hpd1.1); (case hk_143_4 => rfl)
          rintro _ h143 ⟨hC, e_, rfl⟩
          have hC : cw ad1 h0 (adC C1 ad1 np nn (nk + nn)) h143 := hC
          have hokA := ((hok.trans (ok1.le hQN)).sR (f := 20) (j := nn) (x := some (ad1 4 (nk + nn))) hN20).sI (f := 5) (j := 7) (x := nI (nn + 1)) hN5
          refine mm_iinc (pc := 146) dX6_readPack_146 rfl rfl rfl (Nat.le_of_ble_eq_true rfl) ?_
          refine mm_goto (pc := 149) (tgt := 122) dX6_readPack_149 (by decide) ?_
          exact mm_weakK (rp_d122 (p := p_) (rx.same e_) (rd.same (adC_o (by decide) (by decide)) (adC_o (by decide) (by decide)) (fun _ _ => rfl)) ⟨zeq, pl⟩ hokA (e6.trans h6) hC) (And.intro rfl (And.intro rfl (And.intro rfl trivial)))

theorem rp_105 {G : mm_G} {L : Nat × Nat} {h0 : mm_H} {tb : Nat → Nat} {n a0 g0 nk np d : Nat} {adS : Nat → Nat → Nat} {CS : cw_C} {B : Nat × Nat} {N P : Nat → Nat} {A : Nat → Prop} {ad : Nat → Nat → Nat} {C : cw_C} {M : mw_S} {t : Nat} {h : mm_H} (htb : ∀ i, tb i < 256) (hnk : nk ≤ 40) (hB1 : B.1 + 2 ≤ L.1) (hB2 : B.2 + 18 ≤ L.2) (hP5 : P 5 = np + 1) (hP20 : P 20 = np + 1) (hP4 : P 4 ≤ nk) (hP21 : P 21 ≤ nk) (hP6 : P 6 = 0) (hPN : ∀ f, N f ≤ P f) (hN5 : N 5 ≤ np) (hN20 : N 20 ≤ np) (hI : pI tb n a0 M t) (hg : gI tb n g0 M t) (hS : sPk ad C tb n nk M t (nk + 0) (nk + 0)) (hpw : pkW ad C M np 0 nk) (h3 : M.1 3 = nI nk) (h35 : M.1 35 = nI 0) (hrm : rmB n B h (qs tb n t)) (hPo : ∀ f, P f ≤ cN C f) (hok : oK N adS CS ad C) (h6 : ad 6 0 = adS 6 0) (hC : cw ad h0 C h) : mm_Run G mX6_readPack A L (d + 19) 105 [(0, .ref (ad 6 0)), (3, .ref (ad 5 np))] [] h (pQ N h0 adS CS B tb n nk np (pP4 tb n (pT tb n M t 4))) := by
  have hr := hS.1
  have n6 := hr.1
  have hn7 := hI.n7
  have hn8 : n ≤ 800 := by omega
  have hqt := qs_le (tb := tb) (n := n) t
  refine mm_aload_n (pc := 105) dX6_readPack_105 rfl (by first | trivial | assumption | exact mm_isr_rf _) ?_
  refine mm_iconst (pc := 106) (v := 4) dX6_readPack_106 (by decide) ?_
  refine mm_callV (pc := 107) (As := [_]) (kd := ?kd_107_5) (fs := ?fs_107_5) dX6_readPack_107 vl_X6_31 (tk_any (c := 4) hr hn8 hC (by decide) (by decide)) ?hc_107_5 ?hk_107_5 rfl rfl (Nat.le_of_ble_eq_true rfl) ?_; (case hc_107_5 => exact cw_cell (f := 6) hC rfl rfl n6); (case hk_107_5 => rfl)
  rintro _ h107 ⟨C2, hC, k_, e_, ⟨v_, rfl, -⟩, ⟨cm, hr2⟩ | ⟨cm, hr2⟩⟩
  · have hI := hI.w
    have hg := hg.w
    have hS := hS.take k_ hr2
    have hpw := hpw.six (M' := pw tb n M t) k_ rfl rfl rfl rfl
    have h3 : (pw tb n M t).1 3 = nI nk := h3
    have h35 : (pw tb n M t).1 35 = nI 0 := h35
    have hrm := hrm.mono (qs_le_of (show t ≤ t + 1 by omega)) e_
    have hPo : ∀ f, P f ≤ cN C2 f := fun f => by rw [(k_ f).2]; exact hPo f
    have hok := hok.six k_ (by have := hPN 6; omega)
    have hzz : pP4 tb n (pT tb n M t 4) = pKs tb n (n + 1) (pw tb n M t) (t + 1) := by unfold pT; rw [if_pos cm]; rfl
    rw [hzz]
    clear hzz
    have n6 := hr2.1
    have h35n : ¬ (pw tb n M t).1 35 = 10 := fun z => by rw [h35] at z; exact absurd z (by decide)
    have hk35 : ((pw tb n M t).1 3 + (pw tb n M t).1 35).toNatClampNeg = nk + 0 := by rw [h3, h35, nI_add, nI_clamp (by omega)]
    have hnn : (0 : Nat) ≤ 10 := by decide
    have hnn10 : (0 : Nat) < 10 := by decide
    have hQ5 : mw_u P 4 (nk + 0) 5 = np + 1 := (cu_ne (by decide)).trans hP5
    have hQ20 : mw_u P 4 (nk + 0) 20 = np + 1 := (cu_ne (by decide)).trans hP20
    have hQ6 : mw_u P 4 (nk + 0) 6 = 0 := (cu_ne (by decide)).trans hP6
    have hPQ : ∀ f, P f ≤ mw_u P 4 (nk + 0) f := fun f => by
      by_cases e : f = 4
      · rw [e, cu_eq]; omega
      · rw [cu_ne e]; exact Nat.le_refl _
    have hQN : ∀ f, N f ≤ mw_u P 4 (nk + 0) f := fun f => Nat.le_trans (hPN f) (hPQ f)
    have hQo : ∀ f, mw_u P 4 (nk + 0) f ≤ cN C2 f := fun f => by
      by_cases e : f = 4
      · rw [e, cu_eq, hS.2.2.2.2.1.1]; exact Nat.le_refl _
      · rw [cu_ne e]; exact hPo f
    generalize pw tb n M t = M at *
    generalize t + 1 = t at *
    refine mm_pop2 (pc := 110) dX6_readPack_110 rfl ?_
    refine mm_aload_n (pc := 111) dX6_readPack_111 rfl (by first | trivial | assumption | exact mm_isr_rf _) ?_
    refine mm_aload_n (pc := 112) dX6_readPack_112 rfl (by first | trivial | assumption | exact mm_isr_rf _) ?_
    refine mm_callV (pc := 113) (As := []) (kd := ?kd_113_6) (fs := ?fs_113_6) dX6_readPack_113 vl_X6_56 (rk_ok (d := d) (N := mw_u P 4 (nk + 0)) htb hI hg hS hk35 h35n (by omega) hrm hB1 hB2 (by rw [cu_eq]; exact Nat.le_refl _) (by rw [cu_ne (by decide)]; omega) hQ6 hQo hC) ?hc_113_6 ?hk_113_6 rfl rfl (Nat.le_of_ble_eq_true rfl) ?_; (case hc_113_6 => exact cw_cell (f := 6) hC rfl rfl n6); (case hk_113_6 => rfl)
    rintro _ h113 ⟨ad1, C1, e140, hC, ok1, e6, n4b, ⟨zne, sk1, rm1⟩ | ⟨zeq, p_, rd, pl, rx⟩⟩
    · cases e140
      have hpd1 := hpw.1.oK ok1 hQ5 hQ20
      have e5 : ad1 5 np = ad 5 np := ok1.A (by rw [hQ5]; omega)
      rw [← e6, ← e5]
      have hpw1 := pkW_kind hpw ok1 hQ5 hQ20 (fun i hi => absurd hi (Nat.not_lt_zero i)) hI hg h3 h35 hnk hnn zne
      have hcnt := pKind_cnt hI hg h3 h35 hnk hnn zne
      have hpost := pKind_post hI zne
      have hq2 := qs_le_of (tb := tb) (n := n) hpost.2.2.1.2
      have hq1 := hpost.2.2.2
      have hqn := qs_le (tb := tb) (n := n) (pKind tb n M t).2.2
      have hzz : pKs tb n (n + 1) M t = rst tb n n (pKind tb n M t).2.1 (pKind tb n M t).2.2 := if_neg zne
      rw [hzz]
      refine mm_callV (pc := 116) (As := [_]) (kd := ?kd_116_7) (fs := ?fs_116_7) dX6_readPack_116 vl_X6_60 (x5_add (nn := 0) (k := nk + 0) hpd1.1 hpd1.2.1 n4b hpd1.2.2.1 hpd1.2.2.2 hnn10 hC) ?hc_116_7 ?hk_116_7 rfl rfl (Nat.le_of_ble_eq_true rfl) ?_; (case hc_116_7 => exact cw_cell (f := 5) hC rfl rfl hpd1.1); (case hk_116_7 => rfl)
      rintro _ h116 ⟨hC, e_, rfl⟩
      have hC : cw ad1 h0 (adC C1 ad1 np 0 (nk + 0)) h116 := hC
      have hokA := ((hok.trans (ok1.le hQN)).sR (f := 20) (j := 0) (x := some (ad1 4 (nk + 0))) hN20).sI (f := 5) (j := 7) (x := nI (0 + 1)) hN5
      refine mm_iconst (pc := 119) (v := 1) dX6_readPack_119 (by decide) ?_
      refine mm_istore (pc := 120) dX6_readPack_120 rfl (Nat.le_of_ble_eq_true rfl) ?_
      exact mm_weakK (rp_loop htb hnk hB1 hB2 hP5 hP20 hP4 hP21 hP6 hPN hN5 hN20 n 1 ad1 _ _ _ h116 (hpost.2.2.1.1) hcnt.2.2.1 (sk1.same (sk1.1.same (adC_o (by decide) (by decide)) (adC_o (by decide) (by decide)) (fun _ _ => rfl)) (adC_o (by decide) (by decide)) (adC_o (by decide) (by decide)) (adC_o (by decide) (by decide)) (adC_o (by decide) (by decide)) rfl rfl rfl (fun _ _ => rfl)) hpw1.add (by rw [hcnt.2.2.2.2.1 3 (by unfold kbS kpS; omega) (by decide)]; exact h3) hcnt.1 (by omega) (rm1.mono (Nat.le_refl _) e_) (fun f => by rw [adC_N]; exact Nat.le_trans (hPQ f) (ok1 f).1) hokA (e6.trans h6) (by omega) hC) (And.intro rfl (And.intro rfl (And.intro rfl trivial)))
    · cases e140
      have hpd1 := hpw.1.oK ok1 hQ5 hQ20
      have e5 : ad1 5 np = ad 5 np := ok1.A (by rw [hQ5]; omega)
      rw [← e6, ← e5]
      have hzz : pKs tb n (n + 1) M t = pKind tb n M t := if_pos zeq
      rw [hzz]
      refine mm_callV (pc := 116) (As := [_]) (kd := ?kd_116_8) (fs := ?fs_116_8) dX6_readPack_116 vl_X6_60 (x5_add (nn := 0) (k := nk + 0) hpd1.1 hpd1.2.1 n4b hpd1.2.2.1 hpd1.2.2.2 hnn10 hC) ?hc_116_8 ?hk_116_8 rfl rfl (Nat.le_of_ble_eq_true rfl) ?_; (case hc_116_8 => exact cw_cell (f := 5) hC rfl rfl hpd1.1); (case hk_116_8 => rfl)
      rintro _ h116 ⟨hC, e_, rfl⟩
      have hC : cw ad1 h0 (adC C1 ad1 np 0 (nk + 0)) h116 := hC
      have hokA := ((hok.trans (ok1.le hQN)).sR (f := 20) (j := 0) (x := some (ad1 4 (nk + 0))) hN20).sI (f := 5) (j := 7) (x := nI (0 + 1)) hN5
      refine mm_iconst (pc := 119) (v := 1) dX6_readPack_119 (by decide) ?_
      refine mm_istore (pc := 120) dX6_readPack_120 rfl (Nat.le_of_ble_eq_true rfl) ?_
      exact mm_weakK (rp_d122 (x := 1) (p := p_) (rx.same e_) (rd.same (adC_o (by decide) (by decide)) (adC_o (by decide) (by decide)) (fun _ _ => rfl)) ⟨zeq, pl⟩ hokA (e6.trans h6) hC) (And.intro rfl (And.intro rfl (And.intro rfl trivial)))
  · have hzz : pP4 tb n (pT tb n M t 4) = (0, pf tb n M t, t) := by unfold pT; rw [if_neg cm]; rfl
    rw [hzz]
    exact mm_weakK (rp_d110 (hpw.1.k6 k_) (by rw [(k_ 4).2]; exact hPo 4) (fun f => by rw [(k_ f).2]; exact hPo f) hP5 hP20 hP4 hP21 hP6 hPN hN5 hN20 (by rw [e_]; exact ⟨by unfold rmB at hrm; omega, by unfold rmB at hrm; omega⟩) hB1 hB2 hr2 ⟨rfl, rfl⟩ (hok.six k_ (by have := hPN 6; omega)) h6 hC) (And.intro rfl (And.intro rfl trivial))

