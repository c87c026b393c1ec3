theorem rb_d26 {G : mm_G} {L : Nat × Nat} {h0 : mm_H} {tb : Nat → Nat} {n b A0 i deep D : Nat} {ad adS : Nat → Nat → Nat} {C CS : cw_C} {B : Nat × Nat} {h : mm_H} {A : Nat → Prop} {Z : pr_T} {o1 o2 : Option Nat} {p : Nat} (n1 : b < cN C 1) (hr : rD ad C p) (hp : Z.2.1.1 24 = nI p) (hz : Z.1 = -2) (hrm : rmB n B h n) (fb : fB A0 adS CS ad C b) (hC : cw ad h0 C h) : mm_Run G mX6_readBlock A L (D + 3) 26 [(3, va_rf o1), (4, va_rf o2), (5, .int (nI i)), (0, .ref (ad 6 0)), (1, .ref (ad 1 b)), (2, .int (nI deep))] [] h (aQ h0 A0 adS CS b B tb n (-2) Z) := by
  have n6 := hr.1
  refine mm_iload (pc := 26) dX6_readBlock_26 rfl ?_
  refine mm_bipush (pc := 28) (v := 60) dX6_readBlock_28 (by decide) ?_
  refine mm_icmp_ge (pc := 30) (tgt := 85) dX6_readBlock_30 (by decide) (fun c30 => ?_) (fun c30 => ?_)
  · refine mm_aload_n (pc := 85) dX6_readBlock_85 rfl (by first | trivial | assumption | exact mm_isr_rf _) ?_
    refine mm_iconst (pc := 86) (v := 5) dX6_readBlock_86 (by decide) ?_
    refine mm_callV (pc := 87) (As := [_]) (kd := ?kd_87_1) (fs := ?fs_87_1) dX6_readBlock_87 vl_X6_31 (tk_dead hr hC) ?hc_87_1 ?hk_87_1 rfl rfl (Nat.le_of_ble_eq_true rfl) ?_; (case hc_87_1 => exact cw_cell (f := 6) hC rfl rfl n6); (case hk_87_1 => rfl)
    rintro _ _ ⟨rfl, v87, rfl⟩
    refine mm_pop2 (pc := 90) dX6_readBlock_90 rfl ?_
    refine mm_aload_n (pc := 91) dX6_readBlock_91 rfl (by first | trivial | assumption | exact mm_isr_rf _) ?_
    refine mm_aret (pc := 92) dX6_readBlock_92 rfl (Or.inl ⟨_, rfl⟩) (by first | trivial | assumption | exact mm_isr_rf _) ?_
    exact ⟨ad, C, hC, fb, Or.inr ⟨hz, p, hr, hp, hrm, o1, rfl⟩⟩
  · refine mm_aload_n (pc := 33) dX6_readBlock_33 rfl (by first | trivial | assumption | exact mm_isr_rf _) ?_
    refine cw_gi (pc := 34) 1 _ 6 hC (rfl) rfl (n1) dX6_readBlock_34 fl_X6_106 rfl rfl rfl ?_
    refine mm_bipush (pc := 37) (v := 60) dX6_readBlock_37 (by decide) ?_
    refine mm_icmp_ge (pc := 39) (tgt := 85) dX6_readBlock_39 (by decide) (fun c39 => ?_) (fun c39 => ?_)
    · refine mm_aload_n (pc := 85) dX6_readBlock_85 rfl (by first | trivial | assumption | exact mm_isr_rf _) ?_
      refine mm_iconst (pc := 86) (v := 5) dX6_readBlock_86 (by decide) ?_
      refine mm_callV (pc := 87) (As := [_]) (kd := ?kd_87_2) (fs := ?fs_87_2) dX6_readBlock_87 vl_X6_31 (tk_dead hr hC) ?hc_87_2 ?hk_87_2 rfl rfl (Nat.le_of_ble_eq_true rfl) ?_; (case hc_87_2 => exact cw_cell (f := 6) hC rfl rfl n6); (case hk_87_2 => rfl)
      rintro _ _ ⟨rfl, v87, rfl⟩
      refine mm_pop2 (pc := 90) dX6_readBlock_90 rfl ?_
      refine mm_aload_n (pc := 91) dX6_readBlock_91 rfl (by first | trivial | assumption | exact mm_isr_rf _) ?_
      refine mm_aret (pc := 92) dX6_readBlock_92 rfl (Or.inl ⟨_, rfl⟩) (by first | trivial | assumption | exact mm_isr_rf _) ?_
      exact ⟨ad, C, hC, fb, Or.inr ⟨hz, p, hr, hp, hrm, o1, rfl⟩⟩
    · refine mm_aload_n (pc := 42) dX6_readBlock_42 rfl (by first | trivial | assumption | exact mm_isr_rf _) ?_
      refine mm_callV (pc := 43) (As := []) (kd := ?kd_43_3) (fs := ?fs_43_3) dX6_readBlock_43 vl_X6_109 (ba_dead hr hC) ?hc_43_3 ?hk_43_3 rfl rfl (Nat.le_of_ble_eq_true rfl) ?_; (case hc_43_3 => exact cw_cell (f := 6) hC rfl rfl n6); (case hk_43_3 => rfl)
      rintro _ _ ⟨rfl, rfl⟩
      refine mm_if_eq (pc := 46) (tgt := 85) dX6_readBlock_46 (by decide) (fun c46 => ?_) (fun c46 => absurd rfl c46)
      refine mm_aload_n (pc := 85) dX6_readBlock_85 rfl (by first | trivial | assumption | exact mm_isr_rf _) ?_
      refine mm_iconst (pc := 86) (v := 5) dX6_readBlock_86 (by decide) ?_
      refine mm_callV (pc := 87) (As := [_]) (kd := ?kd_87_4) (fs := ?fs_87_4) dX6_readBlock_87 vl_X6_31 (tk_dead hr hC) ?hc_87_4 ?hk_87_4 rfl rfl (Nat.le_of_ble_eq_true rfl) ?_; (case hc_87_4 => exact cw_cell (f := 6) hC rfl rfl n6); (case hk_87_4 => rfl)
      rintro _ _ ⟨rfl, v87, rfl⟩
      refine mm_pop2 (pc := 90) dX6_readBlock_90 rfl ?_
      refine mm_aload_n (pc := 91) dX6_readBlock_91 rfl (by first | trivial | assumption | exact mm_isr_rf _) ?_
      refine mm_aret (pc := 92) dX6_readBlock_92 rfl (Or.inl ⟨_, rfl⟩) (by first | trivial | assumption | exact mm_isr_rf _) ?_
      exact ⟨ad, C, hC, fb, Or.inr ⟨hz, p, hr, hp, hrm, o1, rfl⟩⟩

theorem rb_85 {G : mm_G} {L : Nat × Nat} {h0 : mm_H} {tb : Nat → Nat} {n b A0 i deep D : Nat} {ad adS : Nat → Nat → Nat} {C CS : cw_C} {B : Nat × Nat} {h : mm_H} {A : Nat → Prop} {Z : pr_T} {o1 o2 : Option Nat} {M : mw_S} {t : Nat} {hd : Int32} (hn8 : n ≤ 800) (sb : sBd ad C tb n M t b) (hhd : ¬ hd = -2) (hl1 : lkR ad (cN C 0) hd o1) (hz5 : cd tb n t = 5 → Z = (hd, pw tb n M t, t + 1)) (hz0 : ¬ cd tb n t = 5 → Z = (-2, pf tb n M t, t)) (hrm : rmB n B h (qs tb n t)) (fb : fB A0 adS CS ad C b) (hC : cw ad h0 C h) : mm_Run G mX6_readBlock A L (D + 3) 85 [(3, va_rf o1), (4, va_rf o2), (5, .int (nI i)), (0, .ref (ad 6 0)), (1, .ref (ad 1 b)), (2, .int (nI deep))] [] h (aQ h0 A0 adS CS b B tb n (-2) Z) := by
  have hr := sb.1
  have n6 := hr.1
  refine mm_aload_n (pc := 85) dX6_readBlock_85 rfl (by first | trivial | assumption | exact mm_isr_rf _) ?_
  refine mm_iconst (pc := 86) (v := 5) dX6_readBlock_86 (by decide) ?_
  refine mm_callV (pc := 87) (As := [_]) (kd := ?kd_87_5) (fs := ?fs_87_5) dX6_readBlock_87 vl_X6_31 (tk_any (c := 5) hr hn8 hC (by decide) (by decide)) ?hc_87_5 ?hk_87_5 rfl rfl (Nat.le_of_ble_eq_true rfl) ?_; (case hc_87_5 => exact cw_cell (f := 6) hC rfl rfl n6); (case hk_87_5 => rfl)
  rintro _ h87 ⟨C2, hC, k_, e_, ⟨v_, rfl, -⟩, ⟨cm, hr2⟩ | ⟨cm, hr2⟩⟩
  · skip
    refine mm_pop2 (pc := 90) dX6_readBlock_90 rfl ?_
    refine mm_aload_n (pc := 91) dX6_readBlock_91 rfl (by first | trivial | assumption | exact mm_isr_rf _) ?_
    refine mm_aret (pc := 92) dX6_readBlock_92 rfl (Or.inl ⟨_, rfl⟩) (by first | trivial | assumption | exact mm_isr_rf _) ?_
    have z5_ := hz5 cm
    refine ⟨ad, C2, hC, fb.six k_, Or.inl ⟨by rw [z5_]; exact hhd, by rw [z5_]; exact sb.take k_ hr2 rfl rfl rfl rfl rfl rfl rfl rfl, by rw [z5_]; exact hrm.mono (qs_le_of (Nat.le_succ t)) e_, o1, rfl, by rw [z5_, k_.N (by decide)]; exact hl1⟩⟩
  · skip
    refine mm_pop2 (pc := 90) dX6_readBlock_90 rfl ?_
    refine mm_aload_n (pc := 91) dX6_readBlock_91 rfl (by first | trivial | assumption | exact mm_isr_rf _) ?_
    refine mm_aret (pc := 92) dX6_readBlock_92 rfl (Or.inl ⟨_, rfl⟩) (by first | trivial | assumption | exact mm_isr_rf _) ?_
    have z5_ := hz0 cm
    exact ⟨ad, C2, hC, fb.six k_, Or.inr ⟨by rw [z5_], qs tb n t, hr2, by rw [z5_]; rfl, hrm.mono (qs_le t) e_, o1, rfl⟩⟩

/-- the block's loop -/
def rLp (G : mm_G) (L : Nat × Nat) (h0 : mm_H) (tb : Nat → Nat) (n a0 k q f : Nat) : Prop :=
  ∀ (e d deep : Nat), deep + e = 6 → ∀ (A : Nat → Prop) (ad adS : Nat → Nat → Nat) (C CS : cw_C) (M : mw_S) (t b A0 i : Nat) (B : Nat × Nat) (h : mm_H) (hd tl : Int32) (o1 o2 : Option Nat), pI tb n a0 M t → n - qs tb n t < f → sBd ad C tb n M t b → A0 ≤ cN C 0 → fB A0 adS CS ad C b → rmB n B h (qs tb n t) → B.1 ≤ L.1 → B.2 ≤ L.2 → lkR ad (cN C 0) hd o1 → lkR ad (cN C 0) tl o2 → (tl < 0 ∨ ∃ y, A0 ≤ y ∧ y < 4000 ∧ tl = nI y) → ¬ hd = -2 → b47 i M → cw ad h0 C h →
    mm_Run G mX6_readBlock A L (d + 2 * e + 6) 26 [(3, va_rf o1), (4, va_rf o2), (5, .int (nI i)), (0, .ref (ad 6 0)), (1, .ref (ad 1 b)), (2, .int (nI deep))] [] h (aQ h0 A0 adS CS b B tb n (-2) (pL tb n k q f M t deep hd tl))

theorem rb_of {G : mm_G} {L : Nat × Nat} {h0 : mm_H} {tb : Nat → Nat} {n a0 k q f : Nat} (lp_ : rLp G L h0 tb n a0 k q f) (e d deep : Nat) (he : deep + e = 6) : ∀ (ad : Nat → Nat → Nat) (C : cw_C) (M : mw_S) (t b A0 : Nat) (B : Nat × Nat) (h : mm_H), pI tb n a0 M t → n - qs tb n t ≤ f → sBd ad C tb n M t b → A0 ≤ cN C 0 → rmB n B h (qs tb n t) → B.1 ≤ L.1 → B.2 ≤ L.2 → cw ad h0 C h →
    mm_Ok G mX6_readBlock L (d + 2 * e + 6) [.ref (ad 6 0), .ref (ad 1 b), .int (nI deep)] h (fun r h1 => aQ h0 A0 ad C b B tb n (-2) (pB tb n (pL tb n k q f) M t deep) r h1) := by
  intro ad C M t b A0 B h hI hf sb hA0 hrm hB1 hB2 hC
  have h47 := sb.2.2.2.2
  refine mm_Ok.of [(0, .ref (ad 6 0)), (1, .ref (ad 1 b)), (2, .int (nI deep))] rfl kX6_readBlock.2.2.2.2.2 rfl (fun A => ?_)
  have hr := sb.1
  have n6 := hr.1
  have hn8 : n ≤ 800 := by have := hI.n7; omega
  refine mm_iload_n (pc := 0) dX6_readBlock_0 rfl ?_
  refine mm_bipush (pc := 1) (v := 6) dX6_readBlock_1 (by decide) ?_
  refine mm_icmp_le (pc := 3) (tgt := 12) dX6_readBlock_3 (by decide) (fun c3 => ?_) (fun c3 => absurd (show nI deep ≤ nI 6 from nI_le (by omega) (by decide)) c3)
  refine mm_aload_n (pc := 12) dX6_readBlock_12 rfl (by first | trivial | assumption | exact mm_isr_rf _) ?_
  refine mm_iconst (pc := 13) (v := 4) dX6_readBlock_13 (by decide) ?_
  refine mm_callV (pc := 14) (As := [_]) (kd := ?kd_14_6) (fs := ?fs_14_6) dX6_readBlock_14 vl_X6_31 (tk_any (c := 4) hr hn8 hC (by decide) (by decide)) ?hc_14_6 ?hk_14_6 rfl rfl (Nat.le_of_ble_eq_true rfl) ?_; (case hc_14_6 => exact cw_cell (f := 6) hC rfl rfl n6); (case hk_14_6 => rfl)
  rintro _ h14 ⟨C2, hC, k_, e_, ⟨v_, rfl, -⟩, ⟨cm, hr2⟩ | ⟨cm, hr2⟩⟩
  · skip
    refine mm_pop2 (pc := 17) dX6_readBlock_17 rfl ?_
    refine mm_null (pc := 18) dX6_readBlock_18 ?_
    refine mm_astore_n (pc := 19) dX6_readBlock_19 (by first | trivial | assumption | exact mm_isr_rf _) rfl (Nat.le_of_ble_eq_true rfl) ?_
    refine mm_null (pc := 20) dX6_readBlock_20 ?_
    refine mm_astore (pc := 21) dX6_readBlock_21 (by first | trivial | assumption | exact mm_isr_rf _) rfl (Nat.le_of_ble_eq_true rfl) ?_
    refine mm_iconst (pc := 23) (v := 0) dX6_readBlock_23 (by decide) ?_
    refine mm_istore (pc := 24) dX6_readBlock_24 rfl (Nat.le_of_ble_eq_true rfl) ?_
    have hz_ : (pB tb n (pL tb n k q f) M t deep) = pL tb n k q f (pw tb n M t) (t + 1) deep (-1) (-1) := by unfold pB; rw [if_pos ⟨cm, by omega⟩]
    rw [hz_]
    have hq1 := (qs_lt (tb := tb) (n := n) (t := t) (by omega))
    exact mm_weakK (lp_ e d deep he A ad ad C2 C (pw tb n M t) (t + 1) b A0 0 B h14 (-1) (-1) none none hI.w (by omega) (sb.take k_ hr2 rfl rfl rfl rfl rfl rfl rfl rfl) (by rw [k_.N (by decide)]; exact hA0) (fB.refl.six k_) (hrm.mono (by omega) e_) hB1 hB2 lkR_n lkR_n (Or.inl (by decide)) (by decide) h47 hC) (And.intro rfl (And.intro rfl (And.intro rfl (And.intro rfl (And.intro rfl (And.intro rfl trivial))))))
  · have hz_ : (pB tb n (pL tb n k q f) M t deep) = (-2, pf tb n M t, t) := by unfold pB; rw [if_neg (fun z => cm z.1)]
    refine mm_pop2 (pc := 17) dX6_readBlock_17 rfl ?_
    refine mm_null (pc := 18) dX6_readBlock_18 ?_
    refine mm_astore_n (pc := 19) dX6_readBlock_19 (by first | trivial | assumption | exact mm_isr_rf _) rfl (Nat.le_of_ble_eq_true rfl) ?_
    refine mm_null (pc := 20) dX6_readBlock_20 ?_
    refine mm_astore (pc := 21) dX6_readBlock_21 (by first | trivial | assumption | exact mm_isr_rf _) rfl (Nat.le_of_ble_eq_true rfl) ?_
    refine mm_iconst (pc := 23) (v := 0) dX6_readBlock_23 (by decide) ?_
    refine mm_istore (pc := 24) dX6_readBlock_24 rfl (Nat.le_of_ble_eq_true rfl) ?_
    exact mm_weakK (rb_d26 (o1 := none) (o2 := none) (i := 0) (D := d + 2 * e + 3) (by rw [k_.N (by decide)]; exact sb.2.2.1) hr2 (by rw [hz_]; rfl) (by rw [hz_]) (hrm.mono (qs_le t) e_) (fB.refl.six k_) hC) (And.intro rfl (And.intro rfl (And.intro rfl (And.intro rfl (And.intro rfl (And.intro rfl trivial))))))
theorem rb_7 {G : mm_G} {L : Nat × Nat} {h0 : mm_H} {tb : Nat → Nat} {n a0 k q f d : Nat} : ∀ (ad : Nat → Nat → Nat) (C : cw_C) (M : mw_S) (t b A0 : Nat) (B : Nat × Nat) (h : mm_H), pI tb n a0 M t → sBd ad C tb n M t b → rmB n B h (qs tb n t) → cw ad h0 C h →
    mm_Ok G mX6_readBlock L (d + 1) [.ref (ad 6 0), .ref (ad 1 b), .int (nI 7)] h (fun r h1 => aQ h0 A0 ad C b B tb n (-2) (pB tb n (pL tb n k q f) M t 7) r h1) := by
  intro ad C M t b A0 B h hI sb hrm hC
  refine mm_Ok.of [(0, .ref (ad 6 0)), (1, .ref (ad 1 b)), (2, .int (nI 7))] rfl kX6_readBlock.2.2.2.2.2 rfl (fun A => ?_)
  have hr := sb.1
  have n6 := hr.1
  have hn8 : n ≤ 800 := by have := hI.n7; omega
  refine mm_iload_n (pc := 0) dX6_readBlock_0 rfl ?_
  refine mm_bipush (pc := 1) (v := 6) dX6_readBlock_1 (by decide) ?_
  refine mm_icmp_le (pc := 3) (tgt := 12) dX6_readBlock_3 (by decide) (fun c3 => absurd c3 (show ¬ nI 7 ≤ nI 6 by decide)) (fun c3 => ?_)
  refine mm_aload_n (pc := 6) dX6_readBlock_6 rfl (by first | trivial | assumption | exact mm_isr_rf _) ?_
  refine mm_callV (pc := 7) (As := []) (kd := ?kd_7_7) (fs := ?fs_7_7) dX6_readBlock_7 vl_X6_103 (sp_live hr hn8 hC) ?hc_7_7 ?hk_7_7 rfl rfl (Nat.le_of_ble_eq_true rfl) ?_; (case hc_7_7 => exact cw_cell (f := 6) hC rfl rfl n6); (case hk_7_7 => rfl)
  rintro _ h7 ⟨C2, hC, k_, e_, hr2, rfl⟩
  refine mm_null (pc := 10) dX6_readBlock_10 ?_
  refine mm_aret (pc := 11) dX6_readBlock_11 rfl (Or.inl ⟨_, rfl⟩) (by first | trivial | assumption | exact mm_isr_rf _) ?_
  have hz_ : pB tb n (pL tb n k q f) M t 7 = (-2, pf tb n M t, t) := by unfold pB; rw [if_neg (fun z => absurd z.2 (by decide))]
  rw [hz_]
  exact ⟨ad, C2, hC, fB.refl.six k_, Or.inr ⟨rfl, qs tb n t, hr2, rfl, hrm.mono (qs_le t) e_, none, rfl⟩⟩

theorem pA_bad {tb : Nat → Nat} {n k q t deep : Nat} {F : pr_F} {M : mw_S} (h : opI (cd tb n t) = 0 ∨ M.1 47 = 60) : pA tb n F k q M t deep = (-1, pf tb n M t, t) := by
  unfold pA
  by_cases e : opI (cd tb n t) = 0
  · rw [if_pos e]
  · rw [if_neg e, if_pos (h.resolve_left e)]

theorem rb_st0 {G : mm_G} {L : Nat × Nat} {h0 : mm_H} {tb : Nat → Nat} {n a0 k q f : Nat} (htb : ∀ i, tb i < 256) (ih : rLp G L h0 tb n a0 k q f) (rec_ : ∀ (e d deep : Nat), deep + e = 6 → rB G L h0 tb n a0 k q f (deep + 1) (d + 2 * e + 1 + 3)) (e d deep : Nat) (he : deep + e = 6) (A : Nat → Prop) (ad adS : Nat → Nat → Nat) (C CS : cw_C) (M : mw_S) (t b A0 i : Nat) (B : Nat × Nat) (h : mm_H) (hd tl : Int32) (o1 : Option Nat) (hI : pI tb n a0 M t) (hf : n - qs tb n t < f + 1) (sb : sBd ad C tb n M t b) (hA0 : A0 ≤ cN C 0) (fb : fB A0 adS CS ad C b) (hrm : rmB n B h (qs tb n t)) (hB1 : B.1 ≤ L.1) (hB2 : B.2 ≤ L.2) (hl1 : lkR ad (cN C 0) hd o1) (hhd : ¬ hd = -2) (h47 : b47 i M) (hC : cw ad h0 C h) (htl : tl < 0) : mm_Run G mX6_readBlock A L (d + 2 * e + 6) 26 [(3, va_rf o1), (4, va_rf none), (5, .int (nI i)), (0, .ref (ad 6 0)), (1, .ref (ad 1 b)), (2, .int (nI deep))] [] h (aQ h0 A0 adS CS b B tb n (-2) (pL tb n k q (f + 1) M t deep hd tl)) := by
  have hr := sb.1
  have n6 := hr.1
  have n1 := sb.2.2.1
  have hn8 : n ≤ 800 := by have := hI.n7; omega
  obtain ⟨x_, hx1, hx2, hx3⟩ := id h47
  refine mm_iload (pc := 26) dX6_readBlock_26 rfl ?_
  refine mm_bipush (pc := 28) (v := 60) dX6_readBlock_28 (by decide) ?_
  refine mm_icmp_ge (pc := 30) (tgt := 85) dX6_readBlock_30 (by decide) (fun c30 => ?_) (fun c30 => ?_)
  · have m60 : M.1 47 = 60 := by
      have := (nI_leI (by decide) (by omega)).mp (show nI 60 ≤ nI i from c30)
      rw [hx1, show x_ = 60 by omega]; rfl
    have hz5_ : cd tb n t = 5 → pL tb n k q (f + 1) M t deep hd tl = (hd, pw tb n M t, t + 1) := fun cm => if_pos cm
    have hz0_ : ¬ cd tb n t = 5 → pL tb n k q (f + 1) M t deep hd tl = (-2, pf tb n M t, t) := fun cm => by
      have hA_ : (pA tb n (pL tb n k q f) k q M t deep) = (-1, pf tb n M t, t) := by exact pA_bad (Or.inr m60)
      show (if cd tb n t = 5 then (hd, pw tb n M t, t + 1) else pN (pL tb n k q f) deep hd tl (pA tb n (pL tb n k q f) k q M t deep)) = _
      rw [if_neg cm, hA_]
      rfl
    exact rb_85 (D := d + 2 * e + 3) (o1 := o1) (o2 := none) (i := i) (Z := pL tb n k q (f + 1) M t deep hd tl) (hd := hd) hn8 sb hhd hl1 hz5_ hz0_ hrm fb hC
  · refine mm_aload_n (pc := 33) dX6_readBlock_33 rfl (by first | trivial | assumption | exact mm_isr_rf _) ?_
    refine cw_gi (pc := 34) 1 _ 6 hC (rfl) rfl (n1) dX6_readBlock_34 fl_X6_106 rfl rfl rfl ?_
    refine mm_bipush (pc := 37) (v := 60) dX6_readBlock_37 (by decide) ?_
    refine mm_icmp_ge (pc := 39) (tgt := 85) dX6_readBlock_39 (by decide) (fun c39 => ?_) (fun c39 => ?_)
    · have m60 : M.1 47 = 60 := by
        rw [sb.2.2.2.1, hx1] at c39
        have := (nI_leI (by decide) (by omega)).mp (show nI 60 ≤ nI x_ from c39)
        rw [hx1, show x_ = 60 by omega]; rfl
      have hz5_ : cd tb n t = 5 → pL tb n k q (f + 1) M t deep hd tl = (hd, pw tb n M t, t + 1) := fun cm => if_pos cm
      have hz0_ : ¬ cd tb n t = 5 → pL tb n k q (f + 1) M t deep hd tl = (-2, pf tb n M t, t) := fun cm => by
        have hA_ : (pA tb n (pL tb n k q f) k q M t deep) = (-1, pf tb n M t, t) := by exact pA_bad (Or.inr m60)
        show (if cd tb n t = 5 then (hd, pw tb n M t, t + 1) else pN (pL tb n k q f) deep hd tl (pA tb n (pL tb n k q f) k q M t deep)) = _
        rw [if_neg cm, hA_]
        rfl
      exact rb_85 (D := d + 2 * e + 3) (o1 := o1) (o2 := none) (i := i) (Z := pL tb n k q (f + 1) M t deep hd tl) (hd := hd) hn8 sb hhd hl1 hz5_ hz0_ hrm fb hC
    · have h60 : ¬ M.1 47 = 60 := fun z => c39 (by rw [sb.2.2.2.1, z]; decide)
      refine mm_aload_n (pc := 42) dX6_readBlock_42 rfl (by first | trivial | assumption | exact mm_isr_rf _) ?_
      refine mm_callV (pc := 43) (As := []) (kd := ?kd_43_8) (fs := ?fs_43_8) dX6_readBlock_43 vl_X6_109 (ba_live hr hn8 hC) ?hc_43_8 ?hk_43_8 rfl rfl (Nat.le_of_ble_eq_true rfl) ?_; (case hc_43_8 => exact cw_cell (f := 6) hC rfl rfl n6); (case hk_43_8 => rfl)
      rintro _ _ ⟨rfl, rfl⟩
      refine mm_if_eq (pc := 46) (tgt := 85) dX6_readBlock_46 (by decide) (fun c46 => ?_) (fun c46 => ?_)
      · have hb_ : ¬ (13 ≤ cd tb n t ∧ cd tb n t < 23) := bI_d.mp c46
        have hz5_ : cd tb n t = 5 → pL tb n k q (f + 1) M t deep hd tl = (hd, pw tb n M t, t + 1) := fun cm => if_pos cm
        have hz0_ : ¬ cd tb n t = 5 → pL tb n k q (f + 1) M t deep hd tl = (-2, pf tb n M t, t) := fun cm => by
          have hA_ : (pA tb n (pL tb n k q f) k q M t deep) = (-1, pf tb n M t, t) := by exact pA_bad (Or.inl (by unfold opI; rw [if_neg (by omega)]))
          show (if cd tb n t = 5 then (hd, pw tb n M t, t + 1) else pN (pL tb n k q f) deep hd tl (pA tb n (pL tb n k q f) k q M t deep)) = _
          rw [if_neg cm, hA_]
          rfl
        exact rb_85 (D := d + 2 * e + 3) (o1 := o1) (o2 := none) (i := i) (Z := pL tb n k q (f + 1) M t deep hd tl) (hd := hd) hn8 sb hhd hl1 hz5_ hz0_ hrm fb hC
      · have hb_ : 13 ≤ cd tb n t ∧ cd tb n t < 23 := bI_n c46
        have hc5 : ¬ cd tb n t = 5 := by omega
        refine mm_aload_n (pc := 49) dX6_readBlock_49 rfl (by first | trivial | assumption | exact mm_isr_rf _) ?_
        refine mm_aload_n (pc := 50) dX6_readBlock_50 rfl (by first | trivial | assumption | exact mm_isr_rf _) ?_
        refine mm_iload_n (pc := 51) dX6_readBlock_51 rfl ?_
        refine mm_callV (pc := 52) (As := [_, _]) (kd := ?kd_52_9) (fs := ?fs_52_9) dX6_readBlock_52 vl_X6_112 (ra_ok (d := d + 2 * e + 1) (A0 := A0) (B := B) htb (rec_ e d deep he) hI (by omega) sb hA0 hrm hB1 hB2 hb_.1 (by omega) h60 hC) ?hc_52_9 ?hk_52_9 rfl rfl (Nat.le_of_ble_eq_true rfl) ?_; (case hc_52_9 => exact cw_cell (f := 6) hC rfl rfl n6); (case hk_52_9 => rfl)
        rintro _ h2 ⟨ad2, C2, hC, fb2, ⟨zne, sb2, rm2, o3, rfl, lk2⟩ | ⟨zeq, p2, rd2, pl2, rm2, o3, rfl⟩⟩
        · rw [← fb2.1 6 0 (by decide), ← fb2.1 1 b (by decide)]
          have hpa := (pA_post (pL_post k q f) hI (by omega) (k := k) (q := q) (deep := deep)).resolve_left zne
          obtain ⟨a_, h13_, ha4, haz, hpg, hqq⟩ := hpa
          have hq2 := qs_le_of (tb := tb) (n := n) hpg.2
          have hqn_ := qs_le (tb := tb) (n := n) (pA tb n (pL tb n k q f) k q M t deep).2.2
          have hrec : (pL tb n k q (f + 1) M t deep hd tl) = pN (pL tb n k q f) deep hd tl (pA tb n (pL tb n k q f) k q M t deep) := if_neg hc5
          have hge : (0 : Int32) ≤ (pA tb n (pL tb n k q f) k q M t deep).1 := by rw [haz]; exact nI_pos' (by omega)
          have h47n := (A47 (tb := tb) (n := n) (t := t) (k := k) (q := q) (deep := deep) (L47 k q f (i + 1)) h47).resolve_left zne
          have hAa : A0 ≤ a_ := by have := (nI_eq (by have := sb.2.1.2.1; omega) (by omega)).mp (sb.2.1.1.symm.trans h13_); omega
          refine mm_astore (pc := 55) dX6_readBlock_55 (by first | trivial | assumption | exact mm_isr_rf _) rfl (Nat.le_of_ble_eq_true rfl) ?_
          refine mm_aload (pc := 57) dX6_readBlock_57 rfl (by first | trivial | assumption | exact mm_isr_rf _) ?_
          refine mm_ifnonnull (pc := 59) (tgt := 68) dX6_readBlock_59 (by decide) (by first | trivial | assumption | exact mm_isr_rf _) (fun a59 c59 => by cases c59) (fun c59 => ?_)
          refine mm_aload (pc := 62) dX6_readBlock_62 rfl (by first | trivial | assumption | exact mm_isr_rf _) ?_
          refine mm_astore_n (pc := 64) dX6_readBlock_64 (mm_isr_rf _) rfl (Nat.le_of_ble_eq_true rfl) ?_
          refine mm_goto (pc := 65) (tgt := 75) dX6_readBlock_65 (by decide) ?_
          refine mm_aload (pc := 75) dX6_readBlock_75 rfl (by first | trivial | assumption | exact mm_isr_rf _) ?_
          refine mm_astore (pc := 77) dX6_readBlock_77 (mm_isr_rf _) (by cases o3 <;> rfl) (Nat.le_of_ble_eq_true rfl) ?_
          refine mm_iinc (pc := 79) dX6_readBlock_79 rfl rfl (by cases o3 <;> rfl) (Nat.le_of_ble_eq_true rfl) ?_
          refine mm_goto (pc := 82) (tgt := 26) dX6_readBlock_82 (by decide) ?_
          rw [hrec]
          unfold pN
          rw [if_pos hge, if_pos htl]
          exact mm_weakK (ih e d deep he A ad2 adS C2 CS _ _ b A0 (i + 1) B h2 _ _ o3 o3 hpg.1 (by omega) sb2 (Nat.le_trans hA0 fb2.2.2.2.2.2.2.1) (fb.trans fb2 (Nat.le_refl _)) rm2 hB1 hB2 lk2 lk2 (Or.inr ⟨a_, hAa, ha4, haz⟩) (by rw [haz]; intro z; exact nI_pos (show a_ < 2 ^ 31 by omega) (by rw [z]; decide)) h47n hC) (And.intro rfl (And.intro rfl (And.intro (congrArg (fun z => some (Value.int z)) (nI_add i 1)) (And.intro rfl (And.intro rfl (And.intro rfl trivial))))))
        · rw [← fb2.1 6 0 (by decide), ← fb2.1 1 b (by decide)]
          have hdz : (pL tb n k q (f + 1) M t deep hd tl) = (-2, (pA tb n (pL tb n k q f) k q M t deep).2.1, (pA tb n (pL tb n k q f) k q M t deep).2.2) := by
            show (if cd tb n t = 5 then (hd, pw tb n M t, t + 1) else pN (pL tb n k q f) deep hd tl (pA tb n (pL tb n k q f) k q M t deep)) = _
            rw [if_neg hc5]
            unfold pN
            rw [if_neg (by rw [zeq]; decide)]
          refine mm_astore (pc := 55) dX6_readBlock_55 (by first | trivial | assumption | exact mm_isr_rf _) rfl (Nat.le_of_ble_eq_true rfl) ?_
          refine mm_aload (pc := 57) dX6_readBlock_57 rfl (by first | trivial | assumption | exact mm_isr_rf _) ?_
          refine mm_ifnonnull (pc := 59) (tgt := 68) dX6_readBlock_59 (by decide) (by first | trivial | assumption | exact mm_isr_rf _) (fun a59 c59 => by cases c59) (fun c59 => ?_)
          refine mm_aload (pc := 62) dX6_readBlock_62 rfl (by first | trivial | assumption | exact mm_isr_rf _) ?_
          refine mm_astore_n (pc := 64) dX6_readBlock_64 (mm_isr_rf _) rfl (Nat.le_of_ble_eq_true rfl) ?_
          refine mm_goto (pc := 65) (tgt := 75) dX6_readBlock_65 (by decide) ?_
          refine mm_aload (pc := 75) dX6_readBlock_75 rfl (by first | trivial | assumption | exact mm_isr_rf _) ?_
          refine mm_astore (pc := 77) dX6_readBlock_77 (mm_isr_rf _) (by cases o3 <;> rfl) (Nat.le_of_ble_eq_true rfl) ?_
          refine mm_iinc (pc := 79) dX6_readBlock_79 rfl rfl (by cases o3 <;> rfl) (Nat.le_of_ble_eq_true rfl) ?_
          refine mm_goto (pc := 82) (tgt := 26) dX6_readBlock_82 (by decide) ?_
          exact mm_weakK (rb_d26 (o1 := o3) (o2 := o3) (i := i + 1) (D := d + 2 * e + 3) (by rw [fb2.2.2.2.1]; exact n1) rd2 (by rw [hdz]; exact pl2) (by rw [hdz]) rm2 (fb.trans fb2 (Nat.le_refl _)) hC) (And.intro rfl (And.intro rfl (And.intro (congrArg (fun z => some (Value.int z)) (nI_add i 1)) (And.intro rfl (And.intro rfl (And.intro rfl trivial))))))
theorem rb_st1 {G : mm_G} {L : Nat × Nat} {h0 : mm_H} {tb : Nat → Nat} {n a0 k q f : Nat} (htb : ∀ i, tb i < 256) (ih : rLp G L h0 tb n a0 k q f) (rec_ : ∀ (e d deep : Nat), deep + e = 6 → rB G L h0 tb n a0 k q f (deep + 1) (d + 2 * e + 1 + 3)) (e d deep : Nat) (he : deep + e = 6) (A : Nat → Prop) (ad adS : Nat → Nat → Nat) (C CS : cw_C) (M : mw_S) (t b A0 i : Nat) (B : Nat × Nat) (h : mm_H) (hd tl : Int32) (o1 : Option Nat) (hI : pI tb n a0 M t) (hf : n - qs tb n t < f + 1) (sb : sBd ad C tb n M t b) (hA0 : A0 ≤ cN C 0) (fb : fB A0 adS CS ad C b) (hrm : rmB n B h (qs tb n t)) (hB1 : B.1 ≤ L.1) (hB2 : B.2 ≤ L.2) (hl1 : lkR ad (cN C 0) hd o1) (hhd : ¬ hd = -2) (h47 : b47 i M) (hC : cw ad h0 C h) (y : Nat) (hy : y < cN C 0) (hty : tl = nI y) (hAy : A0 ≤ y) (htl : ¬ tl < 0) : mm_Run G mX6_readBlock A L (d + 2 * e + 6) 26 [(3, va_rf o1), (4, va_rf (some (ad 0 y))), (5, .int (nI i)), (0, .ref (ad 6 0)), (1, .ref (ad 1 b)), (2, .int (nI deep))] [] h (aQ h0 A0 adS CS b B tb n (-2) (pL tb n k q (f + 1) M t deep hd tl)) := by
  have hy4 := sb.2.1.2.1
  have hr := sb.1
  have n6 := hr.1
  have n1 := sb.2.2.1
  have hn8 : n ≤ 800 := by have := hI.n7; omega
  obtain ⟨x_, hx1, hx2, hx3⟩ := id h47
  refine mm_iload (pc := 26) dX6_readBlock_26 rfl ?_
  refine mm_bipush (pc := 28) (v := 60) dX6_readBlock_28 (by decide) ?_
  refine mm_icmp_ge (pc := 30) (tgt := 85) dX6_readBlock_30 (by decide) (fun c30 => ?_) (fun c30 => ?_)
  · have m60 : M.1 47 = 60 := by
      have := (nI_leI (by decide) (by omega)).mp (show nI 60 ≤ nI i from c30)
      rw [hx1, show x_ = 60 by omega]; rfl
    have hz5_ : cd tb n t = 5 → pL tb n k q (f + 1) M t deep hd tl = (hd, pw tb n M t, t + 1) := fun cm => if_pos cm
    have hz0_ : ¬ cd tb n t = 5 → pL tb n k q (f + 1) M t deep hd tl = (-2, pf tb n M t, t) := fun cm => by
      have hA_ : (pA tb n (pL tb n k q f) k q M t deep) = (-1, pf tb n M t, t) := by exact pA_bad (Or.inr m60)
      show (if cd tb n t = 5 then (hd, pw tb n M t, t + 1) else pN (pL tb n k q f) deep hd tl (pA tb n (pL tb n k q f) k q M t deep)) = _
      rw [if_neg cm, hA_]
      rfl
    exact rb_85 (D := d + 2 * e + 3) (o1 := o1) (o2 := some (ad 0 y)) (i := i) (Z := pL tb n k q (f + 1) M t deep hd tl) (hd := hd) hn8 sb hhd hl1 hz5_ hz0_ hrm fb hC
  · refine mm_aload_n (pc := 33) dX6_readBlock_33 rfl (by first | trivial | assumption | exact mm_isr_rf _) ?_
    refine cw_gi (pc := 34) 1 _ 6 hC (rfl) rfl (n1) dX6_readBlock_34 fl_X6_106 rfl rfl rfl ?_
    refine mm_bipush (pc := 37) (v := 60) dX6_readBlock_37 (by decide) ?_
    refine mm_icmp_ge (pc := 39) (tgt := 85) dX6_readBlock_39 (by decide) (fun c39 => ?_) (fun c39 => ?_)
    · have m60 : M.1 47 = 60 := by
        rw [sb.2.2.2.1, hx1] at c39
        have := (nI_leI (by decide) (by omega)).mp (show nI 60 ≤ nI x_ from c39)
        rw [hx1, show x_ = 60 by omega]; rfl
      have hz5_ : cd tb n t = 5 → pL tb n k q (f + 1) M t deep hd tl = (hd, pw tb n M t, t + 1) := fun cm => if_pos cm
      have hz0_ : ¬ cd tb n t = 5 → pL tb n k q (f + 1) M t deep hd tl = (-2, pf tb n M t, t) := fun cm => by
        have hA_ : (pA tb n (pL tb n k q f) k q M t deep) = (-1, pf tb n M t, t) := by exact pA_bad (Or.inr m60)
        show (if cd tb n t = 5 then (hd, pw tb n M t, t + 1) else pN (pL tb n k q f) deep hd tl (pA tb n (pL tb n k q f) k q M t deep)) = _
        rw [if_neg cm, hA_]
        rfl
      exact rb_85 (D := d + 2 * e + 3) (o1 := o1) (o2 := some (ad 0 y)) (i := i) (Z := pL tb n k q (f + 1) M t deep hd tl) (hd := hd) hn8 sb hhd hl1 hz5_ hz0_ hrm fb hC
    · have h60 : ¬ M.1 47 = 60 := fun z => c39 (by rw [sb.2.2.2.1, z]; decide)
      refine mm_aload_n (pc := 42) dX6_readBlock_42 rfl (by first | trivial | assumption | exact mm_isr_rf _) ?_
      refine mm_callV (pc := 43) (As := []) (kd := ?kd_43_10) (fs := ?fs_43_10) dX6_readBlock_43 vl_X6_109 (ba_live hr hn8 hC) ?hc_43_10 ?hk_43_10 rfl rfl (Nat.le_of_ble_eq_true rfl) ?_; (case hc_43_10 => exact cw_cell (f := 6) hC rfl rfl n6); (case hk_43_10 => rfl)
      rintro _ _ ⟨rfl, rfl⟩
      refine mm_if_eq (pc := 46) (tgt := 85) dX6_readBlock_46 (by decide) (fun c46 => ?_) (fun c46 => ?_)
      · have hb_ : ¬ (13 ≤ cd tb n t ∧ cd tb n t < 23) := bI_d.mp c46
        have hz5_ : cd tb n t = 5 → pL tb n k q (f + 1) M t deep hd tl = (hd, pw tb n M t, t + 1) := fun cm => if_pos cm
        have hz0_ : ¬ cd tb n t = 5 → pL tb n k q (f + 1) M t deep hd tl = (-2, pf tb n M t, t) := fun cm => by
          have hA_ : (pA tb n (pL tb n k q f) k q M t deep) = (-1, pf tb n M t, t) := by exact pA_bad (Or.inl (by unfold opI; rw [if_neg (by omega)]))
          show (if cd tb n t = 5 then (hd, pw tb n M t, t + 1) else pN (pL tb n k q f) deep hd tl (pA tb n (pL tb n k q f) k q M t deep)) = _
          rw [if_neg cm, hA_]
          rfl
        exact rb_85 (D := d + 2 * e + 3) (o1 := o1) (o2 := some (ad 0 y)) (i := i) (Z := pL tb n k q (f + 1) M t deep hd tl) (hd := hd) hn8 sb hhd hl1 hz5_ hz0_ hrm fb hC
      · have hb_ : 13 ≤ cd tb n t ∧ cd tb n t < 23 := bI_n c46
        have hc5 : ¬ cd tb n t = 5 := by omega
        refine mm_aload_n (pc := 49) dX6_readBlock_49 rfl (by first | trivial | assumption | exact mm_isr_rf _) ?_
        refine mm_aload_n (pc := 50) dX6_readBlock_50 rfl (by first | trivial | assumption | exact mm_isr_rf _) ?_
        refine mm_iload_n (pc := 51) dX6_readBlock_51 rfl ?_
        refine mm_callV (pc := 52) (As := [_, _]) (kd := ?kd_52_11) (fs := ?fs_52_11) dX6_readBlock_52 vl_X6_112 (ra_ok (d := d + 2 * e + 1) (A0 := A0) (B := B) htb (rec_ e d deep he) hI (by omega) sb hA0 hrm hB1 hB2 hb_.1 (by omega) h60 hC) ?hc_52_11 ?hk_52_11 rfl rfl (Nat.le_of_ble_eq_true rfl) ?_; (case hc_52_11 => exact cw_cell (f := 6) hC rfl rfl n6); (case hk_52_11 => rfl)
        rintro _ h2 ⟨ad2, C2, hC, fb2, ⟨zne, sb2, rm2, o3, rfl, lk2⟩ | ⟨zeq, p2, rd2, pl2, rm2, o3, rfl⟩⟩
        · rw [← fb2.1 6 0 (by decide), ← fb2.1 1 b (by decide), ← fb2.2.1 y hy]
          have hpa := (pA_post (pL_post k q f) hI (by omega) (k := k) (q := q) (deep := deep)).resolve_left zne
          obtain ⟨a_, h13_, ha4, haz, hpg, hqq⟩ := hpa
          have hq2 := qs_le_of (tb := tb) (n := n) hpg.2
          have hqn_ := qs_le (tb := tb) (n := n) (pA tb n (pL tb n k q f) k q M t deep).2.2
          have hrec : (pL tb n k q (f + 1) M t deep hd tl) = pN (pL tb n k q f) deep hd tl (pA tb n (pL tb n k q f) k q M t deep) := if_neg hc5
          have hge : (0 : Int32) ≤ (pA tb n (pL tb n k q f) k q M t deep).1 := by rw [haz]; exact nI_pos' (by omega)
          have h47n := (A47 (tb := tb) (n := n) (t := t) (k := k) (q := q) (deep := deep) (L47 k q f (i + 1)) h47).resolve_left zne
          have hAa : A0 ≤ a_ := by have := (nI_eq (by have := sb.2.1.2.1; omega) (by omega)).mp (sb.2.1.1.symm.trans h13_); omega
          refine mm_astore (pc := 55) dX6_readBlock_55 (by first | trivial | assumption | exact mm_isr_rf _) rfl (Nat.le_of_ble_eq_true rfl) ?_
          refine mm_aload (pc := 57) dX6_readBlock_57 rfl (by first | trivial | assumption | exact mm_isr_rf _) ?_
          refine mm_ifnonnull (pc := 59) (tgt := 68) dX6_readBlock_59 (by decide) (by first | trivial | assumption | exact mm_isr_rf _) (fun a59 c59 => ?_) (fun c59 => by cases c59)
          refine mm_aload (pc := 68) dX6_readBlock_68 rfl (by first | trivial | assumption | exact mm_isr_rf _) ?_
          refine mm_aload (pc := 70) dX6_readBlock_70 rfl (by first | trivial | assumption | exact mm_isr_rf _) ?_
          refine cw_pr (pc := 72) (x := o3) 0 y 5 hC (rfl) rfl ((Nat.lt_of_lt_of_le hy fb2.2.2.2.2.2.2.1)) dX6_readBlock_72 (pl_X6_115 _) rfl rfl (rfl) (fun h72 hC e72 => ?_)
          refine mm_aload (pc := 75) dX6_readBlock_75 rfl (by first | trivial | assumption | exact mm_isr_rf _) ?_
          refine mm_astore (pc := 77) dX6_readBlock_77 (mm_isr_rf _) (by cases o1 <;> rfl) (Nat.le_of_ble_eq_true rfl) ?_
          refine mm_iinc (pc := 79) dX6_readBlock_79 rfl rfl (by cases o3 <;> rfl) (Nat.le_of_ble_eq_true rfl) ?_
          refine mm_goto (pc := 82) (tgt := 26) dX6_readBlock_82 (by decide) ?_
          rw [hrec]
          unfold pN
          rw [if_pos hge, if_neg htl, hty, nI_clamp (by omega)]
          exact mm_weakK (ih e d deep he A ad2 adS (cw_sR C2 0 y 5 o3) CS (mw_setV (pA tb n (pL tb n k q f) k q M t deep).2.1 18 y (pA tb n (pL tb n k q f) k q M t deep).1) _ b A0 (i + 1) B h72 _ _ o1 o3 (hpg.1.sV rfl) (by omega) ⟨sb2.1.same (cw_sR_o (by decide)) (cw_sR_o (by decide)) (fun _ _ => rfl), sb2.2.1.nxt y lk2, by rw [cw_sR_N]; exact sb2.2.2.1, by rw [cI_sR]; exact sb2.2.2.2⟩ (by rw [cw_sR_N]; exact (Nat.le_trans hA0 fb2.2.2.2.2.2.2.1)) ((fb.trans fb2 (Nat.le_refl _)).sR0 hAy) (rm2.mono (Nat.le_refl _) e72) hB1 hB2 (by rw [cw_sR_N]; exact hl1.mono fb2.2.2.2.2.2.2.1 fb2.2.1) (by rw [cw_sR_N]; exact lk2) (Or.inr ⟨a_, hAa, ha4, haz⟩) hhd h47n hC) (And.intro rfl (And.intro rfl (And.intro (congrArg (fun z => some (Value.int z)) (nI_add i 1)) (And.intro rfl (And.intro rfl (And.intro rfl trivial))))))
        · rw [← fb2.1 6 0 (by decide), ← fb2.1 1 b (by decide), ← fb2.2.1 y hy]
          have hdz : (pL tb n k q (f + 1) M t deep hd tl) = (-2, (pA tb n (pL tb n k q f) k q M t deep).2.1, (pA tb n (pL tb n k q f) k q M t deep).2.2) := by
            show (if cd tb n t = 5 then (hd, pw tb n M t, t + 1) else pN (pL tb n k q f) deep hd tl (pA tb n (pL tb n k q f) k q M t deep)) = _
            rw [if_neg hc5]
            unfold pN
            rw [if_neg (by rw [zeq]; decide)]
          refine mm_astore (pc := 55) dX6_readBlock_55 (by first | trivial | assumption | exact mm_isr_rf _) rfl (Nat.le_of_ble_eq_true rfl) ?_
          refine mm_aload (pc := 57) dX6_readBlock_57 rfl (by first | trivial | assumption | exact mm_isr_rf _) ?_
          refine mm_ifnonnull (pc := 59) (tgt := 68) dX6_readBlock_59 (by decide) (by first | trivial | assumption | exact mm_isr_rf _) (fun a59 c59 => ?_) (fun c59 => by cases c59)
          refine mm_aload (pc := 68) dX6_readBlock_68 rfl (by first | trivial | assumption | exact mm_isr_rf _) ?_
          refine mm_aload (pc := 70) dX6_readBlock_70 rfl (by first | trivial | assumption | exact mm_isr_rf _) ?_
          refine cw_pr (pc := 72) (x := o3) 0 y 5 hC (rfl) rfl ((Nat.lt_of_lt_of_le hy fb2.2.2.2.2.2.2.1)) dX6_readBlock_72 (pl_X6_115 _) rfl rfl (rfl) (fun h72 hC e72 => ?_)
          refine mm_aload (pc := 75) dX6_readBlock_75 rfl (by first | trivial | assumption | exact mm_isr_rf _) ?_
          refine mm_astore (pc := 77) dX6_readBlock_77 (mm_isr_rf _) (by cases o1 <;> rfl) (Nat.le_of_ble_eq_true rfl) ?_
          refine mm_iinc (pc := 79) dX6_readBlock_79 rfl rfl (by cases o3 <;> rfl) (Nat.le_of_ble_eq_true rfl) ?_
          refine mm_goto (pc := 82) (tgt := 26) dX6_readBlock_82 (by decide) ?_
          exact mm_weakK (rb_d26 (o1 := o1) (o2 := o3) (i := i + 1) (D := d + 2 * e + 3) (by rw [cw_sR_N, fb2.2.2.2.1]; exact n1) (rd2.same (cw_sR_o (by decide)) (cw_sR_o (by decide)) (fun _ _ => rfl)) (by rw [hdz]; exact pl2) (by rw [hdz]) (rm2.mono (Nat.le_refl _) e72) ((fb.trans fb2 (Nat.le_refl _)).sR0 hAy) hC) (And.intro rfl (And.intro rfl (And.intro (congrArg (fun z => some (Value.int z)) (nI_add i 1)) (And.intro rfl (And.intro rfl (And.intro rfl trivial))))))
theorem rb_loop {G : mm_G} {L : Nat × Nat} {h0 : mm_H} {tb : Nat → Nat} {n a0 k q : Nat} (htb : ∀ i, tb i < 256) : ∀ f, rLp G L h0 tb n a0 k q f := by
  intro f
  induction f with
  | zero => intro e d deep he A ad adS C CS M t b A0 i B h hd tl o1 o2 hI hf; omega
  | succ f ih =>
    intro e d deep he A ad adS C CS M t b A0 i B h hd tl o1 o2 hI hf sb hA0 fb hrm hB1 hB2 hl1 hl2 htl0 hhd h47 hC
    have rec_ : ∀ (e d deep : Nat), deep + e = 6 → rB G L h0 tb n a0 k q f (deep + 1) (d + 2 * e + 1 + 3) := by
      intro e d deep he
      cases e with
      | zero =>
        intro ad C M t b A0 B h hI hf sb hA0 hrm hB1 hB2 hC
        obtain rfl : deep = 6 := by omega
        exact rb_7 (d := d + 3) ad C M t b A0 B h hI sb hrm hC
      | succ e =>
        intro ad C M t b A0 B h hI hf sb hA0 hrm hB1 hB2 hC
        have q_ := rb_of ih e d (deep + 1) (by omega) ad C M t b A0 B h hI hf sb hA0 hrm hB1 hB2 hC
        rw [show d + 2 * (e + 1) + 1 + 3 = d + 2 * e + 6 by omega]
        exact q_
    rcases id hl2 with ⟨htl, rfl⟩ | ⟨y, hy, hty, rfl⟩
    · exact rb_st0 htb ih rec_ e d deep he A ad adS C CS M t b A0 i B h hd tl o1 hI hf sb hA0 fb hrm hB1 hB2 hl1 hhd h47 hC htl
    · have htl : ¬ tl < 0 := by rw [hty]; exact nI_pos (by have := sb.2.1.2.1; omega)
      have hAy : A0 ≤ y := by
        rcases htl0 with z | ⟨y', a1_, a2_, a3_⟩
        · exact absurd z htl
        · rw [hty] at a3_
          have := (nI_eq (by have := sb.2.1.2.1; omega) (by omega)).mp a3_
          omega
      exact rb_st1 htb ih rec_ e d deep he A ad adS C CS M t b A0 i B h hd tl o1 hI hf sb hA0 fb hrm hB1 hB2 hl1 hhd h47 hC y hy hty hAy htl
theorem rb_ok {G : mm_G} {L : Nat × Nat} {h0 : mm_H} {tb : Nat → Nat} {n a0 k q f d : Nat} (htb : ∀ i, tb i < 256) : ∀ (ad : Nat → Nat → Nat) (C : cw_C) (M : mw_S) (t b A0 : Nat) (B : Nat × Nat) (h : mm_H), pI tb n a0 M t → n - qs tb n t ≤ f → sBd ad C tb n M t b → A0 ≤ cN C 0 → rmB n B h (qs tb n t) → B.1 ≤ L.1 → B.2 ≤ L.2 → cw ad h0 C h →
    mm_Ok G mX6_readBlock L (d + 16) [.ref (ad 6 0), .ref (ad 1 b), .int (nI 1)] h (fun r h1 => aQ h0 A0 ad C b B tb n (-2) (pB tb n (pL tb n k q f) M t 1) r h1) :=
  rb_of (rb_loop htb f) 5 d 1 rfl

