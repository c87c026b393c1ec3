/-! how many actions a body has -/
theorem b47.mono {c c' : Nat} {M : mw_S} (h : b47 c' M) (hc : c ≤ c') : b47 c M := by
  obtain ⟨x, a, b, d⟩ := h
  exact ⟨x, a, by omega, d⟩
def f47 (c : Nat) (F : pr_F) : Prop := ∀ (M : mw_S) (t deep : Nat) (hd tl : Int32), b47 c M → (F M t deep hd tl).1 = -2 ∨ b47 c (F M t deep hd tl).2.1
section B47
variable {tb : Nat → Nat} {n c : Nat} {F : pr_F} {M : mw_S} {t : Nat}
theorem t47 (h : b47 c M) (x : Nat) : b47 c (pT tb n M t x).2.1 := by
  unfold pT
  by_cases e : cd tb n t = x
  · rw [if_pos e]; exact h
  · rw [if_neg e]; exact h
theorem n47_ (h : b47 c M) (x : Nat) : b47 c (pNum tb n M t x).2.1 := by
  unfold pNum
  by_cases e : cd tb n t = 32
  · rw [if_pos e]; exact h
  · rw [if_neg e]
    by_cases e3 : cd tb n t = 3
    · rw [if_pos e3]; exact h
    · rw [if_neg e3]; exact h
theorem B47_ (hF : f47 c F) (h : b47 c M) (deep : Nat) : (pB tb n F M t deep).1 = -2 ∨ b47 c (pB tb n F M t deep).2.1 := by
  unfold pB
  by_cases e : cd tb n t = 4 ∧ deep ≤ 6
  · rw [if_pos e]; exact hF _ _ _ _ _ h
  · rw [if_neg e]; exact Or.inl rfl
theorem O247 {x : Nat} {r : pr_T} (h : r.1 = -2 ∨ b47 c r.2.1) : (pO2 x r).1 = 0 ∨ b47 c (pO2 x r).2.1 := by
  unfold pO2
  rcases h with h | h
  · exact Or.inl (if_pos h)
  · exact Or.inr h
theorem O147 (hF : f47 c F) {x deep : Nat} {r : pr_T} (h : b47 c r.2.1) : (pO1 tb n F x deep r).1 = 0 ∨ b47 c (pO1 tb n F x deep r).2.1 := by
  unfold pO1
  by_cases e : r.1 = 0
  · rw [if_pos e]; exact Or.inl e
  · rw [if_neg e]; exact O247 (B47_ hF h _)
theorem O47 (hF : f47 c F) {x deep : Nat} (h : b47 c M) : (pO tb n F M t x deep).1 = 0 ∨ b47 c (pO tb n F M t x deep).2.1 := by
  unfold pO
  by_cases e : M.2.2.1 14 x = 10
  · rw [if_pos e]; exact O147 hF (t47 h 31)
  · rw [if_neg e]
    by_cases e2 : cd tb n t = 30
    · rw [if_pos e2]; exact O147 hF (t47 h 30)
    · rw [if_neg e2]; exact Or.inr h
theorem Pt47 (hF : f47 c F) {x deep : Nat} (h : b47 c M) : (pPt tb n F M t x deep).1 = 0 ∨ b47 c (pPt tb n F M t x deep).2.1 := by
  unfold pPt pPt1
  rcases B47_ (tb := tb) (n := n) (t := t) hF h (deep + 1) with q | q
  · rw [if_pos q]; exact Or.inl rfl
  · by_cases e : (pB tb n F M t (deep + 1)).1 = -2
    · rw [if_pos e]; exact Or.inl rfl
    · rw [if_neg e]; exact O47 hF q
theorem E47 {a : Nat} {r : pr_T} (h : r.1 = 0 ∨ b47 c r.2.1) : (pE a r).1 = -1 ∨ b47 c (pE a r).2.1 := by
  unfold pE
  rcases h with h | h
  · exact Or.inl (if_pos h)
  · exact Or.inr h
theorem C47 {k q a : Nat} (h : b47 c M) : (pC tb n k q M t a).1 = -1 ∨ b47 c (pC tb n k q M t a).2.1 := by
  unfold pC
  by_cases e : hkI (cd tb n t) < 0
  · rw [if_pos e]; exact Or.inl rfl
  · rw [if_neg e]; exact E47 (Or.inr (t47 (M := pw tb n (rm_useG (mw_setV (mw_setV M 15 a (hkI (cd tb n t))) 83 a (nI (qs tb n t))) a (nI k) (nI q) 2 (hkI (cd tb n t))) t) h 6))
theorem A147 (hF : f47 c F) {k q a deep : Nat} {o : Int32} (h : b47 c M) : (pA1 tb n F k q o M t a deep).1 = -1 ∨ b47 c (pA1 tb n F k q o M t a deep).2.1 := by
  unfold pA1
  by_cases e2 : o = 2
  · rw [if_pos e2]; exact C47 h
  · rw [if_neg e2]
    by_cases e1 : o = 1
    · rw [if_pos e1]; exact E47 (Or.inr (t47 h 6))
    · rw [if_neg e1]
      by_cases e10 : o = 10
      · rw [if_pos e10]; exact E47 (Pt47 hF h)
      · rw [if_neg e10]
        unfold pA2
        by_cases e0 : (pNum tb n M t a).1 = 0
        · rw [if_pos e0]; exact Or.inl rfl
        · rw [if_neg e0]
          by_cases e9 : o = 9
          · rw [if_pos e9]; exact E47 (Pt47 hF (n47_ h a))
          · rw [if_neg e9]; exact E47 (Or.inr (t47 (n47_ h a) 6))
theorem A47 (hF : f47 (c + 1) F) {k q deep : Nat} (h : b47 c M) : (pA tb n F k q M t deep).1 = -1 ∨ b47 (c + 1) (pA tb n F k q M t deep).2.1 := by
  unfold pA
  by_cases e : opI (cd tb n t) = 0
  · rw [if_pos e]; exact Or.inl rfl
  · rw [if_neg e]
    by_cases e6 : M.1 47 = 60
    · rw [if_pos e6]; exact Or.inl rfl
    · rw [if_neg e6]
      refine A147 hF ?_
      obtain ⟨x, a, b, d⟩ := h
      refine ⟨x + 1, ?_, by omega, ?_⟩
      · show (pA0 tb n k q deep t (opI (cd tb n t)) M).1 47 = _
        rw [pA0_VV.2.1, a]
        exact nI_add x 1
      · rcases Nat.lt_or_ge x 60 with z | z
        · exact z
        · exact absurd (by rw [a, show x = 60 by omega]; rfl) e6
theorem L47 (k q : Nat) : ∀ f c, f47 c (pL tb n k q f) := by
  intro f
  induction f with
  | zero => intro c M t deep hd tl h; exact Or.inl rfl
  | succ f ih =>
    intro c M t deep hd tl h
    show (if cd tb n t = 5 then (hd, pw tb n M t, t + 1) else pN (pL tb n k q f) deep hd tl (pA tb n (pL tb n k q f) k q M t deep)).1 = -2 ∨ b47 c (if cd tb n t = 5 then (hd, pw tb n M t, t + 1) else pN (pL tb n k q f) deep hd tl (pA tb n (pL tb n k q f) k q M t deep)).2.1
    by_cases e : cd tb n t = 5
    · rw [if_pos e]; exact Or.inr h
    · rw [if_neg e]
      unfold pN
      by_cases z : 0 ≤ (pA tb n (pL tb n k q f) k q M t deep).1
      · rw [if_pos z]
        have q := (A47 (tb := tb) (n := n) (t := t) (k := k) (q := q) (deep := deep) (ih (c + 1)) h).resolve_left (fun y => by rw [y] at z; exact absurd z (by decide))
        have q := q.mono (Nat.le_succ c)
        by_cases y : tl < 0
        · rw [if_pos y]; exact ih c _ _ _ _ _ q
        · rw [if_neg y]; exact ih c _ _ _ _ _ q
      · rw [if_neg z]; exact Or.inl rfl
end B47

theorem ra_ok {G : mm_G} {L : Nat × Nat} {h0 : mm_H} {tb : Nat → Nat} {n a0 k q f d deep t b A0 : Nat} {M : mw_S} {ad : Nat → Nat → Nat} {C : cw_C} {B : Nat × Nat} {h : mm_H} (htb : ∀ i, tb i < 256) (rec_ : rB G L h0 tb n a0 k q f (deep + 1) (d + 3)) (hI : pI tb n a0 M t) (hf : n - qs tb n t ≤ f) (hS : sBd ad C tb n M t b) (hA0 : A0 ≤ cN C 0) (hrm : rmB n B h (qs tb n t)) (hB1 : B.1 ≤ L.1) (hB2 : B.2 ≤ L.2) (h13 : 13 ≤ cd tb n t) (h22 : cd tb n t ≤ 22) (h60 : ¬ M.1 47 = 60) (hC : cw ad h0 C h) : mm_Ok G mX6_readAction L (d + 4) [.ref (ad 6 0), .ref (ad 1 b), .int (nI deep)] h (aQ h0 A0 ad C b B tb n (-1) (pA tb n (pL tb n k q f) k q M t deep)) := by
  refine mm_Ok.of [(0, .ref (ad 6 0)), (1, .ref (ad 1 b)), (2, .int (nI deep))] rfl kX6_readAction.2.2.2.2.2 rfl (fun A => ?_)
  obtain ⟨n6, hf6, hnow, hrc, hwd⟩ := id hS.1
  obtain ⟨n10, hw, -, -⟩ := hwd.at hrc
  have hn8 : n ≤ 800 := by have := hI.n7; omega
  obtain ⟨a_, -, ha2, -, -, ha4⟩ := hI.a
  have hN4 : cN C 0 < 4000 := by rw [← hS.2.1.N, ha2]; exact ha4
  have hq0 := (qs_lt (tb := tb) (n := n) (t := t) (by omega)).2.2
  have hq1 := (qs_lt (tb := tb) (n := n) (t := t) (by omega)).2.1
  have hz0 : (pA tb n (pL tb n k q f) k q M t deep) = pA1 tb n (pL tb n k q f) k q (opI (cd tb n t)) (pw tb n (pA0 tb n k q deep t (opI (cd tb n t)) M) t) (t + 1) (cN C 0) deep := by
    unfold pA
    rw [if_neg (by unfold opI; rw [if_pos ⟨h13, h22⟩]; intro z; have := (nI_eq (by omega) (by decide)).mp (show nI (cd tb n t - 12) = nI 0 from z); omega), if_neg h60, hS.2.1.N]
  refine mm_new (pc := 0) dX6_readAction_0 nl_X6_116 (by have := hrm.1; omega) (by have := hrm.2; show h.2.2 + 6 ≤ L.2; omega) ?_
  have hC0 := hC
  have hC := hC.keep (h' := mm_push h acc0) (fun a ha => mm_push_ne (Nat.ne_of_lt ha) rfl) (Nat.le_succ _) (Nat.le_add_right _ _)
  refine mm_dup (pc := 3) dX6_readAction_3 rfl ?_
  refine mm_aload_n (pc := 4) dX6_readAction_4 rfl (by first | trivial | assumption | exact mm_isr_rf _) ?_
  refine cw_grS (pc := 5) 6 _ 1 hC (rfl) rfl (n6) dX6_readAction_5 fl_X6_20 rfl rfl rfl (hnow) ?_
  refine cw_gi (pc := 8) 10 _ 0 hC (rfl) rfl (n10) dX6_readAction_8 fl_X6_120 rfl rfl rfl ?_
  refine mm_topi _ hw.1 ?_
  refine mm_aload_n (pc := 11) dX6_readAction_11 rfl (by first | trivial | assumption | exact mm_isr_rf _) ?_
  refine cw_grS (pc := 12) 6 _ 1 hC (rfl) rfl (n6) dX6_readAction_12 fl_X6_20 rfl rfl rfl (hnow) ?_
  refine cw_gi (pc := 15) 10 _ 1 hC (rfl) rfl (n10) dX6_readAction_15 fl_X6_47 rfl rfl rfl ?_
  refine mm_topi _ hw.2.1 ?_
  refine mm_callI (pc := 18) (As := [_, _]) dX6_readAction_18 il_X6_123 (ok_X0_init mm_push_eq) rfl rfl (Nat.le_of_ble_eq_true rfl) ?_
  rintro _ h18 ⟨rfl, e18⟩
  have s18 : h18.2 = (h.2.1 + 1, h.2.2 + 6) := by rw [e18]; rfl
  have hC := aN_add (w := cd tb n t) (p := qs tb n t) hC0 e18
  have fb := fB.new (ad := ad) (C := C) (b := b) (z := h.2.1) (w := cd tb n t) (p := qs tb n t) hA0
  have aa := hS.2.1.pa0 (k := k) (q := q) (deep := deep) (x := h.2.1) hN4 h13 h22
  have hr1 := hS.1.same (ad' := cw_ad ad C 0 h.2.1) (C' := aN C (cd tb n t) (qs tb n t)) (cw_ext_o (by decide)) (cw_ext_o (by decide)) (fun i hi => cw_ad_o hi)
  have en : cw_ad ad C 0 h.2.1 0 (cN C 0) = h.2.1 := cw_ad_n
  have e6 : cw_ad ad C 0 h.2.1 6 0 = ad 6 0 := fb.1 6 0 (by decide)
  have e1 : cw_ad ad C 0 h.2.1 1 b = ad 1 b := fb.1 1 b (by decide)
  rw [← en, ← e6, ← e1]
  clear en e6 e1
  generalize cw_ad ad C 0 h.2.1 = ad1 at *
  have m0 : cN (aN C (cd tb n t) (qs tb n t)) 0 = cN C 0 + 1 := cN_ext
  have m1 : cN (aN C (cd tb n t) (qs tb n t)) 1 = cN C 1 := cN_ext_o (by decide)
  have n1 : b < cN (aN C (cd tb n t) (qs tb n t)) 1 := by rw [m1]; exact hS.2.2.1
  have n0 : cN C 0 < cN (aN C (cd tb n t) (qs tb n t)) 0 := by rw [m0]; omega
  have w0 : cI (aN C (cd tb n t) (qs tb n t)) 0 (cN C 0) 0 = nI (cd tb n t) := cI_ext_n
  have w4 : cR (aN C (cd tb n t) (qs tb n t)) 0 (cN C 0) 4 = none := cR_ext_n
  have w6 : cI (aN C (cd tb n t) (qs tb n t)) 1 b 6 = M.1 47 := by rw [← hS.2.2.2.1]; exact cI_o (cw_ext_o (by decide))
  generalize aN C (cd tb n t) (qs tb n t) = C1 at *
  refine mm_astore_n (pc := 21) dX6_readAction_21 (by first | trivial | assumption | exact mm_isr_rf _) rfl (Nat.le_of_ble_eq_true rfl) ?_
  refine mm_aload_n (pc := 22) dX6_readAction_22 rfl (by first | trivial | assumption | exact mm_isr_rf _) ?_
  refine mm_dup (pc := 23) dX6_readAction_23 rfl ?_
  refine cw_gi (pc := 24) 1 _ 6 hC (rfl) rfl (n1) dX6_readAction_24 fl_X6_106 rfl rfl rfl ?_
  refine mm_iconst (pc := 27) (v := 1) dX6_readAction_27 (by decide) ?_
  refine mm_iadd (pc := 28) dX6_readAction_28 ?_
  refine cw_pi (pc := 29) 1 _ 6 hC (rfl) rfl (n1) dX6_readAction_29 (pl_X6_106 _) rfl rfl (rfl) (rfl) (fun h29 hC e29 => ?_)
  have hr1 := hr1.same (ad' := ad1) (C' := cw_sI C1 1 b 6 (cI C1 1 b 6 + 1)) (cw_sI_o (by decide)) (cw_sI_o (by decide)) (fun _ _ => rfl)
  have n6 := hr1.1
  have w0b : cI (cw_sI C1 1 b 6 (cI C1 1 b 6 + 1)) 0 (cN C 0) 0 = nI (cd tb n t) := by rw [cI_sI_n (by omega)]; exact w0
  refine mm_aload_n (pc := 32) dX6_readAction_32 rfl (by first | trivial | assumption | exact mm_isr_rf _) ?_
  refine mm_aload_n (pc := 33) dX6_readAction_33 rfl (by first | trivial | assumption | exact mm_isr_rf _) ?_
  refine cw_gi (pc := 34) 0 _ 0 hC (rfl) rfl ((by rw [cw_sI_N]; exact n0)) dX6_readAction_34 fl_X6_126 rfl rfl rfl ?_
  refine mm_topi _ w0b ?_
  refine mm_callV (pc := 37) (As := [_]) (kd := ?kd_37_1) (fs := ?fs_37_1) dX6_readAction_37 vl_X6_31 (tk_ok hr1 hn8 hC rfl (by omega)) ?hc_37_1 ?hk_37_1 rfl rfl (Nat.le_of_ble_eq_true rfl) ?_; (case hc_37_1 => exact cw_cell (f := 6) hC rfl rfl n6); (case hk_37_1 => rfl)
  rintro _ h37 ⟨C2, hC, k_, e_, hr2, rfl⟩
  have hs : lS h0 A0 ad C b B tb n a0 t (cN C 0) ad1 C2 h37 (pw tb n (pA0 tb n k q deep t (opI (cd tb n t)) M) t) (t + 1) := by
    refine ⟨hC, (fb.sI1).six k_, ⟨hr2, aa.same (((k_ 0).1 (by decide)).trans (cw_sI_o (by decide))) (fun _ _ => rfl) rfl rfl rfl rfl rfl rfl rfl, ?_, ?_⟩, ?_, ?_, ?_, ?_, pA0_S hI h13 h22 h60, Nat.le_refl _⟩
    · rw [k_.N (by decide), cw_sI_N]; exact n1
    · rw [cI_o ((k_ 1).1 (by decide)), cI_sI_e, w6]
      refine ⟨pA0_VV.2.1.symm, ?_⟩
      obtain ⟨x, a, b_, d_⟩ := hS.2.2.2.2
      refine ⟨x + 1, ?_, by omega, ?_⟩
      · show (pA0 tb n k q deep t (opI (cd tb n t)) M).1 47 = _
        rw [pA0_VV.2.1, a]
        exact nI_add x 1
      · rcases Nat.lt_or_ge x 60 with z | z
        · exact z
        · exact absurd (by rw [a, show x = 60 by omega]; rfl) h60
    · exact hrm.new hq1 (qs_le _) (by rw [e_, e29, s18])
    · rw [k_.N (by decide), cw_sI_N]; exact n0
    · rw [cI_o ((k_ 0).1 (by decide)), cI_sI_n (by omega)]; exact w0
    · rw [cR_o ((k_ 0).1 (by decide)), cR_sI]; exact w4
  have w0c : cI C2 0 (cN C 0) 0 = nI (cd tb n t) := by rw [cI_o ((k_ 0).1 (by decide))]; exact w0b
  have n0 : cN C 0 < cN C2 0 := hs.2.2.2.2.1
  refine mm_pop2 (pc := 40) dX6_readAction_40 rfl ?_
  refine mm_aload_n (pc := 41) dX6_readAction_41 rfl (by first | trivial | assumption | exact mm_isr_rf _) ?_
  refine cw_gi (pc := 42) 0 _ 0 hC (rfl) rfl (n0) dX6_readAction_42 fl_X6_126 rfl rfl rfl ?_
  refine mm_topi _ w0c ?_
  refine mm_sw (pc := 45) [183, 186, 208, 208, 208, 208, 208, 208, 100, 150] 208 dX6_readAction_45 (by decide) (by decide) (by decide) (fun i_ t_ ht_ hx_ => ?_) (fun c45 => ?_)
  · match i_, ht_ with
    | 0, ht_ =>
      cases ht_
      have c45 := mm_swe (v := 13) hx_ (by decide)
      have hcd : cd tb n t = 13 := (nI_eq (by have := cd_lt tb n t; omega) (by decide)).mp c45
      have hz := hz0
      rw [show opI (cd tb n t) = 1 by rw [hcd]; rfl] at hz
      unfold pA1 at hz
      rw [if_neg (show ¬ (1 : Int32) = 2 by decide), if_pos rfl] at hz
      rw [← show opI (cd tb n t) = 1 by rw [hcd]; rfl] at hz
      refine mm_goto (pc := 183) (tgt := 216) dX6_readAction_183 (by decide) ?_
      exact ra_l216 hs hA0 hz hN4
    | 1, ht_ =>
      cases ht_
      have c45 := mm_swe (v := 14) hx_ (by decide)
      have hcd : cd tb n t = 14 := (nI_eq (by have := cd_lt tb n t; omega) (by decide)).mp c45
      have hz := hz0
      rw [show opI (cd tb n t) = 2 by rw [hcd]; rfl] at hz
      unfold pA1 at hz
      rw [if_pos rfl] at hz
      rw [← show opI (cd tb n t) = 2 by rw [hcd]; rfl] at hz
      exact ra_l186 hs hA0 hz hN4
    | 2, ht_ =>
      cases ht_
      have c45 := mm_swe (v := 15) hx_ (by decide)
      have hcd : cd tb n t = 15 := (nI_eq (by have := cd_lt tb n t; omega) (by decide)).mp c45
      have hz := hz0
      rw [show opI (cd tb n t) = 3 by rw [hcd]; rfl] at hz
      unfold pA1 at hz
      rw [if_neg (show ¬ (3 : Int32) = 2 by decide), if_neg (show ¬ (3 : Int32) = 1 by decide), if_neg (show ¬ (3 : Int32) = 10 by decide)] at hz
      rw [← show opI (cd tb n t) = 3 by rw [hcd]; rfl] at hz
      exact ra_l208 hs hA0 htb hz (by rw [hcd]; decide) hN4
    | 3, ht_ =>
      cases ht_
      have c45 := mm_swe (v := 16) hx_ (by decide)
      have hcd : cd tb n t = 16 := (nI_eq (by have := cd_lt tb n t; omega) (by decide)).mp c45
      have hz := hz0
      rw [show opI (cd tb n t) = 4 by rw [hcd]; rfl] at hz
      unfold pA1 at hz
      rw [if_neg (show ¬ (4 : Int32) = 2 by decide), if_neg (show ¬ (4 : Int32) = 1 by decide), if_neg (show ¬ (4 : Int32) = 10 by decide)] at hz
      rw [← show opI (cd tb n t) = 4 by rw [hcd]; rfl] at hz
      exact ra_l208 hs hA0 htb hz (by rw [hcd]; decide) hN4
    | 4, ht_ =>
      cases ht_
      have c45 := mm_swe (v := 17) hx_ (by decide)
      have hcd : cd tb n t = 17 := (nI_eq (by have := cd_lt tb n t; omega) (by decide)).mp c45
      have hz := hz0
      rw [show opI (cd tb n t) = 5 by rw [hcd]; rfl] at hz
      unfold pA1 at hz
      rw [if_neg (show ¬ (5 : Int32) = 2 by decide), if_neg (show ¬ (5 : Int32) = 1 by decide), if_neg (show ¬ (5 : Int32) = 10 by decide)] at hz
      rw [← show opI (cd tb n t) = 5 by rw [hcd]; rfl] at hz
      exact ra_l208 hs hA0 htb hz (by rw [hcd]; decide) hN4
    | 5, ht_ =>
      cases ht_
      have c45 := mm_swe (v := 18) hx_ (by decide)
      have hcd : cd tb n t = 18 := (nI_eq (by have := cd_lt tb n t; omega) (by decide)).mp c45
      have hz := hz0
      rw [show opI (cd tb n t) = 6 by rw [hcd]; rfl] at hz
      unfold pA1 at hz
      rw [if_neg (show ¬ (6 : Int32) = 2 by decide), if_neg (show ¬ (6 : Int32) = 1 by decide), if_neg (show ¬ (6 : Int32) = 10 by decide)] at hz
      rw [← show opI (cd tb n t) = 6 by rw [hcd]; rfl] at hz
      exact ra_l208 hs hA0 htb hz (by rw [hcd]; decide) hN4
    | 6, ht_ =>
      cases ht_
      have c45 := mm_swe (v := 19) hx_ (by decide)
      have hcd : cd tb n t = 19 := (nI_eq (by have := cd_lt tb n t; omega) (by decide)).mp c45
      have hz := hz0
      rw [show opI (cd tb n t) = 7 by rw [hcd]; rfl] at hz
      unfold pA1 at hz
      rw [if_neg (show ¬ (7 : Int32) = 2 by decide), if_neg (show ¬ (7 : Int32) = 1 by decide), if_neg (show ¬ (7 : Int32) = 10 by decide)] at hz
      rw [← show opI (cd tb n t) = 7 by rw [hcd]; rfl] at hz
      exact ra_l208 hs hA0 htb hz (by rw [hcd]; decide) hN4
    | 7, ht_ =>
      cases ht_
      have c45 := mm_swe (v := 20) hx_ (by decide)
      have hcd : cd tb n t = 20 := (nI_eq (by have := cd_lt tb n t; omega) (by decide)).mp c45
      have hz := hz0
      rw [show opI (cd tb n t) = 8 by rw [hcd]; rfl] at hz
      unfold pA1 at hz
      rw [if_neg (show ¬ (8 : Int32) = 2 by decide), if_neg (show ¬ (8 : Int32) = 1 by decide), if_neg (show ¬ (8 : Int32) = 10 by decide)] at hz
      rw [← show opI (cd tb n t) = 8 by rw [hcd]; rfl] at hz
      exact ra_l208 hs hA0 htb hz (by rw [hcd]; decide) hN4
    | 8, ht_ =>
      cases ht_
      have c45 := mm_swe (v := 21) hx_ (by decide)
      have hcd : cd tb n t = 21 := (nI_eq (by have := cd_lt tb n t; omega) (by decide)).mp c45
      have hz := hz0
      rw [show opI (cd tb n t) = 9 by rw [hcd]; rfl] at hz
      unfold pA1 at hz
      rw [if_neg (show ¬ (9 : Int32) = 2 by decide), if_neg (show ¬ (9 : Int32) = 1 by decide), if_neg (show ¬ (9 : Int32) = 10 by decide)] at hz
      rw [← show opI (cd tb n t) = 9 by rw [hcd]; rfl] at hz
      exact ra_l100 hs hA0 htb rec_ hf hB1 hB2 (by rw [hz, hcd]; rfl) hcd hN4
    | 9, ht_ =>
      cases ht_
      have c45 := mm_swe (v := 22) hx_ (by decide)
      have hcd : cd tb n t = 22 := (nI_eq (by have := cd_lt tb n t; omega) (by decide)).mp c45
      have hz := hz0
      rw [show opI (cd tb n t) = 10 by rw [hcd]; rfl] at hz
      unfold pA1 at hz
      rw [if_neg (show ¬ (10 : Int32) = 2 by decide), if_neg (show ¬ (10 : Int32) = 1 by decide), if_pos rfl] at hz
      rw [← show opI (cd tb n t) = 10 by rw [hcd]; rfl] at hz
      exact ra_l150 hs hA0 htb rec_ hf hB1 hB2 hz hcd hN4
    | n_ + 10, ht_ => cases ht_
  · exfalso
    obtain ⟨j_, hj_⟩ : ∃ j, cd tb n t = 13 + j := ⟨cd tb n t - 13, by omega⟩
    refine c45 j_ (by show j_ < 10; omega) ?_
    rw [hj_, nI_toInt (by omega)]
    omega

