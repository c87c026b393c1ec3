/-! the class's readKind -/
/-- a new kind's object, from before it was made -/
def kNw (ad : Nat → Nat → Nat) (C : cw_C) (ad1 : Nat → Nat → Nat) (C1 : cw_C) (k : Nat) (w : Int64) (p : Int32) (w2 : Int64) (p2 : Int32) : Prop := (∀ f i, i < cN C f → ad1 f i = ad f i) ∧ (∀ f, ¬ f = 4 → ¬ f = 21 → ¬ f = 6 → C1 f = C f) ∧ (cN C1 4 = k + 1 ∧ cN C1 21 = k + 1 ∧ cN C1 6 = cN C 6) ∧ (∀ i j, i < k → cI C1 4 i j = cI C 4 i j ∧ cL C1 4 i j = cL C 4 i j ∧ cR C1 4 i j = cR C 4 i j) ∧ (∀ i j, i < k → cR C1 21 i j = cR C 21 i j) ∧ (∀ j, cR C1 21 k j = none) ∧ (cL C1 4 k 0 = w ∧ cI C1 4 k 1 = p ∧ cL C1 4 k 2 = w2 ∧ cI C1 4 k 3 = p2) ∧ cR C1 4 k 9 = none ∧ cR C1 4 k 10 = none ∧ cR C1 4 k 11 = some (ad1 21 k)
section KNW
variable {N : Nat → Nat} {ad adS ad1 ad2 ad3 : Nat → Nat → Nat} {C CS C1 C2 C3 : cw_C} {k : Nat} {w w2 : Int64} {p p2 : Int32}
theorem kIn.oK (h : oK N adS CS ad C) (y : kIn C ad1 C1 k w p) (ha : ∀ f i, i < cN C f → ad1 f i = ad f i) (h4 : N 4 ≤ k) : oK N adS CS ad1 C1 := fun f => by
  obtain ⟨y1, y2, y3, y4, -⟩ := y
  have hle := (h f).1
  by_cases e4 : f = 4
  · subst e4
    refine ⟨by omega, fun i hi => ?_⟩
    obtain ⟨a1, a2, a3, a4⟩ := (h 4).2 i hi
    exact ⟨(ha 4 i (by omega)).trans a1, (funext (fun j => (y4 i j (by omega)).1)).trans a2, fun z => (funext (fun j => (y4 i j (by omega)).2.1)).trans (a3 z), (funext (fun j => (y4 i j (by omega)).2.2)).trans a4⟩
  · by_cases e21 : f = 21
    · subst e21
      refine ⟨?_, fun i hi => ?_⟩
      · unfold cN; rw [y3]; show N 21 ≤ cN (cw_ext C 21 _ _ _) 21; rw [cN_ext]; omega
      · obtain ⟨a1, a2, a3, a4⟩ := (h 21).2 i hi
        rw [y3]
        unfold cw_new
        rw [cw_ext_f]
        exact ⟨(ha 21 i (by omega)).trans a1, (cu_ne (by omega)).trans a2, fun z => (cu_ne (by omega)).trans (a3 z), (cu_ne (by omega)).trans a4⟩
    · rw [show cN C1 f = cN C f by unfold cN; rw [y1 f e4 e21], y1 f e4 e21]
      refine ⟨hle, fun i hi => ?_⟩
      obtain ⟨a1, a2⟩ := (h f).2 i hi
      exact ⟨(ha f i (by omega)).trans a1, a2⟩
theorem kNw_of {x : Nat} (hk4 : cN C 4 = k) (hk21 : cN C 21 = k) (y6 : k6 (cw_new C 4) C2) (ha : ∀ f i, i < cN C2 f → ad3 f i = cw_ad ad C 4 x f i) (y : kIn C2 ad3 C3 k w p) : kNw ad C ad3 C3 k w p 0 0 := by
  obtain ⟨y1, y2, y3, y4, ⟨z1, z2, z3, z4⟩, z5, z6, z7⟩ := y
  have c4 : C2 4 = cw_new C 4 4 := (y6 4).1 (by decide)
  have m4 : cN C2 4 = k + 1 := by rw [cN_o c4, ← hk4]; exact cN_ext
  have m21 : cN C2 21 = k := by rw [cN_o ((y6 21).1 (by decide)), ← hk21]; exact cN_ext_o (by decide)
  have mm : ∀ f, cN C f ≤ cN C2 f := fun f => by
    rw [(y6 f).2]
    by_cases e : f = 4
    · subst e; rw [show cN (cw_new C 4) 4 = cN C 4 + 1 from cN_ext]; omega
    · rw [show cN (cw_new C 4) f = cN C f from cN_ext_o e]; omega
  have e21 : ∀ i j, i < k → cR C3 21 i j = cR C 21 i j := by
    intro i j hi
    unfold cR
    rw [y3]
    unfold cw_new
    rw [cw_ext_f]
    refine (congrFun (cu_ne (f := (C2 21).2.2.1) (by omega)) j).trans ?_
    rw [(y6 21).1 (by decide)]
    unfold cw_new
    rw [cw_ext_o (by decide)]
  refine ⟨fun f i hi => ?_, fun f h4 h21 h6 => ?_, ⟨by rw [y2, m4], ?_, ?_⟩, fun i j hi => ?_, e21, fun j => ?_, ⟨z1, z2, z3, z4⟩, z5, z6, by rw [z7, m21]⟩
  · exact (ha f i (Nat.lt_of_lt_of_le hi (mm f))).trans (cw_ad_o hi)
  · rw [y1 f h4 h21, (y6 f).1 h6]; exact cw_ext_o h4
  · unfold cN; rw [y3]; show cN (cw_ext C2 21 _ _ _) 21 = _; rw [cN_ext, m21]
  · rw [cN_o (y1 6 (by decide) (by decide)), (y6 6).2]; exact cN_ext_o (by decide)
  · obtain ⟨q1, q2, q3⟩ := y4 i j (by omega)
    rw [q1, q2, q3, cI_o c4, cL_o c4, cR_o c4]
    exact ⟨cI_ext_o (by omega), cL_ext_o (by omega), cR_ext_o (by omega)⟩
  · unfold cR
    rw [y3]
    unfold cw_new
    rw [cw_ext_f, m21]
    exact congrFun (cu_eq (f := (C2 21).2.2.1)) j
theorem kNw.six (h : kNw ad C ad1 C1 k w p w2 p2) (y : k6 C1 C2) : kNw ad C ad1 C2 k w p w2 p2 := by
  obtain ⟨h1, h2, ⟨h3, h4, h5⟩, h6, h7, h8, ⟨h9, h10, h11, h12⟩, h13, h14, h15⟩ := h
  have c4 := (y 4).1 (by decide)
  have c21 := (y 21).1 (by decide)
  refine ⟨h1, fun f a b c => ((y f).1 c).trans (h2 f a b c), ⟨?_, ?_, ?_⟩, fun i j hi => ?_, fun i j hi => ?_, fun j => ?_, ?_, ?_, ?_, ?_⟩
  · rw [(y 4).2]; exact h3
  · rw [(y 21).2]; exact h4
  · rw [(y 6).2]; exact h5
  · rw [cI_o c4, cL_o c4, cR_o c4]; exact h6 i j hi
  · rw [cR_o c21]; exact h7 i j hi
  · rw [cR_o c21]; exact h8 j
  · rw [cL_o c4, cI_o c4, cL_o c4, cI_o c4]; exact ⟨h9, h10, h11, h12⟩
  · rw [cR_o c4]; exact h13
  · rw [cR_o c4]; exact h14
  · rw [cR_o c4]; exact h15
theorem kNw.sI3 {x : Int32} (h : kNw ad C ad1 C1 k w p w2 p2) : kNw ad C ad1 (cw_sI C1 4 k 3 x) k w p w2 x := by
  obtain ⟨h1, h2, ⟨h3, h4, h5⟩, h6, h7, h8, ⟨h9, h10, h11, h12⟩, h13, h14, h15⟩ := h
  refine ⟨h1, fun f a b c => (cw_sI_o a).trans (h2 f a b c), ⟨?_, ?_, ?_⟩, fun i j hi => ?_, fun i j hi => ?_, fun j => ?_, ?_, ?_, ?_, ?_⟩
  · rw [cw_sI_N]; exact h3
  · rw [cw_sI_N]; exact h4
  · rw [cw_sI_N]; exact h5
  · rw [cI_sI_n (by omega), cL_sI, cR_sI]; exact h6 i j hi
  · rw [cR_sI]; exact h7 i j hi
  · rw [cR_sI]; exact h8 j
  · rw [cL_sI, cI_sI_n (by omega), cL_sI, cI_sI_e]; exact ⟨h9, h10, h11, rfl⟩
  · rw [cR_sI]; exact h13
  · rw [cR_sI]; exact h14
  · rw [cR_sI]; exact h15
theorem kNw.sL2 {x : Int64} (h : kNw ad C ad1 C1 k w p w2 p2) : kNw ad C ad1 (cw_sL C1 4 k 2 x) k w p x p2 := by
  obtain ⟨h1, h2, ⟨h3, h4, h5⟩, h6, h7, h8, ⟨h9, h10, h11, h12⟩, h13, h14, h15⟩ := h
  refine ⟨h1, fun f a b c => (cw_sL_o a).trans (h2 f a b c), ⟨?_, ?_, ?_⟩, fun i j hi => ?_, fun i j hi => ?_, fun j => ?_, ?_, ?_, ?_, ?_⟩
  · rw [cw_sL_N]; exact h3
  · rw [cw_sL_N]; exact h4
  · rw [cw_sL_N]; exact h5
  · rw [cI_sL, cL_sL_n (by omega), cR_sL]; exact h6 i j hi
  · rw [cR_sL]; exact h7 i j hi
  · rw [cR_sL]; exact h8 j
  · rw [cL_sL_n (by omega), cI_sL, cL_sL_e, cI_sL]; exact ⟨h9, h10, rfl, h12⟩
  · rw [cR_sL]; exact h13
  · rw [cR_sL]; exact h14
  · rw [cR_sL]; exact h15
/-- the kind's head was read -/
theorem sKd.head {tb : Nat → Nat} {n nk t t0 : Nat} {M : mw_S} (hS : sPk ad C tb n nk M t0 k k) (h13 : M.1 13 = nI (ka M)) (h111 : M.1 111 = nI (kg M)) (hgb : kg M < 2 ^ 30) (y : kNw ad C ad1 C1 k (spL (wo tb n (t + 1))) (nI (qs tb n (t + 1))) (spL (wo tb n (t + 1 + 1 + 1))) (nI (qs tb n (t + 1 + 1 + 1)))) (hr : rL ad1 C1 tb n (t + 1 + 1 + 1 + 1 + 1)) : sKd ad1 C1 tb n nk (kM6 tb n k M t) (t + 1 + 1 + 1 + 1 + 1) k := by
  obtain ⟨-, a2, a3, a4, ⟨a5, a6⟩, a7⟩ := hS
  obtain ⟨h1, h2, ⟨h3, h4, h5⟩, h6, h7, h8, ⟨h9, h10, h11, h12⟩, h13_, h14, h15⟩ := y
  obtain ⟨n90, n91, n105, -, -, -, -, n8⟩ := kM6_N (tb := tb) (n := n) (k := k) (t := t) h13 h111
  have c0 := h2 0 (by decide) (by decide) (by decide)
  have c1 := h2 1 (by decide) (by decide) (by decide)
  have eV : ∀ j i, ¬ ((j = 90 ∨ j = 91 ∨ j = 105 ∨ j = 116 ∨ j = 5 ∨ j = 6 ∨ j = 7) ∧ i = k) → ¬ (j = 8 ∧ 6 * k ≤ i ∧ i < 6 * k + 6) → (kM6 tb n k M t).2.2.1 j i = M.2.2.1 j i := fun j i x y => kM6_V x y
  have eW := congrArg Prod.fst (kM6_W (tb := tb) (n := n) (k := k) (t := t) (M := M))
  have eg : kg (kM6 tb n k M t) = kg M := by unfold kg; rw [kM6_S (by omega)]
  have zGk : zG (kM6 tb n k M t) k = cN C1 1 := by unfold zG; rw [n105, nI_clamp (by omega), cN_o c1, a3]
  have hb : ∀ i, nk ≤ i → i < k → zE (kM6 tb n k M t) i = zE M i := fun i _ h2 => by unfold zE; rw [eV 106 i (by omega) (by omega)]
  refine ⟨⟨hr, a2.same c0 (fun i hi => h1 0 i hi) (kM6_S (by omega)) ?_ ?_ ?_ ?_ ?_ ?_, by rw [cN_o c1, a3, eg], fun g hg => ?_, ⟨h3, h4⟩, fun i i1 i2 => ?_⟩, ?_, ?_, fun i i1 i2 => ?_⟩
  · exact funext (fun i => eV 14 i (by omega) (by omega))
  · exact funext (fun i => eV 15 i (by omega) (by omega))
  · exact funext (fun i => eV 16 i (by omega) (by omega))
  · exact funext (fun i => eV 17 i (by omega) (by omega))
  · exact funext (fun i => eV 18 i (by omega) (by omega))
  · exact funext (fun i => eV 83 i (by omega) (by omega))
  · rw [cN_o c1] at hg
    exact (a4 g hg).mono (fun j => cI_o c1) (fun j _ => cR_o c1) (by omega) (fun i hi => h1 4 i hi) (by rw [cN_o c0]; omega) (fun i hi => h1 0 i hi) (fun j hj => eV j g (by omega) (by omega))
  · rw [hb i i1 i2]
    refine (a7 i i1 i2).mono (fun j => (h6 i j i2).1) (fun j => (h6 i j i2).2.1) (fun j => (h6 i j i2).2.2) (fun j => h7 i j i2) (by rw [cN_o c1]; omega) (fun i hi => h1 1 i hi) (h1 21 i (by omega)) (fun g _ _ => cR_o c1) (fun j hj => ?_) (fun j hj => eV j i (by omega) (by omega)) (fun q hq => ⟨eV 8 _ (by omega) (by omega), eV 97 _ (by omega) (by omega)⟩)
    rw [eW]
    show mw_u2 (mw_u2 M.2.2.2.1 100 k _) 103 k _ j i = _
    rw [mw_u2_ne _ _ (by omega), mw_u2_ne _ _ (by omega)]
  · unfold kdF
    rw [zGk, if_neg (Nat.lt_irrefl _), h9, h10, h11, h12, h13_, h15, n90, n91, eW]
    refine ⟨⟨?_, rfl, ?_, rfl⟩, rfl, fun q hq => ?_, ⟨Nat.le_refl _, Nat.le_refl _⟩, rfl, fun g hg hgT => by omega⟩
    · show _ = mw_u2 (mw_u2 M.2.2.2.1 100 k (spL (wo tb n (t + 1)))) 103 k (spL (wo tb n (t + 1 + 1 + 1))) 100 k
      rw [mw_u2_ne _ _ (by omega), mw_u2_eq]
    · show _ = mw_u2 (mw_u2 M.2.2.2.1 100 k (spL (wo tb n (t + 1)))) 103 k (spL (wo tb n (t + 1 + 1 + 1))) 103 k
      rw [mw_u2_eq]
    · exact Or.inl ⟨by unfold rm_has; rw [n8 q hq]; rfl, h8 q⟩
  · rw [zGk, if_neg (Nat.lt_irrefl _)]; exact h14
  · rw [hb i i1 i2, zGk, cN_o c1]; exact (a7 i i1 i2).2.2.2.1.2
end KNW
section PKB
variable {tb : Nat → Nat} {n t k : Nat} {M : mw_S}
theorem pKd_1 (h : ¬ cd tb n t = 25) : (pKind tb n M t).1 = 0 ∧ (pKind tb n M t).2.1.1 24 = nI (qs tb n t) := by
  unfold pKind; rw [if_neg h]; exact ⟨rfl, rfl⟩
theorem pKd_2 (h : cd tb n t = 25) (h35 : ¬ M.1 35 = 10) (h2 : ¬ cd tb n (t + 1) = 2) : (pKind tb n M t).1 = 0 ∧ (pKind tb n M t).2.1.1 24 = nI (qs tb n (t + 1)) := by
  unfold pKind pK2; rw [if_pos h, if_neg h35, if_neg h2]; exact ⟨rfl, rfl⟩
theorem pKd_3 (h : cd tb n t = 25) (h35 : ¬ M.1 35 = 10) (h2 : cd tb n (t + 1) = 2) (h3 : ¬ cd tb n (t + 1 + 1) = 26) : (pKind tb n M t).1 = 0 ∧ (pKind tb n M t).2.1.1 24 = nI (qs tb n (t + 1 + 1)) := by
  unfold pKind pK2 pK3 pT; rw [if_pos h, if_neg h35, if_pos h2, if_neg h3, if_pos rfl]; exact ⟨rfl, rfl⟩
theorem pKd_4 (h : cd tb n t = 25) (h35 : ¬ M.1 35 = 10) (h2 : cd tb n (t + 1) = 2) (h3 : cd tb n (t + 1 + 1) = 26) (h4 : ¬ cd tb n (t + 1 + 1 + 1) = 2) : (pKind tb n M t).1 = 0 ∧ (pKind tb n M t).2.1.1 24 = nI (qs tb n (t + 1 + 1 + 1)) := by
  unfold pKind pK2 pK3 pK4 pT; rw [if_pos h, if_neg h35, if_pos h2, if_pos h3, if_neg (show ¬ (1 : Int32) = 0 by decide), if_neg h4]; exact ⟨rfl, rfl⟩
theorem pKd_5 (h : cd tb n t = 25) (h35 : ¬ M.1 35 = 10) (h2 : cd tb n (t + 1) = 2) (h3 : cd tb n (t + 1 + 1) = 26) (h4 : cd tb n (t + 1 + 1 + 1) = 2) (h5 : ¬ cd tb n (t + 1 + 1 + 1 + 1) = 4) : (pKind tb n M t).1 = 0 ∧ (pKind tb n M t).2.1.1 24 = nI (qs tb n (t + 1 + 1 + 1 + 1)) := by
  unfold pKind pK2 pK3 pK4 pK5 pT; rw [if_pos h, if_neg h35, if_pos h2, if_pos h3, if_neg (show ¬ (1 : Int32) = 0 by decide), if_pos h4, if_neg h5, if_pos rfl]; exact ⟨rfl, rfl⟩
end PKB
def kQ (N : Nat → Nat) (h0 : mm_H) (ad : Nat → Nat → Nat) (C : cw_C) (B : Nat × Nat) (tb : Nat → Nat) (n nk k : Nat) (z : pr_T) (r : Option Value) (h1 : mm_H) : Prop := ∃ ad1 C1, r = some (.ref (ad1 4 k)) ∧ cw ad1 h0 C1 h1 ∧ oK N ad C ad1 C1 ∧ ad1 6 0 = ad 6 0 ∧ k < cN C1 4 ∧ ((¬ z.1 = 0 ∧ sPk ad1 C1 tb n nk z.2.1 z.2.2 (k + 1) (k + 1) ∧ rmB n B h1 (qs tb n z.2.2)) ∨ (z.1 = 0 ∧ ∃ p, rD ad1 C1 p ∧ z.2.1.1 24 = nI p ∧ rmX B h1))

theorem rk_d64 {G : mm_G} {L : Nat × Nat} {h0 : mm_H} {tb : Nat → Nat} {n nk d k : Nat} {ad adS : Nat → Nat → Nat} {C CS : cw_C} {B : Nat × Nat} {N : Nat → Nat} {h : mm_H} {A : Nat → Prop} {Z : pr_T} {p : Nat} {x : Int32} (n4 : k < cN C 4) (hN4 : N 4 ≤ k) (hr : rD ad C p) (hz : Z.1 = 0 ∧ Z.2.1.1 24 = nI p) (hrm : rmX B h) (hok : oK N adS CS ad C) (h6 : ad 6 0 = adS 6 0) (hC : cw ad h0 C h) : mm_Run G mX6_readKind A L (d + 18) 64 [(0, .ref (ad 6 0)), (2, .ref (ad 4 k)), (3, .int x)] [] h (kQ N h0 adS CS B tb n nk k Z) := by
  obtain ⟨n6, hf, hp8, t_, hnow, n10⟩ := id hr
  refine mm_iload_n (pc := 64) dX6_readKind_64 rfl ?_
  refine mm_sipush (pc := 65) (v := 700) dX6_readKind_65 (by decide) ?_
  refine mm_icmp_ge (pc := 68) (tgt := 89) dX6_readKind_68 (by decide) (fun c68 => ?_) (fun c68 => ?_)
  · refine mm_aload_n (pc := 89) dX6_readKind_89 rfl (by first | trivial | assumption | exact mm_isr_rf _) ?_
    refine mm_iconst (pc := 90) (v := 5) dX6_readKind_90 (by decide) ?_
    refine mm_callV (pc := 91) (As := [_]) (kd := ?kd_91_1) (fs := ?fs_91_1) dX6_readKind_91 vl_X6_31 (tk_dead hr hC) ?hc_91_1 ?hk_91_1 rfl rfl (Nat.le_of_ble_eq_true rfl) ?_; (case hc_91_1 => exact cw_cell (f := 6) hC rfl rfl n6); (case hk_91_1 => rfl)
    rintro _ _ ⟨rfl, v91, rfl⟩
    refine mm_pop2 (pc := 94) dX6_readKind_94 rfl ?_
    refine mm_aload_n (pc := 95) dX6_readKind_95 rfl (by first | trivial | assumption | exact mm_isr_rf _) ?_
    refine mm_aret (pc := 96) dX6_readKind_96 rfl (Or.inl ⟨_, rfl⟩) (by first | trivial | assumption | exact mm_isr_rf _) ?_
    exact ⟨ad, C, rfl, hC, hok, h6, n4, Or.inr ⟨hz.1, p, hr, hz.2, hrm⟩⟩
  · refine mm_aload_n (pc := 71) dX6_readKind_71 rfl (by first | trivial | assumption | exact mm_isr_rf _) ?_
    refine mm_callV (pc := 72) (As := []) (kd := ?kd_72_2) (fs := ?fs_72_2) dX6_readKind_72 vl_X6_75 (bb_dead hr hC) ?hc_72_2 ?hk_72_2 rfl rfl (Nat.le_of_ble_eq_true rfl) ?_; (case hc_72_2 => exact cw_cell (f := 6) hC rfl rfl n6); (case hk_72_2 => rfl)
    rintro _ _ ⟨rfl, rfl⟩
    refine mm_if_eq (pc := 75) (tgt := 89) dX6_readKind_75 (by decide) (fun c75 => ?_) (fun c75 => absurd rfl c75)
    refine mm_aload_n (pc := 89) dX6_readKind_89 rfl (by first | trivial | assumption | exact mm_isr_rf _) ?_
    refine mm_iconst (pc := 90) (v := 5) dX6_readKind_90 (by decide) ?_
    refine mm_callV (pc := 91) (As := [_]) (kd := ?kd_91_3) (fs := ?fs_91_3) dX6_readKind_91 vl_X6_31 (tk_dead hr hC) ?hc_91_3 ?hk_91_3 rfl rfl (Nat.le_of_ble_eq_true rfl) ?_; (case hc_91_3 => exact cw_cell (f := 6) hC rfl rfl n6); (case hk_91_3 => rfl)
    rintro _ _ ⟨rfl, v91, rfl⟩
    refine mm_pop2 (pc := 94) dX6_readKind_94 rfl ?_
    refine mm_aload_n (pc := 95) dX6_readKind_95 rfl (by first | trivial | assumption | exact mm_isr_rf _) ?_
    refine mm_aret (pc := 96) dX6_readKind_96 rfl (Or.inl ⟨_, rfl⟩) (by first | trivial | assumption | exact mm_isr_rf _) ?_
    exact ⟨ad, C, rfl, hC, hok, h6, n4, Or.inr ⟨hz.1, p, hr, hz.2, hrm⟩⟩

theorem rk_d61 {G : mm_G} {L : Nat × Nat} {h0 : mm_H} {tb : Nat → Nat} {n nk d k : Nat} {ad adS : Nat → Nat → Nat} {C CS : cw_C} {B : Nat × Nat} {N : Nat → Nat} {h : mm_H} {A : Nat → Prop} {Z : pr_T} {p : Nat} {v : Int64} (n4 : k < cN C 4) (hN4 : N 4 ≤ k) (hr : rD ad C p) (hz : Z.1 = 0 ∧ Z.2.1.1 24 = nI p) (hrm : rmX B h) (hok : oK N adS CS ad C) (h6 : ad 6 0 = adS 6 0) (hC : cw ad h0 C h) : mm_Run G mX6_readKind A L (d + 18) 61 [(0, .ref (ad 6 0)), (2, .ref (ad 4 k))] [.long v] h (kQ N h0 adS CS B tb n nk k Z) := by
  obtain ⟨n6, hf, hp8, t_, hnow, n10⟩ := id hr
  refine mm_pop2 (pc := 61) dX6_readKind_61 rfl ?_
  refine mm_iconst (pc := 62) (v := 0) dX6_readKind_62 (by decide) ?_
  refine mm_istore_n (pc := 63) dX6_readKind_63 rfl (Nat.le_of_ble_eq_true rfl) ?_
  exact mm_weakK (rk_d64 (x := 0) n4 hN4 hr hz hrm hok h6 hC) (And.intro rfl (And.intro rfl (And.intro rfl trivial)))

theorem rk_d53 {G : mm_G} {L : Nat × Nat} {h0 : mm_H} {tb : Nat → Nat} {n nk d k : Nat} {ad adS : Nat → Nat → Nat} {C CS : cw_C} {B : Nat × Nat} {N : Nat → Nat} {h : mm_H} {A : Nat → Prop} {Z : pr_T} {p : Nat} {v : Int64} (n4 : k < cN C 4) (hN4 : N 4 ≤ k) (hr : rD ad C p) (hz : Z.1 = 0 ∧ Z.2.1.1 24 = nI p) (hrm : rmX B h) (hok : oK N adS CS ad C) (h6 : ad 6 0 = adS 6 0) (hC : cw ad h0 C h) : mm_Run G mX6_readKind A L (d + 18) 53 [(0, .ref (ad 6 0)), (2, .ref (ad 4 k))] [.long v, .ref (ad 4 k)] h (kQ N h0 adS CS B tb n nk k Z) := by
  obtain ⟨n6, hf, hp8, t_, hnow, n10⟩ := id hr
  refine cw_pl (pc := 53) 4 _ 2 hC (rfl) rfl (n4) dX6_readKind_53 (pl_X6_72 _) rfl rfl (fun h53 hC e53 => ?_)
  refine mm_aload_n (pc := 56) dX6_readKind_56 rfl (by first | trivial | assumption | exact mm_isr_rf _) ?_
  refine mm_iconst (pc := 57) (v := 4) dX6_readKind_57 (by decide) ?_
  refine mm_callV (pc := 58) (As := [_]) (kd := ?kd_58_4) (fs := ?fs_58_4) dX6_readKind_58 vl_X6_31 (tk_dead (hr.same (cw_sL_o (by decide)) (cw_sL_o (by decide)) (fun _ _ => rfl)) hC) ?hc_58_4 ?hk_58_4 rfl rfl (Nat.le_of_ble_eq_true rfl) ?_; (case hc_58_4 => exact cw_cell (f := 6) hC rfl rfl (by rw [cw_sL_N]; exact n6)); (case hk_58_4 => rfl)
  rintro _ _ ⟨rfl, v58, rfl⟩
  exact rk_d61 (by rw [cw_sL_N]; exact n4) hN4 (hr.same (cw_sL_o (by decide)) (cw_sL_o (by decide)) (fun _ _ => rfl)) hz (hrm.same e53) (hok.sL hN4) h6 hC

theorem rk_d35 {G : mm_G} {L : Nat × Nat} {h0 : mm_H} {tb : Nat → Nat} {n nk d k : Nat} {ad adS : Nat → Nat → Nat} {C CS : cw_C} {B : Nat × Nat} {N : Nat → Nat} {h : mm_H} {A : Nat → Prop} {Z : pr_T} {p : Nat} {v : Int64} (n4 : k < cN C 4) (hN4 : N 4 ≤ k) (hr : rD ad C p) (hz : Z.1 = 0 ∧ Z.2.1.1 24 = nI p) (hrm : rmX B h) (hok : oK N adS CS ad C) (h6 : ad 6 0 = adS 6 0) (hC : cw ad h0 C h) : mm_Run G mX6_readKind A L (d + 18) 35 [(0, .ref (ad 6 0)), (2, .ref (ad 4 k))] [.long v] h (kQ N h0 adS CS B tb n nk k Z) := by
  obtain ⟨n6, hf, hp8, t_, hnow, n10⟩ := id hr
  refine mm_pop2 (pc := 35) dX6_readKind_35 rfl ?_
  refine mm_aload_n (pc := 36) dX6_readKind_36 rfl (by first | trivial | assumption | exact mm_isr_rf _) ?_
  refine mm_aload_n (pc := 37) dX6_readKind_37 rfl (by first | trivial | assumption | exact mm_isr_rf _) ?_
  refine cw_grS (pc := 38) 6 _ 1 hC (rfl) rfl (n6) dX6_readKind_38 fl_X6_20 rfl rfl rfl (hnow) ?_
  refine cw_gi (pc := 41) 10 t_ 1 hC (rfl) rfl (n10) dX6_readKind_41 fl_X6_47 rfl rfl rfl ?_
  refine cw_pi (pc := 44) 4 _ 3 hC (rfl) rfl (n4) dX6_readKind_44 (pl_X6_69 _) rfl rfl (rfl) (rfl) (fun h44 hC e44 => ?_)
  refine mm_aload_n (pc := 47) dX6_readKind_47 rfl (by first | trivial | assumption | exact mm_isr_rf _) ?_
  refine mm_aload_n (pc := 48) dX6_readKind_48 rfl (by first | trivial | assumption | exact mm_isr_rf _) ?_
  refine mm_iconst (pc := 49) (v := 2) dX6_readKind_49 (by decide) ?_
  refine mm_callV (pc := 50) (As := [_]) (kd := ?kd_50_5) (fs := ?fs_50_5) dX6_readKind_50 vl_X6_31 (tk_dead (hr.same (cw_sI_o (by decide)) (cw_sI_o (by decide)) (fun _ _ => rfl)) hC) ?hc_50_5 ?hk_50_5 rfl rfl (Nat.le_of_ble_eq_true rfl) ?_; (case hc_50_5 => exact cw_cell (f := 6) hC rfl rfl (by rw [cw_sI_N]; exact n6)); (case hk_50_5 => rfl)
  rintro _ _ ⟨rfl, v50, rfl⟩
  exact rk_d53 (by rw [cw_sI_N]; exact n4) hN4 (hr.same (cw_sI_o (by decide)) (cw_sI_o (by decide)) (fun _ _ => rfl)) hz (hrm.same e44) (hok.sI hN4) h6 hC

theorem rk_d29 {G : mm_G} {L : Nat × Nat} {h0 : mm_H} {tb : Nat → Nat} {n nk d k : Nat} {ad adS : Nat → Nat → Nat} {C CS : cw_C} {B : Nat × Nat} {N : Nat → Nat} {h : mm_H} {A : Nat → Prop} {Z : pr_T} {p : Nat}  (n4 : k < cN C 4) (hN4 : N 4 ≤ k) (hr : rD ad C p) (hz : Z.1 = 0 ∧ Z.2.1.1 24 = nI p) (hrm : rmX B h) (hok : oK N adS CS ad C) (h6 : ad 6 0 = adS 6 0) (hC : cw ad h0 C h) : mm_Run G mX6_readKind A L (d + 18) 29 [(0, .ref (ad 6 0)), (2, .ref (ad 4 k))] [] h (kQ N h0 adS CS B tb n nk k Z) := by
  obtain ⟨n6, hf, hp8, t_, hnow, n10⟩ := id hr
  refine mm_aload_n (pc := 29) dX6_readKind_29 rfl (by first | trivial | assumption | exact mm_isr_rf _) ?_
  refine mm_bipush (pc := 30) (v := 26) dX6_readKind_30 (by decide) ?_
  refine mm_callV (pc := 32) (As := [_]) (kd := ?kd_32_6) (fs := ?fs_32_6) dX6_readKind_32 vl_X6_31 (tk_dead hr hC) ?hc_32_6 ?hk_32_6 rfl rfl (Nat.le_of_ble_eq_true rfl) ?_; (case hc_32_6 => exact cw_cell (f := 6) hC rfl rfl n6); (case hk_32_6 => rfl)
  rintro _ _ ⟨rfl, v32, rfl⟩
  exact rk_d35 n4 hN4 hr hz hrm hok h6 hC

theorem rk_d24 {G : mm_G} {L : Nat × Nat} {h0 : mm_H} {tb : Nat → Nat} {n nk d k : Nat} {ad adS : Nat → Nat → Nat} {C CS : cw_C} {B : Nat × Nat} {N : Nat → Nat} {h : mm_H} {A : Nat → Prop} {Z : pr_T} {p : Nat} {v : Int64} {x : Int32} (n4 : k < cN C 4) (hN4 : N 4 ≤ k) (hr : rD ad C p) (hz : Z.1 = 0 ∧ Z.2.1.1 24 = nI p) (hok : oK N adS CS ad C) (h6 : ad 6 0 = adS 6 0) (hC : cw ad h0 C h) (hL1 : h.2.1 + 1 ≤ L.1) (hL2 : h.2.2 + 6 ≤ L.2) (hrx : h.2.1 + 1 ≤ B.1 + 2 ∧ h.2.2 + 6 ≤ B.2 + 18) : mm_Run G mX6_readKind A L (d + 18) 24 [(1, .int x), (0, .ref (ad 6 0))] [.long v, .ref (ad 4 k), .ref (ad 4 k)] h (kQ N h0 adS CS B tb n nk k Z) := by
  obtain ⟨n6, hf, hp8, t_, hnow, n10⟩ := id hr
  refine mm_iload_n (pc := 24) dX6_readKind_24 rfl ?_
  refine mm_callI (pc := 25) (As := [_, _]) dX6_readKind_25 il_X6_66 (x4_init n4 hL1 hL2 hC) rfl rfl (Nat.le_of_ble_eq_true rfl) ?_
  rintro _ h25 ⟨ad3, C3, hC, ha, hki, e25, rfl⟩
  have hok := kIn.oK hok hki ha hN4
  have hr3 := hr.same (ad' := ad3) (C' := C3) (hki.1 6 (by decide) (by decide)) (hki.1 10 (by decide) (by decide)) (fun i hi => ha 10 i hi)
  have m4 : k < cN C3 4 := by rw [hki.2.1]; exact n4
  rw [← ha 6 0 n6, ← ha 4 k n4]
  refine mm_astore_n (pc := 28) dX6_readKind_28 (by first | trivial | assumption | exact mm_isr_rf _) rfl (Nat.le_of_ble_eq_true rfl) ?_
  exact mm_weakK (rk_d29 m4 hN4 hr3 hz (by unfold rmX; rw [e25]; exact hrx) hok ((ha 6 0 n6).trans h6) hC) (And.intro rfl (And.intro rfl trivial))

theorem rk_d6 {G : mm_G} {L : Nat × Nat} {h0 : mm_H} {tb : Nat → Nat} {n nk d k : Nat} {ad adS : Nat → Nat → Nat} {C CS : cw_C} {B : Nat × Nat} {N : Nat → Nat} {h : mm_H} {A : Nat → Prop} {Z : pr_T} {p : Nat} {v : Int64} (hk : cN C 4 = k) (hN4 : N 4 ≤ k) (hr : rD ad C p) (hz : Z.1 = 0 ∧ Z.2.1.1 24 = nI p) (hrm : h.2.1 ≤ B.1 ∧ h.2.2 ≤ B.2) (hB1 : B.1 + 2 ≤ L.1) (hB2 : B.2 + 18 ≤ L.2) (hok : oK N adS CS ad C) (h6 : ad 6 0 = adS 6 0) (hC : cw ad h0 C h) : mm_Run G mX6_readKind A L (d + 18) 6 [(0, .ref (ad 6 0))] [.long v] h (kQ N h0 adS CS B tb n nk k Z) := by
  subst hk
  have hL1 : h.2.1 + 1 ≤ L.1 := by omega
  have hL2 : h.2.2 + 12 ≤ L.2 := by omega
  obtain ⟨n6, hf, hp8, t_, hnow, n10⟩ := id hr
  refine mm_pop2 (pc := 6) dX6_readKind_6 rfl ?_
  refine mm_aload_n (pc := 7) dX6_readKind_7 rfl (by first | trivial | assumption | exact mm_isr_rf _) ?_
  refine cw_grS (pc := 8) 6 _ 1 hC (rfl) rfl (n6) dX6_readKind_8 fl_X6_20 rfl rfl rfl (hnow) ?_
  refine cw_gi (pc := 11) 10 t_ 1 hC (rfl) rfl (n10) dX6_readKind_11 fl_X6_47 rfl rfl rfl ?_
  refine mm_istore_n (pc := 14) dX6_readKind_14 rfl (Nat.le_of_ble_eq_true rfl) ?_
  refine mm_new (pc := 15) dX6_readKind_15 nl_X6_64 (hL1) (hL2) ?_
  have hC := hC.new 4 (by decide) rfl rfl
  have hr1 := hr.same (ad' := cw_ad ad C 4 h.2.1) (C' := cw_new C 4) (cw_ext_o (by decide)) (cw_ext_o (by decide)) (fun i hi => cw_ad_o hi)
  have en : cw_ad ad C 4 h.2.1 4 (cN C 4) = h.2.1 := cw_ad_n
  have e6 : cw_ad ad C 4 h.2.1 6 0 = ad 6 0 := cw_ad_o n6
  have m4 : cN C 4 < cN (cw_new C 4) 4 := by rw [show cN (cw_new C 4) 4 = cN C 4 + 1 from cN_ext]; omega
  rw [← en, ← e6]
  have hok1 : oK N adS CS (cw_ad ad C 4 h.2.1) (cw_new C 4) := hok.ext
  have n6 := hr1.1
  refine mm_dup (pc := 18) dX6_readKind_18 rfl ?_
  refine mm_aload_n (pc := 19) dX6_readKind_19 rfl (by first | trivial | assumption | exact mm_isr_rf _) ?_
  refine mm_iconst (pc := 20) (v := 2) dX6_readKind_20 (by decide) ?_
  refine mm_callV (pc := 21) (As := [_]) (kd := ?kd_21_7) (fs := ?fs_21_7) dX6_readKind_21 vl_X6_31 (tk_dead hr1 hC) ?hc_21_7 ?hk_21_7 rfl rfl (Nat.le_of_ble_eq_true rfl) ?_; (case hc_21_7 => exact cw_cell (f := 6) hC rfl rfl n6); (case hk_21_7 => rfl)
  rintro _ _ ⟨rfl, v21, rfl⟩
  exact mm_weakK (rk_d24 (k := cN C 4) m4 hN4 hr1 hz hok1 (e6.trans h6) hC (show h.2.1 + 1 + 1 ≤ L.1 by omega) (show h.2.2 + 12 + 6 ≤ L.2 by omega) (show h.2.1 + 1 + 1 ≤ B.1 + 2 ∧ h.2.2 + 12 + 6 ≤ B.2 + 18 by omega)) (And.intro rfl (And.intro rfl trivial))

theorem rk_dead {G : mm_G} {L : Nat × Nat} {d : Nat} {h : mm_H} {h0 : mm_H} {tb : Nat → Nat} {n nk k : Nat} {ad : Nat → Nat → Nat} {C : cw_C} {B : Nat × Nat} {N : Nat → Nat} {Z : pr_T} {p : Nat} (hk : cN C 4 = k) (hN4 : N 4 ≤ k) (hNo : ∀ f, N f ≤ cN C f) (hr : rD ad C p) (hz : Z.1 = 0 ∧ Z.2.1.1 24 = nI p) (hrm : h.2.1 ≤ B.1 ∧ h.2.2 ≤ B.2) (hB1 : B.1 + 2 ≤ L.1) (hB2 : B.2 + 18 ≤ L.2) (hC : cw ad h0 C h) : mm_Ok G mX6_readKind L (d + 18) [.ref (ad 6 0)] h (fun r h1 => kQ N h0 ad C B tb n nk k Z r h1) := by
  refine mm_Ok.of [(0, .ref (ad 6 0))] rfl kX6_readKind.2.2.2.2.2 rfl (fun A => ?_)
  have n6 := hr.1
  refine mm_aload_n (pc := 0) dX6_readKind_0 rfl (by first | trivial | assumption | exact mm_isr_rf _) ?_
  refine mm_bipush (pc := 1) (v := 25) dX6_readKind_1 (by decide) ?_
  refine mm_callV (pc := 3) (As := [_]) (kd := ?kd_3_8) (fs := ?fs_3_8) dX6_readKind_3 vl_X6_31 (tk_dead hr hC) ?hc_3_8 ?hk_3_8 rfl rfl (Nat.le_of_ble_eq_true rfl) ?_; (case hc_3_8 => exact cw_cell (f := 6) hC rfl rfl n6); (case hk_3_8 => rfl)
  rintro _ _ ⟨rfl, v3, rfl⟩
  exact rk_d6 hk hN4 hr hz hrm hB1 hB2 (oK.refl hNo) rfl hC

