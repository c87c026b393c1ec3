/-! all that is known of a pack while it is read -/
def zN (M : mw_S) (i : Nat) : Nat := (M.2.2.1 90 i).toNatClampNeg
def zU (M : mw_S) (i : Nat) : Nat := (M.2.2.1 91 i).toNatClampNeg
def zG (M : mw_S) (i : Nat) : Nat := (M.2.2.1 105 i).toNatClampNeg
def zE (M : mw_S) (i : Nat) : Nat := (M.2.2.1 106 i).toNatClampNeg
def zA (M : mw_S) (i : Nat) : Nat := (M.2.2.1 116 i).toNatClampNeg
def yK (M : mw_S) (g : Nat) : Nat := (M.2.2.1 98 g).toNatClampNeg
def yQ (M : mw_S) (g : Nat) : Nat := (M.2.2.1 99 g).toNatClampNeg
def yP (M : mw_S) (g : Nat) : Nat := (M.2.2.1 107 g).toNatClampNeg
def yS (M : mw_S) (g : Nat) : Nat := (M.2.2.1 114 g).toNatClampNeg
def yE (M : mw_S) (g : Nat) : Nat := (M.2.2.1 115 g).toNatClampNeg
def uP (M : mw_S) (y : Nat) : Nat := (M.2.2.1 83 y).toNatClampNeg
def riK (tb : Nat → Nat) (n nk a0 g0 kc : Nat) (M : mw_S) (t : Nat) : Prop := ∀ i, nk ≤ i → i < kc →
  (M.2.2.1 90 i = nI (zN M i) ∧ M.2.2.1 91 i = nI (zU M i) ∧ M.2.2.1 105 i = nI (zG M i)) ∧ (zN M i < zU M i ∧ zU M i < qs tb n t) ∧ (g0 ≤ zG M i ∧ zG M i ≤ kg M ∧ a0 ≤ zA M i ∧ zA M i ≤ ka M) ∧
  M.2.2.1 6 i = oI (kfi (M.2.2.2.1 100) (M.2.2.2.1 103 i) i) ∧ M.2.2.1 5 i = M.1 34 ∧ M.2.2.1 7 i = M.1 19
/-- a body's own cells against its kind's -/
def riX (M : mw_S) (g i : Nat) : Prop := (M.2.2.1 96 g = 0 ∧ M.2.2.1 97 i = nI g ∧ M.2.2.1 9 i = M.2.2.1 112 g ∧ M.2.2.1 10 i = M.2.2.1 113 g ∧ M.2.2.1 11 i = M.2.2.1 108 g ∧ M.2.2.1 12 i = M.2.2.1 109 g) ∨ (M.2.2.1 96 g = 1 ∧ ∃ g', g' < g ∧ M.2.2.1 97 i = nI g')
def riB (tb : Nat → Nat) (n nk a0 g0 kc : Nat) (M : mw_S) (t : Nat) : Prop := ∀ g, g0 ≤ g → g < kg M →
  (M.2.2.1 98 g = nI (yK M g) ∧ M.2.2.1 99 g = nI (yQ M g) ∧ M.2.2.1 107 g = nI (yP M g) ∧ M.2.2.1 114 g = nI (yS M g) ∧ M.2.2.1 115 g = nI (yE M g)) ∧
  (nk ≤ yK M g ∧ yK M g < kc ∧ zG M (yK M g) ≤ g ∧ yQ M g < 6 ∧ yP M g < qs tb n t) ∧ (a0 ≤ yS M g ∧ yS M g ≤ yE M g ∧ yE M g ≤ ka M) ∧
  CV M (yK M g) (yQ M g) 1 (M.2.2.1 108 g) (yS M g) (yE M g) ∧ (M.2.2.1 38 (g - g0) = M.2.2.1 98 g ∧ M.2.2.1 39 (g - g0) = M.2.2.1 99 g ∧ M.2.2.1 40 (g - g0) = M.2.2.1 107 g) ∧
  rm_has M (yQ M g) (yK M g) = true ∧ riX M g (6 * yK M g + yQ M g) ∧ (M.2.2.1 112 g = 0 ∨ M.2.2.1 112 g = 1 ∨ M.2.2.1 112 g = 2) ∧ (M.2.2.1 113 g = 0 ∨ M.2.2.1 113 g = 1)
def riH (nk g0 kc : Nat) (M : mw_S) : Prop := ∀ k q, nk ≤ k → k < kc → q < 6 → rm_has M q k = true → ∃ g, M.2.2.1 97 (6 * k + q) = nI g ∧ g0 ≤ g ∧ g < kg M ∧ yK M g = k ∧ yQ M g = q ∧ M.2.2.1 96 g = 0
def riO (nk a0 g0 kc : Nat) (M : mw_S) : Prop :=
  (∀ i i', nk ≤ i → i < i' → i' < kc → zU M i < zN M i' ∧ zG M i ≤ zG M i' ∧ zA M i ≤ zA M i') ∧
  (∀ g g', g0 ≤ g → g < g' → g' < kg M → yP M g < yP M g' ∧ yE M g ≤ yS M g') ∧
  (∀ i g, nk ≤ i → i < kc → g0 ≤ g → g < kg M → (zG M i ≤ g → zU M i < yP M g ∧ zA M i ≤ yS M g) ∧ (g < zG M i → yP M g < zN M i ∧ yE M g ≤ zA M i)) ∧
  (∀ g y, g0 ≤ g → g < kg M → a0 ≤ y → y < ka M → (yS M g ≤ y → yP M g < uP M y) ∧ (y < yS M g → uP M y < yP M g)) ∧
  (∀ i y, nk ≤ i → i < kc → a0 ≤ y → y < ka M → (zA M i ≤ y → zU M i < uP M y) ∧ (y < zA M i → uP M y < zN M i)) ∧
  ∀ y, a0 ≤ y → y < ka M → ∃ g, g0 ≤ g ∧ g < kg M ∧ yS M g ≤ y ∧ y < yE M g
def riE (nk g0 kf : Nat) (M : mw_S) : Prop := ∀ i, nk ≤ i → i < kf → M.2.2.1 106 i = nI (zE M i) ∧ zG M i ≤ zE M i ∧ zE M i ≤ kg M ∧ ∀ g, g0 ≤ g → g < kg M → (yK M g = i ↔ zG M i ≤ g ∧ g < zE M i)
def riL (g0 kf kc : Nat) (M : mw_S) : Prop := kf < kc → ∀ g, g0 ≤ g → g < kg M → (yK M g = kf ↔ zG M kf ≤ g)
/-- the faults that reading itself tells -/
def PP (nk np g0 kc : Nat) (M : mw_S) (p f : Nat) : Prop := p < 2 ^ 31 ∧
  ((f = 2 ∧ M.1 101 = 1 ∧ ¬ M.2.2.2.1 104 0 = spL [104, 111, 117, 115, 101] ∧ klA (M.2.2.2.1 101) (M.2.2.2.1 104 0) np = none ∧ M.1 100 = nI p) ∨
   (f = 2 ∧ ∃ i, nk ≤ i ∧ i < kc ∧ ¬ kfi (M.2.2.2.1 100) (M.2.2.2.1 100 i) i = none ∧ zN M i = p) ∨
   (f = 2 ∧ ∃ i, nk ≤ i ∧ i < kc ∧ kfi (M.2.2.2.1 100) (M.2.2.2.1 103 i) i = none ∧ zU M i = p) ∨
   (f = 3 ∧ ∃ g, g0 ≤ g ∧ g < kg M ∧ M.2.2.1 96 g = 1 ∧ yP M g = p))
def RI (tb : Nat → Nat) (n nk np a0 g0 kf kc : Nat) (M : mw_S) (t : Nat) : Prop :=
  riK tb n nk a0 g0 kc M t ∧ riB tb n nk a0 g0 kc M t ∧ riH nk g0 kc M ∧ riO nk a0 g0 kc M ∧ riE nk g0 kf M ∧ riL g0 kf kc M ∧ MinF (PP nk np g0 kc M) (fpOf M) ∧ UI tb n 0 0 a0 5000 M t ∧ kg M = g0 + kd_ M
section RIS
variable {tb : Nat → Nat} {n nk np a0 g0 kf kc t : Nat} {M : mw_S}
/-- a body more -/
theorem RI.body {M' : mw_S} {t' th q k : Nat} {r l : Int32} (h_ : RI tb n nk np a0 g0 kf kc M t) (hkc_ : kc = k + 1) (hkf_ : kf = k) (hnk_ : nk ≤ k) (hk50_ : k < 50) (hI_ : pI tb n a0 M t) (hI2_ : pI tb n a0 M' t') (hg_ : gI tb n g0 M t) (hfx_ : bodyFx tb n k M M' t t' th q r l) (hu_ : UI tb n 0 0 a0 5000 M' t') (hlb_ : ∀ y, ka M ≤ y → y < ka M' → qs tb n th < uP M' y) : RI tb n nk np a0 g0 kf kc M' t' := by
  obtain ⟨riK_, riB_, riH_, riO_, riE_, riL_, riF_, riU_, riD_⟩ := h_
  obtain ⟨⟨q6_, cdq_, tth_, tht_, rr_, ll_⟩, kb_, x8_, xn_, ⟨w98_, w99_, w107_, w96_, w114_, w115_, w112_, w113_, w109_⟩, ⟨w38_, w39_, w40_⟩, ⟨ka_, ku_, kg_, kd_e_⟩, cv_, fp_⟩ := hfx_
  have hka_ := hI_.kA_
  have hkb_ := hI2_.kA_
  obtain ⟨gc1_, gc2_, gc3_, gc4_⟩ := hg_.c hI_.n7
  have q1_ := qs_le_of (tb := tb) (n := n) tth_
  have q2_ : qs tb n th < qs tb n t' := Nat.lt_of_lt_of_le (qs_lt (t := th) (by omega)).2.1 (qs_le_of (by omega))
  have q3_ := qs_le (tb := tb) (n := n) t'
  have n7_ := hI_.n7
  -- what is as it was
  have vK_ : ∀ j i, (j < 8 ∨ (84 < j ∧ j < 96) ∨ (99 < j ∧ j < 106) ∨ 115 < j) → M'.2.2.1 j i = M.2.2.1 j i := fun j i hj => kb_.2.2.2 j i (by unfold kbV; omega)
  have vE_ : ∀ i, ¬ i = k → M'.2.2.1 106 i = M.2.2.1 106 i := fun i hi => kb_.2.2.2 106 i (by unfold kbV; omega)
  have vB_ : ∀ j g, (j = 96 ∨ j = 98 ∨ j = 99 ∨ j = 107 ∨ j = 108 ∨ j = 109 ∨ j = 112 ∨ j = 113 ∨ j = 114 ∨ j = 115) → g < kg M → M'.2.2.1 j g = M.2.2.1 j g := fun j g hj hg => kb_.2.2.2 j g (by unfold kbV; omega)
  have vb_ : ∀ j i, (38 ≤ j ∧ j ≤ 40) → i < kd_ M → M'.2.2.1 j i = M.2.2.1 j i := fun j i hj hi => kb_.2.2.2 j i (by unfold kbV; omega)
  have vA_ : ∀ j y, (14 ≤ j ∧ j ≤ 18 ∨ 80 ≤ j ∧ j ≤ 83) → y < ka M → M'.2.2.1 j y = M.2.2.1 j y := fun j y hj hy => kb_.2.2.2 j y (by unfold kbV; omega)
  have sS_ : ∀ j, kbS j → M'.1 j = M.1 j := kb_.1
  have s34_ : M'.1 34 = M.1 34 := sS_ 34 (by unfold kbS kpS; omega)
  have s19_ : M'.1 19 = M.1 19 := sS_ 19 (by unfold kbS kpS; omega)
  have s100_ : M'.1 100 = M.1 100 := sS_ 100 (by unfold kbS kpS; omega)
  have s101_ : M'.1 101 = M.1 101 := sS_ 101 (by unfold kbS kpS; omega)
  have eW_ : M'.2.2.2.1 = M.2.2.2.1 := by rw [kb_.2.2.1]
  have zN_ : ∀ i, zN M' i = zN M i := fun i => by unfold zN; rw [vK_ 90 i (by omega)]
  have zU_ : ∀ i, zU M' i = zU M i := fun i => by unfold zU; rw [vK_ 91 i (by omega)]
  have zG_ : ∀ i, zG M' i = zG M i := fun i => by unfold zG; rw [vK_ 105 i (by omega)]
  have zA_ : ∀ i, zA M' i = zA M i := fun i => by unfold zA; rw [vK_ 116 i (by omega)]
  have zE_ : ∀ i, ¬ i = k → zE M' i = zE M i := fun i hi => by unfold zE; rw [vE_ i hi]
  have yK_ : ∀ g, g < kg M → yK M' g = yK M g := fun g hg => by unfold yK; rw [vB_ 98 g (by omega) hg]
  have yQ_ : ∀ g, g < kg M → yQ M' g = yQ M g := fun g hg => by unfold yQ; rw [vB_ 99 g (by omega) hg]
  have yP_ : ∀ g, g < kg M → yP M' g = yP M g := fun g hg => by unfold yP; rw [vB_ 107 g (by omega) hg]
  have yS_ : ∀ g, g < kg M → yS M' g = yS M g := fun g hg => by unfold yS; rw [vB_ 114 g (by omega) hg]
  have yE_ : ∀ g, g < kg M → yE M' g = yE M g := fun g hg => by unfold yE; rw [vB_ 115 g (by omega) hg]
  have uP_ : ∀ y, y < ka M → uP M' y = uP M y := fun y hy => by unfold uP; rw [vA_ 83 y (by omega) hy]
  have yKn_ : yK M' (kg M) = k := by unfold yK; rw [w98_, nI_clamp (by omega)]
  have yQn_ : yQ M' (kg M) = q := by unfold yQ; rw [w99_, nI_clamp (by omega)]
  have yPn_ : yP M' (kg M) = qs tb n th := by unfold yP; rw [w107_, nI_clamp (by omega)]
  have ySn_ : yS M' (kg M) = ka M := by unfold yS; rw [w114_, nI_clamp (by omega)]
  have yEn_ : yE M' (kg M) = ka M' := by unfold yE; rw [w115_, nI_clamp (by omega)]
  -- a hook that was there
  have has_ : ∀ q' k', rm_has M q' k' = true → rm_has M' q' k' = true ∧ (∀ j, (8 ≤ j ∧ j ≤ 12 ∨ j = 97) → q' < 6 → M'.2.2.1 j (6 * k' + q') = M.2.2.1 j (6 * k' + q')) := by
    intro q' k' hh
    have e_ : ∀ j, (8 ≤ j ∧ j ≤ 12 ∨ j = 97) → q' < 6 → M'.2.2.1 j (6 * k' + q') = M.2.2.1 j (6 * k' + q') := by
      intro j hj hq'
      refine x8_ j _ hj (fun z => ?_)
      have e1 : k' = k := by omega
      have e2 : q' = q := by omega
      rw [e1, e2, z.2] at hh
      cases hh
    refine ⟨?_, e_⟩
    by_cases h6 : q' < 6
    · unfold rm_has at hh ⊢
      rw [e_ 8 (by omega) h6]
      exact hh
    · -- beyond the hooks nothing is looked at
      unfold rm_has at hh ⊢
      by_cases z : 6 * k' + q' = 6 * k + q ∧ rm_has M q k = false
      · rw [z.1, (xn_ z.2).1]; rfl
      · rw [x8_ 8 _ (by omega) z]; exact hh
  have hnew_ : rm_has M' q k = true := by
    cases hh : rm_has M q k with
    | true => exact (has_ q k hh).1
    | false => unfold rm_has; rw [(xn_ hh).1]; rfl
  refine ⟨?_, ?_, ?_, ?_, ?_, ?_, ?_, hu_, by omega⟩
  · intro i h1_ h2_
    obtain ⟨⟨a1_, a2_, a3_⟩, ⟨b1_, b2_⟩, ⟨c1_, c2_, c3_, c4_⟩, d1_, d2_, d3_⟩ := riK_ i h1_ h2_
    rw [zN_, zU_, zG_, zA_, vK_ 90 i (by omega), vK_ 91 i (by omega), vK_ 105 i (by omega), vK_ 6 i (by omega), vK_ 5 i (by omega), vK_ 7 i (by omega), s34_, s19_, eW_]
    exact ⟨⟨a1_, a2_, a3_⟩, ⟨b1_, by omega⟩, ⟨c1_, by omega, c3_, by omega⟩, d1_, d2_, d3_⟩
  · intro g h1_ h2_
    by_cases e_ : g = kg M
    · subst e_
      obtain ⟨-, -, ⟨z1_, z2_, z3_, z4_⟩, -⟩ := riK_ k hnk_ (by omega)
      rw [yKn_, yQn_, yPn_, ySn_, yEn_, zG_]
      refine ⟨⟨w98_, w99_, w107_, w114_, w115_⟩, ⟨hnk_, by omega, by omega, q6_, q2_⟩, ⟨by omega, ka_, Nat.le_refl _⟩, cv_, ?_, hnew_, ?_, ?_, ?_⟩
      · rw [show kg M - g0 = kd_ M by omega, w38_, w39_, w40_]
        exact ⟨w98_.symm, w99_.symm, w107_.symm⟩
      · cases hh : rm_has M q k with
        | false =>
          obtain ⟨e8_, e9_, e10_, e11_, e12_, e97_⟩ := xn_ hh
          refine Or.inl ⟨by rw [w96_, hh]; rfl, e97_, by rw [e9_, w112_], by rw [e10_, w113_], e11_, e12_⟩
        | true =>
          obtain ⟨g', c1_, c2_, c3_, -⟩ := riH_ k q hnk_ (by omega) q6_ hh
          exact Or.inr ⟨by rw [w96_, hh]; rfl, g', c3_, by rw [(has_ q k hh).2 97 (by omega) q6_]; exact c1_⟩
      · rw [w112_]; exact rr_
      · rw [w113_]; exact ll_
    · have hlt_ : g < kg M := by omega
      obtain ⟨⟨a1_, a2_, a3_, a4_, a5_⟩, ⟨b1_, b2_, b3_, b4_, b5_⟩, ⟨c1_, c2_, c3_⟩, d_, ⟨f1_, f2_, f3_⟩, hh_, x_, r_, l_⟩ := riB_ g h1_ hlt_
      rw [yK_ g hlt_, yQ_ g hlt_, yP_ g hlt_, yS_ g hlt_, yE_ g hlt_, zG_, vB_ 98 g (by omega) hlt_, vB_ 99 g (by omega) hlt_, vB_ 107 g (by omega) hlt_, vB_ 114 g (by omega) hlt_, vB_ 115 g (by omega) hlt_, vB_ 108 g (by omega) hlt_, vB_ 112 g (by omega) hlt_, vB_ 113 g (by omega) hlt_, vb_ 38 _ (by omega) (by omega), vb_ 39 _ (by omega) (by omega), vb_ 40 _ (by omega) (by omega)]
      refine ⟨⟨a1_, a2_, a3_, a4_, a5_⟩, ⟨b1_, b2_, b3_, b4_, by omega⟩, ⟨c1_, c2_, by omega⟩, d_.same (fun j i e1 e2 e3 => vA_ j i e3 (by omega)), ⟨f1_, f2_, f3_⟩, (has_ _ _ hh_).1, ?_, r_, l_⟩
      have e8_ := (has_ _ _ hh_).2
      unfold riX
      rw [vB_ 96 g (by omega) hlt_, vB_ 112 g (by omega) hlt_, vB_ 113 g (by omega) hlt_, vB_ 108 g (by omega) hlt_, vB_ 109 g (by omega) hlt_, e8_ 97 (by omega) b4_, e8_ 9 (by omega) b4_, e8_ 10 (by omega) b4_, e8_ 11 (by omega) b4_, e8_ 12 (by omega) b4_]
      exact x_
  · intro k' q' h1_ h2_ h3_ h4_
    by_cases e_ : k' = k ∧ q' = q ∧ rm_has M q k = false
    · obtain ⟨rfl, rfl, e3_⟩ := e_
      exact ⟨kg M, (xn_ e3_).2.2.2.2.2, by omega, by omega, yKn_, yQn_, by rw [w96_, e3_]; rfl⟩
    · have hh_ : rm_has M q' k' = true := by
        unfold rm_has at h4_ ⊢
        rw [x8_ 8 _ (by omega) (fun z => e_ (by
          have e1 : k' = k := by omega
          have e2 : q' = q := by omega
          exact ⟨e1, e2, z.2⟩))] at h4_
        exact h4_
      obtain ⟨g, c1_, c2_, c3_, c4_, c5_, c6_⟩ := riH_ k' q' h1_ h2_ h3_ hh_
      exact ⟨g, by rw [(has_ q' k' hh_).2 97 (by omega) h3_]; exact c1_, c2_, by omega, by rw [yK_ g c3_]; exact c4_, by rw [yQ_ g c3_]; exact c5_, by rw [vB_ 96 g (by omega) c3_]; exact c6_⟩
  · obtain ⟨o1_, o2_, o3_, o4_, o5_, o6_⟩ := riO_
    refine ⟨?_, ?_, ?_, ?_, ?_, ?_⟩
    · intro i i' h1_ h2_ h3_
      rw [zU_, zN_, zG_, zG_, zA_, zA_]
      exact o1_ i i' h1_ h2_ h3_
    · intro g g' h1_ h2_ h3_
      by_cases e_ : g' = kg M
      · subst e_
        have z_ := riB_ g h1_ h2_
        rw [yP_ g h2_, yE_ g h2_, yPn_, ySn_]
        exact ⟨by have := z_.2.1.2.2.2.2; omega, by have := z_.2.2.1.2.2; omega⟩
      · rw [yP_ g (by omega), yE_ g (by omega), yP_ g' (by omega), yS_ g' (by omega)]
        exact o2_ g g' h1_ h2_ (by omega)
    · intro i g h1_ h2_ h3_ h4_
      rw [zG_, zU_, zN_, zA_]
      by_cases e_ : g = kg M
      · subst e_
        have z_ := riK_ i h1_ h2_
        rw [yPn_, ySn_, yEn_]
        exact ⟨fun _ => ⟨by have := z_.2.1.2; omega, z_.2.2.1.2.2.2⟩, fun y => by have := z_.2.2.1.2.1; omega⟩
      · rw [yP_ g (by omega), yS_ g (by omega), yE_ g (by omega)]
        exact o3_ i g h1_ h2_ h3_ (by omega)
    · intro g y h1_ h2_ h3_ h4_
      by_cases e_ : g = kg M
      · subst e_
        rw [yPn_, ySn_]
        refine ⟨fun z_ => hlb_ y z_ h4_, fun z_ => ?_⟩
        rw [uP_ y z_]
        obtain ⟨p_, p1_, p2_⟩ := riU_.2.1 y h3_ z_
        unfold uP
        rw [p1_, nI_clamp (by have := qs_le (tb := tb) (n := n) t; omega)]
        omega
      · have hlt_ : g < kg M := by omega
        rw [yP_ g hlt_, yS_ g hlt_]
        by_cases hy_ : y < ka M
        · rw [uP_ y hy_]; exact o4_ g y h1_ hlt_ h3_ hy_
        · have z_ := riB_ g h1_ hlt_
          exact ⟨fun _ => by have := hlb_ y (by omega) h4_; have := z_.2.1.2.2.2.2; omega, fun w_ => by have := z_.2.2.1.2.1; have := z_.2.2.1.2.2; omega⟩
    · intro i y h1_ h2_ h3_ h4_
      rw [zA_, zU_, zN_]
      by_cases hy_ : y < ka M
      · rw [uP_ y hy_]; exact o5_ i y h1_ h2_ h3_ hy_
      · have z_ := riK_ i h1_ h2_
        exact ⟨fun _ => by have := hlb_ y (by omega) h4_; have := z_.2.1.2; omega, fun w_ => by have := z_.2.2.1.2.2.2; omega⟩
    · intro y h1_ h2_
      by_cases hy_ : y < ka M
      · obtain ⟨g, g1_, g2_, g3_, g4_⟩ := o6_ y h1_ hy_
        exact ⟨g, g1_, by omega, by rw [yS_ g g2_]; exact g3_, by rw [yE_ g g2_]; exact g4_⟩
      · exact ⟨kg M, by omega, by omega, by rw [ySn_]; omega, by rw [yEn_]; exact h2_⟩
  · intro i h1_ h2_
    obtain ⟨a1_, a2_, a3_, a4_⟩ := riE_ i h1_ h2_
    rw [zE_ i (by omega), zG_, vE_ i (by omega)]
    refine ⟨a1_, a2_, by omega, fun g g1_ g2_ => ?_⟩
    by_cases e_ : g = kg M
    · subst e_
      rw [yKn_]
      exact ⟨fun z => by omega, fun z => by omega⟩
    · rw [yK_ g (by omega)]; exact a4_ g g1_ (by omega)
  · intro hlt_ g g1_ g2_
    rw [zG_]
    by_cases e_ : g = kg M
    · subst e_
      obtain ⟨-, -, ⟨z1_, z2_, z3_, z4_⟩, -⟩ := riK_ k hnk_ (by omega)
      rw [yKn_]
      exact ⟨fun _ => by rw [hkf_]; exact z2_, fun _ => hkf_.symm⟩
    · rw [yK_ g (by omega)]; exact riL_ hlt_ g g1_ (by omega)
  · rw [fp_]
    have base_ : ∀ p f, PP nk np g0 kc M' p f ↔ PP nk np g0 kc M p f ∨ (rm_has M q k = true ∧ p = qs tb n th ∧ f = 3) := by
      intro p f
      unfold PP
      rw [s100_, s101_, eW_]
      constructor
      · rintro ⟨hp_, h | h | h | ⟨rfl, g, g1_, g2_, g3_, g4_⟩⟩
        · exact Or.inl ⟨hp_, Or.inl h⟩
        · obtain ⟨h0_, i, i1_, i2_, i3_, i4_⟩ := h
          exact Or.inl ⟨hp_, Or.inr (Or.inl ⟨h0_, i, i1_, i2_, i3_, by rw [zN_] at i4_; exact i4_⟩)⟩
        · obtain ⟨h0_, i, i1_, i2_, i3_, i4_⟩ := h
          exact Or.inl ⟨hp_, Or.inr (Or.inr (Or.inl ⟨h0_, i, i1_, i2_, i3_, by rw [zU_] at i4_; exact i4_⟩))⟩
        · by_cases e_ : g = kg M
          · subst e_
            rw [w96_] at g3_
            rw [yPn_] at g4_
            refine Or.inr ⟨?_, g4_.symm, rfl⟩
            cases hh : rm_has M q k with
            | true => rfl
            | false => rw [hh] at g3_; exact absurd g3_ (by decide)
          · refine Or.inl ⟨hp_, Or.inr (Or.inr (Or.inr ⟨rfl, g, g1_, by omega, ?_, ?_⟩))⟩
            · rw [vB_ 96 g (by omega) (by omega)] at g3_; exact g3_
            · rw [yP_ g (by omega)] at g4_; exact g4_
      · rintro (⟨hp_, h | h | h | ⟨rfl, g, g1_, g2_, g3_, g4_⟩⟩ | ⟨h1_, rfl, rfl⟩)
        · exact ⟨hp_, Or.inl h⟩
        · obtain ⟨h0_, i, i1_, i2_, i3_, i4_⟩ := h
          exact ⟨hp_, Or.inr (Or.inl ⟨h0_, i, i1_, i2_, i3_, by rw [zN_]; exact i4_⟩)⟩
        · obtain ⟨h0_, i, i1_, i2_, i3_, i4_⟩ := h
          exact ⟨hp_, Or.inr (Or.inr (Or.inl ⟨h0_, i, i1_, i2_, i3_, by rw [zU_]; exact i4_⟩))⟩
        · exact ⟨hp_, Or.inr (Or.inr (Or.inr ⟨rfl, g, g1_, by omega, by rw [vB_ 96 g (by omega) g2_]; exact g3_, by rw [yP_ g g2_]; exact g4_⟩))⟩
        · exact ⟨by omega, Or.inr (Or.inr (Or.inr ⟨rfl, kg M, by omega, by omega, by rw [w96_, h1_]; rfl, yPn_⟩))⟩
    by_cases hh_ : rm_has M q k = true
    · rw [if_pos hh_]
      exact riF_.add (f := 3) (p := qs tb n th) (by omega) (by omega) (fun p f => (base_ p f).trans ⟨fun z => z.imp id (fun w => w.2), fun z => z.imp id (fun w => ⟨hh_, w⟩)⟩)
    · rw [if_neg hh_]
      exact riF_.ext (fun p f => ⟨fun z => (base_ p f).mpr (Or.inl z), fun z => ((base_ p f).mp z).resolve_right (fun w => hh_ w.1)⟩)
end RIS
