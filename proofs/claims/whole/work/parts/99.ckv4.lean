/-! the class's first fault is the least -/
section CFS
variable {tb : Nat → Nat} {n nk np a0 g0 kc t p0 : Nat} {M : mw_S} {ab : Nat → Option Nat}
theorem QJ.c (hb10 : ∀ i, M.2.2.1 10 i = 0 ∨ M.2.2.1 10 i = 1) {k q p j p' f' : Nat} (h : QJ M ab k q p j p' f') : p' = p ∧ ((f' = 5 ∧ c5 M ab k q j) ∨ (f' = 4 ∧ c4 M ab k q j)) := by
  obtain ⟨a, b, c, d⟩ := h
  have hh : rm_has M q j = true := by
    obtain ⟨x, e⟩ := (ovB_iff.mp c).edge
    exact (Bool.and_eq_true_iff.mp e).1
  refine ⟨a, ?_⟩
  rcases d with ⟨d1, d2⟩ | ⟨d1, d2⟩
  · exact Or.inl ⟨d1, hh, c, (hb10 _).resolve_left d2⟩
  · exact Or.inr ⟨d1, hh, c, Int32.not_le.mp d2⟩
/-- the places of a body's faults -/
theorem FG.pl (hR : RI tb n nk np a0 g0 kc kc M t) {g p f : Nat} (h1 : g0 ≤ g) (h2 : g < kg M) (h : FG M ab g p f) : yP M g ≤ p ∧ ∀ g', g < g' → g' < kg M → p < yP M g' := by
  obtain ⟨rK, rB, rH, rO, rE, rL, rF, rU, rD⟩ := hR
  have r := rB g h1 h2
  have key : (p = yP M g) ∨ ∃ y, yS M g ≤ y ∧ y < yE M g ∧ p = uP M y := by
    rcases h with ⟨-, -, c⟩ | ⟨j, -, c⟩ | ⟨y, a, b, c, -⟩
    · exact Or.inl c
    · exact Or.inl c.1
    · exact Or.inr ⟨y, a, b, c⟩
  rcases key with c | ⟨y, a, b, c⟩
  · exact ⟨by omega, fun g' g1 g2 => by rw [c]; exact (rO.2.1 g g' h1 g1 g2).1⟩
  · have q := rO.2.2.2.1 g y h1 h2 (by omega) (by omega)
    refine ⟨by have := q.1 a; omega, fun g' g1 g2 => ?_⟩
    have e := (rO.2.1 g g' h1 g1 g2).2
    have q2 := rO.2.2.2.1 g' y (by omega) g2 (by omega) (by omega)
    rw [c]; exact q2.2 (by omega)
theorem FK.pl (hR : RI tb n nk np a0 g0 kc kc M t) (hZ : ZL p0 nk kc M) {k p f : Nat} (k1 : nk ≤ k) (k2 : k < kc) (h : FK M ab g0 k p f) : zN M k ≤ p ∧ ∀ i, k < i → i < kc → p < zN M i := by
  have hR_ := hR
  obtain ⟨rK, rB, rH, rO, rE, rL, rF, rU, rD⟩ := hR
  have rk := rK k k1 k2
  rcases h with ⟨-, -, c⟩ | ⟨-, -, c⟩ | ⟨g, h1, h2, h3, h⟩
  · exact ⟨by omega, fun i i1 i2 => by have := (rO.1 k i k1 i1 i2).1; omega⟩
  · exact ⟨by omega, fun i i1 i2 => by have := (rO.1 k i k1 i1 i2).1; omega⟩
  · have pl := h.pl hR_ h1 h2
    have gz := ((rE k k1 k2).2.2.2 g h1 h2).mp h3
    have q := (rO.2.2.1 k g k1 k2 h1 h2).1 gz.1
    refine ⟨by omega, fun i i1 i2 => ?_⟩
    have zz := hZ.2.1 k i k1 i1 i2
    have q2 := (rO.2.2.1 i g (by omega) i2 h1 h2).2 (by omega)
    rcases h with ⟨-, -, c⟩ | ⟨j, -, c⟩ | ⟨y, a, b, c, -⟩
    · omega
    · have := c.1; omega
    · have r := rB g h1 h2
      have := (rO.2.2.2.2.1 i y (by omega) i2 (by omega) (by omega)).2 (by omega)
      omega
theorem gC.no (hb10 : ∀ i, M.2.2.1 10 i = 0 ∨ M.2.2.1 10 i = 1) {k g p f : Nat} (hk : yK M g = k) (h : gC M ab k g) : ¬ FG M ab g p f := by
  subst hk
  obtain ⟨a, b⟩ := h
  have hc : M.2.2.1 96 g = 0 ∧ ¬ exA ab (yK M g) (c5 M ab (yK M g) (yQ M g)) ∧ ¬ exA ab (yK M g) (c4 M ab (yK M g) (yQ M g)) := by
    rcases a with ⟨-, z⟩ | ⟨-, -, z⟩ | ⟨-, -, -, z⟩ | ⟨z1, z2, z3, -⟩
    · omega
    · omega
    · omega
    · exact ⟨z1, z2, z3⟩
  rintro (⟨-, z, -⟩ | ⟨j, z1, z2⟩ | ⟨y, y1, y2, -, z1, z2⟩)
  · rw [hc.1] at z; exact absurd z (by decide)
  · rcases (z2.c hb10).2 with ⟨-, w⟩ | ⟨-, w⟩
    · exact hc.2.1 ⟨j, z1, w⟩
    · exact hc.2.2 ⟨j, z1, w⟩
  · exact z2 (by rw [z1]; exact b y y1 y2)
theorem kCl.no (hb10 : ∀ i, M.2.2.1 10 i = 0 ∨ M.2.2.1 10 i = 1) (hR : RI tb n nk np a0 g0 kc kc M t) {k p f : Nat} (k1 : nk ≤ k) (k2 : k < kc) (h : kCl M ab k) : ¬ FK M ab g0 k p f := by
  obtain ⟨a, b, c⟩ := h
  rintro (⟨-, z, -⟩ | ⟨-, z, -⟩ | ⟨g, h1, h2, h3, z⟩)
  · exact z a
  · exact b z
  · have gz := ((hR.2.2.2.2.1 k k1 k2).2.2.2 g h1 h2).mp h3
    exact (c g gz.1 gz.2).no hb10 h3 z
/-- a fault of a kind that comes first is the least of all -/
theorem cls_min (hR : RI tb n nk np a0 g0 kc kc M t) (hI : pI tb n a0 M t) (hk : kc ≤ 50) (hZ : ZL p0 nk kc M) (hab : ∀ i, nk ≤ i → i < kc → ab i = kfi (M.2.2.2.1 100) (M.2.2.2.1 103 i) i) (hb10 : ∀ i, M.2.2.1 10 i = 0 ∨ M.2.2.1 10 i = 1) (hnw : ∀ p f, ¬ FW M np p f) {k p f : Nat} (k1 : nk ≤ k) (k2 : k < kc) (hcl : ∀ k', nk ≤ k' → k' < k → kCl M ab k') (hf : 1 ≤ f ∧ f ≤ 7) (hF : FK M ab g0 k p f) (hmin : ∀ p' f', FK M ab g0 k p' f' → p < p' ∨ (p = p' ∧ rkN f ≤ rkN f')) : MinF (FF M ab nk np g0 a0 kc) (nI f, nI p) := by
  have hn7 := hI.n7
  have hqn := qs_le (tb := tb) (n := n) t
  have hFF : FF M ab nk np g0 a0 kc p f := (FF_iff hR hI hk hab).mpr (Or.inr ⟨k, k1, k2, hF⟩)
  have hp : p < 2 ^ 31 := by
    have rK := hR.1
    have rB := hR.2.1
    have rk := rK k k1 k2
    rcases hF with ⟨-, -, c⟩ | ⟨-, -, c⟩ | ⟨g, h1, h2, h3, h⟩
    · omega
    · omega
    · have r := rB g h1 h2
      rcases h with ⟨-, -, c⟩ | ⟨j, -, c⟩ | ⟨y, a, b, c, -⟩
      · omega
      · have := c.1; omega
      · obtain ⟨q, q1, q2⟩ := hR.2.2.2.2.2.2.2.1.2.1 y (by omega) (by omega)
        rw [c]; unfold uP; rw [q1, nI_clamp (by omega)]; omega
  refine Or.inr ⟨p, f, rfl, hf.1, hf.2, hp, hFF, fun p' f' h' => ?_⟩
  rcases (FF_iff hR hI hk hab).mp h' with ⟨-, z⟩ | ⟨i, i1, i2, z⟩
  · exact absurd z (hnw p' f')
  · rcases Nat.lt_trichotomy i k with w | w | w
    · exact absurd z ((hcl i i1 w).no hb10 hR i1 i2)
    · rw [w] at z; exact hmin p' f' z
    · have a := (hF.pl hR hZ k1 k2).2 i w i2
      have b := (z.pl hR hZ i1 i2).1
      exact Or.inl (by omega)
theorem cls_FF (hR : RI tb n nk np a0 g0 kc kc M t) (hI : pI tb n a0 M t) (hk : kc ≤ 50) (hZ : ZL p0 nk kc M) (hab : ∀ i, nk ≤ i → i < kc → ab i = kfi (M.2.2.2.1 100) (M.2.2.2.1 103 i) i) (hb10 : ∀ i, M.2.2.1 10 i = 0 ∨ M.2.2.1 10 i = 1) (hnw : ∀ p f, ¬ FW M np p f) {x p : Int32} (h : ksF M ab nk kc x p) : MinF (FF M ab nk np g0 a0 kc) (x, p) := by
  have hR_ := hR
  have hn7 := hI.n7
  have hqn := qs_le (tb := tb) (n := n) t
  obtain ⟨rK, rB, rH, rO, rE, rL, rF, rU, rD⟩ := hR
  rcases h with ⟨h1, h2⟩ | ⟨k, k1, k2, hcl, hF, hx⟩
  · refine Or.inl ⟨h1, fun p f z => ?_⟩
    rcases (FF_iff hR_ hI hk hab).mp z with ⟨-, w⟩ | ⟨i, i1, i2, w⟩
    · exact hnw p f w
    · exact (h2 i i1 i2).no hb10 hR_ i1 i2 w
  · have rk := rK k k1 k2
    rcases hF with ⟨a, rfl, rfl⟩ | ⟨a, b, rfl, rfl⟩ | ⟨a, b, hb⟩
    · rw [rk.1.1]
      refine cls_min hR_ hI hk hZ hab hb10 hnw (f := 2) k1 k2 hcl (by decide) (Or.inl ⟨rfl, a, rfl⟩) (fun p' f' z => ?_)
      rcases z with ⟨c, -, d⟩ | ⟨c, -, d⟩ | ⟨g, h1, h2, h3, z⟩
      · exact Or.inr ⟨d.symm, by rw [c]; exact Nat.le_refl _⟩
      · exact Or.inl (by omega)
      · have gz := ((rE k k1 k2).2.2.2 g h1 h2).mp h3
        have q := (rO.2.2.1 k g k1 k2 h1 h2).1 gz.1
        have := (z.pl hR_ h1 h2).1
        exact Or.inl (by omega)
    · rw [rk.1.2.1]
      refine cls_min hR_ hI hk hZ hab hb10 hnw (f := 2) k1 k2 hcl (by decide) (Or.inr (Or.inl ⟨rfl, b, rfl⟩)) (fun p' f' z => ?_)
      rcases z with ⟨-, c, -⟩ | ⟨c, -, d⟩ | ⟨g, h1, h2, h3, z⟩
      · exact absurd a c
      · exact Or.inr ⟨d.symm, by rw [c]; exact Nat.le_refl _⟩
      · have gz := ((rE k k1 k2).2.2.2 g h1 h2).mp h3
        have q := (rO.2.2.1 k g k1 k2 h1 h2).1 gz.1
        have := (z.pl hR_ h1 h2).1
        exact Or.inl (by omega)
    · rcases hb with ⟨z, -⟩ | ⟨g, gz1, gz2, hgc, hG, -⟩
      · exact absurd z hx
      · have hzE := (rE k k1 k2).2.2.1
        have h1 : g0 ≤ g := by have := rk.2.2.1.1; omega
        have h2 : g < kg M := by omega
        have h3 : yK M g = k := ((rE k k1 k2).2.2.2 g h1 h2).mpr ⟨gz1, gz2⟩
        have r := rB g h1 h2
        -- a fault of g that is the least of g's is the least of the kind's
        have key : ∀ (p f : Nat), 1 ≤ f ∧ f ≤ 7 → FG M ab g p f → (∀ p' f', FG M ab g p' f' → p < p' ∨ (p = p' ∧ rkN f ≤ rkN f')) → MinF (FF M ab nk np g0 a0 kc) (nI f, nI p) := by
          intro p f hf hfg hm
          refine cls_min hR_ hI hk hZ hab hb10 hnw k1 k2 hcl hf (Or.inr (Or.inr ⟨g, h1, h2, h3, hfg⟩)) (fun p' f' z => ?_)
          rcases z with ⟨-, c, -⟩ | ⟨-, c, -⟩ | ⟨g', i1, i2, i3, z⟩
          · exact absurd a c
          · exact absurd c b
          · have gz' := ((rE k k1 k2).2.2.2 g' i1 i2).mp i3
            rcases Nat.lt_trichotomy g' g with w | w | w
            · exact absurd z ((hgc g' gz'.1 w).no hb10 i3)
            · rw [w] at z; exact hm p' f' z
            · have e1 := (hfg.pl hR_ h1 h2).2 g' w i2
              have e2 := (z.pl hR_ i1 i2).1
              exact Or.inl (by omega)
        have apl : ∀ y, yS M g ≤ y → y < yE M g → yP M g < uP M y := fun y y1 y2 => (rO.2.2.2.1 g y h1 h2 (by omega) (by omega)).1 y1
        subst h3
        rcases hG with ⟨f, hc, hf0, rfl, rfl⟩ | ⟨hc0, hA⟩
        · rw [r.1.2.2.1]
          have act : ∀ p' f', (∃ y, yS M g ≤ y ∧ y < yE M g ∧ p' = uP M y ∧ f' = cA M ab (yK M g) (yQ M g) y ∧ ¬ f' = 0) → yP M g < p' := fun p' f' ⟨y, y1, y2, y3, _⟩ => by rw [y3]; exact apl y y1 y2
          rcases hc with ⟨c1, rfl⟩ | ⟨c1, ⟨j, j1, j2⟩, rfl⟩ | ⟨c1, c2, ⟨j, j1, j2⟩, rfl⟩ | ⟨-, -, -, rfl⟩
          · refine key _ 3 (by decide) (Or.inl ⟨rfl, c1, rfl⟩) (fun p' f' z => ?_)
            rcases z with ⟨w1, -, w2⟩ | ⟨j, -, w⟩ | w
            · exact Or.inr ⟨w2.symm, by rw [w1]; exact Nat.le_refl _⟩
            · refine Or.inr ⟨w.1.symm, ?_⟩
              rcases w.2.2.2 with ⟨e, -⟩ | ⟨e, -⟩ <;> rw [e] <;> decide
            · exact Or.inl (act p' f' w)
          · refine key _ 5 (by decide) (Or.inr (Or.inl ⟨j, j1, rfl, r.2.2.2.2.2.1, j2.2.1, Or.inl ⟨rfl, by rw [j2.2.2]; decide⟩⟩)) (fun p' f' z => ?_)
            rcases z with ⟨-, w1, -⟩ | ⟨j, -, w⟩ | w
            · rw [c1] at w1; exact absurd w1 (by decide)
            · refine Or.inr ⟨w.1.symm, ?_⟩
              rcases w.2.2.2 with ⟨e, -⟩ | ⟨e, -⟩ <;> rw [e] <;> decide
            · exact Or.inl (act p' f' w)
          · refine key _ 4 (by decide) (Or.inr (Or.inl ⟨j, j1, rfl, r.2.2.2.2.2.1, j2.2.1, Or.inr ⟨rfl, Int32.not_le.mpr j2.2.2⟩⟩)) (fun p' f' z => ?_)
            rcases z with ⟨-, w1, -⟩ | ⟨j', j1', w⟩ | w
            · rw [c1] at w1; exact absurd w1 (by decide)
            · refine Or.inr ⟨w.1.symm, ?_⟩
              rcases (w.c hb10).2 with ⟨e, w2⟩ | ⟨e, -⟩
              · exact absurd ⟨j', j1', w2⟩ c2
              · rw [e]; exact Nat.le_refl _
            · exact Or.inl (act p' f' w)
          · exact absurd rfl hf0
        · rcases hA with ⟨z, -⟩ | ⟨y, y1, y2, y3, y4, rfl, rfl⟩
          · exact absurd z hx
          · obtain ⟨q, q1, q2⟩ := rU.2.1 y (by omega) (by omega)
            rw [show M.2.2.1 83 y = nI (uP M y) by unfold uP; rw [q1, nI_clamp (by omega)]]
            have hcl0 : ∀ p' f', ¬ ((f' = 3 ∧ M.2.2.1 96 g = 1 ∧ p' = yP M g) ∨ ∃ j, An ab (yK M g) j ∧ QJ M ab (yK M g) (yQ M g) (yP M g) j p' f') := by
              intro p' f' z
              have hc : M.2.2.1 96 g = 0 ∧ ¬ exA ab (yK M g) (c5 M ab (yK M g) (yQ M g)) ∧ ¬ exA ab (yK M g) (c4 M ab (yK M g) (yQ M g)) := by
                rcases hc0 with ⟨-, z⟩ | ⟨-, -, z⟩ | ⟨-, -, -, z⟩ | ⟨z1, z2, z3, -⟩
                · omega
                · omega
                · omega
                · exact ⟨z1, z2, z3⟩
              rcases z with ⟨-, z, -⟩ | ⟨j, z1, z2⟩
              · rw [hc.1] at z; exact absurd z (by decide)
              · rcases (z2.c hb10).2 with ⟨-, w⟩ | ⟨-, w⟩
                · exact hc.2.1 ⟨j, z1, w⟩
                · exact hc.2.2 ⟨j, z1, w⟩
            refine key _ (cA M ab (yK M g) (yQ M g) y) ⟨by omega, cA_le⟩ (Or.inr (Or.inr ⟨y, y1, y2, rfl, rfl, y4⟩)) (fun p' f' z => ?_)
            rcases z with w | w | ⟨y', z1, z2, z3, z4, z5⟩
            · exact absurd (Or.inl w) (hcl0 p' f')
            · exact absurd (Or.inr w) (hcl0 p' f')
            · rcases Nat.lt_trichotomy y' y with w | w | w
              · exact absurd (z4.trans (y3 y' z1 w)) z5
              · rw [w] at z3 z4; exact Or.inr ⟨z3.symm, by rw [z4]; exact Nat.le_refl _⟩
              · have := rU.2.2.1 y y' (by omega) w (by omega)
                exact Or.inl (by rw [z3]; exact this)
end CFS
