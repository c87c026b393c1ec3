/-! all faults of a pack -/
def aK (M : mw_S) (y : Nat) : Nat := (M.2.2.1 81 y).toNatClampNeg
def aQn (M : mw_S) (y : Nat) : Nat := (M.2.2.1 82 y).toNatClampNeg
def FF (M : mw_S) (ab : Nat → Option Nat) (nk np g0 a0 kc p f : Nat) : Prop := PP nk np g0 kc M p f ∨ (∃ g, g0 ≤ g ∧ g < kg M ∧ ∃ j, An ab (yK M g) j ∧ QJ M ab (yK M g) (yQ M g) (yP M g) j p f) ∨ ∃ y, a0 ≤ y ∧ y < ka M ∧ p = uP M y ∧ f = cA M ab (aK M y) (aQn M y) y ∧ ¬ f = 0
theorem use_cA {M : mw_S} {ab : Nat → Option Nat} {j y q : Nat} (h : useOf M j y) (hq : M.2.2.1 82 y = nI q) (hq6 : q < 6) : uF M ab j = cA M ab (aK M y) (aQn M y) y := by
  obtain ⟨h42, h43, h44, h46, h45, ho⟩ := h
  have eq : aQn M y = q := by unfold aQn; rw [hq, nI_clamp (by omega)]
  unfold uF cA
  rw [h42, h43, h44, h45]
  rcases ho with o | o | o
  · rw [o, if_neg (show ¬ (1 : Int32) = 8 by decide), if_neg (show ¬ (1 : Int32) = 2 by decide), if_pos (show (1 : Int32) = 1 from rfl), if_pos (show (1 : Int32) = 1 from rfl)]
    rfl
  · rw [o, if_neg (show ¬ (2 : Int32) = 8 by decide), if_pos (show (2 : Int32) = 2 from rfl), if_neg (show ¬ (2 : Int32) = 1 by decide), if_neg (show ¬ (2 : Int32) = 1 by decide), if_pos (show (2 : Int32) = 2 from rfl)]
    rfl
  · rw [o, if_pos (show (8 : Int32) = 8 from rfl), if_neg (show ¬ (8 : Int32) = 1 by decide), if_neg (show ¬ (8 : Int32) = 2 by decide), if_pos (show (8 : Int32) = 8 from rfl), hq, eq]
    by_cases z : q = 0
    · rw [if_pos z, if_pos (by rw [z]; rfl)]
    · rw [if_neg z, if_neg (show ¬ nI q = (0 : Int32) from fun w => z ((nI_eq (b := 0) (by omega) (by decide)).mp w))]
section FFS
variable {tb : Nat → Nat} {n nk np a0 g0 kc t : Nat} {M : mw_S} {ab : Nat → Option Nat}
theorem RI.act2 (hR : RI tb n nk np a0 g0 kc kc M t) (hk : kc ≤ 50) {y : Nat} (h1 : a0 ≤ y) (h2 : y < ka M) : ∃ g, g0 ≤ g ∧ g < kg M ∧ yS M g ≤ y ∧ y < yE M g ∧ yQ M g < 6 ∧ aK M y = yK M g ∧ aQn M y = yQ M g ∧ M.2.2.1 82 y = nI (yQ M g) := by
  obtain ⟨g, a, b, c, d, e, f, g_⟩ := hR.actOf h1 h2
  obtain ⟨-, -, -, x, z⟩ := g_
  exact ⟨g, a, b, c, d, f, by unfold aK; rw [x, nI_clamp (by omega)], by unfold aQn; rw [z, nI_clamp (by omega)], z⟩
theorem jdg_FF (hR : RI tb n nk np a0 g0 kc kc M t) (hI : pI tb n a0 M t) (hab : kf_ok ab kc) (hk : kc ≤ 50) : MinF (FF M ab nk np g0 a0 kc) (jdg M ab (kd_ M) (ku M) (fpOf M)) := by
  have hR_ := hR
  obtain ⟨rK, rB, rH, rO, rE, rL, rF, rU, rD⟩ := hR
  have hqn := qs_le (tb := tb) (n := n) t
  have hn7 := hI.n7
  have row : ∀ g, g0 ≤ g → g < kg M → (M.2.2.1 38 (g - g0)).toNatClampNeg = yK M g ∧ (M.2.2.1 39 (g - g0)).toNatClampNeg = yQ M g ∧ (M.2.2.1 40 (g - g0)).toNatClampNeg = yP M g ∧ yK M g < kc ∧ M.2.2.1 40 (g - g0) = nI (yP M g) ∧ yP M g < 2 ^ 31 := fun g h1 h2 => by
    obtain ⟨⟨b1, b2, b3, -, -⟩, ⟨c1, c2, c3, c4, c5⟩, -, -, ⟨d1, d2, d3⟩, -⟩ := rB g h1 h2
    exact ⟨by rw [d1]; rfl, by rw [d2]; rfl, by rw [d3]; rfl, c2, d3.trans b3, by omega⟩
  have s1 := jd1_m (M := M) hab hk (kd_ M) 0 _ _ (fun x _ hx => by
    have r := row (g0 + x) (by omega) (by omega)
    rw [show g0 + x - g0 = x by omega] at r
    exact ⟨by rw [r.1]; exact r.2.2.2.1, _, r.2.2.2.2.1, r.2.2.2.2.2⟩) rF
  have s2 := jd2_m (M := M) (ab := ab) (ku M) 0 _ _ (fun x _ hx => by
    obtain ⟨y, y1, y2, y3, y4, y5⟩ := rU.2.2.2.1 x (by omega)
    obtain ⟨p, p1, p2⟩ := rU.2.1 y y1 y2
    exact ⟨p, y5.2.2.2.1.trans p1, by omega⟩) s1
  refine s2.ext (fun p f => ⟨fun z => ?_, fun z => ?_⟩)
  · rcases z with (z | ⟨x, -, hx, z⟩) | ⟨x, -, hx, z1, z2, z3⟩
    · exact Or.inl z
    · have r := row (g0 + x) (by omega) (by omega)
      rw [show g0 + x - g0 = x by omega] at r
      unfold QB at z
      rw [r.1, r.2.1, r.2.2.1] at z
      exact Or.inr (Or.inl ⟨g0 + x, by omega, by omega, z⟩)
    · obtain ⟨y, y1, y2, y3, y4, y5⟩ := rU.2.2.2.1 x (by omega)
      obtain ⟨g, g1, g2, g3, g4, g5, g6, g7, g8⟩ := hR_.act2 hk y1 y2
      refine Or.inr (Or.inr ⟨y, y1, y2, ?_, ?_, z3⟩)
      · rw [z1, y5.2.2.2.1]; rfl
      · rw [z2]; exact use_cA y5 g8 g5
  · rcases z with z | ⟨g, h1, h2, z⟩ | ⟨y, y1, y2, z1, z2, z3⟩
    · exact Or.inl (Or.inl z)
    · have r := row g h1 h2
      refine Or.inl (Or.inr ⟨g - g0, by omega, by omega, ?_⟩)
      unfold QB
      rw [r.1, r.2.1, r.2.2.1]
      exact z
    · obtain ⟨g, g1, g2, g3, g4, g5, g6, g7, g8⟩ := hR_.act2 hk y1 y2
      have ho : M.2.2.1 14 y = 1 ∨ M.2.2.1 14 y = 2 ∨ M.2.2.1 14 y = 8 := by
        by_cases o1 : M.2.2.1 14 y = 1
        · exact Or.inl o1
        · by_cases o2 : M.2.2.1 14 y = 2
          · exact Or.inr (Or.inl o2)
          · by_cases o8 : M.2.2.1 14 y = 8
            · exact Or.inr (Or.inr o8)
            · exfalso
              apply z3
              rw [z2]
              unfold cA
              rw [if_neg o1, if_neg o2, if_neg o8]
      have hya : y < 5000 := by have := hI.kA_.2.2; omega
      obtain ⟨j, j1, j2⟩ := rU.2.2.2.2 y y1 y2 (by omega) ho
      obtain ⟨y', a1, a2, a3, a4, a5⟩ := rU.2.2.2.1 j j1
      have hka := hI.kA_.2.2
      have e : y' = y := (nI_eq (by omega) (by omega)).mp (a4.symm.trans j2)
      rw [e] at a5
      refine Or.inr ⟨j, by omega, by omega, ?_, ?_, z3⟩
      · rw [z1, a5.2.2.2.1]; rfl
      · rw [z2]; exact (use_cA a5 g8 g5).symm
/-- faults of a body, of a kind -/
def FG (M : mw_S) (ab : Nat → Option Nat) (g p f : Nat) : Prop := (f = 3 ∧ M.2.2.1 96 g = 1 ∧ p = yP M g) ∨ (∃ j, An ab (yK M g) j ∧ QJ M ab (yK M g) (yQ M g) (yP M g) j p f) ∨ ∃ y, yS M g ≤ y ∧ y < yE M g ∧ p = uP M y ∧ f = cA M ab (yK M g) (yQ M g) y ∧ ¬ f = 0
def FK (M : mw_S) (ab : Nat → Option Nat) (g0 k p f : Nat) : Prop := (f = 2 ∧ ¬ kfi (M.2.2.2.1 100) (M.2.2.2.1 100 k) k = none ∧ p = zN M k) ∨ (f = 2 ∧ ab k = none ∧ p = zU M k) ∨ ∃ g, g0 ≤ g ∧ g < kg M ∧ yK M g = k ∧ FG M ab g p f
def FW (M : mw_S) (np p f : Nat) : Prop := f = 2 ∧ (M.1 101 = 1 ∧ ¬ M.2.2.2.1 104 0 = spL [104, 111, 117, 115, 101] ∧ klA (M.2.2.2.1 101) (M.2.2.2.1 104 0) np = none) ∧ M.1 100 = nI p
theorem FF_iff (hR : RI tb n nk np a0 g0 kc kc M t) (hI : pI tb n a0 M t) (hk : kc ≤ 50) (hab : ∀ i, nk ≤ i → i < kc → ab i = kfi (M.2.2.2.1 100) (M.2.2.2.1 103 i) i) {p f : Nat} : FF M ab nk np g0 a0 kc p f ↔ (p < 2 ^ 31 ∧ FW M np p f) ∨ ∃ k, nk ≤ k ∧ k < kc ∧ FK M ab g0 k p f := by
  have hR_ := hR
  obtain ⟨rK, rB, rH, rO, rE, rL, rF, rU, rD⟩ := hR
  have hqn := qs_le (tb := tb) (n := n) t
  have hn7 := hI.n7
  constructor
  · rintro (⟨hp, z⟩ | ⟨g, h1, h2, z⟩ | ⟨y, y1, y2, z1, z2, z3⟩)
    · rcases z with ⟨a, b, c, d, e⟩ | ⟨a, i, b, c, d, e⟩ | ⟨a, i, b, c, d, e⟩ | ⟨a, g, b, c, d, e⟩
      · exact Or.inl ⟨hp, a, ⟨b, c, d⟩, e⟩
      · exact Or.inr ⟨i, b, c, Or.inl ⟨a, d, e.symm⟩⟩
      · exact Or.inr ⟨i, b, c, Or.inr (Or.inl ⟨a, (hab i b c).trans d, e.symm⟩)⟩
      · have r := (rB g b c).2.1
        exact Or.inr ⟨yK M g, r.1, r.2.1, Or.inr (Or.inr ⟨g, b, c, rfl, Or.inl ⟨a, d, e.symm⟩⟩)⟩
    · have r := (rB g h1 h2).2.1
      exact Or.inr ⟨yK M g, r.1, r.2.1, Or.inr (Or.inr ⟨g, h1, h2, rfl, Or.inr (Or.inl z)⟩)⟩
    · obtain ⟨g, g1, g2, g3, g4, g5, g6, g7, g8⟩ := hR_.act2 hk y1 y2
      have r := (rB g g1 g2).2.1
      rw [g6, g7] at z2
      exact Or.inr ⟨yK M g, r.1, r.2.1, Or.inr (Or.inr ⟨g, g1, g2, rfl, Or.inr (Or.inr ⟨y, g3, g4, z1, z2, z3⟩)⟩)⟩
  · rintro (⟨hp, a, ⟨b, c, d⟩, e⟩ | ⟨k, k1, k2, z⟩)
    · exact Or.inl ⟨hp, Or.inl ⟨a, b, c, d, e⟩⟩
    · have rk := rK k k1 k2
      rcases z with ⟨a, b, c⟩ | ⟨a, b, c⟩ | ⟨g, h1, h2, h3, z⟩
      · exact Or.inl ⟨by rw [c]; omega, Or.inr (Or.inl ⟨a, k, k1, k2, b, c.symm⟩)⟩
      · exact Or.inl ⟨by rw [c]; omega, Or.inr (Or.inr (Or.inl ⟨a, k, k1, k2, (hab k k1 k2).symm.trans b, c.symm⟩))⟩
      · have r := (rB g h1 h2)
        rcases z with ⟨a, b, c⟩ | z | ⟨y, y1, y2, z1, z2, z3⟩
        · exact Or.inl ⟨by rw [c]; omega, Or.inr (Or.inr (Or.inr ⟨a, g, h1, h2, b, c.symm⟩))⟩
        · exact Or.inr (Or.inl ⟨g, h1, h2, z⟩)
        · have hy1 : a0 ≤ y := by omega
          have hy2 : y < ka M := by omega
          obtain ⟨g', g1, g2, g3, g4, g5, g6, g7, g8⟩ := hR_.act2 hk hy1 hy2
          have eg : g' = g := by
            rcases Nat.lt_trichotomy g' g with w | w | w
            · have := (rO.2.1 g' g g1 w h2).2; omega
            · exact w
            · have := (rO.2.1 g g' h1 w g2).2; omega
          rw [eg] at g6 g7
          exact Or.inr (Or.inr ⟨y, hy1, hy2, z1, by rw [g6, g7]; exact z2, z3⟩)
end FFS
