/-! a pack while it is read: the class's objects against the reference's memory -/
def bdR (ad : Nat → Nat → Nat) (C : cw_C) (M : mw_S) (g : Nat) : Prop := cR C 1 g 0 = some (ad 4 (yK M g)) ∧ yK M g < cN C 4 ∧ cI C 1 g 1 = M.2.2.1 99 g ∧ cI C 1 g 2 = M.2.2.1 112 g ∧ cI C 1 g 3 = M.2.2.1 113 g ∧ cI C 1 g 4 = M.2.2.1 107 g ∧ lkR ad (cN C 0) (M.2.2.1 108 g) (cR C 1 g 5) ∧ cI C 1 g 6 = M.2.2.1 109 g
def kdH (ad : Nat → Nat → Nat) (C : cw_C) (M : mw_S) (i : Nat) : Prop := ∀ q, q < 6 → (rm_has M q i = false ∧ cR C 21 i q = none) ∨ (rm_has M q i = true ∧ ∃ g, g < cN C 1 ∧ M.2.2.1 97 (6 * i + q) = nI g ∧ cR C 21 i q = some (ad 1 g))
def kdF (ad : Nat → Nat → Nat) (C : cw_C) (M : mw_S) (i T : Nat) : Prop :=
  (cL C 4 i 0 = M.2.2.2.1 100 i ∧ cI C 4 i 1 = M.2.2.1 90 i ∧ cL C 4 i 2 = M.2.2.2.1 103 i ∧ cI C 4 i 3 = M.2.2.1 91 i) ∧ cR C 4 i 11 = some (ad 21 i) ∧ kdH ad C M i ∧ (zG M i ≤ T ∧ T ≤ cN C 1) ∧
  cR C 4 i 9 = (if zG M i < T then some (ad 1 (zG M i)) else none) ∧ ∀ g, zG M i ≤ g → g < T → cR C 1 g 8 = if g + 1 < T then some (ad 1 (g + 1)) else none
/-- bodies and kinds that were read -/
def sPk (ad : Nat → Nat → Nat) (C : cw_C) (tb : Nat → Nat) (n nk : Nat) (M : mw_S) (t kf kc : Nat) : Prop := rL ad C tb n t ∧ aA ad C M ∧ cN C 1 = kg M ∧ (∀ g, g < cN C 1 → bdR ad C M g) ∧ (cN C 4 = kc ∧ cN C 21 = kc) ∧ ∀ i, nk ≤ i → i < kf → kdF ad C M i (zE M i)
/-- the kind k is under way -/
def sKd (ad : Nat → Nat → Nat) (C : cw_C) (tb : Nat → Nat) (n nk : Nat) (M : mw_S) (t k : Nat) : Prop := sPk ad C tb n nk M t k (k + 1) ∧ kdF ad C M k (cN C 1) ∧ cR C 4 k 10 = (if zG M k < cN C 1 then some (ad 1 (cN C 1 - 1)) else none) ∧ ∀ i, nk ≤ i → i < k → zE M i ≤ zG M k
theorem bdR.mono {ad ad1 : Nat → Nat → Nat} {C C1 : cw_C} {M M1 : mw_S} {g : Nat} (h : bdR ad C M g) (hI : ∀ j, cI C1 1 g j = cI C 1 g j) (hR : ∀ j, ¬ j = 8 → cR C1 1 g j = cR C 1 g j) (h4 : cN C 4 ≤ cN C1 4) (a4 : ∀ i, i < cN C 4 → ad1 4 i = ad 4 i) (h0 : cN C 0 ≤ cN C1 0) (a0 : ∀ i, i < cN C 0 → ad1 0 i = ad 0 i) (hM : ∀ j, j = 98 ∨ j = 99 ∨ j = 107 ∨ j = 108 ∨ j = 109 ∨ j = 112 ∨ j = 113 → M1.2.2.1 j g = M.2.2.1 j g) : bdR ad1 C1 M1 g := by
  obtain ⟨b1, b2, b3, b4, b5, b6, b7, b8⟩ := h
  have e : yK M1 g = yK M g := by unfold yK; rw [hM 98 (by omega)]
  unfold bdR
  rw [e, hR 0 (by omega), hI, hI, hI, hI, hI, hR 5 (by omega), hM 99 (by omega), hM 107 (by omega), hM 108 (by omega), hM 109 (by omega), hM 112 (by omega), hM 113 (by omega), a4 _ b2]
  exact ⟨b1, by omega, b3, b4, b5, b6, b7.mono h0 a0, b8⟩
theorem kdF.mono {ad ad1 : Nat → Nat → Nat} {C C1 : cw_C} {M M1 : mw_S} {i T : Nat} (h : kdF ad C M i T) (hI : ∀ j, cI C1 4 i j = cI C 4 i j) (hL : ∀ j, cL C1 4 i j = cL C 4 i j) (hR : ∀ j, cR C1 4 i j = cR C 4 i j) (hB : ∀ j, cR C1 21 i j = cR C 21 i j) (h1 : cN C 1 ≤ cN C1 1) (a1 : ∀ i, i < cN C 1 → ad1 1 i = ad 1 i) (a21 : ad1 21 i = ad 21 i) (hN : ∀ g, zG M i ≤ g → g < T → cR C1 1 g 8 = cR C 1 g 8)
    (hW : ∀ j, j = 100 ∨ j = 103 → M1.2.2.2.1 j i = M.2.2.2.1 j i) (hV : ∀ j, j = 90 ∨ j = 91 ∨ j = 105 → M1.2.2.1 j i = M.2.2.1 j i) (hH : ∀ q, q < 6 → M1.2.2.1 8 (6 * i + q) = M.2.2.1 8 (6 * i + q) ∧ M1.2.2.1 97 (6 * i + q) = M.2.2.1 97 (6 * i + q)) : kdF ad1 C1 M1 i T := by
  obtain ⟨⟨b1, b2, b3, b4⟩, b5, b6, ⟨b7, b8⟩, b9, b10⟩ := h
  have e : zG M1 i = zG M i := by unfold zG; rw [hV 105 (by omega)]
  unfold kdF
  rw [e, hL, hL, hI, hI, hR, hR, hW 100 (by omega), hW 103 (by omega), hV 90 (by omega), hV 91 (by omega), a21]
  refine ⟨⟨b1, b2, b3, b4⟩, b5, fun q hq => ?_, ⟨b7, by omega⟩, ?_, fun g hg hgT => ?_⟩
  · have eh : rm_has M1 q i = rm_has M q i := by unfold rm_has; rw [(hH q hq).1]
    rw [eh, hB, (hH q hq).2]
    rcases b6 q hq with ⟨x, y⟩ | ⟨x, g, y, z, w⟩
    · exact Or.inl ⟨x, y⟩
    · exact Or.inr ⟨x, g, by omega, z, by rw [a1 g y]; exact w⟩
  · rw [b9]
    by_cases z : zG M i < T
    · rw [if_pos z, if_pos z, a1 _ (by omega)]
    · rw [if_neg z, if_neg z]
  · rw [hN g hg hgT, b10 g hg hgT]
    by_cases z : g + 1 < T
    · rw [if_pos z, if_pos z, a1 _ (by omega)]
    · rw [if_neg z, if_neg z]
/-- what reading a body changes, ahead of give -/
def bCh (ad : Nat → Nat → Nat) (C : cw_C) (ad4 : Nat → Nat → Nat) (C5 : cw_C) (k q p : Nat) (r l v c : Int32) : Prop := (∀ f i, i < cN C f → ad4 f i = ad f i) ∧ cN C5 1 = cN C 1 + 1 ∧ C5 4 = C 4 ∧ C5 21 = C 21 ∧ cN C 0 ≤ cN C5 0 ∧ (∀ i j, i < cN C 1 → cI C5 1 i j = cI C 1 i j ∧ cR C5 1 i j = cR C 1 i j) ∧
  cR C5 1 (cN C 1) 0 = some (ad4 4 k) ∧ cI C5 1 (cN C 1) 1 = nI q ∧ cI C5 1 (cN C 1) 2 = r ∧ cI C5 1 (cN C 1) 3 = l ∧ cI C5 1 (cN C 1) 4 = nI p ∧ lkR ad4 (cN C5 0) v (cR C5 1 (cN C 1) 5) ∧ cI C5 1 (cN C 1) 6 = c ∧ cR C5 1 (cN C 1) 8 = none
theorem sKd.body {ad ad4 : Nat → Nat → Nat} {C C5 C6 : cw_C} {tb : Nat → Nat} {n nk t0 t t' th k q p : Nat} {M M' : mw_S} {r l v c : Int32} (hS : sKd ad C tb n nk M t0 k) (hk : k < 50) (hgb : kg M < 2 ^ 30) (hb : bCh ad C ad4 C5 k q p r l v c) (hgv : gvP ad4 C5 C6 k (cN C 1) q (zG M k)) (fx : bodyFx tb n k M M' t t' th q r l) (hv : M'.2.2.1 108 (kg M) = v) (hc : M'.1 47 = c) (hp : qs tb n th = p) (hr : rL ad4 C6 tb n t') (ha : aA ad4 C6 M') : sKd ad4 C6 tb n nk M' t' k := by
  obtain ⟨⟨-, -, s3, s4, ⟨s5, s6⟩, s7⟩, s8, s9, s10⟩ := hS
  obtain ⟨w1, w2, w3, w4, w5, w6, x0, x1, x2, x3, x4, x5, x6, x8⟩ := hb
  obtain ⟨g1, g2, g3, g4, g5, g6, g7, g8, g9, g10⟩ := hgv
  obtain ⟨⟨f1, f2, f3, f4, -, -⟩, fkb, fo, fn, ⟨y98, y99, y107, y96, y114, y115, y112, y113, y109⟩, -, ⟨fa, -, fg, -⟩, -, -⟩ := fx
  have eg : cN C 1 = kg M := s3
  have hV := fkb.2.2.2
  have hW := fkb.2.2.1
  have e4 : ∀ i j, cI C5 4 i j = cI C 4 i j := fun i j => cI_o w3
  have eN4 : cN C6 4 = k + 1 := by rw [g2, cN_o w3]; exact s5
  have eN21 : cN C6 21 = k + 1 := by rw [g2, cN_o w4]; exact s6
  have eN1 : cN C6 1 = cN C 1 + 1 := by rw [g2]; exact w2
  have eN0 : cN C6 0 = cN C5 0 := g2 0
  have zGk : zG M' k = zG M k := by unfold zG; rw [hV 105 k (by unfold kbV; omega)]
  have hzG := s8.2.2.2.1.1
  have bod : ∀ g, g < cN C6 1 → bdR ad4 C6 M' g := by
    intro g hg
    rw [eN1] at hg
    by_cases e : g = cN C 1
    · subst e
      have yk : yK M' (cN C 1) = k := by unfold yK; rw [eg, y98, nI_clamp (by omega)]
      unfold bdR
      rw [yk, eN4, eN0, g5 _ 0 (by omega), g5 _ 5 (by omega), (g3 1 _ 1).1, (g3 1 _ 2).1, (g3 1 _ 3).1, (g3 1 _ 4).1, (g3 1 _ 6).1, x0, x1, x2, x3, x4, x6]
      rw [eg, y99, y112, y113, y107, y109, hc, hp, hv, ← eg]
      exact ⟨rfl, Nat.lt_succ_self _, rfl, rfl, rfl, rfl, x5, rfl⟩
    · have l_ : g < cN C 1 := by omega
      refine (s4 g l_).mono (fun j => ?_) (fun j hj => ?_) (by rw [eN4, s5]; exact Nat.le_refl _) (fun i hi => w1 4 i hi) (by rw [eN0]; exact w5) (fun i hi => w1 0 i hi) (fun j hj => hV j g (by unfold kbV; omega))
      · rw [(g3 1 g j).1, (w6 g j l_).1]
      · rw [g5 g j (by omega), (w6 g j l_).2]
  refine ⟨⟨hr, ha, by rw [eN1, fg, eg], bod, ⟨eN4, eN21⟩, fun i h1 h2 => ?_⟩, ?_, ?_, fun i h1 h2 => by rw [zGk, show zE M' i = zE M i by unfold zE; rw [hV 106 i (by unfold kbV; omega)]]; exact s10 i h1 h2⟩
  · have zEi : zE M' i = zE M i := by unfold zE; rw [hV 106 i (by unfold kbV; omega)]
    rw [zEi]
    have hT := (s7 i h1 h2).2.2.2.1
    have hzi := s10 i h1 h2
    refine (s7 i h1 h2).mono (fun j => by rw [(g3 4 i j).1, e4]) (fun j => by rw [(g3 4 i j).2]; exact cL_o w3) (fun j => by rw [g4 i j (by omega)]; exact cR_o w3) (fun j => by rw [g6 i j (by omega)]; exact cR_o w4) (by rw [eN1]; omega) (fun i hi => w1 1 i hi) (w1 21 i (by omega)) (fun g hg hgT => ?_) (fun j hj => by rw [hW]) (fun j hj => hV j i (by unfold kbV; omega)) (fun q' hq' => ⟨hV 8 _ (by unfold kbV; omega), hV 97 _ (by unfold kbV; omega)⟩)
    rw [g5 g 8 (by omega), (w6 g 8 (by omega)).2]
  · have eh : ∀ q', q' < 6 → ¬ q' = q → rm_has M' q' k = rm_has M q' k ∧ M'.2.2.1 97 (6 * k + q') = M.2.2.1 97 (6 * k + q') := by
      intro q' hq' hne
      exact ⟨by unfold rm_has; rw [fo 8 _ (by omega) (by omega)], fo 97 _ (by omega) (by omega)⟩
    obtain ⟨⟨b1, b2, b3, b4⟩, b5, b6, ⟨b7, b8⟩, b9, b10⟩ := s8
    unfold kdF
    rw [zGk, eN1, (g3 4 k 0).2, (g3 4 k 1).1, (g3 4 k 2).2, (g3 4 k 3).1, e4, e4, cL_o w3, cL_o w3, g4 k 11 (by omega), cR_o w3, g8, cR_o w3, hW, hV 90 k (by unfold kbV; omega), hV 91 k (by unfold kbV; omega), w1 21 k (by omega)]
    refine ⟨⟨b1, b2, b3, b4⟩, b5, fun q' hq' => ?_, ⟨by omega, Nat.le_refl _⟩, ?_, fun g hg hgT => ?_⟩
    · by_cases e : q' = q
      · subst e
        rcases b6 q' hq' with ⟨x, y⟩ | ⟨x, g, y, z, w⟩
        · have fn := fn x
          refine Or.inr ⟨by unfold rm_has; rw [fn.1]; rfl, cN C 1, by rw [eN1]; omega, by rw [eg]; exact fn.2.2.2.2.2, ?_⟩
          rw [g10, if_pos (by rw [cR_o w4]; exact y)]
        · refine Or.inr ⟨?_, g, by rw [eN1]; omega, ?_, ?_⟩
          · unfold rm_has at x ⊢; rw [fo 8 _ (by omega) (by unfold rm_has; rw [x]; exact fun z => by cases z.2)]; exact x
          · rw [fo 97 _ (by omega) (by rw [x]; exact fun z => by cases z.2)]; exact z
          · rw [g10, if_neg (by rw [cR_o w4, w]; exact fun z => by cases z), cR_o w4, w, w1 1 g y]
      · obtain ⟨e1, e2⟩ := eh q' hq' e
        rw [e1, e2, g6 k q' (by omega), cR_o w4]
        rcases b6 q' hq' with ⟨x, y⟩ | ⟨x, g, y, z, w⟩
        · exact Or.inl ⟨x, y⟩
        · exact Or.inr ⟨x, g, by rw [eN1]; omega, z, by rw [w1 1 g y]; exact w⟩
    · by_cases z : zG M k < cN C 1
      · rw [if_pos z, if_pos (by omega), b9, if_pos z, w1 1 _ z]
      · rw [if_neg z, if_pos (by omega), show zG M k = cN C 1 by omega]
    · by_cases e : g = cN C 1
      · subst e
        rw [if_neg (by omega), g5 _ 8 (by omega)]; exact x8
      · by_cases e2 : g + 1 = cN C 1
        · rw [if_pos (by omega), e2, ← g9 (by omega)]
          congr 1
          omega
        · rw [if_pos (by omega), g5 g 8 (by omega), (w6 g 8 (by omega)).2, b10 g hg (by omega), if_pos (by omega), w1 1 _ (by omega)]
  · rw [zGk, eN1, if_pos (by omega), g7]
    rfl
theorem sPk.same {ad : Nat → Nat → Nat} {C C2 : cw_C} {tb : Nat → Nat} {n nk t t' kf kc : Nat} {M M' : mw_S} (h : sPk ad C tb n nk M t kf kc) (hr : rL ad C2 tb n t') (e0 : C2 0 = C 0) (e1 : C2 1 = C 1) (e4 : C2 4 = C 4) (e21 : C2 21 = C 21) (h13 : M'.1 13 = M.1 13) (h111 : M'.1 111 = M.1 111) (hV : M'.2.2.1 = M.2.2.1) (hW : ∀ j, j = 100 ∨ j = 103 → M'.2.2.2.1 j = M.2.2.2.1 j) : sPk ad C2 tb n nk M' t' kf kc := by
  obtain ⟨-, a2, a3, a4, ⟨a5, a6⟩, a7⟩ := h
  refine ⟨hr, a2.same e0 (fun _ _ => rfl) h13 (by rw [hV]) (by rw [hV]) (by rw [hV]) (by rw [hV]) (by rw [hV]) (by rw [hV]), ?_, fun g hg => ?_, ⟨?_, ?_⟩, fun i h1 h2 => ?_⟩
  · rw [cN_o e1, a3]; unfold kg; rw [h111]
  · rw [cN_o e1] at hg
    exact (a4 g hg).mono (fun j => cI_o e1) (fun j _ => cR_o e1) (by rw [cN_o e4]; exact Nat.le_refl _) (fun _ _ => rfl) (by rw [cN_o e0]; exact Nat.le_refl _) (fun _ _ => rfl) (fun j _ => by rw [hV])
  · rw [cN_o e4]; exact a5
  · rw [cN_o e21]; exact a6
  · rw [show zE M' i = zE M i by unfold zE; rw [hV]]
    exact (a7 i h1 h2).mono (fun j => cI_o e4) (fun j => cL_o e4) (fun j => cR_o e4) (fun j => cR_o e21) (by rw [cN_o e1]; exact Nat.le_refl _) (fun _ _ => rfl) rfl (fun g _ _ => cR_o e1) (fun j hj => by rw [hW j hj]) (fun j _ => by rw [hV]) (fun q _ => ⟨by rw [hV], by rw [hV]⟩)
theorem sKd.same {ad : Nat → Nat → Nat} {C C2 : cw_C} {tb : Nat → Nat} {n nk t t' k : Nat} {M M' : mw_S} (h : sKd ad C tb n nk M t k) (hr : rL ad C2 tb n t') (e0 : C2 0 = C 0) (e1 : C2 1 = C 1) (e4 : C2 4 = C 4) (e21 : C2 21 = C 21) (h13 : M'.1 13 = M.1 13) (h111 : M'.1 111 = M.1 111) (hV : M'.2.2.1 = M.2.2.1) (hW : ∀ j, j = 100 ∨ j = 103 → M'.2.2.2.1 j = M.2.2.2.1 j) : sKd ad C2 tb n nk M' t' k := by
  obtain ⟨a1, a2, a3, a4⟩ := h
  have ez : zG M' k = zG M k := by unfold zG; rw [hV]
  refine ⟨a1.same hr e0 e1 e4 e21 h13 h111 hV hW, ?_, ?_, fun i h1 h2 => ?_⟩
  · rw [cN_o e1]
    exact a2.mono (fun j => cI_o e4) (fun j => cL_o e4) (fun j => cR_o e4) (fun j => cR_o e21) (by rw [cN_o e1]; exact Nat.le_refl _) (fun _ _ => rfl) rfl (fun g _ _ => cR_o e1) (fun j hj => by rw [hW j hj]) (fun j _ => by rw [hV]) (fun q _ => ⟨by rw [hV], by rw [hV]⟩)
  · rw [ez, cN_o e1, cR_o e4]; exact a3
  · rw [ez, show zE M' i = zE M i by unfold zE; rw [hV]]; exact a4 i h1 h2
theorem sKd.take {ad : Nat → Nat → Nat} {C C2 : cw_C} {tb : Nat → Nat} {n nk t k : Nat} {M : mw_S} (h : sKd ad C tb n nk M t k) (y : k6 C C2) (hr : rL ad C2 tb n (t + 1)) : sKd ad C2 tb n nk (pw tb n M t) (t + 1) k :=
  h.same hr ((y 0).1 (by decide)) ((y 1).1 (by decide)) ((y 4).1 (by decide)) ((y 21).1 (by decide)) rfl rfl rfl (fun _ _ => rfl)
theorem sPk.take {ad : Nat → Nat → Nat} {C C2 : cw_C} {tb : Nat → Nat} {n nk t kf kc : Nat} {M : mw_S} (h : sPk ad C tb n nk M t kf kc) (y : k6 C C2) (hr : rL ad C2 tb n (t + 1)) : sPk ad C2 tb n nk (pw tb n M t) (t + 1) kf kc :=
  h.same hr ((y 0).1 (by decide)) ((y 1).1 (by decide)) ((y 4).1 (by decide)) ((y 21).1 (by decide)) rfl rfl rfl (fun _ _ => rfl)
