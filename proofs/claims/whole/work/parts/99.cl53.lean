/-! the constructor's kinds: what stays, and what is new -/
def fO (k g a : Nat) (ad : Nat → Nat → Nat) (C : cw_C) (ad1 : Nat → Nat → Nat) (C1 : cw_C) : Prop := (∀ f i, i < cN C f → ad1 f i = ad f i) ∧ (∀ f, cN C f ≤ cN C1 f) ∧ (∀ f, ¬ f = 0 → ¬ f = 1 → ¬ f = 4 → ¬ f = 21 → C1 f = C f) ∧ (∀ i j, i < k → cI C1 4 i j = cI C 4 i j ∧ cL C1 4 i j = cL C 4 i j ∧ cR C1 4 i j = cR C 4 i j) ∧ (∀ i q, i < k → cR C1 21 i q = cR C 21 i q) ∧ (∀ i j, i < g → cI C1 1 i j = cI C 1 i j ∧ cL C1 1 i j = cL C 1 i j ∧ (¬ j = 8 → cR C1 1 i j = cR C 1 i j)) ∧ (∀ i j, i < a → cI C1 0 i j = cI C 0 i j ∧ cR C1 0 i j = cR C 0 i j)
def KO (M : mw_S) (ab : Nat → Option Nat) (k g a : Nat) (ad : Nat → Nat → Nat) (C : cw_C) : Prop := (k ≤ cN C 4 ∧ k ≤ cN C 21 ∧ g ≤ cN C 1 ∧ a ≤ cN C 0) ∧ (∀ i, i < k → kSt ad C M ab i) ∧ (∀ j, j < g → bdR ad C M j) ∧ ∀ j, j < a → aR ad C M j
def RG (k : Nat) (ad : Nat → Nat → Nat) (C : cw_C) : Prop := (0 < cN C 7 ∧ 0 < cN C 18) ∧ cR C 7 0 0 = some (ad 18 0) ∧ cI C 7 0 1 = nI k ∧ k ≤ cN C 4 ∧ ∀ i, i < k → cR C 18 0 i = some (ad 4 i)
def KC (k g s : Nat) (w : Int64) (cur : Nat → Option Nat) (ad : Nat → Nat → Nat) (C : cw_C) : Prop := (cN C 4 = k + 1 ∧ cN C 21 = k + 1 ∧ cN C 1 = g) ∧ cL C 4 k 0 = w ∧ cR C 4 k 11 = some (ad 21 k) ∧ cR C 4 k 10 = (if s < g then some (ad 1 (g - 1)) else none) ∧ ∀ q, q < 6 → cR C 21 k q = (cur q).map (ad 1)
def BF (k g q : Nat) (r l n : Int32) (o : Option Nat) (ad : Nat → Nat → Nat) (C : cw_C) : Prop := cR C 1 g 0 = some (ad 4 k) ∧ cI C 1 g 1 = nI q ∧ cI C 1 g 2 = r ∧ cI C 1 g 3 = l ∧ cI C 1 g 4 = 0 ∧ cR C 1 g 5 = o ∧ cI C 1 g 6 = n
def AF (a w : Nat) (v : Int32) (o : Option Nat) (C : cw_C) : Prop := cI C 0 a 0 = nI w ∧ cI C 0 a 1 = 0 ∧ cI C 0 a 2 = v ∧ cR C 0 a 3 = none ∧ cR C 0 a 4 = none ∧ cR C 0 a 5 = o
section FO
variable {k g a s q w x y : Nat} {M : mw_S} {ab : Nat → Option Nat} {ad ad1 ad2 : Nat → Nat → Nat} {C C1 C2 C6 : cw_C} {r l v n : Int32} {W_ : Int64} {cur : Nat → Option Nat}
theorem fO.trans (h : fO k g a ad C ad1 C1) (z : fO k g a ad1 C1 ad2 C2) : fO k g a ad C ad2 C2 := by
  obtain ⟨a1, a2, a3, a4, a5, a6, a7⟩ := h
  obtain ⟨b1, b2, b3, b4, b5, b6, b7⟩ := z
  refine ⟨fun f i hi => (b1 f i (Nat.lt_of_lt_of_le hi (a2 f))).trans (a1 f i hi), fun f => Nat.le_trans (a2 f) (b2 f), fun f h0 h1 h4 h21 => (b3 f h0 h1 h4 h21).trans (a3 f h0 h1 h4 h21), fun i j hi => ?_, fun i q hi => (b5 i q hi).trans (a5 i q hi), fun i j hi => ?_, fun i j hi => ?_⟩
  · exact ⟨(b4 i j hi).1.trans (a4 i j hi).1, (b4 i j hi).2.1.trans (a4 i j hi).2.1, (b4 i j hi).2.2.trans (a4 i j hi).2.2⟩
  · exact ⟨(b6 i j hi).1.trans (a6 i j hi).1, (b6 i j hi).2.1.trans (a6 i j hi).2.1, fun h8 => ((b6 i j hi).2.2 h8).trans ((a6 i j hi).2.2 h8)⟩
  · exact ⟨(b7 i j hi).1.trans (a7 i j hi).1, (b7 i j hi).2.trans (a7 i j hi).2⟩
theorem KO.st (h : KO M ab k g a ad C) (z : fO k g a ad C ad1 C1) (hkf : kf_ok ab k) (hG : ∀ i q, i < k → q < 6 → rm_has M q i = true → gb M i q < g) : KO M ab k g a ad1 C1 := by
  obtain ⟨⟨n4, n21, n1, n0⟩, hS, hb, ha⟩ := h
  obtain ⟨b1, b2, b3, b4, b5, b6, b7⟩ := z
  refine ⟨⟨Nat.le_trans n4 (b2 4), Nat.le_trans n21 (b2 21), Nat.le_trans n1 (b2 1), Nat.le_trans n0 (b2 0)⟩, fun i hi => ?_, fun j hj => ?_, fun j hj => ?_⟩
  · obtain ⟨⟨s0, s1, s2, s3, s4, s5, s6, s7⟩, so⟩ := hS i hi
    refine ⟨⟨(b4 i 0 hi).2.1.trans s0, (b4 i 4 hi).1.trans s1, ?_, (b4 i 6 hi).1.trans s3, (b4 i 7 hi).1.trans s4, (b4 i 8 hi).1.trans s5, ?_, fun q hq => ?_⟩, fun q hq hh u hu => ?_⟩
    · rw [(b4 i 5 hi).2.2, s2]
      cases e : ab i with
      | none => rfl
      | some j =>
        have := hkf i j hi e
        show some (ad 4 j) = some (ad1 4 j)
        rw [b1 4 j (by omega)]
    · rw [(b4 i 11 hi).2.2, s6, b1 21 i (by omega)]
    · rw [b5 i q hi]
      rcases s7 q hq with z | ⟨z1, g', z2, z3, z4⟩
      · exact Or.inl z
      · exact Or.inr ⟨z1, g', Nat.lt_of_lt_of_le z2 (b2 1), z3, by rw [z4, b1 1 g' z2]⟩
    · rw [(b6 _ 7 (hG i q hi hq hh)).2.1]
      exact so q hq hh u hu
  · exact (hb j hj).mono (fun i => (b6 j i hj).1) (fun i h8 => (b6 j i hj).2.2 h8) (b2 4) (b1 4) (b2 0) (b1 0) (fun _ _ => rfl)
  · obtain ⟨a0, a1, a2, a3, a4, a5⟩ := ha j hj
    exact ⟨(b7 j 0 hj).1.trans a0, (b7 j 1 hj).1.trans a1, (b7 j 2 hj).1.trans a2, by rw [(b7 j 3 hj).2]; exact a3.mono (b2 0) (b1 0), by rw [(b7 j 4 hj).2]; exact a4.mono (b2 0) (b1 0), by rw [(b7 j 5 hj).2]; exact a5.mono (b2 0) (b1 0)⟩
theorem RG.st (h : RG k ad C) (z : fO k g a ad C ad1 C1) : RG k ad1 C1 := by
  obtain ⟨⟨n7, n18⟩, r0, r1, n4, r2⟩ := h
  obtain ⟨b1, b2, b3, -⟩ := z
  have e7 := b3 7 (by decide) (by decide) (by decide) (by decide)
  have e18 := b3 18 (by decide) (by decide) (by decide) (by decide)
  refine ⟨⟨Nat.lt_of_lt_of_le n7 (b2 7), Nat.lt_of_lt_of_le n18 (b2 18)⟩, ?_, (cI_o e7).trans r1, Nat.le_trans n4 (b2 4), fun i hi => ?_⟩
  · rw [cR_o e7, r0, b1 18 0 n18]
  · rw [cR_o e18, r2 i hi, b1 4 i (by omega)]
/-- a new kind -/
theorem st_kind (n4 : cN C 4 = k) (n21 : cN C 21 = k) (n1 : g ≤ cN C 1) (n0 : a ≤ cN C 0) (hA : ∀ f i, i < cN (cw_new C 4) f → ad1 f i = cw_ad ad C 4 x f i) (hK : kIn (cw_new C 4) ad1 C1 k W_ 0) : fO k g a ad C ad1 C1 ∧ KC k (cN C 1) (cN C 1) W_ (fun _ => none) ad1 C1 ∧ cN C1 0 = cN C 0 := by
  obtain ⟨y1, y2, y3, y4, ⟨y5, -⟩, -, y6, y7⟩ := hK
  have e4 : cN (cw_new C 4) 4 = k + 1 := by rw [← n4]; exact cN_ext
  have eo : ∀ f, ¬ f = 4 → cw_new C 4 f = C f := fun f h => cw_ext_o h
  have e1 : C1 1 = C 1 := (y1 1 (by decide) (by decide)).trans (eo 1 (by decide))
  have e0 : C1 0 = C 0 := (y1 0 (by decide) (by decide)).trans (eo 0 (by decide))
  have N21 : cN (cw_new C 4) 21 = k := (cN_o (eo 21 (by decide))).trans n21
  have c21 : cN C1 21 = k + 1 := by
    have : cN C1 21 = cN (cw_new (cw_new C 4) 21) 21 := by unfold cN; rw [y3]
    rw [this, show cN (cw_new (cw_new C 4) 21) 21 = cN (cw_new C 4) 21 + 1 from cN_ext, N21]
  have cA : ∀ f i, i < cN C f → ad1 f i = ad f i := fun f i hi => by
    rw [hA f i (by
      by_cases e : f = 4
      · subst e; rw [e4]; omega
      · rw [cN_o (eo f e)]; exact hi)]
    exact cw_ad_o hi
  refine ⟨⟨cA, fun f => ?_, fun f h0 h1 h4 h21 => (y1 f h4 h21).trans (eo f h4), fun i j hi => ?_, fun i q hi => ?_, fun i j hi => ⟨cI_o e1, cL_o e1, fun _ => cR_o e1⟩, fun i j hi => ⟨cI_o e0, cR_o e0⟩⟩, ⟨⟨y2.trans e4, c21, cN_o e1⟩, y5, ?_, ?_, fun q hq => ?_⟩, cN_o e0⟩
  · by_cases h4 : f = 4
    · subst h4; rw [y2, e4]; omega
    · by_cases h21 : f = 21
      · subst h21; rw [c21]; omega
      · rw [cN_o ((y1 f h4 h21).trans (eo f h4))]; exact Nat.le_refl _
  · obtain ⟨z1, z2, z3⟩ := y4 i j (by omega)
    exact ⟨z1.trans (cI_ext_o (by omega)), z2.trans (cL_ext_o (by omega)), z3.trans (cR_ext_o (by omega))⟩
  · have : cR C1 21 i q = cR (cw_new (cw_new C 4) 21) 21 i q := by unfold cR; rw [y3]
    rw [this, show cR (cw_new (cw_new C 4) 21) 21 i q = cR (cw_new C 4) 21 i q from cR_ext_o (by omega), cR_o (eo 21 (by decide))]
  · rw [y7, N21]
  · rw [y6, if_neg (Nat.lt_irrefl _)]
  · have : cR C1 21 k q = cR (cw_new (cw_new C 4) 21) 21 k q := by unfold cR; rw [y3]
    rw [this, ← N21]
    exact cR_ext_n
/-- a new body -/
theorem st_body (hK : KC k g s W_ cur ad C) (n0 : a ≤ cN C 0) (hs : s ≤ g) (hq : q < 6) (hcur : cur q = none) (hcb : ∀ p g', p < 6 → cur p = some g' → g' < g) (hg : gvP (cw_ad ad C 1 x) (bd9 (cw_new C 1) g (ad 4 k) (nI q) r l 0) C6 k g q s) : fO k g a ad C (cw_ad ad C 1 x) C6 ∧ KC k (g + 1) s W_ (fun p => if p = q then some g else cur p) (cw_ad ad C 1 x) C6 ∧ cN C6 0 = cN C 0 ∧ BF k g q r l 0 none (cw_ad ad C 1 x) C6 := by
  obtain ⟨⟨n4, n21, n1⟩, kw, k11, k10, kq⟩ := hK
  obtain ⟨y1, y2, y3, y4, y5, y6, y7, y8, y9, y10⟩ := hg
  have eo : ∀ f, ¬ f = 1 → bd9 (cw_new C 1) g (ad 4 k) (nI q) r l 0 f = C f := fun f h => by unfold bd9; rw [cw_row_o h]; exact cw_ext_o h
  have N : ∀ f, cN C6 f = if f = 1 then g + 1 else cN C f := fun f => by
    rw [y2]
    by_cases e : f = 1
    · subst e; rw [if_pos rfl]; unfold bd9; rw [cw_row_N, ← n1]; exact cN_ext
    · rw [if_neg e, cN_o (eo f e)]
  have oI : ∀ i j, i < g → cI (bd9 (cw_new C 1) g (ad 4 k) (nI q) r l 0) 1 i j = cI C 1 i j := fun i j hi => by unfold bd9; rw [cI_row_n (by omega)]; exact cI_ext_o (by omega)
  have oL : ∀ i j, i < g → cL (bd9 (cw_new C 1) g (ad 4 k) (nI q) r l 0) 1 i j = cL C 1 i j := fun i j hi => by unfold bd9; rw [cL_row_n (by omega)]; exact cL_ext_o (by omega)
  have oR : ∀ i j, i < g → cR (bd9 (cw_new C 1) g (ad 4 k) (nI q) r l 0) 1 i j = cR C 1 i j := fun i j hi => by unfold bd9; rw [cR_row_n (by omega)]; exact cR_ext_o (by omega)
  have eA : ∀ f i, i < cN C f → cw_ad ad C 1 x f i = ad f i := fun f i hi => cw_ad_o hi
  refine ⟨⟨eA, fun f => ?_, fun f h0 h1 h4 h21 => (y1 f h1 h4 h21).trans (eo f h1), fun i j hi => ⟨?_, ?_, ?_⟩, fun i p hi => ?_, fun i j hi => ⟨?_, ?_, fun h8 => ?_⟩, fun i j hi => ⟨?_, ?_⟩⟩, ⟨⟨?_, ?_, ?_⟩, ?_, ?_, ?_, fun p hp => ?_⟩, ?_, ?_, ?_, ?_, ?_, ?_, ?_, ?_⟩
  · rw [N]; split
    · rename_i e; subst e; omega
    · exact Nat.le_refl _
  · exact (y3 4 i j).1.trans (cI_o (eo 4 (by decide)))
  · exact (y3 4 i j).2.trans (cL_o (eo 4 (by decide)))
  · exact (y4 i j (by omega)).trans (cR_o (eo 4 (by decide)))
  · exact (y6 i p (by omega)).trans (cR_o (eo 21 (by decide)))
  · exact (y3 1 i j).1.trans (oI i j hi)
  · exact (y3 1 i j).2.trans (oL i j hi)
  · exact (y5 i j (by omega)).trans (oR i j hi)
  · exact (y3 0 i j).1.trans (cI_o (eo 0 (by decide)))
  · exact cR_o ((y1 0 (by decide) (by decide) (by decide)).trans (eo 0 (by decide)))
  · rw [N, if_neg (by decide)]; exact n4
  · rw [N, if_neg (by decide)]; exact n21
  · rw [N, if_pos rfl]
  · exact ((y3 4 k 0).2.trans (cL_o (eo 4 (by decide)))).trans kw
  · rw [y4 k 11 (by omega), cR_o (eo 4 (by decide)), k11, eA 21 k (by omega)]
  · rw [y7, if_pos (by omega), Nat.add_sub_cancel]
  · show cR C6 21 k p = (if p = q then some g else cur p).map (cw_ad ad C 1 x 1)
    by_cases e : p = q
    · subst e
      rw [if_pos rfl, y10, cR_o (eo 21 (by decide)), kq p hp, hcur]
      rfl
    · rw [if_neg e, y6 k p (by omega), cR_o (eo 21 (by decide)), kq p hp]
      cases z : cur p with
      | none => rfl
      | some g' =>
        show some (ad 1 g') = some (cw_ad ad C 1 x 1 g')
        by_cases zz : g' < cN C 1
        · rw [eA 1 g' zz]
        · exact absurd (hcb p g' hp z) (by omega)
  · rw [N, if_neg (by decide)]
  · rw [y5 g 0 (by omega), eA 4 k (by omega)]; exact cR_row_e
  · rw [(y3 1 g 1).1]; exact cI_row_e
  · rw [(y3 1 g 2).1]; exact cI_row_e
  · rw [(y3 1 g 3).1]; exact cI_row_e
  · rw [(y3 1 g 4).1]; exact cI_row_e
  · rw [y5 g 5 (by omega)]; exact cR_row_e
  · rw [(y3 1 g 6).1]; exact cI_row_e
theorem ahX_o {f : Nat} (h : ¬ f = 0) : ahX C w v f = C f := by unfold ahX aN; rw [cw_sI_o h]; exact cw_ext_o h
theorem ah_fr (hK : KC k (g + 1) s W_ cur ad C) (n0 : a ≤ cN C 0) (hcb : ∀ p g', p < 6 → cur p = some g' → g' < g + 1) (h1 : ∀ f, ¬ f = 0 → ¬ f = 1 → C1 f = C f) (hN : ∀ f, cN C1 f = if f = 0 then cN C 0 + 1 else cN C f) (hI : ∀ i j, i < g → cI C1 1 i j = cI C 1 i j) (hL : ∀ i j, i < g → cL C1 1 i j = cL C 1 i j) (hR : ∀ i j, i < g → cR C1 1 i j = cR C 1 i j) (hA : ∀ i j, i < a → cI C1 0 i j = cI C 0 i j ∧ cR C1 0 i j = cR C 0 i j) : fO k g a ad C (cw_ad ad C 0 x) C1 ∧ KC k (g + 1) s W_ cur (cw_ad ad C 0 x) C1 ∧ cN C1 0 = cN C 0 + 1 := by
  obtain ⟨⟨n4, n21, n1⟩, kw, k11, k10, kq⟩ := hK
  have eA : ∀ f i, i < cN C f → cw_ad ad C 0 x f i = ad f i := fun f i hi => cw_ad_o hi
  have e4 := h1 4 (by decide) (by decide)
  have e21 := h1 21 (by decide) (by decide)
  refine ⟨⟨eA, fun f => ?_, fun f z0 z1 _ _ => h1 f z0 z1, fun i j hi => ⟨cI_o e4, cL_o e4, cR_o e4⟩, fun i q _ => cR_o e21, fun i j hi => ⟨hI i j hi, hL i j hi, fun _ => hR i j hi⟩, hA⟩, ⟨⟨?_, ?_, ?_⟩, (cL_o e4).trans kw, ?_, ?_, fun p hp => ?_⟩, ?_⟩
  · rw [hN]; split
    · rename_i e; subst e; omega
    · exact Nat.le_refl _
  · rw [hN, if_neg (by decide)]; exact n4
  · rw [hN, if_neg (by decide)]; exact n21
  · rw [hN, if_neg (by decide)]; exact n1
  · rw [cR_o e4, k11, eA 21 k (by omega)]
  · rw [cR_o e4, k10]
    split
    · rw [eA 1 _ (by omega)]
    · rfl
  · rw [cR_o e21, kq p hp]
    cases z : cur p with
    | none => rfl
    | some g' =>
      have := hcb p g' hp z
      show some (ad 1 g') = some (cw_ad ad C 0 x 1 g')
      rw [eA 1 g' (by omega)]
  · rw [hN, if_pos rfl]
/-- a body's first action -/
theorem st_a0 (hK : KC k (g + 1) s W_ cur ad C) (n0 : cN C 0 = a) (hcb : ∀ p g', p < 6 → cur p = some g' → g' < g + 1) (hB : BF k g q r l 0 none ad C) : fO k g a ad C (cw_ad ad C 0 x) (ah0 C w v g x) ∧ KC k (g + 1) s W_ cur (cw_ad ad C 0 x) (ah0 C w v g x) ∧ cN (ah0 C w v g x) 0 = a + 1 ∧ BF k g q r l 1 (some x) (cw_ad ad C 0 x) (ah0 C w v g x) ∧ AF a w v none (ah0 C w v g x) := by
  have h1 : ∀ f, ¬ f = 0 → ¬ f = 1 → ah0 C w v g x f = C f := fun f z0 z1 => by unfold ah0; rw [cw_sI_o z1, cw_sR_o z1, ahX_o z0]
  have e1 : ahX C w v 1 = C 1 := ahX_o (by decide)
  have hN : ∀ f, cN (ah0 C w v g x) f = if f = 0 then cN C 0 + 1 else cN C f := fun f => by unfold ah0; rw [cw_sI_N, cw_sR_N, ahX_N]
  have z := ah_fr (a := a) (x := x) hK (by omega) hcb h1 hN (fun i j hi => by unfold ah0; rw [cI_sI_n (by omega), cI_sR, cI_o e1]) (fun i j hi => by unfold ah0; rw [cL_sI, cL_sR, cL_o e1]) (fun i j hi => by unfold ah0; rw [cR_sI, cR_sR_n (by omega), cR_o e1]) (fun i j hi => ⟨by unfold ah0 ahX aN; rw [cI_sI_n (by omega), cI_sR, cI_sI_n (by omega)]; exact cI_ext_o (by omega), by unfold ah0 ahX aN; rw [cR_sI, cR_sR_n (by omega), cR_sI]; exact cR_ext_o (by omega)⟩)
  obtain ⟨b0, b1, b2, b3, b4, b5, b6⟩ := hB
  have n4 : k < cN C 4 := by have := hK.1.1; omega
  refine ⟨z.1, z.2.1, by rw [z.2.2, n0], ⟨?_, ?_, ?_, ?_, ?_, ?_, ?_⟩, ?_, ?_, ?_, ?_, ?_, ?_⟩
  · unfold ah0; rw [cR_sI, cR_sR_n (by omega), cR_o e1, b0, cw_ad_o n4]
  · unfold ah0; rw [cI_sI_n (by omega), cI_sR, cI_o e1]; exact b1
  · unfold ah0; rw [cI_sI_n (by omega), cI_sR, cI_o e1]; exact b2
  · unfold ah0; rw [cI_sI_n (by omega), cI_sR, cI_o e1]; exact b3
  · unfold ah0; rw [cI_sI_n (by omega), cI_sR, cI_o e1]; exact b4
  · unfold ah0; rw [cR_sI, cR_sR_e]
  · unfold ah0; rw [cI_sI_e, cI_sR, cI_o e1, b6]; rfl
  · unfold ah0 ahX aN; rw [cI_sI_n (by omega), cI_sR, cI_sI_n (by omega), ← n0]; exact cI_ext_n
  · unfold ah0 ahX aN; rw [cI_sI_n (by omega), cI_sR, cI_sI_n (by omega), ← n0]; exact cI_ext_n
  · unfold ah0 ahX; rw [cI_sI_n (by omega), cI_sR, ← n0, cI_sI_e]
  · unfold ah0 ahX aN; rw [cR_sI, cR_sR_n (by omega), cR_sI, ← n0]; exact cR_ext_n
  · unfold ah0 ahX aN; rw [cR_sI, cR_sR_n (by omega), cR_sI, ← n0]; exact cR_ext_n
  · unfold ah0 ahX aN; rw [cR_sI, cR_sR_n (by omega), cR_sI, ← n0]; exact cR_ext_n
/-- a body's second action -/
theorem st_a1 {w0 x0 : Nat} {v0 : Int32} (hK : KC k (g + 1) s W_ cur ad C) (n0 : cN C 0 = a + 1) (hcb : ∀ p g', p < 6 → cur p = some g' → g' < g + 1) (hB : BF k g q r l 1 (some x0) ad C) (hA : AF a w0 v0 none C) : fO k g a ad C (cw_ad ad C 0 x) (ah1 C w v g a x) ∧ KC k (g + 1) s W_ cur (cw_ad ad C 0 x) (ah1 C w v g a x) ∧ cN (ah1 C w v g a x) 0 = a + 2 ∧ BF k g q r l 2 (some x0) (cw_ad ad C 0 x) (ah1 C w v g a x) ∧ AF a w0 v0 (some x) (ah1 C w v g a x) ∧ AF (a + 1) w v none (ah1 C w v g a x) := by
  have h1 : ∀ f, ¬ f = 0 → ¬ f = 1 → ah1 C w v g a x f = C f := fun f z0 z1 => by unfold ah1; rw [cw_sI_o z1, cw_sR_o z0, ahX_o z0]
  have e1 : ahX C w v 1 = C 1 := ahX_o (by decide)
  have hN : ∀ f, cN (ah1 C w v g a x) f = if f = 0 then cN C 0 + 1 else cN C f := fun f => by unfold ah1; rw [cw_sI_N, cw_sR_N, ahX_N]
  have z := ah_fr (a := a) (x := x) hK (by omega) hcb h1 hN (fun i j hi => by unfold ah1; rw [cI_sI_n (by omega), cI_sR, cI_o e1]) (fun i j hi => by unfold ah1; rw [cL_sI, cL_sR, cL_o e1]) (fun i j hi => by unfold ah1; rw [cR_sI, cR_sR_n (by omega), cR_o e1]) (fun i j hi => ⟨by unfold ah1 ahX aN; rw [cI_sI_n (by omega), cI_sR, cI_sI_n (by omega)]; exact cI_ext_o (by omega), by unfold ah1 ahX aN; rw [cR_sI, cR_sR_n (by omega), cR_sI]; exact cR_ext_o (by omega)⟩)
  obtain ⟨b0, b1, b2, b3, b4, b5, b6⟩ := hB
  obtain ⟨a0, a1, a2, a3, a4, a5⟩ := hA
  have n4 : k < cN C 4 := by have := hK.1.1; omega
  refine ⟨z.1, z.2.1, by rw [z.2.2, n0], ⟨?_, ?_, ?_, ?_, ?_, ?_, ?_⟩, ⟨?_, ?_, ?_, ?_, ?_, ?_⟩, ?_, ?_, ?_, ?_, ?_, ?_⟩
  · unfold ah1; rw [cR_sI, cR_sR_n (by omega), cR_o e1, b0, cw_ad_o n4]
  · unfold ah1; rw [cI_sI_n (by omega), cI_sR, cI_o e1]; exact b1
  · unfold ah1; rw [cI_sI_n (by omega), cI_sR, cI_o e1]; exact b2
  · unfold ah1; rw [cI_sI_n (by omega), cI_sR, cI_o e1]; exact b3
  · unfold ah1; rw [cI_sI_n (by omega), cI_sR, cI_o e1]; exact b4
  · unfold ah1; rw [cR_sI, cR_sR_n (by omega), cR_o e1]; exact b5
  · unfold ah1; rw [cI_sI_e, cI_sR, cI_o e1, b6]; rfl
  · unfold ah1 ahX aN; rw [cI_sI_n (by omega), cI_sR, cI_sI_n (by omega)]; exact (cI_ext_o (by omega)).trans a0
  · unfold ah1 ahX aN; rw [cI_sI_n (by omega), cI_sR, cI_sI_n (by omega)]; exact (cI_ext_o (by omega)).trans a1
  · unfold ah1 ahX aN; rw [cI_sI_n (by omega), cI_sR, cI_sI_n (by omega)]; exact (cI_ext_o (by omega)).trans a2
  · unfold ah1 ahX aN; rw [cR_sI, cR_sR_n (by omega), cR_sI]; exact (cR_ext_o (by omega)).trans a3
  · unfold ah1 ahX aN; rw [cR_sI, cR_sR_n (by omega), cR_sI]; exact (cR_ext_o (by omega)).trans a4
  · unfold ah1; rw [cR_sI, cR_sR_e]
  · unfold ah1 ahX aN; rw [cI_sI_n (by omega), cI_sR, cI_sI_n (by omega), ← n0]; exact cI_ext_n
  · unfold ah1 ahX aN; rw [cI_sI_n (by omega), cI_sR, cI_sI_n (by omega), ← n0]; exact cI_ext_n
  · unfold ah1 ahX; rw [cI_sI_n (by omega), cI_sR, ← n0, cI_sI_e]
  · unfold ah1 ahX aN; rw [cR_sI, cR_sR_n (by omega), cR_sI, ← n0]; exact cR_ext_n
  · unfold ah1 ahX aN; rw [cR_sI, cR_sR_n (by omega), cR_sI, ← n0]; exact cR_ext_n
  · unfold ah1 ahX aN; rw [cR_sI, cR_sR_n (by omega), cR_sI, ← n0]; exact cR_ext_n
end FO
