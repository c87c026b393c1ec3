/-! the class's checker: a pack -/
theorem ckF.o {C C1 : cw_C} {M : mw_S} {k f : Nat} (h : ckF C C1 M k) (h1 : ¬ f = 1) (h2 : ¬ f = 2) (h4 : ¬ f = 4) : C1 f = C f := by
  obtain ⟨Cm, a, b⟩ := h
  rw [(b f).1 h2]
  exact a.1 f h1 h4
theorem ckF.N {C C1 : cw_C} {M : mw_S} {k f : Nat} (h : ckF C C1 M k) : cN C1 f = cN C f := by
  obtain ⟨Cm, a, b⟩ := h
  rw [(b f).2.1]
  exact a.2.1 f
theorem ckF.L4 {C C1 : cw_C} {M : mw_S} {k i j : Nat} (h : ckF C C1 M k) : cL C1 4 i j = cL C 4 i j := by
  obtain ⟨Cm, a, b⟩ := h
  rw [cL_o ((b 4).1 (by decide))]
  exact a.2.2.2.2.2.1 i j
theorem ckF.r4 {C C1 : cw_C} {M : mw_S} {k i j : Nat} (h : ckF C C1 M k) (hi : ¬ i = k) : cI C1 4 i j = cI C 4 i j ∧ cR C1 4 i j = cR C 4 i j := by
  obtain ⟨Cm, a, b⟩ := h
  rw [cI_o ((b 4).1 (by decide)), cR_o ((b 4).1 (by decide))]
  exact a.2.2.2.2.1 i j hi
theorem ckF.r1 {C C1 : cw_C} {M : mw_S} {k i j : Nat} (h : ckF C C1 M k) : cI C1 1 i j = cI C 1 i j ∧ cR C1 1 i j = cR C 1 i j := by
  obtain ⟨Cm, a, b⟩ := h
  rw [cI_o ((b 1).1 (by decide)), cR_o ((b 1).1 (by decide))]
  exact a.2.2.1 i j
theorem ckF.l1 {C C1 : cw_C} {M : mw_S} {k i j : Nat} (h : ckF C C1 M k) (hi : ¬ (yK M i = k ∧ j = 7)) : cL C1 1 i j = cL C 1 i j := by
  obtain ⟨Cm, a, b⟩ := h
  rw [cL_o ((b 1).1 (by decide))]
  exact a.2.2.2.1 i j hi
theorem ckF.oK {N : Nat → Nat} {ad adS : Nat → Nat → Nat} {C CS C1 : cw_C} {M : mw_S} {k nk : Nat} (o : oK N adS CS ad C) (h : ckF C C1 M k) (hk : nk ≤ k) (h4 : N 4 ≤ nk) (h2 : N 2 = 0) (h1 : ∀ g, g < N 1 → yK M g < nk) : oK N adS CS ad C1 := fun f => by
  refine ⟨by rw [h.N]; exact (o f).1, fun i hi => ?_⟩
  obtain ⟨a1, a2, a3, a4⟩ := (o f).2 i hi
  by_cases e1 : f = 1
  · subst e1
    have := h1 i hi
    exact ⟨a1, (funext (fun j => h.r1.1)).trans a2, fun z => (funext (fun j => h.l1 (by omega))).trans (a3 z), (funext (fun j => h.r1.2)).trans a4⟩
  · by_cases e4 : f = 4
    · subst e4
      exact ⟨a1, (funext (fun j => (h.r4 (by omega)).1)).trans a2, fun z => (funext (fun j => h.L4)).trans (a3 z), (funext (fun j => (h.r4 (by omega)).2)).trans a4⟩
    · by_cases e2 : f = 2
      · subst e2; omega
      · rw [h.o e1 e2 e4]; exact ⟨a1, a2, a3, a4⟩
theorem rgR.to {ad : Nat → Nat → Nat} {C C1 : cw_C} {M : mw_S} {nk np : Nat} (h : rgR ad C M nk np) (e7 : C1 7 = C 7) (e18 : C1 18 = C 18) (e19 : C1 19 = C 19) (hN4 : cN C 4 ≤ cN C1 4) (hN5 : cN C 5 ≤ cN C1 5) (hL4 : ∀ i, i < nk → cL C1 4 i 0 = cL C 4 i 0) (h5 : ∀ p, p < np → cL C1 5 p 0 = cL C 5 p 0 ∧ cI C1 5 p 4 = cI C 5 p 4 ∧ cI C1 5 p 5 = cI C 5 p 5) : rgR ad C1 M nk np := by
  obtain ⟨⟨n7, n18, n19, h4, h5_⟩, hkp, r0, r1, r2, r3, r4, hK, hP⟩ := h
  refine ⟨⟨by rw [cN_o e7]; exact n7, by rw [cN_o e18]; exact n18, by rw [cN_o e19]; exact n19, by omega, by omega⟩, hkp, by rw [cR_o e7]; exact r0, by rw [cI_o e7]; exact r1, by rw [cR_o e7]; exact r2, by rw [cI_o e7]; exact r3, by rw [cI_o e7]; exact r4, fun i hi => ?_, fun p hp => ?_⟩
  · rw [cR_o e18, hL4 i hi]; exact hK i hi
  · unfold pkK
    rw [cR_o e19, (h5 p hp).1, (h5 p hp).2.1, (h5 p hp).2.2]; exact hP p hp
theorem rgR.ckF {ad : Nat → Nat → Nat} {C C1 : cw_C} {M : mw_S} {k nk np : Nat} (h : rgR ad C M nk np) (y : ckF C C1 M k) : rgR ad C1 M nk np := by
  have e5 : C1 5 = C 5 := y.o (by decide) (by decide) (by decide)
  exact h.to (y.o (by decide) (by decide) (by decide)) (y.o (by decide) (by decide) (by decide)) (y.o (by decide) (by decide) (by decide)) (by rw [y.N]; exact Nat.le_refl _) (by rw [y.N]; exact Nat.le_refl _) (fun i _ => y.L4) (fun p _ => by rw [cL_o e5, cI_o e5, cI_o e5]; exact ⟨rfl, rfl, rfl⟩)
theorem kdF.ckF {ad : Nat → Nat → Nat} {C C1 : cw_C} {M : mw_S} {k i T : Nat} (h : kdF ad C M i T) (y : ckF C C1 M k) (hi : ¬ i = k) : kdF ad C1 M i T :=
  h.mono (fun j => (y.r4 hi).1) (fun j => y.L4) (fun j => (y.r4 hi).2) (fun j => cR_o (y.o (by decide) (by decide) (by decide))) (by rw [y.N]; exact Nat.le_refl _) (fun _ _ => rfl) rfl (fun g _ _ => y.r1.2) (fun _ _ => rfl) (fun _ _ => rfl) (fun _ _ => ⟨rfl, rfl⟩)
/-- the whole check, kind by kind -/
def kCl (M : mw_S) (ab : Nat → Option Nat) (k : Nat) : Prop := kfi (M.2.2.2.1 100) (M.2.2.2.1 100 k) k = none ∧ ¬ ab k = none ∧ ∀ g, zG M k ≤ g → g < zE M k → gC M ab k g
def ksF (M : mw_S) (ab : Nat → Option Nat) (k1 k2 : Nat) (x p : Int32) : Prop := (x = 0 ∧ ∀ k, k1 ≤ k → k < k2 → kCl M ab k) ∨ ∃ k, k1 ≤ k ∧ k < k2 ∧ (∀ k', k1 ≤ k' → k' < k → kCl M ab k') ∧ kFl M ab k x p ∧ ¬ x = 0
theorem kFl.c {M : mw_S} {ab : Nat → Option Nat} {k : Nat} {p : Int32} (h : kFl M ab k 0 p) : kCl M ab k := by
  rcases h with ⟨-, z, -⟩ | ⟨-, -, z, -⟩ | ⟨a, b, c⟩
  · exact absurd z (by decide)
  · exact absurd z (by decide)
  · refine ⟨a, b, ?_⟩
    rcases c with ⟨-, z⟩ | ⟨-, -, -, -, -, z⟩
    · exact z
    · exact absurd rfl z
theorem ksF.cons {M : mw_S} {ab : Nat → Option Nat} {k T : Nat} {x p : Int32} (hc : kCl M ab k) (h : ksF M ab (k + 1) T x p) : ksF M ab k T x p := by
  rcases h with ⟨a, b⟩ | ⟨g', a, b, c, d⟩
  · refine Or.inl ⟨a, fun z z1 z2 => ?_⟩
    by_cases e : z = k
    · rw [e]; exact hc
    · exact b z (by omega) z2
  · refine Or.inr ⟨g', by omega, b, fun z z1 z2 => ?_, d⟩
    by_cases e : z = k
    · rw [e]; exact hc
    · exact c z (by omega) z2
/-- the pack's pure side -/
def pvR (M : mw_S) (ab : Nat → Option Nat) (nk nn np : Nat) (ho : Int32) : Prop := kf_ok ab (nk + nn) ∧ (∀ i, nk ≤ i → i < nk + nn → ab i = kfi (M.2.2.2.1 100) (M.2.2.2.1 103 i) i ∧ hBm M i ∧ M.2.2.1 5 i = ho ∧ M.2.2.1 7 i = nI np ∧ ∀ g, zG M i ≤ g → g < zE M i → bOk M i g) ∧ (∀ i, M.2.2.1 10 i = 0 ∨ M.2.2.1 10 i = 1) ∧ nn ≤ 10
/-- the pack's class side, before the kind nk + a -/
def pvC (ad : Nat → Nat → Nat) (C : cw_C) (M : mw_S) (ab : Nat → Option Nat) (nk nn np a : Nat) (ho : Int32) : Prop := ckE ad C M ab (nk + a) ∧ rgR ad C M nk np ∧ pkD ad C np nn ∧ (∀ i, i < nn → cR C 20 np i = some (ad 4 (nk + i))) ∧ (∀ i, i < nk + nn → i < cN C 4 ∧ i < cN C 21 ∧ cL C 4 i 0 = M.2.2.2.1 100 i) ∧ (0 < cN C 2 ∧ cR C 2 0 2 = some (ad 7 0) ∧ cR C 2 0 3 = some (ad 5 np)) ∧ (∀ i, nk + a ≤ i → i < nk + nn → kdF ad C M i (zE M i)) ∧ cI C 5 np 4 = ho ∧ cI C 2 0 1 = -1
/-- what a check leaves as it is; of the pack itself all but its home -/
def dF (np : Nat) (CS C1 : cw_C) : Prop := (∀ f, ¬ f = 1 → ¬ f = 2 → ¬ f = 4 → ¬ f = 5 → C1 f = CS f) ∧ (∀ j, cL C1 5 np j = cL CS 5 np j) ∧ ∀ j, ¬ j = 4 → cI C1 5 np j = cI CS 5 np j
def qP (N : Nat → Nat) (ad adS : Nat → Nat → Nat) (h0 : mm_H) (CS : cw_C) (h : mm_H) (M : mw_S) (ab : Nat → Option Nat) (nk nn np a : Nat) (ho : Int32) (r : Option Value) (h1 : mm_H) : Prop := r = none ∧ ∃ C1, cw ad h0 C1 h1 ∧ oK N adS CS ad C1 ∧ h1.2 = h.2 ∧ dF np CS C1 ∧ ksF M ab (nk + a) (nk + nn) (cI C1 2 0 0) (cI C1 2 0 1) ∧ 0 < cN C1 2 ∧ (cI C1 2 0 0 = 0 → pvC ad C1 M ab nk nn np nn ho)

