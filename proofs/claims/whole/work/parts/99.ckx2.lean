/-! a pack that was read, ready for its check -/
theorem RI.hB {tb : Nat → Nat} {n nk np a0 g0 kc t : Nat} {M : mw_S} (hR : RI tb n nk np a0 g0 kc kc M t) {i : Nat} (h1 : nk ≤ i) (h2 : i < kc) : hBm M i := by
  obtain ⟨rK, rB, rH, rO, rE, rL, rF, rU, rD⟩ := hR
  intro q hq hh
  obtain ⟨g, a1, a2, a3, a4, a5, a6⟩ := rH i q h1 h2 hq hh
  obtain ⟨⟨-, b2, -⟩, -, -, -, -, -, bX, -⟩ := rB g a2 a3
  rw [a4, a5] at bX
  rcases bX with ⟨-, x1, x2, x3, x4, x5⟩ | ⟨x, -⟩
  · exact ⟨g, a1, a3, a4, by rw [b2, a5], x2, x3, x4, x5⟩
  · rw [a6] at x; exact absurd x (by decide)
theorem RI.bo {tb : Nat → Nat} {n nk np a0 g0 kc t : Nat} {M : mw_S} (hR : RI tb n nk np a0 g0 kc kc M t) {i g : Nat} (h1 : nk ≤ i) (h2 : i < kc) (g1 : zG M i ≤ g) (g2 : g < zE M i) : bOk M i g := by
  obtain ⟨rK, rB, rH, rO, rE, rL, rF, rU, rD⟩ := hR
  have rk := (rK i h1 h2).2.2.1
  have re := rE i h1 h2
  have y1 : g0 ≤ g := by omega
  have y2 : g < kg M := by omega
  have hk := (re.2.2.2 g y1 y2).mpr ⟨g1, g2⟩
  obtain ⟨⟨-, b2, -⟩, ⟨-, -, -, c4, -⟩, ⟨-, -, d3⟩, e, -, f, x, -⟩ := rB g y1 y2
  rw [hk] at e f x
  exact ⟨⟨hk, c4, b2⟩, f, x, e, d3⟩
theorem RI.pvR {tb : Nat → Nat} {n nk np a0 g0 nn t : Nat} {M : mw_S} {ab : Nat → Option Nat} {ho : Int32} (hR : RI tb n nk np a0 g0 (nk + nn) (nk + nn) M t) (hkf : kf_ok ab (nk + nn)) (hab : ∀ i, nk ≤ i → ab i = kfi (M.2.2.2.1 100) (M.2.2.2.1 103 i) i) (h34 : M.1 34 = ho) (h19 : M.1 19 = nI np) (hb10 : ∀ i, M.2.2.1 10 i = 0 ∨ M.2.2.1 10 i = 1) (hnn : nn ≤ 10) : pvR M ab nk nn np ho :=
  ⟨hkf, fun i h1 h2 => ⟨hab i h1, hR.hB h1 h2, by rw [(hR.1 i h1 h2).2.2.2.2.1]; exact h34, by rw [(hR.1 i h1 h2).2.2.2.2.2]; exact h19, fun g g1 g2 => hR.bo h1 h2 g1 g2⟩, hb10, hnn⟩
/-- the package that a pack has, or less than 0 -/
def hoI (M : mw_S) (np : Nat) : Int32 := if M.1 101 = 1 then hmI M np (M.2.2.2.1 104 0) else M.1 23
theorem hmI_neg {M : mw_S} {np : Nat} {w : Int64} (hh : ∀ p, p < np → 0 ≤ M.2.2.1 21 p) : hmI M np w < 0 ↔ (¬ w = spL [104, 111, 117, 115, 101] ∧ klA (M.2.2.2.1 101) w np = none) := by
  unfold hmI
  by_cases c : w = spL [104, 111, 117, 115, 101]
  · rw [if_pos c]; exact ⟨fun z => absurd z (by decide), fun z => absurd c z.1⟩
  · rw [if_neg c]
    cases z : klA (M.2.2.2.1 101) w np with
    | none => exact ⟨fun _ => ⟨c, rfl⟩, fun _ => show (-1 : Int32) < 0 by decide⟩
    | some p =>
      have := hh p (klA_s np p z).1
      exact ⟨fun y => absurd y (Int32.not_lt.mpr this), fun y => by cases y.2⟩
theorem pk_home {tb : Nat → Nat} {n nk np a0 g0 : Nat} {M : mw_S} (h3 : M.1 3 = nI nk) (hnk : nk ≤ 40) (h19 : M.1 19 = nI np) (hnp : np ≤ 12) (hI : pI tb n a0 (rm_word M tb n (qs tb n 0)) 0) (hg : gI tb n g0 (rm_word M tb n (qs tb n 0)) 0) (h35 : M.1 35 = 0) (hh : ∀ p, p < np → 0 ≤ M.2.2.1 21 p) (h23 : 0 ≤ M.1 23) (hK : kk nk a0 g0 M (pPack tb n M).2.1) (hr : ¬ (pPack tb n M).1 = 0) : ∃ nn p0, (pPack tb n M).2.1.1 35 = nI nn ∧ nn ≤ 10 ∧ ZL p0 nk (nk + nn) (pPack tb n M).2.1 ∧ ((pPack tb n M).2.1.1 101 = 0 ∨ (pPack tb n M).2.1.1 101 = 1) ∧ (0 ≤ hoI (pPack tb n M).2.1 np → (pPack tb n M).2.1.1 34 = hoI (pPack tb n M).2.1 np ∧ ∀ p f, ¬ FW (pPack tb n M).2.1 np p f) ∧ (hoI (pPack tb n M).2.1 np < 0 → (pPack tb n M).2.1.1 101 = 1 ∧ ∃ p, p < p0 ∧ p < 2 ^ 31 ∧ FW (pPack tb n M).2.1 np p 2) := by
  obtain ⟨Mp, tp, e, hc⟩ := pPack_hd h19 hnp hr
  have hn7 := hI.n7
  -- the memory ahead of the kinds
  have eM3 : pM3 tb n M = hM2 tb n (rm_word M tb n (qs tb n 0)) := rfl
  have eM5 : pM5 tb n np M = hM3 tb n np (rm_word M tb n (qs tb n 0)) := rfl
  have hIp : pI tb n a0 Mp tp ∧ gI tb n g0 Mp tp ∧ Mp.1 3 = nI nk ∧ Mp.1 35 = nI 0 ∧ Mp.1 23 = M.1 23 ∧ Mp.2.2.1 = M.2.2.1 ∧ Mp.2.2.2.1 101 = M.2.2.2.1 101 := by
    rcases hc with ⟨rfl, rfl⟩ | ⟨rfl, rfl, -⟩
    · rw [eM3]
      exact ⟨hM2_I hI, hg.to rfl (by decide), h3, h35, rfl, rfl, rfl⟩
    · rw [eM5]
      refine ⟨hM3_I hI, hg.to (hM3_S (by decide) (by decide) (by decide) (by decide) (by decide) (by decide)) (by decide), ?_, ?_, ?_, hM3_V, ?_⟩
      · rw [hM3_S (by decide) (by decide) (by decide) (by decide) (by decide) (by decide)]; exact h3
      · rw [hM3_S (by decide) (by decide) (by decide) (by decide) (by decide) (by decide)]; exact h35
      · rw [hM3_S (by decide) (by decide) (by decide) (by decide) (by decide) (by decide)]; rfl
      · rw [hM3_W]; rfl
  obtain ⟨i1, i2, i3, i4, i23, iV, iW⟩ := hIp
  have hq := qs_le (tb := tb) (n := n) (tp + 1)
  obtain ⟨nn, a1, a2, a3, a4, a5⟩ := pKs_zl (p0 := qs tb n (tp + 1)) hnk (n + 1) (pw tb n Mp tp) (tp + 1) 0 i1.w i2.w i3 i4 (by decide) (by omega) (Nat.le_refl _) ⟨fun i z1 z2 => by omega, fun i j z1 z2 z3 => by omega, fun i z1 z2 => by omega⟩ (by rw [← e]; exact hr)
  rw [← e] at a1 a3 a4 a5
  have s23 : (pPack tb n M).2.1.1 23 = M.1 23 := (a4 23 (by unfold kbS kpS; omega) (by decide)).trans i23
  have s34 : (pPack tb n M).2.1.1 34 = Mp.1 34 := a4 34 (by unfold kbS kpS; omega) (by decide)
  have s100 : (pPack tb n M).2.1.1 100 = Mp.1 100 := a4 100 (by unfold kbS kpS; omega) (by decide)
  have s101 : (pPack tb n M).2.1.1 101 = Mp.1 101 := a4 101 (by unfold kbS kpS; omega) (by decide)
  have w104 : (pPack tb n M).2.1.2.2.2.1 104 = Mp.2.2.2.1 104 := a5 104 (by decide) (by decide)
  have w101 : (pPack tb n M).2.1.2.2.2.1 101 = M.2.2.2.1 101 := (a5 101 (by decide) (by decide)).trans iW
  have v21 : ∀ p, (pPack tb n M).2.1.2.2.1 21 p = M.2.2.1 21 p := fun p => hK.2.2.2.2 21 p (by unfold kkV; omega)
  refine ⟨nn, qs tb n (tp + 1), a1, a2, a3, ?_⟩
  rcases hc with ⟨rfl, rfl⟩ | ⟨rfl, rfl, c3⟩
  · have z101 : (pPack tb n M).2.1.1 101 = 0 := s101
    have eh : hoI (pPack tb n M).2.1 np = M.1 23 := by unfold hoI; rw [if_neg (by rw [z101]; decide), s23]
    rw [eh]
    exact ⟨Or.inl z101, fun _ => ⟨s34, fun p f z => absurd (z101.symm.trans z.2.1.1) (by decide)⟩, fun z => absurd z (Int32.not_lt.mpr h23)⟩
  · have z101 : (pPack tb n M).2.1.1 101 = 1 := s101
    have z100 : (pPack tb n M).2.1.1 100 = nI (qs tb n 3) := s100
    have z104 : (pPack tb n M).2.1.2.2.2.1 104 0 = spL (wo tb n 3) := by rw [w104, eM5, hM3_W]; rfl
    have eh : hoI (pPack tb n M).2.1 np = hmI (pPack tb n M).2.1 np (spL (wo tb n 3)) := by unfold hoI; rw [if_pos z101, z104]
    have hh' : ∀ p, p < np → 0 ≤ (pPack tb n M).2.1.2.2.1 21 p := fun p hp => by rw [v21]; exact hh p hp
    rw [eh]
    refine ⟨Or.inr z101, fun z => ⟨?_, fun p f y => ?_⟩, fun z => ⟨z101, qs tb n 3, ?_, ?_, rfl, ⟨z101, ?_⟩, z100⟩⟩
    · rw [s34]
      show (rm_with (pw tb n (pM3 tb n M) 2) np (spL (wo tb n 3))).1 34 = _
      unfold hmI at z ⊢
      unfold rm_with
      rw [w101] at z ⊢
      rw [show (pw tb n (pM3 tb n M) 2).2.2.2.1 101 = M.2.2.2.1 101 from rfl]
      by_cases c : spL (wo tb n 3) = spL [104, 111, 117, 115, 101]
      · rw [if_pos c, if_pos c]; rfl
      · rw [if_neg c] at z ⊢
        rw [if_neg c]
        cases k : klA (M.2.2.2.1 101) (spL (wo tb n 3)) np with
        | none => rw [k] at z; exact absurd (show (0 : Int32) ≤ -1 from z) (by decide)
        | some p => exact (v21 p).symm
    · obtain ⟨-, ⟨-, y2, y3⟩, -⟩ := y
      rw [z104] at y2 y3
      exact absurd ((hmI_neg hh').mpr ⟨y2, y3⟩) (Int32.not_lt.mpr z)
    · have q1 := qs_lt (tb := tb) (n := n) (t := 3) (by omega)
      have q2 := qs_le_of (tb := tb) (n := n) (show 3 + 1 ≤ 4 + 1 by omega)
      omega
    · have := qs_le (tb := tb) (n := n) 3; omega
    · rw [z104]; exact (hmI_neg hh').mp z
