/-! the class's kinds against the reference's memory -/
/-- the bodies of a kind, by their numbers -/
def hBm (M : mw_S) (i : Nat) : Prop := ∀ q, q < 6 → rm_has M q i = true → ∃ g, M.2.2.1 97 (6 * i + q) = nI g ∧ g < kg M ∧ yK M g = i ∧ M.2.2.1 99 g = nI q ∧ M.2.2.1 9 (6 * i + q) = M.2.2.1 112 g ∧ M.2.2.1 10 (6 * i + q) = M.2.2.1 113 g ∧ M.2.2.1 11 (6 * i + q) = M.2.2.1 108 g ∧ M.2.2.1 12 (6 * i + q) = M.2.2.1 109 g
def gb (M : mw_S) (i q : Nat) : Nat := (M.2.2.1 97 (6 * i + q)).toNatClampNeg
theorem hBm.g {M : mw_S} {i q : Nat} (h : hBm M i) (hg : kg M < 2 ^ 30) (hq : q < 6) (hh : rm_has M q i = true) : M.2.2.1 97 (6 * i + q) = nI (gb M i q) ∧ gb M i q < kg M ∧ yK M (gb M i q) = i ∧ M.2.2.1 99 (gb M i q) = nI q ∧ M.2.2.1 9 (6 * i + q) = M.2.2.1 112 (gb M i q) ∧ M.2.2.1 10 (6 * i + q) = M.2.2.1 113 (gb M i q) ∧ M.2.2.1 11 (6 * i + q) = M.2.2.1 108 (gb M i q) ∧ M.2.2.1 12 (6 * i + q) = M.2.2.1 109 (gb M i q) := by
  obtain ⟨g, a, b⟩ := h q hq hh
  have e : gb M i q = g := by unfold gb; rw [a, nI_clamp (by omega)]
  rw [e]
  exact ⟨a, b⟩
def xbo (ad : Nat → Nat → Nat) (M : mw_S) (i q : Nat) : Option Nat := if rm_has M q i = true then some (ad 1 (gb M i q)) else none
theorem kdH.o {ad : Nat → Nat → Nat} {C : cw_C} {M : mw_S} {i q : Nat} (h : kdH ad C M i) (hN : cN C 1 < 2 ^ 30) (hq : q < 6) : cR C 21 i q = xbo ad M i q := by
  unfold xbo
  rcases h q hq with ⟨a, b⟩ | ⟨a, g, b, c, e⟩
  · rw [if_neg (by rw [a]; decide)]; exact b
  · rw [if_pos a, e, show gb M i q = g by unfold gb; rw [c, nI_clamp (by omega)]]
def xkT (ad : Nat → Nat → Nat) (C : cw_C) (M : mw_S) (ab : Nat → Option Nat) : xk_T := (ab, ad 4, ad 21, M.2.2.1 5, M.2.2.1 7, fun i => nI (kdep ab (ab i)), M.2.2.2.1 100, xbo ad M, fun i q => M.2.2.1 9 (6 * i + q), fun i q => M.2.2.1 10 (6 * i + q), fun i q => cR C 1 (gb M i q) 5, fun i q => M.2.2.1 12 (6 * i + q), fun i q => cL C 1 (gb M i q) 7)
def kS0 (ad : Nat → Nat → Nat) (C : cw_C) (M : mw_S) (ab : Nat → Option Nat) (i : Nat) : Prop := cL C 4 i 0 = M.2.2.2.1 100 i ∧ cI C 4 i 4 = nI i ∧ cR C 4 i 5 = (ab i).map (ad 4) ∧ cI C 4 i 6 = M.2.2.1 5 i ∧ cI C 4 i 7 = M.2.2.1 7 i ∧ cI C 4 i 8 = nI (kdep ab (ab i)) ∧ cR C 4 i 11 = some (ad 21 i) ∧ kdH ad C M i
def kSo (C : cw_C) (M : mw_S) (ab : Nat → Option Nat) (i q : Nat) : Prop := rm_has M q i = true → ∀ u, u < 64 → xb (cL C 1 (gb M i q) 7) u = ovB ab (rm_E M q) i u
def kSt (ad : Nat → Nat → Nat) (C : cw_C) (M : mw_S) (ab : Nat → Option Nat) (i : Nat) : Prop := kS0 ad C M ab i ∧ ∀ q, q < 6 → kSo C M ab i q
theorem xbo_is {ad : Nat → Nat → Nat} {M : mw_S} {i q : Nat} : (xbo ad M i q).isSome = rm_has M q i := by
  unfold xbo
  cases z : rm_has M q i with
  | true => rw [if_pos rfl]; rfl
  | false => rw [if_neg (by decide)]; rfl
theorem xkT_E {ad : Nat → Nat → Nat} {C : cw_C} {M : mw_S} {ab : Nat → Option Nat} {q : Nat} : xE (xkT ad C M ab) q = rm_E M q := by
  funext x z
  unfold xE rm_E
  rw [show (xbO (xkT ad C M ab) z q).isSome = rm_has M q z from xbo_is]
  rfl
theorem xk_of {ad : Nat → Nat → Nat} {h0 h : mm_H} {C : cw_C} {M : mw_S} {ab : Nat → Option Nat} {n : Nat} (hC : cw ad h0 C h) (hk : kf_ok ab n) (hn : n ≤ 50) (h4 : n ≤ cN C 4) (h21 : n ≤ cN C 21) (hS : ∀ i, i < n → kS0 ad C M ab i) (hb : ∀ g, g < cN C 1 → bdR ad C M g) (h1 : cN C 1 = kg M) (hg : kg M < 2 ^ 30) (hB : ∀ i, i < n → hBm M i) : xk h (xkT ad C M ab) n := by
  refine ⟨hk, hn, fun i j hi hj e => (hC.2.1 4 i 4 j (by decide) (by decide) (by omega) (by omega) e).2, fun i hi => ?_, fun i hi => ?_, fun i q b hi hq e => ?_⟩
  · obtain ⟨e0, e4, e5, e6, e7, e8, e11, -⟩ := hS i hi
    refine ⟨cI C 4 i 1, cL C 4 i 2, cI C 4 i 3, va_rf (cR C 4 i 9), va_rf (cR C 4 i 10), ?_⟩
    refine (hC.1 4 i (by decide) (by omega)).trans ?_
    show some (4, [Value.long (cL C 4 i 0), .int (cI C 4 i 1), .long (cL C 4 i 2), .int (cI C 4 i 3), .int (cI C 4 i 4), va_rf (cR C 4 i 5), .int (cI C 4 i 6), .int (cI C 4 i 7), .int (cI C 4 i 8), va_rf (cR C 4 i 9), va_rf (cR C 4 i 10), va_rf (cR C 4 i 11)]) = _
    rw [e0, e4, e5, e6, e7, e8, e11]
    rfl
  · have hH := (hS i hi).2.2.2.2.2.2.2
    refine (hC.1 21 i (by decide) (by omega)).trans ?_
    show some (106, [va_rf (cR C 21 i 0), va_rf (cR C 21 i 1), va_rf (cR C 21 i 2), va_rf (cR C 21 i 3), va_rf (cR C 21 i 4), va_rf (cR C 21 i 5)]) = _
    rw [hH.o (by omega) (by decide), hH.o (by omega) (by decide), hH.o (by omega) (by decide), hH.o (by omega) (by decide), hH.o (by omega) (by decide), hH.o (by omega) (by decide)]
    rfl
  · have hh : rm_has M q i = true := by
      have e : xbo ad M i q = some b := e
      rw [← xbo_is (ad := ad), e]; rfl
    obtain ⟨a1, a2, a3, a4, a5, a6, a7, a8⟩ := (hB i hi).g hg hq hh
    have e : xbo ad M i q = some b := e
    unfold xbo at e
    rw [if_pos hh] at e
    cases e
    obtain ⟨b1, b2, b3, b4, b5, b6, b7, b8⟩ := hb (gb M i q) (by omega)
    refine ⟨cI C 1 (gb M i q) 4, va_rf (cR C 1 (gb M i q) 8), ?_⟩
    refine (hC.1 1 (gb M i q) (by decide) (by omega)).trans ?_
    show some (1, [va_rf (cR C 1 (gb M i q) 0), Value.int (cI C 1 (gb M i q) 1), .int (cI C 1 (gb M i q) 2), .int (cI C 1 (gb M i q) 3), .int (cI C 1 (gb M i q) 4), va_rf (cR C 1 (gb M i q) 5), .int (cI C 1 (gb M i q) 6), .long (cL C 1 (gb M i q) 7), va_rf (cR C 1 (gb M i q) 8)]) = _
    rw [b1, b3, b4, b5, b8, a3, a4, ← a5, ← a6, ← a8]
    rfl
/-- what settling the kind k changes -/
def stF (C C1 : cw_C) (M : mw_S) (k : Nat) : Prop := (∀ f, ¬ f = 1 → ¬ f = 4 → C1 f = C f) ∧ (∀ f, cN C1 f = cN C f) ∧ (∀ i j, cI C1 1 i j = cI C 1 i j ∧ cR C1 1 i j = cR C 1 i j) ∧ (∀ g j, ¬ (yK M g = k ∧ j = 7) → cL C1 1 g j = cL C 1 g j) ∧ (∀ i j, ¬ i = k → cI C1 4 i j = cI C 4 i j ∧ cR C1 4 i j = cR C 4 i j) ∧ (∀ i j, cL C1 4 i j = cL C 4 i j) ∧ (∀ j, ¬ (4 ≤ j ∧ j ≤ 8) → cI C1 4 k j = cI C 4 k j ∧ cR C1 4 k j = cR C 4 k j)
theorem stF.refl (C : cw_C) (M : mw_S) (k : Nat) : stF C C M k := ⟨fun _ _ _ => rfl, fun _ => rfl, fun _ _ => ⟨rfl, rfl⟩, fun _ _ _ => rfl, fun _ _ _ => ⟨rfl, rfl⟩, fun _ _ => rfl, fun _ _ => ⟨rfl, rfl⟩⟩
theorem stF.sI {C C1 : cw_C} {M : mw_S} {k j : Nat} {x : Int32} (h : stF C C1 M k) (hj : 4 ≤ j ∧ j ≤ 8) : stF C (cw_sI C1 4 k j x) M k := by
  obtain ⟨a, b, c, d, e, f, g⟩ := h
  exact ⟨fun i h1 h4 => (cw_sI_o h4).trans (a i h1 h4), fun i => cw_sI_N.trans (b i), fun i l => ⟨(cI_sI_n (by omega)).trans (c i l).1, cR_sI.trans (c i l).2⟩, fun i l z => cL_sI.trans (d i l z), fun i l z => ⟨(cI_sI_n (by omega)).trans (e i l z).1, cR_sI.trans (e i l z).2⟩, fun i l => cL_sI.trans (f i l), fun l z => ⟨(cI_sI_n (by omega)).trans (g l z).1, cR_sI.trans (g l z).2⟩⟩
theorem stF.sR {C C1 : cw_C} {M : mw_S} {k : Nat} {x : Option Nat} (h : stF C C1 M k) : stF C (cw_sR C1 4 k 5 x) M k := by
  obtain ⟨a, b, c, d, e, f, g⟩ := h
  exact ⟨fun i h1 h4 => (cw_sR_o h4).trans (a i h1 h4), fun i => cw_sR_N.trans (b i), fun i l => ⟨cI_sR.trans (c i l).1, (cR_sR_n (by omega)).trans (c i l).2⟩, fun i l z => cL_sR.trans (d i l z), fun i l z => ⟨cI_sR.trans (e i l z).1, (cR_sR_n (by omega)).trans (e i l z).2⟩, fun i l => cL_sR.trans (f i l), fun l z => ⟨cI_sR.trans (g l z).1, (cR_sR_n (by omega)).trans (g l z).2⟩⟩
theorem stF.sL {C C1 : cw_C} {M : mw_S} {k v : Nat} {x : Int64} (h : stF C C1 M k) (hv : yK M v = k) : stF C (cw_sL C1 1 v 7 x) M k := by
  obtain ⟨a, b, c, d, e, f, g⟩ := h
  refine ⟨fun i h1 h4 => (cw_sL_o h1).trans (a i h1 h4), fun i => cw_sL_N.trans (b i), fun i l => ⟨cI_sL.trans (c i l).1, cR_sL.trans (c i l).2⟩, fun i l z => (cL_sL_n (fun y => z ⟨by rw [y.2.1]; exact hv, y.2.2⟩)).trans (d i l z), fun i l z => ⟨cI_sL.trans (e i l z).1, cR_sL.trans (e i l z).2⟩, fun i l => (cL_sL_n (by omega)).trans (f i l), fun l z => ⟨cI_sL.trans (g l z).1, cR_sL.trans (g l z).2⟩⟩
theorem kdH.same {ad : Nat → Nat → Nat} {C C1 : cw_C} {M : mw_S} {i : Nat} (h : kdH ad C M i) (e : C1 21 = C 21) (h1 : cN C1 1 = cN C 1) : kdH ad C1 M i := by
  intro q hq
  rw [cR_o e, h1]
  exact h q hq
theorem bdR.st {ad : Nat → Nat → Nat} {C C1 : cw_C} {M : mw_S} {k g : Nat} (h : bdR ad C M g) (y : stF C C1 M k) : bdR ad C1 M g :=
  h.mono (fun j => (y.2.2.1 g j).1) (fun j _ => (y.2.2.1 g j).2) (by rw [y.2.1]; exact Nat.le_refl _) (fun _ _ => rfl) (by rw [y.2.1]; exact Nat.le_refl _) (fun _ _ => rfl) (fun _ _ => rfl)
theorem kS0.st {ad : Nat → Nat → Nat} {C C1 : cw_C} {M : mw_S} {ab : Nat → Option Nat} {k i : Nat} (h : kS0 ad C M ab i) (y : stF C C1 M k) (hi : ¬ i = k) : kS0 ad C1 M ab i := by
  obtain ⟨a0, a4, a5, a6, a7, a8, a11, aH⟩ := h
  obtain ⟨y1, y2, y3, y4, y5, y6, y7⟩ := y
  unfold kS0
  rw [y6, (y5 i 4 hi).1, (y5 i 5 hi).2, (y5 i 6 hi).1, (y5 i 7 hi).1, (y5 i 8 hi).1, (y5 i 11 hi).2]
  exact ⟨a0, a4, a5, a6, a7, a8, a11, aH.same (y1 21 (by decide) (by decide)) (y2 1)⟩
theorem kSt.st {ad : Nat → Nat → Nat} {C C1 : cw_C} {M : mw_S} {ab : Nat → Option Nat} {k i : Nat} (h : kSt ad C M ab i) (y : stF C C1 M k) (hi : ¬ i = k) (hB : hBm M i) (hg : kg M < 2 ^ 30) : kSt ad C1 M ab i := by
  refine ⟨h.1.st y hi, fun q hq hh u hu => ?_⟩
  have e := (hB.g hg hq hh).2.2.1
  rw [y.2.2.2.1 _ 7 (fun z => hi (e.symm.trans z.1))]
  exact h.2 q hq hh u hu

theorem st_loop {G : mm_G} {L : Nat × Nat} {d : Nat} {h0 : mm_H} {ad : Nat → Nat → Nat} {C : cw_C} {M : mw_S} {ab : Nat → Option Nat} {k : Nat} {A : Nat → Prop} (hkf : kf_ok ab (k + 1)) (hk50 : k < 50) (n4 : k < cN C 4) (n21 : k < cN C 21) (hS : ∀ i, i < k → kSt ad C M ab i) (hb : ∀ g, g < cN C 1 → bdR ad C M g) (h1 : cN C 1 = kg M) (hg : kg M < 2 ^ 30) (hB : ∀ i, i < k + 1 → hBm M i) : ∀ (v q : Nat) (C1 : cw_C) (h : mm_H), q + v = 6 → cw ad h0 C1 h → stF C C1 M k → kS0 ad C1 M ab k → (∀ q', q' < q → kSo C1 M ab k q') → mm_Run G mX4_settle A L (d + 2) 42 [(0, .ref (ad 4 k)), (5, .int (nI q))] [] h (fun r h1 => ∃ C2, cw ad h0 C2 h1 ∧ h1.2 = h.2 ∧ r = none ∧ stF C C2 M k ∧ kSt ad C2 M ab k) := by
  intro v
  induction v with
  | zero =>
    intro q C1 h hv hC hF h0k ho
    have m4 : k < cN C1 4 := by rw [hF.2.1]; exact n4
    have m21 : k < cN C1 21 := by rw [hF.2.1]; exact n21
    have m1 : cN C1 1 = kg M := by rw [hF.2.1]; exact h1
    refine mm_iload (pc := 42) dX4_settle_42 rfl ?_
    refine mm_bipush (pc := 44) (v := 6) dX4_settle_44 (by decide) ?_
    refine mm_icmp_ge (pc := 46) (tgt := 81) dX4_settle_46 (by decide) (fun c46 => ?_) (fun c46 => absurd (show (6 : Int32) ≤ nI q by rw [show q = 6 by omega]; decide) c46)
    refine mm_vret (pc := 81) dX4_settle_81 rfl ?_
    exact ⟨C1, hC, rfl, rfl, hF, h0k, fun q' hq' => ho q' (by omega)⟩
  | succ v ih =>
    intro q C1 h hv hC hF h0k ho
    have m4 : k < cN C1 4 := by rw [hF.2.1]; exact n4
    have m21 : k < cN C1 21 := by rw [hF.2.1]; exact n21
    have m1 : cN C1 1 = kg M := by rw [hF.2.1]; exact h1
    refine mm_iload (pc := 42) dX4_settle_42 rfl ?_
    refine mm_bipush (pc := 44) (v := 6) dX4_settle_44 (by decide) ?_
    refine mm_icmp_ge (pc := 46) (tgt := 81) dX4_settle_46 (by decide) (fun c46 => ?_) (fun c46 => ?_)
    · have hq6 : q = 6 := by have := (nI_leI (a := 6) (by decide) (by omega)).mp c46; omega
      refine mm_vret (pc := 81) dX4_settle_81 rfl ?_
      exact ⟨C1, hC, rfl, rfl, hF, h0k, fun q' hq' => ho q' (by omega)⟩
    · have hq6 : q < 6 := Nat.not_le.mp (fun z => c46 (nI_le (a := 6) z (by omega)))
      have ho_ : cR C1 21 k q = xbo ad M k q := h0k.2.2.2.2.2.2.2.o (by omega) hq6
      refine mm_aload_n (pc := 49) dX4_settle_49 rfl (by first | trivial | assumption | exact mm_isr_rf _) ?_
      refine cw_grS (pc := 50) 4 _ 11 hC (rfl) rfl (m4) dX4_settle_50 fl_X4_44 rfl rfl rfl (h0k.2.2.2.2.2.2.1) ?_
      refine mm_iload (pc := 53) dX4_settle_53 rfl ?_
      refine cw_aald (pc := 55) 21 k q hC (rfl) rfl (m21) dX4_settle_55 rfl rfl rfl (by first | with_reducible rfl | assumption | rfl) (hq6) (by omega) rfl (rfl) ?_
      refine mm_ifnull (pc := 56) (tgt := 75) dX4_settle_56 (by decide) (by first | trivial | assumption | exact mm_isr_rf _) (fun c56 => ?_) (fun a56 c56 => ?_)
      · have hnb : rm_has M q k = false := by
          cases z : rm_has M q k with
          | false => rfl
          | true => rw [ho_] at c56; unfold xbo at c56; rw [if_pos z] at c56; cases c56
        refine mm_iinc (pc := 75) dX4_settle_75 rfl rfl rfl (Nat.le_of_ble_eq_true rfl) ?_
        refine mm_goto (pc := 78) (tgt := 42) dX4_settle_78 (by decide) ?_
        exact mm_weakK (ih (q + 1) C1 h (by omega) hC hF h0k (fun q' hq' => by
          by_cases e : q' = q
          · rw [e]; intro z; rw [hnb] at z; cases z
          · exact ho q' (by omega))) (And.intro rfl (And.intro (congrArg (fun z => some (Value.int z)) (nI_add q 1)) trivial))
      · have hnb : rm_has M q k = true := by
          cases z : rm_has M q k with
          | true => rfl
          | false => rw [ho_] at c56; unfold xbo at c56; rw [if_neg (by rw [z]; decide)] at c56; cases c56
        have hx_ : xbo ad M k q = some (ad 1 (gb M k q)) := if_pos hnb
        have hgq := (hB k (Nat.lt_succ_self k)).g hg hq6 hnb
        have hgn : gb M k q < cN C1 1 := by omega
        refine mm_aload_n (pc := 59) dX4_settle_59 rfl (by first | trivial | assumption | exact mm_isr_rf _) ?_
        refine cw_grS (pc := 60) 4 _ 11 hC (rfl) rfl (m4) dX4_settle_60 fl_X4_44 rfl rfl rfl (h0k.2.2.2.2.2.2.1) ?_
        refine mm_iload (pc := 63) dX4_settle_63 rfl ?_
        refine cw_aald (pc := 65) (v := (.ref (ad 1 (gb M k q)))) 21 k q hC (rfl) rfl (m21) dX4_settle_65 rfl rfl rfl (by first | with_reducible rfl | assumption | rfl) (hq6) (by omega) rfl (by rw [ho_, hx_]; rfl) ?_
        have hX : xk h (xkT ad C1 M ab) (k + 1) := xk_of hC hkf (by omega) (by omega) (by omega) (fun i hi => by
          by_cases e : i = k
          · rw [e]; exact h0k
          · exact (hS i (by omega)).1.st hF e) (fun g hg_ => (hb g (by rw [← hF.2.1]; exact hg_)).st hF) (by rw [hF.2.1]; exact h1) hg hB
        have hov : ∀ i, An ab k i → rm_has M q i = true → ∀ u, u < 64 → xb (cL C1 1 (gb M i q) 7) u = ovB ab (rm_E M q) i u := fun i hi hh u hu => by
          have hik := An.lt hkf (Nat.lt_succ_self k) hi
          exact ((hS i hik).st hF (by omega) (hB i (by omega)) hg).2 q hq6 hh u hu
        refine mm_aload_n (pc := 66) dX4_settle_66 rfl (by first | trivial | assumption | exact mm_isr_rf _) ?_
        refine mm_iload (pc := 67) dX4_settle_67 rfl ?_
        refine mm_callV (pc := 69) (As := [_]) (kd := ?kd_69_1) (fs := ?fs_69_1) dX4_settle_69 vl_X4_64 (ok_X4_overriddenOf (T := xkT ad C1 M ab) (n := k + 1) (k := k) (q := q) hX (Nat.lt_succ_self k) hq6 (fun i hi hh u hu => by rw [xkT_E]; exact hov i hi (xbo_is.symm.trans hh) u hu)) ?hc_69_1 ?hk_69_1 rfl rfl (Nat.le_of_ble_eq_true rfl) ?_; (case hc_69_1 => exact cw_cell (f := 4) hC rfl rfl m4); (case hk_69_1 => rfl)
        rintro _ _ ⟨rfl, w_, rfl, hw_⟩
        refine cw_pl (pc := 72) 1 (gb M k q) 7 hC (rfl) rfl (hgn) dX4_settle_72 (pl_X4_68 _) rfl rfl (fun h72 hC e72 => ?_)
        refine mm_iinc (pc := 75) dX4_settle_75 rfl rfl rfl (Nat.le_of_ble_eq_true rfl) ?_
        refine mm_goto (pc := 78) (tgt := 42) dX4_settle_78 (by decide) ?_
        have hw2 : ∀ u, u < 64 → xb w_ u = ovB ab (rm_E M q) k u := fun u hu => by have z := hw_ u hu; rw [xkT_E] at z; exact z
        refine mm_post (fun r_ h_ z_ => ?_) (mm_weakK (ih (q + 1) (cw_sL C1 1 (gb M k q) 7 w_) h72 (by omega) hC (hF.sL hgq.2.2.1) ?_ (fun q' hq' => ?_)) (And.intro rfl (And.intro (congrArg (fun z => some (Value.int z)) (nI_add q 1)) trivial)))
        · obtain ⟨C2, z1, z2, z3⟩ := z_
          exact ⟨C2, z1, by rw [z2]; exact e72, z3⟩
        · obtain ⟨a0, a4, a5, a6, a7, a8, a11, aH⟩ := h0k
          unfold kS0
          rw [cL_sL_n (by omega), cI_sL, cR_sL, cI_sL, cI_sL, cI_sL, cR_sL]
          exact ⟨a0, a4, a5, a6, a7, a8, a11, aH.same (cw_sL_o (by decide)) cw_sL_N⟩
        · by_cases e : q' = q
          · subst e
            intro _ u hu
            rw [cL_sL_e]
            exact hw2 u hu
          · intro hh u hu
            have hg1 := (hB k (Nat.lt_succ_self k)).g hg (show q' < 6 by omega) hh
            rw [cL_sL_n (fun z => e ?_)]
            · exact ho q' (by omega) hh u hu
            · have a := hg1.2.2.2.1
              rw [z.2.1, hgq.2.2.2.1] at a
              exact ((nI_eq (by omega) (by omega)).mp a).symm

