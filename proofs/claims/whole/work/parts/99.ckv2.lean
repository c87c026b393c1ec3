/-! a pack that was read: what stands behind what -/
def ZL (p0 nk kc : Nat) (M : mw_S) : Prop := (∀ i, nk ≤ i → i < kc → p0 ≤ zN M i) ∧ (∀ i j, nk ≤ i → i < j → j < kc → zE M i ≤ zG M j) ∧ ∀ i, nk ≤ i → i < kc → zE M i ≤ kg M
theorem pBs_106 {tb : Nat → Nat} {n k : Nat} : ∀ (f : Nat) (M : mw_S) (t : Nat), ¬ (pBs tb n k f M t).1 = 0 → (pBs tb n k f M t).2.1.2.2.1 106 k = (pBs tb n k f M t).2.1.1 111 := by
  intro f
  induction f with
  | zero => intro M t h; exact absurd rfl h
  | succ f ih =>
    intro M t h
    have ee : pBs tb n k (f + 1) M t = if cd tb n t = 5 then (1, mw_setV (pw tb n M t) 106 k (M.1 111), t + 1) else if (pBody tb n k M t).1 = 0 then pBody tb n k M t else pBs tb n k f (pBody tb n k M t).2.1 (pBody tb n k M t).2.2 := rfl
    rw [ee] at h ⊢
    by_cases c : cd tb n t = 5
    · rw [if_pos c]; exact V_e
    · rw [if_neg c] at h ⊢
      by_cases z : (pBody tb n k M t).1 = 0
      · rw [if_pos z] at h; exact absurd z h
      · rw [if_neg z] at h ⊢; exact ih _ _ h
theorem ZL.kind {tb : Nat → Nat} {n nk a0 g0 p0 k t : Nat} {M : mw_S} (h : ZL p0 nk k M) (hp : p0 ≤ qs tb n t) (hk : (M.1 3 + M.1 35).toNatClampNeg = k) (hnk : nk ≤ k) (hI : pI tb n a0 M t) (hg : gI tb n g0 M t) (hr : ¬ (pKind tb n M t).1 = 0) : ZL p0 nk (k + 1) (pKind tb n M t).2.1 := by
  have hgc := hg.c hI.n7
  have hK : kk k a0 g0 M (pKind tb n M t).2.1 := (kk.refl M).kind hk (Nat.le_refl _) hI hg
  have e := pKind_ok hk (pKind_post hI hr).1
  have hq := qs_le_of (tb := tb) (n := n) (show t ≤ t + 1 by omega)
  have hN := kM6_N (tb := tb) (n := n) (k := k) (t := t) hI.kA_.1 hgc.1
  have hI6 : pI tb n a0 (kM6 tb n k M t) (t + 1 + 1 + 1 + 1 + 1) := hI.k6
  have hg6 : gI tb n g0 (kM6 tb n k M t) (t + 1 + 1 + 1 + 1 + 1) := hg.k6
  have hqn := qs_le (tb := tb) (n := n) (t + 1 + 1 + 1 + 1 + 1)
  have hka := hI6.kA_
  have hkB := kBs (a := ka (kM6 tb n k M t)) (u := 0) (b := 0) (g := kg (kM6 tb n k M t)) (k := k) (M0 := kM6 tb n k M t) (by omega) (n + 1) (kM6 tb n k M t) (t + 1 + 1 + 1 + 1 + 1) hI6 hg6 (by omega) ⟨kb.refl _, Nat.le_refl _, Nat.zero_le _, Nat.zero_le _, Nat.le_refl _⟩
  rw [← e] at hkB
  have hkb := hkB.1.1
  have hkg := (hkB.1.2 hr).2.2.2
  have eg6 : kg (kM6 tb n k M t) = kg M := by unfold kg; rw [kM6_S (by omega)]
  rw [eg6] at hkg
  have e106 : zE (pKind tb n M t).2.1 k = kg (pKind tb n M t).2.1 := by
    have z := pBs_106 (tb := tb) (n := n) (k := k) (n + 1) (kM6 tb n k M t) (t + 1 + 1 + 1 + 1 + 1) (by rw [← e]; exact hr)
    rw [← e] at z
    unfold zE kg
    rw [z]
  have e90 : zN (pKind tb n M t).2.1 k = qs tb n (t + 1) := by
    unfold zN
    rw [hkb.2.2.2 90 k (by unfold kbV; omega), hN.1, nI_clamp (by have := qs_le (tb := tb) (n := n) (t + 1); have := hI.n7; omega)]
  have e105 : zG (pKind tb n M t).2.1 k = kg M := by
    unfold zG
    rw [hkb.2.2.2 105 k (by unfold kbV; omega), hN.2.2.1, nI_clamp (by omega)]
  have old : ∀ i, i < k → zN (pKind tb n M t).2.1 i = zN M i ∧ zG (pKind tb n M t).2.1 i = zG M i ∧ zE (pKind tb n M t).2.1 i = zE M i := fun i hi => by
    unfold zN zG zE
    rw [hK.2.2.2.2 90 i (by unfold kkV; omega), hK.2.2.2.2 105 i (by unfold kkV; omega), hK.2.2.2.2 106 i (by unfold kkV; omega)]
    exact ⟨rfl, rfl, rfl⟩
  refine ⟨fun i h1 h2 => ?_, fun i j h1 h2 h3 => ?_, fun i h1 h2 => ?_⟩
  · by_cases z : i = k
    · rw [z, e90]; omega
    · rw [(old i (by omega)).1]; exact h.1 i h1 (by omega)
  · rw [(old i (by omega)).2.2]
    by_cases z : j = k
    · rw [z, e105]; exact h.2.2 i h1 (by omega)
    · rw [(old j (by omega)).2.1]; exact h.2.1 i j h1 h2 (by omega)
  · by_cases z : i = k
    · rw [z, e106]; exact Nat.le_refl _
    · rw [(old i (by omega)).2.2]; have := h.2.2 i h1 (by omega); omega
theorem pKs_zl {tb : Nat → Nat} {n nk a0 g0 p0 : Nat} (hnk : nk ≤ 40) : ∀ (f : Nat) (M : mw_S) (t nn : Nat), pI tb n a0 M t → gI tb n g0 M t → M.1 3 = nI nk → M.1 35 = nI nn → nn ≤ 10 → n - qs tb n t < f → p0 ≤ qs tb n t → ZL p0 nk (nk + nn) M → ¬ (pKs tb n f M t).1 = 0 → ∃ nn2, (pKs tb n f M t).2.1.1 35 = nI nn2 ∧ nn2 ≤ 10 ∧ ZL p0 nk (nk + nn2) (pKs tb n f M t).2.1 ∧ (∀ j, kbS j → ¬ j = 35 → (pKs tb n f M t).2.1.1 j = M.1 j) ∧ ∀ j, ¬ j = 100 → ¬ j = 103 → (pKs tb n f M t).2.1.2.2.2.1 j = M.2.2.2.1 j := by
  intro f
  induction f with
  | zero => intro M t nn _ _ _ _ _ hf; omega
  | succ f ih =>
    intro M t nn hI hg h3 h35 hnn hf hp hZ hr
    have ee : pKs tb n (f + 1) M t = (if (pKind tb n M t).1 = 0 then pKind tb n M t else if cd tb n (pKind tb n M t).2.2 = 5 then pEnd tb n (pw tb n (pKind tb n M t).2.1 (pKind tb n M t).2.2) ((pKind tb n M t).2.2 + 1) else pKs tb n f (pKind tb n M t).2.1 (pKind tb n M t).2.2) := rfl
    rw [ee] at hr ⊢
    have hk : (M.1 3 + M.1 35).toNatClampNeg = nk + nn := by rw [h3, h35, nI_add, nI_clamp (by omega)]
    by_cases z : (pKind tb n M t).1 = 0
    · rw [if_pos z] at hr; exact absurd z hr
    · rw [if_neg z] at hr ⊢
      obtain ⟨hh, hr1, ⟨g1, g2⟩, hlt⟩ := pKind_post hI z
      obtain ⟨k35, kn10, kgI, kW, kS, -⟩ := pKind_cnt hI hg h3 h35 hnk hnn z
      have q2 := qs_le_of (tb := tb) (n := n) g2
      have q3 := qs_le (tb := tb) (n := n) (pKind tb n M t).2.2
      have Z2 : ZL p0 nk (nk + (nn + 1)) (pKind tb n M t).2.1 := hZ.kind hp hk (by omega) hI hg z
      have W2 : ∀ j, ¬ j = 100 → ¬ j = 103 → (pKind tb n M t).2.1.2.2.2.1 j = M.2.2.2.1 j := fun j a b => by
        have w := congrArg Prod.fst kW
        rw [w]
        funext i
        show mw_u2 (mw_u2 M.2.2.2.1 100 (nk + nn) (spL (wo tb n (t + 1)))) 103 (nk + nn) (spL (wo tb n (t + 1 + 1 + 1))) j i = _
        rw [mw_u2_ne _ _ (by omega), mw_u2_ne _ _ (by omega)]
      by_cases c : cd tb n (pKind tb n M t).2.2 = 5
      · rw [if_pos c] at hr ⊢
        unfold pEnd at hr ⊢
        by_cases e : cd tb n ((pKind tb n M t).2.2 + 1) = 0
        · rw [if_pos e]
          exact ⟨nn + 1, k35, by omega, Z2, fun j hj h35_ => ((kb.refl (a := 0) (u := 0) (b := 0) (g := 0) (k := 0) (pKind tb n M t).2.1).w (tb := tb) (n := n) (t := (pKind tb n M t).2.2)).1 j hj |>.trans (kS j hj h35_), W2⟩
        · rw [if_neg e] at hr; exact absurd rfl hr
      · rw [if_neg c] at hr ⊢
        obtain ⟨n2, a1, a2, a3, a4, a5⟩ := ih _ _ (nn + 1) g1 kgI ((kS 3 (by unfold kbS kpS; omega) (by decide)).trans h3) k35 (by omega) (by omega) (by omega) Z2 hr
        exact ⟨n2, a1, a2, a3, fun j hj h35_ => (a4 j hj h35_).trans (kS j hj h35_), fun j b1 b2 => (a5 j b1 b2).trans (W2 j b1 b2)⟩
/-- the head of a pack that was read -/
theorem pPack_hd {tb : Nat → Nat} {n np : Nat} {M : mw_S} (h19 : M.1 19 = nI np) (hnp : np ≤ 12) (hr : ¬ (pPack tb n M).1 = 0) : ∃ Mp tp, pPack tb n M = pKs tb n (n + 1) (pw tb n Mp tp) (tp + 1) ∧ ((Mp = pM3 tb n M ∧ tp = 2) ∨ (Mp = pM5 tb n np M ∧ tp = 4 ∧ cd tb n 3 = 2)) := by
  have p4 : ∀ (Mp : mw_S) (t : Nat), ¬ (pP4 tb n (pT tb n Mp t 4)).1 = 0 → pP4 tb n (pT tb n Mp t 4) = pKs tb n (n + 1) (pw tb n Mp t) (t + 1) := by
    intro Mp t h
    unfold pT at h ⊢
    by_cases c : cd tb n t = 4
    · rw [if_pos c]; exact if_neg (show ¬ (1 : Int32) = 0 by decide)
    · rw [if_neg c] at h; exact absurd (show (pP4 tb n ((0 : Int32), pf tb n Mp t, t)).1 = 0 from congrArg Prod.fst (if_pos (α := pr_T) rfl)) h
  unfold pPack pP0 at hr ⊢
  by_cases c : cd tb n 0 = 23
  · have e : pT tb n (rm_word M tb n (qs tb n 0)) 0 23 = (1, pM1 tb n M, 1) := by unfold pT; rw [if_pos c]; rfl
    rw [e, if_neg (show ¬ (1 : Int32) = 0 by decide)] at hr ⊢
    change ¬ (pP1 tb n (pM1 tb n M) 1).1 = 0 at hr
    show ∃ Mp tp, pP1 tb n (pM1 tb n M) 1 = _ ∧ _
    by_cases d : cd tb n 1 = 2
    · have e2 : pP1 tb n (pM1 tb n M) 1 = pP2 tb n (pM3 tb n M) 2 := by unfold pP1; rw [if_pos d]; rfl
      rw [e2] at hr ⊢
      by_cases f : cd tb n 2 = 24
      · by_cases g : cd tb n 3 = 2
        · have e19 : ((pw tb n (pM3 tb n M) 2).1 19).toNatClampNeg = np := by rw [show (pw tb n (pM3 tb n M) 2).1 19 = nI np from h19, nI_clamp (by omega)]
          have e3 : pP2 tb n (pM3 tb n M) 2 = pP4 tb n (pT tb n (pM5 tb n np M) 4 4) := by
            unfold pP2
            rw [if_pos f]
            unfold pP3
            rw [if_pos g, e19]
            rfl
          rw [e3] at hr ⊢
          exact ⟨_, _, p4 _ _ hr, Or.inr ⟨rfl, rfl, g⟩⟩
        · have e3 : pP2 tb n (pM3 tb n M) 2 = (0, pf tb n (pw tb n (pM3 tb n M) 2) 3, 3) := by
            unfold pP2
            rw [if_pos f]
            unfold pP3
            rw [if_neg g]
          rw [e3] at hr; exact absurd rfl hr
      · have e3 : pP2 tb n (pM3 tb n M) 2 = pP4 tb n (pT tb n (pM3 tb n M) 2 4) := by unfold pP2; rw [if_neg f]
        rw [e3] at hr ⊢
        exact ⟨_, _, p4 _ _ hr, Or.inl ⟨rfl, rfl⟩⟩
    · have e2 : pP1 tb n (pM1 tb n M) 1 = (0, pf tb n (pM1 tb n M) 1, 1) := by unfold pP1; rw [if_neg d]
      rw [e2] at hr; exact absurd rfl hr
  · have e : pT tb n (rm_word M tb n (qs tb n 0)) 0 23 = (0, pf tb n (rm_word M tb n (qs tb n 0)) 0, 0) := by unfold pT; rw [if_neg c]
    rw [e, if_pos rfl] at hr
    exact absurd rfl hr
