/-! what the reading of a body leaves as it is -/
def kbS (j : Nat) : Prop := kpS j ∧ ¬ j = 31 ∧ ¬ j = 32 ∧ ¬ j = 37 ∧ ¬ j = 111
def kbV (a u b g k j i : Nat) : Prop :=
  (j < 8 ∨ j = 13 ∨ (18 < j ∧ j < 38) ∨ j = 41 ∨ (46 < j ∧ j < 80) ∨ (84 < j ∧ j < 96) ∨ (99 < j ∧ j < 106) ∨ (109 < j ∧ j < 112) ∨ 115 < j) ∨ (j = 106 ∧ ¬ i = k) ∨
  ((8 ≤ j ∧ j ≤ 12 ∨ j = 97) ∧ ¬ (6 * k ≤ i ∧ i < 6 * k + 6)) ∨ ((14 ≤ j ∧ j ≤ 18 ∨ 80 ≤ j ∧ j ≤ 83) ∧ i < a) ∨ ((42 ≤ j ∧ j ≤ 46 ∨ j = 84) ∧ i < u) ∨ ((38 ≤ j ∧ j ≤ 40) ∧ i < b) ∨
  ((j = 96 ∨ j = 98 ∨ j = 99 ∨ j = 107 ∨ j = 108 ∨ j = 109 ∨ j = 112 ∨ j = 113 ∨ j = 114 ∨ j = 115) ∧ i < g)
def kb (a u b g k : Nat) (M M' : mw_S) : Prop := (∀ j, kbS j → M'.1 j = M.1 j) ∧ M'.2.1 = M.2.1 ∧ M'.2.2.2 = M.2.2.2 ∧ ∀ j i, kbV a u b g k j i → M'.2.2.1 j i = M.2.2.1 j i
def kd_ (M : mw_S) : Nat := (M.1 37).toNatClampNeg
def kg (M : mw_S) : Nat := (M.1 111).toNatClampNeg
section KB
variable {tb : Nat → Nat} {n a0 t a u b g k : Nat} {M0 M M' M'' : mw_S}
theorem kb.refl (M : mw_S) : kb a u b g k M M := ⟨fun _ _ => rfl, rfl, rfl, fun _ _ _ => rfl⟩
theorem kb.trans (h : kb a u b g k M M') (h' : kb a u b g k M' M'') : kb a u b g k M M'' := ⟨fun j hj => (h'.1 j hj).trans (h.1 j hj), h'.2.1.trans h.2.1, h'.2.2.1.trans h.2.2.1, fun j i hk => (h'.2.2.2 j i hk).trans (h.2.2.2 j i hk)⟩
theorem kb.sS {j : Nat} {x : Int32} (h : kb a u b g k M M') (hj : ¬ kbS j) : kb a u b g k M (mw_setS M' j x) := ⟨fun i hi => (mw_u_ne M'.1 x (fun e : i = j => hj (e ▸ hi))).trans (h.1 i hi), h.2.1, h.2.2.1, h.2.2.2⟩
theorem kb.sV {j i : Nat} {x : Int32} (h : kb a u b g k M M') (hj : ¬ kbV a u b g k j i) : kb a u b g k M (mw_setV M' j i x) := ⟨h.1, h.2.1, h.2.2.1, fun l z hk => (mw_u2_ne _ _ (fun e => hj (by obtain ⟨e1, e2⟩ := e; rw [← e1, ← e2]; exact hk))).trans (h.2.2.2 l z hk)⟩
theorem kb.w (h : kb a u b g k M M') : kb a u b g k M (pw tb n M' t) := (((h.sS (fun z => z.1.2.2.1 rfl)).sS (fun z => z.1.2.2.2.1 rfl)).sS (fun z => z.1.2.2.2.2.1 rfl)).sS (fun z => z.1.2.2.2.2.2.1 rfl)
theorem kb.f (h : kb a u b g k M M') : kb a u b g k M (pf tb n M' t) := (h.sS (fun z => z.1.2.2.2.2.2.2.1 rfl)).sS (fun z => z.1.2.1 rfl)
theorem kb.flt {f p : Int32} (h : kb a u b g k M M') : kb a u b g k M (rm_faulty M' f p) := ⟨fun j hj => (rm_faulty_1 _ _ _ hj.2.1 hj.2.2.1).trans (h.1 j hj), by rw [rm_faulty_2]; exact h.2.1, by rw [rm_faulty_2]; exact h.2.2.1, fun j i hk => by rw [rm_faulty_2]; exact h.2.2.2 j i hk⟩
theorem kp.toB (h : kp a u (-1) M M') (ha : a ≤ 4000) : kb a u b g k M M' := by
  refine ⟨fun j hj => h.1 j hj.1, h.2.1, h.2.2.1, fun j i hk => h.2.2.2 j i ?_⟩
  have hne : ∀ i, i < 4000 → ¬ (-1 : Int32) = nI i := fun i hi e => absurd (show nI i < 0 by rw [← e]; decide) (nI_pos (by omega))
  unfold kpV
  rcases hk with z | z | z | z | z | z | z
  · left; omega
  · left; omega
  · left; omega
  · exact Or.inr (Or.inl ⟨z.1, z.2, fun e => hne i (by omega) e.2⟩)
  · exact Or.inr (Or.inr z)
  · left; omega
  · left; omega
/-- a state that bodies may be read on from -/
def kbI (a u b g k : Nat) (M0 M : mw_S) : Prop := kb a u b g k M0 M ∧ a ≤ ka M ∧ u ≤ ku M ∧ b ≤ kd_ M ∧ g ≤ kg M
def kbG (a u b g k : Nat) (M0 : mw_S) (r : pr_T) : Prop := kb a u b g k M0 r.2.1 ∧ (¬ r.1 = 0 → a ≤ ka r.2.1 ∧ u ≤ ku r.2.1 ∧ b ≤ kd_ r.2.1 ∧ g ≤ kg r.2.1)
theorem kbI.w (h : kbI a u b g k M0 M) : kbI a u b g k M0 (pw tb n M t) := ⟨h.1.w, h.2⟩
theorem kbG.I {r : pr_T} (h : kbG a u b g k M0 r) (hr : ¬ r.1 = 0) : kbI a u b g k M0 r.2.1 := ⟨h.1, h.2 hr⟩
/-- how many bodies there were -/
def gI (tb : Nat → Nat) (n g0 : Nat) (M : mw_S) (t : Nat) : Prop := g0 ≤ 20000 ∧ ∃ x, M.1 111 = nI x ∧ g0 ≤ x ∧ x ≤ g0 + qs tb n t
theorem gI.c {g0 : Nat} (h : gI tb n g0 M t) (hn : n ≤ 700) : M.1 111 = nI (kg M) ∧ g0 ≤ kg M ∧ kg M ≤ g0 + qs tb n t ∧ kg M < 2 ^ 30 := by
  obtain ⟨h0, x, h1, h2, h3⟩ := h
  have hq := qs_le (tb := tb) (n := n) t
  have e : kg M = x := by unfold kg; rw [h1, nI_clamp (by omega)]
  rw [e]
  exact ⟨h1, h2, h3, by omega⟩
theorem gI.w {g0 : Nat} (h : gI tb n g0 M t) : gI tb n g0 (pw tb n M t) (t + 1) := by
  obtain ⟨h0, x, h1, h2, h3⟩ := h
  have := qs_le_of (tb := tb) (n := n) (show t ≤ t + 1 by omega)
  exact ⟨h0, x, h1, h2, by omega⟩
theorem kbV_n {j i : Nat} (h1 : (Nat.beq j 96 || Nat.beq j 98 || Nat.beq j 99 || Nat.beq j 107 || Nat.beq j 108 || Nat.beq j 109 || Nat.beq j 112 || Nat.beq j 113 || Nat.beq j 114 || Nat.beq j 115) = true) (h2 : g ≤ i) : ¬ kbV a u b g k j i := by
  have h3 : j = 96 ∨ j = 98 ∨ j = 99 ∨ j = 107 ∨ j = 108 ∨ j = 109 ∨ j = 112 ∨ j = 113 ∨ j = 114 ∨ j = 115 := by
    simp only [Bool.or_eq_true, Nat.beq_eq] at h1
    omega
  unfold kbV
  omega
theorem kbV_b {j i : Nat} (h1 : (Nat.ble 38 j && Nat.ble j 40) = true) (h2 : b ≤ i) : ¬ kbV a u b g k j i := by
  have h3 : 38 ≤ j ∧ j ≤ 40 := ⟨Nat.le_of_ble_eq_true (Bool.and_eq_true_iff.mp h1).1, Nat.le_of_ble_eq_true (Bool.and_eq_true_iff.mp h1).2⟩
  unfold kbV
  omega
theorem kbV_h {j i : Nat} (h1 : (Nat.ble 8 j && Nat.ble j 12 || Nat.beq j 97) = true) (h2 : 6 * k ≤ i ∧ i < 6 * k + 6) : ¬ kbV a u b g k j i := by
  have h3 : (8 ≤ j ∧ j ≤ 12) ∨ j = 97 := by
    rcases Bool.or_eq_true_iff.mp h1 with z | z
    · exact Or.inl ⟨Nat.le_of_ble_eq_true (Bool.and_eq_true_iff.mp z).1, Nat.le_of_ble_eq_true (Bool.and_eq_true_iff.mp z).2⟩
    · exact Or.inr (Nat.eq_of_beq_eq_true z)
  unfold kbV
  omega
theorem kB4 {q : Nat} {r l : Int32} {s : Bool} {z : pr_T} {y : Nat} (hq : q < 6) (hy : g ≤ y) (h : kb a u b g k M0 z.2.1) (h2 : ¬ z.1 = -2 → a ≤ ka z.2.1 ∧ u ≤ ku z.2.1 ∧ b ≤ kd_ z.2.1 ∧ g ≤ kg z.2.1) : kbG a u b g k M0 (pBd4 k q y r l s z) := by
  unfold pBd4
  by_cases c : z.1 = -2
  · rw [if_pos c]; exact ⟨h, fun e => absurd rfl e⟩
  · rw [if_neg c]
    have e : ∀ M1 : mw_S, kb a u b g k M0 M1 → kb a u b g k M0 (rm_bge M1 y z.1 r l) := fun M1 h1 => ((((h1.sV (kbV_n rfl hy)).sV (kbV_n rfl hy)).sV (kbV_n rfl hy)).sV (kbV_n rfl hy)).sV (kbV_n rfl hy)
    refine ⟨?_, fun _ => ?_⟩
    · show kb a u b g k M0 (if s = true then _ else _)
      by_cases cs : s = true
      · rw [if_pos cs]; exact e _ h
      · rw [if_neg cs]
        have hr : 6 * k ≤ 6 * k + q ∧ 6 * k + q < 6 * k + 6 := by omega
        exact (e _ (((((h.sV (kbV_h rfl hr)).sV (kbV_h rfl hr)).sV (kbV_h rfl hr)).sV (kbV_h rfl hr)).sV (kbV_h rfl hr))).sV (kbV_h rfl hr)
    · have h3 := h2 c
      show a ≤ ka (if s = true then _ else _) ∧ u ≤ ku (if s = true then _ else _) ∧ b ≤ kd_ (if s = true then _ else _) ∧ g ≤ kg (if s = true then _ else _)
      by_cases cs : s = true
      · rw [if_pos cs]; exact h3
      · rw [if_neg cs]; exact h3
theorem kB3 {g0 : Nat} {q : Nat} {r l : Int32} (hI : pI tb n a0 M t) (hg : gI tb n g0 M t) (ha : a ≤ 4000) (hq : q < 6) (hc : 2 ≤ cd tb n t) (h : kbI a u b g k M0 M) : kbG a u b g k M0 (pBd3 tb n k q r l M t) := by
  obtain ⟨h1, h2, h3, h4, h5⟩ := h
  obtain ⟨g1, g2, g3, g4⟩ := hg.c hI.n7
  have hI3 := pBd3_I (k := k) (q := q) hI hc
  obtain ⟨b_, b1, b2, b3⟩ := hI.bd
  have hn7 := hI.n7
  have hqs := qs_le (tb := tb) (n := n) t
  unfold pBd3
  have e1 : kb a u b g k M0 (if rm_has M q k = true then rm_faulty M 3 (M.1 27) else M) := by
    by_cases z : rm_has M q k = true
    · rw [if_pos z]; exact h1.flt
    · rw [if_neg z]; exact h1
  have hb4 : b ≤ (M.1 37).toNatClampNeg := h4
  have hg5 : g ≤ (M.1 111).toNatClampNeg := h5
  have e2 : kb a u b g k M0 (mw_setS (pw tb n (rm_bgh (rm_bnew (if rm_has M q k = true then rm_faulty M 3 (M.1 27) else M) (M.1 37).toNatClampNeg k q) (M.1 111).toNatClampNeg k q (qs tb n t) (M.1 13).toNatClampNeg (rm_has M q k)) t) 47 0) :=
    (((((((((((e1.sV (kbV_b rfl hb4)).sV (kbV_b rfl hb4)).sV (kbV_b rfl hb4)).sS (fun z => z.2.2.2.1 rfl)).sV (kbV_n rfl hg5)).sV (kbV_n rfl hg5)).sV (kbV_n rfl hg5)).sV (kbV_n rfl hg5)).sV (kbV_n rfl hg5)).sS (fun z => z.2.2.2.2 rfl)).w).sS (fun z => z.1.2.2.2.2.2.2.2.2 rfl)
  have e3 : a ≤ ka (mw_setS (pw tb n (rm_bgh (rm_bnew (if rm_has M q k = true then rm_faulty M 3 (M.1 27) else M) (M.1 37).toNatClampNeg k q) (M.1 111).toNatClampNeg k q (qs tb n t) (M.1 13).toNatClampNeg (rm_has M q k)) t) 47 0) ∧ u ≤ ku (mw_setS (pw tb n (rm_bgh (rm_bnew (if rm_has M q k = true then rm_faulty M 3 (M.1 27) else M) (M.1 37).toNatClampNeg k q) (M.1 111).toNatClampNeg k q (qs tb n t) (M.1 13).toNatClampNeg (rm_has M q k)) t) 47 0) := by
    by_cases z : rm_has M q k = true
    · rw [if_pos z]
      refine ⟨?_, ?_⟩
      · show a ≤ ((rm_faulty M 3 (M.1 27)).1 13).toNatClampNeg
        rw [rm_faulty_1 _ _ _ (by decide) (by decide)]; exact h2
      · show u ≤ ((rm_faulty M 3 (M.1 27)).1 41).toNatClampNeg
        rw [rm_faulty_1 _ _ _ (by decide) (by decide)]; exact h3
    · rw [if_neg z]; exact ⟨h2, h3⟩
  have e4 : (mw_setS (pw tb n (rm_bgh (rm_bnew (if rm_has M q k = true then rm_faulty M 3 (M.1 27) else M) (M.1 37).toNatClampNeg k q) (M.1 111).toNatClampNeg k q (qs tb n t) (M.1 13).toNatClampNeg (rm_has M q k)) t) 47 0).1 37 = nI ((M.1 37).toNatClampNeg + 1) ∧ (mw_setS (pw tb n (rm_bgh (rm_bnew (if rm_has M q k = true then rm_faulty M 3 (M.1 27) else M) (M.1 37).toNatClampNeg k q) (M.1 111).toNatClampNeg k q (qs tb n t) (M.1 13).toNatClampNeg (rm_has M q k)) t) 47 0).1 111 = nI ((M.1 111).toNatClampNeg + 1) := ⟨rfl, rfl⟩
  generalize mw_setS (pw tb n (rm_bgh (rm_bnew (if rm_has M q k = true then rm_faulty M 3 (M.1 27) else M) (M.1 37).toNatClampNeg k q) (M.1 111).toNatClampNeg k q (qs tb n t) (M.1 13).toNatClampNeg (rm_has M q k)) t) 47 0 = M3 at hI3 e2 e3 e4 ⊢
  have hq1 := qs_le (tb := tb) (n := n) (t + 1)
  have key := kB (M0 := M3) (tl := -1) (kL (a := a) (u := u) k q n) hI3 (by omega) 1 ⟨kp.refl M3, e3.1, e3.2⟩
  refine kB4 hq hg5 (e2.trans (key.1.toB ha)) (fun z => ?_)
  obtain ⟨k1, k2⟩ := key.2 z
  refine ⟨k1, k2, ?_, ?_⟩
  · unfold kd_
    rw [key.1.1 37 (by unfold kpS; omega), e4.1, nI_clamp (by omega)]
    omega
  · unfold kg
    rw [key.1.1 111 (by unfold kpS; omega), e4.2, nI_clamp (by unfold kg at g4; omega)]
    omega
theorem kB2 {g0 : Nat} {r l : Int32} (hI : pI tb n a0 M t) (hg : gI tb n g0 M t) (ha : a ≤ 4000) (h : kbI a u b g k M0 M) : kbG a u b g k M0 (pBd2 tb n k r l M t) := by
  unfold pBd2
  by_cases c : hkI (cd tb n t) < 0
  · rw [if_pos c]; exact ⟨h.1.f, fun z => absurd rfl z⟩
  · rw [if_neg c]
    obtain ⟨h7, h12, -⟩ := hkI_n c
    exact kB3 hI hg ha (by omega) (by omega) h
theorem kB1 {g0 : Nat} {r : Int32} (hI : pI tb n a0 M t) (hg : gI tb n g0 M t) (ha : a ≤ 4000) (h : kbI a u b g k M0 M) : kbG a u b g k M0 (pBd1 tb n k r M t) := by
  unfold pBd1
  by_cases c : cd tb n t = 29
  · rw [if_pos c]; exact kB2 hI.w hg.w ha h.w
  · rw [if_neg c]; exact kB2 hI hg ha h
theorem kBody {g0 : Nat} (hI : pI tb n a0 M t) (hg : gI tb n g0 M t) (ha : a ≤ 4000) (h : kbI a u b g k M0 M) : kbG a u b g k M0 (pBody tb n k M t) := by
  unfold pBody
  by_cases c : cd tb n t = 27
  · rw [if_pos c]; exact kB1 hI.w hg.w ha h.w
  · rw [if_neg c]
    by_cases c2 : cd tb n t = 28
    · rw [if_pos c2]; exact kB1 hI.w hg.w ha h.w
    · rw [if_neg c2]; exact kB1 hI hg ha h
end KB
