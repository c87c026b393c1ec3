/-! what the reading of actions leaves as it is -/
def kpS (j : Nat) : Prop := ¬ j = 13 ∧ ¬ j = 24 ∧ ¬ j = 26 ∧ ¬ j = 27 ∧ ¬ j = 28 ∧ ¬ j = 29 ∧ ¬ j = 30 ∧ ¬ j = 41 ∧ ¬ j = 47
def kpV (a u : Nat) (tl : Int32) (j i : Nat) : Prop := (j < 14 ∨ (18 < j ∧ j < 42) ∨ (46 < j ∧ j < 80) ∨ 84 < j) ∨ ((14 ≤ j ∧ j ≤ 18 ∨ 80 ≤ j ∧ j ≤ 83) ∧ i < a ∧ ¬ (j = 18 ∧ tl = nI i)) ∨ ((42 ≤ j ∧ j ≤ 46 ∨ j = 84) ∧ i < u)
def kp (a u : Nat) (tl : Int32) (M M' : mw_S) : Prop := (∀ j, kpS j → M'.1 j = M.1 j) ∧ M'.2.1 = M.2.1 ∧ M'.2.2.2 = M.2.2.2 ∧ ∀ j i, kpV a u tl j i → M'.2.2.1 j i = M.2.2.1 j i
def ka (M : mw_S) : Nat := (M.1 13).toNatClampNeg
def ku (M : mw_S) : Nat := (M.1 41).toNatClampNeg
section KP
variable {a u : Nat} {tl : Int32} {M M' M'' : mw_S}
theorem kp.refl (M : mw_S) : kp a u tl M M := ⟨fun _ _ => rfl, rfl, rfl, fun _ _ _ => rfl⟩
theorem kp.trans (h : kp a u tl M M') (h' : kp a u tl M' M'') : kp a u tl M M'' := ⟨fun j hj => (h'.1 j hj).trans (h.1 j hj), h'.2.1.trans h.2.1, h'.2.2.1.trans h.2.2.1, fun j i hk => (h'.2.2.2 j i hk).trans (h.2.2.2 j i hk)⟩
theorem kp.sS {j : Nat} {x : Int32} (h : kp a u tl M M') (hj : ¬ kpS j) : kp a u tl M (mw_setS M' j x) := ⟨fun i hi => (mw_u_ne M'.1 x (fun e : i = j => hj (e ▸ hi))).trans (h.1 i hi), h.2.1, h.2.2.1, h.2.2.2⟩
theorem kp.sV {j i : Nat} {x : Int32} (h : kp a u tl M M') (hj : ¬ kpV a u tl j i) : kp a u tl M (mw_setV M' j i x) := ⟨h.1, h.2.1, h.2.2.1, fun l k hk => (mw_u2_ne _ _ (fun e => hj (by obtain ⟨e1, e2⟩ := e; rw [← e1, ← e2]; exact hk))).trans (h.2.2.2 l k hk)⟩
theorem kp.mono {a' u' : Nat} {tl' : Int32} (h : kp a u tl M M') (hv : ∀ j i, kpV a' u' tl' j i → kpV a u tl j i) : kp a' u' tl' M M' := ⟨h.1, h.2.1, h.2.2.1, fun j i hk => h.2.2.2 j i (hv j i hk)⟩
theorem kpV_A {j i : Nat} (h1 : (Nat.ble 14 j && Nat.ble j 18 || Nat.ble 80 j && Nat.ble j 83) = true) (h2 : a ≤ i) : ¬ kpV a u tl j i := by
  have h3 : (14 ≤ j ∧ j ≤ 18) ∨ (80 ≤ j ∧ j ≤ 83) := by
    rcases Bool.or_eq_true_iff.mp h1 with z | z
    · exact Or.inl ⟨Nat.le_of_ble_eq_true (Bool.and_eq_true_iff.mp z).1, Nat.le_of_ble_eq_true (Bool.and_eq_true_iff.mp z).2⟩
    · exact Or.inr ⟨Nat.le_of_ble_eq_true (Bool.and_eq_true_iff.mp z).1, Nat.le_of_ble_eq_true (Bool.and_eq_true_iff.mp z).2⟩
  rintro (h | h | h)
  · omega
  · omega
  · omega
theorem kpV_U {j i : Nat} (h1 : (Nat.ble 42 j && Nat.ble j 46 || Nat.beq j 84) = true) (h2 : u ≤ i) : ¬ kpV a u tl j i := by
  have h3 : (42 ≤ j ∧ j ≤ 46) ∨ j = 84 := by
    rcases Bool.or_eq_true_iff.mp h1 with z | z
    · exact Or.inl ⟨Nat.le_of_ble_eq_true (Bool.and_eq_true_iff.mp z).1, Nat.le_of_ble_eq_true (Bool.and_eq_true_iff.mp z).2⟩
    · exact Or.inr (Nat.eq_of_beq_eq_true z)
  rintro (h | h | h)
  · omega
  · omega
  · omega
theorem kpV_T {y : Nat} (hy : tl = nI y) : ¬ kpV a u tl 18 y := by
  rintro (h | h | h)
  · omega
  · exact h.2.2 ⟨rfl, hy⟩
  · omega
theorem kp.gh {y deep k q p : Nat} (h : kp a u tl M M') (ha : a ≤ y) : kp a u tl M (rm_gh M' y deep k q p) := (((h.sV (kpV_A rfl ha)).sV (kpV_A rfl ha)).sV (kpV_A rfl ha)).sV (kpV_A rfl ha)
theorem kp.act {y : Nat} {o x : Int32} (h : kp a u tl M M') (ha : a ≤ y) : kp a u tl M (rm_action M' y o x) := (((((h.sV (kpV_A rfl ha)).sV (kpV_A rfl ha)).sV (kpV_A rfl ha)).sV (kpV_A rfl ha)).sV (kpV_A rfl ha)).sS (fun z => z.1 rfl)
theorem kp.use {y : Nat} {k q o c : Int32} (h : kp a u tl M M') (hu : u ≤ ku M') : kp a u tl M (rm_useG M' y k q o c) := ((((((h.sV (kpV_U rfl hu)).sV (kpV_U rfl hu)).sV (kpV_U rfl hu)).sV (kpV_U rfl hu)).sV (kpV_U rfl hu)).sS (fun z => z.2.2.2.2.2.2.2.1 rfl)).sV (kpV_U rfl hu)
theorem kp.w {tb : Nat → Nat} {n t : Nat} (h : kp a u tl M M') : kp a u tl M (pw tb n M' t) := (((h.sS (fun z => z.2.2.1 rfl)).sS (fun z => z.2.2.2.1 rfl)).sS (fun z => z.2.2.2.2.1 rfl)).sS (fun z => z.2.2.2.2.2.1 rfl)
theorem kp.f {tb : Nat → Nat} {n t : Nat} (h : kp a u tl M M') : kp a u tl M (pf tb n M' t) := (h.sS (fun z => z.2.2.2.2.2.2.1 rfl)).sS (fun z => z.2.1 rfl)
/-- read on: what is protected is as it was; if all is well the rows have not shrunk -/
def kG (a u : Nat) (tl : Int32) (M0 : mw_S) (bad : Int32) (r : pr_T) : Prop := kp a u tl M0 r.2.1 ∧ (¬ r.1 = bad → a ≤ ka r.2.1 ∧ u ≤ ku r.2.1)
/-- a state that may be read on from -/
def kI (a u : Nat) (tl : Int32) (M0 M : mw_S) : Prop := kp a u tl M0 M ∧ a ≤ ka M ∧ u ≤ ku M
def tlk (a : Nat) (tl tl' : Int32) : Prop := tl' = -1 ∨ tl' = tl ∨ ∃ y, a ≤ y ∧ y < 4000 ∧ tl' = nI y
def kF (tb : Nat → Nat) (n a0 f a u : Nat) (tl : Int32) (F : pr_F) : Prop := ∀ (M0 M : mw_S) (t deep : Nat) (hd tl' : Int32), pI tb n a0 M t → n - qs tb n t < f → tlk a tl tl' → kI a u tl M0 M → kG a u tl M0 (-2) (F M t deep hd tl')
end KP
section KP2
variable {tb : Nat → Nat} {n a0 t a u : Nat} {tl : Int32} {M0 M : mw_S}
theorem kI.w (h : kI a u tl M0 M) : kI a u tl M0 (pw tb n M t) := ⟨h.1.w, h.2.1, h.2.2⟩
theorem kI.sV {j i : Nat} {x : Int32} (h : kI a u tl M0 M) (hj : ¬ kpV a u tl j i) : kI a u tl M0 (mw_setV M j i x) := ⟨h.1.sV hj, h.2.1, h.2.2⟩
theorem kT (h : kI a u tl M0 M) (c : Nat) : kG a u tl M0 0 (pT tb n M t c) := by
  unfold pT
  by_cases hc : cd tb n t = c
  · rw [if_pos hc]; exact ⟨h.1.w, fun _ => h.2⟩
  · rw [if_neg hc]; exact ⟨h.1.f, fun z => absurd rfl z⟩
theorem kNum {x : Nat} (h : kI a u tl M0 M) (hx : a ≤ x) : kG a u tl M0 0 (pNum tb n M t x) := by
  unfold pNum
  by_cases hc : cd tb n t = 32
  · rw [if_pos hc]; exact ⟨(h.sV (kpV_A rfl hx)).1.w, fun _ => h.2⟩
  · rw [if_neg hc]
    by_cases h3 : cd tb n t = 3
    · rw [if_pos h3]; exact ⟨(h.sV (kpV_A rfl hx)).1.w, fun _ => h.2⟩
    · rw [if_neg h3]; exact ⟨h.1.f, fun z => absurd rfl z⟩
theorem kB {F : pr_F} {f : Nat} (hF : kF tb n a0 f a u tl F) (hI : pI tb n a0 M t) (hf : n - qs tb n t ≤ f) (deep : Nat) (h : kI a u tl M0 M) : kG a u tl M0 (-2) (pB tb n F M t deep) := by
  unfold pB
  by_cases hc : cd tb n t = 4 ∧ deep ≤ 6
  · rw [if_pos hc]
    have := qs_lt (tb := tb) (n := n) (t := t) (by omega)
    exact hF M0 _ _ _ _ _ hI.w (by omega) (Or.inl rfl) h.w
  · rw [if_neg hc]; exact ⟨h.1.f, fun z => absurd rfl z⟩
theorem kG.I {bad : Int32} {r : pr_T} (h : kG a u tl M0 bad r) (hb : ¬ r.1 = bad) : kI a u tl M0 r.2.1 := ⟨h.1, h.2 hb⟩
theorem kO2 {x : Nat} {r : pr_T} (h : kG a u tl M0 (-2) r) (hx : a ≤ x) : kG a u tl M0 0 (pO2 x r) := by
  unfold pO2
  refine ⟨h.1.sV (kpV_A rfl hx), fun z => ?_⟩
  by_cases c : r.1 = -2
  · exact absurd (if_pos c) z
  · exact h.2 c
theorem kO1 {F : pr_F} {f x deep : Nat} {r : pr_T} (hF : kF tb n a0 f a u tl F) (hr : r.1 = 0 ∨ (r.1 = 1 ∧ pG tb n a0 t r)) (hf : n - qs tb n t ≤ f) (h : kG a u tl M0 0 r) (hx : a ≤ x) : kG a u tl M0 0 (pO1 tb n F x deep r) := by
  unfold pO1
  by_cases hc : r.1 = 0
  · rw [if_pos hc]; exact h
  · rw [if_neg hc]
    obtain ⟨-, g1, g2⟩ := hr.resolve_left hc
    have := qs_le_of (tb := tb) (n := n) g2
    exact kO2 (kB hF g1 (by omega) (deep + 1) (h.I hc)) hx
theorem kO {F : pr_F} {f x deep : Nat} (hF : kF tb n a0 f a u tl F) (hI : pI tb n a0 M t) (hf : n - qs tb n t ≤ f) (h : kI a u tl M0 M) (hx : a ≤ x) : kG a u tl M0 0 (pO tb n F M t x deep) := by
  unfold pO
  by_cases h1 : M.2.2.1 14 x = 10
  · rw [if_pos h1]
    exact kO1 hF ((pT_post hI 31).imp (fun z => z.1) (fun z => ⟨z.1, z.2.2.mono (Nat.le_succ t)⟩)) hf (kT h 31) hx
  · rw [if_neg h1]
    by_cases h2 : cd tb n t = 30
    · rw [if_pos h2]
      exact kO1 hF ((pT_post hI 30).imp (fun z => z.1) (fun z => ⟨z.1, z.2.2.mono (Nat.le_succ t)⟩)) hf (kT h 30) hx
    · rw [if_neg h2]
      exact ⟨(h.sV (kpV_A rfl hx)).1, fun _ => h.2⟩
theorem kPt {F : pr_F} {f x deep : Nat} (hR : pRF tb n a0 f F) (hF : kF tb n a0 f a u tl F) (hI : pI tb n a0 M t) (hf : n - qs tb n t ≤ f) (h : kI a u tl M0 M) (hx : a ≤ x) : kG a u tl M0 0 (pPt tb n F M t x deep) := by
  unfold pPt pPt1
  have h2 := kB hF hI hf (deep + 1) h
  by_cases h1 : (pB tb n F M t (deep + 1)).1 = -2
  · rw [if_pos h1]; exact ⟨h2.1.sV (kpV_A rfl hx), fun z => absurd rfl z⟩
  · rw [if_neg h1]
    obtain ⟨g1, g2⟩ := (pB_post hR hI hf (deep + 1)).resolve_left h1
    have := qs_le_of (tb := tb) (n := n) g2
    have := qs_le_of (tb := tb) (n := n) (show t ≤ t + 1 by omega)
    exact kO hF (g1.sV rfl) (by omega) ((h2.I h1).sV (kpV_A rfl hx)) hx
theorem kE {y : Nat} {r : pr_T} (h : kG a u tl M0 0 r) : kG a u tl M0 (-1) (pE y r) := by
  unfold pE
  refine ⟨h.1, fun z => ?_⟩
  by_cases c : r.1 = 0
  · exact absurd (if_pos c) z
  · exact h.2 c
theorem kI.use {y : Nat} {k q o c : Int32} (h : kI a u tl M0 M) (hI : ∃ x, M.1 41 = nI x ∧ x ≤ 700) : kI a u tl M0 (rm_useG M y k q o c) := by
  refine ⟨h.1.use h.2.2, h.2.1, ?_⟩
  obtain ⟨x, h1, h2⟩ := hI
  have h3 := h.2.2
  unfold ku at h3 ⊢
  show u ≤ (nI ((M.1 41).toNatClampNeg + 1)).toNatClampNeg
  have e : (nI x).toNatClampNeg = x := nI_clamp (by omega)
  rw [h1, e] at h3 ⊢
  rw [nI_clamp (by omega)]
  omega
theorem pI.u7 (h : pI tb n a0 M t) : ∃ x, M.1 41 = nI x ∧ x ≤ 700 := by obtain ⟨x, h1, -, -, h2⟩ := h.u; exact ⟨x, h1, h2⟩
theorem kC {k q x : Nat} (hI : pI tb n a0 M t) (h : kI a u tl M0 M) (hx : a ≤ x) : kG a u tl M0 (-1) (pC tb n k q M t x) := by
  unfold pC
  by_cases hc : hkI (cd tb n t) < 0
  · rw [if_pos hc]; exact ⟨(h.sV (kpV_A rfl hx)).1.f, fun z => absurd rfl z⟩
  · rw [if_neg hc]
    exact kE (kT (kI.use ((h.sV (kpV_A rfl hx)).sV (kpV_A rfl hx)) hI.u7).w 6)
theorem kA0 {k q deep : Nat} {o : Int32} (hI : pI tb n a0 M t) (h : kI a u tl M0 M) : kI a u tl M0 (pA0 tb n k q deep t o M) := by
  obtain ⟨y, y1, y2, y3, y4, y5⟩ := hI.a
  have h2 := h.2.1
  have ha : a ≤ (M.1 13).toNatClampNeg := h2
  have base : kI a u tl M0 (rm_gh (rm_action (mw_setS M 47 (M.1 47 + 1)) (M.1 13).toNatClampNeg o 0) (M.1 13).toNatClampNeg deep k q (qs tb n t)) := by
    refine ⟨((h.1.sS (fun z => z.2.2.2.2.2.2.2.2 rfl)).act ha).gh ha, ?_, h.2.2⟩
    show a ≤ (nI ((M.1 13).toNatClampNeg + 1)).toNatClampNeg
    rw [y2, nI_clamp (by omega)]
    omega
  unfold pA0
  by_cases ho : o = 1 ∨ o = 8
  · rw [if_pos ho]
    exact base.use hI.u7
  · rw [if_neg ho]; exact base
theorem kA1 {F : pr_F} {f k q x deep : Nat} {o : Int32} (hR : pRF tb n a0 f F) (hF : kF tb n a0 f a u tl F) (hI : pI tb n a0 M t) (hf : n - qs tb n t ≤ f) (h : kI a u tl M0 M) (hx : a ≤ x) : kG a u tl M0 (-1) (pA1 tb n F k q o M t x deep) := by
  unfold pA1
  by_cases c2 : o = 2
  · rw [if_pos c2]; exact kC hI h hx
  · rw [if_neg c2]
    by_cases c1 : o = 1
    · rw [if_pos c1]; exact kE (kT h 6)
    · rw [if_neg c1]
      by_cases c10 : o = 10
      · rw [if_pos c10]; exact kE (kPt hR hF hI hf h hx)
      · rw [if_neg c10]
        unfold pA2
        have h3 := kNum (tb := tb) (n := n) (t := t) h hx
        by_cases z : (pNum tb n M t x).1 = 0
        · rw [if_pos z]; exact ⟨h3.1, fun z => absurd rfl z⟩
        · rw [if_neg z]
          obtain ⟨-, g1, g2⟩ := (pNum_post hI x).resolve_left z
          have := qs_le_of (tb := tb) (n := n) g2
          have := qs_le_of (tb := tb) (n := n) (show t ≤ t + 1 by omega)
          by_cases c9 : o = 9
          · rw [if_pos c9]; exact kE (kPt hR hF g1 (by omega) (h3.I z) hx)
          · rw [if_neg c9]; exact kE (kT (h3.I z) 6)
theorem kA {F : pr_F} {f k q deep : Nat} (hR : pRF tb n a0 f F) (hF : kF tb n a0 f a u tl F) (hI : pI tb n a0 M t) (hf : n - qs tb n t ≤ f) (h : kI a u tl M0 M) : kG a u tl M0 (-1) (pA tb n F k q M t deep) := by
  unfold pA
  by_cases c0 : opI (cd tb n t) = 0
  · rw [if_pos c0]; exact ⟨h.1.f, fun z => absurd rfl z⟩
  · rw [if_neg c0]
    by_cases c60 : M.1 47 = 60
    · rw [if_pos c60]; exact ⟨h.1.f, fun z => absurd rfl z⟩
    · rw [if_neg c60]
      obtain ⟨h13, h22⟩ := opI_n c0
      have hlt := (qs_lt (tb := tb) (n := n) (t := t) (by omega)).2.1
      exact kA1 hR hF (pA0_S hI h13 h22 c60) (by omega) (kA0 hI h).w h.2.1
theorem kL (k q : Nat) : ∀ f, kF tb n a0 f a u tl (pL tb n k q f) := by
  intro f
  induction f with
  | zero => intro M0 M t deep hd tl' _ hf; omega
  | succ f ih =>
    intro M0 M t deep hd tl' hI hf htl h
    show kG a u tl M0 (-2) (if cd tb n t = 5 then (hd, pw tb n M t, t + 1) else pN (pL tb n k q f) deep hd tl' (pA tb n (pL tb n k q f) k q M t deep))
    by_cases c5 : cd tb n t = 5
    · rw [if_pos c5]
      exact ⟨h.1.w, fun _ => h.2⟩
    · rw [if_neg c5]
      unfold pN
      have h3 := kA (k := k) (q := q) (deep := deep) (pL_post k q f) ih hI (by omega) h
      rcases pA_post (k := k) (q := q) (deep := deep) (pL_post k q f) hI (by omega) with z | ⟨x, z1, z2, z3, z4, z5⟩
      · rw [z, if_neg (by decide)]
        exact ⟨h3.1, fun z => absurd rfl z⟩
      · have h4 := h3.I (by rw [z3]; intro e; exact absurd (show nI x < 0 by rw [e]; decide) (nI_pos (by omega)))
        have hax : a ≤ x := by
          have h5 := h.2.1
          unfold ka at h5
          rw [z1, nI_clamp (by omega)] at h5
          exact h5
        rw [z3, if_pos (nI_pos' (by omega))]
        have := qs_le_of (tb := tb) (n := n) z4.2
        have := qs_le (tb := tb) (n := n) (pA tb n (pL tb n k q f) k q M t deep).2.2
        by_cases ct : tl' < 0
        · rw [if_pos ct]
          exact ih M0 _ _ deep _ _ z4.1 (by omega) (Or.inr (Or.inr ⟨x, hax, z2, rfl⟩)) h4
        · rw [if_neg ct]
          refine ih M0 _ _ deep _ _ (z4.1.sV rfl) (by omega) (Or.inr (Or.inr ⟨x, hax, z2, rfl⟩)) (h4.sV ?_)
          rcases htl with e | e | ⟨y, y1, y2, e⟩
          · rw [e] at ct; exact absurd (by decide) ct
          · subst e
            obtain ⟨y, hy31, rfl⟩ := nI_of ct
            rw [nI_clamp hy31]
            exact kpV_T rfl
          · rw [e, nI_clamp (by omega)]
            exact kpV_A rfl y1
end KP2
